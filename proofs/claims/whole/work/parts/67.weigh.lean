/-! the reference: weights -/
def mixF (j : Nat) (f g : Nat → Nat) : Nat → Nat := fun i => if i < j then f i else g i
theorem mixF_0 {f g : Nat → Nat} : mixF 0 f g = g := funext fun _ => if_neg (Nat.not_lt_zero _)
theorem mixF_at {j : Nat} {f g : Nat → Nat} : mixF j f g j = g j := if_neg (Nat.lt_irrefl _)
theorem mixF_lt {j : Nat} {f g : Nat → Nat} : mixF (j + 1) f g j = f j := if_pos (Nat.lt_succ_self _)
theorem zrow_congr {b c n : Nat} {f g : Nat → Nat} {X : zI} (h : ∀ i, i < n → f i = g i) : zrow b c f n X = zrow b c g n X := by
  funext b' c' j
  unfold zrow
  by_cases e : b' = b ∧ c' = c ∧ j < n
  · rw [if_pos e, if_pos e, h j e.2.2]
  · rw [if_neg e, if_neg e]
theorem mixF_n {b c n : Nat} {f g : Nat → Nat} {X : zI} : zrow b c (mixF n f g) n X = zrow b c f n X := zrow_congr fun _ h => if_pos h
theorem zrow_mix {b c n j v : Nat} {f g : Nat → Nat} {X : zI} (h : j < n) (hv : f j = v) : up3 (zrow b c (mixF j f g) n X) b c j (nI v) = zrow b c (mixF (j + 1) f g) n X := by
  rw [zrow_set h]
  refine zrow_congr fun i _ => ?_
  unfold mixF
  by_cases e : i = j
  · subst e; rw [if_pos rfl, if_pos (by omega)]; exact hv.symm
  · rw [if_neg e]
    by_cases e2 : i < j
    · rw [if_pos e2, if_pos (by omega)]
    · rw [if_neg e2, if_neg (by omega)]
def gsN (R : RS) (v m1 : Nat) (o : Option Nat) (i : Nat) : Nat := if o = some i then 0 else rfall R (if bitN m1 i then 1 else v) i
theorem gsN_n {R : RS} {v m1 : Nat} {o : Option Nat} {i : Nat} (h : o = some i) : gsN R v m1 o i = 0 := if_pos h
theorem gsN_1 {R : RS} {v m1 : Nat} {o : Option Nat} {i : Nat} (h : o ≠ some i) (h' : bitN m1 i) : gsN R v m1 o i = rfall R 1 i := by unfold gsN; rw [if_neg h, if_pos h']
theorem gsN_v {R : RS} {v m1 : Nat} {o : Option Nat} {i : Nat} (h : o ≠ some i) (h' : ¬ bitN m1 i) : gsN R v m1 o i = rfall R v i := by unfold gsN; rw [if_neg h, if_neg h']
theorem bit0 {i : Nat} : ¬ bitN 0 i := by unfold bitN; simp
theorem gsN_0 {R : RS} {v : Nat} : gsN R v 0 none = rfall R v := funext fun i => gsN_v (fun z => by cases z) bit0
theorem gsN_s {R : RS} {m1 : Nat} : gsN R (R.1 3) m1 none = hflN R m1 0 := funext fun i => by
  unfold gsN hflN
  rw [if_neg (fun z => by cases z), if_neg bit0]
theorem gsN_b {R : RS} {x : Nat} : gsN R (R.1 3) 0 (some x) = hflN R 0 (2 ^ x) := funext fun i => by
  unfold gsN hflN
  have h : bitN (2 ^ x) i ↔ some x = some i := by
    rw [bitN_iff, Nat.testBit_two_pow, decide_eq_true_eq]
    exact ⟨fun z => by rw [z], fun z => Option.some.inj z⟩
  by_cases e : some x = some i
  · rw [if_pos e, if_pos (h.mpr e)]
  · rw [if_neg e, if_neg (fun z => e (h.mp z))]
theorem gsN_le {R : RS} (hR : ROK R) {v m1 : Nat} {o : Option Nat} {i : Nat} (hv : v ≤ 9) (hi : i < R.1 0) : gsN R v m1 o i ≤ 344 := by
  unfold gsN
  split
  · omega
  · split
    · exact rfall_le hR hi (by omega)
    · exact rfall_le hR hi hv
theorem oI_at {o : Option Nat} {i : Nat} (hi : i < 2 ^ 31) (ho : ∀ x, o = some x → x < 2 ^ 31) : nI i = oI o ↔ o = some i := by
  rcases o with _ | x
  · exact ⟨fun h => by have := nI_pos' hi; rw [h] at this; exact absurd this (by decide), fun h => by cases h⟩
  · exact ⟨fun h => by rw [(nI_eq hi (ho x rfl)).mp h], fun h => by cases h; rfl⟩
def mwI (b : Nat) (R : RS) (I : zI) : zI := up3 (up3 (up3 I b 0 38 (nI (signH R 0))) b 0 40 (nI (hwN R))) b 0 41 (nI (alN R))
def mwX (b : Nat) (R : RS) (X : zI) : zI := zrow b 30 (fwN R) (R.1 0) (zrow b 29 (fellN (rfall R (R.1 3))) (R.1 0) X)
theorem fwN_le {R : RS} (hR : ROK R) {i : Nat} (hi : i < R.1 0) : fwN R i ≤ 1000000 ∧ signW R (R.1 1) i * R.2.1 4 i ≤ 100000000 := by
  have h1 := signW_le hR hi (R.1 1)
  have h2 := (hR.2.2.2.2.2.2.1 i hi).2.2.2.2.2
  have h3 : signW R (R.1 1) i * R.2.1 4 i ≤ 1000000 * 100 := Nat.mul_le_mul h1 h2
  refine ⟨?_, by omega⟩
  show signW R (R.1 1) i * R.2.1 4 i / 100 ≤ _
  omega
theorem fsum_le {R : RS} (hR : ROK R) {k : Nat} (hk : k ≤ R.1 0) : sumN (fwN R) k ≤ 14000000 := by
  have h1 : sumN (fwN R) k ≤ k * 1000000 := sumN_le (fun i hi => (fwN_le hR (by omega)).1)
  have h2 : k * 1000000 ≤ 14 * 1000000 := Nat.mul_le_mul_right _ (by have := hR.1; omega)
  omega
theorem hwN_le {R : RS} : hwN R ≤ 1000000 := signH_le _
/-- the memory holds the weights of R -/
def mwF (b : Nat) (R : RS) (I X : zI) : Prop := I b 0 40 = nI (hwN R) ∧ I b 0 41 = nI (alN R) ∧ ∀ i, i < R.1 0 → X b 30 i = nI (fwN R i)
theorem mwF_of {b : Nat} {R : RS} {I X : zI} : mwF b R (mwI b R I) (mwX b R X) := ⟨by unfold mwI; rw [up3_ne (by omega), up3_eq], up3_eq _ _ _ _ _, fun i hi => zrow_get hi⟩
theorem zQm.mw {b : Nat} {R R2 : RS} {I X : zI} (h : zQm b R I X) : zQm b R (mwI b R2 I) (mwX b R2 X) := h.frame (fun j _ _ => by unfold mwI; rw [up3_ne (by omega), up3_ne (by omega), up3_ne (by omega)]) (fun k j _ _ => by unfold mwX; rw [zrow_ne (by omega), zrow_ne (by omega)])

section
variable {ad : zA} {S : zSh} {I X : zI} {Y : zY} {sz b : Nat} {R : RS}

theorem c_X7_secondsOf (hS : ∀ k, S b k = msh b k) (hm : zQm b R I X) (hR : ROK R) {i l : Nat} (hi : i < R.1 0) (hl : l ≤ 3) : zC0 mX7_secondsOf 0 [zr b 0, zi (nI i), zi (nI l)] (some (zi (nI (secN (R.2.1 2 i) l)))) ad S I X Y sz I X Y := by
  refine zgo (own := RX7) (k := 0) (by decide +kernel) rfl rfl rfl (fun C hC hnm hE => ?_)
  have hmo := hm
  have hn14 := hR.1
  have hn8 := hR.2.1
  have hn6 := hR.2.2.1
  have hb := hR.2.2.2.2.2.2.1 i hi
  refine z_aload_n hC dX7_secondsOf_0 rfl ?_
  refine z_getR hC dX7_secondsOf_1 (hS _) zfX7_43 rfl ?_
  refine z_iload_n hC dX7_secondsOf_4 rfl ?_
  refine z_naldN hC dX7_secondsOf_5 (hS _) (by omega) rfl (show _ = nI (R.2.1 2 _) from hm.2.1 2 _ (by decide) (by omega)) ?_
  refine z_iload_n hC dX7_secondsOf_6 rfl ?_
  refine z_iconst hC dX7_secondsOf_7 (v := nI 1) rfl ?_
  refine z_nicmp_ne hC dX7_secondsOf_8 (tgt := 16) (by decide) (by omega) (by omega) (fun c8 => ?_) (fun c8 => ?_)
  · skip
    refine z_iload_n hC dX7_secondsOf_16 rfl ?_
    refine z_iconst hC dX7_secondsOf_17 (v := nI 2) rfl ?_
    refine z_nicmp_ne hC dX7_secondsOf_18 (tgt := 25) (by decide) (by omega) (by omega) (fun c18 => ?_) (fun c18 => ?_)
    · skip
      refine z_iconst hC dX7_secondsOf_25 (v := nI 1) rfl ?_
      refine z_ndiv hC dX7_secondsOf_26 (by omega) (by omega) (by omega) ?_
      refine z_iconst hC dX7_secondsOf_27 (v := nI 1) rfl ?_
      refine z_nadd hC dX7_secondsOf_28  ?_
      refine z_iret hC dX7_secondsOf_29 ?_
      exact hE.to (by simp [secN, *]) rfl rfl rfl
    refine z_iconst hC dX7_secondsOf_21 (v := nI 4) rfl ?_
    refine z_goto hC dX7_secondsOf_22 (tgt := 26) (by decide) ?_
    refine z_ndiv hC dX7_secondsOf_26 (by omega) (by omega) (by omega) ?_
    refine z_iconst hC dX7_secondsOf_27 (v := nI 1) rfl ?_
    refine z_nadd hC dX7_secondsOf_28  ?_
    refine z_iret hC dX7_secondsOf_29 ?_
    exact hE.to (by simp [secN, *]) rfl rfl rfl
  refine z_bipush hC dX7_secondsOf_11 (v := nI 10) rfl ?_
  refine z_goto hC dX7_secondsOf_13 (tgt := 26) (by decide) ?_
  refine z_ndiv hC dX7_secondsOf_26 (by omega) (by omega) (by omega) ?_
  refine z_iconst hC dX7_secondsOf_27 (v := nI 1) rfl ?_
  refine z_nadd hC dX7_secondsOf_28  ?_
  refine z_iret hC dX7_secondsOf_29 ?_
  exact hE.to (by simp [secN, *]) rfl rfl rfl

theorem c_X7_goes (hS : ∀ k, S b k = msh b k) (hm : zQm b R I X) (hR : ROK R) {v m1 : Nat} {o : Option Nat} (hv : v ≤ 9) (hm1 : m1 < 2 ^ 31) (ho : ∀ x, o = some x → x < 14) : zC0 mX7_goes 1 [zr b 0, zi (nI v), zi (nI m1), zi (oI o)] (none) ad S I X Y sz (up3 I b 0 38 (nI (heldN (gsN R v m1 o) (R.1 0)))) (zrow b 29 (fellN (gsN R v m1 o)) (R.1 0) X) Y := by
  refine zgo (own := RX7) (k := 2) (by decide +kernel) rfl rfl rfl (fun C hC hnm hE => ?_)
  have hmo := hm
  have hn14 := hR.1
  have hn8 := hR.2.1
  have hn6 := hR.2.2.1
  refine z_aload_n hC dX7_goes_0 rfl ?_
  refine z_ldcw hC dX7_goes_1 (v := nI 1000000) (zin6 (i := 80) rfl rfl) ?_
  refine z_putI hC dX7_goes_4 (hS _) zfX7_276 rfl rfl rfl rfl ?_
  refine z_iconst hC dX7_goes_7 (v := nI 0) rfl ?_
  refine z_istore hC dX7_goes_8 (lo2 := [_, _, _, _, _, _]) (Nat.le_of_ble_eq_true rfl) rfl rfl ?_
  have loop10 : ∀ (fuel : Nat) (i : Nat), R.1 0 - i < fuel → i ≤ R.1 0 → zL C 6 ad S 0 0 sz (up3 I b 0 38 (nI (heldN (gsN R v m1 o) i))) (zrow b 29 (fellN (gsN R v m1 o)) i X) Y 10 [some (zr b 0), some (zi (nI v)), some (zi (nI m1)), some (zi (oI o)), some (zi (nI i)), none] [] := by
    intro fuel
    induction fuel with
    | zero => intro i hfu; exact absurd hfu (Nat.not_lt_zero _)
    | succ fuel ih =>
      intro i hfu hin
      have hq : zQm b R (up3 I b 0 38 (nI (heldN (gsN R v m1 o) i))) (zrow b 29 (fellN (gsN R v m1 o)) i X) := hm.frame (fun j _ _ => up3_ne (by omega)) (fun k j _ _ => zrow_ne (by omega))
      refine z_iload hC dX7_goes_10 rfl ?_
      refine z_aload_n hC dX7_goes_12 rfl ?_
      refine z_getN hC dX7_goes_13 (hS _) zfX7_94 rfl hq.1.1 ?_
      refine z_nicmp_ge hC dX7_goes_16 (tgt := 94) (by decide) (by omega) (by omega) (fun c16 => ?_) (fun c16 => ?_)
      · skip
        obtain rfl : i = R.1 0 := by omega
        refine z_vret hC dX7_goes_94 ?_
        exact hE.to (by rfl) rfl rfl rfl
      have hi : i < R.1 0 := by omega
      have hgl := gsN_le (m1 := m1) (o := o) hR hv hi
      have hz := zheld2 (h := heldN (gsN R v m1 o) i) (heldN_le _ _) hgl
      have hy := heldN_le (gsN R v m1 o) i
      refine z_iload hC dX7_goes_19 rfl ?_
      refine z_iload_n hC dX7_goes_21 rfl ?_
      refine z_icmp_ne hC dX7_goes_22 (tgt := 29) (by decide) (fun c22 => ?_) (fun c22 => ?_)
      · skip
        have hno : o ≠ some i := fun z => c22 ((oI_at (by omega) (fun x hx => by have := ho x hx; omega)).mpr z)
        refine z_aload_n hC dX7_goes_29 rfl ?_
        refine z_iload hC dX7_goes_30 rfl ?_
        refine z_iload_n hC dX7_goes_32 rfl ?_
        refine z_iload hC dX7_goes_33 rfl ?_
        refine wSv hC dX7_goes_35 zlX7_279 (c_X7_has (by omega) (by omega)) rfl rfl rfl rfl ⟨rfl, rfl⟩ ?_
        refine w_ifb_eq hC dX7_goes_38 (tgt := 45) (by decide) (fun c38 => ?_) (fun c38 => ?_)
        · skip
          have hfl : gsN R v m1 o i = rfall R v i := gsN_v hno c38
          refine z_iload_n hC dX7_goes_45 rfl ?_
          refine wVv hC dX7_goes_46 zlX7_128 (c_X7_fallOf hS hq hR hi (by omega)) (hS _) rfl rfl rfl rfl rfl rfl ⟨rfl, rfl⟩ ?_
          refine z_st (st2 := [zi (nI (gsN R v m1 o i))]) (by rw [hfl]) ?_
          refine z_istore hC dX7_goes_49 (lo2 := [_, _, _, _, _, _]) (Nat.le_of_ble_eq_true rfl) rfl rfl ?_
          refine z_aload_n hC dX7_goes_51 rfl ?_
          refine z_getR hC dX7_goes_52 (hS _) zfX7_83 rfl ?_
          refine z_iload hC dX7_goes_55 rfl ?_
          refine z_aload_n hC dX7_goes_57 rfl ?_
          refine z_getN hC dX7_goes_58 (hS _) zfX7_276 rfl (up3_eq _ _ _ _ _) ?_
          refine z_n2m hC dX7_goes_61 (by omega) ?_
          refine z_iload hC dX7_goes_62 rfl ?_
          refine z_n2m hC dX7_goes_64 (by omega) ?_
          refine z_mmul hC dX7_goes_65  ?_
          refine z_ldc2 hC dX7_goes_66 (v := lN 1000) (zin5 (i := 169) rfl rfl) ?_
          refine z_mdiv hC dX7_goes_69 (by omega) (by omega) (by omega) ?_
          refine z_m2n hC dX7_goes_70  ?_
          refine z_niast hC dX7_goes_71 (hS _) (by omega) rfl ?_
          refine z_X (X2 := zrow b 29 (fellN (gsN R v m1 o)) (i + 1) X) zrow_s ?_
          refine z_aload_n hC dX7_goes_72 rfl ?_
          refine z_dup hC dX7_goes_73 rfl ?_
          refine z_getN hC dX7_goes_74 (hS _) zfX7_276 rfl (up3_eq _ _ _ _ _) ?_
          refine z_aload_n hC dX7_goes_77 rfl ?_
          refine z_getR hC dX7_goes_78 (hS _) zfX7_83 rfl ?_
          refine z_iload hC dX7_goes_81 rfl ?_
          refine z_naldN hC dX7_goes_83 (hS _) (by omega) rfl (zrow_get (f := fellN (gsN R v m1 o)) (Nat.lt_succ_self i)) ?_
          refine z_nsub hC dX7_goes_84 (by show _ / 1000 ≤ _; omega) ?_
          refine z_putI hC dX7_goes_85 (hS _) zfX7_276 rfl rfl rfl rfl ?_
          refine z_I (I2 := up3 I b 0 38 (nI (heldN (gsN R v m1 o) (i + 1)))) up3_same ?_
          refine z_ninc hC dX7_goes_88 (lo2 := [_, _, _, _, _, _]) rfl rfl rfl rfl ?_
          refine z_goto hC dX7_goes_91 (tgt := 10) (by decide) ?_
          exact z_sub (by simp [zsub]) (ih (i + 1) (by omega) (by omega))
        have hfl : gsN R v m1 o i = rfall R 1 i := gsN_1 hno c38
        refine z_iconst hC dX7_goes_41 (v := nI 1) rfl ?_
        refine z_goto hC dX7_goes_42 (tgt := 46) (by decide) ?_
        refine wVv hC dX7_goes_46 zlX7_128 (c_X7_fallOf hS hq hR hi (by omega)) (hS _) rfl rfl rfl rfl rfl rfl ⟨rfl, rfl⟩ ?_
        refine z_st (st2 := [zi (nI (gsN R v m1 o i))]) (by rw [hfl]) ?_
        refine z_istore hC dX7_goes_49 (lo2 := [_, _, _, _, _, _]) (Nat.le_of_ble_eq_true rfl) rfl rfl ?_
        refine z_aload_n hC dX7_goes_51 rfl ?_
        refine z_getR hC dX7_goes_52 (hS _) zfX7_83 rfl ?_
        refine z_iload hC dX7_goes_55 rfl ?_
        refine z_aload_n hC dX7_goes_57 rfl ?_
        refine z_getN hC dX7_goes_58 (hS _) zfX7_276 rfl (up3_eq _ _ _ _ _) ?_
        refine z_n2m hC dX7_goes_61 (by omega) ?_
        refine z_iload hC dX7_goes_62 rfl ?_
        refine z_n2m hC dX7_goes_64 (by omega) ?_
        refine z_mmul hC dX7_goes_65  ?_
        refine z_ldc2 hC dX7_goes_66 (v := lN 1000) (zin5 (i := 169) rfl rfl) ?_
        refine z_mdiv hC dX7_goes_69 (by omega) (by omega) (by omega) ?_
        refine z_m2n hC dX7_goes_70  ?_
        refine z_niast hC dX7_goes_71 (hS _) (by omega) rfl ?_
        refine z_X (X2 := zrow b 29 (fellN (gsN R v m1 o)) (i + 1) X) zrow_s ?_
        refine z_aload_n hC dX7_goes_72 rfl ?_
        refine z_dup hC dX7_goes_73 rfl ?_
        refine z_getN hC dX7_goes_74 (hS _) zfX7_276 rfl (up3_eq _ _ _ _ _) ?_
        refine z_aload_n hC dX7_goes_77 rfl ?_
        refine z_getR hC dX7_goes_78 (hS _) zfX7_83 rfl ?_
        refine z_iload hC dX7_goes_81 rfl ?_
        refine z_naldN hC dX7_goes_83 (hS _) (by omega) rfl (zrow_get (f := fellN (gsN R v m1 o)) (Nat.lt_succ_self i)) ?_
        refine z_nsub hC dX7_goes_84 (by show _ / 1000 ≤ _; omega) ?_
        refine z_putI hC dX7_goes_85 (hS _) zfX7_276 rfl rfl rfl rfl ?_
        refine z_I (I2 := up3 I b 0 38 (nI (heldN (gsN R v m1 o) (i + 1)))) up3_same ?_
        refine z_ninc hC dX7_goes_88 (lo2 := [_, _, _, _, _, _]) rfl rfl rfl rfl ?_
        refine z_goto hC dX7_goes_91 (tgt := 10) (by decide) ?_
        exact z_sub (by simp [zsub]) (ih (i + 1) (by omega) (by omega))
      have hfl : gsN R v m1 o i = 0 := gsN_n ((oI_at (by omega) (fun x hx => by have := ho x hx; omega)).mp c22)
      refine z_iconst hC dX7_goes_25 (v := nI 0) rfl ?_
      refine z_goto hC dX7_goes_26 (tgt := 49) (by decide) ?_
      refine z_st (st2 := [zi (nI (gsN R v m1 o i))]) (by rw [hfl]) ?_
      refine z_istore hC dX7_goes_49 (lo2 := [_, _, _, _, _, _]) (Nat.le_of_ble_eq_true rfl) rfl rfl ?_
      refine z_aload_n hC dX7_goes_51 rfl ?_
      refine z_getR hC dX7_goes_52 (hS _) zfX7_83 rfl ?_
      refine z_iload hC dX7_goes_55 rfl ?_
      refine z_aload_n hC dX7_goes_57 rfl ?_
      refine z_getN hC dX7_goes_58 (hS _) zfX7_276 rfl (up3_eq _ _ _ _ _) ?_
      refine z_n2m hC dX7_goes_61 (by omega) ?_
      refine z_iload hC dX7_goes_62 rfl ?_
      refine z_n2m hC dX7_goes_64 (by omega) ?_
      refine z_mmul hC dX7_goes_65  ?_
      refine z_ldc2 hC dX7_goes_66 (v := lN 1000) (zin5 (i := 169) rfl rfl) ?_
      refine z_mdiv hC dX7_goes_69 (by omega) (by omega) (by omega) ?_
      refine z_m2n hC dX7_goes_70  ?_
      refine z_niast hC dX7_goes_71 (hS _) (by omega) rfl ?_
      refine z_X (X2 := zrow b 29 (fellN (gsN R v m1 o)) (i + 1) X) zrow_s ?_
      refine z_aload_n hC dX7_goes_72 rfl ?_
      refine z_dup hC dX7_goes_73 rfl ?_
      refine z_getN hC dX7_goes_74 (hS _) zfX7_276 rfl (up3_eq _ _ _ _ _) ?_
      refine z_aload_n hC dX7_goes_77 rfl ?_
      refine z_getR hC dX7_goes_78 (hS _) zfX7_83 rfl ?_
      refine z_iload hC dX7_goes_81 rfl ?_
      refine z_naldN hC dX7_goes_83 (hS _) (by omega) rfl (zrow_get (f := fellN (gsN R v m1 o)) (Nat.lt_succ_self i)) ?_
      refine z_nsub hC dX7_goes_84 (by show _ / 1000 ≤ _; omega) ?_
      refine z_putI hC dX7_goes_85 (hS _) zfX7_276 rfl rfl rfl rfl ?_
      refine z_I (I2 := up3 I b 0 38 (nI (heldN (gsN R v m1 o) (i + 1)))) up3_same ?_
      refine z_ninc hC dX7_goes_88 (lo2 := [_, _, _, _, _, _]) rfl rfl rfl rfl ?_
      refine z_goto hC dX7_goes_91 (tgt := 10) (by decide) ?_
      exact z_sub (by simp [zsub]) (ih (i + 1) (by omega) (by omega))
  refine z_I (I2 := up3 I b 0 38 (nI (heldN (gsN R v m1 o) 0))) rfl ?_
  refine z_X (X2 := zrow b 29 (fellN (gsN R v m1 o)) 0 X) zrow_0.symm ?_
  exact z_sub (by simp [zsub]) (loop10 _ 0 (Nat.lt_succ_self _) (Nat.zero_le _))

theorem c_X7_goes0 (hS : ∀ k, S b k = msh b k) (hm : zQm b R I X) (hR : ROK R) {v : Nat} (hv : v ≤ 9) : zC0 mX7_goes 1 [zr b 0, zi (nI v), zi (nI 0), zi (-1)] none ad S I X Y sz (up3 I b 0 38 (nI (heldN (rfall R v) (R.1 0)))) (zrow b 29 (fellN (rfall R v)) (R.1 0) X) Y := by
  have h := c_X7_goes (ad := ad) (Y := Y) (sz := sz) hS hm hR (v := v) (m1 := 0) (o := none) hv (by decide) (fun x hx => by cases hx)
  rw [gsN_0] at h
  exact h
theorem c_X7_heldBy (hS : ∀ k, S b k = msh b k) (hm : zQm b R I X) (hR : ROK R) {v : Nat} (hv : v ≤ 9) : zC0 mX7_heldBy 2 [zr b 0, zi (nI v)] (some (zi (nI (heldN (rfall R v) (R.1 0))))) ad S I X Y sz (up3 I b 0 38 (nI (heldN (rfall R v) (R.1 0)))) (zrow b 29 (fellN (rfall R v)) (R.1 0) X) Y := by
  refine zgo (own := RX7) (k := 0) (by decide +kernel) rfl rfl rfl (fun C hC hnm hE => ?_)
  have hmo := hm
  have hn14 := hR.1
  have hn8 := hR.2.1
  have hn6 := hR.2.2.1
  refine z_aload_n hC dX7_heldBy_0 rfl ?_
  refine z_iload_n hC dX7_heldBy_1 rfl ?_
  refine z_iconst hC dX7_heldBy_2 (v := nI 0) rfl ?_
  refine z_iconst hC dX7_heldBy_3 (v := -1) rfl ?_
  refine wV0 hC dX7_heldBy_4 zlX7_282 (c_X7_goes0 hS hm hR hv) (hS _) rfl rfl rfl rfl rfl rfl ⟨rfl, rfl⟩ ?_
  refine z_aload_n hC dX7_heldBy_7 rfl ?_
  refine z_getN hC dX7_heldBy_8 (hS _) zfX7_276 rfl (up3_eq _ _ _ _ _) ?_
  refine z_iret hC dX7_heldBy_11 ?_
  exact hE.to (by rfl) rfl rfl rfl

theorem c_X7_weigh (hS : ∀ k, S b k = msh b k) (hm : zQm b R I X) (hR : ROK R)  : zC0 mX7_weigh 2 [zr b 0] (none) ad S I X Y sz (mwI b R I) (mwX b R X) Y := by
  refine zgo (own := RX7) (k := 3) (by decide +kernel) rfl rfl rfl (fun C hC hnm hE => ?_)
  have hmo := hm
  have hn14 := hR.1
  have hn8 := hR.2.1
  have hn6 := hR.2.2.1
  refine z_aload_n hC dX7_weigh_0 rfl ?_
  refine z_aload_n hC dX7_weigh_1 rfl ?_
  refine z_getN hC dX7_weigh_2 (hS _) zfX7_70 rfl hm.1.2.2.2.1 ?_
  refine z_iconst hC dX7_weigh_5 (v := nI 0) rfl ?_
  refine z_iconst hC dX7_weigh_6 (v := -1) rfl ?_
  refine wV0 hC dX7_weigh_7 zlX7_282 (c_X7_goes0 hS hm hR hR.2.2.2.1.2) (hS _) rfl rfl rfl rfl rfl rfl ⟨rfl, rfl⟩ ?_
  refine z_I (I2 := (up3 I b 0 38 (nI (signH R 0)))) rfl ?_
  refine z_aload_n hC dX7_weigh_10 rfl ?_
  refine z_aload_n hC dX7_weigh_11 rfl ?_
  refine z_getN hC dX7_weigh_12 (hS _) zfX7_276 rfl (up3_eq _ _ _ _ _) ?_
  refine z_putI hC dX7_weigh_15 (hS _) zfX7_285 rfl rfl rfl rfl ?_
  refine z_I (I2 := (up3 (up3 I b 0 38 (nI (signH R 0))) b 0 40 (nI (signH R 0)))) rfl ?_
  refine z_iconst hC dX7_weigh_18 (v := nI 0) rfl ?_
  refine z_istore_n hC dX7_weigh_19 (lo2 := [_, _, _, _]) (Nat.le_of_ble_eq_true rfl) rfl rfl ?_
  have loop20 : ∀ (fuel : Nat) (i : Nat), R.1 0 - i < fuel → i ≤ R.1 0 → zL C 4 ad S 0 0 sz (up3 (up3 I b 0 38 (nI (signH R 0))) b 0 40 (nI (signH R 0))) (zrow b 30 (signW R 0) i (zrow b 29 (fellN (rfall R (R.1 3))) (R.1 0) X)) Y 20 [some (zr b 0), some (zi (nI i)), none, none] [] := by
    intro fuel
    induction fuel with
    | zero => intro i hfu; exact absurd hfu (Nat.not_lt_zero _)
    | succ fuel ih =>
      intro i hfu hin
      have hq : zQm b R (up3 (up3 I b 0 38 (nI (signH R 0))) b 0 40 (nI (signH R 0))) (zrow b 30 (signW R 0) i (zrow b 29 (fellN (rfall R (R.1 3))) (R.1 0) X)) := hmo.frame (fun j _ _ => by rw [up3_ne (by omega), up3_ne (by omega)]) (fun k j _ _ => by rw [zrow_ne (by omega), zrow_ne (by omega)])
      refine z_iload_n hC dX7_weigh_20 rfl ?_
      refine z_aload_n hC dX7_weigh_21 rfl ?_
      refine z_getN hC dX7_weigh_22 (hS _) zfX7_94 rfl hq.1.1 ?_
      refine z_nicmp_ge hC dX7_weigh_25 (tgt := 46) (by decide) (by omega) (by omega) (fun c25 => ?_) (fun c25 => ?_)
      · skip
        obtain rfl : i = R.1 0 := by omega
        refine z_iconst hC dX7_weigh_46 (v := nI 0) rfl ?_
        refine z_istore_n hC dX7_weigh_47 (lo2 := [_, _, _, _]) (Nat.le_of_ble_eq_true rfl) rfl rfl ?_
        have loop48 : ∀ (fuel : Nat) (s : Nat), R.1 1 - s < fuel → s ≤ R.1 1 → zL C 4 ad S 0 0 sz (up3 (up3 I b 0 38 (nI (signH R 0))) b 0 40 (nI (signH R s))) (zrow b 30 (signW R s) (R.1 0) (zrow b 29 (fellN (rfall R (R.1 3))) (R.1 0) X)) Y 48 [some (zr b 0), some (zi (nI s)), none, none] [] := by
          intro fuel
          induction fuel with
          | zero => intro s hfu; exact absurd hfu (Nat.not_lt_zero _)
          | succ fuel ih =>
            intro s hfu hsn
            have hq2 : zQm b R (up3 (up3 I b 0 38 (nI (signH R 0))) b 0 40 (nI (signH R s))) (zrow b 30 (signW R s) (R.1 0) (zrow b 29 (fellN (rfall R (R.1 3))) (R.1 0) X)) := hmo.frame (fun j _ _ => by rw [up3_ne (by omega), up3_ne (by omega)]) (fun k j _ _ => by rw [zrow_ne (by omega), zrow_ne (by omega)])
            refine z_iload_n hC dX7_weigh_48 rfl ?_
            refine z_aload_n hC dX7_weigh_49 rfl ?_
            refine z_getN hC dX7_weigh_50 (hS _) zfX7_150 rfl hq2.1.2.1 ?_
            refine z_nicmp_ge hC dX7_weigh_53 (tgt := 196) (by decide) (by omega) (by omega) (fun c53 => ?_) (fun c53 => ?_)
            · skip
              obtain rfl : s = R.1 1 := by omega
              refine z_aload_n hC dX7_weigh_196 rfl ?_
              refine z_aload_n hC dX7_weigh_197 rfl ?_
              refine z_getN hC dX7_weigh_198 (hS _) zfX7_285 rfl (up3_eq _ _ _ _ _) ?_
              refine z_putI hC dX7_weigh_201 (hS _) zfX7_291 rfl rfl rfl rfl ?_
              refine z_iconst hC dX7_weigh_204 (v := nI 0) rfl ?_
              refine z_istore_n hC dX7_weigh_205 (lo2 := [_, _, _, _]) (Nat.le_of_ble_eq_true rfl) rfl rfl ?_
              have loop206 : ∀ (fuel : Nat) (j : Nat), R.1 0 - j < fuel → j ≤ R.1 0 → zL C 4 ad S 0 0 sz (up3 (up3 (up3 I b 0 38 (nI (signH R 0))) b 0 40 (nI (signH R (R.1 1)))) b 0 41 (nI (sumN (fwN R) j + hwN R))) (zrow b 30 (mixF j (fwN R) (signW R (R.1 1))) (R.1 0) (zrow b 29 (fellN (rfall R (R.1 3))) (R.1 0) X)) Y 206 [some (zr b 0), some (zi (nI j)), none, none] [] := by
                intro fuel3
                induction fuel3 with
                | zero => intro j hfu; exact absurd hfu (Nat.not_lt_zero _)
                | succ fuel3 ih3 =>
                  intro j hfu hjn
                  have hq4 : zQm b R (up3 (up3 (up3 I b 0 38 (nI (signH R 0))) b 0 40 (nI (signH R (R.1 1)))) b 0 41 (nI (sumN (fwN R) j + hwN R))) (zrow b 30 (mixF j (fwN R) (signW R (R.1 1))) (R.1 0) (zrow b 29 (fellN (rfall R (R.1 3))) (R.1 0) X)) := hmo.frame (fun j _ _ => by rw [up3_ne (by omega), up3_ne (by omega), up3_ne (by omega)]) (fun k j _ _ => by rw [zrow_ne (by omega), zrow_ne (by omega)])
                  refine z_iload_n hC dX7_weigh_206 rfl ?_
                  refine z_aload_n hC dX7_weigh_207 rfl ?_
                  refine z_getN hC dX7_weigh_208 (hS _) zfX7_94 rfl hq4.1.1 ?_
                  refine z_nicmp_ge hC dX7_weigh_211 (tgt := 256) (by decide) (by omega) (by omega) (fun c211 => ?_) (fun c211 => ?_)
                  · skip
                    obtain rfl : j = R.1 0 := by omega
                    refine z_vret hC dX7_weigh_256 ?_
                    refine hE.to rfl rfl ?_ rfl
                    exact mixF_n.symm
                  have hj : j < R.1 0 := by omega
                  have hfl := fwN_le hR hj
                  have hswl := signW_le hR hj (R.1 1)
                  have hml := (hR.2.2.2.2.2.2.1 j hj).2.2.2.2.2
                  refine z_aload_n hC dX7_weigh_214 rfl ?_
                  refine z_getR hC dX7_weigh_215 (hS _) zfX7_86 rfl ?_
                  refine z_iload_n hC dX7_weigh_218 rfl ?_
                  refine z_aload_n hC dX7_weigh_219 rfl ?_
                  refine z_getR hC dX7_weigh_220 (hS _) zfX7_86 rfl ?_
                  refine z_iload_n hC dX7_weigh_223 rfl ?_
                  refine z_naldN hC dX7_weigh_224 (hS _) (by omega) rfl (by rw [zrow_get (by omega), mixF_at]) ?_
                  refine z_aload_n hC dX7_weigh_225 rfl ?_
                  refine z_getR hC dX7_weigh_226 (hS _) zfX7_49 rfl ?_
                  refine z_iload_n hC dX7_weigh_229 rfl ?_
                  refine z_naldN hC dX7_weigh_230 (hS _) (by omega) rfl (show _ = nI (R.2.1 4 _) from hq4.2.1 4 _ (by decide) (by omega)) ?_
                  refine wSv hC dX7_weigh_231 zlX7_288 (c_X7_part (by omega) (by omega)) rfl rfl rfl rfl ⟨rfl, rfl⟩ ?_
                  refine z_niast hC dX7_weigh_234 (hS _) (by omega) rfl ?_
                  refine z_X (X2 := zrow b 30 (mixF (j + 1) (fwN R) (signW R (R.1 1))) (R.1 0) (zrow b 29 (fellN (rfall R (R.1 3))) (R.1 0) X)) (zrow_mix (by omega) rfl) ?_
                  refine z_aload_n hC dX7_weigh_235 rfl ?_
                  refine z_dup hC dX7_weigh_236 rfl ?_
                  refine z_getN hC dX7_weigh_237 (hS _) zfX7_291 rfl (up3_eq _ _ _ _ _) ?_
                  refine z_aload_n hC dX7_weigh_240 rfl ?_
                  refine z_getR hC dX7_weigh_241 (hS _) zfX7_86 rfl ?_
                  refine z_iload_n hC dX7_weigh_244 rfl ?_
                  refine z_naldN hC dX7_weigh_245 (hS _) (by omega) rfl (by rw [zrow_get (by omega), mixF_lt]) ?_
                  refine z_nadd hC dX7_weigh_246  ?_
                  refine z_putI hC dX7_weigh_247 (hS _) zfX7_291 rfl rfl rfl rfl ?_
                  refine z_I (I2 := up3 (up3 (up3 I b 0 38 (nI (signH R 0))) b 0 40 (nI (signH R (R.1 1)))) b 0 41 (nI (sumN (fwN R) (j + 1) + hwN R))) (by rw [up3_same, show sumN (fwN R) (j + 1) + hwN R = sumN (fwN R) j + hwN R + fwN R j from Nat.add_right_comm _ _ _]) ?_
                  refine z_ninc hC dX7_weigh_250 (lo2 := [_, _, _, _]) rfl rfl rfl rfl ?_
                  refine z_goto hC dX7_weigh_253 (tgt := 206) (by decide) ?_
                  exact z_sub (by simp [zsub]) (ih3 (j + 1) (by omega) (by omega))
              refine z_X (X2 := zrow b 30 (mixF 0 (fwN R) (signW R (R.1 1))) (R.1 0) (zrow b 29 (fellN (rfall R (R.1 3))) (R.1 0) X)) (by rw [mixF_0]) (z_I (I2 := up3 (up3 (up3 I b 0 38 (nI (signH R 0))) b 0 40 (nI (signH R (R.1 1)))) b 0 41 (nI (sumN (fwN R) 0 + hwN R))) (by rw [show sumN (fwN R) 0 + hwN R = signH R (R.1 1) from Nat.zero_add _]) ?_)
              exact z_sub (by simp [zsub]) (loop206 _ 0 (Nat.lt_succ_self _) (Nat.zero_le _))
            have hs : s < R.1 1 := by omega
            have hsb := hR.2.2.2.2.2.2.2.1 s hs
            have hshl := signH_le (R := R) s
            refine z_iconst hC dX7_weigh_56 (v := nI 0) rfl ?_
            refine z_istore_n hC dX7_weigh_57 (lo2 := [_, _, _, _]) (Nat.le_of_ble_eq_true rfl) rfl rfl ?_
            have loop58 : ∀ (fuel : Nat) (j : Nat), R.1 0 - j < fuel → j ≤ R.1 0 → zL C 4 ad S 0 0 sz (up3 (up3 I b 0 38 (nI (signH R 0))) b 0 40 (nI (signH R s))) (zrow b 30 (mixF j (signW R (s + 1)) (signW R s)) (R.1 0) (zrow b 29 (fellN (rfall R (R.1 3))) (R.1 0) X)) Y 58 [some (zr b 0), some (zi (nI s)), some (zi (nI j)), none] [] := by
              intro fuel2
              induction fuel2 with
              | zero => intro j hfu; exact absurd hfu (Nat.not_lt_zero _)
              | succ fuel2 ih2 =>
                intro j hfu hjn
                have hq3 : zQm b R (up3 (up3 I b 0 38 (nI (signH R 0))) b 0 40 (nI (signH R s))) (zrow b 30 (mixF j (signW R (s + 1)) (signW R s)) (R.1 0) (zrow b 29 (fellN (rfall R (R.1 3))) (R.1 0) X)) := hmo.frame (fun j _ _ => by rw [up3_ne (by omega), up3_ne (by omega)]) (fun k j _ _ => by rw [zrow_ne (by omega), zrow_ne (by omega)])
                refine z_iload_n hC dX7_weigh_58 rfl ?_
                refine z_aload_n hC dX7_weigh_59 rfl ?_
                refine z_getN hC dX7_weigh_60 (hS _) zfX7_94 rfl hq3.1.1 ?_
                refine z_nicmp_ge hC dX7_weigh_63 (tgt := 153) (by decide) (by omega) (by omega) (fun c63 => ?_) (fun c63 => ?_)
                · skip
                  obtain rfl : j = R.1 0 := by omega
                  refine z_aload_n hC dX7_weigh_153 rfl ?_
                  refine z_aload_n hC dX7_weigh_154 rfl ?_
                  refine z_getR hC dX7_weigh_155 (hS _) zfX7_55 rfl ?_
                  refine z_iload_n hC dX7_weigh_158 rfl ?_
                  refine z_naldN hC dX7_weigh_159 (hS _) (by omega) rfl (show _ = nI (R.2.1 6 _) from hq3.2.2.1 1 _ (by decide) (by omega)) ?_
                  refine z_iconst hC dX7_weigh_160 (v := nI 1) rfl ?_
                  refine z_nicmp_ne hC dX7_weigh_161 (tgt := 171) (by decide) (by omega) (by omega) (fun c161 => ?_) (fun c161 => ?_)
                  · skip
                    refine z_aload_n hC dX7_weigh_171 rfl ?_
                    refine z_getN hC dX7_weigh_172 (hS _) zfX7_285 rfl (up3_eq _ _ _ _ _) ?_
                    refine z_bipush hC dX7_weigh_175 (v := nI 100) rfl ?_
                    refine z_aload_n hC dX7_weigh_177 rfl ?_
                    refine z_getR hC dX7_weigh_178 (hS _) zfX7_58 rfl ?_
                    refine z_iload_n hC dX7_weigh_181 rfl ?_
                    refine z_naldN hC dX7_weigh_182 (hS _) (by omega) rfl (show _ = nI (R.2.1 7 _) from hq3.2.2.1 2 _ (by decide) (by omega)) ?_
                    refine z_nsub hC dX7_weigh_183 (by omega) ?_
                    refine wSv hC dX7_weigh_184 zlX7_288 (c_X7_part (by omega) (by omega)) rfl rfl rfl rfl ⟨rfl, rfl⟩ ?_
                    refine z_putI hC dX7_weigh_187 (hS _) zfX7_285 rfl rfl rfl rfl ?_
                    refine z_I (I2 := (up3 (up3 I b 0 38 (nI (signH R 0))) b 0 40 (nI (signH R (s + 1))))) (by rw [up3_same]; congr 2; show _ = heedH _ _ _; unfold heedH; first | rw [if_pos (by omega)] | rw [if_neg (by omega)]) ?_
                    refine z_ninc hC dX7_weigh_190 (lo2 := [_, _, _, _]) rfl rfl rfl rfl ?_
                    refine z_goto hC dX7_weigh_193 (tgt := 48) (by decide) ?_
                    refine z_X mixF_n ?_
                    exact z_sub (by simp [zsub]) (ih (s + 1) (by omega) (by omega))
                  refine z_aload_n hC dX7_weigh_164 rfl ?_
                  refine z_getN hC dX7_weigh_165 (hS _) zfX7_285 rfl (up3_eq _ _ _ _ _) ?_
                  refine z_goto hC dX7_weigh_168 (tgt := 187) (by decide) ?_
                  refine z_putI hC dX7_weigh_187 (hS _) zfX7_285 rfl rfl rfl rfl ?_
                  refine z_I (I2 := (up3 (up3 I b 0 38 (nI (signH R 0))) b 0 40 (nI (signH R (s + 1))))) (by rw [up3_same]; congr 2; show _ = heedH _ _ _; unfold heedH; first | rw [if_pos (by omega)] | rw [if_neg (by omega)]) ?_
                  refine z_ninc hC dX7_weigh_190 (lo2 := [_, _, _, _]) rfl rfl rfl rfl ?_
                  refine z_goto hC dX7_weigh_193 (tgt := 48) (by decide) ?_
                  refine z_X mixF_n ?_
                  exact z_sub (by simp [zsub]) (ih (s + 1) (by omega) (by omega))
                have hj : j < R.1 0 := by omega
                have hswl := signW_le hR hj s
                refine z_aload_n hC dX7_weigh_66 rfl ?_
                refine z_getR hC dX7_weigh_67 (hS _) zfX7_55 rfl ?_
                refine z_iload_n hC dX7_weigh_70 rfl ?_
                refine z_naldN hC dX7_weigh_71 (hS _) (by omega) rfl (show _ = nI (R.2.1 6 _) from hq3.2.2.1 1 _ (by decide) (by omega)) ?_
                refine z_iconst hC dX7_weigh_72 (v := nI 1) rfl ?_
                refine z_nicmp_ne hC dX7_weigh_73 (tgt := 94) (by decide) (by omega) (by omega) (fun c73 => ?_) (fun c73 => ?_)
                · skip
                  refine z_iload_n hC dX7_weigh_94 rfl ?_
                  refine z_aload_n hC dX7_weigh_95 rfl ?_
                  refine z_getR hC dX7_weigh_96 (hS _) zfX7_52 rfl ?_
                  refine z_iload_n hC dX7_weigh_99 rfl ?_
                  refine z_naldN hC dX7_weigh_100 (hS _) (by omega) rfl (show _ = nI (R.2.1 5 _) from hq3.2.2.1 0 _ (by decide) (by omega)) ?_
                  refine z_nicmp_le hC dX7_weigh_101 (tgt := 108) (by decide) (by omega) (by omega) (fun c101 => ?_) (fun c101 => ?_)
                  · skip
                    refine z_iconst hC dX7_weigh_108 (v := nI 0) rfl ?_
                    refine z_istore_n hC dX7_weigh_109 (lo2 := [_, _, _, _]) (Nat.le_of_ble_eq_true rfl) rfl rfl ?_
                    refine z_aload_n hC dX7_weigh_110 rfl ?_
                    refine z_getR hC dX7_weigh_111 (hS _) zfX7_86 rfl ?_
                    refine z_iload_n hC dX7_weigh_114 rfl ?_
                    refine z_iload_n hC dX7_weigh_115 rfl ?_
                    refine z_nif_eq hC dX7_weigh_116 (tgt := 140) (by decide) (by omega) (fun c116 => ?_) (fun c116 => ?_)
                    rotate_left
                    · exact absurd c116 (by decide)
                    refine z_aload_n hC dX7_weigh_140 rfl ?_
                    refine z_getR hC dX7_weigh_141 (hS _) zfX7_86 rfl ?_
                    refine z_iload_n hC dX7_weigh_144 rfl ?_
                    refine z_naldN hC dX7_weigh_145 (hS _) (by omega) rfl (by rw [zrow_get (by omega), mixF_at]) ?_
                    refine z_niast hC dX7_weigh_146 (hS _) (by omega) rfl ?_
                    refine z_X (X2 := zrow b 30 (mixF (j + 1) (signW R (s + 1)) (signW R s)) (R.1 0) (zrow b 29 (fellN (rfall R (R.1 3))) (R.1 0) X)) (zrow_mix (by omega) (by show heedW _ _ _ _ _ = _; unfold heedW; first | exact if_pos (by omega) | exact if_neg (by omega))) ?_
                    refine z_ninc hC dX7_weigh_147 (lo2 := [_, _, _, _]) rfl rfl rfl rfl ?_
                    refine z_goto hC dX7_weigh_150 (tgt := 58) (by decide) ?_
                    exact z_sub (by simp [zsub]) (ih2 (j + 1) (by omega) (by omega))
                  refine z_iconst hC dX7_weigh_104 (v := nI 1) rfl ?_
                  refine z_goto hC dX7_weigh_105 (tgt := 109) (by decide) ?_
                  refine z_istore_n hC dX7_weigh_109 (lo2 := [_, _, _, _]) (Nat.le_of_ble_eq_true rfl) rfl rfl ?_
                  refine z_aload_n hC dX7_weigh_110 rfl ?_
                  refine z_getR hC dX7_weigh_111 (hS _) zfX7_86 rfl ?_
                  refine z_iload_n hC dX7_weigh_114 rfl ?_
                  refine z_iload_n hC dX7_weigh_115 rfl ?_
                  refine z_nif_eq hC dX7_weigh_116 (tgt := 140) (by decide) (by omega) (fun c116 => ?_) (fun c116 => ?_)
                  · exact absurd c116 (by decide)
                  refine z_aload_n hC dX7_weigh_119 rfl ?_
                  refine z_getR hC dX7_weigh_120 (hS _) zfX7_86 rfl ?_
                  refine z_iload_n hC dX7_weigh_123 rfl ?_
                  refine z_naldN hC dX7_weigh_124 (hS _) (by omega) rfl (by rw [zrow_get (by omega), mixF_at]) ?_
                  refine z_bipush hC dX7_weigh_125 (v := nI 100) rfl ?_
                  refine z_aload_n hC dX7_weigh_127 rfl ?_
                  refine z_getR hC dX7_weigh_128 (hS _) zfX7_58 rfl ?_
                  refine z_iload_n hC dX7_weigh_131 rfl ?_
                  refine z_naldN hC dX7_weigh_132 (hS _) (by omega) rfl (show _ = nI (R.2.1 7 _) from hq3.2.2.1 2 _ (by decide) (by omega)) ?_
                  refine z_nsub hC dX7_weigh_133 (by omega) ?_
                  refine wSv hC dX7_weigh_134 zlX7_288 (c_X7_part (by omega) (by omega)) rfl rfl rfl rfl ⟨rfl, rfl⟩ ?_
                  refine z_goto hC dX7_weigh_137 (tgt := 146) (by decide) ?_
                  refine z_niast hC dX7_weigh_146 (hS _) (by omega) rfl ?_
                  refine z_X (X2 := zrow b 30 (mixF (j + 1) (signW R (s + 1)) (signW R s)) (R.1 0) (zrow b 29 (fellN (rfall R (R.1 3))) (R.1 0) X)) (zrow_mix (by omega) (by show heedW _ _ _ _ _ = _; unfold heedW; first | exact if_pos (by omega) | exact if_neg (by omega))) ?_
                  refine z_ninc hC dX7_weigh_147 (lo2 := [_, _, _, _]) rfl rfl rfl rfl ?_
                  refine z_goto hC dX7_weigh_150 (tgt := 58) (by decide) ?_
                  exact z_sub (by simp [zsub]) (ih2 (j + 1) (by omega) (by omega))
                refine z_iload_n hC dX7_weigh_76 rfl ?_
                refine z_aload_n hC dX7_weigh_77 rfl ?_
                refine z_getR hC dX7_weigh_78 (hS _) zfX7_52 rfl ?_
                refine z_iload_n hC dX7_weigh_81 rfl ?_
                refine z_naldN hC dX7_weigh_82 (hS _) (by omega) rfl (show _ = nI (R.2.1 5 _) from hq3.2.2.1 0 _ (by decide) (by omega)) ?_
                refine z_nicmp_gt hC dX7_weigh_83 (tgt := 90) (by decide) (by omega) (by omega) (fun c83 => ?_) (fun c83 => ?_)
                · skip
                  refine z_iconst hC dX7_weigh_90 (v := nI 0) rfl ?_
                  refine z_goto hC dX7_weigh_91 (tgt := 109) (by decide) ?_
                  refine z_istore_n hC dX7_weigh_109 (lo2 := [_, _, _, _]) (Nat.le_of_ble_eq_true rfl) rfl rfl ?_
                  refine z_aload_n hC dX7_weigh_110 rfl ?_
                  refine z_getR hC dX7_weigh_111 (hS _) zfX7_86 rfl ?_
                  refine z_iload_n hC dX7_weigh_114 rfl ?_
                  refine z_iload_n hC dX7_weigh_115 rfl ?_
                  refine z_nif_eq hC dX7_weigh_116 (tgt := 140) (by decide) (by omega) (fun c116 => ?_) (fun c116 => ?_)
                  rotate_left
                  · exact absurd c116 (by decide)
                  refine z_aload_n hC dX7_weigh_140 rfl ?_
                  refine z_getR hC dX7_weigh_141 (hS _) zfX7_86 rfl ?_
                  refine z_iload_n hC dX7_weigh_144 rfl ?_
                  refine z_naldN hC dX7_weigh_145 (hS _) (by omega) rfl (by rw [zrow_get (by omega), mixF_at]) ?_
                  refine z_niast hC dX7_weigh_146 (hS _) (by omega) rfl ?_
                  refine z_X (X2 := zrow b 30 (mixF (j + 1) (signW R (s + 1)) (signW R s)) (R.1 0) (zrow b 29 (fellN (rfall R (R.1 3))) (R.1 0) X)) (zrow_mix (by omega) (by show heedW _ _ _ _ _ = _; unfold heedW; first | exact if_pos (by omega) | exact if_neg (by omega))) ?_
                  refine z_ninc hC dX7_weigh_147 (lo2 := [_, _, _, _]) rfl rfl rfl rfl ?_
                  refine z_goto hC dX7_weigh_150 (tgt := 58) (by decide) ?_
                  exact z_sub (by simp [zsub]) (ih2 (j + 1) (by omega) (by omega))
                refine z_iconst hC dX7_weigh_86 (v := nI 1) rfl ?_
                refine z_goto hC dX7_weigh_87 (tgt := 109) (by decide) ?_
                refine z_istore_n hC dX7_weigh_109 (lo2 := [_, _, _, _]) (Nat.le_of_ble_eq_true rfl) rfl rfl ?_
                refine z_aload_n hC dX7_weigh_110 rfl ?_
                refine z_getR hC dX7_weigh_111 (hS _) zfX7_86 rfl ?_
                refine z_iload_n hC dX7_weigh_114 rfl ?_
                refine z_iload_n hC dX7_weigh_115 rfl ?_
                refine z_nif_eq hC dX7_weigh_116 (tgt := 140) (by decide) (by omega) (fun c116 => ?_) (fun c116 => ?_)
                · exact absurd c116 (by decide)
                refine z_aload_n hC dX7_weigh_119 rfl ?_
                refine z_getR hC dX7_weigh_120 (hS _) zfX7_86 rfl ?_
                refine z_iload_n hC dX7_weigh_123 rfl ?_
                refine z_naldN hC dX7_weigh_124 (hS _) (by omega) rfl (by rw [zrow_get (by omega), mixF_at]) ?_
                refine z_bipush hC dX7_weigh_125 (v := nI 100) rfl ?_
                refine z_aload_n hC dX7_weigh_127 rfl ?_
                refine z_getR hC dX7_weigh_128 (hS _) zfX7_58 rfl ?_
                refine z_iload_n hC dX7_weigh_131 rfl ?_
                refine z_naldN hC dX7_weigh_132 (hS _) (by omega) rfl (show _ = nI (R.2.1 7 _) from hq3.2.2.1 2 _ (by decide) (by omega)) ?_
                refine z_nsub hC dX7_weigh_133 (by omega) ?_
                refine wSv hC dX7_weigh_134 zlX7_288 (c_X7_part (by omega) (by omega)) rfl rfl rfl rfl ⟨rfl, rfl⟩ ?_
                refine z_goto hC dX7_weigh_137 (tgt := 146) (by decide) ?_
                refine z_niast hC dX7_weigh_146 (hS _) (by omega) rfl ?_
                refine z_X (X2 := zrow b 30 (mixF (j + 1) (signW R (s + 1)) (signW R s)) (R.1 0) (zrow b 29 (fellN (rfall R (R.1 3))) (R.1 0) X)) (zrow_mix (by omega) (by show heedW _ _ _ _ _ = _; unfold heedW; first | exact if_pos (by omega) | exact if_neg (by omega))) ?_
                refine z_ninc hC dX7_weigh_147 (lo2 := [_, _, _, _]) rfl rfl rfl rfl ?_
                refine z_goto hC dX7_weigh_150 (tgt := 58) (by decide) ?_
                exact z_sub (by simp [zsub]) (ih2 (j + 1) (by omega) (by omega))
            refine z_X (X2 := zrow b 30 (mixF 0 (signW R (s + 1)) (signW R s)) (R.1 0) (zrow b 29 (fellN (rfall R (R.1 3))) (R.1 0) X)) (by rw [mixF_0]) ?_
            exact z_sub (by simp [zsub]) (loop58 _ 0 (Nat.lt_succ_self _) (Nat.zero_le _))
        exact z_sub (by simp [zsub]) (loop48 _ 0 (Nat.lt_succ_self _) (Nat.zero_le _))
      have hi : i < R.1 0 := by omega
      refine z_aload_n hC dX7_weigh_28 rfl ?_
      refine z_getR hC dX7_weigh_29 (hS _) zfX7_86 rfl ?_
      refine z_iload_n hC dX7_weigh_32 rfl ?_
      refine z_aload_n hC dX7_weigh_33 rfl ?_
      refine z_getR hC dX7_weigh_34 (hS _) zfX7_83 rfl ?_
      refine z_iload_n hC dX7_weigh_37 rfl ?_
      refine z_naldN hC dX7_weigh_38 (hS _) (by omega) rfl ((zrow_ne (by omega)).trans (zrow_get (by omega))) ?_
      refine z_niast hC dX7_weigh_39 (hS _) (by omega) rfl ?_
      refine z_X (X2 := zrow b 30 (signW R 0) (i + 1) (zrow b 29 (fellN (rfall R (R.1 3))) (R.1 0) X)) zrow_s ?_
      refine z_ninc hC dX7_weigh_40 (lo2 := [_, _, _, _]) rfl rfl rfl rfl ?_
      refine z_goto hC dX7_weigh_43 (tgt := 20) (by decide) ?_
      exact ih (i + 1) (by omega) (by omega)
  refine z_X (X2 := zrow b 30 (signW R 0) 0 (zrow b 29 (fellN (rfall R (R.1 3))) (R.1 0) X)) zrow_0.symm ?_
  exact z_sub (by simp [zsub]) <| loop20 _ 0 (Nat.lt_succ_self _) (Nat.zero_le _)

end
