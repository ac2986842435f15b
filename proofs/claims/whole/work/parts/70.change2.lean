/-! the reference: what changes its road-/
theorem z_getV {C : zC} {nL : Nat} {ad : zA} {S : zSh} {cells slots sz : Nat} {I X : zI} {Y : zY} {pc : Nat} {lo : List (Option zV)} {st : List zV} {bt : ByteArray} {own : String} {ret : Option FieldType} {N mc ms : Nat} (hC : zOk bt own nL ret N mc ms C ad) {b j idx ci k : Nat} {x : Int32} {fl : List zF} (d : decode bt pc = .ok (.getfield idx, 3)) (hs : S b j = some (.inr (.inl (ci, fl)))) (hf : zFld own idx ci k) (hk : fl[k]? = some (.inr none)) (hv : I b j k = x)
    (kk : zL C nL ad S cells slots sz I X Y (pc + 3) lo (.inl x :: st)) : zL C nL ad S cells slots sz I X Y pc lo (.inr (.inr (some (b, j))) :: st) := z_getI hC d hs hf hk (by rw [hv]; exact kk)
theorem secN_le2 {y l : Nat} (h : y ≤ 999) : secN y l ≤ 1000 := by
  unfold secN
  repeat' split
  all_goals omega
theorem up3_sw {α : Type} {f : Nat → Nat → Nat → α} {b k j j2 : Nat} {l s x : α} (h : j ≠ j2) : up3 (up3 (up3 f b k j l) b k j2 s) b k j x = up3 (up3 f b k j x) b k j2 s := by
  funext b' k' i
  unfold up3
  by_cases h1 : b' = b ∧ k' = k ∧ i = j
  · obtain ⟨rfl, rfl, rfl⟩ := h1
    rw [if_pos ⟨rfl, rfl, rfl⟩, if_neg (fun z => h z.2.2), if_pos ⟨rfl, rfl, rfl⟩]
  · rw [if_neg h1, if_neg h1, if_neg h1]
theorem zQm.forget {b : Nat} {R : RS} {I X : zI} (h : zQm b R I X) : zQm b (rforget R) (up3 I b 0 15 (nI 0)) (zrow b 21 (fun _ => 100) (R.1 0) X) := by
  obtain ⟨⟨a1, a2, a3, a4, a5, a6, a7, a8⟩, h2, h3, h4⟩ := h
  refine ⟨⟨?_, up3_eq _ _ _ _ _, ?_, ?_, ?_, ?_, ?_, ?_⟩, fun j i hj hi => ?_, fun j i hj hi => absurd hi (Nat.not_lt_zero _), fun j i hj hi => ?_⟩
  all_goals first | (rw [up3_ne (by omega)]; assumption) | skip
  · show _ = nI (if j = 4 then 100 else R.2.1 j i)
    by_cases e : j = 4
    · subst e; rw [if_pos rfl]; exact zrow_get (f := fun _ => 100) hi
    · rw [if_neg e, zrow_ne (by omega)]; exact h2 j i hj hi
  · rw [zrow_ne (by omega)]
    show _ = nI (if 8 + j = 4 then 100 else R.2.1 (8 + j) i)
    rw [if_neg (by omega)]; exact h4 j i hj hi
theorem zQm.miss {b : Nat} {R : RS} {I X : zI} (h : zQm b R I X) {x l : Nat} : zQm b (rmiss R x l) I (up3 X b 21 x (nI (missN (R.2.1 4 x) l))) := by
  obtain ⟨h1, h2, h3, h4⟩ := h
  refine ⟨h1, fun j i hj hi => ?_, fun j i hj hi => ?_, fun j i hj hi => ?_⟩
  · show _ = nI (if j = 4 ∧ i = x then _ else R.2.1 j i)
    by_cases e : j = 4 ∧ i = x
    · obtain ⟨rfl, rfl⟩ := e; rw [if_pos ⟨rfl, rfl⟩]; exact up3_eq _ _ _ _ _
    · rw [if_neg e, up3_ne (by omega)]; exact h2 j i hj hi
  · rw [up3_ne (by omega)]
    show _ = nI (if 5 + j = 4 ∧ i = x then _ else R.2.1 (5 + j) i)
    rw [if_neg (by omega)]; exact h3 j i hj hi
  · rw [up3_ne (by omega)]
    show _ = nI (if 8 + j = 4 ∧ i = x then _ else R.2.1 (8 + j) i)
    rw [if_neg (by omega)]; exact h4 j i hj hi
theorem zQm.lies {b : Nat} {R : RS} {I X : zI} (h : zQm b R I X) {x : Int32} : zQm b (rlies R x) (up3 I b 0 26 x) X := by
  obtain ⟨⟨a1, a2, a3, a4, a5, a6, a7, a8⟩, h2⟩ := h
  refine ⟨⟨?_, ?_, ?_, ?_, ?_, ?_, up3_eq _ _ _ _ _, ?_⟩, h2⟩
  all_goals (rw [up3_ne (by omega)]; assumption)
theorem zQm.seed {b : Nat} {R : RS} {I X : zI} (h : zQm b R I X) {x : Int32} : zQm b (rseed R x) (up3 I b 0 27 x) X := by
  obtain ⟨⟨a1, a2, a3, a4, a5, a6, a7, a8⟩, h2⟩ := h
  refine ⟨⟨?_, ?_, ?_, ?_, ?_, ?_, ?_, up3_eq _ _ _ _ _⟩, h2⟩
  all_goals (rw [up3_ne (by omega)]; assumption)
theorem zQm.set {b : Nat} {R : RS} {I X : zI} (h : zQm b R I X) {j v : Nat} (hj : 3 ≤ j ∧ j ≤ 5) : zQm b (rset R j v) (up3 I b 0 (20 + j) (nI v)) X := by
  obtain ⟨⟨a1, a2, a3, a4, a5, a6, a7, a8⟩, h2, h3, h4⟩ := h
  refine ⟨⟨?_, ?_, ?_, ?_, ?_, ?_, ?_, ?_⟩, fun i k hi hk => h2 i k hi ?_, fun i k hi hk => h3 i k hi ?_, fun i k hi hk => h4 i k hi ?_⟩
  · show _ = nI (if 0 = j then _ else R.1 0); rw [up3_ne (by omega), if_neg (by omega)]; exact a1
  · show _ = nI (if 1 = j then _ else R.1 1); rw [up3_ne (by omega), if_neg (by omega)]; exact a2
  · show _ = nI (if 2 = j then _ else R.1 2); rw [up3_ne (by omega), if_neg (by omega)]; exact a3
  · show _ = nI (if 3 = j then _ else R.1 3)
    by_cases e : 3 = j
    · subst e; rw [if_pos rfl]; exact up3_eq _ _ _ _ _
    · rw [if_neg e, up3_ne (by omega)]; exact a4
  · show _ = nI (if 4 = j then _ else R.1 4)
    by_cases e : 4 = j
    · subst e; rw [if_pos rfl]; exact up3_eq _ _ _ _ _
    · rw [if_neg e, up3_ne (by omega)]; exact a5
  · show _ = nI (if 5 = j then _ else R.1 5)
    by_cases e : 5 = j
    · subst e; rw [if_pos rfl]; exact up3_eq _ _ _ _ _
    · rw [if_neg e, up3_ne (by omega)]; exact a6
  · rw [up3_ne (by omega)]; exact a7
  · rw [up3_ne (by omega)]; exact a8
  · have hk' : k < (if 0 = j then v else R.1 0) := hk
    rwa [if_neg (by omega)] at hk'
  · have hk' : k < (if 1 = j then v else R.1 1) := hk
    rwa [if_neg (by omega)] at hk'
  · have hk' : k < (if 2 = j then v else R.1 2) := hk
    rwa [if_neg (by omega)] at hk'
def mdI (b : Nat) (R : RS) (I : zI) : zI := up3 (up3 (up3 I b 0 15 (nI 0)) b 0 26 (drN R).2.1) b 0 27 (drN R).1
def mdX (b : Nat) (R : RS) (X : zI) : zI := zrow b 21 (fun _ => 100) (R.1 0) X
theorem zQm.drv {b : Nat} {R : RS} {I X : zI} (h : zQm b R I X) : zQm b (drvR R) (mdI b R I) (mdX b R X) := h.forget.lies.seed

section
variable {ad : zA} {S : zSh} {I X : zI} {Y : zY} {sz b : Nat} {R : RS}

theorem c_X7_nextNow (hS : ∀ k, S b k = msh b k) (hm : zQm b R I X) (hR : ROK R)  : zC0 mX7_nextNow 3 [zr b 0] (some (zi (oI (nxF R (R.2.1 4))))) ad S I X Y sz (mwI b R I) (mwX b R X) Y := by
  refine zgo (own := RX7) (k := 7) (by decide +kernel) rfl rfl rfl (fun C hC hnm hE => ?_)
  have hmo := hm
  have hn14 := hR.1
  have hn8 := hR.2.1
  have hn6 := hR.2.2.1
  refine z_aload_n hC dX7_nextNow_0 rfl ?_
  refine wV0 hC dX7_nextNow_1 zlX7_294 (c_X7_weigh hS hm hR) (hS _) rfl rfl rfl rfl rfl rfl ⟨rfl, rfl⟩ ?_
  have hq : zQm b R (mwI b R I) (mwX b R X) := hmo.mw
  refine z_iconst hC dX7_nextNow_4 (v := -1) rfl ?_
  refine z_istore_n hC dX7_nextNow_5 (lo2 := [_, _, _, _, _, _, _, _]) (Nat.le_of_ble_eq_true rfl) rfl rfl ?_
  refine z_lconst hC dX7_nextNow_6 (v := lN 0) rfl ?_
  refine z_lstore_n hC dX7_nextNow_7 (lo2 := [_, _, _, _, _, _, _, _]) (Nat.le_of_ble_eq_true rfl) rfl rfl ?_
  refine z_iconst hC dX7_nextNow_8 (v := nI 0) rfl ?_
  refine z_istore hC dX7_nextNow_9 (lo2 := [_, _, _, _, _, _, _, _]) (Nat.le_of_ble_eq_true rfl) rfl rfl ?_
  have loop11 : ∀ (fuel : Nat) (i : Nat), R.1 0 - i < fuel → i ≤ R.1 0 → zL C 8 ad S 0 0 sz (mwI b R I) (mwX b R X) Y 11 [some (zr b 0), some (zi (oI (nxS (rtN R) (3 * i)).2)), some (zl (lN (nxS (rtN R) (3 * i)).1)), none, some (zi (nI i)), none, none, none] [] := by
    intro fuel
    induction fuel with
    | zero => intro i hfu; exact absurd hfu (Nat.not_lt_zero _)
    | succ fuel ih =>
      intro i hfu hin
      refine z_iload hC dX7_nextNow_11 rfl ?_
      refine z_aload_n hC dX7_nextNow_13 rfl ?_
      refine z_getN hC dX7_nextNow_14 (hS _) zfX7_94 rfl hq.1.1 ?_
      refine z_nicmp_ge hC dX7_nextNow_17 (tgt := 85) (by decide) (by omega) (by omega) (fun c17 => ?_) (fun c17 => ?_)
      · skip
        obtain rfl : i = R.1 0 := by omega
        refine z_iload_n hC dX7_nextNow_85 rfl ?_
        refine z_iret hC dX7_nextNow_86 ?_
        exact hE.to (by rfl) rfl rfl rfl
      have hi : i < R.1 0 := by omega
      refine z_iconst hC dX7_nextNow_20 (v := nI 1) rfl ?_
      refine z_istore hC dX7_nextNow_21 (lo2 := [_, _, _, _, _, _, _, _]) (Nat.le_of_ble_eq_true rfl) rfl rfl ?_
      have loop23 : ∀ (fuel : Nat) (l : Nat), 4 - l < fuel → 1 ≤ l → l ≤ 4 → zL C 8 ad S 0 0 sz (mwI b R I) (mwX b R X) Y 23 [some (zr b 0), some (zi (oI (nxS (rtN R) (3 * i + (l - 1))).2)), some (zl (lN (nxS (rtN R) (3 * i + (l - 1))).1)), none, some (zi (nI i)), some (zi (nI l)), none, none] [] := by
        intro fuel2
        induction fuel2 with
        | zero => intro l hfu; exact absurd hfu (Nat.not_lt_zero _)
        | succ fuel2 ih2 =>
          intro l hfu hl1 hl4
          refine z_iload hC dX7_nextNow_23 rfl ?_
          refine z_iconst hC dX7_nextNow_25 (v := nI 3) rfl ?_
          refine z_nicmp_gt hC dX7_nextNow_26 (tgt := 79) (by decide) (by omega) (by omega) (fun c26 => ?_) (fun c26 => ?_)
          · skip
            obtain rfl : l = 4 := by omega
            refine z_ninc hC dX7_nextNow_79 (lo2 := [_, _, _, _, _, _, _, _]) rfl rfl rfl rfl ?_
            refine z_goto hC dX7_nextNow_82 (tgt := 11) (by decide) ?_
            exact z_sub (by rw [show 3 * (i + 1) = 3 * i + (4 - 1) from rfl]; simp [zsub]) (ih (i + 1) (by omega) (by omega))
          have hfb : fbN (fwN R) i l ≤ 1000000 := fbN_le (fwN_le hR hi).1
          have hrt := rtN_le hR hi (l := l)
          have hnl := nxS_le2 hR (3 * i + (l - 1)) (by omega)
          have hsp := secN_pos (R.2.1 2 i) l
          have hsl : secN (R.2.1 2 i) l ≤ 1000 := secN_le2 (hR.2.2.2.2.2.2.1 i hi).2.2.2.1
          refine z_aload_n hC dX7_nextNow_29 rfl ?_
          refine z_iload hC dX7_nextNow_30 rfl ?_
          refine z_iload hC dX7_nextNow_32 rfl ?_
          refine wVv hC dX7_nextNow_34 zlX7_315 (c_X7_foundBy hS hq hR mwF_of (by omega) (by omega) (by omega)) (hS _) rfl rfl rfl rfl rfl rfl ⟨rfl, rfl⟩ ?_
          refine z_n2m hC dX7_nextNow_37 (by omega) ?_
          refine z_ldc2 hC dX7_nextNow_38 (v := lN 1000) (zin5 (i := 169) rfl rfl) ?_
          refine z_mmul hC dX7_nextNow_41  ?_
          refine z_aload_n hC dX7_nextNow_42 rfl ?_
          refine z_iload hC dX7_nextNow_43 rfl ?_
          refine z_iload hC dX7_nextNow_45 rfl ?_
          refine wVv hC dX7_nextNow_47 zlX7_312 (c_X7_secondsOf hS hq hR (by omega) (by omega)) (hS _) rfl rfl rfl rfl rfl rfl ⟨rfl, rfl⟩ ?_
          refine z_n2m hC dX7_nextNow_50 (by omega) ?_
          refine z_mdiv hC dX7_nextNow_51 (by omega) (by omega) (by omega) ?_
          rw [show fbN (fwN R) i l * 1000 / secN (R.2.1 2 i) l = rtN R i l from (by rw [Nat.mul_comm]; rfl)]
          refine z_lstore hC dX7_nextNow_52 (lo2 := [_, _, _, _, _, _, _, _]) (Nat.le_of_ble_eq_true rfl) rfl rfl ?_
          refine z_lload hC dX7_nextNow_54 rfl ?_
          refine z_lload_n hC dX7_nextNow_56 rfl ?_
          refine z_lcmp hC dX7_nextNow_57  ?_
          refine z_if_le hC dX7_nextNow_58 (tgt := 73) (by decide) (fun c58 => ?_) (fun c58 => ?_)
          · skip
            rw [zlcmp_le (by omega) (by omega)] at c58
            have hnx : (nxS (rtN R) (3 * i + (l + 1 - 1))) = (nxS (rtN R) (3 * i + (l - 1))) := by rw [nxS_s hl1 (by omega)]; exact if_neg (by omega)
            refine z_ninc hC dX7_nextNow_73 (lo2 := [_, _, _, _, _, _, _, _]) rfl rfl rfl rfl ?_
            refine z_goto hC dX7_nextNow_76 (tgt := 23) (by decide) ?_
            exact z_sub (by rw [hnx]; simp [zsub, oI]) (ih2 (l + 1) (by omega) (by omega) (by omega))
          rw [zlcmp_le (by omega) (by omega)] at c58
          have hnx : (nxS (rtN R) (3 * i + (l + 1 - 1))) = (rtN R i l, some (10 * i + l)) := by rw [nxS_s hl1 (by omega)]; exact if_pos (by omega)
          refine z_bipush hC dX7_nextNow_61 (v := nI 10) rfl ?_
          refine z_iload hC dX7_nextNow_63 rfl ?_
          refine z_nmul hC dX7_nextNow_65  ?_
          refine z_iload hC dX7_nextNow_66 rfl ?_
          refine z_nadd hC dX7_nextNow_68  ?_
          refine z_istore_n hC dX7_nextNow_69 (lo2 := [_, _, _, _, _, _, _, _]) (Nat.le_of_ble_eq_true rfl) rfl rfl ?_
          refine z_lload hC dX7_nextNow_70 rfl ?_
          refine z_lstore_n hC dX7_nextNow_72 (lo2 := [_, _, _, _, _, _, _, _]) (Nat.le_of_ble_eq_true rfl) rfl rfl ?_
          refine z_ninc hC dX7_nextNow_73 (lo2 := [_, _, _, _, _, _, _, _]) rfl rfl rfl rfl ?_
          refine z_goto hC dX7_nextNow_76 (tgt := 23) (by decide) ?_
          exact z_sub (by rw [hnx]; simp [zsub, oI]) (ih2 (l + 1) (by omega) (by omega) (by omega))
      exact z_sub (by simp [zsub]) (loop23 _ 1 (Nat.lt_succ_self _) (Nat.le_refl _) (by omega))
  exact z_sub (by simp [zsub, nxS, oI]) (loop11 _ 0 (Nat.lt_succ_self _) (Nat.zero_le _))

theorem c_X7_misses (hS : ∀ k, S b k = msh b k) (hm : zQm b R I X) (hR : ROK R) {i l : Nat} (hi : i < R.1 0) (hl1 : 1 ≤ l) (hl : l ≤ 3) : zC0 mX7_misses 1 [zr b 0, zi (nI i), zi (nI l)] (none) ad S I X Y sz I (up3 X b 21 i (nI (missN (R.2.1 4 i) l))) Y := by
  refine zgo (own := RX7) (k := 0) (by decide +kernel) rfl rfl rfl (fun C hC hnm hE => ?_)
  have hmo := hm
  have hn14 := hR.1
  have hn8 := hR.2.1
  have hn6 := hR.2.2.1
  have hb := hR.2.2.2.2.2.2.1 i hi
  refine z_aload_n hC dX7_misses_0 rfl ?_
  refine z_getR hC dX7_misses_1 (hS _) zfX7_49 rfl ?_
  refine z_iload_n hC dX7_misses_4 rfl ?_
  refine z_aload_n hC dX7_misses_5 rfl ?_
  refine z_getR hC dX7_misses_6 (hS _) zfX7_49 rfl ?_
  refine z_iload_n hC dX7_misses_9 rfl ?_
  refine z_naldN hC dX7_misses_10 (hS _) (by omega) rfl (show _ = nI (R.2.1 4 _) from hm.2.1 4 _ (by decide) (by omega)) ?_
  refine z_bipush hC dX7_misses_11 (v := nI 100) rfl ?_
  refine z_iload_n hC dX7_misses_13 rfl ?_
  refine wSv hC dX7_misses_14 zlX7_304 (c_X7_sees (by omega)) rfl rfl rfl rfl ⟨rfl, rfl⟩ ?_
  refine z_nsub hC dX7_misses_17 (by omega) ?_
  refine wSv hC dX7_misses_18 zlX7_288 (c_X7_part (by omega) (by omega)) rfl rfl rfl rfl ⟨rfl, rfl⟩ ?_
  refine z_niast hC dX7_misses_21 (hS _) (by omega) rfl ?_
  refine z_vret hC dX7_misses_22 ?_
  exact hE.to rfl rfl (by rw [seen30 hl1 hl]; rfl) rfl

theorem c_X7_noSigns (hS : ∀ k, S b k = msh b k) (hm : zQm b R I X) (hR : ROK R)  : zC0 mX7_noSigns 0 [zr b 0] (some (zi (nI (R.1 1)))) ad S I X Y sz (up3 I b 0 15 (nI 0)) (zrow b 21 (fun _ => 100) (R.1 0) X) Y := by
  refine zgo (own := RX7) (k := 2) (by decide +kernel) rfl rfl rfl (fun C hC hnm hE => ?_)
  have hmo := hm
  have hn14 := hR.1
  have hn8 := hR.2.1
  have hn6 := hR.2.2.1
  refine z_aload_n hC dX7_noSigns_0 rfl ?_
  refine z_getN hC dX7_noSigns_1 (hS _) zfX7_150 rfl hm.1.2.1 ?_
  refine z_istore_n hC dX7_noSigns_4 (lo2 := [_, _, _]) (Nat.le_of_ble_eq_true rfl) rfl rfl ?_
  refine z_aload_n hC dX7_noSigns_5 rfl ?_
  refine z_iconst hC dX7_noSigns_6 (v := nI 0) rfl ?_
  refine z_putI hC dX7_noSigns_7 (hS _) zfX7_150 rfl rfl rfl rfl ?_
  refine z_iconst hC dX7_noSigns_10 (v := nI 0) rfl ?_
  refine z_istore_n hC dX7_noSigns_11 (lo2 := [_, _, _]) (Nat.le_of_ble_eq_true rfl) rfl rfl ?_
  have loop12 : ∀ (fuel : Nat) (i : Nat), R.1 0 - i < fuel → i ≤ R.1 0 → zL C 3 ad S 0 0 sz (up3 I b 0 15 (nI 0)) (zrow b 21 (fun _ => 100) i X) Y 12 [some (zr b 0), some (zi (nI (R.1 1))), some (zi (nI i))] [] := by
    intro fuel
    induction fuel with
    | zero => intro i hfu; exact absurd hfu (Nat.not_lt_zero _)
    | succ fuel ih =>
      intro i hfu hin
      refine z_iload_n hC dX7_noSigns_12 rfl ?_
      refine z_aload_n hC dX7_noSigns_13 rfl ?_
      refine z_getN hC dX7_noSigns_14 (hS _) zfX7_94 rfl ((up3_ne (by omega)).trans hmo.1.1) ?_
      refine z_nicmp_ge hC dX7_noSigns_17 (tgt := 34) (by decide) (by omega) (by omega) (fun c17 => ?_) (fun c17 => ?_)
      · skip
        obtain rfl : i = R.1 0 := by omega
        refine z_iload_n hC dX7_noSigns_34 rfl ?_
        refine z_iret hC dX7_noSigns_35 ?_
        exact hE.to (by rfl) rfl rfl rfl
      refine z_aload_n hC dX7_noSigns_20 rfl ?_
      refine z_getR hC dX7_noSigns_21 (hS _) zfX7_49 rfl ?_
      refine z_iload_n hC dX7_noSigns_24 rfl ?_
      refine z_bipush hC dX7_noSigns_25 (v := nI 100) rfl ?_
      refine z_niast hC dX7_noSigns_27 (hS _) (by omega) rfl ?_
      refine z_X (X2 := zrow b 21 (fun _ => 100) (i + 1) X) zrow_s ?_
      refine z_ninc hC dX7_noSigns_28 (lo2 := [_, _, _]) rfl rfl rfl rfl ?_
      refine z_goto hC dX7_noSigns_31 (tgt := 12) (by decide) ?_
      exact ih (i + 1) (by omega) (by omega)
  refine z_X (X2 := zrow b 21 (fun _ => 100) 0 X) zrow_0.symm ?_
  exact loop12 _ 0 (Nat.lt_succ_self _) (Nat.zero_le _)

theorem c_X7_hearsOf (hS : ∀ k, S b k = msh b k) (hm : zQm b R I X) (hR : ROK R) (hw : mwF b R I X) {i : Nat} (hi : i < R.1 2) : zC0 mX7_hearsOf 1 [zr b 0, zi (nI i)] (some (zi (nI (hearN R (fwN R) i)))) ad S I X Y sz I X Y := by
  refine zgo (own := RX7) (k := 2) (by decide +kernel) rfl rfl rfl (fun C hC hnm hE => ?_)
  have hmo := hm
  have hn14 := hR.1
  have hn8 := hR.2.1
  have hn6 := hR.2.2.1
  have hcb := hR.2.2.2.2.2.2.2.2 i hi
  refine z_iconst hC dX7_hearsOf_0 (v := nI 0) rfl ?_
  refine z_istore_n hC dX7_hearsOf_1 (lo2 := [_, _, _, _]) (Nat.le_of_ble_eq_true rfl) rfl rfl ?_
  refine z_iconst hC dX7_hearsOf_2 (v := nI 0) rfl ?_
  refine z_istore_n hC dX7_hearsOf_3 (lo2 := [_, _, _, _]) (Nat.le_of_ble_eq_true rfl) rfl rfl ?_
  have loop4 : ∀ (fuel : Nat) (k : Nat), R.1 2 - k < fuel → k ≤ R.1 2 → zL C 4 ad S 0 0 sz I X Y 4 [some (zr b 0), some (zi (nI i)), some (zi (nI (hfN (R.2.1 8) (R.2.1 8 i) k))), some (zi (nI k))] [] := by
    intro fuel
    induction fuel with
    | zero => intro k hfu; exact absurd hfu (Nat.not_lt_zero _)
    | succ fuel ih =>
      intro k hfu hk
      have hfl := hfN_le (pl := R.2.1 8) (own := R.2.1 8 i) k
      refine z_iload_n hC dX7_hearsOf_4 rfl ?_
      refine z_aload_n hC dX7_hearsOf_5 rfl ?_
      refine z_getN hC dX7_hearsOf_6 (hS _) zfX7_163 rfl hm.1.2.2.1 ?_
      refine z_nicmp_ge hC dX7_hearsOf_9 (tgt := 56) (by decide) (by omega) (by omega) (fun c9 => ?_) (fun c9 => ?_)
      · skip
        obtain rfl : k = R.1 2 := by omega
        have hsl : sumR (fwN R) (hfN (R.2.1 8) (R.2.1 8 i) (R.1 2)) (R.2.1 8 i + 1) ≤ 14 * 1000000 := Nat.le_trans (sumR_le (M := 1000000) (fun j _ hj => (fwN_le hR (by omega)).1)) (Nat.mul_le_mul_right _ (by omega))
        refine z_aload_n hC dX7_hearsOf_56 rfl ?_
        refine z_iload_n hC dX7_hearsOf_57 rfl ?_
        refine z_aload_n hC dX7_hearsOf_58 rfl ?_
        refine z_getR hC dX7_hearsOf_59 (hS _) zfX7_61 rfl ?_
        refine z_iload_n hC dX7_hearsOf_62 rfl ?_
        refine z_naldN hC dX7_hearsOf_63 (hS _) (by omega) rfl (show _ = nI (R.2.1 8 _) from hm.2.2.2 0 _ (by decide) (by omega)) ?_
        refine wVv hC dX7_hearsOf_64 zlX7_301 (c_X7_sumOf hS hm hR hw (by omega) (by omega)) (hS _) rfl rfl rfl rfl rfl rfl ⟨rfl, rfl⟩ ?_
        refine z_aload_n hC dX7_hearsOf_67 rfl ?_
        refine z_getR hC dX7_hearsOf_68 (hS _) zfX7_67 rfl ?_
        refine z_iload_n hC dX7_hearsOf_71 rfl ?_
        refine z_naldN hC dX7_hearsOf_72 (hS _) (by omega) rfl (show _ = nI (R.2.1 10 _) from hm.2.2.2 2 _ (by decide) (by omega)) ?_
        refine wSv hC dX7_hearsOf_73 zlX7_288 (c_X7_part (by omega) (by omega)) rfl rfl rfl rfl ⟨rfl, rfl⟩ ?_
        refine z_iret hC dX7_hearsOf_76 ?_
        exact hE.to (by rfl) rfl rfl rfl
      have hkk : k < R.1 2 := by omega
      have hkb := hR.2.2.2.2.2.2.2.2 k hkk
      refine z_aload_n hC dX7_hearsOf_12 rfl ?_
      refine z_getR hC dX7_hearsOf_13 (hS _) zfX7_61 rfl ?_
      refine z_iload_n hC dX7_hearsOf_16 rfl ?_
      refine z_naldN hC dX7_hearsOf_17 (hS _) (by omega) rfl (show _ = nI (R.2.1 8 _) from hm.2.2.2 0 _ (by decide) (by omega)) ?_
      refine z_aload_n hC dX7_hearsOf_18 rfl ?_
      refine z_getR hC dX7_hearsOf_19 (hS _) zfX7_61 rfl ?_
      refine z_iload_n hC dX7_hearsOf_22 rfl ?_
      refine z_naldN hC dX7_hearsOf_23 (hS _) (by omega) rfl (show _ = nI (R.2.1 8 _) from hm.2.2.2 0 _ (by decide) (by omega)) ?_
      refine z_nicmp_ge hC dX7_hearsOf_24 (tgt := 48) (by decide) (by omega) (by omega) (fun c24 => ?_) (fun c24 => ?_)
      · skip
        have hnx : hfN (R.2.1 8) (R.2.1 8 i) (k + 1) = (hfN (R.2.1 8) (R.2.1 8 i) k) := if_neg (by omega)
        refine z_iload_n hC dX7_hearsOf_48 rfl ?_
        refine z_istore_n hC dX7_hearsOf_49 (lo2 := [_, _, _, _]) (Nat.le_of_ble_eq_true rfl) rfl rfl ?_
        refine z_ninc hC dX7_hearsOf_50 (lo2 := [_, _, _, _]) rfl rfl rfl rfl ?_
        refine z_goto hC dX7_hearsOf_53 (tgt := 4) (by decide) ?_
        exact z_sub (by rw [hnx]; simp [zsub]) (ih (k + 1) (by omega) (by omega))
      refine z_aload_n hC dX7_hearsOf_27 rfl ?_
      refine z_getR hC dX7_hearsOf_28 (hS _) zfX7_61 rfl ?_
      refine z_iload_n hC dX7_hearsOf_31 rfl ?_
      refine z_naldN hC dX7_hearsOf_32 (hS _) (by omega) rfl (show _ = nI (R.2.1 8 _) from hm.2.2.2 0 _ (by decide) (by omega)) ?_
      refine z_iload_n hC dX7_hearsOf_33 rfl ?_
      refine z_nicmp_lt hC dX7_hearsOf_34 (tgt := 48) (by decide) (by omega) (by omega) (fun c34 => ?_) (fun c34 => ?_)
      · skip
        have hnx : hfN (R.2.1 8) (R.2.1 8 i) (k + 1) = (hfN (R.2.1 8) (R.2.1 8 i) k) := if_neg (by omega)
        refine z_iload_n hC dX7_hearsOf_48 rfl ?_
        refine z_istore_n hC dX7_hearsOf_49 (lo2 := [_, _, _, _]) (Nat.le_of_ble_eq_true rfl) rfl rfl ?_
        refine z_ninc hC dX7_hearsOf_50 (lo2 := [_, _, _, _]) rfl rfl rfl rfl ?_
        refine z_goto hC dX7_hearsOf_53 (tgt := 4) (by decide) ?_
        exact z_sub (by rw [hnx]; simp [zsub]) (ih (k + 1) (by omega) (by omega))
      have hnx : hfN (R.2.1 8) (R.2.1 8 i) (k + 1) = R.2.1 8 k + 1 := if_pos (by omega)
      refine z_aload_n hC dX7_hearsOf_37 rfl ?_
      refine z_getR hC dX7_hearsOf_38 (hS _) zfX7_61 rfl ?_
      refine z_iload_n hC dX7_hearsOf_41 rfl ?_
      refine z_naldN hC dX7_hearsOf_42 (hS _) (by omega) rfl (show _ = nI (R.2.1 8 _) from hm.2.2.2 0 _ (by decide) (by omega)) ?_
      refine z_iconst hC dX7_hearsOf_43 (v := nI 1) rfl ?_
      refine z_nadd hC dX7_hearsOf_44  ?_
      refine z_goto hC dX7_hearsOf_45 (tgt := 49) (by decide) ?_
      refine z_istore_n hC dX7_hearsOf_49 (lo2 := [_, _, _, _]) (Nat.le_of_ble_eq_true rfl) rfl rfl ?_
      refine z_ninc hC dX7_hearsOf_50 (lo2 := [_, _, _, _]) rfl rfl rfl rfl ?_
      refine z_goto hC dX7_hearsOf_53 (tgt := 4) (by decide) ?_
      exact z_sub (by rw [hnx]; simp [zsub]) (ih (k + 1) (by omega) (by omega))
  exact z_sub (by simp [zsub, hfN]) (loop4 _ 0 (Nat.lt_succ_self _) (Nat.zero_le _))

theorem c_X7_below (hS : ∀ k, S b k = msh b k) {n : Nat} {s : Int32} (hn : 0 < n) (hn2 : n ≤ 1000) (hs : I b 0 27 = s) : zC0 mX7_below 0 [zr b 0, zi (nI n)] (some (zi (nI (rngN (nextS s) % n)))) ad S I X Y sz (up3 I b 0 27 (nextS s)) X Y := by
  refine zgo (own := RX7) (k := 0) (by decide +kernel) rfl rfl rfl (fun C hC hnm hE => ?_)
  refine z_aload_n hC dX7_below_0 rfl ?_
  refine z_aload_n hC dX7_below_1 rfl ?_
  refine z_getV hC dX7_below_2 (hS _) zfX7_77 rfl hs ?_
  refine z_ldcw hC dX7_below_5 (v := nI 1103515245) (zin7 (i := 60) rfl rfl) ?_
  refine z_imul hC dX7_below_8  ?_
  refine z_sipush hC dX7_below_9 (v := nI 12345) rfl ?_
  refine z_iadd hC dX7_below_12  ?_
  refine z_putI hC dX7_below_13 (hS _) zfX7_77 rfl rfl rfl rfl ?_
  rw [show s * nI 1103515245 + nI 12345 = nextS s from rfl]
  refine z_aload_n hC dX7_below_16 rfl ?_
  refine z_getV hC dX7_below_17 (hS _) zfX7_77 rfl (up3_eq _ _ _ _ _) ?_
  refine z_bipush hC dX7_below_20 (v := nI 16) rfl ?_
  refine z_iushr hC dX7_below_22  ?_
  rw [zushr16]
  have hq := rngN_lt (nextS s)
  refine z_iload_n hC dX7_below_23 rfl ?_
  refine z_nrem hC dX7_below_24 (by omega) (by omega) (by omega) ?_
  refine z_iret hC dX7_below_25 ?_
  exact hE.to (by rfl) rfl rfl rfl

theorem c_X7_driven (hS : ∀ k, S b k = msh b k) (hm : zQm b R I X) (hR : ROK R)  : zC0 mX7_driven 1 [zr b 0] (some (zi (nI (drN R).2.2))) ad S I X Y sz (mdI b R I) (mdX b R X) Y := by
  refine zgo (own := RX7) (k := 1) (by decide +kernel) rfl rfl rfl (fun C hC hnm hE => ?_)
  have hmo := hm
  have hn14 := hR.1
  have hn8 := hR.2.1
  have hn6 := hR.2.2.1
  have hRF := ROK_forget hR
  refine z_aload_n hC dX7_driven_0 rfl ?_
  refine wVv hC dX7_driven_1 zlX7_159 (c_X7_noSigns hS hm hR) (hS _) rfl rfl rfl rfl rfl rfl ⟨rfl, rfl⟩ ?_
  refine z_pop hC dX7_driven_4 rfl ?_
  refine z_aload_n hC dX7_driven_5 rfl ?_
  refine z_iconst hC dX7_driven_6 (v := -1) rfl ?_
  refine z_putI hC dX7_driven_7 (hS _) zfX7_74 rfl rfl rfl rfl ?_
  refine z_iconst hC dX7_driven_10 (v := nI 0) rfl ?_
  refine z_istore_n hC dX7_driven_11 (lo2 := [_, _]) (Nat.le_of_ble_eq_true rfl) rfl rfl ?_
  have loop12 : ∀ (fuel : Nat) (i : Nat) (s l : Int32), R.1 0 - i < fuel → i ≤ R.1 0 → (l = -1 ∧ drvN (rfall R (R.1 3)) (R.1 0 - i) i s = drN R ∨ ∃ j, j < 14 ∧ l = nI j ∧ drN R = (s, nI j, 1)) → zL C 2 ad S 0 0 sz (up3 (up3 (up3 I b 0 15 (nI 0)) b 0 26 l) b 0 27 s) (mdX b R X) Y 12 [some (zr b 0), some (zi (nI i))] [] := by
    intro fuel
    induction fuel with
    | zero => intro i s l hfu; exact absurd hfu (Nat.not_lt_zero _)
    | succ fuel ih =>
      intro i s l hfu hin hd
      have hq : zQm b (rseed (rlies (rforget R) l) s) (up3 (up3 (up3 I b 0 15 (nI 0)) b 0 26 l) b 0 27 s) (mdX b R X) := hmo.forget.lies.seed
      have hq3 : zQm b (rseed (rlies (rforget R) l) (nextS s)) (up3 (up3 (up3 I b 0 15 (nI 0)) b 0 26 l) b 0 27 (nextS s)) (mdX b R X) := hmo.forget.lies.seed
      have hil : (up3 (up3 (up3 I b 0 15 (nI 0)) b 0 26 l) b 0 27 s) b 0 26 = l := (up3_ne (by omega)).trans (up3_eq _ _ _ _ _)
      refine z_iload_n hC dX7_driven_12 rfl ?_
      refine z_aload_n hC dX7_driven_13 rfl ?_
      refine z_getN hC dX7_driven_14 (hS _) zfX7_94 rfl (show _ = nI (R.1 0) from hq.1.1) ?_
      refine z_nicmp_ge hC dX7_driven_17 (tgt := 62) (by decide) (by omega) (by omega) (fun c17 => ?_) (fun c17 => ?_)
      · skip
        rcases hd with ⟨rfl, hd⟩ | ⟨j, hj, rfl, hd⟩
        · skip
          rw [show R.1 0 - i = 0 by omega] at hd
          have hde : drN R = (s, -1, 0) := hd.symm
          refine z_aload_n hC dX7_driven_62 rfl ?_
          refine z_getV hC dX7_driven_63 (hS _) zfX7_74 rfl hil ?_
          refine z_iconst hC dX7_driven_66 (v := -1) rfl ?_
          refine z_icmp_ne hC dX7_driven_67 (tgt := 74) (by decide) (fun c67 => ?_) (fun c67 => ?_)
          · exact absurd c67 (fun z => z rfl)
          refine z_iconst hC dX7_driven_70 (v := nI 0) rfl ?_
          refine z_goto hC dX7_driven_71 (tgt := 75) (by decide) ?_
          refine z_iret hC dX7_driven_75 ?_
          exact hE.to (by rw [hde]) (by unfold mdI; rw [hde]) rfl rfl
        · skip
          have hde : drN R = (s, nI j, 1) := hd
          refine z_aload_n hC dX7_driven_62 rfl ?_
          refine z_getV hC dX7_driven_63 (hS _) zfX7_74 rfl hil ?_
          refine z_iconst hC dX7_driven_66 (v := -1) rfl ?_
          refine z_icmp_ne hC dX7_driven_67 (tgt := 74) (by decide) (fun c67 => ?_) (fun c67 => ?_)
          rotate_left
          · exact absurd c67 (zne1 (by omega))
          refine z_iconst hC dX7_driven_74 (v := nI 1) rfl ?_
          refine z_iret hC dX7_driven_75 ?_
          exact hE.to (by rw [hde]) (by unfold mdI; rw [hde]) rfl rfl
      have hi : i < R.1 0 := by omega
      have hfal := rfall_le (v := R.1 3) hR hi hR.2.2.2.1.2
      refine z_aload_n hC dX7_driven_20 rfl ?_
      refine z_getV hC dX7_driven_21 (hS _) zfX7_74 rfl hil ?_
      refine z_iconst hC dX7_driven_24 (v := -1) rfl ?_
      refine z_icmp_ne hC dX7_driven_25 (tgt := 62) (by decide) (fun c25 => ?_) (fun c25 => ?_)
      · skip
        obtain ⟨j, hj, hlj, hd3⟩ := hd.resolve_left (fun z => c25 z.1)
        subst hlj
        · skip
          have hde : drN R = (s, nI j, 1) := hd3
          refine z_aload_n hC dX7_driven_62 rfl ?_
          refine z_getV hC dX7_driven_63 (hS _) zfX7_74 rfl hil ?_
          refine z_iconst hC dX7_driven_66 (v := -1) rfl ?_
          refine z_icmp_ne hC dX7_driven_67 (tgt := 74) (by decide) (fun c67 => ?_) (fun c67 => ?_)
          rotate_left
          · exact absurd c67 (zne1 (by omega))
          refine z_iconst hC dX7_driven_74 (v := nI 1) rfl ?_
          refine z_iret hC dX7_driven_75 ?_
          exact hE.to (by rw [hde]) (by unfold mdI; rw [hde]) rfl rfl
      have hd2 : drvN (rfall R (R.1 3)) (R.1 0 - i) i s = drN R := by
        rcases hd with ⟨-, h⟩ | ⟨j, hj, h, -⟩
        · exact h
        · exact absurd (h.symm.trans c25) (zne1 (by omega))
      have hkq : R.1 0 - i = (R.1 0 - (i + 1)) + 1 := by omega
      rw [hkq] at hd2
      refine z_aload_n hC dX7_driven_28 rfl ?_
      refine z_aload_n hC dX7_driven_29 rfl ?_
      refine z_sipush hC dX7_driven_30 (v := nI 1000) rfl ?_
      refine wVv hC dX7_driven_33 zlX7_365 (c_X7_below hS (n := 1000) (by decide) (by decide) (up3_eq _ _ _ _ _)) (hS _) rfl rfl rfl rfl rfl rfl ⟨rfl, rfl⟩ ?_
      refine z_I (I2 := up3 (up3 (up3 I b 0 15 (nI 0)) b 0 26 l) b 0 27 (nextS s)) up3_same ?_
      refine z_aload_n hC dX7_driven_36 rfl ?_
      refine z_iload_n hC dX7_driven_37 rfl ?_
      refine z_aload_n hC dX7_driven_38 rfl ?_
      refine z_getN hC dX7_driven_39 (hS _) zfX7_70 rfl (show _ = nI (R.1 3) from hq3.1.2.2.2.1) ?_
      refine wVv hC dX7_driven_42 zlX7_128 (show zC0 mX7_fallOf 0 [zr b 0, zi (nI i), zi (nI (R.1 3))] (some (zi (nI (rfall R (R.1 3) i)))) ad S _ _ Y sz _ _ Y from c_X7_fallOf (R := rseed (rlies (rforget R) l) (nextS s)) hS hq3 hRF hi hR.2.2.2.1.2) (hS _) rfl rfl rfl rfl rfl rfl ⟨rfl, rfl⟩ ?_
      refine z_nicmp_ge hC dX7_driven_45 (tgt := 52) (by decide) (by omega) (by omega) (fun c45 => ?_) (fun c45 => ?_)
      · skip
        have hnx : ((-1 : Int32) = -1 ∧ drvN (rfall R (R.1 3)) (R.1 0 - (i + 1)) (i + 1) (nextS s) = drN R ∨ ∃ j, j < 14 ∧ (-1 : Int32) = nI j ∧ drN R = (nextS s, nI j, 1)) := Or.inl ⟨rfl, by rw [← hd2]; exact (if_neg (by omega)).symm⟩
        refine z_iconst hC dX7_driven_52 (v := -1) rfl ?_
        refine z_putI hC dX7_driven_53 (hS _) zfX7_74 rfl rfl rfl rfl ?_
        refine z_I (up3_sw (by decide)) ?_
        refine z_ninc hC dX7_driven_56 (lo2 := [_, _]) rfl rfl rfl rfl ?_
        refine z_goto hC dX7_driven_59 (tgt := 12) (by decide) ?_
        exact ih (i + 1) (nextS s) _ (by omega) (by omega) hnx
      have hnx : (nI i = -1 ∧ drvN (rfall R (R.1 3)) (R.1 0 - (i + 1)) (i + 1) (nextS s) = drN R ∨ ∃ j, j < 14 ∧ nI i = nI j ∧ drN R = (nextS s, nI j, 1)) := Or.inr ⟨i, by omega, rfl, by rw [← hd2]; exact if_pos (by omega)⟩
      refine z_iload_n hC dX7_driven_48 rfl ?_
      refine z_goto hC dX7_driven_49 (tgt := 53) (by decide) ?_
      refine z_putI hC dX7_driven_53 (hS _) zfX7_74 rfl rfl rfl rfl ?_
      refine z_I (up3_sw (by decide)) ?_
      refine z_ninc hC dX7_driven_56 (lo2 := [_, _]) rfl rfl rfl rfl ?_
      refine z_goto hC dX7_driven_59 (tgt := 12) (by decide) ?_
      exact ih (i + 1) (nextS s) _ (by omega) (by omega) hnx
  refine z_I (I2 := up3 (up3 (up3 I b 0 15 (nI 0)) b 0 26 (-1)) b 0 27 R.2.2.2) (by rw [← show (up3 (up3 I b 0 15 (nI 0)) b 0 26 (-1)) b 0 27 = R.2.2.2 from by rw [up3_ne (by omega), up3_ne (by omega)]; exact hmo.1.2.2.2.2.2.2.2, up3_self]) ?_
  exact loop12 _ 0 R.2.2.2 (-1) (Nat.lt_succ_self _) (Nat.zero_le _) (Or.inl ⟨rfl, rfl⟩)

end
