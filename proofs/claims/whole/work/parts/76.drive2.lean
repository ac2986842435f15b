/-! the reference: how one drives -/
theorem zCx.mono {y : zM} {n mc ms : Nat} {args : List zV} {ad : zA} {S : zSh} {I X : zI} {Y : zY} {sz : Nat} {P P' : zP} (h : zCx y n mc ms args ad S I X Y sz P) (hP : ∀ v S' I' X' Y' sz', P v S' I' X' Y' sz' → P' v S' I' X' Y' sz') : zCx y n mc ms args ad S I X Y sz P' := fun l g =>
  Jvm.Free.MetFree.mono (h l g) (fun _ _ hh => hh) (fun _ _ _ _ _ hh => hh) fun a s o t _ hh => by
    obtain ⟨⟨v, S', I', X', Y', sz', h1, h2⟩, h3⟩ := hh
    exact ⟨⟨v, S', I', X', Y', sz', hP _ _ _ _ _ _ h1, h2⟩, h3⟩
theorem zCall.x {y : zM} {n mc ms : Nat} {args : List zV} {v : Option zV} {ad : zA} {S S' : zSh} {I X I' X' : zI} {Y Y' : zY} {sz sz' : Nat} {P : zP} (h : zCall y n mc ms args v ad S I X Y sz S' I' X' Y' sz') (hP : P v S' I' X' Y' sz') : zCx y n mc ms args ad S I X Y sz P := fun l g =>
  Jvm.Free.MetFree.mono (h l g) (fun _ _ hh => hh) (fun _ _ _ _ _ hh => hh) fun a s o t _ hh => ⟨⟨v, S', I', X', Y', sz', hP, hh.1⟩, hh.2⟩
abbrev mQ (y : zM) (n : Nat) (args : List zV) (v : Option zV) (D' : DS) (ad : zA) (S : zSh) (I X : zI) (Y : zY) (sz : Nat) (qe : Bool) : Prop := zCx y n 0 0 args ad S I X Y sz (fun v' S' I' X' Y' sz' => v' = v ∧ S' = S ∧ sz' = sz ∧ MMe qe D' I' X' Y')
theorem mC.q {y : zM} {n : Nat} {args : List zV} {v : Option zV} {D' : DS} {ad : zA} {S : zSh} {I X : zI} {Y : zY} {sz : Nat} {qe : Bool} (h : mC y n args v D' ad S I X Y sz qe) : mQ y n args v D' ad S I X Y sz qe := by
  obtain ⟨I', X', Y', h1, h2⟩ := h
  exact h2.x ⟨rfl, rfl, rfl, h1⟩
theorem mQ.of_q {y : zM} {n : Nat} {args : List zV} {v : Option zV} {D' : DS} {ad : zA} {S : zSh} {I X : zI} {Y : zY} {sz : Nat} {qe : Bool} (h : zCq y n args v ad S I X Y sz (fun I' X' => MMe qe D' I' X' Y)) : mQ y n args v D' ad S I X Y sz qe :=
  h.mono fun v' S' I' X' Y' sz' hh => ⟨hh.1, hh.2.1, hh.2.2.2.1, by rw [hh.2.2.1]; exact hh.2.2.2.2⟩
def dvO (f : Nat → Nat) : Nat → Nat × Option Nat
  | 0 => (0, none)
  | k + 1 => (dvF f k, some (f (dvF f k)))
theorem hear_le2 {R : RS} (hR : ROK R) {c : Nat} (hc : c < R.1 2) : hearN R (fwN R) c ≤ 14000000 := by
  have hcc := hR.2.2.2.2.2.2.2.2 c hc
  have h14 := hR.1
  have hsl : sumR (fwN R) (hfN (R.2.1 8) (R.2.1 8 c) (R.1 2)) (R.2.1 8 c + 1) ≤ 14 * 1000000 := Nat.le_trans (sumR_le (M := 1000000) (fun j _ hj => (fwN_le hR (by omega)).1)) (Nat.mul_le_mul_right _ (by omega))
  have := pctN (w := sumR (fwN R) (hfN (R.2.1 8) (R.2.1 8 c) (R.1 2)) (R.2.1 8 c + 1)) hcc.2.2.2
  unfold hearN
  omega
theorem hset_le2 {R : RS} (hR : ROK R) {t j : Nat} (hj : j ≤ R.1 2) : hsetN R (fwN R) t j ≤ 84000000 := by
  have h6 := hR.2.2.1
  have h1 : hsetN R (fwN R) t j ≤ j * 14000000 := sumN_le (fun i hi => by
    try dsimp only
    split
    · exact hear_le2 hR (by omega)
    · omega)
  have h2 : j * 14000000 ≤ 6 * 14000000 := Nat.mul_le_mul_right _ (by omega)
  omega
theorem mins_le2 {R : RS} (hR : ROK R) {t j : Nat} (hj : j ≤ R.1 2) : minsN R t j ≤ 600 := by
  have h6 := hR.2.2.1
  have h1 : minsN R t j ≤ j * 99 := sumN_le (fun i hi => by
    try dsimp only
    split
    · exact (hR.2.2.2.2.2.2.2.2 i (by omega)).2.2.1
    · omega)
  have h2 : j * 99 ≤ 6 * 99 := Nat.mul_le_mul_right _ (by omega)
  omega
theorem rgF_le2 {R : RS} (hR : ROK R) {v : Nat} : ∀ (k : Nat) (x : Nat), (rgF R (fwN R) v k).2 = some x → x ≤ 84000000
  | 0, x, hx => by cases hx
  | k + 1, x, hx => by
    unfold rgF at hx
    split at hx
    · cases hx
      exact hset_le2 hR (Nat.le_refl _)
    · exact rgF_le2 hR k x hx
section
variable {ad : zA} {S : zSh} {I X : zI} {Y : zY} {sz : Nat} {D : DS} {qe : Bool}

theorem w_others_t (hS : ∀ k, S 0 k = msh 0 k) (hO : DOK D) (hM : MMe qe D I X Y) {x : Nat} (hx : x ≤ 300) : zC0 mX7_others 6 [zr 0 0, zi (nI x)] (some (zi (nI (sumN (fun i => (fwN D.1) i - lftN ((fwN D.1) i) (D.1.2.1 3 i) x) (D.1.1 0))))) ad S I X Y sz (mwI 0 D.1 I) (mwX 0 D.1 X) Y := by
  refine zgo (own := RX7) (k := 4) (by decide +kernel) rfl rfl rfl (fun C hC hnm hE => ?_)
  have hm := hM.1
  have hR := hO.1
  have hmo := hm
  have hn14 := hR.1
  have hn8 := hR.2.1
  have hn6 := hR.2.2.1
  refine z_iload_n hC dX7_others_0 rfl ?_
  refine z_n2m hC dX7_others_1 (by omega) ?_
  refine z_lconst hC dX7_others_2 (v := lN 0) rfl ?_
  refine z_ldc2 hC dX7_others_3 (v := lN 300) (zin6 (i := 194) rfl rfl) ?_
  refine wSv hC dX7_others_6 zlX7_97 (c_X7_inN (by omega) (by omega) (by omega)) rfl rfl rfl rfl ⟨rfl, rfl⟩ ?_
  refine w_ifb_ne hC dX7_others_9 (tgt := 19) (by decide) (fun c9 => ?_) (fun c9 => ?_)
  rotate_left
  · exact absurd c9 (by omega)
  refine z_aload_n hC dX7_others_19 rfl ?_
  refine wV0 hC dX7_others_20 zlX7_294 (c_X7_weigh hS hm hR) (hS _) rfl rfl rfl rfl rfl rfl ⟨rfl, rfl⟩ ?_
  have hq : zQm 0 D.1 (mwI 0 D.1 I) (mwX 0 D.1 X) := hmo.mw
  have hw : mwF 0 D.1 (mwI 0 D.1 I) (mwX 0 D.1 X) := mwF_of
  have hss := fsum_le hR (Nat.le_refl _)
  have hhw := hwN_le (R := D.1)
  have hal : alN D.1 ≤ 15000000 := Nat.add_le_add hss hhw
  refine z_iconst hC dX7_others_23 (v := nI 0) rfl ?_
  refine z_istore_n hC dX7_others_24 (lo2 := [_, _, _, _, _, _]) (Nat.le_of_ble_eq_true rfl) rfl rfl ?_
  refine z_iconst hC dX7_others_25 (v := nI 0) rfl ?_
  refine z_istore_n hC dX7_others_26 (lo2 := [_, _, _, _, _, _]) (Nat.le_of_ble_eq_true rfl) rfl rfl ?_
  have loop27 : ∀ (fuel : Nat) (i : Nat), D.1.1 0 - i < fuel → i ≤ D.1.1 0 → zL C 6 ad S 0 0 sz (mwI 0 D.1 I) (mwX 0 D.1 X) Y 27 [some (zr 0 0), some (zi (nI x)), some (zi (nI (sumN (fun i => (fwN D.1) i - lftN ((fwN D.1) i) (D.1.2.1 3 i) x) i))), some (zi (nI i)), none, none] [] := by
    intro fuel
    induction fuel with
    | zero => intro i hfu; exact absurd hfu (Nat.not_lt_zero _)
    | succ fuel ih =>
      intro i hfu hin
      refine z_iload_n hC dX7_others_27 rfl ?_
      refine z_aload_n hC dX7_others_28 rfl ?_
      refine z_getN hC dX7_others_29 (hS _) zfX7_94 rfl hq.1.1 ?_
      refine z_nicmp_ge hC dX7_others_32 (tgt := 97) (by decide) (by omega) (by omega) (fun c32 => ?_) (fun c32 => ?_)
      · skip
        obtain rfl : i = D.1.1 0 := by omega
        refine z_iload_n hC dX7_others_97 rfl ?_
        refine z_iret hC dX7_others_98 ?_
        exact hE.to (by rfl) rfl rfl rfl
      have hi : i < D.1.1 0 := by omega
      have hf1 := (fwN_le hR hi).1
      have hpb := (hR.2.2.2.2.2.2.1 i hi).2.2.2.2.1
      refine z_aload_n hC dX7_others_35 rfl ?_
      refine z_getR hC dX7_others_36 (hS _) zfX7_86 rfl ?_
      refine z_iload_n hC dX7_others_39 rfl ?_
      refine z_naldN hC dX7_others_40 (hS _) (by omega) rfl (hw.2.2 _ (by omega)) ?_
      refine z_istore hC dX7_others_41 (lo2 := [_, _, _, _, _, _]) (Nat.le_of_ble_eq_true rfl) rfl rfl ?_
      refine z_iconst hC dX7_others_43 (v := nI 0) rfl ?_
      refine z_istore hC dX7_others_44 (lo2 := [_, _, _, _, _, _]) (Nat.le_of_ble_eq_true rfl) rfl rfl ?_
      have loop46 : ∀ (fuel : Nat) (k : Nat), x - k < fuel → k ≤ x → zL C 6 ad S 0 0 sz (mwI 0 D.1 I) (mwX 0 D.1 X) Y 46 [some (zr 0 0), some (zi (nI x)), some (zi (nI (sumN (fun i => (fwN D.1) i - lftN ((fwN D.1) i) (D.1.2.1 3 i) x) i))), some (zi (nI i)), some (zi (nI (lftN ((fwN D.1) i) (D.1.2.1 3 i) k))), some (zi (nI k))] [] := by
        intro fuel2
        induction fuel2 with
        | zero => intro k hfu; exact absurd hfu (Nat.not_lt_zero _)
        | succ fuel2 ih2 =>
          intro k hfu hk
          have hlf := lftN_le (w := (fwN D.1) i) (p := D.1.2.1 3 i) k
          have hlp : (lftN ((fwN D.1) i) (D.1.2.1 3 i) k) * D.1.2.1 3 i ≤ 1000000 * 1000 := Nat.mul_le_mul (by omega) hpb
          have hlq : (lftN ((fwN D.1) i) (D.1.2.1 3 i) k) * D.1.2.1 3 i ≤ (lftN ((fwN D.1) i) (D.1.2.1 3 i) k) * 1000 := Nat.mul_le_mul_left _ hpb
          refine z_iload hC dX7_others_46 rfl ?_
          refine z_iload_n hC dX7_others_48 rfl ?_
          refine z_nicmp_ge hC dX7_others_49 (tgt := 79) (by decide) (by omega) (by omega) (fun c49 => ?_) (fun c49 => ?_)
          · skip
            obtain rfl : k = x := by omega
            refine z_iload_n hC dX7_others_79 rfl ?_
            refine z_aload_n hC dX7_others_80 rfl ?_
            refine z_getR hC dX7_others_81 (hS _) zfX7_86 rfl ?_
            refine z_iload_n hC dX7_others_84 rfl ?_
            refine z_naldN hC dX7_others_85 (hS _) (by omega) rfl (hw.2.2 _ (by omega)) ?_
            refine z_iload hC dX7_others_86 rfl ?_
            refine z_nsub hC dX7_others_88 (by omega) ?_
            refine z_nadd hC dX7_others_89  ?_
            refine z_istore_n hC dX7_others_90 (lo2 := [_, _, _, _, _, _]) (Nat.le_of_ble_eq_true rfl) rfl rfl ?_
            refine z_ninc hC dX7_others_91 (lo2 := [_, _, _, _, _, _]) rfl rfl rfl rfl ?_
            refine z_goto hC dX7_others_94 (tgt := 27) (by decide) ?_
            exact z_sub (by simp [zsub]; rfl) (ih (i + 1) (by omega) (by omega))
          refine z_iload hC dX7_others_52 rfl ?_
          refine z_iload hC dX7_others_54 rfl ?_
          refine z_n2m hC dX7_others_56 (by omega) ?_
          refine z_aload_n hC dX7_others_57 rfl ?_
          refine z_getR hC dX7_others_58 (hS _) zfX7_46 rfl ?_
          refine z_iload_n hC dX7_others_61 rfl ?_
          refine z_naldN hC dX7_others_62 (hS _) (by omega) rfl (show _ = nI (D.1.2.1 3 _) from hq.2.1 3 _ (by decide) (by omega)) ?_
          refine z_n2m hC dX7_others_63 (by omega) ?_
          refine z_mmul hC dX7_others_64  ?_
          refine z_ldc2 hC dX7_others_65 (v := lN 1000) (zin5 (i := 169) rfl rfl) ?_
          refine z_mdiv hC dX7_others_68 (by omega) (by omega) (by omega) ?_
          refine z_m2n hC dX7_others_69  ?_
          refine z_nsub hC dX7_others_70 (by omega) ?_
          refine z_istore hC dX7_others_71 (lo2 := [_, _, _, _, _, _]) (Nat.le_of_ble_eq_true rfl) rfl rfl ?_
          refine z_ninc hC dX7_others_73 (lo2 := [_, _, _, _, _, _]) rfl rfl rfl rfl ?_
          refine z_goto hC dX7_others_76 (tgt := 46) (by decide) ?_
          exact z_sub (by simp [zsub]; rfl) (ih2 (k + 1) (by omega) (by omega))
      exact z_sub (by simp [zsub, lftN]) (loop46 _ 0 (Nat.lt_succ_self _) (Nat.zero_le _))
  exact z_sub (by simp [zsub, sumN]) (loop27 _ 0 (Nat.lt_succ_self _) (Nat.zero_le _))

theorem w_others_f (hS : ∀ k, S 0 k = msh 0 k) (hO : DOK D) (hM : MMe qe D I X Y) {x : Int32} (hx : ¬ iw x 0 300) : zC0 mX7_others 6 [zr 0 0, zi x] (some (zi (-2))) ad S I X Y sz I (rmX 0 0 X) Y := by
  refine zgo (own := RX7) (k := 4) (by decide +kernel) rfl rfl rfl (fun C hC hnm hE => ?_)
  have hm := hM.1
  have hR := hO.1
  have hmo := hm
  have hn14 := hR.1
  have hn8 := hR.2.1
  have hn6 := hR.2.2.1
  refine z_iload_n hC dX7_others_0 rfl ?_
  refine z_i2l hC dX7_others_1  ?_
  refine z_lconst hC dX7_others_2 (v := lN 0) rfl ?_
  refine z_ldc2 hC dX7_others_3 (v := lN 300) (zin6 (i := 194) rfl rfl) ?_
  refine wSv hC dX7_others_6 zlX7_97 (c_X7_inI (by omega) (by omega)) rfl rfl rfl rfl ⟨rfl, rfl⟩ ?_
  refine w_ifb_ne hC dX7_others_9 (tgt := 19) (by decide) (fun c9 => ?_) (fun c9 => ?_)
  · exact absurd c9 hx
  refine z_aload_n hC dX7_others_12 rfl ?_
  refine z_bipush hC dX7_others_13 (v := -2) rfl ?_
  refine wVv hC dX7_others_15 zlX7_107 (c_X7_refuse hS (j := 0) (by decide) (by decide)) (hS _) rfl rfl rfl rfl rfl rfl ⟨rfl, rfl⟩ ?_
  refine z_iret hC dX7_others_18 ?_
  exact hE.to (by rfl) rfl rfl rfl

theorem m_others (hS : ∀ k, S 0 k = msh 0 k) (hO : DOK D) (hM : MMe qe D I X Y) {x : Int32} : mC mX7_others 6 [zr 0 0, zi x] (some (zi (othersS D x).1)) (othersS D x).2 ad S I X Y sz qe := by
  unfold othersS
  by_cases h : iw x 0 300
  · rw [if_pos h]
    obtain ⟨x, -, h2, rfl, e1⟩ := iw_e h (by decide) (by decide)
    rw [e1]
    exact ⟨_, _, Y, hM.mw, w_others_t hS hO hM h2⟩
  · rw [if_neg h]
    exact ⟨I, rmX 0 0 X, Y, hM.rf (by decide), w_others_f hS hO hM h⟩

theorem w_fast_t (hS : ∀ k, S 0 k = msh 0 k) (hO : DOK D) (hM : MMe qe D I X Y) {x : Nat} (hx : x ≤ 1000000) : zCq mX7_fast 6 [zr 0 0, zi (nI x)] (some (zi (oI (faF (fun p => rheld D.1 p (D.1.1 4) (D.1.1 5)) x 9)))) ad S I X Y sz (fun I1 X1 => MMe qe D I1 X1 Y) := by
  refine zgoQ (own := RX7) (k := 2) (by decide +kernel) rfl rfl rfl (fun C hC hnm hE => ?_)
  have hm := hM.1
  have hR := hO.1
  have hmo := hm
  have hn14 := hR.1
  have hn8 := hR.2.1
  have hn6 := hR.2.2.1
  refine z_iload_n hC dX7_fast_0 rfl ?_
  refine z_n2m hC dX7_fast_1 (by omega) ?_
  refine z_lconst hC dX7_fast_2 (v := lN 0) rfl ?_
  refine z_ldc2 hC dX7_fast_3 (v := lN 1000000) (zin6 (i := 177) rfl rfl) ?_
  refine wSv hC dX7_fast_6 zlX7_97 (c_X7_inN (by omega) (by omega) (by omega)) rfl rfl rfl rfl ⟨rfl, rfl⟩ ?_
  refine w_ifb_ne hC dX7_fast_9 (tgt := 19) (by decide) (fun c9 => ?_) (fun c9 => ?_)
  rotate_left
  · exact absurd c9 (by omega)
  refine z_iconst hC dX7_fast_19 (v := -1) rfl ?_
  refine z_istore_n hC dX7_fast_20 (lo2 := [_, _, _, _]) (Nat.le_of_ble_eq_true rfl) rfl rfl ?_
  refine z_iconst hC dX7_fast_21 (v := nI 1) rfl ?_
  refine z_istore_n hC dX7_fast_22 (lo2 := [_, _, _, _]) (Nat.le_of_ble_eq_true rfl) rfl rfl ?_
  have loop23 : ∀ (fuel : Nat) (p : Nat) (I1 X1 : zI), 9 - p < fuel → p ≤ 9 → MMe qe D I1 X1 Y → zL C 4 ad S 0 0 sz I1 X1 Y 23 [some (zr 0 0), some (zi (nI x)), some (zi (oI (faF (fun p => rheld D.1 p (D.1.1 4) (D.1.1 5)) x p))), some (zi (nI (p + 1)))] [] := by
    intro fuel
    induction fuel with
    | zero => intro p I1 X1 hfu; exact absurd hfu (Nat.not_lt_zero _)
    | succ fuel ih =>
      intro p I1 X1 hfu hp hme
      have hq : zQm 0 D.1 I1 X1 := hme.1
      have hrl := rheld_le (R := D.1) (v := p + 1) (w := D.1.1 4) (g := D.1.1 5)
      refine z_iload_n hC dX7_fast_23 rfl ?_
      refine z_bipush hC dX7_fast_24 (v := nI 9) rfl ?_
      refine z_nicmp_gt hC dX7_fast_26 (tgt := 50) (by decide) (by omega) (by omega) (fun c26 => ?_) (fun c26 => ?_)
      · skip
        obtain rfl : p = 9 := by omega
        refine z_iload_n hC dX7_fast_50 rfl ?_
        refine z_iret hC dX7_fast_51 ?_
        exact (hE _ _ hme).to (by rfl) rfl rfl rfl
      refine z_aload_n hC dX7_fast_29 rfl ?_
      refine z_iload_n hC dX7_fast_30 rfl ?_
      refine wVv hC dX7_fast_31 zlX7_341 (show zC0 mX7_heldBy 2 [zr 0 0, zi (nI (p + 1))] (some (zi (nI (rheld D.1 (p + 1) (D.1.1 4) (D.1.1 5))))) ad S I1 X1 Y sz _ _ Y from c_X7_heldBy hS hq hR (by omega)) (hS _) rfl rfl rfl rfl rfl rfl ⟨rfl, rfl⟩ ?_
      refine z_iload_n hC dX7_fast_34 rfl ?_
      refine z_nicmp_lt hC dX7_fast_35 (tgt := 42) (by decide) (by omega) (by omega) (fun c35 => ?_) (fun c35 => ?_)
      · skip
        have hnx : faF (fun p => rheld D.1 p (D.1.1 4) (D.1.1 5)) x (p + 1) = faF (fun p => rheld D.1 p (D.1.1 4) (D.1.1 5)) x p := if_neg (by show ¬ (x ≤ rheld D.1 (p + 1) (D.1.1 4) (D.1.1 5)); omega)
        refine z_iload_n hC dX7_fast_42 rfl ?_
        refine z_istore_n hC dX7_fast_43 (lo2 := [_, _, _, _]) (Nat.le_of_ble_eq_true rfl) rfl rfl ?_
        refine z_ninc hC dX7_fast_44 (lo2 := [_, _, _, _]) rfl rfl rfl rfl ?_
        refine z_goto hC dX7_fast_47 (tgt := 23) (by decide) ?_
        exact z_sub (by rw [hnx]; simp [zsub, oI]) (ih (p + 1) _ _ (by omega) (by omega) hme.go)
      have hnx : faF (fun p => rheld D.1 p (D.1.1 4) (D.1.1 5)) x (p + 1) = some (p + 1) := if_pos (by show x ≤ rheld D.1 (p + 1) (D.1.1 4) (D.1.1 5); omega)
      refine z_iload_n hC dX7_fast_38 rfl ?_
      refine z_goto hC dX7_fast_39 (tgt := 43) (by decide) ?_
      refine z_istore_n hC dX7_fast_43 (lo2 := [_, _, _, _]) (Nat.le_of_ble_eq_true rfl) rfl rfl ?_
      refine z_ninc hC dX7_fast_44 (lo2 := [_, _, _, _]) rfl rfl rfl rfl ?_
      refine z_goto hC dX7_fast_47 (tgt := 23) (by decide) ?_
      exact z_sub (by rw [hnx]; simp [zsub, oI]) (ih (p + 1) _ _ (by omega) (by omega) hme.go)
  exact z_sub (by simp [zsub, faF, oI]) (loop23 _ 0 I X (Nat.lt_succ_self _) (Nat.zero_le _) hM)

theorem w_fast_f (hS : ∀ k, S 0 k = msh 0 k) (hO : DOK D) (hM : MMe qe D I X Y) {x : Int32} (hx : ¬ iw x 0 1000000) : zC0 mX7_fast 6 [zr 0 0, zi x] (some (zi (-2))) ad S I X Y sz I (rmX 0 0 X) Y := by
  refine zgo (own := RX7) (k := 2) (by decide +kernel) rfl rfl rfl (fun C hC hnm hE => ?_)
  have hm := hM.1
  have hR := hO.1
  have hmo := hm
  have hn14 := hR.1
  have hn8 := hR.2.1
  have hn6 := hR.2.2.1
  refine z_iload_n hC dX7_fast_0 rfl ?_
  refine z_i2l hC dX7_fast_1  ?_
  refine z_lconst hC dX7_fast_2 (v := lN 0) rfl ?_
  refine z_ldc2 hC dX7_fast_3 (v := lN 1000000) (zin6 (i := 177) rfl rfl) ?_
  refine wSv hC dX7_fast_6 zlX7_97 (c_X7_inI (by omega) (by omega)) rfl rfl rfl rfl ⟨rfl, rfl⟩ ?_
  refine w_ifb_ne hC dX7_fast_9 (tgt := 19) (by decide) (fun c9 => ?_) (fun c9 => ?_)
  · exact absurd c9 hx
  refine z_aload_n hC dX7_fast_12 rfl ?_
  refine z_bipush hC dX7_fast_13 (v := -2) rfl ?_
  refine wVv hC dX7_fast_15 zlX7_107 (c_X7_refuse hS (j := 0) (by decide) (by decide)) (hS _) rfl rfl rfl rfl rfl rfl ⟨rfl, rfl⟩ ?_
  refine z_iret hC dX7_fast_18 ?_
  exact hE.to (by rfl) rfl rfl rfl

theorem m_fast (hS : ∀ k, S 0 k = msh 0 k) (hO : DOK D) (hM : MMe qe D I X Y) {x : Int32} : mQ mX7_fast 6 [zr 0 0, zi x] (some (zi (fastS D x).1)) (fastS D x).2 ad S I X Y sz qe := by
  unfold fastS
  by_cases h : iw x 0 1000000
  · rw [if_pos h]
    obtain ⟨x, -, h2, rfl, e1⟩ := iw_e h (by decide) (by decide)
    rw [e1]
    exact mQ.of_q (w_fast_t hS hO hM h2)
  · rw [if_neg h]
    exact mC.q ⟨I, rmX 0 0 X, Y, hM.rf (by decide), w_fast_f hS hO hM h⟩

theorem w_drove_t (hS : ∀ k, S 0 k = msh 0 k) (hO : DOK D) (hM : MMe qe D I X Y) {x : Nat} (hx : x < D.1.1 0) : zCq mX7_drove 6 [zr 0 0, zi (nI x)] (some (zi (nI (dvF (fun p => fellN (rfall D.1 p) x) 8)))) ad S I X Y sz (fun I1 X1 => MMe qe D I1 X1 Y) := by
  refine zgoQ (own := RX7) (k := 3) (by decide +kernel) rfl rfl rfl (fun C hC hnm hE => ?_)
  have hm := hM.1
  have hR := hO.1
  have hmo := hm
  have hn14 := hR.1
  have hn8 := hR.2.1
  have hn6 := hR.2.2.1
  refine z_aload_n hC dX7_drove_0 rfl ?_
  refine z_iload_n hC dX7_drove_1 rfl ?_
  refine z_n2m hC dX7_drove_2 (by omega) ?_
  refine wVv hC dX7_drove_3 zlX7_118 (c_X7_isBendN hS hm hR (by omega)) (hS _) rfl rfl rfl rfl rfl rfl ⟨rfl, rfl⟩ ?_
  refine w_ifb_ne hC dX7_drove_6 (tgt := 16) (by decide) (fun c6 => ?_) (fun c6 => ?_)
  rotate_left
  · exact absurd c6 (by omega)
  refine z_iconst hC dX7_drove_16 (v := nI 0) rfl ?_
  refine z_istore_n hC dX7_drove_17 (lo2 := [_, _, _, _, _]) (Nat.le_of_ble_eq_true rfl) rfl rfl ?_
  refine z_iconst hC dX7_drove_18 (v := -1) rfl ?_
  refine z_istore_n hC dX7_drove_19 (lo2 := [_, _, _, _, _]) (Nat.le_of_ble_eq_true rfl) rfl rfl ?_
  refine z_iconst hC dX7_drove_20 (v := nI 1) rfl ?_
  refine z_istore hC dX7_drove_21 (lo2 := [_, _, _, _, _]) (Nat.le_of_ble_eq_true rfl) rfl rfl ?_
  have loop23 : ∀ (fuel : Nat) (p : Nat) (I1 X1 : zI), 9 - p < fuel → p ≤ 9 → MMe qe D I1 X1 Y → zL C 5 ad S 0 0 sz I1 X1 Y 23 [some (zr 0 0), some (zi (nI x)), some (zi (nI (dvO (fun p => fellN (rfall D.1 p) x) p).1)), some (zi (oI (dvO (fun p => fellN (rfall D.1 p) x) p).2)), some (zi (nI (p + 1)))] [] := by
    intro fuel
    induction fuel with
    | zero => intro p I1 X1 hfu; exact absurd hfu (Nat.not_lt_zero _)
    | succ fuel ih =>
      intro p I1 X1 hfu hp hme
      have hq : zQm 0 D.1 I1 X1 := hme.1
      refine z_iload hC dX7_drove_23 rfl ?_
      refine z_bipush hC dX7_drove_25 (v := nI 9) rfl ?_
      refine z_nicmp_gt hC dX7_drove_27 (tgt := 64) (by decide) (by omega) (by omega) (fun c27 => ?_) (fun c27 => ?_)
      · skip
        obtain rfl : p = 9 := by omega
        refine z_iload_n hC dX7_drove_64 rfl ?_
        refine z_iret hC dX7_drove_65 ?_
        exact (hE _ _ hme).to (by rfl) rfl rfl rfl
      have hfl : ∀ v, v ≤ 9 → fellN (rfall D.1 v) x ≤ 1000000 := fun v hv => Nat.le_trans (fellN_le (by have := rfall_le (v := v) hR hx hv; omega)) (heldN_le _ _)
      have hf1 := hfl (p + 1) (by omega)
      refine z_aload_n hC dX7_drove_30 rfl ?_
      refine z_iload hC dX7_drove_31 rfl ?_
      refine z_iconst hC dX7_drove_33 (v := nI 0) rfl ?_
      refine z_iconst hC dX7_drove_34 (v := -1) rfl ?_
      refine wV0 hC dX7_drove_35 zlX7_282 (c_X7_goes0 hS hq hR (by omega)) (hS _) rfl rfl rfl rfl rfl rfl ⟨rfl, rfl⟩ ?_
      rcases p with _ | k
      · skip
        have hnx : dvO (fun p => fellN (rfall D.1 p) x) (0 + 1) = (1, some (fellN (rfall D.1 1) x)) := rfl
        refine z_aload_n hC dX7_drove_38 rfl ?_
        refine z_getR hC dX7_drove_39 (hS _) zfX7_83 rfl ?_
        refine z_iload_n hC dX7_drove_42 rfl ?_
        refine z_naldN hC dX7_drove_43 (hS _) (by omega) rfl (zrow_get (f := fellN (rfall D.1 (0 + 1))) hx) ?_
        refine z_iload_n hC dX7_drove_44 rfl ?_
        refine z_icmp_le hC dX7_drove_45 (tgt := 58) (by decide) (fun c45 => ?_) (fun c45 => ?_)
        · exact absurd c45 (zm1_lt (by omega))
        refine z_iload hC dX7_drove_48 rfl ?_
        refine z_istore_n hC dX7_drove_50 (lo2 := [_, _, _, _, _]) (Nat.le_of_ble_eq_true rfl) rfl rfl ?_
        refine z_aload_n hC dX7_drove_51 rfl ?_
        refine z_getR hC dX7_drove_52 (hS _) zfX7_83 rfl ?_
        refine z_iload_n hC dX7_drove_55 rfl ?_
        refine z_naldN hC dX7_drove_56 (hS _) (by omega) rfl (zrow_get (f := fellN (rfall D.1 (0 + 1))) hx) ?_
        refine z_istore_n hC dX7_drove_57 (lo2 := [_, _, _, _, _]) (Nat.le_of_ble_eq_true rfl) rfl rfl ?_
        refine z_ninc hC dX7_drove_58 (lo2 := [_, _, _, _, _]) rfl rfl rfl rfl ?_
        refine z_goto hC dX7_drove_61 (tgt := 23) (by decide) ?_
        exact z_sub (by rw [hnx]; simp [zsub, oI]) (ih _ _ _ (by omega) (by omega) hme.go)
      · skip
        have hdl := dvF_le (f := (fun p => fellN (rfall D.1 p) x)) k
        have hf2 := hfl (dvF (fun p => fellN (rfall D.1 p) x) k) (by omega)
        show zL C 5 ad S 0 0 sz _ _ Y _ [_, _, some (zi (nI (dvF (fun p => fellN (rfall D.1 p) x) k))), some (zi (nI (fellN (rfall D.1 (dvF (fun p => fellN (rfall D.1 p) x) k)) x))), _] _
        refine z_aload_n hC dX7_drove_38 rfl ?_
        refine z_getR hC dX7_drove_39 (hS _) zfX7_83 rfl ?_
        refine z_iload_n hC dX7_drove_42 rfl ?_
        refine z_naldN hC dX7_drove_43 (hS _) (by omega) rfl (zrow_get (f := fellN (rfall D.1 (k + 1 + 1))) hx) ?_
        refine z_iload_n hC dX7_drove_44 rfl ?_
        refine z_nicmp_le hC dX7_drove_45 (tgt := 58) (by decide) (by omega) (by omega) (fun c45 => ?_) (fun c45 => ?_)
        · skip
          have hdv : dvF (fun p => fellN (rfall D.1 p) x) (k + 1) = dvF (fun p => fellN (rfall D.1 p) x) k := if_neg (by show ¬ (fellN (rfall D.1 (dvF (fun p => fellN (rfall D.1 p) x) k)) x < fellN (rfall D.1 (k + 1 + 1)) x); omega)
          have hnx : dvO (fun p => fellN (rfall D.1 p) x) (k + 1 + 1) = (dvF (fun p => fellN (rfall D.1 p) x) k, some (fellN (rfall D.1 (dvF (fun p => fellN (rfall D.1 p) x) k)) x)) := by show (dvF (fun p => fellN (rfall D.1 p) x) (k + 1), some (fellN (rfall D.1 (dvF (fun p => fellN (rfall D.1 p) x) (k + 1))) x)) = _; rw [hdv]
          refine z_ninc hC dX7_drove_58 (lo2 := [_, _, _, _, _]) rfl rfl rfl rfl ?_
          refine z_goto hC dX7_drove_61 (tgt := 23) (by decide) ?_
          exact z_sub (by rw [hnx]; simp [zsub, oI]) (ih _ _ _ (by omega) (by omega) hme.go)
        have hdv : dvF (fun p => fellN (rfall D.1 p) x) (k + 1) = k + 2 := if_pos (by show fellN (rfall D.1 (dvF (fun p => fellN (rfall D.1 p) x) k)) x < fellN (rfall D.1 (k + 1 + 1)) x; omega)
        have hnx : dvO (fun p => fellN (rfall D.1 p) x) (k + 1 + 1) = (k + 2, some (fellN (rfall D.1 (k + 2)) x)) := by show (dvF (fun p => fellN (rfall D.1 p) x) (k + 1), some (fellN (rfall D.1 (dvF (fun p => fellN (rfall D.1 p) x) (k + 1))) x)) = _; rw [hdv]
        refine z_iload hC dX7_drove_48 rfl ?_
        refine z_istore_n hC dX7_drove_50 (lo2 := [_, _, _, _, _]) (Nat.le_of_ble_eq_true rfl) rfl rfl ?_
        refine z_aload_n hC dX7_drove_51 rfl ?_
        refine z_getR hC dX7_drove_52 (hS _) zfX7_83 rfl ?_
        refine z_iload_n hC dX7_drove_55 rfl ?_
        refine z_naldN hC dX7_drove_56 (hS _) (by omega) rfl (zrow_get (f := fellN (rfall D.1 (k + 1 + 1))) hx) ?_
        refine z_istore_n hC dX7_drove_57 (lo2 := [_, _, _, _, _]) (Nat.le_of_ble_eq_true rfl) rfl rfl ?_
        refine z_ninc hC dX7_drove_58 (lo2 := [_, _, _, _, _]) rfl rfl rfl rfl ?_
        refine z_goto hC dX7_drove_61 (tgt := 23) (by decide) ?_
        exact z_sub (by rw [hnx]; simp [zsub, oI]) (ih _ _ _ (by omega) (by omega) hme.go)
  exact z_sub (by simp [zsub, dvO, oI]) (loop23 _ 0 I X (Nat.lt_succ_self _) (Nat.zero_le _) hM)

theorem w_drove_f (hS : ∀ k, S 0 k = msh 0 k) (hO : DOK D) (hM : MMe qe D I X Y) {x : Int32} (hx : ¬ inB x (D.1.1 0)) : zC0 mX7_drove 6 [zr 0 0, zi x] (some (zi (-2))) ad S I X Y sz I (rmX 0 0 X) Y := by
  refine zgo (own := RX7) (k := 3) (by decide +kernel) rfl rfl rfl (fun C hC hnm hE => ?_)
  have hm := hM.1
  have hR := hO.1
  have hmo := hm
  have hn14 := hR.1
  have hn8 := hR.2.1
  have hn6 := hR.2.2.1
  refine z_aload_n hC dX7_drove_0 rfl ?_
  refine z_iload_n hC dX7_drove_1 rfl ?_
  refine z_i2l hC dX7_drove_2  ?_
  refine wVv hC dX7_drove_3 zlX7_118 (c_X7_isBendI hS hm hR) (hS _) rfl rfl rfl rfl rfl rfl ⟨rfl, rfl⟩ ?_
  refine w_ifb_ne hC dX7_drove_6 (tgt := 16) (by decide) (fun c6 => ?_) (fun c6 => ?_)
  · exact absurd c6 hx
  refine z_aload_n hC dX7_drove_9 rfl ?_
  refine z_bipush hC dX7_drove_10 (v := -2) rfl ?_
  refine wVv hC dX7_drove_12 zlX7_107 (c_X7_refuse hS (j := 0) (by decide) (by decide)) (hS _) rfl rfl rfl rfl rfl rfl ⟨rfl, rfl⟩ ?_
  refine z_iret hC dX7_drove_15 ?_
  exact hE.to (by rfl) rfl rfl rfl

theorem m_drove (hS : ∀ k, S 0 k = msh 0 k) (hO : DOK D) (hM : MMe qe D I X Y) {x : Int32} : mQ mX7_drove 6 [zr 0 0, zi x] (some (zi (droveS D x).1)) (droveS D x).2 ad S I X Y sz qe := by
  have hn14 := hO.1.1
  unfold droveS
  by_cases h : inB x (D.1.1 0)
  · rw [if_pos h]
    obtain ⟨x, h2, rfl, e1⟩ := inB_e h (by omega)
    rw [e1]
    exact mQ.of_q (w_drove_t hS hO hM h2)
  · rw [if_neg h]
    exact mC.q ⟨I, rmX 0 0 X, Y, hM.rf (by decide), w_drove_f hS hO hM h⟩

theorem w_slows_t (hS : ∀ k, S 0 k = msh 0 k) (hO : DOK D) (hM : MMe qe D I X Y) {x : Nat} (hx : x ≤ 3) : zCq mX7_slows 6 [zr 0 0, zi (nI x)] (some (zi (nI (slF D.1 x (2 ^ D.1.1 0)).1))) ad S I X Y sz (fun I1 X1 => MMe qe D I1 X1 Y) := by
  refine zgoQ (own := RX7) (k := 3) (by decide +kernel) rfl rfl rfl (fun C hC hnm hE => ?_)
  have hm := hM.1
  have hR := hO.1
  have hmo := hm
  have hn14 := hR.1
  have hn8 := hR.2.1
  have hn6 := hR.2.2.1
  have hpw : 2 ^ D.1.1 0 ≤ 2 ^ 14 := Nat.pow_le_pow_right (by decide) hn14
  refine z_iload_n hC dX7_slows_0 rfl ?_
  refine z_n2m hC dX7_slows_1 (by omega) ?_
  refine z_lconst hC dX7_slows_2 (v := lN 0) rfl ?_
  refine z_ldc2 hC dX7_slows_3 (v := lN 3) (zin6 (i := 135) rfl rfl) ?_
  refine wSv hC dX7_slows_6 zlX7_97 (c_X7_inN (by omega) (by omega) (by omega)) rfl rfl rfl rfl ⟨rfl, rfl⟩ ?_
  refine w_ifb_ne hC dX7_slows_9 (tgt := 19) (by decide) (fun c9 => ?_) (fun c9 => ?_)
  rotate_left
  · exact absurd c9 (by omega)
  refine z_iconst hC dX7_slows_19 (v := nI 0) rfl ?_
  refine z_istore_n hC dX7_slows_20 (lo2 := [_, _, _, _, _]) (Nat.le_of_ble_eq_true rfl) rfl rfl ?_
  refine z_iconst hC dX7_slows_21 (v := -1) rfl ?_
  refine z_istore_n hC dX7_slows_22 (lo2 := [_, _, _, _, _]) (Nat.le_of_ble_eq_true rfl) rfl rfl ?_
  refine z_iconst hC dX7_slows_23 (v := nI 0) rfl ?_
  refine z_istore hC dX7_slows_24 (lo2 := [_, _, _, _, _]) (Nat.le_of_ble_eq_true rfl) rfl rfl ?_
  have loop26 : ∀ (fuel : Nat) (k : Nat) (I1 X1 : zI), 2 ^ D.1.1 0 - k < fuel → k ≤ 2 ^ D.1.1 0 → MMe qe D I1 X1 Y → zL C 5 ad S 0 0 sz I1 X1 Y 26 [some (zr 0 0), some (zi (nI x)), some (zi (nI (slF D.1 x k).1)), some (zi (oI (slF D.1 x k).2)), some (zi (nI k))] [] := by
    intro fuel
    induction fuel with
    | zero => intro k I1 X1 hfu; exact absurd hfu (Nat.not_lt_zero _)
    | succ fuel ih =>
      intro k I1 X1 hfu hk hme
      have hq : zQm 0 D.1 I1 X1 := hme.1
      have hrl := slF_le (R := D.1) (v := x) k
      have hsl := heldN_le (hflN D.1 k 0) (D.1.1 0)
      have hpc := pcN_le 14 k
      refine z_iload hC dX7_slows_26 rfl ?_
      refine z_iconst hC dX7_slows_28 (v := nI 1) rfl ?_
      refine z_aload_n hC dX7_slows_29 rfl ?_
      refine z_getN hC dX7_slows_30 (hS _) zfX7_94 rfl hq.1.1 ?_
      refine z_ishl hC dX7_slows_33  ?_
      rw [zshlB (D.1.1 0) (by omega)]
      refine z_nicmp_ge hC dX7_slows_34 (tgt := 95) (by decide) (by omega) (by omega) (fun c34 => ?_) (fun c34 => ?_)
      · skip
        obtain hk2 : k = 2 ^ D.1.1 0 := by omega
        refine z_iload_n hC dX7_slows_95 rfl ?_
        refine z_iret hC dX7_slows_96 ?_
        exact (hE _ _ hme).to (by rw [hk2]) rfl rfl rfl
      refine z_iload hC dX7_slows_37 rfl ?_
      refine wSv hC dX7_slows_39 zlX7_344 (c_X7_bits (t := k) (by omega)) rfl rfl rfl rfl ⟨rfl, rfl⟩ ?_
      refine z_iload_n hC dX7_slows_42 rfl ?_
      refine z_nicmp_gt hC dX7_slows_43 (tgt := 89) (by decide) (by omega) (by omega) (fun c43 => ?_) (fun c43 => ?_)
      · skip
        have hnx : slF D.1 x (k + 1) = (slF D.1 x k) := slF_0 (fun z => by omega)
        have hmx := hme
        refine z_ninc hC dX7_slows_89 (lo2 := [_, _, _, _, _]) rfl rfl rfl rfl ?_
        refine z_goto hC dX7_slows_92 (tgt := 26) (by decide) ?_
        exact z_sub (by rw [hnx]; simp [zsub, oI, *]) (ih (k + 1) _ _ (by omega) (by omega) hmx)
      refine z_aload_n hC dX7_slows_46 rfl ?_
      refine z_aload_n hC dX7_slows_47 rfl ?_
      refine z_getN hC dX7_slows_48 (hS _) zfX7_70 rfl hq.1.2.2.2.1 ?_
      refine z_iload hC dX7_slows_51 rfl ?_
      refine z_iconst hC dX7_slows_53 (v := -1) rfl ?_
      refine wV0 hC dX7_slows_54 zlX7_282 (c_X7_goes (o := none) hS hq hR (m1 := k) hR.2.2.2.1.2 (by omega) (fun x hx => by cases hx)) (hS _) rfl rfl rfl rfl rfl rfl ⟨rfl, rfl⟩ ?_
      have hmx : MMe qe D (up3 I1 0 0 38 (nI (heldN (gsN D.1 (D.1.1 3) k none) (D.1.1 0)))) (zrow 0 29 (fellN (gsN D.1 (D.1.1 3) k none)) (D.1.1 0) X1) Y := hme.go
      rcases ho : (slF D.1 x k).2 with _ | y
      · skip
        have hnx : slF D.1 x (k + 1) = (k, some (heldN (hflN D.1 k 0) (D.1.1 0))) := slF_1 (by omega) (by rw [ho]; rfl)
        refine z_aload_n hC dX7_slows_57 rfl ?_
        refine z_getN hC dX7_slows_58 (hS _) zfX7_276 rfl (show _ = nI (heldN (hflN D.1 k 0) (D.1.1 0)) from by rw [up3_eq, gsN_s]) ?_
        refine z_iload_n hC dX7_slows_61 rfl ?_
        refine z_icmp_le hC dX7_slows_62 (tgt := 70) (by decide) (fun c62 => ?_) (fun c62 => ?_)
        · exact absurd c62 (zm1_lt (by omega))
        refine z_iload hC dX7_slows_65 rfl ?_
        refine z_goto hC dX7_slows_67 (tgt := 71) (by decide) ?_
        skip
        · skip
          refine z_istore_n hC dX7_slows_71 (lo2 := [_, _, _, _, _]) (Nat.le_of_ble_eq_true rfl) rfl rfl ?_
          refine z_aload_n hC dX7_slows_72 rfl ?_
          refine z_getN hC dX7_slows_73 (hS _) zfX7_276 rfl (show _ = nI (heldN (hflN D.1 k 0) (D.1.1 0)) from by rw [up3_eq, gsN_s]) ?_
          refine z_iload_n hC dX7_slows_76 rfl ?_
          refine z_icmp_le hC dX7_slows_77 (tgt := 87) (by decide) (fun c77 => ?_) (fun c77 => ?_)
          · exact absurd c77 (zm1_lt (by omega))
          refine z_aload_n hC dX7_slows_80 rfl ?_
          refine z_getN hC dX7_slows_81 (hS _) zfX7_276 rfl (show _ = nI (heldN (hflN D.1 k 0) (D.1.1 0)) from by rw [up3_eq, gsN_s]) ?_
          refine z_goto hC dX7_slows_84 (tgt := 88) (by decide) ?_
          refine z_istore_n hC dX7_slows_88 (lo2 := [_, _, _, _, _]) (Nat.le_of_ble_eq_true rfl) rfl rfl ?_
          refine z_ninc hC dX7_slows_89 (lo2 := [_, _, _, _, _]) rfl rfl rfl rfl ?_
          refine z_goto hC dX7_slows_92 (tgt := 26) (by decide) ?_
          exact z_sub (by rw [hnx]; simp [zsub, oI, *]) (ih (k + 1) _ _ (by omega) (by omega) hmx)
      · skip
        have hyl := hrl y ho
        show zL C 5 ad S 0 0 sz _ _ Y _ [_, _, _, some (zi (nI y)), _] _
        refine z_aload_n hC dX7_slows_57 rfl ?_
        refine z_getN hC dX7_slows_58 (hS _) zfX7_276 rfl (show _ = nI (heldN (hflN D.1 k 0) (D.1.1 0)) from by rw [up3_eq, gsN_s]) ?_
        refine z_iload_n hC dX7_slows_61 rfl ?_
        refine z_nicmp_le hC dX7_slows_62 (tgt := 70) (by decide) (by omega) (by omega) (fun c62 => ?_) (fun c62 => ?_)
        · skip
          have hnx : slF D.1 x (k + 1) = (slF D.1 x k) := slF_0 (fun z => by have hz := z.2; rw [ho] at hz; have := of_decide_eq_true hz; omega)
          refine z_iload_n hC dX7_slows_70 rfl ?_
          skip
          · skip
            refine z_istore_n hC dX7_slows_71 (lo2 := [_, _, _, _, _]) (Nat.le_of_ble_eq_true rfl) rfl rfl ?_
            refine z_aload_n hC dX7_slows_72 rfl ?_
            refine z_getN hC dX7_slows_73 (hS _) zfX7_276 rfl (show _ = nI (heldN (hflN D.1 k 0) (D.1.1 0)) from by rw [up3_eq, gsN_s]) ?_
            refine z_iload_n hC dX7_slows_76 rfl ?_
            refine z_nicmp_le hC dX7_slows_77 (tgt := 87) (by decide) (by omega) (by omega) (fun c77 => ?_) (fun c77 => ?_)
            rotate_left
            · exact absurd c77 (by omega)
            refine z_iload_n hC dX7_slows_87 rfl ?_
            refine z_istore_n hC dX7_slows_88 (lo2 := [_, _, _, _, _]) (Nat.le_of_ble_eq_true rfl) rfl rfl ?_
            refine z_ninc hC dX7_slows_89 (lo2 := [_, _, _, _, _]) rfl rfl rfl rfl ?_
            refine z_goto hC dX7_slows_92 (tgt := 26) (by decide) ?_
            exact z_sub (by rw [hnx]; simp [zsub, oI, *]) (ih (k + 1) _ _ (by omega) (by omega) hmx)
        have hnx : slF D.1 x (k + 1) = (k, some (heldN (hflN D.1 k 0) (D.1.1 0))) := slF_1 (by omega) (by rw [ho]; exact decide_eq_true (by omega))
        refine z_iload hC dX7_slows_65 rfl ?_
        refine z_goto hC dX7_slows_67 (tgt := 71) (by decide) ?_
        skip
        · skip
          refine z_istore_n hC dX7_slows_71 (lo2 := [_, _, _, _, _]) (Nat.le_of_ble_eq_true rfl) rfl rfl ?_
          refine z_aload_n hC dX7_slows_72 rfl ?_
          refine z_getN hC dX7_slows_73 (hS _) zfX7_276 rfl (show _ = nI (heldN (hflN D.1 k 0) (D.1.1 0)) from by rw [up3_eq, gsN_s]) ?_
          refine z_iload_n hC dX7_slows_76 rfl ?_
          refine z_nicmp_le hC dX7_slows_77 (tgt := 87) (by decide) (by omega) (by omega) (fun c77 => ?_) (fun c77 => ?_)
          · exact absurd c77 (by omega)
          refine z_aload_n hC dX7_slows_80 rfl ?_
          refine z_getN hC dX7_slows_81 (hS _) zfX7_276 rfl (show _ = nI (heldN (hflN D.1 k 0) (D.1.1 0)) from by rw [up3_eq, gsN_s]) ?_
          refine z_goto hC dX7_slows_84 (tgt := 88) (by decide) ?_
          refine z_istore_n hC dX7_slows_88 (lo2 := [_, _, _, _, _]) (Nat.le_of_ble_eq_true rfl) rfl rfl ?_
          refine z_ninc hC dX7_slows_89 (lo2 := [_, _, _, _, _]) rfl rfl rfl rfl ?_
          refine z_goto hC dX7_slows_92 (tgt := 26) (by decide) ?_
          exact z_sub (by rw [hnx]; simp [zsub, oI, *]) (ih (k + 1) _ _ (by omega) (by omega) hmx)
  exact z_sub (by simp [zsub, slF, oI]) (loop26 _ 0 I X (Nat.lt_succ_self _) (Nat.zero_le _) hM)

theorem w_slows_f (hS : ∀ k, S 0 k = msh 0 k) (hO : DOK D) (hM : MMe qe D I X Y) {x : Int32} (hx : ¬ iw x 0 3) : zC0 mX7_slows 6 [zr 0 0, zi x] (some (zi (-2))) ad S I X Y sz I (rmX 0 0 X) Y := by
  refine zgo (own := RX7) (k := 3) (by decide +kernel) rfl rfl rfl (fun C hC hnm hE => ?_)
  have hm := hM.1
  have hR := hO.1
  have hmo := hm
  have hn14 := hR.1
  have hn8 := hR.2.1
  have hn6 := hR.2.2.1
  refine z_iload_n hC dX7_slows_0 rfl ?_
  refine z_i2l hC dX7_slows_1  ?_
  refine z_lconst hC dX7_slows_2 (v := lN 0) rfl ?_
  refine z_ldc2 hC dX7_slows_3 (v := lN 3) (zin6 (i := 135) rfl rfl) ?_
  refine wSv hC dX7_slows_6 zlX7_97 (c_X7_inI (by omega) (by omega)) rfl rfl rfl rfl ⟨rfl, rfl⟩ ?_
  refine w_ifb_ne hC dX7_slows_9 (tgt := 19) (by decide) (fun c9 => ?_) (fun c9 => ?_)
  · exact absurd c9 hx
  refine z_aload_n hC dX7_slows_12 rfl ?_
  refine z_bipush hC dX7_slows_13 (v := -2) rfl ?_
  refine wVv hC dX7_slows_15 zlX7_107 (c_X7_refuse hS (j := 0) (by decide) (by decide)) (hS _) rfl rfl rfl rfl rfl rfl ⟨rfl, rfl⟩ ?_
  refine z_iret hC dX7_slows_18 ?_
  exact hE.to (by rfl) rfl rfl rfl

theorem m_slows (hS : ∀ k, S 0 k = msh 0 k) (hO : DOK D) (hM : MMe qe D I X Y) {x : Int32} : mQ mX7_slows 6 [zr 0 0, zi x] (some (zi (slowsS D x).1)) (slowsS D x).2 ad S I X Y sz qe := by
  unfold slowsS
  by_cases h : iw x 0 3
  · rw [if_pos h]
    obtain ⟨x, -, h2, rfl, e1⟩ := iw_e h (by decide) (by decide)
    rw [e1]
    exact mQ.of_q (w_slows_t hS hO hM h2)
  · rw [if_neg h]
    exact mC.q ⟨I, rmX 0 0 X, Y, hM.rf (by decide), w_slows_f hS hO hM h⟩

theorem w_without_t (hS : ∀ k, S 0 k = msh 0 k) (hO : DOK D) (hM : MMe qe D I X Y) {x : Nat} (hx : x < D.1.1 0) : zCq mX7_without 6 [zr 0 0, zi (nI x)] (some (zi (nI (heldN (hflN D.1 0 (2 ^ x)) (D.1.1 0))))) ad S I X Y sz (fun I1 X1 => MMe qe D I1 X1 Y) := by
  refine zgoQ (own := RX7) (k := 0) (by decide +kernel) rfl rfl rfl (fun C hC hnm hE => ?_)
  have hm := hM.1
  have hR := hO.1
  have hmo := hm
  have hn14 := hR.1
  have hn8 := hR.2.1
  have hn6 := hR.2.2.1
  refine z_aload_n hC dX7_without_0 rfl ?_
  refine z_iload_n hC dX7_without_1 rfl ?_
  refine z_n2m hC dX7_without_2 (by omega) ?_
  refine wVv hC dX7_without_3 zlX7_118 (c_X7_isBendN hS hm hR (by omega)) (hS _) rfl rfl rfl rfl rfl rfl ⟨rfl, rfl⟩ ?_
  refine w_ifb_ne hC dX7_without_6 (tgt := 16) (by decide) (fun c6 => ?_) (fun c6 => ?_)
  rotate_left
  · exact absurd c6 (by omega)
  refine z_aload_n hC dX7_without_16 rfl ?_
  refine z_aload_n hC dX7_without_17 rfl ?_
  refine z_getN hC dX7_without_18 (hS _) zfX7_70 rfl hm.1.2.2.2.1 ?_
  refine z_iconst hC dX7_without_21 (v := nI 0) rfl ?_
  refine z_iload_n hC dX7_without_22 rfl ?_
  refine wV0 hC dX7_without_23 zlX7_282 (c_X7_goes (o := some x) hS hm hR (m1 := 0) hR.2.2.2.1.2 (by decide) (fun y hy => by cases hy; omega)) (hS _) rfl rfl rfl rfl rfl rfl ⟨rfl, rfl⟩ ?_
  refine z_aload_n hC dX7_without_26 rfl ?_
  refine z_getN hC dX7_without_27 (hS _) zfX7_276 rfl (show _ = nI (heldN (hflN D.1 0 (2 ^ x)) (D.1.1 0)) from by rw [up3_eq, gsN_b]) ?_
  refine z_iret hC dX7_without_30 ?_
  exact (hE _ _ hM.go).to (by rfl) rfl rfl rfl

theorem w_without_f (hS : ∀ k, S 0 k = msh 0 k) (hO : DOK D) (hM : MMe qe D I X Y) {x : Int32} (hx : ¬ inB x (D.1.1 0)) : zC0 mX7_without 6 [zr 0 0, zi x] (some (zi (-2))) ad S I X Y sz I (rmX 0 0 X) Y := by
  refine zgo (own := RX7) (k := 0) (by decide +kernel) rfl rfl rfl (fun C hC hnm hE => ?_)
  have hm := hM.1
  have hR := hO.1
  have hmo := hm
  have hn14 := hR.1
  have hn8 := hR.2.1
  have hn6 := hR.2.2.1
  refine z_aload_n hC dX7_without_0 rfl ?_
  refine z_iload_n hC dX7_without_1 rfl ?_
  refine z_i2l hC dX7_without_2  ?_
  refine wVv hC dX7_without_3 zlX7_118 (c_X7_isBendI hS hm hR) (hS _) rfl rfl rfl rfl rfl rfl ⟨rfl, rfl⟩ ?_
  refine w_ifb_ne hC dX7_without_6 (tgt := 16) (by decide) (fun c6 => ?_) (fun c6 => ?_)
  · exact absurd c6 hx
  refine z_aload_n hC dX7_without_9 rfl ?_
  refine z_bipush hC dX7_without_10 (v := -2) rfl ?_
  refine wVv hC dX7_without_12 zlX7_107 (c_X7_refuse hS (j := 0) (by decide) (by decide)) (hS _) rfl rfl rfl rfl rfl rfl ⟨rfl, rfl⟩ ?_
  refine z_iret hC dX7_without_15 ?_
  exact hE.to (by rfl) rfl rfl rfl

theorem m_without (hS : ∀ k, S 0 k = msh 0 k) (hO : DOK D) (hM : MMe qe D I X Y) {x : Int32} : mQ mX7_without 6 [zr 0 0, zi x] (some (zi (withoutS D x).1)) (withoutS D x).2 ad S I X Y sz qe := by
  have hn14 := hO.1.1
  unfold withoutS
  by_cases h : inB x (D.1.1 0)
  · rw [if_pos h]
    obtain ⟨x, h2, rfl, e1⟩ := inB_e h (by omega)
    rw [e1]
    exact mQ.of_q (w_without_t hS hO hM h2)
  · rw [if_neg h]
    exact mC.q ⟨I, rmX 0 0 X, Y, hM.rf (by decide), w_without_f hS hO hM h⟩

theorem w_once_t (hS : ∀ k, S 0 k = msh 0 k) (hO : DOK D) (hM : MMe qe D I X Y) {x : Nat} (hx : x ≤ 999) : zC0 mX7_once 6 [zr 0 0, zi (nI x)] (some (zi (nI (1000000 - atF (nowN D.1) x)))) ad S I X Y sz (up3 I 0 0 38 (nI (heldN (rfall D.1 (D.1.1 3)) (D.1.1 0)))) (zrow 0 29 (fellN (rfall D.1 (D.1.1 3))) (D.1.1 0) X) Y := by
  refine zgo (own := RX7) (k := 5) (by decide +kernel) rfl rfl rfl (fun C hC hnm hE => ?_)
  have hm := hM.1
  have hR := hO.1
  have hmo := hm
  have hn14 := hR.1
  have hn8 := hR.2.1
  have hn6 := hR.2.2.1
  have hrl := rheld_le (R := D.1) (v := D.1.1 3) (w := D.1.1 4) (g := D.1.1 5)
  have hal := atF_le hrl
  refine z_iload_n hC dX7_once_0 rfl ?_
  refine z_n2m hC dX7_once_1 (by omega) ?_
  refine z_lconst hC dX7_once_2 (v := lN 0) rfl ?_
  refine z_ldc2 hC dX7_once_3 (v := lN 999) (zin5 (i := 168) rfl rfl) ?_
  refine wSv hC dX7_once_6 zlX7_97 (c_X7_inN (by omega) (by omega) (by omega)) rfl rfl rfl rfl ⟨rfl, rfl⟩ ?_
  refine w_ifb_ne hC dX7_once_9 (tgt := 19) (by decide) (fun c9 => ?_) (fun c9 => ?_)
  rotate_left
  · exact absurd c9 (by omega)
  refine z_aload_n hC dX7_once_19 rfl ?_
  refine z_aload_n hC dX7_once_20 rfl ?_
  refine z_getN hC dX7_once_21 (hS _) zfX7_70 rfl hm.1.2.2.2.1 ?_
  refine wVv hC dX7_once_24 zlX7_341 (show zC0 mX7_heldBy 2 [zr 0 0, zi (nI (D.1.1 3))] (some (zi (nI (nowN D.1)))) ad S I X Y sz _ _ Y from c_X7_heldBy hS hm hR hR.2.2.2.1.2) (hS _) rfl rfl rfl rfl rfl rfl ⟨rfl, rfl⟩ ?_
  refine z_n2m hC dX7_once_27 (Nat.lt_of_le_of_lt hrl (by decide)) ?_
  refine z_lstore_n hC dX7_once_28 (lo2 := [_, _, _, _, _, _, _]) (Nat.le_of_ble_eq_true rfl) rfl rfl ?_
  refine z_ldc2 hC dX7_once_29 (v := lN 1000000) (zin6 (i := 177) rfl rfl) ?_
  refine z_lstore hC dX7_once_32 (lo2 := [_, _, _, _, _, _, _]) (Nat.le_of_ble_eq_true rfl) rfl rfl ?_
  refine z_iconst hC dX7_once_34 (v := nI 0) rfl ?_
  refine z_istore hC dX7_once_35 (lo2 := [_, _, _, _, _, _, _]) (Nat.le_of_ble_eq_true rfl) rfl rfl ?_
  have loop37 : ∀ (fuel : Nat) (k : Nat), x - k < fuel → k ≤ x → zL C 7 ad S 0 0 sz (up3 I 0 0 38 (nI (heldN (rfall D.1 (D.1.1 3)) (D.1.1 0)))) (zrow 0 29 (fellN (rfall D.1 (D.1.1 3))) (D.1.1 0) X) Y 37 [some (zr 0 0), some (zi (nI x)), some (zl (lN (nowN D.1))), none, some (zl (lN (atF (nowN D.1) k))), none, some (zi (nI k))] [] := by
    intro fuel
    induction fuel with
    | zero => intro k hfu; exact absurd hfu (Nat.not_lt_zero _)
    | succ fuel ih =>
      intro k hfu hk
      have hak := hal k
      have hmk : atF (nowN D.1) k * nowN D.1 ≤ 1000000 * 1000000 := Nat.mul_le_mul hak hrl
      refine z_iload hC dX7_once_37 rfl ?_
      refine z_iload_n hC dX7_once_39 rfl ?_
      refine z_nicmp_ge hC dX7_once_40 (tgt := 59) (by decide) (by omega) (by omega) (fun c40 => ?_) (fun c40 => ?_)
      · skip
        obtain rfl : k = x := by omega
        refine z_ldcw hC dX7_once_59 (v := nI 1000000) (zin6 (i := 80) rfl rfl) ?_
        refine z_lload hC dX7_once_62 rfl ?_
        refine z_m2n hC dX7_once_64  ?_
        refine z_nsub hC dX7_once_65 (by omega) ?_
        refine z_iret hC dX7_once_66 ?_
        exact hE.to (by rfl) rfl rfl rfl
      refine z_lload hC dX7_once_43 rfl ?_
      refine z_lload_n hC dX7_once_45 rfl ?_
      refine z_mmul hC dX7_once_46  ?_
      refine z_ldc2 hC dX7_once_47 (v := lN 1000000) (zin6 (i := 177) rfl rfl) ?_
      refine z_mdiv hC dX7_once_50 (by omega) (by omega) (by omega) ?_
      refine z_lstore hC dX7_once_51 (lo2 := [_, _, _, _, _, _, _]) (Nat.le_of_ble_eq_true rfl) rfl rfl ?_
      refine z_ninc hC dX7_once_53 (lo2 := [_, _, _, _, _, _, _]) rfl rfl rfl rfl ?_
      refine z_goto hC dX7_once_56 (tgt := 37) (by decide) ?_
      exact z_sub (by simp [zsub]; rfl) (ih (k + 1) (by omega) (by omega))
  exact z_sub (by simp [zsub, atF]) (loop37 _ 0 (Nat.lt_succ_self _) (Nat.zero_le _))

theorem w_once_f (hS : ∀ k, S 0 k = msh 0 k) (hO : DOK D) (hM : MMe qe D I X Y) {x : Int32} (hx : ¬ iw x 0 999) : zC0 mX7_once 6 [zr 0 0, zi x] (some (zi (-2))) ad S I X Y sz I (rmX 0 0 X) Y := by
  refine zgo (own := RX7) (k := 5) (by decide +kernel) rfl rfl rfl (fun C hC hnm hE => ?_)
  have hm := hM.1
  have hR := hO.1
  have hmo := hm
  have hn14 := hR.1
  have hn8 := hR.2.1
  have hn6 := hR.2.2.1
  refine z_iload_n hC dX7_once_0 rfl ?_
  refine z_i2l hC dX7_once_1  ?_
  refine z_lconst hC dX7_once_2 (v := lN 0) rfl ?_
  refine z_ldc2 hC dX7_once_3 (v := lN 999) (zin5 (i := 168) rfl rfl) ?_
  refine wSv hC dX7_once_6 zlX7_97 (c_X7_inI (by omega) (by omega)) rfl rfl rfl rfl ⟨rfl, rfl⟩ ?_
  refine w_ifb_ne hC dX7_once_9 (tgt := 19) (by decide) (fun c9 => ?_) (fun c9 => ?_)
  · exact absurd c9 hx
  refine z_aload_n hC dX7_once_12 rfl ?_
  refine z_bipush hC dX7_once_13 (v := -2) rfl ?_
  refine wVv hC dX7_once_15 zlX7_107 (c_X7_refuse hS (j := 0) (by decide) (by decide)) (hS _) rfl rfl rfl rfl rfl rfl ⟨rfl, rfl⟩ ?_
  refine z_iret hC dX7_once_18 ?_
  exact hE.to (by rfl) rfl rfl rfl

theorem m_once (hS : ∀ k, S 0 k = msh 0 k) (hO : DOK D) (hM : MMe qe D I X Y) {x : Int32} : mC mX7_once 6 [zr 0 0, zi x] (some (zi (onceS D x).1)) (onceS D x).2 ad S I X Y sz qe := by
  unfold onceS
  by_cases h : iw x 0 999
  · rw [if_pos h]
    obtain ⟨x, -, h2, rfl, e1⟩ := iw_e h (by decide) (by decide)
    rw [e1]
    exact ⟨_, _, Y, hM.go, w_once_t hS hO hM h2⟩
  · rw [if_neg h]
    exact ⟨I, rmX 0 0 X, Y, hM.rf (by decide), w_once_f hS hO hM h⟩

theorem w_until_t (hS : ∀ k, S 0 k = msh 0 k) (hO : DOK D) (hM : MMe qe D I X Y) {x : Nat} (hx : x ≤ 1000000) : zC0 mX7_until 6 [zr 0 0, zi (nI x)] (some (zi (oI (fsF (fun k => 1000000 - atF (nowN D.1) k) x 1000 0)))) ad S I X Y sz (up3 I 0 0 38 (nI (heldN (rfall D.1 (D.1.1 3)) (D.1.1 0)))) (zrow 0 29 (fellN (rfall D.1 (D.1.1 3))) (D.1.1 0) X) Y := by
  refine zgo (own := RX7) (k := 5) (by decide +kernel) rfl rfl rfl (fun C hC hnm hE => ?_)
  have hm := hM.1
  have hR := hO.1
  have hmo := hm
  have hn14 := hR.1
  have hn8 := hR.2.1
  have hn6 := hR.2.2.1
  have hrl := rheld_le (R := D.1) (v := D.1.1 3) (w := D.1.1 4) (g := D.1.1 5)
  have hal := atF_le hrl
  refine z_iload_n hC dX7_until_0 rfl ?_
  refine z_n2m hC dX7_until_1 (by omega) ?_
  refine z_lconst hC dX7_until_2 (v := lN 0) rfl ?_
  refine z_ldc2 hC dX7_until_3 (v := lN 1000000) (zin6 (i := 177) rfl rfl) ?_
  refine wSv hC dX7_until_6 zlX7_97 (c_X7_inN (by omega) (by omega) (by omega)) rfl rfl rfl rfl ⟨rfl, rfl⟩ ?_
  refine w_ifb_ne hC dX7_until_9 (tgt := 19) (by decide) (fun c9 => ?_) (fun c9 => ?_)
  rotate_left
  · exact absurd c9 (by omega)
  refine z_aload_n hC dX7_until_19 rfl ?_
  refine z_aload_n hC dX7_until_20 rfl ?_
  refine z_getN hC dX7_until_21 (hS _) zfX7_70 rfl hm.1.2.2.2.1 ?_
  refine wVv hC dX7_until_24 zlX7_341 (show zC0 mX7_heldBy 2 [zr 0 0, zi (nI (D.1.1 3))] (some (zi (nI (nowN D.1)))) ad S I X Y sz _ _ Y from c_X7_heldBy hS hm hR hR.2.2.2.1.2) (hS _) rfl rfl rfl rfl rfl rfl ⟨rfl, rfl⟩ ?_
  refine z_n2m hC dX7_until_27 (Nat.lt_of_le_of_lt hrl (by decide)) ?_
  refine z_lstore_n hC dX7_until_28 (lo2 := [_, _, _, _, _, _, _]) (Nat.le_of_ble_eq_true rfl) rfl rfl ?_
  refine z_ldc2 hC dX7_until_29 (v := lN 1000000) (zin6 (i := 177) rfl rfl) ?_
  refine z_lstore hC dX7_until_32 (lo2 := [_, _, _, _, _, _, _]) (Nat.le_of_ble_eq_true rfl) rfl rfl ?_
  refine z_iconst hC dX7_until_34 (v := nI 0) rfl ?_
  refine z_istore hC dX7_until_35 (lo2 := [_, _, _, _, _, _, _]) (Nat.le_of_ble_eq_true rfl) rfl rfl ?_
  have loop37 : ∀ (fuel : Nat) (k : Nat), 1000 - k < fuel → k ≤ 1000 → fsF (fun k => 1000000 - atF (nowN D.1) k) x (1000 - k) k = fsF (fun k => 1000000 - atF (nowN D.1) k) x 1000 0 → zL C 7 ad S 0 0 sz (up3 I 0 0 38 (nI (heldN (rfall D.1 (D.1.1 3)) (D.1.1 0)))) (zrow 0 29 (fellN (rfall D.1 (D.1.1 3))) (D.1.1 0) X) Y 37 [some (zr 0 0), some (zi (nI x)), some (zl (lN (nowN D.1))), none, some (zl (lN (atF (nowN D.1) k))), none, some (zi (nI k))] [] := by
    intro fuel
    induction fuel with
    | zero => intro k hfu; exact absurd hfu (Nat.not_lt_zero _)
    | succ fuel ih =>
      intro k hfu hk hh
      have hak := hal k
      have hmk : atF (nowN D.1) k * nowN D.1 ≤ 1000000 * 1000000 := Nat.mul_le_mul hak hrl
      refine z_iload hC dX7_until_37 rfl ?_
      refine z_sipush hC dX7_until_39 (v := nI 999) rfl ?_
      refine z_nicmp_gt hC dX7_until_42 (tgt := 76) (by decide) (by omega) (by omega) (fun c42 => ?_) (fun c42 => ?_)
      · skip
        refine z_iconst hC dX7_until_76 (v := -1) rfl ?_
        refine z_iret hC dX7_until_77 ?_
        exact hE.to (by rw [← hh, show 1000 - k = 0 by omega]; rfl) rfl rfl rfl
      refine z_ldc2 hC dX7_until_45 (v := lN 1000000) (zin6 (i := 177) rfl rfl) ?_
      refine z_lload hC dX7_until_48 rfl ?_
      refine z_msub hC dX7_until_50 (by omega) ?_
      refine z_iload_n hC dX7_until_51 rfl ?_
      refine z_n2m hC dX7_until_52 (by omega) ?_
      refine z_lcmp hC dX7_until_53  ?_
      refine z_if_lt hC dX7_until_54 (tgt := 60) (by decide) (fun c54 => ?_) (fun c54 => ?_)
      · skip
        rw [zlcmp_lt (by omega) (by omega)] at c54
        refine z_lload hC dX7_until_60 rfl ?_
        refine z_lload_n hC dX7_until_62 rfl ?_
        refine z_mmul hC dX7_until_63  ?_
        refine z_ldc2 hC dX7_until_64 (v := lN 1000000) (zin6 (i := 177) rfl rfl) ?_
        refine z_mdiv hC dX7_until_67 (by omega) (by omega) (by omega) ?_
        refine z_lstore hC dX7_until_68 (lo2 := [_, _, _, _, _, _, _]) (Nat.le_of_ble_eq_true rfl) rfl rfl ?_
        refine z_ninc hC dX7_until_70 (lo2 := [_, _, _, _, _, _, _]) rfl rfl rfl rfl ?_
        refine z_goto hC dX7_until_73 (tgt := 37) (by decide) ?_
        refine z_sub (by simp [zsub]; rfl) (ih (k + 1) (by omega) (by omega) ?_)
        rw [← hh, show 1000 - k = (1000 - (k + 1)) + 1 by omega]
        exact (if_neg (by show ¬ (x ≤ 1000000 - atF (nowN D.1) k); omega)).symm
      rw [zlcmp_lt (by omega) (by omega)] at c54
      refine z_iload hC dX7_until_57 rfl ?_
      refine z_iret hC dX7_until_59 ?_
      exact hE.to (by rw [← hh, show 1000 - k = (1000 - (k + 1)) + 1 by omega]; show some (zi (oI (if x ≤ 1000000 - atF (nowN D.1) k then some k else _))) = _; rw [if_pos (by omega)]; rfl) rfl rfl rfl
  exact z_sub (by simp [zsub, atF]) (loop37 _ 0 (Nat.lt_succ_self _) (Nat.zero_le _) rfl)

theorem w_until_f (hS : ∀ k, S 0 k = msh 0 k) (hO : DOK D) (hM : MMe qe D I X Y) {x : Int32} (hx : ¬ iw x 0 1000000) : zC0 mX7_until 6 [zr 0 0, zi x] (some (zi (-2))) ad S I X Y sz I (rmX 0 0 X) Y := by
  refine zgo (own := RX7) (k := 5) (by decide +kernel) rfl rfl rfl (fun C hC hnm hE => ?_)
  have hm := hM.1
  have hR := hO.1
  have hmo := hm
  have hn14 := hR.1
  have hn8 := hR.2.1
  have hn6 := hR.2.2.1
  refine z_iload_n hC dX7_until_0 rfl ?_
  refine z_i2l hC dX7_until_1  ?_
  refine z_lconst hC dX7_until_2 (v := lN 0) rfl ?_
  refine z_ldc2 hC dX7_until_3 (v := lN 1000000) (zin6 (i := 177) rfl rfl) ?_
  refine wSv hC dX7_until_6 zlX7_97 (c_X7_inI (by omega) (by omega)) rfl rfl rfl rfl ⟨rfl, rfl⟩ ?_
  refine w_ifb_ne hC dX7_until_9 (tgt := 19) (by decide) (fun c9 => ?_) (fun c9 => ?_)
  · exact absurd c9 hx
  refine z_aload_n hC dX7_until_12 rfl ?_
  refine z_bipush hC dX7_until_13 (v := -2) rfl ?_
  refine wVv hC dX7_until_15 zlX7_107 (c_X7_refuse hS (j := 0) (by decide) (by decide)) (hS _) rfl rfl rfl rfl rfl rfl ⟨rfl, rfl⟩ ?_
  refine z_iret hC dX7_until_18 ?_
  exact hE.to (by rfl) rfl rfl rfl

theorem m_until (hS : ∀ k, S 0 k = msh 0 k) (hO : DOK D) (hM : MMe qe D I X Y) {x : Int32} : mC mX7_until 6 [zr 0 0, zi x] (some (zi (untilS D x).1)) (untilS D x).2 ad S I X Y sz qe := by
  unfold untilS
  by_cases h : iw x 0 1000000
  · rw [if_pos h]
    obtain ⟨x, -, h2, rfl, e1⟩ := iw_e h (by decide) (by decide)
    rw [e1]
    exact ⟨_, _, Y, hM.go, w_until_t hS hO hM h2⟩
  · rw [if_neg h]
    exact ⟨I, rmX 0 0 X, Y, hM.rf (by decide), w_until_f hS hO hM h⟩

theorem w_worth_t (hS : ∀ k, S 0 k = msh 0 k) (hO : DOK D) (hM : MMe qe D I X Y) {x y u : Nat} (hx : x ≤ 999) (hy : y ≤ 999) (hu : u ≤ 9999) : zC0 mX7_worth 6 [zr 0 0, zi (nI x), zi (nI y), zi (nI u)] (some (zi (nI (x * y * (1000000 - nowN D.1) / 1000000) - nI u))) ad S I X Y sz (up3 I 0 0 38 (nI (heldN (rfall D.1 (D.1.1 3)) (D.1.1 0)))) (zrow 0 29 (fellN (rfall D.1 (D.1.1 3))) (D.1.1 0) X) Y := by
  refine zgo (own := RX7) (k := 2) (by decide +kernel) rfl rfl rfl (fun C hC hnm hE => ?_)
  have hm := hM.1
  have hR := hO.1
  have hmo := hm
  have hn14 := hR.1
  have hn8 := hR.2.1
  have hn6 := hR.2.2.1
  have hrl := rheld_le (R := D.1) (v := D.1.1 3) (w := D.1.1 4) (g := D.1.1 5)
  have hal := atF_le hrl
  have hxy : x * y ≤ 999 * 999 := Nat.mul_le_mul hx hy
  have hxyz : x * y * (1000000 - nowN D.1) ≤ 999 * 999 * 1000000 := Nat.mul_le_mul hxy (by omega)
  refine z_iload_n hC dX7_worth_0 rfl ?_
  refine z_n2m hC dX7_worth_1 (by omega) ?_
  refine z_lconst hC dX7_worth_2 (v := lN 0) rfl ?_
  refine z_ldc2 hC dX7_worth_3 (v := lN 999) (zin5 (i := 168) rfl rfl) ?_
  refine wSv hC dX7_worth_6 zlX7_97 (c_X7_inN (by omega) (by omega) (by omega)) rfl rfl rfl rfl ⟨rfl, rfl⟩ ?_
  refine w_ifb_eq hC dX7_worth_9 (tgt := 36) (by decide) (fun c9 => ?_) (fun c9 => ?_)
  · exact absurd c9 (by omega)
  refine z_iload_n hC dX7_worth_12 rfl ?_
  refine z_n2m hC dX7_worth_13 (by omega) ?_
  refine z_lconst hC dX7_worth_14 (v := lN 0) rfl ?_
  refine z_ldc2 hC dX7_worth_15 (v := lN 999) (zin5 (i := 168) rfl rfl) ?_
  refine wSv hC dX7_worth_18 zlX7_97 (c_X7_inN (by omega) (by omega) (by omega)) rfl rfl rfl rfl ⟨rfl, rfl⟩ ?_
  refine w_ifb_eq hC dX7_worth_21 (tgt := 36) (by decide) (fun c21 => ?_) (fun c21 => ?_)
  · exact absurd c21 (by omega)
  refine z_iload_n hC dX7_worth_24 rfl ?_
  refine z_n2m hC dX7_worth_25 (by omega) ?_
  refine z_lconst hC dX7_worth_26 (v := lN 0) rfl ?_
  refine z_ldc2 hC dX7_worth_27 (v := lN 9999) (zin7 (i := 18) rfl rfl) ?_
  refine wSv hC dX7_worth_30 zlX7_97 (c_X7_inN (by omega) (by omega) (by omega)) rfl rfl rfl rfl ⟨rfl, rfl⟩ ?_
  refine w_ifb_ne hC dX7_worth_33 (tgt := 47) (by decide) (fun c33 => ?_) (fun c33 => ?_)
  rotate_left
  · exact absurd c33 (by omega)
  refine z_iload_n hC dX7_worth_47 rfl ?_
  refine z_n2m hC dX7_worth_48 (by omega) ?_
  refine z_iload_n hC dX7_worth_49 rfl ?_
  refine z_n2m hC dX7_worth_50 (by omega) ?_
  refine z_mmul hC dX7_worth_51  ?_
  refine z_ldcw hC dX7_worth_52 (v := nI 1000000) (zin6 (i := 80) rfl rfl) ?_
  refine z_aload_n hC dX7_worth_55 rfl ?_
  refine z_aload_n hC dX7_worth_56 rfl ?_
  refine z_getN hC dX7_worth_57 (hS _) zfX7_70 rfl hm.1.2.2.2.1 ?_
  refine wVv hC dX7_worth_60 zlX7_341 (show zC0 mX7_heldBy 2 [zr 0 0, zi (nI (D.1.1 3))] (some (zi (nI (nowN D.1)))) ad S I X Y sz _ _ Y from c_X7_heldBy hS hm hR hR.2.2.2.1.2) (hS _) rfl rfl rfl rfl rfl rfl ⟨rfl, rfl⟩ ?_
  refine z_nsub hC dX7_worth_63 (by omega) ?_
  refine z_n2m hC dX7_worth_64 (by omega) ?_
  refine z_mmul hC dX7_worth_65  ?_
  refine z_ldc2 hC dX7_worth_66 (v := lN 1000000) (zin6 (i := 177) rfl rfl) ?_
  refine z_mdiv hC dX7_worth_69 (by omega) (by omega) (by omega) ?_
  refine z_lstore hC dX7_worth_70 (lo2 := [_, _, _, _, _, _]) (Nat.le_of_ble_eq_true rfl) rfl rfl ?_
  refine z_lload hC dX7_worth_72 rfl ?_
  refine z_m2n hC dX7_worth_74  ?_
  refine z_iload_n hC dX7_worth_75 rfl ?_
  refine z_isub hC dX7_worth_76  ?_
  refine z_iret hC dX7_worth_77 ?_
  exact hE.to (by rfl) rfl rfl rfl

theorem w_worth_f (hS : ∀ k, S 0 k = msh 0 k) (hO : DOK D) (hM : MMe qe D I X Y) {x y u : Int32} (hx : ¬ (iw x 0 999 ∧ iw y 0 999 ∧ iw u 0 9999)) : zC0 mX7_worth 6 [zr 0 0, zi x, zi y, zi u] (some (zi (-10000000 + -2))) ad S I X Y sz I (rmX 0 0 X) Y := by
  refine zgo (own := RX7) (k := 2) (by decide +kernel) rfl rfl rfl (fun C hC hnm hE => ?_)
  have hm := hM.1
  have hR := hO.1
  have hmo := hm
  have hn14 := hR.1
  have hn8 := hR.2.1
  have hn6 := hR.2.2.1
  refine z_iload_n hC dX7_worth_0 rfl ?_
  refine z_i2l hC dX7_worth_1  ?_
  refine z_lconst hC dX7_worth_2 (v := lN 0) rfl ?_
  refine z_ldc2 hC dX7_worth_3 (v := lN 999) (zin5 (i := 168) rfl rfl) ?_
  refine wSv hC dX7_worth_6 zlX7_97 (c_X7_inI (by omega) (by omega)) rfl rfl rfl rfl ⟨rfl, rfl⟩ ?_
  refine w_ifb_eq hC dX7_worth_9 (tgt := 36) (by decide) (fun c9 => ?_) (fun c9 => ?_)
  · skip
    refine z_aload_n hC dX7_worth_36 rfl ?_
    refine z_bipush hC dX7_worth_37 (v := -2) rfl ?_
    refine wVv hC dX7_worth_39 zlX7_107 (c_X7_refuse hS (j := 0) (by decide) (by decide)) (hS _) rfl rfl rfl rfl rfl rfl ⟨rfl, rfl⟩ ?_
    refine z_ldcw hC dX7_worth_42 (v := -10000000) (zin7 (i := 19) rfl rfl) ?_
    refine z_iadd hC dX7_worth_45  ?_
    refine z_iret hC dX7_worth_46 ?_
    exact hE.to (by decide) rfl rfl rfl
  refine z_iload_n hC dX7_worth_12 rfl ?_
  refine z_i2l hC dX7_worth_13  ?_
  refine z_lconst hC dX7_worth_14 (v := lN 0) rfl ?_
  refine z_ldc2 hC dX7_worth_15 (v := lN 999) (zin5 (i := 168) rfl rfl) ?_
  refine wSv hC dX7_worth_18 zlX7_97 (c_X7_inI (by omega) (by omega)) rfl rfl rfl rfl ⟨rfl, rfl⟩ ?_
  refine w_ifb_eq hC dX7_worth_21 (tgt := 36) (by decide) (fun c21 => ?_) (fun c21 => ?_)
  · skip
    refine z_aload_n hC dX7_worth_36 rfl ?_
    refine z_bipush hC dX7_worth_37 (v := -2) rfl ?_
    refine wVv hC dX7_worth_39 zlX7_107 (c_X7_refuse hS (j := 0) (by decide) (by decide)) (hS _) rfl rfl rfl rfl rfl rfl ⟨rfl, rfl⟩ ?_
    refine z_ldcw hC dX7_worth_42 (v := -10000000) (zin7 (i := 19) rfl rfl) ?_
    refine z_iadd hC dX7_worth_45  ?_
    refine z_iret hC dX7_worth_46 ?_
    exact hE.to (by decide) rfl rfl rfl
  refine z_iload_n hC dX7_worth_24 rfl ?_
  refine z_i2l hC dX7_worth_25  ?_
  refine z_lconst hC dX7_worth_26 (v := lN 0) rfl ?_
  refine z_ldc2 hC dX7_worth_27 (v := lN 9999) (zin7 (i := 18) rfl rfl) ?_
  refine wSv hC dX7_worth_30 zlX7_97 (c_X7_inI (by omega) (by omega)) rfl rfl rfl rfl ⟨rfl, rfl⟩ ?_
  refine w_ifb_ne hC dX7_worth_33 (tgt := 47) (by decide) (fun c33 => ?_) (fun c33 => ?_)
  · exact absurd c33 (fun z => hx ⟨c9, c21, z⟩)
  refine z_aload_n hC dX7_worth_36 rfl ?_
  refine z_bipush hC dX7_worth_37 (v := -2) rfl ?_
  refine wVv hC dX7_worth_39 zlX7_107 (c_X7_refuse hS (j := 0) (by decide) (by decide)) (hS _) rfl rfl rfl rfl rfl rfl ⟨rfl, rfl⟩ ?_
  refine z_ldcw hC dX7_worth_42 (v := -10000000) (zin7 (i := 19) rfl rfl) ?_
  refine z_iadd hC dX7_worth_45  ?_
  refine z_iret hC dX7_worth_46 ?_
  exact hE.to (by decide) rfl rfl rfl

theorem m_worth (hS : ∀ k, S 0 k = msh 0 k) (hO : DOK D) (hM : MMe qe D I X Y) {x y u : Int32} : mC mX7_worth 6 [zr 0 0, zi x, zi y, zi u] (some (zi (worthS D x y u).1)) (worthS D x y u).2 ad S I X Y sz qe := by
  unfold worthS
  by_cases h : iw x 0 999 ∧ iw y 0 999 ∧ iw u 0 9999
  · rw [if_pos h]
    obtain ⟨x, -, h1, rfl, e1⟩ := iw_e h.1 (by decide) (by decide)
    obtain ⟨y, -, h2, rfl, e2⟩ := iw_e h.2.1 (by decide) (by decide)
    obtain ⟨u, -, h3, rfl, e3⟩ := iw_e h.2.2 (by decide) (by decide)
    rw [e1, e2, e3]
    exact ⟨_, _, Y, hM.go, w_worth_t hS hO hM h1 h2 h3⟩
  · rw [if_neg h]
    exact ⟨I, rmX 0 0 X, Y, hM.rf (by decide), w_worth_f hS hO hM h⟩

theorem w_hears_t (hS : ∀ k, S 0 k = msh 0 k) (hO : DOK D) (hM : MMe qe D I X Y) {x : Nat} (hx : x < D.1.1 2) : zC0 mX7_hears 6 [zr 0 0, zi (nI x)] (some (zi (nI (hearN D.1 (fwN D.1) x)))) ad S I X Y sz (mwI 0 D.1 I) (mwX 0 D.1 X) Y := by
  refine zgo (own := RX7) (k := 0) (by decide +kernel) rfl rfl rfl (fun C hC hnm hE => ?_)
  have hm := hM.1
  have hR := hO.1
  have hmo := hm
  have hn14 := hR.1
  have hn8 := hR.2.1
  have hn6 := hR.2.2.1
  refine z_iload_n hC dX7_hears_0 rfl ?_
  refine z_n2m hC dX7_hears_1 (by omega) ?_
  refine z_lconst hC dX7_hears_2 (v := lN 0) rfl ?_
  refine z_aload_n hC dX7_hears_3 rfl ?_
  refine z_getN hC dX7_hears_4 (hS _) zfX7_163 rfl hm.1.2.2.1 ?_
  refine z_iconst hC dX7_hears_7 (v := nI 1) rfl ?_
  refine z_nsub hC dX7_hears_8 (by omega) ?_
  refine z_n2m hC dX7_hears_9 (by omega) ?_
  refine wSv hC dX7_hears_10 zlX7_97 (c_X7_inN (by omega) (by omega) (by omega)) rfl rfl rfl rfl ⟨rfl, rfl⟩ ?_
  refine w_ifb_ne hC dX7_hears_13 (tgt := 23) (by decide) (fun c13 => ?_) (fun c13 => ?_)
  rotate_left
  · exact absurd c13 (by omega)
  refine z_aload_n hC dX7_hears_23 rfl ?_
  refine wV0 hC dX7_hears_24 zlX7_294 (c_X7_weigh hS hm hR) (hS _) rfl rfl rfl rfl rfl rfl ⟨rfl, rfl⟩ ?_
  have hq : zQm 0 D.1 (mwI 0 D.1 I) (mwX 0 D.1 X) := hmo.mw
  have hw : mwF 0 D.1 (mwI 0 D.1 I) (mwX 0 D.1 X) := mwF_of
  have hss := fsum_le hR (Nat.le_refl _)
  have hhw := hwN_le (R := D.1)
  have hal : alN D.1 ≤ 15000000 := Nat.add_le_add hss hhw
  refine z_aload_n hC dX7_hears_27 rfl ?_
  refine z_iload_n hC dX7_hears_28 rfl ?_
  refine wVv hC dX7_hears_29 zlX7_347 (c_X7_hearsOf hS hq hR hw hx) (hS _) rfl rfl rfl rfl rfl rfl ⟨rfl, rfl⟩ ?_
  refine z_iret hC dX7_hears_32 ?_
  exact hE.to (by rfl) rfl rfl rfl

theorem w_hears_f (hS : ∀ k, S 0 k = msh 0 k) (hO : DOK D) (hM : MMe qe D I X Y) {x : Int32} (hx : ¬ inB x (D.1.1 2)) : zC0 mX7_hears 6 [zr 0 0, zi x] (some (zi (-2))) ad S I X Y sz I (rmX 0 0 X) Y := by
  refine zgo (own := RX7) (k := 0) (by decide +kernel) rfl rfl rfl (fun C hC hnm hE => ?_)
  have hm := hM.1
  have hR := hO.1
  have hmo := hm
  have hn14 := hR.1
  have hn8 := hR.2.1
  have hn6 := hR.2.2.1
  refine z_iload_n hC dX7_hears_0 rfl ?_
  refine z_i2l hC dX7_hears_1  ?_
  refine z_lconst hC dX7_hears_2 (v := lN 0) rfl ?_
  refine z_aload_n hC dX7_hears_3 rfl ?_
  refine z_getN hC dX7_hears_4 (hS _) zfX7_163 rfl hm.1.2.2.1 ?_
  refine z_iconst hC dX7_hears_7 (v := nI 1) rfl ?_
  refine z_isub hC dX7_hears_8  ?_
  refine z_i2l hC dX7_hears_9  ?_
  refine wSv hC dX7_hears_10 zlX7_97 (c_X7_inB (by omega)) rfl rfl rfl rfl ⟨rfl, rfl⟩ ?_
  refine w_ifb_ne hC dX7_hears_13 (tgt := 23) (by decide) (fun c13 => ?_) (fun c13 => ?_)
  · exact absurd c13 hx
  refine z_aload_n hC dX7_hears_16 rfl ?_
  refine z_bipush hC dX7_hears_17 (v := -2) rfl ?_
  refine wVv hC dX7_hears_19 zlX7_107 (c_X7_refuse hS (j := 0) (by decide) (by decide)) (hS _) rfl rfl rfl rfl rfl rfl ⟨rfl, rfl⟩ ?_
  refine z_iret hC dX7_hears_22 ?_
  exact hE.to (by rfl) rfl rfl rfl

theorem m_hears (hS : ∀ k, S 0 k = msh 0 k) (hO : DOK D) (hM : MMe qe D I X Y) {x : Int32} : mC mX7_hears 6 [zr 0 0, zi x] (some (zi (hearsS D x).1)) (hearsS D x).2 ad S I X Y sz qe := by
  have hn14 := hO.1.2.2.1
  unfold hearsS
  by_cases h : inB x (D.1.1 2)
  · rw [if_pos h]
    obtain ⟨x, h2, rfl, e1⟩ := inB_e h (by omega)
    rw [e1]
    exact ⟨_, _, Y, hM.mw, w_hears_t hS hO hM h2⟩
  · rw [if_neg h]
    exact ⟨I, rmX 0 0 X, Y, hM.rf (by decide), w_hears_f hS hO hM h⟩

theorem w_soonest_t (hS : ∀ k, S 0 k = msh 0 k) (hO : DOK D) (hM : MMe qe D I X Y) {x : Nat} (hx : x ≤ 1000000) : zC0 mX7_soonest 6 [zr 0 0, zi (nI x)] (some (zi (oI (soF (fun t => (plF D.1 (D.1.1 0) t).1) x 901 0)))) ad S I X Y sz (mwI 0 D.1 I) (moX 0 D.1 (mwX 0 D.1 X) (D.1.1 0)) Y := by
  refine zgo (own := RX7) (k := 1) (by decide +kernel) rfl rfl rfl (fun C hC hnm hE => ?_)
  have hm := hM.1
  have hR := hO.1
  have hmo := hm
  have hn14 := hR.1
  have hn8 := hR.2.1
  have hn6 := hR.2.2.1
  refine z_iload_n hC dX7_soonest_0 rfl ?_
  refine z_n2m hC dX7_soonest_1 (by omega) ?_
  refine z_lconst hC dX7_soonest_2 (v := lN 0) rfl ?_
  refine z_ldc2 hC dX7_soonest_3 (v := lN 1000000) (zin6 (i := 177) rfl rfl) ?_
  refine wSv hC dX7_soonest_6 zlX7_97 (c_X7_inN (by omega) (by omega) (by omega)) rfl rfl rfl rfl ⟨rfl, rfl⟩ ?_
  refine w_ifb_ne hC dX7_soonest_9 (tgt := 19) (by decide) (fun c9 => ?_) (fun c9 => ?_)
  rotate_left
  · exact absurd c9 (by omega)
  refine z_aload_n hC dX7_soonest_19 rfl ?_
  refine wV0 hC dX7_soonest_20 zlX7_327 (c_X7_findMost hS hm hR) (hS _) rfl rfl rfl rfl rfl rfl ⟨rfl, rfl⟩ ?_
  refine z_iconst hC dX7_soonest_23 (v := nI 0) rfl ?_
  refine z_istore_n hC dX7_soonest_24 (lo2 := [_, _, _]) (Nat.le_of_ble_eq_true rfl) rfl rfl ?_
  have loop25 : ∀ (fuel : Nat) (t : Nat), 901 - t < fuel → t ≤ 901 → soF (fun t => (plF D.1 (D.1.1 0) t).1) x (901 - t) t = soF (fun t => (plF D.1 (D.1.1 0) t).1) x 901 0 → zL C 3 ad S 0 0 sz (mwI 0 D.1 I) (moX 0 D.1 (mwX 0 D.1 X) (D.1.1 0)) Y 25 [some (zr 0 0), some (zi (nI x)), some (zi (nI t))] [] := by
    intro fuel
    induction fuel with
    | zero => intro t hfu; exact absurd hfu (Nat.not_lt_zero _)
    | succ fuel ih =>
      intro t hfu ht hh
      have hpl := (plF_le hR (Nat.le_refl (D.1.1 0)) (t := t)).1
      refine z_iload_n hC dX7_soonest_25 rfl ?_
      refine z_sipush hC dX7_soonest_26 (v := nI 900) rfl ?_
      refine z_nicmp_gt hC dX7_soonest_29 (tgt := 55) (by decide) (by omega) (by omega) (fun c29 => ?_) (fun c29 => ?_)
      · skip
        refine z_iconst hC dX7_soonest_55 (v := -1) rfl ?_
        refine z_iret hC dX7_soonest_56 ?_
        exact hE.to (by rw [← hh, show 901 - t = 0 by omega]; rfl) rfl rfl rfl
      refine z_aload_n hC dX7_soonest_32 rfl ?_
      refine z_getR hC dX7_soonest_33 (hS _) zfX7_91 rfl ?_
      refine z_iconst hC dX7_soonest_36 (v := nI 0) rfl ?_
      refine z_aald hC (by decide) dX7_soonest_37 (hS _) (by rw [List.length_map, List.length_range]; exact vp_in_nI (by omega) (by decide)) (msel (by decide)) ?_
      refine z_iload_n hC dX7_soonest_38 rfl ?_
      refine z_naldN hC dX7_soonest_39 ((hS _).trans (msh_most (by omega)).1) (by omega) rfl (show _ = nI (plF D.1 (D.1.1 0) t).1 from by have h := moX_get (b := 0) (R := D.1) (X := (mwX 0 D.1 X)) (t := t) (k := D.1.1 0) (j := D.1.1 0) (by omega) (Nat.le_refl _) (Nat.le_refl _); rwa [Nat.sub_self] at h) ?_
      refine z_iload_n hC dX7_soonest_40 rfl ?_
      refine z_nicmp_lt hC dX7_soonest_41 (tgt := 49) (by decide) (by omega) (by omega) (fun c41 => ?_) (fun c41 => ?_)
      · skip
        refine z_ninc hC dX7_soonest_49 (lo2 := [_, _, _]) rfl rfl rfl rfl ?_
        refine z_goto hC dX7_soonest_52 (tgt := 25) (by decide) ?_
        refine ih (t + 1) (by omega) (by omega) ?_
        rw [← hh, show 901 - t = (901 - (t + 1)) + 1 by omega]
        exact (if_neg (by show ¬ (x ≤ (plF D.1 (D.1.1 0) t).1); omega)).symm
      refine z_bipush hC dX7_soonest_44 (v := nI 10) rfl ?_
      refine z_iload_n hC dX7_soonest_46 rfl ?_
      refine z_nmul hC dX7_soonest_47  ?_
      refine z_iret hC dX7_soonest_48 ?_
      exact hE.to (by rw [← hh, show 901 - t = (901 - (t + 1)) + 1 by omega]; show some (zi (oI (if x ≤ (plF D.1 (D.1.1 0) t).1 then some (10 * t) else _))) = _; rw [if_pos (by omega)]; rfl) rfl rfl rfl
  exact loop25 _ 0 (Nat.lt_succ_self _) (Nat.zero_le _) rfl

theorem w_soonest_f (hS : ∀ k, S 0 k = msh 0 k) (hO : DOK D) (hM : MMe qe D I X Y) {x : Int32} (hx : ¬ iw x 0 1000000) : zC0 mX7_soonest 6 [zr 0 0, zi x] (some (zi (-2))) ad S I X Y sz I (rmX 0 0 X) Y := by
  refine zgo (own := RX7) (k := 1) (by decide +kernel) rfl rfl rfl (fun C hC hnm hE => ?_)
  have hm := hM.1
  have hR := hO.1
  have hmo := hm
  have hn14 := hR.1
  have hn8 := hR.2.1
  have hn6 := hR.2.2.1
  refine z_iload_n hC dX7_soonest_0 rfl ?_
  refine z_i2l hC dX7_soonest_1  ?_
  refine z_lconst hC dX7_soonest_2 (v := lN 0) rfl ?_
  refine z_ldc2 hC dX7_soonest_3 (v := lN 1000000) (zin6 (i := 177) rfl rfl) ?_
  refine wSv hC dX7_soonest_6 zlX7_97 (c_X7_inI (by omega) (by omega)) rfl rfl rfl rfl ⟨rfl, rfl⟩ ?_
  refine w_ifb_ne hC dX7_soonest_9 (tgt := 19) (by decide) (fun c9 => ?_) (fun c9 => ?_)
  · exact absurd c9 hx
  refine z_aload_n hC dX7_soonest_12 rfl ?_
  refine z_bipush hC dX7_soonest_13 (v := -2) rfl ?_
  refine wVv hC dX7_soonest_15 zlX7_107 (c_X7_refuse hS (j := 0) (by decide) (by decide)) (hS _) rfl rfl rfl rfl rfl rfl ⟨rfl, rfl⟩ ?_
  refine z_iret hC dX7_soonest_18 ?_
  exact hE.to (by rfl) rfl rfl rfl

theorem m_soonest (hS : ∀ k, S 0 k = msh 0 k) (hO : DOK D) (hM : MMe qe D I X Y) {x : Int32} : mC mX7_soonest 6 [zr 0 0, zi x] (some (zi (soonestS D x).1)) (soonestS D x).2 ad S I X Y sz qe := by
  unfold soonestS
  by_cases h : iw x 0 1000000
  · rw [if_pos h]
    obtain ⟨x, -, h2, rfl, e1⟩ := iw_e h (by decide) (by decide)
    rw [e1]
    exact ⟨_, _, Y, hM.mo, w_soonest_t hS hO hM h2⟩
  · rw [if_neg h]
    exact ⟨I, rmX 0 0 X, Y, hM.rf (by decide), w_soonest_f hS hO hM h⟩

theorem w_rings_t (hS : ∀ k, S 0 k = msh 0 k) (hO : DOK D) (hM : MMe qe D I X Y) {x : Nat} (hx : x ≤ 999) : zC0 mX7_rings 6 [zr 0 0, zi (nI x)] (some (zi (nI (rgF D.1 (fwN D.1) x (2 ^ D.1.1 2)).1))) ad S I X Y sz (mwI 0 D.1 I) (mwX 0 D.1 X) Y := by
  refine zgo (own := RX7) (k := 6) (by decide +kernel) rfl rfl rfl (fun C hC hnm hE => ?_)
  have hm := hM.1
  have hR := hO.1
  have hmo := hm
  have hn14 := hR.1
  have hn8 := hR.2.1
  have hn6 := hR.2.2.1
  have hpw : 2 ^ D.1.1 2 ≤ 2 ^ 6 := Nat.pow_le_pow_right (by decide) hR.2.2.1
  refine z_iload_n hC dX7_rings_0 rfl ?_
  refine z_n2m hC dX7_rings_1 (by omega) ?_
  refine z_lconst hC dX7_rings_2 (v := lN 0) rfl ?_
  refine z_ldc2 hC dX7_rings_3 (v := lN 999) (zin5 (i := 168) rfl rfl) ?_
  refine wSv hC dX7_rings_6 zlX7_97 (c_X7_inN (by omega) (by omega) (by omega)) rfl rfl rfl rfl ⟨rfl, rfl⟩ ?_
  refine w_ifb_ne hC dX7_rings_9 (tgt := 19) (by decide) (fun c9 => ?_) (fun c9 => ?_)
  rotate_left
  · exact absurd c9 (by omega)
  refine z_aload_n hC dX7_rings_19 rfl ?_
  refine wV0 hC dX7_rings_20 zlX7_294 (c_X7_weigh hS hm hR) (hS _) rfl rfl rfl rfl rfl rfl ⟨rfl, rfl⟩ ?_
  have hq : zQm 0 D.1 (mwI 0 D.1 I) (mwX 0 D.1 X) := hmo.mw
  have hw : mwF 0 D.1 (mwI 0 D.1 I) (mwX 0 D.1 X) := mwF_of
  have hss := fsum_le hR (Nat.le_refl _)
  have hhw := hwN_le (R := D.1)
  have hal : alN D.1 ≤ 15000000 := Nat.add_le_add hss hhw
  refine z_iconst hC dX7_rings_23 (v := nI 0) rfl ?_
  refine z_istore_n hC dX7_rings_24 (lo2 := [_, _, _, _, _, _, _, _]) (Nat.le_of_ble_eq_true rfl) rfl rfl ?_
  refine z_iconst hC dX7_rings_25 (v := -1) rfl ?_
  refine z_istore_n hC dX7_rings_26 (lo2 := [_, _, _, _, _, _, _, _]) (Nat.le_of_ble_eq_true rfl) rfl rfl ?_
  refine z_iconst hC dX7_rings_27 (v := nI 0) rfl ?_
  refine z_istore hC dX7_rings_28 (lo2 := [_, _, _, _, _, _, _, _]) (Nat.le_of_ble_eq_true rfl) rfl rfl ?_
  have loop30 : ∀ (fuel : Nat) (k : Nat), 2 ^ D.1.1 2 - k < fuel → k ≤ 2 ^ D.1.1 2 → zL C 8 ad S 0 0 sz (mwI 0 D.1 I) (mwX 0 D.1 X) Y 30 [some (zr 0 0), some (zi (nI x)), some (zi (nI (rgF D.1 (fwN D.1) x k).1)), some (zi (oI (rgF D.1 (fwN D.1) x k).2)), some (zi (nI k)), none, none, none] [] := by
    intro fuel
    induction fuel with
    | zero => intro k hfu; exact absurd hfu (Nat.not_lt_zero _)
    | succ fuel ih =>
      intro k hfu hk
      have hrl := rgF_le2 hR (v := x) k
      refine z_iload hC dX7_rings_30 rfl ?_
      refine z_iconst hC dX7_rings_32 (v := nI 1) rfl ?_
      refine z_aload_n hC dX7_rings_33 rfl ?_
      refine z_getN hC dX7_rings_34 (hS _) zfX7_163 rfl hq.1.2.2.1 ?_
      refine z_ishl hC dX7_rings_37  ?_
      rw [zshl1 (D.1.1 2) (by omega)]
      refine z_nicmp_ge hC dX7_rings_38 (tgt := 140) (by decide) (by omega) (by omega) (fun c38 => ?_) (fun c38 => ?_)
      · skip
        obtain hk2 : k = 2 ^ D.1.1 2 := by omega
        refine z_iload_n hC dX7_rings_140 rfl ?_
        refine z_iret hC dX7_rings_141 ?_
        exact hE.to (by rw [hk2]) rfl rfl rfl
      refine z_iconst hC dX7_rings_41 (v := nI 0) rfl ?_
      refine z_istore hC dX7_rings_42 (lo2 := [_, _, _, _, _, _, _, _]) (Nat.le_of_ble_eq_true rfl) rfl rfl ?_
      refine z_iconst hC dX7_rings_44 (v := nI 0) rfl ?_
      refine z_istore hC dX7_rings_45 (lo2 := [_, _, _, _, _, _, _, _]) (Nat.le_of_ble_eq_true rfl) rfl rfl ?_
      refine z_iconst hC dX7_rings_47 (v := nI 0) rfl ?_
      refine z_istore hC dX7_rings_48 (lo2 := [_, _, _, _, _, _, _, _]) (Nat.le_of_ble_eq_true rfl) rfl rfl ?_
      have loop50 : ∀ (fuel : Nat) (j : Nat), D.1.1 2 - j < fuel → j ≤ D.1.1 2 → zL C 8 ad S 0 0 sz (mwI 0 D.1 I) (mwX 0 D.1 X) Y 50 [some (zr 0 0), some (zi (nI x)), some (zi (nI (rgF D.1 (fwN D.1) x k).1)), some (zi (oI (rgF D.1 (fwN D.1) x k).2)), some (zi (nI k)), some (zi (nI (minsN D.1 k j))), some (zi (nI (hsetN D.1 (fwN D.1) k j))), some (zi (nI j))] [] := by
        intro fuel2
        induction fuel2 with
        | zero => intro j hfu; exact absurd hfu (Nat.not_lt_zero _)
        | succ fuel2 ih2 =>
          intro j hfu hjn
          have hml := mins_le2 hR (t := k) (j := j) (by omega)
          have hsl := hset_le2 hR (t := k) (j := j) (by omega)
          refine z_iload hC dX7_rings_50 rfl ?_
          refine z_aload_n hC dX7_rings_52 rfl ?_
          refine z_getN hC dX7_rings_53 (hS _) zfX7_163 rfl hq.1.2.2.1 ?_
          refine z_nicmp_ge hC dX7_rings_56 (tgt := 116) (by decide) (by omega) (by omega) (fun c56 => ?_) (fun c56 => ?_)
          · skip
            have hjn2 : j = D.1.1 2 := by omega
            subst hjn2
            refine z_iload hC dX7_rings_116 rfl ?_
            refine z_iload_n hC dX7_rings_118 rfl ?_
            refine z_nicmp_gt hC dX7_rings_119 (tgt := 134) (by decide) (by omega) (by omega) (fun c119 => ?_) (fun c119 => ?_)
            · skip
              have hnx : rgF D.1 (fwN D.1) x (k + 1) = (rgF D.1 (fwN D.1) x k) := rgF_0 (fun z => by omega)
              refine z_ninc hC dX7_rings_134 (lo2 := [_, _, _, _, _, _, _, _]) rfl rfl rfl rfl ?_
              refine z_goto hC dX7_rings_137 (tgt := 30) (by decide) ?_
              exact z_sub (by rw [hnx]; simp [zsub, oI, *]) (ih (k + 1) (by omega) (by omega))
            rcases ho : (rgF D.1 (fwN D.1) x k).2 with _ | y
            · skip
              have hnx : rgF D.1 (fwN D.1) x (k + 1) = (k, some (hsetN D.1 (fwN D.1) k (D.1.1 2))) := rgF_1 (by omega) (by rw [ho]; rfl)
              refine z_iload hC dX7_rings_122 rfl ?_
              refine z_iload_n hC dX7_rings_124 rfl ?_
              refine z_icmp_le hC dX7_rings_125 (tgt := 134) (by decide) (fun c125 => ?_) (fun c125 => ?_)
              · exact absurd c125 (zm1_lt (by omega))
              refine z_iload hC dX7_rings_128 rfl ?_
              refine z_istore_n hC dX7_rings_130 (lo2 := [_, _, _, _, _, _, _, _]) (Nat.le_of_ble_eq_true rfl) rfl rfl ?_
              refine z_iload hC dX7_rings_131 rfl ?_
              refine z_istore_n hC dX7_rings_133 (lo2 := [_, _, _, _, _, _, _, _]) (Nat.le_of_ble_eq_true rfl) rfl rfl ?_
              refine z_ninc hC dX7_rings_134 (lo2 := [_, _, _, _, _, _, _, _]) rfl rfl rfl rfl ?_
              refine z_goto hC dX7_rings_137 (tgt := 30) (by decide) ?_
              exact z_sub (by rw [hnx]; simp [zsub, oI, *]) (ih (k + 1) (by omega) (by omega))
            · skip
              have hyl := hrl y ho
              show zL C 8 ad S 0 0 sz _ _ Y _ [_, _, _, some (zi (nI y)), _, _, _, _] _
              refine z_iload hC dX7_rings_122 rfl ?_
              refine z_iload_n hC dX7_rings_124 rfl ?_
              refine z_nicmp_le hC dX7_rings_125 (tgt := 134) (by decide) (by omega) (by omega) (fun c125 => ?_) (fun c125 => ?_)
              · skip
                have hnx : rgF D.1 (fwN D.1) x (k + 1) = (rgF D.1 (fwN D.1) x k) := rgF_0 (fun z => by have hz := z.2; rw [ho] at hz; have := of_decide_eq_true hz; omega)
                refine z_ninc hC dX7_rings_134 (lo2 := [_, _, _, _, _, _, _, _]) rfl rfl rfl rfl ?_
                refine z_goto hC dX7_rings_137 (tgt := 30) (by decide) ?_
                exact z_sub (by rw [hnx]; simp [zsub, oI, *]) (ih (k + 1) (by omega) (by omega))
              have hnx : rgF D.1 (fwN D.1) x (k + 1) = (k, some (hsetN D.1 (fwN D.1) k (D.1.1 2))) := rgF_1 (by omega) (by rw [ho]; exact decide_eq_true (by omega))
              refine z_iload hC dX7_rings_128 rfl ?_
              refine z_istore_n hC dX7_rings_130 (lo2 := [_, _, _, _, _, _, _, _]) (Nat.le_of_ble_eq_true rfl) rfl rfl ?_
              refine z_iload hC dX7_rings_131 rfl ?_
              refine z_istore_n hC dX7_rings_133 (lo2 := [_, _, _, _, _, _, _, _]) (Nat.le_of_ble_eq_true rfl) rfl rfl ?_
              refine z_ninc hC dX7_rings_134 (lo2 := [_, _, _, _, _, _, _, _]) rfl rfl rfl rfl ?_
              refine z_goto hC dX7_rings_137 (tgt := 30) (by decide) ?_
              exact z_sub (by rw [hnx]; simp [zsub, oI, *]) (ih (k + 1) (by omega) (by omega))
          have hj : j < D.1.1 2 := by omega
          have hcb := hR.2.2.2.2.2.2.2.2 j hj
          have hhl := hear_le2 hR hj
          refine z_iload hC dX7_rings_59 rfl ?_
          refine z_iload hC dX7_rings_61 rfl ?_
          refine z_iload hC dX7_rings_63 rfl ?_
          refine wSv hC dX7_rings_65 zlX7_279 (c_X7_has (by omega) (by omega)) rfl rfl rfl rfl ⟨rfl, rfl⟩ ?_
          refine w_ifb_eq hC dX7_rings_68 (tgt := 81) (by decide) (fun c68 => ?_) (fun c68 => ?_)
          · skip
            have hmj : minsN D.1 k (j + 1) = (minsN D.1 k j) + 0 := congrArg ((minsN D.1 k j) + ·) (if_neg c68)
            refine z_iconst hC dX7_rings_81 (v := nI 0) rfl ?_
            refine z_nadd hC dX7_rings_82  ?_
            refine z_istore hC dX7_rings_83 (lo2 := [_, _, _, _, _, _, _, _]) (Nat.le_of_ble_eq_true rfl) rfl rfl ?_
            refine z_iload hC dX7_rings_85 rfl ?_
            refine z_iload hC dX7_rings_87 rfl ?_
            refine z_iload hC dX7_rings_89 rfl ?_
            refine wSv hC dX7_rings_91 zlX7_279 (c_X7_has (by omega) (by omega)) rfl rfl rfl rfl ⟨rfl, rfl⟩ ?_
            refine w_ifb_eq hC dX7_rings_94 (tgt := 106) (by decide) (fun c94 => ?_) (fun c94 => ?_)
            · skip
              have hhj : hsetN D.1 (fwN D.1) k (j + 1) = (hsetN D.1 (fwN D.1) k j) + 0 := congrArg ((hsetN D.1 (fwN D.1) k j) + ·) (if_neg c94)
              refine z_iconst hC dX7_rings_106 (v := nI 0) rfl ?_
              refine z_nadd hC dX7_rings_107  ?_
              refine z_istore hC dX7_rings_108 (lo2 := [_, _, _, _, _, _, _, _]) (Nat.le_of_ble_eq_true rfl) rfl rfl ?_
              refine z_ninc hC dX7_rings_110 (lo2 := [_, _, _, _, _, _, _, _]) rfl rfl rfl rfl ?_
              refine z_goto hC dX7_rings_113 (tgt := 50) (by decide) ?_
              exact z_sub (by rw [hmj, hhj]; simp [zsub]) (ih2 (j + 1) (by omega) (by omega))
            have hhj : hsetN D.1 (fwN D.1) k (j + 1) = (hsetN D.1 (fwN D.1) k j) + hearN D.1 (fwN D.1) j := congrArg ((hsetN D.1 (fwN D.1) k j) + ·) (if_pos c94)
            refine z_aload_n hC dX7_rings_97 rfl ?_
            refine z_iload hC dX7_rings_98 rfl ?_
            refine wVv hC dX7_rings_100 zlX7_347 (c_X7_hearsOf hS hq hR hw hj) (hS _) rfl rfl rfl rfl rfl rfl ⟨rfl, rfl⟩ ?_
            refine z_goto hC dX7_rings_103 (tgt := 107) (by decide) ?_
            refine z_nadd hC dX7_rings_107  ?_
            refine z_istore hC dX7_rings_108 (lo2 := [_, _, _, _, _, _, _, _]) (Nat.le_of_ble_eq_true rfl) rfl rfl ?_
            refine z_ninc hC dX7_rings_110 (lo2 := [_, _, _, _, _, _, _, _]) rfl rfl rfl rfl ?_
            refine z_goto hC dX7_rings_113 (tgt := 50) (by decide) ?_
            exact z_sub (by rw [hmj, hhj]; simp [zsub]) (ih2 (j + 1) (by omega) (by omega))
          have hmj : minsN D.1 k (j + 1) = (minsN D.1 k j) + D.1.2.1 9 j := congrArg ((minsN D.1 k j) + ·) (if_pos c68)
          refine z_aload_n hC dX7_rings_71 rfl ?_
          refine z_getR hC dX7_rings_72 (hS _) zfX7_64 rfl ?_
          refine z_iload hC dX7_rings_75 rfl ?_
          refine z_naldN hC dX7_rings_77 (hS _) (by omega) rfl (show _ = nI (D.1.2.1 9 _) from hq.2.2.2 1 _ (by decide) (by omega)) ?_
          refine z_goto hC dX7_rings_78 (tgt := 82) (by decide) ?_
          refine z_nadd hC dX7_rings_82  ?_
          refine z_istore hC dX7_rings_83 (lo2 := [_, _, _, _, _, _, _, _]) (Nat.le_of_ble_eq_true rfl) rfl rfl ?_
          refine z_iload hC dX7_rings_85 rfl ?_
          refine z_iload hC dX7_rings_87 rfl ?_
          refine z_iload hC dX7_rings_89 rfl ?_
          refine wSv hC dX7_rings_91 zlX7_279 (c_X7_has (by omega) (by omega)) rfl rfl rfl rfl ⟨rfl, rfl⟩ ?_
          refine w_ifb_eq hC dX7_rings_94 (tgt := 106) (by decide) (fun c94 => ?_) (fun c94 => ?_)
          · skip
            have hhj : hsetN D.1 (fwN D.1) k (j + 1) = (hsetN D.1 (fwN D.1) k j) + 0 := congrArg ((hsetN D.1 (fwN D.1) k j) + ·) (if_neg c94)
            refine z_iconst hC dX7_rings_106 (v := nI 0) rfl ?_
            refine z_nadd hC dX7_rings_107  ?_
            refine z_istore hC dX7_rings_108 (lo2 := [_, _, _, _, _, _, _, _]) (Nat.le_of_ble_eq_true rfl) rfl rfl ?_
            refine z_ninc hC dX7_rings_110 (lo2 := [_, _, _, _, _, _, _, _]) rfl rfl rfl rfl ?_
            refine z_goto hC dX7_rings_113 (tgt := 50) (by decide) ?_
            exact z_sub (by rw [hmj, hhj]; simp [zsub]) (ih2 (j + 1) (by omega) (by omega))
          have hhj : hsetN D.1 (fwN D.1) k (j + 1) = (hsetN D.1 (fwN D.1) k j) + hearN D.1 (fwN D.1) j := congrArg ((hsetN D.1 (fwN D.1) k j) + ·) (if_pos c94)
          refine z_aload_n hC dX7_rings_97 rfl ?_
          refine z_iload hC dX7_rings_98 rfl ?_
          refine wVv hC dX7_rings_100 zlX7_347 (c_X7_hearsOf hS hq hR hw hj) (hS _) rfl rfl rfl rfl rfl rfl ⟨rfl, rfl⟩ ?_
          refine z_goto hC dX7_rings_103 (tgt := 107) (by decide) ?_
          refine z_nadd hC dX7_rings_107  ?_
          refine z_istore hC dX7_rings_108 (lo2 := [_, _, _, _, _, _, _, _]) (Nat.le_of_ble_eq_true rfl) rfl rfl ?_
          refine z_ninc hC dX7_rings_110 (lo2 := [_, _, _, _, _, _, _, _]) rfl rfl rfl rfl ?_
          refine z_goto hC dX7_rings_113 (tgt := 50) (by decide) ?_
          exact z_sub (by rw [hmj, hhj]; simp [zsub]) (ih2 (j + 1) (by omega) (by omega))
      exact z_sub (by simp [zsub, minsN, hsetN, sumN]) (loop50 _ 0 (Nat.lt_succ_self _) (Nat.zero_le _))
  exact z_sub (by simp [zsub, rgF, oI]) (loop30 _ 0 (Nat.lt_succ_self _) (Nat.zero_le _))

theorem w_rings_f (hS : ∀ k, S 0 k = msh 0 k) (hO : DOK D) (hM : MMe qe D I X Y) {x : Int32} (hx : ¬ iw x 0 999) : zC0 mX7_rings 6 [zr 0 0, zi x] (some (zi (-2))) ad S I X Y sz I (rmX 0 0 X) Y := by
  refine zgo (own := RX7) (k := 6) (by decide +kernel) rfl rfl rfl (fun C hC hnm hE => ?_)
  have hm := hM.1
  have hR := hO.1
  have hmo := hm
  have hn14 := hR.1
  have hn8 := hR.2.1
  have hn6 := hR.2.2.1
  refine z_iload_n hC dX7_rings_0 rfl ?_
  refine z_i2l hC dX7_rings_1  ?_
  refine z_lconst hC dX7_rings_2 (v := lN 0) rfl ?_
  refine z_ldc2 hC dX7_rings_3 (v := lN 999) (zin5 (i := 168) rfl rfl) ?_
  refine wSv hC dX7_rings_6 zlX7_97 (c_X7_inI (by omega) (by omega)) rfl rfl rfl rfl ⟨rfl, rfl⟩ ?_
  refine w_ifb_ne hC dX7_rings_9 (tgt := 19) (by decide) (fun c9 => ?_) (fun c9 => ?_)
  · exact absurd c9 hx
  refine z_aload_n hC dX7_rings_12 rfl ?_
  refine z_bipush hC dX7_rings_13 (v := -2) rfl ?_
  refine wVv hC dX7_rings_15 zlX7_107 (c_X7_refuse hS (j := 0) (by decide) (by decide)) (hS _) rfl rfl rfl rfl rfl rfl ⟨rfl, rfl⟩ ?_
  refine z_iret hC dX7_rings_18 ?_
  exact hE.to (by rfl) rfl rfl rfl

theorem m_rings (hS : ∀ k, S 0 k = msh 0 k) (hO : DOK D) (hM : MMe qe D I X Y) {x : Int32} : mC mX7_rings 6 [zr 0 0, zi x] (some (zi (ringsS D x).1)) (ringsS D x).2 ad S I X Y sz qe := by
  unfold ringsS
  by_cases h : iw x 0 999
  · rw [if_pos h]
    obtain ⟨x, -, h2, rfl, e1⟩ := iw_e h (by decide) (by decide)
    rw [e1]
    exact ⟨_, _, Y, hM.mw, w_rings_t hS hO hM h2⟩
  · rw [if_neg h]
    exact ⟨I, rmX 0 0 X, Y, hM.rf (by decide), w_rings_f hS hO hM h⟩

end
