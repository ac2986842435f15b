/-! the reference: search -/
section
variable {ad : zA} {S : zSh} {I X : zI} {Y : zY} {sz b : Nat} {R : RS}

theorem c_areLooks_t (hS : ∀ k, S b k = msh b k) (hm : zQm b R I X) (hR : ROK R) {s m : Nat} (hs : s < 8) (hm4 : m ≤ 40) (hw : ∀ t, t < m → tlk ((Y b (4 + 1 + s)) t) (R.1 0)) : zC0 mX7_areLooks 2 [zr b 0, zr b (4 + 1 + s), zi (nI m)] (some (zi (nI 1))) ad S I X Y sz I X Y := by
  refine zgo (own := RX7) (k := 1) (by decide +kernel) rfl rfl rfl (fun C hC hnm hE => ?_)
  have hmo := hm
  have hn14 := hR.1
  have hn8 := hR.2.1
  have hn6 := hR.2.2.1
  refine z_iconst hC dX7_areLooks_0 (v := nI 0) rfl ?_
  refine z_istore_n hC dX7_areLooks_1 (lo2 := [_, _, _, _]) (Nat.le_of_ble_eq_true rfl) rfl rfl ?_
  have loop2 : ∀ (fuel : Nat) (i : Nat), m - i < fuel → i ≤ m → zL C 4 ad S 0 0 sz I X Y 2 [some (zr b 0), some (zr b (4 + 1 + s)), some (zi (nI m)), some (zi (nI i))] [] := by
    intro fuel
    induction fuel with
    | zero => intro i hfu; exact absurd hfu (Nat.not_lt_zero _)
    | succ fuel ih =>
      intro i hfu him
      refine z_iload_n hC dX7_areLooks_2 rfl ?_
      refine z_iload_n hC dX7_areLooks_3 rfl ?_
      refine z_nicmp_ge hC dX7_areLooks_4 (tgt := 54) (by decide) (by omega) (by omega) (fun c4 => ?_) (fun c4 => ?_)
      · skip
        refine z_iconst hC dX7_areLooks_54 (v := nI 1) rfl ?_
        refine z_zret hC dX7_areLooks_55 rfl ?_
        exact hE.to (by rfl) rfl rfl rfl
      obtain ⟨v, hb, hl1, hl3, ev, en⟩ := tlk_e hn14 (hw i (by omega))
      refine z_aload_n hC dX7_areLooks_7 rfl ?_
      refine z_iload_n hC dX7_areLooks_8 rfl ?_
      refine z_nlald hC dX7_areLooks_9 ((hS _).trans (msh_rows hs).1) (by omega) rfl ?_
      rw [ev]
      refine z_lconst hC dX7_areLooks_10 (v := lN 0) rfl ?_
      refine z_lcmp hC dX7_areLooks_11  ?_
      refine z_if_lt hC dX7_areLooks_12 (tgt := 46) (by decide) (fun c12 => ?_) (fun c12 => ?_)
      · exact absurd c12 (fun z => by rw [zlcmp_lt (by omega) (by decide)] at z; omega)
      refine z_aload_n hC dX7_areLooks_15 rfl ?_
      refine z_aload_n hC dX7_areLooks_16 rfl ?_
      refine z_iload_n hC dX7_areLooks_17 rfl ?_
      refine z_nlald hC dX7_areLooks_18 ((hS _).trans (msh_rows hs).1) (by omega) rfl ?_
      rw [ev]
      refine z_ldc2 hC dX7_areLooks_19 (v := lN 10) (zin5 (i := 178) rfl rfl) ?_
      refine z_mdiv hC dX7_areLooks_22 (by omega) (by omega) (by omega) ?_
      refine wVv hC dX7_areLooks_23 zlX7_118 (c_X7_isBendN hS hm hR (by omega)) (hS _) rfl rfl rfl rfl rfl rfl ⟨rfl, rfl⟩ ?_
      refine w_ifb_eq hC dX7_areLooks_26 (tgt := 46) (by decide) (fun c26 => ?_) (fun c26 => ?_)
      · exact absurd c26 (by omega)
      refine z_aload_n hC dX7_areLooks_29 rfl ?_
      refine z_iload_n hC dX7_areLooks_30 rfl ?_
      refine z_nlald hC dX7_areLooks_31 ((hS _).trans (msh_rows hs).1) (by omega) rfl ?_
      rw [ev]
      refine z_ldc2 hC dX7_areLooks_32 (v := lN 10) (zin5 (i := 178) rfl rfl) ?_
      refine z_mrem hC dX7_areLooks_35 (by omega) (by omega) (by omega) ?_
      refine z_lconst hC dX7_areLooks_36 (v := lN 1) rfl ?_
      refine z_ldc2 hC dX7_areLooks_37 (v := lN 3) (zin6 (i := 135) rfl rfl) ?_
      refine wSv hC dX7_areLooks_40 zlX7_97 (c_X7_inN (by omega) (by omega) (by omega)) rfl rfl rfl rfl ⟨rfl, rfl⟩ ?_
      refine w_ifb_ne hC dX7_areLooks_43 (tgt := 48) (by decide) (fun c43 => ?_) (fun c43 => ?_)
      rotate_left
      · exact absurd c43 (by omega)
      refine z_ninc hC dX7_areLooks_48 (lo2 := [_, _, _, _]) rfl rfl rfl rfl ?_
      refine z_goto hC dX7_areLooks_51 (tgt := 2) (by decide) ?_
      exact ih (i + 1) (by omega) (by omega)
  exact loop2 _ 0 (Nat.lt_succ_self _) (Nat.zero_le _)

theorem c_areLooks_f (hS : ∀ k, S b k = msh b k) (hm : zQm b R I X) (hR : ROK R) {s m : Nat} (hs : s < 8) (hm4 : m ≤ 40) (hw : ¬ ∀ t, t < m → tlk ((Y b (4 + 1 + s)) t) (R.1 0)) : zC0 mX7_areLooks 2 [zr b 0, zr b (4 + 1 + s), zi (nI m)] (some (zi (nI 0))) ad S I X Y sz I X Y := by
  refine zgo (own := RX7) (k := 1) (by decide +kernel) rfl rfl rfl (fun C hC hnm hE => ?_)
  have hmo := hm
  have hn14 := hR.1
  have hn8 := hR.2.1
  have hn6 := hR.2.2.1
  refine z_iconst hC dX7_areLooks_0 (v := nI 0) rfl ?_
  refine z_istore_n hC dX7_areLooks_1 (lo2 := [_, _, _, _]) (Nat.le_of_ble_eq_true rfl) rfl rfl ?_
  have loop2 : ∀ (fuel : Nat) (i : Nat), m - i < fuel → i ≤ m → (∀ t, t < i → tlk ((Y b (4 + 1 + s)) t) (R.1 0)) → zL C 4 ad S 0 0 sz I X Y 2 [some (zr b 0), some (zr b (4 + 1 + s)), some (zi (nI m)), some (zi (nI i))] [] := by
    intro fuel
    induction fuel with
    | zero => intro i hfu; exact absurd hfu (Nat.not_lt_zero _)
    | succ fuel ih =>
      intro i hfu him hpre
      refine z_iload_n hC dX7_areLooks_2 rfl ?_
      refine z_iload_n hC dX7_areLooks_3 rfl ?_
      refine z_nicmp_ge hC dX7_areLooks_4 (tgt := 54) (by decide) (by omega) (by omega) (fun c4 => ?_) (fun c4 => ?_)
      · exfalso; exact hw (fun t ht => hpre t (by omega))
      refine z_aload_n hC dX7_areLooks_7 rfl ?_
      refine z_iload_n hC dX7_areLooks_8 rfl ?_
      refine z_nlald hC dX7_areLooks_9 ((hS _).trans (msh_rows hs).1) (by omega) rfl ?_
      by_cases h0 : 0 ≤ (Y b (4 + 1 + s)) i
      · skip
        obtain ⟨v, hv, ev, -⟩ := ln63 h0
        rw [ev]
        refine z_lconst hC dX7_areLooks_10 (v := lN 0) rfl ?_
        refine z_lcmp hC dX7_areLooks_11  ?_
        refine z_if_lt hC dX7_areLooks_12 (tgt := 46) (by decide) (fun c12 => ?_) (fun c12 => ?_)
        · exact absurd c12 (fun z => by rw [zlcmp_lt (by omega) (by decide)] at z; omega)
        refine z_aload_n hC dX7_areLooks_15 rfl ?_
        refine z_aload_n hC dX7_areLooks_16 rfl ?_
        refine z_iload_n hC dX7_areLooks_17 rfl ?_
        refine z_nlald hC dX7_areLooks_18 ((hS _).trans (msh_rows hs).1) (by omega) rfl ?_
        rw [ev]
        refine z_ldc2 hC dX7_areLooks_19 (v := lN 10) (zin5 (i := 178) rfl rfl) ?_
        refine z_mdiv hC dX7_areLooks_22 (by omega) (by omega) (by omega) ?_
        refine wVv hC dX7_areLooks_23 zlX7_118 (c_X7_isBendN hS hm hR (by omega)) (hS _) rfl rfl rfl rfl rfl rfl ⟨rfl, rfl⟩ ?_
        refine w_ifb_eq hC dX7_areLooks_26 (tgt := 46) (by decide) (fun c26 => ?_) (fun c26 => ?_)
        · skip
          refine z_iconst hC dX7_areLooks_46 (v := nI 0) rfl ?_
          refine z_zret hC dX7_areLooks_47 rfl ?_
          exact hE.to (by rfl) rfl rfl rfl
        refine z_aload_n hC dX7_areLooks_29 rfl ?_
        refine z_iload_n hC dX7_areLooks_30 rfl ?_
        refine z_nlald hC dX7_areLooks_31 ((hS _).trans (msh_rows hs).1) (by omega) rfl ?_
        rw [ev]
        refine z_ldc2 hC dX7_areLooks_32 (v := lN 10) (zin5 (i := 178) rfl rfl) ?_
        refine z_mrem hC dX7_areLooks_35 (by omega) (by omega) (by omega) ?_
        refine z_lconst hC dX7_areLooks_36 (v := lN 1) rfl ?_
        refine z_ldc2 hC dX7_areLooks_37 (v := lN 3) (zin6 (i := 135) rfl rfl) ?_
        refine wSv hC dX7_areLooks_40 zlX7_97 (c_X7_inN (by omega) (by omega) (by omega)) rfl rfl rfl rfl ⟨rfl, rfl⟩ ?_
        refine w_ifb_ne hC dX7_areLooks_43 (tgt := 48) (by decide) (fun c43 => ?_) (fun c43 => ?_)
        · skip
          refine z_ninc hC dX7_areLooks_48 (lo2 := [_, _, _, _]) rfl rfl rfl rfl ?_
          refine z_goto hC dX7_areLooks_51 (tgt := 2) (by decide) ?_
          refine ih (i + 1) (by omega) (by omega) (fun t ht => ?_)
          by_cases e : t = i
          · rw [e, ev]; exact (tlk_iff hv hn14).mpr ⟨c26, c43.1, c43.2⟩
          · exact hpre t (by omega)
        refine z_iconst hC dX7_areLooks_46 (v := nI 0) rfl ?_
        refine z_zret hC dX7_areLooks_47 rfl ?_
        exact hE.to (by rfl) rfl rfl rfl
      · skip
        refine z_lconst hC dX7_areLooks_10 (v := lN 0) rfl ?_
        refine z_lcmp hC dX7_areLooks_11  ?_
        refine z_if_lt hC dX7_areLooks_12 (tgt := 46) (by decide) (fun c12 => ?_) (fun c12 => ?_)
        rotate_left
        · exact absurd c12 (fun z => z (lcl.mpr (Int64.not_le.mp (by rw [show lN 0 = 0 by decide]; exact h0))))
        refine z_iconst hC dX7_areLooks_46 (v := nI 0) rfl ?_
        refine z_zret hC dX7_areLooks_47 rfl ?_
        exact hE.to (by rfl) rfl rfl rfl
  exact loop2 _ 0 (Nat.lt_succ_self _) (Nat.zero_le _) (fun t ht => absurd ht (Nat.not_lt_zero _))

end
section
variable {ad : zA} {S : zSh} {I X : zI} {Y : zY} {sz : Nat} {D : DS} {qe : Bool}

theorem w_search_n (hS : ∀ k, S 0 k = msh 0 k) (hO : DOK D) (hM : MMe qe D I X Y) {s m : Nat} (hs : s < 8) (hm4 : m ≤ 40) (hh : X 0 1 s = nI 0) {u : Nat} (hu : u ≤ 1)  : zCall mX7_search 6 47 14378 [zr 0 0, zi (nI s), zi (nI m), zi (nI u)] (some (zi (-4))) ad (S) I X Y (sz) (S) I (rmX 0 2 X) Y (sz) := by
  refine zgo (own := RX7) (k := 7) (by decide +kernel) rfl rfl rfl (fun C hC hnm hE => ?_)
  have hm := hM.1
  have hR := hO.1
  have hmo := hm
  have hn14 := hR.1
  have hn8 := hR.2.1
  have hn6 := hR.2.2.1
  refine z_iload_n hC dX7_search_0 rfl ?_
  refine z_n2m hC dX7_search_1 (by omega) ?_
  refine z_lconst hC dX7_search_2 (v := lN 0) rfl ?_
  refine z_ldc2 hC dX7_search_3 (v := lN 7) (zin5 (i := 110) rfl rfl) ?_
  refine wSv hC dX7_search_6 zlX7_97 (c_X7_inN (by omega) (by omega) (by omega)) rfl rfl rfl rfl ⟨rfl, rfl⟩ ?_
  refine w_ifb_eq hC dX7_search_9 (tgt := 34) (by decide) (fun c9 => ?_) (fun c9 => ?_)
  · exact absurd c9 (by omega)
  refine z_iload_n hC dX7_search_12 rfl ?_
  refine z_n2m hC dX7_search_13 (by omega) ?_
  refine z_lconst hC dX7_search_14 (v := lN 0) rfl ?_
  refine z_ldc2 hC dX7_search_15 (v := lN 40) (zin5 (i := 115) rfl rfl) ?_
  refine wSv hC dX7_search_18 zlX7_97 (c_X7_inN (by omega) (by omega) (by omega)) rfl rfl rfl rfl ⟨rfl, rfl⟩ ?_
  refine w_ifb_eq hC dX7_search_21 (tgt := 34) (by decide) (fun c21 => ?_) (fun c21 => ?_)
  · exact absurd c21 (by omega)
  refine z_iload_n hC dX7_search_24 rfl ?_
  refine z_n2m hC dX7_search_25 (by omega) ?_
  refine z_lconst hC dX7_search_26 (v := lN 0) rfl ?_
  refine z_lconst hC dX7_search_27 (v := lN 1) rfl ?_
  refine wSv hC dX7_search_28 zlX7_97 (c_X7_inN (by omega) (by omega) (by omega)) rfl rfl rfl rfl ⟨rfl, rfl⟩ ?_
  refine w_ifb_ne hC dX7_search_31 (tgt := 41) (by decide) (fun c31 => ?_) (fun c31 => ?_)
  rotate_left
  · exact absurd c31 (by omega)
  refine z_aload_n hC dX7_search_41 rfl ?_
  refine z_iload_n hC dX7_search_42 rfl ?_
  refine z_iload_n hC dX7_search_43 rfl ?_
  refine wVv hC dX7_search_44 zlX7_353 (c_noList_n hS hs hm4 hh) (hS _) rfl rfl rfl rfl rfl rfl ⟨rfl, rfl⟩ ?_
  refine z_istore hC dX7_search_47 (lo2 := [_, _, _, _, _, _, _, _, _, _, _]) (Nat.le_of_ble_eq_true rfl) rfl rfl ?_
  refine z_iload hC dX7_search_49 rfl ?_
  refine z_if_eq hC dX7_search_51 (tgt := 57) (by decide) (fun c51 => ?_) (fun c51 => ?_)
  · exact absurd c51 (by decide)
  refine z_iload hC dX7_search_54 rfl ?_
  refine z_widen (k := 47) (n := 14378) (by decide) (by decide) ?_
  refine z_iret hC dX7_search_56 ?_
  exact hE.to (by rfl) rfl rfl rfl

theorem w_search_b (hS : ∀ k, S 0 k = msh 0 k) (hO : DOK D) (hM : MMe qe D I X Y) {s m : Nat} (hs : s < 8) (hm4 : m ≤ 40) {b : Nat} (hb : b < 14) (hh : shwM s b X) {u : Nat} (hu : u ≤ 1)  : zCall mX7_search 6 47 14378 [zr 0 0, zi (nI s), zi (nI m), zi (nI u)] (some (zi (-3))) ad (S) I X Y (sz) (S) I (rmX 0 1 X) Y (sz) := by
  refine zgo (own := RX7) (k := 7) (by decide +kernel) rfl rfl rfl (fun C hC hnm hE => ?_)
  have hm := hM.1
  have hR := hO.1
  have hmo := hm
  have hn14 := hR.1
  have hn8 := hR.2.1
  have hn6 := hR.2.2.1
  refine z_iload_n hC dX7_search_0 rfl ?_
  refine z_n2m hC dX7_search_1 (by omega) ?_
  refine z_lconst hC dX7_search_2 (v := lN 0) rfl ?_
  refine z_ldc2 hC dX7_search_3 (v := lN 7) (zin5 (i := 110) rfl rfl) ?_
  refine wSv hC dX7_search_6 zlX7_97 (c_X7_inN (by omega) (by omega) (by omega)) rfl rfl rfl rfl ⟨rfl, rfl⟩ ?_
  refine w_ifb_eq hC dX7_search_9 (tgt := 34) (by decide) (fun c9 => ?_) (fun c9 => ?_)
  · exact absurd c9 (by omega)
  refine z_iload_n hC dX7_search_12 rfl ?_
  refine z_n2m hC dX7_search_13 (by omega) ?_
  refine z_lconst hC dX7_search_14 (v := lN 0) rfl ?_
  refine z_ldc2 hC dX7_search_15 (v := lN 40) (zin5 (i := 115) rfl rfl) ?_
  refine wSv hC dX7_search_18 zlX7_97 (c_X7_inN (by omega) (by omega) (by omega)) rfl rfl rfl rfl ⟨rfl, rfl⟩ ?_
  refine w_ifb_eq hC dX7_search_21 (tgt := 34) (by decide) (fun c21 => ?_) (fun c21 => ?_)
  · exact absurd c21 (by omega)
  refine z_iload_n hC dX7_search_24 rfl ?_
  refine z_n2m hC dX7_search_25 (by omega) ?_
  refine z_lconst hC dX7_search_26 (v := lN 0) rfl ?_
  refine z_lconst hC dX7_search_27 (v := lN 1) rfl ?_
  refine wSv hC dX7_search_28 zlX7_97 (c_X7_inN (by omega) (by omega) (by omega)) rfl rfl rfl rfl ⟨rfl, rfl⟩ ?_
  refine w_ifb_ne hC dX7_search_31 (tgt := 41) (by decide) (fun c31 => ?_) (fun c31 => ?_)
  rotate_left
  · exact absurd c31 (by omega)
  refine z_aload_n hC dX7_search_41 rfl ?_
  refine z_iload_n hC dX7_search_42 rfl ?_
  refine z_iload_n hC dX7_search_43 rfl ?_
  refine wVv hC dX7_search_44 zlX7_353 (c_noList_b hS hs hm4 hb hh) (hS _) rfl rfl rfl rfl rfl rfl ⟨rfl, rfl⟩ ?_
  refine z_istore hC dX7_search_47 (lo2 := [_, _, _, _, _, _, _, _, _, _, _]) (Nat.le_of_ble_eq_true rfl) rfl rfl ?_
  refine z_iload hC dX7_search_49 rfl ?_
  refine z_if_eq hC dX7_search_51 (tgt := 57) (by decide) (fun c51 => ?_) (fun c51 => ?_)
  · exact absurd c51 (by decide)
  refine z_iload hC dX7_search_54 rfl ?_
  refine z_widen (k := 47) (n := 14378) (by decide) (by decide) ?_
  refine z_iret hC dX7_search_56 ?_
  exact hE.to (by rfl) rfl rfl rfl

theorem w_search_l (hS : ∀ k, S 0 k = msh 0 k) (hO : DOK D) (hM : MMe qe D I X Y) {s m : Nat} (hs : s < 8) (hm4 : m ≤ 40) {q : Nat} (hq : q ≤ 4) {n : Nat} {el : Nat → Int64} (hh : rwM s q n el X Y) (hn40 : n ≤ 40) (hmn : n < m) {u : Nat} (hu : u ≤ 1)  : zCall mX7_search 6 47 14378 [zr 0 0, zi (nI s), zi (nI m), zi (nI u)] (some (zi (-2))) ad (S) I X Y (sz) (S) I (rmX 0 0 X) Y (sz) := by
  refine zgo (own := RX7) (k := 7) (by decide +kernel) rfl rfl rfl (fun C hC hnm hE => ?_)
  have hm := hM.1
  have hR := hO.1
  have hmo := hm
  have hn14 := hR.1
  have hn8 := hR.2.1
  have hn6 := hR.2.2.1
  refine z_iload_n hC dX7_search_0 rfl ?_
  refine z_n2m hC dX7_search_1 (by omega) ?_
  refine z_lconst hC dX7_search_2 (v := lN 0) rfl ?_
  refine z_ldc2 hC dX7_search_3 (v := lN 7) (zin5 (i := 110) rfl rfl) ?_
  refine wSv hC dX7_search_6 zlX7_97 (c_X7_inN (by omega) (by omega) (by omega)) rfl rfl rfl rfl ⟨rfl, rfl⟩ ?_
  refine w_ifb_eq hC dX7_search_9 (tgt := 34) (by decide) (fun c9 => ?_) (fun c9 => ?_)
  · exact absurd c9 (by omega)
  refine z_iload_n hC dX7_search_12 rfl ?_
  refine z_n2m hC dX7_search_13 (by omega) ?_
  refine z_lconst hC dX7_search_14 (v := lN 0) rfl ?_
  refine z_ldc2 hC dX7_search_15 (v := lN 40) (zin5 (i := 115) rfl rfl) ?_
  refine wSv hC dX7_search_18 zlX7_97 (c_X7_inN (by omega) (by omega) (by omega)) rfl rfl rfl rfl ⟨rfl, rfl⟩ ?_
  refine w_ifb_eq hC dX7_search_21 (tgt := 34) (by decide) (fun c21 => ?_) (fun c21 => ?_)
  · exact absurd c21 (by omega)
  refine z_iload_n hC dX7_search_24 rfl ?_
  refine z_n2m hC dX7_search_25 (by omega) ?_
  refine z_lconst hC dX7_search_26 (v := lN 0) rfl ?_
  refine z_lconst hC dX7_search_27 (v := lN 1) rfl ?_
  refine wSv hC dX7_search_28 zlX7_97 (c_X7_inN (by omega) (by omega) (by omega)) rfl rfl rfl rfl ⟨rfl, rfl⟩ ?_
  refine w_ifb_ne hC dX7_search_31 (tgt := 41) (by decide) (fun c31 => ?_) (fun c31 => ?_)
  rotate_left
  · exact absurd c31 (by omega)
  refine z_aload_n hC dX7_search_41 rfl ?_
  refine z_iload_n hC dX7_search_42 rfl ?_
  refine z_iload_n hC dX7_search_43 rfl ?_
  refine wVv hC dX7_search_44 zlX7_353 (c_noList_l hS hs hm4 hq hh hn40 hmn) (hS _) rfl rfl rfl rfl rfl rfl ⟨rfl, rfl⟩ ?_
  refine z_istore hC dX7_search_47 (lo2 := [_, _, _, _, _, _, _, _, _, _, _]) (Nat.le_of_ble_eq_true rfl) rfl rfl ?_
  refine z_iload hC dX7_search_49 rfl ?_
  refine z_if_eq hC dX7_search_51 (tgt := 57) (by decide) (fun c51 => ?_) (fun c51 => ?_)
  · exact absurd c51 (by decide)
  refine z_iload hC dX7_search_54 rfl ?_
  refine z_widen (k := 47) (n := 14378) (by decide) (by decide) ?_
  refine z_iret hC dX7_search_56 ?_
  exact hE.to (by rfl) rfl rfl rfl

theorem w_search_w (hS : ∀ k, S 0 k = msh 0 k) (hO : DOK D) (hM : MMe qe D I X Y) {s : Nat} {y : Int32} (hs : s < 8) (hy : ¬ inB y 41) {u : Nat} (hu : u ≤ 1)  : zCall mX7_search 6 47 14378 [zr 0 0, zi (nI s), zi y, zi (nI u)] (some (zi (-2))) ad (S) I X Y (sz) (S) I (rmX 0 0 X) Y (sz) := by
  refine zgo (own := RX7) (k := 7) (by decide +kernel) rfl rfl rfl (fun C hC hnm hE => ?_)
  have hm := hM.1
  have hR := hO.1
  have hmo := hm
  have hn14 := hR.1
  have hn8 := hR.2.1
  have hn6 := hR.2.2.1
  refine z_iload_n hC dX7_search_0 rfl ?_
  refine z_n2m hC dX7_search_1 (by omega) ?_
  refine z_lconst hC dX7_search_2 (v := lN 0) rfl ?_
  refine z_ldc2 hC dX7_search_3 (v := lN 7) (zin5 (i := 110) rfl rfl) ?_
  refine wSv hC dX7_search_6 zlX7_97 (c_X7_inN (by omega) (by omega) (by omega)) rfl rfl rfl rfl ⟨rfl, rfl⟩ ?_
  refine w_ifb_eq hC dX7_search_9 (tgt := 34) (by decide) (fun c9 => ?_) (fun c9 => ?_)
  · exact absurd c9 (by omega)
  refine z_iload_n hC dX7_search_12 rfl ?_
  refine z_i2l hC dX7_search_13  ?_
  refine z_lconst hC dX7_search_14 (v := lN 0) rfl ?_
  refine z_ldc2 hC dX7_search_15 (v := lN 40) (zin5 (i := 115) rfl rfl) ?_
  refine wSv hC dX7_search_18 zlX7_97 (c_X7_inI (by omega) (by omega)) rfl rfl rfl rfl ⟨rfl, rfl⟩ ?_
  refine w_ifb_eq hC dX7_search_21 (tgt := 34) (by decide) (fun c21 => ?_) (fun c21 => ?_)
  rotate_left
  · exact absurd c21 (fun z => hy ((iwB (by decide)).mp z))
  refine z_aload_n hC dX7_search_34 rfl ?_
  refine z_bipush hC dX7_search_35 (v := -2) rfl ?_
  refine wVv hC dX7_search_37 zlX7_107 (c_X7_refuse hS (j := 0) (by decide) (by decide)) (hS _) rfl rfl rfl rfl rfl rfl ⟨rfl, rfl⟩ ?_
  refine z_widen (k := 47) (n := 14378) (by decide) (by decide) ?_
  refine z_iret hC dX7_search_40 ?_
  exact hE.to (by rfl) rfl rfl rfl

theorem w_search_f (hS : ∀ k, S 0 k = msh 0 k) (hO : DOK D) (hM : MMe qe D I X Y) {x y u : Int32} (hx : ¬ inB x 8)  : zCall mX7_search 6 47 14378 [zr 0 0, zi x, zi y, zi u] (some (zi (-2))) ad (S) I X Y (sz) (S) I (rmX 0 0 X) Y (sz) := by
  refine zgo (own := RX7) (k := 7) (by decide +kernel) rfl rfl rfl (fun C hC hnm hE => ?_)
  have hm := hM.1
  have hR := hO.1
  have hmo := hm
  have hn14 := hR.1
  have hn8 := hR.2.1
  have hn6 := hR.2.2.1
  refine z_iload_n hC dX7_search_0 rfl ?_
  refine z_i2l hC dX7_search_1  ?_
  refine z_lconst hC dX7_search_2 (v := lN 0) rfl ?_
  refine z_ldc2 hC dX7_search_3 (v := lN 7) (zin5 (i := 110) rfl rfl) ?_
  refine wSv hC dX7_search_6 zlX7_97 (c_X7_inI (by omega) (by omega)) rfl rfl rfl rfl ⟨rfl, rfl⟩ ?_
  refine w_ifb_eq hC dX7_search_9 (tgt := 34) (by decide) (fun c9 => ?_) (fun c9 => ?_)
  rotate_left
  · exact absurd c9 (fun z => hx ((iwB (by decide)).mp z))
  refine z_aload_n hC dX7_search_34 rfl ?_
  refine z_bipush hC dX7_search_35 (v := -2) rfl ?_
  refine wVv hC dX7_search_37 zlX7_107 (c_X7_refuse hS (j := 0) (by decide) (by decide)) (hS _) rfl rfl rfl rfl rfl rfl ⟨rfl, rfl⟩ ?_
  refine z_widen (k := 47) (n := 14378) (by decide) (by decide) ?_
  refine z_iret hC dX7_search_40 ?_
  exact hE.to (by rfl) rfl rfl rfl

theorem w_search_u (hS : ∀ k, S 0 k = msh 0 k) (hO : DOK D) (hM : MMe qe D I X Y) {s : Nat} {y u : Int32} (hs : s < 8) (hu : ¬ iw u 0 1)  : zCall mX7_search 6 47 14378 [zr 0 0, zi (nI s), zi y, zi u] (some (zi (-2))) ad (S) I X Y (sz) (S) I (rmX 0 0 X) Y (sz) := by
  refine zgo (own := RX7) (k := 7) (by decide +kernel) rfl rfl rfl (fun C hC hnm hE => ?_)
  have hm := hM.1
  have hR := hO.1
  have hmo := hm
  have hn14 := hR.1
  have hn8 := hR.2.1
  have hn6 := hR.2.2.1
  refine z_iload_n hC dX7_search_0 rfl ?_
  refine z_n2m hC dX7_search_1 (by omega) ?_
  refine z_lconst hC dX7_search_2 (v := lN 0) rfl ?_
  refine z_ldc2 hC dX7_search_3 (v := lN 7) (zin5 (i := 110) rfl rfl) ?_
  refine wSv hC dX7_search_6 zlX7_97 (c_X7_inN (by omega) (by omega) (by omega)) rfl rfl rfl rfl ⟨rfl, rfl⟩ ?_
  refine w_ifb_eq hC dX7_search_9 (tgt := 34) (by decide) (fun c9 => ?_) (fun c9 => ?_)
  · exact absurd c9 (by omega)
  refine z_iload_n hC dX7_search_12 rfl ?_
  refine z_i2l hC dX7_search_13  ?_
  refine z_lconst hC dX7_search_14 (v := lN 0) rfl ?_
  refine z_ldc2 hC dX7_search_15 (v := lN 40) (zin5 (i := 115) rfl rfl) ?_
  refine wSv hC dX7_search_18 zlX7_97 (c_X7_inI (by omega) (by omega)) rfl rfl rfl rfl ⟨rfl, rfl⟩ ?_
  refine w_ifb_eq hC dX7_search_21 (tgt := 34) (by decide) (fun c21 => ?_) (fun c21 => ?_)
  · skip
    refine z_aload_n hC dX7_search_34 rfl ?_
    refine z_bipush hC dX7_search_35 (v := -2) rfl ?_
    refine wVv hC dX7_search_37 zlX7_107 (c_X7_refuse hS (j := 0) (by decide) (by decide)) (hS _) rfl rfl rfl rfl rfl rfl ⟨rfl, rfl⟩ ?_
    refine z_widen (k := 47) (n := 14378) (by decide) (by decide) ?_
    refine z_iret hC dX7_search_40 ?_
    exact hE.to (by rfl) rfl rfl rfl
  refine z_iload_n hC dX7_search_24 rfl ?_
  refine z_i2l hC dX7_search_25  ?_
  refine z_lconst hC dX7_search_26 (v := lN 0) rfl ?_
  refine z_lconst hC dX7_search_27 (v := lN 1) rfl ?_
  refine wSv hC dX7_search_28 zlX7_97 (c_X7_inI (by omega) (by omega)) rfl rfl rfl rfl ⟨rfl, rfl⟩ ?_
  refine w_ifb_ne hC dX7_search_31 (tgt := 41) (by decide) (fun c31 => ?_) (fun c31 => ?_)
  · exact absurd c31 hu
  refine z_aload_n hC dX7_search_34 rfl ?_
  refine z_bipush hC dX7_search_35 (v := -2) rfl ?_
  refine wVv hC dX7_search_37 zlX7_107 (c_X7_refuse hS (j := 0) (by decide) (by decide)) (hS _) rfl rfl rfl rfl rfl rfl ⟨rfl, rfl⟩ ?_
  refine z_widen (k := 47) (n := 14378) (by decide) (by decide) ?_
  refine z_iret hC dX7_search_40 ?_
  exact hE.to (by rfl) rfl rfl rfl

theorem w_search_s (hS : ∀ k, S 0 k = msh 0 k) (hO : DOK D) (hM : MMe qe D I X Y) {s m : Nat} (hs : s < 8) (hm4 : m ≤ 40) {q : Nat} (hq : q ≤ 4) {n : Nat} {el : Nat → Int64} (hh : rwM s q n el X Y) (hn40 : n ≤ 40) (hmn : m ≤ n) (hw : ¬ ∀ t, t < m → tlk ((Y 0 (4 + 1 + s)) t) (D.1.1 0)) {u : Nat} (hu : u ≤ 1)  : zCall mX7_search 6 47 14378 [zr 0 0, zi (nI s), zi (nI m), zi (nI u)] (some (zi (-5))) ad (S) I X Y (sz) (S) I (rmX 0 3 X) Y (sz) := by
  refine zgo (own := RX7) (k := 7) (by decide +kernel) rfl rfl rfl (fun C hC hnm hE => ?_)
  have hm := hM.1
  have hR := hO.1
  have hmo := hm
  have hn14 := hR.1
  have hn8 := hR.2.1
  have hn6 := hR.2.2.1
  refine z_iload_n hC dX7_search_0 rfl ?_
  refine z_n2m hC dX7_search_1 (by omega) ?_
  refine z_lconst hC dX7_search_2 (v := lN 0) rfl ?_
  refine z_ldc2 hC dX7_search_3 (v := lN 7) (zin5 (i := 110) rfl rfl) ?_
  refine wSv hC dX7_search_6 zlX7_97 (c_X7_inN (by omega) (by omega) (by omega)) rfl rfl rfl rfl ⟨rfl, rfl⟩ ?_
  refine w_ifb_eq hC dX7_search_9 (tgt := 34) (by decide) (fun c9 => ?_) (fun c9 => ?_)
  · exact absurd c9 (by omega)
  refine z_iload_n hC dX7_search_12 rfl ?_
  refine z_n2m hC dX7_search_13 (by omega) ?_
  refine z_lconst hC dX7_search_14 (v := lN 0) rfl ?_
  refine z_ldc2 hC dX7_search_15 (v := lN 40) (zin5 (i := 115) rfl rfl) ?_
  refine wSv hC dX7_search_18 zlX7_97 (c_X7_inN (by omega) (by omega) (by omega)) rfl rfl rfl rfl ⟨rfl, rfl⟩ ?_
  refine w_ifb_eq hC dX7_search_21 (tgt := 34) (by decide) (fun c21 => ?_) (fun c21 => ?_)
  · exact absurd c21 (by omega)
  refine z_iload_n hC dX7_search_24 rfl ?_
  refine z_n2m hC dX7_search_25 (by omega) ?_
  refine z_lconst hC dX7_search_26 (v := lN 0) rfl ?_
  refine z_lconst hC dX7_search_27 (v := lN 1) rfl ?_
  refine wSv hC dX7_search_28 zlX7_97 (c_X7_inN (by omega) (by omega) (by omega)) rfl rfl rfl rfl ⟨rfl, rfl⟩ ?_
  refine w_ifb_ne hC dX7_search_31 (tgt := 41) (by decide) (fun c31 => ?_) (fun c31 => ?_)
  rotate_left
  · exact absurd c31 (by omega)
  refine z_aload_n hC dX7_search_41 rfl ?_
  refine z_iload_n hC dX7_search_42 rfl ?_
  refine z_iload_n hC dX7_search_43 rfl ?_
  refine wVv hC dX7_search_44 zlX7_353 (c_noList_t hS hs hm4 hq hh hn40 hmn) (hS _) rfl rfl rfl rfl rfl rfl ⟨rfl, rfl⟩ ?_
  refine z_istore hC dX7_search_47 (lo2 := [_, _, _, _, _, _, _, _, _, _, _]) (Nat.le_of_ble_eq_true rfl) rfl rfl ?_
  refine z_iload hC dX7_search_49 rfl ?_
  refine z_nif_eq hC dX7_search_51 (tgt := 57) (by decide) (by omega) (fun c51 => ?_) (fun c51 => ?_)
  rotate_left
  · exact absurd c51 (fun z => z rfl)
  refine z_aload_n hC dX7_search_57 rfl ?_
  refine z_aload_n hC dX7_search_58 rfl ?_
  refine z_getR hC dX7_search_59 (hS _) zfX7_21 rfl ?_
  refine z_iload_n hC dX7_search_62 rfl ?_
  refine z_aald hC (by decide) dX7_search_63 (hS _) (by rw [List.length_map, List.length_range]; exact vp_in_nI (by omega) (by decide)) (msel8 hs) ?_
  refine z_iload_n hC dX7_search_64 rfl ?_
  refine wVv hC dX7_search_65 zlX7_360 (c_areLooks_f hS hm hR hs hm4 hw) (hS _) rfl rfl rfl rfl rfl rfl ⟨rfl, rfl⟩ ?_
  refine z_if_ne hC dX7_search_68 (tgt := 78) (by decide) (fun c68 => ?_) (fun c68 => ?_)
  · exact absurd c68 (fun z => z rfl)
  refine z_aload_n hC dX7_search_71 rfl ?_
  refine z_bipush hC dX7_search_72 (v := -5) rfl ?_
  refine wVv hC dX7_search_74 zlX7_107 (c_X7_refuse hS (j := 3) (by decide) (by decide)) (hS _) rfl rfl rfl rfl rfl rfl ⟨rfl, rfl⟩ ?_
  refine z_widen (k := 47) (n := 14378) (by decide) (by decide) ?_
  refine z_iret hC dX7_search_77 ?_
  exact hE.to (by rfl) rfl rfl rfl

theorem w_search_t (hS : ∀ k, S 0 k = msh 0 k) (hO : DOK D) (hM : MMe qe D I X Y) (hb : zBk 1 qe ad S I X Y sz) {s m : Nat} (hs : s < 8) (hm4 : m ≤ 40) {q : Nat} (hq : q ≤ 4) {n : Nat} {el : Nat → Int64} (hh : rwM s q n el X Y) (hn40 : n ≤ 40) (hmn : m ≤ n) (hw : ∀ t, t < m → tlk ((Y 0 (4 + 1 + s)) t) (D.1.1 0)) {u : Nat} (hu : u ≤ 1)  : zCx mX7_search 6 47 14378 [zr 0 0, zi (nI s), zi (nI m), zi (nI u)] ad S I X Y sz (fun v1 S1 I1 X1 Y1 sz1 => v1 = some (zi (if u = 0 then nI (srT D.1 (Y 0 (4 + 1 + s)) m) else nI (srF D.1 (Y 0 (4 + 1 + s)) m))) ∧ ((S1 = S ∧ MMe qe D I1 X1 Y1) ∨ (S1 = zmd 1 S ∧ MMe true D I1 X1 Y1))) := by
  refine zgoX (own := RX7) (k := 7) (by decide +kernel) rfl rfl rfl (fun C hC hnm hE => ?_)
  have hm := hM.1
  have hR := hO.1
  have hmo := hm
  have hn14 := hR.1
  have hn8 := hR.2.1
  have hn6 := hR.2.2.1
  obtain ⟨I2, X2, sz2, hM2, hq2, hc2⟩ := c_fresh hS hM hR hb
  have hS0 : ∀ k, zmd 1 S 0 k = msh 0 k := fun k => (zmd_ne (by decide)).trans (hS k)
  have hS1 : ∀ k, zmd 1 S 1 k = msh 1 k := fun k => zmd_at
  have hsb : ∀ t, t < m → srB (Y 0 (4 + 1 + s)) t < D.1.1 0 := fun t ht => by obtain ⟨v, h1, -, -, -, e⟩ := tlk_e hn14 (hw t ht); unfold srB lnn; rw [e]; exact h1
  refine z_iload_n hC dX7_search_0 rfl ?_
  refine z_n2m hC dX7_search_1 (by omega) ?_
  refine z_lconst hC dX7_search_2 (v := lN 0) rfl ?_
  refine z_ldc2 hC dX7_search_3 (v := lN 7) (zin5 (i := 110) rfl rfl) ?_
  refine wSv hC dX7_search_6 zlX7_97 (c_X7_inN (by omega) (by omega) (by omega)) rfl rfl rfl rfl ⟨rfl, rfl⟩ ?_
  refine w_ifb_eq hC dX7_search_9 (tgt := 34) (by decide) (fun c9 => ?_) (fun c9 => ?_)
  · exact absurd c9 (by omega)
  refine z_iload_n hC dX7_search_12 rfl ?_
  refine z_n2m hC dX7_search_13 (by omega) ?_
  refine z_lconst hC dX7_search_14 (v := lN 0) rfl ?_
  refine z_ldc2 hC dX7_search_15 (v := lN 40) (zin5 (i := 115) rfl rfl) ?_
  refine wSv hC dX7_search_18 zlX7_97 (c_X7_inN (by omega) (by omega) (by omega)) rfl rfl rfl rfl ⟨rfl, rfl⟩ ?_
  refine w_ifb_eq hC dX7_search_21 (tgt := 34) (by decide) (fun c21 => ?_) (fun c21 => ?_)
  · exact absurd c21 (by omega)
  refine z_iload_n hC dX7_search_24 rfl ?_
  refine z_n2m hC dX7_search_25 (by omega) ?_
  refine z_lconst hC dX7_search_26 (v := lN 0) rfl ?_
  refine z_lconst hC dX7_search_27 (v := lN 1) rfl ?_
  refine wSv hC dX7_search_28 zlX7_97 (c_X7_inN (by omega) (by omega) (by omega)) rfl rfl rfl rfl ⟨rfl, rfl⟩ ?_
  refine w_ifb_ne hC dX7_search_31 (tgt := 41) (by decide) (fun c31 => ?_) (fun c31 => ?_)
  rotate_left
  · exact absurd c31 (by omega)
  refine z_aload_n hC dX7_search_41 rfl ?_
  refine z_iload_n hC dX7_search_42 rfl ?_
  refine z_iload_n hC dX7_search_43 rfl ?_
  refine wVv hC dX7_search_44 zlX7_353 (c_noList_t hS hs hm4 hq hh hn40 hmn) (hS _) rfl rfl rfl rfl rfl rfl ⟨rfl, rfl⟩ ?_
  refine z_istore hC dX7_search_47 (lo2 := [_, _, _, _, _, _, _, _, _, _, _]) (Nat.le_of_ble_eq_true rfl) rfl rfl ?_
  refine z_iload hC dX7_search_49 rfl ?_
  refine z_nif_eq hC dX7_search_51 (tgt := 57) (by decide) (by omega) (fun c51 => ?_) (fun c51 => ?_)
  rotate_left
  · exact absurd c51 (fun z => z rfl)
  refine z_aload_n hC dX7_search_57 rfl ?_
  refine z_aload_n hC dX7_search_58 rfl ?_
  refine z_getR hC dX7_search_59 (hS _) zfX7_21 rfl ?_
  refine z_iload_n hC dX7_search_62 rfl ?_
  refine z_aald hC (by decide) dX7_search_63 (hS _) (by rw [List.length_map, List.length_range]; exact vp_in_nI (by omega) (by decide)) (msel8 hs) ?_
  refine z_iload_n hC dX7_search_64 rfl ?_
  refine wVv hC dX7_search_65 zlX7_360 (c_areLooks_t hS hm hR hs hm4 hw) (hS _) rfl rfl rfl rfl rfl rfl ⟨rfl, rfl⟩ ?_
  refine z_if_ne hC dX7_search_68 (tgt := 78) (by decide) (fun c68 => ?_) (fun c68 => ?_)
  rotate_left
  · exact absurd c68 (by decide)
  refine z_aload_n hC dX7_search_78 rfl ?_
  refine yVv hC dX7_search_79 zlX7_263 hc2 (hS _) rfl rfl rfl rfl rfl rfl ⟨by decide, by decide⟩ ?_
  refine z_astore hC dX7_search_82 (lo2 := [_, _, _, _, _, _, _, _, _, _, _]) (Nat.le_of_ble_eq_true rfl) rfl rfl ?_
  refine z_iconst hC dX7_search_84 (v := nI 0) rfl ?_
  refine z_istore hC dX7_search_85 (lo2 := [_, _, _, _, _, _, _, _, _, _, _]) (Nat.le_of_ble_eq_true rfl) rfl rfl ?_
  refine z_iconst hC dX7_search_87 (v := nI 0) rfl ?_
  refine z_istore hC dX7_search_88 (lo2 := [_, _, _, _, _, _, _, _, _, _, _]) (Nat.le_of_ble_eq_true rfl) rfl rfl ?_
  refine z_iconst hC dX7_search_90 (v := nI 0) rfl ?_
  refine z_istore hC dX7_search_91 (lo2 := [_, _, _, _, _, _, _, _, _, _, _]) (Nat.le_of_ble_eq_true rfl) rfl rfl ?_
  have loop93 : ∀ (fuel : Nat) (k : Nat) (I1 X1 : zI), m - k < fuel → k ≤ m → zQm 1 (rmis D.1 (srM (D.1.2.1 4) (Y 0 (4 + 1 + s)) k)) I1 X1 → MMe true D I1 X1 Y → zL C 11 ad (zmd 1 S) 47 14378 sz2 I1 X1 Y 93 [some (zr 0 0), some (zi (nI s)), some (zi (nI m)), some (zi (nI u)), some (zi (nI 0)), some (zr 1 0), some (zi (nI (srT D.1 (Y 0 (4 + 1 + s)) k))), some (zi (nI (srF D.1 (Y 0 (4 + 1 + s)) k))), some (zi (nI k)), none, none] [] := by
    intro fuel
    induction fuel with
    | zero => intro k I1 X1 hfu; exact absurd hfu (Nat.not_lt_zero _)
    | succ fuel ih =>
      intro k I1 X1 hfu hkm hqi hMi
      have hRk : ROK (rmis D.1 (srM (D.1.2.1 4) (Y 0 (4 + 1 + s)) k)) := rmis_ok hR (srM_le (fun i hi => (hR.2.2.2.2.2.2.1 i hi).2.2.2.2.2) k (fun t ht => hsb t (by omega)))
      refine z_iload hC dX7_search_93 rfl ?_
      refine z_iload_n hC dX7_search_95 rfl ?_
      refine z_nicmp_ge hC dX7_search_96 (tgt := 176) (by decide) (by omega) (by omega) (fun c96 => ?_) (fun c96 => ?_)
      · skip
        have hkm2 : k = m := by omega
        refine z_iload_n hC dX7_search_176 rfl ?_
        refine z_nif_ne hC dX7_search_177 (tgt := 185) (by decide) (by omega) (fun c177 => ?_) (fun c177 => ?_)
        · skip
          refine z_iload hC dX7_search_185 rfl ?_
          refine z_widen (k := 47) (n := 14378) (by decide) (by decide) ?_
          refine z_iret hC dX7_search_187 ?_
          exact (hE _ (zmd 1 S) _ _ _ sz2 ⟨rfl, Or.inr ⟨rfl, hMi⟩⟩).to (by first | (rw [if_pos (by omega), hkm2]) | (rw [if_neg (by omega), hkm2])) rfl rfl rfl
        refine z_iload hC dX7_search_180 rfl ?_
        refine z_goto hC dX7_search_182 (tgt := 187) (by decide) ?_
        refine z_widen (k := 47) (n := 14378) (by decide) (by decide) ?_
        refine z_iret hC dX7_search_187 ?_
        exact (hE _ (zmd 1 S) _ _ _ sz2 ⟨rfl, Or.inr ⟨rfl, hMi⟩⟩).to (by first | (rw [if_pos (by omega), hkm2]) | (rw [if_neg (by omega), hkm2])) rfl rfl rfl
      obtain ⟨v, hb, hl1, hl3, ev, en⟩ := tlk_e hn14 (hw k (by omega))
      have ec : srB (Y 0 (4 + 1 + s)) k = v / 10 ∧ srL (Y 0 (4 + 1 + s)) k = v % 10 := by unfold srB srL lnn; rw [en]; exact ⟨rfl, rfl⟩
      refine z_aload_n hC dX7_search_99 rfl ?_
      refine z_getR hC dX7_search_100 (hS0 _) zfX7_21 rfl ?_
      refine z_iload_n hC dX7_search_103 rfl ?_
      refine z_aald hC (by decide) dX7_search_104 (hS0 _) (by rw [List.length_map, List.length_range]; exact vp_in_nI (by omega) (by decide)) (msel8 hs) ?_
      refine z_iload hC dX7_search_105 rfl ?_
      refine z_nlald hC dX7_search_107 ((hS0 _).trans (msh_rows hs).1) (by omega) rfl ?_
      rw [ev]
      refine z_m2n hC dX7_search_108  ?_
      refine z_bipush hC dX7_search_109 (v := nI 10) rfl ?_
      refine z_ndiv hC dX7_search_111 (by omega) (by omega) (by omega) ?_
      refine z_istore hC dX7_search_112 (lo2 := [_, _, _, _, _, _, _, _, _, _, _]) (Nat.le_of_ble_eq_true rfl) rfl rfl ?_
      refine z_aload_n hC dX7_search_114 rfl ?_
      refine z_getR hC dX7_search_115 (hS0 _) zfX7_21 rfl ?_
      refine z_iload_n hC dX7_search_118 rfl ?_
      refine z_aald hC (by decide) dX7_search_119 (hS0 _) (by rw [List.length_map, List.length_range]; exact vp_in_nI (by omega) (by decide)) (msel8 hs) ?_
      refine z_iload hC dX7_search_120 rfl ?_
      refine z_nlald hC dX7_search_122 ((hS0 _).trans (msh_rows hs).1) (by omega) rfl ?_
      rw [ev]
      refine z_m2n hC dX7_search_123  ?_
      refine z_bipush hC dX7_search_124 (v := nI 10) rfl ?_
      refine z_nrem hC dX7_search_126 (by omega) (by omega) (by omega) ?_
      refine z_istore hC dX7_search_127 (lo2 := [_, _, _, _, _, _, _, _, _, _, _]) (Nat.le_of_ble_eq_true rfl) rfl rfl ?_
      refine z_aload hC dX7_search_129 rfl ?_
      refine wV0 hC dX7_search_131 zlX7_294 (c_X7_weigh hS1 hqi hRk) (hS1 _) rfl rfl rfl rfl rfl rfl ⟨rfl, rfl⟩ ?_
      have hMw : MMe true D (mwI 1 (rmis D.1 (srM (D.1.2.1 4) (Y 0 (4 + 1 + s)) k)) I1) (mwX 1 (rmis D.1 (srM (D.1.2.1 4) (Y 0 (4 + 1 + s)) k)) X1) Y := hMi.off mwI_off mwX_off
      have hz1 := hMw.1
      refine z_iload hC dX7_search_134 rfl ?_
      refine z_aload_n hC dX7_search_136 rfl ?_
      refine z_iload hC dX7_search_137 rfl ?_
      refine z_iload hC dX7_search_139 rfl ?_
      refine wVv hC dX7_search_141 zlX7_312 (c_X7_secondsOf hS0 hz1 hR hb (by omega)) (hS0 _) rfl rfl rfl rfl rfl rfl ⟨rfl, rfl⟩ ?_
      refine z_nadd hC dX7_search_144  ?_
      refine z_istore hC dX7_search_145 (lo2 := [_, _, _, _, _, _, _, _, _, _, _]) (Nat.le_of_ble_eq_true rfl) rfl rfl ?_
      refine z_iload hC dX7_search_147 rfl ?_
      refine z_aload hC dX7_search_149 rfl ?_
      refine z_iload hC dX7_search_151 rfl ?_
      refine z_iload hC dX7_search_153 rfl ?_
      refine wVv hC dX7_search_155 zlX7_315 (c_X7_foundBy hS1 hqi.mw hRk mwF_of (i := v / 10) (l := v % 10) hb hl1 hl3) (hS1 _) rfl rfl rfl rfl rfl rfl ⟨rfl, rfl⟩ ?_
      refine z_nadd hC dX7_search_158  ?_
      refine z_istore hC dX7_search_159 (lo2 := [_, _, _, _, _, _, _, _, _, _, _]) (Nat.le_of_ble_eq_true rfl) rfl rfl ?_
      refine z_aload hC dX7_search_161 rfl ?_
      refine z_iload hC dX7_search_163 rfl ?_
      refine z_iload hC dX7_search_165 rfl ?_
      refine wV0 hC dX7_search_167 zlX7_244 (c_X7_misses hS1 hqi.mw hRk (i := v / 10) (l := v % 10) hb hl1 hl3) (hS1 _) rfl rfl rfl rfl rfl rfl ⟨rfl, rfl⟩ ?_
      have hqn := hqi.mw (R2 := (rmis D.1 (srM (D.1.2.1 4) (Y 0 (4 + 1 + s)) k))) |>.miss (x := v / 10) (l := v % 10)
      rw [srM_s ec] at hqn
      refine z_ninc hC dX7_search_170 (lo2 := [_, _, _, _, _, _, _, _, _, _, _]) rfl rfl rfl rfl ?_
      refine z_goto hC dX7_search_173 (tgt := 93) (by decide) ?_
      refine z_sub ?_ (ih (k + 1) _ _ (by omega) (by omega) hqn (hMw.off (fun b k j h => rfl) (fun b k j h => up3_ne (by omega))))
      rw [show srT D.1 (Y 0 (4 + 1 + s)) (k + 1) = srT D.1 (Y 0 (4 + 1 + s)) k + secN (D.1.2.1 2 (v / 10)) (v % 10) by rw [← ec.1, ← ec.2]; rfl, show srF D.1 (Y 0 (4 + 1 + s)) (k + 1) = srF D.1 (Y 0 (4 + 1 + s)) k + fbN (fwN (rmis D.1 (srM (D.1.2.1 4) (Y 0 (4 + 1 + s)) k))) (v / 10) (v % 10) by rw [← ec.1, ← ec.2, rmis_f]; rfl]
      simp [zsub]
  exact z_sub (by simp [zsub, srT, srF, sumN]) (loop93 _ 0 _ _ (Nat.lt_succ_self _) (Nat.zero_le _) (by show zQm 1 (rmis D.1 (D.1.2.1 4)) _ _; rw [rmis_0]; exact hq2) hM2)

theorem m_search (hS : ∀ k, S 0 k = msh 0 k) (hO : DOK D) (hM : MMe qe D I X Y) (hb : zBk 1 qe ad S I X Y sz) {x y u : Int32} : mX mX7_search 6 [zr 0 0, zi x, zi y, zi u] (some (zi (searchS D x y u).1)) (searchS D x y u).2 ad S I X Y sz qe := by
  have hn14 := hO.1.1
  unfold searchS tolN
  by_cases hx : inB x 8
  · obtain ⟨s, hs, rfl, e1⟩ := inB_e hx (by decide)
    by_cases hu : iw u 0 1
    · rw [if_pos hu, if_pos hx, e1]
      obtain ⟨u, -, hu1, rfl, e3⟩ := iw_e hu (by decide) (by decide)
      rw [e3]
      by_cases hy : inB y 41
      · rw [if_pos hy]
        obtain ⟨m, hm1, rfl, e2⟩ := inB_e hy (by decide)
        rw [e2]
        have hn40 := (hO.2.2.2 s hs).1
        rcases sh_stM hO hM hs with ⟨h1, h2⟩ | ⟨q, hq, h1, h2⟩ | ⟨b, hb2, h1, h2⟩
        · rw [h1]
          exact mX.a (w_search_n hS hO hM hs (by omega) h2 hu1) (hM.rf (by decide))
        · rw [h1]
          dsimp only
          rw [if_neg (by omega)]
          by_cases hmn : m ≤ D.2.2.2.1.2.1 s
          · rw [if_pos hmn]
            dsimp only
            have hel2 : ∀ t, t < m → Y 0 (4 + 1 + s) t = D.2.2.2.1.2.2 s t := fun t ht => h2.2.2.2 t (by omega)
            obtain ⟨c1, c2, c3⟩ := sr_congr (R := D.1) m hel2
            by_cases hw : allT (D.2.2.2.1.2.2 s) (D.1.1 0) m = true
            · rw [if_pos hw, ← c2, ← c3]
              exact w_search_t hS hO hM hb hs (by omega) hq h2 hn40 hmn (fun t ht => by rw [hel2 t ht]; exact allT_iff.mp hw t ht) hu1
            · rw [if_neg hw]
              exact mX.a (w_search_s hS hO hM hs (by omega) hq h2 hn40 hmn (fun z => hw (allT_iff.mpr (fun t ht => by rw [← hel2 t ht]; exact z t ht))) hu1) (hM.rf (by decide))
          · rw [if_neg hmn]
            exact mX.a (w_search_l hS hO hM hs (by omega) hq h2 hn40 (by omega) hu1) (hM.rf (by decide))
        · rw [h1]
          dsimp only
          rw [if_pos (by omega)]
          exact mX.a (w_search_b hS hO hM hs (by omega) (by omega) h2 hu1) (hM.rf (by decide))
      · rw [if_neg hy]
        exact mX.a (w_search_w hS hO hM hs hy hu1) (hM.rf (by decide))
    · rw [if_neg hu]
      exact mX.a (w_search_u hS hO hM hs hu) (hM.rf (by decide))
  · rw [if_neg hx]
    have e : (if iw u 0 1 then (match (some 0 : Option Nat) with
      | some j => bad j D
      | none => if allT (D.2.2.2.1.2.2 (nn x)) (D.1.1 0) (nn y) = true then (if nn u = 0 then nI (srT D.1 (D.2.2.2.1.2.2 (nn x)) (nn y)) else nI (srF D.1 (D.2.2.2.1.2.2 (nn x)) (nn y)), D) else bad 3 D) else bad 0 D) = bad 0 D := by split <;> rfl
    rw [e]
    exact mX.a (w_search_f hS hO hM hx) (hM.rf (by decide))
end
