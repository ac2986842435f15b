/-! the reference: ways, falls -/
section
variable {ad : zA} {S : zSh} {I X : zI} {Y : zY} {sz : Nat} {D : DS} {qe : Bool}

theorem w_fall_t (hS : ∀ k, S 0 k = msh 0 k) (hO : DOK D) (hM : MMe qe D I X Y) {b v : Nat} (hb : b < D.1.1 0) (h1 : 1 ≤ v) (h9 : v ≤ 9) : zC0 mX7_fall 6 [zr 0 0, zi (nI b), zi (nI v)] (some (zi (nI (rfall D.1 v b)))) ad S I X Y sz I X Y := by
  refine zgo (own := RX7) (k := 0) (by decide +kernel) rfl rfl rfl (fun C hC hnm hE => ?_)
  have hm := hM.1
  have hR := hO.1
  have hmo := hm
  have hn14 := hR.1
  have hn8 := hR.2.1
  have hn6 := hR.2.2.1
  refine z_aload_n hC dX7_fall_0 rfl ?_
  refine z_iload_n hC dX7_fall_1 rfl ?_
  refine z_n2m hC dX7_fall_2 (by omega) ?_
  refine wVv hC dX7_fall_3 zlX7_118 (c_X7_isBendN hS hm hR (by omega)) (hS _) rfl rfl rfl rfl rfl rfl ⟨rfl, rfl⟩ ?_
  refine w_ifb_eq hC dX7_fall_6 (tgt := 30) (by decide) (fun c6 => ?_) (fun c6 => ?_)
  · exact absurd c6 (by omega)
  refine z_iload_n hC dX7_fall_9 rfl ?_
  refine z_n2m hC dX7_fall_10 (by omega) ?_
  refine z_lconst hC dX7_fall_11 (v := lN 1) rfl ?_
  refine z_ldc2 hC dX7_fall_12 (v := lN 9) (zin5 (i := 167) rfl rfl) ?_
  refine wSv hC dX7_fall_15 zlX7_97 (c_X7_inN (by omega) (by omega) (by omega)) rfl rfl rfl rfl ⟨rfl, rfl⟩ ?_
  refine w_ifb_eq hC dX7_fall_18 (tgt := 30) (by decide) (fun c18 => ?_) (fun c18 => ?_)
  · exact absurd c18 (by omega)
  refine z_aload_n hC dX7_fall_21 rfl ?_
  refine z_iload_n hC dX7_fall_22 rfl ?_
  refine z_iload_n hC dX7_fall_23 rfl ?_
  refine wVv hC dX7_fall_24 zlX7_128 (c_X7_fallOf hS hm hR hb h9) (hS _) rfl rfl rfl rfl rfl rfl ⟨rfl, rfl⟩ ?_
  refine z_goto hC dX7_fall_27 (tgt := 36) (by decide) ?_
  refine z_iret hC dX7_fall_36 ?_
  exact hE.to (by rfl) rfl rfl rfl

theorem w_fall_f (hS : ∀ k, S 0 k = msh 0 k) (hO : DOK D) (hM : MMe qe D I X Y) {x y : Int32} (hx : ¬ (inB x (D.1.1 0) ∧ iw y 1 9)) : zC0 mX7_fall 6 [zr 0 0, zi x, zi y] (some (zi (-2))) ad S I X Y sz I (rmX 0 0 X) Y := by
  refine zgo (own := RX7) (k := 0) (by decide +kernel) rfl rfl rfl (fun C hC hnm hE => ?_)
  have hm := hM.1
  have hR := hO.1
  have hmo := hm
  have hn14 := hR.1
  have hn8 := hR.2.1
  have hn6 := hR.2.2.1
  refine z_aload_n hC dX7_fall_0 rfl ?_
  refine z_iload_n hC dX7_fall_1 rfl ?_
  refine z_i2l hC dX7_fall_2  ?_
  refine wVv hC dX7_fall_3 zlX7_118 (c_X7_isBendI hS hm hR) (hS _) rfl rfl rfl rfl rfl rfl ⟨rfl, rfl⟩ ?_
  refine w_ifb_eq hC dX7_fall_6 (tgt := 30) (by decide) (fun c6 => ?_) (fun c6 => ?_)
  · skip
    refine z_aload_n hC dX7_fall_30 rfl ?_
    refine z_bipush hC dX7_fall_31 (v := -2) rfl ?_
    refine wVv hC dX7_fall_33 zlX7_107 (c_X7_refuse hS (j := 0) (by decide) (by decide)) (hS _) rfl rfl rfl rfl rfl rfl ⟨rfl, rfl⟩ ?_
    refine z_iret hC dX7_fall_36 ?_
    exact hE.to (by rfl) rfl rfl rfl
  refine z_iload_n hC dX7_fall_9 rfl ?_
  refine z_i2l hC dX7_fall_10  ?_
  refine z_lconst hC dX7_fall_11 (v := lN 1) rfl ?_
  refine z_ldc2 hC dX7_fall_12 (v := lN 9) (zin5 (i := 167) rfl rfl) ?_
  refine wSv hC dX7_fall_15 zlX7_97 (c_X7_inI (by omega) (by omega)) rfl rfl rfl rfl ⟨rfl, rfl⟩ ?_
  refine w_ifb_eq hC dX7_fall_18 (tgt := 30) (by decide) (fun c18 => ?_) (fun c18 => ?_)
  rotate_left
  · exact absurd c18 (fun z => hx ⟨c6, z⟩)
  refine z_aload_n hC dX7_fall_30 rfl ?_
  refine z_bipush hC dX7_fall_31 (v := -2) rfl ?_
  refine wVv hC dX7_fall_33 zlX7_107 (c_X7_refuse hS (j := 0) (by decide) (by decide)) (hS _) rfl rfl rfl rfl rfl rfl ⟨rfl, rfl⟩ ?_
  refine z_iret hC dX7_fall_36 ?_
  exact hE.to (by rfl) rfl rfl rfl

theorem m_fall (hS : ∀ k, S 0 k = msh 0 k) (hO : DOK D) (hM : MMe qe D I X Y) {x y : Int32} : mC mX7_fall 6 [zr 0 0, zi x, zi y] (some (zi (fallS D x y).1)) (fallS D x y).2 ad S I X Y sz qe := by
  have hn14 := hO.1.1
  unfold fallS
  by_cases h : inB x (D.1.1 0) ∧ iw y 1 9
  · rw [if_pos h]
    obtain ⟨b, hb, rfl, e1⟩ := inB_e h.1 (by omega)
    obtain ⟨v, h1, h9, rfl, e2⟩ := iw_e h.2 (by decide) (by decide)
    rw [e1, e2]
    exact ⟨I, X, Y, hM, w_fall_t hS hO hM hb h1 h9⟩
  · rw [if_neg h]
    exact ⟨I, rmX 0 0 X, Y, hM.rf (by decide), w_fall_f hS hO hM h⟩

theorem w_fell_t (hS : ∀ k, S 0 k = msh 0 k) (hO : DOK D) (hM : MMe qe D I X Y) {b v : Nat} (hb : b < D.1.1 0) (h1 : 1 ≤ v) (h9 : v ≤ 9) : zC0 mX7_fell 6 [zr 0 0, zi (nI b), zi (nI v)] (some (zi (nI (fellN (rfall D.1 v) b)))) ad S I X Y sz (up3 I 0 0 38 (nI (heldN (rfall D.1 v) (D.1.1 0)))) (zrow 0 29 (fellN (rfall D.1 v)) (D.1.1 0) X) Y := by
  refine zgo (own := RX7) (k := 0) (by decide +kernel) rfl rfl rfl (fun C hC hnm hE => ?_)
  have hm := hM.1
  have hR := hO.1
  have hmo := hm
  have hn14 := hR.1
  have hn8 := hR.2.1
  have hn6 := hR.2.2.1
  refine z_iload_n hC dX7_fell_0 rfl ?_
  refine z_iconst hC dX7_fell_1 (v := -1) rfl ?_
  refine z_icmp_eq hC dX7_fell_2 (tgt := 14) (by decide) (fun c2 => ?_) (fun c2 => ?_)
  · exact absurd c2 (zne1 (by omega))
  refine z_aload_n hC dX7_fell_5 rfl ?_
  refine z_iload_n hC dX7_fell_6 rfl ?_
  refine z_n2m hC dX7_fell_7 (by omega) ?_
  refine wVv hC dX7_fell_8 zlX7_118 (c_X7_isBendN hS hm hR (by omega)) (hS _) rfl rfl rfl rfl rfl rfl ⟨rfl, rfl⟩ ?_
  refine w_ifb_eq hC dX7_fell_11 (tgt := 26) (by decide) (fun c11 => ?_) (fun c11 => ?_)
  · exact absurd c11 (by omega)
  refine z_iload_n hC dX7_fell_14 rfl ?_
  refine z_n2m hC dX7_fell_15 (by omega) ?_
  refine z_lconst hC dX7_fell_16 (v := lN 1) rfl ?_
  refine z_ldc2 hC dX7_fell_17 (v := lN 9) (zin5 (i := 167) rfl rfl) ?_
  refine wSv hC dX7_fell_20 zlX7_97 (c_X7_inN (by omega) (by omega) (by omega)) rfl rfl rfl rfl ⟨rfl, rfl⟩ ?_
  refine w_ifb_ne hC dX7_fell_23 (tgt := 33) (by decide) (fun c23 => ?_) (fun c23 => ?_)
  rotate_left
  · exact absurd c23 (by omega)
  refine z_aload_n hC dX7_fell_33 rfl ?_
  refine z_iload_n hC dX7_fell_34 rfl ?_
  refine z_iconst hC dX7_fell_35 (v := nI 0) rfl ?_
  refine z_iconst hC dX7_fell_36 (v := -1) rfl ?_
  refine wV0 hC dX7_fell_37 zlX7_282 (c_X7_goes0 hS hm hR h9) (hS _) rfl rfl rfl rfl rfl rfl ⟨rfl, rfl⟩ ?_
  refine z_iload_n hC dX7_fell_40 rfl ?_
  refine z_iconst hC dX7_fell_41 (v := -1) rfl ?_
  refine z_icmp_ne hC dX7_fell_42 (tgt := 52) (by decide) (fun c42 => ?_) (fun c42 => ?_)
  rotate_left
  · exact absurd c42 (zne1 (by omega))
  refine z_aload_n hC dX7_fell_52 rfl ?_
  refine z_getR hC dX7_fell_53 (hS _) zfX7_83 rfl ?_
  refine z_iload_n hC dX7_fell_56 rfl ?_
  refine z_naldN hC dX7_fell_57 (hS _) (by omega) rfl (zrow_get (f := fellN (rfall D.1 v)) hb) ?_
  refine z_iret hC dX7_fell_58 ?_
  exact hE.to (by rfl) rfl rfl rfl

theorem w_fell_n (hS : ∀ k, S 0 k = msh 0 k) (hO : DOK D) (hM : MMe qe D I X Y) {v : Nat} (h1 : 1 ≤ v) (h9 : v ≤ 9) : zC0 mX7_fell 6 [zr 0 0, zi (-1), zi (nI v)] (some (zi (nI (heldN (rfall D.1 v) (D.1.1 0))))) ad S I X Y sz (up3 I 0 0 38 (nI (heldN (rfall D.1 v) (D.1.1 0)))) (zrow 0 29 (fellN (rfall D.1 v)) (D.1.1 0) X) Y := by
  refine zgo (own := RX7) (k := 0) (by decide +kernel) rfl rfl rfl (fun C hC hnm hE => ?_)
  have hm := hM.1
  have hR := hO.1
  have hmo := hm
  have hn14 := hR.1
  have hn8 := hR.2.1
  have hn6 := hR.2.2.1
  refine z_iload_n hC dX7_fell_0 rfl ?_
  refine z_iconst hC dX7_fell_1 (v := -1) rfl ?_
  refine z_icmp_eq hC dX7_fell_2 (tgt := 14) (by decide) (fun c2 => ?_) (fun c2 => ?_)
  rotate_left
  · exact absurd c2 (fun z => z rfl)
  refine z_iload_n hC dX7_fell_14 rfl ?_
  refine z_n2m hC dX7_fell_15 (by omega) ?_
  refine z_lconst hC dX7_fell_16 (v := lN 1) rfl ?_
  refine z_ldc2 hC dX7_fell_17 (v := lN 9) (zin5 (i := 167) rfl rfl) ?_
  refine wSv hC dX7_fell_20 zlX7_97 (c_X7_inN (by omega) (by omega) (by omega)) rfl rfl rfl rfl ⟨rfl, rfl⟩ ?_
  refine w_ifb_ne hC dX7_fell_23 (tgt := 33) (by decide) (fun c23 => ?_) (fun c23 => ?_)
  rotate_left
  · exact absurd c23 (by omega)
  refine z_aload_n hC dX7_fell_33 rfl ?_
  refine z_iload_n hC dX7_fell_34 rfl ?_
  refine z_iconst hC dX7_fell_35 (v := nI 0) rfl ?_
  refine z_iconst hC dX7_fell_36 (v := -1) rfl ?_
  refine wV0 hC dX7_fell_37 zlX7_282 (c_X7_goes0 hS hm hR h9) (hS _) rfl rfl rfl rfl rfl rfl ⟨rfl, rfl⟩ ?_
  refine z_iload_n hC dX7_fell_40 rfl ?_
  refine z_iconst hC dX7_fell_41 (v := -1) rfl ?_
  refine z_icmp_ne hC dX7_fell_42 (tgt := 52) (by decide) (fun c42 => ?_) (fun c42 => ?_)
  · exact absurd c42 (fun z => z rfl)
  refine z_aload_n hC dX7_fell_45 rfl ?_
  refine z_getN hC dX7_fell_46 (hS _) zfX7_276 rfl (up3_eq _ _ _ _ _) ?_
  refine z_goto hC dX7_fell_49 (tgt := 58) (by decide) ?_
  refine z_iret hC dX7_fell_58 ?_
  exact hE.to (by rfl) rfl rfl rfl

theorem w_fell_f (hS : ∀ k, S 0 k = msh 0 k) (hO : DOK D) (hM : MMe qe D I X Y) {x y : Int32} (hx : ¬ ((x = -1 ∨ inB x (D.1.1 0)) ∧ iw y 1 9)) : zC0 mX7_fell 6 [zr 0 0, zi x, zi y] (some (zi (-2))) ad S I X Y sz I (rmX 0 0 X) Y := by
  refine zgo (own := RX7) (k := 0) (by decide +kernel) rfl rfl rfl (fun C hC hnm hE => ?_)
  have hm := hM.1
  have hR := hO.1
  have hmo := hm
  have hn14 := hR.1
  have hn8 := hR.2.1
  have hn6 := hR.2.2.1
  refine z_iload_n hC dX7_fell_0 rfl ?_
  refine z_iconst hC dX7_fell_1 (v := -1) rfl ?_
  refine z_icmp_eq hC dX7_fell_2 (tgt := 14) (by decide) (fun c2 => ?_) (fun c2 => ?_)
  · skip
    refine z_iload_n hC dX7_fell_14 rfl ?_
    refine z_i2l hC dX7_fell_15  ?_
    refine z_lconst hC dX7_fell_16 (v := lN 1) rfl ?_
    refine z_ldc2 hC dX7_fell_17 (v := lN 9) (zin5 (i := 167) rfl rfl) ?_
    refine wSv hC dX7_fell_20 zlX7_97 (c_X7_inI (by omega) (by omega)) rfl rfl rfl rfl ⟨rfl, rfl⟩ ?_
    refine w_ifb_ne hC dX7_fell_23 (tgt := 33) (by decide) (fun c23 => ?_) (fun c23 => ?_)
    · exact absurd c23 (fun z => hx ⟨by first | exact Or.inl c2 | exact Or.inr c11, z⟩)
    refine z_aload_n hC dX7_fell_26 rfl ?_
    refine z_bipush hC dX7_fell_27 (v := -2) rfl ?_
    refine wVv hC dX7_fell_29 zlX7_107 (c_X7_refuse hS (j := 0) (by decide) (by decide)) (hS _) rfl rfl rfl rfl rfl rfl ⟨rfl, rfl⟩ ?_
    refine z_iret hC dX7_fell_32 ?_
    exact hE.to (by rfl) rfl rfl rfl
  refine z_aload_n hC dX7_fell_5 rfl ?_
  refine z_iload_n hC dX7_fell_6 rfl ?_
  refine z_i2l hC dX7_fell_7  ?_
  refine wVv hC dX7_fell_8 zlX7_118 (c_X7_isBendI hS hm hR) (hS _) rfl rfl rfl rfl rfl rfl ⟨rfl, rfl⟩ ?_
  refine w_ifb_eq hC dX7_fell_11 (tgt := 26) (by decide) (fun c11 => ?_) (fun c11 => ?_)
  · skip
    refine z_aload_n hC dX7_fell_26 rfl ?_
    refine z_bipush hC dX7_fell_27 (v := -2) rfl ?_
    refine wVv hC dX7_fell_29 zlX7_107 (c_X7_refuse hS (j := 0) (by decide) (by decide)) (hS _) rfl rfl rfl rfl rfl rfl ⟨rfl, rfl⟩ ?_
    refine z_iret hC dX7_fell_32 ?_
    exact hE.to (by rfl) rfl rfl rfl
  refine z_iload_n hC dX7_fell_14 rfl ?_
  refine z_i2l hC dX7_fell_15  ?_
  refine z_lconst hC dX7_fell_16 (v := lN 1) rfl ?_
  refine z_ldc2 hC dX7_fell_17 (v := lN 9) (zin5 (i := 167) rfl rfl) ?_
  refine wSv hC dX7_fell_20 zlX7_97 (c_X7_inI (by omega) (by omega)) rfl rfl rfl rfl ⟨rfl, rfl⟩ ?_
  refine w_ifb_ne hC dX7_fell_23 (tgt := 33) (by decide) (fun c23 => ?_) (fun c23 => ?_)
  · exact absurd c23 (fun z => hx ⟨by first | exact Or.inl c2 | exact Or.inr c11, z⟩)
  refine z_aload_n hC dX7_fell_26 rfl ?_
  refine z_bipush hC dX7_fell_27 (v := -2) rfl ?_
  refine wVv hC dX7_fell_29 zlX7_107 (c_X7_refuse hS (j := 0) (by decide) (by decide)) (hS _) rfl rfl rfl rfl rfl rfl ⟨rfl, rfl⟩ ?_
  refine z_iret hC dX7_fell_32 ?_
  exact hE.to (by rfl) rfl rfl rfl

theorem m_fell (hS : ∀ k, S 0 k = msh 0 k) (hO : DOK D) (hM : MMe qe D I X Y) {x y : Int32} : mC mX7_fell 6 [zr 0 0, zi x, zi y] (some (zi (fellS D x y).1)) (fellS D x y).2 ad S I X Y sz qe := by
  have hn14 := hO.1.1
  unfold fellS
  by_cases h : (x = -1 ∨ inB x (D.1.1 0)) ∧ iw y 1 9
  · rw [if_pos h]
    obtain ⟨v, h1, h9, rfl, e2⟩ := iw_e h.2 (by decide) (by decide)
    rw [e2]
    by_cases hx : x = -1
    · subst hx
      rw [if_pos rfl]
      exact ⟨_, _, Y, hM.go, w_fell_n hS hO hM h1 h9⟩
    · obtain ⟨b, hb, rfl, e1⟩ := inB_e (h.1.resolve_left hx) (by omega)
      rw [if_neg hx, e1]
      exact ⟨_, _, Y, hM.go, w_fell_t hS hO hM hb h1 h9⟩
  · rw [if_neg h]
    exact ⟨I, rmX 0 0 X, Y, hM.rf (by decide), w_fell_f hS hO hM h⟩

theorem w_bendOf_t (hS : ∀ k, S 0 k = msh 0 k) (hO : DOK D) (hM : MMe qe D I X Y) {b v : Nat} (hb : b < D.1.1 0) (h6 : v ≤ 6) : zC0 mX7_bendOf 6 [zr 0 0, zi (nI b), zi (nI v)] (some (zi (if v = 5 then nI (rfall D.1 (D.1.1 3) b) else if v = 6 then nI (sumN (D.1.2.1 2) (b + 1)) else nI (D.1.2.1 v b)))) ad S I X Y sz I X Y := by
  refine zgo (own := RX7) (k := 0) (by decide +kernel) rfl rfl rfl (fun C hC hnm hE => ?_)
  have hm := hM.1
  have hR := hO.1
  have hmo := hm
  have hn14 := hR.1
  have hn8 := hR.2.1
  have hn6 := hR.2.2.1
  refine z_aload_n hC dX7_bendOf_0 rfl ?_
  refine z_iload_n hC dX7_bendOf_1 rfl ?_
  refine z_n2m hC dX7_bendOf_2 (by omega) ?_
  refine wVv hC dX7_bendOf_3 zlX7_118 (c_X7_isBendN hS hm hR (by omega)) (hS _) rfl rfl rfl rfl rfl rfl ⟨rfl, rfl⟩ ?_
  refine w_ifb_ne hC dX7_bendOf_6 (tgt := 16) (by decide) (fun c6 => ?_) (fun c6 => ?_)
  rotate_left
  · exact absurd c6 (by omega)
  refine z_iload_n hC dX7_bendOf_16 rfl ?_
  by_cases s17_0 : v = 0
  · refine z_tabK hC dX7_bendOf_17 (v := nI 0) (by rw [s17_0]) rfl rfl (tgt := 60) (by decide) ?_
    refine z_aload_n hC dX7_bendOf_60 rfl ?_
    refine z_getR hC dX7_bendOf_61 (hS _) zfX7_37 rfl ?_
    refine z_iload_n hC dX7_bendOf_64 rfl ?_
    refine z_naldN hC dX7_bendOf_65 (hS _) (by omega) rfl (show _ = nI (D.1.2.1 0 _) from hm.2.1 0 _ (by decide) (by omega)) ?_
    refine z_iret hC dX7_bendOf_66 ?_
    exact hE.to (by simp [*]) rfl rfl rfl
  by_cases s17_1 : v = 1
  · refine z_tabK hC dX7_bendOf_17 (v := nI 1) (by rw [s17_1]) rfl rfl (tgt := 67) (by decide) ?_
    refine z_aload_n hC dX7_bendOf_67 rfl ?_
    refine z_getR hC dX7_bendOf_68 (hS _) zfX7_40 rfl ?_
    refine z_iload_n hC dX7_bendOf_71 rfl ?_
    refine z_naldN hC dX7_bendOf_72 (hS _) (by omega) rfl (show _ = nI (D.1.2.1 1 _) from hm.2.1 1 _ (by decide) (by omega)) ?_
    refine z_iret hC dX7_bendOf_73 ?_
    exact hE.to (by simp [*]) rfl rfl rfl
  by_cases s17_2 : v = 2
  · refine z_tabK hC dX7_bendOf_17 (v := nI 2) (by rw [s17_2]) rfl rfl (tgt := 74) (by decide) ?_
    refine z_aload_n hC dX7_bendOf_74 rfl ?_
    refine z_getR hC dX7_bendOf_75 (hS _) zfX7_43 rfl ?_
    refine z_iload_n hC dX7_bendOf_78 rfl ?_
    refine z_naldN hC dX7_bendOf_79 (hS _) (by omega) rfl (show _ = nI (D.1.2.1 2 _) from hm.2.1 2 _ (by decide) (by omega)) ?_
    refine z_iret hC dX7_bendOf_80 ?_
    exact hE.to (by simp [*]) rfl rfl rfl
  by_cases s17_3 : v = 3
  · refine z_tabK hC dX7_bendOf_17 (v := nI 3) (by rw [s17_3]) rfl rfl (tgt := 81) (by decide) ?_
    refine z_aload_n hC dX7_bendOf_81 rfl ?_
    refine z_getR hC dX7_bendOf_82 (hS _) zfX7_46 rfl ?_
    refine z_iload_n hC dX7_bendOf_85 rfl ?_
    refine z_naldN hC dX7_bendOf_86 (hS _) (by omega) rfl (show _ = nI (D.1.2.1 3 _) from hm.2.1 3 _ (by decide) (by omega)) ?_
    refine z_iret hC dX7_bendOf_87 ?_
    exact hE.to (by simp [*]) rfl rfl rfl
  by_cases s17_4 : v = 4
  · refine z_tabK hC dX7_bendOf_17 (v := nI 4) (by rw [s17_4]) rfl rfl (tgt := 88) (by decide) ?_
    refine z_aload_n hC dX7_bendOf_88 rfl ?_
    refine z_getR hC dX7_bendOf_89 (hS _) zfX7_49 rfl ?_
    refine z_iload_n hC dX7_bendOf_92 rfl ?_
    refine z_naldN hC dX7_bendOf_93 (hS _) (by omega) rfl (show _ = nI (D.1.2.1 4 _) from hm.2.1 4 _ (by decide) (by omega)) ?_
    refine z_iret hC dX7_bendOf_94 ?_
    exact hE.to (by simp [*]) rfl rfl rfl
  by_cases s17_5 : v = 5
  · refine z_tabK hC dX7_bendOf_17 (v := nI 5) (by rw [s17_5]) rfl rfl (tgt := 95) (by decide) ?_
    refine z_aload_n hC dX7_bendOf_95 rfl ?_
    refine z_iload_n hC dX7_bendOf_96 rfl ?_
    refine z_aload_n hC dX7_bendOf_97 rfl ?_
    refine z_getN hC dX7_bendOf_98 (hS _) zfX7_70 rfl hm.1.2.2.2.1 ?_
    refine wVv hC dX7_bendOf_101 zlX7_128 (c_X7_fallOf hS hm hR hb hR.2.2.2.1.2) (hS _) rfl rfl rfl rfl rfl rfl ⟨rfl, rfl⟩ ?_
    refine z_iret hC dX7_bendOf_104 ?_
    exact hE.to (by simp [*]) rfl rfl rfl
  by_cases s17_6 : v = 6
  · refine z_tabK hC dX7_bendOf_17 (v := nI 6) (by rw [s17_6]) rfl rfl (tgt := 105) (by decide) ?_
    refine z_aload_n hC dX7_bendOf_105 rfl ?_
    refine z_iload_n hC dX7_bendOf_106 rfl ?_
    refine wVv hC dX7_bendOf_107 zlX7_270 (c_X7_yardsTo hS hm hR hb) (hS _) rfl rfl rfl rfl rfl rfl ⟨rfl, rfl⟩ ?_
    refine z_iret hC dX7_bendOf_110 ?_
    exact hE.to (by simp [*]) rfl rfl rfl
  exfalso; omega

theorem w_bendOf_f (hS : ∀ k, S 0 k = msh 0 k) (hO : DOK D) (hM : MMe qe D I X Y) {x y : Int32} (hx : ¬ (inB x (D.1.1 0) ∧ iw y 0 6)) : zC0 mX7_bendOf 6 [zr 0 0, zi x, zi y] (some (zi (-2))) ad S I X Y sz I (rmX 0 0 X) Y := by
  refine zgo (own := RX7) (k := 0) (by decide +kernel) rfl rfl rfl (fun C hC hnm hE => ?_)
  have hm := hM.1
  have hR := hO.1
  have hmo := hm
  have hn14 := hR.1
  have hn8 := hR.2.1
  have hn6 := hR.2.2.1
  refine z_aload_n hC dX7_bendOf_0 rfl ?_
  refine z_iload_n hC dX7_bendOf_1 rfl ?_
  refine z_i2l hC dX7_bendOf_2  ?_
  refine wVv hC dX7_bendOf_3 zlX7_118 (c_X7_isBendI hS hm hR) (hS _) rfl rfl rfl rfl rfl rfl ⟨rfl, rfl⟩ ?_
  refine w_ifb_ne hC dX7_bendOf_6 (tgt := 16) (by decide) (fun c6 => ?_) (fun c6 => ?_)
  · skip
    refine z_iload_n hC dX7_bendOf_16 rfl ?_
    by_cases s17_0 : y = 0
    · refine z_tabK hC dX7_bendOf_17 (v := 0) s17_0 rfl rfl (tgt := 60) (by decide) ?_
      exact absurd ⟨c6, by rw [s17_0]; exact ⟨by decide, by decide⟩⟩ hx
    by_cases s17_1 : y = 1
    · refine z_tabK hC dX7_bendOf_17 (v := 1) s17_1 rfl rfl (tgt := 67) (by decide) ?_
      exact absurd ⟨c6, by rw [s17_1]; exact ⟨by decide, by decide⟩⟩ hx
    by_cases s17_2 : y = 2
    · refine z_tabK hC dX7_bendOf_17 (v := 2) s17_2 rfl rfl (tgt := 74) (by decide) ?_
      exact absurd ⟨c6, by rw [s17_2]; exact ⟨by decide, by decide⟩⟩ hx
    by_cases s17_3 : y = 3
    · refine z_tabK hC dX7_bendOf_17 (v := 3) s17_3 rfl rfl (tgt := 81) (by decide) ?_
      exact absurd ⟨c6, by rw [s17_3]; exact ⟨by decide, by decide⟩⟩ hx
    by_cases s17_4 : y = 4
    · refine z_tabK hC dX7_bendOf_17 (v := 4) s17_4 rfl rfl (tgt := 88) (by decide) ?_
      exact absurd ⟨c6, by rw [s17_4]; exact ⟨by decide, by decide⟩⟩ hx
    by_cases s17_5 : y = 5
    · refine z_tabK hC dX7_bendOf_17 (v := 5) s17_5 rfl rfl (tgt := 95) (by decide) ?_
      exact absurd ⟨c6, by rw [s17_5]; exact ⟨by decide, by decide⟩⟩ hx
    by_cases s17_6 : y = 6
    · refine z_tabK hC dX7_bendOf_17 (v := 6) s17_6 rfl rfl (tgt := 105) (by decide) ?_
      exact absurd ⟨c6, by rw [s17_6]; exact ⟨by decide, by decide⟩⟩ hx
    refine z_tableOut hC dX7_bendOf_17 (zsw_out fun k h1 h2 => by
        have hk : k = 0 ∨ k = 1 ∨ k = 2 ∨ k = 3 ∨ k = 4 ∨ k = 5 ∨ k = 6 := by omega
        rcases hk with rfl | rfl | rfl | rfl | rfl | rfl | rfl <;> assumption) (tgt := 111) (by decide) ?_
    refine z_aload_n hC dX7_bendOf_111 rfl ?_
    refine z_bipush hC dX7_bendOf_112 (v := -2) rfl ?_
    refine wVv hC dX7_bendOf_114 zlX7_107 (c_X7_refuse hS (j := 0) (by decide) (by decide)) (hS _) rfl rfl rfl rfl rfl rfl ⟨rfl, rfl⟩ ?_
    refine z_iret hC dX7_bendOf_117 ?_
    exact hE.to (by rfl) rfl rfl rfl
  refine z_aload_n hC dX7_bendOf_9 rfl ?_
  refine z_bipush hC dX7_bendOf_10 (v := -2) rfl ?_
  refine wVv hC dX7_bendOf_12 zlX7_107 (c_X7_refuse hS (j := 0) (by decide) (by decide)) (hS _) rfl rfl rfl rfl rfl rfl ⟨rfl, rfl⟩ ?_
  refine z_iret hC dX7_bendOf_15 ?_
  exact hE.to (by rfl) rfl rfl rfl

theorem m_bendOf (hS : ∀ k, S 0 k = msh 0 k) (hO : DOK D) (hM : MMe qe D I X Y) {x y : Int32} : mC mX7_bendOf 6 [zr 0 0, zi x, zi y] (some (zi (bendOfS D x y).1)) (bendOfS D x y).2 ad S I X Y sz qe := by
  have hn14 := hO.1.1
  unfold bendOfS
  by_cases h : inB x (D.1.1 0) ∧ iw y 0 6
  · rw [if_pos h]
    obtain ⟨b, hb, rfl, e1⟩ := inB_e h.1 (by omega)
    obtain ⟨v, h1, h9, rfl, e2⟩ := iw_e h.2 (by decide) (by decide)
    rw [e1, e2]
    exact ⟨I, X, Y, hM, w_bendOf_t hS hO hM hb h9⟩
  · rw [if_neg h]
    exact ⟨I, rmX 0 0 X, Y, hM.rf (by decide), w_bendOf_f hS hO hM h⟩

theorem w_signOf_t (hS : ∀ k, S 0 k = msh 0 k) (hO : DOK D) (hM : MMe qe D I X Y) {i v : Nat} (hi : i < D.1.1 1) (h2 : v ≤ 2) : zC0 mX7_signOf 6 [zr 0 0, zi (nI i), zi (nI v)] (some (zi (nI (D.1.2.1 (5 + v) i)))) ad S I X Y sz I X Y := by
  refine zgo (own := RX7) (k := 0) (by decide +kernel) rfl rfl rfl (fun C hC hnm hE => ?_)
  have hm := hM.1
  have hR := hO.1
  have hmo := hm
  have hn14 := hR.1
  have hn8 := hR.2.1
  have hn6 := hR.2.2.1
  refine z_iload_n hC dX7_signOf_0 rfl ?_
  refine z_n2m hC dX7_signOf_1 (by omega) ?_
  refine z_lconst hC dX7_signOf_2 (v := lN 0) rfl ?_
  refine z_aload_n hC dX7_signOf_3 rfl ?_
  refine z_getN hC dX7_signOf_4 (hS _) zfX7_150 rfl hm.1.2.1 ?_
  refine z_iconst hC dX7_signOf_7 (v := nI 1) rfl ?_
  refine z_nsub hC dX7_signOf_8 (by omega) ?_
  refine z_n2m hC dX7_signOf_9 (by omega) ?_
  refine wSv hC dX7_signOf_10 zlX7_97 (c_X7_inN (by omega) (by omega) (by omega)) rfl rfl rfl rfl ⟨rfl, rfl⟩ ?_
  refine w_ifb_eq hC dX7_signOf_13 (tgt := 28) (by decide) (fun c13 => ?_) (fun c13 => ?_)
  · exact absurd c13 (by omega)
  refine z_iload_n hC dX7_signOf_16 rfl ?_
  refine z_n2m hC dX7_signOf_17 (by omega) ?_
  refine z_lconst hC dX7_signOf_18 (v := lN 0) rfl ?_
  refine z_ldc2 hC dX7_signOf_19 (v := lN 2) (zin6 (i := 63) rfl rfl) ?_
  refine wSv hC dX7_signOf_22 zlX7_97 (c_X7_inN (by omega) (by omega) (by omega)) rfl rfl rfl rfl ⟨rfl, rfl⟩ ?_
  refine w_ifb_ne hC dX7_signOf_25 (tgt := 35) (by decide) (fun c25 => ?_) (fun c25 => ?_)
  rotate_left
  · exact absurd c25 (by omega)
  refine z_iload_n hC dX7_signOf_35 rfl ?_
  refine z_nif_ne hC dX7_signOf_36 (tgt := 48) (by decide) (by omega) (fun c36 => ?_) (fun c36 => ?_)
  · skip
    refine z_iload_n hC dX7_signOf_48 rfl ?_
    refine z_iconst hC dX7_signOf_49 (v := nI 1) rfl ?_
    refine z_nicmp_ne hC dX7_signOf_50 (tgt := 62) (by decide) (by omega) (by omega) (fun c50 => ?_) (fun c50 => ?_)
    · skip
      refine z_aload_n hC dX7_signOf_62 rfl ?_
      refine z_getR hC dX7_signOf_63 (hS _) zfX7_58 rfl ?_
      refine z_iload_n hC dX7_signOf_66 rfl ?_
      refine z_naldN hC dX7_signOf_67 (hS _) (by omega) rfl (show _ = nI (D.1.2.1 7 _) from hm.2.2.1 2 _ (by decide) (by omega)) ?_
      refine z_iret hC dX7_signOf_68 ?_
      exact hE.to (by first | (rw [show v = 0 by omega]) | (rw [show v = 1 by omega]) | (rw [show v = 2 by omega])) rfl rfl rfl
    refine z_aload_n hC dX7_signOf_53 rfl ?_
    refine z_getR hC dX7_signOf_54 (hS _) zfX7_55 rfl ?_
    refine z_iload_n hC dX7_signOf_57 rfl ?_
    refine z_naldN hC dX7_signOf_58 (hS _) (by omega) rfl (show _ = nI (D.1.2.1 6 _) from hm.2.2.1 1 _ (by decide) (by omega)) ?_
    refine z_goto hC dX7_signOf_59 (tgt := 68) (by decide) ?_
    refine z_iret hC dX7_signOf_68 ?_
    exact hE.to (by first | (rw [show v = 0 by omega]) | (rw [show v = 1 by omega]) | (rw [show v = 2 by omega])) rfl rfl rfl
  refine z_aload_n hC dX7_signOf_39 rfl ?_
  refine z_getR hC dX7_signOf_40 (hS _) zfX7_52 rfl ?_
  refine z_iload_n hC dX7_signOf_43 rfl ?_
  refine z_naldN hC dX7_signOf_44 (hS _) (by omega) rfl (show _ = nI (D.1.2.1 5 _) from hm.2.2.1 0 _ (by decide) (by omega)) ?_
  refine z_goto hC dX7_signOf_45 (tgt := 68) (by decide) ?_
  refine z_iret hC dX7_signOf_68 ?_
  exact hE.to (by first | (rw [show v = 0 by omega]) | (rw [show v = 1 by omega]) | (rw [show v = 2 by omega])) rfl rfl rfl

theorem w_signOf_f (hS : ∀ k, S 0 k = msh 0 k) (hO : DOK D) (hM : MMe qe D I X Y) {x y : Int32} (hx : ¬ (inB x (D.1.1 1) ∧ iw y 0 2)) : zC0 mX7_signOf 6 [zr 0 0, zi x, zi y] (some (zi (-2))) ad S I X Y sz I (rmX 0 0 X) Y := by
  refine zgo (own := RX7) (k := 0) (by decide +kernel) rfl rfl rfl (fun C hC hnm hE => ?_)
  have hm := hM.1
  have hR := hO.1
  have hmo := hm
  have hn14 := hR.1
  have hn8 := hR.2.1
  have hn6 := hR.2.2.1
  refine z_iload_n hC dX7_signOf_0 rfl ?_
  refine z_i2l hC dX7_signOf_1  ?_
  refine z_lconst hC dX7_signOf_2 (v := lN 0) rfl ?_
  refine z_aload_n hC dX7_signOf_3 rfl ?_
  refine z_getN hC dX7_signOf_4 (hS _) zfX7_150 rfl hm.1.2.1 ?_
  refine z_iconst hC dX7_signOf_7 (v := nI 1) rfl ?_
  refine z_isub hC dX7_signOf_8  ?_
  refine z_i2l hC dX7_signOf_9  ?_
  refine wSv hC dX7_signOf_10 zlX7_97 (c_X7_inB (by omega)) rfl rfl rfl rfl ⟨rfl, rfl⟩ ?_
  refine w_ifb_eq hC dX7_signOf_13 (tgt := 28) (by decide) (fun c13 => ?_) (fun c13 => ?_)
  · skip
    refine z_aload_n hC dX7_signOf_28 rfl ?_
    refine z_bipush hC dX7_signOf_29 (v := -2) rfl ?_
    refine wVv hC dX7_signOf_31 zlX7_107 (c_X7_refuse hS (j := 0) (by decide) (by decide)) (hS _) rfl rfl rfl rfl rfl rfl ⟨rfl, rfl⟩ ?_
    refine z_iret hC dX7_signOf_34 ?_
    exact hE.to (by rfl) rfl rfl rfl
  refine z_iload_n hC dX7_signOf_16 rfl ?_
  refine z_i2l hC dX7_signOf_17  ?_
  refine z_lconst hC dX7_signOf_18 (v := lN 0) rfl ?_
  refine z_ldc2 hC dX7_signOf_19 (v := lN 2) (zin6 (i := 63) rfl rfl) ?_
  refine wSv hC dX7_signOf_22 zlX7_97 (c_X7_inI (by omega) (by omega)) rfl rfl rfl rfl ⟨rfl, rfl⟩ ?_
  refine w_ifb_ne hC dX7_signOf_25 (tgt := 35) (by decide) (fun c25 => ?_) (fun c25 => ?_)
  · exact absurd c25 (fun z => hx ⟨c13, z⟩)
  refine z_aload_n hC dX7_signOf_28 rfl ?_
  refine z_bipush hC dX7_signOf_29 (v := -2) rfl ?_
  refine wVv hC dX7_signOf_31 zlX7_107 (c_X7_refuse hS (j := 0) (by decide) (by decide)) (hS _) rfl rfl rfl rfl rfl rfl ⟨rfl, rfl⟩ ?_
  refine z_iret hC dX7_signOf_34 ?_
  exact hE.to (by rfl) rfl rfl rfl

theorem m_signOf (hS : ∀ k, S 0 k = msh 0 k) (hO : DOK D) (hM : MMe qe D I X Y) {x y : Int32} : mC mX7_signOf 6 [zr 0 0, zi x, zi y] (some (zi (signOfS D x y).1)) (signOfS D x y).2 ad S I X Y sz qe := by
  have hn14 := hO.1.2.1
  unfold signOfS
  by_cases h : inB x (D.1.1 1) ∧ iw y 0 2
  · rw [if_pos h]
    obtain ⟨b, hb, rfl, e1⟩ := inB_e h.1 (by omega)
    obtain ⟨v, h1, h9, rfl, e2⟩ := iw_e h.2 (by decide) (by decide)
    rw [e1, e2]
    exact ⟨I, X, Y, hM, w_signOf_t hS hO hM hb h9⟩
  · rw [if_neg h]
    exact ⟨I, rmX 0 0 X, Y, hM.rf (by decide), w_signOf_f hS hO hM h⟩

theorem w_callOf_t (hS : ∀ k, S 0 k = msh 0 k) (hO : DOK D) (hM : MMe qe D I X Y) {i v : Nat} (hi : i < D.1.1 2) (h2 : v ≤ 2) : zC0 mX7_callOf 6 [zr 0 0, zi (nI i), zi (nI v)] (some (zi (nI (D.1.2.1 (8 + v) i)))) ad S I X Y sz I X Y := by
  refine zgo (own := RX7) (k := 0) (by decide +kernel) rfl rfl rfl (fun C hC hnm hE => ?_)
  have hm := hM.1
  have hR := hO.1
  have hmo := hm
  have hn14 := hR.1
  have hn8 := hR.2.1
  have hn6 := hR.2.2.1
  refine z_iload_n hC dX7_callOf_0 rfl ?_
  refine z_n2m hC dX7_callOf_1 (by omega) ?_
  refine z_lconst hC dX7_callOf_2 (v := lN 0) rfl ?_
  refine z_aload_n hC dX7_callOf_3 rfl ?_
  refine z_getN hC dX7_callOf_4 (hS _) zfX7_163 rfl hm.1.2.2.1 ?_
  refine z_iconst hC dX7_callOf_7 (v := nI 1) rfl ?_
  refine z_nsub hC dX7_callOf_8 (by omega) ?_
  refine z_n2m hC dX7_callOf_9 (by omega) ?_
  refine wSv hC dX7_callOf_10 zlX7_97 (c_X7_inN (by omega) (by omega) (by omega)) rfl rfl rfl rfl ⟨rfl, rfl⟩ ?_
  refine w_ifb_eq hC dX7_callOf_13 (tgt := 28) (by decide) (fun c13 => ?_) (fun c13 => ?_)
  · exact absurd c13 (by omega)
  refine z_iload_n hC dX7_callOf_16 rfl ?_
  refine z_n2m hC dX7_callOf_17 (by omega) ?_
  refine z_lconst hC dX7_callOf_18 (v := lN 0) rfl ?_
  refine z_ldc2 hC dX7_callOf_19 (v := lN 2) (zin6 (i := 63) rfl rfl) ?_
  refine wSv hC dX7_callOf_22 zlX7_97 (c_X7_inN (by omega) (by omega) (by omega)) rfl rfl rfl rfl ⟨rfl, rfl⟩ ?_
  refine w_ifb_ne hC dX7_callOf_25 (tgt := 35) (by decide) (fun c25 => ?_) (fun c25 => ?_)
  rotate_left
  · exact absurd c25 (by omega)
  refine z_iload_n hC dX7_callOf_35 rfl ?_
  refine z_nif_ne hC dX7_callOf_36 (tgt := 48) (by decide) (by omega) (fun c36 => ?_) (fun c36 => ?_)
  · skip
    refine z_iload_n hC dX7_callOf_48 rfl ?_
    refine z_iconst hC dX7_callOf_49 (v := nI 1) rfl ?_
    refine z_nicmp_ne hC dX7_callOf_50 (tgt := 62) (by decide) (by omega) (by omega) (fun c50 => ?_) (fun c50 => ?_)
    · skip
      refine z_aload_n hC dX7_callOf_62 rfl ?_
      refine z_getR hC dX7_callOf_63 (hS _) zfX7_67 rfl ?_
      refine z_iload_n hC dX7_callOf_66 rfl ?_
      refine z_naldN hC dX7_callOf_67 (hS _) (by omega) rfl (show _ = nI (D.1.2.1 10 _) from hm.2.2.2 2 _ (by decide) (by omega)) ?_
      refine z_iret hC dX7_callOf_68 ?_
      exact hE.to (by first | (rw [show v = 0 by omega]) | (rw [show v = 1 by omega]) | (rw [show v = 2 by omega])) rfl rfl rfl
    refine z_aload_n hC dX7_callOf_53 rfl ?_
    refine z_getR hC dX7_callOf_54 (hS _) zfX7_64 rfl ?_
    refine z_iload_n hC dX7_callOf_57 rfl ?_
    refine z_naldN hC dX7_callOf_58 (hS _) (by omega) rfl (show _ = nI (D.1.2.1 9 _) from hm.2.2.2 1 _ (by decide) (by omega)) ?_
    refine z_goto hC dX7_callOf_59 (tgt := 68) (by decide) ?_
    refine z_iret hC dX7_callOf_68 ?_
    exact hE.to (by first | (rw [show v = 0 by omega]) | (rw [show v = 1 by omega]) | (rw [show v = 2 by omega])) rfl rfl rfl
  refine z_aload_n hC dX7_callOf_39 rfl ?_
  refine z_getR hC dX7_callOf_40 (hS _) zfX7_61 rfl ?_
  refine z_iload_n hC dX7_callOf_43 rfl ?_
  refine z_naldN hC dX7_callOf_44 (hS _) (by omega) rfl (show _ = nI (D.1.2.1 8 _) from hm.2.2.2 0 _ (by decide) (by omega)) ?_
  refine z_goto hC dX7_callOf_45 (tgt := 68) (by decide) ?_
  refine z_iret hC dX7_callOf_68 ?_
  exact hE.to (by first | (rw [show v = 0 by omega]) | (rw [show v = 1 by omega]) | (rw [show v = 2 by omega])) rfl rfl rfl

theorem w_callOf_f (hS : ∀ k, S 0 k = msh 0 k) (hO : DOK D) (hM : MMe qe D I X Y) {x y : Int32} (hx : ¬ (inB x (D.1.1 2) ∧ iw y 0 2)) : zC0 mX7_callOf 6 [zr 0 0, zi x, zi y] (some (zi (-2))) ad S I X Y sz I (rmX 0 0 X) Y := by
  refine zgo (own := RX7) (k := 0) (by decide +kernel) rfl rfl rfl (fun C hC hnm hE => ?_)
  have hm := hM.1
  have hR := hO.1
  have hmo := hm
  have hn14 := hR.1
  have hn8 := hR.2.1
  have hn6 := hR.2.2.1
  refine z_iload_n hC dX7_callOf_0 rfl ?_
  refine z_i2l hC dX7_callOf_1  ?_
  refine z_lconst hC dX7_callOf_2 (v := lN 0) rfl ?_
  refine z_aload_n hC dX7_callOf_3 rfl ?_
  refine z_getN hC dX7_callOf_4 (hS _) zfX7_163 rfl hm.1.2.2.1 ?_
  refine z_iconst hC dX7_callOf_7 (v := nI 1) rfl ?_
  refine z_isub hC dX7_callOf_8  ?_
  refine z_i2l hC dX7_callOf_9  ?_
  refine wSv hC dX7_callOf_10 zlX7_97 (c_X7_inB (by omega)) rfl rfl rfl rfl ⟨rfl, rfl⟩ ?_
  refine w_ifb_eq hC dX7_callOf_13 (tgt := 28) (by decide) (fun c13 => ?_) (fun c13 => ?_)
  · skip
    refine z_aload_n hC dX7_callOf_28 rfl ?_
    refine z_bipush hC dX7_callOf_29 (v := -2) rfl ?_
    refine wVv hC dX7_callOf_31 zlX7_107 (c_X7_refuse hS (j := 0) (by decide) (by decide)) (hS _) rfl rfl rfl rfl rfl rfl ⟨rfl, rfl⟩ ?_
    refine z_iret hC dX7_callOf_34 ?_
    exact hE.to (by rfl) rfl rfl rfl
  refine z_iload_n hC dX7_callOf_16 rfl ?_
  refine z_i2l hC dX7_callOf_17  ?_
  refine z_lconst hC dX7_callOf_18 (v := lN 0) rfl ?_
  refine z_ldc2 hC dX7_callOf_19 (v := lN 2) (zin6 (i := 63) rfl rfl) ?_
  refine wSv hC dX7_callOf_22 zlX7_97 (c_X7_inI (by omega) (by omega)) rfl rfl rfl rfl ⟨rfl, rfl⟩ ?_
  refine w_ifb_ne hC dX7_callOf_25 (tgt := 35) (by decide) (fun c25 => ?_) (fun c25 => ?_)
  · exact absurd c25 (fun z => hx ⟨c13, z⟩)
  refine z_aload_n hC dX7_callOf_28 rfl ?_
  refine z_bipush hC dX7_callOf_29 (v := -2) rfl ?_
  refine wVv hC dX7_callOf_31 zlX7_107 (c_X7_refuse hS (j := 0) (by decide) (by decide)) (hS _) rfl rfl rfl rfl rfl rfl ⟨rfl, rfl⟩ ?_
  refine z_iret hC dX7_callOf_34 ?_
  exact hE.to (by rfl) rfl rfl rfl

theorem m_callOf (hS : ∀ k, S 0 k = msh 0 k) (hO : DOK D) (hM : MMe qe D I X Y) {x y : Int32} : mC mX7_callOf 6 [zr 0 0, zi x, zi y] (some (zi (callOfS D x y).1)) (callOfS D x y).2 ad S I X Y sz qe := by
  have hn14 := hO.1.2.2.1
  unfold callOfS
  by_cases h : inB x (D.1.1 2) ∧ iw y 0 2
  · rw [if_pos h]
    obtain ⟨b, hb, rfl, e1⟩ := inB_e h.1 (by omega)
    obtain ⟨v, h1, h9, rfl, e2⟩ := iw_e h.2 (by decide) (by decide)
    rw [e1, e2]
    exact ⟨I, X, Y, hM, w_callOf_t hS hO hM hb h9⟩
  · rw [if_neg h]
    exact ⟨I, rmX 0 0 X, Y, hM.rf (by decide), w_callOf_f hS hO hM h⟩

end
