/-! the reference: what tells -/
theorem up3_id {α : Type} {f : Nat → Nat → Nat → α} {b k j : Nat} {v : α} (h : f b k j = v) : up3 f b k j v = f := by rw [← h]; exact up3_self f b k j
theorem tk1_n {R : RS} {x y : Nat} (k0 : tkN R (1 + x) 0 y) : (x = 0 → 1 ≤ y ∧ y ≤ 9) ∧ (x = 1 → y ≤ 1) ∧ (x = 2 → y ≤ 10) := by
  refine ⟨fun e => ?_, fun e => ?_, fun e => ?_⟩
  · subst e; exact tkV_10.mp k0
  · subst e; exact (tkV_20.mp k0).2
  · subst e; exact (tkV_30.mp k0).2
section
variable {ad : zA} {S : zSh} {I X : zI} {Y : zY} {sz : Nat} {D : DS} {qe : Bool}

theorem w_bend_t (hS : ∀ k, S 0 k = msh 0 k) (hO : DOK D) (hM : MMe qe D I X Y) {x y u v : Nat} (k0 : tkN D.1 0 0 x) (k1 : tkN D.1 0 1 y) (k2 : tkN D.1 0 2 u) (k3 : tkN D.1 0 3 v) (hf : D.1.1 0 < 14) : zC0 mX7_bend 6 [zr 0 0, zi (nI x), zi (nI y), zi (nI u), zi (nI v)] (some (zi (nI (D.1.1 0)))) ad S I X Y sz (up3 I 0 0 9 (nI (D.1.1 0 + 1))) (maddB 0 (D.1.1 0) X x y u v) Y := by
  refine zgo (own := RX7) (k := 0) (by decide +kernel) rfl rfl rfl (fun C hC hnm hE => ?_)
  have hm := hM.1
  have hR := hO.1
  have hmo := hm
  have hn14 := hR.1
  have hn8 := hR.2.1
  have hn6 := hR.2.2.1
  have j0 := tkV_00.mp k0
  have j1 := tkV_01.mp k1
  have j2 := tkV_02.mp k2
  have j3 := tkV_03.mp k3
  refine z_iload_n hC dX7_bend_0 rfl ?_
  refine z_n2m hC dX7_bend_1 (by omega) ?_
  refine z_lconst hC dX7_bend_2 (v := lN 0) rfl ?_
  refine z_ldc2 hC dX7_bend_3 (v := lN 5) (zin5 (i := 155) rfl rfl) ?_
  refine wSv hC dX7_bend_6 zlX7_97 (c_X7_inN (by omega) (by omega) (by omega)) rfl rfl rfl rfl ⟨rfl, rfl⟩ ?_
  refine w_ifb_eq hC dX7_bend_9 (tgt := 49) (by decide) (fun c9 => ?_) (fun c9 => ?_)
  · exact absurd c9 (by omega)
  refine z_iload_n hC dX7_bend_12 rfl ?_
  refine z_n2m hC dX7_bend_13 (by omega) ?_
  refine z_lconst hC dX7_bend_14 (v := lN 0) rfl ?_
  refine z_ldc2 hC dX7_bend_15 (v := lN 9) (zin5 (i := 167) rfl rfl) ?_
  refine wSv hC dX7_bend_18 zlX7_97 (c_X7_inN (by omega) (by omega) (by omega)) rfl rfl rfl rfl ⟨rfl, rfl⟩ ?_
  refine w_ifb_eq hC dX7_bend_21 (tgt := 49) (by decide) (fun c21 => ?_) (fun c21 => ?_)
  · exact absurd c21 (by omega)
  refine z_iload_n hC dX7_bend_24 rfl ?_
  refine z_n2m hC dX7_bend_25 (by omega) ?_
  refine z_lconst hC dX7_bend_26 (v := lN 1) rfl ?_
  refine z_ldc2 hC dX7_bend_27 (v := lN 999) (zin5 (i := 168) rfl rfl) ?_
  refine wSv hC dX7_bend_30 zlX7_97 (c_X7_inN (by omega) (by omega) (by omega)) rfl rfl rfl rfl ⟨rfl, rfl⟩ ?_
  refine w_ifb_eq hC dX7_bend_33 (tgt := 49) (by decide) (fun c33 => ?_) (fun c33 => ?_)
  · exact absurd c33 (by omega)
  refine z_iload hC dX7_bend_36 rfl ?_
  refine z_n2m hC dX7_bend_38 (by omega) ?_
  refine z_lconst hC dX7_bend_39 (v := lN 0) rfl ?_
  refine z_ldc2 hC dX7_bend_40 (v := lN 1000) (zin5 (i := 169) rfl rfl) ?_
  refine wSv hC dX7_bend_43 zlX7_97 (c_X7_inN (by omega) (by omega) (by omega)) rfl rfl rfl rfl ⟨rfl, rfl⟩ ?_
  refine w_ifb_ne hC dX7_bend_46 (tgt := 56) (by decide) (fun c46 => ?_) (fun c46 => ?_)
  rotate_left
  · exact absurd c46 (by omega)
  refine z_aload_n hC dX7_bend_56 rfl ?_
  refine z_getN hC dX7_bend_57 (hS _) zfX7_94 rfl hm.1.1 ?_
  refine z_bipush hC dX7_bend_60 (v := nI 14) rfl ?_
  refine z_nicmp_ne hC dX7_bend_62 (tgt := 72) (by decide) (by omega) (by omega) (fun c62 => ?_) (fun c62 => ?_)
  rotate_left
  · exact absurd c62 (by omega)
  refine z_aload_n hC dX7_bend_72 rfl ?_
  refine z_iload_n hC dX7_bend_73 rfl ?_
  refine z_iload_n hC dX7_bend_74 rfl ?_
  refine z_iload_n hC dX7_bend_75 rfl ?_
  refine z_iload hC dX7_bend_76 rfl ?_
  refine wV0 hC dX7_bend_78 zlX7_138 (c_X7_addBend hS hm hR hf) (hS _) rfl rfl rfl rfl rfl rfl ⟨rfl, rfl⟩ ?_
  refine z_aload_n hC dX7_bend_81 rfl ?_
  refine z_getN hC dX7_bend_82 (hS _) zfX7_94 rfl (up3_eq _ _ _ _ _) ?_
  refine z_iconst hC dX7_bend_85 (v := nI 1) rfl ?_
  refine z_nsub hC dX7_bend_86 (by omega) ?_
  refine z_iret hC dX7_bend_87 ?_
  exact hE.to (by rfl) rfl rfl rfl

theorem w_bend_o (hS : ∀ k, S 0 k = msh 0 k) (hO : DOK D) (hM : MMe qe D I X Y) {x y u v : Int32} (h0 : tkP D.1 0 0 x) (h1 : tkP D.1 0 1 y) (h2 : tkP D.1 0 2 u) (h3 : tkP D.1 0 3 v) (hf : D.1.1 0 = 14) : zC0 mX7_bend 6 [zr 0 0, zi x, zi y, zi u, zi v] (some (zi (-6))) ad S I X Y sz I (rmX 0 4 X) Y := by
  refine zgo (own := RX7) (k := 0) (by decide +kernel) rfl rfl rfl (fun C hC hnm hE => ?_)
  have hm := hM.1
  have hR := hO.1
  have hmo := hm
  have hn14 := hR.1
  have hn8 := hR.2.1
  have hn6 := hR.2.2.1
  refine z_iload_n hC dX7_bend_0 rfl ?_
  refine z_i2l hC dX7_bend_1  ?_
  refine z_lconst hC dX7_bend_2 (v := lN 0) rfl ?_
  refine z_ldc2 hC dX7_bend_3 (v := lN 5) (zin5 (i := 155) rfl rfl) ?_
  refine wSv hC dX7_bend_6 zlX7_97 (c_X7_inI (by omega) (by omega)) rfl rfl rfl rfl ⟨rfl, rfl⟩ ?_
  refine w_ifb_eq hC dX7_bend_9 (tgt := 49) (by decide) (fun c9 => ?_) (fun c9 => ?_)
  · exact absurd c9 (fun z => z h0)
  refine z_iload_n hC dX7_bend_12 rfl ?_
  refine z_i2l hC dX7_bend_13  ?_
  refine z_lconst hC dX7_bend_14 (v := lN 0) rfl ?_
  refine z_ldc2 hC dX7_bend_15 (v := lN 9) (zin5 (i := 167) rfl rfl) ?_
  refine wSv hC dX7_bend_18 zlX7_97 (c_X7_inI (by omega) (by omega)) rfl rfl rfl rfl ⟨rfl, rfl⟩ ?_
  refine w_ifb_eq hC dX7_bend_21 (tgt := 49) (by decide) (fun c21 => ?_) (fun c21 => ?_)
  · exact absurd c21 (fun z => z h1)
  refine z_iload_n hC dX7_bend_24 rfl ?_
  refine z_i2l hC dX7_bend_25  ?_
  refine z_lconst hC dX7_bend_26 (v := lN 1) rfl ?_
  refine z_ldc2 hC dX7_bend_27 (v := lN 999) (zin5 (i := 168) rfl rfl) ?_
  refine wSv hC dX7_bend_30 zlX7_97 (c_X7_inI (by omega) (by omega)) rfl rfl rfl rfl ⟨rfl, rfl⟩ ?_
  refine w_ifb_eq hC dX7_bend_33 (tgt := 49) (by decide) (fun c33 => ?_) (fun c33 => ?_)
  · exact absurd c33 (fun z => z h2)
  refine z_iload hC dX7_bend_36 rfl ?_
  refine z_i2l hC dX7_bend_38  ?_
  refine z_lconst hC dX7_bend_39 (v := lN 0) rfl ?_
  refine z_ldc2 hC dX7_bend_40 (v := lN 1000) (zin5 (i := 169) rfl rfl) ?_
  refine wSv hC dX7_bend_43 zlX7_97 (c_X7_inI (by omega) (by omega)) rfl rfl rfl rfl ⟨rfl, rfl⟩ ?_
  refine w_ifb_ne hC dX7_bend_46 (tgt := 56) (by decide) (fun c46 => ?_) (fun c46 => ?_)
  rotate_left
  · exact absurd c46 (fun z => z h3)
  refine z_aload_n hC dX7_bend_56 rfl ?_
  refine z_getN hC dX7_bend_57 (hS _) zfX7_94 rfl hm.1.1 ?_
  refine z_bipush hC dX7_bend_60 (v := nI 14) rfl ?_
  refine z_nicmp_ne hC dX7_bend_62 (tgt := 72) (by decide) (by omega) (by omega) (fun c62 => ?_) (fun c62 => ?_)
  · exact absurd c62 (fun z => z hf)
  refine z_aload_n hC dX7_bend_65 rfl ?_
  refine z_bipush hC dX7_bend_66 (v := -6) rfl ?_
  refine wVv hC dX7_bend_68 zlX7_107 (c_X7_refuse hS (j := 4) (by decide) (by decide)) (hS _) rfl rfl rfl rfl rfl rfl ⟨rfl, rfl⟩ ?_
  refine z_iret hC dX7_bend_71 ?_
  exact hE.to (by rfl) rfl rfl rfl

theorem w_bend_f (hS : ∀ k, S 0 k = msh 0 k) (hO : DOK D) (hM : MMe qe D I X Y) {x y u v : Int32} (hx : ¬ (tkP D.1 0 0 x ∧ tkP D.1 0 1 y ∧ tkP D.1 0 2 u ∧ tkP D.1 0 3 v)) : zC0 mX7_bend 6 [zr 0 0, zi x, zi y, zi u, zi v] (some (zi (-2))) ad S I X Y sz I (rmX 0 0 X) Y := by
  refine zgo (own := RX7) (k := 0) (by decide +kernel) rfl rfl rfl (fun C hC hnm hE => ?_)
  have hm := hM.1
  have hR := hO.1
  have hmo := hm
  have hn14 := hR.1
  have hn8 := hR.2.1
  have hn6 := hR.2.2.1
  refine z_iload_n hC dX7_bend_0 rfl ?_
  refine z_i2l hC dX7_bend_1  ?_
  refine z_lconst hC dX7_bend_2 (v := lN 0) rfl ?_
  refine z_ldc2 hC dX7_bend_3 (v := lN 5) (zin5 (i := 155) rfl rfl) ?_
  refine wSv hC dX7_bend_6 zlX7_97 (c_X7_inI (by omega) (by omega)) rfl rfl rfl rfl ⟨rfl, rfl⟩ ?_
  refine w_ifb_eq hC dX7_bend_9 (tgt := 49) (by decide) (fun c9 => ?_) (fun c9 => ?_)
  · skip
    refine z_aload_n hC dX7_bend_49 rfl ?_
    refine z_bipush hC dX7_bend_50 (v := -2) rfl ?_
    refine wVv hC dX7_bend_52 zlX7_107 (c_X7_refuse hS (j := 0) (by decide) (by decide)) (hS _) rfl rfl rfl rfl rfl rfl ⟨rfl, rfl⟩ ?_
    refine z_iret hC dX7_bend_55 ?_
    exact hE.to (by rfl) rfl rfl rfl
  refine z_iload_n hC dX7_bend_12 rfl ?_
  refine z_i2l hC dX7_bend_13  ?_
  refine z_lconst hC dX7_bend_14 (v := lN 0) rfl ?_
  refine z_ldc2 hC dX7_bend_15 (v := lN 9) (zin5 (i := 167) rfl rfl) ?_
  refine wSv hC dX7_bend_18 zlX7_97 (c_X7_inI (by omega) (by omega)) rfl rfl rfl rfl ⟨rfl, rfl⟩ ?_
  refine w_ifb_eq hC dX7_bend_21 (tgt := 49) (by decide) (fun c21 => ?_) (fun c21 => ?_)
  · skip
    refine z_aload_n hC dX7_bend_49 rfl ?_
    refine z_bipush hC dX7_bend_50 (v := -2) rfl ?_
    refine wVv hC dX7_bend_52 zlX7_107 (c_X7_refuse hS (j := 0) (by decide) (by decide)) (hS _) rfl rfl rfl rfl rfl rfl ⟨rfl, rfl⟩ ?_
    refine z_iret hC dX7_bend_55 ?_
    exact hE.to (by rfl) rfl rfl rfl
  refine z_iload_n hC dX7_bend_24 rfl ?_
  refine z_i2l hC dX7_bend_25  ?_
  refine z_lconst hC dX7_bend_26 (v := lN 1) rfl ?_
  refine z_ldc2 hC dX7_bend_27 (v := lN 999) (zin5 (i := 168) rfl rfl) ?_
  refine wSv hC dX7_bend_30 zlX7_97 (c_X7_inI (by omega) (by omega)) rfl rfl rfl rfl ⟨rfl, rfl⟩ ?_
  refine w_ifb_eq hC dX7_bend_33 (tgt := 49) (by decide) (fun c33 => ?_) (fun c33 => ?_)
  · skip
    refine z_aload_n hC dX7_bend_49 rfl ?_
    refine z_bipush hC dX7_bend_50 (v := -2) rfl ?_
    refine wVv hC dX7_bend_52 zlX7_107 (c_X7_refuse hS (j := 0) (by decide) (by decide)) (hS _) rfl rfl rfl rfl rfl rfl ⟨rfl, rfl⟩ ?_
    refine z_iret hC dX7_bend_55 ?_
    exact hE.to (by rfl) rfl rfl rfl
  refine z_iload hC dX7_bend_36 rfl ?_
  refine z_i2l hC dX7_bend_38  ?_
  refine z_lconst hC dX7_bend_39 (v := lN 0) rfl ?_
  refine z_ldc2 hC dX7_bend_40 (v := lN 1000) (zin5 (i := 169) rfl rfl) ?_
  refine wSv hC dX7_bend_43 zlX7_97 (c_X7_inI (by omega) (by omega)) rfl rfl rfl rfl ⟨rfl, rfl⟩ ?_
  refine w_ifb_ne hC dX7_bend_46 (tgt := 56) (by decide) (fun c46 => ?_) (fun c46 => ?_)
  · exact absurd c46 (fun z => hx ⟨c9, c21, c33, z⟩)
  refine z_aload_n hC dX7_bend_49 rfl ?_
  refine z_bipush hC dX7_bend_50 (v := -2) rfl ?_
  refine wVv hC dX7_bend_52 zlX7_107 (c_X7_refuse hS (j := 0) (by decide) (by decide)) (hS _) rfl rfl rfl rfl rfl rfl ⟨rfl, rfl⟩ ?_
  refine z_iret hC dX7_bend_55 ?_
  exact hE.to (by rfl) rfl rfl rfl

theorem m_bend (hS : ∀ k, S 0 k = msh 0 k) (hO : DOK D) (hM : MMe qe D I X Y) {x y u v : Int32} : mC mX7_bend 6 [zr 0 0, zi x, zi y, zi u, zi v] (some (zi (bendS D x y u v).1)) (bendS D x y u v).2 ad S I X Y sz qe := by
  have hn14 := hO.1.1
  unfold bendS
  by_cases h : tkP D.1 0 0 x ∧ tkP D.1 0 1 y ∧ tkP D.1 0 2 u ∧ tkP D.1 0 3 v
  · rw [if_pos h]
    by_cases hf : D.1.1 0 = 14
    · rw [if_pos hf]
      exact ⟨I, rmX 0 4 X, Y, hM.rf (by decide), w_bend_o hS hO hM h.1 h.2.1 h.2.2.1 h.2.2.2 hf⟩
    · rw [if_neg hf]
      obtain ⟨h0, h1, h2, h3⟩ := h
      obtain ⟨x, rfl, _, k0, e0⟩ := tkP_e hO.1 (by decide) (by decide) h0
      obtain ⟨y, rfl, _, k1, e1⟩ := tkP_e hO.1 (by decide) (by decide) h1
      obtain ⟨u, rfl, _, k2, e2⟩ := tkP_e hO.1 (by decide) (by decide) h2
      obtain ⟨v, rfl, _, k3, e3⟩ := tkP_e hO.1 (by decide) (by decide) h3
      rw [e0, e1, e2, e3]
      exact ⟨_, _, Y, hM.road hM.1.addB (fun j _ => up3_ne (by omega)) (fun k j _ _ => maddB_ne (by omega)) (fun k j => ⟨up3_ne (by omega), maddB_ne (by omega)⟩), w_bend_t hS hO hM k0 k1 k2 k3 (by omega)⟩
  · rw [if_neg h]
    exact ⟨I, rmX 0 0 X, Y, hM.rf (by decide), w_bend_f hS hO hM h⟩

theorem w_call_t (hS : ∀ k, S 0 k = msh 0 k) (hO : DOK D) (hM : MMe qe D I X Y) {x y u : Nat} (k0 : tkN D.1 6 0 x) (k1 : tkN D.1 6 1 y) (k2 : tkN D.1 6 2 u) (hf : D.1.1 2 < 6) : zC0 mX7_call 6 [zr 0 0, zi (nI x), zi (nI y), zi (nI u)] (some (zi (nI (D.1.1 2)))) ad S I X Y sz (up3 I 0 0 19 (nI (D.1.1 2 + 1))) (madd3 0 25 (D.1.1 2) X x y u) Y := by
  refine zgo (own := RX7) (k := 0) (by decide +kernel) rfl rfl rfl (fun C hC hnm hE => ?_)
  have hm := hM.1
  have hR := hO.1
  have hmo := hm
  have hn14 := hR.1
  have hn8 := hR.2.1
  have hn6 := hR.2.2.1
  have j0 := tkV_60.mp k0
  have j1 := tkV_61.mp k1
  have j2 := tkV_62.mp k2
  refine z_aload_n hC dX7_call_0 rfl ?_
  refine z_iload_n hC dX7_call_1 rfl ?_
  refine z_n2m hC dX7_call_2 (by omega) ?_
  refine wVv hC dX7_call_3 zlX7_118 (c_X7_isBendN hS hm hR (by omega)) (hS _) rfl rfl rfl rfl rfl rfl ⟨rfl, rfl⟩ ?_
  refine w_ifb_eq hC dX7_call_6 (tgt := 33) (by decide) (fun c6 => ?_) (fun c6 => ?_)
  · exact absurd c6 (by omega)
  refine z_iload_n hC dX7_call_9 rfl ?_
  refine z_n2m hC dX7_call_10 (by omega) ?_
  refine z_lconst hC dX7_call_11 (v := lN 1) rfl ?_
  refine z_ldc2 hC dX7_call_12 (v := lN 99) (zin5 (i := 200) rfl rfl) ?_
  refine wSv hC dX7_call_15 zlX7_97 (c_X7_inN (by omega) (by omega) (by omega)) rfl rfl rfl rfl ⟨rfl, rfl⟩ ?_
  refine w_ifb_eq hC dX7_call_18 (tgt := 33) (by decide) (fun c18 => ?_) (fun c18 => ?_)
  · exact absurd c18 (by omega)
  refine z_iload_n hC dX7_call_21 rfl ?_
  refine z_n2m hC dX7_call_22 (by omega) ?_
  refine z_lconst hC dX7_call_23 (v := lN 0) rfl ?_
  refine z_ldc2 hC dX7_call_24 (v := lN 100) (zin5 (i := 183) rfl rfl) ?_
  refine wSv hC dX7_call_27 zlX7_97 (c_X7_inN (by omega) (by omega) (by omega)) rfl rfl rfl rfl ⟨rfl, rfl⟩ ?_
  refine w_ifb_ne hC dX7_call_30 (tgt := 40) (by decide) (fun c30 => ?_) (fun c30 => ?_)
  rotate_left
  · exact absurd c30 (by omega)
  refine z_aload_n hC dX7_call_40 rfl ?_
  refine z_getN hC dX7_call_41 (hS _) zfX7_163 rfl hm.1.2.2.1 ?_
  refine z_bipush hC dX7_call_44 (v := nI 6) rfl ?_
  refine z_nicmp_ne hC dX7_call_46 (tgt := 56) (by decide) (by omega) (by omega) (fun c46 => ?_) (fun c46 => ?_)
  rotate_left
  · exact absurd c46 (by omega)
  refine z_aload_n hC dX7_call_56 rfl ?_
  refine z_iload_n hC dX7_call_57 rfl ?_
  refine z_iload_n hC dX7_call_58 rfl ?_
  refine z_iload_n hC dX7_call_59 rfl ?_
  refine wV0 hC dX7_call_60 zlX7_168 (c_X7_addCall hS hm hR hf) (hS _) rfl rfl rfl rfl rfl rfl ⟨rfl, rfl⟩ ?_
  refine z_aload_n hC dX7_call_63 rfl ?_
  refine z_getN hC dX7_call_64 (hS _) zfX7_163 rfl (up3_eq _ _ _ _ _) ?_
  refine z_iconst hC dX7_call_67 (v := nI 1) rfl ?_
  refine z_nsub hC dX7_call_68 (by omega) ?_
  refine z_iret hC dX7_call_69 ?_
  exact hE.to (by rfl) rfl rfl rfl

theorem w_call_o (hS : ∀ k, S 0 k = msh 0 k) (hO : DOK D) (hM : MMe qe D I X Y) {x y u : Int32} (h0 : tkP D.1 6 0 x) (h1 : tkP D.1 6 1 y) (h2 : tkP D.1 6 2 u) (hf : D.1.1 2 = 6) : zC0 mX7_call 6 [zr 0 0, zi x, zi y, zi u] (some (zi (-6))) ad S I X Y sz I (rmX 0 4 X) Y := by
  refine zgo (own := RX7) (k := 0) (by decide +kernel) rfl rfl rfl (fun C hC hnm hE => ?_)
  have hm := hM.1
  have hR := hO.1
  have hmo := hm
  have hn14 := hR.1
  have hn8 := hR.2.1
  have hn6 := hR.2.2.1
  refine z_aload_n hC dX7_call_0 rfl ?_
  refine z_iload_n hC dX7_call_1 rfl ?_
  refine z_i2l hC dX7_call_2  ?_
  refine wVv hC dX7_call_3 zlX7_118 (c_X7_isBendI hS hm hR) (hS _) rfl rfl rfl rfl rfl rfl ⟨rfl, rfl⟩ ?_
  refine w_ifb_eq hC dX7_call_6 (tgt := 33) (by decide) (fun c6 => ?_) (fun c6 => ?_)
  · exact absurd c6 (fun z => z ((tkI_60 hR.1).mp h0))
  refine z_iload_n hC dX7_call_9 rfl ?_
  refine z_i2l hC dX7_call_10  ?_
  refine z_lconst hC dX7_call_11 (v := lN 1) rfl ?_
  refine z_ldc2 hC dX7_call_12 (v := lN 99) (zin5 (i := 200) rfl rfl) ?_
  refine wSv hC dX7_call_15 zlX7_97 (c_X7_inI (by omega) (by omega)) rfl rfl rfl rfl ⟨rfl, rfl⟩ ?_
  refine w_ifb_eq hC dX7_call_18 (tgt := 33) (by decide) (fun c18 => ?_) (fun c18 => ?_)
  · exact absurd c18 (fun z => z h1)
  refine z_iload_n hC dX7_call_21 rfl ?_
  refine z_i2l hC dX7_call_22  ?_
  refine z_lconst hC dX7_call_23 (v := lN 0) rfl ?_
  refine z_ldc2 hC dX7_call_24 (v := lN 100) (zin5 (i := 183) rfl rfl) ?_
  refine wSv hC dX7_call_27 zlX7_97 (c_X7_inI (by omega) (by omega)) rfl rfl rfl rfl ⟨rfl, rfl⟩ ?_
  refine w_ifb_ne hC dX7_call_30 (tgt := 40) (by decide) (fun c30 => ?_) (fun c30 => ?_)
  rotate_left
  · exact absurd c30 (fun z => z h2)
  refine z_aload_n hC dX7_call_40 rfl ?_
  refine z_getN hC dX7_call_41 (hS _) zfX7_163 rfl hm.1.2.2.1 ?_
  refine z_bipush hC dX7_call_44 (v := nI 6) rfl ?_
  refine z_nicmp_ne hC dX7_call_46 (tgt := 56) (by decide) (by omega) (by omega) (fun c46 => ?_) (fun c46 => ?_)
  · exact absurd c46 (fun z => z hf)
  refine z_aload_n hC dX7_call_49 rfl ?_
  refine z_bipush hC dX7_call_50 (v := -6) rfl ?_
  refine wVv hC dX7_call_52 zlX7_107 (c_X7_refuse hS (j := 4) (by decide) (by decide)) (hS _) rfl rfl rfl rfl rfl rfl ⟨rfl, rfl⟩ ?_
  refine z_iret hC dX7_call_55 ?_
  exact hE.to (by rfl) rfl rfl rfl

theorem w_call_f (hS : ∀ k, S 0 k = msh 0 k) (hO : DOK D) (hM : MMe qe D I X Y) {x y u : Int32} (hx : ¬ (tkP D.1 6 0 x ∧ tkP D.1 6 1 y ∧ tkP D.1 6 2 u)) : zC0 mX7_call 6 [zr 0 0, zi x, zi y, zi u] (some (zi (-2))) ad S I X Y sz I (rmX 0 0 X) Y := by
  refine zgo (own := RX7) (k := 0) (by decide +kernel) rfl rfl rfl (fun C hC hnm hE => ?_)
  have hm := hM.1
  have hR := hO.1
  have hmo := hm
  have hn14 := hR.1
  have hn8 := hR.2.1
  have hn6 := hR.2.2.1
  refine z_aload_n hC dX7_call_0 rfl ?_
  refine z_iload_n hC dX7_call_1 rfl ?_
  refine z_i2l hC dX7_call_2  ?_
  refine wVv hC dX7_call_3 zlX7_118 (c_X7_isBendI hS hm hR) (hS _) rfl rfl rfl rfl rfl rfl ⟨rfl, rfl⟩ ?_
  refine w_ifb_eq hC dX7_call_6 (tgt := 33) (by decide) (fun c6 => ?_) (fun c6 => ?_)
  · skip
    refine z_aload_n hC dX7_call_33 rfl ?_
    refine z_bipush hC dX7_call_34 (v := -2) rfl ?_
    refine wVv hC dX7_call_36 zlX7_107 (c_X7_refuse hS (j := 0) (by decide) (by decide)) (hS _) rfl rfl rfl rfl rfl rfl ⟨rfl, rfl⟩ ?_
    refine z_iret hC dX7_call_39 ?_
    exact hE.to (by rfl) rfl rfl rfl
  refine z_iload_n hC dX7_call_9 rfl ?_
  refine z_i2l hC dX7_call_10  ?_
  refine z_lconst hC dX7_call_11 (v := lN 1) rfl ?_
  refine z_ldc2 hC dX7_call_12 (v := lN 99) (zin5 (i := 200) rfl rfl) ?_
  refine wSv hC dX7_call_15 zlX7_97 (c_X7_inI (by omega) (by omega)) rfl rfl rfl rfl ⟨rfl, rfl⟩ ?_
  refine w_ifb_eq hC dX7_call_18 (tgt := 33) (by decide) (fun c18 => ?_) (fun c18 => ?_)
  · skip
    refine z_aload_n hC dX7_call_33 rfl ?_
    refine z_bipush hC dX7_call_34 (v := -2) rfl ?_
    refine wVv hC dX7_call_36 zlX7_107 (c_X7_refuse hS (j := 0) (by decide) (by decide)) (hS _) rfl rfl rfl rfl rfl rfl ⟨rfl, rfl⟩ ?_
    refine z_iret hC dX7_call_39 ?_
    exact hE.to (by rfl) rfl rfl rfl
  refine z_iload_n hC dX7_call_21 rfl ?_
  refine z_i2l hC dX7_call_22  ?_
  refine z_lconst hC dX7_call_23 (v := lN 0) rfl ?_
  refine z_ldc2 hC dX7_call_24 (v := lN 100) (zin5 (i := 183) rfl rfl) ?_
  refine wSv hC dX7_call_27 zlX7_97 (c_X7_inI (by omega) (by omega)) rfl rfl rfl rfl ⟨rfl, rfl⟩ ?_
  refine w_ifb_ne hC dX7_call_30 (tgt := 40) (by decide) (fun c30 => ?_) (fun c30 => ?_)
  · exact absurd c30 (fun z => hx ⟨(tkI_60 hR.1).mpr c6, c18, z⟩)
  refine z_aload_n hC dX7_call_33 rfl ?_
  refine z_bipush hC dX7_call_34 (v := -2) rfl ?_
  refine wVv hC dX7_call_36 zlX7_107 (c_X7_refuse hS (j := 0) (by decide) (by decide)) (hS _) rfl rfl rfl rfl rfl rfl ⟨rfl, rfl⟩ ?_
  refine z_iret hC dX7_call_39 ?_
  exact hE.to (by rfl) rfl rfl rfl

theorem m_call (hS : ∀ k, S 0 k = msh 0 k) (hO : DOK D) (hM : MMe qe D I X Y) {x y u : Int32} : mC mX7_call 6 [zr 0 0, zi x, zi y, zi u] (some (zi (ocallS D x y u).1)) (ocallS D x y u).2 ad S I X Y sz qe := by
  have hn14 := hO.1.2.2.1
  unfold ocallS
  by_cases h : tkP D.1 6 0 x ∧ tkP D.1 6 1 y ∧ tkP D.1 6 2 u
  · rw [if_pos h]
    by_cases hf : D.1.1 2 = 6
    · rw [if_pos hf]
      exact ⟨I, rmX 0 4 X, Y, hM.rf (by decide), w_call_o hS hO hM h.1 h.2.1 h.2.2 hf⟩
    · rw [if_neg hf]
      obtain ⟨h0, h1, h2⟩ := h
      obtain ⟨x, rfl, _, k0, e0⟩ := tkP_e hO.1 (by decide) (by decide) h0
      obtain ⟨y, rfl, _, k1, e1⟩ := tkP_e hO.1 (by decide) (by decide) h1
      obtain ⟨u, rfl, _, k2, e2⟩ := tkP_e hO.1 (by decide) (by decide) h2
      rw [e0, e1, e2]
      exact ⟨_, _, Y, hM.road hM.1.addC (fun j _ => up3_ne (by omega)) (fun k j _ _ => madd3_ne (by omega)) (fun k j => ⟨up3_ne (by omega), madd3_ne (by omega)⟩), w_call_t hS hO hM k0 k1 k2 (by omega)⟩
  · rw [if_neg h]
    exact ⟨I, rmX 0 0 X, Y, hM.rf (by decide), w_call_f hS hO hM h⟩

theorem w_sign_t (hS : ∀ k, S 0 k = msh 0 k) (hO : DOK D) (hM : MMe qe D I X Y) {x u q : Nat} (hq : q ≤ 1) (k0 : tkN D.1 4 0 x) (k1 : tkN D.1 4 1 u) (hf : D.1.1 1 < 8) : zC0 mX7_sign 6 [zr 0 0, zi (nI x), zi (nI q), zi (nI u)] (some (zi (nI (D.1.1 1 + 1)))) ad S I X Y sz (up3 I 0 0 15 (nI (D.1.1 1 + 1))) (madd3 0 22 (D.1.1 1) X x q u) Y := by
  refine zgo (own := RX7) (k := 0) (by decide +kernel) rfl rfl rfl (fun C hC hnm hE => ?_)
  have hm := hM.1
  have hR := hO.1
  have hmo := hm
  have hn14 := hR.1
  have hn8 := hR.2.1
  have hn6 := hR.2.2.1
  have j0 := tkV_40.mp k0
  have j1 := tkV_41.mp k1
  refine z_aload_n hC dX7_sign_0 rfl ?_
  refine z_iload_n hC dX7_sign_1 rfl ?_
  refine z_n2m hC dX7_sign_2 (by omega) ?_
  refine wVv hC dX7_sign_3 zlX7_118 (c_X7_isBendN hS hm hR (by omega)) (hS _) rfl rfl rfl rfl rfl rfl ⟨rfl, rfl⟩ ?_
  refine w_ifb_eq hC dX7_sign_6 (tgt := 21) (by decide) (fun c6 => ?_) (fun c6 => ?_)
  · exact absurd c6 (by omega)
  refine z_iload_n hC dX7_sign_9 rfl ?_
  refine z_n2m hC dX7_sign_10 (by omega) ?_
  refine z_lconst hC dX7_sign_11 (v := lN 0) rfl ?_
  refine z_ldc2 hC dX7_sign_12 (v := lN 100) (zin5 (i := 183) rfl rfl) ?_
  refine wSv hC dX7_sign_15 zlX7_97 (c_X7_inN (by omega) (by omega) (by omega)) rfl rfl rfl rfl ⟨rfl, rfl⟩ ?_
  refine w_ifb_ne hC dX7_sign_18 (tgt := 28) (by decide) (fun c18 => ?_) (fun c18 => ?_)
  rotate_left
  · exact absurd c18 (by omega)
  refine z_aload_n hC dX7_sign_28 rfl ?_
  refine z_getN hC dX7_sign_29 (hS _) zfX7_150 rfl hm.1.2.1 ?_
  refine z_bipush hC dX7_sign_32 (v := nI 8) rfl ?_
  refine z_nicmp_ne hC dX7_sign_34 (tgt := 44) (by decide) (by omega) (by omega) (fun c34 => ?_) (fun c34 => ?_)
  rotate_left
  · exact absurd c34 (by omega)
  refine z_aload_n hC dX7_sign_44 rfl ?_
  refine z_iload_n hC dX7_sign_45 rfl ?_
  refine z_iload_n hC dX7_sign_46 rfl ?_
  refine z_nif_eq hC dX7_sign_47 (tgt := 54) (by decide) (by omega) (fun c47 => ?_) (fun c47 => ?_)
  · skip
    obtain rfl : q = 0 := by omega
    refine z_iconst hC dX7_sign_54 (v := nI 0) rfl ?_
    refine z_iload_n hC dX7_sign_55 rfl ?_
    refine wV0 hC dX7_sign_56 zlX7_155 (c_X7_addSign hS hm hR) (hS _) rfl rfl rfl rfl rfl rfl ⟨rfl, rfl⟩ ?_
    refine z_aload_n hC dX7_sign_59 rfl ?_
    refine z_getN hC dX7_sign_60 (hS _) zfX7_150 rfl (up3_eq _ _ _ _ _) ?_
    refine z_iret hC dX7_sign_63 ?_
    exact hE.to (by rfl) rfl rfl rfl
  obtain rfl : q = 1 := by omega
  refine z_iconst hC dX7_sign_50 (v := nI 1) rfl ?_
  refine z_goto hC dX7_sign_51 (tgt := 55) (by decide) ?_
  refine z_iload_n hC dX7_sign_55 rfl ?_
  refine wV0 hC dX7_sign_56 zlX7_155 (c_X7_addSign hS hm hR) (hS _) rfl rfl rfl rfl rfl rfl ⟨rfl, rfl⟩ ?_
  refine z_aload_n hC dX7_sign_59 rfl ?_
  refine z_getN hC dX7_sign_60 (hS _) zfX7_150 rfl (up3_eq _ _ _ _ _) ?_
  refine z_iret hC dX7_sign_63 ?_
  exact hE.to (by rfl) rfl rfl rfl

theorem w_sign_o (hS : ∀ k, S 0 k = msh 0 k) (hO : DOK D) (hM : MMe qe D I X Y) {x u : Int32} {q : Nat} (h0 : tkP D.1 4 0 x) (h1 : tkP D.1 4 1 u) (hf : D.1.1 1 = 8) : zC0 mX7_sign 6 [zr 0 0, zi x, zi (nI q), zi u] (some (zi (-6))) ad S I X Y sz I (rmX 0 4 X) Y := by
  refine zgo (own := RX7) (k := 0) (by decide +kernel) rfl rfl rfl (fun C hC hnm hE => ?_)
  have hm := hM.1
  have hR := hO.1
  have hmo := hm
  have hn14 := hR.1
  have hn8 := hR.2.1
  have hn6 := hR.2.2.1
  refine z_aload_n hC dX7_sign_0 rfl ?_
  refine z_iload_n hC dX7_sign_1 rfl ?_
  refine z_i2l hC dX7_sign_2  ?_
  refine wVv hC dX7_sign_3 zlX7_118 (c_X7_isBendI hS hm hR) (hS _) rfl rfl rfl rfl rfl rfl ⟨rfl, rfl⟩ ?_
  refine w_ifb_eq hC dX7_sign_6 (tgt := 21) (by decide) (fun c6 => ?_) (fun c6 => ?_)
  · exact absurd c6 (fun z => z ((tkI_40 hR.1).mp h0))
  refine z_iload_n hC dX7_sign_9 rfl ?_
  refine z_i2l hC dX7_sign_10  ?_
  refine z_lconst hC dX7_sign_11 (v := lN 0) rfl ?_
  refine z_ldc2 hC dX7_sign_12 (v := lN 100) (zin5 (i := 183) rfl rfl) ?_
  refine wSv hC dX7_sign_15 zlX7_97 (c_X7_inI (by omega) (by omega)) rfl rfl rfl rfl ⟨rfl, rfl⟩ ?_
  refine w_ifb_ne hC dX7_sign_18 (tgt := 28) (by decide) (fun c18 => ?_) (fun c18 => ?_)
  rotate_left
  · exact absurd c18 (fun z => z h1)
  refine z_aload_n hC dX7_sign_28 rfl ?_
  refine z_getN hC dX7_sign_29 (hS _) zfX7_150 rfl hm.1.2.1 ?_
  refine z_bipush hC dX7_sign_32 (v := nI 8) rfl ?_
  refine z_nicmp_ne hC dX7_sign_34 (tgt := 44) (by decide) (by omega) (by omega) (fun c34 => ?_) (fun c34 => ?_)
  · exact absurd c34 (fun z => z hf)
  refine z_aload_n hC dX7_sign_37 rfl ?_
  refine z_bipush hC dX7_sign_38 (v := -6) rfl ?_
  refine wVv hC dX7_sign_40 zlX7_107 (c_X7_refuse hS (j := 4) (by decide) (by decide)) (hS _) rfl rfl rfl rfl rfl rfl ⟨rfl, rfl⟩ ?_
  refine z_iret hC dX7_sign_43 ?_
  exact hE.to (by rfl) rfl rfl rfl

theorem w_sign_f (hS : ∀ k, S 0 k = msh 0 k) (hO : DOK D) (hM : MMe qe D I X Y) {x u : Int32} {q : Nat} (hx : ¬ (tkP D.1 4 0 x ∧ tkP D.1 4 1 u)) : zC0 mX7_sign 6 [zr 0 0, zi x, zi (nI q), zi u] (some (zi (-2))) ad S I X Y sz I (rmX 0 0 X) Y := by
  refine zgo (own := RX7) (k := 0) (by decide +kernel) rfl rfl rfl (fun C hC hnm hE => ?_)
  have hm := hM.1
  have hR := hO.1
  have hmo := hm
  have hn14 := hR.1
  have hn8 := hR.2.1
  have hn6 := hR.2.2.1
  refine z_aload_n hC dX7_sign_0 rfl ?_
  refine z_iload_n hC dX7_sign_1 rfl ?_
  refine z_i2l hC dX7_sign_2  ?_
  refine wVv hC dX7_sign_3 zlX7_118 (c_X7_isBendI hS hm hR) (hS _) rfl rfl rfl rfl rfl rfl ⟨rfl, rfl⟩ ?_
  refine w_ifb_eq hC dX7_sign_6 (tgt := 21) (by decide) (fun c6 => ?_) (fun c6 => ?_)
  · skip
    refine z_aload_n hC dX7_sign_21 rfl ?_
    refine z_bipush hC dX7_sign_22 (v := -2) rfl ?_
    refine wVv hC dX7_sign_24 zlX7_107 (c_X7_refuse hS (j := 0) (by decide) (by decide)) (hS _) rfl rfl rfl rfl rfl rfl ⟨rfl, rfl⟩ ?_
    refine z_iret hC dX7_sign_27 ?_
    exact hE.to (by rfl) rfl rfl rfl
  refine z_iload_n hC dX7_sign_9 rfl ?_
  refine z_i2l hC dX7_sign_10  ?_
  refine z_lconst hC dX7_sign_11 (v := lN 0) rfl ?_
  refine z_ldc2 hC dX7_sign_12 (v := lN 100) (zin5 (i := 183) rfl rfl) ?_
  refine wSv hC dX7_sign_15 zlX7_97 (c_X7_inI (by omega) (by omega)) rfl rfl rfl rfl ⟨rfl, rfl⟩ ?_
  refine w_ifb_ne hC dX7_sign_18 (tgt := 28) (by decide) (fun c18 => ?_) (fun c18 => ?_)
  · exact absurd c18 (fun z => hx ⟨(tkI_40 hR.1).mpr c6, z⟩)
  refine z_aload_n hC dX7_sign_21 rfl ?_
  refine z_bipush hC dX7_sign_22 (v := -2) rfl ?_
  refine wVv hC dX7_sign_24 zlX7_107 (c_X7_refuse hS (j := 0) (by decide) (by decide)) (hS _) rfl rfl rfl rfl rfl rfl ⟨rfl, rfl⟩ ?_
  refine z_iret hC dX7_sign_27 ?_
  exact hE.to (by rfl) rfl rfl rfl

theorem m_sign (hS : ∀ k, S 0 k = msh 0 k) (hO : DOK D) (hM : MMe qe D I X Y) {x u : Int32} {q : Nat} (hq : q ≤ 1) : mC mX7_sign 6 [zr 0 0, zi x, zi (nI q), zi u] (some (zi (signS D x q u).1)) (signS D x q u).2 ad S I X Y sz qe := by
  have hn14 := hO.1.2.1
  unfold signS
  by_cases h : tkP D.1 4 0 x ∧ tkP D.1 4 1 u
  · rw [if_pos h]
    by_cases hf : D.1.1 1 = 8
    · rw [if_pos hf]
      exact ⟨I, rmX 0 4 X, Y, hM.rf (by decide), w_sign_o hS hO hM h.1 h.2 hf⟩
    · rw [if_neg hf]
      obtain ⟨h0, h1⟩ := h
      obtain ⟨x, rfl, _, k0, e0⟩ := tkP_e hO.1 (by decide) (by decide) h0
      obtain ⟨u, rfl, _, k1, e1⟩ := tkP_e hO.1 (by decide) (by decide) h1
      rw [e0, e1]
      exact ⟨_, _, Y, hM.road hM.1.addS (fun j _ => up3_ne (by omega)) (fun k j _ _ => madd3_ne (by omega)) (fun k j => ⟨up3_ne (by omega), madd3_ne (by omega)⟩), w_sign_t hS hO hM hq k0 k1 (by omega)⟩
  · rw [if_neg h]
    exact ⟨I, rmX 0 0 X, Y, hM.rf (by decide), w_sign_f hS hO hM h⟩

theorem w_ask_t0 (hS : ∀ k, S 0 k = msh 0 k) (hO : DOK D) (hM : MMe qe D I X Y) {y : Nat} (hy : 1 ≤ y ∧ y ≤ 9) : zC0 mX7_ask 6 [zr 0 0, zi (nI 0), zi (nI y)] (some (zi (nI (D.1.1 3)))) ad S I X Y sz (up3 I 0 0 23 (nI y)) X Y := by
  refine zgo (own := RX7) (k := 2) (by decide +kernel) rfl rfl rfl (fun C hC hnm hE => ?_)
  have hm := hM.1
  have hR := hO.1
  have hmo := hm
  have hn14 := hR.1
  have hn8 := hR.2.1
  have hn6 := hR.2.2.1
  refine z_iload_n hC dX7_ask_0 rfl ?_
  refine z_nif_ne hC dX7_ask_1 (tgt := 16) (by decide) (by omega) (fun c1 => ?_) (fun c1 => ?_)
  · exact absurd c1 (by decide)
  refine z_iload_n hC dX7_ask_4 rfl ?_
  refine z_n2m hC dX7_ask_5 (by omega) ?_
  refine z_lconst hC dX7_ask_6 (v := lN 1) rfl ?_
  refine z_ldc2 hC dX7_ask_7 (v := lN 9) (zin5 (i := 167) rfl rfl) ?_
  refine wSv hC dX7_ask_10 zlX7_97 (c_X7_inN (by omega) (by omega) (by omega)) rfl rfl rfl rfl ⟨rfl, rfl⟩ ?_
  refine z_goto hC dX7_ask_13 (tgt := 53) (by decide) ?_
  refine z_istore_n hC dX7_ask_53 (lo2 := [_, _, _, _, _]) (Nat.le_of_ble_eq_true rfl) rfl rfl ?_
  refine z_iload_n hC dX7_ask_54 rfl ?_
  refine w_ifb_ne hC dX7_ask_55 (tgt := 65) (by decide) (fun c55 => ?_) (fun c55 => ?_)
  rotate_left
  · exact absurd c55 (by omega)
  refine z_iload_n hC dX7_ask_65 rfl ?_
  refine z_nif_ne hC dX7_ask_66 (tgt := 76) (by decide) (by omega) (fun c66 => ?_) (fun c66 => ?_)
  · exact absurd c66 (by decide)
  refine z_aload_n hC dX7_ask_69 rfl ?_
  refine z_getN hC dX7_ask_70 (hS _) zfX7_70 rfl hm.1.2.2.2.1 ?_
  refine z_goto hC dX7_ask_73 (tgt := 92) (by decide) ?_
  refine z_istore hC dX7_ask_92 (lo2 := [_, _, _, _, _]) (Nat.le_of_ble_eq_true rfl) rfl rfl ?_
  refine z_aload_n hC dX7_ask_94 rfl ?_
  refine z_iload_n hC dX7_ask_95 rfl ?_
  refine z_nif_ne hC dX7_ask_96 (tgt := 103) (by decide) (by omega) (fun c96 => ?_) (fun c96 => ?_)
  · exact absurd c96 (by decide)
  refine z_iload_n hC dX7_ask_99 rfl ?_
  refine z_goto hC dX7_ask_100 (tgt := 107) (by decide) ?_
  refine z_putI hC dX7_ask_107 (hS _) zfX7_70 rfl rfl rfl rfl ?_
  refine z_aload_n hC dX7_ask_110 rfl ?_
  refine z_iload_n hC dX7_ask_111 rfl ?_
  refine z_iconst hC dX7_ask_112 (v := nI 1) rfl ?_
  refine z_nicmp_ne hC dX7_ask_113 (tgt := 120) (by decide) (by omega) (by omega) (fun c113 => ?_) (fun c113 => ?_)
  rotate_left
  · exact absurd c113 (by decide)
  refine z_aload_n hC dX7_ask_120 rfl ?_
  refine z_getN hC dX7_ask_121 (hS _) zfX7_144 rfl ((up3_ne (by omega)).trans hm.1.2.2.2.2.1) ?_
  refine z_putI hC dX7_ask_124 (hS _) zfX7_144 rfl rfl rfl rfl ?_
  refine z_I (up3_id ((up3_ne (by omega)).trans hm.1.2.2.2.2.1)) ?_
  refine z_aload_n hC dX7_ask_127 rfl ?_
  refine z_iload_n hC dX7_ask_128 rfl ?_
  refine z_iconst hC dX7_ask_129 (v := nI 2) rfl ?_
  refine z_nicmp_ne hC dX7_ask_130 (tgt := 137) (by decide) (by omega) (by omega) (fun c130 => ?_) (fun c130 => ?_)
  rotate_left
  · exact absurd c130 (by decide)
  refine z_aload_n hC dX7_ask_137 rfl ?_
  refine z_getN hC dX7_ask_138 (hS _) zfX7_147 rfl ((up3_ne (by omega)).trans hm.1.2.2.2.2.2.1) ?_
  refine z_putI hC dX7_ask_141 (hS _) zfX7_147 rfl rfl rfl rfl ?_
  refine z_I (up3_id ((up3_ne (by omega)).trans hm.1.2.2.2.2.2.1)) ?_
  refine z_iload hC dX7_ask_144 rfl ?_
  refine z_iret hC dX7_ask_146 ?_
  exact hE.to (by rfl) rfl rfl rfl

theorem w_ask_g0 (hS : ∀ k, S 0 k = msh 0 k) (hO : DOK D) (hM : MMe qe D I X Y) {y : Int32} (hx : ¬ iw y 1 9) : zC0 mX7_ask 6 [zr 0 0, zi (nI 0), zi y] (some (zi (-2))) ad S I X Y sz I (rmX 0 0 X) Y := by
  refine zgo (own := RX7) (k := 2) (by decide +kernel) rfl rfl rfl (fun C hC hnm hE => ?_)
  have hm := hM.1
  have hR := hO.1
  have hmo := hm
  have hn14 := hR.1
  have hn8 := hR.2.1
  have hn6 := hR.2.2.1
  refine z_iload_n hC dX7_ask_0 rfl ?_
  refine z_nif_ne hC dX7_ask_1 (tgt := 16) (by decide) (by omega) (fun c1 => ?_) (fun c1 => ?_)
  · exact absurd c1 (by decide)
  refine z_iload_n hC dX7_ask_4 rfl ?_
  refine z_i2l hC dX7_ask_5  ?_
  refine z_lconst hC dX7_ask_6 (v := lN 1) rfl ?_
  refine z_ldc2 hC dX7_ask_7 (v := lN 9) (zin5 (i := 167) rfl rfl) ?_
  refine wSv hC dX7_ask_10 zlX7_97 (c_X7_inI (by omega) (by omega)) rfl rfl rfl rfl ⟨rfl, rfl⟩ ?_
  refine z_goto hC dX7_ask_13 (tgt := 53) (by decide) ?_
  refine z_istore_n hC dX7_ask_53 (lo2 := [_, _, _, _, _]) (Nat.le_of_ble_eq_true rfl) rfl rfl ?_
  refine z_iload_n hC dX7_ask_54 rfl ?_
  refine w_ifb_ne hC dX7_ask_55 (tgt := 65) (by decide) (fun c55 => ?_) (fun c55 => ?_)
  · exact absurd c55 hx
  refine z_aload_n hC dX7_ask_58 rfl ?_
  refine z_bipush hC dX7_ask_59 (v := -2) rfl ?_
  refine wVv hC dX7_ask_61 zlX7_107 (c_X7_refuse hS (j := 0) (by decide) (by decide)) (hS _) rfl rfl rfl rfl rfl rfl ⟨rfl, rfl⟩ ?_
  refine z_iret hC dX7_ask_64 ?_
  exact hE.to (by rfl) rfl rfl rfl

theorem w_ask_t1 (hS : ∀ k, S 0 k = msh 0 k) (hO : DOK D) (hM : MMe qe D I X Y) {y : Nat} (hy : y ≤ 1) : zC0 mX7_ask 6 [zr 0 0, zi (nI 1), zi (nI y)] (some (zi (nI (D.1.1 4)))) ad S I X Y sz (up3 I 0 0 24 (nI y)) X Y := by
  refine zgo (own := RX7) (k := 2) (by decide +kernel) rfl rfl rfl (fun C hC hnm hE => ?_)
  have hm := hM.1
  have hR := hO.1
  have hmo := hm
  have hn14 := hR.1
  have hn8 := hR.2.1
  have hn6 := hR.2.2.1
  refine z_iload_n hC dX7_ask_0 rfl ?_
  refine z_nif_ne hC dX7_ask_1 (tgt := 16) (by decide) (by omega) (fun c1 => ?_) (fun c1 => ?_)
  rotate_left
  · exact absurd c1 (by decide)
  refine z_iload_n hC dX7_ask_16 rfl ?_
  refine z_iconst hC dX7_ask_17 (v := nI 1) rfl ?_
  refine z_nicmp_ne hC dX7_ask_18 (tgt := 31) (by decide) (by omega) (by omega) (fun c18 => ?_) (fun c18 => ?_)
  · exact absurd c18 (by decide)
  refine z_iload_n hC dX7_ask_21 rfl ?_
  refine z_n2m hC dX7_ask_22 (by omega) ?_
  refine z_lconst hC dX7_ask_23 (v := lN 0) rfl ?_
  refine z_lconst hC dX7_ask_24 (v := lN 1) rfl ?_
  refine wSv hC dX7_ask_25 zlX7_97 (c_X7_inN (by omega) (by omega) (by omega)) rfl rfl rfl rfl ⟨rfl, rfl⟩ ?_
  refine z_goto hC dX7_ask_28 (tgt := 53) (by decide) ?_
  refine z_istore_n hC dX7_ask_53 (lo2 := [_, _, _, _, _]) (Nat.le_of_ble_eq_true rfl) rfl rfl ?_
  refine z_iload_n hC dX7_ask_54 rfl ?_
  refine w_ifb_ne hC dX7_ask_55 (tgt := 65) (by decide) (fun c55 => ?_) (fun c55 => ?_)
  rotate_left
  · exact absurd c55 (by omega)
  refine z_iload_n hC dX7_ask_65 rfl ?_
  refine z_nif_ne hC dX7_ask_66 (tgt := 76) (by decide) (by omega) (fun c66 => ?_) (fun c66 => ?_)
  rotate_left
  · exact absurd c66 (by decide)
  refine z_iload_n hC dX7_ask_76 rfl ?_
  refine z_iconst hC dX7_ask_77 (v := nI 1) rfl ?_
  refine z_nicmp_ne hC dX7_ask_78 (tgt := 88) (by decide) (by omega) (by omega) (fun c78 => ?_) (fun c78 => ?_)
  · exact absurd c78 (by decide)
  refine z_aload_n hC dX7_ask_81 rfl ?_
  refine z_getN hC dX7_ask_82 (hS _) zfX7_144 rfl hm.1.2.2.2.2.1 ?_
  refine z_goto hC dX7_ask_85 (tgt := 92) (by decide) ?_
  refine z_istore hC dX7_ask_92 (lo2 := [_, _, _, _, _]) (Nat.le_of_ble_eq_true rfl) rfl rfl ?_
  refine z_aload_n hC dX7_ask_94 rfl ?_
  refine z_iload_n hC dX7_ask_95 rfl ?_
  refine z_nif_ne hC dX7_ask_96 (tgt := 103) (by decide) (by omega) (fun c96 => ?_) (fun c96 => ?_)
  rotate_left
  · exact absurd c96 (by decide)
  refine z_aload_n hC dX7_ask_103 rfl ?_
  refine z_getN hC dX7_ask_104 (hS _) zfX7_70 rfl hm.1.2.2.2.1 ?_
  refine z_putI hC dX7_ask_107 (hS _) zfX7_70 rfl rfl rfl rfl ?_
  refine z_I (up3_id hm.1.2.2.2.1) ?_
  refine z_aload_n hC dX7_ask_110 rfl ?_
  refine z_iload_n hC dX7_ask_111 rfl ?_
  refine z_iconst hC dX7_ask_112 (v := nI 1) rfl ?_
  refine z_nicmp_ne hC dX7_ask_113 (tgt := 120) (by decide) (by omega) (by omega) (fun c113 => ?_) (fun c113 => ?_)
  · exact absurd c113 (by decide)
  refine z_iload_n hC dX7_ask_116 rfl ?_
  refine z_goto hC dX7_ask_117 (tgt := 124) (by decide) ?_
  refine z_putI hC dX7_ask_124 (hS _) zfX7_144 rfl rfl rfl rfl ?_
  refine z_aload_n hC dX7_ask_127 rfl ?_
  refine z_iload_n hC dX7_ask_128 rfl ?_
  refine z_iconst hC dX7_ask_129 (v := nI 2) rfl ?_
  refine z_nicmp_ne hC dX7_ask_130 (tgt := 137) (by decide) (by omega) (by omega) (fun c130 => ?_) (fun c130 => ?_)
  rotate_left
  · exact absurd c130 (by decide)
  refine z_aload_n hC dX7_ask_137 rfl ?_
  refine z_getN hC dX7_ask_138 (hS _) zfX7_147 rfl ((up3_ne (by omega)).trans hm.1.2.2.2.2.2.1) ?_
  refine z_putI hC dX7_ask_141 (hS _) zfX7_147 rfl rfl rfl rfl ?_
  refine z_I (up3_id ((up3_ne (by omega)).trans hm.1.2.2.2.2.2.1)) ?_
  refine z_iload hC dX7_ask_144 rfl ?_
  refine z_iret hC dX7_ask_146 ?_
  exact hE.to (by rfl) rfl rfl rfl

theorem w_ask_g1 (hS : ∀ k, S 0 k = msh 0 k) (hO : DOK D) (hM : MMe qe D I X Y) {y : Int32} (hx : ¬ iw y 0 1) : zC0 mX7_ask 6 [zr 0 0, zi (nI 1), zi y] (some (zi (-2))) ad S I X Y sz I (rmX 0 0 X) Y := by
  refine zgo (own := RX7) (k := 2) (by decide +kernel) rfl rfl rfl (fun C hC hnm hE => ?_)
  have hm := hM.1
  have hR := hO.1
  have hmo := hm
  have hn14 := hR.1
  have hn8 := hR.2.1
  have hn6 := hR.2.2.1
  refine z_iload_n hC dX7_ask_0 rfl ?_
  refine z_nif_ne hC dX7_ask_1 (tgt := 16) (by decide) (by omega) (fun c1 => ?_) (fun c1 => ?_)
  rotate_left
  · exact absurd c1 (by decide)
  refine z_iload_n hC dX7_ask_16 rfl ?_
  refine z_iconst hC dX7_ask_17 (v := nI 1) rfl ?_
  refine z_nicmp_ne hC dX7_ask_18 (tgt := 31) (by decide) (by omega) (by omega) (fun c18 => ?_) (fun c18 => ?_)
  · exact absurd c18 (by decide)
  refine z_iload_n hC dX7_ask_21 rfl ?_
  refine z_i2l hC dX7_ask_22  ?_
  refine z_lconst hC dX7_ask_23 (v := lN 0) rfl ?_
  refine z_lconst hC dX7_ask_24 (v := lN 1) rfl ?_
  refine wSv hC dX7_ask_25 zlX7_97 (c_X7_inI (by omega) (by omega)) rfl rfl rfl rfl ⟨rfl, rfl⟩ ?_
  refine z_goto hC dX7_ask_28 (tgt := 53) (by decide) ?_
  refine z_istore_n hC dX7_ask_53 (lo2 := [_, _, _, _, _]) (Nat.le_of_ble_eq_true rfl) rfl rfl ?_
  refine z_iload_n hC dX7_ask_54 rfl ?_
  refine w_ifb_ne hC dX7_ask_55 (tgt := 65) (by decide) (fun c55 => ?_) (fun c55 => ?_)
  · exact absurd c55 hx
  refine z_aload_n hC dX7_ask_58 rfl ?_
  refine z_bipush hC dX7_ask_59 (v := -2) rfl ?_
  refine wVv hC dX7_ask_61 zlX7_107 (c_X7_refuse hS (j := 0) (by decide) (by decide)) (hS _) rfl rfl rfl rfl rfl rfl ⟨rfl, rfl⟩ ?_
  refine z_iret hC dX7_ask_64 ?_
  exact hE.to (by rfl) rfl rfl rfl

theorem w_ask_t2 (hS : ∀ k, S 0 k = msh 0 k) (hO : DOK D) (hM : MMe qe D I X Y) {y : Nat} (hy : y ≤ 10) : zC0 mX7_ask 6 [zr 0 0, zi (nI 2), zi (nI y)] (some (zi (nI (D.1.1 5)))) ad S I X Y sz (up3 I 0 0 25 (nI y)) X Y := by
  refine zgo (own := RX7) (k := 2) (by decide +kernel) rfl rfl rfl (fun C hC hnm hE => ?_)
  have hm := hM.1
  have hR := hO.1
  have hmo := hm
  have hn14 := hR.1
  have hn8 := hR.2.1
  have hn6 := hR.2.2.1
  refine z_iload_n hC dX7_ask_0 rfl ?_
  refine z_nif_ne hC dX7_ask_1 (tgt := 16) (by decide) (by omega) (fun c1 => ?_) (fun c1 => ?_)
  rotate_left
  · exact absurd c1 (by decide)
  refine z_iload_n hC dX7_ask_16 rfl ?_
  refine z_iconst hC dX7_ask_17 (v := nI 1) rfl ?_
  refine z_nicmp_ne hC dX7_ask_18 (tgt := 31) (by decide) (by omega) (by omega) (fun c18 => ?_) (fun c18 => ?_)
  rotate_left
  · exact absurd c18 (by decide)
  refine z_iload_n hC dX7_ask_31 rfl ?_
  refine z_iconst hC dX7_ask_32 (v := nI 2) rfl ?_
  refine z_nicmp_ne hC dX7_ask_33 (tgt := 52) (by decide) (by omega) (by omega) (fun c33 => ?_) (fun c33 => ?_)
  · exact absurd c33 (by decide)
  refine z_iload_n hC dX7_ask_36 rfl ?_
  refine z_n2m hC dX7_ask_37 (by omega) ?_
  refine z_lconst hC dX7_ask_38 (v := lN 0) rfl ?_
  refine z_ldc2 hC dX7_ask_39 (v := lN 10) (zin5 (i := 178) rfl rfl) ?_
  refine wSv hC dX7_ask_42 zlX7_97 (c_X7_inN (by omega) (by omega) (by omega)) rfl rfl rfl rfl ⟨rfl, rfl⟩ ?_
  refine w_ifb_eq hC dX7_ask_45 (tgt := 52) (by decide) (fun c45 => ?_) (fun c45 => ?_)
  · exact absurd c45 (by omega)
  refine z_iconst hC dX7_ask_48 (v := nI 1) rfl ?_
  refine z_goto hC dX7_ask_49 (tgt := 53) (by decide) ?_
  refine z_istore_n hC dX7_ask_53 (lo2 := [_, _, _, _, _]) (Nat.le_of_ble_eq_true rfl) rfl rfl ?_
  refine z_iload_n hC dX7_ask_54 rfl ?_
  refine z_nif_ne hC dX7_ask_55 (tgt := 65) (by decide) (by omega) (fun c55 => ?_) (fun c55 => ?_)
  rotate_left
  · exact absurd c55 (by decide)
  refine z_iload_n hC dX7_ask_65 rfl ?_
  refine z_nif_ne hC dX7_ask_66 (tgt := 76) (by decide) (by omega) (fun c66 => ?_) (fun c66 => ?_)
  rotate_left
  · exact absurd c66 (by decide)
  refine z_iload_n hC dX7_ask_76 rfl ?_
  refine z_iconst hC dX7_ask_77 (v := nI 1) rfl ?_
  refine z_nicmp_ne hC dX7_ask_78 (tgt := 88) (by decide) (by omega) (by omega) (fun c78 => ?_) (fun c78 => ?_)
  rotate_left
  · exact absurd c78 (by decide)
  refine z_aload_n hC dX7_ask_88 rfl ?_
  refine z_getN hC dX7_ask_89 (hS _) zfX7_147 rfl hm.1.2.2.2.2.2.1 ?_
  refine z_istore hC dX7_ask_92 (lo2 := [_, _, _, _, _]) (Nat.le_of_ble_eq_true rfl) rfl rfl ?_
  refine z_aload_n hC dX7_ask_94 rfl ?_
  refine z_iload_n hC dX7_ask_95 rfl ?_
  refine z_nif_ne hC dX7_ask_96 (tgt := 103) (by decide) (by omega) (fun c96 => ?_) (fun c96 => ?_)
  rotate_left
  · exact absurd c96 (by decide)
  refine z_aload_n hC dX7_ask_103 rfl ?_
  refine z_getN hC dX7_ask_104 (hS _) zfX7_70 rfl hm.1.2.2.2.1 ?_
  refine z_putI hC dX7_ask_107 (hS _) zfX7_70 rfl rfl rfl rfl ?_
  refine z_I (up3_id hm.1.2.2.2.1) ?_
  refine z_aload_n hC dX7_ask_110 rfl ?_
  refine z_iload_n hC dX7_ask_111 rfl ?_
  refine z_iconst hC dX7_ask_112 (v := nI 1) rfl ?_
  refine z_nicmp_ne hC dX7_ask_113 (tgt := 120) (by decide) (by omega) (by omega) (fun c113 => ?_) (fun c113 => ?_)
  rotate_left
  · exact absurd c113 (by decide)
  refine z_aload_n hC dX7_ask_120 rfl ?_
  refine z_getN hC dX7_ask_121 (hS _) zfX7_144 rfl hm.1.2.2.2.2.1 ?_
  refine z_putI hC dX7_ask_124 (hS _) zfX7_144 rfl rfl rfl rfl ?_
  refine z_I (up3_id hm.1.2.2.2.2.1) ?_
  refine z_aload_n hC dX7_ask_127 rfl ?_
  refine z_iload_n hC dX7_ask_128 rfl ?_
  refine z_iconst hC dX7_ask_129 (v := nI 2) rfl ?_
  refine z_nicmp_ne hC dX7_ask_130 (tgt := 137) (by decide) (by omega) (by omega) (fun c130 => ?_) (fun c130 => ?_)
  · exact absurd c130 (by decide)
  refine z_iload_n hC dX7_ask_133 rfl ?_
  refine z_goto hC dX7_ask_134 (tgt := 141) (by decide) ?_
  refine z_putI hC dX7_ask_141 (hS _) zfX7_147 rfl rfl rfl rfl ?_
  refine z_iload hC dX7_ask_144 rfl ?_
  refine z_iret hC dX7_ask_146 ?_
  exact hE.to (by rfl) rfl rfl rfl

theorem w_ask_g2 (hS : ∀ k, S 0 k = msh 0 k) (hO : DOK D) (hM : MMe qe D I X Y) {y : Int32} (hx : ¬ iw y 0 10) : zC0 mX7_ask 6 [zr 0 0, zi (nI 2), zi y] (some (zi (-2))) ad S I X Y sz I (rmX 0 0 X) Y := by
  refine zgo (own := RX7) (k := 2) (by decide +kernel) rfl rfl rfl (fun C hC hnm hE => ?_)
  have hm := hM.1
  have hR := hO.1
  have hmo := hm
  have hn14 := hR.1
  have hn8 := hR.2.1
  have hn6 := hR.2.2.1
  refine z_iload_n hC dX7_ask_0 rfl ?_
  refine z_nif_ne hC dX7_ask_1 (tgt := 16) (by decide) (by omega) (fun c1 => ?_) (fun c1 => ?_)
  rotate_left
  · exact absurd c1 (by decide)
  refine z_iload_n hC dX7_ask_16 rfl ?_
  refine z_iconst hC dX7_ask_17 (v := nI 1) rfl ?_
  refine z_nicmp_ne hC dX7_ask_18 (tgt := 31) (by decide) (by omega) (by omega) (fun c18 => ?_) (fun c18 => ?_)
  rotate_left
  · exact absurd c18 (by decide)
  refine z_iload_n hC dX7_ask_31 rfl ?_
  refine z_iconst hC dX7_ask_32 (v := nI 2) rfl ?_
  refine z_nicmp_ne hC dX7_ask_33 (tgt := 52) (by decide) (by omega) (by omega) (fun c33 => ?_) (fun c33 => ?_)
  · exact absurd c33 (by decide)
  refine z_iload_n hC dX7_ask_36 rfl ?_
  refine z_i2l hC dX7_ask_37  ?_
  refine z_lconst hC dX7_ask_38 (v := lN 0) rfl ?_
  refine z_ldc2 hC dX7_ask_39 (v := lN 10) (zin5 (i := 178) rfl rfl) ?_
  refine wSv hC dX7_ask_42 zlX7_97 (c_X7_inI (by omega) (by omega)) rfl rfl rfl rfl ⟨rfl, rfl⟩ ?_
  refine w_ifb_eq hC dX7_ask_45 (tgt := 52) (by decide) (fun c45 => ?_) (fun c45 => ?_)
  rotate_left
  · exact absurd c45 hx
  refine z_iconst hC dX7_ask_52 (v := nI 0) rfl ?_
  refine z_istore_n hC dX7_ask_53 (lo2 := [_, _, _, _, _]) (Nat.le_of_ble_eq_true rfl) rfl rfl ?_
  refine z_iload_n hC dX7_ask_54 rfl ?_
  refine z_nif_ne hC dX7_ask_55 (tgt := 65) (by decide) (by omega) (fun c55 => ?_) (fun c55 => ?_)
  · exact absurd c55 (by decide)
  refine z_aload_n hC dX7_ask_58 rfl ?_
  refine z_bipush hC dX7_ask_59 (v := -2) rfl ?_
  refine wVv hC dX7_ask_61 zlX7_107 (c_X7_refuse hS (j := 0) (by decide) (by decide)) (hS _) rfl rfl rfl rfl rfl rfl ⟨rfl, rfl⟩ ?_
  refine z_iret hC dX7_ask_64 ?_
  exact hE.to (by rfl) rfl rfl rfl

theorem w_ask_f (hS : ∀ k, S 0 k = msh 0 k) (hO : DOK D) (hM : MMe qe D I X Y) {x y : Int32} (hx : ¬ iw x 0 2) : zC0 mX7_ask 6 [zr 0 0, zi x, zi y] (some (zi (-2))) ad S I X Y sz I (rmX 0 0 X) Y := by
  refine zgo (own := RX7) (k := 2) (by decide +kernel) rfl rfl rfl (fun C hC hnm hE => ?_)
  have hm := hM.1
  have hR := hO.1
  have hmo := hm
  have hn14 := hR.1
  have hn8 := hR.2.1
  have hn6 := hR.2.2.1
  refine z_iload_n hC dX7_ask_0 rfl ?_
  refine z_if_ne hC dX7_ask_1 (tgt := 16) (by decide) (fun c1 => ?_) (fun c1 => ?_)
  rotate_left
  · exact absurd c1 (fun z => hx (by rw [z]; exact ⟨by decide, by decide⟩))
  refine z_iload_n hC dX7_ask_16 rfl ?_
  refine z_iconst hC dX7_ask_17 (v := nI 1) rfl ?_
  refine z_icmp_ne hC dX7_ask_18 (tgt := 31) (by decide) (fun c18 => ?_) (fun c18 => ?_)
  rotate_left
  · exact absurd c18 (fun z => hx (by rw [z]; exact ⟨by decide, by decide⟩))
  refine z_iload_n hC dX7_ask_31 rfl ?_
  refine z_iconst hC dX7_ask_32 (v := nI 2) rfl ?_
  refine z_icmp_ne hC dX7_ask_33 (tgt := 52) (by decide) (fun c33 => ?_) (fun c33 => ?_)
  rotate_left
  · exact absurd c33 (fun z => hx (by rw [z]; exact ⟨by decide, by decide⟩))
  refine z_iconst hC dX7_ask_52 (v := nI 0) rfl ?_
  refine z_istore_n hC dX7_ask_53 (lo2 := [_, _, _, _, _]) (Nat.le_of_ble_eq_true rfl) rfl rfl ?_
  refine z_iload_n hC dX7_ask_54 rfl ?_
  refine z_nif_ne hC dX7_ask_55 (tgt := 65) (by decide) (by omega) (fun c55 => ?_) (fun c55 => ?_)
  · exact absurd c55 (by decide)
  refine z_aload_n hC dX7_ask_58 rfl ?_
  refine z_bipush hC dX7_ask_59 (v := -2) rfl ?_
  refine wVv hC dX7_ask_61 zlX7_107 (c_X7_refuse hS (j := 0) (by decide) (by decide)) (hS _) rfl rfl rfl rfl rfl rfl ⟨rfl, rfl⟩ ?_
  refine z_iret hC dX7_ask_64 ?_
  exact hE.to (by rfl) rfl rfl rfl

theorem m_ask (hS : ∀ k, S 0 k = msh 0 k) (hO : DOK D) (hM : MMe qe D I X Y) {x y : Int32} : mC mX7_ask 6 [zr 0 0, zi x, zi y] (some (zi (askS D x y).1)) (askS D x y).2 ad S I X Y sz qe := by
  unfold askS
  by_cases hx : iw x 0 2
  · obtain ⟨x, -, h2, rfl, e1⟩ := iw_e hx (by decide) (by decide)
    rw [e1]
    by_cases h0 : tkP D.1 (1 + x) 0 y
    · rw [if_pos ⟨hx, h0⟩]
      obtain ⟨y, rfl, _, k0, e0⟩ := tkP_e hO.1 (by omega) (by decide) h0
      rw [e0]
      have hb := tk1_n k0
      have hr := hM.1.set (j := 3 + x) (v := y) (by omega)
      refine ⟨_, X, Y, hM.road hr (fun j _ => up3_ne (by omega)) (fun k j _ _ => rfl) (fun k j => ⟨up3_ne (by omega), rfl⟩), ?_⟩
      have h3 : x = 0 ∨ x = 1 ∨ x = 2 := by omega
      rcases h3 with rfl | rfl | rfl
      · exact w_ask_t0 hS hO hM (hb.1 rfl)
      · exact w_ask_t1 hS hO hM (hb.2.1 rfl)
      · exact w_ask_t2 hS hO hM (hb.2.2 rfl)
    · rw [if_neg (fun z => h0 z.2)]
      refine ⟨I, rmX 0 0 X, Y, hM.rf (by decide), ?_⟩
      have h3 : x = 0 ∨ x = 1 ∨ x = 2 := by omega
      rcases h3 with rfl | rfl | rfl
      · exact w_ask_g0 hS hO hM h0
      · exact w_ask_g1 hS hO hM h0
      · exact w_ask_g2 hS hO hM h0
  · rw [if_neg (fun z => hx z.1)]
    exact ⟨I, rmX 0 0 X, Y, hM.rf (by decide), w_ask_f hS hO hM hx⟩
theorem w_anew_t (hS : ∀ k, S 0 k = msh 0 k) (hO : DOK D) (hM : MMe qe D I X Y)  : zC0 mX7_anew 6 [zr 0 0] (some (zi (nI (D.1.1 1)))) ad S I X Y sz (up3 I 0 0 15 (nI 0)) (zrow 0 21 (fun _ => 100) (D.1.1 0) X) Y := by
  refine zgo (own := RX7) (k := 0) (by decide +kernel) rfl rfl rfl (fun C hC hnm hE => ?_)
  have hm := hM.1
  have hR := hO.1
  have hmo := hm
  have hn14 := hR.1
  have hn8 := hR.2.1
  have hn6 := hR.2.2.1
  refine z_aload_n hC dX7_anew_0 rfl ?_
  refine wVv hC dX7_anew_1 zlX7_159 (c_X7_noSigns hS hm hR) (hS _) rfl rfl rfl rfl rfl rfl ⟨rfl, rfl⟩ ?_
  refine z_iret hC dX7_anew_4 ?_
  exact hE.to (by rfl) rfl rfl rfl

theorem m_anew (hS : ∀ k, S 0 k = msh 0 k) (hO : DOK D) (hM : MMe qe D I X Y) : mC mX7_anew 6 [zr 0 0] (some (zi (anewS D).1)) (anewS D).2 ad S I X Y sz qe :=
  ⟨_, _, Y, hM.road hM.1.forget (fun j _ => up3_ne (by omega)) (fun k j _ _ => zrow_ne (by omega)) (fun k j => ⟨up3_ne (by omega), zrow_ne (by omega)⟩), w_anew_t hS hO hM⟩
theorem w_feed_t (hS : ∀ k, S 0 k = msh 0 k) (hO : DOK D) (hM : MMe qe D I X Y) {x : Nat} (hx : x ≤ 255) (hf : ¬ D.2.2.1.2 = 250) : zC0 mX7_feed 6 [zr 0 0, zi (nI x)] (some (zi (nI (D.2.2.1.2 + 1)))) ad S I X Y sz (up3 I 0 0 7 (nI (D.2.2.1.2 + 1))) (up3 X 0 15 D.2.2.1.2 (nI x)) Y := by
  refine zgo (own := RX7) (k := 0) (by decide +kernel) rfl rfl rfl (fun C hC hnm hE => ?_)
  have hm := hM.1
  have hR := hO.1
  have hmo := hm
  have hn14 := hR.1
  have hn8 := hR.2.1
  have hn6 := hR.2.2.1
  have hz := hO.2.2.1.1
  refine z_iload_n hC dX7_feed_0 rfl ?_
  refine z_n2m hC dX7_feed_1 (by omega) ?_
  refine z_lconst hC dX7_feed_2 (v := lN 0) rfl ?_
  refine z_ldc2 hC dX7_feed_3 (v := lN 255) (zin5 (i := 209) rfl rfl) ?_
  refine wSv hC dX7_feed_6 zlX7_97 (c_X7_inN (by omega) (by omega) (by omega)) rfl rfl rfl rfl ⟨rfl, rfl⟩ ?_
  refine w_ifb_ne hC dX7_feed_9 (tgt := 19) (by decide) (fun c9 => ?_) (fun c9 => ?_)
  rotate_left
  · exact absurd c9 (by omega)
  refine z_aload_n hC dX7_feed_19 rfl ?_
  refine z_getN hC dX7_feed_20 (hS _) zfX7_173 rfl hM.2.2.2.2.1.1 ?_
  refine z_sipush hC dX7_feed_23 (v := nI 250) rfl ?_
  refine z_nicmp_ne hC dX7_feed_26 (tgt := 36) (by decide) (by omega) (by omega) (fun c26 => ?_) (fun c26 => ?_)
  rotate_left
  · exact absurd c26 hf
  refine z_aload_n hC dX7_feed_36 rfl ?_
  refine z_getR hC dX7_feed_37 (hS _) zfX7_31 rfl ?_
  refine z_aload_n hC dX7_feed_40 rfl ?_
  refine z_dup hC dX7_feed_41 rfl ?_
  refine z_getN hC dX7_feed_42 (hS _) zfX7_173 rfl hM.2.2.2.2.1.1 ?_
  refine z_dup_x1 hC dX7_feed_45 rfl rfl ?_
  refine z_iconst hC dX7_feed_46 (v := nI 1) rfl ?_
  refine z_nadd hC dX7_feed_47  ?_
  refine z_putI hC dX7_feed_48 (hS _) zfX7_173 rfl rfl rfl rfl ?_
  refine z_iload_n hC dX7_feed_51 rfl ?_
  refine z_niast hC dX7_feed_52 (hS _) (by omega) rfl ?_
  refine z_aload_n hC dX7_feed_53 rfl ?_
  refine z_getN hC dX7_feed_54 (hS _) zfX7_173 rfl (up3_eq _ _ _ _ _) ?_
  refine z_iret hC dX7_feed_57 ?_
  exact hE.to (by rfl) rfl rfl rfl

theorem w_feed_o (hS : ∀ k, S 0 k = msh 0 k) (hO : DOK D) (hM : MMe qe D I X Y) {x : Int32} (hx : iw x 0 255) (hf : D.2.2.1.2 = 250) : zC0 mX7_feed 6 [zr 0 0, zi x] (some (zi (-6))) ad S I X Y sz I (rmX 0 4 X) Y := by
  refine zgo (own := RX7) (k := 0) (by decide +kernel) rfl rfl rfl (fun C hC hnm hE => ?_)
  have hm := hM.1
  have hR := hO.1
  have hmo := hm
  have hn14 := hR.1
  have hn8 := hR.2.1
  have hn6 := hR.2.2.1
  have hz := hO.2.2.1.1
  refine z_iload_n hC dX7_feed_0 rfl ?_
  refine z_i2l hC dX7_feed_1  ?_
  refine z_lconst hC dX7_feed_2 (v := lN 0) rfl ?_
  refine z_ldc2 hC dX7_feed_3 (v := lN 255) (zin5 (i := 209) rfl rfl) ?_
  refine wSv hC dX7_feed_6 zlX7_97 (c_X7_inI (by omega) (by omega)) rfl rfl rfl rfl ⟨rfl, rfl⟩ ?_
  refine w_ifb_ne hC dX7_feed_9 (tgt := 19) (by decide) (fun c9 => ?_) (fun c9 => ?_)
  rotate_left
  · exact absurd c9 (fun z => z hx)
  refine z_aload_n hC dX7_feed_19 rfl ?_
  refine z_getN hC dX7_feed_20 (hS _) zfX7_173 rfl hM.2.2.2.2.1.1 ?_
  refine z_sipush hC dX7_feed_23 (v := nI 250) rfl ?_
  refine z_nicmp_ne hC dX7_feed_26 (tgt := 36) (by decide) (by omega) (by omega) (fun c26 => ?_) (fun c26 => ?_)
  · exact absurd c26 (fun z => z hf)
  refine z_aload_n hC dX7_feed_29 rfl ?_
  refine z_bipush hC dX7_feed_30 (v := -6) rfl ?_
  refine wVv hC dX7_feed_32 zlX7_107 (c_X7_refuse hS (j := 4) (by decide) (by decide)) (hS _) rfl rfl rfl rfl rfl rfl ⟨rfl, rfl⟩ ?_
  refine z_iret hC dX7_feed_35 ?_
  exact hE.to (by rfl) rfl rfl rfl

theorem w_feed_f (hS : ∀ k, S 0 k = msh 0 k) (hO : DOK D) (hM : MMe qe D I X Y) {x : Int32} (hx : ¬ iw x 0 255) : zC0 mX7_feed 6 [zr 0 0, zi x] (some (zi (-2))) ad S I X Y sz I (rmX 0 0 X) Y := by
  refine zgo (own := RX7) (k := 0) (by decide +kernel) rfl rfl rfl (fun C hC hnm hE => ?_)
  have hm := hM.1
  have hR := hO.1
  have hmo := hm
  have hn14 := hR.1
  have hn8 := hR.2.1
  have hn6 := hR.2.2.1
  refine z_iload_n hC dX7_feed_0 rfl ?_
  refine z_i2l hC dX7_feed_1  ?_
  refine z_lconst hC dX7_feed_2 (v := lN 0) rfl ?_
  refine z_ldc2 hC dX7_feed_3 (v := lN 255) (zin5 (i := 209) rfl rfl) ?_
  refine wSv hC dX7_feed_6 zlX7_97 (c_X7_inI (by omega) (by omega)) rfl rfl rfl rfl ⟨rfl, rfl⟩ ?_
  refine w_ifb_ne hC dX7_feed_9 (tgt := 19) (by decide) (fun c9 => ?_) (fun c9 => ?_)
  · exact absurd c9 hx
  refine z_aload_n hC dX7_feed_12 rfl ?_
  refine z_bipush hC dX7_feed_13 (v := -2) rfl ?_
  refine wVv hC dX7_feed_15 zlX7_107 (c_X7_refuse hS (j := 0) (by decide) (by decide)) (hS _) rfl rfl rfl rfl rfl rfl ⟨rfl, rfl⟩ ?_
  refine z_iret hC dX7_feed_18 ?_
  exact hE.to (by rfl) rfl rfl rfl

theorem m_feed (hS : ∀ k, S 0 k = msh 0 k) (hO : DOK D) (hM : MMe qe D I X Y) {x : Int32} : mC mX7_feed 6 [zr 0 0, zi x] (some (zi (feedS D x).1)) (feedS D x).2 ad S I X Y sz qe := by
  unfold feedS
  by_cases h : iw x 0 255
  · rw [if_pos h]
    by_cases hf : D.2.2.1.2 = 250
    · rw [if_pos hf]
      exact ⟨I, rmX 0 4 X, Y, hM.rf (by decide), w_feed_o hS hO hM h hf⟩
    · rw [if_neg hf]
      obtain ⟨x, -, h2, rfl, e1⟩ := iw_e h (by decide) (by decide)
      refine ⟨_, _, Y, hM.tape (up3_eq _ _ _ _ _) (fun i hi => ?_) (fun b k j a => up3_ne (by omega)) (fun b k j a => up3_ne (by omega)), w_feed_t hS hO hM h2 hf⟩
      rw [e1]
      by_cases e : i = D.2.2.1.2
      · rw [e, up3_eq, if_pos rfl]
      · rw [up3_ne (by omega), if_neg e]
        exact hM.2.2.2.2.1.2 i (by omega)
  · rw [if_neg h]
    exact ⟨I, rmX 0 0 X, Y, hM.rf (by decide), w_feed_f hS hO hM h⟩

theorem w_wipe_t (hS : ∀ k, S 0 k = msh 0 k) (hO : DOK D) (hM : MMe qe D I X Y)  : zC0 mX7_wipe 6 [zr 0 0] (some (zi (nI D.2.2.1.2))) ad S I X Y sz (up3 I 0 0 7 (nI 0)) X Y := by
  refine zgo (own := RX7) (k := 1) (by decide +kernel) rfl rfl rfl (fun C hC hnm hE => ?_)
  have hm := hM.1
  have hR := hO.1
  have hmo := hm
  have hn14 := hR.1
  have hn8 := hR.2.1
  have hn6 := hR.2.2.1
  refine z_aload_n hC dX7_wipe_0 rfl ?_
  refine z_getN hC dX7_wipe_1 (hS _) zfX7_173 rfl hM.2.2.2.2.1.1 ?_
  refine z_istore_n hC dX7_wipe_4 (lo2 := [_, _]) (Nat.le_of_ble_eq_true rfl) rfl rfl ?_
  refine z_aload_n hC dX7_wipe_5 rfl ?_
  refine z_iconst hC dX7_wipe_6 (v := nI 0) rfl ?_
  refine z_putI hC dX7_wipe_7 (hS _) zfX7_173 rfl rfl rfl rfl ?_
  refine z_iload_n hC dX7_wipe_10 rfl ?_
  refine z_iret hC dX7_wipe_11 ?_
  exact hE.to (by rfl) rfl rfl rfl

theorem m_wipe (hS : ∀ k, S 0 k = msh 0 k) (hO : DOK D) (hM : MMe qe D I X Y) : mC mX7_wipe 6 [zr 0 0] (some (zi (wipeS D).1)) (wipeS D).2 ad S I X Y sz qe :=
  ⟨_, _, Y, hM.tape (up3_eq _ _ _ _ _) (fun i hi => absurd hi (Nat.not_lt_zero _)) (fun b k j a => up3_ne (by omega)) (fun b k j a => rfl), w_wipe_t hS hO hM⟩
end
