/-! the reference: in truth -/
theorem ROK_sd {R : RS} {x : Int32} (h : ROK R) : ROK (rseed R x) := by
  unfold ROK at h ⊢
  exact h
theorem MMe.drv {qe : Bool} {D : DS} {R : RS} {I X : zI} {Y : zY} (h : MMe qe (DR D R) I X Y) : MMe qe (DR D (drvR R)) (mdI 0 R I) (mdX 0 R X) Y :=
  MMe.road (D := DR D R) (R := drvR R) h (zQm.drv h.1) (fun j _ => by unfold mdI; rw [up3_ne (by omega), up3_ne (by omega), up3_ne (by omega)]) (fun k j _ _ => by unfold mdX; rw [zrow_ne (by omega)]) (fun k j => ⟨by unfold mdI; rw [up3_ne (by omega), up3_ne (by omega), up3_ne (by omega)], by unfold mdX; rw [zrow_ne (by omega)]⟩)
section
variable {ad : zA} {S : zSh} {I X : zI} {Y : zY} {sz : Nat} {D : DS} {qe : Bool}

theorem w_lies_t (hS : ∀ k, S 0 k = msh 0 k) (hO : DOK D) (hM : MMe qe D I X Y) {x : Int32} (hx : x = -1 ∨ inB x (D.1.1 0)) : zC0 mX7_lies 6 [zr 0 0, zi x] (some (zi D.1.2.2.1)) ad S I X Y sz (up3 I 0 0 26 x) X Y := by
  refine zgo (own := RX7) (k := 1) (by decide +kernel) rfl rfl rfl (fun C hC hnm hE => ?_)
  have hm := hM.1
  have hR := hO.1
  have hmo := hm
  have hn14 := hR.1
  have hn8 := hR.2.1
  have hn6 := hR.2.2.1
  refine z_iload_n hC dX7_lies_0 rfl ?_
  refine z_iconst hC dX7_lies_1 (v := -1) rfl ?_
  refine z_icmp_eq hC dX7_lies_2 (tgt := 21) (by decide) (fun c2 => ?_) (fun c2 => ?_)
  · skip
    refine z_aload_n hC dX7_lies_21 rfl ?_
    refine z_getV hC dX7_lies_22 (hS _) zfX7_74 rfl hm.1.2.2.2.2.2.2.1 ?_
    refine z_istore_n hC dX7_lies_25 (lo2 := [_, _, _]) (Nat.le_of_ble_eq_true rfl) rfl rfl ?_
    refine z_aload_n hC dX7_lies_26 rfl ?_
    refine z_iload_n hC dX7_lies_27 rfl ?_
    refine z_putI hC dX7_lies_28 (hS _) zfX7_74 rfl rfl rfl rfl ?_
    refine z_iload_n hC dX7_lies_31 rfl ?_
    refine z_iret hC dX7_lies_32 ?_
    exact hE.to (by rfl) rfl rfl rfl
  refine z_aload_n hC dX7_lies_5 rfl ?_
  refine z_iload_n hC dX7_lies_6 rfl ?_
  refine z_i2l hC dX7_lies_7  ?_
  refine wVv hC dX7_lies_8 zlX7_118 (c_X7_isBendI hS hm hR) (hS _) rfl rfl rfl rfl rfl rfl ⟨rfl, rfl⟩ ?_
  refine w_ifb_ne hC dX7_lies_11 (tgt := 21) (by decide) (fun c11 => ?_) (fun c11 => ?_)
  rotate_left
  · exact absurd c11 (fun z => z (hx.resolve_left c2))
  refine z_aload_n hC dX7_lies_21 rfl ?_
  refine z_getV hC dX7_lies_22 (hS _) zfX7_74 rfl hm.1.2.2.2.2.2.2.1 ?_
  refine z_istore_n hC dX7_lies_25 (lo2 := [_, _, _]) (Nat.le_of_ble_eq_true rfl) rfl rfl ?_
  refine z_aload_n hC dX7_lies_26 rfl ?_
  refine z_iload_n hC dX7_lies_27 rfl ?_
  refine z_putI hC dX7_lies_28 (hS _) zfX7_74 rfl rfl rfl rfl ?_
  refine z_iload_n hC dX7_lies_31 rfl ?_
  refine z_iret hC dX7_lies_32 ?_
  exact hE.to (by rfl) rfl rfl rfl

theorem w_lies_f (hS : ∀ k, S 0 k = msh 0 k) (hO : DOK D) (hM : MMe qe D I X Y) {x : Int32} (hx : ¬ (x = -1 ∨ inB x (D.1.1 0))) : zC0 mX7_lies 6 [zr 0 0, zi x] (some (zi (-2))) ad S I X Y sz I (rmX 0 0 X) Y := by
  refine zgo (own := RX7) (k := 1) (by decide +kernel) rfl rfl rfl (fun C hC hnm hE => ?_)
  have hm := hM.1
  have hR := hO.1
  have hmo := hm
  have hn14 := hR.1
  have hn8 := hR.2.1
  have hn6 := hR.2.2.1
  refine z_iload_n hC dX7_lies_0 rfl ?_
  refine z_iconst hC dX7_lies_1 (v := -1) rfl ?_
  refine z_icmp_eq hC dX7_lies_2 (tgt := 21) (by decide) (fun c2 => ?_) (fun c2 => ?_)
  · exact absurd c2 (fun z => hx (Or.inl z))
  refine z_aload_n hC dX7_lies_5 rfl ?_
  refine z_iload_n hC dX7_lies_6 rfl ?_
  refine z_i2l hC dX7_lies_7  ?_
  refine wVv hC dX7_lies_8 zlX7_118 (c_X7_isBendI hS hm hR) (hS _) rfl rfl rfl rfl rfl rfl ⟨rfl, rfl⟩ ?_
  refine w_ifb_ne hC dX7_lies_11 (tgt := 21) (by decide) (fun c11 => ?_) (fun c11 => ?_)
  · exact absurd c11 (fun z => hx (Or.inr z))
  refine z_aload_n hC dX7_lies_14 rfl ?_
  refine z_bipush hC dX7_lies_15 (v := -2) rfl ?_
  refine wVv hC dX7_lies_17 zlX7_107 (c_X7_refuse hS (j := 0) (by decide) (by decide)) (hS _) rfl rfl rfl rfl rfl rfl ⟨rfl, rfl⟩ ?_
  refine z_iret hC dX7_lies_20 ?_
  exact hE.to (by rfl) rfl rfl rfl

theorem m_lies (hS : ∀ k, S 0 k = msh 0 k) (hO : DOK D) (hM : MMe qe D I X Y) {x : Int32} : mC mX7_lies 6 [zr 0 0, zi x] (some (zi (liesS D x).1)) (liesS D x).2 ad S I X Y sz qe := by
  unfold liesS
  by_cases h : x = -1 ∨ inB x (D.1.1 0)
  · rw [if_pos h]
    exact ⟨_, _, Y, hM.road hM.1.lies (fun j _ => up3_ne (by omega)) (fun k j _ _ => rfl) (fun k j => ⟨up3_ne (by omega), rfl⟩), w_lies_t hS hO hM h⟩
  · rw [if_neg h]
    exact ⟨I, rmX 0 0 X, Y, hM.rf (by decide), w_lies_f hS hO hM h⟩

theorem w_seed_t (hS : ∀ k, S 0 k = msh 0 k) (hO : DOK D) (hM : MMe qe D I X Y) {x : Int32} : zC0 mX7_seed 6 [zr 0 0, zi x] (some (zi D.1.2.2.2)) ad S I X Y sz (up3 I 0 0 27 x) X Y := by
  refine zgo (own := RX7) (k := 1) (by decide +kernel) rfl rfl rfl (fun C hC hnm hE => ?_)
  have hm := hM.1
  have hR := hO.1
  have hmo := hm
  have hn14 := hR.1
  have hn8 := hR.2.1
  have hn6 := hR.2.2.1
  refine z_aload_n hC dX7_seed_0 rfl ?_
  refine z_getV hC dX7_seed_1 (hS _) zfX7_77 rfl hm.1.2.2.2.2.2.2.2 ?_
  refine z_istore_n hC dX7_seed_4 (lo2 := [_, _, _]) (Nat.le_of_ble_eq_true rfl) rfl rfl ?_
  refine z_aload_n hC dX7_seed_5 rfl ?_
  refine z_iload_n hC dX7_seed_6 rfl ?_
  refine z_putI hC dX7_seed_7 (hS _) zfX7_77 rfl rfl rfl rfl ?_
  refine z_iload_n hC dX7_seed_10 rfl ?_
  refine z_iret hC dX7_seed_11 ?_
  exact hE.to (by rfl) rfl rfl rfl

theorem m_seed (hS : ∀ k, S 0 k = msh 0 k) (hO : DOK D) (hM : MMe qe D I X Y) {x : Int32} : mC mX7_seed 6 [zr 0 0, zi x] (some (zi (seedS D x).1)) (seedS D x).2 ad S I X Y sz qe :=
  ⟨_, _, Y, hM.road hM.1.seed (fun j _ => up3_ne (by omega)) (fun k j _ _ => rfl) (fun k j => ⟨up3_ne (by omega), rfl⟩), w_seed_t hS hO hM⟩

theorem w_drive_t (hS : ∀ k, S 0 k = msh 0 k) (hO : DOK D) (hM : MMe qe D I X Y)  : zC0 mX7_drive 6 [zr 0 0] (some (zi (nI (drN D.1).2.2))) ad S I X Y sz (mdI 0 D.1 I) (mdX 0 D.1 X) Y := by
  refine zgo (own := RX7) (k := 0) (by decide +kernel) rfl rfl rfl (fun C hC hnm hE => ?_)
  have hm := hM.1
  have hR := hO.1
  have hmo := hm
  have hn14 := hR.1
  have hn8 := hR.2.1
  have hn6 := hR.2.2.1
  refine z_aload_n hC dX7_drive_0 rfl ?_
  refine wVv hC dX7_drive_1 zlX7_368 (c_X7_driven hS hm hR) (hS _) rfl rfl rfl rfl rfl rfl ⟨rfl, rfl⟩ ?_
  refine z_iret hC dX7_drive_4 ?_
  exact hE.to (by rfl) rfl rfl rfl

theorem m_drive (hS : ∀ k, S 0 k = msh 0 k) (hO : DOK D) (hM : MMe qe D I X Y) : mC mX7_drive 6 [zr 0 0] (some (zi (driveS D).1)) (driveS D).2 ad S I X Y sz qe :=
  ⟨_, _, Y, MMe.drv (D := D) (R := D.1) hM, w_drive_t hS hO hM⟩

theorem w_look_A (hS : ∀ k, S 0 k = msh 0 k) (hO : DOK D) (hM : MMe qe D I X Y) {b v : Nat} (hb : b < D.1.1 0) (h1 : 1 ≤ v) (h3 : v ≤ 3) (hL : D.1.2.2.1 = nI b) (hq : rngN (nextS D.1.2.2.2) % 100 < seenN v) : zC0 mX7_look 6 [zr 0 0, zi (nI b), zi (nI v)] (some (zi (nI 1))) ad S I X Y sz (up3 I 0 0 27 (nextS D.1.2.2.2)) X Y := by
  refine zgo (own := RX7) (k := 0) (by decide +kernel) rfl rfl rfl (fun C hC hnm hE => ?_)
  have hm := hM.1
  have hR := hO.1
  have hmo := hm
  have hn14 := hR.1
  have hn8 := hR.2.1
  have hn6 := hR.2.2.1
  refine z_aload_n hC dX7_look_0 rfl ?_
  refine z_iload_n hC dX7_look_1 rfl ?_
  refine z_n2m hC dX7_look_2 (by omega) ?_
  refine wVv hC dX7_look_3 zlX7_118 (c_X7_isBendN hS hm hR (by omega)) (hS _) rfl rfl rfl rfl rfl rfl ⟨rfl, rfl⟩ ?_
  refine w_ifb_eq hC dX7_look_6 (tgt := 16) (by decide) (fun c6 => ?_) (fun c6 => ?_)
  · exact absurd c6 (by omega)
  refine z_iload_n hC dX7_look_9 rfl ?_
  refine wSv hC dX7_look_10 zlX7_309 (c_X7_isLookN (by omega)) rfl rfl rfl rfl ⟨rfl, rfl⟩ ?_
  refine w_ifb_ne hC dX7_look_13 (tgt := 23) (by decide) (fun c13 => ?_) (fun c13 => ?_)
  rotate_left
  · exact absurd c13 (by omega)
  refine z_aload_n hC dX7_look_23 rfl ?_
  refine z_getV hC dX7_look_24 (hS _) zfX7_74 rfl hm.1.2.2.2.2.2.2.1 ?_
  refine z_iload_n hC dX7_look_27 rfl ?_
  refine z_icmp_ne hC dX7_look_28 (tgt := 46) (by decide) (fun c28 => ?_) (fun c28 => ?_)
  · exact absurd c28 (fun z => z hL)
  refine z_aload_n hC dX7_look_31 rfl ?_
  refine z_bipush hC dX7_look_32 (v := nI 100) rfl ?_
  refine wVv hC dX7_look_34 zlX7_365 (c_X7_below hS (n := 100) (by decide) (by decide) hm.1.2.2.2.2.2.2.2) (hS _) rfl rfl rfl rfl rfl rfl ⟨rfl, rfl⟩ ?_
  refine z_iload_n hC dX7_look_37 rfl ?_
  refine wSv hC dX7_look_38 zlX7_304 (c_X7_sees (by omega)) rfl rfl rfl rfl ⟨rfl, rfl⟩ ?_
  refine z_nicmp_ge hC dX7_look_41 (tgt := 46) (by decide) (by omega) (by omega) (fun c41 => ?_) (fun c41 => ?_)
  · exact absurd c41 (by rw [seen30 h1 h3]; omega)
  refine z_iconst hC dX7_look_44 (v := nI 1) rfl ?_
  refine z_iret hC dX7_look_45 ?_
  exact hE.to (by rfl) rfl rfl rfl

theorem w_look_B (hS : ∀ k, S 0 k = msh 0 k) (hO : DOK D) (hM : MMe qe D I X Y) {b v : Nat} (hb : b < D.1.1 0) (h1 : 1 ≤ v) (h3 : v ≤ 3) (hL : D.1.2.2.1 = nI b) (hq : ¬ rngN (nextS D.1.2.2.2) % 100 < seenN v) : zC0 mX7_look 6 [zr 0 0, zi (nI b), zi (nI v)] (some (zi (nI 0))) ad S I X Y sz (up3 I 0 0 27 (nextS D.1.2.2.2)) (up3 X 0 21 b (nI (missN (D.1.2.1 4 b) v))) Y := by
  refine zgo (own := RX7) (k := 0) (by decide +kernel) rfl rfl rfl (fun C hC hnm hE => ?_)
  have hm := hM.1
  have hR := hO.1
  have hmo := hm
  have hn14 := hR.1
  have hn8 := hR.2.1
  have hn6 := hR.2.2.1
  refine z_aload_n hC dX7_look_0 rfl ?_
  refine z_iload_n hC dX7_look_1 rfl ?_
  refine z_n2m hC dX7_look_2 (by omega) ?_
  refine wVv hC dX7_look_3 zlX7_118 (c_X7_isBendN hS hm hR (by omega)) (hS _) rfl rfl rfl rfl rfl rfl ⟨rfl, rfl⟩ ?_
  refine w_ifb_eq hC dX7_look_6 (tgt := 16) (by decide) (fun c6 => ?_) (fun c6 => ?_)
  · exact absurd c6 (by omega)
  refine z_iload_n hC dX7_look_9 rfl ?_
  refine wSv hC dX7_look_10 zlX7_309 (c_X7_isLookN (by omega)) rfl rfl rfl rfl ⟨rfl, rfl⟩ ?_
  refine w_ifb_ne hC dX7_look_13 (tgt := 23) (by decide) (fun c13 => ?_) (fun c13 => ?_)
  rotate_left
  · exact absurd c13 (by omega)
  refine z_aload_n hC dX7_look_23 rfl ?_
  refine z_getV hC dX7_look_24 (hS _) zfX7_74 rfl hm.1.2.2.2.2.2.2.1 ?_
  refine z_iload_n hC dX7_look_27 rfl ?_
  refine z_icmp_ne hC dX7_look_28 (tgt := 46) (by decide) (fun c28 => ?_) (fun c28 => ?_)
  · exact absurd c28 (fun z => z hL)
  refine z_aload_n hC dX7_look_31 rfl ?_
  refine z_bipush hC dX7_look_32 (v := nI 100) rfl ?_
  refine wVv hC dX7_look_34 zlX7_365 (c_X7_below hS (n := 100) (by decide) (by decide) hm.1.2.2.2.2.2.2.2) (hS _) rfl rfl rfl rfl rfl rfl ⟨rfl, rfl⟩ ?_
  refine z_iload_n hC dX7_look_37 rfl ?_
  refine wSv hC dX7_look_38 zlX7_304 (c_X7_sees (by omega)) rfl rfl rfl rfl ⟨rfl, rfl⟩ ?_
  refine z_nicmp_ge hC dX7_look_41 (tgt := 46) (by decide) (by omega) (by omega) (fun c41 => ?_) (fun c41 => ?_)
  rotate_left
  · exact absurd c41 (by rw [seen30 h1 h3]; omega)
  refine z_aload_n hC dX7_look_46 rfl ?_
  refine z_iload_n hC dX7_look_47 rfl ?_
  refine z_iload_n hC dX7_look_48 rfl ?_
  refine wV0 hC dX7_look_49 zlX7_244 (c_X7_misses (R := rseed D.1 (nextS D.1.2.2.2)) hS hm.seed (ROK_sd hR) hb h1 h3) (hS _) rfl rfl rfl rfl rfl rfl ⟨rfl, rfl⟩ ?_
  refine z_iconst hC dX7_look_52 (v := nI 0) rfl ?_
  refine z_iret hC dX7_look_53 ?_
  exact hE.to (by rfl) rfl rfl rfl

theorem w_look_C (hS : ∀ k, S 0 k = msh 0 k) (hO : DOK D) (hM : MMe qe D I X Y) {b v : Nat} (hb : b < D.1.1 0) (h1 : 1 ≤ v) (h3 : v ≤ 3) (hL : ¬ D.1.2.2.1 = nI b) : zC0 mX7_look 6 [zr 0 0, zi (nI b), zi (nI v)] (some (zi (nI 0))) ad S I X Y sz I (up3 X 0 21 b (nI (missN (D.1.2.1 4 b) v))) Y := by
  refine zgo (own := RX7) (k := 0) (by decide +kernel) rfl rfl rfl (fun C hC hnm hE => ?_)
  have hm := hM.1
  have hR := hO.1
  have hmo := hm
  have hn14 := hR.1
  have hn8 := hR.2.1
  have hn6 := hR.2.2.1
  refine z_aload_n hC dX7_look_0 rfl ?_
  refine z_iload_n hC dX7_look_1 rfl ?_
  refine z_n2m hC dX7_look_2 (by omega) ?_
  refine wVv hC dX7_look_3 zlX7_118 (c_X7_isBendN hS hm hR (by omega)) (hS _) rfl rfl rfl rfl rfl rfl ⟨rfl, rfl⟩ ?_
  refine w_ifb_eq hC dX7_look_6 (tgt := 16) (by decide) (fun c6 => ?_) (fun c6 => ?_)
  · exact absurd c6 (by omega)
  refine z_iload_n hC dX7_look_9 rfl ?_
  refine wSv hC dX7_look_10 zlX7_309 (c_X7_isLookN (by omega)) rfl rfl rfl rfl ⟨rfl, rfl⟩ ?_
  refine w_ifb_ne hC dX7_look_13 (tgt := 23) (by decide) (fun c13 => ?_) (fun c13 => ?_)
  rotate_left
  · exact absurd c13 (by omega)
  refine z_aload_n hC dX7_look_23 rfl ?_
  refine z_getV hC dX7_look_24 (hS _) zfX7_74 rfl hm.1.2.2.2.2.2.2.1 ?_
  refine z_iload_n hC dX7_look_27 rfl ?_
  refine z_icmp_ne hC dX7_look_28 (tgt := 46) (by decide) (fun c28 => ?_) (fun c28 => ?_)
  rotate_left
  · exact absurd c28 hL
  refine z_aload_n hC dX7_look_46 rfl ?_
  refine z_iload_n hC dX7_look_47 rfl ?_
  refine z_iload_n hC dX7_look_48 rfl ?_
  refine wV0 hC dX7_look_49 zlX7_244 (c_X7_misses hS hm hR hb h1 h3) (hS _) rfl rfl rfl rfl rfl rfl ⟨rfl, rfl⟩ ?_
  refine z_iconst hC dX7_look_52 (v := nI 0) rfl ?_
  refine z_iret hC dX7_look_53 ?_
  exact hE.to (by rfl) rfl rfl rfl

theorem w_look_f (hS : ∀ k, S 0 k = msh 0 k) (hO : DOK D) (hM : MMe qe D I X Y) {x y : Int32} (hx : ¬ (inB x (D.1.1 0) ∧ iw y 1 3)) : zC0 mX7_look 6 [zr 0 0, zi x, zi y] (some (zi (-2))) ad S I X Y sz I (rmX 0 0 X) Y := by
  refine zgo (own := RX7) (k := 0) (by decide +kernel) rfl rfl rfl (fun C hC hnm hE => ?_)
  have hm := hM.1
  have hR := hO.1
  have hmo := hm
  have hn14 := hR.1
  have hn8 := hR.2.1
  have hn6 := hR.2.2.1
  refine z_aload_n hC dX7_look_0 rfl ?_
  refine z_iload_n hC dX7_look_1 rfl ?_
  refine z_i2l hC dX7_look_2  ?_
  refine wVv hC dX7_look_3 zlX7_118 (c_X7_isBendI hS hm hR) (hS _) rfl rfl rfl rfl rfl rfl ⟨rfl, rfl⟩ ?_
  refine w_ifb_eq hC dX7_look_6 (tgt := 16) (by decide) (fun c6 => ?_) (fun c6 => ?_)
  · skip
    refine z_aload_n hC dX7_look_16 rfl ?_
    refine z_bipush hC dX7_look_17 (v := -2) rfl ?_
    refine wVv hC dX7_look_19 zlX7_107 (c_X7_refuse hS (j := 0) (by decide) (by decide)) (hS _) rfl rfl rfl rfl rfl rfl ⟨rfl, rfl⟩ ?_
    refine z_iret hC dX7_look_22 ?_
    exact hE.to (by rfl) rfl rfl rfl
  refine z_iload_n hC dX7_look_9 rfl ?_
  refine wSv hC dX7_look_10 zlX7_309 c_X7_isLookI rfl rfl rfl rfl ⟨rfl, rfl⟩ ?_
  refine w_ifb_ne hC dX7_look_13 (tgt := 23) (by decide) (fun c13 => ?_) (fun c13 => ?_)
  · exact absurd c13 (fun z => hx ⟨c6, z⟩)
  refine z_aload_n hC dX7_look_16 rfl ?_
  refine z_bipush hC dX7_look_17 (v := -2) rfl ?_
  refine wVv hC dX7_look_19 zlX7_107 (c_X7_refuse hS (j := 0) (by decide) (by decide)) (hS _) rfl rfl rfl rfl rfl rfl ⟨rfl, rfl⟩ ?_
  refine z_iret hC dX7_look_22 ?_
  exact hE.to (by rfl) rfl rfl rfl

theorem m_look (hS : ∀ k, S 0 k = msh 0 k) (hO : DOK D) (hM : MMe qe D I X Y) {x y : Int32} : mC mX7_look 6 [zr 0 0, zi x, zi y] (some (zi (lookS D x y).1)) (lookS D x y).2 ad S I X Y sz qe := by
  have hn14 := hO.1.1
  unfold lookS
  by_cases h : inB x (D.1.1 0) ∧ iw y 1 3
  · rw [if_pos h]
    obtain ⟨b, hb, rfl, e1⟩ := inB_e h.1 (by omega)
    obtain ⟨v, h1, h3, rfl, e2⟩ := iw_e h.2 (by decide) (by decide)
    rw [e1, e2]
    by_cases hL : D.1.2.2.1 = nI b
    · rw [if_pos hL]
      by_cases hq : rngN (nextS D.1.2.2.2) % 100 < seenN v
      · rw [if_pos hq]
        exact ⟨_, _, Y, hM.road hM.1.seed (fun j _ => up3_ne (by omega)) (fun k j _ _ => rfl) (fun k j => ⟨up3_ne (by omega), rfl⟩), w_look_A hS hO hM hb h1 h3 hL hq⟩
      · rw [if_neg hq]
        exact ⟨_, _, Y, hM.road hM.1.seed.miss (fun j _ => up3_ne (by omega)) (fun k j _ _ => up3_ne (by omega)) (fun k j => ⟨up3_ne (by omega), up3_ne (by omega)⟩), w_look_B hS hO hM hb h1 h3 hL hq⟩
    · rw [if_neg hL]
      exact ⟨_, _, Y, hM.road hM.1.miss (fun j _ => rfl) (fun k j _ _ => up3_ne (by omega)) (fun k j => ⟨rfl, up3_ne (by omega)⟩), w_look_C hS hO hM hb h1 h3 hL⟩
  · rw [if_neg h]
    exact ⟨I, rmX 0 0 X, Y, hM.rf (by decide), w_look_f hS hO hM h⟩

theorem w_trips_t (hS : ∀ k, S 0 k = msh 0 k) (hO : DOK D) (hM : MMe qe D I X Y) {x : Nat} (h1 : 1 ≤ x) (hx : x ≤ 99) : zCq mX7_trips 6 [zr 0 0, zi (nI x)] (some (zi (nI (trF D.1 x).2))) ad S I X Y sz (fun I1 X1 => MMe qe (DR D (trF D.1 x).1) I1 X1 Y) := by
  refine zgoQ (own := RX7) (k := 2) (by decide +kernel) rfl rfl rfl (fun C hC hnm hE => ?_)
  have hm := hM.1
  have hR := hO.1
  have hmo := hm
  have hn14 := hR.1
  have hn8 := hR.2.1
  have hn6 := hR.2.2.1
  refine z_iload_n hC dX7_trips_0 rfl ?_
  refine z_n2m hC dX7_trips_1 (by omega) ?_
  refine z_lconst hC dX7_trips_2 (v := lN 1) rfl ?_
  refine z_ldc2 hC dX7_trips_3 (v := lN 99) (zin5 (i := 200) rfl rfl) ?_
  refine wSv hC dX7_trips_6 zlX7_97 (c_X7_inN (by omega) (by omega) (by omega)) rfl rfl rfl rfl ⟨rfl, rfl⟩ ?_
  refine w_ifb_ne hC dX7_trips_9 (tgt := 19) (by decide) (fun c9 => ?_) (fun c9 => ?_)
  rotate_left
  · exact absurd c9 (by omega)
  refine z_iconst hC dX7_trips_19 (v := nI 0) rfl ?_
  refine z_istore_n hC dX7_trips_20 (lo2 := [_, _, _, _]) (Nat.le_of_ble_eq_true rfl) rfl rfl ?_
  refine z_iconst hC dX7_trips_21 (v := nI 0) rfl ?_
  refine z_istore_n hC dX7_trips_22 (lo2 := [_, _, _, _]) (Nat.le_of_ble_eq_true rfl) rfl rfl ?_
  have loop23 : ∀ (fuel : Nat) (k : Nat) (I1 X1 : zI), x - k < fuel → k ≤ x → MMe qe (DR D (trF D.1 k).1) I1 X1 Y → zL C 4 ad S 0 0 sz I1 X1 Y 23 [some (zr 0 0), some (zi (nI x)), some (zi (nI (trF D.1 k).2)), some (zi (nI k))] [] := by
    intro fuel
    induction fuel with
    | zero => intro k I1 X1 hfu; exact absurd hfu (Nat.not_lt_zero _)
    | succ fuel ih =>
      intro k I1 X1 hfu hk hme
      refine z_iload_n hC dX7_trips_23 rfl ?_
      refine z_iload_n hC dX7_trips_24 rfl ?_
      refine z_nicmp_ge hC dX7_trips_25 (tgt := 41) (by decide) (by omega) (by omega) (fun c25 => ?_) (fun c25 => ?_)
      · skip
        obtain rfl : k = x := by omega
        refine z_iload_n hC dX7_trips_41 rfl ?_
        refine z_iret hC dX7_trips_42 ?_
        exact (hE _ _ hme).to (by rfl) rfl rfl rfl
      refine z_iload_n hC dX7_trips_28 rfl ?_
      refine z_aload_n hC dX7_trips_29 rfl ?_
      refine wVv hC dX7_trips_30 zlX7_368 (c_X7_driven hS hme.1 (trF_ok hR k)) (hS _) rfl rfl rfl rfl rfl rfl ⟨rfl, rfl⟩ ?_
      refine z_nadd hC dX7_trips_33  ?_
      refine z_istore_n hC dX7_trips_34 (lo2 := [_, _, _, _]) (Nat.le_of_ble_eq_true rfl) rfl rfl ?_
      refine z_ninc hC dX7_trips_35 (lo2 := [_, _, _, _]) rfl rfl rfl rfl ?_
      refine z_goto hC dX7_trips_38 (tgt := 23) (by decide) ?_
      exact z_sub (by simp [zsub]; rfl) (ih (k + 1) _ _ (by omega) (by omega) hme.drv)
  exact z_sub (by simp [zsub, trF]) (loop23 _ 0 I X (Nat.lt_succ_self _) (Nat.zero_le _) hM)

theorem w_trips_f (hS : ∀ k, S 0 k = msh 0 k) (hO : DOK D) (hM : MMe qe D I X Y) {x : Int32} (hx : ¬ iw x 1 99) : zC0 mX7_trips 6 [zr 0 0, zi x] (some (zi (-2))) ad S I X Y sz I (rmX 0 0 X) Y := by
  refine zgo (own := RX7) (k := 2) (by decide +kernel) rfl rfl rfl (fun C hC hnm hE => ?_)
  have hm := hM.1
  have hR := hO.1
  have hmo := hm
  have hn14 := hR.1
  have hn8 := hR.2.1
  have hn6 := hR.2.2.1
  refine z_iload_n hC dX7_trips_0 rfl ?_
  refine z_i2l hC dX7_trips_1  ?_
  refine z_lconst hC dX7_trips_2 (v := lN 1) rfl ?_
  refine z_ldc2 hC dX7_trips_3 (v := lN 99) (zin5 (i := 200) rfl rfl) ?_
  refine wSv hC dX7_trips_6 zlX7_97 (c_X7_inI (by omega) (by omega)) rfl rfl rfl rfl ⟨rfl, rfl⟩ ?_
  refine w_ifb_ne hC dX7_trips_9 (tgt := 19) (by decide) (fun c9 => ?_) (fun c9 => ?_)
  · exact absurd c9 hx
  refine z_aload_n hC dX7_trips_12 rfl ?_
  refine z_bipush hC dX7_trips_13 (v := -2) rfl ?_
  refine wVv hC dX7_trips_15 zlX7_107 (c_X7_refuse hS (j := 0) (by decide) (by decide)) (hS _) rfl rfl rfl rfl rfl rfl ⟨rfl, rfl⟩ ?_
  refine z_iret hC dX7_trips_18 ?_
  exact hE.to (by rfl) rfl rfl rfl

theorem m_trips (hS : ∀ k, S 0 k = msh 0 k) (hO : DOK D) (hM : MMe qe D I X Y) {x : Int32} : mQ mX7_trips 6 [zr 0 0, zi x] (some (zi (tripsS D x).1)) (tripsS D x).2 ad S I X Y sz qe := by
  unfold tripsS
  by_cases h : iw x 1 99
  · rw [if_pos h]
    obtain ⟨x, h1, h2, rfl, e1⟩ := iw_e h (by decide) (by decide)
    rw [e1]
    exact mQ.of_q (w_trips_t hS hO hM h1 h2)
  · rw [if_neg h]
    exact mC.q ⟨I, rmX 0 0 X, Y, hM.rf (by decide), w_trips_f hS hO hM h⟩
end
