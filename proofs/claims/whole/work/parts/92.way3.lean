/-! the reference: way -/
section
variable {ad : zA} {S : zSh} {I X : zI} {Y : zY} {sz : Nat} {D : DS} {qe : Bool}

theorem m_way (hS : ∀ k, S 0 k = msh 0 k) (hO : DOK D) (hM : MMe qe D I X Y) (hb : zBk 1 qe ad S I X Y sz)  : zCx mX7_way 8 47 14378 [zr 0 0] ad S I X Y sz (fun v1 S1 I1 X1 Y1 sz1 => v1 = some (zi (wayS D).1) ∧ ((S1 = S ∧ MMe qe (wayS D).2 I1 X1 Y1) ∨ (S1 = zmd 1 S ∧ MMe true (wayS D).2 I1 X1 Y1))) := by
  refine zgoX (own := RX7) (k := 2) (by decide +kernel) rfl rfl rfl (fun C hC hnm hE => ?_)
  have hm := hM.1
  have hR := hO.1
  have hmo := hm
  have hn14 := hR.1
  have hn8 := hR.2.1
  have hn6 := hR.2.2.1
  obtain ⟨I2, X2, sz2, hM2, hq2, hc2⟩ := c_fresh hS hM hR hb
  have hS0 : ∀ k, zmd 1 S 0 k = msh 0 k := fun k => (zmd_ne (by decide)).trans (hS k)
  have hS1 : ∀ k, zmd 1 S 1 k = msh 1 k := fun k => zmd_at
  refine z_aload_n hC dX7_way_0 rfl ?_
  refine yVv hC dX7_way_1 zlX7_263 hc2 (hS _) rfl rfl rfl rfl rfl rfl ⟨by decide, by decide⟩ ?_
  refine z_astore_n hC dX7_way_4 (lo2 := [_, _, _]) (Nat.le_of_ble_eq_true rfl) rfl rfl ?_
  refine z_aload_n hC dX7_way_5 rfl ?_
  refine xVv hC dX7_way_6 zlX7_267 (c_readAll hS0 hO hM2 hq2) (hS0 _) rfl rfl rfl rfl rfl rfl ⟨by decide, by decide⟩ (fun v1 S1 I3 X3 Y3 sz3 hP => ?_)
  obtain ⟨rfl, rfl, rfl, hq3, hP⟩ := hP
  rcases hP with ⟨rfl, hn, h36, hM3⟩ | ⟨rfl, hn, h34, R3, hM3⟩
  · skip
    have hw : wayS D = ((riN D.2.2.1.1 D.2.2.1.2 250 1 D.1 0).1, DR (DT D D.2.2.1.1 0) (riN D.2.2.1.1 D.2.2.1.2 250 1 D.1 0).2) := by unfold wayS; rw [if_neg hn]
    refine z_istore_n hC dX7_way_9 (lo2 := [_, _, _]) (Nat.le_of_ble_eq_true rfl) rfl rfl ?_
    refine z_aload_n hC dX7_way_10 rfl ?_
    refine z_iconst hC dX7_way_11 (v := nI 0) rfl ?_
    refine z_putI hC dX7_way_12 (hS0 _) zfX7_173 rfl rfl rfl rfl ?_
    refine z_iload_n hC dX7_way_15 rfl ?_
    refine z_nif_ne hC dX7_way_16 (tgt := 39) (by decide) (by omega) (fun c16 => ?_) (fun c16 => ?_)
    rotate_left
    · exact absurd c16 (by decide)
    refine z_aload_n hC dX7_way_39 rfl ?_
    refine z_getV hC dX7_way_40 (hS0 _) zfX7_248 rfl ((up3_ne (by omega)).trans h36) ?_
    refine z_widen (k := 47) (n := 14378) (by decide) (by decide) ?_
    refine z_iret hC dX7_way_43 ?_
    exact (hE (some (zi (riN D.2.2.1.1 D.2.2.1.2 250 1 D.1 0).1)) (zmd 1 S) _ _ _ _ ⟨by rw [hw], Or.inr ⟨rfl, by rw [hw]; exact hM3.tape (T := D.2.2.1.1) (z := 0) (up3_eq _ _ _ _ _) (fun i hi => absurd hi (Nat.not_lt_zero _)) (fun b k j h => up3_ne (by omega)) (fun _ _ _ _ => rfl)⟩⟩).to rfl rfl rfl rfl
  · skip
    have hw : wayS D = ((riN D.2.2.1.1 D.2.2.1.2 250 1 D.1 0).1, rfD 0 (DT D D.2.2.1.1 0)) := by unfold wayS; rw [if_pos hn]
    have hM4 := hM3.tape (I' := (up3 I3 0 0 7 (nI 0))) (X' := X3) (T := D.2.2.1.1) (z := 0) (up3_eq _ _ _ _ _) (fun i hi => absurd hi (Nat.not_lt_zero _)) (fun b k j h => up3_ne (by omega)) (fun _ _ _ _ => rfl)
    have hq4 : zQm 1 D.1 (up3 I3 0 0 7 (nI 0)) X3 := hq3.frame (fun j _ _ => up3_ne (by omega)) (fun _ _ _ _ => rfl)
    have hM5 := hM4.road (hq4.take (b1 := 0) hR) (fun j hj => tfI_ne (by omega)) (fun k j h1 h2 => tfX_ne (by omega)) (fun k j => ⟨tfI_ne (by omega), tfX_ne (by omega)⟩)
    refine z_istore_n hC dX7_way_9 (lo2 := [_, _, _]) (Nat.le_of_ble_eq_true rfl) rfl rfl ?_
    refine z_aload_n hC dX7_way_10 rfl ?_
    refine z_iconst hC dX7_way_11 (v := nI 0) rfl ?_
    refine z_putI hC dX7_way_12 (hS0 _) zfX7_173 rfl rfl rfl rfl ?_
    refine z_iload_n hC dX7_way_15 rfl ?_
    refine z_nif_ne hC dX7_way_16 (tgt := 39) (by decide) (by omega) (fun c16 => ?_) (fun c16 => ?_)
    · exact absurd c16 (by decide)
    refine z_aload_n hC dX7_way_19 rfl ?_
    refine z_aload_n hC dX7_way_20 rfl ?_
    refine wV0 hC dX7_way_21 zlX7_259 (c_X7_takeFrom hS0 hS1 (by decide)) (hS0 _) rfl rfl rfl rfl rfl rfl ⟨rfl, rfl⟩ ?_
    refine z_aload_n hC dX7_way_24 rfl ?_
    refine z_bipush hC dX7_way_25 (v := -2) rfl ?_
    refine wVv hC dX7_way_27 zlX7_107 (c_X7_refuse hS0 (j := 0) (by decide) (by decide)) (hS0 _) rfl rfl rfl rfl rfl rfl ⟨rfl, rfl⟩ ?_
    refine z_pop hC dX7_way_30 rfl ?_
    refine z_bipush hC dX7_way_31 (v := -20) rfl ?_
    refine z_aload_n hC dX7_way_33 rfl ?_
    refine z_getI hC dX7_way_34 (hS0 _) zfX7_196 rfl ?_
    refine z_isub hC dX7_way_37  ?_
    refine z_widen (k := 47) (n := 14378) (by decide) (by decide) ?_
    refine z_iret hC dX7_way_38 ?_
    exact (hE (some (zi (riN D.2.2.1.1 D.2.2.1.2 250 1 D.1 0).1)) (zmd 1 S) _ _ _ _ ⟨by rw [hw], Or.inr ⟨rfl, by rw [hw]; exact hM5.rf (j := 0) (by decide)⟩⟩).to (by rw [h34, tfI_ne (by omega), up3_ne (by omega)]) rfl rfl rfl

end
