/-! OnTheRoof: way -/
theorem zcpX_ne {r r2 : Nat} {X : zI} {b k j : Nat} (h : ¬ (b = 3 ∧ r ≤ k ∧ k < r + 7)) : zcpX r r2 X b k j = X b k j := if_neg (by omega)
section
variable {D : DS} {I X : zI} {Y : zY}
abbrev wyI (D : DS) (I X : zI) : zI := (riM D.2.2.1.1 D.2.2.1.2 250 D.1 0 (tkM D.2.2.1.1 D.2.2.1.2 (zcpI 15 1 I) 0) (zcpX 15 1 X)).1
abbrev wyX (D : DS) (I X : zI) : zI := (riM D.2.2.1.1 D.2.2.1.2 250 D.1 0 (tkM D.2.2.1.1 D.2.2.1.2 (zcpI 15 1 I) 0) (zcpX 15 1 X)).2
theorem wyI_ne {k j : Nat} (h : ¬ (15 ≤ k ∧ k ≤ 22 ∧ ¬ j = 1 ∨ k = 30 ∧ ¬ j = 1)) : wyI D I X 3 k j = I 3 k j := by
  unfold wyI
  by_cases hj : j = 1
  · subst hj
    rw [riM_1]
    exact (tkI_ne (by omega)).trans (zcpI_ne (by omega))
  · rw [riM_I (by omega)]
    exact (tkI_ne (by omega)).trans (zcpI_ne (by omega))
theorem wyX_ne {k j : Nat} (h : ¬ (15 ≤ k ∧ k < 22 ∨ k = 32)) : wyX D I X 3 k j = X 3 k j := by
  unfold wyX
  rw [riM_X (by omega)]
  exact zcpX_ne (by omega)
theorem wy_m (hO : DOK D) (hM : DMe D I X Y) : zRm 15 D.1 (zcpI 15 1 I) (zcpX 15 1 X) := zRm_copy hM.2.2.2.2.2.2.2 hM.1 hO.1
theorem wy_T (hO : DOK D) (hM : DMe D I X Y) : zTp D.2.2.1.1 D.2.2.1.2 (zcpI 15 1 I) (zcpX 15 1 X) := (hM.tp hO).frame (zcpI_ne (by omega)) (fun j => zcpX_ne (by omega))
theorem wy_D (hM : DMe D I X Y) : DMe (DT D D.2.2.1.1 0) (up3 (wyI D I X) 3 30 1 (nI 0)) (wyX D I X) Y :=
  hM.tape (up3_eq _ _ _ _ _) (fun i hi => absurd hi (Nat.not_lt_zero _)) (fun k j h => by rw [up3_ne (by omega)]; exact wyI_ne (by omega)) (fun k j h => wyX_ne (by omega))
theorem wy_ok (hO : DOK D) (hM : DMe D I X Y) (h : ¬ (riN D.2.2.1.1 D.2.2.1.2 250 1 D.1 0).1 < 0) : zRm 15 (riN D.2.2.1.1 D.2.2.1.2 250 1 D.1 0).2 (up3 (wyI D I X) 3 30 1 (nI 0)) (wyX D I X) := by
  have hT := wy_T hO hM
  have h1 := (ri_ok 250 1 D.1 0 (tkM D.2.2.1.1 D.2.2.1.2 (zcpI 15 1 I) 0) (zcpX 15 1 X) (hT.frame (tkI_ne (by omega)) (fun _ => rfl)) ((wy_m hO hM).frame (fun k j a b => tkI_ne (by omega)) (fun _ _ _ _ => rfl)) hO.1 (Nat.zero_le _)).resolve_right h
  exact h1.frame (fun k j a b => up3_ne (by omega)) (fun _ _ _ _ => rfl)
end
section
variable {ad : zA} {S : zSh} {I X : zI} {Y : zY} {sz : Nat} {D : DS}

theorem e_way_f (hD : ∀ k, S 3 k = dsh k) (hO : DOK D) (hM : DMe D I X Y) (h : (riN D.2.2.1.1 D.2.2.1.2 250 1 D.1 0).1 < 0) : zC0 mX6_way 9 [zr 3 0] (some (zi (riN D.2.2.1.1 D.2.2.1.2 250 1 D.1 0).1)) ad S I X Y sz (up3 (wyI D I X) 3 30 1 (nI 0)) (rfX 0 (wyX D I X)) Y := by
  refine zgo (own := RX6) (k := 1) (by decide +kernel) rfl rfl rfl (fun C hC hnm hE => ?_)
  have hm := hM.1
  have hR := hO.1
  have hT := wy_T hO hM
  have hmd := wy_m hO hM
  refine z_aload_n hC dX6_way_0 rfl ?_
  refine z_getR hC dX6_way_1 (hD _) zfX6_19 rfl ?_
  refine z_aload_n hC dX6_way_4 rfl ?_
  refine z_getR hC dX6_way_5 (hD _) zfX6_10 rfl ?_
  refine zV0 hC dX6_way_8 zlX6_173 (c_X1_takeFrom (zRd_15 hD) (zRd_1 hD) (by decide)) (hD _) rfl rfl rfl rfl rfl rfl ?_
  refine z_aload_n hC dX6_way_11 rfl ?_
  refine z_getR hC dX6_way_12 (hD _) zfX6_39 rfl ?_
  refine z_aload_n hC dX6_way_15 rfl ?_
  refine z_getR hC dX6_way_16 (hD _) zfX6_19 rfl ?_
  refine zVv hC dX6_way_19 zlX6_177 (c_X4_readInto hD hT hmd hR) (hD _) rfl rfl rfl rfl rfl rfl ?_
  refine z_istore_n hC dX6_way_22 (lo2 := [_, _]) (Nat.le_of_ble_eq_true rfl) rfl rfl ?_
  refine z_aload_n hC dX6_way_23 rfl ?_
  refine z_getR hC dX6_way_24 (hD _) zfX6_39 rfl ?_
  refine z_iconst hC dX6_way_27 (v := nI 0) rfl ?_
  refine z_putI hC dX6_way_28 (hD _) zfX6_170 rfl rfl rfl rfl ?_
  refine z_iload_n hC dX6_way_31 rfl ?_
  refine z_if_ge hC dX6_way_32 (tgt := 44) (by decide) (fun c32 => ?_) (fun c32 => ?_)
  · exact absurd c32 (Int32.not_le.mpr h)
  refine z_aload_n hC dX6_way_35 rfl ?_
  refine z_bipush hC dX6_way_36 (v := -2) rfl ?_
  refine zVv hC dX6_way_38 zlX6_62 (c_X6_refuse hD (j := 0) (by decide) (by decide)) (hD _) rfl rfl rfl rfl rfl rfl ?_
  refine z_pop hC dX6_way_41 rfl ?_
  refine z_iload_n hC dX6_way_42 rfl ?_
  refine z_iret hC dX6_way_43 ?_
  exact hE.to (by rfl) rfl rfl rfl

theorem e_way_t (hD : ∀ k, S 3 k = dsh k) (hO : DOK D) (hM : DMe D I X Y) (h : ¬ (riN D.2.2.1.1 D.2.2.1.2 250 1 D.1 0).1 < 0) : zC0 mX6_way 9 [zr 3 0] (some (zi (riN D.2.2.1.1 D.2.2.1.2 250 1 D.1 0).1)) ad S I X Y sz (zcpI 1 15 (up3 (wyI D I X) 3 30 1 (nI 0))) (zcpX 1 15 (wyX D I X)) Y := by
  refine zgo (own := RX6) (k := 1) (by decide +kernel) rfl rfl rfl (fun C hC hnm hE => ?_)
  have hm := hM.1
  have hR := hO.1
  have hT := wy_T hO hM
  have hmd := wy_m hO hM
  refine z_aload_n hC dX6_way_0 rfl ?_
  refine z_getR hC dX6_way_1 (hD _) zfX6_19 rfl ?_
  refine z_aload_n hC dX6_way_4 rfl ?_
  refine z_getR hC dX6_way_5 (hD _) zfX6_10 rfl ?_
  refine zV0 hC dX6_way_8 zlX6_173 (c_X1_takeFrom (zRd_15 hD) (zRd_1 hD) (by decide)) (hD _) rfl rfl rfl rfl rfl rfl ?_
  refine z_aload_n hC dX6_way_11 rfl ?_
  refine z_getR hC dX6_way_12 (hD _) zfX6_39 rfl ?_
  refine z_aload_n hC dX6_way_15 rfl ?_
  refine z_getR hC dX6_way_16 (hD _) zfX6_19 rfl ?_
  refine zVv hC dX6_way_19 zlX6_177 (c_X4_readInto hD hT hmd hR) (hD _) rfl rfl rfl rfl rfl rfl ?_
  refine z_istore_n hC dX6_way_22 (lo2 := [_, _]) (Nat.le_of_ble_eq_true rfl) rfl rfl ?_
  refine z_aload_n hC dX6_way_23 rfl ?_
  refine z_getR hC dX6_way_24 (hD _) zfX6_39 rfl ?_
  refine z_iconst hC dX6_way_27 (v := nI 0) rfl ?_
  refine z_putI hC dX6_way_28 (hD _) zfX6_170 rfl rfl rfl rfl ?_
  refine z_iload_n hC dX6_way_31 rfl ?_
  refine z_if_ge hC dX6_way_32 (tgt := 44) (by decide) (fun c32 => ?_) (fun c32 => ?_)
  rotate_left
  · exact absurd c32 (fun z => z (Int32.not_lt.mp h))
  refine z_aload_n hC dX6_way_44 rfl ?_
  refine z_getR hC dX6_way_45 (hD _) zfX6_10 rfl ?_
  refine z_aload_n hC dX6_way_48 rfl ?_
  refine z_getR hC dX6_way_49 (hD _) zfX6_19 rfl ?_
  refine zV0 hC dX6_way_52 zlX6_173 (c_X1_takeFrom (zRd_1 hD) (zRd_15 hD) (by decide)) (hD _) rfl rfl rfl rfl rfl rfl ?_
  refine z_iload_n hC dX6_way_55 rfl ?_
  refine z_iret hC dX6_way_56 ?_
  exact hE.to (by rfl) rfl rfl rfl

theorem o_way (hD : ∀ k, S 3 k = dsh k) (hO : DOK D) (hM : DMe D I X Y) : dC mX6_way 9 [zr 3 0] (some (zi (wayS D).1)) (wayS D).2 ad S I X Y sz := by
  unfold wayS
  by_cases h : (riN D.2.2.1.1 D.2.2.1.2 250 1 D.1 0).1 < 0
  · rw [if_pos h]
    exact ⟨_, _, Y, (wy_D hM).rf (by decide), e_way_f hD hO hM h⟩
  · rw [if_neg h]
    refine ⟨_, _, Y, (wy_D hM).m (zRm_copy ((wy_D hM).1.rw) (wy_ok hO hM h) (ri_ROK 250 1 D.1 0 hO.1)) (fun k j a => zcpI_ne (by omega)) (fun k j a => zcpX_ne (by omega)), e_way_t hD hO hM h⟩
end
