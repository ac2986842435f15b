/-! the reference: order, vain, gripFor, otherwise, search -/
theorem rset_2 {R : RS} {j a v : Nat} : rset (rset R j a) j v = rset R j v := by
  refine congrArg (fun z => (z, R.2)) (funext fun i => ?_)
  show (if i = j then v else if i = j then a else R.1 i) = (if i = j then v else R.1 i)
  by_cases e : i = j
  · rw [if_pos e, if_pos e]
  · rw [if_neg e, if_neg e, if_neg e]
theorem rset_0 {R : RS} {j : Nat} : rset R j (R.1 j) = R := by
  obtain ⟨c, f, r⟩ := R
  refine congrArg (fun z => (z, f, r)) (funext fun i => ?_)
  show (if i = j then c j else c i) = c i
  by_cases e : i = j
  · rw [if_pos e, e]
  · rw [if_neg e]
theorem srM_s {R : RS} {el : Nat → Int64} {k b l : Nat} (e : srB el k = b ∧ srL el k = l) : rmiss (rmis R (srM (R.2.1 4) el k)) b l = rmis R (srM (R.2.1 4) el (k + 1)) := by
  obtain ⟨rfl, rfl⟩ := e
  exact rmis_m
section
variable {ad : zA} {S : zSh} {I X : zI} {Y : zY} {sz : Nat} {D : DS} {qe : Bool}

theorem w_order_t (hS : ∀ k, S 0 k = msh 0 k) (hO : DOK D) (hM : MMe qe D I X Y) (hb : zBk 1 qe ad S I X Y sz) {k : Nat} (hk : k ≤ 40) : zCx mX7_order 6 47 14378 [zr 0 0, zi (nI k)] ad S I X Y sz (fun v1 S1 I1 X1 Y1 sz1 => v1 = some (zi (oI (nxF D.1 (vnF D.1 k)))) ∧ ((S1 = S ∧ MMe qe D I1 X1 Y1) ∨ (S1 = zmd 1 S ∧ MMe true D I1 X1 Y1))) := by
  refine zgoX (own := RX7) (k := 0) (by decide +kernel) rfl rfl rfl (fun C hC hnm hE => ?_)
  have hm := hM.1
  have hR := hO.1
  have hmo := hm
  have hn14 := hR.1
  have hn8 := hR.2.1
  have hn6 := hR.2.2.1
  have hvl : ∀ i, i < D.1.1 0 → vnF D.1 k i ≤ 100 := vnM_le (fun i hi => (hR.2.2.2.2.2.2.1 i hi).2.2.2.2.2) k
  refine z_iload_n hC dX7_order_0 rfl ?_
  refine z_n2m hC dX7_order_1 (by omega) ?_
  refine z_lconst hC dX7_order_2 (v := lN 0) rfl ?_
  refine z_ldc2 hC dX7_order_3 (v := lN 40) (zin5 (i := 115) rfl rfl) ?_
  refine wSv hC dX7_order_6 zlX7_97 (c_X7_inN (by omega) (by omega) (by omega)) rfl rfl rfl rfl ⟨rfl, rfl⟩ ?_
  refine w_ifb_eq hC dX7_order_9 (tgt := 23) (by decide) (fun c9 => ?_) (fun c9 => ?_)
  · exact absurd c9 (by omega)
  refine z_aload_n hC dX7_order_12 rfl ?_
  refine z_iload_n hC dX7_order_13 rfl ?_
  refine xVv hC dX7_order_14 zlX7_335 (c_vainly hS hO hM hb hk) (hS _) rfl rfl rfl rfl rfl rfl ⟨by decide, by decide⟩ (fun v1 S1 I1 X1 Y1 sz1 hP => ?_)
  obtain ⟨rfl, rfl, rfl, hq, hw, hM1⟩ := hP
  refine wVv hC dX7_order_17 zlX7_330 (c_nextM (fun k => zmd_at) hq hR hvl) zmd_at rfl rfl rfl rfl rfl rfl ⟨rfl, rfl⟩ ?_
  refine z_goto hC dX7_order_20 (tgt := 29) (by decide) ?_
  refine z_widen (k := 47) (n := 14378) (by decide) (by decide) ?_
  refine z_iret hC dX7_order_29 ?_
  exact (hE (some (zi (oI (nxF D.1 (vnF D.1 k))))) (zmd 1 S) _ _ _ _ ⟨rfl, Or.inr ⟨rfl, (hM1.off mwI_off mwX_off)⟩⟩).to rfl rfl rfl rfl

theorem w_order_f (hS : ∀ k, S 0 k = msh 0 k) (hO : DOK D) (hM : MMe qe D I X Y) {x : Int32} (hx : ¬ iw x 0 40) : zCall mX7_order 6 47 14378 [zr 0 0, zi x] (some (zi (-2))) ad (S) I X Y (sz) (S) I (rmX 0 0 X) Y (sz) := by
  refine zgo (own := RX7) (k := 0) (by decide +kernel) rfl rfl rfl (fun C hC hnm hE => ?_)
  have hm := hM.1
  have hR := hO.1
  have hmo := hm
  have hn14 := hR.1
  have hn8 := hR.2.1
  have hn6 := hR.2.2.1
  refine z_iload_n hC dX7_order_0 rfl ?_
  refine z_i2l hC dX7_order_1  ?_
  refine z_lconst hC dX7_order_2 (v := lN 0) rfl ?_
  refine z_ldc2 hC dX7_order_3 (v := lN 40) (zin5 (i := 115) rfl rfl) ?_
  refine wSv hC dX7_order_6 zlX7_97 (c_X7_inI (by omega) (by omega)) rfl rfl rfl rfl ⟨rfl, rfl⟩ ?_
  refine w_ifb_eq hC dX7_order_9 (tgt := 23) (by decide) (fun c9 => ?_) (fun c9 => ?_)
  rotate_left
  · exact absurd c9 hx
  refine z_aload_n hC dX7_order_23 rfl ?_
  refine z_bipush hC dX7_order_24 (v := -2) rfl ?_
  refine wVv hC dX7_order_26 zlX7_107 (c_X7_refuse hS (j := 0) (by decide) (by decide)) (hS _) rfl rfl rfl rfl rfl rfl ⟨rfl, rfl⟩ ?_
  refine z_widen (k := 47) (n := 14378) (by decide) (by decide) ?_
  refine z_iret hC dX7_order_29 ?_
  exact hE.to (by rfl) rfl rfl rfl

theorem m_order (hS : ∀ k, S 0 k = msh 0 k) (hO : DOK D) (hM : MMe qe D I X Y) (hb : zBk 1 qe ad S I X Y sz) {x : Int32} : mX mX7_order 6 [zr 0 0, zi x] (some (zi (orderS D x).1)) (orderS D x).2 ad S I X Y sz qe := by
  unfold orderS
  by_cases h : iw x 0 40
  · rw [if_pos h]
    obtain ⟨x, -, h2, rfl, e1⟩ := iw_e h (by decide) (by decide)
    rw [e1]
    exact w_order_t hS hO hM hb h2
  · rw [if_neg h]
    exact mX.a (w_order_f hS hO hM h) (hM.rf (by decide))
theorem w_vain_t (hS : ∀ k, S 0 k = msh 0 k) (hO : DOK D) (hM : MMe qe D I X Y) (hb : zBk 1 qe ad S I X Y sz) {k : Nat} (hk : k ≤ 40) : zCx mX7_vain 6 47 14378 [zr 0 0, zi (nI k)] ad S I X Y sz (fun v1 S1 I1 X1 Y1 sz1 => v1 = some (zi (nI (sumN (wtN (signW D.1 (D.1.1 1)) (vnF D.1 k)) (D.1.1 0) + hwN D.1))) ∧ ((S1 = S ∧ MMe qe D I1 X1 Y1) ∨ (S1 = zmd 1 S ∧ MMe true D I1 X1 Y1))) := by
  refine zgoX (own := RX7) (k := 0) (by decide +kernel) rfl rfl rfl (fun C hC hnm hE => ?_)
  have hm := hM.1
  have hR := hO.1
  have hmo := hm
  have hn14 := hR.1
  have hn8 := hR.2.1
  have hn6 := hR.2.2.1
  have hvl : ∀ i, i < D.1.1 0 → vnF D.1 k i ≤ 100 := vnM_le (fun i hi => (hR.2.2.2.2.2.2.1 i hi).2.2.2.2.2) k
  refine z_iload_n hC dX7_vain_0 rfl ?_
  refine z_n2m hC dX7_vain_1 (by omega) ?_
  refine z_lconst hC dX7_vain_2 (v := lN 0) rfl ?_
  refine z_ldc2 hC dX7_vain_3 (v := lN 40) (zin5 (i := 115) rfl rfl) ?_
  refine wSv hC dX7_vain_6 zlX7_97 (c_X7_inN (by omega) (by omega) (by omega)) rfl rfl rfl rfl ⟨rfl, rfl⟩ ?_
  refine w_ifb_eq hC dX7_vain_9 (tgt := 23) (by decide) (fun c9 => ?_) (fun c9 => ?_)
  · exact absurd c9 (by omega)
  refine z_aload_n hC dX7_vain_12 rfl ?_
  refine z_iload_n hC dX7_vain_13 rfl ?_
  refine xVv hC dX7_vain_14 zlX7_335 (c_vainly hS hO hM hb hk) (hS _) rfl rfl rfl rfl rfl rfl ⟨by decide, by decide⟩ (fun v1 S1 I1 X1 Y1 sz1 hP => ?_)
  obtain ⟨rfl, rfl, rfl, hq, hw, hM1⟩ := hP
  refine z_getN hC dX7_vain_17 zmd_at zfX7_291 rfl hw.2.1 ?_
  refine z_goto hC dX7_vain_20 (tgt := 29) (by decide) ?_
  refine z_widen (k := 47) (n := 14378) (by decide) (by decide) ?_
  refine z_iret hC dX7_vain_29 ?_
  exact (hE (some (zi (nI (alN (rmis D.1 (vnF D.1 k)))))) (zmd 1 S) _ _ _ _ ⟨(by rw [rmis_a]), Or.inr ⟨rfl, hM1⟩⟩).to rfl rfl rfl rfl

theorem w_vain_f (hS : ∀ k, S 0 k = msh 0 k) (hO : DOK D) (hM : MMe qe D I X Y) {x : Int32} (hx : ¬ iw x 0 40) : zCall mX7_vain 6 47 14378 [zr 0 0, zi x] (some (zi (-2))) ad (S) I X Y (sz) (S) I (rmX 0 0 X) Y (sz) := by
  refine zgo (own := RX7) (k := 0) (by decide +kernel) rfl rfl rfl (fun C hC hnm hE => ?_)
  have hm := hM.1
  have hR := hO.1
  have hmo := hm
  have hn14 := hR.1
  have hn8 := hR.2.1
  have hn6 := hR.2.2.1
  refine z_iload_n hC dX7_vain_0 rfl ?_
  refine z_i2l hC dX7_vain_1  ?_
  refine z_lconst hC dX7_vain_2 (v := lN 0) rfl ?_
  refine z_ldc2 hC dX7_vain_3 (v := lN 40) (zin5 (i := 115) rfl rfl) ?_
  refine wSv hC dX7_vain_6 zlX7_97 (c_X7_inI (by omega) (by omega)) rfl rfl rfl rfl ⟨rfl, rfl⟩ ?_
  refine w_ifb_eq hC dX7_vain_9 (tgt := 23) (by decide) (fun c9 => ?_) (fun c9 => ?_)
  rotate_left
  · exact absurd c9 hx
  refine z_aload_n hC dX7_vain_23 rfl ?_
  refine z_bipush hC dX7_vain_24 (v := -2) rfl ?_
  refine wVv hC dX7_vain_26 zlX7_107 (c_X7_refuse hS (j := 0) (by decide) (by decide)) (hS _) rfl rfl rfl rfl rfl rfl ⟨rfl, rfl⟩ ?_
  refine z_widen (k := 47) (n := 14378) (by decide) (by decide) ?_
  refine z_iret hC dX7_vain_29 ?_
  exact hE.to (by rfl) rfl rfl rfl

theorem m_vain (hS : ∀ k, S 0 k = msh 0 k) (hO : DOK D) (hM : MMe qe D I X Y) (hb : zBk 1 qe ad S I X Y sz) {x : Int32} : mX mX7_vain 6 [zr 0 0, zi x] (some (zi (vainS D x).1)) (vainS D x).2 ad S I X Y sz qe := by
  unfold vainS
  by_cases h : iw x 0 40
  · rw [if_pos h]
    obtain ⟨x, -, h2, rfl, e1⟩ := iw_e h (by decide) (by decide)
    rw [e1]
    exact w_vain_t hS hO hM hb h2
  · rw [if_neg h]
    exact mX.a (w_vain_f hS hO hM h) (hM.rf (by decide))
theorem w_gripFor_t (hS : ∀ k, S 0 k = msh 0 k) (hO : DOK D) (hM : MMe qe D I X Y) (hb : zBk 1 qe ad S I X Y sz) {x : Nat} (hx : x ≤ 1000000) : zCx mX7_gripFor 6 47 14378 [zr 0 0, zi (nI x)] ad S I X Y sz (fun v1 S1 I1 X1 Y1 sz1 => v1 = some (zi (oI (fsF (fun g => rheld D.1 (D.1.1 3) (D.1.1 4) g) x 11 0))) ∧ ((S1 = S ∧ MMe qe D I1 X1 Y1) ∨ (S1 = zmd 1 S ∧ MMe true D I1 X1 Y1))) := by
  refine zgoX (own := RX7) (k := 2) (by decide +kernel) rfl rfl rfl (fun C hC hnm hE => ?_)
  have hm := hM.1
  have hR := hO.1
  have hmo := hm
  have hn14 := hR.1
  have hn8 := hR.2.1
  have hn6 := hR.2.2.1
  obtain ⟨I2, X2, sz2, hM2, hq2, hc2⟩ := c_fresh hS hM hR hb
  have hS0 : ∀ k, zmd 1 S 0 k = msh 0 k := fun k => (zmd_ne (by decide)).trans (hS k)
  have hS1 : ∀ k, zmd 1 S 1 k = msh 1 k := fun k => zmd_at
  refine z_iload_n hC dX7_gripFor_0 rfl ?_
  refine z_n2m hC dX7_gripFor_1 (by omega) ?_
  refine z_lconst hC dX7_gripFor_2 (v := lN 0) rfl ?_
  refine z_ldc2 hC dX7_gripFor_3 (v := lN 1000000) (zin6 (i := 177) rfl rfl) ?_
  refine wSv hC dX7_gripFor_6 zlX7_97 (c_X7_inN (by omega) (by omega) (by omega)) rfl rfl rfl rfl ⟨rfl, rfl⟩ ?_
  refine w_ifb_ne hC dX7_gripFor_9 (tgt := 19) (by decide) (fun c9 => ?_) (fun c9 => ?_)
  rotate_left
  · exact absurd c9 (by omega)
  refine z_aload_n hC dX7_gripFor_19 rfl ?_
  refine yVv hC dX7_gripFor_20 zlX7_263 hc2 (hS _) rfl rfl rfl rfl rfl rfl ⟨by decide, by decide⟩ ?_
  refine z_astore_n hC dX7_gripFor_23 (lo2 := [_, _, _, _]) (Nat.le_of_ble_eq_true rfl) rfl rfl ?_
  refine z_iconst hC dX7_gripFor_24 (v := nI 0) rfl ?_
  refine z_istore_n hC dX7_gripFor_25 (lo2 := [_, _, _, _]) (Nat.le_of_ble_eq_true rfl) rfl rfl ?_
  have loop26 : ∀ (fuel : Nat) (g r : Nat) (I1 X1 : zI), 11 - g < fuel → g ≤ 11 → zQm 1 (rset D.1 5 r) I1 X1 → MMe true D I1 X1 Y → fsF (fun g => rheld D.1 (D.1.1 3) (D.1.1 4) g) x (11 - g) g = fsF (fun g => rheld D.1 (D.1.1 3) (D.1.1 4) g) x 11 0 → zL C 4 ad (zmd 1 S) 47 14378 sz2 I1 X1 Y 26 [some (zr 0 0), some (zi (nI x)), some (zr 1 0), some (zi (nI g))] [] := by
    intro fuel
    induction fuel with
    | zero => intro g r I1 X1 hfu; exact absurd hfu (Nat.not_lt_zero _)
    | succ fuel ih =>
      intro g r I1 X1 hfu hg hqi hMi hh
      refine z_iload_n hC dX7_gripFor_26 rfl ?_
      refine z_bipush hC dX7_gripFor_27 (v := nI 10) rfl ?_
      refine z_nicmp_gt hC dX7_gripFor_29 (tgt := 57) (by decide) (by omega) (by omega) (fun c29 => ?_) (fun c29 => ?_)
      · skip
        refine z_iconst hC dX7_gripFor_57 (v := -1) rfl ?_
        refine z_widen (k := 47) (n := 14378) (by decide) (by decide) ?_
        refine z_iret hC dX7_gripFor_58 ?_
        exact (hE (some (zi (-1))) (zmd 1 S) _ _ _ sz2 ⟨(by rw [← hh, show 11 - g = 0 by omega]; rfl), Or.inr ⟨rfl, hMi⟩⟩).to rfl rfl rfl rfl
      refine z_aload_n hC dX7_gripFor_32 rfl ?_
      refine z_iload_n hC dX7_gripFor_33 rfl ?_
      refine z_putI hC dX7_gripFor_34 (hS1 _) zfX7_147 rfl rfl rfl rfl ?_
      have hqg : zQm 1 (rset D.1 5 g) (up3 I1 1 0 25 (nI g)) X1 := by have h := hqi.set (j := 5) (v := g) (by decide); rw [rset_2] at h; exact h
      have hz1 : zQm 0 D.1 (up3 I1 1 0 25 (nI g)) X1 := (hMi.off (fun b k j h => up3_ne (by omega)) (fun _ _ _ _ => rfl)).1
      refine z_aload_n hC dX7_gripFor_37 rfl ?_
      refine z_aload_n hC dX7_gripFor_38 rfl ?_
      refine z_getN hC dX7_gripFor_39 (hS0 _) zfX7_70 rfl hz1.1.2.2.2.1 ?_
      refine wVv hC dX7_gripFor_42 zlX7_341 (show zC0 mX7_heldBy 2 [zr 1 0, zi (nI (D.1.1 3))] (some (zi (nI (rheld D.1 (D.1.1 3) (D.1.1 4) g)))) ad (zmd 1 S) _ _ Y sz2 _ _ Y from c_X7_heldBy hS1 hqg (ROK_set hR (w := 2) (by decide) (fun z => by omega) (fun z => by omega) (fun _ => by omega)) hR.2.2.2.1.2) (hS1 _) rfl rfl rfl rfl rfl rfl ⟨rfl, rfl⟩ ?_
      have hrl := rheld_le (R := D.1) (v := D.1.1 3) (w := D.1.1 4) (g := g)
      refine z_iload_n hC dX7_gripFor_45 rfl ?_
      refine z_nicmp_lt hC dX7_gripFor_46 (tgt := 51) (by decide) (by omega) (by omega) (fun c46 => ?_) (fun c46 => ?_)
      · skip
        refine z_ninc hC dX7_gripFor_51 (lo2 := [_, _, _, _]) rfl rfl rfl rfl ?_
        refine z_goto hC dX7_gripFor_54 (tgt := 26) (by decide) ?_
        refine ih (g + 1) g _ _ (by omega) (by omega) (hqg.frame (fun j _ _ => up3_ne (by omega)) (fun k j _ _ => zrow_ne (by omega))) ((hMi.off (fun b k j h => up3_ne (by omega)) (fun _ _ _ _ => rfl)).off (fun b k j h => up3_ne (by omega)) (fun b k j h => zrow_ne (by omega))) ?_
        rw [← hh, show 11 - g = (11 - (g + 1)) + 1 by omega]
        exact (if_neg (by show ¬ (x ≤ rheld D.1 (D.1.1 3) (D.1.1 4) g); omega)).symm
      refine z_iload_n hC dX7_gripFor_49 rfl ?_
      refine z_widen (k := 47) (n := 14378) (by decide) (by decide) ?_
      refine z_iret hC dX7_gripFor_50 ?_
      exact (hE (some (zi (nI g))) (zmd 1 S) _ _ _ sz2 ⟨(by rw [← hh, show 11 - g = (11 - (g + 1)) + 1 by omega]; show _ = some (zi (oI (if x ≤ rheld D.1 (D.1.1 3) (D.1.1 4) g then some g else _))); rw [if_pos (by omega)]; rfl), Or.inr ⟨rfl, ((hMi.off (fun b k j h => up3_ne (by omega)) (fun _ _ _ _ => rfl)).off (fun b k j h => up3_ne (by omega)) (fun b k j h => zrow_ne (by omega)))⟩⟩).to rfl rfl rfl rfl
  exact loop26 _ 0 (D.1.1 5) _ _ (Nat.lt_succ_self _) (Nat.zero_le _) (by rw [rset_0]; exact hq2) hM2 rfl

theorem w_gripFor_f (hS : ∀ k, S 0 k = msh 0 k) (hO : DOK D) (hM : MMe qe D I X Y) {x : Int32} (hx : ¬ iw x 0 1000000) : zCall mX7_gripFor 6 47 14378 [zr 0 0, zi x] (some (zi (-2))) ad (S) I X Y (sz) (S) I (rmX 0 0 X) Y (sz) := by
  refine zgo (own := RX7) (k := 2) (by decide +kernel) rfl rfl rfl (fun C hC hnm hE => ?_)
  have hm := hM.1
  have hR := hO.1
  have hmo := hm
  have hn14 := hR.1
  have hn8 := hR.2.1
  have hn6 := hR.2.2.1
  refine z_iload_n hC dX7_gripFor_0 rfl ?_
  refine z_i2l hC dX7_gripFor_1  ?_
  refine z_lconst hC dX7_gripFor_2 (v := lN 0) rfl ?_
  refine z_ldc2 hC dX7_gripFor_3 (v := lN 1000000) (zin6 (i := 177) rfl rfl) ?_
  refine wSv hC dX7_gripFor_6 zlX7_97 (c_X7_inI (by omega) (by omega)) rfl rfl rfl rfl ⟨rfl, rfl⟩ ?_
  refine w_ifb_ne hC dX7_gripFor_9 (tgt := 19) (by decide) (fun c9 => ?_) (fun c9 => ?_)
  · exact absurd c9 hx
  refine z_aload_n hC dX7_gripFor_12 rfl ?_
  refine z_bipush hC dX7_gripFor_13 (v := -2) rfl ?_
  refine wVv hC dX7_gripFor_15 zlX7_107 (c_X7_refuse hS (j := 0) (by decide) (by decide)) (hS _) rfl rfl rfl rfl rfl rfl ⟨rfl, rfl⟩ ?_
  refine z_widen (k := 47) (n := 14378) (by decide) (by decide) ?_
  refine z_iret hC dX7_gripFor_18 ?_
  exact hE.to (by rfl) rfl rfl rfl

theorem m_gripFor (hS : ∀ k, S 0 k = msh 0 k) (hO : DOK D) (hM : MMe qe D I X Y) (hb : zBk 1 qe ad S I X Y sz) {x : Int32} : mX mX7_gripFor 6 [zr 0 0, zi x] (some (zi (gripForS D x).1)) (gripForS D x).2 ad S I X Y sz qe := by
  unfold gripForS
  by_cases h : iw x 0 1000000
  · rw [if_pos h]
    obtain ⟨x, -, h2, rfl, e1⟩ := iw_e h (by decide) (by decide)
    rw [e1]
    exact w_gripFor_t hS hO hM hb h2
  · rw [if_neg h]
    exact mX.a (w_gripFor_f hS hO hM h) (hM.rf (by decide))
theorem m_otherwise (hS : ∀ k, S 0 k = msh 0 k) (hO : DOK D) (hM : MMe qe D I X Y) (hb : zBk 1 qe ad S I X Y sz)  : zCx mX7_otherwise 6 47 14378 [zr 0 0] ad S I X Y sz (fun v1 S1 I1 X1 Y1 sz1 => v1 = some (zi (otherwiseS D).1) ∧ ((S1 = S ∧ MMe qe (otherwiseS D).2 I1 X1 Y1) ∨ (S1 = zmd 1 S ∧ MMe true (otherwiseS D).2 I1 X1 Y1))) := by
  refine zgoX (own := RX7) (k := 1) (by decide +kernel) rfl rfl rfl (fun C hC hnm hE => ?_)
  have hm := hM.1
  have hR := hO.1
  have hmo := hm
  have hn14 := hR.1
  have hn8 := hR.2.1
  have hn6 := hR.2.2.1
  obtain ⟨I2, X2, sz2, hM2, hq2, hc2⟩ := c_fresh hS hM hR hb
  have hS0 : ∀ k, zmd 1 S 0 k = msh 0 k := fun k => (zmd_ne (by decide)).trans (hS k)
  have hS1 : ∀ k, zmd 1 S 1 k = msh 1 k := fun k => zmd_at
  have hz0 : zQm 0 D.1 I2 X2 := hM2.1
  have hw1 := hR.2.2.2.2.1
  refine z_aload_n hC dX7_otherwise_0 rfl ?_
  refine yVv hC dX7_otherwise_1 zlX7_263 hc2 (hS _) rfl rfl rfl rfl rfl rfl ⟨by decide, by decide⟩ ?_
  refine z_astore_n hC dX7_otherwise_4 (lo2 := [_, _]) (Nat.le_of_ble_eq_true rfl) rfl rfl ?_
  refine z_aload_n hC dX7_otherwise_5 rfl ?_
  refine z_iconst hC dX7_otherwise_6 (v := nI 1) rfl ?_
  refine z_aload_n hC dX7_otherwise_7 rfl ?_
  refine z_getN hC dX7_otherwise_8 (hS0 _) zfX7_144 rfl hz0.1.2.2.2.2.1 ?_
  refine z_nsub hC dX7_otherwise_11 (by omega) ?_
  refine z_putI hC dX7_otherwise_12 (hS1 _) zfX7_144 rfl rfl rfl rfl ?_
  have hqg : zQm 1 (rset D.1 4 (1 - D.1.1 4)) (up3 I2 1 0 24 (nI (1 - D.1.1 4))) X2 := hq2.set (j := 4) (by decide)
  have hMi := hM2.off (I' := up3 I2 1 0 24 (nI (1 - D.1.1 4))) (X' := X2) (fun b k j h => up3_ne (by omega)) (fun _ _ _ _ => rfl)
  have hz1 := hMi.1
  refine z_aload_n hC dX7_otherwise_15 rfl ?_
  refine z_aload_n hC dX7_otherwise_16 rfl ?_
  refine z_getN hC dX7_otherwise_17 (hS0 _) zfX7_70 rfl hz1.1.2.2.2.1 ?_
  refine wVv hC dX7_otherwise_20 zlX7_341 (show zC0 mX7_heldBy 2 [zr 1 0, zi (nI (D.1.1 3))] (some (zi (nI (rheld D.1 (D.1.1 3) (1 - D.1.1 4) (D.1.1 5))))) ad (zmd 1 S) _ _ Y sz2 _ _ Y from c_X7_heldBy hS1 hqg (ROK_set hR (w := 1) (by decide) (fun z => by omega) (fun z => by omega) (fun z => by omega)) hR.2.2.2.1.2) (hS1 _) rfl rfl rfl rfl rfl rfl ⟨rfl, rfl⟩ ?_
  refine z_widen (k := 47) (n := 14378) (by decide) (by decide) ?_
  refine z_iret hC dX7_otherwise_23 ?_
  exact (hE (some (zi (nI (rheld D.1 (D.1.1 3) (1 - D.1.1 4) (D.1.1 5))))) (zmd 1 S) _ _ _ sz2 ⟨rfl, Or.inr ⟨rfl, (hMi.off (fun b k j h => up3_ne (by omega)) (fun b k j h => zrow_ne (by omega)))⟩⟩).to rfl rfl rfl rfl

end
