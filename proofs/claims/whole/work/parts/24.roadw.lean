/-! Road: the methods that change it -/
/-- a drive from bend i on, k bends left: the seed, where it lies, 1 if it fell -/
def drvN (fl : Nat → Nat) : Nat → Nat → Int32 → Int32 × Int32 × Nat
  | 0, _, s => (s, -1, 0)
  | k + 1, i, s => if rngN (nextS s) % 1000 < fl i then (nextS s, nI i, 1) else drvN fl k (i + 1) (nextS s)
theorem narb {q : Nat} (h : q ≤ 1) : narrow .boolean (.int (nI q)) = .int (nI q) := by
  match q, h with
  | 0, _ => rfl
  | 1, _ => rfl
section
variable {ad : zA} {S : zSh} {I X : zI} {Y : zY} {sz : Nat} {r : Nat} {R : RS}
theorem c_bput (hr : zRd S r) (hR : ROK R) {n : Nat} {v : Int32} (hw : I 3 (r + 1) 1 = nI 5) (hn : I 3 (r + 1) 2 = nI n) (h14 : n ≤ 14) {i j : Nat} (hi : i < n) (hj : j < 5) : zC0 mX3_put 2 [zr 3 (r + 1), zi (nI i), zi (nI j), zi v] none ad S I X Y sz I (up3 X 3 (r + 2) (i * 5 + j) v) Y :=
  c_X3_put hr.2.1 hr.2.2.1 hw hn (by omega) (by decide) h14 (by decide) hi hj
theorem c_sput (hr : zRd S r) (hR : ROK R) {n : Nat} {v : Int32} (hw : I 3 (r + 3) 1 = nI 3) (hn : I 3 (r + 3) 2 = nI n) (h14 : n ≤ 8) {i j : Nat} (hi : i < n) (hj : j < 3) : zC0 mX3_put 2 [zr 3 (r + 3), zi (nI i), zi (nI j), zi v] none ad S I X Y sz I (up3 X 3 (r + 4) (i * 3 + j) v) Y :=
  c_X3_put hr.2.2.2.1 hr.2.2.2.2.1 hw hn (by omega) (by decide) (by omega) (by decide) hi hj
theorem c_cput (hr : zRd S r) (hR : ROK R) {n : Nat} {v : Int32} (hw : I 3 (r + 5) 1 = nI 3) (hn : I 3 (r + 5) 2 = nI n) (h14 : n ≤ 6) {i j : Nat} (hi : i < n) (hj : j < 3) : zC0 mX3_put 2 [zr 3 (r + 5), zi (nI i), zi (nI j), zi v] none ad S I X Y sz I (up3 X 3 (r + 6) (i * 3 + j) v) Y :=
  c_X3_put hr.2.2.2.2.2.1 hr.2.2.2.2.2.2 hw hn (by omega) (by decide) (by omega) (by decide) hi hj
theorem c_bfull (hr : zRd S r) (hm : zRm r R I X) (hR : ROK R) : zC0 mX3_isFull 0 [zr 3 (r + 1)] (some (zi (zb (R.1 0 = 14) inferInstance))) ad S I X Y sz I X Y := by
  have h := c_X3_isFull (ad := ad) (I := I) (X := X) (Y := Y) (sz := sz) hr.2.1 hr.2.2.1 hm.1.1 hm.1.2.1 (by have := hR.1; omega) (by decide) hR.1 (by decide)
  rwa [show zb (70 < (R.1 0 + 1) * 5) inferInstance = zb (R.1 0 = 14) inferInstance by unfold zb; have := hR.1; split <;> split <;> first | rfl | omega] at h
theorem c_sfull (hr : zRd S r) (hm : zRm r R I X) (hR : ROK R) : zC0 mX3_isFull 0 [zr 3 (r + 3)] (some (zi (zb (R.1 1 = 8) inferInstance))) ad S I X Y sz I X Y := by
  have h := c_X3_isFull (ad := ad) (I := I) (X := X) (Y := Y) (sz := sz) hr.2.2.2.1 hr.2.2.2.2.1 hm.2.1.1 hm.2.1.2.1 (by have := hR.2.1; omega) (by decide) (by have := hR.2.1; omega) (by decide)
  rwa [show zb (24 < (R.1 1 + 1) * 3) inferInstance = zb (R.1 1 = 8) inferInstance by unfold zb; have := hR.2.1; split <;> split <;> first | rfl | omega] at h
theorem c_cfull (hr : zRd S r) (hm : zRm r R I X) (hR : ROK R) : zC0 mX3_isFull 0 [zr 3 (r + 5)] (some (zi (zb (R.1 2 = 6) inferInstance))) ad S I X Y sz I X Y := by
  have h := c_X3_isFull (ad := ad) (I := I) (X := X) (Y := Y) (sz := sz) hr.2.2.2.2.2.1 hr.2.2.2.2.2.2 hm.2.2.1.1 hm.2.2.1.2.1 (by have := hR.2.2.1; omega) (by decide) (by have := hR.2.2.1; omega) (by decide)
  rwa [show zb (18 < (R.1 2 + 1) * 3) inferInstance = zb (R.1 2 = 6) inferInstance by unfold zb; have := hR.2.2.1; split <;> split <;> first | rfl | omega] at h

theorem nI_0c : (nI 0).toNatClampNeg = 0 := nI_clamp (by decide)
theorem c_X3_takeFrom {k c k2 c2 n : Nat} (hT : S 3 k = some (tsh c)) (hc : S 3 c = some (.inl (0, n))) (hT2 : S 3 k2 = some (tsh c2)) (hc2 : S 3 c2 = some (.inl (0, n))) (h70 : n ≤ 70) : zC0 mX3_takeFrom 1 [zr 3 k, zr 3 k2] (none) ad S I X Y sz (up3 I 3 k 2 (I 3 k2 2)) (up2 X 3 c (va_cpy (X 3 c2) (X 3 c) (nI 0).toNatClampNeg (nI 0).toNatClampNeg (nI n).toNatClampNeg)) Y := by
  refine zgo (own := RX3) (k := 0) (by decide +kernel) rfl rfl rfl (fun C hC hnm hE => ?_)
  refine z_aload_n hC dX3_takeFrom_0 rfl ?_
  refine z_getR hC dX3_takeFrom_1 hT2 zfX3_15 rfl ?_
  refine z_iconst hC dX3_takeFrom_4 (v := nI 0) rfl ?_
  refine z_aload_n hC dX3_takeFrom_5 rfl ?_
  refine z_getR hC dX3_takeFrom_6 hT zfX3_15 rfl ?_
  refine z_iconst hC dX3_takeFrom_9 (v := nI 0) rfl ?_
  refine z_aload_n hC dX3_takeFrom_10 rfl ?_
  refine z_getR hC dX3_takeFrom_11 hT2 zfX3_15 rfl ?_
  refine z_alen hC dX3_takeFrom_14 hc2 (v := nI _) rfl ?_
  refine z_aload_n hC dX3_takeFrom_15 rfl ?_
  refine z_getR hC dX3_takeFrom_16 hT zfX3_15 rfl ?_
  refine z_alen hC dX3_takeFrom_19 hc (v := nI _) rfl ?_
  refine z_min hC dX3_takeFrom_20 (zin2 (i := 175) rfl rfl) zmW_min (Nat.le_of_ble_eq_true rfl) (Nat.le_of_ble_eq_true rfl) (Nat.le_refl _) (Nat.le_refl _) ?_
  rw [zmin1 (Nat.le_refl _) (by omega)]
  refine z_copyi hC dX3_takeFrom_23 ⟨(zin2 (i := 176) rfl rfl), (zin2 (i := 25) rfl rfl), (zin2 (i := 24) rfl rfl), (zin1 (i := 10) rfl rfl)⟩ hc2 hc (nI_pos (by decide)) (nI_pos (by decide)) (nI_pos (by omega)) (by rw [nI_0c, nI_clamp (by omega)]; omega) (by rw [nI_0c, nI_clamp (by omega)]; omega) (Nat.le_refl _) rfl ?_
  refine z_aload_n hC dX3_takeFrom_26 rfl ?_
  refine z_aload_n hC dX3_takeFrom_27 rfl ?_
  refine z_getI hC dX3_takeFrom_28 hT2 zfX3_25 rfl ?_
  refine z_putI hC dX3_takeFrom_31 hT zfX3_25 rfl rfl rfl rfl ?_
  refine z_vret hC dX3_takeFrom_34 ?_
  exact hE.to (by rfl) rfl rfl rfl

theorem c_X1_forget (hr : zRd S r) (hm : zRm r R I X) (hR : ROK R)  : zC0 mX1_forget 3 [zr 3 r] (none) ad S I X Y sz (up3 I 3 (r + 3) 2 (nI 0)) (zforg r (R.1 0) X) Y := by
  refine zgo (own := RX1) (k := 1) (by decide +kernel) rfl rfl rfl (fun C hC hnm hE => ?_)
  have hn := hR.1
  have hw1 : up3 I 3 (r + 3) 2 (nI 0) 3 (r + 1) 1 = nI 5 := by rw [up3_ne (by omega)]; exact hm.1.1
  have hn1 : up3 I 3 (r + 3) 2 (nI 0) 3 (r + 1) 2 = nI (R.1 0) := by rw [up3_ne (by omega)]; exact hm.1.2.1
  refine z_aload_n hC dX1_forget_0 rfl ?_
  refine z_getR hC dX1_forget_1 hr.1 zfX1_20 rfl ?_
  refine z_iconst hC dX1_forget_4 (v := nI 0) rfl ?_
  refine z_putI hC dX1_forget_5 hr.2.2.2.1 zfX1_56 rfl rfl rfl rfl ?_
  refine z_iconst hC dX1_forget_8 (v := nI 0) rfl ?_
  refine z_istore_n hC dX1_forget_9 (lo2 := [_, _]) (Nat.le_of_ble_eq_true rfl) rfl rfl ?_
  have loop10 : ∀ (fuel : Nat) (i : Nat), R.1 0 - i < fuel → i ≤ R.1 0 → zL C 2 ad S 0 0 sz (up3 I 3 (r + 3) 2 (nI 0)) (zforg r i X) Y 10 [some (zr 3 r), some (zi (nI i))] [] := by
    intro fuel
    induction fuel with
    | zero => intro i hfu; exact absurd hfu (Nat.not_lt_zero _)
    | succ fuel ih =>
      intro i hfu hib
      refine z_iload_n hC dX1_forget_10 rfl ?_
      refine z_aload_n hC dX1_forget_11 rfl ?_
      refine z_getR hC dX1_forget_12 hr.1 zfX1_14 rfl ?_
      refine z_getN hC dX1_forget_15 hr.2.1 zfX1_56 rfl hn1 ?_
      refine z_nicmp_ge hC dX1_forget_18 (tgt := 38) (by decide) (by omega) (by omega) (fun c18 => ?_) (fun c18 => ?_)
      · skip
        refine z_vret hC dX1_forget_38 ?_
        exact hE.to (by rfl) rfl (by rw [show R.1 0 = i by omega]) rfl
      have hi : i < R.1 0 := by omega
      refine z_aload_n hC dX1_forget_21 rfl ?_
      refine z_getR hC dX1_forget_22 hr.1 zfX1_14 rfl ?_
      refine z_iload_n hC dX1_forget_25 rfl ?_
      refine z_iconst hC dX1_forget_26 (v := nI 4) rfl ?_
      refine z_bipush hC dX1_forget_27 (v := nI 100) rfl ?_
      refine zV0 hC dX1_forget_29 zlX1_67 (c_bput hr hR hw1 hn1 hR.1 hi (by decide)) hr.2.1 rfl rfl rfl rfl rfl rfl ?_
      refine z_ninc hC dX1_forget_32 (lo2 := [_, _]) rfl rfl rfl rfl ?_
      refine z_goto hC dX1_forget_35 (tgt := 10) (by decide) ?_
      rw [zforg_s]
      exact ih (i + 1) (by omega) (by omega)
  have h0 := loop10 _ 0 (Nat.lt_succ_self _) (Nat.zero_le _)
  rw [zforg_0] at h0
  exact h0

theorem c_X1_lookInVain (hr : zRd S r) (hm : zRm r R I X) (hR : ROK R) {b l : Nat} (hb : b < R.1 0) (hl : l ≤ 3) : zC0 mX1_lookInVain 3 [zr 3 r, zi (nI b), zi (nI l)] (none) ad S I X Y sz I (up3 X 3 (r + 2) (b * 5 + 4) (nI (missN (R.2.1 4 b) l))) Y := by
  refine zgo (own := RX1) (k := 0) (by decide +kernel) rfl rfl rfl (fun C hC hnm hE => ?_)
  refine z_aload_n hC dX1_lookInVain_0 rfl ?_
  refine z_getR hC dX1_lookInVain_1 hr.1 zfX1_14 rfl ?_
  refine z_iload_n hC dX1_lookInVain_4 rfl ?_
  refine z_iconst hC dX1_lookInVain_5 (v := nI 4) rfl ?_
  refine z_aload_n hC dX1_lookInVain_6 rfl ?_
  refine z_getR hC dX1_lookInVain_7 hr.1 zfX1_14 rfl ?_
  refine z_iload_n hC dX1_lookInVain_10 rfl ?_
  refine z_iconst hC dX1_lookInVain_11 (v := nI 4) rfl ?_
  refine zVv hC dX1_lookInVain_12 zlX1_71 (c_bat hr hm hR hb (by decide)) hr.2.1 rfl rfl rfl rfl rfl rfl ?_
  refine z_iload_n hC dX1_lookInVain_15 rfl ?_
  refine zNv hC dX1_lookInVain_16 zlX1_75 (c_X6_missBehind (hR.2.2.2.2.2.2.1 b hb).2.2.2.2.2 hl) rfl rfl rfl rfl ?_
  refine zV0 hC dX1_lookInVain_19 zlX1_67 (c_bput hr hR hm.1.1 hm.1.2.1 hR.1 hb (by decide)) hr.2.1 rfl rfl rfl rfl rfl rfl ?_
  refine z_vret hC dX1_lookInVain_22 ?_
  exact hE.to (by rfl) rfl rfl rfl

theorem c_X1_settle (hr : zRd S r) (hm : zRm r R I X) (hR : ROK R) {w v : Nat} (hw : w < 3) : zC0 mX1_settle 0 [zr 3 r, zi (nI w), zi (nI v)] (some (zi (nI (R.1 (3 + w))))) ad S I X Y sz (up3 I 3 r (3 + w) (nI v)) X Y := by
  refine zgo (own := RX1) (k := 1) (by decide +kernel) rfl rfl rfl (fun C hC hnm hE => ?_)
  refine z_iload_n hC dX1_settle_0 rfl ?_
  by_cases s1_0 : w = 0
  · refine z_lkK hC dX1_settle_1 (v := nI 0) (by rw [s1_0]) rfl (off := 27) rfl (tgt := 28) (by decide) ?_
    refine z_aload_n hC dX1_settle_28 rfl ?_
    refine z_getN hC dX1_settle_29 hr.1 zfX1_26 rfl hm.2.2.2.1 ?_
    refine z_istore_n hC dX1_settle_32 (lo2 := [_, _, _, _]) (Nat.le_of_ble_eq_true rfl) rfl rfl ?_
    refine z_aload_n hC dX1_settle_33 rfl ?_
    refine z_iload_n hC dX1_settle_34 rfl ?_
    refine z_putI hC dX1_settle_35 hr.1 zfX1_26 rfl rfl rfl rfl ?_
    refine z_iload_n hC dX1_settle_38 rfl ?_
    refine z_iret hC dX1_settle_39 ?_
    exact hE.to (by rw [s1_0]) (by rw [s1_0]) rfl rfl
  by_cases s1_1 : w = 1
  · refine z_lkK hC dX1_settle_1 (v := nI 1) (by rw [s1_1]) rfl (off := 39) rfl (tgt := 40) (by decide) ?_
    refine z_aload_n hC dX1_settle_40 rfl ?_
    refine z_getN hC dX1_settle_41 hr.1 zfX1_40 rfl hm.2.2.2.2.1 ?_
    refine z_istore_n hC dX1_settle_44 (lo2 := [_, _, _, _]) (Nat.le_of_ble_eq_true rfl) rfl rfl ?_
    refine z_aload_n hC dX1_settle_45 rfl ?_
    refine z_iload_n hC dX1_settle_46 rfl ?_
    refine z_putI hC dX1_settle_47 hr.1 zfX1_40 rfl rfl rfl rfl ?_
    refine z_iload_n hC dX1_settle_50 rfl ?_
    refine z_iret hC dX1_settle_51 ?_
    exact hE.to (by rw [s1_1]) (by rw [s1_1]) rfl rfl
  refine z_lookup hC dX1_settle_1 rfl (off := 51) (zlk_out (by rw [nI_toInt (by omega)]; intro q hq; simp at hq; rcases hq with rfl | rfl <;> simp <;> omega)) (tgt := 52) (by decide) ?_
  refine z_aload_n hC dX1_settle_52 rfl ?_
  refine z_getN hC dX1_settle_53 hr.1 zfX1_43 rfl hm.2.2.2.2.2.1 ?_
  refine z_istore_n hC dX1_settle_56 (lo2 := [_, _, _, _]) (Nat.le_of_ble_eq_true rfl) rfl rfl ?_
  refine z_aload_n hC dX1_settle_57 rfl ?_
  refine z_iload_n hC dX1_settle_58 rfl ?_
  refine z_putI hC dX1_settle_59 hr.1 zfX1_43 rfl rfl rfl rfl ?_
  refine z_iload_n hC dX1_settle_62 rfl ?_
  refine z_iret hC dX1_settle_63 ?_
  exact hE.to (by rw [show w = 2 by omega]) (by rw [show w = 2 by omega]) rfl rfl

theorem c_X1_draw (hr : zRd S r) {n : Nat} (hn : 0 < n) (hn2 : n ≤ 1000) : zC0 mX1_draw 0 [zr 3 r, zi (nI n)] (some (zi (nI (rngN (nextS (I 3 r 7)) % n)))) ad S I X Y sz (up3 I 3 r 7 (nextS (I 3 r 7))) X Y := by
  refine zgo (own := RX1) (k := 0) (by decide +kernel) rfl rfl rfl (fun C hC hnm hE => ?_)
  refine z_aload_n hC dX1_draw_0 rfl ?_
  refine z_aload_n hC dX1_draw_1 rfl ?_
  refine z_getI hC dX1_draw_2 hr.1 zfX1_33 rfl ?_
  refine z_ldc hC dX1_draw_5 (v := nI 1103515245) (zin4 (i := 163) rfl rfl) ?_
  refine z_imul hC dX1_draw_7  ?_
  refine z_sipush hC dX1_draw_8 (v := nI 12345) rfl ?_
  refine z_iadd hC dX1_draw_11  ?_
  refine z_putI hC dX1_draw_12 hr.1 zfX1_33 rfl rfl rfl rfl ?_
  rw [show I 3 r 7 * nI 1103515245 + nI 12345 = nextS (I 3 r 7) from rfl]
  refine z_iload_n hC dX1_draw_15 rfl ?_
  refine z_nif_le hC dX1_draw_16 (tgt := 31) (by decide) (by omega) (fun c16 => ?_) (fun c16 => ?_)
  · exfalso; omega
  refine z_aload_n hC dX1_draw_19 rfl ?_
  refine z_getI hC dX1_draw_20 hr.1 zfX1_33 rfl ?_
  rw [up3_eq]
  refine z_bipush hC dX1_draw_23 (v := nI 16) rfl ?_
  refine z_iushr hC dX1_draw_25  ?_
  rw [zushr16]
  have hq := rngN_lt (nextS (I 3 r 7))
  refine z_iload_n hC dX1_draw_26 rfl ?_
  refine z_nrem hC dX1_draw_27 (by omega) (by omega) (by omega) ?_
  refine z_goto hC dX1_draw_28 (tgt := 32) (by decide) ?_
  refine z_iret hC dX1_draw_32 ?_
  exact hE.to (by rfl) rfl rfl rfl

theorem ROK_forget (h : ROK R) : ROK (rforget R) := by
  obtain ⟨h1, h2, h3, h4, h5, h6, h7, h8, h9⟩ := h
  refine ⟨h1, Nat.zero_le _, h3, h4, h5, h6, fun i hi => ?_, fun i hi => absurd hi (Nat.not_lt_zero i), fun i hi => ?_⟩
  · obtain ⟨g1, g2, g3, g4, g5, g6⟩ := h7 i hi
    exact ⟨g1, g2, g3, g4, g5, Nat.le_refl 100⟩
  · exact h9 i hi
theorem up3_up3 {α : Type} {f : Nat → Nat → Nat → α} {b k j : Nat} {v w : α} : up3 (up3 f b k j v) b k j w = up3 f b k j w := by
  funext b' k' j'
  unfold up3
  split <;> rfl
theorem up3_swap {A : zI} {x y z : Int32} : up3 (up3 A 3 r 6 x) 3 r 7 y = up3 (up3 (up3 A 3 r 6 z) 3 r 7 y) 3 r 6 x := by
  funext b' k' j'
  unfold up3
  by_cases h6 : b' = 3 ∧ k' = r ∧ j' = 6
  · rw [if_neg (by omega), if_pos h6, if_pos h6]
  · rw [if_neg h6, if_neg h6, if_neg h6]
theorem c_X1_driveInTruth (hr : zRd S r) (hm : zRm r R I X) (hR : ROK R)  : zC0 mX1_driveInTruth 5 [zr 3 r] (some (zi (nI (drvN (rfall R (R.1 3)) (R.1 0) 0 (I 3 r 7)).2.2))) ad S I X Y sz (up3 (up3 (up3 I 3 (r + 3) 2 (nI 0)) 3 r 6 (drvN (rfall R (R.1 3)) (R.1 0) 0 (I 3 r 7)).2.1) 3 r 7 (drvN (rfall R (R.1 3)) (R.1 0) 0 (I 3 r 7)).1) (zforg r (R.1 0) X) Y := by
  refine zgo (own := RX1) (k := 1) (by decide +kernel) rfl rfl rfl (fun C hC hnm hE => ?_)
  have hn := hR.1
  have hmF := zRm_forget hm
  have hRF := ROK_forget hR
  refine z_aload_n hC dX1_driveInTruth_0 rfl ?_
  refine zV0 hC dX1_driveInTruth_1 zlX1_103 (c_X1_forget hr hm hR) hr.1 rfl rfl rfl rfl rfl rfl ?_
  refine z_aload_n hC dX1_driveInTruth_4 rfl ?_
  refine z_iconst hC dX1_driveInTruth_5 (v := -1) rfl ?_
  refine z_putI hC dX1_driveInTruth_6 hr.1 zfX1_30 rfl rfl rfl rfl ?_
  refine z_iconst hC dX1_driveInTruth_9 (v := nI 0) rfl ?_
  refine z_istore_n hC dX1_driveInTruth_10 (lo2 := [_, _]) (Nat.le_of_ble_eq_true rfl) rfl rfl ?_
  have loop11 : ∀ (fuel : Nat) (i : Nat) (s : Int32), R.1 0 - i < fuel → i ≤ R.1 0 → drvN (rfall R (R.1 3)) (R.1 0 - i) i s = drvN (rfall R (R.1 3)) (R.1 0) 0 (I 3 r 7) → zL C 2 ad S 0 0 sz (up3 (up3 (up3 I 3 (r + 3) 2 (nI 0)) 3 r 6 (-1)) 3 r 7 s) (zforg r (R.1 0) X) Y 11 [some (zr 3 r), some (zi (nI i))] [] := by
    intro fuel
    induction fuel with
    | zero => intro i s hfu; exact absurd hfu (Nat.not_lt_zero _)
    | succ fuel ih =>
      intro i s hfu hib hds
      have hmi := zRm_seed (x := s) (zRm_lies (x := -1) hmF)
      refine z_iload_n hC dX1_driveInTruth_11 rfl ?_
      refine z_aload_n hC dX1_driveInTruth_12 rfl ?_
      refine z_getR hC dX1_driveInTruth_13 hr.1 zfX1_14 rfl ?_
      refine z_getN hC dX1_driveInTruth_16 hr.2.1 zfX1_56 rfl (show _ = nI (R.1 0) from hmi.1.2.1) ?_
      refine z_nicmp_ge hC dX1_driveInTruth_19 (tgt := 54) (by decide) (by omega) (by omega) (fun c19 => ?_) (fun c19 => ?_)
      · skip
        refine z_iconst hC dX1_driveInTruth_54 (v := nI 0) rfl ?_
        refine z_iret hC dX1_driveInTruth_55 ?_
        exact hE.to (by rw [← hds, show R.1 0 - i = 0 by omega]; rfl) (by rw [← hds, show R.1 0 - i = 0 by omega]; rfl) rfl rfl
      have hi : i < R.1 0 := by omega
      have hq := rngN_lt (nextS s)
      have hdl : drvN (rfall R (R.1 3)) (R.1 0 - i) i s = if rngN (nextS s) % 1000 < rfall R (R.1 3) i then (nextS s, nI i, 1) else drvN (rfall R (R.1 3)) (R.1 0 - (i + 1)) (i + 1) (nextS s) := by
        rw [show R.1 0 - i = (R.1 0 - (i + 1)) + 1 by omega]; rfl
      refine z_aload_n hC dX1_driveInTruth_22 rfl ?_
      refine z_sipush hC dX1_driveInTruth_23 (v := nI 1000) rfl ?_
      refine zVv hC dX1_driveInTruth_26 zlX1_106 (c_X1_draw hr (by decide) (by decide)) hr.1 rfl rfl rfl rfl rfl rfl ?_
      rw [up3_eq, up3_up3]
      have hms := zRm_seed (x := nextS s) (zRm_lies (x := -1) hmF)
      refine z_aload_n hC dX1_driveInTruth_29 rfl ?_
      refine z_iload_n hC dX1_driveInTruth_30 rfl ?_
      refine z_aload_n hC dX1_driveInTruth_31 rfl ?_
      refine z_getN hC dX1_driveInTruth_32 hr.1 zfX1_26 rfl (show _ = nI (R.1 3) from hms.2.2.2.1) ?_
      refine zVv hC dX1_driveInTruth_35 zlX1_95 (show zC0 mX1_fallAt 4 [zr 3 r, zi (nI i), zi (nI (R.1 3))] (some (zi (nI (rfall R (R.1 3) i)))) ad S _ _ Y sz _ _ Y from c_X1_fallAt (R := rseed (rlies (rforget R) (-1)) (nextS s)) hr hms hRF hi hR.2.2.2.1.2) hr.1 rfl rfl rfl rfl rfl rfl ?_
      refine z_nicmp_ge hC dX1_driveInTruth_38 (tgt := 48) (by decide) (by omega) (by have := rfall_le (v := R.1 3) hR hi hR.2.2.2.1.2; omega) (fun c38 => ?_) (fun c38 => ?_)
      · skip
        refine z_ninc hC dX1_driveInTruth_48 (lo2 := [_, _]) rfl rfl rfl rfl ?_
        refine z_goto hC dX1_driveInTruth_51 (tgt := 11) (by decide) ?_
        refine ih (i + 1) (nextS s) (by omega) (by omega) ?_
        rw [← hds, show R.1 0 - i = (R.1 0 - (i + 1)) + 1 by omega]
        exact (if_neg (by omega)).symm
      refine z_aload_n hC dX1_driveInTruth_41 rfl ?_
      refine z_iload_n hC dX1_driveInTruth_42 rfl ?_
      refine z_putI hC dX1_driveInTruth_43 hr.1 zfX1_30 rfl rfl rfl rfl ?_
      refine z_iconst hC dX1_driveInTruth_46 (v := nI 1) rfl ?_
      refine z_iret hC dX1_driveInTruth_47 ?_
      exact hE.to (by rw [← hds, hdl, if_pos c38]) (by rw [← hds, hdl, if_pos c38]; exact up3_swap) rfl rfl
  have h0 := loop11 _ 0 (I 3 r 7) (Nat.lt_succ_self _) (Nat.zero_le _) rfl
  have e : up3 (up3 (up3 I 3 (r + 3) 2 (nI 0)) 3 r 6 (-1)) 3 r 7 (I 3 r 7) = (up3 (up3 I 3 (r + 3) 2 (nI 0)) 3 r 6 (-1)) := by
    have h7 : (up3 (up3 I 3 (r + 3) 2 (nI 0)) 3 r 6 (-1)) 3 r 7 = I 3 r 7 := by rw [up3_ne (by omega), up3_ne (by omega)]
    rw [← h7]; exact up3_self _ _ _ _
  rw [e] at h0
  exact h0

end
