/-! Weights: weigh -/
theorem up3_same {f : zI} {b k j : Nat} {v w : Int32} : up3 (up3 f b k j v) b k j w = up3 f b k j w := by
  funext b1 c1 j1
  unfold up3
  split
  · rfl
  · rfl
theorem zmin2 {q n : Nat} (h : q ≤ n) (hn : n < 2 ^ 31) : (if nI n < nI q then nI n else nI q) = nI q := by
  rw [if_neg (fun z => absurd ((nI_ltI hn (by omega)).mp z) (by omega))]
def wgI (R : RS) (s : Nat) (I : zI) : zI := up3 (up3 I 3 22 2 (nI (R.1 0))) 3 22 3 (nI (signH R s))
def wgX (R : RS) (s : Nat) (X : zI) : zI := zrow 3 24 (R.2.1 4) (R.1 0) (zrow 3 23 (signW R s) (R.1 0) X)
theorem wg_W {R : RS} (hR : ROK R) {s : Nat} {I X : zI} : zWm (R.1 0) (signW R s) (R.2.1 4) (signH R s) (wgI R s I) (wgX R s X) := by
  refine ⟨?_, ?_, fun i hi => ?_, fun i hi => zrow_get hi, hR.1, signH_le s, fun i hi => ⟨signW_le hR hi s, (hR.2.2.2.2.2.2.1 i hi).2.2.2.2.2⟩⟩
  · unfold wgI; simp [up3]
  · unfold wgI; simp [up3]
  · unfold wgX
    rw [zrow_ne (by omega), zrow_get hi]
theorem wg_I {R : RS} {s : Nat} {I : zI} {b k j : Nat} (h : ¬ (b = 3 ∧ k = 22 ∧ (j = 2 ∨ j = 3))) : wgI R s I b k j = I b k j := by
  unfold wgI up3
  rw [if_neg (by omega), if_neg (by omega)]
theorem wg_X {R : RS} {s : Nat} {X : zI} {b k j : Nat} (h : ¬ (b = 3 ∧ (k = 23 ∨ k = 24) ∧ j < R.1 0)) : wgX R s X b k j = X b k j := by
  unfold wgX
  rw [zrow_ne (by omega), zrow_ne (by omega)]
theorem wg_R {R R' : RS} {s r : Nat} {I X : zI} (hr : r + 7 ≤ 22) (h : zRm r R' I X) : zRm r R' (wgI R s I) (wgX R s X) :=
  h.frame (fun k j _ _ => wg_I (by omega)) (fun k j _ _ => wg_X (by omega))
theorem wgI_s {R : RS} {s : Nat} {I : zI} : up3 (wgI R s I) 3 22 3 (nI (heedH (signH R s) (R.2.1 6 s) (100 - R.2.1 7 s))) = wgI R (s + 1) I := by
  unfold wgI; rw [up3_same]; rfl
theorem wgX_s {R : RS} {s : Nat} {X : zI} : zrow 3 23 (heedW (signW R s) (R.2.1 5 s) (R.2.1 6 s) (100 - R.2.1 7 s)) (R.1 0) (wgX R s X) = wgX R (s + 1) X := by
  unfold wgX; rw [zrow_swap (by omega), zrow_zrow]; rfl
section
variable {ad : zA} {S : zSh} {I X : zI} {Y : zY} {sz : Nat} {R : RS}

theorem c_sat1 {r : Nat} (hr : zRd S r) (hm : zRm r R I X) (hR : ROK R) {i : Nat} (hi : i < R.1 1) : zC0 mX3_at 2 [zr 3 (r + 3), zi (nI i), zi (nI 1)] (some (zi (nI (R.2.1 6 i)))) ad S I X Y sz I X Y := c_sat hr hm hR hi (by decide)
theorem c_sat2 {r : Nat} (hr : zRd S r) (hm : zRm r R I X) (hR : ROK R) {i : Nat} (hi : i < R.1 1) : zC0 mX3_at 2 [zr 3 (r + 3), zi (nI i), zi (nI 2)] (some (zi (nI (R.2.1 7 i)))) ad S I X Y sz I X Y := c_sat hr hm hR hi (by decide)
theorem c_X5_weigh (hD : ∀ k, S 3 k = dsh k) (hm : zRm 1 R I X) (hR : ROK R)  : zC0 mX5_weigh 6 [zr 3 22, zr 3 1] (none) ad S I X Y sz (wgI R (R.1 1) I) (wgX R (R.1 1) X) Y := by
  refine zgo (own := RX5) (k := 1) (by decide +kernel) rfl rfl rfl (fun C hC hnm hE => ?_)
  have hn := hR.1
  have hns := hR.2.1
  have hp := hR.2.2.2.1
  refine z_aload_n hC dX5_weigh_0 rfl ?_
  refine z_aload_n hC dX5_weigh_1 rfl ?_
  refine z_getR hC dX5_weigh_2 (hD _) zfX5_18 rfl ?_
  refine z_getN hC dX5_weigh_5 (hD _) zfX5_24 rfl hm.1.2.1 ?_
  refine z_bipush hC dX5_weigh_8 (v := nI 14) rfl ?_
  refine z_min hC dX5_weigh_10 (zin3 (i := 100) rfl rfl) zmW_min (Nat.le_of_ble_eq_true rfl) (Nat.le_of_ble_eq_true rfl) (Nat.le_refl _) (Nat.le_refl _) ?_
  rw [zmin2 hn (by decide)]
  refine z_putI hC dX5_weigh_13 (hD _) zfX5_36 rfl rfl rfl rfl ?_
  have hm1 : zRm 1 R (up3 I 3 22 2 (nI (R.1 0))) X := hm.frame (fun k j _ _ => if_neg (by omega)) (fun _ _ _ _ => rfl)
  have e22 : up3 I 3 22 2 (nI (R.1 0)) 3 22 2 = nI (R.1 0) := if_pos ⟨rfl, rfl, rfl⟩
  refine z_iconst hC dX5_weigh_16 (v := nI 0) rfl ?_
  refine z_istore_n hC dX5_weigh_17 (lo2 := [_, _, _]) (Nat.le_of_ble_eq_true rfl) rfl rfl ?_
  have loop18 : ∀ (fuel : Nat) (i : Nat), R.1 0 - i < fuel → i ≤ R.1 0 → zL C 3 ad S 0 0 sz (up3 I 3 22 2 (nI (R.1 0))) (zrow 3 24 (R.2.1 4) i (zrow 3 23 (fellN (rfall R (R.1 3))) i X)) Y 18 [some (zr 3 22), some (zr 3 1), some (zi (nI i))] [] := by
    intro fuel18
    induction fuel18 with
    | zero => intro i hfu; exact absurd hfu (Nat.not_lt_zero _)
    | succ fuel18 ih18 =>
      intro i hfu hin
      have hmk : zRm 1 R (up3 I 3 22 2 (nI (R.1 0))) (zrow 3 24 (R.2.1 4) i (zrow 3 23 (fellN (rfall R (R.1 3))) i X)) := hm1.frame (fun _ _ _ _ => rfl) (fun k j _ _ => by rw [zrow_ne (by omega), zrow_ne (by omega)])
      refine z_iload_n hC dX5_weigh_18 rfl ?_
      refine z_aload_n hC dX5_weigh_19 rfl ?_
      refine z_getN hC dX5_weigh_20 (hD _) zfX5_36 rfl e22 ?_
      refine z_nicmp_ge hC dX5_weigh_23 (tgt := 62) (by decide) (by omega) (by omega) (fun c23 => ?_) (fun c23 => ?_)
      · skip
        obtain rfl : i = R.1 0 := by omega
        have hmn := hmk
        refine z_aload_n hC dX5_weigh_62 rfl ?_
        refine z_aload_n hC dX5_weigh_63 rfl ?_
        refine z_iconst hC dX5_weigh_64 (v := -1) rfl ?_
        refine z_aload_n hC dX5_weigh_65 rfl ?_
        refine z_getN hC dX5_weigh_66 (hD _) zfX5_38 rfl hmn.2.2.2.1 ?_
        refine zVv hC dX5_weigh_69 zlX5_41 (c_X1_fellAtNone (zRd_1 hD) hmn hR hp.2) (hD _) rfl rfl rfl rfl rfl rfl ?_
        refine z_putI hC dX5_weigh_72 (hD _) zfX5_47 rfl rfl rfl rfl ?_
        change zL C 3 ad S 0 0 sz (wgI R 0 I) (wgX R 0 X) Y _ _ _
        refine z_iconst hC dX5_weigh_75 (v := nI 0) rfl ?_
        refine z_istore_n hC dX5_weigh_76 (lo2 := [_, _, _]) (Nat.le_of_ble_eq_true rfl) rfl rfl ?_
        have loop77 : ∀ (fuel : Nat) (s : Nat), R.1 1 - s < fuel → s ≤ R.1 1 → zL C 3 ad S 0 0 sz (wgI R s I) (wgX R s X) Y 77 [some (zr 3 22), some (zr 3 1), some (zi (nI s))] [] := by
          intro fuel77
          induction fuel77 with
          | zero => intro s hfu; exact absurd hfu (Nat.not_lt_zero _)
          | succ fuel77 ih77 =>
            intro s hfu hsn
            have hms : zRm 1 R (wgI R s I) (wgX R s X) := wg_R (by decide) hm
            refine z_iload_n hC dX5_weigh_77 rfl ?_
            refine z_aload_n hC dX5_weigh_78 rfl ?_
            refine z_getR hC dX5_weigh_79 (hD _) zfX5_50 rfl ?_
            refine z_getN hC dX5_weigh_82 (hD _) zfX5_24 rfl hms.2.1.2.1 ?_
            refine z_nicmp_ge hC dX5_weigh_85 (tgt := 134) (by decide) (by omega) (by omega) (fun c85 => ?_) (fun c85 => ?_)
            · skip
              refine z_vret hC dX5_weigh_134 ?_
              exact hE.to (by rfl) (by rw [show R.1 1 = s by omega]) (by rw [show R.1 1 = s by omega]) rfl
            have hs : s < R.1 1 := by omega
            have hsg := hR.2.2.2.2.2.2.2.1 s hs
            refine z_aload_n hC dX5_weigh_88 rfl ?_
            refine z_aload_n hC dX5_weigh_89 rfl ?_
            refine z_getR hC dX5_weigh_90 (hD _) zfX5_50 rfl ?_
            refine z_iload_n hC dX5_weigh_93 rfl ?_
            refine z_iconst hC dX5_weigh_94 (v := nI 0) rfl ?_
            refine zVv hC dX5_weigh_95 zlX5_44 (c_sat (zRd_1 hD) hms hR hs (j := 0) (by decide)) (hD _) rfl rfl rfl rfl rfl rfl ?_
            refine z_aload_n hC dX5_weigh_98 rfl ?_
            refine z_getR hC dX5_weigh_99 (hD _) zfX5_50 rfl ?_
            refine z_iload_n hC dX5_weigh_102 rfl ?_
            refine z_iconst hC dX5_weigh_103 (v := nI 1) rfl ?_
            refine zVv hC dX5_weigh_104 zlX5_44 (c_sat1 (zRd_1 hD) hms hR hs) (hD _) rfl rfl rfl rfl rfl rfl ?_
            refine z_iconst hC dX5_weigh_107 (v := nI 1) rfl ?_
            refine z_nicmp_ne hC dX5_weigh_108 (tgt := 115) (by decide) (by omega) (by omega) (fun c108 => ?_) (fun c108 => ?_)
            · skip
              refine z_iconst hC dX5_weigh_115 (v := nI 0) rfl ?_
              first | rw [show nI 1 = nI (R.2.1 6 s) by rw [show R.2.1 6 s = 1 by omega]] | rw [show nI 0 = nI (R.2.1 6 s) by rw [show R.2.1 6 s = 0 by omega]]
              refine z_aload_n hC dX5_weigh_116 rfl ?_
              refine z_getR hC dX5_weigh_117 (hD _) zfX5_50 rfl ?_
              refine z_iload_n hC dX5_weigh_120 rfl ?_
              refine z_iconst hC dX5_weigh_121 (v := nI 2) rfl ?_
              refine zVv hC dX5_weigh_122 zlX5_44 (c_sat2 (zRd_1 hD) hms hR hs) (hD _) rfl rfl rfl rfl rfl rfl ?_
              refine zV0 hC dX5_weigh_125 zlX5_53 (c_X5_heed hD (wg_W hR) (b := R.2.1 5 s) (q := R.2.1 6 s) (s := R.2.1 7 s) (by omega) hsg.2.1 hsg.2.2) (hD _) rfl rfl rfl rfl rfl rfl ?_
              rw [wgI_s, wgX_s]
              refine z_ninc hC dX5_weigh_128 (lo2 := [_, _, _]) rfl rfl rfl rfl ?_
              refine z_goto hC dX5_weigh_131 (tgt := 77) (by decide) ?_
              exact ih77 (s + 1) (by omega) (by omega)
            refine z_iconst hC dX5_weigh_111 (v := nI 1) rfl ?_
            refine z_goto hC dX5_weigh_112 (tgt := 116) (by decide) ?_
            first | rw [show nI 1 = nI (R.2.1 6 s) by rw [show R.2.1 6 s = 1 by omega]] | rw [show nI 0 = nI (R.2.1 6 s) by rw [show R.2.1 6 s = 0 by omega]]
            refine z_aload_n hC dX5_weigh_116 rfl ?_
            refine z_getR hC dX5_weigh_117 (hD _) zfX5_50 rfl ?_
            refine z_iload_n hC dX5_weigh_120 rfl ?_
            refine z_iconst hC dX5_weigh_121 (v := nI 2) rfl ?_
            refine zVv hC dX5_weigh_122 zlX5_44 (c_sat2 (zRd_1 hD) hms hR hs) (hD _) rfl rfl rfl rfl rfl rfl ?_
            refine zV0 hC dX5_weigh_125 zlX5_53 (c_X5_heed hD (wg_W hR) (b := R.2.1 5 s) (q := R.2.1 6 s) (s := R.2.1 7 s) (by omega) hsg.2.1 hsg.2.2) (hD _) rfl rfl rfl rfl rfl rfl ?_
            rw [wgI_s, wgX_s]
            refine z_ninc hC dX5_weigh_128 (lo2 := [_, _, _]) rfl rfl rfl rfl ?_
            refine z_goto hC dX5_weigh_131 (tgt := 77) (by decide) ?_
            exact ih77 (s + 1) (by omega) (by omega)
        exact loop77 _ 0 (Nat.lt_succ_self _) (Nat.zero_le _)
      have hi : i < R.1 0 := by omega
      refine z_aload_n hC dX5_weigh_26 rfl ?_
      refine z_getR hC dX5_weigh_27 (hD _) zfX5_9 rfl ?_
      refine z_iload_n hC dX5_weigh_30 rfl ?_
      refine z_aload_n hC dX5_weigh_31 rfl ?_
      refine z_iload_n hC dX5_weigh_32 rfl ?_
      refine z_aload_n hC dX5_weigh_33 rfl ?_
      refine z_getN hC dX5_weigh_34 (hD _) zfX5_38 rfl hmk.2.2.2.1 ?_
      refine zVv hC dX5_weigh_37 zlX5_41 (c_X1_fellAt (zRd_1 hD) hmk hR hi hp.2) (hD _) rfl rfl rfl rfl rfl rfl ?_
      refine z_niast hC dX5_weigh_40 (hD _) (by omega) rfl ?_
      have hmj : zRm 1 R (up3 I 3 22 2 (nI (R.1 0))) (up3 (zrow 3 24 (R.2.1 4) i (zrow 3 23 (fellN (rfall R (R.1 3))) i X)) 3 23 i (nI (fellN (rfall R (R.1 3)) i))) := hmk.frame (fun _ _ _ _ => rfl) (fun k j _ _ => if_neg (by omega))
      refine z_aload_n hC dX5_weigh_41 rfl ?_
      refine z_getR hC dX5_weigh_42 (hD _) zfX5_15 rfl ?_
      refine z_iload_n hC dX5_weigh_45 rfl ?_
      refine z_aload_n hC dX5_weigh_46 rfl ?_
      refine z_getR hC dX5_weigh_47 (hD _) zfX5_18 rfl ?_
      refine z_iload_n hC dX5_weigh_50 rfl ?_
      refine z_iconst hC dX5_weigh_51 (v := nI 4) rfl ?_
      refine zVv hC dX5_weigh_52 zlX5_44 (c_bat (zRd_1 hD) hmj hR hi (by decide)) (hD _) rfl rfl rfl rfl rfl rfl ?_
      refine z_niast hC dX5_weigh_55 (hD _) (by omega) rfl ?_
      refine z_ninc hC dX5_weigh_56 (lo2 := [_, _, _]) rfl rfl rfl rfl ?_
      refine z_goto hC dX5_weigh_59 (tgt := 18) (by decide) ?_
      rw [zrow_up (by omega), zrow_s, zrow_s]
      exact ih18 (i + 1) (by omega) (by omega)
  have h0 := loop18 _ 0 (Nat.lt_succ_self _) (Nat.zero_le _)
  rw [zrow_0, zrow_0] at h0
  exact h0

end
