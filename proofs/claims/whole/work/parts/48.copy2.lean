/-! OnTheRoof: copy, says together -/
theorem isB_b {b : Nat} : isB (some (10 + b)) = true := decide_eq_true (by omega)
theorem isB_r {q : Nat} (h : q ≤ 4) : ¬ isB (some q) = true := by
  show ¬ decide (10 ≤ q) = true
  rw [decide_eq_true_eq]; omega
theorem isB_n : ¬ isB none = true := Bool.false_ne_true
section
variable {ad : zA} {S : zSh} {I X : zI} {Y : zY} {sz : Nat} {D : DS}

theorem o_copy (hD : ∀ k, S 3 k = dsh k) (hO : DOK D) (hM : DMe D I X Y) {x y i j m : Int32} : dC mX6_copy 3 [zr 3 0, zi x, zi y, zi i, zi j, zi m] (some (zi (copyS D x y i j m).1)) (copyS D x y i j m).2 ad S I X Y sz := by
  have hn14 := hO.1.1
  unfold copyS
  by_cases hx : inB x 8
  · by_cases hy : inB y 8
    · rw [if_pos ⟨hx, hy⟩]
      obtain ⟨p, hp, rfl, e1⟩ := inB_e hx (by decide)
      obtain ⟨q, hq, rfl, e2⟩ := inB_e hy (by decide)
      rw [e1, e2]
      rcases sh_st hO hM hp with ⟨h1, m1⟩ | ⟨rp, gp, h1, m1⟩ | ⟨rp, gp, h1, m1⟩
      · rcases sh_st hO hM hq with ⟨k1, m2⟩ | ⟨rq, gq, k1, m2⟩ | ⟨rq, gq, k1, m2⟩
        · rw [if_neg (fun z => z.elim (by rw [h1]; exact isB_n) (by rw [k1]; exact isB_n))]
          rw [if_pos (Or.inl h1)]
          exact ⟨_, _, _, hM.rf (by decide), e_copy_nn hD hO hM hp hq m1 m2⟩
        · rw [if_neg (fun z => z.elim (by rw [h1]; exact isB_n) (by rw [k1]; exact isB_r gq))]
          rw [if_pos (Or.inl h1)]
          exact ⟨_, _, _, hM.rf (by decide), e_copy_nr hD hO hM hp hq m1 gq m2⟩
        · rw [k1, if_pos (Or.inr isB_b)]
          exact ⟨_, _, _, hM.rf (by decide), e_copy_nb hD hO hM hp hq m1 (by omega) m2⟩
      · rcases sh_st hO hM hq with ⟨k1, m2⟩ | ⟨rq, gq, k1, m2⟩ | ⟨rq, gq, k1, m2⟩
        · rw [if_neg (fun z => z.elim (by rw [h1]; exact isB_r gp) (by rw [k1]; exact isB_n))]
          rw [if_pos (Or.inr k1)]
          exact ⟨_, _, _, hM.rf (by decide), e_copy_rn hD hO hM hp hq gp m1 m2⟩
        · rw [if_neg (fun z => z.elim (by rw [h1]; exact isB_r gp) (by rw [k1]; exact isB_r gq))]
          rw [if_neg (fun z => z.elim (by rw [h1]; exact Option.some_ne_none _) (by rw [k1]; exact Option.some_ne_none _))]
          by_cases hd : rp = rq
          · rw [if_pos (by rw [h1, k1, hd])]
            obtain ⟨-, kp, elp⟩ := hM.2.2.2.2.1 p hp
            obtain ⟨-, kq, elq⟩ := hM.2.2.2.2.1 q hq
            have kp40 := (hO.2.2.2 p hp).1
            have kq40 := (hO.2.2.2 q hq).1
            by_cases hi : inB i (D.2.2.2.1.2.1 p + 1) ∧ inB m (D.2.2.2.1.2.1 p + 1 - nn i)
            · obtain ⟨i, hi1, rfl, e3⟩ := inB_e hi.1 (by omega)
              have hi2 := hi.2
              rw [e3] at hi2 hi ⊢
              obtain ⟨m, hm1, rfl, e4⟩ := inB_e hi2 (by omega)
              by_cases hj : inB j (D.2.2.2.1.2.1 q + 1) ∧ inB (nI m) (D.2.2.2.1.2.1 q + 1 - nn j)
              · obtain ⟨j, hj1, rfl, e5⟩ := inB_e hj.1 (by omega)
                have hj2 := hj.2
                rw [e5] at hj2 hj ⊢
                obtain ⟨m', hm2, e6, -⟩ := inB_e hj2 (by omega)
                have e7 : m = m' := by
                  have := congrArg nn e6
                  rwa [nn_n (by omega), nn_n (by omega)] at this
                subst e7
                rw [if_pos ⟨hi, hj⟩, e4]
                refine ⟨_, _, _, hM.sh (fun k j a => rfl) (fun t ht => ?_), e_copy_rr hD hO hM hp hq gp m1 gq m2 hd kp kp40 kq kq40 (by omega) (by omega)⟩
                obtain ⟨g1, g2, g3⟩ := hM.2.2.2.2.1 t ht
                refine ⟨g1, g2, fun k hk => ?_⟩
                by_cases e : t = q
                · subst e
                  rw [upS_eq, up2_eq]
                  unfold va_cpy
                  split
                  · exact elp _ (by omega)
                  · exact elq _ hk
                · rw [upS_ne e, up2_ne (by omega)]
                  exact g3 k hk
              · rw [if_neg (fun z => hj z.2)]
                exact ⟨_, _, _, hM.rf (by decide), e_copy_rg hD hO hM hp hq gp m1 gq m2 hd kp kp40 kq kq40 (by omega) hj⟩
            · rw [if_neg (fun z => hi z.1)]
              exact ⟨_, _, _, hM.rf (by decide), e_copy_re hD hO hM hp hq gp m1 gq m2 hd kp kp40 kq kq40 hi⟩
          · rw [if_neg (fun z => hd (by rw [h1, k1] at z; exact Option.some.inj z))]
            exact ⟨_, _, _, hM.rf (by decide), e_copy_rd hD hO hM hp hq gp m1 gq m2 hd⟩
        · rw [k1, if_pos (Or.inr isB_b)]
          exact ⟨_, _, _, hM.rf (by decide), e_copy_rb hD hO hM hp hq gp m1 (by omega) m2⟩
      · rw [h1, if_pos (Or.inl isB_b)]
        exact ⟨_, _, _, hM.rf (by decide), e_copy_bx hD hO hM hp hq (by omega) m1⟩
    · rw [if_neg (fun z => hy z.2)]
      obtain ⟨p, hp, rfl, e1⟩ := inB_e hx (by decide)
      exact ⟨_, _, _, hM.rf (by decide), e_copy_fc hD hO hM hp hy⟩
  · rw [if_neg (fun z => hx z.1)]
    by_cases hy : inB y 8
    · obtain ⟨q, hq, rfl, e2⟩ := inB_e hy (by decide)
      exact ⟨_, _, _, hM.rf (by decide), e_copy_fa hD hO hM hx hq⟩
    · exact ⟨_, _, _, hM.rf (by decide), e_copy_fb hD hO hM hx hy⟩
theorem e_says_n (hD : ∀ k, S 3 k = dsh k) (hO : DOK D) (hM : DMe D I X Y) {s y : Nat} (hs : s < 8) (hy : y ≤ 5) (hh : I 3 (35 + 2 * s) 0 = -1) : zC0 mX6_says 5 [zr 3 0, zi (nI s), zi (nI y)] (some (zi (-4))) ad S I X Y sz I (rfX 2 X) Y := by
  refine zgo (own := RX6) (k := 2) (by decide +kernel) rfl rfl rfl (fun C hC hnm hE => ?_)
  have hm := hM.1
  have hR := hO.1
  refine z_aload_n hC dX6_says_0 rfl ?_
  refine z_iload_n hC dX6_says_1 rfl ?_
  refine zVv hC dX6_says_2 zlX6_54 (c_shelfAt_t hD hs) (hD _) rfl rfl rfl rfl rfl rfl ?_
  refine z_astore_n hC dX6_says_5 (lo2 := [_, _, _, _, _]) (Nat.le_of_ble_eq_true rfl) rfl rfl ?_
  refine z_aload_n hC dX6_says_6 rfl ?_
  refine z_ifnull hC dX6_says_7  ?_
  refine z_iload_n hC dX6_says_10 rfl ?_
  refine z_iconst hC dX6_says_11 (v := nI 0) rfl ?_
  refine z_iconst hC dX6_says_12 (v := nI 5) rfl ?_
  refine zSv hC dX6_says_13 zlX6_58 c_X6_isWithin rfl rfl rfl rfl ?_
  refine z_ifb_ne hC dX6_says_16 (tgt := 26) (by decide) (fun c16 => ?_) (fun c16 => ?_)
  rotate_left
  · exact absurd c16 (fun z => z (iw_of (Nat.zero_le _) hy (by decide)))
  refine z_aload_n hC dX6_says_26 rfl ?_
  refine zVv hC dX6_says_27 zlX6_74 (c_isEmpty_n ((hD _).trans (dsh_s hs).1) hh) ((hD _).trans (dsh_s hs).1) rfl rfl rfl rfl rfl rfl ?_
  refine z_nif_eq hC dX6_says_30 (tgt := 40) (by decide) (by omega) (fun c30 => ?_) (fun c30 => ?_)
  · exfalso; omega
  refine z_aload_n hC dX6_says_33 rfl ?_
  refine z_bipush hC dX6_says_34 (v := -4) rfl ?_
  refine zVv hC dX6_says_36 zlX6_62 (c_X6_refuse hD (j := 2) (by decide) (by decide)) (hD _) rfl rfl rfl rfl rfl rfl ?_
  refine z_iret hC dX6_says_39 ?_
  exact hE.to (by rfl) rfl rfl rfl

theorem e_says_r (hD : ∀ k, S 3 k = dsh k) (hO : DOK D) (hM : DMe D I X Y) {s y : Nat} (hs : s < 8) (hy : y ≤ 5) {q : Nat} (hq : q ≤ 4) (hh : I 3 (35 + 2 * s) 0 = nI q) : zC0 mX6_says 5 [zr 3 0, zi (nI s), zi (nI y)] (some (zi (-3))) ad S I X Y sz I (rfX 1 X) Y := by
  refine zgo (own := RX6) (k := 2) (by decide +kernel) rfl rfl rfl (fun C hC hnm hE => ?_)
  have hm := hM.1
  have hR := hO.1
  have hn14 := hR.1
  refine z_aload_n hC dX6_says_0 rfl ?_
  refine z_iload_n hC dX6_says_1 rfl ?_
  refine zVv hC dX6_says_2 zlX6_54 (c_shelfAt_t hD hs) (hD _) rfl rfl rfl rfl rfl rfl ?_
  refine z_astore_n hC dX6_says_5 (lo2 := [_, _, _, _, _]) (Nat.le_of_ble_eq_true rfl) rfl rfl ?_
  refine z_aload_n hC dX6_says_6 rfl ?_
  refine z_ifnull hC dX6_says_7  ?_
  refine z_iload_n hC dX6_says_10 rfl ?_
  refine z_iconst hC dX6_says_11 (v := nI 0) rfl ?_
  refine z_iconst hC dX6_says_12 (v := nI 5) rfl ?_
  refine zSv hC dX6_says_13 zlX6_58 c_X6_isWithin rfl rfl rfl rfl ?_
  refine z_ifb_ne hC dX6_says_16 (tgt := 26) (by decide) (fun c16 => ?_) (fun c16 => ?_)
  rotate_left
  · exact absurd c16 (fun z => z (iw_of (Nat.zero_le _) hy (by decide)))
  refine z_aload_n hC dX6_says_26 rfl ?_
  refine zVv hC dX6_says_27 zlX6_74 (c_isEmpty_r ((hD _).trans (dsh_s hs).1) hh (by omega)) ((hD _).trans (dsh_s hs).1) rfl rfl rfl rfl rfl rfl ?_
  refine z_nif_eq hC dX6_says_30 (tgt := 40) (by decide) (by omega) (fun c30 => ?_) (fun c30 => ?_)
  rotate_left
  · exfalso; omega
  refine z_aload_n hC dX6_says_40 rfl ?_
  refine zVv hC dX6_says_41 zlX6_111 (c_bendNumber_r ((hD _).trans (dsh_s hs).1) hh hq) ((hD _).trans (dsh_s hs).1) rfl rfl rfl rfl rfl rfl ?_
  refine z_istore hC dX6_says_44 (lo2 := [_, _, _, _, _]) (Nat.le_of_ble_eq_true rfl) rfl rfl ?_
  refine z_aload_n hC dX6_says_46 rfl ?_
  refine z_getR hC dX6_says_47 (hD _) zfX6_10 rfl ?_
  refine z_getR hC dX6_says_50 (hD _) zfX6_115 rfl ?_
  refine z_iload hC dX6_says_53 rfl ?_
  refine zVv hC dX6_says_55 zlX6_119 (c_bhas hD hm) (hD _) rfl rfl rfl rfl rfl rfl ?_
  refine z_ifb_eq hC dX6_says_58 (tgt := 81) (by decide) (fun c58 => ?_) (fun c58 => ?_)
  rotate_left
  · exact absurd (c58).1 (by decide)
  refine z_aload_n hC dX6_says_81 rfl ?_
  refine z_bipush hC dX6_says_82 (v := -3) rfl ?_
  refine zVv hC dX6_says_84 zlX6_62 (c_X6_refuse hD (j := 1) (by decide) (by decide)) (hD _) rfl rfl rfl rfl rfl rfl ?_
  refine z_iret hC dX6_says_87 ?_
  exact hE.to (by rfl) rfl rfl rfl

theorem e_says_u (hD : ∀ k, S 3 k = dsh k) (hO : DOK D) (hM : DMe D I X Y) {s y : Nat} (hs : s < 8) (hy : y ≤ 5) {b : Nat} (hb : b < D.1.1 0) (hh : I 3 (35 + 2 * s) 0 = nI (10 + b)) (hu : ¬ undN (D.1.2.1 0 b) y) : zC0 mX6_says 5 [zr 3 0, zi (nI s), zi (nI y)] (some (zi (-3))) ad S I X Y sz I (rfX 1 X) Y := by
  refine zgo (own := RX6) (k := 2) (by decide +kernel) rfl rfl rfl (fun C hC hnm hE => ?_)
  have hm := hM.1
  have hR := hO.1
  have hn14 := hR.1
  have hb7 := hR.2.2.2.2.2.2.1 b hb
  refine z_aload_n hC dX6_says_0 rfl ?_
  refine z_iload_n hC dX6_says_1 rfl ?_
  refine zVv hC dX6_says_2 zlX6_54 (c_shelfAt_t hD hs) (hD _) rfl rfl rfl rfl rfl rfl ?_
  refine z_astore_n hC dX6_says_5 (lo2 := [_, _, _, _, _]) (Nat.le_of_ble_eq_true rfl) rfl rfl ?_
  refine z_aload_n hC dX6_says_6 rfl ?_
  refine z_ifnull hC dX6_says_7  ?_
  refine z_iload_n hC dX6_says_10 rfl ?_
  refine z_iconst hC dX6_says_11 (v := nI 0) rfl ?_
  refine z_iconst hC dX6_says_12 (v := nI 5) rfl ?_
  refine zSv hC dX6_says_13 zlX6_58 c_X6_isWithin rfl rfl rfl rfl ?_
  refine z_ifb_ne hC dX6_says_16 (tgt := 26) (by decide) (fun c16 => ?_) (fun c16 => ?_)
  rotate_left
  · exact absurd c16 (fun z => z (iw_of (Nat.zero_le _) hy (by decide)))
  refine z_aload_n hC dX6_says_26 rfl ?_
  refine zVv hC dX6_says_27 zlX6_74 (c_isEmpty_r ((hD _).trans (dsh_s hs).1) hh (by omega)) ((hD _).trans (dsh_s hs).1) rfl rfl rfl rfl rfl rfl ?_
  refine z_nif_eq hC dX6_says_30 (tgt := 40) (by decide) (by omega) (fun c30 => ?_) (fun c30 => ?_)
  rotate_left
  · exfalso; omega
  refine z_aload_n hC dX6_says_40 rfl ?_
  refine zVv hC dX6_says_41 zlX6_111 (c_bendNumber_b ((hD _).trans (dsh_s hs).1) hh (by omega)) ((hD _).trans (dsh_s hs).1) rfl rfl rfl rfl rfl rfl ?_
  refine z_istore hC dX6_says_44 (lo2 := [_, _, _, _, _]) (Nat.le_of_ble_eq_true rfl) rfl rfl ?_
  refine z_aload_n hC dX6_says_46 rfl ?_
  refine z_getR hC dX6_says_47 (hD _) zfX6_10 rfl ?_
  refine z_getR hC dX6_says_50 (hD _) zfX6_115 rfl ?_
  refine z_iload hC dX6_says_53 rfl ?_
  refine zVv hC dX6_says_55 zlX6_119 (c_bhas hD hm) (hD _) rfl rfl rfl rfl rfl rfl ?_
  refine z_ifb_eq hC dX6_says_58 (tgt := 81) (by decide) (fun c58 => ?_) (fun c58 => ?_)
  · exact absurd c58 (fun z => z (inB_of hb (by omega)))
  refine z_aload_n hC dX6_says_61 rfl ?_
  refine z_getR hC dX6_says_62 (hD _) zfX6_10 rfl ?_
  refine z_getR hC dX6_says_65 (hD _) zfX6_115 rfl ?_
  refine z_iload hC dX6_says_68 rfl ?_
  refine z_iconst hC dX6_says_70 (v := nI 0) rfl ?_
  refine zVv hC dX6_says_71 zlX6_124 (c_bat (zRd_1 hD) hm hR hb (j := 0) (by decide)) (hD _) rfl rfl rfl rfl rfl rfl ?_
  refine z_iload_n hC dX6_says_74 rfl ?_
  refine zSv hC dX6_says_75 zlX6_128 (c_X6_isUnder hb7.1 hy) rfl rfl rfl rfl ?_
  refine z_ifb_ne hC dX6_says_78 (tgt := 88) (by decide) (fun c78 => ?_) (fun c78 => ?_)
  · exact absurd c78 hu
  refine z_aload_n hC dX6_says_81 rfl ?_
  refine z_bipush hC dX6_says_82 (v := -3) rfl ?_
  refine zVv hC dX6_says_84 zlX6_62 (c_X6_refuse hD (j := 1) (by decide) (by decide)) (hD _) rfl rfl rfl rfl rfl rfl ?_
  refine z_iret hC dX6_says_87 ?_
  exact hE.to (by rfl) rfl rfl rfl

theorem e_says_t (hD : ∀ k, S 3 k = dsh k) (hO : DOK D) (hM : DMe D I X Y) {s y : Nat} (hs : s < 8) (hy : y ≤ 5) {b : Nat} (hb : b < D.1.1 0) (hh : I 3 (35 + 2 * s) 0 = nI (10 + b)) (hu : undN (D.1.2.1 0 b) y) : zC0 mX6_says 5 [zr 3 0, zi (nI s), zi (nI y)] (some (zi (if y = 0 then nI (D.1.2.1 2 b) else if y = 2 then nI (rfall D.1 1 b) else if y = 5 then nI (D.1.2.1 3 b) else nI (rfall D.1 (D.1.1 3) b)))) ad S I X Y sz I X Y := by
  refine zgo (own := RX6) (k := 2) (by decide +kernel) rfl rfl rfl (fun C hC hnm hE => ?_)
  have hm := hM.1
  have hR := hO.1
  have hn14 := hR.1
  have hb7 := hR.2.2.2.2.2.2.1 b hb
  refine z_aload_n hC dX6_says_0 rfl ?_
  refine z_iload_n hC dX6_says_1 rfl ?_
  refine zVv hC dX6_says_2 zlX6_54 (c_shelfAt_t hD hs) (hD _) rfl rfl rfl rfl rfl rfl ?_
  refine z_astore_n hC dX6_says_5 (lo2 := [_, _, _, _, _]) (Nat.le_of_ble_eq_true rfl) rfl rfl ?_
  refine z_aload_n hC dX6_says_6 rfl ?_
  refine z_ifnull hC dX6_says_7  ?_
  refine z_iload_n hC dX6_says_10 rfl ?_
  refine z_iconst hC dX6_says_11 (v := nI 0) rfl ?_
  refine z_iconst hC dX6_says_12 (v := nI 5) rfl ?_
  refine zSv hC dX6_says_13 zlX6_58 c_X6_isWithin rfl rfl rfl rfl ?_
  refine z_ifb_ne hC dX6_says_16 (tgt := 26) (by decide) (fun c16 => ?_) (fun c16 => ?_)
  rotate_left
  · exact absurd c16 (fun z => z (iw_of (Nat.zero_le _) hy (by decide)))
  refine z_aload_n hC dX6_says_26 rfl ?_
  refine zVv hC dX6_says_27 zlX6_74 (c_isEmpty_r ((hD _).trans (dsh_s hs).1) hh (by omega)) ((hD _).trans (dsh_s hs).1) rfl rfl rfl rfl rfl rfl ?_
  refine z_nif_eq hC dX6_says_30 (tgt := 40) (by decide) (by omega) (fun c30 => ?_) (fun c30 => ?_)
  rotate_left
  · exfalso; omega
  refine z_aload_n hC dX6_says_40 rfl ?_
  refine zVv hC dX6_says_41 zlX6_111 (c_bendNumber_b ((hD _).trans (dsh_s hs).1) hh (by omega)) ((hD _).trans (dsh_s hs).1) rfl rfl rfl rfl rfl rfl ?_
  refine z_istore hC dX6_says_44 (lo2 := [_, _, _, _, _]) (Nat.le_of_ble_eq_true rfl) rfl rfl ?_
  refine z_aload_n hC dX6_says_46 rfl ?_
  refine z_getR hC dX6_says_47 (hD _) zfX6_10 rfl ?_
  refine z_getR hC dX6_says_50 (hD _) zfX6_115 rfl ?_
  refine z_iload hC dX6_says_53 rfl ?_
  refine zVv hC dX6_says_55 zlX6_119 (c_bhas hD hm) (hD _) rfl rfl rfl rfl rfl rfl ?_
  refine z_ifb_eq hC dX6_says_58 (tgt := 81) (by decide) (fun c58 => ?_) (fun c58 => ?_)
  · exact absurd c58 (fun z => z (inB_of hb (by omega)))
  refine z_aload_n hC dX6_says_61 rfl ?_
  refine z_getR hC dX6_says_62 (hD _) zfX6_10 rfl ?_
  refine z_getR hC dX6_says_65 (hD _) zfX6_115 rfl ?_
  refine z_iload hC dX6_says_68 rfl ?_
  refine z_iconst hC dX6_says_70 (v := nI 0) rfl ?_
  refine zVv hC dX6_says_71 zlX6_124 (c_bat (zRd_1 hD) hm hR hb (j := 0) (by decide)) (hD _) rfl rfl rfl rfl rfl rfl ?_
  refine z_iload_n hC dX6_says_74 rfl ?_
  refine zSv hC dX6_says_75 zlX6_128 (c_X6_isUnder hb7.1 hy) rfl rfl rfl rfl ?_
  refine z_ifb_ne hC dX6_says_78 (tgt := 88) (by decide) (fun c78 => ?_) (fun c78 => ?_)
  rotate_left
  · exact absurd c78 (fun z => z hu)
  refine z_iload_n hC dX6_says_88 rfl ?_
  by_cases s89_0 : y = 0
  · refine z_lkK hC dX6_says_89 (v := nI 0) (by rw [s89_0]) rfl (off := 35) rfl (tgt := 124) (by decide) ?_
    refine z_aload_n hC dX6_says_124 rfl ?_
    refine z_getR hC dX6_says_125 (hD _) zfX6_10 rfl ?_
    refine z_getR hC dX6_says_128 (hD _) zfX6_115 rfl ?_
    refine z_iload hC dX6_says_131 rfl ?_
    refine z_iconst hC dX6_says_133 (v := nI 2) rfl ?_
    refine zVv hC dX6_says_134 zlX6_124 (c_bat (zRd_1 hD) hm hR hb (j := 2) (by decide)) (hD _) rfl rfl rfl rfl rfl rfl ?_
    refine z_iret hC dX6_says_137 ?_
    exact hE.to (by rw [if_pos s89_0]) rfl rfl rfl
  by_cases s89_2 : y = 2
  · refine z_lkK hC dX6_says_89 (v := nI 2) (by rw [s89_2]) rfl (off := 49) rfl (tgt := 138) (by decide) ?_
    refine z_aload_n hC dX6_says_138 rfl ?_
    refine z_getR hC dX6_says_139 (hD _) zfX6_10 rfl ?_
    refine z_iload hC dX6_says_142 rfl ?_
    refine z_iconst hC dX6_says_144 (v := nI 1) rfl ?_
    refine zVv hC dX6_says_145 zlX6_131 (c_X1_fallAt (zRd_1 hD) hm hR hb (v := 1) (by decide)) (hD _) rfl rfl rfl rfl rfl rfl ?_
    refine z_iret hC dX6_says_148 ?_
    exact hE.to (by rw [if_neg s89_0, if_pos s89_2]) rfl rfl rfl
  by_cases s89_5 : y = 5
  · refine z_lkK hC dX6_says_89 (v := nI 5) (by rw [s89_5]) rfl (off := 60) rfl (tgt := 149) (by decide) ?_
    refine z_aload_n hC dX6_says_149 rfl ?_
    refine z_getR hC dX6_says_150 (hD _) zfX6_10 rfl ?_
    refine z_getR hC dX6_says_153 (hD _) zfX6_115 rfl ?_
    refine z_iload hC dX6_says_156 rfl ?_
    refine z_iconst hC dX6_says_158 (v := nI 3) rfl ?_
    refine zVv hC dX6_says_159 zlX6_124 (c_bat (zRd_1 hD) hm hR hb (j := 3) (by decide)) (hD _) rfl rfl rfl rfl rfl rfl ?_
    refine z_iret hC dX6_says_162 ?_
    exact hE.to (by rw [if_neg s89_0, if_neg s89_2, if_pos s89_5]) rfl rfl rfl
  refine z_lookup hC dX6_says_89 rfl (off := 74) (zlk_out (by rw [nI_toInt (by omega)]; intro q hq; simp at hq; rcases hq with rfl | rfl | rfl <;> simp <;> omega)) (tgt := 163) (by decide) ?_
  refine z_aload_n hC dX6_says_163 rfl ?_
  refine z_getR hC dX6_says_164 (hD _) zfX6_10 rfl ?_
  refine z_iload hC dX6_says_167 rfl ?_
  refine z_aload_n hC dX6_says_169 rfl ?_
  refine z_getR hC dX6_says_170 (hD _) zfX6_10 rfl ?_
  refine z_getN hC dX6_says_173 (hD _) zfX6_134 rfl hm.2.2.2.1 ?_
  refine zVv hC dX6_says_176 zlX6_131 (c_X1_fallAt (zRd_1 hD) hm hR hb hR.2.2.2.1.2) (hD _) rfl rfl rfl rfl rfl rfl ?_
  refine z_iret hC dX6_says_179 ?_
  exact hE.to (by rw [if_neg s89_0, if_neg s89_2, if_neg s89_5]) rfl rfl rfl

theorem e_says_g (hD : ∀ k, S 3 k = dsh k) (hO : DOK D) (hM : DMe D I X Y) {s : Nat} {y : Int32} (hs : s < 8) (hy : ¬ iw y 0 5) : zC0 mX6_says 5 [zr 3 0, zi (nI s), zi y] (some (zi (-2))) ad S I X Y sz I (rfX 0 X) Y := by
  refine zgo (own := RX6) (k := 2) (by decide +kernel) rfl rfl rfl (fun C hC hnm hE => ?_)
  have hm := hM.1
  have hR := hO.1
  refine z_aload_n hC dX6_says_0 rfl ?_
  refine z_iload_n hC dX6_says_1 rfl ?_
  refine zVv hC dX6_says_2 zlX6_54 (c_shelfAt_t hD hs) (hD _) rfl rfl rfl rfl rfl rfl ?_
  refine z_astore_n hC dX6_says_5 (lo2 := [_, _, _, _, _]) (Nat.le_of_ble_eq_true rfl) rfl rfl ?_
  refine z_aload_n hC dX6_says_6 rfl ?_
  refine z_ifnull hC dX6_says_7  ?_
  refine z_iload_n hC dX6_says_10 rfl ?_
  refine z_iconst hC dX6_says_11 (v := nI 0) rfl ?_
  refine z_iconst hC dX6_says_12 (v := nI 5) rfl ?_
  refine zSv hC dX6_says_13 zlX6_58 c_X6_isWithin rfl rfl rfl rfl ?_
  refine z_ifb_ne hC dX6_says_16 (tgt := 26) (by decide) (fun c16 => ?_) (fun c16 => ?_)
  · exact absurd c16 hy
  refine z_aload_n hC dX6_says_19 rfl ?_
  refine z_bipush hC dX6_says_20 (v := -2) rfl ?_
  refine zVv hC dX6_says_22 zlX6_62 (c_X6_refuse hD (j := 0) (by decide) (by decide)) (hD _) rfl rfl rfl rfl rfl rfl ?_
  refine z_iret hC dX6_says_25 ?_
  exact hE.to (by rfl) rfl rfl rfl

theorem e_says_f (hD : ∀ k, S 3 k = dsh k) (hO : DOK D) (hM : DMe D I X Y) {x y : Int32} (hx : ¬ inB x 8) : zC0 mX6_says 5 [zr 3 0, zi x, zi y] (some (zi (-2))) ad S I X Y sz I (rfX 0 X) Y := by
  refine zgo (own := RX6) (k := 2) (by decide +kernel) rfl rfl rfl (fun C hC hnm hE => ?_)
  have hm := hM.1
  have hR := hO.1
  refine z_aload_n hC dX6_says_0 rfl ?_
  refine z_iload_n hC dX6_says_1 rfl ?_
  refine zVv hC dX6_says_2 zlX6_54 (c_shelfAt_f hD hx) (hD _) rfl rfl rfl rfl rfl rfl ?_
  refine z_astore_nN hC dX6_says_5 (lo2 := [_, _, _, _, _]) (Nat.le_of_ble_eq_true rfl) rfl rfl ?_
  refine z_aload_nN hC dX6_says_6 rfl ?_
  refine z_ifnullN hC dX6_says_7 (tgt := 19) (by decide) ?_
  refine z_aload_n hC dX6_says_19 rfl ?_
  refine z_bipush hC dX6_says_20 (v := -2) rfl ?_
  refine zVv hC dX6_says_22 zlX6_62 (c_X6_refuse hD (j := 0) (by decide) (by decide)) (hD _) rfl rfl rfl rfl rfl rfl ?_
  refine z_iret hC dX6_says_25 ?_
  exact hE.to (by rfl) rfl rfl rfl

theorem o_says (hD : ∀ k, S 3 k = dsh k) (hO : DOK D) (hM : DMe D I X Y) {x y : Int32} : dC mX6_says 5 [zr 3 0, zi x, zi y] (some (zi (saysS D x y).1)) (saysS D x y).2 ad S I X Y sz := by
  unfold saysS
  by_cases hx : inB x 8
  · obtain ⟨s, hs, rfl, e1⟩ := inB_e hx (by decide)
    by_cases hy : iw y 0 5
    · rw [if_pos ⟨hx, hy⟩, e1]
      obtain ⟨y, -, hy5, rfl, e2⟩ := iw_e hy (by decide) (by decide)
      rw [e2]
      rcases sh_st hO hM hs with ⟨h1, h2⟩ | ⟨q, hq, h1, h2⟩ | ⟨b, hb, h1, h2⟩
      · rw [h1]
        exact ⟨_, _, _, hM.rf (by decide), e_says_n hD hO hM hs hy5 h2⟩
      · rw [h1]
        dsimp only
        rw [if_neg (by omega)]
        exact ⟨_, _, _, hM.rf (by decide), e_says_r hD hO hM hs hy5 hq h2⟩
      · rw [h1]
        dsimp only
        rw [show 10 + b - 10 = b by omega]
        by_cases hu : undN (D.1.2.1 0 b) y
        · rw [if_pos ⟨by omega, hu⟩]
          exact ⟨_, _, _, hM, e_says_t hD hO hM hs hy5 hb h2 hu⟩
        · rw [if_neg (fun z => hu z.2)]
          exact ⟨_, _, _, hM.rf (by decide), e_says_u hD hO hM hs hy5 hb h2 hu⟩
    · rw [if_neg (fun z => hy z.2)]
      exact ⟨_, _, _, hM.rf (by decide), e_says_g hD hO hM hs hy⟩
  · rw [if_neg (fun z => hx z.1)]
    exact ⟨_, _, _, hM.rf (by decide), e_says_f hD hO hM hx⟩
end
