/-! Weights: next, in vain, heed, weigh -/
theorem nxS_1 {rate : Nat → Nat → Nat} {b l : Nat} (hl : l < 3) (h : (nxS rate (3 * b + l)).1 < rate b (l + 1)) : nxS rate (3 * b + l + 1) = (rate b (l + 1), some (10 * b + (l + 1))) := by
  show (if (nxS rate (3 * b + l)).1 < rate ((3 * b + l) / 3) ((3 * b + l) % 3 + 1) then _ else _) = _
  rw [show (3 * b + l) / 3 = b by omega, show (3 * b + l) % 3 = l by omega, if_pos h]
theorem nxS_0 {rate : Nat → Nat → Nat} {b l : Nat} (hl : l < 3) (h : rate b (l + 1) ≤ (nxS rate (3 * b + l)).1) : nxS rate (3 * b + l + 1) = nxS rate (3 * b + l) := by
  show (if (nxS rate (3 * b + l)).1 < rate ((3 * b + l) / 3) ((3 * b + l) % 3 + 1) then _ else _) = _
  rw [show (3 * b + l) / 3 = b by omega, show (3 * b + l) % 3 = l by omega, if_neg (by omega)]
theorem rateN_lt {f y : Nat → Nat} {b l : Nat} (h : f b ≤ 1000000) : rateN f y b l ≤ 1000000000 := by
  have h1 := seenN_le l
  have h2 : f b * seenN l ≤ 1000000 * 90 := Nat.mul_le_mul h h1
  unfold rateN fbN
  refine Nat.le_trans (Nat.div_le_self _ _) ?_
  omega
theorem nxS_lt {rate : Nat → Nat → Nat} {n : Nat} (h : ∀ b l, b < n → rate b l ≤ 1000000000) : ∀ p, p ≤ 3 * n → (nxS rate p).1 ≤ 1000000000
  | 0, _ => Nat.zero_le _
  | p + 1, hp => by
    unfold nxS
    split
    · exact h _ _ (by omega)
    · exact nxS_lt h p (by omega)
section
variable {ad : zA} {S : zSh} {I X : zI} {Y : zY} {sz : Nat} {n h : Nat} {w m : Nat → Nat} {R : RS}

theorem c_X5_nextLook (hD : ∀ k, S 3 k = dsh k) (hw : zWm n w m h I X) (hm : zRm 1 R I X) (hR : ROK R) (hnR : n = R.1 0)  : zC0 mX5_nextLook 5 [zr 3 22, zr 3 1] (some (zi (oI (nxS (rateN (wtN w m) (R.2.1 2)) (3 * n)).2))) ad S I X Y sz I X Y := by
  refine zgo (own := RX5) (k := 7) (by decide +kernel) rfl rfl rfl (fun C hC hnm hE => ?_)
  have hn := hw.2.2.2.2.1
  have hrt : ∀ b l, b < n → (rateN (wtN w m) (R.2.1 2)) b l ≤ 1000000000 := fun b l hb => rateN_lt (wtN_le hw hb).1
  have hnx := nxS_lt hrt
  refine z_iconst hC dX5_nextLook_0 (v := -1) rfl ?_
  refine z_istore_n hC dX5_nextLook_1 (lo2 := [_, _, _, _, _, _, _, _, _]) (Nat.le_of_ble_eq_true rfl) rfl rfl ?_
  refine z_lconst hC dX5_nextLook_2 (v := lN 0) rfl ?_
  refine z_lstore_n hC dX5_nextLook_3 (lo2 := [_, _, _, _, _, _, _, _, _]) (Nat.le_of_ble_eq_true rfl) rfl rfl ?_
  refine z_iconst hC dX5_nextLook_4 (v := nI 0) rfl ?_
  refine z_istore hC dX5_nextLook_5 (lo2 := [_, _, _, _, _, _, _, _, _]) (Nat.le_of_ble_eq_true rfl) rfl rfl ?_
  have loop7 : ∀ (fuel : Nat) (b : Nat), n - b < fuel → b ≤ n → zL C 9 ad S 0 0 sz I X Y 7 [some (zr 3 22), some (zr 3 1), some (zi (oI (nxS (rateN (wtN w m) (R.2.1 2)) (3 * b)).2)), some (zl (lN (nxS (rateN (wtN w m) (R.2.1 2)) (3 * b)).1)), none, some (zi (nI b)), none, none, none] [] := by
    intro fuel7
    induction fuel7 with
    | zero => intro b hfu; exact absurd hfu (Nat.not_lt_zero _)
    | succ fuel7 ih7 =>
      intro b hfu hbn0
      refine z_iload hC dX5_nextLook_7 rfl ?_
      refine z_aload_n hC dX5_nextLook_9 rfl ?_
      refine z_getN hC dX5_nextLook_10 (hD _) zfX5_36 rfl hw.1 ?_
      refine z_nicmp_ge hC dX5_nextLook_13 (tgt := 67) (by decide) (by omega) (by omega) (fun c13 => ?_) (fun c13 => ?_)
      · skip
        refine z_iload_n hC dX5_nextLook_67 rfl ?_
        refine z_iret hC dX5_nextLook_68 ?_
        exact hE.to (by rw [show n = b by omega]) rfl rfl rfl
      have hbn : b < n := by omega
      refine z_iconst hC dX5_nextLook_16 (v := nI 1) rfl ?_
      refine z_istore hC dX5_nextLook_17 (lo2 := [_, _, _, _, _, _, _, _, _]) (Nat.le_of_ble_eq_true rfl) rfl rfl ?_
      have loop19 : ∀ (fuel : Nat) (l : Nat), 3 - l < fuel → l ≤ 3 → zL C 9 ad S 0 0 sz I X Y 19 [some (zr 3 22), some (zr 3 1), some (zi (oI (nxS (rateN (wtN w m) (R.2.1 2)) (3 * b + l)).2)), some (zl (lN (nxS (rateN (wtN w m) (R.2.1 2)) (3 * b + l)).1)), none, some (zi (nI b)), some (zi (nI (l + 1))), none, none] [] := by
        intro fuel19
        induction fuel19 with
        | zero => intro l hfu; exact absurd hfu (Nat.not_lt_zero _)
        | succ fuel19 ih19 =>
          intro l hfu hl3
          refine z_iload hC dX5_nextLook_19 rfl ?_
          refine z_iconst hC dX5_nextLook_21 (v := nI 3) rfl ?_
          refine z_nicmp_gt hC dX5_nextLook_22 (tgt := 61) (by decide) (by omega) (by omega) (fun c22 => ?_) (fun c22 => ?_)
          · skip
            refine z_ninc hC dX5_nextLook_61 (lo2 := [_, _, _, _, _, _, _, _, _]) rfl rfl rfl rfl ?_
            refine z_goto hC dX5_nextLook_64 (tgt := 7) (by decide) ?_
            refine z_sub ?_ (ih7 (b + 1) (by omega) (by omega))
            rw [show 3 * (b + 1) = 3 * b + l by omega]
            simp [zsub]
          have hp1 := hnx (3 * b + l) (by omega)
          have hp2 := hrt b (l + 1) hbn
          refine z_aload_n hC dX5_nextLook_25 rfl ?_
          refine z_aload_n hC dX5_nextLook_26 rfl ?_
          refine z_iload hC dX5_nextLook_27 rfl ?_
          refine z_iload hC dX5_nextLook_29 rfl ?_
          refine zVv hC dX5_nextLook_31 zlX5_88 (c_X5_rateOf hD hw hm hR hnR hbn (by omega)) (hD _) rfl rfl rfl rfl rfl rfl ?_
          refine z_lstore hC dX5_nextLook_34 (lo2 := [_, _, _, _, _, _, _, _, _]) (Nat.le_of_ble_eq_true rfl) rfl rfl ?_
          refine z_lload hC dX5_nextLook_36 rfl ?_
          refine z_lload_n hC dX5_nextLook_38 rfl ?_
          refine z_lcmp hC dX5_nextLook_39  ?_
          refine z_if_le hC dX5_nextLook_40 (tgt := 55) (by decide) (fun c40 => ?_) (fun c40 => ?_)
          · skip
            rw [zlcmp_le (by omega) (by omega)] at c40
            try rw [Nat.not_le] at c40
            refine z_ninc hC dX5_nextLook_55 (lo2 := [_, _, _, _, _, _, _, _, _]) rfl rfl rfl rfl ?_
            refine z_goto hC dX5_nextLook_58 (tgt := 19) (by decide) ?_
            refine z_sub ?_ (ih19 (l + 1) (by omega) (by omega))
            rw [← Nat.add_assoc (3 * b) l 1]
            first | rw [nxS_0 (by omega) c40] | rw [nxS_1 (by omega) c40]
            simp [zsub, oI]
          rw [zlcmp_le (by omega) (by omega)] at c40
          try rw [Nat.not_le] at c40
          refine z_lload hC dX5_nextLook_43 rfl ?_
          refine z_lstore_n hC dX5_nextLook_45 (lo2 := [_, _, _, _, _, _, _, _, _]) (Nat.le_of_ble_eq_true rfl) rfl rfl ?_
          refine z_bipush hC dX5_nextLook_46 (v := nI 10) rfl ?_
          refine z_iload hC dX5_nextLook_48 rfl ?_
          refine z_nmul hC dX5_nextLook_50  ?_
          refine z_iload hC dX5_nextLook_51 rfl ?_
          refine z_nadd hC dX5_nextLook_53  ?_
          refine z_istore_n hC dX5_nextLook_54 (lo2 := [_, _, _, _, _, _, _, _, _]) (Nat.le_of_ble_eq_true rfl) rfl rfl ?_
          refine z_ninc hC dX5_nextLook_55 (lo2 := [_, _, _, _, _, _, _, _, _]) rfl rfl rfl rfl ?_
          refine z_goto hC dX5_nextLook_58 (tgt := 19) (by decide) ?_
          refine z_sub ?_ (ih19 (l + 1) (by omega) (by omega))
          rw [← Nat.add_assoc (3 * b) l 1]
          first | rw [nxS_0 (by omega) c40] | rw [nxS_1 (by omega) c40]
          simp [zsub, oI]
      exact z_sub (by simp [zsub]) (loop19 _ 0 (Nat.lt_succ_self _) (Nat.zero_le _))
  exact z_sub (by simp [zsub, nxS, oI]) (loop7 _ 0 (Nat.lt_succ_self _) (Nat.zero_le _))

theorem zrow_step {w y : Nat → Nat} {n : Nat} {m : Nat → Nat} {k b l : Nat} {X : zI} (hg : (nxS (rateN (wtN w (vnM w y n m k)) y) (3 * n)).2 = some (10 * b + l)) (hb : b < n) (hl : 1 ≤ l ∧ l ≤ 3) : up3 (zrow 3 24 (vnM w y n m k) n X) 3 24 b (nI (missN (vnM w y n m k b) l)) = zrow 3 24 (vnM w y n m (k + 1)) n X := by
  rw [vnM_some hg, show (10 * b + l) / 10 = b by omega, show (10 * b + l) % 10 = l by omega]
  funext b' c' j
  unfold up3 zrow
  by_cases h1 : b' = 3 ∧ c' = 24 ∧ j = b
  · obtain ⟨rfl, rfl, rfl⟩ := h1
    rw [if_pos ⟨rfl, rfl, rfl⟩, if_pos ⟨rfl, rfl, hb⟩]
    dsimp only
    rw [if_pos rfl]
  · rw [if_neg h1]
    by_cases h2 : b' = 3 ∧ c' = 24 ∧ j < n
    · rw [if_pos h2, if_pos h2]
      dsimp only
      rw [if_neg (by omega)]
    · rw [if_neg h2, if_neg h2]
theorem c_X5_lookOnInVain (hD : ∀ k, S 3 k = dsh k) (hw : zWm n w m h I X) (hm : zRm 1 R I X) (hR : ROK R) (hnR : n = R.1 0) {q : Nat} (hq : q ≤ 40) : zC0 mX5_lookOnInVain 6 [zr 3 22, zr 3 1, zi (nI q)] (none) ad S I X Y sz I (zrow 3 24 (vnM w (R.2.1 2) n m q) n X) Y := by
  refine zgo (own := RX5) (k := 2) (by decide +kernel) rfl rfl rfl (fun C hC hnm hE => ?_)
  have hn := hw.2.2.2.2.1
  have hvl := vnM_le (w := w) (y := R.2.1 2) (fun i hi => (hw.2.2.2.2.2.2 i hi).2)
  have hX0 : X = zrow 3 24 m n X := by
    funext b c j
    unfold zrow
    split
    · next e => obtain ⟨rfl, rfl, e3⟩ := e; exact hw.2.2.2.1 j e3
    · rfl
  refine z_iconst hC dX5_lookOnInVain_0 (v := nI 0) rfl ?_
  refine z_istore_n hC dX5_lookOnInVain_1 (lo2 := [_, _, _, _, _]) (Nat.le_of_ble_eq_true rfl) rfl rfl ?_
  have loop2 : ∀ (fuel : Nat) (k : Nat), q - k < fuel → k ≤ q → zL C 5 ad S 0 0 sz I (zrow 3 24 (vnM w (R.2.1 2) n m k) n X) Y 2 [some (zr 3 22), some (zr 3 1), some (zi (nI q)), some (zi (nI k)), none] [] := by
    intro fuel
    induction fuel with
    | zero => intro k hfu; exact absurd hfu (Nat.not_lt_zero _)
    | succ fuel ih =>
      intro k hfu hkq
      have hwk := zWm_miss hw (hvl k)
      have hmk : zRm 1 R I (zrow 3 24 (vnM w (R.2.1 2) n m k) n X) := hm.frame (fun _ _ _ _ => rfl) (fun k1 j h1 h2 => zrow_ne (by omega))
      refine z_iload_n hC dX5_lookOnInVain_2 rfl ?_
      refine z_iload_n hC dX5_lookOnInVain_3 rfl ?_
      refine z_nicmp_ge hC dX5_lookOnInVain_4 (tgt := 41) (by decide) (by omega) (by omega) (fun c4 => ?_) (fun c4 => ?_)
      · skip
        refine z_vret hC dX5_lookOnInVain_41 ?_
        exact hE.to (by rfl) rfl (by rw [show q = k by omega]) rfl
      refine z_aload_n hC dX5_lookOnInVain_7 rfl ?_
      refine z_aload_n hC dX5_lookOnInVain_8 rfl ?_
      refine zVv hC dX5_lookOnInVain_9 zlX5_98 (c_X5_nextLook hD hwk hmk hR hnR) (hD _) rfl rfl rfl rfl rfl rfl ?_
      refine z_istore hC dX5_lookOnInVain_12 (lo2 := [_, _, _, _, _]) (Nat.le_of_ble_eq_true rfl) rfl rfl ?_
      rcases hg : (nxS (rateN (wtN w (vnM w (R.2.1 2) n m k)) (R.2.1 2)) (3 * n)).2 with _ | g
      · skip
        show zL C 5 ad S 0 0 sz I _ Y _ [_, _, _, _, some (zi (-1))] _
        refine z_iload hC dX5_lookOnInVain_14 rfl ?_
        refine z_iconst hC dX5_lookOnInVain_16 (v := -1) rfl ?_
        refine z_icmp_ne hC dX5_lookOnInVain_17 (tgt := 21) (by decide) (fun c17 => ?_) (fun c17 => ?_)
        · exfalso; exact c17 rfl
        refine z_vret hC dX5_lookOnInVain_20 ?_
        exact hE.to (by rfl) rfl (by rw [vnM_none hg q (by omega)]) rfl
      · skip
        obtain ⟨b, l, hqd, hl1, hl3, hp⟩ := nxS_some hg
        have hbn : b < n := by omega
        subst hqd
        have e1 : (10 * b + l) / 10 = b := by omega
        have e2 : (10 * b + l) % 10 = l := by omega
        show zL C 5 ad S 0 0 sz I _ Y _ [_, _, _, _, some (zi (nI (10 * b + l)))] _
        refine z_iload hC dX5_lookOnInVain_14 rfl ?_
        refine z_iconst hC dX5_lookOnInVain_16 (v := -1) rfl ?_
        refine z_icmp_ne hC dX5_lookOnInVain_17 (tgt := 21) (by decide) (fun c17 => ?_) (fun c17 => ?_)
        rotate_left
        · exact absurd c17 (zne1 (by omega))
        refine z_aload_n hC dX5_lookOnInVain_21 rfl ?_
        refine z_iload hC dX5_lookOnInVain_22 rfl ?_
        refine z_bipush hC dX5_lookOnInVain_24 (v := nI 10) rfl ?_
        refine z_ndiv hC dX5_lookOnInVain_26 (by omega) (by omega) (by omega) ?_
        refine z_iload hC dX5_lookOnInVain_27 rfl ?_
        refine z_bipush hC dX5_lookOnInVain_29 (v := nI 10) rfl ?_
        refine z_nrem hC dX5_lookOnInVain_31 (by omega) (by omega) (by omega) ?_
        rw [e1, e2]
        refine zV0 hC dX5_lookOnInVain_32 zlX5_102 (c_X5_lookInVain hD hwk hbn hl3) (hD _) rfl rfl rfl rfl rfl rfl ?_
        refine z_ninc hC dX5_lookOnInVain_35 (lo2 := [_, _, _, _, _]) rfl rfl rfl rfl ?_
        refine z_goto hC dX5_lookOnInVain_38 (tgt := 2) (by decide) ?_
        rw [zrow_step hg hbn ⟨hl1, hl3⟩]
        exact z_sub (by simp [zsub]) (ih (k + 1) (by omega) (by omega))
  have h0 := loop2 _ 0 (Nat.lt_succ_self _) (Nat.zero_le _)
  rw [show vnM w (R.2.1 2) n m 0 = m from rfl, ← hX0] at h0
  exact h0

theorem heedW_1 {w : Nat → Nat} {b q left i : Nat} (h : q = 1 ↔ i ≤ b) : heedW w b q left i = w i * left / 100 := if_pos h
theorem heedW_0 {w : Nat → Nat} {b q left i : Nat} (h : ¬ (q = 1 ↔ i ≤ b)) : heedW w b q left i = w i := if_neg h
theorem heedH_1 {h q left : Nat} (e : q = 1) : heedH h q left = h := if_pos e
theorem heedH_0 {h q left : Nat} (e : ¬ q = 1) : heedH h q left = h * left / 100 := if_neg e
theorem c_X5_heed (hD : ∀ k, S 3 k = dsh k) (hw : zWm n w m h I X) {b q s : Nat} (hb : b < 14) (hq : q ≤ 1) (hs : s ≤ 100) : zC0 mX5_heed 0 [zr 3 22, zi (nI b), zi (nI q), zi (nI s)] (none) ad S I X Y sz (up3 I 3 22 3 (nI (heedH h q (100 - s)))) (zrow 3 23 (heedW w b q (100 - s)) n X) Y := by
  refine zgo (own := RX5) (k := 2) (by decide +kernel) rfl rfl rfl (fun C hC hnm hE => ?_)
  have hn := hw.2.2.2.2.1
  have hh := hw.2.2.2.2.2.1
  refine z_bipush hC dX5_heed_0 (v := nI 100) rfl ?_
  refine z_iload_n hC dX5_heed_2 rfl ?_
  refine z_nsub hC dX5_heed_3 (by omega) ?_
  refine z_istore hC dX5_heed_4 (lo2 := [_, _, _, _, _, _]) (Nat.le_of_ble_eq_true rfl) rfl rfl ?_
  refine z_iconst hC dX5_heed_6 (v := nI 0) rfl ?_
  refine z_istore hC dX5_heed_7 (lo2 := [_, _, _, _, _, _]) (Nat.le_of_ble_eq_true rfl) rfl rfl ?_
  have loop9 : ∀ (fuel : Nat) (i : Nat), n - i < fuel → i ≤ n → zL C 6 ad S 0 0 sz I (zrow 3 23 (heedW w b q (100 - s)) i X) Y 9 [some (zr 3 22), some (zi (nI b)), some (zi (nI q)), some (zi (nI s)), some (zi (nI (100 - s))), some (zi (nI i))] [] := by
    intro fuel
    induction fuel with
    | zero => intro i hfu; exact absurd hfu (Nat.not_lt_zero _)
    | succ fuel ih =>
      intro i hfu hin
      refine z_iload hC dX5_heed_9 rfl ?_
      refine z_aload_n hC dX5_heed_11 rfl ?_
      refine z_getN hC dX5_heed_12 (hD _) zfX5_36 rfl hw.1 ?_
      refine z_nicmp_ge hC dX5_heed_15 (tgt := 59) (by decide) (by omega) (by omega) (fun c15 => ?_) (fun c15 => ?_)
      · skip
        refine z_iload_n hC dX5_heed_59 rfl ?_
        refine z_nif_ne hC dX5_heed_60 (tgt := 77) (by decide) (by omega) (fun c60 => ?_) (fun c60 => ?_)
        · skip
          refine z_vret hC dX5_heed_77 ?_
          exact hE.to (by rfl) (by first | (rw [heedH_1 (by omega), ← hw.2.1]; exact up3_self _ _ _ _) | rw [heedH_0 (by omega)]) (by rw [show n = i by omega]) rfl
        have hhq : h * (100 - s) ≤ 1000000 * 100 := Nat.mul_le_mul hh (by omega)
        refine z_aload_n hC dX5_heed_63 rfl ?_
        refine z_aload_n hC dX5_heed_64 rfl ?_
        refine z_getN hC dX5_heed_65 (hD _) zfX5_47 rfl hw.2.1 ?_
        refine z_iload hC dX5_heed_68 rfl ?_
        refine z_nmul hC dX5_heed_70  ?_
        refine z_bipush hC dX5_heed_71 (v := nI 100) rfl ?_
        refine z_ndiv hC dX5_heed_73 (by omega) (by omega) (by omega) ?_
        refine z_putI hC dX5_heed_74 (hD _) zfX5_47 rfl rfl rfl rfl ?_
        refine z_vret hC dX5_heed_77 ?_
        exact hE.to (by rfl) (by first | (rw [heedH_1 (by omega), ← hw.2.1]; exact up3_self _ _ _ _) | rw [heedH_0 (by omega)]) (by rw [show n = i by omega]) rfl
      have hi : i < n := by omega
      have hwi := (hw.2.2.2.2.2.2 i hi).1
      have hwq : w i * (100 - s) ≤ 1000000 * 100 := Nat.mul_le_mul hwi (by omega)
      refine z_iload_n hC dX5_heed_18 rfl ?_
      refine z_iload hC dX5_heed_19 rfl ?_
      refine z_iload_n hC dX5_heed_21 rfl ?_
      refine z_nicmp_gt hC dX5_heed_22 (tgt := 29) (by decide) (by omega) (by omega) (fun c22 => ?_) (fun c22 => ?_)
      · skip
        refine z_iconst hC dX5_heed_29 (v := nI 0) rfl ?_
        refine z_nicmp_ne hC dX5_heed_30 (tgt := 53) (by decide) (by omega) (by omega) (fun c30 => ?_) (fun c30 => ?_)
        · skip
          refine z_ninc hC dX5_heed_53 (lo2 := [_, _, _, _, _, _]) rfl rfl rfl rfl ?_
          refine z_goto hC dX5_heed_56 (tgt := 9) (by decide) ?_
          first | (rw [show nI (w i * (100 - s) / 100) = nI (heedW w b q (100 - s) i) by rw [heedW_1 (by omega)], zrow_s]; exact ih (i + 1) (by omega) (by omega)) | (rw [← zrow_same (f := heedW w b q (100 - s)) (k := i) (by rw [heedW_0 (by omega)]; exact hw.2.2.1 i hi)]; exact ih (i + 1) (by omega) (by omega))
        refine z_aload_n hC dX5_heed_33 rfl ?_
        refine z_getR hC dX5_heed_34 (hD _) zfX5_9 rfl ?_
        refine z_iload hC dX5_heed_37 rfl ?_
        refine z_aload_n hC dX5_heed_39 rfl ?_
        refine z_getR hC dX5_heed_40 (hD _) zfX5_9 rfl ?_
        refine z_iload hC dX5_heed_43 rfl ?_
        refine z_naldN hC dX5_heed_45 (hD _) (by omega) rfl (show _ = nI (w i) by rw [zrow_ne (by omega)]; exact hw.2.2.1 i hi) ?_
        refine z_iload hC dX5_heed_46 rfl ?_
        refine z_nmul hC dX5_heed_48  ?_
        refine z_bipush hC dX5_heed_49 (v := nI 100) rfl ?_
        refine z_ndiv hC dX5_heed_51 (by omega) (by omega) (by omega) ?_
        refine z_niast hC dX5_heed_52 (hD _) (by omega) rfl ?_
        refine z_ninc hC dX5_heed_53 (lo2 := [_, _, _, _, _, _]) rfl rfl rfl rfl ?_
        refine z_goto hC dX5_heed_56 (tgt := 9) (by decide) ?_
        first | (rw [show nI (w i * (100 - s) / 100) = nI (heedW w b q (100 - s) i) by rw [heedW_1 (by omega)], zrow_s]; exact ih (i + 1) (by omega) (by omega)) | (rw [← zrow_same (f := heedW w b q (100 - s)) (k := i) (by rw [heedW_0 (by omega)]; exact hw.2.2.1 i hi)]; exact ih (i + 1) (by omega) (by omega))
      refine z_iconst hC dX5_heed_25 (v := nI 1) rfl ?_
      refine z_goto hC dX5_heed_26 (tgt := 30) (by decide) ?_
      refine z_nicmp_ne hC dX5_heed_30 (tgt := 53) (by decide) (by omega) (by omega) (fun c30 => ?_) (fun c30 => ?_)
      · skip
        refine z_ninc hC dX5_heed_53 (lo2 := [_, _, _, _, _, _]) rfl rfl rfl rfl ?_
        refine z_goto hC dX5_heed_56 (tgt := 9) (by decide) ?_
        first | (rw [show nI (w i * (100 - s) / 100) = nI (heedW w b q (100 - s) i) by rw [heedW_1 (by omega)], zrow_s]; exact ih (i + 1) (by omega) (by omega)) | (rw [← zrow_same (f := heedW w b q (100 - s)) (k := i) (by rw [heedW_0 (by omega)]; exact hw.2.2.1 i hi)]; exact ih (i + 1) (by omega) (by omega))
      refine z_aload_n hC dX5_heed_33 rfl ?_
      refine z_getR hC dX5_heed_34 (hD _) zfX5_9 rfl ?_
      refine z_iload hC dX5_heed_37 rfl ?_
      refine z_aload_n hC dX5_heed_39 rfl ?_
      refine z_getR hC dX5_heed_40 (hD _) zfX5_9 rfl ?_
      refine z_iload hC dX5_heed_43 rfl ?_
      refine z_naldN hC dX5_heed_45 (hD _) (by omega) rfl (show _ = nI (w i) by rw [zrow_ne (by omega)]; exact hw.2.2.1 i hi) ?_
      refine z_iload hC dX5_heed_46 rfl ?_
      refine z_nmul hC dX5_heed_48  ?_
      refine z_bipush hC dX5_heed_49 (v := nI 100) rfl ?_
      refine z_ndiv hC dX5_heed_51 (by omega) (by omega) (by omega) ?_
      refine z_niast hC dX5_heed_52 (hD _) (by omega) rfl ?_
      refine z_ninc hC dX5_heed_53 (lo2 := [_, _, _, _, _, _]) rfl rfl rfl rfl ?_
      refine z_goto hC dX5_heed_56 (tgt := 9) (by decide) ?_
      first | (rw [show nI (w i * (100 - s) / 100) = nI (heedW w b q (100 - s) i) by rw [heedW_1 (by omega)], zrow_s]; exact ih (i + 1) (by omega) (by omega)) | (rw [← zrow_same (f := heedW w b q (100 - s)) (k := i) (by rw [heedW_0 (by omega)]; exact hw.2.2.1 i hi)]; exact ih (i + 1) (by omega) (by omega))
  have h0 := loop9 _ 0 (Nat.lt_succ_self _) (Nat.zero_le _)
  rw [zrow_0] at h0
  exact h0

end
