/-! Tape: words, numbers, tokens -/
theorem tkI_e {I : zI} {a s e e' : Nat} : up3 (tkI I a s e) 3 30 4 (nI e') = tkI I a s e' := by
  unfold tkI; rw [up3_up3]
section
variable {ad : zA} {S : zSh} {I X : zI} {Y : zY} {sz : Nat} {T : Nat → Nat} {z : Nat}

theorem c_X4_isWord (hD : ∀ k, S 3 k = dsh k) (hT : zTp T z I X) {a e : Nat} (ha : I 3 30 3 = nI a) (he : I 3 30 4 = nI e) (hae : a ≤ e) (hez : e ≤ z) {j : Nat} (hj : j < 8) : zC0 mX4_isWord 4 [zr 3 30, zr 5 j] (some (zi (zb (wrd T a e j) inferInstance))) ad S I X Y sz I X Y := by
  refine zgo (own := RX4) (k := 1) (by decide +kernel) rfl rfl rfl (fun C hC hnm hE => ?_)
  have hz := hT.2.2.1
  have hl := zsl4 j hj
  refine z_aload_n hC dX4_isWord_0 rfl ?_
  refine z_getN hC dX4_isWord_1 (hD _) zfX4_22 rfl he ?_
  refine z_aload_n hC dX4_isWord_4 rfl ?_
  refine z_getN hC dX4_isWord_5 (hD _) zfX4_32 rfl ha ?_
  refine z_nsub hC dX4_isWord_8 (by omega) ?_
  refine z_aload_n hC dX4_isWord_9 rfl ?_
  refine zTv hC dX4_isWord_10 zlX4_109 (c_J0_length_8abf5 hj) hj rfl rfl rfl rfl rfl ?_
  refine z_nicmp_eq hC dX4_isWord_13 (tgt := 18) (by decide) (by omega) (by omega) (fun c13 => ?_) (fun c13 => ?_)
  · skip
    refine z_iconst hC dX4_isWord_18 (v := nI 0) rfl ?_
    refine z_istore_n hC dX4_isWord_19 (lo2 := [_, _, _]) (Nat.le_of_ble_eq_true rfl) rfl rfl ?_
    have loop20 : ∀ (fuel : Nat) (i : Nat), zSl.getD j 0 - i < fuel → i ≤ zSl.getD j 0 → (∀ k, k < i → T (a + k) = wdN j k) → zL C 3 ad S 0 0 sz I X Y 20 [some (zr 3 30), some (zr 5 j), some (zi (nI i))] [] := by
      intro fuel
      induction fuel with
      | zero => intro i hfu; exact absurd hfu (Nat.not_lt_zero _)
      | succ fuel ih =>
        intro i hfu hil hpre
        refine z_iload_n hC dX4_isWord_20 rfl ?_
        refine z_aload_n hC dX4_isWord_21 rfl ?_
        refine zTv hC dX4_isWord_22 zlX4_109 (c_J0_length_8abf5 hj) hj rfl rfl rfl rfl rfl ?_
        refine z_nicmp_ge hC dX4_isWord_25 (tgt := 54) (by decide) (by omega) (by omega) (fun c25 => ?_) (fun c25 => ?_)
        · skip
          refine z_iconst hC dX4_isWord_54 (v := nI 1) rfl ?_
          refine z_zret hC dX4_isWord_55 rfl ?_
          exact hE.to (zbT ⟨c13, fun k hk => hpre k (by omega)⟩) rfl rfl rfl
        have hi : i < zSl.getD j 0 := by omega
        have hwb := zwd j hj i hi
        have hTb := hT.2.2.2 (a + i) (by omega)
        refine z_aload_n hC dX4_isWord_28 rfl ?_
        refine z_aload_n hC dX4_isWord_29 rfl ?_
        refine z_getN hC dX4_isWord_30 (hD _) zfX4_32 rfl ha ?_
        refine z_iload_n hC dX4_isWord_33 rfl ?_
        refine z_nadd hC dX4_isWord_34  ?_
        refine zVv hC dX4_isWord_35 zlX4_83 (c_X4_byteAt hD hT (p := a + i) (by omega)) (hD _) rfl rfl rfl rfl rfl rfl ?_
        refine z_aload_n hC dX4_isWord_38 rfl ?_
        refine z_iload_n hC dX4_isWord_39 rfl ?_
        refine zTv hC dX4_isWord_40 zlX4_114 (c_J0_charAt_5068e hj hi) hj rfl rfl rfl rfl rfl ?_
        refine z_nicmp_eq hC dX4_isWord_43 (tgt := 48) (by decide) (by omega) (by omega) (fun c43 => ?_) (fun c43 => ?_)
        · skip
          refine z_ninc hC dX4_isWord_48 (lo2 := [_, _, _]) rfl rfl rfl rfl ?_
          refine z_goto hC dX4_isWord_51 (tgt := 20) (by decide) ?_
          refine ih (i + 1) (by omega) (by omega) (fun k hk => ?_)
          by_cases e1 : k = i
          · rw [e1]; exact c43
          · exact hpre k (by omega)
        refine z_iconst hC dX4_isWord_46 (v := nI 0) rfl ?_
        refine z_zret hC dX4_isWord_47 rfl ?_
        exact hE.to (zbF (fun h => c43 (h.2 i hi))) rfl rfl rfl
    exact loop20 _ 0 (Nat.lt_succ_self _) (Nat.zero_le _) (fun k hk => absurd hk (Nat.not_lt_zero _))
  refine z_iconst hC dX4_isWord_16 (v := nI 0) rfl ?_
  refine z_zret hC dX4_isWord_17 rfl ?_
  exact hE.to (zbF (fun h => c13 h.1)) rfl rfl rfl

theorem c_X4_statementOf (hD : ∀ k, S 3 k = dsh k) (hT : zTp T z I X) {a e : Nat} (ha : I 3 30 3 = nI a) (he : I 3 30 4 = nI e) (hae : a ≤ e) (hez : e ≤ z)  : zC0 mX4_statementOf 5 [zr 3 30] (some (zi (oI (wstN T a e)))) ad S I X Y sz I X Y := by
  refine zgo (own := RX4) (k := 0) (by decide +kernel) rfl rfl rfl (fun C hC hnm hE => ?_)
  refine z_aload_n hC dX4_statementOf_0 rfl ?_
  refine z_ldcS hC (j := 0) (List.mem_of_getElem? (i := 0) rfl) dX4_statementOf_1 ?_
  refine zVv hC dX4_statementOf_3 zlX4_91 (c_X4_isWord hD hT ha he hae hez (j := 0) (by decide)) (hD _) rfl rfl rfl rfl rfl rfl ?_
  refine z_ifb_eq hC dX4_statementOf_6 (tgt := 11) (by decide) (fun c6 => ?_) (fun c6 => ?_)
  · skip
    refine z_aload_n hC dX4_statementOf_11 rfl ?_
    refine z_ldcS hC (j := 1) (List.mem_of_getElem? (i := 1) rfl) dX4_statementOf_12 ?_
    refine zVv hC dX4_statementOf_14 zlX4_91 (c_X4_isWord hD hT ha he hae hez (j := 1) (by decide)) (hD _) rfl rfl rfl rfl rfl rfl ?_
    refine z_ifb_eq hC dX4_statementOf_17 (tgt := 22) (by decide) (fun c17 => ?_) (fun c17 => ?_)
    · skip
      refine z_aload_n hC dX4_statementOf_22 rfl ?_
      refine z_ldcS hC (j := 2) (List.mem_of_getElem? (i := 2) rfl) dX4_statementOf_23 ?_
      refine zVv hC dX4_statementOf_25 zlX4_91 (c_X4_isWord hD hT ha he hae hez (j := 2) (by decide)) (hD _) rfl rfl rfl rfl rfl rfl ?_
      refine z_ifb_eq hC dX4_statementOf_28 (tgt := 33) (by decide) (fun c28 => ?_) (fun c28 => ?_)
      · skip
        refine z_aload_n hC dX4_statementOf_33 rfl ?_
        refine z_ldcS hC (j := 3) (List.mem_of_getElem? (i := 3) rfl) dX4_statementOf_34 ?_
        refine zVv hC dX4_statementOf_36 zlX4_91 (c_X4_isWord hD hT ha he hae hez (j := 3) (by decide)) (hD _) rfl rfl rfl rfl rfl rfl ?_
        refine z_ifb_eq hC dX4_statementOf_39 (tgt := 44) (by decide) (fun c39 => ?_) (fun c39 => ?_)
        · skip
          refine z_aload_n hC dX4_statementOf_44 rfl ?_
          refine z_ldcS hC (j := 4) (List.mem_of_getElem? (i := 4) rfl) dX4_statementOf_45 ?_
          refine zVv hC dX4_statementOf_47 zlX4_91 (c_X4_isWord hD hT ha he hae hez (j := 4) (by decide)) (hD _) rfl rfl rfl rfl rfl rfl ?_
          refine z_ifb_eq hC dX4_statementOf_50 (tgt := 55) (by decide) (fun c50 => ?_) (fun c50 => ?_)
          · skip
            refine z_aload_n hC dX4_statementOf_55 rfl ?_
            refine z_ldcS hC (j := 5) (List.mem_of_getElem? (i := 5) rfl) dX4_statementOf_56 ?_
            refine zVv hC dX4_statementOf_58 zlX4_91 (c_X4_isWord hD hT ha he hae hez (j := 5) (by decide)) (hD _) rfl rfl rfl rfl rfl rfl ?_
            refine z_ifb_eq hC dX4_statementOf_61 (tgt := 66) (by decide) (fun c61 => ?_) (fun c61 => ?_)
            · skip
              refine z_aload_n hC dX4_statementOf_66 rfl ?_
              refine z_ldcS hC (j := 6) (List.mem_of_getElem? (i := 6) rfl) dX4_statementOf_67 ?_
              refine zVv hC dX4_statementOf_69 zlX4_91 (c_X4_isWord hD hT ha he hae hez (j := 6) (by decide)) (hD _) rfl rfl rfl rfl rfl rfl ?_
              refine z_ifb_eq hC dX4_statementOf_72 (tgt := 78) (by decide) (fun c72 => ?_) (fun c72 => ?_)
              · skip
                refine z_aload_n hC dX4_statementOf_78 rfl ?_
                refine z_ldcS hC (j := 7) (List.mem_of_getElem? (i := 7) rfl) dX4_statementOf_79 ?_
                refine zVv hC dX4_statementOf_81 zlX4_91 (c_X4_isWord hD hT ha he hae hez (j := 7) (by decide)) (hD _) rfl rfl rfl rfl rfl rfl ?_
                refine z_ifb_eq hC dX4_statementOf_84 (tgt := 92) (by decide) (fun c84 => ?_) (fun c84 => ?_)
                · skip
                  refine z_iconst hC dX4_statementOf_92 (v := -1) rfl ?_
                  refine z_iret hC dX4_statementOf_93 ?_
                  exact hE.to (by first | (rw [wstN, if_neg c6, if_neg c17, if_neg c28, if_neg c39, if_neg c50, if_neg c61, if_neg c72, if_pos c84]; rfl) | (rw [wstN, if_neg c6, if_neg c17, if_neg c28, if_neg c39, if_neg c50, if_neg c61, if_neg c72, if_neg c84]; rfl)) rfl rfl rfl
                refine z_bipush hC dX4_statementOf_87 (v := nI 7) rfl ?_
                refine z_goto hC dX4_statementOf_89 (tgt := 93) (by decide) ?_
                refine z_iret hC dX4_statementOf_93 ?_
                exact hE.to (by first | (rw [wstN, if_neg c6, if_neg c17, if_neg c28, if_neg c39, if_neg c50, if_neg c61, if_neg c72, if_pos c84]; rfl) | (rw [wstN, if_neg c6, if_neg c17, if_neg c28, if_neg c39, if_neg c50, if_neg c61, if_neg c72, if_neg c84]; rfl)) rfl rfl rfl
              refine z_bipush hC dX4_statementOf_75 (v := nI 6) rfl ?_
              refine z_iret hC dX4_statementOf_77 ?_
              exact hE.to (by rw [wstN, if_neg c6, if_neg c17, if_neg c28, if_neg c39, if_neg c50, if_neg c61, if_pos c72]; rfl) rfl rfl rfl
            refine z_iconst hC dX4_statementOf_64 (v := nI 5) rfl ?_
            refine z_iret hC dX4_statementOf_65 ?_
            exact hE.to (by rw [wstN, if_neg c6, if_neg c17, if_neg c28, if_neg c39, if_neg c50, if_pos c61]; rfl) rfl rfl rfl
          refine z_iconst hC dX4_statementOf_53 (v := nI 4) rfl ?_
          refine z_iret hC dX4_statementOf_54 ?_
          exact hE.to (by rw [wstN, if_neg c6, if_neg c17, if_neg c28, if_neg c39, if_pos c50]; rfl) rfl rfl rfl
        refine z_iconst hC dX4_statementOf_42 (v := nI 3) rfl ?_
        refine z_iret hC dX4_statementOf_43 ?_
        exact hE.to (by rw [wstN, if_neg c6, if_neg c17, if_neg c28, if_pos c39]; rfl) rfl rfl rfl
      refine z_iconst hC dX4_statementOf_31 (v := nI 2) rfl ?_
      refine z_iret hC dX4_statementOf_32 ?_
      exact hE.to (by rw [wstN, if_neg c6, if_neg c17, if_pos c28]; rfl) rfl rfl rfl
    refine z_iconst hC dX4_statementOf_20 (v := nI 1) rfl ?_
    refine z_iret hC dX4_statementOf_21 ?_
    exact hE.to (by rw [wstN, if_neg c6, if_pos c17]; rfl) rfl rfl rfl
  refine z_iconst hC dX4_statementOf_9 (v := nI 0) rfl ?_
  refine z_iret hC dX4_statementOf_10 ?_
  exact hE.to (by rw [wstN, if_pos c6]; rfl) rfl rfl rfl

theorem c_X4_valueOf (hD : ∀ k, S 3 k = dsh k) (hT : zTp T z I X) {a e : Nat} (ha : I 3 30 3 = nI a) (he : I 3 30 4 = nI e) (hae : a ≤ e) (hez : e ≤ z) (h4 : e - a ≤ 4) (hd : ∀ i, a ≤ i → i < e → srt1 (T i) = 2) : zC0 mX4_valueOf 1 [zr 3 30] (some (zi (nI (vlN T a (e - a))))) ad S I X Y sz I X Y := by
  refine zgo (own := RX4) (k := 2) (by decide +kernel) rfl rfl rfl (fun C hC hnm hE => ?_)
  have hz := hT.2.2.1
  refine z_iconst hC dX4_valueOf_0 (v := nI 0) rfl ?_
  refine z_istore_n hC dX4_valueOf_1 (lo2 := [_, _, _]) (Nat.le_of_ble_eq_true rfl) rfl rfl ?_
  refine z_aload_n hC dX4_valueOf_2 rfl ?_
  refine z_getN hC dX4_valueOf_3 (hD _) zfX4_32 rfl ha ?_
  refine z_istore_n hC dX4_valueOf_6 (lo2 := [_, _, _]) (Nat.le_of_ble_eq_true rfl) rfl rfl ?_
  have loop7 : ∀ (fuel : Nat) (k : Nat), e - a - k < fuel → k ≤ e - a → zL C 3 ad S 0 0 sz I X Y 7 [some (zr 3 30), some (zi (nI (vlN T a k))), some (zi (nI (a + k)))] [] := by
    intro fuel
    induction fuel with
    | zero => intro k hfu; exact absurd hfu (Nat.not_lt_zero _)
    | succ fuel ih =>
      intro k hfu hk
      refine z_iload_n hC dX4_valueOf_7 rfl ?_
      refine z_aload_n hC dX4_valueOf_8 rfl ?_
      refine z_getN hC dX4_valueOf_9 (hD _) zfX4_22 rfl he ?_
      refine z_nicmp_ge hC dX4_valueOf_12 (tgt := 35) (by decide) (by omega) (by omega) (fun c12 => ?_) (fun c12 => ?_)
      · skip
        refine z_iload_n hC dX4_valueOf_35 rfl ?_
        refine z_iret hC dX4_valueOf_36 ?_
        exact hE.to (by rw [show e - a = k by omega]) rfl rfl rfl
      have hd1 := srt_2 (hd (a + k) (by omega) (by omega))
      refine z_bipush hC dX4_valueOf_15 (v := nI 10) rfl ?_
      refine z_iload_n hC dX4_valueOf_17 rfl ?_
      refine z_nmul hC dX4_valueOf_18  ?_
      refine z_aload_n hC dX4_valueOf_19 rfl ?_
      refine z_iload_n hC dX4_valueOf_20 rfl ?_
      refine zVv hC dX4_valueOf_21 zlX4_83 (c_X4_byteAt hD hT (p := a + k) (by omega)) (hD _) rfl rfl rfl rfl rfl rfl ?_
      refine z_nadd hC dX4_valueOf_24  ?_
      refine z_bipush hC dX4_valueOf_25 (v := nI 48) rfl ?_
      refine z_nsub hC dX4_valueOf_27 (by omega) ?_
      refine z_istore_n hC dX4_valueOf_28 (lo2 := [_, _, _]) (Nat.le_of_ble_eq_true rfl) rfl rfl ?_
      refine z_ninc hC dX4_valueOf_29 (lo2 := [_, _, _]) rfl rfl rfl rfl ?_
      refine z_goto hC dX4_valueOf_32 (tgt := 7) (by decide) ?_
      exact ih (k + 1) (by omega) (by omega)
  exact loop7 _ 0 (Nat.lt_succ_self _) (Nat.zero_le _)

theorem c_X4_step (hD : ∀ k, S 3 k = dsh k) (hT : zTp T z I X) {e0 : Nat} (he : I 3 30 4 = nI e0) (hez : e0 ≤ z) : zC0 mX4_step 1 [zr 3 30] (none) ad S I X Y sz (tkI I (tkA T z e0) (tkS T z e0) (tkE T z e0)) X Y := by
  refine zgo (own := RX4) (k := 0) (by decide +kernel) rfl rfl rfl (fun C hC hnm hE => ?_)
  have hz := hT.2.2.1
  refine z_aload_n hC dX4_step_0 rfl ?_
  refine z_aload_n hC dX4_step_1 rfl ?_
  refine z_getN hC dX4_step_2 (hD _) zfX4_22 rfl he ?_
  refine z_putI hC dX4_step_5 (hD _) zfX4_32 rfl rfl rfl rfl ?_
  have loop8 : ∀ (fuel : Nat) (p : Nat), z - p < fuel → p ≤ z → skN T z p = skN T z e0 → zL C 1 ad S 0 0 sz (up3 I 3 30 3 (nI p)) X Y 8 [some (zr 3 30)] [] := by
    intro fuel8
    induction fuel8 with
    | zero => intro p hfu; exact absurd hfu (Nat.not_lt_zero _)
    | succ fuel8 ih8 =>
      intro p hfu hpz0 hsk
      have hTp : zTp T z (up3 I 3 30 3 (nI p)) X := hT.frame (up3_ne (by omega)) (fun _ => rfl)
      refine z_aload_n hC dX4_step_8 rfl ?_
      refine z_getN hC dX4_step_9 (hD _) zfX4_32 rfl (up3_eq _ _ _ _ _) ?_
      refine z_aload_n hC dX4_step_12 rfl ?_
      refine z_getN hC dX4_step_13 (hD _) zfX4_18 rfl hTp.1 ?_
      refine z_nicmp_ge hC dX4_step_16 (tgt := 45) (by decide) (by omega) (by omega) (fun c16 => ?_) (fun c16 => ?_)
      · skip
        obtain rfl : p = z := by omega
        · skip
          have hA : tkA T p e0 = p := by show skN T p e0 = p; rw [← hsk, skN_z (Nat.le_refl _)]
          have hS : tkS T p e0 = 0 := by unfold tkS; rw [hA, if_neg (Nat.lt_irrefl _)]
          have hE1 : tkE T p e0 = p := by unfold tkE; rw [if_neg (by omega), if_pos hS, hA]
          refine z_aload_n hC dX4_step_45 rfl ?_
          refine z_aload_n hC dX4_step_46 rfl ?_
          refine z_aload_n hC dX4_step_47 rfl ?_
          refine z_getN hC dX4_step_48 (hD _) zfX4_32 rfl (up3_eq _ _ _ _ _) ?_
          refine zVv hC dX4_step_51 zlX4_83 (c_X4_byteAt0 hD hTp (Nat.le_refl _) hz) (hD _) rfl rfl rfl rfl rfl rfl ?_
          refine zSv hC dX4_step_54 zlX4_86 c_X4_sortOf0 rfl rfl rfl rfl ?_
          refine z_putI hC dX4_step_57 (hD _) zfX4_35 rfl rfl rfl rfl ?_
          refine z_aload_n hC dX4_step_60 rfl ?_
          refine z_aload_n hC dX4_step_61 rfl ?_
          refine z_getN hC dX4_step_62 (hD _) zfX4_32 rfl (by rw [up3_ne (by omega), up3_eq]) ?_
          refine z_putI hC dX4_step_65 (hD _) zfX4_22 rfl rfl rfl rfl ?_
          change zL C 1 ad S 0 0 sz (tkI I p 0 p) X Y _ _ _
          refine z_aload_n hC dX4_step_68 rfl ?_
          refine z_getN hC dX4_step_69 (hD _) zfX4_35 rfl tkI_2 ?_
          refine z_iconst hC dX4_step_72 (v := nI 1) rfl ?_
          refine z_nicmp_eq hC dX4_step_73 (tgt := 84) (by decide) (by omega) (by omega) (fun c73 => ?_) (fun c73 => ?_)
          · exfalso; omega
          refine z_aload_n hC dX4_step_76 rfl ?_
          refine z_getN hC dX4_step_77 (hD _) zfX4_35 rfl tkI_2 ?_
          refine z_iconst hC dX4_step_80 (v := nI 2) rfl ?_
          refine z_nicmp_ne hC dX4_step_81 (tgt := 126) (by decide) (by omega) (by omega) (fun c81 => ?_) (fun c81 => ?_)
          rotate_left
          · exfalso; omega
          refine z_aload_n hC dX4_step_126 rfl ?_
          refine z_getN hC dX4_step_127 (hD _) zfX4_35 rfl tkI_2 ?_
          refine z_nif_eq hC dX4_step_130 (tgt := 143) (by decide) (by omega) (fun c130 => ?_) (fun c130 => ?_)
          rotate_left
          · exfalso; omega
          refine z_vret hC dX4_step_143 ?_
          exact hE.to (by rfl) (by rw [hA, hS, hE1]) rfl rfl
      have hpz : p < z := by omega
      have hTp0 := hT.2.2.2 p hpz
      refine z_aload_n hC dX4_step_19 rfl ?_
      refine z_aload_n hC dX4_step_20 rfl ?_
      refine z_getN hC dX4_step_21 (hD _) zfX4_32 rfl (up3_eq _ _ _ _ _) ?_
      refine zVv hC dX4_step_24 zlX4_83 (c_X4_byteAt hD hTp hpz) (hD _) rfl rfl rfl rfl rfl rfl ?_
      refine z_bipush hC dX4_step_27 (v := nI 32) rfl ?_
      refine z_nicmp_ne hC dX4_step_29 (tgt := 45) (by decide) (by omega) (by omega) (fun c29 => ?_) (fun c29 => ?_)
      · skip
        have hTb0 := hT.2.2.2 p hpz
        have hsb := srt1_b (T p)
        · skip
          have hA : tkA T z e0 = p := by show skN T z e0 = p; rw [← hsk, skN_0 hpz c29]
          have hS : tkS T z e0 = srt1 (T p) := by unfold tkS; rw [hA, if_pos hpz]
          refine z_aload_n hC dX4_step_45 rfl ?_
          refine z_aload_n hC dX4_step_46 rfl ?_
          refine z_aload_n hC dX4_step_47 rfl ?_
          refine z_getN hC dX4_step_48 (hD _) zfX4_32 rfl (up3_eq _ _ _ _ _) ?_
          refine zVv hC dX4_step_51 zlX4_83 (c_X4_byteAt hD hTp hpz) (hD _) rfl rfl rfl rfl rfl rfl ?_
          refine zSv hC dX4_step_54 zlX4_86 (c_X4_sortOf hTb0) rfl rfl rfl rfl ?_
          refine z_putI hC dX4_step_57 (hD _) zfX4_35 rfl rfl rfl rfl ?_
          refine z_aload_n hC dX4_step_60 rfl ?_
          refine z_aload_n hC dX4_step_61 rfl ?_
          refine z_getN hC dX4_step_62 (hD _) zfX4_32 rfl (by rw [up3_ne (by omega), up3_eq]) ?_
          refine z_putI hC dX4_step_65 (hD _) zfX4_22 rfl rfl rfl rfl ?_
          change zL C 1 ad S 0 0 sz (tkI I p (srt1 (T p)) p) X Y _ _ _
          refine z_aload_n hC dX4_step_68 rfl ?_
          refine z_getN hC dX4_step_69 (hD _) zfX4_35 rfl tkI_2 ?_
          refine z_iconst hC dX4_step_72 (v := nI 1) rfl ?_
          refine z_nicmp_eq hC dX4_step_73 (tgt := 84) (by decide) (by omega) (by omega) (fun c73 => ?_) (fun c73 => ?_)
          · skip
            have loop84 : ∀ (fuel : Nat) (q : Nat), z - q < fuel → q ≤ z → enN T z (srt1 (T p)) q = enN T z (srt1 (T p)) p → zL C 1 ad S 0 0 sz (tkI I p (srt1 (T p)) q) X Y 84 [some (zr 3 30)] [] := by
              intro fuel84
              induction fuel84 with
              | zero => intro q hfu; exact absurd hfu (Nat.not_lt_zero _)
              | succ fuel84 ih84 =>
                intro q hfu hqz0 hen
                have hTq : zTp T z (tkI I p (srt1 (T p)) q) X := hT.frame (tkI_ne (by omega)) (fun _ => rfl)
                refine z_aload_n hC dX4_step_84 rfl ?_
                refine z_getN hC dX4_step_85 (hD _) zfX4_22 rfl tkI_4 ?_
                refine z_aload_n hC dX4_step_88 rfl ?_
                refine z_getN hC dX4_step_89 (hD _) zfX4_18 rfl hTq.1 ?_
                refine z_nicmp_ge hC dX4_step_92 (tgt := 143) (by decide) (by omega) (by omega) (fun c92 => ?_) (fun c92 => ?_)
                · skip
                  refine z_vret hC dX4_step_143 ?_
                  exact hE.to (by rfl) (by rw [hA, hS]; unfold tkE; rw [hS, hA]; first | rw [if_neg (by omega), if_neg (by omega)] | rw [if_pos (by omega), ← hen, enN_z (by omega)] | rw [if_pos (by omega), ← hen, enN_0 hqz c110]) rfl rfl
                have hqz : q < z := by omega
                have hTb := hT.2.2.2 q hqz
                have hsq := srt1_b (T q)
                refine z_aload_n hC dX4_step_95 rfl ?_
                refine z_aload_n hC dX4_step_96 rfl ?_
                refine z_getN hC dX4_step_97 (hD _) zfX4_22 rfl tkI_4 ?_
                refine zVv hC dX4_step_100 zlX4_83 (c_X4_byteAt hD hTq hqz) (hD _) rfl rfl rfl rfl rfl rfl ?_
                refine zSv hC dX4_step_103 zlX4_86 (c_X4_sortOf hTb) rfl rfl rfl rfl ?_
                refine z_aload_n hC dX4_step_106 rfl ?_
                refine z_getN hC dX4_step_107 (hD _) zfX4_35 rfl tkI_2 ?_
                refine z_nicmp_ne hC dX4_step_110 (tgt := 143) (by decide) (by omega) (by omega) (fun c110 => ?_) (fun c110 => ?_)
                · skip
                  refine z_vret hC dX4_step_143 ?_
                  exact hE.to (by rfl) (by rw [hA, hS]; unfold tkE; rw [hS, hA]; first | rw [if_neg (by omega), if_neg (by omega)] | rw [if_pos (by omega), ← hen, enN_z (by omega)] | rw [if_pos (by omega), ← hen, enN_0 hqz c110]) rfl rfl
                refine z_aload_n hC dX4_step_113 rfl ?_
                refine z_dup hC dX4_step_114 rfl ?_
                refine z_getN hC dX4_step_115 (hD _) zfX4_22 rfl tkI_4 ?_
                refine z_iconst hC dX4_step_118 (v := nI 1) rfl ?_
                refine z_nadd hC dX4_step_119  ?_
                refine z_putI hC dX4_step_120 (hD _) zfX4_22 rfl rfl rfl rfl ?_
                rw [tkI_e]
                refine z_goto hC dX4_step_123 (tgt := 84) (by decide) ?_
                exact ih84 (q + 1) (by omega) (by omega) (by rw [← hen, enN_s hqz c110])
            exact loop84 _ p (Nat.lt_succ_self _) (by omega) rfl
          refine z_aload_n hC dX4_step_76 rfl ?_
          refine z_getN hC dX4_step_77 (hD _) zfX4_35 rfl tkI_2 ?_
          refine z_iconst hC dX4_step_80 (v := nI 2) rfl ?_
          refine z_nicmp_ne hC dX4_step_81 (tgt := 126) (by decide) (by omega) (by omega) (fun c81 => ?_) (fun c81 => ?_)
          · skip
            refine z_aload_n hC dX4_step_126 rfl ?_
            refine z_getN hC dX4_step_127 (hD _) zfX4_35 rfl tkI_2 ?_
            refine z_nif_eq hC dX4_step_130 (tgt := 143) (by decide) (by omega) (fun c130 => ?_) (fun c130 => ?_)
            · exfalso; omega
            refine z_aload_n hC dX4_step_133 rfl ?_
            refine z_dup hC dX4_step_134 rfl ?_
            refine z_getN hC dX4_step_135 (hD _) zfX4_22 rfl tkI_4 ?_
            refine z_iconst hC dX4_step_138 (v := nI 1) rfl ?_
            refine z_nadd hC dX4_step_139  ?_
            refine z_putI hC dX4_step_140 (hD _) zfX4_22 rfl rfl rfl rfl ?_
            rw [tkI_e]
            refine z_vret hC dX4_step_143 ?_
            exact hE.to (by rfl) (by rw [hA, hS]; unfold tkE; rw [hS, hA]; first | rw [if_neg (by omega), if_neg (by omega)] | rw [if_pos (by omega), ← hen, enN_z (by omega)] | rw [if_pos (by omega), ← hen, enN_0 hqz c110]) rfl rfl
          have loop84 : ∀ (fuel : Nat) (q : Nat), z - q < fuel → q ≤ z → enN T z (srt1 (T p)) q = enN T z (srt1 (T p)) p → zL C 1 ad S 0 0 sz (tkI I p (srt1 (T p)) q) X Y 84 [some (zr 3 30)] [] := by
            intro fuel84
            induction fuel84 with
            | zero => intro q hfu; exact absurd hfu (Nat.not_lt_zero _)
            | succ fuel84 ih84 =>
              intro q hfu hqz0 hen
              have hTq : zTp T z (tkI I p (srt1 (T p)) q) X := hT.frame (tkI_ne (by omega)) (fun _ => rfl)
              refine z_aload_n hC dX4_step_84 rfl ?_
              refine z_getN hC dX4_step_85 (hD _) zfX4_22 rfl tkI_4 ?_
              refine z_aload_n hC dX4_step_88 rfl ?_
              refine z_getN hC dX4_step_89 (hD _) zfX4_18 rfl hTq.1 ?_
              refine z_nicmp_ge hC dX4_step_92 (tgt := 143) (by decide) (by omega) (by omega) (fun c92 => ?_) (fun c92 => ?_)
              · skip
                refine z_vret hC dX4_step_143 ?_
                exact hE.to (by rfl) (by rw [hA, hS]; unfold tkE; rw [hS, hA]; first | rw [if_neg (by omega), if_neg (by omega)] | rw [if_pos (by omega), ← hen, enN_z (by omega)] | rw [if_pos (by omega), ← hen, enN_0 hqz c110]) rfl rfl
              have hqz : q < z := by omega
              have hTb := hT.2.2.2 q hqz
              have hsq := srt1_b (T q)
              refine z_aload_n hC dX4_step_95 rfl ?_
              refine z_aload_n hC dX4_step_96 rfl ?_
              refine z_getN hC dX4_step_97 (hD _) zfX4_22 rfl tkI_4 ?_
              refine zVv hC dX4_step_100 zlX4_83 (c_X4_byteAt hD hTq hqz) (hD _) rfl rfl rfl rfl rfl rfl ?_
              refine zSv hC dX4_step_103 zlX4_86 (c_X4_sortOf hTb) rfl rfl rfl rfl ?_
              refine z_aload_n hC dX4_step_106 rfl ?_
              refine z_getN hC dX4_step_107 (hD _) zfX4_35 rfl tkI_2 ?_
              refine z_nicmp_ne hC dX4_step_110 (tgt := 143) (by decide) (by omega) (by omega) (fun c110 => ?_) (fun c110 => ?_)
              · skip
                refine z_vret hC dX4_step_143 ?_
                exact hE.to (by rfl) (by rw [hA, hS]; unfold tkE; rw [hS, hA]; first | rw [if_neg (by omega), if_neg (by omega)] | rw [if_pos (by omega), ← hen, enN_z (by omega)] | rw [if_pos (by omega), ← hen, enN_0 hqz c110]) rfl rfl
              refine z_aload_n hC dX4_step_113 rfl ?_
              refine z_dup hC dX4_step_114 rfl ?_
              refine z_getN hC dX4_step_115 (hD _) zfX4_22 rfl tkI_4 ?_
              refine z_iconst hC dX4_step_118 (v := nI 1) rfl ?_
              refine z_nadd hC dX4_step_119  ?_
              refine z_putI hC dX4_step_120 (hD _) zfX4_22 rfl rfl rfl rfl ?_
              rw [tkI_e]
              refine z_goto hC dX4_step_123 (tgt := 84) (by decide) ?_
              exact ih84 (q + 1) (by omega) (by omega) (by rw [← hen, enN_s hqz c110])
          exact loop84 _ p (Nat.lt_succ_self _) (by omega) rfl
      refine z_aload_n hC dX4_step_32 rfl ?_
      refine z_dup hC dX4_step_33 rfl ?_
      refine z_getN hC dX4_step_34 (hD _) zfX4_32 rfl (up3_eq _ _ _ _ _) ?_
      refine z_iconst hC dX4_step_37 (v := nI 1) rfl ?_
      refine z_nadd hC dX4_step_38  ?_
      refine z_putI hC dX4_step_39 (hD _) zfX4_32 rfl rfl rfl rfl ?_
      rw [up3_up3]
      refine z_goto hC dX4_step_42 (tgt := 8) (by decide) ?_
      exact ih8 (p + 1) (by omega) (by omega) (by rw [← hsk, skN_s hpz c29])
  exact loop8 _ e0 (Nat.lt_succ_self _) hez rfl

end
