/-! OnTheRoof: slows -/
def slF (R : RS) (m : Nat) : Nat → Nat × Option Nat
  | 0 => (0, none)
  | k + 1 => if pcN 14 k ≤ m ∧ gtO (slF R m k).2 (heldN (hflN R k 0) (R.1 0)) = true then (k, some (heldN (hflN R k 0) (R.1 0))) else slF R m k
theorem slF_1 {R : RS} {m k : Nat} (h : pcN 14 k ≤ m) (h2 : gtO (slF R m k).2 (heldN (hflN R k 0) (R.1 0)) = true) : slF R m (k + 1) = (k, some (heldN (hflN R k 0) (R.1 0))) := if_pos ⟨h, h2⟩
theorem slF_0 {R : RS} {m k : Nat} (h : ¬ (pcN 14 k ≤ m ∧ gtO (slF R m k).2 (heldN (hflN R k 0) (R.1 0)) = true)) : slF R m (k + 1) = slF R m k := if_neg h
theorem slF_le {R : RS} {v : Nat} : ∀ (k : Nat) (x : Nat), (slF R v k).2 = some x → x ≤ 1000000
  | 0, x, hx => by cases hx
  | k + 1, x, hx => by
    unfold slF at hx
    split at hx
    · cases hx
      exact heldN_le _ _
    · exact slF_le k x hx
theorem slF_skip {R : RS} {m t : Nat} (h : m < pcN 14 t) : ∀ d, d ≤ lbN 14 t → slF R m (t + d) = slF R m t
  | 0, _ => rfl
  | d + 1, hd => by
    rw [← Nat.add_assoc, slF_0 (fun z => ?_), slF_skip h d (by omega)]
    have := pcN_skip (f := 14) (t := t) (s := t + d) (by omega) (by omega)
    omega
def slowsS (D : DS) (x : Int32) : Int32 × DS := if iw x 0 3 then (nI (slF D.1 (nn x) (2 ^ D.1.1 0)).1, D) else bad 0 D

section
variable {ad : zA} {S : zSh} {I X : zI} {Y : zY} {sz : Nat} {D : DS}

theorem c_J6_bitCount_0f7a4 {t : Nat} (ht : t < 2 ^ 14) : zC0 mJ6_bitCount_0f7a4 0 [zi (nI t)] (some (zi (nI (pcN 14 t)))) ad S I X Y sz I X Y := by
  refine zgo (own := RJ6) (k := 0) (by decide +kernel) rfl rfl rfl (fun C hC hnm hE => ?_)
  refine z_iload_n hC dJ6_bitCount_0f7a4_0 rfl ?_
  refine z_iload_n hC dJ6_bitCount_0f7a4_1 rfl ?_
  refine z_iconst hC dJ6_bitCount_0f7a4_2 (v := nI 1) rfl ?_
  refine z_iushr hC dJ6_bitCount_0f7a4_3  ?_
  refine z_ldcw hC dJ6_bitCount_0f7a4_4 (v := nI 1431655765) (zin4 (i := 63) rfl rfl) ?_
  refine z_iand hC dJ6_bitCount_0f7a4_7  ?_
  refine z_isub hC dJ6_bitCount_0f7a4_8  ?_
  refine z_istore_n hC dJ6_bitCount_0f7a4_9 (lo2 := [_]) (Nat.le_of_ble_eq_true rfl) rfl rfl ?_
  refine z_iload_n hC dJ6_bitCount_0f7a4_10 rfl ?_
  refine z_ldcw hC dJ6_bitCount_0f7a4_11 (v := nI 858993459) (zin4 (i := 64) rfl rfl) ?_
  refine z_iand hC dJ6_bitCount_0f7a4_14  ?_
  refine z_iload_n hC dJ6_bitCount_0f7a4_15 rfl ?_
  refine z_iconst hC dJ6_bitCount_0f7a4_16 (v := nI 2) rfl ?_
  refine z_iushr hC dJ6_bitCount_0f7a4_17  ?_
  refine z_ldcw hC dJ6_bitCount_0f7a4_18 (v := nI 858993459) (zin4 (i := 64) rfl rfl) ?_
  refine z_iand hC dJ6_bitCount_0f7a4_21  ?_
  refine z_iadd hC dJ6_bitCount_0f7a4_22  ?_
  refine z_istore_n hC dJ6_bitCount_0f7a4_23 (lo2 := [_]) (Nat.le_of_ble_eq_true rfl) rfl rfl ?_
  refine z_iload_n hC dJ6_bitCount_0f7a4_24 rfl ?_
  refine z_iload_n hC dJ6_bitCount_0f7a4_25 rfl ?_
  refine z_iconst hC dJ6_bitCount_0f7a4_26 (v := nI 4) rfl ?_
  refine z_iushr hC dJ6_bitCount_0f7a4_27  ?_
  refine z_iadd hC dJ6_bitCount_0f7a4_28  ?_
  refine z_ldcw hC dJ6_bitCount_0f7a4_29 (v := nI 252645135) (zin4 (i := 65) rfl rfl) ?_
  refine z_iand hC dJ6_bitCount_0f7a4_32  ?_
  refine z_istore_n hC dJ6_bitCount_0f7a4_33 (lo2 := [_]) (Nat.le_of_ble_eq_true rfl) rfl rfl ?_
  refine z_iload_n hC dJ6_bitCount_0f7a4_34 rfl ?_
  refine z_iload_n hC dJ6_bitCount_0f7a4_35 rfl ?_
  refine z_bipush hC dJ6_bitCount_0f7a4_36 (v := nI 8) rfl ?_
  refine z_iushr hC dJ6_bitCount_0f7a4_38  ?_
  refine z_iadd hC dJ6_bitCount_0f7a4_39  ?_
  refine z_istore_n hC dJ6_bitCount_0f7a4_40 (lo2 := [_]) (Nat.le_of_ble_eq_true rfl) rfl rfl ?_
  refine z_iload_n hC dJ6_bitCount_0f7a4_41 rfl ?_
  refine z_iload_n hC dJ6_bitCount_0f7a4_42 rfl ?_
  refine z_bipush hC dJ6_bitCount_0f7a4_43 (v := nI 16) rfl ?_
  refine z_iushr hC dJ6_bitCount_0f7a4_45  ?_
  refine z_iadd hC dJ6_bitCount_0f7a4_46  ?_
  refine z_istore_n hC dJ6_bitCount_0f7a4_47 (lo2 := [_]) (Nat.le_of_ble_eq_true rfl) rfl rfl ?_
  refine z_iload_n hC dJ6_bitCount_0f7a4_48 rfl ?_
  refine z_bipush hC dJ6_bitCount_0f7a4_49 (v := nI 63) rfl ?_
  refine z_iand hC dJ6_bitCount_0f7a4_51  ?_
  refine z_iret hC dJ6_bitCount_0f7a4_52 ?_
  exact hE.to (by rw [← bcT ht]; rfl) rfl rfl rfl

theorem e_slows_t (hD : ∀ k, S 3 k = dsh k) (hO : DOK D) (hM : DMe D I X Y) {x : Nat} (hx : x ≤ 3) : zC0 mX6_slows 6 [zr 3 0, zi (nI x)] (some (zi (nI (slF D.1 x (2 ^ D.1.1 0)).1))) ad S I X Y sz I X Y := by
  refine zgo (own := RX6) (k := 5) (by decide +kernel) rfl rfl rfl (fun C hC hnm hE => ?_)
  have hm := hM.1
  have hR := hO.1
  have hn14 := hR.1
  have hpw : 2 ^ D.1.1 0 ≤ 2 ^ 14 := Nat.pow_le_pow_right (by decide) hn14
  refine z_iload_n hC dX6_slows_0 rfl ?_
  refine z_iconst hC dX6_slows_1 (v := nI 0) rfl ?_
  refine z_iconst hC dX6_slows_2 (v := nI 3) rfl ?_
  refine zSv hC dX6_slows_3 zlX6_58 c_X6_isWithin rfl rfl rfl rfl ?_
  refine z_ifb_ne hC dX6_slows_6 (tgt := 16) (by decide) (fun c6 => ?_) (fun c6 => ?_)
  rotate_left
  · exact absurd c6 (fun z => z (iw_of (Nat.zero_le _) hx (by decide)))
  refine z_iconst hC dX6_slows_16 (v := nI 1) rfl ?_
  refine z_aload_n hC dX6_slows_17 rfl ?_
  refine z_getR hC dX6_slows_18 (hD _) zfX6_10 rfl ?_
  refine z_getR hC dX6_slows_21 (hD _) zfX6_115 rfl ?_
  refine z_getN hC dX6_slows_24 (hD _) zfX6_160 rfl hm.1.2.1 ?_
  refine z_ishl hC dX6_slows_27  ?_
  rw [zshlB (D.1.1 0) (by omega)]
  refine z_istore_n hC dX6_slows_28 (lo2 := [_, _, _, _, _, _, _]) (Nat.le_of_ble_eq_true rfl) rfl rfl ?_
  refine z_iconst hC dX6_slows_29 (v := nI 0) rfl ?_
  refine z_istore_n hC dX6_slows_30 (lo2 := [_, _, _, _, _, _, _]) (Nat.le_of_ble_eq_true rfl) rfl rfl ?_
  refine z_iconst hC dX6_slows_31 (v := -1) rfl ?_
  refine z_istore hC dX6_slows_32 (lo2 := [_, _, _, _, _, _, _]) (Nat.le_of_ble_eq_true rfl) rfl rfl ?_
  refine z_iconst hC dX6_slows_34 (v := nI 0) rfl ?_
  refine z_istore hC dX6_slows_35 (lo2 := [_, _, _, _, _, _, _]) (Nat.le_of_ble_eq_true rfl) rfl rfl ?_
  have loop37 : ∀ (fuel : Nat) (k : Nat), 2 ^ D.1.1 0 - k < fuel → k ≤ 2 ^ D.1.1 0 → zL C 7 ad S 0 0 sz I X Y 37 [some (zr 3 0), some (zi (nI x)), some (zi (nI (2 ^ D.1.1 0))), some (zi (nI (slF D.1 x k).1)), some (zi (oI (slF D.1 x k).2)), some (zi (nI k)), none] [] := by
    intro fuel
    induction fuel with
    | zero => intro k hfu; exact absurd hfu (Nat.not_lt_zero _)
    | succ fuel ih =>
      intro k hfu hk
      have hrl := slF_le (R := D.1) (v := x) k
      have hsl := heldN_le (hflN D.1 k 0) (D.1.1 0)
      have hpc := pcN_le 14 k
      refine z_iload hC dX6_slows_37 rfl ?_
      refine z_iload_n hC dX6_slows_39 rfl ?_
      refine z_nicmp_ge hC dX6_slows_40 (tgt := 98) (by decide) (by omega) (by omega) (fun c40 => ?_) (fun c40 => ?_)
      · skip
        obtain hk2 : k = 2 ^ D.1.1 0 := by omega
        refine z_iload_n hC dX6_slows_98 rfl ?_
        refine z_iret hC dX6_slows_99 ?_
        exact hE.to (by rw [hk2]) rfl rfl rfl
      refine z_iload hC dX6_slows_43 rfl ?_
      refine zSv hC dX6_slows_45 zlX6_259 (c_J6_bitCount_0f7a4 (t := k) (by omega)) rfl rfl rfl rfl ?_
      refine z_iload_n hC dX6_slows_48 rfl ?_
      refine z_nicmp_le hC dX6_slows_49 (tgt := 66) (by decide) (by omega) (by omega) (fun c49 => ?_) (fun c49 => ?_)
      · skip
        refine z_aload_n hC dX6_slows_66 rfl ?_
        refine z_getR hC dX6_slows_67 (hD _) zfX6_10 rfl ?_
        refine z_iload hC dX6_slows_70 rfl ?_
        refine z_iconst hC dX6_slows_72 (v := nI 0) rfl ?_
        refine zVv hC dX6_slows_73 zlX6_264 (c_X1_heldWith (zRd_1 hD) hm hR (m1 := k) (m2 := 0) (by omega) (by decide)) (hD _) rfl rfl rfl rfl rfl rfl ?_
        refine z_istore hC dX6_slows_76 (lo2 := [_, _, _, _, _, _, _]) (Nat.le_of_ble_eq_true rfl) rfl rfl ?_
        rcases ho : (slF D.1 x k).2 with _ | y
        · skip
          have hnx : slF D.1 x (k + 1) = (k, some (heldN (hflN D.1 k 0) (D.1.1 0))) := slF_1 (by omega) (by rw [ho]; rfl)
          refine z_iload hC dX6_slows_78 rfl ?_
          refine z_iload hC dX6_slows_80 rfl ?_
          refine z_icmp_le hC dX6_slows_82 (tgt := 92) (by decide) (fun c82 => ?_) (fun c82 => ?_)
          · exact absurd c82 (zm1_lt (by omega))
          refine z_iload hC dX6_slows_85 rfl ?_
          refine z_istore hC dX6_slows_87 (lo2 := [_, _, _, _, _, _, _]) (Nat.le_of_ble_eq_true rfl) rfl rfl ?_
          refine z_iload hC dX6_slows_89 rfl ?_
          refine z_istore_n hC dX6_slows_91 (lo2 := [_, _, _, _, _, _, _]) (Nat.le_of_ble_eq_true rfl) rfl rfl ?_
          refine z_ninc hC dX6_slows_92 (lo2 := [_, _, _, _, _, _, _]) rfl rfl rfl rfl ?_
          refine z_goto hC dX6_slows_95 (tgt := 37) (by decide) ?_
          exact z_sub (by rw [hnx]; simp [zsub, oI, *]) (ih (k + 1) (by omega) (by omega))
        · skip
          have hyl := hrl y ho
          show zL C 7 ad S 0 0 sz _ _ Y _ [_, _, _, _, some (zi (nI y)), _, _] _
          refine z_iload hC dX6_slows_78 rfl ?_
          refine z_iload hC dX6_slows_80 rfl ?_
          refine z_nicmp_le hC dX6_slows_82 (tgt := 92) (by decide) (by omega) (by omega) (fun c82 => ?_) (fun c82 => ?_)
          · skip
            have hnx : slF D.1 x (k + 1) = (slF D.1 x k) := slF_0 (fun z => by have hz := z.2; rw [ho] at hz; have := of_decide_eq_true hz; omega)
            refine z_ninc hC dX6_slows_92 (lo2 := [_, _, _, _, _, _, _]) rfl rfl rfl rfl ?_
            refine z_goto hC dX6_slows_95 (tgt := 37) (by decide) ?_
            exact z_sub (by rw [hnx]; simp [zsub, oI, *]) (ih (k + 1) (by omega) (by omega))
          have hnx : slF D.1 x (k + 1) = (k, some (heldN (hflN D.1 k 0) (D.1.1 0))) := slF_1 (by omega) (by rw [ho]; exact decide_eq_true (by omega))
          refine z_iload hC dX6_slows_85 rfl ?_
          refine z_istore hC dX6_slows_87 (lo2 := [_, _, _, _, _, _, _]) (Nat.le_of_ble_eq_true rfl) rfl rfl ?_
          refine z_iload hC dX6_slows_89 rfl ?_
          refine z_istore_n hC dX6_slows_91 (lo2 := [_, _, _, _, _, _, _]) (Nat.le_of_ble_eq_true rfl) rfl rfl ?_
          refine z_ninc hC dX6_slows_92 (lo2 := [_, _, _, _, _, _, _]) rfl rfl rfl rfl ?_
          refine z_goto hC dX6_slows_95 (tgt := 37) (by decide) ?_
          exact z_sub (by rw [hnx]; simp [zsub, oI, *]) (ih (k + 1) (by omega) (by omega))
      have hk0 : 0 < k := by
       rcases Nat.eq_zero_or_pos k with rfl | h
       · exact absurd c49 (by simp [pcN])
       · exact h
      have hlt := lbN_top (f := 14) hk0 (show k < 2 ^ D.1.1 0 by omega)
      have hlp : 0 < lbN 14 k := by
       obtain ⟨j, a, e1, -⟩ := lbN_e 14 k
       rw [e1]; exact Nat.pow_pos (by decide)
      refine z_iload hC dX6_slows_52 rfl ?_
      refine z_iload hC dX6_slows_54 rfl ?_
      refine z_iload hC dX6_slows_56 rfl ?_
      refine z_ineg hC dX6_slows_58  ?_
      refine z_iand hC dX6_slows_59  ?_
      rw [bcL (show 0 < k by omega) (by omega)]
      refine z_nadd hC dX6_slows_60  ?_
      refine z_istore hC dX6_slows_61 (lo2 := [_, _, _, _, _, _, _]) (Nat.le_of_ble_eq_true rfl) rfl rfl ?_
      refine z_goto hC dX6_slows_63 (tgt := 37) (by decide) ?_
      have hnx := slF_skip (R := D.1) (show x < pcN 14 k by omega) _ (Nat.le_refl _)
      exact z_sub (by rw [hnx]; simp [zsub]) (ih (k + lbN 14 k) (by omega) (by omega))
  exact z_sub (by simp [zsub, slF, oI]) (loop37 _ 0 (Nat.lt_succ_self _) (Nat.zero_le _))

theorem e_slows_f (hD : ∀ k, S 3 k = dsh k) (hO : DOK D) (hM : DMe D I X Y) {x : Int32} (hx : ¬ iw x 0 3) : zC0 mX6_slows 6 [zr 3 0, zi x] (some (zi (-2))) ad S I X Y sz I (rfX 0 X) Y := by
  refine zgo (own := RX6) (k := 5) (by decide +kernel) rfl rfl rfl (fun C hC hnm hE => ?_)
  have hm := hM.1
  have hR := hO.1
  refine z_iload_n hC dX6_slows_0 rfl ?_
  refine z_iconst hC dX6_slows_1 (v := nI 0) rfl ?_
  refine z_iconst hC dX6_slows_2 (v := nI 3) rfl ?_
  refine zSv hC dX6_slows_3 zlX6_58 c_X6_isWithin rfl rfl rfl rfl ?_
  refine z_ifb_ne hC dX6_slows_6 (tgt := 16) (by decide) (fun c6 => ?_) (fun c6 => ?_)
  · exact absurd c6 hx
  refine z_aload_n hC dX6_slows_9 rfl ?_
  refine z_bipush hC dX6_slows_10 (v := -2) rfl ?_
  refine zVv hC dX6_slows_12 zlX6_62 (c_X6_refuse hD (j := 0) (by decide) (by decide)) (hD _) rfl rfl rfl rfl rfl rfl ?_
  refine z_iret hC dX6_slows_15 ?_
  exact hE.to (by rfl) rfl rfl rfl

theorem o_slows (hD : ∀ k, S 3 k = dsh k) (hO : DOK D) (hM : DMe D I X Y) {x : Int32} : dC mX6_slows 6 [zr 3 0, zi x] (some (zi (slowsS D x).1)) (slowsS D x).2 ad S I X Y sz := by
  unfold slowsS
  by_cases h : iw x 0 3
  · rw [if_pos h]
    obtain ⟨x, -, h2, rfl, e1⟩ := iw_e h (by decide) (by decide)
    rw [e1]
    exact ⟨_, _, Y, hM, e_slows_t hD hO hM h2⟩
  · rw [if_neg h]
    exact ⟨I, rfX 0 X, Y, hM.rf (by decide), e_slows_f hD hO hM h⟩
theorem k_slows (hO : DOK D) {x : Int32} : DOK (slowsS D x).2 := by
  unfold slowsS
  split
  · exact hO
  · exact hO.rf
end
