/-! the reference: what weights say -/
def sumT (f : Nat → Nat) (t : Nat) : Nat → Nat := sumN (fun i => if bitN t i then f i else 0)
theorem sumT_off {f : Nat → Nat} {t b : Nat} : ∀ {n : Nat}, n ≤ b → sumT f (t ||| 2 ^ b) n = sumT f t n
  | 0, _ => rfl
  | n + 1, h => by
    show sumT f (t ||| 2 ^ b) n + (if bitN (t ||| 2 ^ b) n then f n else 0) = sumT f t n + (if bitN t n then f n else 0)
    rw [sumT_off (n := n) (by omega)]
    congr 1
    by_cases hn : bitN t n
    · rw [if_pos hn, if_pos (bitN_set.mpr (Or.inl hn))]
    · rw [if_neg hn, if_neg (fun z => by rcases bitN_set.mp z with z | z; exact hn z; omega)]
theorem sumT_set {f : Nat → Nat} {t b : Nat} (hb : ¬ bitN t b) : ∀ {n : Nat}, b < n → sumT f (t ||| 2 ^ b) n = sumT f t n + f b
  | 0, h => absurd h (Nat.not_lt_zero _)
  | n + 1, h => by
    show sumT f (t ||| 2 ^ b) n + (if bitN (t ||| 2 ^ b) n then f n else 0) = sumT f t n + (if bitN t n then f n else 0) + f b
    by_cases e : n = b
    · subst e
      rw [sumT_off (Nat.le_refl _), if_pos (bitN_set.mpr (Or.inr rfl)), if_neg hb]
      omega
    · rw [sumT_set hb (n := n) (by omega)]
      have : (if bitN (t ||| 2 ^ b) n then f n else 0) = (if bitN t n then f n else 0 : Nat) := by
        by_cases hn : bitN t n
        · rw [if_pos hn, if_pos (bitN_set.mpr (Or.inl hn))]
        · rw [if_neg hn, if_neg (fun z => by rcases bitN_set.mp z with z | z; exact hn z; exact e z)]
      omega
theorem cnt_le2 {t : Nat} : ∀ n, cntN t n ≤ n
  | 0 => Nat.le_refl _
  | n + 1 => by
    have := cnt_le2 (t := t) n
    show cntN t n + (if bitN t n then 1 else 0) ≤ n + 1
    split <;> omega
theorem sumT_all {f : Nat → Nat} {t : Nat} : ∀ {n : Nat}, cntN t n = n → sumT f t n = sumN f n
  | 0, _ => rfl
  | n + 1, h => by
    have h1 : cntN t n + (if bitN t n then 1 else 0) = n + 1 := h
    have h2 := cnt_le2 (t := t) n
    show sumT f t n + (if bitN t n then f n else 0) = sumN f n + f n
    by_cases hb : bitN t n
    · rw [if_pos hb] at h1 ⊢
      rw [sumT_all (by omega)]
    · rw [if_neg hb] at h1; omega
theorem zlcmp_ge {a b : Nat} (ha : a < 2 ^ 63) (hb : b < 2 ^ 63) : 0 ≤ lg_cmp (lN a) (lN b) ↔ b ≤ a := by
  rw [zlcmpN ha hb]
  split
  · exact ⟨fun _ => by omega, fun _ => by decide⟩
  · split
    · exact ⟨fun _ => by omega, fun _ => by decide⟩
    · exact ⟨fun h => absurd h (by decide), fun h => by omega⟩
theorem fewN_e {f : Nat → Nat} {n goal t g c : Nat} (h : goal ≤ 1000 * g) : ∀ k, fewN f n goal k t g c = c
  | 0 => rfl
  | k + 1 => fewN_1 h
theorem sumT_0 {f : Nat → Nat} : ∀ n, sumT f 0 n = 0
  | 0 => rfl
  | n + 1 => by
    show sumT f 0 n + (if bitN 0 n then f n else 0) = 0
    rw [sumT_0 n, if_neg bit0]
section
variable {ad : zA} {S : zSh} {I X : zI} {Y : zY} {sz b : Nat} {R : RS}

theorem c_X7_tho0 (hS : ∀ k, S b k = msh b k) {v a : Nat} (ha : I b 0 41 = nI a) (hz : a = 0) : zC0 mX7_thousandths 1 [zr b 0, zl (lN v)] (some (zi (-5))) ad S I X Y sz I (rmX b 3 X) Y := by
  refine zgo (own := RX7) (k := 0) (by decide +kernel) rfl rfl rfl (fun C hC hnm hE => ?_)
  refine z_aload_n hC dX7_thousandths_0 rfl ?_
  refine z_getN hC dX7_thousandths_1 (hS _) zfX7_291 rfl ha ?_
  refine z_nif_ne hC dX7_thousandths_4 (tgt := 16) (by decide) (by omega) (fun c4 => ?_) (fun c4 => ?_)
  · exact absurd c4 (fun z => z hz)
  refine z_aload_n hC dX7_thousandths_7 rfl ?_
  refine z_bipush hC dX7_thousandths_8 (v := -5) rfl ?_
  refine wVv hC dX7_thousandths_10 zlX7_107 (c_X7_refuse hS (j := 3) (by decide) (by decide)) (hS _) rfl rfl rfl rfl rfl rfl ⟨rfl, rfl⟩ ?_
  refine z_goto hC dX7_thousandths_13 (tgt := 28) (by decide) ?_
  refine z_iret hC dX7_thousandths_28 ?_
  exact hE.to (by rfl) rfl rfl rfl

theorem c_X7_tho1 (hS : ∀ k, S b k = msh b k) {v a : Nat} (ha : I b 0 41 = nI a) (hz : ¬ a = 0) (ha2 : a ≤ 20000000) (hv : v ≤ 20000000) : zC0 mX7_thousandths 1 [zr b 0, zl (lN v)] (some (zi (nI (1000 * v / a)))) ad S I X Y sz I X Y := by
  refine zgo (own := RX7) (k := 0) (by decide +kernel) rfl rfl rfl (fun C hC hnm hE => ?_)
  refine z_aload_n hC dX7_thousandths_0 rfl ?_
  refine z_getN hC dX7_thousandths_1 (hS _) zfX7_291 rfl ha ?_
  refine z_nif_ne hC dX7_thousandths_4 (tgt := 16) (by decide) (by omega) (fun c4 => ?_) (fun c4 => ?_)
  rotate_left
  · exact absurd c4 hz
  refine z_ldc2 hC dX7_thousandths_16 (v := lN 1000) (zin5 (i := 169) rfl rfl) ?_
  refine z_lload_n hC dX7_thousandths_19 rfl ?_
  refine z_mmul hC dX7_thousandths_20  ?_
  refine z_aload_n hC dX7_thousandths_21 rfl ?_
  refine z_getN hC dX7_thousandths_22 (hS _) zfX7_291 rfl ha ?_
  refine z_n2m hC dX7_thousandths_25 (by omega) ?_
  refine z_mdiv hC dX7_thousandths_26 (by omega) (by omega) (by omega) ?_
  refine z_m2n hC dX7_thousandths_27  ?_
  refine z_iret hC dX7_thousandths_28 ?_
  exact hE.to (by rfl) rfl rfl rfl

end
section
variable {ad : zA} {S : zSh} {I X : zI} {Y : zY} {sz : Nat} {D : DS} {qe : Bool}

theorem w_weight_b (hS : ∀ k, S 0 k = msh 0 k) (hO : DOK D) (hM : MMe qe D I X Y) {b : Nat} (hb : b < D.1.1 0) : zC0 mX7_weight 6 [zr 0 0, zi (nI b)] (some (zi (nI (fwN D.1 b)))) ad S I X Y sz (mwI 0 D.1 I) (mwX 0 D.1 X) Y := by
  refine zgo (own := RX7) (k := 0) (by decide +kernel) rfl rfl rfl (fun C hC hnm hE => ?_)
  have hm := hM.1
  have hR := hO.1
  have hmo := hm
  have hn14 := hR.1
  have hn8 := hR.2.1
  have hn6 := hR.2.2.1
  refine z_iload_n hC dX7_weight_0 rfl ?_
  refine z_iconst hC dX7_weight_1 (v := -1) rfl ?_
  refine z_icmp_eq hC dX7_weight_2 (tgt := 21) (by decide) (fun c2 => ?_) (fun c2 => ?_)
  · exact absurd c2 (zne1 (by omega))
  refine z_aload_n hC dX7_weight_5 rfl ?_
  refine z_iload_n hC dX7_weight_6 rfl ?_
  refine z_n2m hC dX7_weight_7 (by omega) ?_
  refine wVv hC dX7_weight_8 zlX7_118 (c_X7_isBendN hS hm hR (by omega)) (hS _) rfl rfl rfl rfl rfl rfl ⟨rfl, rfl⟩ ?_
  refine w_ifb_ne hC dX7_weight_11 (tgt := 21) (by decide) (fun c11 => ?_) (fun c11 => ?_)
  rotate_left
  · exact absurd c11 (by omega)
  refine z_aload_n hC dX7_weight_21 rfl ?_
  refine wV0 hC dX7_weight_22 zlX7_294 (c_X7_weigh hS hm hR) (hS _) rfl rfl rfl rfl rfl rfl ⟨rfl, rfl⟩ ?_
  have hq : zQm 0 D.1 (mwI 0 D.1 I) (mwX 0 D.1 X) := hmo.mw
  have hw : mwF 0 D.1 (mwI 0 D.1 I) (mwX 0 D.1 X) := mwF_of
  have hss := fsum_le hR (Nat.le_refl _)
  have hhw := hwN_le (R := D.1)
  have hal : alN D.1 ≤ 15000000 := Nat.add_le_add hss hhw
  refine z_iload_n hC dX7_weight_25 rfl ?_
  refine z_iconst hC dX7_weight_26 (v := -1) rfl ?_
  refine z_icmp_ne hC dX7_weight_27 (tgt := 37) (by decide) (fun c27 => ?_) (fun c27 => ?_)
  rotate_left
  · exact absurd c27 (zne1 (by omega))
  refine z_aload_n hC dX7_weight_37 rfl ?_
  refine z_getR hC dX7_weight_38 (hS _) zfX7_86 rfl ?_
  refine z_iload_n hC dX7_weight_41 rfl ?_
  refine z_naldN hC dX7_weight_42 (hS _) (by omega) rfl (hw.2.2 _ (by omega)) ?_
  refine z_iret hC dX7_weight_43 ?_
  exact hE.to (by rfl) rfl rfl rfl

theorem w_weight_n (hS : ∀ k, S 0 k = msh 0 k) (hO : DOK D) (hM : MMe qe D I X Y)  : zC0 mX7_weight 6 [zr 0 0, zi (-1)] (some (zi (nI (hwN D.1)))) ad S I X Y sz (mwI 0 D.1 I) (mwX 0 D.1 X) Y := by
  refine zgo (own := RX7) (k := 0) (by decide +kernel) rfl rfl rfl (fun C hC hnm hE => ?_)
  have hm := hM.1
  have hR := hO.1
  have hmo := hm
  have hn14 := hR.1
  have hn8 := hR.2.1
  have hn6 := hR.2.2.1
  refine z_iload_n hC dX7_weight_0 rfl ?_
  refine z_iconst hC dX7_weight_1 (v := -1) rfl ?_
  refine z_icmp_eq hC dX7_weight_2 (tgt := 21) (by decide) (fun c2 => ?_) (fun c2 => ?_)
  rotate_left
  · exact absurd c2 (fun z => z rfl)
  refine z_aload_n hC dX7_weight_21 rfl ?_
  refine wV0 hC dX7_weight_22 zlX7_294 (c_X7_weigh hS hm hR) (hS _) rfl rfl rfl rfl rfl rfl ⟨rfl, rfl⟩ ?_
  have hq : zQm 0 D.1 (mwI 0 D.1 I) (mwX 0 D.1 X) := hmo.mw
  have hw : mwF 0 D.1 (mwI 0 D.1 I) (mwX 0 D.1 X) := mwF_of
  have hss := fsum_le hR (Nat.le_refl _)
  have hhw := hwN_le (R := D.1)
  have hal : alN D.1 ≤ 15000000 := Nat.add_le_add hss hhw
  refine z_iload_n hC dX7_weight_25 rfl ?_
  refine z_iconst hC dX7_weight_26 (v := -1) rfl ?_
  refine z_icmp_ne hC dX7_weight_27 (tgt := 37) (by decide) (fun c27 => ?_) (fun c27 => ?_)
  · exact absurd c27 (fun z => z rfl)
  refine z_aload_n hC dX7_weight_30 rfl ?_
  refine z_getN hC dX7_weight_31 (hS _) zfX7_285 rfl hw.1 ?_
  refine z_goto hC dX7_weight_34 (tgt := 43) (by decide) ?_
  refine z_iret hC dX7_weight_43 ?_
  exact hE.to (by rfl) rfl rfl rfl

theorem w_weight_f (hS : ∀ k, S 0 k = msh 0 k) (hO : DOK D) (hM : MMe qe D I X Y) {x : Int32} (hx : ¬ (x = -1 ∨ inB x (D.1.1 0))) : zC0 mX7_weight 6 [zr 0 0, zi x] (some (zi (-2))) ad S I X Y sz I (rmX 0 0 X) Y := by
  refine zgo (own := RX7) (k := 0) (by decide +kernel) rfl rfl rfl (fun C hC hnm hE => ?_)
  have hm := hM.1
  have hR := hO.1
  have hmo := hm
  have hn14 := hR.1
  have hn8 := hR.2.1
  have hn6 := hR.2.2.1
  refine z_iload_n hC dX7_weight_0 rfl ?_
  refine z_iconst hC dX7_weight_1 (v := -1) rfl ?_
  refine z_icmp_eq hC dX7_weight_2 (tgt := 21) (by decide) (fun c2 => ?_) (fun c2 => ?_)
  · exact absurd c2 (fun z => hx (Or.inl z))
  refine z_aload_n hC dX7_weight_5 rfl ?_
  refine z_iload_n hC dX7_weight_6 rfl ?_
  refine z_i2l hC dX7_weight_7  ?_
  refine wVv hC dX7_weight_8 zlX7_118 (c_X7_isBendI hS hm hR) (hS _) rfl rfl rfl rfl rfl rfl ⟨rfl, rfl⟩ ?_
  refine w_ifb_ne hC dX7_weight_11 (tgt := 21) (by decide) (fun c11 => ?_) (fun c11 => ?_)
  · exact absurd c11 (fun z => hx (Or.inr z))
  refine z_aload_n hC dX7_weight_14 rfl ?_
  refine z_bipush hC dX7_weight_15 (v := -2) rfl ?_
  refine wVv hC dX7_weight_17 zlX7_107 (c_X7_refuse hS (j := 0) (by decide) (by decide)) (hS _) rfl rfl rfl rfl rfl rfl ⟨rfl, rfl⟩ ?_
  refine z_iret hC dX7_weight_20 ?_
  exact hE.to (by rfl) rfl rfl rfl

theorem m_weight (hS : ∀ k, S 0 k = msh 0 k) (hO : DOK D) (hM : MMe qe D I X Y) {x : Int32} : mC mX7_weight 6 [zr 0 0, zi x] (some (zi (weightS D x).1)) (weightS D x).2 ad S I X Y sz qe := by
  have hn14 := hO.1.1
  unfold weightS
  by_cases h : x = -1 ∨ inB x (D.1.1 0)
  · rw [if_pos h]
    by_cases hx : x = -1
    · subst hx
      rw [if_pos rfl]
      exact ⟨_, _, Y, hM.mw, w_weight_n hS hO hM⟩
    · obtain ⟨b, hb, rfl, e1⟩ := inB_e (h.resolve_left hx) (by omega)
      rw [if_neg hx, e1]
      exact ⟨_, _, Y, hM.mw, w_weight_b hS hO hM hb⟩
  · rw [if_neg h]
    exact ⟨I, rmX 0 0 X, Y, hM.rf (by decide), w_weight_f hS hO hM h⟩

theorem w_likely_bz (hS : ∀ k, S 0 k = msh 0 k) (hO : DOK D) (hM : MMe qe D I X Y) (hz : alN D.1 = 0) {b : Nat} (hb : b < D.1.1 0) : zC0 mX7_likely 6 [zr 0 0, zi (nI b)] (some (zi (-5))) ad S I X Y sz (mwI 0 D.1 I) (rmX 0 3 (mwX 0 D.1 X)) Y := by
  refine zgo (own := RX7) (k := 0) (by decide +kernel) rfl rfl rfl (fun C hC hnm hE => ?_)
  have hm := hM.1
  have hR := hO.1
  have hmo := hm
  have hn14 := hR.1
  have hn8 := hR.2.1
  have hn6 := hR.2.2.1
  have hfb := (fwN_le hO.1 hb).1
  refine z_iload_n hC dX7_likely_0 rfl ?_
  refine z_iconst hC dX7_likely_1 (v := -1) rfl ?_
  refine z_icmp_eq hC dX7_likely_2 (tgt := 21) (by decide) (fun c2 => ?_) (fun c2 => ?_)
  · exact absurd c2 (zne1 (by omega))
  refine z_aload_n hC dX7_likely_5 rfl ?_
  refine z_iload_n hC dX7_likely_6 rfl ?_
  refine z_n2m hC dX7_likely_7 (by omega) ?_
  refine wVv hC dX7_likely_8 zlX7_118 (c_X7_isBendN hS hm hR (by omega)) (hS _) rfl rfl rfl rfl rfl rfl ⟨rfl, rfl⟩ ?_
  refine w_ifb_ne hC dX7_likely_11 (tgt := 21) (by decide) (fun c11 => ?_) (fun c11 => ?_)
  rotate_left
  · exact absurd c11 (by omega)
  refine z_aload_n hC dX7_likely_21 rfl ?_
  refine wV0 hC dX7_likely_22 zlX7_294 (c_X7_weigh hS hm hR) (hS _) rfl rfl rfl rfl rfl rfl ⟨rfl, rfl⟩ ?_
  have hq : zQm 0 D.1 (mwI 0 D.1 I) (mwX 0 D.1 X) := hmo.mw
  have hw : mwF 0 D.1 (mwI 0 D.1 I) (mwX 0 D.1 X) := mwF_of
  have hss := fsum_le hR (Nat.le_refl _)
  have hhw := hwN_le (R := D.1)
  have hal : alN D.1 ≤ 15000000 := Nat.add_le_add hss hhw
  refine z_aload_n hC dX7_likely_25 rfl ?_
  refine z_iload_n hC dX7_likely_26 rfl ?_
  refine z_iconst hC dX7_likely_27 (v := -1) rfl ?_
  refine z_icmp_ne hC dX7_likely_28 (tgt := 39) (by decide) (fun c28 => ?_) (fun c28 => ?_)
  rotate_left
  · exact absurd c28 (zne1 (by omega))
  refine z_aload_n hC dX7_likely_39 rfl ?_
  refine z_getR hC dX7_likely_40 (hS _) zfX7_86 rfl ?_
  refine z_iload_n hC dX7_likely_43 rfl ?_
  refine z_naldN hC dX7_likely_44 (hS _) (by omega) rfl (hw.2.2 _ (by omega)) ?_
  refine z_n2m hC dX7_likely_45 (by show fwN D.1 b < _; omega) ?_
  refine wVv hC dX7_likely_46 zlX7_297 (c_X7_tho0 hS hw.2.1 hz) (hS _) rfl rfl rfl rfl rfl rfl ⟨rfl, rfl⟩ ?_
  refine z_iret hC dX7_likely_49 ?_
  exact hE.to (by rfl) rfl rfl rfl

theorem w_likely_nz (hS : ∀ k, S 0 k = msh 0 k) (hO : DOK D) (hM : MMe qe D I X Y) (hz : alN D.1 = 0)  : zC0 mX7_likely 6 [zr 0 0, zi (-1)] (some (zi (-5))) ad S I X Y sz (mwI 0 D.1 I) (rmX 0 3 (mwX 0 D.1 X)) Y := by
  refine zgo (own := RX7) (k := 0) (by decide +kernel) rfl rfl rfl (fun C hC hnm hE => ?_)
  have hm := hM.1
  have hR := hO.1
  have hmo := hm
  have hn14 := hR.1
  have hn8 := hR.2.1
  have hn6 := hR.2.2.1
  refine z_iload_n hC dX7_likely_0 rfl ?_
  refine z_iconst hC dX7_likely_1 (v := -1) rfl ?_
  refine z_icmp_eq hC dX7_likely_2 (tgt := 21) (by decide) (fun c2 => ?_) (fun c2 => ?_)
  rotate_left
  · exact absurd c2 (fun z => z rfl)
  refine z_aload_n hC dX7_likely_21 rfl ?_
  refine wV0 hC dX7_likely_22 zlX7_294 (c_X7_weigh hS hm hR) (hS _) rfl rfl rfl rfl rfl rfl ⟨rfl, rfl⟩ ?_
  have hq : zQm 0 D.1 (mwI 0 D.1 I) (mwX 0 D.1 X) := hmo.mw
  have hw : mwF 0 D.1 (mwI 0 D.1 I) (mwX 0 D.1 X) := mwF_of
  have hss := fsum_le hR (Nat.le_refl _)
  have hhw := hwN_le (R := D.1)
  have hal : alN D.1 ≤ 15000000 := Nat.add_le_add hss hhw
  refine z_aload_n hC dX7_likely_25 rfl ?_
  refine z_iload_n hC dX7_likely_26 rfl ?_
  refine z_iconst hC dX7_likely_27 (v := -1) rfl ?_
  refine z_icmp_ne hC dX7_likely_28 (tgt := 39) (by decide) (fun c28 => ?_) (fun c28 => ?_)
  · exact absurd c28 (fun z => z rfl)
  refine z_aload_n hC dX7_likely_31 rfl ?_
  refine z_getN hC dX7_likely_32 (hS _) zfX7_285 rfl hw.1 ?_
  refine z_n2m hC dX7_likely_35 (by omega) ?_
  refine z_goto hC dX7_likely_36 (tgt := 46) (by decide) ?_
  refine wVv hC dX7_likely_46 zlX7_297 (c_X7_tho0 hS hw.2.1 hz) (hS _) rfl rfl rfl rfl rfl rfl ⟨rfl, rfl⟩ ?_
  refine z_iret hC dX7_likely_49 ?_
  exact hE.to (by rfl) rfl rfl rfl

theorem w_between_tz (hS : ∀ k, S 0 k = msh 0 k) (hO : DOK D) (hM : MMe qe D I X Y) (hz : alN D.1 = 0) {a b : Nat} (hb : b < D.1.1 0) (hab : a ≤ b)  : zC0 mX7_between 6 [zr 0 0, zi (nI a), zi (nI b)] (some (zi (-5))) ad S I X Y sz (mwI 0 D.1 I) (rmX 0 3 (mwX 0 D.1 X)) Y := by
  refine zgo (own := RX7) (k := 0) (by decide +kernel) rfl rfl rfl (fun C hC hnm hE => ?_)
  have hm := hM.1
  have hR := hO.1
  have hmo := hm
  have hn14 := hR.1
  have hn8 := hR.2.1
  have hn6 := hR.2.2.1
  refine z_aload_n hC dX7_between_0 rfl ?_
  refine z_iload_n hC dX7_between_1 rfl ?_
  refine z_n2m hC dX7_between_2 (by omega) ?_
  refine wVv hC dX7_between_3 zlX7_118 (c_X7_isBendN hS hm hR (by omega)) (hS _) rfl rfl rfl rfl rfl rfl ⟨rfl, rfl⟩ ?_
  refine w_ifb_eq hC dX7_between_6 (tgt := 23) (by decide) (fun c6 => ?_) (fun c6 => ?_)
  · exact absurd c6 (by omega)
  refine z_aload_n hC dX7_between_9 rfl ?_
  refine z_iload_n hC dX7_between_10 rfl ?_
  refine z_n2m hC dX7_between_11 (by omega) ?_
  refine wVv hC dX7_between_12 zlX7_118 (c_X7_isBendN hS hm hR (by omega)) (hS _) rfl rfl rfl rfl rfl rfl ⟨rfl, rfl⟩ ?_
  refine w_ifb_eq hC dX7_between_15 (tgt := 23) (by decide) (fun c15 => ?_) (fun c15 => ?_)
  · exact absurd c15 (by omega)
  refine z_iload_n hC dX7_between_18 rfl ?_
  refine z_iload_n hC dX7_between_19 rfl ?_
  refine z_nicmp_ge hC dX7_between_20 (tgt := 30) (by decide) (by omega) (by omega) (fun c20 => ?_) (fun c20 => ?_)
  rotate_left
  · exact absurd c20 (by omega)
  refine z_aload_n hC dX7_between_30 rfl ?_
  refine wV0 hC dX7_between_31 zlX7_294 (c_X7_weigh hS hm hR) (hS _) rfl rfl rfl rfl rfl rfl ⟨rfl, rfl⟩ ?_
  have hq : zQm 0 D.1 (mwI 0 D.1 I) (mwX 0 D.1 X) := hmo.mw
  have hw : mwF 0 D.1 (mwI 0 D.1 I) (mwX 0 D.1 X) := mwF_of
  have hss := fsum_le hR (Nat.le_refl _)
  have hhw := hwN_le (R := D.1)
  have hsr : sumR (fwN D.1) a (b + 1) ≤ 14 * 1000000 := Nat.le_trans (sumR_le (M := 1000000) (fun j _ hj => (fwN_le hR (by omega)).1)) (Nat.mul_le_mul_right _ (by omega))
  refine z_aload_n hC dX7_between_34 rfl ?_
  refine z_aload_n hC dX7_between_35 rfl ?_
  refine z_iload_n hC dX7_between_36 rfl ?_
  refine z_iload_n hC dX7_between_37 rfl ?_
  refine wVv hC dX7_between_38 zlX7_301 (c_X7_sumOf hS hq hR hw (by omega) hb) (hS _) rfl rfl rfl rfl rfl rfl ⟨rfl, rfl⟩ ?_
  refine z_n2m hC dX7_between_41 (by omega) ?_
  refine wVv hC dX7_between_42 zlX7_297 (c_X7_tho0 hS hw.2.1 hz) (hS _) rfl rfl rfl rfl rfl rfl ⟨rfl, rfl⟩ ?_
  refine z_iret hC dX7_between_45 ?_
  exact hE.to (by rfl) rfl rfl rfl

theorem w_likely_bt (hS : ∀ k, S 0 k = msh 0 k) (hO : DOK D) (hM : MMe qe D I X Y) (hz : ¬ alN D.1 = 0) {b : Nat} (hb : b < D.1.1 0) : zC0 mX7_likely 6 [zr 0 0, zi (nI b)] (some (zi (nI (1000 * fwN D.1 b / alN D.1)))) ad S I X Y sz (mwI 0 D.1 I) (mwX 0 D.1 X) Y := by
  refine zgo (own := RX7) (k := 0) (by decide +kernel) rfl rfl rfl (fun C hC hnm hE => ?_)
  have hm := hM.1
  have hR := hO.1
  have hmo := hm
  have hn14 := hR.1
  have hn8 := hR.2.1
  have hn6 := hR.2.2.1
  have hfb := (fwN_le hO.1 hb).1
  refine z_iload_n hC dX7_likely_0 rfl ?_
  refine z_iconst hC dX7_likely_1 (v := -1) rfl ?_
  refine z_icmp_eq hC dX7_likely_2 (tgt := 21) (by decide) (fun c2 => ?_) (fun c2 => ?_)
  · exact absurd c2 (zne1 (by omega))
  refine z_aload_n hC dX7_likely_5 rfl ?_
  refine z_iload_n hC dX7_likely_6 rfl ?_
  refine z_n2m hC dX7_likely_7 (by omega) ?_
  refine wVv hC dX7_likely_8 zlX7_118 (c_X7_isBendN hS hm hR (by omega)) (hS _) rfl rfl rfl rfl rfl rfl ⟨rfl, rfl⟩ ?_
  refine w_ifb_ne hC dX7_likely_11 (tgt := 21) (by decide) (fun c11 => ?_) (fun c11 => ?_)
  rotate_left
  · exact absurd c11 (by omega)
  refine z_aload_n hC dX7_likely_21 rfl ?_
  refine wV0 hC dX7_likely_22 zlX7_294 (c_X7_weigh hS hm hR) (hS _) rfl rfl rfl rfl rfl rfl ⟨rfl, rfl⟩ ?_
  have hq : zQm 0 D.1 (mwI 0 D.1 I) (mwX 0 D.1 X) := hmo.mw
  have hw : mwF 0 D.1 (mwI 0 D.1 I) (mwX 0 D.1 X) := mwF_of
  have hss := fsum_le hR (Nat.le_refl _)
  have hhw := hwN_le (R := D.1)
  have hal : alN D.1 ≤ 15000000 := Nat.add_le_add hss hhw
  refine z_aload_n hC dX7_likely_25 rfl ?_
  refine z_iload_n hC dX7_likely_26 rfl ?_
  refine z_iconst hC dX7_likely_27 (v := -1) rfl ?_
  refine z_icmp_ne hC dX7_likely_28 (tgt := 39) (by decide) (fun c28 => ?_) (fun c28 => ?_)
  rotate_left
  · exact absurd c28 (zne1 (by omega))
  refine z_aload_n hC dX7_likely_39 rfl ?_
  refine z_getR hC dX7_likely_40 (hS _) zfX7_86 rfl ?_
  refine z_iload_n hC dX7_likely_43 rfl ?_
  refine z_naldN hC dX7_likely_44 (hS _) (by omega) rfl (hw.2.2 _ (by omega)) ?_
  refine z_n2m hC dX7_likely_45 (by show fwN D.1 b < _; omega) ?_
  refine wVv hC dX7_likely_46 zlX7_297 (c_X7_tho1 hS hw.2.1 hz (by show sumN (fwN D.1) (D.1.1 0) + hwN D.1 ≤ _; omega) (by first | omega | (show fwN D.1 b ≤ _; omega))) (hS _) rfl rfl rfl rfl rfl rfl ⟨rfl, rfl⟩ ?_
  refine z_iret hC dX7_likely_49 ?_
  exact hE.to (by rfl) rfl rfl rfl

theorem w_likely_nt (hS : ∀ k, S 0 k = msh 0 k) (hO : DOK D) (hM : MMe qe D I X Y) (hz : ¬ alN D.1 = 0)  : zC0 mX7_likely 6 [zr 0 0, zi (-1)] (some (zi (nI (1000 * hwN D.1 / alN D.1)))) ad S I X Y sz (mwI 0 D.1 I) (mwX 0 D.1 X) Y := by
  refine zgo (own := RX7) (k := 0) (by decide +kernel) rfl rfl rfl (fun C hC hnm hE => ?_)
  have hm := hM.1
  have hR := hO.1
  have hmo := hm
  have hn14 := hR.1
  have hn8 := hR.2.1
  have hn6 := hR.2.2.1
  refine z_iload_n hC dX7_likely_0 rfl ?_
  refine z_iconst hC dX7_likely_1 (v := -1) rfl ?_
  refine z_icmp_eq hC dX7_likely_2 (tgt := 21) (by decide) (fun c2 => ?_) (fun c2 => ?_)
  rotate_left
  · exact absurd c2 (fun z => z rfl)
  refine z_aload_n hC dX7_likely_21 rfl ?_
  refine wV0 hC dX7_likely_22 zlX7_294 (c_X7_weigh hS hm hR) (hS _) rfl rfl rfl rfl rfl rfl ⟨rfl, rfl⟩ ?_
  have hq : zQm 0 D.1 (mwI 0 D.1 I) (mwX 0 D.1 X) := hmo.mw
  have hw : mwF 0 D.1 (mwI 0 D.1 I) (mwX 0 D.1 X) := mwF_of
  have hss := fsum_le hR (Nat.le_refl _)
  have hhw := hwN_le (R := D.1)
  have hal : alN D.1 ≤ 15000000 := Nat.add_le_add hss hhw
  refine z_aload_n hC dX7_likely_25 rfl ?_
  refine z_iload_n hC dX7_likely_26 rfl ?_
  refine z_iconst hC dX7_likely_27 (v := -1) rfl ?_
  refine z_icmp_ne hC dX7_likely_28 (tgt := 39) (by decide) (fun c28 => ?_) (fun c28 => ?_)
  · exact absurd c28 (fun z => z rfl)
  refine z_aload_n hC dX7_likely_31 rfl ?_
  refine z_getN hC dX7_likely_32 (hS _) zfX7_285 rfl hw.1 ?_
  refine z_n2m hC dX7_likely_35 (by omega) ?_
  refine z_goto hC dX7_likely_36 (tgt := 46) (by decide) ?_
  refine wVv hC dX7_likely_46 zlX7_297 (c_X7_tho1 hS hw.2.1 hz (by show sumN (fwN D.1) (D.1.1 0) + hwN D.1 ≤ _; omega) (by omega)) (hS _) rfl rfl rfl rfl rfl rfl ⟨rfl, rfl⟩ ?_
  refine z_iret hC dX7_likely_49 ?_
  exact hE.to (by rfl) rfl rfl rfl

theorem w_between_tt (hS : ∀ k, S 0 k = msh 0 k) (hO : DOK D) (hM : MMe qe D I X Y) (hz : ¬ alN D.1 = 0) {a b : Nat} (hb : b < D.1.1 0) (hab : a ≤ b)  : zC0 mX7_between 6 [zr 0 0, zi (nI a), zi (nI b)] (some (zi (nI (1000 * sumR (fwN D.1) a (b + 1) / alN D.1)))) ad S I X Y sz (mwI 0 D.1 I) (mwX 0 D.1 X) Y := by
  refine zgo (own := RX7) (k := 0) (by decide +kernel) rfl rfl rfl (fun C hC hnm hE => ?_)
  have hm := hM.1
  have hR := hO.1
  have hmo := hm
  have hn14 := hR.1
  have hn8 := hR.2.1
  have hn6 := hR.2.2.1
  refine z_aload_n hC dX7_between_0 rfl ?_
  refine z_iload_n hC dX7_between_1 rfl ?_
  refine z_n2m hC dX7_between_2 (by omega) ?_
  refine wVv hC dX7_between_3 zlX7_118 (c_X7_isBendN hS hm hR (by omega)) (hS _) rfl rfl rfl rfl rfl rfl ⟨rfl, rfl⟩ ?_
  refine w_ifb_eq hC dX7_between_6 (tgt := 23) (by decide) (fun c6 => ?_) (fun c6 => ?_)
  · exact absurd c6 (by omega)
  refine z_aload_n hC dX7_between_9 rfl ?_
  refine z_iload_n hC dX7_between_10 rfl ?_
  refine z_n2m hC dX7_between_11 (by omega) ?_
  refine wVv hC dX7_between_12 zlX7_118 (c_X7_isBendN hS hm hR (by omega)) (hS _) rfl rfl rfl rfl rfl rfl ⟨rfl, rfl⟩ ?_
  refine w_ifb_eq hC dX7_between_15 (tgt := 23) (by decide) (fun c15 => ?_) (fun c15 => ?_)
  · exact absurd c15 (by omega)
  refine z_iload_n hC dX7_between_18 rfl ?_
  refine z_iload_n hC dX7_between_19 rfl ?_
  refine z_nicmp_ge hC dX7_between_20 (tgt := 30) (by decide) (by omega) (by omega) (fun c20 => ?_) (fun c20 => ?_)
  rotate_left
  · exact absurd c20 (by omega)
  refine z_aload_n hC dX7_between_30 rfl ?_
  refine wV0 hC dX7_between_31 zlX7_294 (c_X7_weigh hS hm hR) (hS _) rfl rfl rfl rfl rfl rfl ⟨rfl, rfl⟩ ?_
  have hq : zQm 0 D.1 (mwI 0 D.1 I) (mwX 0 D.1 X) := hmo.mw
  have hw : mwF 0 D.1 (mwI 0 D.1 I) (mwX 0 D.1 X) := mwF_of
  have hss := fsum_le hR (Nat.le_refl _)
  have hhw := hwN_le (R := D.1)
  have hsr : sumR (fwN D.1) a (b + 1) ≤ 14 * 1000000 := Nat.le_trans (sumR_le (M := 1000000) (fun j _ hj => (fwN_le hR (by omega)).1)) (Nat.mul_le_mul_right _ (by omega))
  refine z_aload_n hC dX7_between_34 rfl ?_
  refine z_aload_n hC dX7_between_35 rfl ?_
  refine z_iload_n hC dX7_between_36 rfl ?_
  refine z_iload_n hC dX7_between_37 rfl ?_
  refine wVv hC dX7_between_38 zlX7_301 (c_X7_sumOf hS hq hR hw (by omega) hb) (hS _) rfl rfl rfl rfl rfl rfl ⟨rfl, rfl⟩ ?_
  refine z_n2m hC dX7_between_41 (by omega) ?_
  refine wVv hC dX7_between_42 zlX7_297 (c_X7_tho1 hS hw.2.1 hz (by show sumN (fwN D.1) (D.1.1 0) + hwN D.1 ≤ _; omega) (by omega)) (hS _) rfl rfl rfl rfl rfl rfl ⟨rfl, rfl⟩ ?_
  refine z_iret hC dX7_between_45 ?_
  exact hE.to (by rfl) rfl rfl rfl

theorem w_likely_f (hS : ∀ k, S 0 k = msh 0 k) (hO : DOK D) (hM : MMe qe D I X Y) {x : Int32} (hx : ¬ (x = -1 ∨ inB x (D.1.1 0))) : zC0 mX7_likely 6 [zr 0 0, zi x] (some (zi (-2))) ad S I X Y sz I (rmX 0 0 X) Y := by
  refine zgo (own := RX7) (k := 0) (by decide +kernel) rfl rfl rfl (fun C hC hnm hE => ?_)
  have hm := hM.1
  have hR := hO.1
  have hmo := hm
  have hn14 := hR.1
  have hn8 := hR.2.1
  have hn6 := hR.2.2.1
  refine z_iload_n hC dX7_likely_0 rfl ?_
  refine z_iconst hC dX7_likely_1 (v := -1) rfl ?_
  refine z_icmp_eq hC dX7_likely_2 (tgt := 21) (by decide) (fun c2 => ?_) (fun c2 => ?_)
  · exact absurd c2 (fun z => hx (Or.inl z))
  refine z_aload_n hC dX7_likely_5 rfl ?_
  refine z_iload_n hC dX7_likely_6 rfl ?_
  refine z_i2l hC dX7_likely_7  ?_
  refine wVv hC dX7_likely_8 zlX7_118 (c_X7_isBendI hS hm hR) (hS _) rfl rfl rfl rfl rfl rfl ⟨rfl, rfl⟩ ?_
  refine w_ifb_ne hC dX7_likely_11 (tgt := 21) (by decide) (fun c11 => ?_) (fun c11 => ?_)
  · exact absurd c11 (fun z => hx (Or.inr z))
  refine z_aload_n hC dX7_likely_14 rfl ?_
  refine z_bipush hC dX7_likely_15 (v := -2) rfl ?_
  refine wVv hC dX7_likely_17 zlX7_107 (c_X7_refuse hS (j := 0) (by decide) (by decide)) (hS _) rfl rfl rfl rfl rfl rfl ⟨rfl, rfl⟩ ?_
  refine z_iret hC dX7_likely_20 ?_
  exact hE.to (by rfl) rfl rfl rfl

theorem w_between_f (hS : ∀ k, S 0 k = msh 0 k) (hO : DOK D) (hM : MMe qe D I X Y) {x y : Int32} (hx : ¬ (inB x (D.1.1 0) ∧ inB y (D.1.1 0) ∧ x ≤ y)) : zC0 mX7_between 6 [zr 0 0, zi x, zi y] (some (zi (-2))) ad S I X Y sz I (rmX 0 0 X) Y := by
  refine zgo (own := RX7) (k := 0) (by decide +kernel) rfl rfl rfl (fun C hC hnm hE => ?_)
  have hm := hM.1
  have hR := hO.1
  have hmo := hm
  have hn14 := hR.1
  have hn8 := hR.2.1
  have hn6 := hR.2.2.1
  refine z_aload_n hC dX7_between_0 rfl ?_
  refine z_iload_n hC dX7_between_1 rfl ?_
  refine z_i2l hC dX7_between_2  ?_
  refine wVv hC dX7_between_3 zlX7_118 (c_X7_isBendI hS hm hR) (hS _) rfl rfl rfl rfl rfl rfl ⟨rfl, rfl⟩ ?_
  refine w_ifb_eq hC dX7_between_6 (tgt := 23) (by decide) (fun c6 => ?_) (fun c6 => ?_)
  · skip
    refine z_aload_n hC dX7_between_23 rfl ?_
    refine z_bipush hC dX7_between_24 (v := -2) rfl ?_
    refine wVv hC dX7_between_26 zlX7_107 (c_X7_refuse hS (j := 0) (by decide) (by decide)) (hS _) rfl rfl rfl rfl rfl rfl ⟨rfl, rfl⟩ ?_
    refine z_iret hC dX7_between_29 ?_
    exact hE.to (by rfl) rfl rfl rfl
  refine z_aload_n hC dX7_between_9 rfl ?_
  refine z_iload_n hC dX7_between_10 rfl ?_
  refine z_i2l hC dX7_between_11  ?_
  refine wVv hC dX7_between_12 zlX7_118 (c_X7_isBendI hS hm hR) (hS _) rfl rfl rfl rfl rfl rfl ⟨rfl, rfl⟩ ?_
  refine w_ifb_eq hC dX7_between_15 (tgt := 23) (by decide) (fun c15 => ?_) (fun c15 => ?_)
  · skip
    refine z_aload_n hC dX7_between_23 rfl ?_
    refine z_bipush hC dX7_between_24 (v := -2) rfl ?_
    refine wVv hC dX7_between_26 zlX7_107 (c_X7_refuse hS (j := 0) (by decide) (by decide)) (hS _) rfl rfl rfl rfl rfl rfl ⟨rfl, rfl⟩ ?_
    refine z_iret hC dX7_between_29 ?_
    exact hE.to (by rfl) rfl rfl rfl
  refine z_iload_n hC dX7_between_18 rfl ?_
  refine z_iload_n hC dX7_between_19 rfl ?_
  refine z_icmp_ge hC dX7_between_20 (tgt := 30) (by decide) (fun c20 => ?_) (fun c20 => ?_)
  · exact absurd c20 (fun z => hx ⟨c6, c15, z⟩)
  refine z_aload_n hC dX7_between_23 rfl ?_
  refine z_bipush hC dX7_between_24 (v := -2) rfl ?_
  refine wVv hC dX7_between_26 zlX7_107 (c_X7_refuse hS (j := 0) (by decide) (by decide)) (hS _) rfl rfl rfl rfl rfl rfl ⟨rfl, rfl⟩ ?_
  refine z_iret hC dX7_between_29 ?_
  exact hE.to (by rfl) rfl rfl rfl

theorem m_likely (hS : ∀ k, S 0 k = msh 0 k) (hO : DOK D) (hM : MMe qe D I X Y) {x : Int32} : mC mX7_likely 6 [zr 0 0, zi x] (some (zi (likelyS D x).1)) (likelyS D x).2 ad S I X Y sz qe := by
  have hn14 := hO.1.1
  unfold likelyS
  by_cases h : x = -1 ∨ inB x (D.1.1 0)
  · rw [if_pos h]
    by_cases hx : x = -1
    · subst hx
      rw [if_pos rfl]
      unfold thoS
      by_cases hz : alN D.1 = 0
      · rw [if_pos hz]; exact ⟨_, _, Y, (hM.mw).rf (by decide), w_likely_nz hS hO hM hz⟩
      · rw [if_neg hz]; exact ⟨_, _, Y, hM.mw, w_likely_nt hS hO hM hz⟩
    · obtain ⟨b, hb, rfl, e1⟩ := inB_e (h.resolve_left hx) (by omega)
      rw [if_neg hx, e1]
      unfold thoS
      by_cases hz : alN D.1 = 0
      · rw [if_pos hz]; exact ⟨_, _, Y, (hM.mw).rf (by decide), w_likely_bz hS hO hM hz hb⟩
      · rw [if_neg hz]; exact ⟨_, _, Y, hM.mw, w_likely_bt hS hO hM hz hb⟩
  · rw [if_neg h]
    exact ⟨I, rmX 0 0 X, Y, hM.rf (by decide), w_likely_f hS hO hM h⟩

theorem m_between (hS : ∀ k, S 0 k = msh 0 k) (hO : DOK D) (hM : MMe qe D I X Y) {x y : Int32} : mC mX7_between 6 [zr 0 0, zi x, zi y] (some (zi (betweenS D x y).1)) (betweenS D x y).2 ad S I X Y sz qe := by
  have hn14 := hO.1.1
  unfold betweenS
  by_cases h : inB x (D.1.1 0) ∧ inB y (D.1.1 0) ∧ x ≤ y
  · rw [if_pos h]
    obtain ⟨h1, h2, h3⟩ := h
    obtain ⟨a, ha, rfl, e1⟩ := inB_e h1 (by omega)
    obtain ⟨b, hb, rfl, e2⟩ := inB_e h2 (by omega)
    have hab := (nI_leI (by omega) (by omega)).mp h3
    rw [e1, e2]
    unfold thoS
    by_cases hz : alN D.1 = 0
    · rw [if_pos hz]; exact ⟨_, _, Y, (hM.mw).rf (by decide), w_between_tz hS hO hM hz hb hab⟩
    · rw [if_neg hz]; exact ⟨_, _, Y, hM.mw, w_between_tt hS hO hM hz hb hab⟩
  · rw [if_neg h]
    exact ⟨I, rmX 0 0 X, Y, hM.rf (by decide), w_between_f hS hO hM h⟩

theorem w_half_t (hS : ∀ k, S 0 k = msh 0 k) (hO : DOK D) (hM : MMe qe D I X Y)  : zC0 mX7_half 6 [zr 0 0] (some (zi (oI (hlF (fwN D.1) (alN D.1) (D.1.1 0) 0)))) ad S I X Y sz (mwI 0 D.1 I) (mwX 0 D.1 X) Y := by
  refine zgo (own := RX7) (k := 1) (by decide +kernel) rfl rfl rfl (fun C hC hnm hE => ?_)
  have hm := hM.1
  have hR := hO.1
  have hmo := hm
  have hn14 := hR.1
  have hn8 := hR.2.1
  have hn6 := hR.2.2.1
  refine z_aload_n hC dX7_half_0 rfl ?_
  refine wV0 hC dX7_half_1 zlX7_294 (c_X7_weigh hS hm hR) (hS _) rfl rfl rfl rfl rfl rfl ⟨rfl, rfl⟩ ?_
  have hq : zQm 0 D.1 (mwI 0 D.1 I) (mwX 0 D.1 X) := hmo.mw
  have hw : mwF 0 D.1 (mwI 0 D.1 I) (mwX 0 D.1 X) := mwF_of
  have hss := fsum_le hR (Nat.le_refl _)
  have hhw := hwN_le (R := D.1)
  have hal : alN D.1 ≤ 15000000 := Nat.add_le_add hss hhw
  refine z_iconst hC dX7_half_4 (v := nI 0) rfl ?_
  refine z_istore_n hC dX7_half_5 (lo2 := [_, _]) (Nat.le_of_ble_eq_true rfl) rfl rfl ?_
  have loop6 : ∀ (fuel : Nat) (i : Nat), D.1.1 0 - i < fuel → i ≤ D.1.1 0 → hlF (fwN D.1) (alN D.1) (D.1.1 0 - i) i = hlF (fwN D.1) (alN D.1) (D.1.1 0) 0 → zL C 2 ad S 0 0 sz (mwI 0 D.1 I) (mwX 0 D.1 X) Y 6 [some (zr 0 0), some (zi (nI i))] [] := by
    intro fuel
    induction fuel with
    | zero => intro i hfu; exact absurd hfu (Nat.not_lt_zero _)
    | succ fuel ih =>
      intro i hfu hin hh
      refine z_iload_n hC dX7_half_6 rfl ?_
      refine z_aload_n hC dX7_half_7 rfl ?_
      refine z_getN hC dX7_half_8 (hS _) zfX7_94 rfl hq.1.1 ?_
      refine z_nicmp_ge hC dX7_half_11 (tgt := 37) (by decide) (by omega) (by omega) (fun c11 => ?_) (fun c11 => ?_)
      · skip
        refine z_iconst hC dX7_half_37 (v := -1) rfl ?_
        refine z_iret hC dX7_half_38 ?_
        exact hE.to (by rw [← hh, show D.1.1 0 - i = 0 by omega]; rfl) rfl rfl rfl
      have hi : i < D.1.1 0 := by omega
      have hs1 := fsum_le hR (show i + 1 ≤ D.1.1 0 by omega)
      refine z_iconst hC dX7_half_14 (v := nI 2) rfl ?_
      refine z_aload_n hC dX7_half_15 rfl ?_
      refine z_iconst hC dX7_half_16 (v := nI 0) rfl ?_
      refine z_iload_n hC dX7_half_17 rfl ?_
      refine wVv hC dX7_half_18 zlX7_301 (c_X7_sumOf hS hq hR hw (x := 0) (by omega) hi) (hS _) rfl rfl rfl rfl rfl rfl ⟨rfl, rfl⟩ ?_
      rw [sumR_N]
      refine z_nmul hC dX7_half_21  ?_
      refine z_aload_n hC dX7_half_22 rfl ?_
      refine z_getN hC dX7_half_23 (hS _) zfX7_291 rfl hw.2.1 ?_
      refine z_nicmp_lt hC dX7_half_26 (tgt := 31) (by decide) (by omega) (by omega) (fun c26 => ?_) (fun c26 => ?_)
      · skip
        refine z_ninc hC dX7_half_31 (lo2 := [_, _]) rfl rfl rfl rfl ?_
        refine z_goto hC dX7_half_34 (tgt := 6) (by decide) ?_
        refine ih (i + 1) (by omega) (by omega) ?_
        rw [← hh, show D.1.1 0 - i = (D.1.1 0 - (i + 1)) + 1 by omega]
        exact (if_neg (by show ¬ _; omega)).symm
      refine z_iload_n hC dX7_half_29 rfl ?_
      refine z_iret hC dX7_half_30 ?_
      exact hE.to (by rw [← hh, show D.1.1 0 - i = (D.1.1 0 - (i + 1)) + 1 by omega]; show some (zi (oI (if (alN D.1) ≤ 2 * sumN (fwN D.1) (i + 1) then some i else _))) = _; rw [if_pos (by omega)]; rfl) rfl rfl rfl
  exact loop6 _ 0 (Nat.lt_succ_self _) (Nat.zero_le _) rfl

theorem m_half (hS : ∀ k, S 0 k = msh 0 k) (hO : DOK D) (hM : MMe qe D I X Y) : mC mX7_half 6 [zr 0 0] (some (zi (halfS D).1)) (halfS D).2 ad S I X Y sz qe := ⟨_, _, Y, hM.mw, w_half_t hS hO hM⟩

theorem w_few_t (hS : ∀ k, S 0 k = msh 0 k) (hO : DOK D) (hM : MMe qe D I X Y) {v : Nat} (hv : v ≤ 1000) : zC0 mX7_few 6 [zr 0 0, zi (nI v)] (some (zi (nI (fewN (fwN D.1) (D.1.1 0) (v * sumN (fwN D.1) (D.1.1 0)) (D.1.1 0) 0 0 0)))) ad S I X Y sz (mwI 0 D.1 I) (mwX 0 D.1 X) Y := by
  refine zgo (own := RX7) (k := 8) (by decide +kernel) rfl rfl rfl (fun C hC hnm hE => ?_)
  have hm := hM.1
  have hR := hO.1
  have hmo := hm
  have hn14 := hR.1
  have hn8 := hR.2.1
  have hn6 := hR.2.2.1
  refine z_iload_n hC dX7_few_0 rfl ?_
  refine z_n2m hC dX7_few_1 (by omega) ?_
  refine z_lconst hC dX7_few_2 (v := lN 0) rfl ?_
  refine z_ldc2 hC dX7_few_3 (v := lN 1000) (zin5 (i := 169) rfl rfl) ?_
  refine wSv hC dX7_few_6 zlX7_97 (c_X7_inN (by omega) (by omega) (by omega)) rfl rfl rfl rfl ⟨rfl, rfl⟩ ?_
  refine w_ifb_ne hC dX7_few_9 (tgt := 19) (by decide) (fun c9 => ?_) (fun c9 => ?_)
  rotate_left
  · exact absurd c9 (by omega)
  refine z_aload_n hC dX7_few_19 rfl ?_
  refine wV0 hC dX7_few_20 zlX7_294 (c_X7_weigh hS hm hR) (hS _) rfl rfl rfl rfl rfl rfl ⟨rfl, rfl⟩ ?_
  have hq : zQm 0 D.1 (mwI 0 D.1 I) (mwX 0 D.1 X) := hmo.mw
  have hw : mwF 0 D.1 (mwI 0 D.1 I) (mwX 0 D.1 X) := mwF_of
  have hss := fsum_le hR (Nat.le_refl _)
  have hhw := hwN_le (R := D.1)
  have hal : alN D.1 ≤ 15000000 := Nat.add_le_add hss hhw
  refine z_iload_n hC dX7_few_23 rfl ?_
  refine z_n2m hC dX7_few_24 (by omega) ?_
  refine z_aload_n hC dX7_few_25 rfl ?_
  refine z_iconst hC dX7_few_26 (v := nI 0) rfl ?_
  refine z_aload_n hC dX7_few_27 rfl ?_
  refine z_getN hC dX7_few_28 (hS _) zfX7_94 rfl hq.1.1 ?_
  refine z_iconst hC dX7_few_31 (v := nI 1) rfl ?_
  refine z_isub hC dX7_few_32  ?_
  refine wVv hC dX7_few_33 zlX7_301 (c_X7_sumOfP hS hq hR hw (x := 0) (y := D.1.1 0) (Nat.zero_le _) (Nat.le_refl _)) (hS _) rfl rfl rfl rfl rfl rfl ⟨rfl, rfl⟩ ?_
  rw [sumR_N]
  have hg : (v * sumN (fwN D.1) (D.1.1 0)) ≤ 1000 * 14000000 := Nat.mul_le_mul hv hss
  have hg2 : (v * sumN (fwN D.1) (D.1.1 0)) ≤ 1000 * sumN (fwN D.1) (D.1.1 0) := Nat.mul_le_mul_right _ hv
  refine z_n2m hC dX7_few_36 (by omega) ?_
  refine z_mmul hC dX7_few_37  ?_
  refine z_lstore_n hC dX7_few_38 (lo2 := [_, _, _, _, _, _, _, _, _, _]) (Nat.le_of_ble_eq_true rfl) rfl rfl ?_
  refine z_lconst hC dX7_few_39 (v := lN 0) rfl ?_
  refine z_lstore hC dX7_few_40 (lo2 := [_, _, _, _, _, _, _, _, _, _]) (Nat.le_of_ble_eq_true rfl) rfl rfl ?_
  refine z_iconst hC dX7_few_42 (v := nI 0) rfl ?_
  refine z_istore hC dX7_few_43 (lo2 := [_, _, _, _, _, _, _, _, _, _]) (Nat.le_of_ble_eq_true rfl) rfl rfl ?_
  refine z_iconst hC dX7_few_45 (v := nI 0) rfl ?_
  refine z_istore hC dX7_few_46 (lo2 := [_, _, _, _, _, _, _, _, _, _]) (Nat.le_of_ble_eq_true rfl) rfl rfl ?_
  have loop48 : ∀ (fuel : Nat) (c t g : Nat), D.1.1 0 - c < fuel → c ≤ D.1.1 0 → t < 2 ^ 14 → g ≤ c * 1000000 → cntN t (D.1.1 0) = c → sumT (fwN D.1) t (D.1.1 0) = g → fewN (fwN D.1) (D.1.1 0) (v * sumN (fwN D.1) (D.1.1 0)) (D.1.1 0 - c) t g c = fewN (fwN D.1) (D.1.1 0) (v * sumN (fwN D.1) (D.1.1 0)) (D.1.1 0) 0 0 0 → zL C 10 ad S 0 0 sz (mwI 0 D.1 I) (mwX 0 D.1 X) Y 48 [some (zr 0 0), some (zi (nI v)), some (zl (lN (v * sumN (fwN D.1) (D.1.1 0)))), none, some (zl (lN g)), none, some (zi (nI t)), some (zi (nI c)), none, none] [] := by
    intro fuel
    induction fuel with
    | zero => intro c t g hfu; exact absurd hfu (Nat.not_lt_zero _)
    | succ fuel ih =>
      intro c t g hfu hcn ht hgc hct hsg hsp
      have h1000 : c * 1000000 ≤ 14 * 1000000 := Nat.mul_le_mul_right _ (by omega)
      refine z_ldc2 hC dX7_few_48 (v := lN 1000) (zin5 (i := 169) rfl rfl) ?_
      refine z_lload hC dX7_few_51 rfl ?_
      refine z_mmul hC dX7_few_53  ?_
      refine z_lload_n hC dX7_few_54 rfl ?_
      refine z_lcmp hC dX7_few_55  ?_
      refine z_if_ge hC dX7_few_56 (tgt := 145) (by decide) (fun c56 => ?_) (fun c56 => ?_)
      · skip
        rw [zlcmp_ge (by omega) (by omega)] at c56
        refine z_iload hC dX7_few_145 rfl ?_
        refine z_iret hC dX7_few_147 ?_
        exact hE.to (by rw [← hsp, fewN_e (by omega)]) rfl rfl rfl
      rw [zlcmp_ge (by omega) (by omega)] at c56
      have hcn2 : c < D.1.1 0 := by
        rcases Nat.lt_or_ge c (D.1.1 0) with h | h
        · exact h
        · have hce : c = D.1.1 0 := by omega
          rw [hce] at hct
          have hsa := sumT_all (f := (fwN D.1)) hct
          exact absurd c56 (by omega)
      refine z_iconst hC dX7_few_59 (v := -1) rfl ?_
      refine z_istore hC dX7_few_60 (lo2 := [_, _, _, _, _, _, _, _, _, _]) (Nat.le_of_ble_eq_true rfl) rfl rfl ?_
      refine z_iconst hC dX7_few_62 (v := nI 0) rfl ?_
      refine z_istore hC dX7_few_63 (lo2 := [_, _, _, _, _, _, _, _, _, _]) (Nat.le_of_ble_eq_true rfl) rfl rfl ?_
      have loop65 : ∀ (fuel : Nat) (i : Nat), D.1.1 0 - i < fuel → i ≤ D.1.1 0 → zL C 10 ad S 0 0 sz (mwI 0 D.1 I) (mwX 0 D.1 X) Y 65 [some (zr 0 0), some (zi (nI v)), some (zl (lN (v * sumN (fwN D.1) (D.1.1 0)))), none, some (zl (lN g)), none, some (zi (nI t)), some (zi (nI c)), some (zi (oI (gbN (fwN D.1) t i))), some (zi (nI i))] [] := by
        intro fuel2
        induction fuel2 with
        | zero => intro i hfu; exact absurd hfu (Nat.not_lt_zero _)
        | succ fuel2 ih2 =>
          intro i hfu hin
          refine z_iload hC dX7_few_65 rfl ?_
          refine z_aload_n hC dX7_few_67 rfl ?_
          refine z_getN hC dX7_few_68 (hS _) zfX7_94 rfl hq.1.1 ?_
          refine z_nicmp_ge hC dX7_few_71 (tgt := 117) (by decide) (by omega) (by omega) (fun c71 => ?_) (fun c71 => ?_)
          · skip
            skip
            · skip
              obtain rfl : i = D.1.1 0 := by omega
              obtain ⟨d, hb⟩ := gbN_some (f := (fwN D.1)) (t := t) (n := D.1.1 0) (by omega)
              have hbl := gbN_lt hb
              have hor := zor ht (show d < 14 by omega)
              have hbw := (fwN_le hR hbl).1
              rw [hb]
              show zL C 10 ad S 0 0 sz _ _ Y _ [_, _, _, _, _, _, _, _, some (zi (nI d)), _] _
              refine z_iload hC dX7_few_117 rfl ?_
              refine z_iconst hC dX7_few_119 (v := nI 1) rfl ?_
              refine z_iload hC dX7_few_120 rfl ?_
              refine z_ishl hC dX7_few_122  ?_
              refine z_ior hC dX7_few_123  ?_
              rw [hor.1]
              refine z_istore hC dX7_few_124 (lo2 := [_, _, _, _, _, _, _, _, _, _]) (Nat.le_of_ble_eq_true rfl) rfl rfl ?_
              refine z_lload hC dX7_few_126 rfl ?_
              refine z_aload_n hC dX7_few_128 rfl ?_
              refine z_getR hC dX7_few_129 (hS _) zfX7_86 rfl ?_
              refine z_iload hC dX7_few_132 rfl ?_
              refine z_naldN hC dX7_few_134 (hS _) (by omega) rfl (hw.2.2 _ (by omega)) ?_
              refine z_n2m hC dX7_few_135 (by show fwN D.1 d < _; omega) ?_
              refine z_madd hC dX7_few_136  ?_
              refine z_lstore hC dX7_few_137 (lo2 := [_, _, _, _, _, _, _, _, _, _]) (Nat.le_of_ble_eq_true rfl) rfl rfl ?_
              refine z_ninc hC dX7_few_139 (lo2 := [_, _, _, _, _, _, _, _, _, _]) rfl rfl rfl rfl ?_
              refine z_goto hC dX7_few_142 (tgt := 48) (by decide) ?_
              refine z_sub (by simp [zsub]) (ih (c + 1) (t ||| 2 ^ d) (g + (fwN D.1) d) (by omega) (by omega) hor.2 ?_ ?_ ?_ ?_)
              · omega
              · rw [cntN_set (gbN_free hb) hbl]; omega
              · rw [sumT_set (gbN_free hb) hbl]; omega
              · rw [← hsp, show D.1.1 0 - c = (D.1.1 0 - (c + 1)) + 1 by omega, fewN_2 (by omega) hb]
          have hi : i < D.1.1 0 := by omega
          refine z_iload hC dX7_few_74 rfl ?_
          refine z_iload hC dX7_few_76 rfl ?_
          refine wSv hC dX7_few_78 zlX7_279 (c_X7_has (by omega) (by omega)) rfl rfl rfl rfl ⟨rfl, rfl⟩ ?_
          refine w_ifb_ne hC dX7_few_81 (tgt := 111) (by decide) (fun c81 => ?_) (fun hnb => ?_)
          · skip
            have hnx : gbN (fwN D.1) t (i + 1) = gbN (fwN D.1) t i := gbN_s c81
            refine z_ninc hC dX7_few_111 (lo2 := [_, _, _, _, _, _, _, _, _, _]) rfl rfl rfl rfl ?_
            refine z_goto hC dX7_few_114 (tgt := 65) (by decide) ?_
            exact z_sub (by rw [hnx]; simp [zsub, oI]) (ih2 (i + 1) (by omega) (by omega))
          rcases hgb : gbN (fwN D.1) t i with _ | d
          · skip
            have hnx : gbN (fwN D.1) t (i + 1) = some i := gbN_n hnb hgb
            refine z_iload hC dX7_few_84 rfl ?_
            refine z_iconst hC dX7_few_86 (v := -1) rfl ?_
            refine z_icmp_eq hC dX7_few_87 (tgt := 107) (by decide) (fun c87 => ?_) (fun c87 => ?_)
            rotate_left
            · exact absurd c87 (fun z => z rfl)
            refine z_iload hC dX7_few_107 rfl ?_
            refine z_istore hC dX7_few_109 (lo2 := [_, _, _, _, _, _, _, _, _, _]) (Nat.le_of_ble_eq_true rfl) rfl rfl ?_
            refine z_ninc hC dX7_few_111 (lo2 := [_, _, _, _, _, _, _, _, _, _]) rfl rfl rfl rfl ?_
            refine z_goto hC dX7_few_114 (tgt := 65) (by decide) ?_
            exact z_sub (by rw [hnx]; simp [zsub, oI]) (ih2 (i + 1) (by omega) (by omega))
          · skip
            have hdl := gbN_lt hgb
            have hfd := (fwN_le hR (show d < D.1.1 0 by omega)).1
            have hfi := (fwN_le hR hi).1
            show zL C 10 ad S 0 0 sz _ _ Y _ [_, _, _, _, _, _, _, _, some (zi (nI d)), _] _
            refine z_iload hC dX7_few_84 rfl ?_
            refine z_iconst hC dX7_few_86 (v := -1) rfl ?_
            refine z_icmp_eq hC dX7_few_87 (tgt := 107) (by decide) (fun c87 => ?_) (fun c87 => ?_)
            · exact absurd c87 (zne1 (by omega))
            refine z_aload_n hC dX7_few_90 rfl ?_
            refine z_getR hC dX7_few_91 (hS _) zfX7_86 rfl ?_
            refine z_iload hC dX7_few_94 rfl ?_
            refine z_naldN hC dX7_few_96 (hS _) (by omega) rfl (hw.2.2 _ (by omega)) ?_
            refine z_aload_n hC dX7_few_97 rfl ?_
            refine z_getR hC dX7_few_98 (hS _) zfX7_86 rfl ?_
            refine z_iload hC dX7_few_101 rfl ?_
            refine z_naldN hC dX7_few_103 (hS _) (by omega) rfl (hw.2.2 _ (by omega)) ?_
            refine z_nicmp_le hC dX7_few_104 (tgt := 111) (by decide) (by show fwN D.1 _ < _; omega) (by show fwN D.1 _ < _; omega) (fun c104 => ?_) (fun c104 => ?_)
            · skip
              have hnx : gbN (fwN D.1) t (i + 1) = some d := gbN_g hnb hgb (by show ¬ (fwN D.1 d < fwN D.1 i); omega)
              refine z_ninc hC dX7_few_111 (lo2 := [_, _, _, _, _, _, _, _, _, _]) rfl rfl rfl rfl ?_
              refine z_goto hC dX7_few_114 (tgt := 65) (by decide) ?_
              exact z_sub (by rw [hnx]; simp [zsub, oI]) (ih2 (i + 1) (by omega) (by omega))
            have hnx : gbN (fwN D.1) t (i + 1) = some i := gbN_l hnb hgb (by show fwN D.1 d < fwN D.1 i; omega)
            refine z_iload hC dX7_few_107 rfl ?_
            refine z_istore hC dX7_few_109 (lo2 := [_, _, _, _, _, _, _, _, _, _]) (Nat.le_of_ble_eq_true rfl) rfl rfl ?_
            refine z_ninc hC dX7_few_111 (lo2 := [_, _, _, _, _, _, _, _, _, _]) rfl rfl rfl rfl ?_
            refine z_goto hC dX7_few_114 (tgt := 65) (by decide) ?_
            exact z_sub (by rw [hnx]; simp [zsub, oI]) (ih2 (i + 1) (by omega) (by omega))
      exact z_sub (by simp [zsub, gbN, oI]) (loop65 _ 0 (Nat.lt_succ_self _) (Nat.zero_le _))
  exact z_sub (by simp [zsub]) (loop48 _ 0 0 0 (Nat.lt_succ_self _) (Nat.zero_le _) (by decide) (Nat.zero_le _) (cnt0 _) (sumT_0 _) rfl)

theorem w_few_f (hS : ∀ k, S 0 k = msh 0 k) (hO : DOK D) (hM : MMe qe D I X Y) {x : Int32} (hx : ¬ iw x 0 1000) : zC0 mX7_few 6 [zr 0 0, zi x] (some (zi (-2))) ad S I X Y sz I (rmX 0 0 X) Y := by
  refine zgo (own := RX7) (k := 8) (by decide +kernel) rfl rfl rfl (fun C hC hnm hE => ?_)
  have hm := hM.1
  have hR := hO.1
  have hmo := hm
  have hn14 := hR.1
  have hn8 := hR.2.1
  have hn6 := hR.2.2.1
  refine z_iload_n hC dX7_few_0 rfl ?_
  refine z_i2l hC dX7_few_1  ?_
  refine z_lconst hC dX7_few_2 (v := lN 0) rfl ?_
  refine z_ldc2 hC dX7_few_3 (v := lN 1000) (zin5 (i := 169) rfl rfl) ?_
  refine wSv hC dX7_few_6 zlX7_97 (c_X7_inI (by omega) (by omega)) rfl rfl rfl rfl ⟨rfl, rfl⟩ ?_
  refine w_ifb_ne hC dX7_few_9 (tgt := 19) (by decide) (fun c9 => ?_) (fun c9 => ?_)
  · exact absurd c9 hx
  refine z_aload_n hC dX7_few_12 rfl ?_
  refine z_bipush hC dX7_few_13 (v := -2) rfl ?_
  refine wVv hC dX7_few_15 zlX7_107 (c_X7_refuse hS (j := 0) (by decide) (by decide)) (hS _) rfl rfl rfl rfl rfl rfl ⟨rfl, rfl⟩ ?_
  refine z_iret hC dX7_few_18 ?_
  exact hE.to (by rfl) rfl rfl rfl

theorem m_few (hS : ∀ k, S 0 k = msh 0 k) (hO : DOK D) (hM : MMe qe D I X Y) {x : Int32} : mC mX7_few 6 [zr 0 0, zi x] (some (zi (fewS D x).1)) (fewS D x).2 ad S I X Y sz qe := by
  unfold fewS
  by_cases h : iw x 0 1000
  · rw [if_pos h]
    obtain ⟨x, -, h2, rfl, e1⟩ := iw_e h (by decide) (by decide)
    rw [e1]
    exact ⟨_, _, Y, hM.mw, w_few_t hS hO hM h2⟩
  · rw [if_neg h]
    exact ⟨I, rmX 0 0 X, Y, hM.rf (by decide), w_few_f hS hO hM h⟩

end
