/-! Weights -/
def zrow (b c : Nat) (f : Nat → Nat) (k : Nat) (X : zI) : zI := fun b' c' j => if b' = b ∧ c' = c ∧ j < k then nI (f j) else X b' c' j
theorem zrow_0 {b c : Nat} {f : Nat → Nat} {X : zI} : zrow b c f 0 X = X := by
  funext b' c' j
  exact if_neg (by omega)
theorem zrow_s {b c k : Nat} {f : Nat → Nat} {X : zI} : up3 (zrow b c f k X) b c k (nI (f k)) = zrow b c f (k + 1) X := by
  funext b' c' j
  unfold up3 zrow
  by_cases h1 : b' = b ∧ c' = c ∧ j = k
  · rw [if_pos h1, if_pos (by omega), h1.2.2]
  · rw [if_neg h1]
    by_cases h2 : b' = b ∧ c' = c ∧ j < k
    · rw [if_pos h2, if_pos (by omega)]
    · rw [if_neg h2, if_neg (by omega)]
theorem zrow_same {b c k : Nat} {f : Nat → Nat} {X : zI} (h : X b c k = nI (f k)) : zrow b c f (k + 1) X = zrow b c f k X := by
  funext b' c' j
  unfold zrow
  by_cases h1 : b' = b ∧ c' = c ∧ j = k
  · obtain ⟨rfl, rfl, rfl⟩ := h1
    rw [if_pos (by omega), if_neg (by omega), h]
  · by_cases h2 : b' = b ∧ c' = c ∧ j < k
    · rw [if_pos h2, if_pos (by omega)]
    · rw [if_neg h2, if_neg (by omega)]
theorem zrow_get {b c j k : Nat} {f : Nat → Nat} {X : zI} (h : j < k) : zrow b c f k X b c j = nI (f j) := if_pos ⟨rfl, rfl, h⟩
theorem zrow_ne {b c k b' c' j : Nat} {f : Nat → Nat} {X : zI} (h : ¬ (b' = b ∧ c' = c ∧ j < k)) : zrow b c f k X b' c' j = X b' c' j := if_neg h
theorem zrow_zrow {b c k : Nat} {f g : Nat → Nat} {X : zI} : zrow b c f k (zrow b c g k X) = zrow b c f k X := by
  funext b' c' j
  unfold zrow
  split <;> rfl
theorem zrow_up {b c k c' j : Nat} {f : Nat → Nat} {X : zI} {v : Int32} (h : c' ≠ c) : up3 (zrow b c f k X) b c' j v = zrow b c f k (up3 X b c' j v) := by
  funext b1 c1 j1
  unfold up3 zrow
  by_cases h1 : b1 = b ∧ c1 = c' ∧ j1 = j
  · rw [if_pos h1, if_neg (by omega)]; exact (if_pos h1).symm
  · rw [if_neg h1]
    split
    · rfl
    · exact (if_neg h1).symm
theorem zrow_swap {b c c' k k' : Nat} {f g : Nat → Nat} {X : zI} (h : c' ≠ c) : zrow b c f k (zrow b c' g k' X) = zrow b c' g k' (zrow b c f k X) := by
  funext b1 c1 j1
  unfold zrow
  by_cases h1 : b1 = b ∧ c1 = c ∧ j1 < k
  · rw [if_pos h1, if_neg (by omega)]; exact (if_pos h1).symm
  · rw [if_neg h1]
    split <;> rfl
def heedW (w : Nat → Nat) (b q left : Nat) : Nat → Nat := fun i => if (q = 1 ↔ i ≤ b) then w i * left / 100 else w i
def heedH (h q left : Nat) : Nat := if q = 1 then h else h * left / 100
def signW (R : RS) : Nat → Nat → Nat
  | 0 => fellN (rfall R (R.1 3))
  | s + 1 => heedW (signW R s) (R.2.1 5 s) (R.2.1 6 s) (100 - R.2.1 7 s)
def signH (R : RS) : Nat → Nat
  | 0 => heldN (rfall R (R.1 3)) (R.1 0)
  | s + 1 => heedH (signH R s) (R.2.1 6 s) (100 - R.2.1 7 s)
theorem pctN {w p : Nat} (hp : p ≤ 100) : w * p / 100 ≤ w := by
  have : w * p ≤ w * 100 := Nat.mul_le_mul_left _ hp
  omega
theorem heedW_le {w : Nat → Nat} {b q left i M : Nat} (hw : w i ≤ M) (hl : left ≤ 100) : heedW w b q left i ≤ M := by
  unfold heedW
  have := pctN (w := w i) hl
  split <;> omega
theorem heedH_le {h q left M : Nat} (hw : h ≤ M) (hl : left ≤ 100) : heedH h q left ≤ M := by
  unfold heedH
  have := pctN (w := h) hl
  split <;> omega
theorem signW_le {R : RS} (hR : ROK R) {i : Nat} (hi : i < R.1 0) : ∀ s, signW R s i ≤ 1000000
  | 0 => by
    have h1 := fellN_le (fl := rfall R (R.1 3)) (i := i) (by have := rfall_le hR hi hR.2.2.2.1.2; omega)
    have h2 := heldN_le (rfall R (R.1 3)) i
    exact Nat.le_trans h1 h2
  | s + 1 => heedW_le (signW_le hR hi s) (by omega)
theorem signH_le {R : RS} : ∀ s, signH R s ≤ 1000000
  | 0 => heldN_le _ _
  | s + 1 => heedH_le (signH_le s) (by omega)
/-- what Weights holds: n bends, fallen w, miss m, held h -/
def zWm (n : Nat) (w m : Nat → Nat) (h : Nat) (I X : zI) : Prop :=
  I 3 22 2 = nI n ∧ I 3 22 3 = nI h ∧ (∀ i, i < n → X 3 23 i = nI (w i)) ∧ (∀ i, i < n → X 3 24 i = nI (m i)) ∧ n ≤ 14 ∧ h ≤ 1000000 ∧ ∀ i, i < n → w i ≤ 1000000 ∧ m i ≤ 100
def wtN (w m : Nat → Nat) (i : Nat) : Nat := w i * m i / 100
theorem wtN_le {n : Nat} {w m : Nat → Nat} {h : Nat} {I X : zI} (hw : zWm n w m h I X) {i : Nat} (hi : i < n) : wtN w m i ≤ 1000000 ∧ w i * m i ≤ 100000000 := by
  obtain ⟨-, -, -, -, -, -, hb⟩ := hw
  obtain ⟨h1, h2⟩ := hb i hi
  have h3 : w i * m i ≤ 1000000 * 100 := Nat.mul_le_mul h1 h2
  unfold wtN
  omega
def sumR (f : Nat → Nat) (a b : Nat) : Nat := sumN (fun i => f (a + i)) (b - a)
theorem sumR_s {f : Nat → Nat} {a b : Nat} (h : a ≤ b) : sumR f a (b + 1) = sumR f a b + f b := by
  unfold sumR
  rw [show b + 1 - a = (b - a) + 1 by omega]
  show sumN _ (b - a) + f (a + (b - a)) = _
  rw [show a + (b - a) = b by omega]
theorem sumR_0 {f : Nat → Nat} {a b : Nat} (h : b ≤ a) : sumR f a b = 0 := by
  unfold sumR
  rw [show b - a = 0 by omega]; rfl
theorem sumN_congr {f g : Nat → Nat} : ∀ {n : Nat}, (∀ i, i < n → f i = g i) → sumN f n = sumN g n
  | 0, _ => rfl
  | n + 1, h => by
    show sumN f n + f n = sumN g n + g n
    rw [sumN_congr (n := n) (fun i hi => h i (by omega)), h n (by omega)]
theorem sumR_N {f : Nat → Nat} {b : Nat} : sumR f 0 b = sumN f b := by
  unfold sumR
  rw [Nat.sub_zero]
  exact sumN_congr (fun i _ => by rw [Nat.zero_add])
theorem sumR_le {f : Nat → Nat} {a b M : Nat} (h : ∀ i, a ≤ i → i < b → f i ≤ M) : sumR f a b ≤ (b - a) * M := sumN_le (fun i hi => h (a + i) (by omega) (by omega))
def oI : Option Nat → Int32
  | none => -1
  | some i => nI i
def gbN (f : Nat → Nat) (t : Nat) : Nat → Option Nat
  | 0 => none
  | i + 1 => if bitN t i then gbN f t i else match gbN f t i with
    | none => some i
    | some b => if f b < f i then some i else some b
theorem gbN_s {f : Nat → Nat} {t i : Nat} (h : bitN t i) : gbN f t (i + 1) = gbN f t i := if_pos h
theorem gbN_n {f : Nat → Nat} {t i : Nat} (h : ¬ bitN t i) (hg : gbN f t i = none) : gbN f t (i + 1) = some i := by
  show (if bitN t i then _ else _) = _
  rw [if_neg h, hg]
theorem gbN_l {f : Nat → Nat} {t i b : Nat} (h : ¬ bitN t i) (hg : gbN f t i = some b) (hl : f b < f i) : gbN f t (i + 1) = some i := by
  show (if bitN t i then _ else _) = _
  rw [if_neg h, hg]
  exact if_pos hl
theorem gbN_g {f : Nat → Nat} {t i b : Nat} (h : ¬ bitN t i) (hg : gbN f t i = some b) (hl : ¬ f b < f i) : gbN f t (i + 1) = some b := by
  show (if bitN t i then _ else _) = _
  rw [if_neg h, hg]
  exact if_neg hl
theorem gbN_lt {f : Nat → Nat} {t : Nat} : ∀ {n b : Nat}, gbN f t n = some b → b < n
  | 0, b, h => by cases h
  | n + 1, b, h => by
    unfold gbN at h
    split at h
    · have := gbN_lt h; omega
    · cases hg : gbN f t n with
      | none => rw [hg] at h; cases h; omega
      | some c =>
        have := gbN_lt hg
        rw [hg] at h
        dsimp only at h
        split at h <;> (cases h; omega)
section
variable {ad : zA} {S : zSh} {I X : zI} {Y : zY} {sz : Nat} {n h : Nat} {w m : Nat → Nat}

theorem c_X5_at (hD : ∀ k, S 3 k = dsh k) (hw : zWm n w m h I X) {i : Nat} (hi : i < n) : zC0 mX5_at 0 [zr 3 22, zi (nI i)] (some (zi (nI (wtN w m i)))) ad S I X Y sz I X Y := by
  refine zgo (own := RX5) (k := 0) (by decide +kernel) rfl rfl rfl (fun C hC hnm hE => ?_)
  have hb := wtN_le hw hi
  have hn := hw.2.2.2.2.1
  refine z_iload_n hC dX5_at_0 rfl ?_
  refine z_iconst hC dX5_at_1 (v := -1) rfl ?_
  refine z_icmp_ne hC dX5_at_2 (tgt := 10) (by decide) (fun c2 => ?_) (fun c2 => ?_)
  rotate_left
  · exact absurd c2 (zne1 (by omega))
  refine z_iload_n hC dX5_at_10 rfl ?_
  refine z_nif_lt hC dX5_at_11 ⟨41, by decide⟩ (by omega) ?_
  refine z_iload_n hC dX5_at_14 rfl ?_
  refine z_aload_n hC dX5_at_15 rfl ?_
  refine z_getN hC dX5_at_16 (hD _) zfX5_36 rfl hw.1 ?_
  refine z_nicmp_ge hC dX5_at_19 (tgt := 41) (by decide) (by omega) (by omega) (fun c19 => ?_) (fun c19 => ?_)
  · exfalso; omega
  refine z_aload_n hC dX5_at_22 rfl ?_
  refine z_getR hC dX5_at_23 (hD _) zfX5_9 rfl ?_
  refine z_iload_n hC dX5_at_26 rfl ?_
  refine z_naldN hC dX5_at_27 (hD _) (by omega) rfl (hw.2.2.1 i hi) ?_
  refine z_aload_n hC dX5_at_28 rfl ?_
  refine z_getR hC dX5_at_29 (hD _) zfX5_15 rfl ?_
  refine z_iload_n hC dX5_at_32 rfl ?_
  refine z_naldN hC dX5_at_33 (hD _) (by omega) rfl (hw.2.2.2.1 i hi) ?_
  refine z_nmul hC dX5_at_34  ?_
  refine z_bipush hC dX5_at_35 (v := nI 100) rfl ?_
  refine z_ndiv hC dX5_at_37 (by omega) (by omega) (by omega) ?_
  refine z_goto hC dX5_at_38 (tgt := 42) (by decide) ?_
  refine z_iret hC dX5_at_42 ?_
  exact hE.to (by rfl) rfl rfl rfl

theorem c_X5_atNone (hD : ∀ k, S 3 k = dsh k) (hw : zWm n w m h I X)  : zC0 mX5_at 0 [zr 3 22, zi (-1)] (some (zi (nI h))) ad S I X Y sz I X Y := by
  refine zgo (own := RX5) (k := 0) (by decide +kernel) rfl rfl rfl (fun C hC hnm hE => ?_)
  refine z_iload_n hC dX5_at_0 rfl ?_
  refine z_iconst hC dX5_at_1 (v := -1) rfl ?_
  refine z_icmp_ne hC dX5_at_2 (tgt := 10) (by decide) (fun c2 => ?_) (fun c2 => ?_)
  · exact absurd rfl c2
  refine z_aload_n hC dX5_at_5 rfl ?_
  refine z_getN hC dX5_at_6 (hD _) zfX5_47 rfl hw.2.1 ?_
  refine z_iret hC dX5_at_9 ?_
  exact hE.to (by rfl) rfl rfl rfl

theorem c_X5_sum (hD : ∀ k, S 3 k = dsh k) (hw : zWm n w m h I X) {a t : Nat} (ht : t < n) (ha : a ≤ 1000) : zC0 mX5_sum 1 [zr 3 22, zi (nI a), zi (nI t)] (some (zi (nI (sumR (wtN w m) a (t + 1))))) ad S I X Y sz I X Y := by
  refine zgo (own := RX5) (k := 2) (by decide +kernel) rfl rfl rfl (fun C hC hnm hE => ?_)
  have hn := hw.2.2.2.2.1
  refine z_iconst hC dX5_sum_0 (v := nI 0) rfl ?_
  refine z_istore_n hC dX5_sum_1 (lo2 := [_, _, _, _, _]) (Nat.le_of_ble_eq_true rfl) rfl rfl ?_
  refine z_iconst hC dX5_sum_2 (v := nI 0) rfl ?_
  refine z_iload_n hC dX5_sum_3 rfl ?_
  refine z_max hC dX5_sum_4 (zin3 (i := 127) rfl rfl) zmW_max (Nat.le_of_ble_eq_true rfl) (Nat.le_of_ble_eq_true rfl) (Nat.le_refl _) (Nat.le_refl _) ?_
  rw [zmax0 (by omega)]
  refine z_istore hC dX5_sum_7 (lo2 := [_, _, _, _, _]) (Nat.le_of_ble_eq_true rfl) rfl rfl ?_
  have loop9 : ∀ (fuel : Nat) (i : Nat), t + 1 - i < fuel → a ≤ i → (i ≤ t + 1 ∨ i = a) → zL C 5 ad S 0 0 sz I X Y 9 [some (zr 3 22), some (zi (nI a)), some (zi (nI t)), some (zi (nI (sumR (wtN w m) a i))), some (zi (nI i))] [] := by
    intro fuel
    induction fuel with
    | zero => intro i hfu; exact absurd hfu (Nat.not_lt_zero _)
    | succ fuel ih =>
      intro i hfu hai hit
      refine z_iload hC dX5_sum_9 rfl ?_
      refine z_iload_n hC dX5_sum_11 rfl ?_
      refine z_nicmp_gt hC dX5_sum_12 (tgt := 39) (by decide) (by omega) (by omega) (fun c12 => ?_) (fun c12 => ?_)
      · skip
        refine z_iload_n hC dX5_sum_39 rfl ?_
        refine z_iret hC dX5_sum_40 ?_
        exact hE.to (by by_cases hx : t + 1 = i; (· rw [hx]); rw [sumR_0 (a := a) (b := t + 1) (by omega), sumR_0 (a := a) (b := i) (by omega)]) rfl rfl rfl
      refine z_iload hC dX5_sum_15 rfl ?_
      refine z_aload_n hC dX5_sum_17 rfl ?_
      refine z_getN hC dX5_sum_18 (hD _) zfX5_36 rfl hw.1 ?_
      refine z_nicmp_ge hC dX5_sum_21 (tgt := 39) (by decide) (by omega) (by omega) (fun c21 => ?_) (fun c21 => ?_)
      · exfalso; omega
      refine z_iload_n hC dX5_sum_24 rfl ?_
      refine z_aload_n hC dX5_sum_25 rfl ?_
      refine z_iload hC dX5_sum_26 rfl ?_
      refine zVv hC dX5_sum_28 zlX5_60 (c_X5_at hD hw (by omega)) (hD _) rfl rfl rfl rfl rfl rfl ?_
      refine z_nadd hC dX5_sum_31  ?_
      refine z_istore_n hC dX5_sum_32 (lo2 := [_, _, _, _, _]) (Nat.le_of_ble_eq_true rfl) rfl rfl ?_
      refine z_ninc hC dX5_sum_33 (lo2 := [_, _, _, _, _]) rfl rfl rfl rfl ?_
      refine z_goto hC dX5_sum_36 (tgt := 9) (by decide) ?_
      refine z_sub (by simp [zsub, sumR_s hai]) (ih (i + 1) (by omega) (by omega) (by omega))
  exact z_sub (by simp [zsub, sumR_0]) (loop9 _ a (Nat.lt_succ_self _) (Nat.le_refl _) (Or.inr rfl))

theorem c_X5_sum0 (hD : ∀ k, S 3 k = dsh k) (hw : zWm 0 w m h I X) : zC0 mX5_sum 1 [zr 3 22, zi (nI 0), zi (nI 0 - nI 1)] (some (zi (nI 0))) ad S I X Y sz I X Y := by
  refine zgo (own := RX5) (k := 2) (by decide +kernel) rfl rfl rfl (fun C hC hnm hE => ?_)
  refine z_iconst hC dX5_sum_0 (v := nI 0) rfl ?_
  refine z_istore_n hC dX5_sum_1 (lo2 := [_, _, _, _, _]) (Nat.le_of_ble_eq_true rfl) rfl rfl ?_
  refine z_iconst hC dX5_sum_2 (v := nI 0) rfl ?_
  refine z_iload_n hC dX5_sum_3 rfl ?_
  refine z_max hC dX5_sum_4 (zin3 (i := 127) rfl rfl) zmW_max (Nat.le_of_ble_eq_true rfl) (Nat.le_of_ble_eq_true rfl) (Nat.le_refl _) (Nat.le_refl _) ?_
  rw [zmax0 (by omega)]
  refine z_istore hC dX5_sum_7 (lo2 := [_, _, _, _, _]) (Nat.le_of_ble_eq_true rfl) rfl rfl ?_
  refine z_iload hC dX5_sum_9 rfl ?_
  refine z_iload_n hC dX5_sum_11 rfl ?_
  refine z_icmp_gt hC dX5_sum_12 (tgt := 39) (by decide) (fun c12 => ?_) (fun c12 => ?_)
  rotate_left
  · exact absurd c12 (by decide)
  refine z_iload_n hC dX5_sum_39 rfl ?_
  refine z_iret hC dX5_sum_40 ?_
  exact hE.to (by rfl) rfl rfl rfl

theorem c_X5_sumAll (hD : ∀ k, S 3 k = dsh k) (hw : zWm n w m h I X) : zC0 mX5_sum 1 [zr 3 22, zi (nI 0), zi (nI n - nI 1)] (some (zi (nI (sumN (wtN w m) n)))) ad S I X Y sz I X Y := by
  cases hn : n with
  | zero =>
    subst hn
    exact c_X5_sum0 hD hw
  | succ k =>
    subst hn
    rw [pk_sub (by omega), ← sumR_N]
    exact c_X5_sum hD hw (t := k) (by omega) (by omega)
theorem c_X5_all (hD : ∀ k, S 3 k = dsh k) (hw : zWm n w m h I X)  : zC0 mX5_all 2 [zr 3 22] (some (zi (nI (sumN (wtN w m) n + h)))) ad S I X Y sz I X Y := by
  refine zgo (own := RX5) (k := 0) (by decide +kernel) rfl rfl rfl (fun C hC hnm hE => ?_)
  refine z_aload_n hC dX5_all_0 rfl ?_
  refine z_iconst hC dX5_all_1 (v := nI 0) rfl ?_
  refine z_aload_n hC dX5_all_2 rfl ?_
  refine z_getN hC dX5_all_3 (hD _) zfX5_36 rfl hw.1 ?_
  refine z_iconst hC dX5_all_6 (v := nI 1) rfl ?_
  refine z_isub hC dX5_all_7  ?_
  refine zVv hC dX5_all_8 zlX5_63 (c_X5_sumAll hD hw) (hD _) rfl rfl rfl rfl rfl rfl ?_
  refine z_aload_n hC dX5_all_11 rfl ?_
  refine z_getN hC dX5_all_12 (hD _) zfX5_47 rfl hw.2.1 ?_
  refine z_nadd hC dX5_all_15  ?_
  refine z_iret hC dX5_all_16 ?_
  exact hE.to (by rfl) rfl rfl rfl

theorem c_X5_greatestBut (hD : ∀ k, S 3 k = dsh k) (hw : zWm n w m h I X) {t : Nat} (ht : t < 2 ^ 31) : zC0 mX5_greatestBut 1 [zr 3 22, zi (nI t)] (some (zi (oI (gbN (wtN w m) t n)))) ad S I X Y sz I X Y := by
  refine zgo (own := RX5) (k := 2) (by decide +kernel) rfl rfl rfl (fun C hC hnm hE => ?_)
  have hn := hw.2.2.2.2.1
  refine z_iconst hC dX5_greatestBut_0 (v := -1) rfl ?_
  refine z_istore_n hC dX5_greatestBut_1 (lo2 := [_, _, _, _]) (Nat.le_of_ble_eq_true rfl) rfl rfl ?_
  refine z_iconst hC dX5_greatestBut_2 (v := nI 0) rfl ?_
  refine z_istore_n hC dX5_greatestBut_3 (lo2 := [_, _, _, _]) (Nat.le_of_ble_eq_true rfl) rfl rfl ?_
  have loop4 : ∀ (fuel : Nat) (i : Nat), n - i < fuel → i ≤ n → zL C 4 ad S 0 0 sz I X Y 4 [some (zr 3 22), some (zi (nI t)), some (zi (oI (gbN (wtN w m) t i))), some (zi (nI i))] [] := by
    intro fuel
    induction fuel with
    | zero => intro i hfu; exact absurd hfu (Nat.not_lt_zero _)
    | succ fuel ih =>
      intro i hfu hin
      refine z_iload_n hC dX5_greatestBut_4 rfl ?_
      refine z_aload_n hC dX5_greatestBut_5 rfl ?_
      refine z_getN hC dX5_greatestBut_6 (hD _) zfX5_36 rfl hw.1 ?_
      refine z_nicmp_ge hC dX5_greatestBut_9 (tgt := 46) (by decide) (by omega) (by omega) (fun c9 => ?_) (fun c9 => ?_)
      · skip
        refine z_iload_n hC dX5_greatestBut_46 rfl ?_
        refine z_iret hC dX5_greatestBut_47 ?_
        exact hE.to (by rw [show n = i by omega]) rfl rfl rfl
      refine z_iload_n hC dX5_greatestBut_12 rfl ?_
      refine z_iload_n hC dX5_greatestBut_13 rfl ?_
      refine zNv hC dX5_greatestBut_14 zlX5_66 (c_X6_isIn ht (by omega)) rfl rfl rfl rfl ?_
      refine z_ifb_ne hC dX5_greatestBut_17 (tgt := 40) (by decide) (fun c17 => ?_) (fun c17 => ?_)
      · skip
        refine z_ninc hC dX5_greatestBut_40 (lo2 := [_, _, _, _]) rfl rfl rfl rfl ?_
        refine z_goto hC dX5_greatestBut_43 (tgt := 4) (by decide) ?_
        refine z_sub ?_ (ih (i + 1) (by omega) (by omega))
        first | rw [gbN_s c17] | rw [gbN_n c17 hg] | rw [gbN_l c17 hg c35] | rw [gbN_g c17 hg (by omega)]
        simp [zsub, oI]
      rcases hg : gbN (wtN w m) t i with _ | b
      · skip
        show zL C 4 ad S 0 0 sz I X Y _ [_, _, some (zi (-1)), _] _
        refine z_iload_n hC dX5_greatestBut_20 rfl ?_
        refine z_iconst hC dX5_greatestBut_21 (v := -1) rfl ?_
        refine z_icmp_eq hC dX5_greatestBut_22 (tgt := 38) (by decide) (fun c22 => ?_) (fun c22 => ?_)
        rotate_left
        · exact absurd c22 (fun e => e rfl)
        refine z_iload_n hC dX5_greatestBut_38 rfl ?_
        refine z_istore_n hC dX5_greatestBut_39 (lo2 := [_, _, _, _]) (Nat.le_of_ble_eq_true rfl) rfl rfl ?_
        refine z_ninc hC dX5_greatestBut_40 (lo2 := [_, _, _, _]) rfl rfl rfl rfl ?_
        refine z_goto hC dX5_greatestBut_43 (tgt := 4) (by decide) ?_
        refine z_sub ?_ (ih (i + 1) (by omega) (by omega))
        first | rw [gbN_s c17] | rw [gbN_n c17 hg] | rw [gbN_l c17 hg c35] | rw [gbN_g c17 hg (by omega)]
        simp [zsub, oI]
      · skip
        have hbl := gbN_lt hg
        have hbi := wtN_le hw (i := i) (by omega)
        have hbb := wtN_le hw (i := b) (by omega)
        show zL C 4 ad S 0 0 sz I X Y _ [_, _, some (zi (nI b)), _] _
        refine z_iload_n hC dX5_greatestBut_20 rfl ?_
        refine z_iconst hC dX5_greatestBut_21 (v := -1) rfl ?_
        refine z_icmp_eq hC dX5_greatestBut_22 (tgt := 38) (by decide) (fun c22 => ?_) (fun c22 => ?_)
        · exact absurd c22 (zne1 (by omega))
        refine z_aload_n hC dX5_greatestBut_25 rfl ?_
        refine z_iload_n hC dX5_greatestBut_26 rfl ?_
        refine zVv hC dX5_greatestBut_27 zlX5_60 (c_X5_at hD hw (i := i) (by omega)) (hD _) rfl rfl rfl rfl rfl rfl ?_
        refine z_aload_n hC dX5_greatestBut_30 rfl ?_
        refine z_iload_n hC dX5_greatestBut_31 rfl ?_
        refine zVv hC dX5_greatestBut_32 zlX5_60 (c_X5_at hD hw (i := b) (by omega)) (hD _) rfl rfl rfl rfl rfl rfl ?_
        refine z_nicmp_le hC dX5_greatestBut_35 (tgt := 40) (by decide) (by omega) (by omega) (fun c35 => ?_) (fun c35 => ?_)
        · skip
          refine z_ninc hC dX5_greatestBut_40 (lo2 := [_, _, _, _]) rfl rfl rfl rfl ?_
          refine z_goto hC dX5_greatestBut_43 (tgt := 4) (by decide) ?_
          refine z_sub ?_ (ih (i + 1) (by omega) (by omega))
          first | rw [gbN_s c17] | rw [gbN_n c17 hg] | rw [gbN_l c17 hg c35] | rw [gbN_g c17 hg (by omega)]
          simp [zsub, oI]
        refine z_iload_n hC dX5_greatestBut_38 rfl ?_
        refine z_istore_n hC dX5_greatestBut_39 (lo2 := [_, _, _, _]) (Nat.le_of_ble_eq_true rfl) rfl rfl ?_
        refine z_ninc hC dX5_greatestBut_40 (lo2 := [_, _, _, _]) rfl rfl rfl rfl ?_
        refine z_goto hC dX5_greatestBut_43 (tgt := 4) (by decide) ?_
        refine z_sub ?_ (ih (i + 1) (by omega) (by omega))
        first | rw [gbN_s c17] | rw [gbN_n c17 hg] | rw [gbN_l c17 hg c35] | rw [gbN_g c17 hg (by omega)]
        simp [zsub, oI]
  exact z_sub (by simp [zsub, gbN, oI]) (loop4 _ 0 (Nat.lt_succ_self _) (Nat.zero_le _))

end
