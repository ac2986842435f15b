/-! the reference: status; one road into another -/
def cprow (b k b' k' n : Nat) (X : zI) : zI := fun b1 k1 j => if b1 = b' ∧ k1 = k' ∧ j < n then X b k j else X b1 k1 j
theorem cprow_s {b k b' k' n : Nat} {X : zI} (h : ¬ (b = b' ∧ k = k')) : up3 (cprow b k b' k' n X) b' k' n (cprow b k b' k' n X b k n) = cprow b k b' k' (n + 1) X := by
  have e : cprow b k b' k' n X b k n = X b k n := if_neg (fun z => h ⟨z.1, z.2.1⟩)
  rw [e]
  funext b1 k1 j
  unfold up3 cprow
  by_cases h1 : b1 = b' ∧ k1 = k' ∧ j = n
  · rw [if_pos h1, if_pos (by omega), h1.2.2]
  · rw [if_neg h1]
    by_cases h2 : b1 = b' ∧ k1 = k' ∧ j < n
    · rw [if_pos h2, if_pos (by omega)]
    · rw [if_neg h2, if_neg (by omega)]
theorem cprow_0 {b k b' k' : Nat} {X : zI} : cprow b k b' k' 0 X = X := by
  funext b1 k1 j
  exact if_neg (by omega)
def lenC (k : Nat) : Nat := if k ≤ 21 then 14 else if k ≤ 24 then 9 else 6
def tfX (b1 b2 m : Nat) (X : zI) : zI := fun b k j => if b = b1 ∧ 17 ≤ k ∧ k ≤ m ∧ j < lenC k then X b2 k j else X b k j
theorem tfX_0 {b1 b2 : Nat} {X : zI} : tfX b1 b2 16 X = X := by
  funext b k j
  exact if_neg (by omega)
theorem tfX_s {b1 b2 m n : Nat} {X : zI} (h : b1 ≠ b2) (hm : 17 ≤ m) (hn : lenC m = n) : cprow b2 m b1 m n (tfX b1 b2 (m - 1) X) = tfX b1 b2 m X := by
  subst hn
  funext b k j
  unfold cprow tfX
  by_cases h1 : b = b1 ∧ k = m ∧ j < lenC m
  · obtain ⟨rfl, rfl, h3⟩ := h1
    rw [if_pos ⟨rfl, rfl, h3⟩, if_neg (fun z => h z.1.symm), if_pos ⟨rfl, hm, Nat.le_refl _, h3⟩]
  · rw [if_neg h1]
    by_cases h2 : b = b1 ∧ 17 ≤ k ∧ k ≤ m - 1 ∧ j < lenC k
    · rw [if_pos h2, if_pos ⟨h2.1, h2.2.1, by omega, h2.2.2.2⟩]
    · rw [if_neg h2]
      refine (if_neg (fun z => ?_)).symm
      by_cases e : k = m
      · subst e; exact h1 ⟨z.1, rfl, z.2.2.2⟩
      · exact h2 ⟨z.1, z.2.1, by omega, z.2.2.2⟩
abbrev tfS (j : Nat) : Prop := j = 9 ∨ j = 15 ∨ j = 19 ∨ 23 ≤ j ∧ j ≤ 27
def tfI (b1 b2 m : Nat) (I : zI) : zI := fun b k j => if b = b1 ∧ k = 0 ∧ tfS j ∧ j ≤ m then I b2 0 j else I b k j
theorem tfI_0 {b1 b2 : Nat} {I : zI} : tfI b1 b2 8 I = I := by
  funext b k j
  exact if_neg (by omega)
theorem tfI_s {b1 b2 m j : Nat} {I : zI} (h : b1 ≠ b2) (hj : tfS j) (hm : ∀ i, tfS i → (i ≤ j ↔ i ≤ m ∨ i = j)) : up3 (tfI b1 b2 m I) b1 0 j (tfI b1 b2 m I b2 0 j) = tfI b1 b2 j I := by
  have e : tfI b1 b2 m I b2 0 j = I b2 0 j := if_neg (fun z => h z.1.symm)
  rw [e]
  funext b k i
  unfold up3 tfI
  by_cases h1 : b = b1 ∧ k = 0 ∧ i = j
  · obtain ⟨rfl, rfl, rfl⟩ := h1
    rw [if_pos ⟨rfl, rfl, rfl⟩, if_pos ⟨rfl, rfl, hj, Nat.le_refl _⟩]
  · rw [if_neg h1]
    by_cases h2 : b = b1 ∧ k = 0 ∧ tfS i ∧ i ≤ m
    · rw [if_pos h2, if_pos ⟨h2.1, h2.2.1, h2.2.2.1, (hm i h2.2.2.1).mpr (Or.inl h2.2.2.2)⟩]
    · rw [if_neg h2]
      refine (if_neg (fun z => ?_)).symm
      rcases (hm i z.2.2.1).mp z.2.2.2 with c | c
      · exact h2 ⟨z.1, z.2.1, z.2.2.1, c⟩
      · exact h1 ⟨z.1, z.2.1, c⟩
theorem zQm.take {b1 b2 : Nat} {R : RS} {I X : zI} (h : zQm b2 R I X) (hR : ROK R) : zQm b1 R (tfI b1 b2 27 I) (tfX b1 b2 27 X) := by
  have hn14 := hR.1
  have hn8 := hR.2.1
  have hn6 := hR.2.2.1
  have e : ∀ j, tfS j → tfI b1 b2 27 I b1 0 j = I b2 0 j := fun j hj => if_pos ⟨rfl, rfl, hj, by omega⟩
  have e2 : ∀ k j, 17 ≤ k → k ≤ 27 → j < lenC k → tfX b1 b2 27 X b1 k j = X b2 k j := fun k j h1 h2 h3 => if_pos ⟨rfl, h1, h2, h3⟩
  obtain ⟨⟨a1, a2, a3, a4, a5, a6, a7, a8⟩, h2, h3, h4⟩ := h
  refine ⟨⟨?_, ?_, ?_, ?_, ?_, ?_, ?_, ?_⟩, fun j i hj hi => ?_, fun j i hj hi => ?_, fun j i hj hi => ?_⟩
  all_goals first | (rw [e _ (by omega)]; assumption) | skip
  · rw [e2 _ _ (by omega) (by omega) (by unfold lenC; rw [if_pos (by omega)]; omega)]; exact h2 j i hj hi
  · rw [e2 _ _ (by omega) (by omega) (by unfold lenC; rw [if_neg (by omega), if_pos (by omega)]; omega)]; exact h3 j i hj hi
  · rw [e2 _ _ (by omega) (by omega) (by unfold lenC; rw [if_neg (by omega), if_neg (by omega)]; omega)]; exact h4 j i hj hi
theorem tfI_ne {b1 b2 m : Nat} {I : zI} {b k j : Nat} (h : ¬ (b = b1 ∧ k = 0 ∧ tfS j)) : tfI b1 b2 m I b k j = I b k j := if_neg (fun z => h ⟨z.1, z.2.1, z.2.2.1⟩)
theorem tfX_ne {b1 b2 m : Nat} {X : zI} {b k j : Nat} (h : ¬ (b = b1 ∧ 17 ≤ k ∧ k ≤ m)) : tfX b1 b2 m X b k j = X b k j := if_neg (fun z => h ⟨z.1, z.2.1, z.2.2.1⟩)
section
variable {ad : zA} {S : zSh} {I X : zI} {Y : zY} {sz b : Nat} {R : RS}

theorem c_X7_yardsToP (hS : ∀ k, S b k = msh b k) (hm : zQm b R I X) (hR : ROK R) {y : Nat} (hy : y ≤ R.1 0) : zC0 mX7_yardsTo 0 [zr b 0, zi (nI y - nI 1)] (some (zi (nI (sumN (R.2.1 2) y)))) ad S I X Y sz I X Y := by
  refine zgo (own := RX7) (k := 2) (by decide +kernel) rfl rfl rfl (fun C hC hnm hE => ?_)
  have hmo := hm
  have hn14 := hR.1
  have hn8 := hR.2.1
  have hn6 := hR.2.2.1
  refine z_iconst hC dX7_yardsTo_0 (v := nI 0) rfl ?_
  refine z_istore_n hC dX7_yardsTo_1 (lo2 := [_, _, _, _]) (Nat.le_of_ble_eq_true rfl) rfl rfl ?_
  refine z_iconst hC dX7_yardsTo_2 (v := nI 0) rfl ?_
  refine z_istore_n hC dX7_yardsTo_3 (lo2 := [_, _, _, _]) (Nat.le_of_ble_eq_true rfl) rfl rfl ?_
  have loop4 : ∀ (fuel : Nat) (i : Nat), y - i < fuel → i ≤ y → zL C 4 ad S 0 0 sz I X Y 4 [some (zr b 0), some (zi (nI y - nI 1)), some (zi (nI (sumN (R.2.1 2) i))), some (zi (nI i))] [] := by
    intro fuel
    induction fuel with
    | zero => intro i hfu; exact absurd hfu (Nat.not_lt_zero _)
    | succ fuel ih =>
      intro i hfu hi
      refine z_iload_n hC dX7_yardsTo_4 rfl ?_
      refine z_iload_n hC dX7_yardsTo_5 rfl ?_
      refine z_icmp_gt hC dX7_yardsTo_6 (tgt := 24) (by decide) (fun c6 => ?_) (fun c6 => ?_)
      · skip
        rw [prd_lt (by omega) (by omega)] at c6
        have hyi : y = i := by omega
        refine z_iload_n hC dX7_yardsTo_24 rfl ?_
        refine z_iret hC dX7_yardsTo_25 ?_
        exact hE.to (by rw [hyi]) rfl rfl rfl
      rw [prd_lt (by omega) (by omega)] at c6
      refine z_iload_n hC dX7_yardsTo_9 rfl ?_
      refine z_aload_n hC dX7_yardsTo_10 rfl ?_
      refine z_getR hC dX7_yardsTo_11 (hS _) zfX7_43 rfl ?_
      refine z_iload_n hC dX7_yardsTo_14 rfl ?_
      refine z_naldN hC dX7_yardsTo_15 (hS _) (by omega) rfl (show _ = nI (R.2.1 2 _) from hm.2.1 2 _ (by decide) (by omega)) ?_
      refine z_nadd hC dX7_yardsTo_16  ?_
      refine z_istore_n hC dX7_yardsTo_17 (lo2 := [_, _, _, _]) (Nat.le_of_ble_eq_true rfl) rfl rfl ?_
      refine z_ninc hC dX7_yardsTo_18 (lo2 := [_, _, _, _]) rfl rfl rfl rfl ?_
      refine z_goto hC dX7_yardsTo_21 (tgt := 4) (by decide) ?_
      exact ih (i + 1) (by omega) (by omega)
  exact loop4 _ 0 (Nat.lt_succ_self _) (Nat.zero_le _)

theorem c_X7_looked (hS : ∀ k, S b k = msh b k) (hm : zQm b R I X) (hR : ROK R)  : zC0 mX7_looked 0 [zr b 0] (some (zi (nI (lookedN R)))) ad S I X Y sz I X Y := by
  refine zgo (own := RX7) (k := 2) (by decide +kernel) rfl rfl rfl (fun C hC hnm hE => ?_)
  have hmo := hm
  have hn14 := hR.1
  have hn8 := hR.2.1
  have hn6 := hR.2.2.1
  have hmb : ∀ i, i < R.1 0 → R.2.1 4 i ≤ 100 := fun i hi => (hR.2.2.2.2.2.2.1 i hi).2.2.2.2.2
  refine z_iconst hC dX7_looked_0 (v := nI 0) rfl ?_
  refine z_istore_n hC dX7_looked_1 (lo2 := [_, _, _]) (Nat.le_of_ble_eq_true rfl) rfl rfl ?_
  refine z_iconst hC dX7_looked_2 (v := nI 0) rfl ?_
  refine z_istore_n hC dX7_looked_3 (lo2 := [_, _, _]) (Nat.le_of_ble_eq_true rfl) rfl rfl ?_
  have loop4 : ∀ (fuel : Nat) (i : Nat), R.1 0 - i < fuel → i ≤ R.1 0 → zL C 3 ad S 0 0 sz I X Y 4 [some (zr b 0), some (zi (nI (sumN (fun i => if R.2.1 4 i = 100 then 0 else 1) i))), some (zi (nI i))] [] := by
    intro fuel
    induction fuel with
    | zero => intro i hfu; exact absurd hfu (Nat.not_lt_zero _)
    | succ fuel ih =>
      intro i hfu hin
      refine z_iload_n hC dX7_looked_4 rfl ?_
      refine z_aload_n hC dX7_looked_5 rfl ?_
      refine z_getN hC dX7_looked_6 (hS _) zfX7_94 rfl hm.1.1 ?_
      refine z_nicmp_ge hC dX7_looked_9 (tgt := 37) (by decide) (by omega) (by omega) (fun c9 => ?_) (fun c9 => ?_)
      · skip
        obtain rfl : i = R.1 0 := by omega
        refine z_iload_n hC dX7_looked_37 rfl ?_
        refine z_iret hC dX7_looked_38 ?_
        exact hE.to (by rfl) rfl rfl rfl
      have hi : i < R.1 0 := by omega
      have hmi := hmb i hi
      refine z_iload_n hC dX7_looked_12 rfl ?_
      refine z_aload_n hC dX7_looked_13 rfl ?_
      refine z_getR hC dX7_looked_14 (hS _) zfX7_49 rfl ?_
      refine z_iload_n hC dX7_looked_17 rfl ?_
      refine z_naldN hC dX7_looked_18 (hS _) (by omega) rfl (show _ = nI (R.2.1 4 _) from hm.2.1 4 _ (by decide) (by omega)) ?_
      refine z_bipush hC dX7_looked_19 (v := nI 100) rfl ?_
      refine z_nicmp_eq hC dX7_looked_21 (tgt := 28) (by decide) (by omega) (by omega) (fun c21 => ?_) (fun c21 => ?_)
      · skip
        have hnx : sumN (fun i => if R.2.1 4 i = 100 then 0 else 1) (i + 1) = sumN (fun i => if R.2.1 4 i = 100 then 0 else 1) i + 0 := congrArg (sumN (fun i => if R.2.1 4 i = 100 then 0 else 1) i + ·) (if_pos c21)
        refine z_iconst hC dX7_looked_28 (v := nI 0) rfl ?_
        refine z_nadd hC dX7_looked_29  ?_
        refine z_istore_n hC dX7_looked_30 (lo2 := [_, _, _]) (Nat.le_of_ble_eq_true rfl) rfl rfl ?_
        refine z_ninc hC dX7_looked_31 (lo2 := [_, _, _]) rfl rfl rfl rfl ?_
        refine z_goto hC dX7_looked_34 (tgt := 4) (by decide) ?_
        exact z_sub (by rw [hnx]; simp [zsub]) (ih (i + 1) (by omega) (by omega))
      have hnx : sumN (fun i => if R.2.1 4 i = 100 then 0 else 1) (i + 1) = sumN (fun i => if R.2.1 4 i = 100 then 0 else 1) i + 1 := congrArg (sumN (fun i => if R.2.1 4 i = 100 then 0 else 1) i + ·) (if_neg c21)
      refine z_iconst hC dX7_looked_24 (v := nI 1) rfl ?_
      refine z_goto hC dX7_looked_25 (tgt := 29) (by decide) ?_
      refine z_nadd hC dX7_looked_29  ?_
      refine z_istore_n hC dX7_looked_30 (lo2 := [_, _, _]) (Nat.le_of_ble_eq_true rfl) rfl rfl ?_
      refine z_ninc hC dX7_looked_31 (lo2 := [_, _, _]) rfl rfl rfl rfl ?_
      refine z_goto hC dX7_looked_34 (tgt := 4) (by decide) ?_
      exact z_sub (by rw [hnx]; simp [zsub]) (ih (i + 1) (by omega) (by omega))
  exact z_sub (by simp [zsub, sumN]) (loop4 _ 0 (Nat.lt_succ_self _) (Nat.zero_le _))

theorem c_X7_copied {k b' k' n : Nat} (hs : S b k = some (.inl (0, n))) (hs2 : S b' k' = some (.inl (0, n))) (hn : n ≤ 20) (hne : ¬ (b = b' ∧ k = k')) : zC0 mX7_copied 0 [zr b k, zr b' k'] (none) ad S I X Y sz I (cprow b k b' k' n X) Y := by
  refine zgo (own := RX7) (k := 1) (by decide +kernel) rfl rfl rfl (fun C hC hnm hE => ?_)
  refine z_iconst hC dX7_copied_0 (v := nI 0) rfl ?_
  refine z_istore_n hC dX7_copied_1 (lo2 := [_, _, _]) (Nat.le_of_ble_eq_true rfl) rfl rfl ?_
  have loop2 : ∀ (fuel : Nat) (i : Nat), n - i < fuel → i ≤ n → zL C 3 ad S 0 0 sz I (cprow b k b' k' i X) Y 2 [some (zr b k), some (zr b' k'), some (zi (nI i))] [] := by
    intro fuel
    induction fuel with
    | zero => intro i hfu; exact absurd hfu (Nat.not_lt_zero _)
    | succ fuel ih =>
      intro i hfu hin
      refine z_iload_n hC dX7_copied_2 rfl ?_
      refine z_aload_n hC dX7_copied_3 rfl ?_
      refine z_alen hC dX7_copied_4 hs (v := nI _) rfl ?_
      refine z_nicmp_ge hC dX7_copied_5 (tgt := 20) (by decide) (by omega) (by omega) (fun c5 => ?_) (fun c5 => ?_)
      · skip
        obtain rfl : i = n := by omega
        refine z_vret hC dX7_copied_20 ?_
        exact hE.to (by rfl) rfl rfl rfl
      refine z_aload_n hC dX7_copied_8 rfl ?_
      refine z_iload_n hC dX7_copied_9 rfl ?_
      refine z_aload_n hC dX7_copied_10 rfl ?_
      refine z_iload_n hC dX7_copied_11 rfl ?_
      refine z_nald hC dX7_copied_12 hs (by omega) (Nat.ble_eq_true_of_le (by omega)) ?_
      refine z_niast hC dX7_copied_13 hs2 (by omega) (Nat.ble_eq_true_of_le (by omega)) ?_
      refine z_X (X2 := cprow b k b' k' (i + 1) X) (cprow_s hne) ?_
      refine z_ninc hC dX7_copied_14 (lo2 := [_, _, _]) rfl rfl rfl rfl ?_
      refine z_goto hC dX7_copied_17 (tgt := 2) (by decide) ?_
      exact ih (i + 1) (by omega) (by omega)
  refine z_X (X2 := cprow b k b' k' 0 X) cprow_0.symm ?_
  exact loop2 _ 0 (Nat.lt_succ_self _) (Nat.zero_le _)

theorem c_X7_takeFrom {b1 b2 : Nat} (hS1 : ∀ k, S b1 k = msh b1 k) (hS2 : ∀ k, S b2 k = msh b2 k) (h12 : b1 ≠ b2) : zC0 mX7_takeFrom 1 [zr b1 0, zr b2 0] (none) ad S I X Y sz (tfI b1 b2 27 I) (tfX b1 b2 27 X) Y := by
  refine zgo (own := RX7) (k := 0) (by decide +kernel) rfl rfl rfl (fun C hC hnm hE => ?_)
  refine z_I (I2 := tfI b1 b2 8 I) tfI_0.symm ?_
  refine z_X (X2 := tfX b1 b2 16 X) tfX_0.symm ?_
  refine z_aload_n hC dX7_takeFrom_0 rfl ?_
  refine z_aload_n hC dX7_takeFrom_1 rfl ?_
  refine z_getI hC dX7_takeFrom_2 (hS2 _) zfX7_94 rfl ?_
  refine z_putI hC dX7_takeFrom_5 (hS1 _) zfX7_94 rfl rfl rfl rfl ?_
  refine z_I (I2 := tfI b1 b2 9 I) (tfI_s h12 (by omega) (by omega)) ?_
  refine z_aload_n hC dX7_takeFrom_8 rfl ?_
  refine z_getR hC dX7_takeFrom_9 (hS2 _) zfX7_37 rfl ?_
  refine z_aload_n hC dX7_takeFrom_12 rfl ?_
  refine z_getR hC dX7_takeFrom_13 (hS1 _) zfX7_37 rfl ?_
  refine wS0 hC dX7_takeFrom_16 zlX7_371 (c_X7_copied (n := 14) (hS2 _) (hS1 _) (by decide) (fun z => h12 z.1.symm)) rfl rfl rfl rfl ⟨rfl, rfl⟩ ?_
  refine z_X (X2 := tfX b1 b2 17 X) (tfX_s h12 (by decide) rfl) ?_
  refine z_aload_n hC dX7_takeFrom_19 rfl ?_
  refine z_getR hC dX7_takeFrom_20 (hS2 _) zfX7_40 rfl ?_
  refine z_aload_n hC dX7_takeFrom_23 rfl ?_
  refine z_getR hC dX7_takeFrom_24 (hS1 _) zfX7_40 rfl ?_
  refine wS0 hC dX7_takeFrom_27 zlX7_371 (c_X7_copied (n := 14) (hS2 _) (hS1 _) (by decide) (fun z => h12 z.1.symm)) rfl rfl rfl rfl ⟨rfl, rfl⟩ ?_
  refine z_X (X2 := tfX b1 b2 18 X) (tfX_s h12 (by decide) rfl) ?_
  refine z_aload_n hC dX7_takeFrom_30 rfl ?_
  refine z_getR hC dX7_takeFrom_31 (hS2 _) zfX7_43 rfl ?_
  refine z_aload_n hC dX7_takeFrom_34 rfl ?_
  refine z_getR hC dX7_takeFrom_35 (hS1 _) zfX7_43 rfl ?_
  refine wS0 hC dX7_takeFrom_38 zlX7_371 (c_X7_copied (n := 14) (hS2 _) (hS1 _) (by decide) (fun z => h12 z.1.symm)) rfl rfl rfl rfl ⟨rfl, rfl⟩ ?_
  refine z_X (X2 := tfX b1 b2 19 X) (tfX_s h12 (by decide) rfl) ?_
  refine z_aload_n hC dX7_takeFrom_41 rfl ?_
  refine z_getR hC dX7_takeFrom_42 (hS2 _) zfX7_46 rfl ?_
  refine z_aload_n hC dX7_takeFrom_45 rfl ?_
  refine z_getR hC dX7_takeFrom_46 (hS1 _) zfX7_46 rfl ?_
  refine wS0 hC dX7_takeFrom_49 zlX7_371 (c_X7_copied (n := 14) (hS2 _) (hS1 _) (by decide) (fun z => h12 z.1.symm)) rfl rfl rfl rfl ⟨rfl, rfl⟩ ?_
  refine z_X (X2 := tfX b1 b2 20 X) (tfX_s h12 (by decide) rfl) ?_
  refine z_aload_n hC dX7_takeFrom_52 rfl ?_
  refine z_getR hC dX7_takeFrom_53 (hS2 _) zfX7_49 rfl ?_
  refine z_aload_n hC dX7_takeFrom_56 rfl ?_
  refine z_getR hC dX7_takeFrom_57 (hS1 _) zfX7_49 rfl ?_
  refine wS0 hC dX7_takeFrom_60 zlX7_371 (c_X7_copied (n := 14) (hS2 _) (hS1 _) (by decide) (fun z => h12 z.1.symm)) rfl rfl rfl rfl ⟨rfl, rfl⟩ ?_
  refine z_X (X2 := tfX b1 b2 21 X) (tfX_s h12 (by decide) rfl) ?_
  refine z_aload_n hC dX7_takeFrom_63 rfl ?_
  refine z_aload_n hC dX7_takeFrom_64 rfl ?_
  refine z_getI hC dX7_takeFrom_65 (hS2 _) zfX7_150 rfl ?_
  refine z_putI hC dX7_takeFrom_68 (hS1 _) zfX7_150 rfl rfl rfl rfl ?_
  refine z_I (I2 := tfI b1 b2 15 I) (tfI_s h12 (by omega) (by omega)) ?_
  refine z_aload_n hC dX7_takeFrom_71 rfl ?_
  refine z_getR hC dX7_takeFrom_72 (hS2 _) zfX7_52 rfl ?_
  refine z_aload_n hC dX7_takeFrom_75 rfl ?_
  refine z_getR hC dX7_takeFrom_76 (hS1 _) zfX7_52 rfl ?_
  refine wS0 hC dX7_takeFrom_79 zlX7_371 (c_X7_copied (n := 9) (hS2 _) (hS1 _) (by decide) (fun z => h12 z.1.symm)) rfl rfl rfl rfl ⟨rfl, rfl⟩ ?_
  refine z_X (X2 := tfX b1 b2 22 X) (tfX_s h12 (by decide) rfl) ?_
  refine z_aload_n hC dX7_takeFrom_82 rfl ?_
  refine z_getR hC dX7_takeFrom_83 (hS2 _) zfX7_55 rfl ?_
  refine z_aload_n hC dX7_takeFrom_86 rfl ?_
  refine z_getR hC dX7_takeFrom_87 (hS1 _) zfX7_55 rfl ?_
  refine wS0 hC dX7_takeFrom_90 zlX7_371 (c_X7_copied (n := 9) (hS2 _) (hS1 _) (by decide) (fun z => h12 z.1.symm)) rfl rfl rfl rfl ⟨rfl, rfl⟩ ?_
  refine z_X (X2 := tfX b1 b2 23 X) (tfX_s h12 (by decide) rfl) ?_
  refine z_aload_n hC dX7_takeFrom_93 rfl ?_
  refine z_getR hC dX7_takeFrom_94 (hS2 _) zfX7_58 rfl ?_
  refine z_aload_n hC dX7_takeFrom_97 rfl ?_
  refine z_getR hC dX7_takeFrom_98 (hS1 _) zfX7_58 rfl ?_
  refine wS0 hC dX7_takeFrom_101 zlX7_371 (c_X7_copied (n := 9) (hS2 _) (hS1 _) (by decide) (fun z => h12 z.1.symm)) rfl rfl rfl rfl ⟨rfl, rfl⟩ ?_
  refine z_X (X2 := tfX b1 b2 24 X) (tfX_s h12 (by decide) rfl) ?_
  refine z_aload_n hC dX7_takeFrom_104 rfl ?_
  refine z_aload_n hC dX7_takeFrom_105 rfl ?_
  refine z_getI hC dX7_takeFrom_106 (hS2 _) zfX7_163 rfl ?_
  refine z_putI hC dX7_takeFrom_109 (hS1 _) zfX7_163 rfl rfl rfl rfl ?_
  refine z_I (I2 := tfI b1 b2 19 I) (tfI_s h12 (by omega) (by omega)) ?_
  refine z_aload_n hC dX7_takeFrom_112 rfl ?_
  refine z_getR hC dX7_takeFrom_113 (hS2 _) zfX7_61 rfl ?_
  refine z_aload_n hC dX7_takeFrom_116 rfl ?_
  refine z_getR hC dX7_takeFrom_117 (hS1 _) zfX7_61 rfl ?_
  refine wS0 hC dX7_takeFrom_120 zlX7_371 (c_X7_copied (n := 6) (hS2 _) (hS1 _) (by decide) (fun z => h12 z.1.symm)) rfl rfl rfl rfl ⟨rfl, rfl⟩ ?_
  refine z_X (X2 := tfX b1 b2 25 X) (tfX_s h12 (by decide) rfl) ?_
  refine z_aload_n hC dX7_takeFrom_123 rfl ?_
  refine z_getR hC dX7_takeFrom_124 (hS2 _) zfX7_64 rfl ?_
  refine z_aload_n hC dX7_takeFrom_127 rfl ?_
  refine z_getR hC dX7_takeFrom_128 (hS1 _) zfX7_64 rfl ?_
  refine wS0 hC dX7_takeFrom_131 zlX7_371 (c_X7_copied (n := 6) (hS2 _) (hS1 _) (by decide) (fun z => h12 z.1.symm)) rfl rfl rfl rfl ⟨rfl, rfl⟩ ?_
  refine z_X (X2 := tfX b1 b2 26 X) (tfX_s h12 (by decide) rfl) ?_
  refine z_aload_n hC dX7_takeFrom_134 rfl ?_
  refine z_getR hC dX7_takeFrom_135 (hS2 _) zfX7_67 rfl ?_
  refine z_aload_n hC dX7_takeFrom_138 rfl ?_
  refine z_getR hC dX7_takeFrom_139 (hS1 _) zfX7_67 rfl ?_
  refine wS0 hC dX7_takeFrom_142 zlX7_371 (c_X7_copied (n := 6) (hS2 _) (hS1 _) (by decide) (fun z => h12 z.1.symm)) rfl rfl rfl rfl ⟨rfl, rfl⟩ ?_
  refine z_X (X2 := tfX b1 b2 27 X) (tfX_s h12 (by decide) rfl) ?_
  refine z_aload_n hC dX7_takeFrom_145 rfl ?_
  refine z_aload_n hC dX7_takeFrom_146 rfl ?_
  refine z_getI hC dX7_takeFrom_147 (hS2 _) zfX7_70 rfl ?_
  refine z_putI hC dX7_takeFrom_150 (hS1 _) zfX7_70 rfl rfl rfl rfl ?_
  refine z_I (I2 := tfI b1 b2 23 I) (tfI_s h12 (by omega) (by omega)) ?_
  refine z_aload_n hC dX7_takeFrom_153 rfl ?_
  refine z_aload_n hC dX7_takeFrom_154 rfl ?_
  refine z_getI hC dX7_takeFrom_155 (hS2 _) zfX7_144 rfl ?_
  refine z_putI hC dX7_takeFrom_158 (hS1 _) zfX7_144 rfl rfl rfl rfl ?_
  refine z_I (I2 := tfI b1 b2 24 I) (tfI_s h12 (by omega) (by omega)) ?_
  refine z_aload_n hC dX7_takeFrom_161 rfl ?_
  refine z_aload_n hC dX7_takeFrom_162 rfl ?_
  refine z_getI hC dX7_takeFrom_163 (hS2 _) zfX7_147 rfl ?_
  refine z_putI hC dX7_takeFrom_166 (hS1 _) zfX7_147 rfl rfl rfl rfl ?_
  refine z_I (I2 := tfI b1 b2 25 I) (tfI_s h12 (by omega) (by omega)) ?_
  refine z_aload_n hC dX7_takeFrom_169 rfl ?_
  refine z_aload_n hC dX7_takeFrom_170 rfl ?_
  refine z_getI hC dX7_takeFrom_171 (hS2 _) zfX7_74 rfl ?_
  refine z_putI hC dX7_takeFrom_174 (hS1 _) zfX7_74 rfl rfl rfl rfl ?_
  refine z_I (I2 := tfI b1 b2 26 I) (tfI_s h12 (by omega) (by omega)) ?_
  refine z_aload_n hC dX7_takeFrom_177 rfl ?_
  refine z_aload_n hC dX7_takeFrom_178 rfl ?_
  refine z_getI hC dX7_takeFrom_179 (hS2 _) zfX7_77 rfl ?_
  refine z_putI hC dX7_takeFrom_182 (hS1 _) zfX7_77 rfl rfl rfl rfl ?_
  refine z_I (I2 := tfI b1 b2 27 I) (tfI_s h12 (by omega) (by omega)) ?_
  refine z_vret hC dX7_takeFrom_185 ?_
  exact hE.to (by rfl) rfl rfl rfl

end
section
variable {ad : zA} {S : zSh} {I X : zI} {Y : zY} {sz : Nat} {D : DS} {qe : Bool}

theorem w_status_t (hS : ∀ k, S 0 k = msh 0 k) (hO : DOK D) (hM : MMe qe D I X Y) {k : Nat} (hk : k < 18) (h7 : ¬ k = 7) (h12 : ¬ iw (nI k) 12 16) : zC0 mX7_status 6 [zr 0 0, zi (nI k)] (some (zi (statV D k))) ad S I X Y sz I X Y := by
  refine zgo (own := RX7) (k := 2) (by decide +kernel) rfl rfl rfl (fun C hC hnm hE => ?_)
  have hm := hM.1
  have hR := hO.1
  have hmo := hm
  have hn14 := hR.1
  have hn8 := hR.2.1
  have hn6 := hR.2.2.1
  refine z_iconst hC dX7_status_0 (v := nI 0) rfl ?_
  refine z_istore_n hC dX7_status_1 (lo2 := [_, _, _, _]) (Nat.le_of_ble_eq_true rfl) rfl rfl ?_
  refine z_iload_n hC dX7_status_2 rfl ?_
  by_cases s3_0 : k = 0
  · refine z_tabK hC dX7_status_3 (v := nI 0) (by rw [s3_0]) rfl rfl (tgt := 88) (by decide) ?_
    refine z_aload_n hC dX7_status_88 rfl ?_
    refine z_getN hC dX7_status_89 (hS _) zfX7_94 rfl hm.1.1 ?_
    refine z_iret hC dX7_status_92 ?_
    exact hE.to (by rw [s3_0]; rfl) rfl rfl rfl
  by_cases s3_1 : k = 1
  · refine z_tabK hC dX7_status_3 (v := nI 1) (by rw [s3_1]) rfl rfl (tgt := 93) (by decide) ?_
    refine z_aload_n hC dX7_status_93 rfl ?_
    refine z_getN hC dX7_status_94 (hS _) zfX7_150 rfl hm.1.2.1 ?_
    refine z_iret hC dX7_status_97 ?_
    exact hE.to (by rw [s3_1]; rfl) rfl rfl rfl
  by_cases s3_2 : k = 2
  · refine z_tabK hC dX7_status_3 (v := nI 2) (by rw [s3_2]) rfl rfl (tgt := 98) (by decide) ?_
    refine z_aload_n hC dX7_status_98 rfl ?_
    refine z_getN hC dX7_status_99 (hS _) zfX7_70 rfl hm.1.2.2.2.1 ?_
    refine z_iret hC dX7_status_102 ?_
    exact hE.to (by rw [s3_2]; rfl) rfl rfl rfl
  by_cases s3_3 : k = 3
  · refine z_tabK hC dX7_status_3 (v := nI 3) (by rw [s3_3]) rfl rfl (tgt := 103) (by decide) ?_
    refine z_aload_n hC dX7_status_103 rfl ?_
    refine z_getN hC dX7_status_104 (hS _) zfX7_144 rfl hm.1.2.2.2.2.1 ?_
    refine z_iret hC dX7_status_107 ?_
    exact hE.to (by rw [s3_3]; rfl) rfl rfl rfl
  by_cases s3_4 : k = 4
  · refine z_tabK hC dX7_status_3 (v := nI 4) (by rw [s3_4]) rfl rfl (tgt := 108) (by decide) ?_
    refine z_aload_n hC dX7_status_108 rfl ?_
    refine z_getN hC dX7_status_109 (hS _) zfX7_147 rfl hm.1.2.2.2.2.2.1 ?_
    refine z_iret hC dX7_status_112 ?_
    exact hE.to (by rw [s3_4]; rfl) rfl rfl rfl
  by_cases s3_5 : k = 5
  · refine z_tabK hC dX7_status_3 (v := nI 5) (by rw [s3_5]) rfl rfl (tgt := 113) (by decide) ?_
    refine z_aload_n hC dX7_status_113 rfl ?_
    refine z_aload_n hC dX7_status_114 rfl ?_
    refine z_getN hC dX7_status_115 (hS _) zfX7_94 rfl hm.1.1 ?_
    refine z_iconst hC dX7_status_118 (v := nI 1) rfl ?_
    refine z_isub hC dX7_status_119  ?_
    refine wVv hC dX7_status_120 zlX7_270 (c_X7_yardsToP hS hm hR (Nat.le_refl _)) (hS _) rfl rfl rfl rfl rfl rfl ⟨rfl, rfl⟩ ?_
    refine z_iret hC dX7_status_123 ?_
    exact hE.to (by rw [s3_5]; rfl) rfl rfl rfl
  by_cases s3_6 : k = 6
  · refine z_tabK hC dX7_status_3 (v := nI 6) (by rw [s3_6]) rfl rfl (tgt := 124) (by decide) ?_
    refine z_aload_n hC dX7_status_124 rfl ?_
    refine z_getV hC dX7_status_125 (hS _) zfX7_74 rfl hm.1.2.2.2.2.2.2.1 ?_
    refine z_iret hC dX7_status_128 ?_
    exact hE.to (by rw [s3_6]; rfl) rfl rfl rfl
  by_cases s3_7 : k = 7
  · refine z_tabK hC dX7_status_3 (v := nI 7) (by rw [s3_7]) rfl rfl (tgt := 129) (by decide) ?_
    exact absurd s3_7 h7
  by_cases s3_8 : k = 8
  · refine z_tabK hC dX7_status_3 (v := nI 8) (by rw [s3_8]) rfl rfl (tgt := 138) (by decide) ?_
    refine z_aload_n hC dX7_status_138 rfl ?_
    refine z_getN hC dX7_status_139 (hS _) zfX7_173 rfl hM.2.2.2.2.1.1 ?_
    refine z_iret hC dX7_status_142 ?_
    exact hE.to (by rw [s3_8]; rfl) rfl rfl rfl
  by_cases s3_9 : k = 9
  · refine z_tabK hC dX7_status_3 (v := nI 9) (by rw [s3_9]) rfl rfl (tgt := 143) (by decide) ?_
    refine z_aload_n hC dX7_status_143 rfl ?_
    refine z_getV hC dX7_status_144 (hS _) zfX7_77 rfl hm.1.2.2.2.2.2.2.2 ?_
    refine z_iret hC dX7_status_147 ?_
    exact hE.to (by rw [s3_9]; rfl) rfl rfl rfl
  by_cases s3_10 : k = 10
  · refine z_tabK hC dX7_status_3 (v := nI 10) (by rw [s3_10]) rfl rfl (tgt := 148) (by decide) ?_
    refine z_iconst hC dX7_status_148 (v := nI 0) rfl ?_
    refine z_istore_n hC dX7_status_149 (lo2 := [_, _, _, _]) (Nat.le_of_ble_eq_true rfl) rfl rfl ?_
    have loop150 : ∀ (fuel : Nat) (i : Nat), 8 - i < fuel → i ≤ 8 → zL C 4 ad S 0 0 sz I X Y 150 [some (zr 0 0), some (zi (nI k)), some (zi (nI (sumN (fun s => if D.2.2.2.1.1 s = none then 0 else 1) i))), some (zi (nI i))] [] := by
      intro fuel
      induction fuel with
      | zero => intro i hfu; exact absurd hfu (Nat.not_lt_zero _)
      | succ fuel ih =>
        intro i hfu hi8
        refine z_iload_n hC dX7_status_150 rfl ?_
        refine z_bipush hC dX7_status_151 (v := nI 8) rfl ?_
        refine z_nicmp_ge hC dX7_status_153 (tgt := 179) (by decide) (by omega) (by omega) (fun c153 => ?_) (fun c153 => ?_)
        · skip
          obtain rfl : i = 8 := by omega
          refine z_iload_n hC dX7_status_179 rfl ?_
          refine z_iret hC dX7_status_180 ?_
          exact hE.to (by rw [s3_10]; rfl) rfl rfl rfl
        rcases sh_stM hO hM (show i < 8 by omega) with ⟨h1, h2⟩ | ⟨q, hq, h1, h2⟩ | ⟨b, hb, h1, h2⟩
        · skip
          have hnx : (if D.2.2.2.1.1 i = none then 0 else 1) = 0 := if_pos h1
          refine z_iload_n hC dX7_status_156 rfl ?_
          refine z_aload_n hC dX7_status_157 rfl ?_
          refine z_getR hC dX7_status_158 (hS _) zfX7_7 rfl ?_
          refine z_iload_n hC dX7_status_161 rfl ?_
          refine z_naldN hC dX7_status_162 (hS _) (by omega) rfl h2 ?_
          refine z_nif_eq hC dX7_status_163 (tgt := 170) (by decide) (by omega) (fun c163 => ?_) (fun c163 => ?_)
          rotate_left
          · exact absurd c163 (fun z => z rfl)
          refine z_iconst hC dX7_status_170 (v := nI 0) rfl ?_
          refine z_nadd hC dX7_status_171  ?_
          refine z_istore_n hC dX7_status_172 (lo2 := [_, _, _, _]) (Nat.le_of_ble_eq_true rfl) rfl rfl ?_
          refine z_ninc hC dX7_status_173 (lo2 := [_, _, _, _]) rfl rfl rfl rfl ?_
          refine z_goto hC dX7_status_176 (tgt := 150) (by decide) ?_
          exact z_sub (by rw [show sumN (fun s => if D.2.2.2.1.1 s = none then 0 else 1) (i + 1) = (sumN (fun s => if D.2.2.2.1.1 s = none then 0 else 1) i) + _ from congrArg ((sumN (fun s => if D.2.2.2.1.1 s = none then 0 else 1) i) + ·) hnx]; simp [zsub]) (ih (i + 1) (by omega) (by omega))
        · skip
          have hnx : (if D.2.2.2.1.1 i = none then 0 else 1) = 1 := if_neg (by rw [h1]; exact fun z => by cases z)
          refine z_iload_n hC dX7_status_156 rfl ?_
          refine z_aload_n hC dX7_status_157 rfl ?_
          refine z_getR hC dX7_status_158 (hS _) zfX7_7 rfl ?_
          refine z_iload_n hC dX7_status_161 rfl ?_
          refine z_naldN hC dX7_status_162 (hS _) (by omega) rfl h2.1 ?_
          refine z_nif_eq hC dX7_status_163 (tgt := 170) (by decide) (by omega) (fun c163 => ?_) (fun c163 => ?_)
          · exact absurd c163 (by decide)
          refine z_iconst hC dX7_status_166 (v := nI 1) rfl ?_
          refine z_goto hC dX7_status_167 (tgt := 171) (by decide) ?_
          refine z_nadd hC dX7_status_171  ?_
          refine z_istore_n hC dX7_status_172 (lo2 := [_, _, _, _]) (Nat.le_of_ble_eq_true rfl) rfl rfl ?_
          refine z_ninc hC dX7_status_173 (lo2 := [_, _, _, _]) rfl rfl rfl rfl ?_
          refine z_goto hC dX7_status_176 (tgt := 150) (by decide) ?_
          exact z_sub (by rw [show sumN (fun s => if D.2.2.2.1.1 s = none then 0 else 1) (i + 1) = (sumN (fun s => if D.2.2.2.1.1 s = none then 0 else 1) i) + _ from congrArg ((sumN (fun s => if D.2.2.2.1.1 s = none then 0 else 1) i) + ·) hnx]; simp [zsub]) (ih (i + 1) (by omega) (by omega))
        · skip
          have hnx : (if D.2.2.2.1.1 i = none then 0 else 1) = 1 := if_neg (by rw [h1]; exact fun z => by cases z)
          refine z_iload_n hC dX7_status_156 rfl ?_
          refine z_aload_n hC dX7_status_157 rfl ?_
          refine z_getR hC dX7_status_158 (hS _) zfX7_7 rfl ?_
          refine z_iload_n hC dX7_status_161 rfl ?_
          refine z_naldN hC dX7_status_162 (hS _) (by omega) rfl h2.1 ?_
          refine z_nif_eq hC dX7_status_163 (tgt := 170) (by decide) (by omega) (fun c163 => ?_) (fun c163 => ?_)
          · exact absurd c163 (by decide)
          refine z_iconst hC dX7_status_166 (v := nI 1) rfl ?_
          refine z_goto hC dX7_status_167 (tgt := 171) (by decide) ?_
          refine z_nadd hC dX7_status_171  ?_
          refine z_istore_n hC dX7_status_172 (lo2 := [_, _, _, _]) (Nat.le_of_ble_eq_true rfl) rfl rfl ?_
          refine z_ninc hC dX7_status_173 (lo2 := [_, _, _, _]) rfl rfl rfl rfl ?_
          refine z_goto hC dX7_status_176 (tgt := 150) (by decide) ?_
          exact z_sub (by rw [show sumN (fun s => if D.2.2.2.1.1 s = none then 0 else 1) (i + 1) = (sumN (fun s => if D.2.2.2.1.1 s = none then 0 else 1) i) + _ from congrArg ((sumN (fun s => if D.2.2.2.1.1 s = none then 0 else 1) i) + ·) hnx]; simp [zsub]) (ih (i + 1) (by omega) (by omega))
    exact z_sub (by simp [zsub, sumN]) (loop150 _ 0 (Nat.lt_succ_self _) (Nat.zero_le _))
  by_cases s3_11 : k = 11
  · refine z_tabK hC dX7_status_3 (v := nI 11) (by rw [s3_11]) rfl rfl (tgt := 181) (by decide) ?_
    refine z_aload_n hC dX7_status_181 rfl ?_
    refine wVv hC dX7_status_182 zlX7_378 (c_X7_looked hS hm hR) (hS _) rfl rfl rfl rfl rfl rfl ⟨rfl, rfl⟩ ?_
    refine z_iret hC dX7_status_185 ?_
    exact hE.to (by rw [s3_11]; rfl) rfl rfl rfl
  by_cases s3_12 : k = 12
  · refine z_tabK hC dX7_status_3 (v := nI 12) (by rw [s3_12]) rfl rfl (tgt := 191) (by decide) ?_
    exact absurd (by rw [s3_12]; exact ⟨by decide, by decide⟩) h12
  by_cases s3_13 : k = 13
  · refine z_tabK hC dX7_status_3 (v := nI 13) (by rw [s3_13]) rfl rfl (tgt := 191) (by decide) ?_
    exact absurd (by rw [s3_13]; exact ⟨by decide, by decide⟩) h12
  by_cases s3_14 : k = 14
  · refine z_tabK hC dX7_status_3 (v := nI 14) (by rw [s3_14]) rfl rfl (tgt := 191) (by decide) ?_
    exact absurd (by rw [s3_14]; exact ⟨by decide, by decide⟩) h12
  by_cases s3_15 : k = 15
  · refine z_tabK hC dX7_status_3 (v := nI 15) (by rw [s3_15]) rfl rfl (tgt := 191) (by decide) ?_
    exact absurd (by rw [s3_15]; exact ⟨by decide, by decide⟩) h12
  by_cases s3_16 : k = 16
  · refine z_tabK hC dX7_status_3 (v := nI 16) (by rw [s3_16]) rfl rfl (tgt := 191) (by decide) ?_
    exact absurd (by rw [s3_16]; exact ⟨by decide, by decide⟩) h12
  by_cases s3_17 : k = 17
  · refine z_tabK hC dX7_status_3 (v := nI 17) (by rw [s3_17]) rfl rfl (tgt := 186) (by decide) ?_
    refine z_aload_n hC dX7_status_186 rfl ?_
    refine z_getN hC dX7_status_187 (hS _) zfX7_163 rfl hm.1.2.2.1 ?_
    refine z_iret hC dX7_status_190 ?_
    exact hE.to (by rw [s3_17]; rfl) rfl rfl rfl
  exfalso; omega

theorem w_status_w (hS : ∀ k, S 0 k = msh 0 k) (hO : DOK D) (hM : MMe qe D I X Y)  : zC0 mX7_status 6 [zr 0 0, zi (nI 7)] (some (zi (nI (alN D.1)))) ad S I X Y sz (mwI 0 D.1 I) (mwX 0 D.1 X) Y := by
  refine zgo (own := RX7) (k := 2) (by decide +kernel) rfl rfl rfl (fun C hC hnm hE => ?_)
  have hm := hM.1
  have hR := hO.1
  have hmo := hm
  have hn14 := hR.1
  have hn8 := hR.2.1
  have hn6 := hR.2.2.1
  refine z_iconst hC dX7_status_0 (v := nI 0) rfl ?_
  refine z_istore_n hC dX7_status_1 (lo2 := [_, _, _, _]) (Nat.le_of_ble_eq_true rfl) rfl rfl ?_
  refine z_iload_n hC dX7_status_2 rfl ?_
  refine z_tabK hC dX7_status_3 (v := nI 7) rfl rfl rfl (tgt := 129) (by decide) ?_
  refine z_aload_n hC dX7_status_129 rfl ?_
  refine wV0 hC dX7_status_130 zlX7_294 (c_X7_weigh hS hm hR) (hS _) rfl rfl rfl rfl rfl rfl ⟨rfl, rfl⟩ ?_
  have hq : zQm 0 D.1 (mwI 0 D.1 I) (mwX 0 D.1 X) := hmo.mw
  have hw : mwF 0 D.1 (mwI 0 D.1 I) (mwX 0 D.1 X) := mwF_of
  have hss := fsum_le hR (Nat.le_refl _)
  have hhw := hwN_le (R := D.1)
  have hal : alN D.1 ≤ 15000000 := Nat.add_le_add hss hhw
  refine z_aload_n hC dX7_status_133 rfl ?_
  refine z_getN hC dX7_status_134 (hS _) zfX7_291 rfl hw.2.1 ?_
  refine z_iret hC dX7_status_137 ?_
  exact hE.to (by rfl) rfl rfl rfl

theorem w_status_r (hS : ∀ k, S 0 k = msh 0 k) (hO : DOK D) (hM : MMe qe D I X Y) {k : Nat} (h1 : 12 ≤ k) (h2 : k ≤ 16) : zC0 mX7_status 6 [zr 0 0, zi (nI k)] (some (zi (X 0 16 (2 + (k - 12))))) ad S I X Y sz I X Y := by
  refine zgo (own := RX7) (k := 2) (by decide +kernel) rfl rfl rfl (fun C hC hnm hE => ?_)
  have hm := hM.1
  have hR := hO.1
  have hmo := hm
  have hn14 := hR.1
  have hn8 := hR.2.1
  have hn6 := hR.2.2.1
  refine z_iconst hC dX7_status_0 (v := nI 0) rfl ?_
  refine z_istore_n hC dX7_status_1 (lo2 := [_, _, _, _]) (Nat.le_of_ble_eq_true rfl) rfl rfl ?_
  refine z_iload_n hC dX7_status_2 rfl ?_
  by_cases s3_0 : k = 0
  · refine z_tabK hC dX7_status_3 (v := nI 0) (by rw [s3_0]) rfl rfl (tgt := 88) (by decide) ?_
    exfalso; omega
  by_cases s3_1 : k = 1
  · refine z_tabK hC dX7_status_3 (v := nI 1) (by rw [s3_1]) rfl rfl (tgt := 93) (by decide) ?_
    exfalso; omega
  by_cases s3_2 : k = 2
  · refine z_tabK hC dX7_status_3 (v := nI 2) (by rw [s3_2]) rfl rfl (tgt := 98) (by decide) ?_
    exfalso; omega
  by_cases s3_3 : k = 3
  · refine z_tabK hC dX7_status_3 (v := nI 3) (by rw [s3_3]) rfl rfl (tgt := 103) (by decide) ?_
    exfalso; omega
  by_cases s3_4 : k = 4
  · refine z_tabK hC dX7_status_3 (v := nI 4) (by rw [s3_4]) rfl rfl (tgt := 108) (by decide) ?_
    exfalso; omega
  by_cases s3_5 : k = 5
  · refine z_tabK hC dX7_status_3 (v := nI 5) (by rw [s3_5]) rfl rfl (tgt := 113) (by decide) ?_
    exfalso; omega
  by_cases s3_6 : k = 6
  · refine z_tabK hC dX7_status_3 (v := nI 6) (by rw [s3_6]) rfl rfl (tgt := 124) (by decide) ?_
    exfalso; omega
  by_cases s3_7 : k = 7
  · refine z_tabK hC dX7_status_3 (v := nI 7) (by rw [s3_7]) rfl rfl (tgt := 129) (by decide) ?_
    exfalso; omega
  by_cases s3_8 : k = 8
  · refine z_tabK hC dX7_status_3 (v := nI 8) (by rw [s3_8]) rfl rfl (tgt := 138) (by decide) ?_
    exfalso; omega
  by_cases s3_9 : k = 9
  · refine z_tabK hC dX7_status_3 (v := nI 9) (by rw [s3_9]) rfl rfl (tgt := 143) (by decide) ?_
    exfalso; omega
  by_cases s3_10 : k = 10
  · refine z_tabK hC dX7_status_3 (v := nI 10) (by rw [s3_10]) rfl rfl (tgt := 148) (by decide) ?_
    exfalso; omega
  by_cases s3_11 : k = 11
  · refine z_tabK hC dX7_status_3 (v := nI 11) (by rw [s3_11]) rfl rfl (tgt := 181) (by decide) ?_
    exfalso; omega
  by_cases s3_12 : k = 12
  · refine z_tabK hC dX7_status_3 (v := nI 12) (by rw [s3_12]) rfl rfl (tgt := 191) (by decide) ?_
    refine z_iload_n hC dX7_status_191 rfl ?_
    refine z_n2m hC dX7_status_192 (by omega) ?_
    refine z_ldc2 hC dX7_status_193 (v := lN 12) (zin7 (i := 89) rfl rfl) ?_
    refine z_ldc2 hC dX7_status_196 (v := lN 16) (zin7 (i := 90) rfl rfl) ?_
    refine wSv hC dX7_status_199 zlX7_97 (c_X7_inN (by omega) (by omega) (by omega)) rfl rfl rfl rfl ⟨rfl, rfl⟩ ?_
    refine w_ifb_eq hC dX7_status_202 (tgt := 217) (by decide) (fun c202 => ?_) (fun c202 => ?_)
    · exact absurd c202 (by omega)
    refine z_aload_n hC dX7_status_205 rfl ?_
    refine z_getR hC dX7_status_206 (hS _) zfX7_34 rfl ?_
    refine z_iload_n hC dX7_status_209 rfl ?_
    refine z_bipush hC dX7_status_210 (v := nI 10) rfl ?_
    refine z_nsub hC dX7_status_212 (by omega) ?_
    refine z_nald hC dX7_status_213 (hS _) (by omega) rfl ?_
    refine z_goto hC dX7_status_214 (tgt := 218) (by decide) ?_
    refine z_iret hC dX7_status_218 ?_
    exact hE.to (by rw [show 2 + (k - 12) = k - 10 by omega]) rfl rfl rfl
  by_cases s3_13 : k = 13
  · refine z_tabK hC dX7_status_3 (v := nI 13) (by rw [s3_13]) rfl rfl (tgt := 191) (by decide) ?_
    refine z_iload_n hC dX7_status_191 rfl ?_
    refine z_n2m hC dX7_status_192 (by omega) ?_
    refine z_ldc2 hC dX7_status_193 (v := lN 12) (zin7 (i := 89) rfl rfl) ?_
    refine z_ldc2 hC dX7_status_196 (v := lN 16) (zin7 (i := 90) rfl rfl) ?_
    refine wSv hC dX7_status_199 zlX7_97 (c_X7_inN (by omega) (by omega) (by omega)) rfl rfl rfl rfl ⟨rfl, rfl⟩ ?_
    refine w_ifb_eq hC dX7_status_202 (tgt := 217) (by decide) (fun c202 => ?_) (fun c202 => ?_)
    · exact absurd c202 (by omega)
    refine z_aload_n hC dX7_status_205 rfl ?_
    refine z_getR hC dX7_status_206 (hS _) zfX7_34 rfl ?_
    refine z_iload_n hC dX7_status_209 rfl ?_
    refine z_bipush hC dX7_status_210 (v := nI 10) rfl ?_
    refine z_nsub hC dX7_status_212 (by omega) ?_
    refine z_nald hC dX7_status_213 (hS _) (by omega) rfl ?_
    refine z_goto hC dX7_status_214 (tgt := 218) (by decide) ?_
    refine z_iret hC dX7_status_218 ?_
    exact hE.to (by rw [show 2 + (k - 12) = k - 10 by omega]) rfl rfl rfl
  by_cases s3_14 : k = 14
  · refine z_tabK hC dX7_status_3 (v := nI 14) (by rw [s3_14]) rfl rfl (tgt := 191) (by decide) ?_
    refine z_iload_n hC dX7_status_191 rfl ?_
    refine z_n2m hC dX7_status_192 (by omega) ?_
    refine z_ldc2 hC dX7_status_193 (v := lN 12) (zin7 (i := 89) rfl rfl) ?_
    refine z_ldc2 hC dX7_status_196 (v := lN 16) (zin7 (i := 90) rfl rfl) ?_
    refine wSv hC dX7_status_199 zlX7_97 (c_X7_inN (by omega) (by omega) (by omega)) rfl rfl rfl rfl ⟨rfl, rfl⟩ ?_
    refine w_ifb_eq hC dX7_status_202 (tgt := 217) (by decide) (fun c202 => ?_) (fun c202 => ?_)
    · exact absurd c202 (by omega)
    refine z_aload_n hC dX7_status_205 rfl ?_
    refine z_getR hC dX7_status_206 (hS _) zfX7_34 rfl ?_
    refine z_iload_n hC dX7_status_209 rfl ?_
    refine z_bipush hC dX7_status_210 (v := nI 10) rfl ?_
    refine z_nsub hC dX7_status_212 (by omega) ?_
    refine z_nald hC dX7_status_213 (hS _) (by omega) rfl ?_
    refine z_goto hC dX7_status_214 (tgt := 218) (by decide) ?_
    refine z_iret hC dX7_status_218 ?_
    exact hE.to (by rw [show 2 + (k - 12) = k - 10 by omega]) rfl rfl rfl
  by_cases s3_15 : k = 15
  · refine z_tabK hC dX7_status_3 (v := nI 15) (by rw [s3_15]) rfl rfl (tgt := 191) (by decide) ?_
    refine z_iload_n hC dX7_status_191 rfl ?_
    refine z_n2m hC dX7_status_192 (by omega) ?_
    refine z_ldc2 hC dX7_status_193 (v := lN 12) (zin7 (i := 89) rfl rfl) ?_
    refine z_ldc2 hC dX7_status_196 (v := lN 16) (zin7 (i := 90) rfl rfl) ?_
    refine wSv hC dX7_status_199 zlX7_97 (c_X7_inN (by omega) (by omega) (by omega)) rfl rfl rfl rfl ⟨rfl, rfl⟩ ?_
    refine w_ifb_eq hC dX7_status_202 (tgt := 217) (by decide) (fun c202 => ?_) (fun c202 => ?_)
    · exact absurd c202 (by omega)
    refine z_aload_n hC dX7_status_205 rfl ?_
    refine z_getR hC dX7_status_206 (hS _) zfX7_34 rfl ?_
    refine z_iload_n hC dX7_status_209 rfl ?_
    refine z_bipush hC dX7_status_210 (v := nI 10) rfl ?_
    refine z_nsub hC dX7_status_212 (by omega) ?_
    refine z_nald hC dX7_status_213 (hS _) (by omega) rfl ?_
    refine z_goto hC dX7_status_214 (tgt := 218) (by decide) ?_
    refine z_iret hC dX7_status_218 ?_
    exact hE.to (by rw [show 2 + (k - 12) = k - 10 by omega]) rfl rfl rfl
  by_cases s3_16 : k = 16
  · refine z_tabK hC dX7_status_3 (v := nI 16) (by rw [s3_16]) rfl rfl (tgt := 191) (by decide) ?_
    refine z_iload_n hC dX7_status_191 rfl ?_
    refine z_n2m hC dX7_status_192 (by omega) ?_
    refine z_ldc2 hC dX7_status_193 (v := lN 12) (zin7 (i := 89) rfl rfl) ?_
    refine z_ldc2 hC dX7_status_196 (v := lN 16) (zin7 (i := 90) rfl rfl) ?_
    refine wSv hC dX7_status_199 zlX7_97 (c_X7_inN (by omega) (by omega) (by omega)) rfl rfl rfl rfl ⟨rfl, rfl⟩ ?_
    refine w_ifb_eq hC dX7_status_202 (tgt := 217) (by decide) (fun c202 => ?_) (fun c202 => ?_)
    · exact absurd c202 (by omega)
    refine z_aload_n hC dX7_status_205 rfl ?_
    refine z_getR hC dX7_status_206 (hS _) zfX7_34 rfl ?_
    refine z_iload_n hC dX7_status_209 rfl ?_
    refine z_bipush hC dX7_status_210 (v := nI 10) rfl ?_
    refine z_nsub hC dX7_status_212 (by omega) ?_
    refine z_nald hC dX7_status_213 (hS _) (by omega) rfl ?_
    refine z_goto hC dX7_status_214 (tgt := 218) (by decide) ?_
    refine z_iret hC dX7_status_218 ?_
    exact hE.to (by rw [show 2 + (k - 12) = k - 10 by omega]) rfl rfl rfl
  by_cases s3_17 : k = 17
  · refine z_tabK hC dX7_status_3 (v := nI 17) (by rw [s3_17]) rfl rfl (tgt := 186) (by decide) ?_
    exfalso; omega
  exfalso; omega

theorem w_status_f (hS : ∀ k, S 0 k = msh 0 k) (hO : DOK D) (hM : MMe qe D I X Y) {x : Int32} (hx : ¬ inB x 18) (h12 : ¬ iw x 12 16) : zC0 mX7_status 6 [zr 0 0, zi x] (some (zi (-1))) ad S I X Y sz I X Y := by
  refine zgo (own := RX7) (k := 2) (by decide +kernel) rfl rfl rfl (fun C hC hnm hE => ?_)
  have hm := hM.1
  have hR := hO.1
  have hmo := hm
  have hn14 := hR.1
  have hn8 := hR.2.1
  have hn6 := hR.2.2.1
  refine z_iconst hC dX7_status_0 (v := nI 0) rfl ?_
  refine z_istore_n hC dX7_status_1 (lo2 := [_, _, _, _]) (Nat.le_of_ble_eq_true rfl) rfl rfl ?_
  refine z_iload_n hC dX7_status_2 rfl ?_
  by_cases s3_0 : x = 0
  · refine z_tabK hC dX7_status_3 (v := 0) s3_0 rfl rfl (tgt := 88) (by decide) ?_
    exact absurd (by rw [s3_0]; exact ⟨by decide, by decide⟩) hx
  by_cases s3_1 : x = 1
  · refine z_tabK hC dX7_status_3 (v := 1) s3_1 rfl rfl (tgt := 93) (by decide) ?_
    exact absurd (by rw [s3_1]; exact ⟨by decide, by decide⟩) hx
  by_cases s3_2 : x = 2
  · refine z_tabK hC dX7_status_3 (v := 2) s3_2 rfl rfl (tgt := 98) (by decide) ?_
    exact absurd (by rw [s3_2]; exact ⟨by decide, by decide⟩) hx
  by_cases s3_3 : x = 3
  · refine z_tabK hC dX7_status_3 (v := 3) s3_3 rfl rfl (tgt := 103) (by decide) ?_
    exact absurd (by rw [s3_3]; exact ⟨by decide, by decide⟩) hx
  by_cases s3_4 : x = 4
  · refine z_tabK hC dX7_status_3 (v := 4) s3_4 rfl rfl (tgt := 108) (by decide) ?_
    exact absurd (by rw [s3_4]; exact ⟨by decide, by decide⟩) hx
  by_cases s3_5 : x = 5
  · refine z_tabK hC dX7_status_3 (v := 5) s3_5 rfl rfl (tgt := 113) (by decide) ?_
    exact absurd (by rw [s3_5]; exact ⟨by decide, by decide⟩) hx
  by_cases s3_6 : x = 6
  · refine z_tabK hC dX7_status_3 (v := 6) s3_6 rfl rfl (tgt := 124) (by decide) ?_
    exact absurd (by rw [s3_6]; exact ⟨by decide, by decide⟩) hx
  by_cases s3_7 : x = 7
  · refine z_tabK hC dX7_status_3 (v := 7) s3_7 rfl rfl (tgt := 129) (by decide) ?_
    exact absurd (by rw [s3_7]; exact ⟨by decide, by decide⟩) hx
  by_cases s3_8 : x = 8
  · refine z_tabK hC dX7_status_3 (v := 8) s3_8 rfl rfl (tgt := 138) (by decide) ?_
    exact absurd (by rw [s3_8]; exact ⟨by decide, by decide⟩) hx
  by_cases s3_9 : x = 9
  · refine z_tabK hC dX7_status_3 (v := 9) s3_9 rfl rfl (tgt := 143) (by decide) ?_
    exact absurd (by rw [s3_9]; exact ⟨by decide, by decide⟩) hx
  by_cases s3_10 : x = 10
  · refine z_tabK hC dX7_status_3 (v := 10) s3_10 rfl rfl (tgt := 148) (by decide) ?_
    exact absurd (by rw [s3_10]; exact ⟨by decide, by decide⟩) hx
  by_cases s3_11 : x = 11
  · refine z_tabK hC dX7_status_3 (v := 11) s3_11 rfl rfl (tgt := 181) (by decide) ?_
    exact absurd (by rw [s3_11]; exact ⟨by decide, by decide⟩) hx
  by_cases s3_12 : x = 12
  · refine z_tabK hC dX7_status_3 (v := 12) s3_12 rfl rfl (tgt := 191) (by decide) ?_
    exact absurd (by rw [s3_12]; exact ⟨by decide, by decide⟩) hx
  by_cases s3_13 : x = 13
  · refine z_tabK hC dX7_status_3 (v := 13) s3_13 rfl rfl (tgt := 191) (by decide) ?_
    exact absurd (by rw [s3_13]; exact ⟨by decide, by decide⟩) hx
  by_cases s3_14 : x = 14
  · refine z_tabK hC dX7_status_3 (v := 14) s3_14 rfl rfl (tgt := 191) (by decide) ?_
    exact absurd (by rw [s3_14]; exact ⟨by decide, by decide⟩) hx
  by_cases s3_15 : x = 15
  · refine z_tabK hC dX7_status_3 (v := 15) s3_15 rfl rfl (tgt := 191) (by decide) ?_
    exact absurd (by rw [s3_15]; exact ⟨by decide, by decide⟩) hx
  by_cases s3_16 : x = 16
  · refine z_tabK hC dX7_status_3 (v := 16) s3_16 rfl rfl (tgt := 191) (by decide) ?_
    exact absurd (by rw [s3_16]; exact ⟨by decide, by decide⟩) hx
  by_cases s3_17 : x = 17
  · refine z_tabK hC dX7_status_3 (v := 17) s3_17 rfl rfl (tgt := 186) (by decide) ?_
    exact absurd (by rw [s3_17]; exact ⟨by decide, by decide⟩) hx
  refine z_tableOut hC dX7_status_3 (zsw_out fun k h1 h2 => by
      have hk : k = 0 ∨ k = 1 ∨ k = 2 ∨ k = 3 ∨ k = 4 ∨ k = 5 ∨ k = 6 ∨ k = 7 ∨ k = 8 ∨ k = 9 ∨ k = 10 ∨ k = 11 ∨ k = 12 ∨ k = 13 ∨ k = 14 ∨ k = 15 ∨ k = 16 ∨ k = 17 := by omega
      rcases hk with rfl | rfl | rfl | rfl | rfl | rfl | rfl | rfl | rfl | rfl | rfl | rfl | rfl | rfl | rfl | rfl | rfl | rfl <;> assumption) (tgt := 191) (by decide) ?_
  refine z_iload_n hC dX7_status_191 rfl ?_
  refine z_i2l hC dX7_status_192  ?_
  refine z_ldc2 hC dX7_status_193 (v := lN 12) (zin7 (i := 89) rfl rfl) ?_
  refine z_ldc2 hC dX7_status_196 (v := lN 16) (zin7 (i := 90) rfl rfl) ?_
  refine wSv hC dX7_status_199 zlX7_97 (c_X7_inI (by omega) (by omega)) rfl rfl rfl rfl ⟨rfl, rfl⟩ ?_
  refine w_ifb_eq hC dX7_status_202 (tgt := 217) (by decide) (fun c202 => ?_) (fun c202 => ?_)
  rotate_left
  · exact absurd c202 h12
  refine z_iconst hC dX7_status_217 (v := -1) rfl ?_
  refine z_iret hC dX7_status_218 ?_
  exact hE.to (by rfl) rfl rfl rfl

theorem m_status (hS : ∀ k, S 0 k = msh 0 k) (hO : DOK D) (hM : MMe qe D I X Y) {x : Int32} : mC mX7_status 6 [zr 0 0, zi x] (some (zi (statusS D x))) D ad S I X Y sz qe := by
  unfold statusS
  by_cases h : iw x 12 16
  · rw [if_pos h]
    obtain ⟨k, h1, h2, rfl, e1⟩ := iw_e h (by decide) (by decide)
    rw [e1, ← hM.2.2.2.2.2.2 (k - 12) (by omega)]
    exact ⟨_, _, _, hM, w_status_r hS hO hM h1 h2⟩
  · rw [if_neg h]
    by_cases hx : inB x 18
    · rw [if_pos hx]
      obtain ⟨k, hk, rfl, e1⟩ := inB_e hx (by decide)
      rw [e1]
      by_cases h7 : k = 7
      · subst h7
        exact ⟨_, _, _, hM.mw, w_status_w hS hO hM⟩
      · exact ⟨_, _, _, hM, w_status_t hS hO hM hk h7 h⟩
    · rw [if_neg hx]
      exact ⟨_, _, _, hM, w_status_f hS hO hM hx h⟩

end
