/-! what a statement of THE TAPE does to a road -/
section
variable {R : RS}
theorem ROK_addB (h : ROK R) {k a y q : Nat} (hf : R.1 0 < 14) (hk : k ≤ 5) (ha : a ≤ 9) (hy : 1 ≤ y) (hy2 : y ≤ 999) (hq : q ≤ 1000) : ROK (raddB R k a y q) := by
  obtain ⟨h1, h2, h3, h4, h5, h6, h7, h8, h9⟩ := h
  have eh : ∀ j i, 5 ≤ j → (raddB R k a y q).2.1 j i = R.2.1 j i := fun j i hj => if_neg (by omega)
  refine ⟨hf, h2, h3, h4, h5, h6, fun i hi => ?_, fun i hi => ?_, fun i hi => ?_⟩
  · have hi : i < R.1 0 + 1 := hi
    by_cases e : i = R.1 0
    · subst e
      have e0 : (raddB R k a y q).2.1 0 (R.1 0) = k := by simp [raddB]
      have e1 : (raddB R k a y q).2.1 1 (R.1 0) = a := by simp [raddB]
      have e2 : (raddB R k a y q).2.1 2 (R.1 0) = y := by simp [raddB]
      have e3 : (raddB R k a y q).2.1 3 (R.1 0) = q := by simp [raddB]
      have e4 : (raddB R k a y q).2.1 4 (R.1 0) = 100 := by simp [raddB]
      rw [e0, e1, e2, e3, e4]
      exact ⟨hk, ha, hy, hy2, hq, Nat.le_refl 100⟩
    · have en : ∀ j, (raddB R k a y q).2.1 j i = R.2.1 j i := fun j => if_neg (fun z => e z.1)
      rw [en, en, en, en, en]
      exact h7 i (by omega)
  · have hg := h8 i hi
    rw [eh _ _ (by decide), eh _ _ (by decide), eh _ _ (by decide)]
    exact ⟨Nat.lt_succ_of_lt hg.1, hg.2⟩
  · have hg := h9 i hi
    rw [eh _ _ (by decide), eh _ _ (by decide), eh _ _ (by decide)]
    exact ⟨Nat.lt_succ_of_lt hg.1, hg.2⟩
theorem ROK_addS (h : ROK R) {b q s : Nat} (hf : R.1 1 < 8) (hb : b < R.1 0) (hq : q ≤ 1) (hs : s ≤ 100) : ROK (raddS R b q s) := by
  obtain ⟨h1, h2, h3, h4, h5, h6, h7, h8, h9⟩ := h
  have eh : ∀ j i, j < 5 ∨ 8 ≤ j → (raddS R b q s).2.1 j i = R.2.1 j i := fun j i hj => if_neg (by omega)
  refine ⟨h1, hf, h3, h4, h5, h6, fun i hi => ?_, fun i hi => ?_, fun i hi => ?_⟩
  · have hg := h7 i hi
    rw [eh _ _ (by decide), eh _ _ (by decide), eh _ _ (by decide), eh _ _ (by decide), eh _ _ (by decide)]
    exact hg
  · have hi : i < R.1 1 + 1 := hi
    by_cases e : i = R.1 1
    · subst e
      have e0 : (raddS R b q s).2.1 5 (R.1 1) = b := by simp [raddS]
      have e1 : (raddS R b q s).2.1 6 (R.1 1) = q := by simp [raddS]
      have e2 : (raddS R b q s).2.1 7 (R.1 1) = s := by simp [raddS]
      rw [e0, e1, e2]
      exact ⟨hb, hq, hs⟩
    · have en : ∀ j, (raddS R b q s).2.1 j i = R.2.1 j i := fun j => if_neg (fun z => e z.1)
      rw [en, en, en]
      exact h8 i (by omega)
  · have hg := h9 i hi
    rw [eh _ _ (by decide), eh _ _ (by decide), eh _ _ (by decide)]
    exact hg
theorem ROK_addC (h : ROK R) {b q s : Nat} (hf : R.1 2 < 6) (hb : b < R.1 0) (hq : 1 ≤ q) (hq2 : q ≤ 99) (hs : s ≤ 100) : ROK (raddC R b q s) := by
  obtain ⟨h1, h2, h3, h4, h5, h6, h7, h8, h9⟩ := h
  have eh : ∀ j i, j < 8 → (raddC R b q s).2.1 j i = R.2.1 j i := fun j i hj => if_neg (by omega)
  refine ⟨h1, h2, hf, h4, h5, h6, fun i hi => ?_, fun i hi => ?_, fun i hi => ?_⟩
  · have hg := h7 i hi
    rw [eh _ _ (by decide), eh _ _ (by decide), eh _ _ (by decide), eh _ _ (by decide), eh _ _ (by decide)]
    exact hg
  · have hg := h8 i hi
    rw [eh _ _ (by decide), eh _ _ (by decide), eh _ _ (by decide)]
    exact hg
  · have hi : i < R.1 2 + 1 := hi
    by_cases e : i = R.1 2
    · subst e
      have e0 : (raddC R b q s).2.1 8 (R.1 2) = b := by simp [raddC]
      have e1 : (raddC R b q s).2.1 9 (R.1 2) = q := by simp [raddC]
      have e2 : (raddC R b q s).2.1 10 (R.1 2) = s := by simp [raddC]
      rw [e0, e1, e2]
      exact ⟨hb, hq, hq2, hs⟩
    · have en : ∀ j, (raddC R b q s).2.1 j i = R.2.1 j i := fun j => if_neg (fun z => e z.1)
      rw [en, en, en]
      exact h9 i (by omega)
theorem ROK_miss (h : ROK R) {b l : Nat} (hb : b < R.1 0) : ROK (rmiss R b l) := by
  obtain ⟨h1, h2, h3, h4, h5, h6, h7, h8, h9⟩ := h
  have eh : ∀ j i, ¬ j = 4 → (rmiss R b l).2.1 j i = R.2.1 j i := fun j i hj => if_neg (fun z => hj z.1)
  refine ⟨h1, h2, h3, h4, h5, h6, fun i hi => ?_, fun i hi => ?_, fun i hi => ?_⟩
  · have hg := h7 i hi
    rw [eh _ _ (by decide), eh _ _ (by decide), eh _ _ (by decide), eh _ _ (by decide)]
    refine ⟨hg.1, hg.2.1, hg.2.2.1, hg.2.2.2.1, hg.2.2.2.2.1, ?_⟩
    show (if 4 = 4 ∧ i = b then missN (R.2.1 4 b) l else R.2.1 4 i) ≤ 100
    split
    · exact missN_le (h7 b hb).2.2.2.2.2
    · exact hg.2.2.2.2.2
  · have hg := h8 i hi
    rw [eh _ _ (by decide), eh _ _ (by decide), eh _ _ (by decide)]
    exact hg
  · have hg := h9 i hi
    rw [eh _ _ (by decide), eh _ _ (by decide), eh _ _ (by decide)]
    exact hg
theorem ROK_set (h : ROK R) {w v : Nat} (hw : w < 3) (h0 : w = 0 → 1 ≤ v ∧ v ≤ 9) (h1 : w = 1 → v ≤ 1) (h2 : w = 2 → v ≤ 10) : ROK (rset R (3 + w) v) := by
  obtain ⟨g1, g2, g3, g4, g5, g6, g7⟩ := h
  unfold rset
  refine ⟨?_, ?_, ?_, ?_, ?_, ?_, ?_⟩
  · dsimp only; rw [if_neg (by omega)]; exact g1
  · dsimp only; rw [if_neg (by omega)]; exact g2
  · dsimp only; rw [if_neg (by omega)]; exact g3
  · dsimp only; split
    · exact h0 (by omega)
    · exact g4
  · dsimp only; split
    · exact h1 (by omega)
    · exact g5
  · dsimp only; split
    · exact h2 (by omega)
    · exact g6
  · dsimp only
    rw [if_neg (by omega), if_neg (by omega), if_neg (by omega)]
    exact g7
end
/-- the bounds of a number: least, and one behind the most -/
def loN (c : Nat) : Nat := ((zAl 1).getD c 0).toNatClampNeg
def hiN (R : RS) (c : Nat) : Nat := if (zAl 2).getD c 0 = -1 then R.1 0 else ((zAl 2).getD c 0).toNatClampNeg + 1
abbrev tkP (R : RS) (q p : Nat) (x : Int32) : Prop := (zAl 1).getD (4 * q + p) 0 ≤ x ∧ x ≤ (if (zAl 2).getD (4 * q + p) 0 = -1 then nI (R.1 0) - nI 1 else (zAl 2).getD (4 * q + p) 0)
abbrev tkN (R : RS) (q p v : Nat) : Prop := loN (4 * q + p) ≤ v ∧ v < hiN R (4 * q + p)
theorem zAl_t : ∀ c, c < 32 → (zAl 1).getD c 0 = nI (loN c) ∧ loN c ≤ 1 ∧ (¬ (zAl 2).getD c 0 = -1 → (zAl 2).getD c 0 = nI ((zAl 2).getD c 0).toNatClampNeg ∧ ((zAl 2).getD c 0).toNatClampNeg ≤ 1000) := by decide +kernel
theorem zm1_lt {v : Nat} (h : v < 2 ^ 31) : ¬ nI v ≤ -1 := by
  intro h1
  have h2 : (0 : Int32) ≤ nI v := nI_pos' h
  exact absurd (Int32.le_trans h2 h1) (by decide)
theorem tkP_n {R : RS} {q p v : Nat} (hR : ROK R) (hq : q < 8) (hp : p < 4) (hv : v < 2 ^ 31) : tkP R q p (nI v) ↔ tkN R q p v := by
  obtain ⟨h1, h2, h3⟩ := zAl_t (4 * q + p) (by omega)
  have hn := hR.1
  unfold tkP tkN hiN
  rw [h1, nI_leI (by omega) hv]
  apply and_congr Iff.rfl
  by_cases h : (zAl 2).getD (4 * q + p) 0 = -1
  · rw [if_pos h, if_pos h]
    by_cases h0 : R.1 0 = 0
    · rw [h0]
      constructor
      · intro z
        exact absurd z (zm1_lt hv)
      · intro z; omega
    · rw [pk_sub (by omega), nI_leI hv (by omega)]
      omega
  · rw [if_neg h, if_neg h]
    obtain ⟨h4, h5⟩ := h3 h
    rw [h4, nI_leI hv (by omega), ← h4]
    omega
theorem tkP_neg {R : RS} {q p : Nat} {x : Int32} (hq : q < 8) (hp : p < 4) (hx : x < 0) : ¬ tkP R q p x := by
  obtain ⟨h1, h2, h3⟩ := zAl_t (4 * q + p) (by omega)
  intro z
  have h4 : (0 : Int32) ≤ nI (loN (4 * q + p)) := nI_pos' (by omega)
  rw [← h1] at h4
  exact absurd (Int32.le_trans h4 z.1) (Int32.not_le.mpr hx)
/-- the road, and the memory, behind statement q with numbers nm -/
def cyR (R : RS) (q : Nat) (nm : Nat → Nat) : RS :=
  if q = 0 then raddB R (nm 0) (nm 1) (nm 2) (nm 3) else if q = 4 then raddS R (nm 0) 1 (nm 1) else if q = 5 then raddS R (nm 0) 0 (nm 1) else if q = 6 then raddC R (nm 0) (nm 1) (nm 2) else if q = 7 then rmiss R (nm 0) (nm 1 + 1) else rset R (3 + (q - 1)) (nm 0)
def cyI (r : Nat) (R : RS) (q : Nat) (nm : Nat → Nat) (I : zI) : zI :=
  if q = 0 then up3 I 3 (r + 1) 2 (nI (R.1 0 + 1)) else if q = 4 then up3 I 3 (r + 3) 2 (nI (R.1 1 + 1)) else if q = 5 then up3 I 3 (r + 3) 2 (nI (R.1 1 + 1)) else if q = 6 then up3 I 3 (r + 5) 2 (nI (R.1 2 + 1)) else if q = 7 then I else up3 I 3 r (3 + (q - 1)) (nI (nm 0))
def cyX (r : Nat) (R : RS) (q : Nat) (nm : Nat → Nat) (X : zI) : zI :=
  if q = 0 then zaddB r (R.1 0) X (nm 0) (nm 1) (nm 2) (nm 3) else if q = 4 then zadd3 (r + 4) (R.1 1) X (nm 0) 1 (nm 1) else if q = 5 then zadd3 (r + 4) (R.1 1) X (nm 0) 0 (nm 1) else if q = 6 then zadd3 (r + 6) (R.1 2) X (nm 0) (nm 1) (nm 2) else if q = 7 then up3 X 3 (r + 2) (nm 0 * 5 + 4) (nI (missN (R.2.1 4 (nm 0)) (nm 1 + 1))) else X
def nbN (q : Nat) : Nat := ((zAl 0).getD q 0).toNatClampNeg
theorem nbN_t : ∀ q, q < 8 → (zAl 0).getD q 0 = nI (nbN q) ∧ nbN q ≤ 4 ∧ 1 ≤ nbN q := by decide +kernel
abbrev rmP (R : RS) (q : Nat) : Prop := (q = 0 → R.1 0 < 14) ∧ (q = 4 ∨ q = 5 → R.1 1 < 8) ∧ (q = 6 → R.1 2 < 6)
theorem cy_q {q : Nat} (h : q < 8) : q = 0 ∨ q = 1 ∨ q = 2 ∨ q = 3 ∨ q = 4 ∨ q = 5 ∨ q = 6 ∨ q = 7 := by omega
theorem hiN_L {R : RS} {c : Nat} (h : (zAl 2).getD c 0 = -1) : hiN R c = R.1 0 := if_pos h
theorem hiN_n {R : RS} {c k : Nat} (h : ¬ (zAl 2).getD c 0 = -1) (h2 : ((zAl 2).getD c 0).toNatClampNeg + 1 = k) : hiN R c = k := by
  unfold hiN; rw [if_neg h, h2]
theorem cy_ROK {R : RS} {q : Nat} {nm : Nat → Nat} (hR : ROK R) (hq : q < 8) (hr : rmP R q) (hn : ∀ j, j < nbN q → tkN R q j (nm j)) : ROK (cyR R q nm) := by
  rcases cy_q hq with rfl | rfl | rfl | rfl | rfl | rfl | rfl | rfl
  · have a0 := hn 0 (by decide); have a1 := hn 1 (by decide); have a2 := hn 2 (by decide); have a3 := hn 3 (by decide)
    unfold tkN at a0 a1 a2 a3
    rw [hiN_n (k := 6) (by decide) (by decide)] at a0
    rw [hiN_n (k := 10) (by decide) (by decide)] at a1
    rw [hiN_n (k := 1000) (by decide) (by decide), show loN (4 * 0 + 2) = 1 by decide] at a2
    rw [hiN_n (k := 1001) (by decide) (by decide)] at a3
    exact ROK_addB hR (hr.1 rfl) (by omega) (by omega) (by omega) (by omega) (by omega)
  · have a0 := hn 0 (by decide)
    unfold tkN at a0
    rw [hiN_n (k := 10) (by decide) (by decide), show loN (4 * 1 + 0) = 1 by decide] at a0
    exact ROK_set hR (w := 0) (by decide) (fun _ => by omega) (fun e => by omega) (fun e => by omega)
  · have a0 := hn 0 (by decide)
    unfold tkN at a0
    rw [hiN_n (k := 2) (by decide) (by decide)] at a0
    exact ROK_set hR (w := 1) (by decide) (fun _ => by omega) (fun e => by omega) (fun e => by omega)
  · have a0 := hn 0 (by decide)
    unfold tkN at a0
    rw [hiN_n (k := 11) (by decide) (by decide)] at a0
    exact ROK_set hR (w := 2) (by decide) (fun _ => by omega) (fun e => by omega) (fun e => by omega)
  · have a0 := hn 0 (by decide); have a1 := hn 1 (by decide)
    unfold tkN at a0 a1
    rw [hiN_L (by decide)] at a0
    rw [hiN_n (k := 101) (by decide) (by decide)] at a1
    exact ROK_addS hR (hr.2.1 (Or.inl rfl)) a0.2 (by decide) (by omega)
  · have a0 := hn 0 (by decide); have a1 := hn 1 (by decide)
    unfold tkN at a0 a1
    rw [hiN_L (by decide)] at a0
    rw [hiN_n (k := 101) (by decide) (by decide)] at a1
    exact ROK_addS hR (hr.2.1 (Or.inr rfl)) a0.2 (by decide) (by omega)
  · have a0 := hn 0 (by decide); have a1 := hn 1 (by decide); have a2 := hn 2 (by decide)
    unfold tkN at a0 a1 a2
    rw [hiN_L (by decide)] at a0
    rw [hiN_n (k := 100) (by decide) (by decide), show loN (4 * 6 + 1) = 1 by decide] at a1
    rw [hiN_n (k := 101) (by decide) (by decide)] at a2
    exact ROK_addC hR (hr.2.2 rfl) a0.2 (by omega) (by omega) (by omega)
  · have a0 := hn 0 (by decide)
    unfold tkN at a0
    rw [hiN_L (by decide)] at a0
    exact ROK_miss hR a0.2
theorem cy_7 {R : RS} {nm : Nat → Nat} (hn : ∀ j, j < nbN 7 → tkN R 7 j (nm j)) : nm 0 < R.1 0 ∧ nm 1 ≤ 2 := by
  have a0 := hn 0 (by decide); have a1 := hn 1 (by decide)
  unfold tkN at a0 a1
  rw [hiN_L (by decide)] at a0
  rw [hiN_n (k := 3) (by decide) (by decide)] at a1
  exact ⟨a0.2, by omega⟩
theorem cy_zRm {r : Nat} {R : RS} {q : Nat} {nm : Nat → Nat} {I X : zI} (hm : zRm r R I X) (hq : q < 8) (hn : ∀ j, j < nbN q → tkN R q j (nm j)) : zRm r (cyR R q nm) (cyI r R q nm I) (cyX r R q nm X) := by
  rcases cy_q hq with rfl | rfl | rfl | rfl | rfl | rfl | rfl | rfl
  · exact zRm_addB hm
  · exact zRm_set hm (w := 0) (by decide)
  · exact zRm_set hm (w := 1) (by decide)
  · exact zRm_set hm (w := 2) (by decide)
  · exact zRm_addS hm
  · exact zRm_addS hm
  · exact zRm_addC hm
  · exact zRm_miss hm (cy_7 hn).1
theorem cyI_ne {r : Nat} {R : RS} {q : Nat} {nm : Nat → Nat} {I : zI} {b k j : Nat} (h : ¬ (b = 3 ∧ r ≤ k ∧ k < r + 7)) : cyI r R q nm I b k j = I b k j := by
  unfold cyI
  repeat' split
  all_goals first | rfl | exact up3_ne (by omega)
theorem cyX_ne {r : Nat} {R : RS} {q : Nat} {nm : Nat → Nat} {X : zI} {b k j : Nat} (h : ¬ (b = 3 ∧ r ≤ k ∧ k < r + 7)) : cyX r R q nm X b k j = X b k j := by
  unfold cyX zaddB zadd3
  repeat' split
  all_goals first | rfl | (repeat rw [up3_ne (by omega)])
section
variable {ad : zA} {S : zSh} {I X : zI} {Y : zY} {sz : Nat} {R : RS}

theorem c_X4_carryOut (hD : ∀ k, S 3 k = dsh k) (hm : zRm 15 R I X) (hR : ROK R) {q : Nat} {nm : Nat → Nat} (hq : q < 8) (hr : rmP R q) (hX : ∀ j, j < nbN q → X 3 32 j = nI (nm j)) (hn : ∀ j, j < nbN q → tkN R q j (nm j)) : zC0 mX4_carryOut 4 [zr 3 30, zr 3 15, zi (nI q)] (none) ad S I X Y sz (cyI 15 R q nm I) (cyX 15 R q nm X) Y := by
  refine zgo (own := RX4) (k := 0) (by decide +kernel) rfl rfl rfl (fun C hC hnm hE => ?_)
  refine z_iload_n hC dX4_carryOut_0 rfl ?_
  by_cases s1_0 : q = 0
  · refine z_tabK hC dX4_carryOut_1 (v := nI 0) (by rw [s1_0]) rfl rfl (tgt := 48) (by decide) ?_
    subst q
    refine z_aload_n hC dX4_carryOut_48 rfl ?_
    refine z_aload_n hC dX4_carryOut_49 rfl ?_
    refine z_getR hC dX4_carryOut_50 (hD _) zfX4_15 rfl ?_
    refine z_iconst hC dX4_carryOut_53 (v := nI 0) rfl ?_
    refine z_naldN hC dX4_carryOut_54 (hD _) (by omega) rfl (hX 0 (by first | decide | (subst q; decide) | (exact (nbN_t q hq).2.2))) ?_
    refine z_aload_n hC dX4_carryOut_55 rfl ?_
    refine z_getR hC dX4_carryOut_56 (hD _) zfX4_15 rfl ?_
    refine z_iconst hC dX4_carryOut_59 (v := nI 1) rfl ?_
    refine z_naldN hC dX4_carryOut_60 (hD _) (by omega) rfl (hX 1 (by first | decide | (subst q; decide) | (exact (nbN_t q hq).2.2))) ?_
    refine z_aload_n hC dX4_carryOut_61 rfl ?_
    refine z_getR hC dX4_carryOut_62 (hD _) zfX4_15 rfl ?_
    refine z_iconst hC dX4_carryOut_65 (v := nI 2) rfl ?_
    refine z_naldN hC dX4_carryOut_66 (hD _) (by omega) rfl (hX 2 (by first | decide | (subst q; decide) | (exact (nbN_t q hq).2.2))) ?_
    refine z_aload_n hC dX4_carryOut_67 rfl ?_
    refine z_getR hC dX4_carryOut_68 (hD _) zfX4_15 rfl ?_
    refine z_iconst hC dX4_carryOut_71 (v := nI 3) rfl ?_
    refine z_naldN hC dX4_carryOut_72 (hD _) (by omega) rfl (hX 3 (by first | decide | (subst q; decide) | (exact (nbN_t q hq).2.2))) ?_
    refine zVv hC dX4_carryOut_73 zlX4_63 (c_X1_addBend (zRd_15 hD) hm hR (hr.1 rfl)) (hD _) rfl rfl rfl rfl rfl rfl ?_
    refine z_pop hC dX4_carryOut_76 rfl ?_
    refine z_goto hC dX4_carryOut_77 (tgt := 181) (by decide) ?_
    refine z_vret hC dX4_carryOut_181 ?_
    exact hE.to (by rfl) rfl rfl rfl
  by_cases s1_1 : q = 1
  · refine z_tabK hC dX4_carryOut_1 (v := nI 1) (by rw [s1_1]) rfl rfl (tgt := 167) (by decide) ?_
    subst q
    refine z_aload_n hC dX4_carryOut_167 rfl ?_
    refine z_iload_n hC dX4_carryOut_168 rfl ?_
    refine z_iconst hC dX4_carryOut_169 (v := nI 1) rfl ?_
    refine z_nsub hC dX4_carryOut_170 (by omega) ?_
    refine z_aload_n hC dX4_carryOut_171 rfl ?_
    refine z_getR hC dX4_carryOut_172 (hD _) zfX4_15 rfl ?_
    refine z_iconst hC dX4_carryOut_175 (v := nI 0) rfl ?_
    refine z_naldN hC dX4_carryOut_176 (hD _) (by omega) rfl (hX 0 (by first | decide | (subst q; decide) | (exact (nbN_t q hq).2.2))) ?_
    refine zVv hC dX4_carryOut_177 zlX4_79 (c_X1_settle (zRd_15 hD) hm hR (w := _) (by decide)) (hD _) rfl rfl rfl rfl rfl rfl ?_
    refine z_pop hC dX4_carryOut_180 rfl ?_
    refine z_vret hC dX4_carryOut_181 ?_
    exact hE.to (by rfl) rfl rfl rfl
  by_cases s1_2 : q = 2
  · refine z_tabK hC dX4_carryOut_1 (v := nI 2) (by rw [s1_2]) rfl rfl (tgt := 167) (by decide) ?_
    subst q
    refine z_aload_n hC dX4_carryOut_167 rfl ?_
    refine z_iload_n hC dX4_carryOut_168 rfl ?_
    refine z_iconst hC dX4_carryOut_169 (v := nI 1) rfl ?_
    refine z_nsub hC dX4_carryOut_170 (by omega) ?_
    refine z_aload_n hC dX4_carryOut_171 rfl ?_
    refine z_getR hC dX4_carryOut_172 (hD _) zfX4_15 rfl ?_
    refine z_iconst hC dX4_carryOut_175 (v := nI 0) rfl ?_
    refine z_naldN hC dX4_carryOut_176 (hD _) (by omega) rfl (hX 0 (by first | decide | (subst q; decide) | (exact (nbN_t q hq).2.2))) ?_
    refine zVv hC dX4_carryOut_177 zlX4_79 (c_X1_settle (zRd_15 hD) hm hR (w := _) (by decide)) (hD _) rfl rfl rfl rfl rfl rfl ?_
    refine z_pop hC dX4_carryOut_180 rfl ?_
    refine z_vret hC dX4_carryOut_181 ?_
    exact hE.to (by rfl) rfl rfl rfl
  by_cases s1_3 : q = 3
  · refine z_tabK hC dX4_carryOut_1 (v := nI 3) (by rw [s1_3]) rfl rfl (tgt := 167) (by decide) ?_
    subst q
    refine z_aload_n hC dX4_carryOut_167 rfl ?_
    refine z_iload_n hC dX4_carryOut_168 rfl ?_
    refine z_iconst hC dX4_carryOut_169 (v := nI 1) rfl ?_
    refine z_nsub hC dX4_carryOut_170 (by omega) ?_
    refine z_aload_n hC dX4_carryOut_171 rfl ?_
    refine z_getR hC dX4_carryOut_172 (hD _) zfX4_15 rfl ?_
    refine z_iconst hC dX4_carryOut_175 (v := nI 0) rfl ?_
    refine z_naldN hC dX4_carryOut_176 (hD _) (by omega) rfl (hX 0 (by first | decide | (subst q; decide) | (exact (nbN_t q hq).2.2))) ?_
    refine zVv hC dX4_carryOut_177 zlX4_79 (c_X1_settle (zRd_15 hD) hm hR (w := _) (by decide)) (hD _) rfl rfl rfl rfl rfl rfl ?_
    refine z_pop hC dX4_carryOut_180 rfl ?_
    refine z_vret hC dX4_carryOut_181 ?_
    exact hE.to (by rfl) rfl rfl rfl
  by_cases s1_4 : q = 4
  · refine z_tabK hC dX4_carryOut_1 (v := nI 4) (by rw [s1_4]) rfl rfl (tgt := 80) (by decide) ?_
    subst q
    refine z_aload_n hC dX4_carryOut_80 rfl ?_
    refine z_aload_n hC dX4_carryOut_81 rfl ?_
    refine z_getR hC dX4_carryOut_82 (hD _) zfX4_15 rfl ?_
    refine z_iconst hC dX4_carryOut_85 (v := nI 0) rfl ?_
    refine z_naldN hC dX4_carryOut_86 (hD _) (by omega) rfl (hX 0 (by first | decide | (subst q; decide) | (exact (nbN_t q hq).2.2))) ?_
    refine z_iconst hC dX4_carryOut_87 (v := nI 1) rfl ?_
    refine z_aload_n hC dX4_carryOut_88 rfl ?_
    refine z_getR hC dX4_carryOut_89 (hD _) zfX4_15 rfl ?_
    refine z_iconst hC dX4_carryOut_92 (v := nI 1) rfl ?_
    refine z_naldN hC dX4_carryOut_93 (hD _) (by omega) rfl (hX 1 (by first | decide | (subst q; decide) | (exact (nbN_t q hq).2.2))) ?_
    refine zV0 hC dX4_carryOut_94 zlX4_67 (c_X1_addSign (zRd_15 hD) hm hR (by decide) (hr.2.1 (Or.inl rfl))) (hD _) rfl rfl rfl rfl rfl rfl ?_
    refine z_goto hC dX4_carryOut_97 (tgt := 181) (by decide) ?_
    refine z_vret hC dX4_carryOut_181 ?_
    exact hE.to (by rfl) rfl rfl rfl
  by_cases s1_5 : q = 5
  · refine z_tabK hC dX4_carryOut_1 (v := nI 5) (by rw [s1_5]) rfl rfl (tgt := 100) (by decide) ?_
    subst q
    refine z_aload_n hC dX4_carryOut_100 rfl ?_
    refine z_aload_n hC dX4_carryOut_101 rfl ?_
    refine z_getR hC dX4_carryOut_102 (hD _) zfX4_15 rfl ?_
    refine z_iconst hC dX4_carryOut_105 (v := nI 0) rfl ?_
    refine z_naldN hC dX4_carryOut_106 (hD _) (by omega) rfl (hX 0 (by first | decide | (subst q; decide) | (exact (nbN_t q hq).2.2))) ?_
    refine z_iconst hC dX4_carryOut_107 (v := nI 0) rfl ?_
    refine z_aload_n hC dX4_carryOut_108 rfl ?_
    refine z_getR hC dX4_carryOut_109 (hD _) zfX4_15 rfl ?_
    refine z_iconst hC dX4_carryOut_112 (v := nI 1) rfl ?_
    refine z_naldN hC dX4_carryOut_113 (hD _) (by omega) rfl (hX 1 (by first | decide | (subst q; decide) | (exact (nbN_t q hq).2.2))) ?_
    refine zV0 hC dX4_carryOut_114 zlX4_67 (c_X1_addSign (zRd_15 hD) hm hR (by decide) (hr.2.1 (Or.inr rfl))) (hD _) rfl rfl rfl rfl rfl rfl ?_
    refine z_goto hC dX4_carryOut_117 (tgt := 181) (by decide) ?_
    refine z_vret hC dX4_carryOut_181 ?_
    exact hE.to (by rfl) rfl rfl rfl
  by_cases s1_6 : q = 6
  · refine z_tabK hC dX4_carryOut_1 (v := nI 6) (by rw [s1_6]) rfl rfl (tgt := 120) (by decide) ?_
    subst q
    refine z_aload_n hC dX4_carryOut_120 rfl ?_
    refine z_aload_n hC dX4_carryOut_121 rfl ?_
    refine z_getR hC dX4_carryOut_122 (hD _) zfX4_15 rfl ?_
    refine z_iconst hC dX4_carryOut_125 (v := nI 0) rfl ?_
    refine z_naldN hC dX4_carryOut_126 (hD _) (by omega) rfl (hX 0 (by first | decide | (subst q; decide) | (exact (nbN_t q hq).2.2))) ?_
    refine z_aload_n hC dX4_carryOut_127 rfl ?_
    refine z_getR hC dX4_carryOut_128 (hD _) zfX4_15 rfl ?_
    refine z_iconst hC dX4_carryOut_131 (v := nI 1) rfl ?_
    refine z_naldN hC dX4_carryOut_132 (hD _) (by omega) rfl (hX 1 (by first | decide | (subst q; decide) | (exact (nbN_t q hq).2.2))) ?_
    refine z_aload_n hC dX4_carryOut_133 rfl ?_
    refine z_getR hC dX4_carryOut_134 (hD _) zfX4_15 rfl ?_
    refine z_iconst hC dX4_carryOut_137 (v := nI 2) rfl ?_
    refine z_naldN hC dX4_carryOut_138 (hD _) (by omega) rfl (hX 2 (by first | decide | (subst q; decide) | (exact (nbN_t q hq).2.2))) ?_
    refine zVv hC dX4_carryOut_139 zlX4_71 (c_X1_addCall (zRd_15 hD) hm hR (hr.2.2 rfl)) (hD _) rfl rfl rfl rfl rfl rfl ?_
    refine z_pop hC dX4_carryOut_142 rfl ?_
    refine z_goto hC dX4_carryOut_143 (tgt := 181) (by decide) ?_
    refine z_vret hC dX4_carryOut_181 ?_
    exact hE.to (by rfl) rfl rfl rfl
  by_cases s1_7 : q = 7
  · refine z_tabK hC dX4_carryOut_1 (v := nI 7) (by rw [s1_7]) rfl rfl (tgt := 146) (by decide) ?_
    subst q
    refine z_aload_n hC dX4_carryOut_146 rfl ?_
    refine z_aload_n hC dX4_carryOut_147 rfl ?_
    refine z_getR hC dX4_carryOut_148 (hD _) zfX4_15 rfl ?_
    refine z_iconst hC dX4_carryOut_151 (v := nI 0) rfl ?_
    refine z_naldN hC dX4_carryOut_152 (hD _) (by omega) rfl (hX 0 (by first | decide | (subst q; decide) | (exact (nbN_t q hq).2.2))) ?_
    refine z_aload_n hC dX4_carryOut_153 rfl ?_
    refine z_getR hC dX4_carryOut_154 (hD _) zfX4_15 rfl ?_
    refine z_iconst hC dX4_carryOut_157 (v := nI 1) rfl ?_
    refine z_naldN hC dX4_carryOut_158 (hD _) (by omega) rfl (hX 1 (by first | decide | (subst q; decide) | (exact (nbN_t q hq).2.2))) ?_
    refine z_iconst hC dX4_carryOut_159 (v := nI 1) rfl ?_
    refine z_nadd hC dX4_carryOut_160  ?_
    refine zV0 hC dX4_carryOut_161 zlX4_75 (c_X1_lookInVain (zRd_15 hD) hm hR (cy_7 hn).1 (l := nm 1 + 1) (by have := (cy_7 hn).2; omega)) (hD _) rfl rfl rfl rfl rfl rfl ?_
    refine z_goto hC dX4_carryOut_164 (tgt := 181) (by decide) ?_
    refine z_vret hC dX4_carryOut_181 ?_
    exact hE.to (by rfl) rfl rfl rfl
  exfalso; omega

end
