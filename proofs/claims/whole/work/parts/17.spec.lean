abbrev RS : Type := (Nat → Nat) × (Nat → Nat → Nat) × Int32 × Int32
/-! the numbers of the document, over natural numbers -/
def dryN (k a v : Nat) : Nat := if k = 1 then a * v + v * v else if k = 3 then 2 * (a * v + v * v) else if k = 2 then 10 + a * v else if k = 4 then 30 + a * v else if k = 5 then a else a * v
def fallN (k a v w g : Nat) : Nat := (dryN k a v + 20 * w) * (10 - g) / 10
theorem dryN_le {k a v : Nat} (ha : a ≤ 9) (hv : v ≤ 9) : dryN k a v ≤ 324 := by
  have h1 : a * v ≤ 9 * 9 := Nat.mul_le_mul ha hv
  have h2 : v * v ≤ 9 * 9 := Nat.mul_le_mul hv hv
  unfold dryN
  repeat' split
  all_goals omega
theorem fallN_le {k a v w g : Nat} (ha : a ≤ 9) (hv : v ≤ 9) (hw : w ≤ 1) : fallN k a v w g ≤ 344 := by
  have h1 := dryN_le (k := k) ha hv
  unfold fallN
  have h2 : (dryN k a v + 20 * w) * (10 - g) ≤ 344 * 10 := Nat.mul_le_mul (by omega) (by omega)
  omega
def heldN (fl : Nat → Nat) : Nat → Nat
  | 0 => 1000000
  | i + 1 => heldN fl i - heldN fl i * fl i / 1000
def fellN (fl : Nat → Nat) (i : Nat) : Nat := heldN fl i * fl i / 1000
theorem heldN_le (fl : Nat → Nat) : ∀ i, heldN fl i ≤ 1000000
  | 0 => Nat.le_refl _
  | i + 1 => Nat.le_trans (Nat.sub_le _ _) (heldN_le fl i)
theorem fellN_le {fl : Nat → Nat} {i : Nat} (h : fl i ≤ 1000) : fellN fl i ≤ heldN fl i := by
  unfold fellN
  have : heldN fl i * fl i ≤ heldN fl i * 1000 := Nat.mul_le_mul_left _ h
  omega
theorem heldN_congr {fl gl : Nat → Nat} : ∀ {n : Nat}, (∀ i, i < n → fl i = gl i) → heldN fl n = heldN gl n
  | 0, _ => rfl
  | n + 1, h => by
    show heldN fl n - heldN fl n * fl n / 1000 = heldN gl n - heldN gl n * gl n / 1000
    rw [heldN_congr (n := n) (fun i hi => h i (by omega)), h n (by omega)]
/-- what a road may be -/
def ROK (R : RS) : Prop := R.1 0 ≤ 14 ∧ R.1 1 ≤ 8 ∧ R.1 2 ≤ 6 ∧ (1 ≤ R.1 3 ∧ R.1 3 ≤ 9) ∧ R.1 4 ≤ 1 ∧ R.1 5 ≤ 10 ∧
  (∀ i, i < R.1 0 → R.2.1 0 i ≤ 5 ∧ R.2.1 1 i ≤ 9 ∧ 1 ≤ R.2.1 2 i ∧ R.2.1 2 i ≤ 999 ∧ R.2.1 3 i ≤ 1000 ∧ R.2.1 4 i ≤ 100) ∧
  (∀ i, i < R.1 1 → R.2.1 5 i < R.1 0 ∧ R.2.1 6 i ≤ 1 ∧ R.2.1 7 i ≤ 100) ∧
  ∀ i, i < R.1 2 → R.2.1 8 i < R.1 0 ∧ 1 ≤ R.2.1 9 i ∧ R.2.1 9 i ≤ 99 ∧ R.2.1 10 i ≤ 100
/-- FALL of bend i by pace v -/
def rfall (R : RS) (v i : Nat) : Nat := fallN (R.2.1 0 i) (R.2.1 1 i) v (R.1 4) (R.1 5)
theorem rfall_le {R : RS} {v i : Nat} (hR : ROK R) (hi : i < R.1 0) (hv : v ≤ 9) : rfall R v i ≤ 344 := fallN_le (hR.2.2.2.2.2.2.1 i hi).2.1 hv hR.2.2.2.2.1

