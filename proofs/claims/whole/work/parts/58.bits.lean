/-! OnTheRoof: slows -/
def pcN : Nat → Nat → Nat
  | 0, _ => 0
  | f + 1, t => t % 2 + pcN f (t / 2)
def lbN : Nat → Nat → Nat
  | 0, _ => 1
  | f + 1, t => if t % 2 = 1 then 1 else 2 * lbN f (t / 2)
theorem lbN_e : ∀ f t, ∃ j a, lbN f t = 2 ^ j ∧ t = 2 ^ j * a
  | 0, t => ⟨0, t, rfl, by omega⟩
  | f + 1, t => by
    by_cases h : t % 2 = 1
    · exact ⟨0, t, if_pos h, by omega⟩
    · obtain ⟨j, a, h1, h2⟩ := lbN_e f (t / 2)
      refine ⟨j + 1, a, ?_, ?_⟩
      · rw [show lbN (f + 1) t = 2 * lbN f (t / 2) from if_neg h, h1, Nat.pow_succ]; omega
      · rw [Nat.pow_succ, Nat.mul_right_comm, ← h2]; omega
theorem pcN_add : ∀ (f j a r : Nat), r < 2 ^ j → pcN f (2 ^ j * a) ≤ pcN f (2 ^ j * a + r)
  | 0, _, _, _, _ => Nat.le_refl _
  | f + 1, 0, a, r, h => by
    obtain rfl : r = 0 := by simpa using h
    exact Nat.le_refl _
  | f + 1, j + 1, a, r, h => by
    have e : 2 ^ (j + 1) * a = 2 * (2 ^ j * a) := by rw [Nat.pow_succ, Nat.mul_right_comm, Nat.mul_comm]
    have h' : r / 2 < 2 ^ j := by rw [Nat.pow_succ] at h; omega
    have ih := pcN_add f j a (r / 2) h'
    show (2 ^ (j + 1) * a) % 2 + pcN f (2 ^ (j + 1) * a / 2) ≤ (2 ^ (j + 1) * a + r) % 2 + pcN f ((2 ^ (j + 1) * a + r) / 2)
    rw [e, show 2 * (2 ^ j * a) / 2 = 2 ^ j * a by omega, show (2 * (2 ^ j * a) + r) / 2 = 2 ^ j * a + r / 2 by omega]
    omega
theorem pcN_skip {f t s : Nat} (h1 : t ≤ s) (h2 : s < t + lbN f t) : pcN f t ≤ pcN f s := by
  obtain ⟨j, a, e1, e2⟩ := lbN_e f t
  have := pcN_add f j a (s - t) (by omega)
  rw [← e2, show t + (s - t) = s by omega] at this
  exact this
theorem lbN_top {f t n : Nat} (h0 : 0 < t) (h : t < 2 ^ n) : t + lbN f t ≤ 2 ^ n := by
  obtain ⟨j, a, e1, e2⟩ := lbN_e f t
  rw [e1]
  have ha : 0 < a := by
    rcases Nat.eq_zero_or_pos a with rfl | h'
    · omega
    · exact h'
  have hj : 2 ^ j ≤ t := by rw [e2]; exact Nat.le_mul_of_pos_right _ ha
  have hjn : j < n := by
    rcases Nat.lt_or_ge j n with h' | h'
    · exact h'
    · exact absurd (Nat.lt_of_le_of_lt hj h) (Nat.not_lt.mpr (Nat.pow_le_pow_right (by decide) h'))
  have en : 2 ^ n = 2 ^ j * 2 ^ (n - j) := by rw [← Nat.pow_add]; congr 1; omega
  have h3 : a < 2 ^ (n - j) := by
    rw [e2, en] at h
    exact Nat.lt_of_mul_lt_mul_left h
  have h4 : 2 ^ j * (a + 1) ≤ 2 ^ j * 2 ^ (n - j) := Nat.mul_le_mul_left _ h3
  rw [Nat.mul_succ] at h4
  omega
def bcA (x : Int32) : Int32 := x - ((x.toUInt32 >>> ((nI 1).toUInt32 &&& Int32.toUInt32 31)).toInt32 &&& nI 1431655765)
def bcB (x : Int32) : Int32 := (x &&& nI 858993459) + ((x.toUInt32 >>> ((nI 2).toUInt32 &&& Int32.toUInt32 31)).toInt32 &&& nI 858993459)
def bcC (x : Int32) : Int32 := (x + (x.toUInt32 >>> ((nI 4).toUInt32 &&& Int32.toUInt32 31)).toInt32) &&& nI 252645135
def bcD (x : Int32) : Int32 := x + (x.toUInt32 >>> ((nI 8).toUInt32 &&& Int32.toUInt32 31)).toInt32
def bcE (x : Int32) : Int32 := x + (x.toUInt32 >>> ((nI 16).toUInt32 &&& Int32.toUInt32 31)).toInt32
def bcI (x : Int32) : Int32 := bcE (bcD (bcC (bcB (bcA x)))) &&& nI 63
set_option maxRecDepth 20000 in
theorem bcT1 : ∀ a, a < 128 → ∀ b, b < 128 → bcI (nI (a * 128 + b)) = nI (pcN 14 (a * 128 + b)) := by decide +kernel
set_option maxRecDepth 20000 in
theorem bcT2 : ∀ a, a < 128 → ∀ b, b < 128 → 0 < a * 128 + b → (nI (a * 128 + b) &&& -nI (a * 128 + b)) = nI (lbN 14 (a * 128 + b)) := by decide +kernel
theorem bcT {t : Nat} (h : t < 2 ^ 14) : bcI (nI t) = nI (pcN 14 t) := by
  have := bcT1 (t / 128) (by omega) (t % 128) (by omega)
  rwa [show t / 128 * 128 + t % 128 = t by omega] at this
theorem bcL {t : Nat} (h0 : 0 < t) (h : t < 2 ^ 14) : (nI t &&& -nI t) = nI (lbN 14 t) := by
  have := bcT2 (t / 128) (by omega) (t % 128) (by omega) (by omega)
  rwa [show t / 128 * 128 + t % 128 = t by omega] at this
theorem zshlB : ∀ b, b < 15 → (nI 1 <<< (nI b &&& 31)) = nI (2 ^ b) := by decide +kernel
theorem pcN_le : ∀ f t, pcN f t ≤ f
  | 0, _ => Nat.le_refl _
  | f + 1, t => by
    have := pcN_le f (t / 2)
    have h2 := Nat.mod_lt t (show 0 < 2 by decide)
    show t % 2 + pcN f (t / 2) ≤ f + 1
    omega

