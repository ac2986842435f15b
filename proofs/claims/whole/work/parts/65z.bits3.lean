/-! t and t - 1 -/
set_option maxRecDepth 20000 in
theorem bcT3 : ∀ a, a < 128 → ∀ b, b < 128 → 0 < a * 128 + b → (nI (a * 128 + b) &&& (nI (a * 128 + b) - nI 1)) = nI ((a * 128 + b) &&& (a * 128 + b - 1)) ∧ pcN 14 ((a * 128 + b) &&& (a * 128 + b - 1)) + 1 = pcN 14 (a * 128 + b) := by decide +kernel
theorem bcS {t : Nat} (h0 : 0 < t) (h : t < 2 ^ 14) : (nI t &&& (nI t - nI 1)) = nI (t &&& (t - 1)) ∧ pcN 14 (t &&& (t - 1)) + 1 = pcN 14 t ∧ t &&& (t - 1) < t := by
  have h1 := bcT3 (t / 128) (by omega) (t % 128) (by omega) (by omega)
  rw [show t / 128 * 128 + t % 128 = t by omega] at h1
  refine ⟨h1.1, h1.2, ?_⟩
  have := @Nat.and_le_right t (t - 1)
  omega
theorem bcN0 {t : Nat} (h : t < 2 ^ 14) : pcN 14 t = 0 → t = 0 := by
  intro h1
  rcases Nat.eq_zero_or_pos t with h0 | h0
  · exact h0
  · have := (bcS h0 h).2.1; omega
