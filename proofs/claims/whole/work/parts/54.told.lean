/-! told rows: what it is to have no wrong piece -/
theorem wpF_none {f : Nat → Int64} {c : Int64} : ∀ (k i : Nat) (v : Int64), 0 ≤ v → wpF f c k i v = none → ∀ t, i ≤ t → t < i + k → 0 ≤ f t ∧ f t < c ∧ (if t = i then v else f (t - 1)) ≤ f t
  | 0, i, v, _, _, t, h1, h2 => absurd h2 (by omega)
  | k + 1, i, v, h0, h, t, h1, h2 => by
    by_cases hc : f i < v ∨ c ≤ f i
    · rw [wpF_1 hc] at h; cases h
    · rw [wpF_0 hc] at h
      have h3 : v ≤ f i := Int64.not_lt.mp (fun z => hc (Or.inl z))
      have h4 : f i < c := Int64.not_le.mp (fun z => hc (Or.inr z))
      have h5 : 0 ≤ f i := Int64.le_trans h0 h3
      by_cases e : t = i
      · subst e
        rw [if_pos rfl]
        exact ⟨h5, h4, h3⟩
      · have h6 := wpF_none k (i + 1) (f i) h5 h t (by omega) (by omega)
        rw [if_neg e]
        refine ⟨h6.1, h6.2.1, ?_⟩
        have h7 := h6.2.2
        by_cases e2 : t = i + 1
        · rw [if_pos e2] at h7
          rw [e2] at h7 ⊢
          exact h7
        · rw [if_neg e2] at h7
          exact h7

