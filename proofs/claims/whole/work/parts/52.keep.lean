/-! what a state may be, behind each call -/
theorem DOK.bad {D : DS} (h : DOK D) {j : Nat} : DOK (bad j D).2 := h
theorem cyR_n {R : RS} {q : Nat} {nm : Nat → Nat} : R.1 0 ≤ (cyR R q nm).1 0 := by
  unfold cyR
  repeat' split
  · exact Nat.le_succ _
  · exact Nat.le_refl _
  · exact Nat.le_refl _
  · exact Nat.le_refl _
  · exact Nat.le_refl _
  · show R.1 0 ≤ if 0 = 3 + (q - 1) then nm 0 else R.1 0
    rw [if_neg (by omega)]
    exact Nat.le_refl _
theorem riN_grow {T : Nat → Nat} {z : Nat} : ∀ (f k : Nat) (R : RS) (p : Nat), R.1 0 ≤ (riN T z f k R p).2.1 0
  | 0, k, R, p => Nat.le_refl _
  | f + 1, k, R, p => by
    rcases ho : (rsN T z R p).1 with _ | q
    · rw [riN_n ho]; exact Nat.le_refl _
    · have hc := cyR_n (R := R) (q := q) (nm := (rsN T z R p).2.2.2)
      by_cases h0 : tkS T z (tkE T z (rsN T z R p).2.1) = 0
      · rw [riN_e ho h0]; exact hc
      · by_cases h3 : tkS T z (tkE T z (rsN T z R p).2.1) = 3
        · rw [riN_s ho h3]; exact Nat.le_trans hc (riN_grow f (k + 1) _ _)
        · rw [riN_x ho h0 h3]; exact hc
theorem k_bend {D : DS} (h : DOK D) {x y u v : Int32} : DOK (bendS D x y u v).2 := by
  have hn14 := h.1.1
  unfold bendS
  split
  · next hc =>
    split
    · exact h
    · next hf =>
      obtain ⟨c0, c1, c2, c3⟩ := hc
      obtain ⟨x, rfl, _, k0, e0⟩ := tkP_e h.1 (by decide) (by decide) c0
      obtain ⟨y, rfl, _, k1, e1⟩ := tkP_e h.1 (by decide) (by decide) c1
      obtain ⟨u, rfl, _, k2, e2⟩ := tkP_e h.1 (by decide) (by decide) c2
      obtain ⟨v, rfl, _, k3, e3⟩ := tkP_e h.1 (by decide) (by decide) c3
      rw [e0, e1, e2, e3]
      unfold tkN at k0 k1 k2 k3
      rw [hiN_n (k := 6) (by decide) (by decide)] at k0
      rw [hiN_n (k := 10) (by decide) (by decide)] at k1
      rw [hiN_n (k := 1000) (by decide) (by decide), show loN (4 * 0 + 2) = 1 by decide] at k2
      rw [hiN_n (k := 1001) (by decide) (by decide)] at k3
      exact h.r (ROK_addB h.1 (by omega) (by omega) (by omega) (by omega) (by omega) (by omega)) (Nat.le_succ _)
  · exact h
theorem k_call {D : DS} (h : DOK D) {x y u : Int32} : DOK (ocallS D x y u).2 := by
  have hn14 := h.1.2.2.1
  unfold ocallS
  split
  · next hc =>
    split
    · exact h
    · next hf =>
      obtain ⟨c0, c1, c2⟩ := hc
      obtain ⟨x, rfl, _, k0, e0⟩ := tkP_e h.1 (by decide) (by decide) c0
      obtain ⟨y, rfl, _, k1, e1⟩ := tkP_e h.1 (by decide) (by decide) c1
      obtain ⟨u, rfl, _, k2, e2⟩ := tkP_e h.1 (by decide) (by decide) c2
      rw [e0, e1, e2]
      unfold tkN at k0 k1 k2
      rw [hiN_L (by decide)] at k0
      rw [hiN_n (k := 100) (by decide) (by decide), show loN (4 * 6 + 1) = 1 by decide] at k1
      rw [hiN_n (k := 101) (by decide) (by decide)] at k2
      exact h.r (ROK_addC h.1 (by omega) k0.2 (by omega) (by omega) (by omega)) (Nat.le_refl _)
  · exact h
theorem k_sign {D : DS} (h : DOK D) {x u : Int32} {q : Nat} (hq : q ≤ 1) : DOK (signS D x q u).2 := by
  have hn14 := h.1.2.1
  unfold signS
  split
  · next hc =>
    split
    · exact h
    · next hf =>
      obtain ⟨c0, c1⟩ := hc
      obtain ⟨x, rfl, _, k0, e0⟩ := tkP_e h.1 (by decide) (by decide) c0
      obtain ⟨u, rfl, _, k1, e1⟩ := tkP_e h.1 (by decide) (by decide) c1
      rw [e0, e1]
      unfold tkN at k0 k1
      rw [hiN_L (by decide)] at k0
      rw [hiN_n (k := 101) (by decide) (by decide)] at k1
      exact h.r (ROK_addS h.1 (by omega) k0.2 hq (by omega)) (Nat.le_refl _)
  · exact h
theorem k_ask {D : DS} (h : DOK D) {x y : Int32} : DOK (askS D x y).2 := by
  unfold askS
  split
  · next hc =>
    obtain ⟨w, -, hw, rfl, e1⟩ := iw_e hc.1 (by decide) (by decide)
    have h0 := hc.2
    rw [e1] at h0 ⊢
    obtain ⟨v, rfl, _, k0, e0⟩ := tkP_e h.1 (by omega) (by decide) h0
    rw [e0]
    refine h.r (ROK_set h.1 (by omega) (fun e => ?_) (fun e => ?_) (fun e => ?_)) ?_
    · subst e
      unfold tkN at k0
      rw [hiN_n (k := 10) (by decide) (by decide), show loN (4 * (1 + 0) + 0) = 1 by decide] at k0
      omega
    · subst e
      unfold tkN at k0
      rw [hiN_n (k := 2) (by decide) (by decide)] at k0
      omega
    · subst e
      unfold tkN at k0
      rw [hiN_n (k := 11) (by decide) (by decide)] at k0
      omega
    · show D.1.1 0 ≤ if 0 = 3 + w then v else D.1.1 0
      rw [if_neg (by omega)]
      exact Nat.le_refl _
  · exact h
theorem k_anew {D : DS} (h : DOK D) : DOK (anewS D).2 := h.r (ROK_forget h.1) (Nat.le_refl _)
theorem k_feed {D : DS} (h : DOK D) {x : Int32} : DOK (feedS D x).2 := by
  unfold feedS
  split
  · next hc =>
    split
    · exact h
    · next hf =>
      obtain ⟨k, -, hk, rfl, e1⟩ := iw_e hc (by decide) (by decide)
      obtain ⟨h1, h2, h3, h4⟩ := h
      refine ⟨h1, h2, ⟨?_, fun i hi => ?_⟩, h4⟩
      · show D.2.2.1.2 + 1 ≤ 250
        omega
      · have hi : i < D.2.2.1.2 + 1 := hi
        show (if i = D.2.2.1.2 then nn (nI k) else D.2.2.1.1 i) ≤ 255
        split
        · rw [e1]; exact hk
        · exact h3.2 i (by omega)
  · exact h
theorem k_wipe {D : DS} (h : DOK D) : DOK (wipeS D).2 := ⟨h.1, h.2.1, ⟨Nat.zero_le _, fun i hi => absurd hi (Nat.not_lt_zero _)⟩, h.2.2.2⟩
theorem k_way {D : DS} (h : DOK D) : DOK (wayS D).2 := by
  have hw : DOK (DT D D.2.2.1.1 0) := k_wipe h
  unfold wayS
  split
  · exact hw.rf
  · exact hw.r (ri_ROK _ _ _ _ h.1) (riN_grow _ _ _ _)
theorem k_lies {D : DS} (h : DOK D) {x : Int32} : DOK (liesS D x).2 := by
  unfold liesS
  split
  · have h1 := h.1
    exact h.r (by unfold ROK at h1 ⊢; exact h1) (Nat.le_refl _)
  · exact h
theorem k_seed {D : DS} (h : DOK D) {x : Int32} : DOK (seedS D x).2 := by
  have h1 := h.1
  exact h.r (by unfold ROK at h1 ⊢; exact h1) (Nat.le_refl _)
theorem k_drive {D : DS} (h : DOK D) : DOK (driveS D).2 := h.r (ROK_drv h.1) (Nat.le_refl _)
theorem k_image {D : DS} (h : DOK D) : DOK (imageS D).2 := ⟨h.1, fun K hK => by cases hK; exact h.1, h.2.2.1, h.2.2.2⟩
theorem k_back {D : DS} (h : DOK D) : DOK (backS D).2 := by
  unfold backS
  rcases hk : D.2.1 with _ | K
  · exact h
  · obtain ⟨h1, h2, h3, h4⟩ := h
    refine ⟨h2 K hk, fun K1 hK1 => by cases hK1; exact h2 K hk, h3, fun s hs => ⟨(h4 s hs).1, fun q hq => ?_⟩⟩
    have hq : bkH (K.1 0) D.2.2.2.1.1 s = some q := hq
    have h5 := (h4 s hs).2
    unfold bkH at hq
    rcases hs2 : D.2.2.2.1.1 s with _ | q2
    · rw [hs2] at hq; cases hq
    · rw [hs2] at hq
      dsimp only at hq
      split at hq
      · cases hq
      · cases hq
        have := h5 q hs2
        show q ≤ 4 ∨ 10 ≤ q ∧ q < 10 + K.1 0
        omega

