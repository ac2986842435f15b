/-! the reference: the whole way is read -/
theorem all_1 {P : Nat → Prop} (h0 : P 0) : ∀ i, i < 1 → P i := fun i hi => by
  have e : i = 0 := by omega
  subst e
  exact h0
theorem all_2 {P : Nat → Prop} (h0 : P 0) (h1 : P 1) : ∀ i, i < 2 → P i := fun i hi => by
  by_cases e : i = 1
  · subst e; exact h1
  · exact all_1 h0 i (by omega)
theorem all_3 {P : Nat → Prop} (h0 : P 0) (h1 : P 1) (h2 : P 2) : ∀ i, i < 3 → P i := fun i hi => by
  by_cases e : i = 2
  · subst e; exact h2
  · exact all_2 h0 h1 i (by omega)
theorem all_4 {P : Nat → Prop} (h0 : P 0) (h1 : P 1) (h2 : P 2) (h3 : P 3) : ∀ i, i < 4 → P i := fun i hi => by
  by_cases e : i = 3
  · subst e; exact h3
  · exact all_3 h0 h1 h2 i (by omega)
theorem nb_0 : nbN 0 = 4 := by decide +kernel
theorem nb_1 : nbN 1 = 1 := by decide +kernel
theorem nb_2 : nbN 2 = 1 := by decide +kernel
theorem nb_3 : nbN 3 = 1 := by decide +kernel
theorem nb_4 : nbN 4 = 2 := by decide +kernel
theorem nb_5 : nbN 5 = 2 := by decide +kernel
theorem nb_6 : nbN 6 = 3 := by decide +kernel
theorem nb_7 : nbN 7 = 2 := by decide +kernel
section
variable {ad : zA} {S : zSh} {I X : zI} {Y : zY} {sz : Nat} {T : Nat → Nat} {z : Nat} {D : DS} {R R0 : RS} {qe : Bool}

theorem st_all (hS : ∀ k, S 0 k = msh 0 k) (h7 : I 0 0 7 = nI z) (hX : ∀ i, i < z → X 0 15 i = nI (T i)) (hz : z ≤ 250) (hT : ∀ i, i < z → T i ≤ 255) {p : Nat} (hp : p ≤ z) (hs : mSt T z p I) (hM : MMe qe (DR D R) I X Y) (hR : ROK R) (hq1 : zQm 1 R0 I X) : (∃ q, (rsN T z R p).1 = some q ∧ zCq mX7_statement 5 [zr 0 0] (some (zi (nI 1))) ad S I X Y sz (fun I1 X1 => mSt T z (tkE T z (rsN T z R p).2.1) I1 ∧ MMe qe (DR D (cyR R q (rsN T z R p).2.2.2)) I1 X1 Y ∧ zQm 1 R0 I1 X1 ∧ I1 0 0 36 = I 0 0 36)) ∨ ((rsN T z R p).1 = none ∧ zCq mX7_statement 5 [zr 0 0] (some (zi (nI 0))) ad S I X Y sz (fun I1 X1 => I1 0 0 34 = nI (tkA T z (rsN T z R p).2.1) ∧ MMe qe (DR D R) I1 X1 Y ∧ zQm 1 R0 I1 X1)) := by
  have hn14 := hR.1
  rcases hw : wqN T z p with _ | q
  · rw [rs_n (Or.inl hw)]
    exact Or.inr ⟨rfl, c_st_n hS h7 hX hz hT hp hs hM hR hq1 hw⟩
  · have hq8 := wstN_lt (wq_e hw).2
    rcases cy_q hq8 with rfl | rfl | rfl | rfl | rfl | rfl | rfl | rfl
    · by_cases hr : R.1 0 < 14
      rotate_left
      · rw [rs_n (Or.inr ⟨0, hw, fun z => hr (z.1 rfl)⟩)]
        exact Or.inr ⟨rfl, c_st_0r hS h7 hX hz hT hp hs hM hR hq1 hw hr⟩
      have hrm : rmP R 0 := ⟨fun _ => hr, fun z => absurd z (by decide), fun z => absurd z (by decide)⟩
      by_cases h0 : cK T z R 0 p 0
      rotate_left
      · rw [rs_f hn14 hw hrm (m := 0) (by rw [nb_0]; decide) (fun i hi => absurd hi (Nat.not_lt_zero _)) h0]
        exact Or.inr ⟨rfl, c_st_0f0 hS h7 hX hz hT hp hs hM hR hq1 hw hr (fun i hi => absurd hi (Nat.not_lt_zero _)) h0⟩
      by_cases h1 : cK T z R 0 p 1
      rotate_left
      · rw [rs_f hn14 hw hrm (m := 1) (by rw [nb_0]; decide) (all_1 (P := cK T z R 0 p) h0) h1]
        exact Or.inr ⟨rfl, c_st_0f1 hS h7 hX hz hT hp hs hM hR hq1 hw hr (all_1 (P := cK T z R 0 p) h0) h1⟩
      by_cases h2 : cK T z R 0 p 2
      rotate_left
      · rw [rs_f hn14 hw hrm (m := 2) (by rw [nb_0]; decide) (all_2 (P := cK T z R 0 p) h0 h1) h2]
        exact Or.inr ⟨rfl, c_st_0f2 hS h7 hX hz hT hp hs hM hR hq1 hw hr (all_2 (P := cK T z R 0 p) h0 h1) h2⟩
      by_cases h3 : cK T z R 0 p 3
      rotate_left
      · rw [rs_f hn14 hw hrm (m := 3) (by rw [nb_0]; decide) (all_3 (P := cK T z R 0 p) h0 h1 h2) h3]
        exact Or.inr ⟨rfl, c_st_0f3 hS h7 hX hz hT hp hs hM hR hq1 hw hr (all_3 (P := cK T z R 0 p) h0 h1 h2) h3⟩
      have hall : ∀ i, i < 4 → cK T z R 0 p i := (all_4 (P := cK T z R 0 p) h0 h1 h2 h3)
      have e := rs_t hn14 hw hrm (fun i hi => hall i (by rw [nb_0] at hi; exact hi))
      rw [nb_0] at e
      rw [e]
      exact Or.inl ⟨0, rfl, c_st_0t hS h7 hX hz hT hp hs hM hR hq1 hw hr hall⟩
    · have hrm : rmP R 1 := ⟨fun z => absurd z (by decide), fun z => absurd z (by decide), fun z => absurd z (by decide)⟩
      by_cases h0 : cK T z R 1 p 0
      rotate_left
      · rw [rs_f hn14 hw hrm (m := 0) (by rw [nb_1]; decide) (fun i hi => absurd hi (Nat.not_lt_zero _)) h0]
        exact Or.inr ⟨rfl, c_st_1f0 hS h7 hX hz hT hp hs hM hR hq1 hw (fun i hi => absurd hi (Nat.not_lt_zero _)) h0⟩
      have hall : ∀ i, i < 1 → cK T z R 1 p i := (all_1 (P := cK T z R 1 p) h0)
      have e := rs_t hn14 hw hrm (fun i hi => hall i (by rw [nb_1] at hi; exact hi))
      rw [nb_1] at e
      rw [e]
      exact Or.inl ⟨1, rfl, c_st_1t hS h7 hX hz hT hp hs hM hR hq1 hw hall⟩
    · have hrm : rmP R 2 := ⟨fun z => absurd z (by decide), fun z => absurd z (by decide), fun z => absurd z (by decide)⟩
      by_cases h0 : cK T z R 2 p 0
      rotate_left
      · rw [rs_f hn14 hw hrm (m := 0) (by rw [nb_2]; decide) (fun i hi => absurd hi (Nat.not_lt_zero _)) h0]
        exact Or.inr ⟨rfl, c_st_2f0 hS h7 hX hz hT hp hs hM hR hq1 hw (fun i hi => absurd hi (Nat.not_lt_zero _)) h0⟩
      have hall : ∀ i, i < 1 → cK T z R 2 p i := (all_1 (P := cK T z R 2 p) h0)
      have e := rs_t hn14 hw hrm (fun i hi => hall i (by rw [nb_2] at hi; exact hi))
      rw [nb_2] at e
      rw [e]
      exact Or.inl ⟨2, rfl, c_st_2t hS h7 hX hz hT hp hs hM hR hq1 hw hall⟩
    · have hrm : rmP R 3 := ⟨fun z => absurd z (by decide), fun z => absurd z (by decide), fun z => absurd z (by decide)⟩
      by_cases h0 : cK T z R 3 p 0
      rotate_left
      · rw [rs_f hn14 hw hrm (m := 0) (by rw [nb_3]; decide) (fun i hi => absurd hi (Nat.not_lt_zero _)) h0]
        exact Or.inr ⟨rfl, c_st_3f0 hS h7 hX hz hT hp hs hM hR hq1 hw (fun i hi => absurd hi (Nat.not_lt_zero _)) h0⟩
      have hall : ∀ i, i < 1 → cK T z R 3 p i := (all_1 (P := cK T z R 3 p) h0)
      have e := rs_t hn14 hw hrm (fun i hi => hall i (by rw [nb_3] at hi; exact hi))
      rw [nb_3] at e
      rw [e]
      exact Or.inl ⟨3, rfl, c_st_3t hS h7 hX hz hT hp hs hM hR hq1 hw hall⟩
    · by_cases hr : R.1 1 < 8
      rotate_left
      · rw [rs_n (Or.inr ⟨4, hw, fun z => hr (z.2.1 (Or.inl rfl))⟩)]
        exact Or.inr ⟨rfl, c_st_4r hS h7 hX hz hT hp hs hM hR hq1 hw hr⟩
      have hrm : rmP R 4 := ⟨fun z => absurd z (by decide), fun _ => hr, fun z => absurd z (by decide)⟩
      by_cases h0 : cK T z R 4 p 0
      rotate_left
      · rw [rs_f hn14 hw hrm (m := 0) (by rw [nb_4]; decide) (fun i hi => absurd hi (Nat.not_lt_zero _)) h0]
        exact Or.inr ⟨rfl, c_st_4f0 hS h7 hX hz hT hp hs hM hR hq1 hw hr (fun i hi => absurd hi (Nat.not_lt_zero _)) h0⟩
      by_cases h1 : cK T z R 4 p 1
      rotate_left
      · rw [rs_f hn14 hw hrm (m := 1) (by rw [nb_4]; decide) (all_1 (P := cK T z R 4 p) h0) h1]
        exact Or.inr ⟨rfl, c_st_4f1 hS h7 hX hz hT hp hs hM hR hq1 hw hr (all_1 (P := cK T z R 4 p) h0) h1⟩
      have hall : ∀ i, i < 2 → cK T z R 4 p i := (all_2 (P := cK T z R 4 p) h0 h1)
      have e := rs_t hn14 hw hrm (fun i hi => hall i (by rw [nb_4] at hi; exact hi))
      rw [nb_4] at e
      rw [e]
      exact Or.inl ⟨4, rfl, c_st_4t hS h7 hX hz hT hp hs hM hR hq1 hw hr hall⟩
    · by_cases hr : R.1 1 < 8
      rotate_left
      · rw [rs_n (Or.inr ⟨5, hw, fun z => hr (z.2.1 (Or.inr rfl))⟩)]
        exact Or.inr ⟨rfl, c_st_5r hS h7 hX hz hT hp hs hM hR hq1 hw hr⟩
      have hrm : rmP R 5 := ⟨fun z => absurd z (by decide), fun _ => hr, fun z => absurd z (by decide)⟩
      by_cases h0 : cK T z R 5 p 0
      rotate_left
      · rw [rs_f hn14 hw hrm (m := 0) (by rw [nb_5]; decide) (fun i hi => absurd hi (Nat.not_lt_zero _)) h0]
        exact Or.inr ⟨rfl, c_st_5f0 hS h7 hX hz hT hp hs hM hR hq1 hw hr (fun i hi => absurd hi (Nat.not_lt_zero _)) h0⟩
      by_cases h1 : cK T z R 5 p 1
      rotate_left
      · rw [rs_f hn14 hw hrm (m := 1) (by rw [nb_5]; decide) (all_1 (P := cK T z R 5 p) h0) h1]
        exact Or.inr ⟨rfl, c_st_5f1 hS h7 hX hz hT hp hs hM hR hq1 hw hr (all_1 (P := cK T z R 5 p) h0) h1⟩
      have hall : ∀ i, i < 2 → cK T z R 5 p i := (all_2 (P := cK T z R 5 p) h0 h1)
      have e := rs_t hn14 hw hrm (fun i hi => hall i (by rw [nb_5] at hi; exact hi))
      rw [nb_5] at e
      rw [e]
      exact Or.inl ⟨5, rfl, c_st_5t hS h7 hX hz hT hp hs hM hR hq1 hw hr hall⟩
    · by_cases hr : R.1 2 < 6
      rotate_left
      · rw [rs_n (Or.inr ⟨6, hw, fun z => hr (z.2.2 rfl)⟩)]
        exact Or.inr ⟨rfl, c_st_6r hS h7 hX hz hT hp hs hM hR hq1 hw hr⟩
      have hrm : rmP R 6 := ⟨fun z => absurd z (by decide), fun z => absurd z (by decide), fun _ => hr⟩
      by_cases h0 : cK T z R 6 p 0
      rotate_left
      · rw [rs_f hn14 hw hrm (m := 0) (by rw [nb_6]; decide) (fun i hi => absurd hi (Nat.not_lt_zero _)) h0]
        exact Or.inr ⟨rfl, c_st_6f0 hS h7 hX hz hT hp hs hM hR hq1 hw hr (fun i hi => absurd hi (Nat.not_lt_zero _)) h0⟩
      by_cases h1 : cK T z R 6 p 1
      rotate_left
      · rw [rs_f hn14 hw hrm (m := 1) (by rw [nb_6]; decide) (all_1 (P := cK T z R 6 p) h0) h1]
        exact Or.inr ⟨rfl, c_st_6f1 hS h7 hX hz hT hp hs hM hR hq1 hw hr (all_1 (P := cK T z R 6 p) h0) h1⟩
      by_cases h2 : cK T z R 6 p 2
      rotate_left
      · rw [rs_f hn14 hw hrm (m := 2) (by rw [nb_6]; decide) (all_2 (P := cK T z R 6 p) h0 h1) h2]
        exact Or.inr ⟨rfl, c_st_6f2 hS h7 hX hz hT hp hs hM hR hq1 hw hr (all_2 (P := cK T z R 6 p) h0 h1) h2⟩
      have hall : ∀ i, i < 3 → cK T z R 6 p i := (all_3 (P := cK T z R 6 p) h0 h1 h2)
      have e := rs_t hn14 hw hrm (fun i hi => hall i (by rw [nb_6] at hi; exact hi))
      rw [nb_6] at e
      rw [e]
      exact Or.inl ⟨6, rfl, c_st_6t hS h7 hX hz hT hp hs hM hR hq1 hw hr hall⟩
    · have hrm : rmP R 7 := ⟨fun z => absurd z (by decide), fun z => absurd z (by decide), fun z => absurd z (by decide)⟩
      by_cases h0 : cK T z R 7 p 0
      rotate_left
      · rw [rs_f hn14 hw hrm (m := 0) (by rw [nb_7]; decide) (fun i hi => absurd hi (Nat.not_lt_zero _)) h0]
        exact Or.inr ⟨rfl, c_st_7f0 hS h7 hX hz hT hp hs hM hR hq1 hw (fun i hi => absurd hi (Nat.not_lt_zero _)) h0⟩
      by_cases h1 : cK T z R 7 p 1
      rotate_left
      · rw [rs_f hn14 hw hrm (m := 1) (by rw [nb_7]; decide) (all_1 (P := cK T z R 7 p) h0) h1]
        exact Or.inr ⟨rfl, c_st_7f1 hS h7 hX hz hT hp hs hM hR hq1 hw (all_1 (P := cK T z R 7 p) h0) h1⟩
      have hall : ∀ i, i < 2 → cK T z R 7 p i := (all_2 (P := cK T z R 7 p) h0 h1)
      have e := rs_t hn14 hw hrm (fun i hi => hall i (by rw [nb_7] at hi; exact hi))
      rw [nb_7] at e
      rw [e]
      exact Or.inl ⟨7, rfl, c_st_7t hS h7 hX hz hT hp hs hM hR hq1 hw hall⟩

end
section
variable {ad : zA} {S : zSh} {I X : zI} {Y : zY} {sz : Nat} {D : DS} {qe : Bool}

theorem c_readAll (hS : ∀ k, S 0 k = msh 0 k) (hO : DOK D) (hM : MMe qe D I X Y) (hq1 : zQm 1 D.1 I X) : zCx mX7_readAll 6 0 0 [zr 0 0] ad S I X Y sz (fun v1 S1 I1 X1 Y1 sz1 => S1 = S ∧ Y1 = Y ∧ sz1 = sz ∧ zQm 1 D.1 I1 X1 ∧ ((v1 = some (zi (nI 1)) ∧ ¬ (riN D.2.2.1.1 D.2.2.1.2 250 1 D.1 0).1 < 0 ∧ I1 0 0 36 = (riN D.2.2.1.1 D.2.2.1.2 250 1 D.1 0).1 ∧ MMe qe (DR D (riN D.2.2.1.1 D.2.2.1.2 250 1 D.1 0).2) I1 X1 Y) ∨ (v1 = some (zi (nI 0)) ∧ (riN D.2.2.1.1 D.2.2.1.2 250 1 D.1 0).1 < 0 ∧ (riN D.2.2.1.1 D.2.2.1.2 250 1 D.1 0).1 = -20 - I1 0 0 34 ∧ ∃ R', MMe qe (DR D R') I1 X1 Y))) := by
  refine zgoX (own := RX7) (k := 0) (by decide +kernel) rfl rfl rfl (fun C hC hnm hE => ?_)
  have hR0 := hO.1
  have hz := hO.2.2.1.1
  have hT := hO.2.2.1.2
  have hX : ∀ i, i < D.2.2.1.2 → X 0 15 i = nI (D.2.2.1.1 i) := hM.2.2.2.2.1.2
  have h7 : (up3 (up3 I 0 0 36 (nI 1)) 0 0 30 (nI 0)) 0 0 7 = nI D.2.2.1.2 := (up3_ne (by omega)).trans ((up3_ne (by omega)).trans hM.2.2.2.2.1.1)
  have h7b : (mTM D.2.2.1.1 D.2.2.1.2 (up3 (up3 I 0 0 36 (nI 1)) 0 0 30 (nI 0)) 0) 0 0 7 = nI D.2.2.1.2 := (mTM_ne (by omega)).trans h7
  have hst0 : MMe qe (DR D D.1) (mTM D.2.2.1.1 D.2.2.1.2 (up3 (up3 I 0 0 36 (nI 1)) 0 0 30 (nI 0)) 0) X Y ∧ zQm 1 D.1 (mTM D.2.2.1.1 D.2.2.1.2 (up3 (up3 I 0 0 36 (nI 1)) 0 0 30 (nI 0)) 0) X := st_any (D := D) (R := D.1) hM hq1 (fun b k j h => (mTM_ne (by omega)).trans ((up3_ne (by omega)).trans (up3_ne (by omega)))) (fun _ _ _ _ => rfl)
  have ha0 := rsN_le (T := D.2.2.1.1) (z := D.2.2.1.2) (R := D.1) (Nat.zero_le D.2.2.1.2)
  have ha1 := tk_le (T := D.2.2.1.1) ha0.2
  refine z_aload_n hC dX7_readAll_0 rfl ?_
  refine z_iconst hC dX7_readAll_1 (v := nI 1) rfl ?_
  refine z_putI hC dX7_readAll_2 (hS _) zfX7_248 rfl rfl rfl rfl ?_
  refine z_aload_n hC dX7_readAll_5 rfl ?_
  refine z_iconst hC dX7_readAll_6 (v := nI 0) rfl ?_
  refine z_putI hC dX7_readAll_7 (hS _) zfX7_176 rfl rfl rfl rfl ?_
  refine z_aload_n hC dX7_readAll_10 rfl ?_
  refine wV0 hC dX7_readAll_11 zlX7_212 (c_X7_token hS h7 hX hz hT (up3_eq _ _ _ _ _) (Nat.zero_le _)) (hS _) rfl rfl rfl rfl rfl rfl ⟨rfl, rfl⟩ ?_
  refine z_aload_n hC dX7_readAll_14 rfl ?_
  rcases st_all hS h7b hX hz hT (Nat.zero_le _) mTM_st hst0.1 hR0 hst0.2 with ⟨q, hr, hc⟩ | ⟨hr, hc⟩
  · skip
    refine qVv hC dX7_readAll_15 zlX7_251 hc (hS _) rfl rfl rfl rfl rfl rfl ⟨rfl, rfl⟩ (fun I2 X2 hsj => ?_)
    refine z_nif_ne hC dX7_readAll_18 (tgt := 23) (by decide) (by omega) (fun c18 => ?_) (fun c18 => ?_)
    rotate_left
    · exact absurd c18 (by decide)
    have loop23 : ∀ (fuel : Nat) (f k : Nat) (R : RS) (p q : Nat) (I1 X1 : zI), f < fuel → k + f = 250 → p ≤ D.2.2.1.2 → D.2.2.1.2 < p + 2 * (f + 1) → ROK R → (rsN D.2.2.1.1 D.2.2.1.2 R p).1 = some q → riN D.2.2.1.1 D.2.2.1.2 (f + 1) k R p = (riN D.2.2.1.1 D.2.2.1.2 250 1 D.1 0) → mSt D.2.2.1.1 D.2.2.1.2 (tkE D.2.2.1.1 D.2.2.1.2 (rsN D.2.2.1.1 D.2.2.1.2 R p).2.1) I1 → MMe qe (DR D (cyR R q (rsN D.2.2.1.1 D.2.2.1.2 R p).2.2.2)) I1 X1 Y → zQm 1 D.1 I1 X1 → I1 0 0 36 = nI k → zL C 1 ad S 0 0 sz I1 X1 Y 23 [some (zr 0 0)] [] := by
      intro fuel
      induction fuel with
      | zero => intro f k R p q I1 X1 hfu; exact absurd hfu (Nat.not_lt_zero _)
      | succ fuel ih =>
        intro f k R p q I1 X1 hfu hkf hpz hpf hR hri1 hri hsi hMi hq1i h36i
        have hok := rsN_ok hri1
        have htk0 := tk_le (T := D.2.2.1.1) hpz
        have hle := rsN_le (T := D.2.2.1.1) (R := R) hpz
        have htk1 := tk_le (T := D.2.2.1.1) hle.2
        have htk2 := tk_le (T := D.2.2.1.1) htk1.2.2.1
        have htk3 := tk_le (T := D.2.2.1.1) htk2.2.2.1
        have hsb : tkS D.2.2.1.1 D.2.2.1.2 (tkE D.2.2.1.1 D.2.2.1.2 (rsN D.2.2.1.1 D.2.2.1.2 R p).2.1) ≤ 4 := tkS_le
        have h7i : I1 0 0 7 = nI D.2.2.1.2 := hMi.2.2.2.2.1.1
        have hXi : ∀ i, i < D.2.2.1.2 → X1 0 15 i = nI (D.2.2.1.1 i) := hMi.2.2.2.2.1.2
        have hR2 : ROK (cyR R q (rsN D.2.2.1.1 D.2.2.1.2 R p).2.2.2) := cy_ROK hR hok.1 hok.2.1 hok.2.2.1
        have hle2 := rsN_le (T := D.2.2.1.1) (R := (cyR R q (rsN D.2.2.1.1 D.2.2.1.2 R p).2.2.2)) htk2.2.2.1
        have htk4 := tk_le (T := D.2.2.1.1) hle2.2
        have hst1 : MMe qe (DR D (cyR R q (rsN D.2.2.1.1 D.2.2.1.2 R p).2.2.2)) (mTM D.2.2.1.1 D.2.2.1.2 I1 (tkE D.2.2.1.1 D.2.2.1.2 (tkE D.2.2.1.1 D.2.2.1.2 (rsN D.2.2.1.1 D.2.2.1.2 R p).2.1))) X1 Y ∧ zQm 1 D.1 (mTM D.2.2.1.1 D.2.2.1.2 I1 (tkE D.2.2.1.1 D.2.2.1.2 (tkE D.2.2.1.1 D.2.2.1.2 (rsN D.2.2.1.1 D.2.2.1.2 R p).2.1))) X1 := st_any hMi hq1i (fun b k j h => mTM_ne (by omega)) (fun _ _ _ _ => rfl)
        refine z_aload_n hC dX7_readAll_23 rfl ?_
        refine z_getN hC dX7_readAll_24 (hS _) zfX7_185 rfl hsi.2.1 ?_
        refine z_nif_eq hC dX7_readAll_27 (tgt := 69) (by decide) (by omega) (fun c27 => ?_) (fun c27 => ?_)
        · skip
          refine z_iconst hC dX7_readAll_69 (v := nI 1) rfl ?_
          refine z_zret hC dX7_readAll_70 rfl ?_
          have he := riN_e (f := f) (k := k) hri1 c27
          rw [hri] at he
          exact (hE (some (zi (nI 1))) S _ _ Y sz ⟨rfl, rfl, rfl, hq1i, Or.inl ⟨rfl, by rw [he]; exact Int32.not_lt.mpr (nI_pos' (by omega)), by rw [he]; exact h36i, by rw [he]; exact hMi⟩⟩).to rfl rfl rfl rfl
        refine z_aload_n hC dX7_readAll_30 rfl ?_
        refine z_getN hC dX7_readAll_31 (hS _) zfX7_185 rfl hsi.2.1 ?_
        refine z_iconst hC dX7_readAll_34 (v := nI 3) rfl ?_
        refine z_nicmp_eq hC dX7_readAll_35 (tgt := 43) (by decide) (by omega) (by omega) (fun c35 => ?_) (fun c35 => ?_)
        · skip
          have hp1 : p + 1 ≤ (tkE D.2.2.1.1 D.2.2.1.2 (rsN D.2.2.1.1 D.2.2.1.2 R p).2.1) := by
            by_cases e : (rsN D.2.2.1.1 D.2.2.1.2 R p).2.1 = p
            · rw [e]; have h0 := htk0.2.2.2.1 (by omega); omega
            · omega
          have hp2 := htk2.2.2.2.1 (by omega)
          obtain ⟨f1, hf⟩ : ∃ f1, f = f1 + 1 := ⟨f - 1, by omega⟩
          refine z_aload_n hC dX7_readAll_43 rfl ?_
          refine wV0 hC dX7_readAll_44 zlX7_212 (c_X7_token hS h7i hXi hz hT hsi.1 htk2.2.2.1) (hS _) rfl rfl rfl rfl rfl rfl ⟨rfl, rfl⟩ ?_
          refine z_aload_n hC dX7_readAll_47 rfl ?_
          rcases st_all hS ((mTM_ne (by omega)).trans h7i) hXi hz hT htk2.2.2.1 mTM_st hst1.1 hR2 hst1.2 with ⟨q2, hr2, hc2⟩ | ⟨hr2, hc2⟩
          · skip
            refine qVv hC dX7_readAll_48 zlX7_251 hc2 (hS _) rfl rfl rfl rfl rfl rfl ⟨rfl, rfl⟩ (fun I2 X2 hsj => ?_)
            refine z_nif_ne hC dX7_readAll_51 (tgt := 56) (by decide) (by omega) (fun c51 => ?_) (fun c51 => ?_)
            rotate_left
            · exact absurd c51 (by decide)
            refine z_aload_n hC dX7_readAll_56 rfl ?_
            refine z_dup hC dX7_readAll_57 rfl ?_
            refine z_getN hC dX7_readAll_58 (hS _) zfX7_248 rfl (hsj.2.2.2.trans ((mTM_ne (by omega)).trans h36i)) ?_
            refine z_iconst hC dX7_readAll_61 (v := nI 1) rfl ?_
            refine z_nadd hC dX7_readAll_62  ?_
            refine z_putI hC dX7_readAll_63 (hS _) zfX7_248 rfl rfl rfl rfl ?_
            have hst2 := st_any (I1 := up3 I2 0 0 36 (nI (k + 1))) (X1 := X2) hsj.2.1 hsj.2.2.1 (fun b k j h => up3_ne (by omega)) (fun _ _ _ _ => rfl)
            refine z_goto hC dX7_readAll_66 (tgt := 23) (by decide) ?_
            exact ih f1 (k + 1) _ _ q2 _ _ (by omega) (by omega) htk2.2.2.1 (by omega) hR2 hr2 (by rw [← hri, riN_s hri1 c35, hf]) ⟨(up3_ne (by omega)).trans hsj.1.1, (up3_ne (by omega)).trans hsj.1.2.1, (up3_ne (by omega)).trans hsj.1.2.2.1, (up3_ne (by omega)).trans hsj.1.2.2.2⟩ hst2.1 hst2.2 (up3_eq _ _ _ _ _)
          · skip
            refine qVv hC dX7_readAll_48 zlX7_251 hc2 (hS _) rfl rfl rfl rfl rfl rfl ⟨rfl, rfl⟩ (fun I2 X2 hsj => ?_)
            refine z_nif_ne hC dX7_readAll_51 (tgt := 56) (by decide) (by omega) (fun c51 => ?_) (fun c51 => ?_)
            · exact absurd c51 (by decide)
            refine z_iconst hC dX7_readAll_54 (v := nI 0) rfl ?_
            refine z_zret hC dX7_readAll_55 rfl ?_
            exact (hE (some (zi (nI 0))) S _ _ Y sz ⟨rfl, rfl, rfl, hsj.2.2, Or.inr ⟨rfl, (by rw [← hri, riN_s hri1 c35, hf, riN_n hr2]; exact zneg20 (by omega)), (by rw [← hri, riN_s hri1 c35, hf, riN_n hr2, hsj.1]), ⟨_, hsj.2.1⟩⟩⟩).to rfl rfl rfl rfl
        refine z_aload_n hC dX7_readAll_38 rfl ?_
        refine wVv hC dX7_readAll_39 zlX7_208 (c_X7_wrong hS hsi.2.2.1) (hS _) rfl rfl rfl rfl rfl rfl ⟨rfl, rfl⟩ ?_
        refine z_zret hC dX7_readAll_42 rfl ?_
        have he := riN_x (f := f) (k := k) hri1 c27 c35
        rw [hri] at he
        have hst2 := st_any (I1 := up3 I1 0 0 34 (nI (tkA D.2.2.1.1 D.2.2.1.2 (tkE D.2.2.1.1 D.2.2.1.2 (rsN D.2.2.1.1 D.2.2.1.2 R p).2.1)))) (X1 := X1) hMi hq1i (fun b k j h => up3_ne (by omega)) (fun _ _ _ _ => rfl)
        exact (hE (some (zi (nI 0))) S _ _ Y sz ⟨rfl, rfl, rfl, hst2.2, Or.inr ⟨rfl, (by rw [he]; exact zneg20 (by omega)), (by rw [he, up3_eq]), ⟨_, hst2.1⟩⟩⟩).to rfl rfl rfl rfl
    exact loop23 _ 249 1 D.1 0 q I2 X2 (Nat.lt_succ_self _) rfl (Nat.zero_le _) (by omega) hR0 hr rfl hsj.1 hsj.2.1 hsj.2.2.1 (hsj.2.2.2.trans ((mTM_ne (by omega)).trans ((up3_ne (by omega)).trans (up3_eq _ _ _ _ _))))
  · skip
    refine qVv hC dX7_readAll_15 zlX7_251 hc (hS _) rfl rfl rfl rfl rfl rfl ⟨rfl, rfl⟩ (fun I2 X2 hsj => ?_)
    refine z_nif_ne hC dX7_readAll_18 (tgt := 23) (by decide) (by omega) (fun c18 => ?_) (fun c18 => ?_)
    · exact absurd c18 (by decide)
    refine z_iconst hC dX7_readAll_21 (v := nI 0) rfl ?_
    refine z_zret hC dX7_readAll_22 rfl ?_
    exact (hE (some (zi (nI 0))) S _ _ Y sz ⟨rfl, rfl, rfl, hsj.2.2, Or.inr ⟨rfl, (by rw [riN_n hr]; exact zneg20 (by omega)), (by rw [riN_n hr, hsj.1]), ⟨_, hsj.2.1⟩⟩⟩).to rfl rfl rfl rfl

end
