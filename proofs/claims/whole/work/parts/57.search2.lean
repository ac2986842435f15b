/-! OnTheRoof: search together -/
theorem sr_congr {R : RS} {f g : Nat → Int64} (k : Nat) (h : ∀ t, t < k → f t = g t) : srM (R.2.1 4) f k = srM (R.2.1 4) g k ∧ srT R f k = srT R g k ∧ srF R f k = srF R g k := by
  induction k with
  | zero => exact ⟨rfl, Eq.trans (show srT R f 0 = 0 from rfl) (show (0 : Nat) = srT R g 0 from rfl), Eq.trans (show srF R f 0 = 0 from rfl) (show (0 : Nat) = srF R g 0 from rfl)⟩
  | succ k ih =>
    obtain ⟨h1, h2, h3⟩ := ih (fun t ht => h t (by omega))
    have hk := h k (Nat.lt_succ_self _)
    have eb : srB f k = srB g k := congrArg (fun x => lnn x / 10) hk
    have el : srL f k = srL g k := congrArg (fun x => lnn x % 10) hk
    refine ⟨?_, ?_, ?_⟩
    · show (fun i => if i = srB f k then missN (srM (R.2.1 4) f k (srB f k)) (srL f k) else srM (R.2.1 4) f k i) = (fun i => if i = srB g k then missN (srM (R.2.1 4) g k (srB g k)) (srL g k) else srM (R.2.1 4) g k i)
      rw [h1, eb, el]
    · show srT R f k + secN (R.2.1 2 (srB f k)) (srL f k) = srT R g k + secN (R.2.1 2 (srB g k)) (srL g k)
      rw [h2, eb, el]
    · show srF R f k + fbN (wtN (signW R (R.1 1)) (srM (R.2.1 4) f k)) (srB f k) (srL f k) = srF R g k + fbN (wtN (signW R (R.1 1)) (srM (R.2.1 4) g k)) (srB g k) (srL g k)
      rw [h3, h1, eb, el]
section
variable {ad : zA} {S : zSh} {I X : zI} {Y : zY} {sz : Nat} {D : DS}

theorem o_search (hD : ∀ k, S 3 k = dsh k) (hO : DOK D) (hM : DMe D I X Y) {x y u : Int32} : dC mX6_search 7 [zr 3 0, zi x, zi y, zi u] (some (zi (searchS D x y u).1)) (searchS D x y u).2 ad S I X Y sz := by
  have hn14 := hO.1.1
  unfold searchS tolN
  by_cases hx : inB x 8
  · obtain ⟨s, hs, rfl, e1⟩ := inB_e hx (by decide)
    by_cases hu : iw u 0 1
    · rw [if_pos hu, if_pos hx, e1]
      obtain ⟨u, -, hu1, rfl, e3⟩ := iw_e hu (by decide) (by decide)
      rw [e3]
      by_cases hy : inB y 41
      · rw [if_pos hy]
        obtain ⟨m, hm1, rfl, e2⟩ := inB_e hy (by decide)
        rw [e2]
        obtain ⟨-, hn, hel⟩ := hM.2.2.2.2.1 s hs
        have hn40 := (hO.2.2.2 s hs).1
        rcases sh_st hO hM hs with ⟨h1, h2⟩ | ⟨q, hq, h1, h2⟩ | ⟨b, hb, h1, h2⟩
        · rw [h1]
          exact ⟨_, _, _, hM.rf (by decide), e_search_n hD hO hM hs (by omega) h2 hu1⟩
        · rw [h1]
          dsimp only
          rw [if_neg (by omega)]
          by_cases hmn : m ≤ D.2.2.2.1.2.1 s
          · rw [if_pos hmn]
            dsimp only
            have hel2 : ∀ t, t < m → Y 3 (36 + 2 * s) t = D.2.2.2.1.2.2 s t := fun t ht => hel t (by omega)
            obtain ⟨c1, c2, c3⟩ := sr_congr (R := D.1) m hel2
            by_cases hw : allT (D.2.2.2.1.2.2 s) (D.1.1 0) m = true
            · rw [if_pos hw, ← c2, ← c3]
              exact ⟨_, _, _, hM.wg.rowm, e_search_t hD hO hM hs (by omega) hq h2 hn hn40 hmn hu1 (fun t ht => by rw [hel2 t ht]; exact allT_iff.mp hw t ht)⟩
            · rw [if_neg hw]
              exact ⟨_, _, _, hM.rf (by decide), e_search_s hD hO hM hs (by omega) hq h2 hn hn40 hmn hu1 (fun z => hw (allT_iff.mpr (fun t ht => by rw [← hel2 t ht]; exact z t ht)))⟩
          · rw [if_neg hmn]
            exact ⟨_, _, _, hM.rf (by decide), e_search_l hD hO hM hs (by omega) hq h2 hn hn40 (by omega) hu1⟩
        · rw [h1]
          dsimp only
          rw [if_pos (by omega)]
          exact ⟨_, _, _, hM.rf (by decide), e_search_b hD hO hM hs (by omega) (by omega) h2 hu1⟩
      · rw [if_neg hy]
        exact ⟨_, _, _, hM.rf (by decide), e_search_w hD hO hM hs hy hu1⟩
    · rw [if_neg hu]
      exact ⟨_, _, _, hM.rf (by decide), e_search_u hD hO hM hs hu⟩
  · rw [if_neg hx]
    have e : (if iw u 0 1 then (match (some 0 : Option Nat) with
      | some j => bad j D
      | none => if allT (D.2.2.2.1.2.2 (nn x)) (D.1.1 0) (nn y) = true then (if nn u = 0 then nI (srT D.1 (D.2.2.2.1.2.2 (nn x)) (nn y)) else nI (srF D.1 (D.2.2.2.1.2.2 (nn x)) (nn y)), D) else bad 3 D) else bad 0 D) = bad 0 D := by split <;> rfl
    rw [e]
    exact ⟨_, _, _, hM.rf (by decide), e_search_f hD hO hM hx⟩
theorem k_search {D : DS} (h : DOK D) {x y u : Int32} : DOK (searchS D x y u).2 := by
  unfold searchS
  repeat' split
  all_goals exact h
end
