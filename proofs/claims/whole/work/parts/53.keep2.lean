/-! what a state may be, behind each call: the rest -/
theorem DOK.sh {D : DS} (h : DOK D) {hh : Nat → Option Nat} {n : Nat → Nat} {el : Nat → Nat → Int64} (h1 : ∀ s, s < 8 → n s ≤ 40 ∧ ∀ q, hh s = some q → q ≤ 4 ∨ 10 ≤ q ∧ q < 10 + D.1.1 0) : DOK (DH D hh n el) := ⟨h.1, h.2.1, h.2.2.1, h1⟩
theorem k_row {D : DS} (h : DOK D) {x y u : Int32} : DOK (rowS D x y u).2 := by
  unfold rowS
  split
  · next hc =>
    obtain ⟨y, -, hy, rfl, e2⟩ := iw_e hc.2.1 (by decide) (by decide)
    obtain ⟨u, -, hu, rfl, e3⟩ := iw_e hc.2.2 (by decide) (by decide)
    rw [e2, e3]
    refine h.sh (fun s hs => ?_)
    unfold upS
    split
    · exact ⟨hu, fun q hq => by cases hq; exact Or.inl hy⟩
    · exact h.2.2.2 s hs
  · exact h
theorem k_set {D : DS} (h : DOK D) {x y : Int32} {v : Int64} : DOK (setS D x y v).2 := by
  unfold setS
  repeat' split
  all_goals first | exact h | exact h.sh (fun s hs => h.2.2.2 s hs)
theorem k_copy {D : DS} (h : DOK D) {x y i j m : Int32} : DOK (copyS D x y i j m).2 := by
  unfold copyS
  repeat' split
  all_goals first | exact h | exact h.sh (fun s hs => h.2.2.2 s hs)
theorem k_show {D : DS} (h : DOK D) {x y : Int32} : DOK (showS D x y).2 := by
  have hn14 := h.1.1
  unfold showS
  split
  · next hc =>
    refine h.sh (fun s hs => ⟨(h.2.2.2 s hs).1, fun q hq => ?_⟩)
    unfold upS at hq
    split at hq
    · split at hq
      · cases hq
      · next hy =>
        obtain ⟨b, hb, rfl, e2⟩ := inB_e (hc.2.resolve_left hy) (by omega)
        rw [e2] at hq
        cases hq
        exact Or.inr ⟨by omega, by omega⟩
    · exact (h.2.2.2 s hs).2 q hq
  · exact h
theorem ROK_seed {R : RS} (h : ROK R) {x : Int32} : ROK (rseed R x) := by
  unfold ROK at h ⊢; exact h
theorem k_look {D : DS} (h : DOK D) {x y : Int32} : DOK (lookS D x y).2 := by
  have hn14 := h.1.1
  unfold lookS
  split
  · next hc =>
    obtain ⟨b, hb, rfl, e1⟩ := inB_e hc.1 (by omega)
    rw [e1]
    split
    · split
      · exact h.r (ROK_seed h.1) (Nat.le_refl _)
      · exact h.r (ROK_miss (ROK_seed h.1) hb) (Nat.le_refl _)
    · exact h.r (ROK_miss h.1 hb) (Nat.le_refl _)
  · exact h
theorem trF_n {R : RS} : ∀ k, (trF R k).1.1 0 = R.1 0
  | 0 => rfl
  | k + 1 => (trF_n (R := R) k : (drvR (trF R k).1).1 0 = R.1 0)
theorem trF_ok {R : RS} (h : ROK R) : ∀ k, ROK (trF R k).1
  | 0 => h
  | k + 1 => ROK_drv (trF_ok h k)
theorem k_trips {D : DS} (h : DOK D) {x : Int32} : DOK (tripsS D x).2 := by
  unfold tripsS
  split
  · exact h.r (trF_ok h.1 _) (Nat.le_of_eq (trF_n _).symm)
  · exact h
theorem k_says {D : DS} (h : DOK D) {x y : Int32} : DOK (saysS D x y).2 := by
  unfold saysS
  repeat' split
  all_goals exact h
theorem k_bendOf {D : DS} (h : DOK D) {x y : Int32} : DOK (bendOfS D x y).2 := by
  unfold bendOfS
  repeat' split
  all_goals exact h
theorem k_signOf {D : DS} (h : DOK D) {x y : Int32} : DOK (signOfS D x y).2 := by
  unfold signOfS
  repeat' split
  all_goals exact h
theorem k_callOf {D : DS} (h : DOK D) {x y : Int32} : DOK (callOfS D x y).2 := by
  unfold callOfS
  repeat' split
  all_goals exact h
theorem k_fall {D : DS} (h : DOK D) {x y : Int32} : DOK (fallS D x y).2 := by
  unfold fallS
  repeat' split
  all_goals exact h
theorem k_fell {D : DS} (h : DOK D) {x y : Int32} : DOK (fellS D x y).2 := by
  unfold fellS
  repeat' split
  all_goals exact h
theorem k_weight {D : DS} (h : DOK D) {x : Int32} : DOK (weightS D x).2 := by
  unfold weightS
  repeat' split
  all_goals exact h
theorem k_few {D : DS} (h : DOK D) {x : Int32} : DOK (fewS D x).2 := by
  unfold fewS
  repeat' split
  all_goals exact h
theorem k_asks {D : DS} (h : DOK D) : DOK (asksS D ).2 := by
  unfold asksS
  repeat' split
  all_goals exact h
theorem k_where {D : DS} (h : DOK D) : DOK (whereS D ).2 := by
  unfold whereS
  repeat' split
  all_goals exact h
theorem k_worst {D : DS} (h : DOK D) : DOK (worstS D ).2 := by
  unfold worstS
  repeat' split
  all_goals exact h
theorem k_seconds {D : DS} (h : DOK D) {x y : Int32} : DOK (secondsS D x y).2 := by
  unfold secondsS
  repeat' split
  all_goals exact h
theorem k_found {D : DS} (h : DOK D) {x y : Int32} : DOK (foundS D x y).2 := by
  unfold foundS
  repeat' split
  all_goals exact h
theorem k_order {D : DS} (h : DOK D) {x : Int32} : DOK (orderS D x).2 := by
  unfold orderS
  repeat' split
  all_goals exact h
theorem k_vain {D : DS} (h : DOK D) {x : Int32} : DOK (vainS D x).2 := by
  unfold vainS
  repeat' split
  all_goals exact h
theorem k_others {D : DS} (h : DOK D) {x : Int32} : DOK (othersS D x).2 := by
  unfold othersS
  repeat' split
  all_goals exact h
theorem k_best {D : DS} (h : DOK D) {x y : Int32} : DOK (bestS D x y).2 := by
  unfold bestS
  repeat' split
  all_goals exact h
theorem k_soonest {D : DS} (h : DOK D) {x : Int32} : DOK (soonestS D x).2 := by
  unfold soonestS
  repeat' split
  all_goals exact h
theorem k_fast {D : DS} (h : DOK D) {x : Int32} : DOK (fastS D x).2 := by
  unfold fastS
  repeat' split
  all_goals exact h
theorem k_gripFor {D : DS} (h : DOK D) {x : Int32} : DOK (gripForS D x).2 := by
  unfold gripForS
  repeat' split
  all_goals exact h
theorem k_drove {D : DS} (h : DOK D) {x : Int32} : DOK (droveS D x).2 := by
  unfold droveS
  repeat' split
  all_goals exact h
theorem k_without {D : DS} (h : DOK D) {x : Int32} : DOK (withoutS D x).2 := by
  unfold withoutS
  repeat' split
  all_goals exact h
theorem k_once {D : DS} (h : DOK D) {x : Int32} : DOK (onceS D x).2 := by
  unfold onceS
  repeat' split
  all_goals exact h
theorem k_until {D : DS} (h : DOK D) {x : Int32} : DOK (untilS D x).2 := by
  unfold untilS
  repeat' split
  all_goals exact h
theorem k_worth {D : DS} (h : DOK D) {x y u : Int32} : DOK (worthS D x y u).2 := by
  unfold worthS
  repeat' split
  all_goals exact h
theorem k_hears {D : DS} (h : DOK D) {x : Int32} : DOK (hearsS D x).2 := by
  unfold hearsS
  repeat' split
  all_goals exact h
theorem k_judge {D : DS} (h : DOK D) {x y : Int32} : DOK (judgeS D x y).2 := by
  unfold judgeS
  repeat' split
  all_goals exact h
theorem k_rings {D : DS} (h : DOK D) {x : Int32} : DOK (ringsS D x).2 := by
  unfold ringsS
  repeat' split
  all_goals exact h
theorem k_tho {D : DS} (h : DOK D) {p a : Nat} : DOK (thoS D p a).2 := by
  unfold thoS
  split <;> exact h
theorem k_likely {D : DS} (h : DOK D) {x : Int32} : DOK (likelyS D x).2 := by
  unfold likelyS
  split
  · exact k_tho h
  · exact h
theorem k_between {D : DS} (h : DOK D) {x y : Int32} : DOK (betweenS D x y).2 := by
  unfold betweenS
  split
  · exact k_tho h
  · exact h
theorem k_after {D : DS} (h : DOK D) {x u : Int32} {q : Nat} : DOK (afterS D x q u).2 := by
  unfold afterS
  split
  · split
    · exact h
    · exact k_tho h
  · exact h
