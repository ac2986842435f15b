/-! the reference's memory holds a state-/
def zMs (h : Option Nat) (z : Nat) (el : Nat → Int64) (s : Nat) (X : zI) (Y : zY) : Prop := match h with
  | none => X 0 1 s = nI 0
  | some q => if q < 10 then X 0 1 s = nI 1 ∧ X 0 2 s = nI q ∧ X 0 3 s = nI z ∧ ∀ i, i < 40 → Y 0 (4 + 1 + s) i = el i else X 0 1 s = nI 2 ∧ X 0 14 s = nI (q - 10)
def MMe (qe : Bool) (D : DS) (I X : zI) (Y : zY) : Prop := zQm 0 D.1 I X ∧ (I 0 0 28 = if D.2.1.isSome = true then nI 1 else nI 0) ∧ (I 0 0 29 = if qe = true then nI 1 else nI 0) ∧ (∀ K, D.2.1 = some K → zQm 2 K I X) ∧ (I 0 0 7 = nI D.2.2.1.2 ∧ ∀ i, i < D.2.2.1.2 → X 0 15 i = nI (D.2.2.1.1 i)) ∧ (∀ s, s < 8 → zMs (D.2.2.2.1.1 s) (D.2.2.2.1.2.1 s) (D.2.2.2.1.2.2 s) s X Y) ∧ ∀ j, j < 5 → X 0 16 (2 + j) = D.2.2.2.2 j
def mC (y : zM) (n : Nat) (args : List zV) (v : Option zV) (D' : DS) (ad : zA) (S : zSh) (I X : zI) (Y : zY) (sz : Nat) (qe : Bool) : Prop := ∃ I' X' Y', MMe qe D' I' X' Y' ∧ zC0 y n args v ad S I X Y sz I' X' Y'
theorem zMs.frame {h : Option Nat} {z : Nat} {el : Nat → Int64} {s : Nat} {X X' : zI} {Y : zY} (g : zMs h z el s X Y) (hX : ∀ k j, k ≤ 14 → k ≠ 13 → X' 0 k j = X 0 k j) : zMs h z el s X' Y := by
  cases h with
  | none => show X' 0 1 s = _; rw [hX _ _ (by omega) (by omega)]; exact g
  | some q =>
    show (if q < 10 then _ else _)
    have g' : (if q < 10 then _ else _) := g
    by_cases c : q < 10
    · rw [if_pos c] at g' ⊢
      rw [hX _ _ (by omega) (by omega), hX _ _ (by omega) (by omega), hX _ _ (by omega) (by omega)]
      exact g'
    · rw [if_neg c] at g' ⊢
      rw [hX _ _ (by omega) (by omega), hX _ _ (by omega) (by omega)]
      exact g'
theorem MMe.road {qe : Bool} {D : DS} {R : RS} {I X I' X' : zI} {Y : zY} (h : MMe qe D I X Y) (hq : zQm 0 R I' X') (hI : ∀ j, (j ≤ 8 ∨ j = 28 ∨ j = 29) → I' 0 0 j = I 0 0 j) (hX : ∀ k j, k ≤ 16 → k ≠ 13 → X' 0 k j = X 0 k j) (h2 : ∀ k j, I' 2 k j = I 2 k j ∧ X' 2 k j = X 2 k j) : MMe qe (DR D R) I' X' Y := by
  obtain ⟨g1, g2, g3, g4, ⟨g5, g6⟩, g7, g8⟩ := h
  refine ⟨hq, by rw [hI _ (by omega)]; exact g2, by rw [hI _ (by omega)]; exact g3, fun K hK => (g4 K hK).frame (fun j _ _ => (h2 _ _).1) (fun k j _ _ => (h2 _ _).2), ⟨by rw [hI _ (by omega)]; exact g5, fun i hi => by rw [hX _ _ (by omega) (by omega)]; exact g6 i hi⟩, fun s hs => (g7 s hs).frame (fun k j a c => hX k j (by omega) c), fun j hj => by rw [hX _ _ (by omega) (by omega)]; exact g8 j hj⟩
theorem MMe.sc {qe : Bool} {D : DS} {I X I' X' : zI} {Y : zY} (h : MMe qe D I X Y) (hI : ∀ j, j ≤ 29 → I' 0 0 j = I 0 0 j) (hX : ∀ k j, k ≤ 27 → k ≠ 13 → X' 0 k j = X 0 k j) (h2 : ∀ k j, I' 2 k j = I 2 k j ∧ X' 2 k j = X 2 k j) : MMe qe D I' X' Y :=
  h.road (R := D.1) (h.1.frame (fun j _ _ => hI j (by omega)) (fun k j _ _ => hX k j (by omega) (by omega))) (fun j _ => hI j (by omega)) (fun k j _ a => hX k j (by omega) a) h2
theorem MMe.go {qe : Bool} {D : DS} {I X : zI} {Y : zY} (h : MMe qe D I X Y) {v : Int32} {f : Nat → Nat} {n : Nat} : MMe qe D (up3 I 0 0 38 v) (zrow 0 29 f n X) Y :=
  h.sc (fun j _ => up3_ne (by omega)) (fun k j _ _ => zrow_ne (by omega)) (fun k j => ⟨up3_ne (by omega), zrow_ne (by omega)⟩)
theorem MMe.mw {qe : Bool} {D : DS} {R : RS} {I X : zI} {Y : zY} (h : MMe qe D I X Y) : MMe qe D (mwI 0 R I) (mwX 0 R X) Y :=
  h.sc (fun j _ => by unfold mwI; rw [up3_ne (by omega), up3_ne (by omega), up3_ne (by omega)]) (fun k j _ _ => by unfold mwX; rw [zrow_ne (by omega), zrow_ne (by omega)]) (fun k j => ⟨by unfold mwI; rw [up3_ne (by omega), up3_ne (by omega), up3_ne (by omega)], by unfold mwX; rw [zrow_ne (by omega), zrow_ne (by omega)]⟩)
theorem MMe.mo {qe : Bool} {D : DS} {R : RS} {I X : zI} {Y : zY} (h : MMe qe D I X Y) {k : Nat} : MMe qe D (mwI 0 R I) (moX 0 R (mwX 0 R X) k) Y :=
  h.mw.sc (fun _ _ => rfl) (fun k j _ _ => moX_ne (by omega) _) (fun k j => ⟨rfl, moX_ne (by omega) _⟩)
theorem MMe.rf {qe : Bool} {D : DS} {I X : zI} {Y : zY} (h : MMe qe D I X Y) {j : Nat} (hj : j < 5) : MMe qe (rfD j D) I (rmX 0 j X) Y := by
  obtain ⟨g1, g2, g3, g4, ⟨g5, g6⟩, g7, g8⟩ := h
  have e : ∀ b k i, ¬ (b = 0 ∧ k = 16) → rmX 0 j X b k i = X b k i := fun b k i hh => up3_ne (by omega)
  refine ⟨g1.frame (fun _ _ _ => rfl) (fun k i _ _ => e _ _ _ (by omega)), g2, g3, fun K hK => (g4 K hK).frame (fun _ _ _ => rfl) (fun k i _ _ => e _ _ _ (by omega)), ⟨g5, fun i hi => by rw [e _ _ _ (by omega)]; exact g6 i hi⟩, fun s hs => (g7 s hs).frame (fun k i a c => e _ _ _ (by omega)), fun i hi => ?_⟩
  show up3 X 0 16 (2 + j) _ 0 16 (2 + i) = (if i = j then D.2.2.2.2 i + nI 1 else D.2.2.2.2 i)
  by_cases c : i = j
  · subst c; rw [up3_eq, if_pos rfl, g8 i hi]
  · rw [up3_ne (by omega), if_neg c]; exact g8 i hi
theorem MMe.tape {qe : Bool} {D : DS} {T : Nat → Nat} {z : Nat} {I X I' X' : zI} {Y : zY} (h : MMe qe D I X Y) (h1 : I' 0 0 7 = nI z) (h2 : ∀ i, i < z → X' 0 15 i = nI (T i)) (hI : ∀ b k j, ¬ (b = 0 ∧ k = 0 ∧ j = 7) → I' b k j = I b k j) (hX : ∀ b k j, ¬ (b = 0 ∧ k = 15) → X' b k j = X b k j) : MMe qe (DT D T z) I' X' Y := by
  obtain ⟨g1, g2, g3, g4, -, g7, g8⟩ := h
  exact ⟨g1.frame (fun j _ _ => hI _ _ _ (by omega)) (fun k j _ _ => hX _ _ _ (by omega)), by rw [hI _ _ _ (by omega)]; exact g2, by rw [hI _ _ _ (by omega)]; exact g3, fun K hK => (g4 K hK).frame (fun j _ _ => hI _ _ _ (by omega)) (fun k j _ _ => hX _ _ _ (by omega)), ⟨h1, h2⟩, fun s hs => (g7 s hs).frame (fun k j a c => hX _ _ _ (by omega)), fun j hj => by rw [hX _ _ _ (by omega)]; exact g8 j hj⟩
theorem tkB {R : RS} {x : Int32} (hn : R.1 0 ≤ 14) : ((0 : Int32) ≤ x ∧ x ≤ nI (R.1 0) - nI 1) ↔ inB x (R.1 0) := by
  refine and_congr Iff.rfl ?_
  have h := i2l_pr (n := R.1 0) (by omega) (v := x.toInt64)
  rw [i2l_lt (by omega)] at h
  rw [← h, Int64.le_iff_toInt_le, Int32.le_iff_toInt_le, Int32.toInt_toInt64, Int32.toInt_toInt64]
theorem tkI_00 {R : RS} {x : Int32} : tkP R 0 0 x ↔ iw x 0 5 := Iff.rfl
theorem tkV_00 {R : RS} {v : Nat} : tkN R 0 0 v ↔ 0 ≤ v ∧ v ≤ 5 := ⟨fun h => ⟨h.1, Nat.le_of_lt_succ h.2⟩, fun h => ⟨h.1, Nat.lt_succ_of_le h.2⟩⟩
theorem tkI_01 {R : RS} {x : Int32} : tkP R 0 1 x ↔ iw x 0 9 := Iff.rfl
theorem tkV_01 {R : RS} {v : Nat} : tkN R 0 1 v ↔ 0 ≤ v ∧ v ≤ 9 := ⟨fun h => ⟨h.1, Nat.le_of_lt_succ h.2⟩, fun h => ⟨h.1, Nat.lt_succ_of_le h.2⟩⟩
theorem tkI_02 {R : RS} {x : Int32} : tkP R 0 2 x ↔ iw x 1 999 := Iff.rfl
theorem tkV_02 {R : RS} {v : Nat} : tkN R 0 2 v ↔ 1 ≤ v ∧ v ≤ 999 := ⟨fun h => ⟨h.1, Nat.le_of_lt_succ h.2⟩, fun h => ⟨h.1, Nat.lt_succ_of_le h.2⟩⟩
theorem tkI_03 {R : RS} {x : Int32} : tkP R 0 3 x ↔ iw x 0 1000 := Iff.rfl
theorem tkV_03 {R : RS} {v : Nat} : tkN R 0 3 v ↔ 0 ≤ v ∧ v ≤ 1000 := ⟨fun h => ⟨h.1, Nat.le_of_lt_succ h.2⟩, fun h => ⟨h.1, Nat.lt_succ_of_le h.2⟩⟩
theorem tkI_10 {R : RS} {x : Int32} : tkP R 1 0 x ↔ iw x 1 9 := Iff.rfl
theorem tkV_10 {R : RS} {v : Nat} : tkN R 1 0 v ↔ 1 ≤ v ∧ v ≤ 9 := ⟨fun h => ⟨h.1, Nat.le_of_lt_succ h.2⟩, fun h => ⟨h.1, Nat.lt_succ_of_le h.2⟩⟩
theorem tkI_20 {R : RS} {x : Int32} : tkP R 2 0 x ↔ iw x 0 1 := Iff.rfl
theorem tkV_20 {R : RS} {v : Nat} : tkN R 2 0 v ↔ 0 ≤ v ∧ v ≤ 1 := ⟨fun h => ⟨h.1, Nat.le_of_lt_succ h.2⟩, fun h => ⟨h.1, Nat.lt_succ_of_le h.2⟩⟩
theorem tkI_30 {R : RS} {x : Int32} : tkP R 3 0 x ↔ iw x 0 10 := Iff.rfl
theorem tkV_30 {R : RS} {v : Nat} : tkN R 3 0 v ↔ 0 ≤ v ∧ v ≤ 10 := ⟨fun h => ⟨h.1, Nat.le_of_lt_succ h.2⟩, fun h => ⟨h.1, Nat.lt_succ_of_le h.2⟩⟩
theorem tkI_40 {R : RS} {x : Int32} (hn : R.1 0 ≤ 14) : tkP R 4 0 x ↔ inB x (R.1 0) := tkB hn
theorem tkV_40 {R : RS} {v : Nat} : tkN R 4 0 v ↔ v < R.1 0 := ⟨fun h => h.2, fun h => ⟨Nat.zero_le _, h⟩⟩
theorem tkI_41 {R : RS} {x : Int32} : tkP R 4 1 x ↔ iw x 0 100 := Iff.rfl
theorem tkV_41 {R : RS} {v : Nat} : tkN R 4 1 v ↔ 0 ≤ v ∧ v ≤ 100 := ⟨fun h => ⟨h.1, Nat.le_of_lt_succ h.2⟩, fun h => ⟨h.1, Nat.lt_succ_of_le h.2⟩⟩
theorem tkI_50 {R : RS} {x : Int32} (hn : R.1 0 ≤ 14) : tkP R 5 0 x ↔ inB x (R.1 0) := tkB hn
theorem tkV_50 {R : RS} {v : Nat} : tkN R 5 0 v ↔ v < R.1 0 := ⟨fun h => h.2, fun h => ⟨Nat.zero_le _, h⟩⟩
theorem tkI_51 {R : RS} {x : Int32} : tkP R 5 1 x ↔ iw x 0 100 := Iff.rfl
theorem tkV_51 {R : RS} {v : Nat} : tkN R 5 1 v ↔ 0 ≤ v ∧ v ≤ 100 := ⟨fun h => ⟨h.1, Nat.le_of_lt_succ h.2⟩, fun h => ⟨h.1, Nat.lt_succ_of_le h.2⟩⟩
theorem tkI_60 {R : RS} {x : Int32} (hn : R.1 0 ≤ 14) : tkP R 6 0 x ↔ inB x (R.1 0) := tkB hn
theorem tkV_60 {R : RS} {v : Nat} : tkN R 6 0 v ↔ v < R.1 0 := ⟨fun h => h.2, fun h => ⟨Nat.zero_le _, h⟩⟩
theorem tkI_61 {R : RS} {x : Int32} : tkP R 6 1 x ↔ iw x 1 99 := Iff.rfl
theorem tkV_61 {R : RS} {v : Nat} : tkN R 6 1 v ↔ 1 ≤ v ∧ v ≤ 99 := ⟨fun h => ⟨h.1, Nat.le_of_lt_succ h.2⟩, fun h => ⟨h.1, Nat.lt_succ_of_le h.2⟩⟩
theorem tkI_62 {R : RS} {x : Int32} : tkP R 6 2 x ↔ iw x 0 100 := Iff.rfl
theorem tkV_62 {R : RS} {v : Nat} : tkN R 6 2 v ↔ 0 ≤ v ∧ v ≤ 100 := ⟨fun h => ⟨h.1, Nat.le_of_lt_succ h.2⟩, fun h => ⟨h.1, Nat.lt_succ_of_le h.2⟩⟩
theorem tkI_70 {R : RS} {x : Int32} (hn : R.1 0 ≤ 14) : tkP R 7 0 x ↔ inB x (R.1 0) := tkB hn
theorem tkV_70 {R : RS} {v : Nat} : tkN R 7 0 v ↔ v < R.1 0 := ⟨fun h => h.2, fun h => ⟨Nat.zero_le _, h⟩⟩
theorem tkI_71 {R : RS} {x : Int32} : tkP R 7 1 x ↔ iw x 0 2 := Iff.rfl
theorem tkV_71 {R : RS} {v : Nat} : tkN R 7 1 v ↔ 0 ≤ v ∧ v ≤ 2 := ⟨fun h => ⟨h.1, Nat.le_of_lt_succ h.2⟩, fun h => ⟨h.1, Nat.lt_succ_of_le h.2⟩⟩
def maddB (b n : Nat) (X : zI) (k a y q : Nat) : zI := up3 (up3 (up3 (up3 (up3 X b 17 n (nI k)) b 18 n (nI a)) b 19 n (nI y)) b 20 n (nI q)) b 21 n (nI 100)
def madd3 (b c n : Nat) (X : zI) (x y u : Nat) : zI := up3 (up3 (up3 X b c n (nI x)) b (c + 1) n (nI y)) b (c + 2) n (nI u)
theorem maddB_ne {b n k a y q : Nat} {X : zI} {b' k' j : Nat} (h : ¬ (b' = b ∧ 17 ≤ k' ∧ k' ≤ 21)) : maddB b n X k a y q b' k' j = X b' k' j := by
  unfold maddB
  rw [up3_ne (by omega), up3_ne (by omega), up3_ne (by omega), up3_ne (by omega), up3_ne (by omega)]
theorem madd3_ne {b c n x y u : Nat} {X : zI} {b' k' j : Nat} (h : ¬ (b' = b ∧ c ≤ k' ∧ k' ≤ c + 2)) : madd3 b c n X x y u b' k' j = X b' k' j := by
  unfold madd3
  rw [up3_ne (by omega), up3_ne (by omega), up3_ne (by omega)]
theorem madd3_v {b c n x y u : Nat} {X : zI} {f : Nat → Nat → Nat} (h : ∀ j i, j < 3 → i < n → X b (c + j) i = nI (f j i)) : ∀ j i, j < 3 → i < n + 1 → madd3 b c n X x y u b (c + j) i = nI (if i = n then (if j = 0 then x else if j = 1 then y else u) else f j i) := by
  intro j i hj hi
  by_cases e : i = n
  · subst e
    rw [if_pos rfl]
    have h3 : j = 0 ∨ j = 1 ∨ j = 2 := by omega
    rcases h3 with rfl | rfl | rfl <;> simp [madd3, up3]
  · rw [if_neg e, ← h j i hj (by omega)]
    unfold madd3
    rw [up3_ne (by omega), up3_ne (by omega), up3_ne (by omega)]
theorem zQm.addB {b : Nat} {R : RS} {I X : zI} (h : zQm b R I X) {k a y q : Nat} : zQm b (raddB R k a y q) (up3 I b 0 9 (nI (R.1 0 + 1))) (maddB b (R.1 0) X k a y q) := by
  obtain ⟨⟨a1, a2, a3, a4, a5, a6, a7, a8⟩, h2, h3, h4⟩ := h
  refine ⟨⟨up3_eq _ _ _ _ _, ?_, ?_, ?_, ?_, ?_, ?_, ?_⟩, fun j i hj hi => ?_, fun j i hj hi => ?_, fun j i hj hi => ?_⟩
  all_goals first | (rw [up3_ne (by omega)]; assumption) | skip
  · have hi' : i < R.1 0 + 1 := hi
    show _ = nI (if i = R.1 0 ∧ j < 5 then _ else R.2.1 j i)
    by_cases e : i = R.1 0
    · subst e
      rw [if_pos ⟨rfl, hj⟩]
      have h5 : j = 0 ∨ j = 1 ∨ j = 2 ∨ j = 3 ∨ j = 4 := by omega
      rcases h5 with rfl | rfl | rfl | rfl | rfl <;> simp [maddB, up3]
    · rw [if_neg (fun z => e z.1), ← h2 j i hj (by omega)]
      unfold maddB
      rw [up3_ne (by omega), up3_ne (by omega), up3_ne (by omega), up3_ne (by omega), up3_ne (by omega)]
  · rw [maddB_ne (by omega)]
    show _ = nI (if i = R.1 0 ∧ 5 + j < 5 then _ else R.2.1 (5 + j) i)
    rw [if_neg (by omega)]; exact h3 j i hj hi
  · rw [maddB_ne (by omega)]
    show _ = nI (if i = R.1 0 ∧ 8 + j < 5 then _ else R.2.1 (8 + j) i)
    rw [if_neg (by omega)]; exact h4 j i hj hi
theorem zQm.addS {b : Nat} {R : RS} {I X : zI} (h : zQm b R I X) {x q u : Nat} : zQm b (raddS R x q u) (up3 I b 0 15 (nI (R.1 1 + 1))) (madd3 b 22 (R.1 1) X x q u) := by
  obtain ⟨⟨a1, a2, a3, a4, a5, a6, a7, a8⟩, h2, h3, h4⟩ := h
  refine ⟨⟨?_, up3_eq _ _ _ _ _, ?_, ?_, ?_, ?_, ?_, ?_⟩, fun j i hj hi => ?_, fun j i hj hi => ?_, fun j i hj hi => ?_⟩
  all_goals first | (rw [up3_ne (by omega)]; assumption) | skip
  · rw [madd3_ne (by omega)]
    show _ = nI (if i = R.1 1 ∧ 5 ≤ j ∧ j < 8 then _ else R.2.1 j i)
    rw [if_neg (by omega)]; exact h2 j i hj hi
  · have hi' : i < R.1 1 + 1 := hi
    rw [madd3_v (f := fun j i => R.2.1 (5 + j) i) h3 j i hj hi']
    show _ = nI (if i = R.1 1 ∧ 5 ≤ 5 + j ∧ 5 + j < 8 then (if 5 + j = 5 then x else if 5 + j = 6 then q else u) else R.2.1 (5 + j) i)
    by_cases e : i = R.1 1
    · rw [if_pos e, if_pos (show i = R.1 1 ∧ 5 ≤ 5 + j ∧ 5 + j < 8 from ⟨e, by omega, by omega⟩)]
      have h5 : j = 0 ∨ j = 1 ∨ j = 2 := by omega
      rcases h5 with rfl | rfl | rfl <;> rfl
    · rw [if_neg e, if_neg (fun z => e z.1)]
  · rw [madd3_ne (by omega)]
    show _ = nI (if i = R.1 1 ∧ 5 ≤ 8 + j ∧ 8 + j < 8 then _ else R.2.1 (8 + j) i)
    rw [if_neg (by omega)]; exact h4 j i hj hi
theorem zQm.addC {b : Nat} {R : RS} {I X : zI} (h : zQm b R I X) {x q u : Nat} : zQm b (raddC R x q u) (up3 I b 0 19 (nI (R.1 2 + 1))) (madd3 b 25 (R.1 2) X x q u) := by
  obtain ⟨⟨a1, a2, a3, a4, a5, a6, a7, a8⟩, h2, h3, h4⟩ := h
  refine ⟨⟨?_, ?_, up3_eq _ _ _ _ _, ?_, ?_, ?_, ?_, ?_⟩, fun j i hj hi => ?_, fun j i hj hi => ?_, fun j i hj hi => ?_⟩
  all_goals first | (rw [up3_ne (by omega)]; assumption) | skip
  · rw [madd3_ne (by omega)]
    show _ = nI (if i = R.1 2 ∧ 8 ≤ j ∧ j < 11 then _ else R.2.1 j i)
    rw [if_neg (by omega)]; exact h2 j i hj hi
  · rw [madd3_ne (by omega)]
    show _ = nI (if i = R.1 2 ∧ 8 ≤ 5 + j ∧ 5 + j < 11 then _ else R.2.1 (5 + j) i)
    rw [if_neg (by omega)]; exact h3 j i hj hi
  · have hi' : i < R.1 2 + 1 := hi
    rw [madd3_v (f := fun j i => R.2.1 (8 + j) i) h4 j i hj hi']
    show _ = nI (if i = R.1 2 ∧ 8 ≤ 8 + j ∧ 8 + j < 11 then (if 8 + j = 8 then x else if 8 + j = 9 then q else u) else R.2.1 (8 + j) i)
    by_cases e : i = R.1 2
    · rw [if_pos e, if_pos (show i = R.1 2 ∧ 8 ≤ 8 + j ∧ 8 + j < 11 from ⟨e, by omega, by omega⟩)]
      have h5 : j = 0 ∨ j = 1 ∨ j = 2 := by omega
      rcases h5 with rfl | rfl | rfl <;> rfl
    · rw [if_neg e, if_neg (fun z => e z.1)]

section
variable {ad : zA} {S : zSh} {I X : zI} {Y : zY} {sz b : Nat} {R : RS}

theorem c_X7_addBend (hS : ∀ k, S b k = msh b k) (hm : zQm b R I X) (hR : ROK R) {k a y q : Nat} (hf : R.1 0 < 14) : zC0 mX7_addBend 0 [zr b 0, zi (nI k), zi (nI a), zi (nI y), zi (nI q)] (none) ad S I X Y sz (up3 I b 0 9 (nI (R.1 0 + 1))) (maddB b (R.1 0) X k a y q) Y := by
  refine zgo (own := RX7) (k := 0) (by decide +kernel) rfl rfl rfl (fun C hC hnm hE => ?_)
  have hmo := hm
  have hn14 := hR.1
  have hn8 := hR.2.1
  have hn6 := hR.2.2.1
  refine z_aload_n hC dX7_addBend_0 rfl ?_
  refine z_getR hC dX7_addBend_1 (hS _) zfX7_37 rfl ?_
  refine z_aload_n hC dX7_addBend_4 rfl ?_
  refine z_getN hC dX7_addBend_5 (hS _) zfX7_94 rfl hm.1.1 ?_
  refine z_iload_n hC dX7_addBend_8 rfl ?_
  refine z_niast hC dX7_addBend_9 (hS _) (by omega) rfl ?_
  refine z_aload_n hC dX7_addBend_10 rfl ?_
  refine z_getR hC dX7_addBend_11 (hS _) zfX7_40 rfl ?_
  refine z_aload_n hC dX7_addBend_14 rfl ?_
  refine z_getN hC dX7_addBend_15 (hS _) zfX7_94 rfl hm.1.1 ?_
  refine z_iload_n hC dX7_addBend_18 rfl ?_
  refine z_niast hC dX7_addBend_19 (hS _) (by omega) rfl ?_
  refine z_aload_n hC dX7_addBend_20 rfl ?_
  refine z_getR hC dX7_addBend_21 (hS _) zfX7_43 rfl ?_
  refine z_aload_n hC dX7_addBend_24 rfl ?_
  refine z_getN hC dX7_addBend_25 (hS _) zfX7_94 rfl hm.1.1 ?_
  refine z_iload_n hC dX7_addBend_28 rfl ?_
  refine z_niast hC dX7_addBend_29 (hS _) (by omega) rfl ?_
  refine z_aload_n hC dX7_addBend_30 rfl ?_
  refine z_getR hC dX7_addBend_31 (hS _) zfX7_46 rfl ?_
  refine z_aload_n hC dX7_addBend_34 rfl ?_
  refine z_getN hC dX7_addBend_35 (hS _) zfX7_94 rfl hm.1.1 ?_
  refine z_iload hC dX7_addBend_38 rfl ?_
  refine z_niast hC dX7_addBend_40 (hS _) (by omega) rfl ?_
  refine z_aload_n hC dX7_addBend_41 rfl ?_
  refine z_getR hC dX7_addBend_42 (hS _) zfX7_49 rfl ?_
  refine z_aload_n hC dX7_addBend_45 rfl ?_
  refine z_getN hC dX7_addBend_46 (hS _) zfX7_94 rfl hm.1.1 ?_
  refine z_bipush hC dX7_addBend_49 (v := nI 100) rfl ?_
  refine z_niast hC dX7_addBend_51 (hS _) (by omega) rfl ?_
  refine z_aload_n hC dX7_addBend_52 rfl ?_
  refine z_dup hC dX7_addBend_53 rfl ?_
  refine z_getN hC dX7_addBend_54 (hS _) zfX7_94 rfl hm.1.1 ?_
  refine z_iconst hC dX7_addBend_57 (v := nI 1) rfl ?_
  refine z_nadd hC dX7_addBend_58  ?_
  refine z_putI hC dX7_addBend_59 (hS _) zfX7_94 rfl rfl rfl rfl ?_
  refine z_vret hC dX7_addBend_62 ?_
  exact hE.to (by rfl) rfl rfl rfl

theorem c_X7_addSign (hS : ∀ k, S b k = msh b k) (hm : zQm b R I X) (hR : ROK R) {x q u : Nat} : zC0 mX7_addSign 0 [zr b 0, zi (nI x), zi (nI q), zi (nI u)] (none) ad S I X Y sz (up3 I b 0 15 (nI (R.1 1 + 1))) (madd3 b 22 (R.1 1) X x q u) Y := by
  refine zgo (own := RX7) (k := 0) (by decide +kernel) rfl rfl rfl (fun C hC hnm hE => ?_)
  have hmo := hm
  have hn14 := hR.1
  have hn8 := hR.2.1
  have hn6 := hR.2.2.1
  refine z_aload_n hC dX7_addSign_0 rfl ?_
  refine z_getR hC dX7_addSign_1 (hS _) zfX7_52 rfl ?_
  refine z_aload_n hC dX7_addSign_4 rfl ?_
  refine z_getN hC dX7_addSign_5 (hS _) zfX7_150 rfl hm.1.2.1 ?_
  refine z_iload_n hC dX7_addSign_8 rfl ?_
  refine z_niast hC dX7_addSign_9 (hS _) (by omega) rfl ?_
  refine z_aload_n hC dX7_addSign_10 rfl ?_
  refine z_getR hC dX7_addSign_11 (hS _) zfX7_55 rfl ?_
  refine z_aload_n hC dX7_addSign_14 rfl ?_
  refine z_getN hC dX7_addSign_15 (hS _) zfX7_150 rfl hm.1.2.1 ?_
  refine z_iload_n hC dX7_addSign_18 rfl ?_
  refine z_niast hC dX7_addSign_19 (hS _) (by omega) rfl ?_
  refine z_aload_n hC dX7_addSign_20 rfl ?_
  refine z_getR hC dX7_addSign_21 (hS _) zfX7_58 rfl ?_
  refine z_aload_n hC dX7_addSign_24 rfl ?_
  refine z_getN hC dX7_addSign_25 (hS _) zfX7_150 rfl hm.1.2.1 ?_
  refine z_iload_n hC dX7_addSign_28 rfl ?_
  refine z_niast hC dX7_addSign_29 (hS _) (by omega) rfl ?_
  refine z_aload_n hC dX7_addSign_30 rfl ?_
  refine z_dup hC dX7_addSign_31 rfl ?_
  refine z_getN hC dX7_addSign_32 (hS _) zfX7_150 rfl hm.1.2.1 ?_
  refine z_iconst hC dX7_addSign_35 (v := nI 1) rfl ?_
  refine z_nadd hC dX7_addSign_36  ?_
  refine z_putI hC dX7_addSign_37 (hS _) zfX7_150 rfl rfl rfl rfl ?_
  refine z_vret hC dX7_addSign_40 ?_
  exact hE.to (by rfl) rfl rfl rfl

theorem c_X7_addCall (hS : ∀ k, S b k = msh b k) (hm : zQm b R I X) (hR : ROK R) {x q u : Nat} (hf : R.1 2 < 6) : zC0 mX7_addCall 0 [zr b 0, zi (nI x), zi (nI q), zi (nI u)] (none) ad S I X Y sz (up3 I b 0 19 (nI (R.1 2 + 1))) (madd3 b 25 (R.1 2) X x q u) Y := by
  refine zgo (own := RX7) (k := 0) (by decide +kernel) rfl rfl rfl (fun C hC hnm hE => ?_)
  have hmo := hm
  have hn14 := hR.1
  have hn8 := hR.2.1
  have hn6 := hR.2.2.1
  refine z_aload_n hC dX7_addCall_0 rfl ?_
  refine z_getR hC dX7_addCall_1 (hS _) zfX7_61 rfl ?_
  refine z_aload_n hC dX7_addCall_4 rfl ?_
  refine z_getN hC dX7_addCall_5 (hS _) zfX7_163 rfl hm.1.2.2.1 ?_
  refine z_iload_n hC dX7_addCall_8 rfl ?_
  refine z_niast hC dX7_addCall_9 (hS _) (by omega) rfl ?_
  refine z_aload_n hC dX7_addCall_10 rfl ?_
  refine z_getR hC dX7_addCall_11 (hS _) zfX7_64 rfl ?_
  refine z_aload_n hC dX7_addCall_14 rfl ?_
  refine z_getN hC dX7_addCall_15 (hS _) zfX7_163 rfl hm.1.2.2.1 ?_
  refine z_iload_n hC dX7_addCall_18 rfl ?_
  refine z_niast hC dX7_addCall_19 (hS _) (by omega) rfl ?_
  refine z_aload_n hC dX7_addCall_20 rfl ?_
  refine z_getR hC dX7_addCall_21 (hS _) zfX7_67 rfl ?_
  refine z_aload_n hC dX7_addCall_24 rfl ?_
  refine z_getN hC dX7_addCall_25 (hS _) zfX7_163 rfl hm.1.2.2.1 ?_
  refine z_iload_n hC dX7_addCall_28 rfl ?_
  refine z_niast hC dX7_addCall_29 (hS _) (by omega) rfl ?_
  refine z_aload_n hC dX7_addCall_30 rfl ?_
  refine z_dup hC dX7_addCall_31 rfl ?_
  refine z_getN hC dX7_addCall_32 (hS _) zfX7_163 rfl hm.1.2.2.1 ?_
  refine z_iconst hC dX7_addCall_35 (v := nI 1) rfl ?_
  refine z_nadd hC dX7_addCall_36  ?_
  refine z_putI hC dX7_addCall_37 (hS _) zfX7_163 rfl rfl rfl rfl ?_
  refine z_vret hC dX7_addCall_40 ?_
  exact hE.to (by rfl) rfl rfl rfl

end
