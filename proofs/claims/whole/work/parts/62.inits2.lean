/-! the developers' object is made -/
def elN (m : Nat) : List (Option (Nat × Nat)) := (List.range 8).map (fun i => if i < m then some (3, 35 + 2 * i) else none)
def dshr (m : Nat) : Nat → Option zS
  | 0 => some (.inr (.inl (6, [.inr (some (3, 1)), .inr (some (3, 8)), .inr (some (3, 15)), .inr (some (3, 22)), .inr (some (3, 25)), .inr (some (3, 30)), .inr (some (3, 34)), .inr (some (3, 33)), .inr none])))
  | 1 => some (rshR 1)
  | 2 => some (tshR 2)
  | 3 => some (.inl (0, 70))
  | 4 => some (tshR 4)
  | 5 => some (.inl (0, 24))
  | 6 => some (tshR 6)
  | 7 => some (.inl (0, 18))
  | 8 => some (rshR 8)
  | 9 => some (tshR 9)
  | 10 => some (.inl (0, 70))
  | 11 => some (tshR 11)
  | 12 => some (.inl (0, 24))
  | 13 => some (tshR 13)
  | 14 => some (.inl (0, 18))
  | 15 => some (rshR 15)
  | 16 => some (tshR 16)
  | 17 => some (.inl (0, 70))
  | 18 => some (tshR 18)
  | 19 => some (.inl (0, 24))
  | 20 => some (tshR 20)
  | 21 => some (.inl (0, 18))
  | 22 => some (.inr (.inl (5, [.inr (some (3, 23)), .inr (some (3, 24)), .inr none, .inr none])))
  | 23 => some (.inl (0, 14))
  | 24 => some (.inl (0, 14))
  | 25 => some (.inr (.inl (0, [.inr (some (3, 26)), .inr (some (3, 27)), .inr (some (3, 28)), .inr (some (3, 29))])))
  | 26 => some (.inl (0, 901))
  | 27 => some (.inl (0, 901))
  | 28 => some (.inl (0, 4))
  | 29 => some (.inl (0, 4))
  | 30 => some (.inr (.inl (4, [.inr (some (3, 31)), .inr none, .inr none, .inr none, .inr none, .inr (some (3, 32))])))
  | 31 => some (.inl (0, 250))
  | 32 => some (.inl (0, 4))
  | 33 => some (.inl (0, 5))
  | 34 => some (.inr (.inr (0, elN m)))
  | 35 => some (sshR 35)
  | 36 => some (.inl (1, 40))
  | 37 => some (sshR 37)
  | 38 => some (.inl (1, 40))
  | 39 => some (sshR 39)
  | 40 => some (.inl (1, 40))
  | 41 => some (sshR 41)
  | 42 => some (.inl (1, 40))
  | 43 => some (sshR 43)
  | 44 => some (.inl (1, 40))
  | 45 => some (sshR 45)
  | 46 => some (.inl (1, 40))
  | 47 => some (sshR 47)
  | 48 => some (.inl (1, 40))
  | 49 => some (sshR 49)
  | 50 => some (.inl (1, 40))
  | _ => none
def zdv (m : Nat) (S : zSh) : zSh := fun b k => if b = 3 then dshr m k else S b k
def zdf (S : zSh) : zSh := fun b k => if b = 3 then dsh k else S b k
theorem zdv_s {m i : Nat} {S : zSh} (hi : i < 8) : zdv m S 3 (35 + 2 * i) = some (sshR (35 + 2 * i)) ∧ zdv m S 3 (35 + 2 * i + 1) = some (.inl (1, 40)) := by
  match i, hi with
  | 0, _ => exact ⟨rfl, rfl⟩
  | 1, _ => exact ⟨rfl, rfl⟩
  | 2, _ => exact ⟨rfl, rfl⟩
  | 3, _ => exact ⟨rfl, rfl⟩
  | 4, _ => exact ⟨rfl, rfl⟩
  | 5, _ => exact ⟨rfl, rfl⟩
  | 6, _ => exact ⟨rfl, rfl⟩
  | 7, _ => exact ⟨rfl, rfl⟩
theorem elN_up {i : Nat} (hi : i < 8) : (elN i).set i (some (3, 35 + 2 * i)) = elN (i + 1) := by
  match i, hi with
  | 0, _ => rfl
  | 1, _ => rfl
  | 2, _ => rfl
  | 3, _ => rfl
  | 4, _ => rfl
  | 5, _ => rfl
  | 6, _ => rfl
  | 7, _ => rfl
theorem zdv_up {i : Nat} {S : zSh} (hi : i < 8) : zset (zcut 3 (35 + 2 * i + 2) (zdv i S)) 3 34 (.inr (.inr (0, (elN i).set i (some (3, 35 + 2 * i))))) = zcut 3 (35 + 2 * (i + 1)) (zdv (i + 1) S) := by
  rw [elN_up hi]
  have hd : ∀ k, k ≠ 34 → dshr i k = dshr (i + 1) k := by
    intro k hk
    unfold dshr
    repeat' split
    all_goals first | rfl | (exfalso; exact hk rfl)
  funext b k
  unfold zset zcut zdv
  by_cases hb : b = 3
  · subst hb
    by_cases hk : k = 34
    · subst hk
      rw [if_pos ⟨rfl, rfl⟩, if_neg (by omega), if_pos rfl]; rfl
    · rw [if_neg (fun z => hk z.2), if_pos rfl, if_pos rfl, hd k hk]
      rfl
  · rw [if_neg (fun z => hb z.1), if_neg (fun z => hb z.1), if_neg hb, if_neg (fun z => hb z.1), if_neg hb]
def shI : Nat → zI → zI
  | 0, I => I
  | i + 1, I => shfI (35 + 2 * i) (shI i I)
theorem shI_off {I : zI} {b k j : Nat} : ∀ {i : Nat}, ¬ (b = 3 ∧ 35 ≤ k ∧ k < 35 + 2 * i) → shI i I b k j = I b k j
  | 0, _ => rfl
  | i + 1, h => by
    show shfI (35 + 2 * i) (shI i I) b k j = _
    rw [shfI_off (by omega), shI_off (by omega)]
theorem shI_v {I : zI} : ∀ {i s : Nat}, s < i → shI i I 3 (35 + 2 * s) 0 = -1 ∧ shI i I 3 (35 + 2 * s) 2 = 1 ∧ shI i I 3 (35 + 2 * s) 1 = I 3 (35 + 2 * s) 1
  | 0, _, h => absurd h (Nat.not_lt_zero _)
  | i + 1, s, h => by
    show shfI (35 + 2 * i) (shI i I) 3 (35 + 2 * s) 0 = -1 ∧ shfI (35 + 2 * i) (shI i I) 3 (35 + 2 * s) 2 = 1 ∧ shfI (35 + 2 * i) (shI i I) 3 (35 + 2 * s) 1 = _
    by_cases hs : s = i
    · subst hs
      have := shI_off (I := I) (b := 3) (k := 35 + 2 * s) (j := 1) (i := s) (by omega)
      simp [shfI, up3, this]
    · rw [shfI_off (by omega), shfI_off (by omega), shfI_off (by omega)]
      exact shI_v (by omega)
def devJ (I : zI) : zI := up3 (up3 (up3 (tapI (up3 (plaI (up3 (wgtI (up3 (roadI 15 (up3 (roadI 8 (up3 (roadI 1 I) 3 0 0 1)) 3 0 1 1)) 3 0 2 1)) 3 0 3 1)) 3 0 4 1)) 3 0 5 1) 3 0 7 1) 3 0 6 1
def devI (I : zI) : zI := shI 8 (devJ I)
theorem dev_0 {I : zI} : ∀ j, j < 8 → devI I 3 0 j = 1 := by
  intro j hj
  unfold devI
  rw [shI_off (by omega)]
  have h8 : j = 0 ∨ j = 1 ∨ j = 2 ∨ j = 3 ∨ j = 4 ∨ j = 5 ∨ j = 6 ∨ j = 7 := by omega
  rcases h8 with rfl | rfl | rfl | rfl | rfl | rfl | rfl | rfl <;> simp [devJ, up3, tapI_off, plaI_off, wgtI_off, roadI_off]
theorem devJ_road {I : zI} {k j : Nat} : (1 ≤ k → k < 8 → devJ I 3 k j = roadI 1 I 3 k j) ∧ (8 ≤ k → k < 15 → devJ I 3 k j = roadI 8 (up3 (roadI 1 I) 3 0 0 1) 3 k j) ∧ (15 ≤ k → k < 22 → devJ I 3 k j = roadI 15 (up3 (roadI 8 (up3 (roadI 1 I) 3 0 0 1)) 3 0 1 1) 3 k j) := by
  unfold devJ
  refine ⟨fun h1 h2 => ?_, fun h1 h2 => ?_, fun h1 h2 => ?_⟩
  · rw [up3_ne (by omega), up3_ne (by omega), up3_ne (by omega), tapI_off (by omega), up3_ne (by omega), plaI_off (by omega), up3_ne (by omega), wgtI_off (by omega), up3_ne (by omega), roadI_off (by omega), up3_ne (by omega), roadI_off (by omega), up3_ne (by omega)]
  · rw [up3_ne (by omega), up3_ne (by omega), up3_ne (by omega), tapI_off (by omega), up3_ne (by omega), plaI_off (by omega), up3_ne (by omega), wgtI_off (by omega), up3_ne (by omega), roadI_off (by omega), up3_ne (by omega)]
  · rw [up3_ne (by omega), up3_ne (by omega), up3_ne (by omega), tapI_off (by omega), up3_ne (by omega), plaI_off (by omega), up3_ne (by omega), wgtI_off (by omega), up3_ne (by omega)]
theorem zobj {g : zG} {ad : zA} {I X : zI} {Y : zY} {b k ci : Nat} {fl fl2 : List zF} (h : fl.mapIdx (fun j f => zfv I b k j f) = fl2.mapIdx (fun j f => zfv I b k j f)) : zcell g ad I X Y b k (.inr (.inl (ci, fl))) = zcell g ad I X Y b k (.inr (.inl (ci, fl2))) := by
  show Sum.inr (ci, fl.mapIdx (fun j f => rv ad (zfv I b k j f))) = Sum.inr (ci, fl2.mapIdx (fun j f => rv ad (zfv I b k j f)))
  have e : ∀ l : List zF, l.mapIdx (fun j f => rv ad (zfv I b k j f)) = (l.mapIdx (fun j f => zfv I b k j f)).map (rv ad) := fun l => List.ext_getElem? fun j => by rw [List.getElem?_mapIdx, List.getElem?_map, List.getElem?_mapIdx]; cases l[j]? <;> rfl
  rw [e, e, h]
theorem zfv_1 {I : zI} {b k j : Nat} {q : Nat × Nat} (h : I b k j = 1) : zfv I b k j (.inr (some q)) = .inr (.inr (some q)) := if_neg (by rw [h]; decide)
theorem dev_road {I : zI} {r : Nat} (hr : r = 1 ∨ r = 8 ∨ r = 15) : (∀ j, j < 3 → devI I 3 r j = 1) ∧ (∀ j, j < 3 → devI I 3 (r + 1 + 2 * j) 0 = 1) ∧ devI I 3 r 3 = nI 3 ∧ devI I 3 r 6 = -1 ∧ devI I 3 r 7 = nI 1 ∧ devI I 3 (r + 1) 1 = nI 5 ∧ devI I 3 (r + 3) 1 = nI 3 ∧ devI I 3 (r + 5) 1 = nI 3 ∧ devI I 3 r 4 = I 3 r 4 ∧ devI I 3 r 5 = I 3 r 5 ∧ ∀ j, j < 3 → devI I 3 (r + 1 + 2 * j) 2 = I 3 (r + 1 + 2 * j) 2 := by
  have e : ∀ k j, k < 22 → devI I 3 k j = devJ I 3 k j := fun k j hk => shI_off (by omega)
  have key : ∃ I1, (∀ k j, r ≤ k → k < r + 7 → devI I 3 k j = roadI r I1 3 k j) ∧ ∀ k j, r ≤ k → k < r + 7 → I1 3 k j = I 3 k j := by
    rcases hr with rfl | rfl | rfl
    · exact ⟨_, fun k j h1 h2 => (e k j (by omega)).trans (devJ_road.1 h1 (by omega)), fun _ _ _ _ => rfl⟩
    · refine ⟨_, fun k j h1 h2 => (e k j (by omega)).trans (devJ_road.2.1 h1 (by omega)), fun k j h1 h2 => ?_⟩
      rw [up3_ne (by omega), roadI_off (by omega)]
    · refine ⟨_, fun k j h1 h2 => (e k j (by omega)).trans (devJ_road.2.2 h1 (by omega)), fun k j h1 h2 => ?_⟩
      rw [up3_ne (by omega), roadI_off (by omega), up3_ne (by omega), roadI_off (by omega)]
  obtain ⟨I1, h1, h2⟩ := key
  obtain ⟨a1, a2, a3, a4, a5, a6, a7, a8, a9, a10, a11⟩ := roadI_v (r := r) (I := I1)
  refine ⟨fun j hj => ?_, fun j hj => ?_, ?_, ?_, ?_, ?_, ?_, ?_, ?_, ?_, fun j hj => ?_⟩
  · rw [h1 _ _ (by omega) (by omega)]; exact a1 j hj
  · rw [h1 _ _ (by omega) (by omega)]; exact a7 j hj
  · rw [h1 _ _ (by omega) (by omega)]; exact a2
  · rw [h1 _ _ (by omega) (by omega)]; exact a5
  · rw [h1 _ _ (by omega) (by omega)]; exact a6
  · rw [h1 _ _ (by omega) (by omega)]; exact a8
  · rw [h1 _ _ (by omega) (by omega)]; exact a9
  · rw [h1 _ _ (by omega) (by omega)]; exact a10
  · rw [h1 _ _ (by omega) (by omega), a3, h2 _ _ (by omega) (by omega)]
  · rw [h1 _ _ (by omega) (by omega), a4, h2 _ _ (by omega) (by omega)]
  · rw [h1 _ _ (by omega) (by omega), a11 j hj, h2 _ _ (by omega) (by omega)]
theorem dev_wpt {I : zI} : (∀ j, j < 2 → devI I 3 22 j = 1) ∧ (∀ j, j < 4 → devI I 3 25 j = 1) ∧ devI I 3 30 0 = 1 ∧ devI I 3 30 5 = 1 ∧ devI I 3 30 1 = I 3 30 1 ∧ devI I 3 0 8 = I 3 0 8 := by
  have e : ∀ k j, k < 35 → devI I 3 k j = devJ I 3 k j := fun k j hk => shI_off (by omega)
  refine ⟨fun j hj => ?_, fun j hj => ?_, ?_, ?_, ?_, ?_⟩
  · rw [e _ _ (by omega)]
    have h2 : j = 0 ∨ j = 1 := by omega
    rcases h2 with rfl | rfl <;> simp [devJ, up3, tapI_off, plaI_off, wgtI]
  · rw [e _ _ (by omega)]
    have h2 : j = 0 ∨ j = 1 ∨ j = 2 ∨ j = 3 := by omega
    rcases h2 with rfl | rfl | rfl | rfl <;> simp [devJ, up3, tapI_off, plaI]
  · rw [e _ _ (by omega)]; simp [devJ, up3, tapI]
  · rw [e _ _ (by omega)]; simp [devJ, up3, tapI]
  · rw [e _ _ (by omega)]; simp [devJ, up3, tapI, plaI_off, wgtI_off, roadI_off]
  · rw [e _ _ (by omega)]; simp [devJ, up3, tapI_off, plaI_off, wgtI_off, roadI_off]
theorem zdf_same {I X : zI} {Y : zY} {g : zG} {A : Nat → Prop} {ad : zA} {S : zSh} {H : Heap} (h : zW g A ad (zcut 3 51 (zdv 8 S)) (devI I) X Y H) : zW g A ad (zdf S) (devI I) X Y H := by
  refine h.same fun b k sh2 h2 => ?_
  by_cases hb : b = 3
  · subst hb
    have h0 := dev_0 (I := I)
    have hr1 := dev_road (I := I) (r := 1) (Or.inl rfl)
    have hr8 := dev_road (I := I) (r := 8) (Or.inr (Or.inl rfl))
    have hr15 := dev_road (I := I) (r := 15) (Or.inr (Or.inr rfl))
    have hw := dev_wpt (I := I)
    have hs : ∀ s, s < 8 → devI I 3 (35 + 2 * s) 2 = 1 := fun s hs => (shI_v hs).2.1
    have h3 : dsh k = some sh2 := h2
    match k, h3 with
    | 0, h3 => cases h3; exact ⟨_, rfl, zobj (by simp only [List.mapIdx_cons, List.mapIdx_nil, Nat.reduceAdd]; rw [zfv_1 (h0 0 (by decide)), zfv_1 (h0 1 (by decide)), zfv_1 (h0 2 (by decide)), zfv_1 (h0 3 (by decide)), zfv_1 (h0 4 (by decide)), zfv_1 (h0 5 (by decide)), zfv_1 (h0 6 (by decide)), zfv_1 (h0 7 (by decide))] <;> rfl)⟩
    | 1, h3 => cases h3; exact ⟨_, rfl, zobj (by simp only [List.mapIdx_cons, List.mapIdx_nil, Nat.reduceAdd]; rw [zfv_1 (hr1.1 0 (by decide)), zfv_1 (hr1.1 1 (by decide)), zfv_1 (hr1.1 2 (by decide))] <;> rfl)⟩
    | 2, h3 => cases h3; exact ⟨_, rfl, zobj (by simp only [List.mapIdx_cons, List.mapIdx_nil, Nat.reduceAdd]; rw [zfv_1 (hr1.2.1 0 (by decide))] <;> rfl)⟩
    | 3, h3 => cases h3; exact ⟨_, rfl, rfl⟩
    | 4, h3 => cases h3; exact ⟨_, rfl, zobj (by simp only [List.mapIdx_cons, List.mapIdx_nil, Nat.reduceAdd]; rw [zfv_1 (hr1.2.1 1 (by decide))] <;> rfl)⟩
    | 5, h3 => cases h3; exact ⟨_, rfl, rfl⟩
    | 6, h3 => cases h3; exact ⟨_, rfl, zobj (by simp only [List.mapIdx_cons, List.mapIdx_nil, Nat.reduceAdd]; rw [zfv_1 (hr1.2.1 2 (by decide))] <;> rfl)⟩
    | 7, h3 => cases h3; exact ⟨_, rfl, rfl⟩
    | 8, h3 => cases h3; exact ⟨_, rfl, zobj (by simp only [List.mapIdx_cons, List.mapIdx_nil, Nat.reduceAdd]; rw [zfv_1 (hr8.1 0 (by decide)), zfv_1 (hr8.1 1 (by decide)), zfv_1 (hr8.1 2 (by decide))] <;> rfl)⟩
    | 9, h3 => cases h3; exact ⟨_, rfl, zobj (by simp only [List.mapIdx_cons, List.mapIdx_nil, Nat.reduceAdd]; rw [zfv_1 (hr8.2.1 0 (by decide))] <;> rfl)⟩
    | 10, h3 => cases h3; exact ⟨_, rfl, rfl⟩
    | 11, h3 => cases h3; exact ⟨_, rfl, zobj (by simp only [List.mapIdx_cons, List.mapIdx_nil, Nat.reduceAdd]; rw [zfv_1 (hr8.2.1 1 (by decide))] <;> rfl)⟩
    | 12, h3 => cases h3; exact ⟨_, rfl, rfl⟩
    | 13, h3 => cases h3; exact ⟨_, rfl, zobj (by simp only [List.mapIdx_cons, List.mapIdx_nil, Nat.reduceAdd]; rw [zfv_1 (hr8.2.1 2 (by decide))] <;> rfl)⟩
    | 14, h3 => cases h3; exact ⟨_, rfl, rfl⟩
    | 15, h3 => cases h3; exact ⟨_, rfl, zobj (by simp only [List.mapIdx_cons, List.mapIdx_nil, Nat.reduceAdd]; rw [zfv_1 (hr15.1 0 (by decide)), zfv_1 (hr15.1 1 (by decide)), zfv_1 (hr15.1 2 (by decide))] <;> rfl)⟩
    | 16, h3 => cases h3; exact ⟨_, rfl, zobj (by simp only [List.mapIdx_cons, List.mapIdx_nil, Nat.reduceAdd]; rw [zfv_1 (hr15.2.1 0 (by decide))] <;> rfl)⟩
    | 17, h3 => cases h3; exact ⟨_, rfl, rfl⟩
    | 18, h3 => cases h3; exact ⟨_, rfl, zobj (by simp only [List.mapIdx_cons, List.mapIdx_nil, Nat.reduceAdd]; rw [zfv_1 (hr15.2.1 1 (by decide))] <;> rfl)⟩
    | 19, h3 => cases h3; exact ⟨_, rfl, rfl⟩
    | 20, h3 => cases h3; exact ⟨_, rfl, zobj (by simp only [List.mapIdx_cons, List.mapIdx_nil, Nat.reduceAdd]; rw [zfv_1 (hr15.2.1 2 (by decide))] <;> rfl)⟩
    | 21, h3 => cases h3; exact ⟨_, rfl, rfl⟩
    | 22, h3 => cases h3; exact ⟨_, rfl, zobj (by simp only [List.mapIdx_cons, List.mapIdx_nil, Nat.reduceAdd]; rw [zfv_1 (hw.1 0 (by decide)), zfv_1 (hw.1 1 (by decide))] <;> rfl)⟩
    | 23, h3 => cases h3; exact ⟨_, rfl, rfl⟩
    | 24, h3 => cases h3; exact ⟨_, rfl, rfl⟩
    | 25, h3 => cases h3; exact ⟨_, rfl, zobj (by simp only [List.mapIdx_cons, List.mapIdx_nil, Nat.reduceAdd]; rw [zfv_1 (hw.2.1 0 (by decide)), zfv_1 (hw.2.1 1 (by decide)), zfv_1 (hw.2.1 2 (by decide)), zfv_1 (hw.2.1 3 (by decide))] <;> rfl)⟩
    | 26, h3 => cases h3; exact ⟨_, rfl, rfl⟩
    | 27, h3 => cases h3; exact ⟨_, rfl, rfl⟩
    | 28, h3 => cases h3; exact ⟨_, rfl, rfl⟩
    | 29, h3 => cases h3; exact ⟨_, rfl, rfl⟩
    | 30, h3 => cases h3; exact ⟨_, rfl, zobj (by simp only [List.mapIdx_cons, List.mapIdx_nil, Nat.reduceAdd]; rw [zfv_1 (hw.2.2.1), zfv_1 (hw.2.2.2.1)] <;> rfl)⟩
    | 31, h3 => cases h3; exact ⟨_, rfl, rfl⟩
    | 32, h3 => cases h3; exact ⟨_, rfl, rfl⟩
    | 33, h3 => cases h3; exact ⟨_, rfl, rfl⟩
    | 34, h3 => cases h3; exact ⟨_, rfl, rfl⟩
    | 35, h3 => cases h3; exact ⟨_, rfl, zobj (by simp only [List.mapIdx_cons, List.mapIdx_nil, Nat.reduceAdd]; rw [zfv_1 (hs 0 (by decide))] <;> rfl)⟩
    | 36, h3 => cases h3; exact ⟨_, rfl, rfl⟩
    | 37, h3 => cases h3; exact ⟨_, rfl, zobj (by simp only [List.mapIdx_cons, List.mapIdx_nil, Nat.reduceAdd]; rw [zfv_1 (hs 1 (by decide))] <;> rfl)⟩
    | 38, h3 => cases h3; exact ⟨_, rfl, rfl⟩
    | 39, h3 => cases h3; exact ⟨_, rfl, zobj (by simp only [List.mapIdx_cons, List.mapIdx_nil, Nat.reduceAdd]; rw [zfv_1 (hs 2 (by decide))] <;> rfl)⟩
    | 40, h3 => cases h3; exact ⟨_, rfl, rfl⟩
    | 41, h3 => cases h3; exact ⟨_, rfl, zobj (by simp only [List.mapIdx_cons, List.mapIdx_nil, Nat.reduceAdd]; rw [zfv_1 (hs 3 (by decide))] <;> rfl)⟩
    | 42, h3 => cases h3; exact ⟨_, rfl, rfl⟩
    | 43, h3 => cases h3; exact ⟨_, rfl, zobj (by simp only [List.mapIdx_cons, List.mapIdx_nil, Nat.reduceAdd]; rw [zfv_1 (hs 4 (by decide))] <;> rfl)⟩
    | 44, h3 => cases h3; exact ⟨_, rfl, rfl⟩
    | 45, h3 => cases h3; exact ⟨_, rfl, zobj (by simp only [List.mapIdx_cons, List.mapIdx_nil, Nat.reduceAdd]; rw [zfv_1 (hs 5 (by decide))] <;> rfl)⟩
    | 46, h3 => cases h3; exact ⟨_, rfl, rfl⟩
    | 47, h3 => cases h3; exact ⟨_, rfl, zobj (by simp only [List.mapIdx_cons, List.mapIdx_nil, Nat.reduceAdd]; rw [zfv_1 (hs 6 (by decide))] <;> rfl)⟩
    | 48, h3 => cases h3; exact ⟨_, rfl, rfl⟩
    | 49, h3 => cases h3; exact ⟨_, rfl, zobj (by simp only [List.mapIdx_cons, List.mapIdx_nil, Nat.reduceAdd]; rw [zfv_1 (hs 7 (by decide))] <;> rfl)⟩
    | 50, h3 => cases h3; exact ⟨_, rfl, rfl⟩
    | k + 51, h3 => cases h3
  · have h3 : S b k = some sh2 := by
      have h4 : (if b = 3 then dsh k else S b k) = some sh2 := h2
      rwa [if_neg hb] at h4
    refine ⟨sh2, ?_, rfl⟩
    show (if b = 3 ∧ 51 ≤ k then none else zdv 8 S b k) = _
    rw [if_neg (fun z => hb z.1)]
    show (if b = 3 then _ else S b k) = _
    rw [if_neg hb]; exact h3
section
variable {ad : zA} {S : zSh} {I X : zI} {Y : zY} {sz : Nat}

theorem c_X6_init (hI : ∀ k j, I 3 k j = 0) (hX : ∀ k j, X 3 k j = 0) (hY : ∀ k j, Y 3 k j = 0) (hz : ∀ i, ad 3 (1 + i) = sz + i) : zCall mX6_init 3 50 (2850) [zr 3 0] (none) ad (zcut 3 1 (zdv 0 S)) I X Y (sz) (zdf S) (devI I) X Y (sz + 50) := by
  refine zgo (own := RX6) (k := 1) (by decide +kernel) rfl rfl rfl (fun C hC hnm hE => ?_)
  have hI : ∀ k j, 0 ≤ k → I 3 k j = 0 := fun k j _ => hI k j
  refine z_aload_n hC dX6_init_0 rfl ?_
  refine z_obj hC dX6_init_1 (zin1 (i := 21) rfl rfl) (zin1 (i := 22) rfl rfl) (zin1 (i := 23) rfl rfl) rfl rfl ?_
  refine z_aload_n hC dX6_init_4 rfl ?_
  refine z_new hC (b := 3) (ci := 1) dX6_init_5 rfl ⟨(zin1 (i := 24) rfl rfl), (zin1 (i := 25) rfl rfl), (zin1 (i := 2) rfl rfl)⟩ rfl rfl (fun j => by exact hI _ _ (by omega)) (hz 0) ⟨by decide, by decide⟩ ?_
  refine z_dup hC dX6_init_8 rfl ?_
  refine zIv hC dX6_init_9 zlX6_9 (c_X1_init (S := zdv 0 S) (r := 1) ⟨rfl, rfl, rfl, rfl, rfl, rfl, rfl⟩ (fun k j hk => by exact hI _ _ (by omega)) hX (fun i => by rw [show 2 + i = 1 + (1 + i) by omega, hz]; omega)) rfl rfl rfl rfl ⟨by decide, by decide⟩ ?_
  refine z_putOF hC hnm dX6_init_12 (zcut_lt (k := 0) (S := zdv 0 S) rfl (by omega)) zfX6_10 rfl rfl rfl rfl (ty := (.object "OnTheRoof$Road")) (by decide +kernel) (fun _ => rfl) (fun _ => rfl) ?_
  refine z_aload_n hC dX6_init_15 rfl ?_
  refine z_new hC (b := 3) (ci := 1) dX6_init_16 rfl ⟨(zin1 (i := 24) rfl rfl), (zin1 (i := 25) rfl rfl), (zin1 (i := 2) rfl rfl)⟩ rfl rfl (fun j => by rw [up3_ne (by omega), roadI_off (by omega)]; exact hI _ _ (by omega)) (hz 7) ⟨by decide, by decide⟩ ?_
  refine z_dup hC dX6_init_19 rfl ?_
  refine zIv hC dX6_init_20 zlX6_9 (c_X1_init (S := zdv 0 S) (r := 8) ⟨rfl, rfl, rfl, rfl, rfl, rfl, rfl⟩ (fun k j hk => by rw [up3_ne (by omega), roadI_off (by omega)]; exact hI _ _ (by omega)) hX (fun i => by rw [show 9 + i = 1 + (8 + i) by omega, hz]; omega)) rfl rfl rfl rfl ⟨by decide, by decide⟩ ?_
  refine z_putOF hC hnm dX6_init_23 (zcut_lt (k := 0) (S := zdv 0 S) rfl (by omega)) zfX6_16 rfl rfl rfl rfl (ty := (.object "OnTheRoof$Road")) (by decide +kernel) (fun _ => rfl) (fun _ => rfl) ?_
  refine z_aload_n hC dX6_init_26 rfl ?_
  refine z_new hC (b := 3) (ci := 1) dX6_init_27 rfl ⟨(zin1 (i := 24) rfl rfl), (zin1 (i := 25) rfl rfl), (zin1 (i := 2) rfl rfl)⟩ rfl rfl (fun j => by rw [up3_ne (by omega), roadI_off (by omega), up3_ne (by omega), roadI_off (by omega)]; exact hI _ _ (by omega)) (hz 14) ⟨by decide, by decide⟩ ?_
  refine z_dup hC dX6_init_30 rfl ?_
  refine zIv hC dX6_init_31 zlX6_9 (c_X1_init (S := zdv 0 S) (r := 15) ⟨rfl, rfl, rfl, rfl, rfl, rfl, rfl⟩ (fun k j hk => by rw [up3_ne (by omega), roadI_off (by omega), up3_ne (by omega), roadI_off (by omega)]; exact hI _ _ (by omega)) hX (fun i => by rw [show 16 + i = 1 + (15 + i) by omega, hz]; omega)) rfl rfl rfl rfl ⟨by decide, by decide⟩ ?_
  refine z_putOF hC hnm dX6_init_34 (zcut_lt (k := 0) (S := zdv 0 S) rfl (by omega)) zfX6_19 rfl rfl rfl rfl (ty := (.object "OnTheRoof$Road")) (by decide +kernel) (fun _ => rfl) (fun _ => rfl) ?_
  refine z_aload_n hC dX6_init_37 rfl ?_
  refine z_new hC (b := 3) (ci := 5) dX6_init_38 rfl ⟨(zin1 (i := 89) rfl rfl), (zin1 (i := 90) rfl rfl), (zin1 (i := 5) rfl rfl)⟩ rfl rfl (fun j => by rw [up3_ne (by omega), roadI_off (by omega), up3_ne (by omega), roadI_off (by omega), up3_ne (by omega), roadI_off (by omega)]; exact hI _ _ (by omega)) (hz 21) ⟨by decide, by decide⟩ ?_
  refine z_dup hC dX6_init_41 rfl ?_
  refine zIv hC dX6_init_42 zlX6_24 (c_X5_init (S := zdv 0 S) rfl rfl rfl hX (fun i => by rw [show 23 + i = 1 + (22 + i) by omega, hz]; omega)) rfl rfl rfl rfl ⟨by decide, by decide⟩ ?_
  refine z_putOF hC hnm dX6_init_45 (zcut_lt (k := 0) (S := zdv 0 S) rfl (by omega)) zfX6_25 rfl rfl rfl rfl (ty := (.object "OnTheRoof$Weights")) (by decide +kernel) (fun _ => rfl) (fun _ => rfl) ?_
  refine z_aload_n hC dX6_init_48 rfl ?_
  refine z_new hC (b := 3) (ci := 0) dX6_init_49 rfl ⟨(zin1 (i := 109) rfl rfl), (zin1 (i := 110) rfl rfl), (zin1 (i := 6) rfl rfl)⟩ rfl rfl (fun j => by rw [up3_ne (by omega), wgtI_off (by omega), up3_ne (by omega), roadI_off (by omega), up3_ne (by omega), roadI_off (by omega), up3_ne (by omega), roadI_off (by omega)]; exact hI _ _ (by omega)) (hz 24) ⟨by decide, by decide⟩ ?_
  refine z_dup hC dX6_init_52 rfl ?_
  refine zIv hC dX6_init_53 zlX6_31 (c_X0_init (S := zdv 0 S) rfl rfl rfl rfl rfl hX (fun i => by rw [show 26 + i = 1 + (25 + i) by omega, hz]; omega)) rfl rfl rfl rfl ⟨by decide, by decide⟩ ?_
  refine z_putOF hC hnm dX6_init_56 (zcut_lt (k := 0) (S := zdv 0 S) rfl (by omega)) zfX6_32 rfl rfl rfl rfl (ty := (.object "OnTheRoof$Plan")) (by decide +kernel) (fun _ => rfl) (fun _ => rfl) ?_
  refine z_aload_n hC dX6_init_59 rfl ?_
  refine z_new hC (b := 3) (ci := 4) dX6_init_60 rfl ⟨(zin1 (i := 128) rfl rfl), (zin1 (i := 129) rfl rfl), (zin1 (i := 7) rfl rfl)⟩ rfl rfl (fun j => by rw [up3_ne (by omega), plaI_off (by omega), up3_ne (by omega), wgtI_off (by omega), up3_ne (by omega), roadI_off (by omega), up3_ne (by omega), roadI_off (by omega), up3_ne (by omega), roadI_off (by omega)]; exact hI _ _ (by omega)) (hz 29) ⟨by decide, by decide⟩ ?_
  refine z_dup hC dX6_init_63 rfl ?_
  refine zIv hC dX6_init_64 zlX6_38 (c_X4_init (S := zdv 0 S) rfl rfl rfl hX (fun i => by rw [show 31 + i = 1 + (30 + i) by omega, hz]; omega)) rfl rfl rfl rfl ⟨by decide, by decide⟩ ?_
  refine z_putOF hC hnm dX6_init_67 (zcut_lt (k := 0) (S := zdv 0 S) rfl (by omega)) zfX6_39 rfl rfl rfl rfl (ty := (.object "OnTheRoof$Tape")) (by decide +kernel) (fun _ => rfl) (fun _ => rfl) ?_
  refine z_aload_n hC dX6_init_70 rfl ?_
  refine z_iconst hC dX6_init_71 (v := nI 5) rfl ?_
  refine z_nwI hC (b := 3) dX6_init_72 (zin1 (i := 52) rfl rfl) rfl rfl (by decide) (hX _) (hz 32) ⟨by decide, by decide⟩ ?_
  refine z_putOF hC hnm dX6_init_74 (zcut_lt (k := 0) (S := zdv 0 S) rfl (by omega)) zfX6_43 rfl rfl rfl rfl (ty := (.array .int)) (by decide +kernel) (fun _ => rfl) (fun _ => rfl) ?_
  refine z_aload_n hC dX6_init_77 rfl ?_
  refine z_bipush hC dX6_init_78 (v := nI 8) rfl ?_
  refine z_nwQ hC (b := 3) (n := 8) dX6_init_80 (zin1 (i := 154) rfl rfl) rfl rfl (by decide) (hz 33) ⟨by decide, by decide⟩ ?_
  refine z_putOF hC hnm dX6_init_83 (zcut_lt (k := 0) (S := zdv 0 S) rfl (by omega)) zfX6_49 rfl rfl rfl rfl (ty := (.array (.object "OnTheRoof$Shelf"))) (by decide +kernel) (fun _ => rfl) (fun _ => rfl) ?_
  refine z_iconst hC dX6_init_86 (v := nI 0) rfl ?_
  refine z_istore_n hC dX6_init_87 (lo2 := [_, _]) (Nat.le_of_ble_eq_true rfl) rfl rfl ?_
  have loop88 : ∀ (fuel : Nat) (i : Nat), 8 - i < fuel → i ≤ 8 → zL C 2 ad (zcut 3 (35 + 2 * i) (zdv i S)) (34 + 2 * i) (2506 + 43 * i) (sz + (34 + 2 * i)) (shI i (devJ I)) X Y 88 [some (zr 3 0), some (zi (nI i))] [] := by
    intro fuel
    induction fuel with
    | zero => intro i hfu; exact absurd hfu (Nat.not_lt_zero _)
    | succ fuel ih =>
      intro i hfu hi9
      have hf6 : shI i (devJ I) 3 0 6 = 1 := by rw [shI_off (by omega)]; exact up3_eq _ _ _ _ _
      refine z_iload_n hC dX6_init_88 rfl ?_
      refine z_aload_n hC dX6_init_89 rfl ?_
      refine z_getO hC dX6_init_90 (zcut_lt (k := 0) (S := zdv i S) rfl (by omega)) zfX6_49 rfl (fun c90 => ?_) (fun c90 => ?_)
      · exact absurd c90 (by rw [hf6]; decide)
      refine z_alenQ hC (by decide) dX6_init_93 (zcut_lt (S := zdv i S) (x := some (.inr (.inr (0, elN i)))) rfl (by omega)) (v := nI 8) rfl ?_
      refine z_nicmp_ge hC dX6_init_94 (tgt := 116) (by decide) (by omega) (by omega) (fun c94 => ?_) (fun c94 => ?_)
      · skip
        obtain rfl : i = 8 := by omega
        refine z_widen (k := 50) (n := (2850)) (by decide) (by decide) ?_
        refine z_vret hC dX6_init_116 ?_
        exact hE.re (fun g A H h => zdf_same h)
      have hi8 : i < 8 := by omega
      refine z_aload_n hC dX6_init_97 rfl ?_
      refine z_getO hC dX6_init_98 (zcut_lt (k := 0) (S := zdv i S) rfl (by omega)) zfX6_49 rfl (fun c98 => ?_) (fun c98 => ?_)
      · exact absurd c98 (by rw [hf6]; decide)
      refine z_iload_n hC dX6_init_101 rfl ?_
      refine z_new hC (b := 3) (ci := 2) dX6_init_102 rfl ⟨(zin1 (i := 154) rfl rfl), (zin1 (i := 156) rfl rfl), (zin1 (i := 8) rfl rfl)⟩ (zdv_s hi8).1 rfl (fun j => by rw [shI_off (by omega)]; unfold devJ; rw [up3_ne (by omega), up3_ne (by omega), up3_ne (by omega), tapI_off (by omega), up3_ne (by omega), plaI_off (by omega), up3_ne (by omega), wgtI_off (by omega), up3_ne (by omega), roadI_off (by omega), up3_ne (by omega), roadI_off (by omega), up3_ne (by omega), roadI_off (by omega)]; exact hI _ _ (by omega)) (by rw [show 35 + 2 * i = 1 + (34 + 2 * i) by omega]; exact hz _) ⟨by omega, by show _ + 3 ≤ _; omega⟩ ?_
      refine z_dup hC dX6_init_105 rfl ?_
      refine zIv hC dX6_init_106 zlX6_53 (c_X2_init (S := zdv i S) (k := 35 + 2 * i) (zdv_s hi8).1 (zdv_s hi8).2 (hY _) (by rw [show 35 + 2 * i + 1 = 1 + (35 + 2 * i) by omega, hz]; omega)) rfl rfl rfl rfl ⟨by omega, by show _ + 3 + 40 ≤ _; omega⟩ ?_
      refine z_aast hC dX6_init_109 (zcut_lt (S := zdv i S) (x := some (.inr (.inr (0, elN i)))) rfl (by omega)) (by show i < 8; omega) (by omega) (zcut_lt (zdv_s hi8).1 (by omega)) ?_
      refine z_S (zdv_up hi8) ?_
      refine z_ninc hC dX6_init_110 (lo2 := [_, _]) rfl rfl rfl rfl ?_
      refine z_goto hC dX6_init_113 (tgt := 88) (by decide) ?_
      exact ih (i + 1) (by omega) (by omega)
  exact loop88 _ 0 (Nat.lt_succ_self _) (Nat.zero_le _)

end
def R0 : RS := (fun c => if c = 3 then 3 else 0, fun _ _ => 0, -1, nI 1)
def D0 : DS := (R0, none, (fun _ => 0, 0), (fun _ => none, fun _ => 0, fun _ _ => 0), fun _ => 0)
theorem D0_ok : DOK D0 := by
  refine ⟨⟨by decide, by decide, by decide, ⟨by decide, by decide⟩, by decide, by decide, fun i hi => absurd hi (Nat.not_lt_zero _), fun i hi => absurd hi (Nat.not_lt_zero _), fun i hi => absurd hi (Nat.not_lt_zero _)⟩, fun K hK => (by cases hK), ⟨by decide, fun i hi => absurd hi (Nat.not_lt_zero _)⟩, fun s hs => ⟨Nat.zero_le _, fun q hq => (by cases hq)⟩⟩
theorem D0_me {I X : zI} {Y : zY} (hI : ∀ k j, I 3 k j = 0) (hX : ∀ k j, X 3 k j = 0) (hY : ∀ k j, Y 3 k j = 0) : DMe D0 (devI I) X Y := by
  obtain ⟨-, -, a3, a4, a5, a6, a7, a8, a9, a10, a11⟩ := dev_road (I := I) (r := 1) (Or.inl rfl)
  obtain ⟨-, -, -, -, -, b6, b7, b8, -, -, -⟩ := dev_road (I := I) (r := 8) (Or.inr (Or.inl rfl))
  obtain ⟨-, -, -, -, -, d6, d7, d8, -, -, -⟩ := dev_road (I := I) (r := 15) (Or.inr (Or.inr rfl))
  obtain ⟨-, -, -, -, e1, e2⟩ := dev_wpt (I := I)
  have z : (0 : Int32) = nI 0 := rfl
  refine ⟨⟨⟨a6, (a11 0 (by decide)).trans (hI _ _), fun i j hi => absurd hi (Nat.not_lt_zero _)⟩, ⟨a7, (a11 1 (by decide)).trans (hI _ _), fun i j hi => absurd hi (Nat.not_lt_zero _)⟩, ⟨a8, (a11 2 (by decide)).trans (hI _ _), fun i j hi => absurd hi (Nat.not_lt_zero _)⟩, a3, a9.trans (hI _ _), a10.trans (hI _ _), a4, a5⟩, e2.trans (hI _ _), fun K hK => (by cases hK), ⟨e1.trans (hI _ _), fun i hi => absurd hi (Nat.not_lt_zero _)⟩, fun s hs => ⟨(shI_v hs).1, (shI_v hs).2.2.trans ?_, fun i hi => hY _ _⟩, fun j hj => hX _ _, ⟨b6, b7, b8⟩, ⟨d6, d7, d8⟩⟩
  unfold devJ
  rw [up3_ne (by omega), up3_ne (by omega), up3_ne (by omega), tapI_off (by omega), up3_ne (by omega), plaI_off (by omega), up3_ne (by omega), wgtI_off (by omega), up3_ne (by omega), roadI_off (by omega), up3_ne (by omega), roadI_off (by omega), up3_ne (by omega), roadI_off (by omega)]
  exact hI _ _

