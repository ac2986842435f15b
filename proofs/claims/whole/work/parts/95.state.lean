/-! the law: its memory, its calls -/
def lS (qe ke : Bool) : zSh := fun b k => if b = 0 then msh 0 k else if b = 1 then (if qe = true then msh 1 k else none) else if b = 2 then (if ke = true then msh 2 k else none) else if b = 3 then dsh k else none
def lM (qe ke : Bool) : zSh := fun b k => if b = 3 then none else lS qe ke b k
def aB (f : zA) (z1 z2 : Nat) : zA := fun b k => if b = 1 then z1 + k else if b = 2 then z2 + k else f b k
theorem lM_1 {ke : Bool} {qe : Bool} : zmd 1 (lM qe ke) = lM true ke := by
  funext b k
  unfold zmd lM lS
  by_cases e : b = 1
  · subst e; rfl
  · by_cases e3 : b = 3
    · subst e3; rfl
    · simp only [if_neg e, if_neg e3]
theorem lM_2 {ke : Bool} {qe : Bool} : zmd 2 (lM qe ke) = lM qe true := by
  funext b k
  unfold zmd lM lS
  by_cases e : b = 2
  · subst e; rfl
  · by_cases e3 : b = 3
    · subst e3; rfl
    · simp only [if_neg e, if_neg e3]
theorem msh_lt {b k : Nat} {sh : zS} (h : msh b k = some sh) : k < 47 := by
  rcases Nat.lt_or_ge k 47 with h' | h'
  · exact h'
  · obtain ⟨k1, rfl⟩ := Nat.exists_eq_add_of_le h'
    rw [Nat.add_comm] at h
    cases h
theorem dsh_lt {k : Nat} {sh : zS} (h : dsh k = some sh) : k < 51 := by
  rcases Nat.lt_or_ge k 51 with h' | h'
  · exact h'
  · obtain ⟨k1, rfl⟩ := Nat.exists_eq_add_of_le h'
    rw [Nat.add_comm] at h
    cases h
theorem msh_some {b k : Nat} (h : k < 47) : msh b k ≠ none := by
  match k, h with
  | 0, _ => exact fun z => by cases z
  | 1, _ => exact fun z => by cases z
  | 2, _ => exact fun z => by cases z
  | 3, _ => exact fun z => by cases z
  | 4, _ => exact fun z => by cases z
  | 5, _ => exact fun z => by cases z
  | 6, _ => exact fun z => by cases z
  | 7, _ => exact fun z => by cases z
  | 8, _ => exact fun z => by cases z
  | 9, _ => exact fun z => by cases z
  | 10, _ => exact fun z => by cases z
  | 11, _ => exact fun z => by cases z
  | 12, _ => exact fun z => by cases z
  | 13, _ => exact fun z => by cases z
  | 14, _ => exact fun z => by cases z
  | 15, _ => exact fun z => by cases z
  | 16, _ => exact fun z => by cases z
  | 17, _ => exact fun z => by cases z
  | 18, _ => exact fun z => by cases z
  | 19, _ => exact fun z => by cases z
  | 20, _ => exact fun z => by cases z
  | 21, _ => exact fun z => by cases z
  | 22, _ => exact fun z => by cases z
  | 23, _ => exact fun z => by cases z
  | 24, _ => exact fun z => by cases z
  | 25, _ => exact fun z => by cases z
  | 26, _ => exact fun z => by cases z
  | 27, _ => exact fun z => by cases z
  | 28, _ => exact fun z => by cases z
  | 29, _ => exact fun z => by cases z
  | 30, _ => exact fun z => by cases z
  | 31, _ => exact fun z => by cases z
  | 32, _ => exact fun z => by cases z
  | 33, _ => exact fun z => by cases z
  | 34, _ => exact fun z => by cases z
  | 35, _ => exact fun z => by cases z
  | 36, _ => exact fun z => by cases z
  | 37, _ => exact fun z => by cases z
  | 38, _ => exact fun z => by cases z
  | 39, _ => exact fun z => by cases z
  | 40, _ => exact fun z => by cases z
  | 41, _ => exact fun z => by cases z
  | 42, _ => exact fun z => by cases z
  | 43, _ => exact fun z => by cases z
  | 44, _ => exact fun z => by cases z
  | 45, _ => exact fun z => by cases z
  | 46, _ => exact fun z => by cases z
  | k + 47, h => omega
theorem dsh_some {k : Nat} (h : k < 51) : dsh k ≠ none := by
  match k, h with
  | 0, _ => exact fun z => by cases z
  | 1, _ => exact fun z => by cases z
  | 2, _ => exact fun z => by cases z
  | 3, _ => exact fun z => by cases z
  | 4, _ => exact fun z => by cases z
  | 5, _ => exact fun z => by cases z
  | 6, _ => exact fun z => by cases z
  | 7, _ => exact fun z => by cases z
  | 8, _ => exact fun z => by cases z
  | 9, _ => exact fun z => by cases z
  | 10, _ => exact fun z => by cases z
  | 11, _ => exact fun z => by cases z
  | 12, _ => exact fun z => by cases z
  | 13, _ => exact fun z => by cases z
  | 14, _ => exact fun z => by cases z
  | 15, _ => exact fun z => by cases z
  | 16, _ => exact fun z => by cases z
  | 17, _ => exact fun z => by cases z
  | 18, _ => exact fun z => by cases z
  | 19, _ => exact fun z => by cases z
  | 20, _ => exact fun z => by cases z
  | 21, _ => exact fun z => by cases z
  | 22, _ => exact fun z => by cases z
  | 23, _ => exact fun z => by cases z
  | 24, _ => exact fun z => by cases z
  | 25, _ => exact fun z => by cases z
  | 26, _ => exact fun z => by cases z
  | 27, _ => exact fun z => by cases z
  | 28, _ => exact fun z => by cases z
  | 29, _ => exact fun z => by cases z
  | 30, _ => exact fun z => by cases z
  | 31, _ => exact fun z => by cases z
  | 32, _ => exact fun z => by cases z
  | 33, _ => exact fun z => by cases z
  | 34, _ => exact fun z => by cases z
  | 35, _ => exact fun z => by cases z
  | 36, _ => exact fun z => by cases z
  | 37, _ => exact fun z => by cases z
  | 38, _ => exact fun z => by cases z
  | 39, _ => exact fun z => by cases z
  | 40, _ => exact fun z => by cases z
  | 41, _ => exact fun z => by cases z
  | 42, _ => exact fun z => by cases z
  | 43, _ => exact fun z => by cases z
  | 44, _ => exact fun z => by cases z
  | 45, _ => exact fun z => by cases z
  | 46, _ => exact fun z => by cases z
  | 47, _ => exact fun z => by cases z
  | 48, _ => exact fun z => by cases z
  | 49, _ => exact fun z => by cases z
  | 50, _ => exact fun z => by cases z
  | k + 51, h => omega
/-- a field, an element that names places of its own block only; or the two of the reference's object -/
def zgf (b k j : Nat) : zF → Bool
  | .inl (.inr (.inr (some q))) => q.1 == b
  | .inr (some q) => q.1 == b || (b == 0 && (k == 0 && (j == 28 && (q.1 == 2 && q.2 == 0) || j == 29 && (q.1 == 1 && q.2 == 0))))
  | _ => true
def zge (b : Nat) : Option (Nat × Nat) → Bool
  | some q => q.1 == b
  | none => true
def zgood (b k : Nat) : zS → Bool
  | .inl _ => true
  | .inr (.inl (_, fl)) => (fl.mapIdx (fun j f => zgf b k j f)).all id
  | .inr (.inr (_, el)) => el.all (zge b)
def zgo2 (b k : Nat) : Option zS → Bool
  | some sh => zgood b k sh
  | none => true
theorem msh_good0 : ∀ k, k < 47 → zgo2 0 k (msh 0 k) = true := by decide +kernel
theorem msh_good1 : ∀ k, k < 47 → zgo2 1 k (msh 1 k) = true := by decide +kernel
theorem msh_good2 : ∀ k, k < 47 → zgo2 2 k (msh 2 k) = true := by decide +kernel
theorem dsh_good : ∀ k, k < 51 → zgo2 3 k (dsh k) = true := by decide +kernel
theorem lS_e {qe ke : Bool} {b k : Nat} {sh : zS} (h : lS qe ke b k = some sh) : (b = 0 ∧ msh 0 k = some sh) ∨ (b = 1 ∧ qe = true ∧ msh 1 k = some sh) ∨ (b = 2 ∧ ke = true ∧ msh 2 k = some sh) ∨ (b = 3 ∧ dsh k = some sh) := by
  unfold lS at h
  by_cases e0 : b = 0
  · rw [if_pos e0] at h; exact Or.inl ⟨e0, h⟩
  · rw [if_neg e0] at h
    by_cases e1 : b = 1
    · rw [if_pos e1] at h
      by_cases q : qe = true
      · rw [if_pos q] at h; exact Or.inr (Or.inl ⟨e1, q, h⟩)
      · rw [if_neg q] at h; cases h
    · rw [if_neg e1] at h
      by_cases e2 : b = 2
      · rw [if_pos e2] at h
        by_cases q : ke = true
        · rw [if_pos q] at h; exact Or.inr (Or.inr (Or.inl ⟨e2, q, h⟩))
        · rw [if_neg q] at h; cases h
      · rw [if_neg e2] at h
        by_cases e3 : b = 3
        · rw [if_pos e3] at h; exact Or.inr (Or.inr (Or.inr ⟨e3, h⟩))
        · rw [if_neg e3] at h; cases h
theorem lS_good {qe ke : Bool} {b k : Nat} {sh : zS} (h : lS qe ke b k = some sh) : zgood b k sh = true := by
  rcases lS_e h with ⟨rfl, h1⟩ | ⟨rfl, -, h1⟩ | ⟨rfl, -, h1⟩ | ⟨rfl, h1⟩
  · have h2 := msh_good0 k (msh_lt h1); rw [h1] at h2; exact h2
  · have h2 := msh_good1 k (msh_lt h1); rw [h1] at h2; exact h2
  · have h2 := msh_good2 k (msh_lt h1); rw [h1] at h2; exact h2
  · have h2 := dsh_good k (dsh_lt h1); rw [h1] at h2; exact h2
theorem lS_some {qe ke : Bool} {b k : Nat} (h : lS qe ke b k ≠ none) : ∃ sh, lS qe ke b k = some sh := by
  cases e : lS qe ke b k with
  | none => exact absurd e h
  | some sh => exact ⟨sh, rfl⟩
theorem zcell_re {g : zG} {ad ad' : zA} {I X : zI} {Y : zY} {b k : Nat} {sh : zS} (hg : zgood b k sh = true) (hb : ∀ j, ad' b j = ad b j) (h0 : b = 0 → k = 0 → (¬ I 0 0 28 = 0 → ad' 2 0 = ad 2 0) ∧ (¬ I 0 0 29 = 0 → ad' 1 0 = ad 1 0)) : zcell g ad' I X Y b k sh = zcell g ad I X Y b k sh := by
  rcases sh with ⟨t, n⟩ | ⟨ci, fl⟩ | ⟨t, el⟩
  · cases t with
    | zero => rfl
    | succ t => rfl
  · show (Sum.inr (ci, fl.mapIdx (fun j f => rv ad' (zfv I b k j f))) : va_E) = Sum.inr (ci, fl.mapIdx (fun j f => rv ad (zfv I b k j f)))
    refine congrArg (fun z => (Sum.inr (ci, z) : va_E)) ?_
    refine List.ext_getElem? (fun j => ?_)
    rw [List.getElem?_mapIdx, List.getElem?_mapIdx]
    cases hf : fl[j]? with
    | none => rfl
    | some f =>
      have hgf : zgf b k j f = true := by
        have h1 := List.all_eq_true.mp hg (zgf b k j f) (List.mem_of_getElem? (i := j) (by rw [List.getElem?_mapIdx, hf]; rfl))
        exact h1
      refine congrArg some ?_
      rcases f with (x | x | _ | q) | _ | q
      · rfl
      · rfl
      · rfl
      · have h1 : q.1 = b := by simpa [zgf] using hgf
        obtain ⟨q1, q2⟩ := q
        have h1 : q1 = b := h1
        subst h1
        show Value.ref (ad' q1 q2) = Value.ref (ad q1 q2)
        rw [hb]
      · rfl
      · show rv ad' (zfv I b k j (.inr (some q))) = rv ad (zfv I b k j (.inr (some q)))
        by_cases hz : I b k j = 0
        · have e : zfv I b k j (.inr (some q)) = .inr (.inr none) := if_pos hz
          rw [e]; rfl
        · have e : zfv I b k j (.inr (some q)) = .inr (.inr (some q)) := if_neg hz
          rw [e]
          obtain ⟨q1, q2⟩ := q
          show Value.ref (ad' q1 q2) = Value.ref (ad q1 q2)
          by_cases h1 : q1 = b
          · subst h1; rw [hb]
          · have h2 : (q1 == b || (b == 0 && (k == 0 && (j == 28 && (q1 == 2 && q2 == 0) || j == 29 && (q1 == 1 && q2 == 0))))) = true := hgf
            simp only [Bool.or_eq_true, Bool.and_eq_true, beq_iff_eq] at h2
            rcases h2 with h2 | ⟨rfl, rfl, ⟨rfl, rfl, rfl⟩ | ⟨rfl, rfl, rfl⟩⟩
            · exact absurd h2 h1
            · rw [(h0 rfl rfl).1 hz]
            · rw [(h0 rfl rfl).2 hz]
  · show (Sum.inl (g.2 (t + 2), (el.length, .inr (.inr (.inr (.inr (fun j => zpl ad' el[j]?)))))) : va_E) = Sum.inl (g.2 (t + 2), (el.length, .inr (.inr (.inr (.inr (fun j => zpl ad el[j]?))))))
    have e : (fun j : Nat => zpl ad' el[j]?) = (fun j : Nat => zpl ad el[j]?) := by
      funext j
      cases hf : el[j]? with
      | none => rfl
      | some o =>
        rcases o with _ | ⟨q1, q2⟩
        · rfl
        · have h1 := List.all_eq_true.mp hg (some (q1, q2)) (List.mem_of_getElem? hf)
          have h1 : q1 = b := by simpa [zge] using h1
          subst h1
          show some (ad' q1 q2) = some (ad q1 q2)
          rw [hb]
    rw [e]
theorem zW_norm {g : zG} {A : Nat → Prop} {H : Heap} {f : zA} {z1 z2 z1' z2' : Nat} {qe ke k' : Bool} {I X I' X' : zI} {Y Y' : zY} (h : zW g A (aB f z1 z2) (lS qe ke) I X Y H) (hk : k' = true → ke = true) (hz1 : qe = true → z1' = z1) (hz2 : k' = true → z2' = z2) (h28 : ¬ I 0 0 28 = 0 → k' = true) (h29 : ¬ I 0 0 29 = 0 → qe = true)
    (hI : ∀ b k j, lS qe k' b k ≠ none → I' b k j = I b k j) (hX : ∀ b k j, lS qe k' b k ≠ none → X' b k j = X b k j) (hY : ∀ b k j, lS qe k' b k ≠ none → Y' b k j = Y b k j) : zW g A (aB f z1' z2') (lS qe k') I' X' Y' H := by
  have hsub : ∀ b k sh, lS qe k' b k = some sh → lS qe ke b k = some sh := by
    intro b k sh hs
    rcases lS_e hs with ⟨rfl, h1⟩ | ⟨rfl, q, h1⟩ | ⟨rfl, q, h1⟩ | ⟨rfl, h1⟩
    · exact h1
    · show (if qe = true then msh 1 k else none) = _; rw [if_pos q]; exact h1
    · show (if ke = true then msh 2 k else none) = _; rw [if_pos (hk q)]; exact h1
    · exact h1
  have had : ∀ b k sh, lS qe k' b k = some sh → ∀ j, aB f z1' z2' b j = aB f z1 z2 b j := by
    intro b k sh hs j
    rcases lS_e hs with ⟨rfl, h1⟩ | ⟨rfl, q, h1⟩ | ⟨rfl, q, h1⟩ | ⟨rfl, h1⟩
    · rfl
    · show z1' + j = z1 + j; rw [hz1 q]
    · show z2' + j = z2 + j; rw [hz2 q]
    · rfl
  refine ⟨fun b k sh hs => ?_, fun b k b' k2 g1 g2 e => ?_⟩
  · have hn : lS qe k' b k ≠ none := by rw [hs]; exact fun z => by cases z
    rw [zcell_off (hI b k · hn) (hX b k · hn) (hY b k · hn), zcell_re (ad := aB f z1 z2) (lS_good hs) (had b k sh hs) (fun _ _ => ⟨fun z => by show z2' + 0 = z2 + 0; rw [hz2 (h28 z)], fun z => by show z1' + 0 = z1 + 0; rw [hz1 (h29 z)]⟩), had b k sh hs]
    exact h.1 b k sh (hsub b k sh hs)
  · obtain ⟨s1, e1⟩ := lS_some g1
    obtain ⟨s2, e2⟩ := lS_some g2
    rw [had b k s1 e1, had b' k2 s2 e2] at e
    exact h.2 b k b' k2 (by rw [hsub _ _ _ e1]; exact fun z => by cases z) (by rw [hsub _ _ _ e2]; exact fun z => by cases z) e
theorem MMe.live {qe : Bool} {D : DS} {I X I' X' : zI} {Y Y' : zY} (h : MMe qe D I X Y) (h0 : ∀ k j, k < 47 → I' 0 k j = I 0 k j ∧ X' 0 k j = X 0 k j ∧ Y' 0 k j = Y 0 k j) (h2 : D.2.1.isSome = true → ∀ k j, k < 47 → I' 2 k j = I 2 k j ∧ X' 2 k j = X 2 k j) : MMe qe D I' X' Y' := by
  obtain ⟨g1, g2, g3, g4, ⟨g5, g6⟩, g7, g8⟩ := h
  refine ⟨g1.frame (fun j _ _ => (h0 _ _ (by omega)).1) (fun k j _ _ => (h0 _ _ (by omega)).2.1), by rw [(h0 _ _ (by omega)).1]; exact g2, by rw [(h0 _ _ (by omega)).1]; exact g3, fun K hK => (g4 K hK).frame (fun j _ _ => (h2 (by rw [hK]; rfl) _ _ (by omega)).1) (fun k j _ _ => (h2 (by rw [hK]; rfl) _ _ (by omega)).2), ⟨by rw [(h0 _ _ (by omega)).1]; exact g5, fun i hi => by rw [(h0 _ _ (by omega)).2.1]; exact g6 i hi⟩, fun s hs => (g7 s hs).at (fun k hk => (h0 _ _ (by omega)).2.1) (fun i _ => (h0 _ _ (by omega)).2.2), fun j hj => by rw [(h0 _ _ (by omega)).2.1]; exact g8 j hj⟩
theorem DMe.live {D : DS} {I X I' X' : zI} {Y Y' : zY} (h : DMe D I X Y) (h0 : ∀ k j, k < 51 → I' 3 k j = I 3 k j ∧ X' 3 k j = X 3 k j ∧ Y' 3 k j = Y 3 k j) : DMe D I' X' Y' := by
  obtain ⟨g1, g2, g3, ⟨g4, g5⟩, g6, g7, g8, g9⟩ := h
  refine ⟨g1.frame (fun k j _ _ => (h0 _ _ (by omega)).1) (fun k j _ _ => (h0 _ _ (by omega)).2.1), by rw [(h0 _ _ (by omega)).1]; exact g2, fun K hK => (g3 K hK).frame (fun k j _ _ => (h0 _ _ (by omega)).1) (fun k j _ _ => (h0 _ _ (by omega)).2.1), ⟨by rw [(h0 _ _ (by omega)).1]; exact g4, fun i hi => by rw [(h0 _ _ (by omega)).2.1]; exact g5 i hi⟩, fun s hs => ⟨by rw [(h0 _ _ (by omega)).1]; exact (g6 s hs).1, by rw [(h0 _ _ (by omega)).1]; exact (g6 s hs).2.1, fun i hi => by rw [(h0 _ _ (by omega)).2.2]; exact (g6 s hs).2.2 i hi⟩, fun j hj => by rw [(h0 _ _ (by omega)).2.1]; exact g7 j hj, g8.frame (fun k _ _ => (h0 _ _ (by omega)).1), g9.frame (fun k _ _ => (h0 _ _ (by omega)).1)⟩
/-- a value that names no place of blocks 1 and 2 -/
def vok : zV → Bool
  | .inr (.inr (some q)) => !(q.1 == 1) && !(q.1 == 2)
  | _ => true
def vok2 : Option zV → Bool
  | some v => vok v
  | none => true
theorem rv_re {f : zA} {z1 z2 z1' z2' : Nat} {v : zV} (h : vok v = true) : rv (aB f z1' z2') v = rv (aB f z1 z2) v := by
  rcases v with x | x | _ | ⟨b, k⟩
  · rfl
  · rfl
  · rfl
  · have h2 : b ≠ 1 ∧ b ≠ 2 := by simpa [vok] using h
    show Value.ref (if b = 1 then _ else if b = 2 then _ else f b k) = Value.ref (if b = 1 then _ else if b = 2 then _ else f b k)
    rw [if_neg h2.1, if_neg h2.2, if_neg h2.1, if_neg h2.2]
theorem z_norm {C : zC} {nL cells slots sz pc z1 z2 : Nat} {f : zA} {qe ke : Bool} {I X : zI} {Y : zY} {lo : List (Option zV)} {st : List zV} {D Dd : DS} (hM : MMe qe D I X Y) (hD : DMe Dd I X Y) (hke : D.2.1.isSome = true → ke = true) (hlo : lo.all vok2 = true) (hst : st.all vok = true)
    (kk : ∀ (z1 z2 : Nat) (I X : zI) (Y : zY), MMe qe D I X Y → DMe Dd I X Y → zBk 1 qe (aB f z1 z2) (lM qe D.2.1.isSome) I X Y sz → zBk 2 D.2.1.isSome (aB f z1 z2) (lM qe D.2.1.isSome) I X Y sz → zL C nL (aB f z1 z2) (lS qe D.2.1.isSome) cells slots sz I X Y pc lo st) : zL C nL (aB f z1 z2) (lS qe ke) cells slots sz I X Y pc lo st := by
  intro H locs ls h1 h2 h3
  have hn : ∀ {b k : Nat}, lS qe D.2.1.isSome b k ≠ none → ¬ (b = 1 ∧ qe = false ∨ b = 2 ∧ D.2.1.isSome = false) := by
    intro b k hh z
    obtain ⟨sh, e⟩ := lS_some hh
    rcases lS_e e with ⟨rfl, -⟩ | ⟨rfl, q, -⟩ | ⟨rfl, q, -⟩ | ⟨rfl, -⟩
    · rcases z with z | z <;> exact absurd z.1 (by decide)
    · rcases z with z | z
      · rw [q] at z; exact absurd z.2 (by decide)
      · exact absurd z.1 (by decide)
    · rcases z with z | z
      · exact absurd z.1 (by decide)
      · rw [q] at z; exact absurd z.2 (by decide)
    · rcases z with z | z <;> exact absurd z.1 (by decide)
  have k0 := kk (if qe = true then z1 else sz) (if D.2.1.isSome = true then z2 else sz) (fun b k j => if b = 1 ∧ qe = false ∨ b = 2 ∧ D.2.1.isSome = false then 0 else I b k j) (fun b k j => if b = 1 ∧ qe = false ∨ b = 2 ∧ D.2.1.isSome = false then 0 else X b k j) (fun b k j => if b = 1 ∧ qe = false ∨ b = 2 ∧ D.2.1.isSome = false then 0 else Y b k j)
    (hM.live (fun k j _ => ⟨if_neg (by omega), if_neg (by omega), if_neg (by omega)⟩) (fun hs k j _ => ⟨if_neg (fun z => by rcases z with z | z; exact absurd z.1 (by decide); rw [hs] at z; exact absurd z.2 (by decide)), if_neg (fun z => by rcases z with z | z; exact absurd z.1 (by decide); rw [hs] at z; exact absurd z.2 (by decide))⟩))
    (hD.live (fun k j _ => ⟨if_neg (by omega), if_neg (by omega), if_neg (by omega)⟩))
    ⟨fun q k => if_pos q, fun q => ⟨fun k => by show (if qe = true then msh 1 k else none) = none; rw [q]; rfl, fun i => by show (if qe = true then z1 else sz) + i = sz + i; rw [if_neg (by rw [q]; decide)], fun k j => ⟨if_pos (Or.inl ⟨rfl, q⟩), if_pos (Or.inl ⟨rfl, q⟩), if_pos (Or.inl ⟨rfl, q⟩)⟩⟩⟩
    ⟨fun q k => if_pos q, fun q => ⟨fun k => by show (if D.2.1.isSome = true then msh 2 k else none) = none; rw [q]; rfl, fun i => by show (if D.2.1.isSome = true then z2 else sz) + i = sz + i; rw [if_neg (by rw [q]; decide)], fun k j => ⟨if_pos (Or.inr ⟨rfl, q⟩), if_pos (Or.inr ⟨rfl, q⟩), if_pos (Or.inr ⟨rfl, q⟩)⟩⟩⟩
  have e28 : ¬ I 0 0 28 = 0 → D.2.1.isSome = true := by
    intro z
    cases e : D.2.1.isSome with
    | true => rfl
    | false =>
      have h28 := hM.2.1
      rw [e] at h28
      exact absurd h28 z
  have e29 : ¬ I 0 0 29 = 0 → qe = true := by
    intro z
    cases e : qe with
    | true => rfl
    | false =>
      have h29 := hM.2.2.1
      rw [e] at h29
      exact absurd h29 z
  have hw := zW_norm (I' := (fun b k j => if b = 1 ∧ qe = false ∨ b = 2 ∧ D.2.1.isSome = false then 0 else I b k j)) (X' := (fun b k j => if b = 1 ∧ qe = false ∨ b = 2 ∧ D.2.1.isSome = false then 0 else X b k j)) (Y' := (fun b k j => if b = 1 ∧ qe = false ∨ b = 2 ∧ D.2.1.isSome = false then 0 else Y b k j)) (z1' := if qe = true then z1 else sz) (z2' := if D.2.1.isSome = true then z2 else sz) h1.1 hke (fun q => if_pos q) (fun q => if_pos q) e28 e29 (fun b k j hh => if_neg (hn hh)) (fun b k j hh => if_neg (hn hh)) (fun b k j hh => if_neg (hn hh))
  have es : st.map (rv (aB f (if qe = true then z1 else sz) (if D.2.1.isSome = true then z2 else sz))) = st.map (rv (aB f z1 z2)) := List.map_congr_left (fun v hv => rv_re (List.all_eq_true.mp hst v hv))
  have k1 := k0 H locs ls ⟨hw, h1.2⟩ h2 ⟨h3.1, h3.2.1, fun i v hi => by rw [rv_re (z1 := z1) (z2 := z2) (List.all_eq_true.mp hlo (some v) (List.mem_of_getElem? hi))]; exact h3.2.2 i v hi⟩
  rw [es] at k1
  exact k1
/-- what the reference's call leaves -/
def lP (v : zV) (D2 : DS) : zP := fun v' S' I' X' Y' _ => v' = some v ∧ ∃ qe ke, S' = lM qe ke ∧ (D2.2.1.isSome = true → ke = true) ∧ MMe qe D2 I' X' Y'
theorem mQ.l {y : zM} {n : Nat} {args : List zV} {v : zV} {D2 : DS} {ad : zA} {I X : zI} {Y : zY} {sz : Nat} {qe ke : Bool} (h : mQ y n args (some v) D2 ad (lM qe ke) I X Y sz qe) (hk : D2.2.1.isSome = true → ke = true) : zCx y n 0 0 args ad (lM qe ke) I X Y sz (lP v D2) :=
  h.mono fun v' S' I' X' Y' sz' hh => ⟨hh.1, qe, ke, hh.2.1, hk, hh.2.2.2⟩
theorem mX.l {y : zM} {n : Nat} {args : List zV} {v : zV} {D2 : DS} {ad : zA} {I X : zI} {Y : zY} {sz : Nat} {qe ke : Bool} (h : mX y n args (some v) D2 ad (lM qe ke) I X Y sz qe) (hk : D2.2.1.isSome = true → ke = true) : zCx y n 47 14378 args ad (lM qe ke) I X Y sz (lP v D2) :=
  h.mono fun v' S' I' X' Y' sz' hh => ⟨hh.1, by
    rcases hh.2 with ⟨h1, h2⟩ | ⟨h1, h2⟩
    · exact ⟨qe, ke, h1, hk, h2⟩
    · exact ⟨true, ke, h1.trans lM_1, hk, h2⟩⟩
section LAW
variable {C : zC} {nL cells slots sz pc z1 z2 : Nat} {f : zA} {qe ke : Bool} {I X : zI} {Y : zY} {lo : List (Option zV)} {st st0 As : List zV} {D D2 : DS} {v : zV}
variable {bt : ByteArray} {own : String} {ret : Option FieldType} {N mc ms : Nat} {y : zM} {np idx n mc1 ms1 : Nat}
theorem z_lD (hC : zOk bt own nL ret N mc ms C (aB f z1 z2)) (d : decode bt pc = .ok (.invokevirtual idx, 3)) (hy : zVir own idx y np) (hq : (RX6 : String) = y.1.cls) (hst : st0 = As.reverse ++ zr 3 0 :: st) (hnp : As.length = np) (hn : Nat.ble (n + 1) N = true) (hw : Nat.ble (st.map (fun v => zcat (some (some v)))).sum 8 = true) (hr : cells ≤ mc ∧ slots ≤ ms) (hM : MMe qe D I X Y) (hke : D.2.1.isSome = true → ke = true)
    (hc : ∀ S' : zSh, (∀ k, S' 3 k = dsh k) → dC y n (zr 3 0 :: As) (some v) D2 (aB f z1 z2) S' I X Y sz)
    (kk : ∀ (I3 X3 : zI) (Y3 : zY), DMe D2 I3 X3 Y3 → MMe qe D I3 X3 Y3 → zL C nL (aB f z1 z2) (lS qe ke) cells slots sz I3 X3 Y3 (pc + 3) lo (v :: st)) : zL C nL (aB f z1 z2) (lS qe ke) cells slots sz I X Y pc lo st0 := by
  have h3 : ∀ k, (fun b k => if b = 3 then dsh k else none : zSh) 3 k = dsh k := fun k => if_pos rfl
  obtain ⟨I', X', Y', hD2, hc'⟩ := hc (fun b k => if b = 3 then dsh k else none) h3
  have hx : zCx y n 0 0 (zr 3 0 :: As) (aB f z1 z2) (fun b k => if b = 3 then dsh k else none) I X Y sz (fun v' S' I' X' Y' sz' => v' = some v ∧ S' = (fun b k => if b = 3 then dsh k else none) ∧ sz' = sz ∧ DMe D2 I' X' Y') := hc'.x ⟨rfl, rfl, rfl, hD2⟩
  refine z_callVF (S2 := fun b k => if b = 3 then none else lS qe ke b k) hC d hy hx (show lS qe ke 3 0 = some _ from rfl) (ci := 6) rfl hq hst hnp (Nat.le_of_ble_eq_true hn) (Nat.le_of_ble_eq_true hw) hr (fun b k sh hs => ?_) (fun b k sh hs => ?_) fun v' S' I1 X1 Y1 sz' hP S3 I3 X3 Y3 e1 e2 e3 => ?_
  · by_cases e : b = 3
    · subst e; exact hs
    · have hs : (if b = 3 then dsh k else none) = some sh := hs
      rw [if_neg e] at hs; cases hs
  · by_cases e : b = 3
    · have hs : (if b = 3 then none else lS qe ke b k) = some sh := hs
      rw [if_pos e] at hs; cases hs
    · have hs : (if b = 3 then none else lS qe ke b k) = some sh := hs
      rw [if_neg e] at hs; exact ⟨hs, if_neg e⟩
  · obtain ⟨rfl, rfl, rfl, hD3⟩ := hP
    have hS : S3 = lS qe ke := by
      funext b k
      refine (e1 b k).trans ?_
      by_cases e : b = 3
      · subst e; rfl
      · show (if (if b = 3 then none else lS qe ke b k) ≠ none then (if b = 3 then none else lS qe ke b k) else (if b = 3 then dsh k else none)) = _
        rw [if_neg e, if_neg e]
        by_cases e4 : lS qe ke b k = none
        · rw [if_neg (fun z => z e4), e4]
        · rw [if_pos e4]
    subst hS
    have hl : ∀ b k, b ≠ 3 → lS qe ke b k ≠ none → (fun b k => if b = 3 then none else lS qe ke b k : zSh) b k ≠ none := fun b k e h => by show (if b = 3 then none else lS qe ke b k) ≠ none; rw [if_neg e]; exact h
    exact kk I3 X3 Y3 (hD3.live (fun k j _ => e3 3 k j rfl)) (hM.live (fun k j hk => e2 0 k j (hl 0 k (by decide) (msh_some hk))) (fun hs k j hk => by
      have h2 := e2 2 k j (hl 2 k (by decide) (by show (if ke = true then msh 2 k else none) ≠ none; rw [if_pos (hke hs)]; exact msh_some hk))
      exact ⟨h2.1, h2.2.1⟩))
theorem z_lM (hC : ∀ z1 z2, zOk bt own nL ret N mc ms C (aB f z1 z2)) (d : decode bt pc = .ok (.invokevirtual idx, 3)) (hy : zVir own idx y np) (hq : (RX7 : String) = y.1.cls) (hst : st0 = As.reverse ++ zr 0 0 :: st) (hnp : As.length = np) (hn : Nat.ble (n + 1) N = true) (hw : Nat.ble (st.map (fun v => zcat (some (some v)))).sum 8 = true) (hr : cells + mc1 ≤ mc ∧ slots + ms1 ≤ ms) {Dd : DS} (hM : MMe qe D I X Y) (hD : DMe Dd I X Y) (hke : D.2.1.isSome = true → ke = true) (hlo : lo.all vok2 = true) (hs0 : st0.all vok = true)
    (hc : ∀ (z1 z2 : Nat) (I X : zI) (Y : zY), MMe qe D I X Y → zBk 1 qe (aB f z1 z2) (lM qe D.2.1.isSome) I X Y sz → zBk 2 D.2.1.isSome (aB f z1 z2) (lM qe D.2.1.isSome) I X Y sz → zCx y n mc1 ms1 (zr 0 0 :: As) (aB f z1 z2) (lM qe D.2.1.isSome) I X Y sz (lP v D2))
    (kk : ∀ (z1 z2 : Nat) (qe ke : Bool) (I3 X3 : zI) (Y3 : zY) (sz' : Nat), (D2.2.1.isSome = true → ke = true) → DMe Dd I3 X3 Y3 → MMe qe D2 I3 X3 Y3 → zL C nL (aB f z1 z2) (lS qe ke) (cells + mc1) (slots + ms1) sz' I3 X3 Y3 (pc + 3) lo (v :: st)) : zL C nL (aB f z1 z2) (lS qe ke) cells slots sz I X Y pc lo st0 := by
  refine z_norm hM hD hke hlo hs0 fun z1 z2 I X Y hM hD hb1 hb2 => ?_
  refine z_callVF (S2 := fun b k => if b = 3 then dsh k else none) (hC z1 z2) d hy (hc z1 z2 I X Y hM hb1 hb2) (show lS qe D.2.1.isSome 0 0 = some _ from rfl) (ci := 7) rfl hq hst hnp (Nat.le_of_ble_eq_true hn) (Nat.le_of_ble_eq_true hw) hr (fun b k sh hs => ?_) (fun b k sh hs => ?_) fun v' S' I1 X1 Y1 sz' hP S3 I3 X3 Y3 e1 e2 e3 => ?_
  · by_cases e : b = 3
    · have hs : (if b = 3 then none else lS qe D.2.1.isSome b k) = some sh := hs
      rw [if_pos e] at hs; cases hs
    · have hs : (if b = 3 then none else lS qe D.2.1.isSome b k) = some sh := hs
      rw [if_neg e] at hs; exact hs
  · by_cases e : b = 3
    · subst e; exact ⟨hs, rfl⟩
    · have hs : (if b = 3 then dsh k else none) = some sh := hs
      rw [if_neg e] at hs; cases hs
  · obtain ⟨rfl, qe', ke', rfl, hk2, hM2⟩ := hP
    have hS : S3 = lS qe' ke' := by
      funext b k
      refine (e1 b k).trans ?_
      by_cases e : b = 3
      · subst e
        show (if dsh k ≠ none then dsh k else none) = dsh k
        by_cases e4 : dsh k = none
        · rw [if_neg (fun z => z e4), e4]
        · rw [if_pos e4]
      · show (if (if b = 3 then dsh k else none) ≠ none then (if b = 3 then dsh k else none) else (if b = 3 then none else lS qe' ke' b k)) = _
        rw [if_neg e, if_neg e]
        rfl
    subst hS
    have hn0 : ∀ b k, b ≠ 3 → (fun b k => if b = 3 then dsh k else none : zSh) b k = none := fun b k e => if_neg e
    exact kk z1 z2 qe' ke' I3 X3 Y3 sz' hk2 (hD.live (fun k j hk => e2 3 k j (dsh_some hk))) (hM2.live (fun k j _ => e3 0 k j (hn0 0 k (by decide))) (fun _ k j _ => ⟨(e3 2 k j (hn0 2 k (by decide))).1, (e3 2 k j (hn0 2 k (by decide))).2.1⟩))
/-- the script -/
theorem z_sld {ad : zA} {S : zSh} (hC : zOk bt own nL ret N mc ms C ad) {b L i : Nat} {xs : Nat → Int32} (hX : va_X b L xs (cs C) (cs C).heap) (hbl : b < (cs C).heap.size) (hbA : ¬ cA C b) (h8 : ad 8 0 = b) (hi : i < L) (hL : L < 2 ^ 31) (d : decode bt pc = .ok (.iaload, 1)) (k : zL C nL ad S cells slots sz I X Y (pc + 1) lo (zi (xs i) :: st)) : zL C nL ad S cells slots sz I X Y pc lo (zi (nI i) :: zr 8 0 :: st) := by
  intro H locs ls h1 h2 h3
  have k0 := k H locs ls h1 h2 h3
  subst h8
  refine va_sld hC.1 hC.2.1 hX hbl hbA h2 (i := nI i) (vp_in_nI hi hL) d ?_
  rw [show (nI i).toNatClampNeg = i from nI_clamp (Nat.lt_trans hi hL)]
  exact k0
theorem z_slen {ad : zA} {S : zSh} (hC : zOk bt own nL ret N mc ms C ad) {b L : Nat} {xs : Nat → Int32} (hX : va_X b L xs (cs C) (cs C).heap) (hbl : b < (cs C).heap.size) (hbA : ¬ cA C b) (h8 : ad 8 0 = b) (d : decode bt pc = .ok (.arraylength, 1)) (k : zL C nL ad S cells slots sz I X Y (pc + 1) lo (zi (nI L) :: st)) : zL C nL ad S cells slots sz I X Y pc lo (zr 8 0 :: st) := by
  intro H locs ls h1 h2 h3
  subst h8
  exact va_slen hC.1 hC.2.1 hX hbl hbA h2 d (k H locs ls h1 h2 h3)
end LAW
theorem lgc_self {v : Int64} : lg_cmp v v = 0 := by
  unfold lg_cmp
  rw [if_neg (fun z => absurd z (Int64.lt_irrefl)), if_pos rfl]
