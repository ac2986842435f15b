/-! arrays of arrays -/
theorem zouter (c : ClassId) (N h0 : Nat) : ∀ i, i ≤ N → Jvm.Free.Multi.outerC c N h0 i = arrV c N (fun j => if j < i then .ref (h0 + 1 + j) else .null)
  | 0, _ => by
    show ({ cls := c, slots := Array.replicate N .null, vm := .none } : Cell) = _
    rw [show (fun j => if j < 0 then Value.ref (h0 + 1 + j) else Value.null) = fun _ => Value.null from funext fun j => if_neg (Nat.not_lt_zero _), ← arrV_new]
  | i + 1, h => by
    show (Jvm.Free.Multi.outerC c N h0 i).setSlot i (.ref (h0 + 1 + i)) = _
    rw [zouter c N h0 i (by omega), arrV_store]
    congr 1
    funext j
    by_cases hj : j = i
    · subst hj; simp [updV]
    · simp [updV, hj]
      by_cases h2 : j < i
      · rw [if_pos h2, if_pos (by omega)]
      · rw [if_neg h2, if_neg (by omega)]
/-- some new cells -/
theorem zW.growN {g : zG} {A : Nat → Prop} {ad : zA} {S : zSh} {I X : zI} {Y : zY} {H H1 : Heap} {b w n : Nat} (h : zW g A ad (zcut b w S) I X Y H) (hz : ∀ i, i ≤ n → ad b (w + i) = H.size + i) (hA : ∀ q, H.size ≤ q → A q)
    (hnew : ∀ i sh, i ≤ n → S b (w + i) = some sh → va_at g.1 vwCl (H.size + i, zcell g ad I X Y b (w + i) sh) H1) (oq : ∀ q, q < H.size → H1[q]? = H[q]?) : zW g A ad (zcut b (w + n + 1) S) I X Y H1 := by
  have hold : ∀ b' k' sh', zcut b w S b' k' = some sh' → ad b' k' < H.size := fun b' k' sh' h' => (h.1 b' k' sh' h').1.lt
  have hsp : ∀ b' k' sh', zcut b (w + n + 1) S b' k' = some sh' → zcut b w S b' k' = some sh' ∨ ∃ i, i ≤ n ∧ b' = b ∧ k' = w + i ∧ S b (w + i) = some sh' := by
    intro b' k' sh' h'
    unfold zcut at h' ⊢
    by_cases e : b' = b ∧ w ≤ k'
    · right
      obtain ⟨rfl, hw⟩ := e
      by_cases e2 : w + n + 1 ≤ k'
      · rw [if_pos ⟨rfl, e2⟩] at h'; cases h'
      · rw [if_neg (fun z => e2 z.2)] at h'
        exact ⟨k' - w, by omega, rfl, by omega, by rw [show w + (k' - w) = k' by omega]; exact h'⟩
    · left
      rw [if_neg e]
      rwa [if_neg (by omega)] at h'
  refine ⟨fun b' k' sh' h' => ?_, fun b1 k1 b2 k2 h1 h2 e => ?_⟩
  · rcases hsp b' k' sh' h' with h3 | ⟨i, hi, rfl, rfl, h3⟩
    · obtain ⟨g1, g2⟩ := h.1 b' k' sh' h3
      exact ⟨g1.kept (oq _ g1.lt), g2⟩
    · rw [hz i hi]
      exact ⟨hnew i sh' hi h3, hA _ (by omega)⟩
  · cases e1 : zcut b (w + n + 1) S b1 k1 with
    | none => exact absurd e1 h1
    | some s1 =>
      cases e2 : zcut b (w + n + 1) S b2 k2 with
      | none => exact absurd e2 h2
      | some s2 =>
        rcases hsp b1 k1 s1 e1 with h3 | ⟨i, hi, rfl, rfl, h3⟩ <;> rcases hsp b2 k2 s2 e2 with h4 | ⟨i2, hi2, rfl, rfl, h4⟩
        · exact h.2 b1 k1 b2 k2 (by rw [h3]; exact fun z => by cases z) (by rw [h4]; exact fun z => by cases z) e
        · have := hold _ _ _ h3
          rw [e, hz i2 hi2] at this; omega
        · have := hold _ _ _ h4
          rw [← e, hz i hi] at this; omega
        · rw [hz i hi, hz i2 hi2] at e
          exact ⟨rfl, by omega⟩
section ZMUL
variable {C : zC} {nL : Nat} {ad : zA} {S : zSh} {cells slots sz : Nat} {I X : zI} {Y : zY} {pc : Nat} {lo : List (Option zV)} {st : List zV}
variable {bt : ByteArray} {own : String} {ret : Option FieldType} {N mc ms : Nat}

theorem z_mulI (hC : zOk bt own nL ret N mc ms C ad) {b w n k idx : Nat} (d : decode bt pc = .ok (.multianewarray idx 2, 4)) (hcl : Cond.classLink own idx "[[I" ∈ zTb) (hac : Cond.arrayClass .int ∈ zTb) (hs0 : S b w = some (.inr (.inr (1, (List.range n).map (fun i => some (b, w + 1 + i)))))) (hsi : ∀ i, i < n → S b (w + 1 + i) = some (.inl (0, k))) (hX : ∀ i j, i < n → X b (w + 1 + i) j = 0) (hz : ∀ i, i ≤ n → ad b (w + i) = sz + i) (hn : n ≤ 10000) (hk : k ≤ 10000) (hroom : cells + (1 + n) ≤ mc ∧ slots + (n + n * k) ≤ ms)
    (kk : zL C nL ad (zcut b (w + n + 1) S) (cells + 1 + n) (slots + n + n * k) (sz + 1 + n) I X Y (pc + 4) lo (.inr (.inr (some (b, w))) :: st)) : zL C nL ad (zcut b w S) cells slots sz I X Y pc lo (.inl (nI k) :: .inl (nI n) :: st) := by
  intro H locs ls h1 h2 h3 T hT Xs
  have hK := hC.2.2.2.2.2.2.2.2.1
  have hts := hC.2.2.2.2.1
  have hR := hC.2.2.2.2.2.2.2.1
  have hnc : (nI n).toNatClampNeg = n := nI_clamp (by omega)
  have hkc : (nI k).toNatClampNeg = k := nI_clamp (by omega)
  have hnm : "[" ++ (FieldType.array .int).toString = "[[I" := by decide
  obtain ⟨vm₁, cA1, comp, hWm, hfA, hfC, hO, hIn, X1, step⟩ := Xs.multianewarray2F hC.1 (ty := .int) (own := own) (index := idx) hC.2.2.2.1 (by rw [hnm]; exact hts _ hcl) (zOld_of hC).2.2.2.2.1.2.1 (hts _ hac)
    (g := F0 (cm C) pc ls (List.map (rv ad) (.inl (nI k) :: .inl (nI n) :: st))) rfl (by rw [hC.2.1]; exact d) (n := nI n) (k := nI k) (rest := st.map (rv ad)) rfl (nI_pos (by omega)) (nI_pos (by omega)) (by rw [hnc]; omega) (by rw [hkc]; show k * 4 ≤ _; omega) (by rw [hkc]; omega) rfl rfl (by rw [hnc]; exact Nat.le_trans hroom.1 hR.2.2.1) (by rw [hnc, hkc]; exact Nat.le_trans hroom.2 hR.2.2.2)
  rw [hnc, hkc] at X1 step
  have hcA : cA1 = (cg C).2 3 := Option.some.inj (hfA.symm.trans (zArrN (t := 3) hK rfl (fun _ z => by cases z)))
  have hcm : comp = (cg C).2 0 := Option.some.inj (hfC.symm.trans (zArrN (t := 0) hK rfl (fun _ z => by cases z)))
  subst hcA
  subst hcm
  generalize hT1 : Jvm.Free.Multi.fill (T.setVm vm₁) ((cg C).2 3) ((cg C).2 0) n k (defaultValue .int) n = T1 at X1 step
  have hT0 : (T.setVm vm₁).heap = H := hT
  have f1 := Jvm.Free.Multi.fill_facts (T.setVm vm₁) ((cg C).2 3) ((cg C).2 0) n k (defaultValue .int) n
  have f2 := fun a ha => Jvm.Free.Multi.fill_old (T.setVm vm₁) ((cg C).2 3) ((cg C).2 0) n k (defaultValue .int) (a := a) ha n
  have f3 := fun j hj => Jvm.Free.Multi.fill_inner (T.setVm vm₁) ((cg C).2 3) ((cg C).2 0) n k (defaultValue .int) n j hj
  rw [hT1, hT0] at f1
  rw [hT1, hT0] at f2
  rw [hT1, hT0] at f3
  have hsz : H.size = sz := h1.2
  have hg := h1.1.growN (H1 := T1.heap) (n := n) (fun i hi => by rw [hsz]; exact hz i hi) (fun q hq => hC.2.2.2.2.2.2.2.2.2.2 _ (Nat.le_trans h2.1 hq)) (fun i sh hi hs => by
    match i, hi, hs with
    | 0, _, hs =>
      have hs' : S b w = some sh := hs
      rw [hs0] at hs'
      cases hs'
      show T1.heap[H.size]? = some (vp_cell _ _)
      rw [f1.2.1, zouter _ _ _ _ (Nat.le_refl _)]
      show some (arrV _ n _) = some (arrV _ ((List.range n).map (fun i => some (b, w + 1 + i))).length (fun j => va_rf (zpl ad ((List.range n).map (fun i => some (b, w + 1 + i)))[j]?)))
      rw [List.length_map, List.length_range]
      congr 2
      funext j
      rw [List.getElem?_map]
      by_cases hj : j < n
      · rw [if_pos hj, List.getElem?_range hj]
        show _ = Value.ref (ad b (w + 1 + j))
        rw [Nat.add_assoc w 1 j, hz (1 + j) (by omega), hsz, Nat.add_assoc]
      · rw [if_neg hj, List.getElem?_eq_none (by rw [List.length_range]; omega)]; rfl
    | i + 1, hi, hs =>
      have e : w + (i + 1) = w + 1 + i := by omega
      rw [e] at hs
      rw [hsi i (by omega)] at hs
      cases hs
      rw [e]
      show T1.heap[H.size + (i + 1)]? = some (vp_cell _ _)
      rw [show H.size + (i + 1) = H.size + 1 + i by omega, f3 i (by omega)]
      show some ({ cls := _, slots := Array.replicate k _, vm := .none } : Cell) = some (arrV _ k (fun j => .int (X b (w + 1 + i) j)))
      rw [show (fun j => Value.int (X b (w + 1 + i) j)) = fun _ => Value.int 0 from funext fun j => by rw [hX i j (by omega)], ← arrV_new]
      rfl) (fun q hq => f2 q hq)
  have hkk := kk T1.heap locs ls ⟨hg, by rw [f1.1]; omega⟩ ⟨Nat.le_trans h2.1 (by rw [f1.1]; omega), fun x g1 g2 => (f2 x (Nat.lt_of_lt_of_le g1 h2.1)).trans (h2.2.1 x g1 g2), h2.2.2⟩ h3
  have e : rv ad (.inr (.inr (some (b, w)))) = .ref T.heap.size := by show Value.ref (ad b w) = _; rw [hT, hsz]; congr 1; exact hz 0 (Nat.zero_le _)
  rw [List.map_cons, e] at hkk
  obtain ⟨t, a1, b1⟩ := hkk T1 rfl X1
  exact ⟨t, step t a1, b1⟩

theorem z_mulJ (hC : zOk bt own nL ret N mc ms C ad) {b w n k idx : Nat} (d : decode bt pc = .ok (.multianewarray idx 2, 4)) (hcl : Cond.classLink own idx "[[J" ∈ zTb) (hac : Cond.arrayClass .long ∈ zTb) (hs0 : S b w = some (.inr (.inr (2, (List.range n).map (fun i => some (b, w + 1 + i)))))) (hsi : ∀ i, i < n → S b (w + 1 + i) = some (.inl (1, k))) (hX : ∀ i j, i < n → Y b (w + 1 + i) j = 0) (hz : ∀ i, i ≤ n → ad b (w + i) = sz + i) (hn : n ≤ 10000) (hk : k ≤ 10000) (hroom : cells + (1 + n) ≤ mc ∧ slots + (n + n * k) ≤ ms)
    (kk : zL C nL ad (zcut b (w + n + 1) S) (cells + 1 + n) (slots + n + n * k) (sz + 1 + n) I X Y (pc + 4) lo (.inr (.inr (some (b, w))) :: st)) : zL C nL ad (zcut b w S) cells slots sz I X Y pc lo (.inl (nI k) :: .inl (nI n) :: st) := by
  intro H locs ls h1 h2 h3 T hT Xs
  have hK := hC.2.2.2.2.2.2.2.2.1
  have hts := hC.2.2.2.2.1
  have hR := hC.2.2.2.2.2.2.2.1
  have hnc : (nI n).toNatClampNeg = n := nI_clamp (by omega)
  have hkc : (nI k).toNatClampNeg = k := nI_clamp (by omega)
  have hnm : "[" ++ (FieldType.array .long).toString = "[[J" := by decide
  obtain ⟨vm₁, cA1, comp, hWm, hfA, hfC, hO, hIn, X1, step⟩ := Xs.multianewarray2F hC.1 (ty := .long) (own := own) (index := idx) hC.2.2.2.1 (by rw [hnm]; exact hts _ hcl) (zOld_of hC).2.2.2.2.1.2.2 (hts _ hac)
    (g := F0 (cm C) pc ls (List.map (rv ad) (.inl (nI k) :: .inl (nI n) :: st))) rfl (by rw [hC.2.1]; exact d) (n := nI n) (k := nI k) (rest := st.map (rv ad)) rfl (nI_pos (by omega)) (nI_pos (by omega)) (by rw [hnc]; omega) (by rw [hkc]; show k * 8 ≤ _; omega) (by rw [hkc]; omega) rfl rfl (by rw [hnc]; exact Nat.le_trans hroom.1 hR.2.2.1) (by rw [hnc, hkc]; exact Nat.le_trans hroom.2 hR.2.2.2)
  rw [hnc, hkc] at X1 step
  have hcA : cA1 = (cg C).2 4 := Option.some.inj (hfA.symm.trans (zArrN (t := 4) hK rfl (fun _ z => by cases z)))
  have hcm : comp = (cg C).2 1 := Option.some.inj (hfC.symm.trans (zArrN (t := 1) hK rfl (fun _ z => by cases z)))
  subst hcA
  subst hcm
  generalize hT1 : Jvm.Free.Multi.fill (T.setVm vm₁) ((cg C).2 4) ((cg C).2 1) n k (defaultValue .long) n = T1 at X1 step
  have hT0 : (T.setVm vm₁).heap = H := hT
  have f1 := Jvm.Free.Multi.fill_facts (T.setVm vm₁) ((cg C).2 4) ((cg C).2 1) n k (defaultValue .long) n
  have f2 := fun a ha => Jvm.Free.Multi.fill_old (T.setVm vm₁) ((cg C).2 4) ((cg C).2 1) n k (defaultValue .long) (a := a) ha n
  have f3 := fun j hj => Jvm.Free.Multi.fill_inner (T.setVm vm₁) ((cg C).2 4) ((cg C).2 1) n k (defaultValue .long) n j hj
  rw [hT1, hT0] at f1
  rw [hT1, hT0] at f2
  rw [hT1, hT0] at f3
  have hsz : H.size = sz := h1.2
  have hg := h1.1.growN (H1 := T1.heap) (n := n) (fun i hi => by rw [hsz]; exact hz i hi) (fun q hq => hC.2.2.2.2.2.2.2.2.2.2 _ (Nat.le_trans h2.1 hq)) (fun i sh hi hs => by
    match i, hi, hs with
    | 0, _, hs =>
      have hs' : S b w = some sh := hs
      rw [hs0] at hs'
      cases hs'
      show T1.heap[H.size]? = some (vp_cell _ _)
      rw [f1.2.1, zouter _ _ _ _ (Nat.le_refl _)]
      show some (arrV _ n _) = some (arrV _ ((List.range n).map (fun i => some (b, w + 1 + i))).length (fun j => va_rf (zpl ad ((List.range n).map (fun i => some (b, w + 1 + i)))[j]?)))
      rw [List.length_map, List.length_range]
      congr 2
      funext j
      rw [List.getElem?_map]
      by_cases hj : j < n
      · rw [if_pos hj, List.getElem?_range hj]
        show _ = Value.ref (ad b (w + 1 + j))
        rw [Nat.add_assoc w 1 j, hz (1 + j) (by omega), hsz, Nat.add_assoc]
      · rw [if_neg hj, List.getElem?_eq_none (by rw [List.length_range]; omega)]; rfl
    | i + 1, hi, hs =>
      have e : w + (i + 1) = w + 1 + i := by omega
      rw [e] at hs
      rw [hsi i (by omega)] at hs
      cases hs
      rw [e]
      show T1.heap[H.size + (i + 1)]? = some (vp_cell _ _)
      rw [show H.size + (i + 1) = H.size + 1 + i by omega, f3 i (by omega)]
      show some ({ cls := _, slots := Array.replicate k _, vm := .none } : Cell) = some (arrV _ k (fun j => .long (Y b (w + 1 + i) j)))
      rw [show (fun j => Value.long (Y b (w + 1 + i) j)) = fun _ => Value.long 0 from funext fun j => by rw [hX i j (by omega)], ← arrV_new]
      rfl) (fun q hq => f2 q hq)
  have hkk := kk T1.heap locs ls ⟨hg, by rw [f1.1]; omega⟩ ⟨Nat.le_trans h2.1 (by rw [f1.1]; omega), fun x g1 g2 => (f2 x (Nat.lt_of_lt_of_le g1 h2.1)).trans (h2.2.1 x g1 g2), h2.2.2⟩ h3
  have e : rv ad (.inr (.inr (some (b, w)))) = .ref T.heap.size := by show Value.ref (ad b w) = _; rw [hT, hsz]; congr 1; exact hz 0 (Nat.zero_le _)
  rw [List.map_cons, e] at hkk
  obtain ⟨t, a1, b1⟩ := hkk T1 rfl X1
  exact ⟨t, step t a1, b1⟩

end ZMUL
