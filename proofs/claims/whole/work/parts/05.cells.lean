section ZH2
variable {C : zC} {nL : Nat} {ad : zA} {S : zSh} {cells slots sz : Nat} {I X : zI} {Y : zY} {pc : Nat} {lo : List (Option zV)} {st : List zV}
variable {bt : ByteArray} {own : String} {ret : Option FieldType} {N mc ms : Nat}
/-- the fields' list behind a store: values agree -/
theorem zmap_set {ad : zA} {I I' : zI} {b j k : Nat} {fl fl' : List zF} {v : Value} (hlen : fl'.length = fl.length) (hk : k < fl.length) (hnew : (fl'[k]?).map (fun f => rv ad (zfv I' b j k f)) = some v) (hold : ∀ i, i ≠ k → (fl'[i]?).map (fun f => rv ad (zfv I' b j i f)) = (fl[i]?).map (fun f => rv ad (zfv I b j i f))) (i : Nat) :
    updV (vp_V (fl.mapIdx (fun i f => rv ad (zfv I b j i f)))) k v i = vp_V (fl'.mapIdx (fun i f => rv ad (zfv I' b j i f))) i := by
  by_cases e : i = k
  · subst e
    simp only [updV, vp_V, List.getD_eq_getElem?_getD, List.getElem?_mapIdx, if_pos]
    rw [hnew]; rfl
  · simp only [updV, vp_V, List.getD_eq_getElem?_getD, List.getElem?_mapIdx, if_neg e]
    rw [hold i e]
theorem zStored.at {C : zC} {ad : zA} {I I' : zI} {X' : zI} {Y' : zY} {b j ci k : Nat} {fl fl' : List zF} {v : Value} {H H1 : Heap} (h : zStored C ad I b j ci k fl v H H1) (hlen : fl'.length = fl.length) (hk : k < fl.length) (hnew : (fl'[k]?).map (fun f => rv ad (zfv I' b j k f)) = some v) (hold : ∀ i, i ≠ k → (fl'[i]?).map (fun f => rv ad (zfv I' b j i f)) = (fl[i]?).map (fun f => rv ad (zfv I b j i f))) :
    va_at (cg C).1 vwCl (ad b j, zcell (cg C) ad I' X' Y' b j (.inr (.inl (ci, fl')))) H1 := by
  obtain ⟨⟨r, h1, h2⟩, -, -⟩ := h
  exact ⟨r, h1, t_OB.to h2 fun i _ => zmap_set hlen hk hnew hold i⟩
theorem zlt {fl : List zF} {k : Nat} {f : zF} (h : fl[k]? = some f) : k < fl.length := (List.getElem?_eq_some_iff.mp h).1
theorem zhI {ad : zA} {I : zI} {b j k : Nat} {fl : List zF} {x : Int32} (hk : fl[k]? = some (.inr none)) : (fl[k]?).map (fun f => rv ad (zfv (up3 I b j k x) b j k f)) = some (.int x) := by
  rw [hk]
  show some (Value.int (up3 I b j k x b j k)) = _
  rw [up3_eq]
theorem zhO {ad : zA} {I : zI} {b j k b2 j2 : Nat} {fl : List zF} (hk : fl[k]? = some (.inr (some (b2, j2)))) : (fl[k]?).map (fun f => rv ad (zfv (up3 I b j k 1) b j k f)) = some (.ref (ad b2 j2)) := by
  rw [hk]
  have h : zfv (up3 I b j k 1) b j k (.inr (some (b2, j2))) = .inr (.inr (some (b2, j2))) := by
    show (if up3 I b j k 1 b j k = 0 then _ else _) = _
    rw [up3_eq]
    exact if_neg (by decide)
  show some (rv ad (zfv _ b j k _)) = _
  rw [h]; rfl
theorem zhR {ad : zA} {I : zI} {b j k b2 j2 : Nat} {fl : List zF} {f0 : zF} (hk : fl[k]? = some f0) : ((fl.set k (.inl (.inr (.inr (some (b2, j2))))))[k]?).map (fun f => rv ad (zfv I b j k f)) = some (.ref (ad b2 j2)) := by
  rw [List.getElem?_set_self (zlt hk)]
  rfl
/-- an int field -/
theorem z_putI (hC : zOk bt own nL ret N mc ms C ad) {b j idx ci k : Nat} {fl : List zF} {x : Int32} (d : decode bt pc = .ok (.putfield idx, 3)) (hs : S b j = some (.inr (.inl (ci, fl)))) (hf : zFld own idx ci k) (hk : fl[k]? = some (.inr none)) {q : vw_C} (hc : vwCl[ci]? = some q) (hfin : (q.2.1 k).2.2.2 = false) (hd : (q.2.1 k).2.2.1 = "I")
    (kk : zL C nL ad S cells slots sz (up3 I b j k x) X Y (pc + 3) lo st) : zL C nL ad S cells slots sz I X Y pc lo (.inl x :: .inr (.inr (some (b, j))) :: st) := by
  obtain ⟨q', hc', hkq, hl⟩ := hf
  have e := Option.some.inj (hc'.symm.trans hc)
  subst e
  refine z_putX hC d hs hc hkq hl hfin (ty := .int) (v := .inl x) (by rw [hd]; decide +kernel) rfl rfl fun H H1 locs ls w0 w1 w2 w3 w4 => ?_
  refine kk H1 locs ls ⟨w0.put hs (fun b' k' i e => up3_ne fun z => e ⟨z.1, z.2.1⟩) (fun _ _ _ _ => rfl) (fun _ _ _ _ => rfl) (w2.at (I' := up3 I b j k x) rfl (zlt hk) (zhI (I := I) (x := x) hk) (fun i hi => ?_)) w2.2.2, by rw [w2.2.1]; exact w1⟩ w3 w4
  congr 1
  funext f
  rw [zfv_off (up3_ne fun z => hi z.2.2)]
/-- a boolean field -/
theorem z_putZ (hC : zOk bt own nL ret N mc ms C ad) {b j idx ci k : Nat} {fl : List zF} {x : Int32} (hx : narrow .boolean (.int x) = .int x) (hx2 : fits .boolean (.int x) = true) (d : decode bt pc = .ok (.putfield idx, 3)) (hs : S b j = some (.inr (.inl (ci, fl)))) (hf : zFld own idx ci k) (hk : fl[k]? = some (.inr none)) {q : vw_C} (hc : vwCl[ci]? = some q) (hfin : (q.2.1 k).2.2.2 = false) (hd : (q.2.1 k).2.2.1 = "Z")
    (kk : zL C nL ad S cells slots sz (up3 I b j k x) X Y (pc + 3) lo st) : zL C nL ad S cells slots sz I X Y pc lo (.inl x :: .inr (.inr (some (b, j))) :: st) := by
  obtain ⟨q', hc', hkq, hl⟩ := hf
  have e := Option.some.inj (hc'.symm.trans hc)
  subst e
  refine z_putX hC d hs hc hkq hl hfin (ty := .boolean) (v := .inl x) (by rw [hd]; decide +kernel) hx hx2 fun H H1 locs ls w0 w1 w2 w3 w4 => ?_
  refine kk H1 locs ls ⟨w0.put hs (fun b' k' i e => up3_ne fun z => e ⟨z.1, z.2.1⟩) (fun _ _ _ _ => rfl) (fun _ _ _ _ => rfl) (w2.at (I' := up3 I b j k x) rfl (zlt hk) (zhI (I := I) (x := x) hk) (fun i hi => ?_)) w2.2.2, by rw [w2.2.1]; exact w1⟩ w3 w4
  congr 1
  funext f
  rw [zfv_off (up3_ne fun z => hi z.2.2)]
/-- a final int field, in a constructor -/
theorem z_putIF (hC : zOk bt own nL ret N mc ms C ad) (hin : (ch C).name = "<init>") {b j idx ci k : Nat} {fl : List zF} {x : Int32} (d : decode bt pc = .ok (.putfield idx, 3)) (hs : S b j = some (.inr (.inl (ci, fl)))) (hf : zFld own idx ci k) (hk : fl[k]? = some (.inr none)) {q : vw_C} (hc : vwCl[ci]? = some q) (hfin : (q.2.1 k).2.2.2 = true) (hdecl : (q.2.1 k).1 = own) (hd : (q.2.1 k).2.2.1 = "I")
    (kk : zL C nL ad S cells slots sz (up3 I b j k x) X Y (pc + 3) lo st) : zL C nL ad S cells slots sz I X Y pc lo (.inl x :: .inr (.inr (some (b, j))) :: st) := by
  obtain ⟨q', hc', hkq, hl⟩ := hf
  have e := Option.some.inj (hc'.symm.trans hc)
  subst e
  refine z_putXF hC hin d hs hc hkq hl hfin hdecl (ty := .int) (v := .inl x) (by rw [hd]; decide +kernel) rfl rfl fun H H1 locs ls w0 w1 w2 w3 w4 => ?_
  refine kk H1 locs ls ⟨w0.put hs (fun b' k' i e => up3_ne fun z => e ⟨z.1, z.2.1⟩) (fun _ _ _ _ => rfl) (fun _ _ _ _ => rfl) (w2.at (I' := up3 I b j k x) rfl (zlt hk) (zhI (I := I) (x := x) hk) (fun i hi => ?_)) w2.2.2, by rw [w2.2.1]; exact w1⟩ w3 w4
  congr 1
  funext f
  rw [zfv_off (up3_ne fun z => hi z.2.2)]
/-- a final field that holds a place, in a constructor -/
theorem z_putRF (hC : zOk bt own nL ret N mc ms C ad) (hin : (ch C).name = "<init>") {b j idx ci k : Nat} {fl : List zF} {f0 : zF} {b2 j2 : Nat} (d : decode bt pc = .ok (.putfield idx, 3)) (hs : S b j = some (.inr (.inl (ci, fl)))) (hf : zFld own idx ci k) (hk : fl[k]? = some f0) {q : vw_C} (hc : vwCl[ci]? = some q) (hfin : (q.2.1 k).2.2.2 = true) (hdecl : (q.2.1 k).1 = own) {ty : FieldType} (hd : parseFieldDescriptor (q.2.1 k).2.2.1 = some ty) (hn : ∀ a, narrow ty (.ref a) = .ref a) (hfit : ∀ a, fits ty (.ref a) = true)
    (kk : zL C nL ad (zset S b j (.inr (.inl (ci, fl.set k (.inl (.inr (.inr (some (b2, j2))))))))) cells slots sz I X Y (pc + 3) lo st) : zL C nL ad S cells slots sz I X Y pc lo (.inr (.inr (some (b2, j2))) :: .inr (.inr (some (b, j))) :: st) := by
  obtain ⟨q', hc', hkq, hl⟩ := hf
  have e := Option.some.inj (hc'.symm.trans hc)
  subst e
  refine z_putXF hC hin d hs hc hkq hl hfin hdecl (ty := ty) (v := .inr (.inr (some (b2, j2)))) hd (hn _) (hfit _) fun H H1 locs ls w0 w1 w2 w3 w4 => ?_
  refine kk H1 locs ls ⟨w0.reshape hs (w2.at (I' := I) (by simp) (zlt hk) (zhR (I := I) hk) (fun i hi => ?_)) w2.2.2, by rw [w2.2.1]; exact w1⟩ w3 w4
  rw [List.getElem?_set_ne (Ne.symm hi)]
/-- a field that holds null or one place -/
theorem z_putO (hC : zOk bt own nL ret N mc ms C ad) {b j idx ci k : Nat} {fl : List zF} {q2 : Nat × Nat} (d : decode bt pc = .ok (.putfield idx, 3)) (hs : S b j = some (.inr (.inl (ci, fl)))) (hf : zFld own idx ci k) (hk : fl[k]? = some (.inr (some q2))) {q : vw_C} (hc : vwCl[ci]? = some q) (hfin : (q.2.1 k).2.2.2 = false) {ty : FieldType} (hd : parseFieldDescriptor (q.2.1 k).2.2.1 = some ty) (hn : ∀ a, narrow ty (.ref a) = .ref a) (hfit : ∀ a, fits ty (.ref a) = true)
    (kk : zL C nL ad S cells slots sz (up3 I b j k 1) X Y (pc + 3) lo st) : zL C nL ad S cells slots sz I X Y pc lo (.inr (.inr (some q2)) :: .inr (.inr (some (b, j))) :: st) := by
  obtain ⟨q', hc', hkq, hl⟩ := hf
  have e := Option.some.inj (hc'.symm.trans hc)
  subst e
  obtain ⟨b2, j2⟩ := q2
  refine z_putX hC d hs hc hkq hl hfin (ty := ty) (v := .inr (.inr (some (b2, j2)))) hd (hn _) (hfit _) fun H H1 locs ls w0 w1 w2 w3 w4 => ?_
  refine kk H1 locs ls ⟨w0.put hs (fun b' k' i e => up3_ne fun z => e ⟨z.1, z.2.1⟩) (fun _ _ _ _ => rfl) (fun _ _ _ _ => rfl) (w2.at (I' := up3 I b j k 1) rfl (zlt hk) (zhO (I := I) hk) (fun i hi => ?_)) w2.2.2, by rw [w2.2.1]; exact w1⟩ w3 w4
  congr 1
  funext f
  rw [zfv_off (up3_ne fun z => hi z.2.2)]
/-! arrays -/
theorem z_iald (hC : zOk bt own nL ret N mc ms C ad) {b j n : Nat} {i : Int32} (d : decode bt pc = .ok (.iaload, 1)) (hs : S b j = some (.inl (0, n))) (hi : vp_in i n) (kk : zL C nL ad S cells slots sz I X Y (pc + 1) lo (.inl (X b j i.toNatClampNeg) :: st)) : zL C nL ad S cells slots sz I X Y pc lo (.inl i :: .inr (.inr (some (b, j))) :: st) :=
  fun H locs ls h1 h2 h3 => va_iald hC.1 hC.2.1 hC.2.2.2.2.2.2.2.2.1 (zsing (h1.1.1 b j _ hs).1) 0 0 rfl rfl hi d (kk H locs ls h1 h2 h3)
theorem z_lald (hC : zOk bt own nL ret N mc ms C ad) {b j n : Nat} {i : Int32} (d : decode bt pc = .ok (.laload, 1)) (hs : S b j = some (.inl (1, n))) (hi : vp_in i n) (kk : zL C nL ad S cells slots sz I X Y (pc + 1) lo (.inr (.inl (Y b j i.toNatClampNeg)) :: st)) : zL C nL ad S cells slots sz I X Y pc lo (.inl i :: .inr (.inr (some (b, j))) :: st) :=
  fun H locs ls h1 h2 h3 => va_lald hC.1 hC.2.1 hC.2.2.2.2.2.2.2.2.1 (zsing (h1.1.1 b j _ hs).1) 0 1 rfl rfl hi d (kk H locs ls h1 h2 h3)
theorem z_iast (hC : zOk bt own nL ret N mc ms C ad) {b j n : Nat} {i x : Int32} (d : decode bt pc = .ok (.iastore, 1)) (hs : S b j = some (.inl (0, n))) (hi : vp_in i n) (kk : zL C nL ad S cells slots sz I (up3 X b j i.toNatClampNeg x) Y (pc + 1) lo st) : zL C nL ad S cells slots sz I X Y pc lo (.inl x :: .inl i :: .inr (.inr (some (b, j))) :: st) := by
  intro H locs ls h1 h2 h3
  obtain ⟨g1, g2⟩ := h1.1.1 b j _ hs
  refine W.iast hC.1 hC.2.1 g1 ((hC.2.2.2.2.2.2.2.2.1.2 0 _ rfl).1 n (fun j' => .int (X b j j'))) (fun q => by cases q) (by show ¬ (i < 0 ∨ (arrV _ _ _).slots.size ≤ _); rw [arrV_size]; exact hi) rfl rfl d fun H1 e z oq => ?_
  refine kk H1 _ ls ⟨h1.1.put hs (fun _ _ _ _ => rfl) (fun b' k' i' e => up3_ne fun z => e ⟨z.1, z.2.1⟩) (fun _ _ _ _ => rfl) ?_ oq, by rw [z]; exact h1.2⟩ (h2.put z oq g2) h3
  show H1[ad b j]? = some (vp_cell _ _)
  rw [e]
  show some ((vp_cell _ _).setSlot _ _) = _
  rw [vp_cell_i, vp_cell_i, arrV_store]
  congr 2
  funext j'
  by_cases e2 : j' = i.toNatClampNeg
  · subst e2; simp [updV, up3]
  · simp [updV, up3, e2]
theorem z_last (hC : zOk bt own nL ret N mc ms C ad) {b j n : Nat} {i : Int32} {x : Int64} (d : decode bt pc = .ok (.lastore, 1)) (hs : S b j = some (.inl (1, n))) (hi : vp_in i n) (kk : zL C nL ad S cells slots sz I X (up3 Y b j i.toNatClampNeg x) (pc + 1) lo st) : zL C nL ad S cells slots sz I X Y pc lo (.inr (.inl x) :: .inl i :: .inr (.inr (some (b, j))) :: st) := by
  intro H locs ls h1 h2 h3
  obtain ⟨g1, g2⟩ := h1.1.1 b j _ hs
  refine W.last hC.1 hC.2.1 g1 ((hC.2.2.2.2.2.2.2.2.1.2 1 _ rfl).1 n (fun j' => .long (Y b j j'))) (fun q => by cases q) (by show ¬ (i < 0 ∨ (arrV _ _ _).slots.size ≤ _); rw [arrV_size]; exact hi) rfl rfl d fun H1 e z oq => ?_
  refine kk H1 _ ls ⟨h1.1.put hs (fun _ _ _ _ => rfl) (fun _ _ _ _ => rfl) (fun b' k' i' e => up3_ne fun z => e ⟨z.1, z.2.1⟩) ?_ oq, by rw [z]; exact h1.2⟩ (h2.put z oq g2) h3
  show H1[ad b j]? = some (vp_cell _ _)
  rw [e]
  show some ((vp_cell _ _).setSlot _ _) = _
  rw [vp_cell_l, vp_cell_l, arrV_store]
  congr 2
  funext j'
  by_cases e2 : j' = i.toNatClampNeg
  · subst e2; simp [updV, up3]
  · simp [updV, up3, e2]
theorem z_alen (hC : zOk bt own nL ret N mc ms C ad) {b j n t : Nat} (d : decode bt pc = .ok (.arraylength, 1)) (hs : S b j = some (.inl (t, n))) {v : Int32} (hv : Int32.ofNat n = v) (kk : zL C nL ad S cells slots sz I X Y (pc + 1) lo (.inl v :: st)) : zL C nL ad S cells slots sz I X Y pc lo (.inr (.inr (some (b, j))) :: st) := by
  intro H locs ls h1 h2 h3
  cases t with
  | zero => exact va_alen hC.1 hC.2.1 hC.2.2.2.2.2.2.2.2.1 (zsing (h1.1.1 b j _ hs).1) 0 0 rfl rfl hv d (kk H locs ls h1 h2 h3)
  | succ t => exact va_alen hC.1 hC.2.1 hC.2.2.2.2.2.2.2.2.1 (zsing (h1.1.1 b j _ hs).1) 0 1 rfl rfl hv d (kk H locs ls h1 h2 h3)
theorem zty2 {t : Nat} (ht : t < 3) : ∃ ty : FieldType, zty (t + 2) = ty := ⟨_, rfl⟩
/-- an array of places: its length, an element -/
theorem z_alenQ (hC : zOk bt own nL ret N mc ms C ad) {b j t : Nat} {el : List (Option (Nat × Nat))} (ht : t < 3) (d : decode bt pc = .ok (.arraylength, 1)) (hs : S b j = some (.inr (.inr (t, el)))) {v : Int32} (hv : Int32.ofNat el.length = v) (kk : zL C nL ad S cells slots sz I X Y (pc + 1) lo (.inl v :: st)) : zL C nL ad S cells slots sz I X Y pc lo (.inr (.inr (some (b, j))) :: st) := by
  intro H locs ls h1 h2 h3
  match t, ht, hs with
  | 0, _, hs => exact va_alen hC.1 hC.2.1 hC.2.2.2.2.2.2.2.2.1 (zsing (h1.1.1 b j _ hs).1) 0 2 rfl rfl hv d (kk H locs ls h1 h2 h3)
  | 1, _, hs => exact va_alen hC.1 hC.2.1 hC.2.2.2.2.2.2.2.2.1 (zsing (h1.1.1 b j _ hs).1) 0 3 rfl rfl hv d (kk H locs ls h1 h2 h3)
  | 2, _, hs => exact va_alen hC.1 hC.2.1 hC.2.2.2.2.2.2.2.2.1 (zsing (h1.1.1 b j _ hs).1) 0 4 rfl rfl hv d (kk H locs ls h1 h2 h3)
theorem z_aald (hC : zOk bt own nL ret N mc ms C ad) {b j t : Nat} {el : List (Option (Nat × Nat))} {i : Int32} {b2 j2 : Nat} (ht : t < 3) (d : decode bt pc = .ok (.aaload, 1)) (hs : S b j = some (.inr (.inr (t, el)))) (hi : vp_in i el.length) (he : el[i.toNatClampNeg]? = some (some (b2, j2))) (kk : zL C nL ad S cells slots sz I X Y (pc + 1) lo (.inr (.inr (some (b2, j2))) :: st)) : zL C nL ad S cells slots sz I X Y pc lo (.inl i :: .inr (.inr (some (b, j))) :: st) := by
  intro H locs ls h1 h2 h3
  have hk := kk H locs ls h1 h2 h3
  have e2 : va_rf (zpl ad el[i.toNatClampNeg]?) = .ref (ad b2 j2) := by rw [he]; rfl
  have hlt : i.toNatClampNeg < el.length := Nat.not_le.mp fun q => hi (Or.inr q)
  have hv : ∀ cA : ClassId, (vp_cell cA (el.length, .inr (.inr (.inr (.inr (fun j => zpl ad el[j]?)))))).slots[i.toNatClampNeg]? = some (.ref (ad b2 j2)) := by
    intro cA
    rw [vp_cell_q, arrV_read _ _ hlt, e2]
  have hsz : ∀ cA : ClassId, ¬ (i < 0 ∨ (vp_cell cA (el.length, .inr (.inr (.inr (.inr (fun j => zpl ad el[j]?)))))).slots.size ≤ i.toNatClampNeg) := by
    intro cA
    rw [vp_cell_q, arrV_size]; exact hi
  match t, ht, hs with
  | 0, _, hs => exact W.aald (ty := .object "OnTheRoof$Shelf") hC.1 hC.2.1 (h1.1.1 b j _ hs).1 ((hC.2.2.2.2.2.2.2.2.1.2 2 _ rfl).1 _ (fun j => va_rf (zpl ad el[j]?))) rfl (fun q => by cases q) (hsz _) (hv _) rfl rfl d hk
  | 1, _, hs => exact W.aald (ty := .array .int) hC.1 hC.2.1 (h1.1.1 b j _ hs).1 ((hC.2.2.2.2.2.2.2.2.1.2 3 _ rfl).1 _ (fun j => va_rf (zpl ad el[j]?))) rfl (fun q => by cases q) (hsz _) (hv _) rfl rfl d hk
  | 2, _, hs => exact W.aald (ty := .array .long) hC.1 hC.2.1 (h1.1.1 b j _ hs).1 ((hC.2.2.2.2.2.2.2.2.1.2 4 _ rfl).1 _ (fun j => va_rf (zpl ad el[j]?))) rfl (fun q => by cases q) (hsz _) (hv _) rfl rfl d hk
end ZH2
