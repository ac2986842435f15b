/-! rows that make things: the shapes are there from the start, those from w on are cut off -/
def zcut (b w : Nat) (S : zSh) : zSh := fun b' k' => if b' = b ∧ w ≤ k' then none else S b' k'
theorem zcut_at {b w : Nat} {S : zSh} : zcut b w S b w = none := if_pos ⟨rfl, Nat.le_refl _⟩
theorem zcut_lt {b w k : Nat} {S : zSh} {x : Option zS} (h : S b k = x) (hk : k < w) : zcut b w S b k = x := by
  rw [← h]; exact if_neg (by omega)
theorem zcut_ne {b w b' k : Nat} {S : zSh} {x : Option zS} (h : S b' k = x) (hb : b' ≠ b) : zcut b w S b' k = x := by rw [← h]; exact if_neg (fun z => hb z.1)
theorem zcut_up {b w : Nat} {S : zSh} {sh : zS} (h : S b w = some sh) : zset (zcut b w S) b w sh = zcut b (w + 1) S := by
  funext b' k'
  unfold zset zcut
  by_cases e : b' = b ∧ k' = w
  · obtain ⟨rfl, rfl⟩ := e
    rw [if_pos ⟨rfl, rfl⟩, if_neg (by omega)]
    exact h.symm
  · rw [if_neg e]
    by_cases e2 : b' = b ∧ w ≤ k'
    · rw [if_pos e2, if_pos (by omega)]
    · rw [if_neg e2, if_neg (by omega)]
/-- a field of a shape and its type's default -/
def zdk : FieldType → zF → Bool
  | .int, .inr none => true
  | .boolean, .inr none => true
  | .object _, .inr (some _) => true
  | .array _, .inr (some _) => true
  | _, _ => false
def zdks (q : vw_C) (fl : List zF) : Bool := fl.length == q.2.2 && (List.range q.2.2).all (fun k => match parseFieldDescriptor (q.2.1 k).2.2.1, fl[k]? with
  | some ty, some f => zdk ty f
  | _, _ => false)
theorem zdk_v {ad : zA} {I : zI} {b j k : Nat} {ty : FieldType} {f : zF} (h : zdk ty f = true) (h0 : I b j k = 0) : rv ad (zfv I b j k f) = defaultValue ty := by
  have hq : ∀ q, zfv I b j k (.inr (some q)) = .inr (.inr none) := fun q => if_pos h0
  have hn : zfv I b j k (.inr none) = .inl 0 := congrArg Sum.inl h0
  cases ty <;> rcases f with v | _ | q <;> first | (simp [zdk] at h; done) | (rw [hq]; rfl) | (rw [hn]; rfl)
def zNw (own : String) (idx : Nat) (q : vw_C) : Prop := Cond.classLink own idx q.1 ∈ zTb ∧ Cond.instantiable q.1 q.2.2 ∈ zTb ∧ Cond.initialized q.1 ∈ zTb
section ZNEW
variable {C : zC} {nL : Nat} {ad : zA} {S : zSh} {cells slots sz : Nat} {I X : zI} {Y : zY} {pc : Nat} {lo : List (Option zV)} {st : List zV}
variable {bt : ByteArray} {own : String} {ret : Option FieldType} {N mc ms : Nat}
theorem z_new (hC : zOk bt own nL ret N mc ms C ad) {b w idx ci : Nat} {q : vw_C} {fl : List zF} (d : decode bt pc = .ok (.new idx, 3)) (hc : vwCl[ci]? = some q) (hl : zNw own idx q) (hs : S b w = some (.inr (.inl (ci, fl)))) (hdk : zdks q fl = true) (hI : ∀ j, I b w j = 0) (hz : ad b w = sz) (hroom : cells + 1 ≤ mc ∧ slots + q.2.2 ≤ ms)
    (kk : zL C nL ad (zcut b (w + 1) S) (cells + 1) (slots + q.2.2) (sz + 1) I X Y (pc + 3) lo (.inr (.inr (some (b, w))) :: st)) : zL C nL ad (zcut b w S) cells slots sz I X Y pc lo st := by
  intro H locs ls h1 h2 h3
  obtain ⟨z1, ⟨ty, z2⟩, z3⟩ := zcls ci q hc
  have hK := hC.2.2.2.2.2.2.2.2.1
  have hts := hC.2.2.2.2.1
  have hR := hC.2.2.2.2.2.2.2.1
  have hKn := hK.1 ci _ hc
  have r1 := hroom.1
  have r2 := hroom.2
  refine W.newcK hC.1 hC.2.1 hC.2.2.2.1 (hts _ hl.1) (hts _ hl.2.1) (hts _ hl.2.2) rfl d (Nat.le_trans r1 hR.2.2.1) (Nat.le_trans r2 hR.2.2.2) hKn.2.1 rfl fun H1 kC hkC e1 y1 o1 => ?_
  obtain ⟨hd1, hd2⟩ := Bool.and_eq_true_iff.mp hdk
  have hlen : fl.length = q.2.2 := by simpa using hd1
  have hnew : va_at (cg C).1 vwCl (H.size, zcell (cg C) ad I X Y b w (.inr (.inl (ci, fl)))) H1 := by
    refine ⟨q, hc, (u_born ty hts z1 hKn hkC e1 z2).to fun k hk => ?_⟩
    have h4 := List.all_eq_true.mp hd2 k (List.mem_range.mpr hk)
    have h5 : fl[k]? = some fl[k] := List.getElem?_eq_getElem (by omega)
    rw [z2 k hk, h5] at h4
    show defaultValue (ty k) = vp_V (fl.mapIdx (fun j f => rv ad (zfv I b w j f))) k
    unfold vp_V
    rw [List.getD_eq_getElem?_getD, List.getElem?_mapIdx, h5]
    exact (zdk_v h4 (hI k)).symm
  have hA : cA C H.size := hC.2.2.2.2.2.2.2.2.2.2 _ h2.1
  have hg := h1.1.grow (I' := I) (X' := X) (Y' := Y) zcut_at (by rw [hz, h1.2]) hA (fun _ _ _ _ => rfl) (fun _ _ _ _ => rfl) (fun _ _ _ _ => rfl) hnew o1
  rw [zcut_up hs] at hg
  have hk := kk H1 locs ls ⟨hg, by rw [y1, h1.2]⟩ ⟨Nat.le_trans h2.1 (by omega), fun x g1 g2 => (o1 x (Nat.lt_of_lt_of_le g1 h2.1)).trans (h2.2.1 x g1 g2), h2.2.2⟩ h3
  have e : rv ad (.inr (.inr (some (b, w)))) = .ref H.size := by show Value.ref (ad b w) = _; rw [hz, h1.2]
  rw [List.map_cons, e] at hk
  exact hk
theorem zArrN {g : zG} {U : State} (hK : zK g U) {t : Nat} {ty : FieldType} (h : (ztys g)[t]? = some (g.2 t, ty)) (hn : ∀ n, ty ≠ .object n) : U.vm.findClass ("[" ++ ty.toString) = some (g.2 t) := by
  have := (hK.2 t _ h).2
  cases ty <;> first | exact this | exact absurd rfl (hn _)
theorem z_nwI (hC : zOk bt own nL ret N mc ms C ad) {b w n : Nat} {v : Int32} (d : decode bt pc = .ok (.newarray .int, 2)) (hl : Cond.arrayClass .int ∈ zTb) (hs : S b w = some (.inl (0, n))) (hv : v = nI n) (hn : n ≤ 100000) (hX : ∀ j, X b w j = 0) (hz : ad b w = sz) (hroom : cells + 1 ≤ mc ∧ slots + n ≤ ms)
    (kk : zL C nL ad (zcut b (w + 1) S) (cells + 1) (slots + n) (sz + 1) I X Y (pc + 2) lo (.inr (.inr (some (b, w))) :: st)) : zL C nL ad (zcut b w S) cells slots sz I X Y pc lo (.inl v :: st) := by
  intro H locs ls h1 h2 h3
  subst hv
  have hK := hC.2.2.2.2.2.2.2.2.1
  have hts := hC.2.2.2.2.1
  have hR := hC.2.2.2.2.2.2.2.1
  refine va_newaK (atype := .int) hC.1 hC.2.1 (hts _ hl) rfl d rfl (nI_pos (by omega)) (nI_clamp (by omega)) (by show n * 4 ≤ _; omega) (Nat.le_trans hroom.1 hR.2.2.1) (Nat.le_trans hroom.2 hR.2.2.2) rfl fun H1 cA1 e1 y1 o1 hAr hNm => ?_
  have hcA : cA1 = (cg C).2 0 := Option.some.inj (hNm.symm.trans (zArrN (t := 0) hK rfl (fun _ z => by cases z)))
  subst hcA
  have hnew : va_at (cg C).1 vwCl (H.size, zcell (cg C) ad I X Y b w (.inl (0, n))) H1 := by
    show H1[H.size]? = some (vp_cell _ _)
    rw [e1]
    show some (arrV _ n _) = some (arrV _ n (fun j => .int (X b w j)))
    congr 2
    funext j
    rw [hX j]; rfl
  have hA : cA C H.size := hC.2.2.2.2.2.2.2.2.2.2 _ h2.1
  have hg := h1.1.grow (I' := I) (X' := X) (Y' := Y) zcut_at (by rw [hz, h1.2]) hA (fun _ _ _ _ => rfl) (fun _ _ _ _ => rfl) (fun _ _ _ _ => rfl) hnew o1
  rw [zcut_up hs] at hg
  have hk := kk H1 locs ls ⟨hg, by rw [y1, h1.2]⟩ ⟨Nat.le_trans h2.1 (by omega), fun x g1 g2 => (o1 x (Nat.lt_of_lt_of_le g1 h2.1)).trans (h2.2.1 x g1 g2), h2.2.2⟩ h3
  have e : rv ad (.inr (.inr (some (b, w)))) = .ref H.size := by show Value.ref (ad b w) = _; rw [hz, h1.2]
  rw [List.map_cons, e] at hk
  exact hk
theorem z_nwJ (hC : zOk bt own nL ret N mc ms C ad) {b w n : Nat} {v : Int32} (d : decode bt pc = .ok (.newarray .long, 2)) (hl : Cond.arrayClass .long ∈ zTb) (hs : S b w = some (.inl (1, n))) (hv : v = nI n) (hn : n ≤ 100000) (hX : ∀ j, Y b w j = 0) (hz : ad b w = sz) (hroom : cells + 1 ≤ mc ∧ slots + n ≤ ms)
    (kk : zL C nL ad (zcut b (w + 1) S) (cells + 1) (slots + n) (sz + 1) I X Y (pc + 2) lo (.inr (.inr (some (b, w))) :: st)) : zL C nL ad (zcut b w S) cells slots sz I X Y pc lo (.inl v :: st) := by
  intro H locs ls h1 h2 h3
  subst hv
  have hK := hC.2.2.2.2.2.2.2.2.1
  have hts := hC.2.2.2.2.1
  have hR := hC.2.2.2.2.2.2.2.1
  refine va_newaK (atype := .long) hC.1 hC.2.1 (hts _ hl) rfl d rfl (nI_pos (by omega)) (nI_clamp (by omega)) (by show n * 8 ≤ _; omega) (Nat.le_trans hroom.1 hR.2.2.1) (Nat.le_trans hroom.2 hR.2.2.2) rfl fun H1 cA1 e1 y1 o1 hAr hNm => ?_
  have hcA : cA1 = (cg C).2 1 := Option.some.inj (hNm.symm.trans (zArrN (t := 1) hK rfl (fun _ z => by cases z)))
  subst hcA
  have hnew : va_at (cg C).1 vwCl (H.size, zcell (cg C) ad I X Y b w (.inl (1, n))) H1 := by
    show H1[H.size]? = some (vp_cell _ _)
    rw [e1]
    show some (arrV _ n _) = some (arrV _ n (fun j => .long (Y b w j)))
    congr 2
    funext j
    rw [hX j]; rfl
  have hA : cA C H.size := hC.2.2.2.2.2.2.2.2.2.2 _ h2.1
  have hg := h1.1.grow (I' := I) (X' := X) (Y' := Y) zcut_at (by rw [hz, h1.2]) hA (fun _ _ _ _ => rfl) (fun _ _ _ _ => rfl) (fun _ _ _ _ => rfl) hnew o1
  rw [zcut_up hs] at hg
  have hk := kk H1 locs ls ⟨hg, by rw [y1, h1.2]⟩ ⟨Nat.le_trans h2.1 (by omega), fun x g1 g2 => (o1 x (Nat.lt_of_lt_of_le g1 h2.1)).trans (h2.2.1 x g1 g2), h2.2.2⟩ h3
  have e : rv ad (.inr (.inr (some (b, w)))) = .ref H.size := by show Value.ref (ad b w) = _; rw [hz, h1.2]
  rw [List.map_cons, e] at hk
  exact hk
/-- an array of places, all null -/
theorem z_nwQ (hC : zOk bt own nL ret N mc ms C ad) {b w n idx : Nat} {v : Int32} (d : decode bt pc = .ok (.anewarray idx, 3)) (hl : Cond.classLink own idx "OnTheRoof$Shelf" ∈ zTb) (hs : S b w = some (.inr (.inr (0, List.replicate n none)))) (hv : v = nI n) (hn : n ≤ 100000) (hz : ad b w = sz) (hroom : cells + 1 ≤ mc ∧ slots + n ≤ ms)
    (kk : zL C nL ad (zcut b (w + 1) S) (cells + 1) (slots + n) (sz + 1) I X Y (pc + 3) lo (.inr (.inr (some (b, w))) :: st)) : zL C nL ad (zcut b w S) cells slots sz I X Y pc lo (.inl v :: st) := by
  intro H locs ls h1 h2 h3
  subst hv
  have hK := hC.2.2.2.2.2.2.2.2.1
  have hts := hC.2.2.2.2.1
  have hR := hC.2.2.2.2.2.2.2.1
  have hcl : (nI n).toNatClampNeg = n := nI_clamp (by omega)
  refine W.anew hC.1 hC.2.1 hC.2.2.2.1 (hts _ hl) (va_AO.use (zOld_of hC).2.2.2.2.1.1) rfl d rfl (nI_pos (by omega)) (by rw [hcl]; omega) (Nat.le_trans hroom.1 hR.2.2.1) (by rw [hcl]; exact Nat.le_trans hroom.2 hR.2.2.2) fun cA1 kA comp f1 f2 f3 f4 => ?_
  rw [hcl]
  obtain ⟨kA2, comp2, k1, k2, k3, k4⟩ := (hK.2 2 _ rfl).2
  have hcA : cA1 = (cg C).2 2 := Option.some.inj (f1.symm.trans k4)
  subst hcA
  generalize hH1 : H.push ({ cls := (cg C).2 2, slots := Array.replicate n .null, vm := .none } : Cell) = H1
  have y1 : H1.size = H.size + 1 := by rw [← hH1, Array.size_push]
  have e1 : H1[H.size]? = some (arrV ((cg C).2 2) n (fun _ => .null)) := by rw [← hH1, Array.getElem?_push_size, ← arrV_new]
  have o1 : ∀ q : Nat, q < H.size → H1[q]? = H[q]? := fun q hq => by rw [← hH1, Array.getElem?_push, if_neg (Nat.ne_of_lt hq)]
  have hnew : va_at (cg C).1 vwCl (H.size, zcell (cg C) ad I X Y b w (.inr (.inr (0, List.replicate n none)))) H1 := by
    show H1[H.size]? = some (vp_cell _ _)
    rw [e1]
    show some (arrV _ n _) = some (arrV _ (List.replicate n none).length (fun j => va_rf (zpl ad (List.replicate n none)[j]?)))
    rw [List.length_replicate]
    congr 2
    funext j
    rw [List.getElem?_replicate]
    split <;> rfl
  have hA : cA C H.size := hC.2.2.2.2.2.2.2.2.2.2 _ h2.1
  have hg := h1.1.grow (I' := I) (X' := X) (Y' := Y) zcut_at (by rw [hz, h1.2]) hA (fun _ _ _ _ => rfl) (fun _ _ _ _ => rfl) (fun _ _ _ _ => rfl) hnew o1
  rw [zcut_up hs] at hg
  have hk := kk H1 locs ls ⟨hg, by rw [y1, h1.2]⟩ ⟨Nat.le_trans h2.1 (by omega), fun x g1 g2 => (o1 x (Nat.lt_of_lt_of_le g1 h2.1)).trans (h2.2.1 x g1 g2), h2.2.2⟩ h3
  have e : rv ad (.inr (.inr (some (b, w)))) = .ref H.size := by show Value.ref (ad b w) = _; rw [hz, h1.2]
  rw [List.map_cons, e] at hk
  exact hk
/-- a Shelf into the array of places -/
theorem z_aast (hC : zOk bt own nL ret N mc ms C ad) {b j b2 j2 i : Nat} {el : List (Option (Nat × Nat))} {fl : List zF} (d : decode bt pc = .ok (.aastore, 1)) (hs : S b j = some (.inr (.inr (0, el)))) (hi : i < el.length) (hi2 : i < 100000) (hs2 : S b2 j2 = some (.inr (.inl (2, fl))))
    (kk : zL C nL ad (zset S b j (.inr (.inr (0, el.set i (some (b2, j2)))))) cells slots sz I X Y (pc + 1) lo st) : zL C nL ad S cells slots sz I X Y pc lo (.inr (.inr (some (b2, j2))) :: .inl (nI i) :: .inr (.inr (some (b, j))) :: st) := by
  intro H locs ls h1 h2 h3
  have hK := hC.2.2.2.2.2.2.2.2.1
  have hcl : (nI i).toNatClampNeg = i := nI_clamp (by omega)
  obtain ⟨r', hr', cellV, g1, g2, g3, -⟩ := (h1.1.1 b2 j2 _ hs2).1
  cases hr'
  have hcls := (hK.1 2 _ rfl).2
  obtain ⟨kA, comp, k1, k2, k3, -⟩ := (hK.2 2 _ rfl).2
  have hcomp : comp = (cg C).1.1 2 := Option.some.inj (k3.symm.trans hcls.1)
  subst hcomp
  obtain ⟨kC, hkC, -⟩ := hcls.2
  have e0 := (h1.1.1 b j _ hs).1
  refine W.aast hC.1 hC.2.1 e0 (fun q h => by cases h) (fun h => by cases h) k1 k2 rfl hkC ⟨nI_pos (by omega), by rw [hcl]; show _ < (arrV _ _ _).slots.size; rw [arrV_size]; exact hi⟩ g1 (fun q h => by rw [g3] at h; cases h) (by rw [g2]; exact hkC) (by rw [g2]; exact va_assign hcls) rfl rfl d fun H1 e z oq => ?_
  refine kk H1 _ ls ⟨h1.1.reshape hs ?_ oq, by rw [z]; exact h1.2⟩ (h2.put z oq (h1.1.1 b j _ hs).2) h3
  show H1[ad b j]? = some (vp_cell _ _)
  rw [e]
  show some (Cell.setSlot (vp_cell ((cg C).2 2) (el.length, .inr (.inr (.inr (.inr (fun j => zpl ad el[j]?)))))) _ _) = some (vp_cell ((cg C).2 2) ((el.set i (some (b2, j2))).length, .inr (.inr (.inr (.inr (fun j => zpl ad (el.set i (some (b2, j2)))[j]?))))))
  rw [vp_cell_q, vp_cell_q, arrV_store, List.length_set, hcl]
  congr 2
  funext q
  by_cases hq : q = i
  · subst hq
    simp [updV, List.getElem?_set_self hi, zpl, va_rf]
  · simp [updV, hq, List.getElem?_set_ne (Ne.symm hq)]
/-- a final field that holds a place, in a constructor: its flag is set -/
theorem z_putOF (hC : zOk bt own nL ret N mc ms C ad) (hin : (ch C).name = "<init>") {b j idx ci k : Nat} {fl : List zF} {q2 : Nat × Nat} (d : decode bt pc = .ok (.putfield idx, 3)) (hs : S b j = some (.inr (.inl (ci, fl)))) (hf : zFld own idx ci k) (hk : fl[k]? = some (.inr (some q2))) {q : vw_C} (hc : vwCl[ci]? = some q) (hfin : (q.2.1 k).2.2.2 = true) (hdecl : (q.2.1 k).1 = own) {ty : FieldType} (hd : parseFieldDescriptor (q.2.1 k).2.2.1 = some ty) (hn : ∀ a, narrow ty (.ref a) = .ref a) (hfit : ∀ a, fits ty (.ref a) = true)
    (kk : zL C nL ad S cells slots sz (up3 I b j k 1) X Y (pc + 3) lo st) : zL C nL ad S cells slots sz I X Y pc lo (.inr (.inr (some q2)) :: .inr (.inr (some (b, j))) :: st) := by
  obtain ⟨q', hc', hkq, hl⟩ := hf
  have e := Option.some.inj (hc'.symm.trans hc)
  subst e
  obtain ⟨b2, j2⟩ := q2
  refine z_putXF hC hin d hs hc hkq hl hfin hdecl (ty := ty) (v := .inr (.inr (some (b2, j2)))) hd (hn _) (hfit _) fun H H1 locs ls w0 w1 w2 w3 w4 => ?_
  refine kk H1 locs ls ⟨w0.put hs (fun b' k' i e => up3_ne fun z => e ⟨z.1, z.2.1⟩) (fun _ _ _ _ => rfl) (fun _ _ _ _ => rfl) (w2.at (I' := up3 I b j k 1) rfl (zlt hk) (zhO (I := I) hk) (fun i hi => ?_)) w2.2.2, by rw [w2.2.1]; exact w1⟩ w3 w4
  congr 1
  funext f
  rw [zfv_off (up3_ne fun z => hi z.2.2)]
/-- java.lang.Object's constructor -/
theorem z_obj (hC : zOk bt own nL ret N mc ms C ad) {idx b j : Nat} (d : decode bt pc = .ok (.invokespecial idx, 3)) (hl : Cond.methodLink own idx Lib.objectInit ∈ zTb) (hi : Cond.instanceMethod Lib.objectInit ∈ zTb) (hcd : Cond.code Lib.objectInit ⟨#[0xb1]⟩ 1 none ∈ zTb) (hN : Nat.ble 1 N = true) (hst : st = [])
    (kk : zL C nL ad S cells slots sz I X Y (pc + 3) lo st) : zL C nL ad S cells slots sz I X Y pc lo (.inr (.inr (some (b, j))) :: st) := by
  subst hst
  intro H locs ls h1 h2 h3
  have hts := hC.2.2.2.2.1
  have hR := hC.2.2.2.2.2.2.2.1
  have hN1 := Nat.le_of_ble_eq_true hN
  exact W.objInit hC.1 hC.2.1 hC.2.2.2.1 (hts _ hl) (hts _ hi) (hts _ hcd) rfl (by rw [hC.2.2.1]; exact h3.1) rfl d (Nat.le_trans hN1 hR.1) (by show 2 * 0 + 0 + 12 ≤ _; have := hR.2.1; omega) (kk H locs ls h1 h2 h3)
theorem z_sz {sz2 : Nat} (h : sz = sz2) (k : zL C nL ad S cells slots sz2 I X Y pc lo st) : zL C nL ad S cells slots sz I X Y pc lo st := by subst h; exact k
theorem z_S {S2 : zSh} (h : S = S2) (k : zL C nL ad S2 cells slots sz I X Y pc lo st) : zL C nL ad S cells slots sz I X Y pc lo st := by subst h; exact k
end ZNEW
/-- an end that is told otherwise -/
theorem zEnd.re {C : zC} {ad : zA} {S1 S2 : zSh} {I1 X1 I2 X2 : zI} {Y1 Y2 : zY} {sz mc ms : Nat} {v : Option zV} (h : zEnd C ad S2 I2 X2 Y2 sz v mc ms) (hW : ∀ (g : zG) (A : Nat → Prop) (H : Heap), zW g A ad S1 I1 X1 Y1 H → zW g A ad S2 I2 X2 Y2 H) : zEnd C ad S1 I1 X1 Y1 sz v mc ms := by
  obtain ⟨Qc, free, h1, h2⟩ := h
  exact ⟨Qc, free, h1, fun H locs a b c => h2 H locs (hW _ _ _ a) b c⟩
/-- the same cells by other shapes -/
theorem zW.same {g : zG} {A : Nat → Prop} {ad : zA} {S S2 : zSh} {I X : zI} {Y : zY} {H : Heap} (h : zW g A ad S I X Y H) (hs : ∀ b k sh2, S2 b k = some sh2 → ∃ sh, S b k = some sh ∧ zcell g ad I X Y b k sh = zcell g ad I X Y b k sh2) : zW g A ad S2 I X Y H := by
  have hn : ∀ b k, S2 b k ≠ none → S b k ≠ none := by
    intro b k h2
    cases e : S2 b k with
    | none => exact absurd e h2
    | some sh2 =>
      obtain ⟨sh, h1, -⟩ := hs b k sh2 e
      rw [h1]; exact fun z => by cases z
  refine ⟨fun b k sh2 h2 => ?_, fun b k b' k' h1 h2 e => h.2 b k b' k' (hn _ _ h1) (hn _ _ h2) e⟩
  obtain ⟨sh, h1, h3⟩ := hs b k sh2 h2
  rw [← h3]
  exact h.1 b k sh h1
theorem zIv {C : zC} {nL : Nat} {ad : zA} {S S' : zSh} {cells slots sz sz' : Nat} {I X I' X' : zI} {Y Y' : zY} {pc : Nat} {lo : List (Option zV)} {st : List zV} {bt : ByteArray} {own : String} {ret : Option FieldType} {N mc ms : Nat} {y : zM} {np idx n mc1 ms1 : Nat} {As : List zV} {st0 : List zV} {b j : Nat}
    (hC : zOk bt own nL ret N mc ms C ad) (d : decode bt pc = .ok (.invokespecial idx, 3)) (hy : zIni own idx y np) (hM : zCall y n mc1 ms1 (.inr (.inr (some (b, j))) :: As) none ad S I X Y sz S' I' X' Y' sz') (hst : st0 = As.reverse ++ .inr (.inr (some (b, j))) :: st) (hnp : As.length = np) (hn : Nat.ble (n + 1) N = true) (hw : Nat.ble (st.map (fun v => zcat (some (some v)))).sum 8 = true) (hroom : cells + mc1 ≤ mc ∧ slots + ms1 ≤ ms)
    (kk : zL C nL ad S' (cells + mc1) (slots + ms1) sz' I' X' Y' (pc + 3) lo st) : zL C nL ad S cells slots sz I X Y pc lo st0 :=
  z_callI hC d hy hM hst hnp (Nat.le_of_ble_eq_true hn) (Nat.le_of_ble_eq_true hw) hroom kk
