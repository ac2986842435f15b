theorem zlays {ws : List Cond} {ps : List Nat} (h : ws = ps.filterMap (fun i => tables_1[i]?)) (g : ws.all goodWord = true) : ∀ w ∈ ws, w ∈ zTb := by
  intro w hw
  have g1 := List.all_eq_true.mp g w hw
  rw [h] at hw
  obtain ⟨i, -, hi⟩ := List.mem_filterMap.mp hw
  exact zin hi g1
theorem zlay0 : ∀ w ∈ u_ws RX0 TX0 4, w ∈ zTb := by
  have h : u_ws RX0 TX0 4 = [119, 121, 123, 125].filterMap (fun i => tables_1[i]?) := by decide +kernel
  have g : (u_ws RX0 TX0 4).all goodWord = true := by decide +kernel
  exact zlays h g
theorem zlay1 : ∀ w ∈ u_ws RX1 TX1 8, w ∈ zTb := by
  have h : u_ws RX1 TX1 8 = [72, 74, 76, 78, 80, 82, 84, 86].filterMap (fun i => tables_1[i]?) := by decide +kernel
  have g : (u_ws RX1 TX1 8).all goodWord = true := by decide +kernel
  exact zlays h g
theorem zlay2 : ∀ w ∈ u_ws RX2 TX2 3, w ∈ zTb := by
  have h : u_ws RX2 TX2 3 = [165, 167, 169].filterMap (fun i => tables_1[i]?) := by decide +kernel
  have g : (u_ws RX2 TX2 3).all goodWord = true := by decide +kernel
  exact zlays h g
theorem zlay3 : ∀ w ∈ u_ws RX3 TX3 3, w ∈ zTb := by
  have h : u_ws RX3 TX3 3 = [45, 47, 49].filterMap (fun i => tables_1[i]?) := by decide +kernel
  have g : (u_ws RX3 TX3 3).all goodWord = true := by decide +kernel
  exact zlays h g
theorem zlay4 : ∀ w ∈ u_ws RX4 TX4 6, w ∈ zTb := by
  have h : u_ws RX4 TX4 6 = [141, 143, 145, 147, 149, 151].filterMap (fun i => tables_1[i]?) := by decide +kernel
  have g : (u_ws RX4 TX4 6).all goodWord = true := by decide +kernel
  exact zlays h g
theorem zlay5 : ∀ w ∈ u_ws RX5 TX5 4, w ∈ zTb := by
  have h : u_ws RX5 TX5 4 = [100, 102, 104, 106].filterMap (fun i => tables_1[i]?) := by decide +kernel
  have g : (u_ws RX5 TX5 4).all goodWord = true := by decide +kernel
  exact zlays h g
theorem zlay6 : ∀ w ∈ u_ws RX6 TX6 9, w ∈ zTb := by
  have h : u_ws RX6 TX6 9 = [182, 184, 186, 188, 190, 192, 194, 196, 198].filterMap (fun i => tables_1[i]?) := by decide +kernel
  have g : (u_ws RX6 TX6 9).all goodWord = true := by decide +kernel
  exact zlays h g
theorem zlay7 : ∀ w ∈ u_ws RX7 TX7 43, w ∈ zTb := by
  have h : u_ws RX7 TX7 43 = [979, 981, 983, 985, 987, 989, 991, 993, 995, 997, 999, 1001, 1003, 1005, 1007, 1009, 1011, 1013, 1015, 1017, 1019, 1021, 1023, 1025, 1027, 1029, 1031, 1033, 1035, 1037, 1039, 1041, 1043, 1045, 1047, 1049, 1051, 1053, 1055, 1057, 1059, 1061, 1063].filterMap (fun i => tables_1[i]?) := by decide +kernel
  have g : (u_ws RX7 TX7 43).all goodWord = true := by decide +kernel
  exact zlays h g
/-- what the tables say of a class of mine -/
theorem zcls (ci : Nat) (q : vw_C) (h : vwCl[ci]? = some q) : (∀ w ∈ u_ws q.1 q.2.1 q.2.2, w ∈ zTb) ∧ (∃ ty : Nat → FieldType, ∀ k, k < q.2.2 → parseFieldDescriptor (q.2.1 k).2.2.1 = some (ty k)) ∧ (∀ a, a < q.2.2 → ∀ b, b < q.2.2 → a ≠ b → (q.2.1 a).2.1 ≠ (q.2.1 b).2.1) := by
  match ci, h with
  | 0, h => cases h; exact ⟨zlay0, ⟨tyX0, tyX0_ok⟩, nmX0⟩
  | 1, h => cases h; exact ⟨zlay1, ⟨tyX1, tyX1_ok⟩, nmX1⟩
  | 2, h => cases h; exact ⟨zlay2, ⟨tyX2, tyX2_ok⟩, nmX2⟩
  | 3, h => cases h; exact ⟨zlay3, ⟨tyX3, tyX3_ok⟩, nmX3⟩
  | 4, h => cases h; exact ⟨zlay4, ⟨tyX4, tyX4_ok⟩, nmX4⟩
  | 5, h => cases h; exact ⟨zlay5, ⟨tyX5, tyX5_ok⟩, nmX5⟩
  | 6, h => cases h; exact ⟨zlay6, ⟨tyX6, tyX6_ok⟩, nmX6⟩
  | 7, h => cases h; exact ⟨zlay7, ⟨tyX7, tyX7_ok⟩, nmX7⟩
  | ci + 8, h => exact absurd h (by simp [vwCl])
/-- a field's link: of class ci the field k, by entry idx of own -/
def zFld (own : String) (idx ci k : Nat) : Prop := ∃ q : vw_C, vwCl[ci]? = some q ∧ k < q.2.2 ∧ Cond.fieldLink own idx (q.2.1 k).1 (q.2.1 k).2.1 (q.2.1 k).2.2.1 ∈ zTb
def up3 {α : Type} (f : Nat → Nat → Nat → α) (b k j : Nat) (v : α) : Nat → Nat → Nat → α := fun b' k' j' => if b' = b ∧ k' = k ∧ j' = j then v else f b' k' j'
theorem up3_eq {α : Type} (f : Nat → Nat → Nat → α) (b k j : Nat) (v : α) : up3 f b k j v b k j = v := by simp [up3]
theorem up3_ne {α : Type} {f : Nat → Nat → Nat → α} {b k j b' k' j' : Nat} {v : α} (h : ¬ (b' = b ∧ k' = k ∧ j' = j)) : up3 f b k j v b' k' j' = f b' k' j' := if_neg h
section ZW
variable {g : zG} {A : Nat → Prop} {ad : zA} {S : zSh} {I X I' X' : zI} {Y Y' : zY} {H H1 : Heap}
theorem zfv_off {b k j : Nat} {f : zF} (hI : I' b k j = I b k j) : zfv I' b k j f = zfv I b k j f := by
  rcases f with v | _ | q
  · rfl
  · show Sum.inl (I' b k j) = Sum.inl (I b k j)
    rw [hI]
  · show (if I' b k j = 0 then _ else _) = (if I b k j = 0 then _ else _)
    rw [hI]
theorem zcell_off {b k : Nat} {sh : zS} (hI : ∀ j, I' b k j = I b k j) (hX : ∀ j, X' b k j = X b k j) (hY : ∀ j, Y' b k j = Y b k j) : zcell g ad I' X' Y' b k sh = zcell g ad I X Y b k sh := by
  rcases sh with ⟨t, n⟩ | ⟨ci, fl⟩ | ⟨t, el⟩
  · cases t with
    | zero =>
      show Sum.inl (g.2 0, (n, Sum.inl (X' b k))) = Sum.inl (g.2 0, (n, Sum.inl (X b k)))
      rw [show X' b k = X b k from funext hX]
    | succ t =>
      show Sum.inl (g.2 1, (n, Sum.inr (Sum.inl (Y' b k)))) = Sum.inl (g.2 1, (n, Sum.inr (Sum.inl (Y b k))))
      rw [show Y' b k = Y b k from funext hY]
  · show Sum.inr (ci, fl.mapIdx (fun j f => rv ad (zfv I' b k j f))) = Sum.inr (ci, fl.mapIdx (fun j f => rv ad (zfv I b k j f)))
    rw [show (fun (j : Nat) (f : zF) => rv ad (zfv I' b k j f)) = fun j f => rv ad (zfv I b k j f) from funext fun j => funext fun f => by rw [zfv_off (hI j)]]
  · rfl
/-- one cell changes -/
theorem zW.put {b k : Nat} {sh : zS} (h : zW g A ad S I X Y H) (hs : S b k = some sh) (hI : ∀ b' k' j, ¬ (b' = b ∧ k' = k) → I' b' k' j = I b' k' j) (hX : ∀ b' k' j, ¬ (b' = b ∧ k' = k) → X' b' k' j = X b' k' j) (hY : ∀ b' k' j, ¬ (b' = b ∧ k' = k) → Y' b' k' j = Y b' k' j)
    (hnew : va_at g.1 vwCl (ad b k, zcell g ad I' X' Y' b k sh) H1) (oq : ∀ q, q ≠ ad b k → H1[q]? = H[q]?) : zW g A ad S I' X' Y' H1 := by
  refine ⟨fun b' k' sh' h' => ?_, h.2⟩
  obtain ⟨h1, h2⟩ := h.1 b' k' sh' h'
  refine ⟨?_, h2⟩
  by_cases e : b' = b ∧ k' = k
  · obtain ⟨rfl, rfl⟩ := e
    rw [hs] at h'
    cases h'
    exact hnew
  · rw [zcell_off (fun j => hI b' k' j e) (fun j => hX b' k' j e) (fun j => hY b' k' j e)]
    refine h1.kept (oq _ fun e2 => e (h.2 b' k' b k (by rw [h']; exact fun z => by cases z) (by rw [hs]; exact fun z => by cases z) e2))
/-- one shape changes -/
def zset (S : zSh) (b k : Nat) (sh : zS) : zSh := fun b' k' => if b' = b ∧ k' = k then some sh else S b' k'
theorem zset_eq (S : zSh) (b k : Nat) (sh : zS) : zset S b k sh b k = some sh := by simp [zset]
theorem zset_ne {S : zSh} {b k b' k' : Nat} {sh : zS} (h : ¬ (b' = b ∧ k' = k)) : zset S b k sh b' k' = S b' k' := if_neg h
theorem zW.reshape {b k : Nat} {sh sh2 : zS} (h : zW g A ad S I X Y H) (hs : S b k = some sh) (hnew : va_at g.1 vwCl (ad b k, zcell g ad I X Y b k sh2) H1) (oq : ∀ q, q ≠ ad b k → H1[q]? = H[q]?) : zW g A ad (zset S b k sh2) I X Y H1 := by
  have hlive : ∀ b' k', zset S b k sh2 b' k' ≠ none → S b' k' ≠ none := by
    intro b' k' h'
    by_cases e : b' = b ∧ k' = k
    · obtain ⟨rfl, rfl⟩ := e
      rw [hs]; exact fun z => by cases z
    · rwa [zset_ne e] at h'
  refine ⟨fun b' k' sh' h' => ?_, fun b1 k1 b2 k2 h1 h2 e => h.2 b1 k1 b2 k2 (hlive _ _ h1) (hlive _ _ h2) e⟩
  by_cases e : b' = b ∧ k' = k
  · obtain ⟨rfl, rfl⟩ := e
    rw [zset_eq] at h'
    cases h'
    exact ⟨hnew, (h.1 b' k' sh hs).2⟩
  · rw [zset_ne e] at h'
    obtain ⟨h1, h2⟩ := h.1 b' k' sh' h'
    exact ⟨h1.kept (oq _ fun e2 => e (h.2 b' k' b k (by rw [h']; exact fun z => by cases z) (by rw [hs]; exact fun z => by cases z) e2)), h2⟩
/-- a new cell -/
theorem zW.grow {b k : Nat} {sh : zS} (h : zW g A ad S I X Y H) (hs : S b k = none) (hz : ad b k = H.size) (hA : A H.size) (hI : ∀ b' k' j, ¬ (b' = b ∧ k' = k) → I' b' k' j = I b' k' j) (hX : ∀ b' k' j, ¬ (b' = b ∧ k' = k) → X' b' k' j = X b' k' j) (hY : ∀ b' k' j, ¬ (b' = b ∧ k' = k) → Y' b' k' j = Y b' k' j)
    (hnew : va_at g.1 vwCl (H.size, zcell g ad I' X' Y' b k sh) H1) (oq : ∀ q, q < H.size → H1[q]? = H[q]?) : zW g A ad (zset S b k sh) I' X' Y' H1 := by
  have hlt : ∀ b' k' sh', S b' k' = some sh' → ad b' k' < H.size := fun b' k' sh' h' => (h.1 b' k' sh' h').1.lt
  have hne : ∀ b' k', ¬ (b' = b ∧ k' = k) → zset S b k sh b' k' ≠ none → ad b' k' < H.size := by
    intro b' k' e h'
    rw [zset_ne e] at h'
    cases hq : S b' k' with
    | none => exact absurd hq h'
    | some sh' => exact hlt b' k' sh' hq
  refine ⟨fun b' k' sh' h' => ?_, fun b1 k1 b2 k2 h1 h2 e => ?_⟩
  · by_cases e : b' = b ∧ k' = k
    · obtain ⟨rfl, rfl⟩ := e
      rw [zset_eq] at h'
      cases h'
      rw [hz]
      exact ⟨hnew, hA⟩
    · rw [zset_ne e] at h'
      obtain ⟨h1, h2⟩ := h.1 b' k' sh' h'
      rw [zcell_off (fun j => hI b' k' j e) (fun j => hX b' k' j e) (fun j => hY b' k' j e)]
      exact ⟨h1.kept (oq _ h1.lt), h2⟩
  · by_cases e1 : b1 = b ∧ k1 = k <;> by_cases e2 : b2 = b ∧ k2 = k
    · exact ⟨e1.1.trans e2.1.symm, e1.2.trans e2.2.symm⟩
    · have := hne b2 k2 e2 h2
      obtain ⟨rfl, rfl⟩ := e1
      omega
    · have := hne b1 k1 e1 h1
      obtain ⟨rfl, rfl⟩ := e2
      omega
    · rw [zset_ne e1] at h1
      rw [zset_ne e2] at h2
      exact h.2 b1 k1 b2 k2 h1 h2 e
/-- memory of a cell that isn't there -/
theorem zW.ghost (h : zW g A ad S I X Y H) (hI : ∀ b k j, S b k ≠ none → I' b k j = I b k j) (hX : ∀ b k j, S b k ≠ none → X' b k j = X b k j) (hY : ∀ b k j, S b k ≠ none → Y' b k j = Y b k j) : zW g A ad S I' X' Y' H := by
  refine ⟨fun b k sh hs => ?_, h.2⟩
  have hn : S b k ≠ none := by rw [hs]; exact fun z => by cases z
  rw [zcell_off (fun j => hI b k j hn) (fun j => hX b k j hn) (fun j => hY b k j hn)]
  exact h.1 b k sh hs
theorem zW.weaken {B : Nat → Prop} (h : zW g A ad S I X Y H) (hB : ∀ b k sh, S b k = some sh → B (ad b k)) : zW g B ad S I X Y H := ⟨fun b k sh hs => ⟨(h.1 b k sh hs).1, hB b k sh hs⟩, h.2⟩
end ZW
section ZH
variable {C : zC} {nL : Nat} {ad : zA} {S : zSh} {cells slots sz : Nat} {I X : zI} {Y : zY} {pc : Nat} {lo : List (Option zV)} {st : List zV}
variable {bt : ByteArray} {own : String} {ret : Option FieldType} {N mc ms : Nat}
theorem zsing {D : va_G} {cl : List vw_C} {q : Nat × va_E} {H : Heap} (h : va_at D cl q H) : va_P D cl [q] H := by
  intro k x hx
  have h0 : k < 1 := (List.getElem?_eq_some_iff.mp hx).1
  rw [show k = 0 by omega] at hx
  cases hx
  exact h
theorem z_get (hC : zOk bt own nL ret N mc ms C ad) {b j idx ci k : Nat} {fl : List zF} {f : zF} (d : decode bt pc = .ok (.getfield idx, 3)) (hs : S b j = some (.inr (.inl (ci, fl)))) (hf : zFld own idx ci k) (hk : fl[k]? = some f)
    (kk : zL C nL ad S cells slots sz I X Y (pc + 3) lo (zfv I b j k f :: st)) : zL C nL ad S cells slots sz I X Y pc lo (.inr (.inr (some (b, j))) :: st) := by
  intro H locs ls h1 h2 h3
  obtain ⟨q, hc, hkq, hl⟩ := hf
  obtain ⟨z1, z2, z3⟩ := zcls ci q hc
  exact va_get (C := q.1) (T := q.2.1) (N := q.2.2) hC.1 hC.2.1 hC.2.2.2.2.1 z1 hC.2.2.2.1 hC.2.2.2.2.2.2.2.2.1 (zsing (h1.1.1 b j _ hs).1) 0 rfl hc k hkq (hC.2.2.2.2.1 _ hl) (fun _ h => h) (by rw [List.getElem?_mapIdx, hk]; rfl) d (kk H locs ls h1 h2 h3)
theorem z_getI (hC : zOk bt own nL ret N mc ms C ad) {b j idx ci k : Nat} {fl : List zF} (d : decode bt pc = .ok (.getfield idx, 3)) (hs : S b j = some (.inr (.inl (ci, fl)))) (hf : zFld own idx ci k) (hk : fl[k]? = some (.inr none))
    (kk : zL C nL ad S cells slots sz I X Y (pc + 3) lo (.inl (I b j k) :: st)) : zL C nL ad S cells slots sz I X Y pc lo (.inr (.inr (some (b, j))) :: st) := z_get hC d hs hf hk kk
theorem z_getR (hC : zOk bt own nL ret N mc ms C ad) {b j idx ci k : Nat} {fl : List zF} {v : zV} (d : decode bt pc = .ok (.getfield idx, 3)) (hs : S b j = some (.inr (.inl (ci, fl)))) (hf : zFld own idx ci k) (hk : fl[k]? = some (.inl v))
    (kk : zL C nL ad S cells slots sz I X Y (pc + 3) lo (v :: st)) : zL C nL ad S cells slots sz I X Y pc lo (.inr (.inr (some (b, j))) :: st) := z_get hC d hs hf hk kk
theorem z_getO (hC : zOk bt own nL ret N mc ms C ad) {b j idx ci k : Nat} {fl : List zF} {q : Nat × Nat} (d : decode bt pc = .ok (.getfield idx, 3)) (hs : S b j = some (.inr (.inl (ci, fl)))) (hf : zFld own idx ci k) (hk : fl[k]? = some (.inr (some q)))
    (k0 : I b j k = 0 → zL C nL ad S cells slots sz I X Y (pc + 3) lo (.inr (.inr none) :: st)) (k1 : ¬ I b j k = 0 → zL C nL ad S cells slots sz I X Y (pc + 3) lo (.inr (.inr (some q)) :: st)) : zL C nL ad S cells slots sz I X Y pc lo (.inr (.inr (some (b, j))) :: st) := by
  refine z_get hC d hs hf hk ?_
  by_cases e : I b j k = 0
  · have h : zfv I b j k (.inr (some q)) = .inr (.inr none) := if_pos e
    rw [h]; exact k0 e
  · have h : zfv I b j k (.inr (some q)) = .inr (.inr (some q)) := if_neg e
    rw [h]; exact k1 e
/-- the heap behind a store into a field -/
def zStored (C : zC) (ad : zA) (I : zI) (b j ci k : Nat) (fl : List zF) (v : Value) (H H1 : Heap) : Prop :=
  (∃ r : vw_C, vwCl[ci]? = some r ∧ t_OB (ad b j) ((cg C).1.1 ci) r.2.2 ((cg C).1.2 ci) H1 (updV (vp_V (fl.mapIdx (fun i f => rv ad (zfv I b j i f)))) k v)) ∧ H1.size = H.size ∧ ∀ q, q ≠ ad b j → H1[q]? = H[q]?
theorem z_putX (hC : zOk bt own nL ret N mc ms C ad) {b j idx ci k : Nat} {fl : List zF} {v : zV} (d : decode bt pc = .ok (.putfield idx, 3)) (hs : S b j = some (.inr (.inl (ci, fl)))) {q : vw_C} (hc : vwCl[ci]? = some q) (hkq : k < q.2.2) (hl : Cond.fieldLink own idx (q.2.1 k).1 (q.2.1 k).2.1 (q.2.1 k).2.2.1 ∈ zTb)
    (hfin : (q.2.1 k).2.2.2 = false) {ty : FieldType} (hd : parseFieldDescriptor (q.2.1 k).2.2.1 = some ty) (hn : narrow ty (rv ad v) = rv ad v) (hfit : fits ty (rv ad v) = true)
    (kk : ∀ (H H1 : Heap) (locs : List Loc) (ls : Array Slot), zW (cg C) (cA C) ad S I X Y H → H.size = sz → zStored C ad I b j ci k fl (rv ad v) H H1 → va_S (cA C) (cs C).heap H1 locs → zlv ad ls nL lo → W (cp C) (cl C) (ce C) (cR C) (cs C) (cm C) (ca C) (cb C) (ch C) (cc C) H1 locs cells slots (cZ C) (F0 (cm C) (pc + 3) ls (st.map (rv ad)))) :
    zL C nL ad S cells slots sz I X Y pc lo (v :: .inr (.inr (some (b, j))) :: st) := by
  intro H locs ls h1 h2 h3
  obtain ⟨z1, ⟨ty0, z2⟩, z3⟩ := zcls ci q hc
  have hK := hC.2.2.2.2.2.2.2.2.1
  have hts := hC.2.2.2.2.1
  have hown := hC.2.2.2.1
  have hap := va_apart (own := own) (args := ca C) hts z1 ty0 z2 z3 hK hc
  obtain ⟨r, g1, cell, q1, q2, q3, q4⟩ := (h1.1.1 b j _ hs).1
  have hr : r = q := Option.some.inj (g1.symm.trans hc)
  subst hr
  obtain ⟨hS, hfc, kC, hkC, hkind⟩ := hK.1 ci _ hc
  obtain ⟨cf, kf, fi, f, hi, hsl⟩ := hS k hkq
  have hlay := hts _ (z1 _ (u_in_lay hkq))
  unfold u_lay at hlay
  rw [if_neg (by rw [hfin]; decide)] at hlay
  have hst := (u_facts hfc hkC (u_lays hts z1 hkq) hi).1
  have h6 := u_store hfc hkC hkind hlay hi hd hn hfit
  refine W.putK hC.1 hC.2.1 (f := f) ⟨hown, hts _ hl, ⟨_, _, _, hi⟩, hst⟩ (by rw [q2]; exact h6) q1 q3 (by rw [hsl]; exact k2_hasslot (q4 k hkq)) rfl rfl d fun H' e1 e2 e3 => ?_
  rw [hsl] at e1 ⊢
  exact kk H H' _ ls h1.1 h1.2 ⟨⟨_, hc, _, e1, q2, q3, t_set q4 hap hkq _⟩, e2, e3⟩ (h2.put e2 e3 (h1.1.1 b j _ hs).2) h3
theorem z_putXF (hC : zOk bt own nL ret N mc ms C ad) (hin : (ch C).name = "<init>") {b j idx ci k : Nat} {fl : List zF} {v : zV} (d : decode bt pc = .ok (.putfield idx, 3)) (hs : S b j = some (.inr (.inl (ci, fl)))) {q : vw_C} (hc : vwCl[ci]? = some q) (hkq : k < q.2.2) (hl : Cond.fieldLink own idx (q.2.1 k).1 (q.2.1 k).2.1 (q.2.1 k).2.2.1 ∈ zTb)
    (hfin : (q.2.1 k).2.2.2 = true) (hdecl : (q.2.1 k).1 = own) {ty : FieldType} (hd : parseFieldDescriptor (q.2.1 k).2.2.1 = some ty) (hn : narrow ty (rv ad v) = rv ad v) (hfit : fits ty (rv ad v) = true)
    (kk : ∀ (H H1 : Heap) (locs : List Loc) (ls : Array Slot), zW (cg C) (cA C) ad S I X Y H → H.size = sz → zStored C ad I b j ci k fl (rv ad v) H H1 → va_S (cA C) (cs C).heap H1 locs → zlv ad ls nL lo → W (cp C) (cl C) (ce C) (cR C) (cs C) (cm C) (ca C) (cb C) (ch C) (cc C) H1 locs cells slots (cZ C) (F0 (cm C) (pc + 3) ls (st.map (rv ad)))) :
    zL C nL ad S cells slots sz I X Y pc lo (v :: .inr (.inr (some (b, j))) :: st) := by
  intro H locs ls h1 h2 h3
  obtain ⟨z1, ⟨ty0, z2⟩, z3⟩ := zcls ci q hc
  have hK := hC.2.2.2.2.2.2.2.2.1
  have hts := hC.2.2.2.2.1
  have hown := hC.2.2.2.1
  have hap := va_apart (own := own) (args := ca C) hts z1 ty0 z2 z3 hK hc
  obtain ⟨r, g1, cell, q1, q2, q3, q4⟩ := (h1.1.1 b j _ hs).1
  have hr : r = q := Option.some.inj (g1.symm.trans hc)
  subst hr
  obtain ⟨hS, hfc, kC, hkC, hkind⟩ := hK.1 ci _ hc
  obtain ⟨cf, kf, fi, f, hi, hsl⟩ := hS k hkq
  have hlay := hts _ (z1 _ (u_in_lay hkq))
  unfold u_lay at hlay
  rw [if_pos hfin] at hlay
  have hst := (u_facts hfc hkC (u_lays hts z1 hkq) hi).1
  have hcf : (cm C).cls = cf := by
    obtain ⟨_, _, c', _, _, _, -, -, hf', -, -, -, hown2, -⟩ := Cond.laysFinal_spec hlay
    have e1 : c' = cf := by have := hi.symm.trans hf'; simp at this; exact this.1.symm
    rw [hdecl] at hown2
    rw [← e1]; exact Option.some.inj (hown.symm.trans hown2)
  have h6 := u_fits hfc hkC hkind (Or.inr hlay) hi hd hn hfit
  refine W.putFinK hC.1 hC.2.1 hown (hts _ hl) hi hst hcf hin (by rw [q2]; exact h6) q1 q3 (by rw [hsl]; exact k2_hasslot (q4 k hkq)) rfl rfl d fun H' e1 e2 e3 => ?_
  rw [hsl] at e1 ⊢
  exact kk H H' _ ls h1.1 h1.2 ⟨⟨_, hc, _, e1, q2, q3, t_set q4 hap hkq _⟩, e2, e3⟩ (h2.put e2 e3 (h1.1.1 b j _ hs).2) h3
end ZH
