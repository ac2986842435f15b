/-! contracts that leave some of the memory open -/
abbrev zP : Type := Option zV → zSh → zI → zI → zY → Nat → Prop
def zPx (g : zG) (ad : zA) (S0 : zSh) (sz0 : Nat) (P : zP) : Array Value → State → Outcome → State → Prop := fun a st o t => ∃ (v : Option zV) (S : zSh) (I X : zI) (Y : zY) (sz : Nat), P v S I X Y sz ∧ zPost g ad S0 sz0 v S I X Y sz a st o t
def zCx (y : zM) (n mc ms : Nat) (args : List zV) (ad : zA) (S : zSh) (I X : zI) (Y : zY) (sz : Nat) (P : zP) : Prop :=
  ∀ (l : Launch) (g : zG), Met l y.1 (zws y) (zrm n mc ms) (va_Pc (args.map (rv ad)) (zPre g ad S I X Y sz)) (zPx g ad S sz P) mc ms (zFr ad S sz)
abbrev zCq (y : zM) (n : Nat) (args : List zV) (v : Option zV) (ad : zA) (S : zSh) (I X : zI) (Y : zY) (sz : Nat) (P : zI → zI → Prop) : Prop := zCx y n 0 0 args ad S I X Y sz (fun v' S' I' X' Y' sz' => v' = v ∧ S' = S ∧ Y' = Y ∧ sz' = sz ∧ P I' X')
def zEndX (C : zC) (ad : zA) (P : zP) (mc ms : Nat) : Prop := ∀ (v : Option zV) (S : zSh) (I X : zI) (Y : zY) (sz : Nat), P v S I X Y sz → zEnd C ad S I X Y sz v mc ms
theorem zCx.of {y : zM} {n mc ms k : Nat} {args : List zV} {ad : zA} {S : zSh} {I X : zI} {Y : zY} {sz : Nat} {P : zP} {lo : List (Option zV)} (hp : plainName y.1.cls = true) (hlen : (zent args 0).length ≤ y.2.2.1) (hlo : zent args 0 ++ List.replicate k none = lo)
    (body : ∀ C : zC, zOk y.2.1 y.1.cls y.2.2.1 y.2.2.2 n mc ms C ad → (ch C).name = y.1.name → zEndX C ad P mc ms → zL C y.2.2.1 ad S 0 0 sz I X Y 0 lo []) : zCx y n mc ms args ad S I X Y sz P := by
  intro l g
  refine Met.ofW (cc := y.2.1) (maxL := y.2.2.1) (ret := y.2.2.2) hp rfl ?_
  intro p e s m args' below meth c s₁ B hml hv
  obtain ⟨rfl, hsz, hW, hK, hO⟩ := hv
  have hts : ∀ w ∈ zTb, w.before (args.map (rv ad)).toArray s = true := fun w hw => atoms_spec (ws := zws y) B.pre w (List.mem_cons_of_mem _ hw)
  have hown : s.vm.findClass y.1.cls = some m.cls := findClass_of_methodNamed B.named
  have hnm : meth.name = y.1.name := (name_of_methodNamed B.named B.method).1
  have hl := lv_entry (args.map (rv ad)) (n := y.2.2.1) (by rw [zent_len]; exact hlen)
  rw [lg_entry_eq]
  generalize (lg_sl (args.map (rv ad)) ++ List.replicate (y.2.2.1 - (lg_sl (args.map (rv ad))).length) Slot.unset).toArray = ls at hl ⊢
  have hl2 : zlv ad ls y.2.2.1 lo := by
    refine ⟨hl.1, hl.2.1, fun i w hw => ?_⟩
    rw [← hlo] at hw
    have hw2 : (zent args 0)[i]? = some (some w) := by
      by_cases hi : i < (zent args 0).length
      · rwa [List.getElem?_append_left hi] at hw
      · rw [List.getElem?_append_right (by omega), List.getElem?_replicate] at hw
        split at hw <;> simp at hw
    have := hl.2.2 (0 + i, rv ad w) (zent_args args 0 i w hw2)
    simpa using this
  have hbody := body (p, l, e, (headSpec (zws y) (zrm n mc ms)).room, s, m, (args.map (rv ad)).toArray, below, meth, c, MQ below (zPx g ad S sz P) (args.map (rv ad)).toArray s mc ms (zFr ad S sz), g, zFr ad S sz)
    ⟨B.exec, B.bytes, hml, hown, hts, B.returns, B.notSynchronized, ⟨Nat.le_refl _, Nat.le_refl _, Nat.le_refl _, Nat.le_refl _⟩, hK, hO, fun q hq => Or.inr (by rw [← hsz]; exact hq)⟩ hnm
    (fun v S' I' X' Y' sz' hP => ⟨_, _, rfl, fun H locs w0 w1 w2 => ⟨fun t ht _ => ⟨v, S', I', X', Y', sz', hP, ⟨rfl, by rw [ht]; exact w0.weaken (fun _ _ _ _ => trivial), by rw [ht]; exact w1, fun b k sh h => (w0.1 b k sh h).2⟩, w2.F ht⟩, w2.2.2⟩⟩)
  exact hbody s.heap [] ls ⟨hW, hsz⟩ va_S.rf hl2
theorem zgoX {ym : MethodName} {bt : ByteArray} {nL : Nat} {ret : Option FieldType} {own : String} {n mc ms k : Nat} {args : List zV} {ad : zA} {S : zSh} {I X : zI} {Y : zY} {sz : Nat} {P : zP} {lo : List (Option zV)} (hp : plainName own = true) (ho : ym.cls = own) (hlen : Nat.ble (zent args 0).length nL = true) (hlo : zent args 0 ++ List.replicate k none = lo)
    (body : ∀ C : zC, zOk bt own nL ret n mc ms C ad → (ch C).name = ym.name → zEndX C ad P mc ms → zL C nL ad S 0 0 sz I X Y 0 lo []) : zCx (ym, bt, nL, ret) n mc ms args ad S I X Y sz P := by
  subst ho
  exact zCx.of (y := (ym, bt, nL, ret)) hp (Nat.le_of_ble_eq_true hlen) hlo body
theorem zgoQ {ym : MethodName} {bt : ByteArray} {nL : Nat} {ret : Option FieldType} {own : String} {n k : Nat} {args : List zV} {v : Option zV} {ad : zA} {S : zSh} {I X : zI} {Y : zY} {sz : Nat} {P : zI → zI → Prop} {lo : List (Option zV)} (hp : plainName own = true) (ho : ym.cls = own) (hlen : Nat.ble (zent args 0).length nL = true) (hlo : zent args 0 ++ List.replicate k none = lo)
    (body : ∀ C : zC, zOk bt own nL ret n 0 0 C ad → (ch C).name = ym.name → (∀ I' X', P I' X' → zEnd C ad S I' X' Y sz v 0 0) → zL C nL ad S 0 0 sz I X Y 0 lo []) : zCq (ym, bt, nL, ret) n args v ad S I X Y sz P :=
  zgoX hp ho hlen hlo fun C hC hnm hE => body C hC hnm fun I' X' hP => hE v S I' X' Y sz ⟨rfl, rfl, rfl, rfl, hP⟩
section ZCX
variable {C : zC} {nL : Nat} {ad : zA} {S S' : zSh} {cells slots sz sz' : Nat} {I X I' X' : zI} {Y Y' : zY} {pc : Nat} {lo : List (Option zV)} {st : List zV}
variable {bt : ByteArray} {own : String} {ret : Option FieldType} {N mc ms : Nat} {y : zM} {np idx n mc1 ms1 : Nat} {P : zP}
/-- behind a call; the callee knows only a part Sc of the shapes, S2 is the rest -/
theorem z_afterX {Sc S2 : zSh} {st0 : List Value} {a : Array Value} (hC : zOk bt own nL ret N mc ms C ad) {H : Heap} {locs : List Loc} {ls : Array Slot} (h1 : zW (cg C) (cA C) ad S I X Y H ∧ H.size = sz) (h2 : va_S (cA C) (cs C).heap H locs) (h3 : zlv ad ls nL lo)
    (hc : ∀ b k sh, Sc b k = some sh → S b k = some sh)
    (hr : va_Run (cp C) (cl C) (ce C) (cR C) (cs C) (cm C) (ca C) (cb C) (ch C) (cc C) H locs cells slots mc1 ms1 (F0 (cm C) pc ls st0) (st.map (rv ad)) (zPx (cg C) ad Sc sz P a) (zFr ad Sc sz))
    (h4 : ∀ b k sh, S2 b k = some sh → S b k = some sh ∧ Sc b k = none)
    (kk : ∀ v S' I' X' Y' sz', P v S' I' X' Y' sz' → ∀ (S3 : zSh) (I3 X3 : zI) (Y3 : zY), (∀ b k, S3 b k = if S2 b k ≠ none then S2 b k else S' b k) → (∀ b k j, S2 b k ≠ none → I3 b k j = I b k j ∧ X3 b k j = X b k j ∧ Y3 b k j = Y b k j) → (∀ b k j, S2 b k = none → I3 b k j = I' b k j ∧ X3 b k j = X' b k j ∧ Y3 b k j = Y' b k j) → zL C nL ad S3 (cells + mc1) (slots + ms1) sz' I3 X3 Y3 (pc + 3) lo (v.toList ++ st)) :
    W (cp C) (cl C) (ce C) (cR C) (cs C) (cm C) (ca C) (cb C) (ch C) (cc C) H locs cells slots (cZ C) (F0 (cm C) pc ls st0) := by
  intro T hT Xs
  obtain ⟨v', st₀, t, T', L, h0, X1, hL, e1, e2, ⟨v, S', I', X', Y', sz', hP, ⟨hv, hW, hz, hA⟩, hz2, hk⟩, stp⟩ := hr T hT Xs
  rw [h0] at hz2 hk
  have hsub : ∀ q, zFr ad Sc sz q → cA C q := by
    intro q hq
    rcases hq with ⟨b, k, hs, rfl⟩ | hq
    · cases hsh : Sc b k with
      | none => exact absurd hsh hs
      | some sh => exact (h1.1.1 b k sh (hc b k sh hsh)).2
    · refine hC.2.2.2.2.2.2.2.2.2.2 q (Nat.le_trans h2.1 ?_)
      rw [h1.2]; exact hq
  have hout : ∀ b k sh, S2 b k = some sh → ad b k < H.size ∧ ¬ zFr ad Sc sz (ad b k) := by
    intro b k sh hs
    obtain ⟨g1, g2⟩ := h4 b k sh hs
    have hl := (h1.1.1 b k sh g1).1.lt
    refine ⟨hl, fun z => ?_⟩
    rcases z with ⟨b', k', hs', e⟩ | z
    · cases hsh : Sc b' k' with
      | none => exact absurd hsh hs'
      | some sh' =>
        obtain ⟨rfl, rfl⟩ := h1.1.2 b k b' k' (by rw [g1]; exact fun z => by cases z) (by rw [hc b' k' sh' hsh]; exact fun z => by cases z) e
        rw [g2] at hsh; cases hsh
    · rw [h1.2] at hl
      exact absurd hl (Nat.not_lt.mpr z)
  cases hv
  have hst : (Option.map (rv ad) v).toList ++ st.map (rv ad) = (v.toList ++ st).map (rv ad) := by cases v <;> rfl
  rw [hst] at stp
  have hkk := kk v S' I' X' Y' sz' hP (fun b k => if S2 b k ≠ none then S2 b k else S' b k) (fun b k j => if S2 b k ≠ none then I b k j else I' b k j) (fun b k j => if S2 b k ≠ none then X b k j else X' b k j) (fun b k j => if S2 b k ≠ none then Y b k j else Y' b k j) (fun b k => rfl)
    (fun b k j h => ⟨if_pos h, if_pos h, if_pos h⟩) (fun b k j h => ⟨if_neg (fun z => z h), if_neg (fun z => z h), if_neg (fun z => z h)⟩)
  have hfr' : ∀ b k sh, S' b k = some sh → zFr ad Sc sz (ad b k) := hA
  have hnew : zW (cg C) (cA C) ad (fun b k => if S2 b k ≠ none then S2 b k else S' b k) (fun b k j => if S2 b k ≠ none then I b k j else I' b k j) (fun b k j => if S2 b k ≠ none then X b k j else X' b k j) (fun b k j => if S2 b k ≠ none then Y b k j else Y' b k j) T'.heap := by
    refine ⟨fun b k sh hs => ?_, fun b k b' k' g1 g2 e => ?_⟩
    · cases hs2 : S2 b k with
      | none =>
        have hs' : S' b k = some sh := by rw [← hs]; exact (if_neg (fun z => z hs2)).symm
        have hn : ¬ S2 b k ≠ none := fun z => z hs2
        rw [zcell_off (fun j => if_neg hn) (fun j => if_neg hn) (fun j => if_neg hn)]
        rw [e1]
        exact ⟨(hW.1 b k sh hs').1, hsub _ (hA b k sh hs')⟩
      | some sh2 =>
        have hp : S2 b k ≠ none := by rw [hs2]; exact fun z => by cases z
        have hs' : S2 b k = some sh := by rw [← hs]; exact (if_pos hp).symm
        rw [zcell_off (fun j => if_pos hp) (fun j => if_pos hp) (fun j => if_pos hp)]
        obtain ⟨o1, o2⟩ := hout b k sh hs'
        obtain ⟨g1, g2⟩ := h1.1.1 b k sh (h4 b k sh hs').1
        refine ⟨g1.kept ?_, g2⟩
        rw [e1]
        exact hk _ o1 o2
    · cases hs2 : S2 b k with
      | none =>
        have hn : ¬ S2 b k ≠ none := fun z => z hs2
        simp only [if_neg hn] at g1
        cases hs3 : S2 b' k' with
        | none =>
          have hn' : ¬ S2 b' k' ≠ none := fun z => z hs3
          simp only [if_neg hn'] at g2
          exact hW.2 b k b' k' g1 g2 e
        | some sh3 =>
          cases hs4 : S' b k with
          | none => exact absurd hs4 g1
          | some sh4 => exact absurd (hA b k sh4 hs4) (by rw [e]; exact (hout b' k' sh3 hs3).2)
      | some sh2 =>
        cases hs3 : S2 b' k' with
        | none =>
          have hn' : ¬ S2 b' k' ≠ none := fun z => z hs3
          simp only [if_neg hn'] at g2
          cases hs4 : S' b' k' with
          | none => exact absurd hs4 g2
          | some sh4 => exact absurd (hA b' k' sh4 hs4) (by rw [← e]; exact (hout b k sh2 hs2).2)
        | some sh3 => exact h1.1.2 b k b' k' (by rw [(h4 b k sh2 hs2).1]; exact fun z => by cases z) (by rw [(h4 b' k' sh3 hs3).1]; exact fun z => by cases z) e
  obtain ⟨t2, a1, b1⟩ := hkk T'.heap (locs ++ L) ls ⟨hnew, by rw [e1]; exact hz⟩
    ⟨Nat.le_trans h2.1 (by rw [e1]; exact hz2), fun q g1 g2 => by rw [e1, hk q (Nat.lt_of_lt_of_le g1 h2.1) (fun z => g2 (hsub q z))]; exact h2.2.1 q g1 g2, fun q hq => by
      rcases List.mem_append.mp hq with h | h
      · exact h2.2.2 q h
      · exact hsub _ (hL q h)⟩ h3 T' rfl X1
  exact ⟨t2, stp t2 a1, b1⟩
theorem zFr_sub {Sc : zSh} (hc : ∀ b k sh, Sc b k = some sh → S b k = some sh) {q : Nat} (h : zFr ad Sc sz q) : zFr ad S sz q := by
  rcases h with ⟨b, k, hs, e⟩ | h
  · cases hsh : Sc b k with
    | none => exact absurd hsh hs
    | some sh => exact Or.inl ⟨b, k, (by rw [hc b k sh hsh]; exact fun z => (by cases z)), e⟩
  · exact Or.inr h
theorem zW.part {g : zG} {A B : Nat → Prop} {Sc : zSh} {H : Heap} (hc : ∀ b k sh, Sc b k = some sh → S b k = some sh) (hB : ∀ b k sh, Sc b k = some sh → B (ad b k)) (h : zW g A ad S I X Y H) : zW g B ad Sc I X Y H := by
  have hn : ∀ b k, Sc b k ≠ none → S b k ≠ none := by
    intro b k h2
    cases e : Sc b k with
    | none => exact absurd e h2
    | some sh => rw [hc b k sh e]; exact fun z => by cases z
  exact ⟨fun b k sh hs => ⟨(h.1 b k sh (hc b k sh hs)).1, hB b k sh hs⟩, fun b k b' k' h1 h2 e => h.2 b k b' k' (hn _ _ h1) (hn _ _ h2) e⟩
theorem zpreSX {args : List zV} {Sc : zSh} (hC : zOk bt own nL ret N mc ms C ad) (hc : ∀ b k sh, Sc b k = some sh → S b k = some sh) {H : Heap} {locs : List Loc} (h1 : zW (cg C) (cA C) ad S I X Y H ∧ H.size = sz) (h2 : va_S (cA C) (cs C).heap H locs) : PreS (cs C) H (va_Pc (args.map (rv ad)) (zPre (cg C) ad Sc I X Y sz)) (args.map (rv ad)) := by
  have hsub : ∀ q, zFr ad Sc sz q → cA C q := by
    intro q hq
    rcases hq with ⟨b, k, hs, rfl⟩ | hq
    · cases hsh : Sc b k with
      | none => exact absurd hsh hs
      | some sh => exact (h1.1.1 b k sh (hc b k sh hsh)).2
    · refine hC.2.2.2.2.2.2.2.2.2.2 q (Nat.le_trans h2.1 ?_)
      rw [h1.2]; exact hq
  refine ⟨fun a U g mk q => ⟨q.1, q.2.1, q.2.2.1, ?_, ?_⟩, fun U hU hW => ⟨rfl, by rw [hU]; exact h1.2, ?_, ?_, ?_⟩⟩
  · exact va_K.moved (u := U) (U := U.calling g mk a) (Vm.Alike.refl U.vm) q.2.2.2.1
  · exact zOld.same (u := U) (U := U.calling g mk a) rfl q.2.2.2.2
  · rw [hU]; exact h1.1.part hc fun b k sh hs => zFr_A hs
  · exact va_K.moved hW.alike hC.2.2.2.2.2.2.2.2.1
  · rw [hU]
    exact hC.2.2.2.2.2.2.2.2.2.1.to h2.2.1 hsub hW
/-- a call of a method that knows the part Sc of the shapes -/
theorem z_callVF {As : List zV} {st0 : List zV} {b j ci : Nat} {fl : List zF} {q : vw_C} {Sc S2 : zSh} (hC : zOk bt own nL ret N mc ms C ad) (d : decode bt pc = .ok (.invokevirtual idx, 3)) (hy : zVir own idx y np) (hM : zCx y n mc1 ms1 (.inr (.inr (some (b, j))) :: As) ad Sc I X Y sz P) (hs : S b j = some (.inr (.inl (ci, fl)))) (hc : vwCl[ci]? = some q) (hq : q.1 = y.1.cls) (hst : st0 = As.reverse ++ .inr (.inr (some (b, j))) :: st) (hnp : As.length = np) (hn : n + 1 ≤ N) (hw : (st.map (fun v => zcat (some (some v)))).sum ≤ 8) (hroom : cells + mc1 ≤ mc ∧ slots + ms1 ≤ ms)
    (hp : ∀ b k sh, Sc b k = some sh → S b k = some sh) (h4 : ∀ b k sh, S2 b k = some sh → S b k = some sh ∧ Sc b k = none)
    (kk : ∀ v S' I' X' Y' sz', P v S' I' X' Y' sz' → ∀ (S3 : zSh) (I3 X3 : zI) (Y3 : zY), (∀ b k, S3 b k = if S2 b k ≠ none then S2 b k else S' b k) → (∀ b k j, S2 b k ≠ none → I3 b k j = I b k j ∧ X3 b k j = X b k j ∧ Y3 b k j = Y b k j) → (∀ b k j, S2 b k = none → I3 b k j = I' b k j ∧ X3 b k j = X' b k j ∧ Y3 b k j = Y' b k j) → zL C nL ad S3 (cells + mc1) (slots + ms1) sz' I3 X3 Y3 (pc + 3) lo (v.toList ++ st)) : zL C nL ad S cells slots sz I X Y pc lo st0 := by
  intro H locs ls h1 h2 h3
  have hts := hC.2.2.2.2.1
  have hR := hC.2.2.2.2.2.2.2.1
  have hpS := zpreSX (args := .inr (.inr (some (b, j))) :: As) hC hp h1 h2
  obtain ⟨y1, y2, y3, y4⟩ := hy
  refine z_afterX hC h1 h2 h3 hp (va_runV (C := y.1.cls) (b := ad b j) (As := As.map (rv ad)) (rest := st.map (rv ad)) ⟨hC.1, hC.2.1, hC.2.2.1, hC.2.2.2.1, hts⟩ (hM (cl C) (cg C)) ⟨zpayB hC y1 hn (hts _ y2), hts _ y3, hts _ y4⟩ ⟨hpS.1, by rw [← hq]; exact zrecv hC h1 hs hc, hpS.2⟩ rfl (by rw [List.length_map]; exact hnp) h3.1 (by rw [hst]; simp [rv]) (lv_room (zwords hw)) d ⟨Nat.le_trans hroom.1 hR.2.2.1, Nat.le_trans hroom.2 hR.2.2.2⟩) h4 kk
theorem z_callVX {As : List zV} {st0 : List zV} {b j ci : Nat} {fl : List zF} {q : vw_C} (hC : zOk bt own nL ret N mc ms C ad) (d : decode bt pc = .ok (.invokevirtual idx, 3)) (hy : zVir own idx y np) (hM : zCx y n mc1 ms1 (.inr (.inr (some (b, j))) :: As) ad S I X Y sz P) (hs : S b j = some (.inr (.inl (ci, fl)))) (hc : vwCl[ci]? = some q) (hq : q.1 = y.1.cls) (hst : st0 = As.reverse ++ .inr (.inr (some (b, j))) :: st) (hnp : As.length = np) (hn : n + 1 ≤ N) (hw : (st.map (fun v => zcat (some (some v)))).sum ≤ 8) (hroom : cells + mc1 ≤ mc ∧ slots + ms1 ≤ ms)
    (kk : ∀ v S' I' X' Y' sz', P v S' I' X' Y' sz' → zL C nL ad S' (cells + mc1) (slots + ms1) sz' I' X' Y' (pc + 3) lo (v.toList ++ st)) : zL C nL ad S cells slots sz I X Y pc lo st0 := by
  refine z_callVF (S2 := fun _ _ => none) hC d hy hM hs hc hq hst hnp hn hw hroom (fun _ _ _ h => h) (fun b k sh h => by cases h) fun v S' I' X' Y' sz' hP S3 I3 X3 Y3 e1 e2 e3 => ?_
  have hS : S3 = S' := funext fun b => funext fun k => (e1 b k).trans (if_neg (fun z => z rfl))
  have hI : I3 = I' := funext fun b => funext fun k => funext fun j => (e3 b k j rfl).1
  have hX : X3 = X' := funext fun b => funext fun k => funext fun j => (e3 b k j rfl).2.1
  have hY : Y3 = Y' := funext fun b => funext fun k => funext fun j => (e3 b k j rfl).2.2
  subst hS; subst hI; subst hX; subst hY
  exact kk v S3 I3 X3 Y3 sz' hP
/-! short rows, in whatever room is left -/
theorem wSv {As : List zV} {w : zV} {st0 : List zV} (hC : zOk bt own nL ret N mc ms C ad) (d : decode bt pc = .ok (.invokestatic idx, 3)) (hy : zSta own idx y np) (hM : zC0 y n As (some w) ad S I X Y sz I' X' Y') (hst : st0 = As.reverse ++ st) (hnp : As.length = np) (hn : Nat.ble (n + 1) N = true) (hw : Nat.ble (st.map (fun v => zcat (some (some v)))).sum 8 = true) (hr : Nat.ble cells mc = true ∧ Nat.ble slots ms = true)
    (kk : zL C nL ad S cells slots sz I' X' Y' (pc + 3) lo (w :: st)) : zL C nL ad S cells slots sz I X Y pc lo st0 :=
  z_callS hC d hy hM hst hnp (Nat.le_of_ble_eq_true hn) (Nat.le_of_ble_eq_true hw) ⟨Nat.le_of_ble_eq_true hr.1, Nat.le_of_ble_eq_true hr.2⟩ kk
theorem wS0 {As : List zV} {st0 : List zV} (hC : zOk bt own nL ret N mc ms C ad) (d : decode bt pc = .ok (.invokestatic idx, 3)) (hy : zSta own idx y np) (hM : zC0 y n As none ad S I X Y sz I' X' Y') (hst : st0 = As.reverse ++ st) (hnp : As.length = np) (hn : Nat.ble (n + 1) N = true) (hw : Nat.ble (st.map (fun v => zcat (some (some v)))).sum 8 = true) (hr : Nat.ble cells mc = true ∧ Nat.ble slots ms = true)
    (kk : zL C nL ad S cells slots sz I' X' Y' (pc + 3) lo st) : zL C nL ad S cells slots sz I X Y pc lo st0 :=
  z_callS hC d hy hM hst hnp (Nat.le_of_ble_eq_true hn) (Nat.le_of_ble_eq_true hw) ⟨Nat.le_of_ble_eq_true hr.1, Nat.le_of_ble_eq_true hr.2⟩ kk
theorem wVv {As : List zV} {w : zV} {st0 : List zV} {b j ci : Nat} {fl : List zF} {q : vw_C} (hC : zOk bt own nL ret N mc ms C ad) (d : decode bt pc = .ok (.invokevirtual idx, 3)) (hy : zVir own idx y np) (hM : zC0 y n (.inr (.inr (some (b, j))) :: As) (some w) ad S I X Y sz I' X' Y') (hs : S b j = some (.inr (.inl (ci, fl)))) (hc : vwCl[ci]? = some q) (hq : q.1 = y.1.cls) (hst : st0 = As.reverse ++ .inr (.inr (some (b, j))) :: st) (hnp : As.length = np) (hn : Nat.ble (n + 1) N = true) (hw : Nat.ble (st.map (fun v => zcat (some (some v)))).sum 8 = true) (hr : Nat.ble cells mc = true ∧ Nat.ble slots ms = true)
    (kk : zL C nL ad S cells slots sz I' X' Y' (pc + 3) lo (w :: st)) : zL C nL ad S cells slots sz I X Y pc lo st0 :=
  z_callV hC d hy hM hs hc hq hst hnp (Nat.le_of_ble_eq_true hn) (Nat.le_of_ble_eq_true hw) ⟨Nat.le_of_ble_eq_true hr.1, Nat.le_of_ble_eq_true hr.2⟩ kk
theorem wV0 {As : List zV} {st0 : List zV} {b j ci : Nat} {fl : List zF} {q : vw_C} (hC : zOk bt own nL ret N mc ms C ad) (d : decode bt pc = .ok (.invokevirtual idx, 3)) (hy : zVir own idx y np) (hM : zC0 y n (.inr (.inr (some (b, j))) :: As) none ad S I X Y sz I' X' Y') (hs : S b j = some (.inr (.inl (ci, fl)))) (hc : vwCl[ci]? = some q) (hq : q.1 = y.1.cls) (hst : st0 = As.reverse ++ .inr (.inr (some (b, j))) :: st) (hnp : As.length = np) (hn : Nat.ble (n + 1) N = true) (hw : Nat.ble (st.map (fun v => zcat (some (some v)))).sum 8 = true) (hr : Nat.ble cells mc = true ∧ Nat.ble slots ms = true)
    (kk : zL C nL ad S cells slots sz I' X' Y' (pc + 3) lo st) : zL C nL ad S cells slots sz I X Y pc lo st0 :=
  z_callV hC d hy hM hs hc hq hst hnp (Nat.le_of_ble_eq_true hn) (Nat.le_of_ble_eq_true hw) ⟨Nat.le_of_ble_eq_true hr.1, Nat.le_of_ble_eq_true hr.2⟩ kk
theorem wTv {j : Nat} {As : List zV} {w : zV} {st0 : List zV} (hC : zOk bt own nL ret N mc ms C ad) (d : decode bt pc = .ok (.invokevirtual idx, 3)) (hy : zVir own idx y np) (hM : zC0 y n (.inr (.inr (some (5, j))) :: As) (some w) ad S I X Y sz I' X' Y') (hj : j < 8) (hq : y.1.cls = "java/lang/String") (hst : st0 = As.reverse ++ .inr (.inr (some (5, j))) :: st) (hnp : As.length = np) (hn : Nat.ble (n + 1) N = true) (hw : Nat.ble (st.map (fun v => zcat (some (some v)))).sum 8 = true) (hr : Nat.ble cells mc = true ∧ Nat.ble slots ms = true)
    (kk : zL C nL ad S cells slots sz I' X' Y' (pc + 3) lo (w :: st)) : zL C nL ad S cells slots sz I X Y pc lo st0 :=
  z_callT hC d hy hM hj hq hst hnp (Nat.le_of_ble_eq_true hn) (Nat.le_of_ble_eq_true hw) ⟨Nat.le_of_ble_eq_true hr.1, Nat.le_of_ble_eq_true hr.2⟩ kk
theorem qVv {As : List zV} {w : zV} {st0 : List zV} {b j ci : Nat} {fl : List zF} {q : vw_C} {Pq : zI → zI → Prop} (hC : zOk bt own nL ret N mc ms C ad) (d : decode bt pc = .ok (.invokevirtual idx, 3)) (hy : zVir own idx y np) (hM : zCq y n (.inr (.inr (some (b, j))) :: As) (some w) ad S I X Y sz Pq) (hs : S b j = some (.inr (.inl (ci, fl)))) (hc : vwCl[ci]? = some q) (hq : q.1 = y.1.cls) (hst : st0 = As.reverse ++ .inr (.inr (some (b, j))) :: st) (hnp : As.length = np) (hn : Nat.ble (n + 1) N = true) (hw : Nat.ble (st.map (fun v => zcat (some (some v)))).sum 8 = true) (hr : Nat.ble cells mc = true ∧ Nat.ble slots ms = true)
    (kk : ∀ I' X', Pq I' X' → zL C nL ad S cells slots sz I' X' Y (pc + 3) lo (w :: st)) : zL C nL ad S cells slots sz I X Y pc lo st0 := by
  refine z_callVX hC d hy hM hs hc hq hst hnp (Nat.le_of_ble_eq_true hn) (Nat.le_of_ble_eq_true hw) ⟨Nat.le_of_ble_eq_true hr.1, Nat.le_of_ble_eq_true hr.2⟩ fun v S' I' X' Y' sz' hP => ?_
  obtain ⟨rfl, rfl, rfl, rfl, h⟩ := hP
  exact kk I' X' h
theorem qV0 {As : List zV} {st0 : List zV} {b j ci : Nat} {fl : List zF} {q : vw_C} {Pq : zI → zI → Prop} (hC : zOk bt own nL ret N mc ms C ad) (d : decode bt pc = .ok (.invokevirtual idx, 3)) (hy : zVir own idx y np) (hM : zCq y n (.inr (.inr (some (b, j))) :: As) none ad S I X Y sz Pq) (hs : S b j = some (.inr (.inl (ci, fl)))) (hc : vwCl[ci]? = some q) (hq : q.1 = y.1.cls) (hst : st0 = As.reverse ++ .inr (.inr (some (b, j))) :: st) (hnp : As.length = np) (hn : Nat.ble (n + 1) N = true) (hw : Nat.ble (st.map (fun v => zcat (some (some v)))).sum 8 = true) (hr : Nat.ble cells mc = true ∧ Nat.ble slots ms = true)
    (kk : ∀ I' X', Pq I' X' → zL C nL ad S cells slots sz I' X' Y (pc + 3) lo st) : zL C nL ad S cells slots sz I X Y pc lo st0 := by
  refine z_callVX hC d hy hM hs hc hq hst hnp (Nat.le_of_ble_eq_true hn) (Nat.le_of_ble_eq_true hw) ⟨Nat.le_of_ble_eq_true hr.1, Nat.le_of_ble_eq_true hr.2⟩ fun v S' I' X' Y' sz' hP => ?_
  obtain ⟨rfl, rfl, rfl, rfl, h⟩ := hP
  exact kk I' X' h
theorem w_ifb_eq (hC : zOk bt own nL ret N mc ms C ad) {p : Prop} {hp : Decidable p} {off : Int} {tgt : Nat} (d : decode bt pc = .ok (.ifCond .eq off, 3)) (ht : (pc : Int) + off = (tgt : Int)) (kt : ¬ p → zL C nL ad S cells slots sz I X Y tgt lo st) (kf : p → zL C nL ad S cells slots sz I X Y (pc + 3) lo st) : zL C nL ad S cells slots sz I X Y pc lo (.inl (zb p hp) :: st) :=
  z_if_eq hC d ht (fun h => kt fun hh => by rw [zb_1 hh] at h; cases h) (fun h => kf (Decidable.byContradiction fun hh => h (zb_0 hh)))
theorem w_ifb_ne (hC : zOk bt own nL ret N mc ms C ad) {p : Prop} {hp : Decidable p} {off : Int} {tgt : Nat} (d : decode bt pc = .ok (.ifCond .ne off, 3)) (ht : (pc : Int) + off = (tgt : Int)) (kt : p → zL C nL ad S cells slots sz I X Y tgt lo st) (kf : ¬ p → zL C nL ad S cells slots sz I X Y (pc + 3) lo st) : zL C nL ad S cells slots sz I X Y pc lo (.inl (zb p hp) :: st) :=
  z_if_ne hC d ht (fun h => kt (Decidable.byContradiction fun hh => h (zb_0 hh))) (fun h => kf fun hh => by rw [zb_1 hh] at h; cases h)
end ZCX
