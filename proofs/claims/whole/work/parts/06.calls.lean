/-! contracts, calls, returns -/
abbrev zM : Type := MethodName × ByteArray × Nat × Option FieldType
def zws (y : zM) : List Cond := .code y.1 y.2.1 y.2.2.1 y.2.2.2 :: zTb
def zrm (n mc ms : Nat) : Room := { frames := n, cells := mc, slots := ms, locals := 36 * n }
def zFr (ad : zA) (S : zSh) (sz : Nat) : Nat → Prop := fun q => (∃ b k, S b k ≠ none ∧ q = ad b k) ∨ sz ≤ q
def zPre (g : zG) (ad : zA) (S : zSh) (I X : zI) (Y : zY) (sz : Nat) (U : State) : Prop := U.heap.size = sz ∧ zW g (zFr ad S sz) ad S I X Y U.heap ∧ zK g U ∧ zOld ad (zFr ad S sz) U U.heap
def zPost (g : zG) (ad : zA) (S0 : zSh) (sz0 : Nat) (v : Option zV) (S : zSh) (I X : zI) (Y : zY) (sz : Nat) : Array Value → State → Outcome → State → Prop :=
  fun _ st o t => (o = .returned (v.map (rv ad)) ∧ zW g (fun _ => True) ad S I X Y t.heap ∧ t.heap.size = sz ∧ ∀ b k sh, S b k = some sh → zFr ad S0 sz0 (ad b k)) ∧ va_F (zFr ad S0 sz0) st t
/-- from the memory (I, X, Y) over the shapes S the method y called with args answers v and leaves (I', X', Y') over S' -/
def zCall (y : zM) (n mc ms : Nat) (args : List zV) (v : Option zV) (ad : zA) (S : zSh) (I X : zI) (Y : zY) (sz : Nat) (S' : zSh) (I' X' : zI) (Y' : zY) (sz' : Nat) : Prop :=
  ∀ (l : Launch) (g : zG), Met l y.1 (zws y) (zrm n mc ms) (va_Pc (args.map (rv ad)) (zPre g ad S I X Y sz)) (zPost g ad S sz v S' I' X' Y' sz') mc ms (zFr ad S sz)
/-- what a method's last instruction owes -/
def zEnd (C : zC) (ad : zA) (S : zSh) (I X : zI) (Y : zY) (sz : Nat) (v : Option zV) (mc ms : Nat) : Prop :=
  ∃ (Qc : Array Value → State → Outcome → State → Prop) (free : Addr → Prop), cZ C = MQ (cb C) Qc (ca C) (cs C) mc ms free ∧
    ∀ (H : Heap) (locs : List Loc), zW (cg C) (cA C) ad S I X Y H → H.size = sz → va_S (cA C) (cs C).heap H locs → (∀ t : State, t.heap = H → (cs C).WarmedH t.vm → Qc (ca C) (cs C) (.returned (v.map (rv ad))) t) ∧ ∀ q ∈ locs, free q.base
theorem zEnd.to {C : zC} {ad : zA} {S : zSh} {I X I' X' : zI} {Y Y' : zY} {sz mc ms : Nat} {v v' : Option zV} (h : zEnd C ad S I X Y sz v mc ms) (hv : v = v') (hI : I = I') (hX : X = X') (hY : Y = Y') : zEnd C ad S I' X' Y' sz v' mc ms := by
  subst hv; subst hI; subst hX; subst hY; exact h
def zent (args : List zV) (nL : Nat) : List (Option zV) := (args.flatMap (fun v => if zcat (some (some v)) = 2 then [some v, none] else [some v]))
theorem zent_args {ad : zA} : ∀ (args : List zV) (o i : Nat) (v : zV), (zent args 0)[i]? = some (some v) → (o + i, rv ad v) ∈ lv_args o (args.map (rv ad)) := by
  intro args
  induction args with
  | nil => intro o i v h; simp [zent] at h
  | cons a t ih =>
    intro o i v h
    show _ ∈ lv_args o (rv ad a :: t.map (rv ad))
    unfold lv_args
    rw [rv_cat]
    by_cases hc : zcat (some (some a)) = 2
    · have he : zent (a :: t) 0 = some a :: none :: zent t 0 := by simp [zent, hc]
      rw [he] at h
      match i, h with
      | 0, h => simp at h; subst h; exact List.mem_cons_self
      | 1, h => simp at h
      | i + 2, h =>
        have h' : (zent t 0)[i]? = some (some v) := by simpa using h
        have := ih (o + 2) i v h'
        rw [hc]
        rw [show o + (i + 2) = o + 2 + i by omega]
        exact List.mem_cons_of_mem _ this
    · have he : zent (a :: t) 0 = some a :: zent t 0 := by simp [zent, hc]
      have h1 : zcat (some (some a)) = 1 := by
        rcases a with x | x | _ | ⟨b, k⟩ <;> first | rfl | exact absurd rfl hc
      rw [he] at h
      match i, h with
      | 0, h => simp at h; subst h; exact List.mem_cons_self
      | i + 1, h =>
        have h' : (zent t 0)[i]? = some (some v) := by simpa using h
        have := ih (o + 1) i v h'
        rw [h1]
        rw [show o + (i + 1) = o + 1 + i by omega]
        exact List.mem_cons_of_mem _ this
theorem zent_len {ad : zA} (args : List zV) : (lg_sl (args.map (rv ad))).length = (zent args 0).length := by
  induction args with
  | nil => rfl
  | cons a t ih =>
    by_cases hc : zcat (some (some a)) = 2
    · have he : zent (a :: t) 0 = some a :: none :: zent t 0 := by simp [zent, hc]
      have h2 : lg_sl ((a :: t).map (rv ad)) = .val (rv ad a) :: .second :: lg_sl (t.map (rv ad)) := by simp [lg_sl, rv_cat, hc]
      rw [he, h2]; simp [ih]
    · have he : zent (a :: t) 0 = some a :: zent t 0 := by simp [zent, hc]
      have h2 : lg_sl ((a :: t).map (rv ad)) = .val (rv ad a) :: lg_sl (t.map (rv ad)) := by simp [lg_sl, rv_cat, hc]
      rw [he, h2]; simp [ih]
theorem zFr_A {ad : zA} {S : zSh} {sz : Nat} {b k : Nat} {sh : zS} (h : S b k = some sh) : zFr ad S sz (ad b k) := Or.inl ⟨b, k, fun z => (by rw [h] at z; cases z), rfl⟩
/-- a contract out of a walk of the body -/
theorem zCall.of {y : zM} {n mc ms k : Nat} {args : List zV} {v : Option zV} {ad : zA} {S S' : zSh} {I X I' X' : zI} {Y Y' : zY} {sz sz' : Nat} {lo : List (Option zV)} (hp : plainName y.1.cls = true) (hlen : (zent args 0).length ≤ y.2.2.1) (hlo : zent args 0 ++ List.replicate k none = lo)
    (body : ∀ C : zC, zOk y.2.1 y.1.cls y.2.2.1 y.2.2.2 n mc ms C ad → (ch C).name = y.1.name → zEnd C ad S' I' X' Y' sz' v mc ms → zL C y.2.2.1 ad S 0 0 sz I X Y 0 lo []) : zCall y n mc ms args v ad S I X Y sz S' I' X' Y' sz' := by
  intro l g
  refine Met.ofW (cc := y.2.1) (maxL := y.2.2.1) (ret := y.2.2.2) hp rfl ?_
  intro p e s m args' below meth c s₁ B hml hv
  obtain ⟨rfl, hsz, hW, hK, hO⟩ := hv
  have hts : ∀ w ∈ zTb, w.before (args.map (rv ad)).toArray s = true := fun w hw => atoms_spec (ws := zws y) B.pre w (List.mem_cons_of_mem _ hw)
  have hown : s.vm.findClass y.1.cls = some m.cls := findClass_of_methodNamed B.named
  have hnm : meth.name = y.1.name := (name_of_methodNamed B.named B.method).1
  have hl := lv_entry (args.map (rv ad)) (n := y.2.2.1) (by rw [zent_len]; exact hlen)
  rw [lg_entry_eq]
  generalize (lg_sl (args.map (rv ad)) ++ List.replicate (y.2.2.1 - (lg_sl (args.map (rv ad))).length) Slot.unset).toArray = ls at hl ⊢
  have hl2 : zlv ad ls y.2.2.1 lo := by
    refine ⟨hl.1, hl.2.1, fun i w hw => ?_⟩
    rw [← hlo] at hw
    have hw2 : (zent args 0)[i]? = some (some w) := by
      by_cases hi : i < (zent args 0).length
      · rwa [List.getElem?_append_left hi] at hw
      · rw [List.getElem?_append_right (by omega), List.getElem?_replicate] at hw
        split at hw <;> simp at hw
    have := hl.2.2 (0 + i, rv ad w) (zent_args args 0 i w hw2)
    simpa using this
  have hbody := body (p, l, e, (headSpec (zws y) (zrm n mc ms)).room, s, m, (args.map (rv ad)).toArray, below, meth, c, MQ below (zPost g ad S sz v S' I' X' Y' sz') (args.map (rv ad)).toArray s mc ms (zFr ad S sz), g, zFr ad S sz)
    ⟨B.exec, B.bytes, hml, hown, hts, B.returns, B.notSynchronized, ⟨Nat.le_refl _, Nat.le_refl _, Nat.le_refl _, Nat.le_refl _⟩, hK, hO, fun q hq => Or.inr (by rw [← hsz]; exact hq)⟩ hnm
    ⟨_, _, rfl, fun H locs w0 w1 w2 => ⟨fun t ht _ => ⟨⟨rfl, by rw [ht]; exact w0.weaken (fun _ _ _ _ => trivial), by rw [ht]; exact w1, fun b k sh h => (w0.1 b k sh h).2⟩, w2.F ht⟩, w2.2.2⟩⟩
  exact hbody s.heap [] ls ⟨hW, hsz⟩ va_S.rf hl2
section ZE
variable {C : zC} {nL : Nat} {ad : zA} {S : zSh} {cells slots sz : Nat} {I X : zI} {Y : zY} {pc : Nat} {lo : List (Option zV)} {st : List zV}
variable {bt : ByteArray} {own : String} {ret : Option FieldType} {N mc ms : Nat}
theorem z_iret (hC : zOk bt own nL (some .int) N mc ms C ad) {x : Int32} (d : decode bt pc = .ok (.ireturn, 1)) (hE : zEnd C ad S I X Y sz (some (.inl x)) cells slots) : zL C nL ad S cells slots sz I X Y pc lo [.inl x] := by
  intro H locs ls h1 h2 h3
  obtain ⟨Qc, free, hZ, h⟩ := hE
  obtain ⟨g1, g2⟩ := h H locs h1.1 h1.2 h2
  rw [hZ]
  exact W.iret hC.1 hC.2.1 hC.2.2.2.2.2.1 (fun t ht hw => g1 t ht hw) g2 d hC.2.2.2.2.2.2.1
theorem z_zret (hC : zOk bt own nL (some .boolean) N mc ms C ad) {x : Int32} (d : decode bt pc = .ok (.ireturn, 1)) (hn : narrow .boolean (.int x) = .int x) (hE : zEnd C ad S I X Y sz (some (.inl x)) cells slots) : zL C nL ad S cells slots sz I X Y pc lo [.inl x] := by
  intro H locs ls h1 h2 h3
  obtain ⟨Qc, free, hZ, h⟩ := hE
  obtain ⟨g1, g2⟩ := h H locs h1.1 h1.2 h2
  rw [hZ]
  exact W.zret hC.1 hC.2.1 hC.2.2.2.2.2.1 hn (fun t ht hw => g1 t ht hw) g2 d hC.2.2.2.2.2.2.1
theorem z_tret {ret0 : FieldType} (hC : zOk bt own nL (some ret0) N mc ms C ad) {x : Int32} (d : decode bt pc = .ok (.ireturn, 1)) (hn : narrow ret0 (.int x) = .int x) (hE : zEnd C ad S I X Y sz (some (.inl x)) cells slots) : zL C nL ad S cells slots sz I X Y pc lo [.inl x] := by
  intro H locs ls h1 h2 h3
  obtain ⟨Qc, free, hZ, h⟩ := hE
  obtain ⟨g1, g2⟩ := h H locs h1.1 h1.2 h2
  rw [hZ]
  exact W.zret hC.1 hC.2.1 hC.2.2.2.2.2.1 hn (fun t ht hw => g1 t ht hw) g2 d hC.2.2.2.2.2.2.1
theorem z_lret (hC : zOk bt own nL (some .long) N mc ms C ad) {x : Int64} (d : decode bt pc = .ok (.lreturn, 1)) (hE : zEnd C ad S I X Y sz (some (.inr (.inl x))) cells slots) : zL C nL ad S cells slots sz I X Y pc lo [.inr (.inl x)] := by
  intro H locs ls h1 h2 h3
  obtain ⟨Qc, free, hZ, h⟩ := hE
  obtain ⟨g1, g2⟩ := h H locs h1.1 h1.2 h2
  rw [hZ]
  exact W.lret hC.1 hC.2.1 hC.2.2.2.2.2.1 (fun t ht hw => g1 t ht hw) g2 d hC.2.2.2.2.2.2.1
theorem z_aret {cn : String} (hC : zOk bt own nL (some (.object cn)) N mc ms C ad) {v : Option (Nat × Nat)} (d : decode bt pc = .ok (.areturn, 1)) (hE : zEnd C ad S I X Y sz (some (.inr (.inr v))) cells slots) : zL C nL ad S cells slots sz I X Y pc lo [.inr (.inr v)] := by
  intro H locs ls h1 h2 h3
  obtain ⟨Qc, free, hZ, h⟩ := hE
  obtain ⟨g1, g2⟩ := h H locs h1.1 h1.2 h2
  rw [hZ]
  refine W.aret hC.1 hC.2.1 hC.2.2.2.2.2.1 (Or.inl ⟨_, rfl⟩) ?_ (fun t ht hw => g1 t ht hw) g2 d hC.2.2.2.2.2.2.1
  rcases v with _ | ⟨b, k⟩
  · exact Or.inl rfl
  · exact Or.inr ⟨_, rfl⟩
theorem z_vret (hC : zOk bt own nL none N mc ms C ad) (d : decode bt pc = .ok (.return_, 1)) (hE : zEnd C ad S I X Y sz none cells slots) : zL C nL ad S cells slots sz I X Y pc lo [] := by
  intro H locs ls h1 h2 h3
  obtain ⟨Qc, free, hZ, h⟩ := hE
  obtain ⟨g1, g2⟩ := h H locs h1.1 h1.2 h2
  rw [hZ]
  exact W.vret hC.1 hC.2.1 hC.2.2.2.2.2.1 (fun t ht hw => g1 t ht hw) g2 d hC.2.2.2.2.2.2.1
theorem z_widen {k n : Nat} (h1 : cells ≤ k) (h2 : slots ≤ n) (kk : zL C nL ad S k n sz I X Y pc lo st) : zL C nL ad S cells slots sz I X Y pc lo st :=
  fun H locs ls w1 w2 w3 => W.widen h1 h2 (kk H locs ls w1 w2 w3)
end ZE
/-! links -/
def zPay (y : zM) (np : Nat) : Prop := Cond.code y.1 y.2.1 y.2.2.1 y.2.2.2 ∈ zTb ∧ Cond.initialized y.1.cls ∈ zTb ∧ (y.1.cls ≠ "java/lang/invoke/MethodHandle" ∧ y.1.cls ≠ "java/lang/invoke/VarHandle" ∧ (parseMethodDescriptor y.1.desc).map (fun d => d.parameters.length) = some np) ∧ y.2.2.1 ≤ 17
def zVir (own : String) (idx : Nat) (y : zM) (np : Nat) : Prop := zPay y np ∧ Cond.methodLink own idx y.1 ∈ zTb ∧ Cond.instanceMethod y.1 ∈ zTb ∧ Cond.selects y.1.cls y.1 y.1 ∈ zTb
def zSta (own : String) (idx : Nat) (y : zM) (np : Nat) : Prop := zPay y np ∧ Cond.methodLink own idx y.1 ∈ zTb ∧ Cond.static y.1 ∈ zTb
def zNst (own : String) (idx : Nat) (y : zM) (np : Nat) : Prop := zPay y np ∧ (∃ h, (own, idx, y.1, h) ∈ zNests) ∧ Cond.static y.1 ∈ zTb
def zIni (own : String) (idx : Nat) (y : zM) (np : Nat) : Prop := zPay y np ∧ Cond.methodLink own idx y.1 ∈ zTb ∧ Cond.instanceMethod y.1 ∈ zTb ∧ y.1.name = "<init>" ∧ y.2.2.2 = none
section ZX
variable {C : zC} {nL : Nat} {ad : zA} {S S' : zSh} {cells slots sz sz' : Nat} {I X I' X' : zI} {Y Y' : zY} {pc : Nat} {lo : List (Option zV)} {st : List zV}
variable {bt : ByteArray} {own : String} {ret : Option FieldType} {N mc ms : Nat} {y : zM} {np idx n mc1 ms1 : Nat}
theorem zpayB (hC : zOk bt own nL ret N mc ms C ad) (hp : zPay y np) (hn : n + 1 ≤ N) (hl : (Cond.methodLink own idx y.1).before (ca C) (cs C) = true) : CallB (cR C) (cs C) (ca C) own idx y.1 y.2.1 y.2.2.1 y.2.2.2 (zws y) (zrm n mc1 ms1) mc1 ms1 np := by
  obtain ⟨p1, p2, p3, p4⟩ := hp
  have hts := hC.2.2.2.2.1
  have hR := hC.2.2.2.2.2.2.2.1
  refine callB_of np hts (zTb_good fun w hw => ?_) rfl rfl rfl (hts _ p2) hl p3 ⟨?_, ?_⟩
  · rcases List.mem_cons.mp hw with rfl | h
    · exact p1
    · exact h
  · exact Nat.le_trans hn hR.1
  · show 8 + (y.2.2.1 + 11) + 36 * n ≤ _
    have := hR.2.1
    omega
/-- behind a call -/
theorem z_after {v : Option zV} {st0 : List Value} {a : Array Value} (hC : zOk bt own nL ret N mc ms C ad) {H : Heap} {locs : List Loc} {ls : Array Slot} (h1 : zW (cg C) (cA C) ad S I X Y H ∧ H.size = sz) (h2 : va_S (cA C) (cs C).heap H locs) (h3 : zlv ad ls nL lo)
    (hr : va_Run (cp C) (cl C) (ce C) (cR C) (cs C) (cm C) (ca C) (cb C) (ch C) (cc C) H locs cells slots mc1 ms1 (F0 (cm C) pc ls st0) (st.map (rv ad)) (zPost (cg C) ad S sz v S' I' X' Y' sz' a) (zFr ad S sz))
    (kk : zL C nL ad S' (cells + mc1) (slots + ms1) sz' I' X' Y' (pc + 3) lo (v.toList ++ st)) :
    W (cp C) (cl C) (ce C) (cR C) (cs C) (cm C) (ca C) (cb C) (ch C) (cc C) H locs cells slots (cZ C) (F0 (cm C) pc ls st0) := by
  intro T hT Xs
  obtain ⟨v', st₀, t, T', L, h0, X', hL, e1, e2, ⟨⟨hv, hW, hz, hA⟩, hz2, hk⟩, stp⟩ := hr T hT Xs
  rw [h0] at hz2 hk
  have hsub : ∀ q, zFr ad S sz q → cA C q := by
    intro q hq
    rcases hq with ⟨b, k, hs, rfl⟩ | hq
    · cases hsh : S b k with
      | none => exact absurd hsh hs
      | some sh => exact (h1.1.1 b k sh hsh).2
    · refine hC.2.2.2.2.2.2.2.2.2.2 q (Nat.le_trans h2.1 ?_)
      rw [h1.2]; exact hq
  cases hv
  have hst : (Option.map (rv ad) v).toList ++ st.map (rv ad) = (v.toList ++ st).map (rv ad) := by cases v <;> rfl
  rw [hst] at stp
  obtain ⟨t2, a1, b1⟩ := kk T'.heap (locs ++ L) ls ⟨⟨fun b k sh hs => ⟨by rw [e1]; exact (hW.1 b k sh hs).1, hsub _ (hA b k sh hs)⟩, hW.2⟩, by rw [e1]; exact hz⟩
    ⟨Nat.le_trans h2.1 (by rw [e1]; exact hz2), fun q g1 g2 => by rw [e1, hk q (Nat.lt_of_lt_of_le g1 h2.1) (fun z => g2 (hsub q z))]; exact h2.2.1 q g1 g2, fun q hq => by
      rcases List.mem_append.mp hq with h | h
      · exact h2.2.2 q h
      · exact hsub _ (hL q h)⟩ h3 T' rfl X'
  exact ⟨t2, stp t2 a1, b1⟩
theorem zpreS {args : List zV} (hC : zOk bt own nL ret N mc ms C ad) {H : Heap} {locs : List Loc} (h1 : zW (cg C) (cA C) ad S I X Y H ∧ H.size = sz) (h2 : va_S (cA C) (cs C).heap H locs) : PreS (cs C) H (va_Pc (args.map (rv ad)) (zPre (cg C) ad S I X Y sz)) (args.map (rv ad)) := by
  refine ⟨fun a U g mk q => ⟨q.1, q.2.1, q.2.2.1, ?_, ?_⟩, fun U hU hW => ⟨rfl, by rw [hU]; exact h1.2, ?_, ?_, ?_⟩⟩
  · exact va_K.moved (u := U) (U := U.calling g mk a) (Vm.Alike.refl U.vm) q.2.2.2.1
  · exact zOld.same (u := U) (U := U.calling g mk a) rfl q.2.2.2.2
  · rw [hU]; exact h1.1.weaken fun b k sh hs => zFr_A hs
  · exact va_K.moved hW.alike hC.2.2.2.2.2.2.2.2.1
  · rw [hU]
    refine hC.2.2.2.2.2.2.2.2.2.1.to h2.2.1 ?_ hW
    intro q hq
    rcases hq with ⟨b, k, hs, rfl⟩ | hq
    · cases hsh : S b k with
      | none => exact absurd hsh hs
      | some sh => exact (h1.1.1 b k sh hsh).2
    · refine hC.2.2.2.2.2.2.2.2.2.2 q (Nat.le_trans h2.1 ?_)
      rw [h1.2]; exact hq
theorem zwords {st : List zV} (h : (st.map (fun v => zcat (some (some v)))).sum ≤ 8) : ((st.map (rv ad)).map fun v => v.category).sum ≤ 8 := by
  rw [List.map_map, show (fun v : Value => v.category) ∘ rv ad = fun v => zcat (some (some v)) from funext fun v => rv_cat ad v]
  exact h
theorem z_callS {As : List zV} {v : Option zV} {st0 : List zV} (hC : zOk bt own nL ret N mc ms C ad) (d : decode bt pc = .ok (.invokestatic idx, 3)) (hy : zSta own idx y np) (hM : zCall y n mc1 ms1 As v ad S I X Y sz S' I' X' Y' sz') (hst : st0 = As.reverse ++ st) (hnp : As.length = np) (hn : n + 1 ≤ N) (hw : (st.map (fun v => zcat (some (some v)))).sum ≤ 8) (hroom : cells + mc1 ≤ mc ∧ slots + ms1 ≤ ms)
    (kk : zL C nL ad S' (cells + mc1) (slots + ms1) sz' I' X' Y' (pc + 3) lo (v.toList ++ st)) : zL C nL ad S cells slots sz I X Y pc lo st0 := by
  intro H locs ls h1 h2 h3
  have hts := hC.2.2.2.2.1
  have hR := hC.2.2.2.2.2.2.2.1
  refine z_after hC h1 h2 h3 (va_runS (As := As.map (rv ad)) (rest := st.map (rv ad)) ⟨hC.1, hC.2.1, hC.2.2.1, hC.2.2.2.1, hts⟩ (hM (cl C) (cg C)) ⟨zpayB hC hy.1 hn (hts _ hy.2.1), hts _ hy.2.2⟩ (zpreS hC h1 h2) rfl (by rw [List.length_map]; exact hnp) h3.1 (by rw [hst]; simp) (lv_room (zwords hw)) d ⟨Nat.le_trans hroom.1 hR.2.2.1, Nat.le_trans hroom.2 hR.2.2.2⟩) kk
theorem z_callN {As : List zV} {v : Option zV} {st0 : List zV} (hC : zOk bt own nL ret N mc ms C ad) (d : decode bt pc = .ok (.invokestatic idx, 3)) (hy : zNst own idx y np) (hM : zCall y n mc1 ms1 As v ad S I X Y sz S' I' X' Y' sz') (hst : st0 = As.reverse ++ st) (hnp : As.length = np) (hn : n + 1 ≤ N) (hw : (st.map (fun v => zcat (some (some v)))).sum ≤ 8) (hroom : cells + mc1 ≤ mc ∧ slots + ms1 ≤ ms)
    (kk : zL C nL ad S' (cells + mc1) (slots + ms1) sz' I' X' Y' (pc + 3) lo (v.toList ++ st)) : zL C nL ad S cells slots sz I X Y pc lo st0 := by
  intro H locs ls h1 h2 h3
  have hts := hC.2.2.2.2.1
  have hR := hC.2.2.2.2.2.2.2.1
  obtain ⟨⟨p1, p2, p3, p4⟩, ⟨host, hh⟩, y3⟩ := hy
  have hnest := hC.2.2.2.2.2.2.2.2.2.1.2.2.2.2.2.2 _ hh
  refine z_after hC h1 h2 h3 (va_runSN (host := host) (As := As.map (rv ad)) (rest := st.map (rv ad)) ⟨hC.1, hC.2.1, hC.2.2.1, hC.2.2.2.1, hts⟩ (hM (cl C) (cg C)) ⟨va_cnB np hts (zTb_good fun w hw => ?_) rfl rfl rfl hnest (hts _ p2) p3 ⟨Nat.le_trans hn hR.1, ?_⟩, hts _ y3, trivial⟩ (zpreS hC h1 h2) rfl (by rw [List.length_map]; exact hnp) h3.1 (by rw [hst]; simp) (lv_room (zwords hw)) d ⟨Nat.le_trans hroom.1 hR.2.2.1, Nat.le_trans hroom.2 hR.2.2.2⟩) kk
  · rcases List.mem_cons.mp hw with rfl | h
    · exact p1
    · exact h
  · show 8 + (y.2.2.1 + 11) + 36 * n ≤ _
    have := hR.2.1
    omega
theorem zrecv (hC : zOk bt own nL ret N mc ms C ad) {H : Heap} (h1 : zW (cg C) (cA C) ad S I X Y H ∧ H.size = sz) {b j ci : Nat} {fl : List zF} {q : vw_C} (hs : S b j = some (.inr (.inl (ci, fl)))) (hc : vwCl[ci]? = some q) : ∃ cellB : Cell, H[ad b j]? = some cellB ∧ cellB.vm.isStatics = false ∧ (cs C).vm.findClass q.1 = some cellB.cls :=
  va_recv (q0 := 0) hC.2.2.2.2.2.2.2.2.1 (zsing (h1.1.1 b j _ hs).1) hc rfl
theorem z_callV {As : List zV} {v : Option zV} {st0 : List zV} {b j ci : Nat} {fl : List zF} {q : vw_C} (hC : zOk bt own nL ret N mc ms C ad) (d : decode bt pc = .ok (.invokevirtual idx, 3)) (hy : zVir own idx y np) (hM : zCall y n mc1 ms1 (.inr (.inr (some (b, j))) :: As) v ad S I X Y sz S' I' X' Y' sz') (hs : S b j = some (.inr (.inl (ci, fl)))) (hc : vwCl[ci]? = some q) (hq : q.1 = y.1.cls) (hst : st0 = As.reverse ++ .inr (.inr (some (b, j))) :: st) (hnp : As.length = np) (hn : n + 1 ≤ N) (hw : (st.map (fun v => zcat (some (some v)))).sum ≤ 8) (hroom : cells + mc1 ≤ mc ∧ slots + ms1 ≤ ms)
    (kk : zL C nL ad S' (cells + mc1) (slots + ms1) sz' I' X' Y' (pc + 3) lo (v.toList ++ st)) : zL C nL ad S cells slots sz I X Y pc lo st0 := by
  intro H locs ls h1 h2 h3
  have hts := hC.2.2.2.2.1
  have hR := hC.2.2.2.2.2.2.2.1
  have hpS := zpreS (args := .inr (.inr (some (b, j))) :: As) hC h1 h2
  obtain ⟨y1, y2, y3, y4⟩ := hy
  refine z_after hC h1 h2 h3 (va_runV (C := y.1.cls) (b := ad b j) (As := As.map (rv ad)) (rest := st.map (rv ad)) ⟨hC.1, hC.2.1, hC.2.2.1, hC.2.2.2.1, hts⟩ (hM (cl C) (cg C)) ⟨zpayB hC y1 hn (hts _ y2), hts _ y3, hts _ y4⟩ ⟨hpS.1, by rw [← hq]; exact zrecv hC h1 hs hc, hpS.2⟩ rfl (by rw [List.length_map]; exact hnp) h3.1 (by rw [hst]; simp [rv]) (lv_room (zwords hw)) d ⟨Nat.le_trans hroom.1 hR.2.2.1, Nat.le_trans hroom.2 hR.2.2.2⟩) kk
theorem z_callI {As : List zV} {v : Option zV} {st0 : List zV} {b j : Nat} (hC : zOk bt own nL ret N mc ms C ad) (d : decode bt pc = .ok (.invokespecial idx, 3)) (hy : zIni own idx y np) (hM : zCall y n mc1 ms1 (.inr (.inr (some (b, j))) :: As) v ad S I X Y sz S' I' X' Y' sz') (hst : st0 = As.reverse ++ .inr (.inr (some (b, j))) :: st) (hnp : As.length = np) (hn : n + 1 ≤ N) (hw : (st.map (fun v => zcat (some (some v)))).sum ≤ 8) (hroom : cells + mc1 ≤ mc ∧ slots + ms1 ≤ ms)
    (kk : zL C nL ad S' (cells + mc1) (slots + ms1) sz' I' X' Y' (pc + 3) lo (v.toList ++ st)) : zL C nL ad S cells slots sz I X Y pc lo st0 := by
  intro H locs ls h1 h2 h3
  have hts := hC.2.2.2.2.1
  have hR := hC.2.2.2.2.2.2.2.1
  obtain ⟨y1, y2, y3, y4, y5⟩ := hy
  obtain ⟨ym, yb, yl, yr⟩ := y
  cases y5
  exact z_after hC h1 h2 h3 (va_runI (b := ad b j) (As := As.map (rv ad)) (rest := st.map (rv ad)) ⟨hC.1, hC.2.1, hC.2.2.1, hC.2.2.2.1, hts⟩ (hM (cl C) (cg C)) ⟨zpayB hC y1 hn (hts _ y2), y4, hts _ y3⟩ (zpreS (args := .inr (.inr (some (b, j))) :: As) hC h1 h2) rfl (by rw [List.length_map]; exact hnp) h3.1 (by rw [hst]; simp [rv]) (lv_room (zwords hw)) d ⟨Nat.le_trans hroom.1 hR.2.2.1, Nat.le_trans hroom.2 hR.2.2.2⟩) kk
end ZX
