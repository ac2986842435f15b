/-! what is old: strings, statics, what the tables say of arrays of arrays -/
def zRefs : List (String × Nat × String × Nat) := [("OnTheRoof$Tape", 89, "bend", 0), ("OnTheRoof$Tape", 95, "pace", 1), ("OnTheRoof$Tape", 97, "wet", 2), ("OnTheRoof$Tape", 99, "grip", 3), ("OnTheRoof$Tape", 101, "seen", 4), ("OnTheRoof$Tape", 103, "gone", 5), ("OnTheRoof$Tape", 105, "call", 6), ("OnTheRoof$Tape", 107, "look", 7),
  ("OnTheRoofModel", 224, "bend", 0), ("OnTheRoofModel", 230, "pace", 1), ("OnTheRoofModel", 234, "wet", 2), ("OnTheRoofModel", 235, "grip", 3), ("OnTheRoofModel", 236, "seen", 4), ("OnTheRoofModel", 238, "gone", 5), ("OnTheRoofModel", 240, "call", 6), ("OnTheRoofModel", 242, "look", 7)]
def zOver (U : State) : Prop := (Cond.arrayOver (.object "OnTheRoof$Shelf")).before #[] U = true ∧ (Cond.arrayOver (.array .int)).before #[] U = true ∧ (Cond.arrayOver (.array .long)).before #[] U = true
def zNests : List (String × Nat × MethodName × String) := [("OnTheRoof$Road", 75, ⟨"OnTheRoof", "missBehind", "(II)I"⟩, "OnTheRoof"), ("OnTheRoof$Weights", 66, ⟨"OnTheRoof", "isIn", "(II)Z"⟩, "OnTheRoof"), ("OnTheRoof$Weights", 82, ⟨"OnTheRoof", "seenBy", "(I)I"⟩, "OnTheRoof"), ("OnTheRoof$Weights", 85, ⟨"OnTheRoof", "missBehind", "(II)I"⟩, "OnTheRoof"), ("OnTheRoof$Road", 98, ⟨"OnTheRoof", "isIn", "(II)Z"⟩, "OnTheRoof"), ("OnTheRoof$Shelf", 47, ⟨"OnTheRoof", "isWithin", "(III)Z"⟩, "OnTheRoof"), ("OnTheRoof$Road", 110, ⟨"OnTheRoof", "seenBy", "(I)I"⟩, "OnTheRoof")]
def zFmt : String := "Ljava/util/function/BiFunction;"
def zOld (ad : Nat → Nat → Nat) (A : Nat → Prop) (U : State) (H : Heap) : Prop :=
  vk_S 8 zSl zSw (ad 5) (ad 6) A U H ∧ (∀ q ∈ zRefs, vk_R q.1 q.2.1 q.2.2.1 (ad 5 q.2.2.2) U) ∧ va_Z "java/lang/String" "COMPACT_STRINGS" "Z" (.int 1) A U H ∧
  (∀ j, j < 3 → va_Z "OnTheRoof$Road" (zAn j) "[I" (.ref (ad 4 j)) A U H ∧ va_T .int (ad 4 j) (zAl j).length (fun i => .int ((zAl j).getD i 0)) A U H) ∧ zOver U ∧
  (va_Z "jdk/internal/util/Preconditions" "SIOOBE_FORMATTER" zFmt .null A U H ∨ va_Z "jdk/internal/util/Preconditions" "SIOOBE_FORMATTER" zFmt (.ref (ad 7 0)) A U H) ∧
  ∀ q ∈ zNests, va_Nw (.methodLinkNest q.1 q.2.1 q.2.2.1 q.2.2.2) U
theorem zAOA_moved {t : FieldType} {u U : State} (hvm : u.vm.Alike U.vm) (h : (Cond.arrayOver (.array t)).before #[] u = true) : (Cond.arrayOver (.array t)).before #[] U = true := by
  obtain ⟨comp, c, k, h1, h2, h3, h4, h5⟩ := arrayOver_specB h
  obtain ⟨k', hk', he⟩ := hvm.2.2 _ _ h3
  have hi : (U.vm.classes.findIdx? fun (x : Class) => match x.kind with | .array component _ => component == comp | _ => false) = some c := by
    refine (va_idx_bare U.vm comp).symm.trans ?_
    first | rw [hvm.bare_eq] | rw [← hvm.bare_eq]
    exact (va_idx_bare u.vm comp).trans h2
  have hkind : k'.kind = .array comp (.array t) := by rw [he]; exact h4
  have f1 : U.vm.findClass (FieldType.array t).toString = some comp := by rw [hvm.findClass]; exact h1
  have f2 : U.vm.findClass ("[" ++ (FieldType.array t).toString) = some c := by rw [hvm.findClass]; exact h5
  unfold Cond.before Cond.holds
  simp only [Cond.value]
  rw [f1, Option.bind_some]
  refine (congrArg (fun o : Option Nat => (o.bind (fun c => (U.vm.classes[c]?).map fun (k : Class) => match k.kind with | .array _ ty => decide (ty = FieldType.array t) && decide (U.vm.findClass ("[" ++ (FieldType.array t).toString) = some c) | _ => false) == some true)) hi).trans ?_
  simp [hk', hkind, f2]
theorem zOver.moved {u U : State} (hvm : u.vm.Alike U.vm) (h : zOver u) : zOver U := ⟨va_AO.moved hvm h.1, zAOA_moved hvm h.2.1, zAOA_moved hvm h.2.2⟩
theorem zOld.to {ad : Nat → Nat → Nat} {A B : Nat → Prop} {s U : State} {H : Heap} (h : zOld ad A s s.heap) (hS : ∀ a : Nat, a < s.heap.size → ¬ A a → H[a]? = s.heap[a]?) (hAB : ∀ q, B q → A q) (hW : s.WarmedH U.vm) : zOld ad B U H := by
  obtain ⟨h1, h2, h3, h4, h5, h6, h7⟩ := h
  have hv := hW.alike
  exact ⟨((h1.kept hS).narrow hAB).moved hv, fun q hq => (h2 q hq).warm hW, ((h3.kept hS).narrow hAB).moved hv, fun j hj => ⟨(((h4 j hj).1.kept hS).narrow hAB).moved hv, (((h4 j hj).2.kept hS).narrow hAB).moved hv⟩, h5.moved hv,
    h6.imp (fun h => ((h.kept hS).narrow hAB).moved hv) (fun h => ((h.kept hS).narrow hAB).moved hv), fun q hq => (h7 q hq).warmM hW⟩
theorem zOld.same {ad : Nat → Nat → Nat} {A : Nat → Prop} {u U : State} {H : Heap} (hv : U.vm = u.vm) (h : zOld ad A u H) : zOld ad A U H := by
  obtain ⟨h1, h2, h3, h4, h5, h6, h7⟩ := h
  have ha : u.vm.Alike U.vm := by rw [hv]; exact Vm.Alike.refl _
  exact ⟨h1.moved ha, fun q hq => (h2 q hq).same hv, h3.moved ha, fun j hj => ⟨(h4 j hj).1.moved ha, (h4 j hj).2.moved ha⟩, h5.moved ha, h6.imp (fun h => h.moved ha) (fun h => h.moved ha), fun q hq => va_Nw.same rfl hv.symm (h7 q hq)⟩
/-! a run from a place in a method -/
abbrev zC : Type := Program × Launch × Env × Room × State × MethodId × Array Value × List Frame × Method × Code × (State → Prop) × zG × (Nat → Prop)
abbrev cp (C : zC) : Program := C.1
abbrev cl (C : zC) : Launch := C.2.1
abbrev ce (C : zC) : Env := C.2.2.1
abbrev cR (C : zC) : Room := C.2.2.2.1
abbrev cs (C : zC) : State := C.2.2.2.2.1
abbrev cm (C : zC) : MethodId := C.2.2.2.2.2.1
abbrev ca (C : zC) : Array Value := C.2.2.2.2.2.2.1
abbrev cb (C : zC) : List Frame := C.2.2.2.2.2.2.2.1
abbrev ch (C : zC) : Method := C.2.2.2.2.2.2.2.2.1
abbrev cc (C : zC) : Code := C.2.2.2.2.2.2.2.2.2.1
abbrev cZ (C : zC) : State → Prop := C.2.2.2.2.2.2.2.2.2.2.1
abbrev cg (C : zC) : zG := C.2.2.2.2.2.2.2.2.2.2.2.1
abbrev cA (C : zC) : Nat → Prop := C.2.2.2.2.2.2.2.2.2.2.2.2
abbrev zSh : Type := Nat → Nat → Option zS
abbrev zI : Type := Nat → Nat → Nat → Int32
abbrev zY : Type := Nat → Nat → Nat → Int64
abbrev zA : Type := Nat → Nat → Nat
def zL (C : zC) (nL : Nat) (ad : zA) (S : zSh) (cells slots sz : Nat) (I X : zI) (Y : zY) (pc : Nat) (lo : List (Option zV)) (st : List zV) : Prop :=
  ∀ (H : Heap) (locs : List Loc) (ls : Array Slot), (zW (cg C) (cA C) ad S I X Y H ∧ H.size = sz) → va_S (cA C) (cs C).heap H locs → zlv ad ls nL lo →
    W (cp C) (cl C) (ce C) (cR C) (cs C) (cm C) (ca C) (cb C) (ch C) (cc C) H locs cells slots (cZ C) (F0 (cm C) pc ls (st.map (rv ad)))
/-- what holds while a method runs: its bytes, its class, its locals, its answer's type, its room -/
def zOk (bt : ByteArray) (own : String) (nL : Nat) (ret : Option FieldType) (N mc ms : Nat) (C : zC) (ad : zA) : Prop :=
  (cp C).tables.exec = Jvm.exec ∧ (cc C).code = bt ∧ (cc C).maxLocals = nL ∧ (cs C).vm.findClass own = some (cm C).cls ∧ (∀ w ∈ zTb, w.before (ca C) (cs C) = true) ∧
  (ch C).sig.returnType = ret ∧ (ch C).locks = false ∧ (N ≤ (cR C).frames ∧ 36 * N ≤ (cR C).locals ∧ mc ≤ (cR C).cells ∧ ms ≤ (cR C).slots) ∧
  zK (cg C) (cs C) ∧ zOld ad (cA C) (cs C) (cs C).heap ∧ (∀ q, (cs C).heap.size ≤ q → cA C q)
section ZR
variable {C : zC} {nL : Nat} {ad : zA} {S : zSh} {cells slots sz : Nat} {I X : zI} {Y : zY} {pc : Nat} {lo : List (Option zV)} {st : List zV}
variable {bt : ByteArray} {own : String} {ret : Option FieldType} {N mc ms : Nat}
theorem z_iload (hC : zOk bt own nL ret N mc ms C ad) {i : Nat} {x : Int32} (d : decode bt pc = .ok (.iload i, 2)) (hl : lo[i]? = some (some (.inl x))) (k : zL C nL ad S cells slots sz I X Y (pc + 2) lo ((.inl x) :: st)) : zL C nL ad S cells slots sz I X Y pc lo (st) :=
  fun H locs ls h1 h2 h3 => lv_iload hC.1 hC.2.1 d (h3.2.2 i _ hl) (k H locs ls h1 h2 h3)
theorem z_iload_n (hC : zOk bt own nL ret N mc ms C ad) {n : Fin 4} {x : Int32} (d : decode bt pc = .ok (.iload_n n, 1)) (hl : lo[n.val]? = some (some (.inl x))) (k : zL C nL ad S cells slots sz I X Y (pc + 1) lo ((.inl x) :: st)) : zL C nL ad S cells slots sz I X Y pc lo (st) :=
  fun H locs ls h1 h2 h3 => lv_iload_n hC.1 hC.2.1 d rfl (h3.2.2 n.val _ hl) (k H locs ls h1 h2 h3)
theorem z_lload (hC : zOk bt own nL ret N mc ms C ad) {i : Nat} {x : Int64} (d : decode bt pc = .ok (.lload i, 2)) (hl : lo[i]? = some (some (.inr (.inl x)))) (k : zL C nL ad S cells slots sz I X Y (pc + 2) lo ((.inr (.inl x)) :: st)) : zL C nL ad S cells slots sz I X Y pc lo (st) :=
  fun H locs ls h1 h2 h3 => lv_lload hC.1 hC.2.1 d (h3.2.2 i _ hl) (k H locs ls h1 h2 h3)
theorem z_lload_n (hC : zOk bt own nL ret N mc ms C ad) {n : Fin 4} {x : Int64} (d : decode bt pc = .ok (.lload_n n, 1)) (hl : lo[n.val]? = some (some (.inr (.inl x)))) (k : zL C nL ad S cells slots sz I X Y (pc + 1) lo ((.inr (.inl x)) :: st)) : zL C nL ad S cells slots sz I X Y pc lo (st) :=
  fun H locs ls h1 h2 h3 => lv_lload_n hC.1 hC.2.1 d rfl (h3.2.2 n.val _ hl) (k H locs ls h1 h2 h3)
theorem z_aload (hC : zOk bt own nL ret N mc ms C ad) {i b j : Nat} (d : decode bt pc = .ok (.aload i, 2)) (hl : lo[i]? = some (some (.inr (.inr (some (b, j)))))) (k : zL C nL ad S cells slots sz I X Y (pc + 2) lo ((.inr (.inr (some (b, j)))) :: st)) : zL C nL ad S cells slots sz I X Y pc lo (st) :=
  fun H locs ls h1 h2 h3 => lv_aload hC.1 hC.2.1 d (h3.2.2 i _ hl) (k H locs ls h1 h2 h3)
theorem z_aload_n (hC : zOk bt own nL ret N mc ms C ad) {n : Fin 4} {b j : Nat} (d : decode bt pc = .ok (.aload_n n, 1)) (hl : lo[n.val]? = some (some (.inr (.inr (some (b, j)))))) (k : zL C nL ad S cells slots sz I X Y (pc + 1) lo ((.inr (.inr (some (b, j)))) :: st)) : zL C nL ad S cells slots sz I X Y pc lo (st) :=
  fun H locs ls h1 h2 h3 => lv_aload_n hC.1 hC.2.1 d rfl (h3.2.2 n.val _ hl) (k H locs ls h1 h2 h3)
theorem z_istore (hC : zOk bt own nL ret N mc ms C ad) {i : Nat} {x : Int32} {lo2 : List (Option zV)} (d : decode bt pc = .ok (.istore i, 2)) (hn : i < nL) (hk : zok lo i = true) (hl : lo.set i (some (.inl x)) = lo2) (k : zL C nL ad S cells slots sz I X Y (pc + 2) lo2 (st)) : zL C nL ad S cells slots sz I X Y pc lo ((.inl x) :: st) :=
  fun H locs ls h1 h2 h3 => lv_istore hC.1 hC.2.1 d (zlv_has h3) hn rfl (fun ls2 h4 => k H locs ls2 h1 h2 (hl ▸ zlv_st1 (v := .inl x) hk h4))
theorem z_istore_n (hC : zOk bt own nL ret N mc ms C ad) {n : Fin 4} {x : Int32} {lo2 : List (Option zV)} (d : decode bt pc = .ok (.istore_n n, 1)) (hn : n.val < nL) (hk : zok lo n.val = true) (hl : lo.set n.val (some (.inl x)) = lo2) (k : zL C nL ad S cells slots sz I X Y (pc + 1) lo2 (st)) : zL C nL ad S cells slots sz I X Y pc lo ((.inl x) :: st) :=
  fun H locs ls h1 h2 h3 => lv_istore_n hC.1 hC.2.1 d rfl (zlv_has h3) hn rfl (fun ls2 h4 => k H locs ls2 h1 h2 (hl ▸ zlv_st1 (v := .inl x) hk h4))
theorem z_astore (hC : zOk bt own nL ret N mc ms C ad) {i : Nat} {b j : Nat} {lo2 : List (Option zV)} (d : decode bt pc = .ok (.astore i, 2)) (hn : i < nL) (hk : zok lo i = true) (hl : lo.set i (some (.inr (.inr (some (b, j))))) = lo2) (k : zL C nL ad S cells slots sz I X Y (pc + 2) lo2 (st)) : zL C nL ad S cells slots sz I X Y pc lo ((.inr (.inr (some (b, j)))) :: st) :=
  fun H locs ls h1 h2 h3 => lv_astore hC.1 hC.2.1 d (zlv_has h3) hn rfl (fun ls2 h4 => k H locs ls2 h1 h2 (hl ▸ zlv_st1 (v := .inr (.inr (some (b, j)))) hk h4))
theorem z_astore_n (hC : zOk bt own nL ret N mc ms C ad) {n : Fin 4} {b j : Nat} {lo2 : List (Option zV)} (d : decode bt pc = .ok (.astore_n n, 1)) (hn : n.val < nL) (hk : zok lo n.val = true) (hl : lo.set n.val (some (.inr (.inr (some (b, j))))) = lo2) (k : zL C nL ad S cells slots sz I X Y (pc + 1) lo2 (st)) : zL C nL ad S cells slots sz I X Y pc lo ((.inr (.inr (some (b, j)))) :: st) :=
  fun H locs ls h1 h2 h3 => lv_astore_n hC.1 hC.2.1 d rfl (zlv_has h3) hn rfl (fun ls2 h4 => k H locs ls2 h1 h2 (hl ▸ zlv_st1 (v := .inr (.inr (some (b, j)))) hk h4))
theorem z_lstore (hC : zOk bt own nL ret N mc ms C ad) {i : Nat} {x : Int64} {lo2 : List (Option zV)} (d : decode bt pc = .ok (.lstore i, 2)) (hn : i + 1 < nL) (hk : zok lo i = true) (hl : (lo.set i (some (.inr (.inl x)))).set (i + 1) none = lo2) (k : zL C nL ad S cells slots sz I X Y (pc + 2) lo2 (st)) : zL C nL ad S cells slots sz I X Y pc lo ((.inr (.inl x)) :: st) :=
  fun H locs ls h1 h2 h3 => lv_lstore hC.1 hC.2.1 d (zlv_has h3) hn rfl (fun ls2 h4 => k H locs ls2 h1 h2 (hl ▸ zlv_st2 (v := .inr (.inl x)) hk h4))
theorem z_lstore_n (hC : zOk bt own nL ret N mc ms C ad) {n : Fin 4} {x : Int64} {lo2 : List (Option zV)} (d : decode bt pc = .ok (.lstore_n n, 1)) (hn : n.val + 1 < nL) (hk : zok lo n.val = true) (hl : (lo.set n.val (some (.inr (.inl x)))).set (n.val + 1) none = lo2) (k : zL C nL ad S cells slots sz I X Y (pc + 1) lo2 (st)) : zL C nL ad S cells slots sz I X Y pc lo ((.inr (.inl x)) :: st) :=
  fun H locs ls h1 h2 h3 => lv_lstore_n hC.1 hC.2.1 d rfl (zlv_has h3) hn rfl (fun ls2 h4 => k H locs ls2 h1 h2 (hl ▸ zlv_st2 (v := .inr (.inl x)) hk h4))
theorem zal_at {ad : zA} {lo : List (Option zV)} {i : Nat} {v : zV} (h : lo[i]? = some (some v)) : ∃ k : Nat, (zal ad lo)[k]? = some (i, rv ad v) := List.getElem?_of_mem (zal_mem.mpr ⟨v, h, rfl⟩)
theorem z_iinc (hC : zOk bt own nL ret N mc ms C ad) {i : Nat} {n : Int} {x v : Int32} {lo2 : List (Option zV)} (d : decode bt pc = .ok (.iinc i n, 3)) (hx : lo[i]? = some (some (.inl x))) (hv : Int32.ofInt n = v) (hn : i < nL) (hk : zok lo i = true) (hl : lo.set i (some (.inl (x + v))) = lo2) (k : zL C nL ad S cells slots sz I X Y (pc + 3) lo2 st) : zL C nL ad S cells slots sz I X Y pc lo st := by
  intro H locs ls h1 h2 h3
  obtain ⟨q, hq⟩ := zal_at (ad := ad) hx
  subst hv
  exact lv_iinc hC.1 hC.2.1 d (zlv_has h3) hq rfl hn rfl (fun ls2 h4 => k H locs ls2 h1 h2 (hl ▸ zlv_st1 (v := .inl (x + Int32.ofInt n)) hk h4))
theorem z_iconst (hC : zOk bt own nL ret N mc ms C ad) {n : Int} {v : Int32} (d : decode bt pc = .ok (.iconst n, 1)) (hv : Int32.ofInt n = v) (k : zL C nL ad S cells slots sz I X Y (pc + 1) lo ((.inl v) :: st)) : zL C nL ad S cells slots sz I X Y pc lo (st) :=
  fun H locs ls h1 h2 h3 => lv_iconst hC.1 hC.2.1 d hv (k H locs ls h1 h2 h3)
theorem z_bipush (hC : zOk bt own nL ret N mc ms C ad) {n : Int} {v : Int32} (d : decode bt pc = .ok (.bipush n, 2)) (hv : (Int8.ofInt n).toInt32 = v) (k : zL C nL ad S cells slots sz I X Y (pc + 2) lo ((.inl v) :: st)) : zL C nL ad S cells slots sz I X Y pc lo (st) :=
  fun H locs ls h1 h2 h3 => lv_bipush hC.1 hC.2.1 d hv (k H locs ls h1 h2 h3)
theorem z_sipush (hC : zOk bt own nL ret N mc ms C ad) {n : Int} {v : Int32} (d : decode bt pc = .ok (.sipush n, 3)) (hv : (Int16.ofInt n).toInt32 = v) (k : zL C nL ad S cells slots sz I X Y (pc + 3) lo ((.inl v) :: st)) : zL C nL ad S cells slots sz I X Y pc lo (st) :=
  fun H locs ls h1 h2 h3 => lv_sipush hC.1 hC.2.1 d hv (k H locs ls h1 h2 h3)
theorem z_lconst (hC : zOk bt own nL ret N mc ms C ad) {n : Fin 2} {v : Int64} (d : decode bt pc = .ok (.lconst n, 1)) (hv : Int64.ofNat (n : Nat) = v) (k : zL C nL ad S cells slots sz I X Y (pc + 1) lo ((.inr (.inl v)) :: st)) : zL C nL ad S cells slots sz I X Y pc lo (st) :=
  fun H locs ls h1 h2 h3 => lv_lconst hC.1 hC.2.1 d hv (k H locs ls h1 h2 h3)
theorem z_ldc (hC : zOk bt own nL ret N mc ms C ad) {i : Nat} {v : Int32} (d : decode bt pc = .ok (.ldc i, 2)) (hw : Cond.constant own i v ∈ zTb) (k : zL C nL ad S cells slots sz I X Y (pc + 2) lo ((.inl v) :: st)) : zL C nL ad S cells slots sz I X Y pc lo (st) :=
  fun H locs ls h1 h2 h3 => lv_ldc hC.1 hC.2.1 hC.2.2.2.1 (hC.2.2.2.2.1 _ hw) d (k H locs ls h1 h2 h3)
theorem z_ldcw (hC : zOk bt own nL ret N mc ms C ad) {i : Nat} {v : Int32} (d : decode bt pc = .ok (.ldc_w i, 3)) (hw : Cond.constant own i v ∈ zTb) (k : zL C nL ad S cells slots sz I X Y (pc + 3) lo ((.inl v) :: st)) : zL C nL ad S cells slots sz I X Y pc lo (st) :=
  fun H locs ls h1 h2 h3 => lv_ldcw hC.1 hC.2.1 hC.2.2.2.1 (hC.2.2.2.2.1 _ hw) d (k H locs ls h1 h2 h3)
theorem z_ldc2 (hC : zOk bt own nL ret N mc ms C ad) {i : Nat} {v : Int64} (d : decode bt pc = .ok (.ldc2_w i, 3)) (hw : Cond.constantLong own i v ∈ zTb) (k : zL C nL ad S cells slots sz I X Y (pc + 3) lo ((.inr (.inl v)) :: st)) : zL C nL ad S cells slots sz I X Y pc lo (st) :=
  fun H locs ls h1 h2 h3 => lv_ldc2 hC.1 hC.2.1 hC.2.2.2.1 (hC.2.2.2.2.1 _ hw) d (k H locs ls h1 h2 h3)
theorem z_null (hC : zOk bt own nL ret N mc ms C ad)  (d : decode bt pc = .ok (.aconst_null, 1)) (k : zL C nL ad S cells slots sz I X Y (pc + 1) lo ((.inr (.inr none)) :: st)) : zL C nL ad S cells slots sz I X Y pc lo (st) :=
  fun H locs ls h1 h2 h3 => lv_null hC.1 hC.2.1 d (k H locs ls h1 h2 h3)
theorem z_iadd (hC : zOk bt own nL ret N mc ms C ad) {x y : Int32} (d : decode bt pc = .ok (.iadd, 1)) (k : zL C nL ad S cells slots sz I X Y (pc + 1) lo ((.inl (x + y)) :: st)) : zL C nL ad S cells slots sz I X Y pc lo ((.inl y) :: (.inl x) :: st) :=
  fun H locs ls h1 h2 h3 => lv_iadd hC.1 hC.2.1 d (k H locs ls h1 h2 h3)
theorem z_isub (hC : zOk bt own nL ret N mc ms C ad) {x y : Int32} (d : decode bt pc = .ok (.isub, 1)) (k : zL C nL ad S cells slots sz I X Y (pc + 1) lo ((.inl (x - y)) :: st)) : zL C nL ad S cells slots sz I X Y pc lo ((.inl y) :: (.inl x) :: st) :=
  fun H locs ls h1 h2 h3 => lv_isub hC.1 hC.2.1 d (k H locs ls h1 h2 h3)
theorem z_imul (hC : zOk bt own nL ret N mc ms C ad) {x y : Int32} (d : decode bt pc = .ok (.imul, 1)) (k : zL C nL ad S cells slots sz I X Y (pc + 1) lo ((.inl (x * y)) :: st)) : zL C nL ad S cells slots sz I X Y pc lo ((.inl y) :: (.inl x) :: st) :=
  fun H locs ls h1 h2 h3 => lv_imul hC.1 hC.2.1 d (k H locs ls h1 h2 h3)
theorem z_iand (hC : zOk bt own nL ret N mc ms C ad) {x y : Int32} (d : decode bt pc = .ok (.iand, 1)) (k : zL C nL ad S cells slots sz I X Y (pc + 1) lo ((.inl (x &&& y)) :: st)) : zL C nL ad S cells slots sz I X Y pc lo ((.inl y) :: (.inl x) :: st) :=
  fun H locs ls h1 h2 h3 => lv_iand hC.1 hC.2.1 d (k H locs ls h1 h2 h3)
theorem z_ior (hC : zOk bt own nL ret N mc ms C ad) {x y : Int32} (d : decode bt pc = .ok (.ior, 1)) (k : zL C nL ad S cells slots sz I X Y (pc + 1) lo ((.inl (x ||| y)) :: st)) : zL C nL ad S cells slots sz I X Y pc lo ((.inl y) :: (.inl x) :: st) :=
  fun H locs ls h1 h2 h3 => lv_ior hC.1 hC.2.1 d (k H locs ls h1 h2 h3)
theorem z_ishl (hC : zOk bt own nL ret N mc ms C ad) {x y : Int32} (d : decode bt pc = .ok (.ishl, 1)) (k : zL C nL ad S cells slots sz I X Y (pc + 1) lo ((.inl (x <<< (y &&& 31))) :: st)) : zL C nL ad S cells slots sz I X Y pc lo ((.inl y) :: (.inl x) :: st) :=
  fun H locs ls h1 h2 h3 => lv_ishl hC.1 hC.2.1 d (k H locs ls h1 h2 h3)
theorem z_ishr (hC : zOk bt own nL ret N mc ms C ad) {x y : Int32} (d : decode bt pc = .ok (.ishr, 1)) (k : zL C nL ad S cells slots sz I X Y (pc + 1) lo ((.inl (x >>> (y &&& 31))) :: st)) : zL C nL ad S cells slots sz I X Y pc lo ((.inl y) :: (.inl x) :: st) :=
  fun H locs ls h1 h2 h3 => lv_ishr hC.1 hC.2.1 d (k H locs ls h1 h2 h3)
theorem z_iushr (hC : zOk bt own nL ret N mc ms C ad) {x y : Int32} (d : decode bt pc = .ok (.iushr, 1)) (k : zL C nL ad S cells slots sz I X Y (pc + 1) lo ((.inl ((x.toUInt32 >>> (y.toUInt32 &&& Int32.toUInt32 31)).toInt32)) :: st)) : zL C nL ad S cells slots sz I X Y pc lo ((.inl y) :: (.inl x) :: st) :=
  fun H locs ls h1 h2 h3 => lv_iushr hC.1 hC.2.1 d rfl (k H locs ls h1 h2 h3)
theorem z_idiv (hC : zOk bt own nL ret N mc ms C ad) {x y : Int32} (d : decode bt pc = .ok (.idiv, 1)) (hne : ¬ y = 0) (k : zL C nL ad S cells slots sz I X Y (pc + 1) lo ((.inl (x / y)) :: st)) : zL C nL ad S cells slots sz I X Y pc lo ((.inl y) :: (.inl x) :: st) :=
  fun H locs ls h1 h2 h3 => lv_idiv hC.1 hC.2.1 d hne (k H locs ls h1 h2 h3)
theorem z_irem (hC : zOk bt own nL ret N mc ms C ad) {x y : Int32} (d : decode bt pc = .ok (.irem, 1)) (hne : ¬ y = 0) (k : zL C nL ad S cells slots sz I X Y (pc + 1) lo ((.inl (x - x / y * y)) :: st)) : zL C nL ad S cells slots sz I X Y pc lo ((.inl y) :: (.inl x) :: st) :=
  fun H locs ls h1 h2 h3 => lv_irem hC.1 hC.2.1 d hne (k H locs ls h1 h2 h3)
theorem z_ladd (hC : zOk bt own nL ret N mc ms C ad) {x y : Int64} (d : decode bt pc = .ok (.ladd, 1)) (k : zL C nL ad S cells slots sz I X Y (pc + 1) lo ((.inr (.inl (x + y))) :: st)) : zL C nL ad S cells slots sz I X Y pc lo ((.inr (.inl y)) :: (.inr (.inl x)) :: st) :=
  fun H locs ls h1 h2 h3 => lv_ladd hC.1 hC.2.1 d (k H locs ls h1 h2 h3)
theorem z_lsub (hC : zOk bt own nL ret N mc ms C ad) {x y : Int64} (d : decode bt pc = .ok (.lsub, 1)) (k : zL C nL ad S cells slots sz I X Y (pc + 1) lo ((.inr (.inl (x - y))) :: st)) : zL C nL ad S cells slots sz I X Y pc lo ((.inr (.inl y)) :: (.inr (.inl x)) :: st) :=
  fun H locs ls h1 h2 h3 => lv_lsub hC.1 hC.2.1 d (k H locs ls h1 h2 h3)
theorem z_lmul (hC : zOk bt own nL ret N mc ms C ad) {x y : Int64} (d : decode bt pc = .ok (.lmul, 1)) (k : zL C nL ad S cells slots sz I X Y (pc + 1) lo ((.inr (.inl (x * y))) :: st)) : zL C nL ad S cells slots sz I X Y pc lo ((.inr (.inl y)) :: (.inr (.inl x)) :: st) :=
  fun H locs ls h1 h2 h3 => lv_lmul hC.1 hC.2.1 d (k H locs ls h1 h2 h3)
theorem z_land (hC : zOk bt own nL ret N mc ms C ad) {x y : Int64} (d : decode bt pc = .ok (.land, 1)) (k : zL C nL ad S cells slots sz I X Y (pc + 1) lo ((.inr (.inl (x &&& y))) :: st)) : zL C nL ad S cells slots sz I X Y pc lo ((.inr (.inl y)) :: (.inr (.inl x)) :: st) :=
  fun H locs ls h1 h2 h3 => lv_land hC.1 hC.2.1 d (k H locs ls h1 h2 h3)
theorem z_lor (hC : zOk bt own nL ret N mc ms C ad) {x y : Int64} (d : decode bt pc = .ok (.lor, 1)) (k : zL C nL ad S cells slots sz I X Y (pc + 1) lo ((.inr (.inl (x ||| y))) :: st)) : zL C nL ad S cells slots sz I X Y pc lo ((.inr (.inl y)) :: (.inr (.inl x)) :: st) :=
  fun H locs ls h1 h2 h3 => lv_lor hC.1 hC.2.1 d (k H locs ls h1 h2 h3)
theorem z_ldiv (hC : zOk bt own nL ret N mc ms C ad) {x y : Int64} (d : decode bt pc = .ok (.ldiv, 1)) (hne : ¬ y = 0) (k : zL C nL ad S cells slots sz I X Y (pc + 1) lo ((.inr (.inl (x / y))) :: st)) : zL C nL ad S cells slots sz I X Y pc lo ((.inr (.inl y)) :: (.inr (.inl x)) :: st) :=
  fun H locs ls h1 h2 h3 => lv_ldiv hC.1 hC.2.1 d hne (k H locs ls h1 h2 h3)
theorem z_lrem (hC : zOk bt own nL ret N mc ms C ad) {x y : Int64} (d : decode bt pc = .ok (.lrem, 1)) (hne : ¬ y = 0) (k : zL C nL ad S cells slots sz I X Y (pc + 1) lo ((.inr (.inl (x - x / y * y))) :: st)) : zL C nL ad S cells slots sz I X Y pc lo ((.inr (.inl y)) :: (.inr (.inl x)) :: st) :=
  fun H locs ls h1 h2 h3 => lv_lrem hC.1 hC.2.1 d hne (k H locs ls h1 h2 h3)
theorem z_lshl (hC : zOk bt own nL ret N mc ms C ad) {x : Int64} {y : Int32} (d : decode bt pc = .ok (.lshl, 1)) (k : zL C nL ad S cells slots sz I X Y (pc + 1) lo ((.inr (.inl (x <<< (y.toInt64 &&& 63)))) :: st)) : zL C nL ad S cells slots sz I X Y pc lo ((.inl y) :: (.inr (.inl x)) :: st) :=
  fun H locs ls h1 h2 h3 => lv_lshl hC.1 hC.2.1 d rfl (k H locs ls h1 h2 h3)
theorem z_ineg (hC : zOk bt own nL ret N mc ms C ad) {x : Int32} (d : decode bt pc = .ok (.ineg, 1)) (k : zL C nL ad S cells slots sz I X Y (pc + 1) lo ((.inl (-x)) :: st)) : zL C nL ad S cells slots sz I X Y pc lo ((.inl x) :: st) :=
  fun H locs ls h1 h2 h3 => lv_ineg hC.1 hC.2.1 d (k H locs ls h1 h2 h3)
theorem z_i2l (hC : zOk bt own nL ret N mc ms C ad) {x : Int32} (d : decode bt pc = .ok (.i2l, 1)) (k : zL C nL ad S cells slots sz I X Y (pc + 1) lo ((.inr (.inl x.toInt64)) :: st)) : zL C nL ad S cells slots sz I X Y pc lo ((.inl x) :: st) :=
  fun H locs ls h1 h2 h3 => lv_i2l hC.1 hC.2.1 d rfl (k H locs ls h1 h2 h3)
theorem z_l2i (hC : zOk bt own nL ret N mc ms C ad) {x : Int64} (d : decode bt pc = .ok (.l2i, 1)) (k : zL C nL ad S cells slots sz I X Y (pc + 1) lo ((.inl x.toInt32) :: st)) : zL C nL ad S cells slots sz I X Y pc lo ((.inr (.inl x)) :: st) :=
  fun H locs ls h1 h2 h3 => lv_l2i hC.1 hC.2.1 d rfl (k H locs ls h1 h2 h3)
theorem z_i2b (hC : zOk bt own nL ret N mc ms C ad) {x : Int32} (d : decode bt pc = .ok (.i2b, 1)) (k : zL C nL ad S cells slots sz I X Y (pc + 1) lo ((.inl x.toInt8.toInt32) :: st)) : zL C nL ad S cells slots sz I X Y pc lo ((.inl x) :: st) :=
  fun H locs ls h1 h2 h3 => lv_i2b hC.1 hC.2.1 d rfl (k H locs ls h1 h2 h3)
theorem z_i2s (hC : zOk bt own nL ret N mc ms C ad) {x : Int32} (d : decode bt pc = .ok (.i2s, 1)) (k : zL C nL ad S cells slots sz I X Y (pc + 1) lo ((.inl x.toInt16.toInt32) :: st)) : zL C nL ad S cells slots sz I X Y pc lo ((.inl x) :: st) :=
  fun H locs ls h1 h2 h3 => lv_i2s hC.1 hC.2.1 d rfl (k H locs ls h1 h2 h3)
theorem z_lcmp (hC : zOk bt own nL ret N mc ms C ad) {x y : Int64} (d : decode bt pc = .ok (.lcmp, 1)) (k : zL C nL ad S cells slots sz I X Y (pc + 1) lo ((.inl (lg_cmp x y)) :: st)) : zL C nL ad S cells slots sz I X Y pc lo ((.inr (.inl y)) :: (.inr (.inl x)) :: st) :=
  fun H locs ls h1 h2 h3 => W.lcmp hC.1 hC.2.1 d (k H locs ls h1 h2 h3)
theorem z_dup (hC : zOk bt own nL ret N mc ms C ad) {v : zV} (d : decode bt pc = .ok (.dup, 1)) (hc : zcat (some (some v)) = 1) (k : zL C nL ad S cells slots sz I X Y (pc + 1) lo (v :: v :: st)) : zL C nL ad S cells slots sz I X Y pc lo (v :: st) :=
  fun H locs ls h1 h2 h3 => lv_dup hC.1 hC.2.1 d (by rw [rv_cat]; exact hc) (k H locs ls h1 h2 h3)
theorem z_dup_x1 (hC : zOk bt own nL ret N mc ms C ad) {v w : zV} (d : decode bt pc = .ok (.dup_x1, 1)) (hc : zcat (some (some v)) = 1) (hc2 : zcat (some (some w)) = 1) (k : zL C nL ad S cells slots sz I X Y (pc + 1) lo (v :: w :: v :: st)) : zL C nL ad S cells slots sz I X Y pc lo (v :: w :: st) :=
  fun H locs ls h1 h2 h3 => lv_dup_x1 hC.1 hC.2.1 d (by rw [rv_cat]; exact hc) (by rw [rv_cat]; exact hc2) (k H locs ls h1 h2 h3)
theorem z_dup2 (hC : zOk bt own nL ret N mc ms C ad) {v w : zV} (d : decode bt pc = .ok (.dup2, 1)) (hc : zcat (some (some v)) = 1) (hc2 : zcat (some (some w)) = 1) (k : zL C nL ad S cells slots sz I X Y (pc + 1) lo (v :: w :: v :: w :: st)) : zL C nL ad S cells slots sz I X Y pc lo (v :: w :: st) :=
  fun H locs ls h1 h2 h3 => lv_dup2_11 hC.1 hC.2.1 d (by rw [rv_cat]; exact hc) (by rw [rv_cat]; exact hc2) (k H locs ls h1 h2 h3)
theorem z_pop (hC : zOk bt own nL ret N mc ms C ad) {v : zV} (d : decode bt pc = .ok (.pop, 1)) (hc : zcat (some (some v)) = 1) (k : zL C nL ad S cells slots sz I X Y (pc + 1) lo (st)) : zL C nL ad S cells slots sz I X Y pc lo (v :: st) :=
  fun H locs ls h1 h2 h3 => lv_pop hC.1 hC.2.1 d (by rw [rv_cat]; exact hc) (k H locs ls h1 h2 h3)
theorem z_icmp_eq (hC : zOk bt own nL ret N mc ms C ad) {x y : Int32} {off : Int} {tgt : Nat} (d : decode bt pc = .ok (.if_icmp .eq off, 3)) (ht : (pc : Int) + off = (tgt : Int)) (kt : x = y → zL C nL ad S cells slots sz I X Y tgt lo st) (kf : ¬ x = y → zL C nL ad S cells slots sz I X Y (pc + 3) lo st) : zL C nL ad S cells slots sz I X Y pc lo ((.inl y) :: (.inl x) :: st) :=
  fun H locs ls h1 h2 h3 => lv_icmp_eq hC.1 hC.2.1 d ht (fun q => kt q H locs ls h1 h2 h3) (fun q => kf q H locs ls h1 h2 h3)
theorem z_if_eq (hC : zOk bt own nL ret N mc ms C ad) {x : Int32} {off : Int} {tgt : Nat} (d : decode bt pc = .ok (.ifCond .eq off, 3)) (ht : (pc : Int) + off = (tgt : Int)) (kt : x = 0 → zL C nL ad S cells slots sz I X Y tgt lo st) (kf : ¬ x = 0 → zL C nL ad S cells slots sz I X Y (pc + 3) lo st) : zL C nL ad S cells slots sz I X Y pc lo ((.inl x) :: st) :=
  fun H locs ls h1 h2 h3 => lv_if_eq hC.1 hC.2.1 d ht (fun q => kt q H locs ls h1 h2 h3) (fun q => kf q H locs ls h1 h2 h3)
theorem z_icmp_ne (hC : zOk bt own nL ret N mc ms C ad) {x y : Int32} {off : Int} {tgt : Nat} (d : decode bt pc = .ok (.if_icmp .ne off, 3)) (ht : (pc : Int) + off = (tgt : Int)) (kt : ¬ x = y → zL C nL ad S cells slots sz I X Y tgt lo st) (kf : x = y → zL C nL ad S cells slots sz I X Y (pc + 3) lo st) : zL C nL ad S cells slots sz I X Y pc lo ((.inl y) :: (.inl x) :: st) :=
  fun H locs ls h1 h2 h3 => lv_icmp_ne hC.1 hC.2.1 d ht (fun q => kt q H locs ls h1 h2 h3) (fun q => kf q H locs ls h1 h2 h3)
theorem z_if_ne (hC : zOk bt own nL ret N mc ms C ad) {x : Int32} {off : Int} {tgt : Nat} (d : decode bt pc = .ok (.ifCond .ne off, 3)) (ht : (pc : Int) + off = (tgt : Int)) (kt : ¬ x = 0 → zL C nL ad S cells slots sz I X Y tgt lo st) (kf : x = 0 → zL C nL ad S cells slots sz I X Y (pc + 3) lo st) : zL C nL ad S cells slots sz I X Y pc lo ((.inl x) :: st) :=
  fun H locs ls h1 h2 h3 => lv_if_ne hC.1 hC.2.1 d ht (fun q => kt q H locs ls h1 h2 h3) (fun q => kf q H locs ls h1 h2 h3)
theorem z_icmp_lt (hC : zOk bt own nL ret N mc ms C ad) {x y : Int32} {off : Int} {tgt : Nat} (d : decode bt pc = .ok (.if_icmp .lt off, 3)) (ht : (pc : Int) + off = (tgt : Int)) (kt : x < y → zL C nL ad S cells slots sz I X Y tgt lo st) (kf : ¬ x < y → zL C nL ad S cells slots sz I X Y (pc + 3) lo st) : zL C nL ad S cells slots sz I X Y pc lo ((.inl y) :: (.inl x) :: st) :=
  fun H locs ls h1 h2 h3 => lv_icmp_lt hC.1 hC.2.1 d ht (fun q => kt q H locs ls h1 h2 h3) (fun q => kf q H locs ls h1 h2 h3)
theorem z_if_lt (hC : zOk bt own nL ret N mc ms C ad) {x : Int32} {off : Int} {tgt : Nat} (d : decode bt pc = .ok (.ifCond .lt off, 3)) (ht : (pc : Int) + off = (tgt : Int)) (kt : x < 0 → zL C nL ad S cells slots sz I X Y tgt lo st) (kf : ¬ x < 0 → zL C nL ad S cells slots sz I X Y (pc + 3) lo st) : zL C nL ad S cells slots sz I X Y pc lo ((.inl x) :: st) :=
  fun H locs ls h1 h2 h3 => lv_if_lt hC.1 hC.2.1 d ht (fun q => kt q H locs ls h1 h2 h3) (fun q => kf q H locs ls h1 h2 h3)
theorem z_icmp_ge (hC : zOk bt own nL ret N mc ms C ad) {x y : Int32} {off : Int} {tgt : Nat} (d : decode bt pc = .ok (.if_icmp .ge off, 3)) (ht : (pc : Int) + off = (tgt : Int)) (kt : y ≤ x → zL C nL ad S cells slots sz I X Y tgt lo st) (kf : ¬ y ≤ x → zL C nL ad S cells slots sz I X Y (pc + 3) lo st) : zL C nL ad S cells slots sz I X Y pc lo ((.inl y) :: (.inl x) :: st) :=
  fun H locs ls h1 h2 h3 => lv_icmp_ge hC.1 hC.2.1 d ht (fun q => kt q H locs ls h1 h2 h3) (fun q => kf q H locs ls h1 h2 h3)
theorem z_if_ge (hC : zOk bt own nL ret N mc ms C ad) {x : Int32} {off : Int} {tgt : Nat} (d : decode bt pc = .ok (.ifCond .ge off, 3)) (ht : (pc : Int) + off = (tgt : Int)) (kt : 0 ≤ x → zL C nL ad S cells slots sz I X Y tgt lo st) (kf : ¬ 0 ≤ x → zL C nL ad S cells slots sz I X Y (pc + 3) lo st) : zL C nL ad S cells slots sz I X Y pc lo ((.inl x) :: st) :=
  fun H locs ls h1 h2 h3 => lv_if_ge hC.1 hC.2.1 d ht (fun q => kt q H locs ls h1 h2 h3) (fun q => kf q H locs ls h1 h2 h3)
theorem z_icmp_gt (hC : zOk bt own nL ret N mc ms C ad) {x y : Int32} {off : Int} {tgt : Nat} (d : decode bt pc = .ok (.if_icmp .gt off, 3)) (ht : (pc : Int) + off = (tgt : Int)) (kt : y < x → zL C nL ad S cells slots sz I X Y tgt lo st) (kf : ¬ y < x → zL C nL ad S cells slots sz I X Y (pc + 3) lo st) : zL C nL ad S cells slots sz I X Y pc lo ((.inl y) :: (.inl x) :: st) :=
  fun H locs ls h1 h2 h3 => lv_icmp_gt hC.1 hC.2.1 d ht (fun q => kt q H locs ls h1 h2 h3) (fun q => kf q H locs ls h1 h2 h3)
theorem z_if_gt (hC : zOk bt own nL ret N mc ms C ad) {x : Int32} {off : Int} {tgt : Nat} (d : decode bt pc = .ok (.ifCond .gt off, 3)) (ht : (pc : Int) + off = (tgt : Int)) (kt : 0 < x → zL C nL ad S cells slots sz I X Y tgt lo st) (kf : ¬ 0 < x → zL C nL ad S cells slots sz I X Y (pc + 3) lo st) : zL C nL ad S cells slots sz I X Y pc lo ((.inl x) :: st) :=
  fun H locs ls h1 h2 h3 => lv_if_gt hC.1 hC.2.1 d ht (fun q => kt q H locs ls h1 h2 h3) (fun q => kf q H locs ls h1 h2 h3)
theorem z_icmp_le (hC : zOk bt own nL ret N mc ms C ad) {x y : Int32} {off : Int} {tgt : Nat} (d : decode bt pc = .ok (.if_icmp .le off, 3)) (ht : (pc : Int) + off = (tgt : Int)) (kt : x ≤ y → zL C nL ad S cells slots sz I X Y tgt lo st) (kf : ¬ x ≤ y → zL C nL ad S cells slots sz I X Y (pc + 3) lo st) : zL C nL ad S cells slots sz I X Y pc lo ((.inl y) :: (.inl x) :: st) :=
  fun H locs ls h1 h2 h3 => lv_icmp_le hC.1 hC.2.1 d ht (fun q => kt q H locs ls h1 h2 h3) (fun q => kf q H locs ls h1 h2 h3)
theorem z_if_le (hC : zOk bt own nL ret N mc ms C ad) {x : Int32} {off : Int} {tgt : Nat} (d : decode bt pc = .ok (.ifCond .le off, 3)) (ht : (pc : Int) + off = (tgt : Int)) (kt : x ≤ 0 → zL C nL ad S cells slots sz I X Y tgt lo st) (kf : ¬ x ≤ 0 → zL C nL ad S cells slots sz I X Y (pc + 3) lo st) : zL C nL ad S cells slots sz I X Y pc lo ((.inl x) :: st) :=
  fun H locs ls h1 h2 h3 => lv_if_le hC.1 hC.2.1 d ht (fun q => kt q H locs ls h1 h2 h3) (fun q => kf q H locs ls h1 h2 h3)
theorem z_goto (hC : zOk bt own nL ret N mc ms C ad) {off : Int} {tgt : Nat} (d : decode bt pc = .ok (.goto off, 3)) (ht : (pc : Int) + off = (tgt : Int)) (k : zL C nL ad S cells slots sz I X Y tgt lo st) : zL C nL ad S cells slots sz I X Y pc lo st :=
  fun H locs ls h1 h2 h3 => lv_goto hC.1 hC.2.1 d ht (k H locs ls h1 h2 h3)
theorem z_ifnonnull (hC : zOk bt own nL ret N mc ms C ad) {b j : Nat} {off : Int} {tgt : Nat} (d : decode bt pc = .ok (.ifnonnull off, 3)) (ht : (pc : Int) + off = (tgt : Int)) (k : zL C nL ad S cells slots sz I X Y tgt lo st) : zL C nL ad S cells slots sz I X Y pc lo ((.inr (.inr (some (b, j)))) :: st) :=
  fun H locs ls h1 h2 h3 => lv_ifnonnull hC.1 hC.2.1 d ht (k H locs ls h1 h2 h3)
theorem z_ifnonnullN (hC : zOk bt own nL ret N mc ms C ad) {off : Int} (d : decode bt pc = .ok (.ifnonnull off, 3)) (k : zL C nL ad S cells slots sz I X Y (pc + 3) lo st) : zL C nL ad S cells slots sz I X Y pc lo ((.inr (.inr none)) :: st) :=
  fun H locs ls h1 h2 h3 => lv_ifnonnullN hC.1 hC.2.1 d (k H locs ls h1 h2 h3)
theorem z_ifnull (hC : zOk bt own nL ret N mc ms C ad) {b j : Nat} {off : Int} (d : decode bt pc = .ok (.ifnull off, 3)) (k : zL C nL ad S cells slots sz I X Y (pc + 3) lo st) : zL C nL ad S cells slots sz I X Y pc lo ((.inr (.inr (some (b, j)))) :: st) :=
  fun H locs ls h1 h2 h3 => lv_ifnull hC.1 hC.2.1 d (k H locs ls h1 h2 h3)
theorem z_ifnullN (hC : zOk bt own nL ret N mc ms C ad) {off : Int} {tgt : Nat} (d : decode bt pc = .ok (.ifnull off, 3)) (ht : (pc : Int) + off = (tgt : Int)) (k : zL C nL ad S cells slots sz I X Y tgt lo st) : zL C nL ad S cells slots sz I X Y pc lo ((.inr (.inr none)) :: st) :=
  fun H locs ls h1 h2 h3 => lv_ifnullN hC.1 hC.2.1 d ht (k H locs ls h1 h2 h3)
theorem z_tableOut (hC : zOk bt own nL ret N mc ms C ad) {dflt lo' hi : Int} {offs : Array Int} {len : Nat} {x : Int32} {tgt : Nat} (d : decode bt pc = .ok (.tableswitch dflt lo' hi offs, len)) (h : x.toInt < lo' ∨ hi < x.toInt) (ht : (pc : Int) + dflt = (tgt : Int)) (k : zL C nL ad S cells slots sz I X Y tgt lo st) : zL C nL ad S cells slots sz I X Y pc lo (.inl x :: st) :=
  fun H locs ls h1 h2 h3 => lv_tableOut hC.1 hC.2.1 d h ht (k H locs ls h1 h2 h3)
theorem z_tableIn (hC : zOk bt own nL ret N mc ms C ad) {dflt lo' hi : Int} {offs : Array Int} {len : Nat} {x : Int32} {off : Int} {tgt : Nat} (d : decode bt pc = .ok (.tableswitch dflt lo' hi offs, len)) (g1 : ¬ x.toInt < lo') (g2 : ¬ hi < x.toInt) (ho : offs[(x.toInt - lo').toNat]? = some off) (ht : (pc : Int) + off = (tgt : Int)) (k : zL C nL ad S cells slots sz I X Y tgt lo st) : zL C nL ad S cells slots sz I X Y pc lo (.inl x :: st) :=
  fun H locs ls h1 h2 h3 => lv_tableIn hC.1 hC.2.1 d g1 g2 ho ht (k H locs ls h1 h2 h3)
theorem z_lookup (hC : zOk bt own nL ret N mc ms C ad) {dflt : Int} {ps : Array (Int × Int)} {len : Nat} {x : Int32} {off : Int} {tgt : Nat} (d : decode bt pc = .ok (.lookupswitch dflt ps, len)) (hp : (ps.toList.zip (ps.toList.drop 1)).all (fun (a, next) => a.1 < next.1) = true) (ho : Op.lookupswitch.offset ps.toList dflt x.toInt = off) (ht : (pc : Int) + off = (tgt : Int)) (k : zL C nL ad S cells slots sz I X Y tgt lo st) : zL C nL ad S cells slots sz I X Y pc lo (.inl x :: st) :=
  fun H locs ls h1 h2 h3 => lv_lookup hC.1 hC.2.1 d hp ho ht (k H locs ls h1 h2 h3)
theorem z_weak {lo2 : List (Option zV)} (hw : ∀ (i : Nat) (v : zV), lo2[i]? = some (some v) → lo[i]? = some (some v)) (k : zL C nL ad S cells slots sz I X Y pc lo2 st) : zL C nL ad S cells slots sz I X Y pc lo st :=
  fun H locs ls h1 h2 h3 => k H locs ls h1 h2 (zlv_weak h3 hw)
end ZR
