/-! MY OWN LAYER: the program's memory as three functions over a fixed shape; a run of a method from a place in it. -/
/-- the words that every method is given: those of the tables that hold in every later state -/
def zTb : List Cond := lw_tbl.filter goodWord
/-- a value: an int, a long, null or a place (block, cell) -/
abbrev zV : Type := Int32 ⊕ Int64 ⊕ Option (Nat × Nat)
/-- a field of a shape: a fixed value; an int of the memory; null or a place, by an int of the memory -/
abbrev zF : Type := zV ⊕ Option (Nat × Nat)
/-- a shape: an array of ints (0) or longs (1), its length; an object, its class, its fields; an array of places, its kind -/
abbrev zS : Type := (Nat × Nat) ⊕ (Nat × List zF) ⊕ (Nat × List (Option (Nat × Nat)))
abbrev zG : Type := va_G × (Nat → ClassId)
def rv (ad : Nat → Nat → Nat) : zV → Value
  | .inl x => .int x
  | .inr (.inl x) => .long x
  | .inr (.inr none) => .null
  | .inr (.inr (some (b, k))) => .ref (ad b k)
def zty : Nat → FieldType
  | 0 => .int
  | 1 => .long
  | 2 => .object "OnTheRoof$Shelf"
  | 3 => .array .int
  | _ => .array .long
abbrev ztys (g : zG) : List (ClassId × FieldType) := [(g.2 0, .int), (g.2 1, .long), (g.2 2, .object "OnTheRoof$Shelf"), (g.2 3, .array .int), (g.2 4, .array .long)]
def zK (g : zG) (U : State) : Prop := va_K g.1 vwCl (ztys g) U
/-- what a field holds -/
def zfv (I : Nat → Nat → Nat → Int32) (b k j : Nat) : zF → zV
  | .inl v => v
  | .inr none => .inl (I b k j)
  | .inr (some q) => if I b k j = 0 then .inr (.inr none) else .inr (.inr (some q))
def zpl (ad : Nat → Nat → Nat) : Option (Option (Nat × Nat)) → Option Nat
  | some (some (b, k)) => some (ad b k)
  | _ => none
/-- a cell of the heap, by its shape and the memory -/
def zcell (g : zG) (ad : Nat → Nat → Nat) (I X : Nat → Nat → Nat → Int32) (Y : Nat → Nat → Nat → Int64) (b k : Nat) : zS → va_E
  | .inl (0, n) => .inl (g.2 0, (n, .inl (X b k)))
  | .inl (_ + 1, n) => .inl (g.2 1, (n, .inr (.inl (Y b k))))
  | .inr (.inl (ci, fl)) => .inr (ci, fl.mapIdx (fun j f => rv ad (zfv I b k j f)))
  | .inr (.inr (t, el)) => .inl (g.2 (t + 2), (el.length, .inr (.inr (.inr (.inr (fun j => zpl ad el[j]?))))))
/-- the heap holds the shapes -/
def zW (g : zG) (A : Nat → Prop) (ad : Nat → Nat → Nat) (S : Nat → Nat → Option zS) (I X : Nat → Nat → Nat → Int32) (Y : Nat → Nat → Nat → Int64) (H : Heap) : Prop :=
  (∀ b k sh, S b k = some sh → va_at g.1 vwCl (ad b k, zcell g ad I X Y b k sh) H ∧ A (ad b k)) ∧
  ∀ b k b' k', S b k ≠ none → S b' k' ≠ none → ad b k = ad b' k' → b = b' ∧ k = k'
/-- locals -/
def zlv (ad : Nat → Nat → Nat) (ls : Array Slot) (nL : Nat) (lo : List (Option zV)) : Prop :=
  ls.size = nL ∧ lv_wf ls ∧ ∀ (i : Nat) (v : zV), lo[i]? = some (some v) → ls[i]? = some (.val (rv ad v))
def zcat : Option (Option zV) → Nat
  | some (some (.inr (.inl _))) => 2
  | _ => 1
/-- the local ahead of it is no long -/
def zok (lo : List (Option zV)) : Nat → Bool
  | 0 => true
  | i + 1 => zcat lo[i]? == 1
def zal (ad : Nat → Nat → Nat) (lo : List (Option zV)) : List (Nat × Value) := lo.zipIdx.filterMap (fun q => q.1.map (fun v => (q.2, rv ad v)))
theorem zal_mem {ad : Nat → Nat → Nat} {lo : List (Option zV)} {q : Nat × Value} : q ∈ zal ad lo ↔ ∃ v, lo[q.1]? = some (some v) ∧ q.2 = rv ad v := by
  unfold zal
  rw [List.mem_filterMap]
  constructor
  · rintro ⟨⟨w, i⟩, h1, h2⟩
    have h3 := List.mem_zipIdx_iff_getElem?.mp h1
    cases w with
    | none => simp at h2
    | some v => simp at h2; subst h2; exact ⟨v, h3, rfl⟩
  · rintro ⟨v, h1, h2⟩
    refine ⟨(some v, q.1), List.mem_zipIdx_iff_getElem?.mpr h1, ?_⟩
    simp [← h2]
theorem zlv_has {ad : Nat → Nat → Nat} {ls : Array Slot} {nL : Nat} {lo : List (Option zV)} (h : zlv ad ls nL lo) : lv_has ls nL (zal ad lo) := by
  refine ⟨h.1, h.2.1, fun q hq => ?_⟩
  obtain ⟨v, h1, h2⟩ := zal_mem.mp hq
  rw [h2]
  exact h.2.2 q.1 v h1
theorem rv_cat (ad : Nat → Nat → Nat) (v : zV) : (rv ad v).category = zcat (some (some v)) := by
  rcases v with x | x | _ | ⟨b, k⟩ <;> rfl
theorem zlv_st1 {ad : Nat → Nat → Nat} {ls' : Array Slot} {nL i : Nat} {lo : List (Option zV)} {v : zV} (hk : zok lo i = true)
    (h' : lv_has ls' nL ((i, rv ad v) :: (zal ad lo).filter (fun q => !(q.1 == i) && !(q.1 + 1 == i && q.2.category == 2)))) : zlv ad ls' nL (lo.set i (some v)) := by
  refine ⟨h'.1, h'.2.1, fun j w hj => ?_⟩
  by_cases hji : i = j
  · subst hji
    rw [List.getElem?_set_self'] at hj
    have hw : w = v := by
      cases hlo : lo[i]? with
      | none => rw [hlo] at hj; simp at hj
      | some z => rw [hlo] at hj; simp at hj; exact hj.symm
    subst hw
    exact h'.2.2 (i, rv ad w) List.mem_cons_self
  · rw [List.getElem?_set_ne hji] at hj
    refine h'.2.2 (j, rv ad w) (List.mem_cons_of_mem _ (List.mem_filter.mpr ⟨zal_mem.mpr ⟨w, hj, rfl⟩, ?_⟩))
    have h1 : (j == i) = false := by simp; exact fun e => hji e.symm
    have h2 : (j + 1 == i && (rv ad w).category == 2) = false := by
      by_cases e : j + 1 = i
      · subst e
        have h3 : (zcat lo[j]? == 1) = true := hk
        rw [hj] at h3
        have h4 : zcat (some (some w)) = 1 := by simpa using h3
        rw [rv_cat, h4]
        simp
      · have : (j + 1 == i) = false := by simp; exact e
        rw [this]; rfl
    show (!(j == i) && !(j + 1 == i && (rv ad w).category == 2)) = true
    rw [h1, h2]; rfl
theorem zlv_st2 {ad : Nat → Nat → Nat} {ls' : Array Slot} {nL i : Nat} {lo : List (Option zV)} {v : zV} (hk : zok lo i = true)
    (h' : lv_has ls' nL ((i, rv ad v) :: (zal ad lo).filter (fun q => !(q.1 == i) && (!(q.1 == i + 1) && !(q.1 + 1 == i && q.2.category == 2))))) : zlv ad ls' nL ((lo.set i (some v)).set (i + 1) none) := by
  refine ⟨h'.1, h'.2.1, fun j w hj => ?_⟩
  by_cases hj1 : i + 1 = j
  · subst hj1
    rw [List.getElem?_set_self'] at hj
    cases hlo : (lo.set i (some v))[i + 1]? with
    | none => rw [hlo] at hj; simp at hj
    | some z => rw [hlo] at hj; simp at hj
  rw [List.getElem?_set_ne hj1] at hj
  by_cases hji : i = j
  · subst hji
    rw [List.getElem?_set_self'] at hj
    have hw : w = v := by
      cases hlo : lo[i]? with
      | none => rw [hlo] at hj; simp at hj
      | some z => rw [hlo] at hj; simp at hj; exact hj.symm
    subst hw
    exact h'.2.2 (i, rv ad w) List.mem_cons_self
  · rw [List.getElem?_set_ne hji] at hj
    refine h'.2.2 (j, rv ad w) (List.mem_cons_of_mem _ (List.mem_filter.mpr ⟨zal_mem.mpr ⟨w, hj, rfl⟩, ?_⟩))
    have h1 : (j == i) = false := by simp; exact fun e => hji e.symm
    have h0 : (j == i + 1) = false := by simp; exact fun e => hj1 e.symm
    have h2 : (j + 1 == i && (rv ad w).category == 2) = false := by
      by_cases e : j + 1 = i
      · subst e
        have h3 : (zcat lo[j]? == 1) = true := hk
        rw [hj] at h3
        have h4 : zcat (some (some w)) = 1 := by simpa using h3
        rw [rv_cat, h4]
        simp
      · have : (j + 1 == i) = false := by simp; exact e
        rw [this]; rfl
    show (!(j == i) && (!(j == i + 1) && !(j + 1 == i && (rv ad w).category == 2))) = true
    rw [h1, h0, h2]; rfl
theorem zlv_weak {ad : Nat → Nat → Nat} {ls : Array Slot} {nL : Nat} {lo lo' : List (Option zV)} (h : zlv ad ls nL lo) (hw : ∀ (i : Nat) (v : zV), lo'[i]? = some (some v) → lo[i]? = some (some v)) : zlv ad ls nL lo' := ⟨h.1, h.2.1, fun i v hi => h.2.2 i v (hw i v hi)⟩
/-- old things: strings, statics -/
def zSw : List (List Int32) := [[98, 101, 110, 100], [112, 97, 99, 101], [119, 101, 116], [103, 114, 105, 112], [115, 101, 101, 110], [103, 111, 110, 101], [99, 97, 108, 108], [108, 111, 111, 107]]
def zSl : List Nat := [4, 4, 3, 4, 4, 4, 4, 4]
def zAn : Nat → String
  | 0 => "NUMBERS"
  | 1 => "LEAST"
  | _ => "MOST"
def zAl : Nat → List Int32
  | 0 => [4, 1, 1, 1, 2, 2, 3, 2]
  | 1 => [0, 0, 1, 0, 1, 0, 0, 0, 0, 0, 0, 0, 0, 0, 0, 0, 0, 0, 0, 0, 0, 0, 0, 0, 0, 1, 0, 0, 0, 0, 0, 0]
  | _ => [5, 9, 999, 1000, 9, 0, 0, 0, 1, 0, 0, 0, 10, 0, 0, 0, -1, 100, 0, 0, -1, 100, 0, 0, -1, 99, 100, 0, -1, 2, 0, 0]

theorem zTb_all : ∀ w ∈ zTb, w ∈ lw_tbl := fun _ h => (List.mem_filter.mp h).1
theorem zTb_good {ws : List Cond} (h : ∀ w ∈ ws, w ∈ zTb) : GoodIn zTb ws := fun w hw => ⟨h w hw, good_of_word (List.mem_filter.mp (h w hw)).2⟩
/-- a word by its place in the tables -/
theorem zin {i : Nat} {w : Cond} (h : tables_1[i]? = some w) (hg : goodWord w = true) : w ∈ zTb :=
  List.mem_filter.mpr ⟨List.mem_append_right _ (List.mem_of_getElem? h), hg⟩
theorem zinP {i : Nat} {q : MethodName × Nat} (h : lw_privs[i]? = some q) (hg : goodWord (Cond.selects q.1.cls q.1 q.1) = true) : Cond.selects q.1.cls q.1 q.1 ∈ zTb :=
  List.mem_filter.mpr ⟨List.mem_append_left _ (List.mem_map.mpr ⟨q, List.mem_of_getElem? h, rfl⟩), hg⟩
