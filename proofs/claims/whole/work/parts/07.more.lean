section ZM
variable {C : zC} {nL : Nat} {ad : zA} {S S' : zSh} {cells slots sz sz' : Nat} {I X I' X' : zI} {Y Y' : zY} {pc : Nat} {lo : List (Option zV)} {st : List zV}
variable {bt : ByteArray} {own : String} {ret : Option FieldType} {N mc ms : Nat}
/-! statics, strings -/
theorem zOld_of (hC : zOk bt own nL ret N mc ms C ad) : zOld ad (cA C) (cs C) (cs C).heap := hC.2.2.2.2.2.2.2.2.2.1
theorem z_gets (hC : zOk bt own nL ret N mc ms C ad) {q : zV} {cn n ds : String} {idx : Nat} (hZ : va_Z cn n ds (rv ad q) (cA C) (cs C) (cs C).heap) (hl : Cond.fieldLink own idx cn n ds ∈ zTb) (d : decode bt pc = .ok (.getstatic idx, 3)) (kk : zL C nL ad S cells slots sz I X Y (pc + 3) lo (q :: st)) : zL C nL ad S cells slots sz I X Y pc lo st :=
  fun H locs ls h1 h2 h3 => va_gets hC.1 hC.2.1 hZ h2 hC.2.2.2.1 (hC.2.2.2.2.1 _ hl) (fun _ h => h) d (kk H locs ls h1 h2 h3)
/-- NUMBERS (0), LEAST (1), MOST (2) -/
theorem z_getA (hC : zOk bt own nL ret N mc ms C ad) {j idx : Nat} (hj : j < 3) (hl : Cond.fieldLink own idx "OnTheRoof$Road" (zAn j) "[I" ∈ zTb) (d : decode bt pc = .ok (.getstatic idx, 3)) (kk : zL C nL ad S cells slots sz I X Y (pc + 3) lo (.inr (.inr (some (4, j))) :: st)) : zL C nL ad S cells slots sz I X Y pc lo st :=
  z_gets hC (q := .inr (.inr (some (4, j)))) ((zOld_of hC).2.2.2.1 j hj).1 hl d kk
theorem z_aldA (hC : zOk bt own nL ret N mc ms C ad) {j : Nat} {i : Int32} (hj : j < 3) (hi : vp_in i (zAl j).length) (d : decode bt pc = .ok (.iaload, 1)) (kk : zL C nL ad S cells slots sz I X Y (pc + 1) lo (.inl ((zAl j).getD i.toNatClampNeg 0) :: st)) : zL C nL ad S cells slots sz I X Y pc lo (.inl i :: .inr (.inr (some (4, j))) :: st) :=
  fun H locs ls h1 h2 h3 => va_ti hC.1 hC.2.1 ((zOld_of hC).2.2.2.1 j hj).2 h2 hi rfl d (kk H locs ls h1 h2 h3)
theorem z_lenA (hC : zOk bt own nL ret N mc ms C ad) {j : Nat} {v : Int32} (hj : j < 3) (hv : Int32.ofNat (zAl j).length = v) (d : decode bt pc = .ok (.arraylength, 1)) (kk : zL C nL ad S cells slots sz I X Y (pc + 1) lo (.inl v :: st)) : zL C nL ad S cells slots sz I X Y pc lo (.inr (.inr (some (4, j))) :: st) :=
  fun H locs ls h1 h2 h3 => va_tlen hC.1 hC.2.1 ((zOld_of hC).2.2.2.1 j hj).2 h2 hv d (kk H locs ls h1 h2 h3)
theorem z_getC (hC : zOk bt own nL ret N mc ms C ad) {idx : Nat} (hl : Cond.fieldLink own idx "java/lang/String" "COMPACT_STRINGS" "Z" ∈ zTb) (d : decode bt pc = .ok (.getstatic idx, 3)) (kk : zL C nL ad S cells slots sz I X Y (pc + 3) lo (.inl 1 :: st)) : zL C nL ad S cells slots sz I X Y pc lo st :=
  z_gets hC (q := .inl 1) (zOld_of hC).2.2.1 hl d kk
theorem z_getF (hC : zOk bt own nL ret N mc ms C ad) {idx : Nat} (hl : Cond.fieldLink own idx "jdk/internal/util/Preconditions" "SIOOBE_FORMATTER" zFmt ∈ zTb) (d : decode bt pc = .ok (.getstatic idx, 3)) (kk : ∀ q : Option (Nat × Nat), zL C nL ad S cells slots sz I X Y (pc + 3) lo (.inr (.inr q) :: st)) : zL C nL ad S cells slots sz I X Y pc lo st := by
  rcases (zOld_of hC).2.2.2.2.2.1 with h | h
  · exact z_gets hC (q := .inr (.inr none)) h hl d (kk none)
  · exact z_gets hC (q := .inr (.inr (some (7, 0)))) h hl d (kk (some (7, 0)))
theorem z_ldcS (hC : zOk bt own nL ret N mc ms C ad) {j idx : Nat} {tx : String} (hj : (own, idx, tx, j) ∈ zRefs) (d : decode bt pc = .ok (.ldc idx, 2)) (kk : zL C nL ad S cells slots sz I X Y (pc + 2) lo (.inr (.inr (some (5, j))) :: st)) : zL C nL ad S cells slots sz I X Y pc lo st :=
  fun H locs ls h1 h2 h3 => va_ldcS hC.1 hC.2.1 hC.2.2.2.1 ((zOld_of hC).2.1 _ hj) d (kk H locs ls h1 h2 h3)
theorem z_strV (hC : zOk bt own nL ret N mc ms C ad) {j idx : Nat} (hj : j < 8) (hl : Cond.fieldLink own idx "java/lang/String" "value" "[B" ∈ zTb) (d : decode bt pc = .ok (.getfield idx, 3)) (kk : zL C nL ad S cells slots sz I X Y (pc + 3) lo (.inr (.inr (some (6, j))) :: st)) : zL C nL ad S cells slots sz I X Y pc lo (.inr (.inr (some (5, j))) :: st) :=
  fun H locs ls h1 h2 h3 => vk_getf hC.1 hC.2.1 ((zOld_of hC).1.1 j hj).2.2.1 h2 hC.2.2.2.1 (hC.2.2.2.2.1 _ hl) (fun _ h => h) d (kk H locs ls h1 h2 h3)
theorem z_strC (hC : zOk bt own nL ret N mc ms C ad) {j idx : Nat} (hj : j < 8) (hl : Cond.fieldLink own idx "java/lang/String" "coder" "B" ∈ zTb) (d : decode bt pc = .ok (.getfield idx, 3)) (kk : zL C nL ad S cells slots sz I X Y (pc + 3) lo (.inl 0 :: st)) : zL C nL ad S cells slots sz I X Y pc lo (.inr (.inr (some (5, j))) :: st) :=
  fun H locs ls h1 h2 h3 => vk_getf hC.1 hC.2.1 ((zOld_of hC).1.1 j hj).2.1 h2 hC.2.2.2.1 (hC.2.2.2.2.1 _ hl) (fun _ h => h) d (kk H locs ls h1 h2 h3)
theorem z_bald (hC : zOk bt own nL ret N mc ms C ad) {j : Nat} {i : Int32} (hj : j < 8) (hi : vp_in i (zSl.getD j 0)) (d : decode bt pc = .ok (.baload, 1)) (kk : zL C nL ad S cells slots sz I X Y (pc + 1) lo (.inl ((zSw.getD j []).getD i.toNatClampNeg 0) :: st)) : zL C nL ad S cells slots sz I X Y pc lo (.inl i :: .inr (.inr (some (6, j))) :: st) :=
  fun H locs ls h1 h2 h3 => va_tb hC.1 hC.2.1 ((zOld_of hC).1.1 j hj).2.2.2 h2 hi rfl d (kk H locs ls h1 h2 h3)
theorem z_blen (hC : zOk bt own nL ret N mc ms C ad) {j : Nat} {v : Int32} (hj : j < 8) (hv : Int32.ofNat (zSl.getD j 0) = v) (d : decode bt pc = .ok (.arraylength, 1)) (kk : zL C nL ad S cells slots sz I X Y (pc + 1) lo (.inl v :: st)) : zL C nL ad S cells slots sz I X Y pc lo (.inr (.inr (some (6, j))) :: st) :=
  fun H locs ls h1 h2 h3 => va_tlen hC.1 hC.2.1 ((zOld_of hC).1.1 j hj).2.2.2 h2 hv d (kk H locs ls h1 h2 h3)
theorem z_callT {As : List zV} {v : Option zV} {st0 : List zV} {y : zM} {np idx n mc1 ms1 j : Nat} (hC : zOk bt own nL ret N mc ms C ad) (d : decode bt pc = .ok (.invokevirtual idx, 3)) (hy : zVir own idx y np) (hM : zCall y n mc1 ms1 (.inr (.inr (some (5, j))) :: As) v ad S I X Y sz S' I' X' Y' sz') (hj : j < 8) (hq : y.1.cls = "java/lang/String") (hst : st0 = As.reverse ++ .inr (.inr (some (5, j))) :: st) (hnp : As.length = np) (hn : n + 1 ≤ N) (hw : (st.map (fun v => zcat (some (some v)))).sum ≤ 8) (hroom : cells + mc1 ≤ mc ∧ slots + ms1 ≤ ms)
    (kk : zL C nL ad S' (cells + mc1) (slots + ms1) sz' I' X' Y' (pc + 3) lo (v.toList ++ st)) : zL C nL ad S cells slots sz I X Y pc lo st0 := by
  intro H locs ls h1 h2 h3
  have hts := hC.2.2.2.2.1
  have hR := hC.2.2.2.2.2.2.2.1
  have hpS := zpreS (args := .inr (.inr (some (5, j))) :: As) hC h1 h2
  obtain ⟨y1, y2, y3, y4⟩ := hy
  refine z_after hC h1 h2 h3 (va_runV (C := y.1.cls) (b := ad 5 j) (As := As.map (rv ad)) (rest := st.map (rv ad)) ⟨hC.1, hC.2.1, hC.2.2.1, hC.2.2.2.1, hts⟩ (hM (cl C) (cg C)) ⟨zpayB hC y1 hn (hts _ y2), hts _ y3, hts _ y4⟩ ⟨hpS.1, by rw [hq]; exact vk_recv (zOld_of hC).1 hj h2, hpS.2⟩ rfl (by rw [List.length_map]; exact hnp) h3.1 (by rw [hst]; simp [rv]) (lv_room (zwords hw)) d ⟨Nat.le_trans hroom.1 hR.2.2.1, Nat.le_trans hroom.2 hR.2.2.2⟩) kk
/-! Math -/
theorem z_max (hC : zOk bt own nL ret N mc ms C ad) {idx : Nat} {x y : Int32} (d : decode bt pc = .ok (.invokestatic idx, 3)) (hl : Cond.methodLink own idx Lib.Math.max.name ∈ zTb) (g : Cond.static Lib.Math.max.name ∈ zTb ∧ Cond.initialized "java/lang/Math" ∈ zTb ∧ Cond.code Lib.Math.max.name Lib.Math.max.code 2 (some .int) ∈ zTb) (hN : 1 ≤ N) (hw : (st.map (fun v => zcat (some (some v)))).sum ≤ 8) (hc : cells ≤ mc) (hs : slots ≤ ms)
    (kk : zL C nL ad S cells slots sz I X Y (pc + 3) lo (.inl (if x < y then y else x) :: st)) : zL C nL ad S cells slots sz I X Y pc lo (.inl y :: .inl x :: st) := by
  intro H locs ls h1 h2 h3
  have hts := hC.2.2.2.2.1
  have hR := hC.2.2.2.2.2.2.2.1
  have h8 := zwords (ad := ad) hw
  exact va_mmax hC.1 hC.2.1 (by rw [hC.2.2.1]; exact h3.1.symm) hC.2.2.2.1 (hts _ hl) (hts _ g.1) (hts _ g.2.1) (hts _ g.2.2) (Nat.le_trans hN hR.1) (by have := hR.2.1; omega) (Nat.le_trans hc hR.2.2.1) (Nat.le_trans hs hR.2.2.2) d (kk H locs ls h1 h2 h3)
theorem z_min (hC : zOk bt own nL ret N mc ms C ad) {idx : Nat} {x y : Int32} (d : decode bt pc = .ok (.invokestatic idx, 3)) (hl : Cond.methodLink own idx Lib.Math.min.name ∈ zTb) (g : Cond.static Lib.Math.min.name ∈ zTb ∧ Cond.initialized "java/lang/Math" ∈ zTb ∧ Cond.code Lib.Math.min.name Lib.Math.min.code 2 (some .int) ∈ zTb) (hN : 1 ≤ N) (hw : (st.map (fun v => zcat (some (some v)))).sum ≤ 8) (hc : cells ≤ mc) (hs : slots ≤ ms)
    (kk : zL C nL ad S cells slots sz I X Y (pc + 3) lo (.inl (if y < x then y else x) :: st)) : zL C nL ad S cells slots sz I X Y pc lo (.inl y :: .inl x :: st) := by
  intro H locs ls h1 h2 h3
  have hts := hC.2.2.2.2.1
  have hR := hC.2.2.2.2.2.2.2.1
  have h8 := zwords (ad := ad) hw
  exact va_mmin hC.1 hC.2.1 (by rw [hC.2.2.1]; exact h3.1.symm) hC.2.2.2.1 (hts _ hl) (hts _ g.1) (hts _ g.2.1) (hts _ g.2.2) (Nat.le_trans hN hR.1) (by have := hR.2.1; omega) (Nat.le_trans hc hR.2.2.1) (Nat.le_trans hs hR.2.2.2) d (kk H locs ls h1 h2 h3)
theorem z_abs (hC : zOk bt own nL ret N mc ms C ad) {idx : Nat} {x : Int32} (d : decode bt pc = .ok (.invokestatic idx, 3)) (hl : Cond.methodLink own idx Lib.Math.abs.name ∈ zTb) (g : Cond.static Lib.Math.abs.name ∈ zTb ∧ Cond.initialized "java/lang/Math" ∈ zTb ∧ Cond.code Lib.Math.abs.name Lib.Math.abs.code 1 (some .int) ∈ zTb) (hN : 1 ≤ N) (hw : (st.map (fun v => zcat (some (some v)))).sum ≤ 8) (hc : cells ≤ mc) (hs : slots ≤ ms)
    (kk : zL C nL ad S cells slots sz I X Y (pc + 3) lo (.inl (if 0 ≤ x then x else 0 - x) :: st)) : zL C nL ad S cells slots sz I X Y pc lo (.inl x :: st) := by
  intro H locs ls h1 h2 h3
  have hts := hC.2.2.2.2.1
  have hR := hC.2.2.2.2.2.2.2.1
  have h8 := zwords (ad := ad) hw
  exact va_mabs hC.1 hC.2.1 (by rw [hC.2.2.1]; exact h3.1.symm) hC.2.2.2.1 (hts _ hl) (hts _ g.1) (hts _ g.2.1) (hts _ g.2.2) (Nat.le_trans hN hR.1) (by have := hR.2.1; omega) (Nat.le_trans hc hR.2.2.1) (Nat.le_trans hs hR.2.2.2) d (kk H locs ls h1 h2 h3)
/-! System.arraycopy -/
def zcpW (own : String) (idx : Nat) : Prop := Cond.methodLink own idx arraycopyName ∈ zTb ∧ Cond.native arraycopyName ∈ zTb ∧ Cond.static arraycopyName ∈ zTb ∧ Cond.initialized "java/lang/System" ∈ zTb
theorem znn {z : Int32} (hz : ¬ z < 0) : z.toInt = (z.toNatClampNeg : Int) := by
  have hz0 : (0 : Int) ≤ z.toInt := by
    have := Int32.not_lt.mp hz
    simpa using Int32.le_iff_toInt_le.mp this
  show z.toInt = ((z.toInt.toNat : Nat) : Int)
  omega
/-- the memory behind a copy -/
def up2 {α : Type} (f : Nat → Nat → Nat → α) (b k : Nat) (g : Nat → α) : Nat → Nat → Nat → α := fun b' k' => if b' = b ∧ k' = k then g else f b' k'
theorem up2_eq {α : Type} (f : Nat → Nat → Nat → α) (b k : Nat) (g : Nat → α) : up2 f b k g b k = g := by simp [up2]
theorem up2_ne {α : Type} {f : Nat → Nat → Nat → α} {b k b' k' : Nat} {g : Nat → α} (h : ¬ (b' = b ∧ k' = k)) : up2 f b k g b' k' = f b' k' := by simp [up2, h]
theorem zafter_copy {H : Heap} {locs : List Loc} {a : Nat} {z : Cell} {A : Nat → Prop} {H0 : Heap} (hl : a < H.size) (hS : va_S A H0 H locs) (ha : A a) : (H.setIfInBounds a z)[a]? = some z ∧ (∀ q : Nat, q ≠ a → (H.setIfInBounds a z)[q]? = H[q]?) ∧ (H.setIfInBounds a z).size = H.size ∧ ∀ L : List Loc, (∀ q ∈ L, q.base = a) → va_S A H0 (H.setIfInBounds a z) (locs ++ L) := by
  have oq : ∀ q : Nat, q ≠ a → (H.setIfInBounds a z)[q]? = H[q]? := fun q hq => by simp [Array.getElem?_setIfInBounds, Ne.symm hq]
  refine ⟨by simp [Array.getElem?_setIfInBounds, hl], oq, by simp, fun L hL => ⟨by simp; exact hS.1, fun q g1 g2 => ?_, fun q hq => ?_⟩⟩
  · rw [oq q (fun e => g2 (by rw [e]; exact ha))]
    exact hS.2.1 q g1 g2
  · rcases List.mem_append.mp hq with h | h
    · exact hS.2.2 q h
    · rw [hL q h]
      exact ha
end ZM
