theorem zmW_max : Cond.static Lib.Math.max.name ∈ zTb ∧ Cond.initialized "java/lang/Math" ∈ zTb ∧ Cond.code Lib.Math.max.name Lib.Math.max.code 2 (some .int) ∈ zTb := ⟨(zin1 (i := 37) rfl rfl), (zin1 (i := 4) rfl rfl), (zin1 (i := 38) rfl rfl)⟩
theorem zmW_min : Cond.static Lib.Math.min.name ∈ zTb ∧ Cond.initialized "java/lang/Math" ∈ zTb ∧ Cond.code Lib.Math.min.name Lib.Math.min.code 2 (some .int) ∈ zTb := ⟨(zin2 (i := 87) rfl rfl), (zin1 (i := 4) rfl rfl), (zin2 (i := 88) rfl rfl)⟩
theorem zmW_abs : Cond.static Lib.Math.abs.name ∈ zTb ∧ Cond.initialized "java/lang/Math" ∈ zTb ∧ Cond.code Lib.Math.abs.name Lib.Math.abs.code 1 (some .int) ∈ zTb := ⟨(zin3 (i := 165) rfl rfl), (zin1 (i := 4) rfl rfl), (zin3 (i := 166) rfl rfl)⟩
/-! Road: what its memory says, and its contracts -/
def zRm (r : Nat) (R : RS) (I X : zI) : Prop :=
  (I 3 (r + 1) 1 = nI 5 ∧ I 3 (r + 1) 2 = nI (R.1 0) ∧ ∀ i j, i < R.1 0 → j < 5 → X 3 (r + 2) (i * 5 + j) = nI (R.2.1 j i)) ∧
  (I 3 (r + 3) 1 = nI 3 ∧ I 3 (r + 3) 2 = nI (R.1 1) ∧ ∀ i j, i < R.1 1 → j < 3 → X 3 (r + 4) (i * 3 + j) = nI (R.2.1 (5 + j) i)) ∧
  (I 3 (r + 5) 1 = nI 3 ∧ I 3 (r + 5) 2 = nI (R.1 2) ∧ ∀ i j, i < R.1 2 → j < 3 → X 3 (r + 6) (i * 3 + j) = nI (R.2.1 (8 + j) i)) ∧
  I 3 r 3 = nI (R.1 3) ∧ I 3 r 4 = nI (R.1 4) ∧ I 3 r 5 = nI (R.1 5) ∧ I 3 r 6 = R.2.2.1 ∧ I 3 r 7 = R.2.2.2
theorem zRm.frame {r : Nat} {R : RS} {I X I' X' : zI} (h : zRm r R I X) (hI : ∀ k j, r ≤ k → k < r + 7 → I' 3 k j = I 3 k j) (hX : ∀ k j, r ≤ k → k < r + 7 → X' 3 k j = X 3 k j) : zRm r R I' X' := by
  obtain ⟨⟨a1, a2, a3⟩, ⟨b1, b2, b3⟩, ⟨c1, c2, c3⟩, d1, d2, d3, d4, d5⟩ := h
  refine ⟨⟨?_, ?_, fun i j hi hj => ?_⟩, ⟨?_, ?_, fun i j hi hj => ?_⟩, ⟨?_, ?_, fun i j hi hj => ?_⟩, ?_, ?_, ?_, ?_, ?_⟩
  all_goals first | (rw [hI _ _ (by omega) (by omega)]; assumption) | (rw [hX _ _ (by omega) (by omega)]; first | exact a3 i j hi hj | exact b3 i j hi hj | exact c3 i j hi hj)
theorem zmax0 {q : Nat} (h : q < 2 ^ 31) : (if nI 0 < nI q then nI q else nI 0) = nI q := by
  by_cases hq : 0 < q
  · rw [if_pos ((nI_ltI (by omega) h).mpr hq)]
  · rw [show q = 0 by omega]; split <;> rfl
theorem zmin1 {q n : Nat} (h : q ≤ n) (hn : n < 2 ^ 31) : (if nI q < nI n then nI q else nI n) = nI q := by
  by_cases hq : q < n
  · rw [if_pos ((nI_ltI (by omega) hn).mpr hq)]
  · rw [show q = n by omega]; split <;> rfl
abbrev bitN (m i : Nat) : Prop := m / 2 ^ i % 2 = 1
theorem zbT {p : Prop} {h : Decidable p} (hp : p) : (some (.inl (zb p h)) : Option zV) = some (.inl (nI 1)) := by rw [zb_1 hp]; rfl
theorem zbF {p : Prop} {h : Decidable p} (hp : ¬ p) : (some (.inl (zb p h)) : Option zV) = some (.inl (nI 0)) := by rw [zb_0 hp]; rfl
theorem zshr31 : ∀ i, i < 32 → (nI i &&& 31) = nI i ∧ ((nI i).toBitVec.smod 32).toNat = i := by decide +kernel
theorem zbit {m i : Nat} (hm : m < 2 ^ 31) (hi : i < 32) : (nI m >>> (nI i &&& 31)) &&& nI 1 = nI (m / 2 ^ i % 2) := by
  obtain ⟨h1, h2⟩ := zshr31 i hi
  rw [h1, pk_shrN hm (nI i) i h2]
  have h3 : m / 2 ^ i < 2 ^ 32 := Nat.lt_of_le_of_lt (Nat.div_le_self _ _) (by omega)
  have := pk_andN (n := m / 2 ^ i) h3 (m := nI 1) 1 (by decide)
  simpa using this
def secN (y l : Nat) : Nat := if l = 1 then y / 10 + 1 else if l = 2 then y / 4 + 1 else y + 1
def sumN (f : Nat → Nat) : Nat → Nat
  | 0 => 0
  | n + 1 => sumN f n + f n
theorem sumN_le {f : Nat → Nat} {M : Nat} : ∀ {n : Nat}, (∀ i, i < n → f i ≤ M) → sumN f n ≤ n * M
  | 0, _ => Nat.zero_le _
  | n + 1, h => by
    have h1 := sumN_le (n := n) (fun i hi => h i (by omega))
    have h2 := h n (by omega)
    show sumN f n + f n ≤ (n + 1) * M
    rw [Nat.succ_mul]; omega
theorem zheld {fl : Nat → Nat} {i : Nat} (h : fl i ≤ 344) : heldN fl i * fl i ≤ 344000000 ∧ heldN fl i * fl i / 1000 ≤ heldN fl i := by
  have h1 := heldN_le fl i
  have h2 : heldN fl i * fl i ≤ 1000000 * 344 := Nat.mul_le_mul h1 h
  have h3 : heldN fl i * fl i ≤ heldN fl i * 1000 := Nat.mul_le_mul_left _ (by omega)
  exact ⟨by omega, by omega⟩
theorem zheld2 {h fl : Nat} (h1 : h ≤ 1000000) (hf : fl ≤ 344) : h * fl ≤ 344000000 ∧ h * fl / 1000 ≤ h := by
  have h2 : h * fl ≤ 1000000 * 344 := Nat.mul_le_mul h1 hf
  have h3 : h * fl ≤ h * 1000 := Nat.mul_le_mul_left _ (by omega)
  exact ⟨by omega, by omega⟩
def hflN (R : RS) (m1 m2 i : Nat) : Nat := if bitN m2 i then 0 else rfall R (if bitN m1 i then 1 else R.1 3) i
theorem hflN_s {R : RS} {m1 m2 i : Nat} (h : bitN m2 i) : hflN R m1 m2 i = 0 := if_pos h
theorem hflN_1 {R : RS} {m1 m2 i : Nat} (h : ¬ bitN m2 i) (h' : bitN m1 i) : hflN R m1 m2 i = rfall R 1 i := by unfold hflN; rw [if_neg h, if_pos h']
theorem hflN_0 {R : RS} {m1 m2 i : Nat} (h : ¬ bitN m2 i) (h' : ¬ bitN m1 i) : hflN R m1 m2 i = rfall R (R.1 3) i := by unfold hflN; rw [if_neg h, if_neg h']
def seenN (l : Nat) : Nat := if l = 1 then 30 else if l = 2 then 60 else 90
theorem seenN_le (l : Nat) : seenN l ≤ 90 := by unfold seenN; repeat' split
                                                all_goals omega
theorem seenN_1 : seenN 1 = 30 := rfl
theorem seenN_2 : seenN 2 = 60 := rfl
theorem zne1 {i : Nat} (h : i < 2 ^ 31) : ¬ nI i = -1 := fun e => nI_pos h (by rw [e]; decide)
section
variable {ad : zA} {S : zSh} {I X : zI} {Y : zY} {sz : Nat} {r : Nat} {R : RS}

theorem c_X6_isIn {m i : Nat} (hm : m < 2 ^ 31) (hi : i < 32) : zC0 mX6_isIn 0 [zi (nI m), zi (nI i)] (some (zi (zb (bitN m i) inferInstance))) ad S I X Y sz I X Y := by
  refine zgo (own := RX6) (k := 0) (by decide +kernel) rfl rfl rfl (fun C hC hnm hE => ?_)
  refine z_iload_n hC dX6_isIn_0 rfl ?_
  refine z_iload_n hC dX6_isIn_1 rfl ?_
  refine z_ishr hC dX6_isIn_2  ?_
  refine z_iconst hC dX6_isIn_3 (v := nI 1) rfl ?_
  refine z_iand hC dX6_isIn_4  ?_
  rw [zbit hm hi]
  have hq : m / 2 ^ i % 2 < 2 := Nat.mod_lt _ (by decide)
  refine z_iconst hC dX6_isIn_5 (v := nI 1) rfl ?_
  refine z_nicmp_ne hC dX6_isIn_6 (tgt := 13) (by decide) (by omega) (by omega) (fun c6 => ?_) (fun c6 => ?_)
  · skip
    refine z_iconst hC dX6_isIn_13 (v := nI 0) rfl ?_
    refine z_zret hC dX6_isIn_14 rfl ?_
    exact hE.to (by first | exact zbT c6 | exact zbF c6) rfl rfl rfl
  refine z_iconst hC dX6_isIn_9 (v := nI 1) rfl ?_
  refine z_goto hC dX6_isIn_10 (tgt := 14) (by decide) ?_
  refine z_zret hC dX6_isIn_14 rfl ?_
  exact hE.to (by first | exact zbT c6 | exact zbF c6) rfl rfl rfl

theorem c_X6_seenBy {l : Nat} (hl : l ≤ 3) : zC0 mX6_seenBy 0 [zi (nI l)] (some (zi (nI (seenN l)))) ad S I X Y sz I X Y := by
  refine zgo (own := RX6) (k := 0) (by decide +kernel) rfl rfl rfl (fun C hC hnm hE => ?_)
  refine z_iload_n hC dX6_seenBy_0 rfl ?_
  by_cases s1_1 : l = 1
  · refine z_lkK hC dX6_seenBy_1 (v := nI 1) (by rw [s1_1]) rfl (off := 27) rfl (tgt := 28) (by decide) ?_
    refine z_bipush hC dX6_seenBy_28 (v := nI 30) rfl ?_
    refine z_iret hC dX6_seenBy_30 ?_
    exact hE.to (by simp [seenN, *]) rfl rfl rfl
  by_cases s1_2 : l = 2
  · refine z_lkK hC dX6_seenBy_1 (v := nI 2) (by rw [s1_2]) rfl (off := 30) rfl (tgt := 31) (by decide) ?_
    refine z_bipush hC dX6_seenBy_31 (v := nI 60) rfl ?_
    refine z_iret hC dX6_seenBy_33 ?_
    exact hE.to (by simp [seenN, *]) rfl rfl rfl
  refine z_lookup hC dX6_seenBy_1 rfl (off := 33) (zlk_out (by rw [nI_toInt (by omega)]; intro q hq; simp at hq; rcases hq with rfl | rfl <;> simp <;> omega)) (tgt := 34) (by decide) ?_
  refine z_bipush hC dX6_seenBy_34 (v := nI 90) rfl ?_
  refine z_iret hC dX6_seenBy_36 ?_
  exact hE.to (by simp [seenN, *]) rfl rfl rfl

theorem c_X6_missBehind {m l : Nat} (hm : m ≤ 100) (hl : l ≤ 3) : zC0 mX6_missBehind 1 [zi (nI m), zi (nI l)] (some (zi (nI (m * (100 - seenN l) / 100)))) ad S I X Y sz I X Y := by
  refine zgo (own := RX6) (k := 0) (by decide +kernel) rfl rfl rfl (fun C hC hnm hE => ?_)
  have hs := seenN_le l
  have hq : m * (100 - seenN l) ≤ 100 * 100 := Nat.mul_le_mul hm (by omega)
  refine z_iload_n hC dX6_missBehind_0 rfl ?_
  refine z_bipush hC dX6_missBehind_1 (v := nI 100) rfl ?_
  refine z_iload_n hC dX6_missBehind_3 rfl ?_
  refine zSv hC dX6_missBehind_4 zlX6_339 (c_X6_seenBy hl) rfl rfl rfl rfl ?_
  refine z_nsub hC dX6_missBehind_7 (by omega) ?_
  refine z_nmul hC dX6_missBehind_8  ?_
  refine z_bipush hC dX6_missBehind_9 (v := nI 100) rfl ?_
  refine z_ndiv hC dX6_missBehind_11 (by omega) (by omega) (by omega) ?_
  refine z_iret hC dX6_missBehind_12 ?_
  exact hE.to (by rfl) rfl rfl rfl

theorem c_bat (hr : zRd S r) (hm : zRm r R I X) (hR : ROK R) {i j : Nat} (hi : i < R.1 0) (hj : j < 5) : zC0 mX3_at 2 [zr 3 (r + 1), zi (nI i), zi (nI j)] (some (zi (nI (R.2.1 j i)))) ad S I X Y sz I X Y := by
  have h := c_X3_at (ad := ad) (I := I) (X := X) (Y := Y) (sz := sz) hr.2.1 hr.2.2.1 hm.1.1 hm.1.2.1 (by have := hR.1; omega) (by decide) hR.1 (by decide) hi hj
  rwa [hm.1.2.2 i j hi hj] at h
theorem c_sat (hr : zRd S r) (hm : zRm r R I X) (hR : ROK R) {i j : Nat} (hi : i < R.1 1) (hj : j < 3) : zC0 mX3_at 2 [zr 3 (r + 3), zi (nI i), zi (nI j)] (some (zi (nI (R.2.1 (5 + j) i)))) ad S I X Y sz I X Y := by
  have h := c_X3_at (ad := ad) (I := I) (X := X) (Y := Y) (sz := sz) hr.2.2.2.1 hr.2.2.2.2.1 hm.2.1.1 hm.2.1.2.1 (by have := hR.2.1; omega) (by decide) (by have := hR.2.1; omega) (by decide) hi hj
  rwa [hm.2.1.2.2 i j hi hj] at h
theorem c_cat (hr : zRd S r) (hm : zRm r R I X) (hR : ROK R) {i j : Nat} (hi : i < R.1 2) (hj : j < 3) : zC0 mX3_at 2 [zr 3 (r + 5), zi (nI i), zi (nI j)] (some (zi (nI (R.2.1 (8 + j) i)))) ad S I X Y sz I X Y := by
  have h := c_X3_at (ad := ad) (I := I) (X := X) (Y := Y) (sz := sz) hr.2.2.2.2.2.1 hr.2.2.2.2.2.2 hm.2.2.1.1 hm.2.2.1.2.1 (by have := hR.2.2.1; omega) (by decide) (by have := hR.2.2.1; omega) (by decide) hi hj
  rwa [hm.2.2.1.2.2 i j hi hj] at h

theorem c_X1_dryFall {k a v : Nat} (hk : k ≤ 5) (ha : a ≤ 9) (hv : v ≤ 9) : zC0 mX1_dryFall 0 [zi (nI k), zi (nI a), zi (nI v)] (some (zi (nI (dryN k a v)))) ad S I X Y sz I X Y := by
  refine zgo (own := RX1) (k := 0) (by decide +kernel) rfl rfl rfl (fun C hC hnm hE => ?_)
  refine z_iload_n hC dX1_dryFall_0 rfl ?_
  by_cases s1_1 : k = 1
  · refine z_tabK hC dX1_dryFall_1 (v := nI 1) (by rw [s1_1]) rfl rfl (tgt := 36) (by decide) ?_
    refine z_iload_n hC dX1_dryFall_36 rfl ?_
    refine z_iload_n hC dX1_dryFall_37 rfl ?_
    refine z_nmul hC dX1_dryFall_38  ?_
    refine z_iload_n hC dX1_dryFall_39 rfl ?_
    refine z_iload_n hC dX1_dryFall_40 rfl ?_
    refine z_nmul hC dX1_dryFall_41  ?_
    refine z_nadd hC dX1_dryFall_42  ?_
    refine z_iret hC dX1_dryFall_43 ?_
    exact hE.to (by simp [dryN, *]) rfl rfl rfl
  by_cases s1_2 : k = 2
  · refine z_tabK hC dX1_dryFall_1 (v := nI 2) (by rw [s1_2]) rfl rfl (tgt := 54) (by decide) ?_
    refine z_bipush hC dX1_dryFall_54 (v := nI 10) rfl ?_
    refine z_iload_n hC dX1_dryFall_56 rfl ?_
    refine z_iload_n hC dX1_dryFall_57 rfl ?_
    refine z_nmul hC dX1_dryFall_58  ?_
    refine z_nadd hC dX1_dryFall_59  ?_
    refine z_iret hC dX1_dryFall_60 ?_
    exact hE.to (by simp [dryN, *]) rfl rfl rfl
  by_cases s1_3 : k = 3
  · refine z_tabK hC dX1_dryFall_1 (v := nI 3) (by rw [s1_3]) rfl rfl (tgt := 44) (by decide) ?_
    refine z_iconst hC dX1_dryFall_44 (v := nI 2) rfl ?_
    refine z_iload_n hC dX1_dryFall_45 rfl ?_
    refine z_iload_n hC dX1_dryFall_46 rfl ?_
    refine z_nmul hC dX1_dryFall_47  ?_
    refine z_iload_n hC dX1_dryFall_48 rfl ?_
    refine z_iload_n hC dX1_dryFall_49 rfl ?_
    refine z_nmul hC dX1_dryFall_50  ?_
    refine z_nadd hC dX1_dryFall_51  ?_
    refine z_nmul hC dX1_dryFall_52  ?_
    refine z_iret hC dX1_dryFall_53 ?_
    exact hE.to (by simp [dryN, *]) rfl rfl rfl
  by_cases s1_4 : k = 4
  · refine z_tabK hC dX1_dryFall_1 (v := nI 4) (by rw [s1_4]) rfl rfl (tgt := 61) (by decide) ?_
    refine z_bipush hC dX1_dryFall_61 (v := nI 30) rfl ?_
    refine z_iload_n hC dX1_dryFall_63 rfl ?_
    refine z_iload_n hC dX1_dryFall_64 rfl ?_
    refine z_nmul hC dX1_dryFall_65  ?_
    refine z_nadd hC dX1_dryFall_66  ?_
    refine z_iret hC dX1_dryFall_67 ?_
    exact hE.to (by simp [dryN, *]) rfl rfl rfl
  by_cases s1_5 : k = 5
  · refine z_tabK hC dX1_dryFall_1 (v := nI 5) (by rw [s1_5]) rfl rfl (tgt := 68) (by decide) ?_
    refine z_iload_n hC dX1_dryFall_68 rfl ?_
    refine z_iret hC dX1_dryFall_69 ?_
    exact hE.to (by simp [dryN, *]) rfl rfl rfl
  refine z_tableOut hC dX1_dryFall_1 (by rw [nI_toInt (by omega)]; omega) (tgt := 70) (by decide) ?_
  refine z_iload_n hC dX1_dryFall_70 rfl ?_
  refine z_iload_n hC dX1_dryFall_71 rfl ?_
  refine z_nmul hC dX1_dryFall_72  ?_
  refine z_iret hC dX1_dryFall_73 ?_
  exact hE.to (by simp [dryN, *]) rfl rfl rfl

theorem c_X1_fallBy (hr : zRd S r) (hm : zRm r R I X) (hR : ROK R) {i v w g : Nat} (hi : i < R.1 0) (hv : v ≤ 9) (hw : w ≤ 1) (hg : g ≤ 10) : zC0 mX1_fallBy 3 [zr 3 r, zi (nI i), zi (nI v), zi (nI w), zi (nI g)] (some (zi (nI (fallN (R.2.1 0 i) (R.2.1 1 i) v w g)))) ad S I X Y sz I X Y := by
  refine zgo (own := RX1) (k := 2) (by decide +kernel) rfl rfl rfl (fun C hC hnm hE => ?_)
  have hb := hR.2.2.2.2.2.2.1 i hi
  have hd := dryN_le (k := R.2.1 0 i) hb.2.1 hv
  have hf := fallN_le (k := R.2.1 0 i) (g := g) hb.2.1 hv hw
  have hq : (dryN (R.2.1 0 i) (R.2.1 1 i) v + 20 * w) * (10 - g) ≤ 344 * 10 := Nat.mul_le_mul (by omega) (by omega)
  refine z_aload_n hC dX1_fallBy_0 rfl ?_
  refine z_getR hC dX1_fallBy_1 hr.1 zfX1_14 rfl ?_
  refine z_iload_n hC dX1_fallBy_4 rfl ?_
  refine z_iconst hC dX1_fallBy_5 (v := nI 1) rfl ?_
  refine zVv hC dX1_fallBy_6 zlX1_71 (c_bat hr hm hR hi (by decide)) hr.2.1 rfl rfl rfl rfl rfl rfl ?_
  refine z_istore hC dX1_fallBy_9 (lo2 := [_, _, _, _, _, _, _]) (Nat.le_of_ble_eq_true rfl) rfl rfl ?_
  refine z_aload_n hC dX1_fallBy_11 rfl ?_
  refine z_getR hC dX1_fallBy_12 hr.1 zfX1_14 rfl ?_
  refine z_iload_n hC dX1_fallBy_15 rfl ?_
  refine z_iconst hC dX1_fallBy_16 (v := nI 0) rfl ?_
  refine zVv hC dX1_fallBy_17 zlX1_71 (c_bat hr hm hR hi (by decide)) hr.2.1 rfl rfl rfl rfl rfl rfl ?_
  refine z_iload hC dX1_fallBy_20 rfl ?_
  refine z_iload_n hC dX1_fallBy_22 rfl ?_
  refine zSv hC dX1_fallBy_23 zlX1_82 (c_X1_dryFall hb.1 hb.2.1 hv) rfl rfl rfl rfl ?_
  refine z_bipush hC dX1_fallBy_26 (v := nI 20) rfl ?_
  refine z_iload_n hC dX1_fallBy_28 rfl ?_
  refine z_nmul hC dX1_fallBy_29  ?_
  refine z_nadd hC dX1_fallBy_30  ?_
  refine z_istore hC dX1_fallBy_31 (lo2 := [_, _, _, _, _, _, _]) (Nat.le_of_ble_eq_true rfl) rfl rfl ?_
  refine z_iconst hC dX1_fallBy_33 (v := nI 0) rfl ?_
  refine z_sipush hC dX1_fallBy_34 (v := nI 1000) rfl ?_
  refine z_iload hC dX1_fallBy_37 rfl ?_
  refine z_bipush hC dX1_fallBy_39 (v := nI 10) rfl ?_
  refine z_iload hC dX1_fallBy_41 rfl ?_
  refine z_nsub hC dX1_fallBy_43 (by omega) ?_
  refine z_nmul hC dX1_fallBy_44  ?_
  refine z_bipush hC dX1_fallBy_45 (v := nI 10) rfl ?_
  refine z_ndiv hC dX1_fallBy_47 (by omega) (by omega) (by omega) ?_
  refine z_min hC dX1_fallBy_48 (zin2 (i := 86) rfl rfl) zmW_min (Nat.le_of_ble_eq_true rfl) (Nat.le_of_ble_eq_true rfl) (Nat.le_refl _) (Nat.le_refl _) ?_
  rw [zmin1 (by omega) (by decide)]
  refine z_max hC dX1_fallBy_51 (zin2 (i := 89) rfl rfl) zmW_max (Nat.le_of_ble_eq_true rfl) (Nat.le_of_ble_eq_true rfl) (Nat.le_refl _) (Nat.le_refl _) ?_
  rw [zmax0 (by omega)]
  refine z_iret hC dX1_fallBy_54 ?_
  exact hE.to (by rfl) rfl rfl rfl

theorem c_X1_fallAt (hr : zRd S r) (hm : zRm r R I X) (hR : ROK R) {i v : Nat} (hi : i < R.1 0) (hv : v ≤ 9) : zC0 mX1_fallAt 4 [zr 3 r, zi (nI i), zi (nI v)] (some (zi (nI (rfall R v i)))) ad S I X Y sz I X Y := by
  refine zgo (own := RX1) (k := 0) (by decide +kernel) rfl rfl rfl (fun C hC hnm hE => ?_)
  refine z_aload_n hC dX1_fallAt_0 rfl ?_
  refine z_iload_n hC dX1_fallAt_1 rfl ?_
  refine z_iload_n hC dX1_fallAt_2 rfl ?_
  refine z_aload_n hC dX1_fallAt_3 rfl ?_
  refine z_getN hC dX1_fallAt_4 hr.1 zfX1_40 rfl hm.2.2.2.2.1 ?_
  refine z_aload_n hC dX1_fallAt_7 rfl ?_
  refine z_getN hC dX1_fallAt_8 hr.1 zfX1_43 rfl hm.2.2.2.2.2.1 ?_
  refine zVv hC dX1_fallAt_11 zlX1_78 (c_X1_fallBy hr hm hR hi hv hR.2.2.2.2.1 hR.2.2.2.2.2.1) hr.1 rfl rfl rfl rfl rfl rfl ?_
  refine z_iret hC dX1_fallAt_14 ?_
  exact hE.to (by rfl) rfl rfl rfl

theorem c_X1_fellAt (hr : zRd S r) (hm : zRm r R I X) (hR : ROK R) {b v : Nat} (hb : b < R.1 0) (hv : v ≤ 9) : zC0 mX1_fellAt 5 [zr 3 r, zi (nI b), zi (nI v)] (some (zi (nI (fellN (rfall R v) b)))) ad S I X Y sz I X Y := by
  refine zgo (own := RX1) (k := 3) (by decide +kernel) rfl rfl rfl (fun C hC hnm hE => ?_)
  have hn := hR.1
  refine z_ldc hC dX1_fellAt_0 (v := nI 1000000) (zin3 (i := 90) rfl rfl) ?_
  refine z_istore_n hC dX1_fellAt_2 (lo2 := [_, _, _, _, _, _]) (Nat.le_of_ble_eq_true rfl) rfl rfl ?_
  refine z_iconst hC dX1_fellAt_3 (v := nI 0) rfl ?_
  refine z_istore hC dX1_fellAt_4 (lo2 := [_, _, _, _, _, _]) (Nat.le_of_ble_eq_true rfl) rfl rfl ?_
  have loop6 : ∀ (fuel : Nat) (i : Nat), b - i < fuel → i ≤ b → zL C 6 ad S 0 0 sz I X Y 6 [some (zr 3 r), some (zi (nI b)), some (zi (nI v)), some (zi (nI (heldN (rfall R v) i))), some (zi (nI i)), none] [] := by
    intro fuel
    induction fuel with
    | zero => intro i hfu; exact absurd hfu (Nat.not_lt_zero _)
    | succ fuel ih =>
      intro i hfu hib
      have hi : i < R.1 0 := by omega
      have hl := rfall_le hR hi hv
      have hz := zheld hl
      have hy := heldN_le (rfall R v) i
      refine z_iload hC dX1_fellAt_6 rfl ?_
      refine z_aload_n hC dX1_fellAt_8 rfl ?_
      refine z_getR hC dX1_fellAt_9 hr.1 zfX1_14 rfl ?_
      refine z_getN hC dX1_fellAt_12 hr.2.1 zfX1_56 rfl hm.1.2.1 ?_
      refine z_nicmp_ge hC dX1_fellAt_15 (tgt := 53) (by decide) (by omega) (by omega) (fun c15 => ?_) (fun c15 => ?_)
      · exfalso; omega
      refine z_iload_n hC dX1_fellAt_18 rfl ?_
      refine z_aload_n hC dX1_fellAt_19 rfl ?_
      refine z_iload hC dX1_fellAt_20 rfl ?_
      refine z_iload_n hC dX1_fellAt_22 rfl ?_
      refine zVv hC dX1_fellAt_23 zlX1_95 (c_X1_fallAt hr hm hR hi hv) hr.1 rfl rfl rfl rfl rfl rfl ?_
      refine z_nmul hC dX1_fellAt_26  ?_
      refine z_sipush hC dX1_fellAt_27 (v := nI 1000) rfl ?_
      refine z_ndiv hC dX1_fellAt_30 (by omega) (by omega) (by omega) ?_
      refine z_istore hC dX1_fellAt_31 (lo2 := [_, _, _, _, _, _]) (Nat.le_of_ble_eq_true rfl) rfl rfl ?_
      refine z_iload hC dX1_fellAt_33 rfl ?_
      refine z_iload_n hC dX1_fellAt_35 rfl ?_
      refine z_nicmp_ne hC dX1_fellAt_36 (tgt := 42) (by decide) (by omega) (by omega) (fun c36 => ?_) (fun c36 => ?_)
      · skip
        refine z_iload_n hC dX1_fellAt_42 rfl ?_
        refine z_iload hC dX1_fellAt_43 rfl ?_
        refine z_nsub hC dX1_fellAt_45 (by omega) ?_
        refine z_istore_n hC dX1_fellAt_46 (lo2 := [_, _, _, _, _, _]) (Nat.le_of_ble_eq_true rfl) rfl rfl ?_
        refine z_ninc hC dX1_fellAt_47 (lo2 := [_, _, _, _, _, _]) rfl rfl rfl rfl ?_
        refine z_goto hC dX1_fellAt_50 (tgt := 6) (by decide) ?_
        refine z_sub (by simp [zsub, heldN]) (ih (i + 1) (by omega) (by omega))
      refine z_iload hC dX1_fellAt_39 rfl ?_
      refine z_iret hC dX1_fellAt_41 ?_
      exact hE.to (by rw [show b = i by omega]; rfl) rfl rfl rfl
  exact z_sub (by simp [zsub, heldN]) (loop6 _ 0 (Nat.lt_succ_self _) (Nat.zero_le _))

theorem c_X1_fellAtNone (hr : zRd S r) (hm : zRm r R I X) (hR : ROK R) {v : Nat} (hv : v ≤ 9) : zC0 mX1_fellAt 5 [zr 3 r, zi (-1), zi (nI v)] (some (zi (nI (heldN (rfall R v) (R.1 0))))) ad S I X Y sz I X Y := by
  refine zgo (own := RX1) (k := 3) (by decide +kernel) rfl rfl rfl (fun C hC hnm hE => ?_)
  have hn := hR.1
  refine z_ldc hC dX1_fellAt_0 (v := nI 1000000) (zin3 (i := 90) rfl rfl) ?_
  refine z_istore_n hC dX1_fellAt_2 (lo2 := [_, _, _, _, _, _]) (Nat.le_of_ble_eq_true rfl) rfl rfl ?_
  refine z_iconst hC dX1_fellAt_3 (v := nI 0) rfl ?_
  refine z_istore hC dX1_fellAt_4 (lo2 := [_, _, _, _, _, _]) (Nat.le_of_ble_eq_true rfl) rfl rfl ?_
  have loop6 : ∀ (fuel : Nat) (i : Nat), R.1 0 - i < fuel → i ≤ R.1 0 → zL C 6 ad S 0 0 sz I X Y 6 [some (zr 3 r), some (zi (-1)), some (zi (nI v)), some (zi (nI (heldN (rfall R v) i))), some (zi (nI i)), none] [] := by
    intro fuel
    induction fuel with
    | zero => intro i hfu; exact absurd hfu (Nat.not_lt_zero _)
    | succ fuel ih =>
      intro i hfu hib
      refine z_iload hC dX1_fellAt_6 rfl ?_
      refine z_aload_n hC dX1_fellAt_8 rfl ?_
      refine z_getR hC dX1_fellAt_9 hr.1 zfX1_14 rfl ?_
      refine z_getN hC dX1_fellAt_12 hr.2.1 zfX1_56 rfl hm.1.2.1 ?_
      refine z_nicmp_ge hC dX1_fellAt_15 (tgt := 53) (by decide) (by omega) (by omega) (fun c15 => ?_) (fun c15 => ?_)
      · skip
        refine z_iload_n hC dX1_fellAt_53 rfl ?_
        refine z_iret hC dX1_fellAt_54 ?_
        exact hE.to (by rw [show R.1 0 = i by omega]) rfl rfl rfl
      have hi : i < R.1 0 := by omega
      have hl := rfall_le hR hi hv
      have hz := zheld hl
      have hy := heldN_le (rfall R v) i
      refine z_iload_n hC dX1_fellAt_18 rfl ?_
      refine z_aload_n hC dX1_fellAt_19 rfl ?_
      refine z_iload hC dX1_fellAt_20 rfl ?_
      refine z_iload_n hC dX1_fellAt_22 rfl ?_
      refine zVv hC dX1_fellAt_23 zlX1_95 (c_X1_fallAt hr hm hR hi hv) hr.1 rfl rfl rfl rfl rfl rfl ?_
      refine z_nmul hC dX1_fellAt_26  ?_
      refine z_sipush hC dX1_fellAt_27 (v := nI 1000) rfl ?_
      refine z_ndiv hC dX1_fellAt_30 (by omega) (by omega) (by omega) ?_
      refine z_istore hC dX1_fellAt_31 (lo2 := [_, _, _, _, _, _]) (Nat.le_of_ble_eq_true rfl) rfl rfl ?_
      refine z_iload hC dX1_fellAt_33 rfl ?_
      refine z_iload_n hC dX1_fellAt_35 rfl ?_
      refine z_icmp_ne hC dX1_fellAt_36 (tgt := 42) (by decide) (fun c36 => ?_) (fun c36 => ?_)
      rotate_left
      · exact absurd c36 (zne1 (by omega))
      refine z_iload_n hC dX1_fellAt_42 rfl ?_
      refine z_iload hC dX1_fellAt_43 rfl ?_
      refine z_nsub hC dX1_fellAt_45 (by omega) ?_
      refine z_istore_n hC dX1_fellAt_46 (lo2 := [_, _, _, _, _, _]) (Nat.le_of_ble_eq_true rfl) rfl rfl ?_
      refine z_ninc hC dX1_fellAt_47 (lo2 := [_, _, _, _, _, _]) rfl rfl rfl rfl ?_
      refine z_goto hC dX1_fellAt_50 (tgt := 6) (by decide) ?_
      refine z_sub (by simp [zsub, heldN]) (ih (i + 1) (by omega) (by omega))
  exact z_sub (by simp [zsub, heldN]) (loop6 _ 0 (Nat.lt_succ_self _) (Nat.zero_le _))

theorem c_X1_heldBy (hr : zRd S r) (hm : zRm r R I X) (hR : ROK R) {v w g : Nat} (hv : v ≤ 9) (hw : w ≤ 1) (hg : g ≤ 10) : zC0 mX1_heldBy 4 [zr 3 r, zi (nI v), zi (nI w), zi (nI g)] (some (zi (nI (heldN (fun i => fallN (R.2.1 0 i) (R.2.1 1 i) v w g) (R.1 0))))) ad S I X Y sz I X Y := by
  refine zgo (own := RX1) (k := 2) (by decide +kernel) rfl rfl rfl (fun C hC hnm hE => ?_)
  have hn := hR.1
  refine z_ldc hC dX1_heldBy_0 (v := nI 1000000) (zin3 (i := 90) rfl rfl) ?_
  refine z_istore hC dX1_heldBy_2 (lo2 := [_, _, _, _, _, _]) (Nat.le_of_ble_eq_true rfl) rfl rfl ?_
  refine z_iconst hC dX1_heldBy_4 (v := nI 0) rfl ?_
  refine z_istore hC dX1_heldBy_5 (lo2 := [_, _, _, _, _, _]) (Nat.le_of_ble_eq_true rfl) rfl rfl ?_
  have loop7 : ∀ (fuel : Nat) (i : Nat), R.1 0 - i < fuel → i ≤ R.1 0 → zL C 6 ad S 0 0 sz I X Y 7 [some (zr 3 r), some (zi (nI v)), some (zi (nI w)), some (zi (nI g)), some (zi (nI (heldN (fun i => fallN (R.2.1 0 i) (R.2.1 1 i) v w g) i))), some (zi (nI i))] [] := by
    intro fuel
    induction fuel with
    | zero => intro i hfu; exact absurd hfu (Nat.not_lt_zero _)
    | succ fuel ih =>
      intro i hfu hib
      refine z_iload hC dX1_heldBy_7 rfl ?_
      refine z_aload_n hC dX1_heldBy_9 rfl ?_
      refine z_getR hC dX1_heldBy_10 hr.1 zfX1_14 rfl ?_
      refine z_getN hC dX1_heldBy_13 hr.2.1 zfX1_56 rfl hm.1.2.1 ?_
      refine z_nicmp_ge hC dX1_heldBy_16 (tgt := 46) (by decide) (by omega) (by omega) (fun c16 => ?_) (fun c16 => ?_)
      · skip
        refine z_iload hC dX1_heldBy_46 rfl ?_
        refine z_iret hC dX1_heldBy_48 ?_
        exact hE.to (by rw [show R.1 0 = i by omega]) rfl rfl rfl
      have hi : i < R.1 0 := by omega
      have hl := fallN_le (k := R.2.1 0 i) (g := g) (hR.2.2.2.2.2.2.1 i hi).2.1 hv hw
      have hz := zheld (fl := fun i => fallN (R.2.1 0 i) (R.2.1 1 i) v w g) hl
      have hy := heldN_le (fun i => fallN (R.2.1 0 i) (R.2.1 1 i) v w g) i
      refine z_iload hC dX1_heldBy_19 rfl ?_
      refine z_iload hC dX1_heldBy_21 rfl ?_
      refine z_aload_n hC dX1_heldBy_23 rfl ?_
      refine z_iload hC dX1_heldBy_24 rfl ?_
      refine z_iload_n hC dX1_heldBy_26 rfl ?_
      refine z_iload_n hC dX1_heldBy_27 rfl ?_
      refine z_iload_n hC dX1_heldBy_28 rfl ?_
      refine zVv hC dX1_heldBy_29 zlX1_78 (c_X1_fallBy hr hm hR hi hv hw hg) hr.1 rfl rfl rfl rfl rfl rfl ?_
      refine z_nmul hC dX1_heldBy_32  ?_
      refine z_sipush hC dX1_heldBy_33 (v := nI 1000) rfl ?_
      refine z_ndiv hC dX1_heldBy_36 (by omega) (by omega) (by omega) ?_
      refine z_nsub hC dX1_heldBy_37 (by omega) ?_
      refine z_istore hC dX1_heldBy_38 (lo2 := [_, _, _, _, _, _]) (Nat.le_of_ble_eq_true rfl) rfl rfl ?_
      refine z_ninc hC dX1_heldBy_40 (lo2 := [_, _, _, _, _, _]) rfl rfl rfl rfl ?_
      refine z_goto hC dX1_heldBy_43 (tgt := 7) (by decide) ?_
      refine z_sub (by simp [zsub, heldN]) (ih (i + 1) (by omega) (by omega))
  exact z_sub (by simp [zsub, heldN]) (loop7 _ 0 (Nat.lt_succ_self _) (Nat.zero_le _))

theorem c_X1_heldWith (hr : zRd S r) (hm : zRm r R I X) (hR : ROK R) {m1 m2 : Nat} (h1 : m1 < 2 ^ 31) (h2 : m2 < 2 ^ 31) : zC0 mX1_heldWith 5 [zr 3 r, zi (nI m1), zi (nI m2)] (some (zi (nI (heldN (hflN R m1 m2) (R.1 0))))) ad S I X Y sz I X Y := by
  refine zgo (own := RX1) (k := 2) (by decide +kernel) rfl rfl rfl (fun C hC hnm hE => ?_)
  have hn := hR.1
  refine z_ldc hC dX1_heldWith_0 (v := nI 1000000) (zin3 (i := 90) rfl rfl) ?_
  refine z_istore_n hC dX1_heldWith_2 (lo2 := [_, _, _, _, _]) (Nat.le_of_ble_eq_true rfl) rfl rfl ?_
  refine z_iconst hC dX1_heldWith_3 (v := nI 0) rfl ?_
  refine z_istore hC dX1_heldWith_4 (lo2 := [_, _, _, _, _]) (Nat.le_of_ble_eq_true rfl) rfl rfl ?_
  have loop6 : ∀ (fuel : Nat) (i : Nat), R.1 0 - i < fuel → i ≤ R.1 0 → zL C 5 ad S 0 0 sz I X Y 6 [some (zr 3 r), some (zi (nI m1)), some (zi (nI m2)), some (zi (nI (heldN (hflN R m1 m2) i))), some (zi (nI i))] [] := by
    intro fuel
    induction fuel with
    | zero => intro i hfu; exact absurd hfu (Nat.not_lt_zero _)
    | succ fuel ih =>
      intro i hfu hib
      refine z_iload hC dX1_heldWith_6 rfl ?_
      refine z_aload_n hC dX1_heldWith_8 rfl ?_
      refine z_getR hC dX1_heldWith_9 hr.1 zfX1_14 rfl ?_
      refine z_getN hC dX1_heldWith_12 hr.2.1 zfX1_56 rfl hm.1.2.1 ?_
      refine z_nicmp_ge hC dX1_heldWith_15 (tgt := 65) (by decide) (by omega) (by omega) (fun c15 => ?_) (fun c15 => ?_)
      · skip
        refine z_iload_n hC dX1_heldWith_65 rfl ?_
        refine z_iret hC dX1_heldWith_66 ?_
        exact hE.to (by rw [show R.1 0 = i by omega]) rfl rfl rfl
      have hi : i < R.1 0 := by omega
      have hl1 := rfall_le (v := 1) hR hi (by omega)
      have hl2 := rfall_le (v := R.1 3) hR hi hR.2.2.2.1.2
      have hz1 := zheld2 (h := heldN (hflN R m1 m2) i) (heldN_le _ _) hl1
      have hz2 := zheld2 (h := heldN (hflN R m1 m2) i) (heldN_le _ _) hl2
      have hy := heldN_le (hflN R m1 m2) i
      refine z_iload_n hC dX1_heldWith_18 rfl ?_
      refine z_iload hC dX1_heldWith_19 rfl ?_
      refine zNv hC dX1_heldWith_21 zlX1_98 (c_X6_isIn h2 (by omega)) rfl rfl rfl rfl ?_
      refine z_ifb_ne hC dX1_heldWith_24 (tgt := 59) (by decide) (fun c24 => ?_) (fun c24 => ?_)
      · skip
        refine z_ninc hC dX1_heldWith_59 (lo2 := [_, _, _, _, _]) rfl rfl rfl rfl ?_
        refine z_goto hC dX1_heldWith_62 (tgt := 6) (by decide) ?_
        refine z_sub (by first | simp [zsub, heldN, hflN_s c24] | simp [zsub, heldN, hflN_1 c24 c38] | simp [zsub, heldN, hflN_0 c24 c38]) (ih (i + 1) (by omega) (by omega))
      refine z_iload_n hC dX1_heldWith_27 rfl ?_
      refine z_iload_n hC dX1_heldWith_28 rfl ?_
      refine z_aload_n hC dX1_heldWith_29 rfl ?_
      refine z_iload hC dX1_heldWith_30 rfl ?_
      refine z_iload_n hC dX1_heldWith_32 rfl ?_
      refine z_iload hC dX1_heldWith_33 rfl ?_
      refine zNv hC dX1_heldWith_35 zlX1_98 (c_X6_isIn h1 (by omega)) rfl rfl rfl rfl ?_
      refine z_ifb_eq hC dX1_heldWith_38 (tgt := 45) (by decide) (fun c38 => ?_) (fun c38 => ?_)
      · skip
        refine z_aload_n hC dX1_heldWith_45 rfl ?_
        refine z_getN hC dX1_heldWith_46 hr.1 zfX1_26 rfl hm.2.2.2.1 ?_
        refine zVv hC dX1_heldWith_49 zlX1_95 (c_X1_fallAt hr hm hR hi (by have := hR.2.2.2.1; omega)) hr.1 rfl rfl rfl rfl rfl rfl ?_
        refine z_nmul hC dX1_heldWith_52  ?_
        refine z_sipush hC dX1_heldWith_53 (v := nI 1000) rfl ?_
        refine z_ndiv hC dX1_heldWith_56 (by omega) (by omega) (by omega) ?_
        refine z_nsub hC dX1_heldWith_57 (by omega) ?_
        refine z_istore_n hC dX1_heldWith_58 (lo2 := [_, _, _, _, _]) (Nat.le_of_ble_eq_true rfl) rfl rfl ?_
        refine z_ninc hC dX1_heldWith_59 (lo2 := [_, _, _, _, _]) rfl rfl rfl rfl ?_
        refine z_goto hC dX1_heldWith_62 (tgt := 6) (by decide) ?_
        refine z_sub (by first | simp [zsub, heldN, hflN_s c24] | simp [zsub, heldN, hflN_1 c24 c38] | simp [zsub, heldN, hflN_0 c24 c38]) (ih (i + 1) (by omega) (by omega))
      refine z_iconst hC dX1_heldWith_41 (v := nI 1) rfl ?_
      refine z_goto hC dX1_heldWith_42 (tgt := 49) (by decide) ?_
      refine zVv hC dX1_heldWith_49 zlX1_95 (c_X1_fallAt hr hm hR hi (by have := hR.2.2.2.1; omega)) hr.1 rfl rfl rfl rfl rfl rfl ?_
      refine z_nmul hC dX1_heldWith_52  ?_
      refine z_sipush hC dX1_heldWith_53 (v := nI 1000) rfl ?_
      refine z_ndiv hC dX1_heldWith_56 (by omega) (by omega) (by omega) ?_
      refine z_nsub hC dX1_heldWith_57 (by omega) ?_
      refine z_istore_n hC dX1_heldWith_58 (lo2 := [_, _, _, _, _]) (Nat.le_of_ble_eq_true rfl) rfl rfl ?_
      refine z_ninc hC dX1_heldWith_59 (lo2 := [_, _, _, _, _]) rfl rfl rfl rfl ?_
      refine z_goto hC dX1_heldWith_62 (tgt := 6) (by decide) ?_
      refine z_sub (by first | simp [zsub, heldN, hflN_s c24] | simp [zsub, heldN, hflN_1 c24 c38] | simp [zsub, heldN, hflN_0 c24 c38]) (ih (i + 1) (by omega) (by omega))
  exact z_sub (by simp [zsub, heldN]) (loop6 _ 0 (Nat.lt_succ_self _) (Nat.zero_le _))

theorem c_X1_yardsTo (hr : zRd S r) (hm : zRm r R I X) (hR : ROK R) {b : Nat} (hb : b < R.1 0) : zC0 mX1_yardsTo 3 [zr 3 r, zi (nI b)] (some (zi (nI (sumN (R.2.1 2) (b + 1))))) ad S I X Y sz I X Y := by
  refine zgo (own := RX1) (k := 2) (by decide +kernel) rfl rfl rfl (fun C hC hnm hE => ?_)
  have hn := hR.1
  refine z_iconst hC dX1_yardsTo_0 (v := nI 0) rfl ?_
  refine z_istore_n hC dX1_yardsTo_1 (lo2 := [_, _, _, _]) (Nat.le_of_ble_eq_true rfl) rfl rfl ?_
  refine z_iconst hC dX1_yardsTo_2 (v := nI 0) rfl ?_
  refine z_istore_n hC dX1_yardsTo_3 (lo2 := [_, _, _, _]) (Nat.le_of_ble_eq_true rfl) rfl rfl ?_
  have loop4 : ∀ (fuel : Nat) (i : Nat), b + 1 - i < fuel → i ≤ b + 1 → zL C 4 ad S 0 0 sz I X Y 4 [some (zr 3 r), some (zi (nI b)), some (zi (nI (sumN (R.2.1 2) i))), some (zi (nI i))] [] := by
    intro fuel
    induction fuel with
    | zero => intro i hfu; exact absurd hfu (Nat.not_lt_zero _)
    | succ fuel ih =>
      intro i hfu hib
      refine z_iload_n hC dX1_yardsTo_4 rfl ?_
      refine z_aload_n hC dX1_yardsTo_5 rfl ?_
      refine z_getR hC dX1_yardsTo_6 hr.1 zfX1_14 rfl ?_
      refine z_getN hC dX1_yardsTo_9 hr.2.1 zfX1_56 rfl hm.1.2.1 ?_
      refine z_nicmp_ge hC dX1_yardsTo_12 (tgt := 38) (by decide) (by omega) (by omega) (fun c12 => ?_) (fun c12 => ?_)
      · skip
        refine z_iload_n hC dX1_yardsTo_38 rfl ?_
        refine z_iret hC dX1_yardsTo_39 ?_
        exact hE.to (by rw [show b + 1 = i by omega]) rfl rfl rfl
      refine z_iload_n hC dX1_yardsTo_15 rfl ?_
      refine z_iload_n hC dX1_yardsTo_16 rfl ?_
      refine z_nicmp_gt hC dX1_yardsTo_17 (tgt := 38) (by decide) (by omega) (by omega) (fun c17 => ?_) (fun c17 => ?_)
      · skip
        refine z_iload_n hC dX1_yardsTo_38 rfl ?_
        refine z_iret hC dX1_yardsTo_39 ?_
        exact hE.to (by rw [show b + 1 = i by omega]) rfl rfl rfl
      have hi : i < R.1 0 := by omega
      refine z_iload_n hC dX1_yardsTo_20 rfl ?_
      refine z_aload_n hC dX1_yardsTo_21 rfl ?_
      refine z_getR hC dX1_yardsTo_22 hr.1 zfX1_14 rfl ?_
      refine z_iload_n hC dX1_yardsTo_25 rfl ?_
      refine z_iconst hC dX1_yardsTo_26 (v := nI 2) rfl ?_
      refine zVv hC dX1_yardsTo_27 zlX1_71 (c_bat hr hm hR hi (by decide)) hr.2.1 rfl rfl rfl rfl rfl rfl ?_
      refine z_nadd hC dX1_yardsTo_30  ?_
      refine z_istore_n hC dX1_yardsTo_31 (lo2 := [_, _, _, _]) (Nat.le_of_ble_eq_true rfl) rfl rfl ?_
      refine z_ninc hC dX1_yardsTo_32 (lo2 := [_, _, _, _]) rfl rfl rfl rfl ?_
      refine z_goto hC dX1_yardsTo_35 (tgt := 4) (by decide) ?_
      refine z_sub (by simp [zsub, sumN]) (ih (i + 1) (by omega) (by omega))
  exact z_sub (by simp [zsub, sumN]) (loop4 _ 0 (Nat.lt_succ_self _) (Nat.zero_le _))

theorem c_X1_secondsOf (hr : zRd S r) (hm : zRm r R I X) (hR : ROK R) {i l : Nat} (hi : i < R.1 0) (hl : l ≤ 3) : zC0 mX1_secondsOf 3 [zr 3 r, zi (nI i), zi (nI l)] (some (zi (nI (secN (R.2.1 2 i) l)))) ad S I X Y sz I X Y := by
  refine zgo (own := RX1) (k := 1) (by decide +kernel) rfl rfl rfl (fun C hC hnm hE => ?_)
  have hb := hR.2.2.2.2.2.2.1 i hi
  refine z_aload_n hC dX1_secondsOf_0 rfl ?_
  refine z_getR hC dX1_secondsOf_1 hr.1 zfX1_14 rfl ?_
  refine z_iload_n hC dX1_secondsOf_4 rfl ?_
  refine z_iconst hC dX1_secondsOf_5 (v := nI 2) rfl ?_
  refine zVv hC dX1_secondsOf_6 zlX1_71 (c_bat hr hm hR hi (by decide)) hr.2.1 rfl rfl rfl rfl rfl rfl ?_
  refine z_istore_n hC dX1_secondsOf_9 (lo2 := [_, _, _, _]) (Nat.le_of_ble_eq_true rfl) rfl rfl ?_
  refine z_iload_n hC dX1_secondsOf_10 rfl ?_
  by_cases s11_1 : l = 1
  · refine z_lkK hC dX1_secondsOf_11 (v := nI 1) (by rw [s11_1]) rfl (off := 25) rfl (tgt := 36) (by decide) ?_
    refine z_iload_n hC dX1_secondsOf_36 rfl ?_
    refine z_bipush hC dX1_secondsOf_37 (v := nI 10) rfl ?_
    refine z_ndiv hC dX1_secondsOf_39 (by omega) (by omega) (by omega) ?_
    refine z_iconst hC dX1_secondsOf_40 (v := nI 1) rfl ?_
    refine z_nadd hC dX1_secondsOf_41  ?_
    refine z_iret hC dX1_secondsOf_42 ?_
    exact hE.to (by simp [secN, *]) rfl rfl rfl
  by_cases s11_2 : l = 2
  · refine z_lkK hC dX1_secondsOf_11 (v := nI 2) (by rw [s11_2]) rfl (off := 32) rfl (tgt := 43) (by decide) ?_
    refine z_iload_n hC dX1_secondsOf_43 rfl ?_
    refine z_iconst hC dX1_secondsOf_44 (v := nI 4) rfl ?_
    refine z_ndiv hC dX1_secondsOf_45 (by omega) (by omega) (by omega) ?_
    refine z_iconst hC dX1_secondsOf_46 (v := nI 1) rfl ?_
    refine z_nadd hC dX1_secondsOf_47  ?_
    refine z_iret hC dX1_secondsOf_48 ?_
    exact hE.to (by simp [secN, *]) rfl rfl rfl
  refine z_lookup hC dX1_secondsOf_11 rfl (off := 38) (zlk_out (by rw [nI_toInt (by omega)]; intro q hq; simp at hq; rcases hq with rfl | rfl <;> simp <;> omega)) (tgt := 49) (by decide) ?_
  refine z_iload_n hC dX1_secondsOf_49 rfl ?_
  refine z_iconst hC dX1_secondsOf_50 (v := nI 1) rfl ?_
  refine z_nadd hC dX1_secondsOf_51  ?_
  refine z_iret hC dX1_secondsOf_52 ?_
  exact hE.to (by simp [secN, *]) rfl rfl rfl

theorem c_X1_bendsLookedAt (hr : zRd S r) (hm : zRm r R I X) (hR : ROK R)  : zC0 mX1_bendsLookedAt 3 [zr 3 r] (some (zi (nI (sumN (fun i => if R.2.1 4 i = 100 then 0 else 1) (R.1 0))))) ad S I X Y sz I X Y := by
  refine zgo (own := RX1) (k := 2) (by decide +kernel) rfl rfl rfl (fun C hC hnm hE => ?_)
  have hn := hR.1
  refine z_iconst hC dX1_bendsLookedAt_0 (v := nI 0) rfl ?_
  refine z_istore_n hC dX1_bendsLookedAt_1 (lo2 := [_, _, _]) (Nat.le_of_ble_eq_true rfl) rfl rfl ?_
  refine z_iconst hC dX1_bendsLookedAt_2 (v := nI 0) rfl ?_
  refine z_istore_n hC dX1_bendsLookedAt_3 (lo2 := [_, _, _]) (Nat.le_of_ble_eq_true rfl) rfl rfl ?_
  have loop4 : ∀ (fuel : Nat) (i : Nat), R.1 0 - i < fuel → i ≤ R.1 0 → zL C 3 ad S 0 0 sz I X Y 4 [some (zr 3 r), some (zi (nI (sumN (fun i => if R.2.1 4 i = 100 then 0 else 1) i))), some (zi (nI i))] [] := by
    intro fuel
    induction fuel with
    | zero => intro i hfu; exact absurd hfu (Nat.not_lt_zero _)
    | succ fuel ih =>
      intro i hfu hib
      refine z_iload_n hC dX1_bendsLookedAt_4 rfl ?_
      refine z_aload_n hC dX1_bendsLookedAt_5 rfl ?_
      refine z_getR hC dX1_bendsLookedAt_6 hr.1 zfX1_14 rfl ?_
      refine z_getN hC dX1_bendsLookedAt_9 hr.2.1 zfX1_56 rfl hm.1.2.1 ?_
      refine z_nicmp_ge hC dX1_bendsLookedAt_12 (tgt := 38) (by decide) (by omega) (by omega) (fun c12 => ?_) (fun c12 => ?_)
      · skip
        refine z_iload_n hC dX1_bendsLookedAt_38 rfl ?_
        refine z_iret hC dX1_bendsLookedAt_39 ?_
        exact hE.to (by rw [show R.1 0 = i by omega]) rfl rfl rfl
      have hi : i < R.1 0 := by omega
      have hb := hR.2.2.2.2.2.2.1 i hi
      refine z_aload_n hC dX1_bendsLookedAt_15 rfl ?_
      refine z_getR hC dX1_bendsLookedAt_16 hr.1 zfX1_14 rfl ?_
      refine z_iload_n hC dX1_bendsLookedAt_19 rfl ?_
      refine z_iconst hC dX1_bendsLookedAt_20 (v := nI 4) rfl ?_
      refine zVv hC dX1_bendsLookedAt_21 zlX1_71 (c_bat hr hm hR hi (by decide)) hr.2.1 rfl rfl rfl rfl rfl rfl ?_
      refine z_bipush hC dX1_bendsLookedAt_24 (v := nI 100) rfl ?_
      refine z_nicmp_eq hC dX1_bendsLookedAt_26 (tgt := 32) (by decide) (by omega) (by omega) (fun c26 => ?_) (fun c26 => ?_)
      · skip
        refine z_ninc hC dX1_bendsLookedAt_32 (lo2 := [_, _, _]) rfl rfl rfl rfl ?_
        refine z_goto hC dX1_bendsLookedAt_35 (tgt := 4) (by decide) ?_
        refine z_sub (by simp [zsub, sumN, c26]) (ih (i + 1) (by omega) (by omega))
      refine z_ninc hC dX1_bendsLookedAt_29 (lo2 := [_, _, _]) rfl rfl rfl rfl ?_
      refine z_ninc hC dX1_bendsLookedAt_32 (lo2 := [_, _, _]) rfl rfl rfl rfl ?_
      refine z_goto hC dX1_bendsLookedAt_35 (tgt := 4) (by decide) ?_
      refine z_sub (by simp [zsub, sumN, c26]) (ih (i + 1) (by omega) (by omega))
  exact z_sub (by simp [zsub, sumN]) (loop4 _ 0 (Nat.lt_succ_self _) (Nat.zero_le _))

end
