/-! the reference: what its calls share -/
def zQm (b : Nat) (R : RS) (I X : zI) : Prop := (I b 0 9 = nI (R.1 0) ∧ I b 0 15 = nI (R.1 1) ∧ I b 0 19 = nI (R.1 2) ∧ I b 0 23 = nI (R.1 3) ∧ I b 0 24 = nI (R.1 4) ∧ I b 0 25 = nI (R.1 5) ∧ I b 0 26 = R.2.2.1 ∧ I b 0 27 = R.2.2.2) ∧ (∀ j i, j < 5 → i < R.1 0 → X b (17 + j) i = nI (R.2.1 j i)) ∧ (∀ j i, j < 3 → i < R.1 1 → X b (22 + j) i = nI (R.2.1 (5 + j) i)) ∧ ∀ j i, j < 3 → i < R.1 2 → X b (25 + j) i = nI (R.2.1 (8 + j) i)
theorem zQm.frame {b : Nat} {R : RS} {I X I' X' : zI} (h : zQm b R I X) (hI : ∀ j, 9 ≤ j → j ≤ 27 → I' b 0 j = I b 0 j) (hX : ∀ k j, 17 ≤ k → k ≤ 27 → X' b k j = X b k j) : zQm b R I' X' := by
  obtain ⟨⟨a1, a2, a3, a4, a5, a6, a7, a8⟩, h2, h3, h4⟩ := h
  refine ⟨⟨?_, ?_, ?_, ?_, ?_, ?_, ?_, ?_⟩, fun j i hj hi => ?_, fun j i hj hi => ?_, fun j i hj hi => ?_⟩
  all_goals first | (rw [hI _ (by omega) (by omega)]; assumption) | (rw [hX _ _ (by omega) (by omega)]; first | exact h2 j i hj hi | exact h3 j i hj hi | exact h4 j i hj hi)
theorem lcl {x y : Int64} : lg_cmp x y < 0 ↔ x < y := by
  unfold lg_cmp
  by_cases c1 : x > y
  · rw [if_pos c1]; exact ⟨fun h => absurd h (by decide), fun h => absurd (Int64.lt_trans h c1) (Int64.lt_irrefl)⟩
  · rw [if_neg c1]
    by_cases c2 : x = y
    · rw [if_pos c2]; exact ⟨fun h => absurd h (by decide), fun h => by subst c2; exact absurd h (Int64.lt_irrefl)⟩
    · rw [if_neg c2]; exact ⟨fun _ => Int64.lt_of_le_of_ne (Int64.not_lt.mp c1) c2, fun _ => by decide⟩
theorem lcg {x y : Int64} : 0 < lg_cmp x y ↔ y < x := by
  unfold lg_cmp
  by_cases c1 : x > y
  · rw [if_pos c1]; exact ⟨fun _ => c1, fun _ => by decide⟩
  · rw [if_neg c1]
    refine ⟨fun h => ?_, fun h => absurd h c1⟩
    by_cases c2 : x = y
    · rw [if_pos c2] at h; exact absurd h (by decide)
    · rw [if_neg c2] at h; exact absurd h (by decide)
theorem i2l_le {x : Int32} {n : Nat} (hn : n < 2 ^ 31) : x.toInt64 ≤ lN n ↔ x ≤ nI n := by
  rw [Int64.le_iff_toInt_le, Int32.le_iff_toInt_le, Int32.toInt_toInt64, pk_lT (by omega), nI_toInt hn]
theorem i2l_ge {x : Int32} {n : Nat} (hn : n < 2 ^ 31) : lN n ≤ x.toInt64 ↔ nI n ≤ x := by
  rw [Int64.le_iff_toInt_le, Int32.le_iff_toInt_le, Int32.toInt_toInt64, pk_lT (by omega), nI_toInt hn]
theorem i2l_pr {n : Nat} (hn : n < 2 ^ 31) {v : Int64} : v ≤ (nI n - nI 1).toInt64 ↔ v < lN n := by
  by_cases h0 : n = 0
  · subst h0
    rw [nI_prd0, Int64.le_iff_toInt_le, Int64.lt_iff_toInt_lt]
    have : ((-1 : Int32).toInt64).toInt = -1 := by decide
    have h2 : (lN 0).toInt = 0 := by decide
    rw [this, h2]; omega
  · obtain ⟨k, rfl⟩ : ∃ k, n = k + 1 := ⟨n - 1, by omega⟩
    rw [nI_prd, nI_l (by omega), Int64.le_iff_toInt_le, Int64.lt_iff_toInt_lt, pk_lT (by omega), pk_lT (by omega)]
    omega
theorem i2l_lt {x : Int32} {n : Nat} (hn : n < 2 ^ 31) : x.toInt64 < lN n ↔ x < nI n := by
  rw [Int64.lt_iff_toInt_lt, Int32.lt_iff_toInt_lt, Int32.toInt_toInt64, pk_lT (by omega), nI_toInt hn]
def rmX (b j : Nat) (X : zI) : zI := up3 X b 16 (2 + j) (X b 16 (2 + j) + nI 1)
theorem zb_iff {p q : Prop} {hp : Decidable p} {hq : Decidable q} (h : p ↔ q) : zb p hp = zb q hq := by
  by_cases c : p
  · rw [zb_1 c, zb_1 (h.mp c)]
  · rw [zb_0 c, zb_0 (fun z => c (h.mpr z))]

section
variable {ad : zA} {S : zSh} {I X : zI} {Y : zY} {sz b : Nat} {R : RS}

theorem c_X7_in {v x y : Int64} : zC0 mX7_in 0 [zl v, zl x, zl y] (some (zi (zb (x ≤ v ∧ v ≤ y) inferInstance))) ad S I X Y sz I X Y := by
  refine zgo (own := RX7) (k := 0) (by decide +kernel) rfl rfl rfl (fun C hC hnm hE => ?_)
  refine z_lload_n hC dX7_in_0 rfl ?_
  refine z_lload_n hC dX7_in_1 rfl ?_
  refine z_lcmp hC dX7_in_2  ?_
  refine z_if_lt hC dX7_in_3 (tgt := 17) (by decide) (fun c3 => ?_) (fun c3 => ?_)
  · skip
    refine z_iconst hC dX7_in_17 (v := nI 0) rfl ?_
    refine z_zret hC dX7_in_18 rfl ?_
    exact hE.to (by first | exact zbT ⟨Int64.not_lt.mp (fun z => c3 (lcl.mpr z)), Int64.not_lt.mp (fun z => c10 (lcg.mpr z))⟩ | exact zbF (fun z => absurd z.1 (Int64.not_le.mpr (lcl.mp c3))) | exact zbF (fun z => absurd z.2 (Int64.not_le.mpr (lcg.mp c10)))) rfl rfl rfl
  refine z_lload_n hC dX7_in_6 rfl ?_
  refine z_lload hC dX7_in_7 rfl ?_
  refine z_lcmp hC dX7_in_9  ?_
  refine z_if_gt hC dX7_in_10 (tgt := 17) (by decide) (fun c10 => ?_) (fun c10 => ?_)
  · skip
    refine z_iconst hC dX7_in_17 (v := nI 0) rfl ?_
    refine z_zret hC dX7_in_18 rfl ?_
    exact hE.to (by first | exact zbT ⟨Int64.not_lt.mp (fun z => c3 (lcl.mpr z)), Int64.not_lt.mp (fun z => c10 (lcg.mpr z))⟩ | exact zbF (fun z => absurd z.1 (Int64.not_le.mpr (lcl.mp c3))) | exact zbF (fun z => absurd z.2 (Int64.not_le.mpr (lcg.mp c10)))) rfl rfl rfl
  refine z_iconst hC dX7_in_13 (v := nI 1) rfl ?_
  refine z_goto hC dX7_in_14 (tgt := 18) (by decide) ?_
  refine z_zret hC dX7_in_18 rfl ?_
  exact hE.to (by first | exact zbT ⟨Int64.not_lt.mp (fun z => c3 (lcl.mpr z)), Int64.not_lt.mp (fun z => c10 (lcg.mpr z))⟩ | exact zbF (fun z => absurd z.1 (Int64.not_le.mpr (lcl.mp c3))) | exact zbF (fun z => absurd z.2 (Int64.not_le.mpr (lcg.mp c10)))) rfl rfl rfl

theorem c_X7_inN {v x y : Nat} (hv : v < 2 ^ 63) (hx : x < 2 ^ 63) (hy : y < 2 ^ 63) : zC0 mX7_in 0 [zl (lN v), zl (lN x), zl (lN y)] (some (zi (zb (x ≤ v ∧ v ≤ y) inferInstance))) ad S I X Y sz I X Y := by
  have h := c_X7_in (ad := ad) (S := S) (I := I) (X := X) (Y := Y) (sz := sz) (v := lN v) (x := lN x) (y := lN y)
  rwa [zb_iff (q := x ≤ v ∧ v ≤ y) (hq := inferInstance) (and_congr (pk_lLE hx hv) (pk_lLE hv hy))] at h
theorem c_X7_inI {v : Int32} {x y : Nat} (hx : x < 2 ^ 31) (hy : y < 2 ^ 31) : zC0 mX7_in 0 [zl v.toInt64, zl (lN x), zl (lN y)] (some (zi (zb (iw v x y) inferInstance))) ad S I X Y sz I X Y := by
  have h := c_X7_in (ad := ad) (S := S) (I := I) (X := X) (Y := Y) (sz := sz) (v := v.toInt64) (x := lN x) (y := lN y)
  rwa [zb_iff (q := iw v x y) (hq := inferInstance) (and_congr (i2l_ge hx) (i2l_le hy))] at h
theorem c_X7_inP {v : Int64} {n : Nat} (hn : n < 2 ^ 31) : zC0 mX7_in 0 [zl v, zl (lN 0), zl ((nI n - nI 1).toInt64)] (some (zi (zb (lN 0 ≤ v ∧ v < lN n) inferInstance))) ad S I X Y sz I X Y := by
  have h := c_X7_in (ad := ad) (S := S) (I := I) (X := X) (Y := Y) (sz := sz) (v := v) (x := lN 0) (y := (nI n - nI 1).toInt64)
  rwa [zb_iff (q := lN 0 ≤ v ∧ v < lN n) (hq := inferInstance) (and_congr Iff.rfl (i2l_pr hn))] at h
theorem c_X7_inB {v : Int32} {n : Nat} (hn : n < 2 ^ 31) : zC0 mX7_in 0 [zl v.toInt64, zl (lN 0), zl ((nI n - nI 1).toInt64)] (some (zi (zb (inB v n) inferInstance))) ad S I X Y sz I X Y := by
  have h := c_X7_inP (ad := ad) (S := S) (I := I) (X := X) (Y := Y) (sz := sz) (v := v.toInt64) hn
  rwa [zb_iff (q := inB v n) (hq := inferInstance) (and_congr (i2l_ge (n := 0) (by decide)) (i2l_lt hn))] at h
theorem c_X7_isBend (hS : ∀ k, S b k = msh b k) (hm : zQm b R I X) (hR : ROK R) {v : Int64} : zC0 mX7_isBend 1 [zr b 0, zl v] (some (zi (zb (lN 0 ≤ v ∧ v < lN (R.1 0)) inferInstance))) ad S I X Y sz I X Y := by
  refine zgo (own := RX7) (k := 0) (by decide +kernel) rfl rfl rfl (fun C hC hnm hE => ?_)
  have hmo := hm
  have hn14 := hR.1
  have hn8 := hR.2.1
  have hn6 := hR.2.2.1
  refine z_lload_n hC dX7_isBend_0 rfl ?_
  refine z_lconst hC dX7_isBend_1 (v := lN 0) rfl ?_
  refine z_aload_n hC dX7_isBend_2 rfl ?_
  refine z_getN hC dX7_isBend_3 (hS _) zfX7_94 rfl hm.1.1 ?_
  refine z_iconst hC dX7_isBend_6 (v := nI 1) rfl ?_
  refine z_isub hC dX7_isBend_7  ?_
  refine z_i2l hC dX7_isBend_8  ?_
  refine wSv hC dX7_isBend_9 zlX7_97 (c_X7_inP (by omega)) rfl rfl rfl rfl ⟨rfl, rfl⟩ ?_
  refine z_zret hC dX7_isBend_12 zb_n ?_
  exact hE.to (by rfl) rfl rfl rfl

theorem c_X7_isBendI (hS : ∀ k, S b k = msh b k) (hm : zQm b R I X) (hR : ROK R) {v : Int32} : zC0 mX7_isBend 1 [zr b 0, zl v.toInt64] (some (zi (zb (inB v (R.1 0)) inferInstance))) ad S I X Y sz I X Y := by
  have hn14 := hR.1
  have h := c_X7_isBend (ad := ad) (Y := Y) (sz := sz) hS hm hR (v := v.toInt64)
  rwa [zb_iff (q := inB v (R.1 0)) (hq := inferInstance) (and_congr (i2l_ge (n := 0) (by decide)) (i2l_lt (by omega)))] at h
theorem c_X7_isBendN (hS : ∀ k, S b k = msh b k) (hm : zQm b R I X) (hR : ROK R) {v : Nat} (hv : v < 2 ^ 63) : zC0 mX7_isBend 1 [zr b 0, zl (lN v)] (some (zi (zb (v < R.1 0) inferInstance))) ad S I X Y sz I X Y := by
  have hn14 := hR.1
  have h := c_X7_isBend (ad := ad) (Y := Y) (sz := sz) hS hm hR (v := lN v)
  rwa [zb_iff (q := v < R.1 0) (hq := inferInstance) ⟨fun z => (pk_lLT hv (by omega)).mp z.2, fun z => ⟨(pk_lLE (a := 0) (by decide) hv).mpr (Nat.zero_le _), (pk_lLT hv (by omega)).mpr z⟩⟩] at h
theorem c_X7_isLookI {v : Int32} : zC0 mX7_isLook 1 [zi v] (some (zi (zb (iw v 1 3) inferInstance))) ad S I X Y sz I X Y := by
  refine zgo (own := RX7) (k := 0) (by decide +kernel) rfl rfl rfl (fun C hC hnm hE => ?_)
  refine z_iload_n hC dX7_isLook_0 rfl ?_
  refine z_i2l hC dX7_isLook_1  ?_
  refine z_lconst hC dX7_isLook_2 (v := lN 1) rfl ?_
  refine z_ldc2 hC dX7_isLook_3 (v := lN 3) (zin6 (i := 135) rfl rfl) ?_
  refine wSv hC dX7_isLook_6 zlX7_97 (c_X7_inI (by omega) (by omega)) rfl rfl rfl rfl ⟨rfl, rfl⟩ ?_
  refine z_zret hC dX7_isLook_9 zb_n ?_
  exact hE.to (by rfl) rfl rfl rfl

theorem c_X7_isLookN {v : Nat} (hv : v < 2 ^ 31) : zC0 mX7_isLook 1 [zi (nI v)] (some (zi (zb (1 ≤ v ∧ v ≤ 3) inferInstance))) ad S I X Y sz I X Y := by
  have h := c_X7_isLookI (ad := ad) (S := S) (I := I) (X := X) (Y := Y) (sz := sz) (v := nI v)
  rwa [zb_iff (q := 1 ≤ v ∧ v ≤ 3) (hq := inferInstance) (and_congr (nI_leI (by decide) hv) (nI_leI hv (by decide)))] at h
theorem c_X7_sees {l : Nat} (hl : l ≤ 3) : zC0 mX7_sees 0 [zi (nI l)] (some (zi (nI (30 * l)))) ad S I X Y sz I X Y := by
  refine zgo (own := RX7) (k := 0) (by decide +kernel) rfl rfl rfl (fun C hC hnm hE => ?_)
  refine z_bipush hC dX7_sees_0 (v := nI 30) rfl ?_
  refine z_iload_n hC dX7_sees_2 rfl ?_
  refine z_nmul hC dX7_sees_3  ?_
  refine z_iret hC dX7_sees_4 ?_
  exact hE.to (by rfl) rfl rfl rfl

theorem c_X7_part {x y : Nat} (hx : x ≤ 20000000) (hy : y ≤ 100) : zC0 mX7_part 0 [zi (nI x), zi (nI y)] (some (zi (nI (x * y / 100)))) ad S I X Y sz I X Y := by
  refine zgo (own := RX7) (k := 0) (by decide +kernel) rfl rfl rfl (fun C hC hnm hE => ?_)
  have hxy : x * y ≤ 20000000 * 100 := Nat.mul_le_mul hx hy
  refine z_iload_n hC dX7_part_0 rfl ?_
  refine z_n2m hC dX7_part_1 (by omega) ?_
  refine z_iload_n hC dX7_part_2 rfl ?_
  refine z_n2m hC dX7_part_3 (by omega) ?_
  refine z_mmul hC dX7_part_4  ?_
  refine z_ldc2 hC dX7_part_5 (v := lN 100) (zin5 (i := 183) rfl rfl) ?_
  refine z_mdiv hC dX7_part_8 (by omega) (by omega) (by omega) ?_
  refine z_m2n hC dX7_part_9  ?_
  refine z_iret hC dX7_part_10 ?_
  exact hE.to (by rfl) rfl rfl rfl

theorem c_X7_has {m i : Nat} (hm : m < 2 ^ 31) (hi : i < 32) : zC0 mX7_has 0 [zi (nI m), zi (nI i)] (some (zi (zb (bitN m i) inferInstance))) ad S I X Y sz I X Y := by
  refine zgo (own := RX7) (k := 0) (by decide +kernel) rfl rfl rfl (fun C hC hnm hE => ?_)
  refine z_iload_n hC dX7_has_0 rfl ?_
  refine z_iload_n hC dX7_has_1 rfl ?_
  refine z_ishr hC dX7_has_2  ?_
  refine z_iconst hC dX7_has_3 (v := nI 1) rfl ?_
  refine z_iand hC dX7_has_4  ?_
  rw [zbit hm hi]
  have hq : m / 2 ^ i % 2 < 2 := Nat.mod_lt _ (by decide)
  refine z_nif_eq hC dX7_has_5 (tgt := 12) (by decide) (by omega) (fun c5 => ?_) (fun c5 => ?_)
  · skip
    refine z_iconst hC dX7_has_12 (v := nI 0) rfl ?_
    refine z_zret hC dX7_has_13 rfl ?_
    exact hE.to (by first | exact zbT (by omega) | exact zbF (by omega)) rfl rfl rfl
  refine z_iconst hC dX7_has_8 (v := nI 1) rfl ?_
  refine z_goto hC dX7_has_9 (tgt := 13) (by decide) ?_
  refine z_zret hC dX7_has_13 rfl ?_
  exact hE.to (by first | exact zbT (by omega) | exact zbF (by omega)) rfl rfl rfl

theorem c_X7_bits {t : Nat} (ht : t < 2 ^ 14) : zC0 mX7_bits 0 [zi (nI t)] (some (zi (nI (pcN 14 t)))) ad S I X Y sz I X Y := by
  refine zgo (own := RX7) (k := 2) (by decide +kernel) rfl rfl rfl (fun C hC hnm hE => ?_)
  refine z_iconst hC dX7_bits_0 (v := nI 0) rfl ?_
  refine z_istore_n hC dX7_bits_1 (lo2 := [_, _, _]) (Nat.le_of_ble_eq_true rfl) rfl rfl ?_
  refine z_iload_n hC dX7_bits_2 rfl ?_
  refine z_istore_n hC dX7_bits_3 (lo2 := [_, _, _]) (Nat.le_of_ble_eq_true rfl) rfl rfl ?_
  have loop4 : ∀ (fuel : Nat) (m u : Nat), u < fuel → u < 2 ^ 14 → m + pcN 14 u = pcN 14 t → zL C 3 ad S 0 0 sz I X Y 4 [some (zi (nI t)), some (zi (nI m)), some (zi (nI u))] [] := by
    intro fuel
    induction fuel with
    | zero => intro m u hfu; exact absurd hfu (Nat.not_lt_zero _)
    | succ fuel ih =>
      intro m u hfu hu hmu
      refine z_iload_n hC dX7_bits_4 rfl ?_
      refine z_nif_eq hC dX7_bits_5 (tgt := 20) (by decide) (by omega) (fun c5 => ?_) (fun c5 => ?_)
      · skip
        obtain rfl : u = 0 := by omega
        have hz0 : pcN 14 0 = 0 := by decide
        refine z_iload_n hC dX7_bits_20 rfl ?_
        refine z_iret hC dX7_bits_21 ?_
        exact hE.to (by rw [show m = pcN 14 t by omega]) rfl rfl rfl
      refine z_ninc hC dX7_bits_8 (lo2 := [_, _, _]) rfl rfl rfl rfl ?_
      refine z_iload_n hC dX7_bits_11 rfl ?_
      refine z_iload_n hC dX7_bits_12 rfl ?_
      refine z_iconst hC dX7_bits_13 (v := nI 1) rfl ?_
      refine z_isub hC dX7_bits_14  ?_
      refine z_iand hC dX7_bits_15  ?_
      rw [(bcS (by omega) hu).1]
      have hbs := bcS (show 0 < u by omega) hu
      refine z_istore_n hC dX7_bits_16 (lo2 := [_, _, _]) (Nat.le_of_ble_eq_true rfl) rfl rfl ?_
      refine z_goto hC dX7_bits_17 (tgt := 4) (by decide) ?_
      exact ih (m + 1) (u &&& (u - 1)) (by omega) (by omega) (by omega)
  exact loop4 _ 0 t (Nat.lt_succ_self _) ht (by omega)

theorem c_X7_refuse (hS : ∀ k, S b k = msh b k) {v : Int32} {j : Nat} (hj : j < 5) (hv : -v = nI (2 + j)) : zC0 mX7_refuse 0 [zr b 0, zi v] (some (zi v)) ad S I X Y sz I (rmX b j X) Y := by
  refine zgo (own := RX7) (k := 0) (by decide +kernel) rfl rfl rfl (fun C hC hnm hE => ?_)
  refine z_aload_n hC dX7_refuse_0 rfl ?_
  refine z_getR hC dX7_refuse_1 (hS _) zfX7_34 rfl ?_
  refine z_iload_n hC dX7_refuse_4 rfl ?_
  refine z_ineg hC dX7_refuse_5  ?_
  rw [hv]
  refine z_dup2 hC dX7_refuse_6 rfl rfl ?_
  refine z_nald hC dX7_refuse_7 (hS _) (by omega) rfl ?_
  refine z_iconst hC dX7_refuse_8 (v := nI 1) rfl ?_
  refine z_iadd hC dX7_refuse_9  ?_
  refine z_niast hC dX7_refuse_10 (hS _) (by omega) rfl ?_
  refine z_iload_n hC dX7_refuse_11 rfl ?_
  refine z_iret hC dX7_refuse_12 ?_
  exact hE.to (by rfl) rfl rfl rfl

theorem c_X7_yardsTo (hS : ∀ k, S b k = msh b k) (hm : zQm b R I X) (hR : ROK R) {x : Nat} (hx : x < R.1 0) : zC0 mX7_yardsTo 0 [zr b 0, zi (nI x)] (some (zi (nI (sumN (R.2.1 2) (x + 1))))) ad S I X Y sz I X Y := by
  refine zgo (own := RX7) (k := 2) (by decide +kernel) rfl rfl rfl (fun C hC hnm hE => ?_)
  have hmo := hm
  have hn14 := hR.1
  have hn8 := hR.2.1
  have hn6 := hR.2.2.1
  refine z_iconst hC dX7_yardsTo_0 (v := nI 0) rfl ?_
  refine z_istore_n hC dX7_yardsTo_1 (lo2 := [_, _, _, _]) (Nat.le_of_ble_eq_true rfl) rfl rfl ?_
  refine z_iconst hC dX7_yardsTo_2 (v := nI 0) rfl ?_
  refine z_istore_n hC dX7_yardsTo_3 (lo2 := [_, _, _, _]) (Nat.le_of_ble_eq_true rfl) rfl rfl ?_
  have loop4 : ∀ (fuel : Nat) (i : Nat), x + 1 - i < fuel → i ≤ x + 1 → zL C 4 ad S 0 0 sz I X Y 4 [some (zr b 0), some (zi (nI x)), some (zi (nI (sumN (R.2.1 2) i))), some (zi (nI i))] [] := by
    intro fuel
    induction fuel with
    | zero => intro i hfu; exact absurd hfu (Nat.not_lt_zero _)
    | succ fuel ih =>
      intro i hfu hi
      refine z_iload_n hC dX7_yardsTo_4 rfl ?_
      refine z_iload_n hC dX7_yardsTo_5 rfl ?_
      refine z_nicmp_gt hC dX7_yardsTo_6 (tgt := 24) (by decide) (by omega) (by omega) (fun c6 => ?_) (fun c6 => ?_)
      · skip
        refine z_iload_n hC dX7_yardsTo_24 rfl ?_
        refine z_iret hC dX7_yardsTo_25 ?_
        exact hE.to (by rw [show x + 1 = i by omega]) rfl rfl rfl
      refine z_iload_n hC dX7_yardsTo_9 rfl ?_
      refine z_aload_n hC dX7_yardsTo_10 rfl ?_
      refine z_getR hC dX7_yardsTo_11 (hS _) zfX7_43 rfl ?_
      refine z_iload_n hC dX7_yardsTo_14 rfl ?_
      refine z_naldN hC dX7_yardsTo_15 (hS _) (by omega) rfl (show _ = nI (R.2.1 2 _) from hm.2.1 2 _ (by decide) (by omega)) ?_
      refine z_nadd hC dX7_yardsTo_16  ?_
      refine z_istore_n hC dX7_yardsTo_17 (lo2 := [_, _, _, _]) (Nat.le_of_ble_eq_true rfl) rfl rfl ?_
      refine z_ninc hC dX7_yardsTo_18 (lo2 := [_, _, _, _]) rfl rfl rfl rfl ?_
      refine z_goto hC dX7_yardsTo_21 (tgt := 4) (by decide) ?_
      exact ih (i + 1) (by omega) (by omega)
  exact loop4 _ 0 (Nat.lt_succ_self _) (Nat.zero_le _)

theorem c_X7_fallOf (hS : ∀ k, S b k = msh b k) (hm : zQm b R I X) (hR : ROK R) {i v : Nat} (hi : i < R.1 0) (hv : v ≤ 9) : zC0 mX7_fallOf 0 [zr b 0, zi (nI i), zi (nI v)] (some (zi (nI (rfall R v i)))) ad S I X Y sz I X Y := by
  refine zgo (own := RX7) (k := 3) (by decide +kernel) rfl rfl rfl (fun C hC hnm hE => ?_)
  have hmo := hm
  have hn14 := hR.1
  have hn8 := hR.2.1
  have hn6 := hR.2.2.1
  have hb := hR.2.2.2.2.2.2.1 i hi
  have hw1 := hR.2.2.2.2.1
  have hg1 := hR.2.2.2.2.2.1
  have hp1 : R.2.1 1 i * v ≤ 9 * 9 := Nat.mul_le_mul hb.2.1 hv
  have hp2 : v * v ≤ 9 * 9 := Nat.mul_le_mul hv hv
  have hq : ∀ q, q ≤ 344 → q * (10 - R.1 5) ≤ 344 * 10 := fun q h => Nat.mul_le_mul h (by omega)
  refine z_aload_n hC dX7_fallOf_0 rfl ?_
  refine z_getR hC dX7_fallOf_1 (hS _) zfX7_40 rfl ?_
  refine z_iload_n hC dX7_fallOf_4 rfl ?_
  refine z_naldN hC dX7_fallOf_5 (hS _) (by omega) rfl (show _ = nI (R.2.1 1 _) from hm.2.1 1 _ (by decide) (by omega)) ?_
  refine z_iload_n hC dX7_fallOf_6 rfl ?_
  refine z_nmul hC dX7_fallOf_7  ?_
  refine z_istore_n hC dX7_fallOf_8 (lo2 := [_, _, _, _, _, _]) (Nat.le_of_ble_eq_true rfl) rfl rfl ?_
  refine z_aload_n hC dX7_fallOf_9 rfl ?_
  refine z_getN hC dX7_fallOf_10 (hS _) zfX7_144 rfl hm.1.2.2.2.2.1 ?_
  refine z_iconst hC dX7_fallOf_13 (v := nI 1) rfl ?_
  refine z_nicmp_ne hC dX7_fallOf_14 (tgt := 22) (by decide) (by omega) (by omega) (fun c14 => ?_) (fun c14 => ?_)
  · skip
    have hw : R.1 4 = 0 := by omega
    refine z_iconst hC dX7_fallOf_22 (v := nI 0) rfl ?_
    refine z_istore hC dX7_fallOf_23 (lo2 := [_, _, _, _, _, _]) (Nat.le_of_ble_eq_true rfl) rfl rfl ?_
    refine z_aload_n hC dX7_fallOf_25 rfl ?_
    refine z_getR hC dX7_fallOf_26 (hS _) zfX7_37 rfl ?_
    refine z_iload_n hC dX7_fallOf_29 rfl ?_
    refine z_naldN hC dX7_fallOf_30 (hS _) (by omega) rfl (show _ = nI (R.2.1 0 _) from hm.2.1 0 _ (by decide) (by omega)) ?_
    by_cases s31_1 : R.2.1 0 i = 1
    · refine z_tabK hC dX7_fallOf_31 (v := nI 1) (by rw [s31_1]) rfl rfl (tgt := 64) (by decide) ?_
      refine z_iload_n hC dX7_fallOf_64 rfl ?_
      refine z_iload_n hC dX7_fallOf_65 rfl ?_
      refine z_iload_n hC dX7_fallOf_66 rfl ?_
      refine z_nmul hC dX7_fallOf_67  ?_
      refine z_nadd hC dX7_fallOf_68  ?_
      refine z_istore hC dX7_fallOf_69 (lo2 := [_, _, _, _, _, _]) (Nat.le_of_ble_eq_true rfl) rfl rfl ?_
      refine z_goto hC dX7_fallOf_71 (tgt := 118) (by decide) ?_
      refine z_iload hC dX7_fallOf_118 rfl ?_
      refine z_iload hC dX7_fallOf_120 rfl ?_
      refine z_nadd hC dX7_fallOf_122  ?_
      refine z_bipush hC dX7_fallOf_123 (v := nI 10) rfl ?_
      refine z_aload_n hC dX7_fallOf_125 rfl ?_
      refine z_getN hC dX7_fallOf_126 (hS _) zfX7_147 rfl hm.1.2.2.2.2.2.1 ?_
      refine z_nsub hC dX7_fallOf_129 (by omega) ?_
      refine z_nmul hC dX7_fallOf_130  ?_
      refine z_bipush hC dX7_fallOf_131 (v := nI 10) rfl ?_
      refine z_ndiv hC dX7_fallOf_133 (Nat.lt_of_le_of_lt (hq _ (by omega)) (by decide)) (by omega) (by omega) ?_
      refine z_iret hC dX7_fallOf_134 ?_
      exact hE.to (by simp [rfall, fallN, dryN, *]) rfl rfl rfl
    by_cases s31_2 : R.2.1 0 i = 2
    · refine z_tabK hC dX7_fallOf_31 (v := nI 2) (by rw [s31_2]) rfl rfl (tgt := 86) (by decide) ?_
      refine z_bipush hC dX7_fallOf_86 (v := nI 10) rfl ?_
      refine z_iload_n hC dX7_fallOf_88 rfl ?_
      refine z_nadd hC dX7_fallOf_89  ?_
      refine z_istore hC dX7_fallOf_90 (lo2 := [_, _, _, _, _, _]) (Nat.le_of_ble_eq_true rfl) rfl rfl ?_
      refine z_goto hC dX7_fallOf_92 (tgt := 118) (by decide) ?_
      refine z_iload hC dX7_fallOf_118 rfl ?_
      refine z_iload hC dX7_fallOf_120 rfl ?_
      refine z_nadd hC dX7_fallOf_122  ?_
      refine z_bipush hC dX7_fallOf_123 (v := nI 10) rfl ?_
      refine z_aload_n hC dX7_fallOf_125 rfl ?_
      refine z_getN hC dX7_fallOf_126 (hS _) zfX7_147 rfl hm.1.2.2.2.2.2.1 ?_
      refine z_nsub hC dX7_fallOf_129 (by omega) ?_
      refine z_nmul hC dX7_fallOf_130  ?_
      refine z_bipush hC dX7_fallOf_131 (v := nI 10) rfl ?_
      refine z_ndiv hC dX7_fallOf_133 (Nat.lt_of_le_of_lt (hq _ (by omega)) (by decide)) (by omega) (by omega) ?_
      refine z_iret hC dX7_fallOf_134 ?_
      exact hE.to (by simp [rfall, fallN, dryN, *]) rfl rfl rfl
    by_cases s31_3 : R.2.1 0 i = 3
    · refine z_tabK hC dX7_fallOf_31 (v := nI 3) (by rw [s31_3]) rfl rfl (tgt := 74) (by decide) ?_
      refine z_iconst hC dX7_fallOf_74 (v := nI 2) rfl ?_
      refine z_iload_n hC dX7_fallOf_75 rfl ?_
      refine z_iload_n hC dX7_fallOf_76 rfl ?_
      refine z_iload_n hC dX7_fallOf_77 rfl ?_
      refine z_nmul hC dX7_fallOf_78  ?_
      refine z_nadd hC dX7_fallOf_79  ?_
      refine z_nmul hC dX7_fallOf_80  ?_
      refine z_istore hC dX7_fallOf_81 (lo2 := [_, _, _, _, _, _]) (Nat.le_of_ble_eq_true rfl) rfl rfl ?_
      refine z_goto hC dX7_fallOf_83 (tgt := 118) (by decide) ?_
      refine z_iload hC dX7_fallOf_118 rfl ?_
      refine z_iload hC dX7_fallOf_120 rfl ?_
      refine z_nadd hC dX7_fallOf_122  ?_
      refine z_bipush hC dX7_fallOf_123 (v := nI 10) rfl ?_
      refine z_aload_n hC dX7_fallOf_125 rfl ?_
      refine z_getN hC dX7_fallOf_126 (hS _) zfX7_147 rfl hm.1.2.2.2.2.2.1 ?_
      refine z_nsub hC dX7_fallOf_129 (by omega) ?_
      refine z_nmul hC dX7_fallOf_130  ?_
      refine z_bipush hC dX7_fallOf_131 (v := nI 10) rfl ?_
      refine z_ndiv hC dX7_fallOf_133 (Nat.lt_of_le_of_lt (hq _ (by omega)) (by decide)) (by omega) (by omega) ?_
      refine z_iret hC dX7_fallOf_134 ?_
      exact hE.to (by simp [rfall, fallN, dryN, *]) rfl rfl rfl
    by_cases s31_4 : R.2.1 0 i = 4
    · refine z_tabK hC dX7_fallOf_31 (v := nI 4) (by rw [s31_4]) rfl rfl (tgt := 95) (by decide) ?_
      refine z_bipush hC dX7_fallOf_95 (v := nI 30) rfl ?_
      refine z_iload_n hC dX7_fallOf_97 rfl ?_
      refine z_nadd hC dX7_fallOf_98  ?_
      refine z_istore hC dX7_fallOf_99 (lo2 := [_, _, _, _, _, _]) (Nat.le_of_ble_eq_true rfl) rfl rfl ?_
      refine z_goto hC dX7_fallOf_101 (tgt := 118) (by decide) ?_
      refine z_iload hC dX7_fallOf_118 rfl ?_
      refine z_iload hC dX7_fallOf_120 rfl ?_
      refine z_nadd hC dX7_fallOf_122  ?_
      refine z_bipush hC dX7_fallOf_123 (v := nI 10) rfl ?_
      refine z_aload_n hC dX7_fallOf_125 rfl ?_
      refine z_getN hC dX7_fallOf_126 (hS _) zfX7_147 rfl hm.1.2.2.2.2.2.1 ?_
      refine z_nsub hC dX7_fallOf_129 (by omega) ?_
      refine z_nmul hC dX7_fallOf_130  ?_
      refine z_bipush hC dX7_fallOf_131 (v := nI 10) rfl ?_
      refine z_ndiv hC dX7_fallOf_133 (Nat.lt_of_le_of_lt (hq _ (by omega)) (by decide)) (by omega) (by omega) ?_
      refine z_iret hC dX7_fallOf_134 ?_
      exact hE.to (by simp [rfall, fallN, dryN, *]) rfl rfl rfl
    by_cases s31_5 : R.2.1 0 i = 5
    · refine z_tabK hC dX7_fallOf_31 (v := nI 5) (by rw [s31_5]) rfl rfl (tgt := 104) (by decide) ?_
      refine z_aload_n hC dX7_fallOf_104 rfl ?_
      refine z_getR hC dX7_fallOf_105 (hS _) zfX7_40 rfl ?_
      refine z_iload_n hC dX7_fallOf_108 rfl ?_
      refine z_naldN hC dX7_fallOf_109 (hS _) (by omega) rfl (show _ = nI (R.2.1 1 _) from hm.2.1 1 _ (by decide) (by omega)) ?_
      refine z_istore hC dX7_fallOf_110 (lo2 := [_, _, _, _, _, _]) (Nat.le_of_ble_eq_true rfl) rfl rfl ?_
      refine z_goto hC dX7_fallOf_112 (tgt := 118) (by decide) ?_
      refine z_iload hC dX7_fallOf_118 rfl ?_
      refine z_iload hC dX7_fallOf_120 rfl ?_
      refine z_nadd hC dX7_fallOf_122  ?_
      refine z_bipush hC dX7_fallOf_123 (v := nI 10) rfl ?_
      refine z_aload_n hC dX7_fallOf_125 rfl ?_
      refine z_getN hC dX7_fallOf_126 (hS _) zfX7_147 rfl hm.1.2.2.2.2.2.1 ?_
      refine z_nsub hC dX7_fallOf_129 (by omega) ?_
      refine z_nmul hC dX7_fallOf_130  ?_
      refine z_bipush hC dX7_fallOf_131 (v := nI 10) rfl ?_
      refine z_ndiv hC dX7_fallOf_133 (Nat.lt_of_le_of_lt (hq _ (by omega)) (by decide)) (by omega) (by omega) ?_
      refine z_iret hC dX7_fallOf_134 ?_
      exact hE.to (by simp [rfall, fallN, dryN, *]) rfl rfl rfl
    refine z_tableOut hC dX7_fallOf_31 (by rw [nI_toInt (by omega)]; omega) (tgt := 115) (by decide) ?_
    refine z_iload_n hC dX7_fallOf_115 rfl ?_
    refine z_istore hC dX7_fallOf_116 (lo2 := [_, _, _, _, _, _]) (Nat.le_of_ble_eq_true rfl) rfl rfl ?_
    refine z_iload hC dX7_fallOf_118 rfl ?_
    refine z_iload hC dX7_fallOf_120 rfl ?_
    refine z_nadd hC dX7_fallOf_122  ?_
    refine z_bipush hC dX7_fallOf_123 (v := nI 10) rfl ?_
    refine z_aload_n hC dX7_fallOf_125 rfl ?_
    refine z_getN hC dX7_fallOf_126 (hS _) zfX7_147 rfl hm.1.2.2.2.2.2.1 ?_
    refine z_nsub hC dX7_fallOf_129 (by omega) ?_
    refine z_nmul hC dX7_fallOf_130  ?_
    refine z_bipush hC dX7_fallOf_131 (v := nI 10) rfl ?_
    refine z_ndiv hC dX7_fallOf_133 (Nat.lt_of_le_of_lt (hq _ (by omega)) (by decide)) (by omega) (by omega) ?_
    refine z_iret hC dX7_fallOf_134 ?_
    exact hE.to (by simp [rfall, fallN, dryN, *]) rfl rfl rfl
  have hw : R.1 4 = 1 := by omega
  refine z_bipush hC dX7_fallOf_17 (v := nI 20) rfl ?_
  refine z_goto hC dX7_fallOf_19 (tgt := 23) (by decide) ?_
  refine z_istore hC dX7_fallOf_23 (lo2 := [_, _, _, _, _, _]) (Nat.le_of_ble_eq_true rfl) rfl rfl ?_
  refine z_aload_n hC dX7_fallOf_25 rfl ?_
  refine z_getR hC dX7_fallOf_26 (hS _) zfX7_37 rfl ?_
  refine z_iload_n hC dX7_fallOf_29 rfl ?_
  refine z_naldN hC dX7_fallOf_30 (hS _) (by omega) rfl (show _ = nI (R.2.1 0 _) from hm.2.1 0 _ (by decide) (by omega)) ?_
  by_cases s31_1 : R.2.1 0 i = 1
  · refine z_tabK hC dX7_fallOf_31 (v := nI 1) (by rw [s31_1]) rfl rfl (tgt := 64) (by decide) ?_
    refine z_iload_n hC dX7_fallOf_64 rfl ?_
    refine z_iload_n hC dX7_fallOf_65 rfl ?_
    refine z_iload_n hC dX7_fallOf_66 rfl ?_
    refine z_nmul hC dX7_fallOf_67  ?_
    refine z_nadd hC dX7_fallOf_68  ?_
    refine z_istore hC dX7_fallOf_69 (lo2 := [_, _, _, _, _, _]) (Nat.le_of_ble_eq_true rfl) rfl rfl ?_
    refine z_goto hC dX7_fallOf_71 (tgt := 118) (by decide) ?_
    refine z_iload hC dX7_fallOf_118 rfl ?_
    refine z_iload hC dX7_fallOf_120 rfl ?_
    refine z_nadd hC dX7_fallOf_122  ?_
    refine z_bipush hC dX7_fallOf_123 (v := nI 10) rfl ?_
    refine z_aload_n hC dX7_fallOf_125 rfl ?_
    refine z_getN hC dX7_fallOf_126 (hS _) zfX7_147 rfl hm.1.2.2.2.2.2.1 ?_
    refine z_nsub hC dX7_fallOf_129 (by omega) ?_
    refine z_nmul hC dX7_fallOf_130  ?_
    refine z_bipush hC dX7_fallOf_131 (v := nI 10) rfl ?_
    refine z_ndiv hC dX7_fallOf_133 (Nat.lt_of_le_of_lt (hq _ (by omega)) (by decide)) (by omega) (by omega) ?_
    refine z_iret hC dX7_fallOf_134 ?_
    exact hE.to (by simp [rfall, fallN, dryN, *]) rfl rfl rfl
  by_cases s31_2 : R.2.1 0 i = 2
  · refine z_tabK hC dX7_fallOf_31 (v := nI 2) (by rw [s31_2]) rfl rfl (tgt := 86) (by decide) ?_
    refine z_bipush hC dX7_fallOf_86 (v := nI 10) rfl ?_
    refine z_iload_n hC dX7_fallOf_88 rfl ?_
    refine z_nadd hC dX7_fallOf_89  ?_
    refine z_istore hC dX7_fallOf_90 (lo2 := [_, _, _, _, _, _]) (Nat.le_of_ble_eq_true rfl) rfl rfl ?_
    refine z_goto hC dX7_fallOf_92 (tgt := 118) (by decide) ?_
    refine z_iload hC dX7_fallOf_118 rfl ?_
    refine z_iload hC dX7_fallOf_120 rfl ?_
    refine z_nadd hC dX7_fallOf_122  ?_
    refine z_bipush hC dX7_fallOf_123 (v := nI 10) rfl ?_
    refine z_aload_n hC dX7_fallOf_125 rfl ?_
    refine z_getN hC dX7_fallOf_126 (hS _) zfX7_147 rfl hm.1.2.2.2.2.2.1 ?_
    refine z_nsub hC dX7_fallOf_129 (by omega) ?_
    refine z_nmul hC dX7_fallOf_130  ?_
    refine z_bipush hC dX7_fallOf_131 (v := nI 10) rfl ?_
    refine z_ndiv hC dX7_fallOf_133 (Nat.lt_of_le_of_lt (hq _ (by omega)) (by decide)) (by omega) (by omega) ?_
    refine z_iret hC dX7_fallOf_134 ?_
    exact hE.to (by simp [rfall, fallN, dryN, *]) rfl rfl rfl
  by_cases s31_3 : R.2.1 0 i = 3
  · refine z_tabK hC dX7_fallOf_31 (v := nI 3) (by rw [s31_3]) rfl rfl (tgt := 74) (by decide) ?_
    refine z_iconst hC dX7_fallOf_74 (v := nI 2) rfl ?_
    refine z_iload_n hC dX7_fallOf_75 rfl ?_
    refine z_iload_n hC dX7_fallOf_76 rfl ?_
    refine z_iload_n hC dX7_fallOf_77 rfl ?_
    refine z_nmul hC dX7_fallOf_78  ?_
    refine z_nadd hC dX7_fallOf_79  ?_
    refine z_nmul hC dX7_fallOf_80  ?_
    refine z_istore hC dX7_fallOf_81 (lo2 := [_, _, _, _, _, _]) (Nat.le_of_ble_eq_true rfl) rfl rfl ?_
    refine z_goto hC dX7_fallOf_83 (tgt := 118) (by decide) ?_
    refine z_iload hC dX7_fallOf_118 rfl ?_
    refine z_iload hC dX7_fallOf_120 rfl ?_
    refine z_nadd hC dX7_fallOf_122  ?_
    refine z_bipush hC dX7_fallOf_123 (v := nI 10) rfl ?_
    refine z_aload_n hC dX7_fallOf_125 rfl ?_
    refine z_getN hC dX7_fallOf_126 (hS _) zfX7_147 rfl hm.1.2.2.2.2.2.1 ?_
    refine z_nsub hC dX7_fallOf_129 (by omega) ?_
    refine z_nmul hC dX7_fallOf_130  ?_
    refine z_bipush hC dX7_fallOf_131 (v := nI 10) rfl ?_
    refine z_ndiv hC dX7_fallOf_133 (Nat.lt_of_le_of_lt (hq _ (by omega)) (by decide)) (by omega) (by omega) ?_
    refine z_iret hC dX7_fallOf_134 ?_
    exact hE.to (by simp [rfall, fallN, dryN, *]) rfl rfl rfl
  by_cases s31_4 : R.2.1 0 i = 4
  · refine z_tabK hC dX7_fallOf_31 (v := nI 4) (by rw [s31_4]) rfl rfl (tgt := 95) (by decide) ?_
    refine z_bipush hC dX7_fallOf_95 (v := nI 30) rfl ?_
    refine z_iload_n hC dX7_fallOf_97 rfl ?_
    refine z_nadd hC dX7_fallOf_98  ?_
    refine z_istore hC dX7_fallOf_99 (lo2 := [_, _, _, _, _, _]) (Nat.le_of_ble_eq_true rfl) rfl rfl ?_
    refine z_goto hC dX7_fallOf_101 (tgt := 118) (by decide) ?_
    refine z_iload hC dX7_fallOf_118 rfl ?_
    refine z_iload hC dX7_fallOf_120 rfl ?_
    refine z_nadd hC dX7_fallOf_122  ?_
    refine z_bipush hC dX7_fallOf_123 (v := nI 10) rfl ?_
    refine z_aload_n hC dX7_fallOf_125 rfl ?_
    refine z_getN hC dX7_fallOf_126 (hS _) zfX7_147 rfl hm.1.2.2.2.2.2.1 ?_
    refine z_nsub hC dX7_fallOf_129 (by omega) ?_
    refine z_nmul hC dX7_fallOf_130  ?_
    refine z_bipush hC dX7_fallOf_131 (v := nI 10) rfl ?_
    refine z_ndiv hC dX7_fallOf_133 (Nat.lt_of_le_of_lt (hq _ (by omega)) (by decide)) (by omega) (by omega) ?_
    refine z_iret hC dX7_fallOf_134 ?_
    exact hE.to (by simp [rfall, fallN, dryN, *]) rfl rfl rfl
  by_cases s31_5 : R.2.1 0 i = 5
  · refine z_tabK hC dX7_fallOf_31 (v := nI 5) (by rw [s31_5]) rfl rfl (tgt := 104) (by decide) ?_
    refine z_aload_n hC dX7_fallOf_104 rfl ?_
    refine z_getR hC dX7_fallOf_105 (hS _) zfX7_40 rfl ?_
    refine z_iload_n hC dX7_fallOf_108 rfl ?_
    refine z_naldN hC dX7_fallOf_109 (hS _) (by omega) rfl (show _ = nI (R.2.1 1 _) from hm.2.1 1 _ (by decide) (by omega)) ?_
    refine z_istore hC dX7_fallOf_110 (lo2 := [_, _, _, _, _, _]) (Nat.le_of_ble_eq_true rfl) rfl rfl ?_
    refine z_goto hC dX7_fallOf_112 (tgt := 118) (by decide) ?_
    refine z_iload hC dX7_fallOf_118 rfl ?_
    refine z_iload hC dX7_fallOf_120 rfl ?_
    refine z_nadd hC dX7_fallOf_122  ?_
    refine z_bipush hC dX7_fallOf_123 (v := nI 10) rfl ?_
    refine z_aload_n hC dX7_fallOf_125 rfl ?_
    refine z_getN hC dX7_fallOf_126 (hS _) zfX7_147 rfl hm.1.2.2.2.2.2.1 ?_
    refine z_nsub hC dX7_fallOf_129 (by omega) ?_
    refine z_nmul hC dX7_fallOf_130  ?_
    refine z_bipush hC dX7_fallOf_131 (v := nI 10) rfl ?_
    refine z_ndiv hC dX7_fallOf_133 (Nat.lt_of_le_of_lt (hq _ (by omega)) (by decide)) (by omega) (by omega) ?_
    refine z_iret hC dX7_fallOf_134 ?_
    exact hE.to (by simp [rfall, fallN, dryN, *]) rfl rfl rfl
  refine z_tableOut hC dX7_fallOf_31 (by rw [nI_toInt (by omega)]; omega) (tgt := 115) (by decide) ?_
  refine z_iload_n hC dX7_fallOf_115 rfl ?_
  refine z_istore hC dX7_fallOf_116 (lo2 := [_, _, _, _, _, _]) (Nat.le_of_ble_eq_true rfl) rfl rfl ?_
  refine z_iload hC dX7_fallOf_118 rfl ?_
  refine z_iload hC dX7_fallOf_120 rfl ?_
  refine z_nadd hC dX7_fallOf_122  ?_
  refine z_bipush hC dX7_fallOf_123 (v := nI 10) rfl ?_
  refine z_aload_n hC dX7_fallOf_125 rfl ?_
  refine z_getN hC dX7_fallOf_126 (hS _) zfX7_147 rfl hm.1.2.2.2.2.2.1 ?_
  refine z_nsub hC dX7_fallOf_129 (by omega) ?_
  refine z_nmul hC dX7_fallOf_130  ?_
  refine z_bipush hC dX7_fallOf_131 (v := nI 10) rfl ?_
  refine z_ndiv hC dX7_fallOf_133 (Nat.lt_of_le_of_lt (hq _ (by omega)) (by decide)) (by omega) (by omega) ?_
  refine z_iret hC dX7_fallOf_134 ?_
  exact hE.to (by simp [rfall, fallN, dryN, *]) rfl rfl rfl

end
