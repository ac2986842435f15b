/-! Weights: the rest -/
theorem bitN_iff {m i : Nat} : bitN m i ↔ m.testBit i = true := by
  rw [Nat.testBit_eq_decide_div_mod_eq]; simp
theorem bitN_set {t b i : Nat} : bitN (t ||| 2 ^ b) i ↔ bitN t i ∨ i = b := by
  rw [bitN_iff, bitN_iff, Nat.testBit_or, Nat.testBit_two_pow, Bool.or_eq_true, decide_eq_true_eq]
  exact or_congr Iff.rfl eq_comm
def cntN (t n : Nat) : Nat := sumN (fun i => if bitN t i then 1 else 0) n
theorem cntN_le (t : Nat) : ∀ n, cntN t n ≤ n
  | 0 => Nat.le_refl _
  | n + 1 => by
    have := cntN_le t n
    show cntN t n + (if bitN t n then 1 else 0) ≤ n + 1
    split <;> omega
theorem gbN_some {f : Nat → Nat} {t : Nat} : ∀ {n : Nat}, cntN t n < n → ∃ b, gbN f t n = some b
  | 0, h => absurd h (Nat.not_lt_zero _)
  | n + 1, h => by
    have h' : cntN t n + (if bitN t n then 1 else 0) < n + 1 := h
    by_cases hb : bitN t n
    · rw [if_pos hb] at h'
      obtain ⟨b, hg⟩ := gbN_some (f := f) (t := t) (n := n) (by omega)
      exact ⟨b, by rw [gbN_s hb]; exact hg⟩
    · cases hg : gbN f t n with
      | none => exact ⟨n, gbN_n hb hg⟩
      | some b =>
        by_cases hl : f b < f n
        · exact ⟨n, gbN_l hb hg hl⟩
        · exact ⟨b, gbN_g hb hg hl⟩
theorem gbN_free {f : Nat → Nat} {t : Nat} : ∀ {n b : Nat}, gbN f t n = some b → ¬ bitN t b
  | 0, b, h => by cases h
  | n + 1, b, h => by
    by_cases hb : bitN t n
    · rw [gbN_s hb] at h; exact gbN_free h
    · cases hg : gbN f t n with
      | none => rw [gbN_n hb hg] at h; cases h; exact hb
      | some c =>
        by_cases hl : f c < f n
        · rw [gbN_l hb hg hl] at h; cases h; exact hb
        · rw [gbN_g hb hg hl] at h; cases h; exact gbN_free hg
theorem cntN_off {t b : Nat} : ∀ {n : Nat}, n ≤ b → cntN (t ||| 2 ^ b) n = cntN t n
  | 0, _ => rfl
  | n + 1, h => by
    show cntN (t ||| 2 ^ b) n + (if bitN (t ||| 2 ^ b) n then 1 else 0) = cntN t n + (if bitN t n then 1 else 0)
    rw [cntN_off (n := n) (by omega)]
    congr 1
    by_cases hn : bitN t n
    · rw [if_pos hn, if_pos (bitN_set.mpr (Or.inl hn))]
    · rw [if_neg hn, if_neg (fun z => by rcases bitN_set.mp z with z | z; exact hn z; omega)]
theorem cntN_set {t b : Nat} (hb : ¬ bitN t b) : ∀ {n : Nat}, b < n → cntN (t ||| 2 ^ b) n = cntN t n + 1
  | 0, h => absurd h (Nat.not_lt_zero _)
  | n + 1, h => by
    show cntN (t ||| 2 ^ b) n + (if bitN (t ||| 2 ^ b) n then 1 else 0) = cntN t n + (if bitN t n then 1 else 0) + 1
    by_cases e : n = b
    · subst e
      rw [cntN_off (Nat.le_refl _), if_pos (bitN_set.mpr (Or.inr rfl)), if_neg hb]
    · rw [cntN_set hb (n := n) (by omega)]
      have : (if bitN (t ||| 2 ^ b) n then 1 else 0) = (if bitN t n then 1 else 0 : Nat) := by
        by_cases hn : bitN t n
        · rw [if_pos hn, if_pos (bitN_set.mpr (Or.inl hn))]
        · rw [if_neg hn, if_neg (fun z => by rcases bitN_set.mp z with z | z; exact hn z; exact e z)]
      omega
/-- how few: k left, taken t, got g, so far c -/
def fewN (f : Nat → Nat) (n goal : Nat) : Nat → Nat → Nat → Nat → Nat
  | 0, _, _, c => c
  | k + 1, t, g, c => if goal ≤ 1000 * g then c else match gbN f t n with
    | none => c
    | some b => fewN f n goal k (t ||| 2 ^ b) (g + f b) (c + 1)
theorem fewN_1 {f : Nat → Nat} {n goal k t g c : Nat} (h : goal ≤ 1000 * g) : fewN f n goal (k + 1) t g c = c := if_pos h
theorem fewN_2 {f : Nat → Nat} {n goal k t g c b : Nat} (h : ¬ goal ≤ 1000 * g) (hb : gbN f t n = some b) : fewN f n goal (k + 1) t g c = fewN f n goal k (t ||| 2 ^ b) (g + f b) (c + 1) := by
  show (if goal ≤ 1000 * g then c else _) = _
  rw [if_neg h, hb]
theorem zlcmpN {a b : Nat} (ha : a < 2 ^ 63) (hb : b < 2 ^ 63) : lg_cmp (lN a) (lN b) = if b < a then 1 else if a = b then 0 else -1 := by
  unfold lg_cmp
  have h1 : (lN a > lN b) ↔ b < a := pk_lLT hb ha
  have h2 : (lN a = lN b) ↔ a = b := pk_lEQ ha hb
  by_cases c1 : b < a
  · rw [if_pos (h1.mpr c1), if_pos c1]
  · rw [if_neg (fun z => c1 (h1.mp z)), if_neg c1]
    by_cases c2 : a = b
    · rw [if_pos (h2.mpr c2), if_pos c2]
    · rw [if_neg (fun z => c2 (h2.mp z)), if_neg c2]
theorem zlcmp_lt {a b : Nat} (ha : a < 2 ^ 63) (hb : b < 2 ^ 63) : lg_cmp (lN a) (lN b) < 0 ↔ a < b := by
  rw [zlcmpN ha hb]
  split
  · exact ⟨fun h => absurd h (by decide), fun h => by omega⟩
  · split
    · exact ⟨fun h => absurd h (by decide), fun h => by omega⟩
    · exact ⟨fun _ => by omega, fun _ => by decide⟩
theorem zlcmp_le {a b : Nat} (ha : a < 2 ^ 63) (hb : b < 2 ^ 63) : lg_cmp (lN a) (lN b) ≤ 0 ↔ a ≤ b := by
  rw [zlcmpN ha hb]
  split
  · exact ⟨fun h => absurd h (by decide), fun h => by omega⟩
  · split
    · exact ⟨fun _ => by omega, fun _ => by decide⟩
    · exact ⟨fun _ => by omega, fun _ => by decide⟩
theorem zshl1 : ∀ b, b < 14 → (nI 1 <<< (nI b &&& 31)) = nI (2 ^ b) := by decide +kernel
theorem nI_tn {n : Nat} (h : n < 2 ^ 32) : (nI n).toBitVec.toNat = n := pk_tn h
theorem zor {t b : Nat} (ht : t < 2 ^ 14) (hb : b < 14) : nI t ||| (nI 1 <<< (nI b &&& 31)) = nI (t ||| 2 ^ b) ∧ t ||| 2 ^ b < 2 ^ 14 := by
  have h1 : (2 : Nat) ^ b < 2 ^ 14 := Nat.pow_lt_pow_right (by decide) hb
  have h2 : t ||| 2 ^ b < 2 ^ 14 := Nat.or_lt_two_pow ht h1
  refine ⟨?_, h2⟩
  rw [zshl1 b hb]
  apply Int32.toBitVec_inj.mp
  apply BitVec.eq_of_toNat_eq
  rw [nI_tn (by omega)]
  show ((nI t).toBitVec ||| (nI (2 ^ b)).toBitVec).toNat = _
  rw [BitVec.toNat_or, nI_tn (by omega), nI_tn (by omega)]
def distN (a b : Nat) : Nat := if b ≤ a then a - b else b - a
theorem zabsN {a b : Nat} (ha : a < 2 ^ 30) (hb : b < 2 ^ 30) : (if 0 ≤ nI a - nI b then nI a - nI b else 0 - (nI a - nI b)) = nI (distN a b) := by
  unfold distN
  by_cases h : b ≤ a
  · rw [if_pos h, pk_sub h, if_pos (nI_pos' (by omega))]
  · rw [if_neg h, if_neg (fun z => absurd (pk_sneg hb (by omega : a < b)) (Int32.not_lt.mpr z)), Int32.zero_sub, Int32.neg_sub, pk_sub (by omega)]
def dsN (f : Nat → Nat) (all i : Nat) : Nat := distN all (2 * sumN f (i + 1))
def ebN (f : Nat → Nat) (all : Nat) : Nat → Nat
  | 0 => 0
  | k + 1 => if dsN f all (k + 1) < dsN f all (ebN f all k) then k + 1 else ebN f all k
theorem ebN_le {f : Nat → Nat} {all : Nat} : ∀ k, ebN f all k ≤ k
  | 0 => Nat.le_refl _
  | k + 1 => by
    have := ebN_le (f := f) (all := all) k
    unfold ebN
    split
    · exact Nat.le_refl _
    · omega
def fbN (f : Nat → Nat) (b l : Nat) : Nat := f b * seenN l / 100
def rateN (f y : Nat → Nat) (b l : Nat) : Nat := 1000 * fbN f b l / secN (y b) l
def nxS (rate : Nat → Nat → Nat) : Nat → Nat × Option Nat
  | 0 => (0, none)
  | p + 1 => if (nxS rate p).1 < rate (p / 3) (p % 3 + 1) then (rate (p / 3) (p % 3 + 1), some (10 * (p / 3) + (p % 3 + 1))) else nxS rate p
theorem nxS_some {rate : Nat → Nat → Nat} : ∀ {p q : Nat}, (nxS rate p).2 = some q → ∃ b l, q = 10 * b + l ∧ 1 ≤ l ∧ l ≤ 3 ∧ 3 * b + 1 ≤ p
  | 0, q, h => by cases h
  | p + 1, q, h => by
    unfold nxS at h
    split at h
    · cases h
      exact ⟨p / 3, p % 3 + 1, rfl, by omega, by omega, by omega⟩
    · obtain ⟨b, l, h1, h2, h3, h4⟩ := nxS_some h
      exact ⟨b, l, h1, h2, h3, by omega⟩
/-- MISS behind looks in vain, each the next one then -/
def vnM (w y : Nat → Nat) (n : Nat) (m : Nat → Nat) : Nat → Nat → Nat
  | 0 => m
  | k + 1 => match (nxS (rateN (wtN w (vnM w y n m k)) y) (3 * n)).2 with
    | none => vnM w y n m k
    | some q => fun i => if i = q / 10 then missN (vnM w y n m k (q / 10)) (q % 10) else vnM w y n m k i
theorem vnM_none {w y : Nat → Nat} {n : Nat} {m : Nat → Nat} {k : Nat} (h : (nxS (rateN (wtN w (vnM w y n m k)) y) (3 * n)).2 = none) : ∀ j, k ≤ j → vnM w y n m j = vnM w y n m k
  | 0, hj => by rw [show k = 0 by omega]
  | j + 1, hj => by
    by_cases e : k = j + 1
    · rw [e]
    · have ih := vnM_none h j (by omega)
      show (match (nxS (rateN (wtN w (vnM w y n m j)) y) (3 * n)).2 with | none => vnM w y n m j | some q => _) = _
      rw [ih, h]
theorem vnM_some {w y : Nat → Nat} {n : Nat} {m : Nat → Nat} {k q : Nat} (h : (nxS (rateN (wtN w (vnM w y n m k)) y) (3 * n)).2 = some q) : vnM w y n m (k + 1) = fun i => if i = q / 10 then missN (vnM w y n m k (q / 10)) (q % 10) else vnM w y n m k i := by
  show (match (nxS (rateN (wtN w (vnM w y n m k)) y) (3 * n)).2 with | none => vnM w y n m k | some q => _) = _
  rw [h]
theorem vnM_le {w y : Nat → Nat} {n : Nat} {m : Nat → Nat} (hm : ∀ i, i < n → m i ≤ 100) : ∀ k i, i < n → vnM w y n m k i ≤ 100
  | 0, i, hi => hm i hi
  | k + 1, i, hi => by
    cases h : (nxS (rateN (wtN w (vnM w y n m k)) y) (3 * n)).2 with
    | none => rw [vnM_none h (k + 1) (by omega)]; exact vnM_le hm k i hi
    | some q =>
      obtain ⟨b, l, h1, h2, h3, h4⟩ := nxS_some h
      rw [vnM_some h]
      dsimp only
      split
      · exact missN_le (vnM_le hm k _ (by omega))
      · exact vnM_le hm k i hi
theorem zWm_miss {n : Nat} {w m m' : Nat → Nat} {h : Nat} {I X : zI} (hw : zWm n w m h I X) (hm : ∀ i, i < n → m' i ≤ 100) : zWm n w m' h I (zrow 3 24 m' n X) := by
  obtain ⟨h1, h2, h3, h4, h5, h6, h7⟩ := hw
  exact ⟨h1, h2, fun i hi => by rw [zrow_ne (by omega)]; exact h3 i hi, fun i hi => zrow_get hi, h5, h6, fun i hi => ⟨(h7 i hi).1, hm i hi⟩⟩
theorem ebN_1 {f : Nat → Nat} {all k : Nat} (h : dsN f all (k + 1) < dsN f all (ebN f all k)) : ebN f all (k + 1) = k + 1 := if_pos h
theorem ebN_0 {f : Nat → Nat} {all k : Nat} (h : dsN f all (ebN f all k) ≤ dsN f all (k + 1)) : ebN f all (k + 1) = ebN f all k := if_neg (by omega)
theorem dsN_lt {f : Nat → Nat} {all i : Nat} (ha : all < 2 ^ 30) (hs : sumN f (i + 1) < 2 ^ 29) : dsN f all i < 2 ^ 31 := by
  unfold dsN distN
  split <;> omega
theorem secN_b {y l : Nat} (h : y ≤ 999) : 1 ≤ secN y l ∧ secN y l ≤ 1000 := by
  unfold secN
  split
  · omega
  · split <;> omega
theorem cnt0 : ∀ n, cntN 0 n = 0
  | 0 => rfl
  | n + 1 => by
    show cntN 0 n + (if bitN 0 n then 1 else 0) = 0
    rw [cnt0 n, if_neg (by simp [bitN])]
section
variable {ad : zA} {S : zSh} {I X : zI} {Y : zY} {sz : Nat} {n h : Nat} {w m : Nat → Nat} {R : RS}

theorem c_X5_fewestFor (hD : ∀ k, S 3 k = dsh k) (hw : zWm n w m h I X) {v : Nat} (hv : v ≤ 1000) : zC0 mX5_fewestFor 2 [zr 3 22, zi (nI v)] (some (zi (nI (fewN (wtN w m) n (v * sumN (wtN w m) n) n 0 0 0)))) ad S I X Y sz I X Y := by
  refine zgo (own := RX5) (k := 7) (by decide +kernel) rfl rfl rfl (fun C hC hnm hE => ?_)
  have hn := hw.2.2.2.2.1
  have hs : sumN (wtN w m) n ≤ n * 1000000 := sumN_le (fun i hi => (wtN_le hw hi).1)
  have hg : v * sumN (wtN w m) n ≤ 1000 * 14000000 := Nat.mul_le_mul hv (by omega)
  refine z_iload_n hC dX5_fewestFor_0 rfl ?_
  refine z_n2m hC dX5_fewestFor_1 (by omega) ?_
  refine z_aload_n hC dX5_fewestFor_2 rfl ?_
  refine z_iconst hC dX5_fewestFor_3 (v := nI 0) rfl ?_
  refine z_aload_n hC dX5_fewestFor_4 rfl ?_
  refine z_getN hC dX5_fewestFor_5 (hD _) zfX5_36 rfl hw.1 ?_
  refine z_iconst hC dX5_fewestFor_8 (v := nI 1) rfl ?_
  refine z_isub hC dX5_fewestFor_9  ?_
  refine zVv hC dX5_fewestFor_10 zlX5_63 (c_X5_sumAll hD hw) (hD _) rfl rfl rfl rfl rfl rfl ?_
  refine z_n2m hC dX5_fewestFor_13 (by omega) ?_
  refine z_mmul hC dX5_fewestFor_14  ?_
  refine z_lstore_n hC dX5_fewestFor_15 (lo2 := [_, _, _, _, _, _, _, _, _]) (Nat.le_of_ble_eq_true rfl) rfl rfl ?_
  refine z_lconst hC dX5_fewestFor_16 (v := lN 0) rfl ?_
  refine z_lstore hC dX5_fewestFor_17 (lo2 := [_, _, _, _, _, _, _, _, _]) (Nat.le_of_ble_eq_true rfl) rfl rfl ?_
  refine z_iconst hC dX5_fewestFor_19 (v := nI 0) rfl ?_
  refine z_istore hC dX5_fewestFor_20 (lo2 := [_, _, _, _, _, _, _, _, _]) (Nat.le_of_ble_eq_true rfl) rfl rfl ?_
  refine z_iconst hC dX5_fewestFor_22 (v := nI 0) rfl ?_
  refine z_istore hC dX5_fewestFor_23 (lo2 := [_, _, _, _, _, _, _, _, _]) (Nat.le_of_ble_eq_true rfl) rfl rfl ?_
  have loop25 : ∀ (fuel : Nat) (c t g : Nat), n - c < fuel → c ≤ n → t < 2 ^ 14 → g ≤ c * 1000000 → cntN t n = c → fewN (wtN w m) n (v * sumN (wtN w m) n) (n - c) t g c = fewN (wtN w m) n (v * sumN (wtN w m) n) n 0 0 0 → zL C 9 ad S 0 0 sz I X Y 25 [some (zr 3 22), some (zi (nI v)), some (zl (lN (v * sumN (wtN w m) n))), none, some (zl (lN g)), none, some (zi (nI t)), some (zi (nI c)), none] [] := by
    intro fuel
    induction fuel with
    | zero => intro c t g hfu; exact absurd hfu (Nat.not_lt_zero _)
    | succ fuel ih =>
      intro c t g hfu hcn ht hgc hct hsp
      refine z_iload hC dX5_fewestFor_25 rfl ?_
      refine z_aload_n hC dX5_fewestFor_27 rfl ?_
      refine z_getN hC dX5_fewestFor_28 (hD _) zfX5_36 rfl hw.1 ?_
      refine z_nicmp_ge hC dX5_fewestFor_31 (tgt := 83) (by decide) (by omega) (by omega) (fun c31 => ?_) (fun c31 => ?_)
      · skip
        refine z_aload_n hC dX5_fewestFor_83 rfl ?_
        refine z_getN hC dX5_fewestFor_84 (hD _) zfX5_36 rfl hw.1 ?_
        refine z_iret hC dX5_fewestFor_87 ?_
        exact hE.to (by rw [← hsp, show n - c = 0 by omega]; show some (zi (nI c)) = _; rw [show c = n by omega]) rfl rfl rfl
      have h1000 : c * 1000000 ≤ 14 * 1000000 := Nat.mul_le_mul_right _ (by omega)
      refine z_ldc2 hC dX5_fewestFor_34 (v := lN 1000) (zin3 (i := 147) rfl rfl) ?_
      refine z_lload hC dX5_fewestFor_37 rfl ?_
      refine z_mmul hC dX5_fewestFor_39  ?_
      refine z_lload_n hC dX5_fewestFor_40 rfl ?_
      refine z_lcmp hC dX5_fewestFor_41  ?_
      refine z_if_lt hC dX5_fewestFor_42 (tgt := 48) (by decide) (fun c42 => ?_) (fun c42 => ?_)
      · skip
        rw [zlcmp_lt (by omega) (by omega)] at c42
        obtain ⟨b, hb⟩ := gbN_some (f := wtN w m) (t := t) (n := n) (by omega)
        have hbl := gbN_lt hb
        have hor := zor ht (show b < 14 by omega)
        have hbw := (wtN_le hw hbl).1
        refine z_aload_n hC dX5_fewestFor_48 rfl ?_
        refine z_iload hC dX5_fewestFor_49 rfl ?_
        refine zVv hC dX5_fewestFor_51 zlX5_72 (c_X5_greatestBut hD hw (t := t) (by omega)) (hD _) rfl rfl rfl rfl rfl rfl ?_
        rw [hb]
        show zL C 9 ad S 0 0 sz I X Y _ _ [zi (nI b)]
        refine z_istore hC dX5_fewestFor_54 (lo2 := [_, _, _, _, _, _, _, _, _]) (Nat.le_of_ble_eq_true rfl) rfl rfl ?_
        refine z_lload hC dX5_fewestFor_56 rfl ?_
        refine z_aload_n hC dX5_fewestFor_58 rfl ?_
        refine z_iload hC dX5_fewestFor_59 rfl ?_
        refine zVv hC dX5_fewestFor_61 zlX5_60 (c_X5_at hD hw (i := b) hbl) (hD _) rfl rfl rfl rfl rfl rfl ?_
        refine z_n2m hC dX5_fewestFor_64 (by omega) ?_
        refine z_madd hC dX5_fewestFor_65  ?_
        refine z_lstore hC dX5_fewestFor_66 (lo2 := [_, _, _, _, _, _, _, _, _]) (Nat.le_of_ble_eq_true rfl) rfl rfl ?_
        refine z_iload hC dX5_fewestFor_68 rfl ?_
        refine z_iconst hC dX5_fewestFor_70 (v := nI 1) rfl ?_
        refine z_iload hC dX5_fewestFor_71 rfl ?_
        refine z_ishl hC dX5_fewestFor_73  ?_
        refine z_ior hC dX5_fewestFor_74  ?_
        rw [hor.1]
        refine z_istore hC dX5_fewestFor_75 (lo2 := [_, _, _, _, _, _, _, _, _]) (Nat.le_of_ble_eq_true rfl) rfl rfl ?_
        refine z_ninc hC dX5_fewestFor_77 (lo2 := [_, _, _, _, _, _, _, _, _]) rfl rfl rfl rfl ?_
        refine z_goto hC dX5_fewestFor_80 (tgt := 25) (by decide) ?_
        refine z_sub (by simp [zsub]) (ih (c + 1) (t ||| 2 ^ b) (g + wtN w m b) (by omega) (by omega) hor.2 ?_ ?_ ?_)
        · have := (wtN_le hw hbl).1; omega
        · rw [cntN_set (gbN_free hb) hbl]; omega
        · rw [← hsp, show n - c = (n - (c + 1)) + 1 by omega, fewN_2 (by omega) hb]
      rw [zlcmp_lt (by omega) (by omega)] at c42
      refine z_iload hC dX5_fewestFor_45 rfl ?_
      refine z_iret hC dX5_fewestFor_47 ?_
      exact hE.to (by rw [← hsp, show n - c = (n - c - 1) + 1 by omega, fewN_1 (by omega)]) rfl rfl rfl
  exact z_sub (by simp [zsub]) (loop25 _ 0 0 0 (Nat.lt_succ_self _) (Nat.zero_le _) (by decide) (Nat.zero_le _) (cnt0 n) rfl)

theorem c_X5_evenestBend (hD : ∀ k, S 3 k = dsh k) (hw : zWm n w m h I X) (h0 : 0 < n) : zC0 mX5_evenestBend 3 [zr 3 22] (some (zi (nI (ebN (wtN w m) (sumN (wtN w m) n + h) (n - 1))))) ad S I X Y sz I X Y := by
  refine zgo (own := RX5) (k := 3) (by decide +kernel) rfl rfl rfl (fun C hC hnm hE => ?_)
  have hn := hw.2.2.2.2.1
  have hh := hw.2.2.2.2.2.1
  have hs : ∀ i, i ≤ n → sumN (wtN w m) i ≤ i * 1000000 := fun i hi => sumN_le (fun j hj => (wtN_le hw (by omega)).1)
  have hsn := hs n (Nat.le_refl _)
  refine z_aload_n hC dX5_evenestBend_0 rfl ?_
  refine zVv hC dX5_evenestBend_1 zlX5_75 (c_X5_all hD hw) (hD _) rfl rfl rfl rfl rfl rfl ?_
  refine z_istore_n hC dX5_evenestBend_4 (lo2 := [_, _, _, _]) (Nat.le_of_ble_eq_true rfl) rfl rfl ?_
  refine z_iconst hC dX5_evenestBend_5 (v := nI 0) rfl ?_
  refine z_istore_n hC dX5_evenestBend_6 (lo2 := [_, _, _, _]) (Nat.le_of_ble_eq_true rfl) rfl rfl ?_
  refine z_iconst hC dX5_evenestBend_7 (v := nI 1) rfl ?_
  refine z_istore_n hC dX5_evenestBend_8 (lo2 := [_, _, _, _]) (Nat.le_of_ble_eq_true rfl) rfl rfl ?_
  have loop9 : ∀ (fuel : Nat) (k : Nat), n - (k + 1) < fuel → k + 1 ≤ n → zL C 4 ad S 0 0 sz I X Y 9 [some (zr 3 22), some (zi (nI (sumN (wtN w m) n + h))), some (zi (nI (ebN (wtN w m) (sumN (wtN w m) n + h) k))), some (zi (nI (k + 1)))] [] := by
    intro fuel
    induction fuel with
    | zero => intro k hfu; exact absurd hfu (Nat.not_lt_zero _)
    | succ fuel ih =>
      intro k hfu hkn
      have hek := ebN_le (f := wtN w m) (all := sumN (wtN w m) n + h) k
      refine z_iload_n hC dX5_evenestBend_9 rfl ?_
      refine z_aload_n hC dX5_evenestBend_10 rfl ?_
      refine z_getN hC dX5_evenestBend_11 (hD _) zfX5_36 rfl hw.1 ?_
      refine z_nicmp_ge hC dX5_evenestBend_14 (tgt := 54) (by decide) (by omega) (by omega) (fun c14 => ?_) (fun c14 => ?_)
      · skip
        refine z_iload_n hC dX5_evenestBend_54 rfl ?_
        refine z_iret hC dX5_evenestBend_55 ?_
        exact hE.to (by rw [show n - 1 = k by omega]) rfl rfl rfl
      have hk1 := hs (k + 1 + 1) (by omega)
      have hk2 := hs (ebN (wtN w m) (sumN (wtN w m) n + h) k + 1) (by omega)
      refine z_iload_n hC dX5_evenestBend_17 rfl ?_
      refine z_iconst hC dX5_evenestBend_18 (v := nI 2) rfl ?_
      refine z_aload_n hC dX5_evenestBend_19 rfl ?_
      refine z_iconst hC dX5_evenestBend_20 (v := nI 0) rfl ?_
      refine z_iload_n hC dX5_evenestBend_21 rfl ?_
      refine zVv hC dX5_evenestBend_22 zlX5_63 (c_X5_sum hD hw (a := 0) (t := k + 1) (by omega) (by omega)) (hD _) rfl rfl rfl rfl rfl rfl ?_
      rw [sumR_N]
      refine z_nmul hC dX5_evenestBend_25  ?_
      refine z_isub hC dX5_evenestBend_26  ?_
      refine z_abs hC dX5_evenestBend_27 (zin3 (i := 164) rfl rfl) zmW_abs (Nat.le_of_ble_eq_true rfl) (Nat.le_of_ble_eq_true rfl) (Nat.le_refl _) (Nat.le_refl _) ?_
      rw [zabsN (by omega) (by omega)]
      change zL C 4 ad S 0 0 sz I X Y _ _ [zi (nI (dsN (wtN w m) (sumN (wtN w m) n + h) (k + 1)))]
      refine z_iload_n hC dX5_evenestBend_30 rfl ?_
      refine z_iconst hC dX5_evenestBend_31 (v := nI 2) rfl ?_
      refine z_aload_n hC dX5_evenestBend_32 rfl ?_
      refine z_iconst hC dX5_evenestBend_33 (v := nI 0) rfl ?_
      refine z_iload_n hC dX5_evenestBend_34 rfl ?_
      refine zVv hC dX5_evenestBend_35 zlX5_63 (c_X5_sum hD hw (a := 0) (t := ebN (wtN w m) (sumN (wtN w m) n + h) k) (by omega) (by omega)) (hD _) rfl rfl rfl rfl rfl rfl ?_
      rw [sumR_N]
      refine z_nmul hC dX5_evenestBend_38  ?_
      refine z_isub hC dX5_evenestBend_39  ?_
      refine z_abs hC dX5_evenestBend_40 (zin3 (i := 164) rfl rfl) zmW_abs (Nat.le_of_ble_eq_true rfl) (Nat.le_of_ble_eq_true rfl) (Nat.le_refl _) (Nat.le_refl _) ?_
      rw [zabsN (by omega) (by omega)]
      change zL C 4 ad S 0 0 sz I X Y _ _ [zi (nI (dsN (wtN w m) (sumN (wtN w m) n + h) (ebN (wtN w m) (sumN (wtN w m) n + h) k))), _]
      refine z_nicmp_ge hC dX5_evenestBend_43 (tgt := 48) (by decide) (dsN_lt (by omega) (by have := hs (k + 1 + 1) (by omega); omega)) (dsN_lt (by omega) (by have := hs (ebN (wtN w m) (sumN (wtN w m) n + h) k + 1) (by omega); omega)) (fun c43 => ?_) (fun c43 => ?_)
      · skip
        refine z_ninc hC dX5_evenestBend_48 (lo2 := [_, _, _, _]) rfl rfl rfl rfl ?_
        refine z_goto hC dX5_evenestBend_51 (tgt := 9) (by decide) ?_
        refine z_sub ?_ (ih (k + 1) (by omega) (by omega))
        first | simp [zsub, ebN_1 c43] | simp [zsub, ebN_0 c43]
      refine z_iload_n hC dX5_evenestBend_46 rfl ?_
      refine z_istore_n hC dX5_evenestBend_47 (lo2 := [_, _, _, _]) (Nat.le_of_ble_eq_true rfl) rfl rfl ?_
      refine z_ninc hC dX5_evenestBend_48 (lo2 := [_, _, _, _]) rfl rfl rfl rfl ?_
      refine z_goto hC dX5_evenestBend_51 (tgt := 9) (by decide) ?_
      refine z_sub ?_ (ih (k + 1) (by omega) (by omega))
      first | simp [zsub, ebN_1 c43] | simp [zsub, ebN_0 c43]
  exact z_sub (by simp [zsub, ebN]) (loop9 _ 0 (Nat.lt_succ_self _) (by omega))

theorem c_X5_foundBy (hD : ∀ k, S 3 k = dsh k) (hw : zWm n w m h I X) {b l : Nat} (hb : b < n) (hl : l ≤ 3) : zC0 mX5_foundBy 1 [zr 3 22, zi (nI b), zi (nI l)] (some (zi (nI (fbN (wtN w m) b l)))) ad S I X Y sz I X Y := by
  refine zgo (own := RX5) (k := 0) (by decide +kernel) rfl rfl rfl (fun C hC hnm hE => ?_)
  have hbw := (wtN_le hw hb).1
  have hsl := seenN_le l
  have hq : wtN w m b * seenN l ≤ 1000000 * 90 := Nat.mul_le_mul hbw hsl
  refine z_aload_n hC dX5_foundBy_0 rfl ?_
  refine z_iload_n hC dX5_foundBy_1 rfl ?_
  refine zVv hC dX5_foundBy_2 zlX5_60 (c_X5_at hD hw hb) (hD _) rfl rfl rfl rfl rfl rfl ?_
  refine z_iload_n hC dX5_foundBy_5 rfl ?_
  refine zNv hC dX5_foundBy_6 zlX5_82 (c_X6_seenBy hl) rfl rfl rfl rfl ?_
  refine z_nmul hC dX5_foundBy_9  ?_
  refine z_bipush hC dX5_foundBy_10 (v := nI 100) rfl ?_
  refine z_ndiv hC dX5_foundBy_12 (by omega) (by omega) (by omega) ?_
  refine z_iret hC dX5_foundBy_13 ?_
  exact hE.to (by rfl) rfl rfl rfl

theorem c_X5_lookInVain (hD : ∀ k, S 3 k = dsh k) (hw : zWm n w m h I X) {b l : Nat} (hb : b < n) (hl : l ≤ 3) : zC0 mX5_lookInVain 2 [zr 3 22, zi (nI b), zi (nI l)] (none) ad S I X Y sz I (up3 X 3 24 b (nI (missN (m b) l))) Y := by
  refine zgo (own := RX5) (k := 0) (by decide +kernel) rfl rfl rfl (fun C hC hnm hE => ?_)
  have hn := hw.2.2.2.2.1
  refine z_iload_n hC dX5_lookInVain_0 rfl ?_
  refine z_nif_lt hC dX5_lookInVain_1 ⟨28, by decide⟩ (by omega) ?_
  refine z_iload_n hC dX5_lookInVain_4 rfl ?_
  refine z_aload_n hC dX5_lookInVain_5 rfl ?_
  refine z_getN hC dX5_lookInVain_6 (hD _) zfX5_36 rfl hw.1 ?_
  refine z_nicmp_ge hC dX5_lookInVain_9 (tgt := 28) (by decide) (by omega) (by omega) (fun c9 => ?_) (fun c9 => ?_)
  · exfalso; omega
  refine z_aload_n hC dX5_lookInVain_12 rfl ?_
  refine z_getR hC dX5_lookInVain_13 (hD _) zfX5_15 rfl ?_
  refine z_iload_n hC dX5_lookInVain_16 rfl ?_
  refine z_aload_n hC dX5_lookInVain_17 rfl ?_
  refine z_getR hC dX5_lookInVain_18 (hD _) zfX5_15 rfl ?_
  refine z_iload_n hC dX5_lookInVain_21 rfl ?_
  refine z_naldN hC dX5_lookInVain_22 (hD _) (by omega) rfl (hw.2.2.2.1 b hb) ?_
  refine z_iload_n hC dX5_lookInVain_23 rfl ?_
  refine zNv hC dX5_lookInVain_24 zlX5_85 (c_X6_missBehind (hw.2.2.2.2.2.2 b hb).2 hl) rfl rfl rfl rfl ?_
  refine z_niast hC dX5_lookInVain_27 (hD _) (by omega) rfl ?_
  refine z_vret hC dX5_lookInVain_28 ?_
  exact hE.to (by rfl) rfl rfl rfl

theorem c_X5_rateOf (hD : ∀ k, S 3 k = dsh k) (hw : zWm n w m h I X) (hm : zRm 1 R I X) (hR : ROK R) (hnR : n = R.1 0) {b l : Nat} (hb : b < n) (hl : l ≤ 3) : zC0 mX5_rateOf 4 [zr 3 22, zr 3 1, zi (nI b), zi (nI l)] (some (zl (lN (rateN (wtN w m) (R.2.1 2) b l)))) ad S I X Y sz I X Y := by
  refine zgo (own := RX5) (k := 1) (by decide +kernel) rfl rfl rfl (fun C hC hnm hE => ?_)
  subst hnR
  have hbw := (wtN_le hw hb).1
  have hsl := seenN_le l
  have hq : wtN w m b * seenN l ≤ 1000000 * 90 := Nat.mul_le_mul hbw hsl
  have hf : fbN (wtN w m) b l ≤ 1000000 := by unfold fbN; omega
  have hy := hR.2.2.2.2.2.2.1 b hb
  have hsc := secN_b (l := l) hy.2.2.2.1
  refine z_aload_n hC dX5_rateOf_0 rfl ?_
  refine z_iload_n hC dX5_rateOf_1 rfl ?_
  refine z_iload_n hC dX5_rateOf_2 rfl ?_
  refine zVv hC dX5_rateOf_3 zlX5_92 (c_X1_secondsOf (zRd_1 hD) hm hR hb hl) (hD _) rfl rfl rfl rfl rfl rfl ?_
  refine z_istore hC dX5_rateOf_6 (lo2 := [_, _, _, _, _]) (Nat.le_of_ble_eq_true rfl) rfl rfl ?_
  refine z_iload hC dX5_rateOf_8 rfl ?_
  refine z_nif_le hC dX5_rateOf_10 (tgt := 31) (by decide) (by omega) (fun c10 => ?_) (fun c10 => ?_)
  · exfalso; omega
  refine z_ldc2 hC dX5_rateOf_13 (v := lN 1000) (zin3 (i := 147) rfl rfl) ?_
  refine z_aload_n hC dX5_rateOf_16 rfl ?_
  refine z_iload_n hC dX5_rateOf_17 rfl ?_
  refine z_iload_n hC dX5_rateOf_18 rfl ?_
  refine zVv hC dX5_rateOf_19 zlX5_95 (c_X5_foundBy hD hw hb hl) (hD _) rfl rfl rfl rfl rfl rfl ?_
  refine z_n2m hC dX5_rateOf_22 (by omega) ?_
  refine z_mmul hC dX5_rateOf_23  ?_
  refine z_iload hC dX5_rateOf_24 rfl ?_
  refine z_n2m hC dX5_rateOf_26 (by omega) ?_
  refine z_mdiv hC dX5_rateOf_27 (by omega) (by omega) (by omega) ?_
  refine z_goto hC dX5_rateOf_28 (tgt := 32) (by decide) ?_
  refine z_lret hC dX5_rateOf_32 ?_
  exact hE.to (by rfl) rfl rfl rfl

end
