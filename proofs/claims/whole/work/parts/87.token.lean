/-! the reference: tokens -/
def mTI (I : zI) (e s a g : Int32) : zI := fun b k j => if b = 0 ∧ k = 0 ∧ 30 ≤ j ∧ j ≤ 33 then (if j = 30 then e else if j = 31 then s else if j = 32 then a else g) else I b k j
theorem mTI_30 {I : zI} {e s a g : Int32} : mTI I e s a g 0 0 30 = e := rfl
theorem mTI_31 {I : zI} {e s a g : Int32} : mTI I e s a g 0 0 31 = s := rfl
theorem mTI_32 {I : zI} {e s a g : Int32} : mTI I e s a g 0 0 32 = a := rfl
theorem mTI_33 {I : zI} {e s a g : Int32} : mTI I e s a g 0 0 33 = g := rfl
theorem mTI_ne {I : zI} {e s a g : Int32} {b k j : Nat} (h : ¬ (b = 0 ∧ k = 0 ∧ 30 ≤ j ∧ j ≤ 33)) : mTI I e s a g b k j = I b k j := if_neg h
theorem mTI_self {I : zI} {e : Int32} (h : I 0 0 30 = e) : I = mTI I e (I 0 0 31) (I 0 0 32) (I 0 0 33) := by
  subst h
  funext b k j
  by_cases h : b = 0 ∧ k = 0 ∧ 30 ≤ j ∧ j ≤ 33
  · obtain ⟨rfl, rfl, h1, h2⟩ := h
    have h4 : j = 30 ∨ j = 31 ∨ j = 32 ∨ j = 33 := by omega
    rcases h4 with rfl | rfl | rfl | rfl <;> rfl
  · exact (mTI_ne h).symm
theorem mTI_up {I I' : zI} {e s a g e' s' a' g' v : Int32} {i : Nat} (hi : 30 ≤ i ∧ i ≤ 33) (h1 : i = 30 ∧ e' = v ∨ i ≠ 30 ∧ e' = e) (h2 : i = 31 ∧ s' = v ∨ i ≠ 31 ∧ s' = s) (h3 : i = 32 ∧ a' = v ∨ i ≠ 32 ∧ a' = a) (h4 : i = 33 ∧ g' = v ∨ i ≠ 33 ∧ g' = g) : up3 (mTI I e s a g) 0 0 i v = mTI I e' s' a' g' := by
  funext b k j
  unfold up3
  by_cases h : b = 0 ∧ k = 0 ∧ 30 ≤ j ∧ j ≤ 33
  · obtain ⟨rfl, rfl, h5, h6⟩ := h
    have hj : j = 30 ∨ j = 31 ∨ j = 32 ∨ j = 33 := by omega
    by_cases e1 : j = i
    · subst e1
      rw [if_pos ⟨rfl, rfl, rfl⟩]
      rcases hj with rfl | rfl | rfl | rfl
      · rcases h1 with h1 | h1
        · exact h1.2.symm
        · exact absurd rfl h1.1
      · rcases h2 with h1 | h1
        · exact h1.2.symm
        · exact absurd rfl h1.1
      · rcases h3 with h1 | h1
        · exact h1.2.symm
        · exact absurd rfl h1.1
      · rcases h4 with h1 | h1
        · exact h1.2.symm
        · exact absurd rfl h1.1
    · rw [if_neg (fun z => e1 z.2.2)]
      rcases hj with rfl | rfl | rfl | rfl
      · rcases h1 with h1 | h1
        · exact absurd h1.1.symm e1
        · exact h1.2.symm
      · rcases h2 with h1 | h1
        · exact absurd h1.1.symm e1
        · exact h1.2.symm
      · rcases h3 with h1 | h1
        · exact absurd h1.1.symm e1
        · exact h1.2.symm
      · rcases h4 with h1 | h1
        · exact absurd h1.1.symm e1
        · exact h1.2.symm
  · rw [if_neg (fun z => h ⟨z.1, z.2.1, by omega⟩)]
    exact (mTI_ne h).trans (mTI_ne h).symm
theorem mTI_p30 {I : zI} {e s a g v : Int32} : up3 (mTI I e s a g) 0 0 30 v = mTI I v s a g := mTI_up (I' := I) (by decide) (Or.inl ⟨rfl, rfl⟩) (Or.inr ⟨by decide, rfl⟩) (Or.inr ⟨by decide, rfl⟩) (Or.inr ⟨by decide, rfl⟩)
theorem mTI_p31 {I : zI} {e s a g v : Int32} : up3 (mTI I e s a g) 0 0 31 v = mTI I e v a g := mTI_up (I' := I) (by decide) (Or.inr ⟨by decide, rfl⟩) (Or.inl ⟨rfl, rfl⟩) (Or.inr ⟨by decide, rfl⟩) (Or.inr ⟨by decide, rfl⟩)
theorem mTI_p32 {I : zI} {e s a g v : Int32} : up3 (mTI I e s a g) 0 0 32 v = mTI I e s v g := mTI_up (I' := I) (by decide) (Or.inr ⟨by decide, rfl⟩) (Or.inr ⟨by decide, rfl⟩) (Or.inl ⟨rfl, rfl⟩) (Or.inr ⟨by decide, rfl⟩)
theorem mTI_p33 {I : zI} {e s a g v : Int32} : up3 (mTI I e s a g) 0 0 33 v = mTI I e s a v := mTI_up (I' := I) (by decide) (Or.inr ⟨by decide, rfl⟩) (Or.inr ⟨by decide, rfl⟩) (Or.inr ⟨by decide, rfl⟩) (Or.inl ⟨rfl, rfl⟩)
theorem mTI_mTI {I : zI} {e s a g e' s' a' g' : Int32} : mTI (mTI I e s a g) e' s' a' g' = mTI I e' s' a' g' := by
  funext b k j
  by_cases h : b = 0 ∧ k = 0 ∧ 30 ≤ j ∧ j ≤ 33
  · exact (if_pos h).trans (if_pos h).symm
  · exact ((mTI_ne h).trans (mTI_ne h)).trans (mTI_ne h).symm
def fgF (T : Nat → Nat) (a k : Nat) : Nat := if k ≤ 4 then vlN T a k else 100000
def fgN (T : Nat → Nat) (z p : Nat) : Nat := if tkS T z p = 2 then fgF T (tkA T z p) (tkE T z p - tkA T z p) else 0
/-- the reference reads on from p -/
def mTM (T : Nat → Nat) (z : Nat) (I : zI) (p : Nat) : zI := mTI I (nI (tkE T z p)) (nI (tkS T z p)) (nI (tkA T z p)) (nI (fgN T z p))
/-- it has the TOKEN from p in hand -/
def mSt (T : Nat → Nat) (z p : Nat) (I : zI) : Prop := I 0 0 30 = nI (tkE T z p) ∧ I 0 0 31 = nI (tkS T z p) ∧ I 0 0 32 = nI (tkA T z p) ∧ I 0 0 33 = nI (fgN T z p)
theorem mTM_st {T : Nat → Nat} {z p : Nat} {I : zI} : mSt T z p (mTM T z I p) := ⟨rfl, rfl, rfl, rfl⟩
theorem mTM_2 {T : Nat → Nat} {z p p' : Nat} {I : zI} : mTM T z (mTM T z I p) p' = mTM T z I p' := mTI_mTI
theorem mTM_ne {T : Nat → Nat} {z p : Nat} {I : zI} {b k j : Nat} (h : ¬ (b = 0 ∧ k = 0 ∧ 30 ≤ j ∧ j ≤ 33)) : mTM T z I p b k j = I b k j := mTI_ne h
theorem srt1_1 {b : Nat} : srt1 b = 1 ↔ 97 ≤ b ∧ b ≤ 122 := by
  unfold srt1
  constructor
  · intro h
    split at h
    · assumption
    · split at h
      · cases h
      · split at h <;> cases h
  · intro h
    exact if_pos h
theorem srt1_2 {b : Nat} : srt1 b = 2 ↔ 48 ≤ b ∧ b ≤ 57 := by
  unfold srt1
  constructor
  · intro h
    split at h
    · cases h
    · split at h
      · assumption
      · split at h <;> cases h
  · intro h
    rw [if_neg (by omega), if_pos h]
theorem srt_3 {b : Nat} (h : b = 59) : srt1 b = 3 := by subst h; rfl
theorem srt_4 {b : Nat} (h1 : ¬ srt1 b = 1) (h2 : ¬ srt1 b = 2) (h3 : ¬ b = 59) : srt1 b = 4 := by
  rw [srt1_1] at h1
  rw [srt1_2] at h2
  unfold srt1
  rw [if_neg h1, if_neg h2, if_neg h3]
theorem fgF_s {T : Nat → Nat} {a k : Nat} (h : k < 4) : fgF T a (k + 1) = fgF T a k * 10 + T (a + k) - 48 := by
  unfold fgF
  rw [if_pos (by omega), if_pos (by omega), Nat.mul_comm]
  rfl
theorem fgF_b {T : Nat → Nat} {a k : Nat} (h : ¬ k < 4) : fgF T a (k + 1) = 100000 := if_neg (by omega)
section
variable {ad : zA} {S : zSh} {I X : zI} {Y : zY} {sz : Nat} {T : Nat → Nat} {z : Nat}

theorem c_X7_isLetter {b : Nat} (hb : b ≤ 255) : zC0 mX7_isLetter 0 [zi (nI b)] (some (zi (zb (srt1 b = 1) inferInstance))) ad S I X Y sz I X Y := by
  refine zgo (own := RX7) (k := 0) (by decide +kernel) rfl rfl rfl (fun C hC hnm hE => ?_)
  refine z_iload_n hC dX7_isLetter_0 rfl ?_
  refine z_bipush hC dX7_isLetter_1 (v := nI 97) rfl ?_
  refine z_nicmp_lt hC dX7_isLetter_3 (tgt := 16) (by decide) (by omega) (by omega) (fun c3 => ?_) (fun c3 => ?_)
  · skip
    refine z_iconst hC dX7_isLetter_16 (v := nI 0) rfl ?_
    refine z_zret hC dX7_isLetter_17 rfl ?_
    exact hE.to (by first | exact zbT (srt1_1.mpr (by omega)) | exact zbF (fun z => by have := srt1_1.mp z; omega)) rfl rfl rfl
  refine z_iload_n hC dX7_isLetter_6 rfl ?_
  refine z_bipush hC dX7_isLetter_7 (v := nI 122) rfl ?_
  refine z_nicmp_gt hC dX7_isLetter_9 (tgt := 16) (by decide) (by omega) (by omega) (fun c9 => ?_) (fun c9 => ?_)
  · skip
    refine z_iconst hC dX7_isLetter_16 (v := nI 0) rfl ?_
    refine z_zret hC dX7_isLetter_17 rfl ?_
    exact hE.to (by first | exact zbT (srt1_1.mpr (by omega)) | exact zbF (fun z => by have := srt1_1.mp z; omega)) rfl rfl rfl
  refine z_iconst hC dX7_isLetter_12 (v := nI 1) rfl ?_
  refine z_goto hC dX7_isLetter_13 (tgt := 17) (by decide) ?_
  refine z_zret hC dX7_isLetter_17 rfl ?_
  exact hE.to (by first | exact zbT (srt1_1.mpr (by omega)) | exact zbF (fun z => by have := srt1_1.mp z; omega)) rfl rfl rfl

theorem c_X7_isDigit {b : Nat} (hb : b ≤ 255) : zC0 mX7_isDigit 0 [zi (nI b)] (some (zi (zb (srt1 b = 2) inferInstance))) ad S I X Y sz I X Y := by
  refine zgo (own := RX7) (k := 0) (by decide +kernel) rfl rfl rfl (fun C hC hnm hE => ?_)
  refine z_iload_n hC dX7_isDigit_0 rfl ?_
  refine z_bipush hC dX7_isDigit_1 (v := nI 48) rfl ?_
  refine z_nicmp_lt hC dX7_isDigit_3 (tgt := 16) (by decide) (by omega) (by omega) (fun c3 => ?_) (fun c3 => ?_)
  · skip
    refine z_iconst hC dX7_isDigit_16 (v := nI 0) rfl ?_
    refine z_zret hC dX7_isDigit_17 rfl ?_
    exact hE.to (by first | exact zbT (srt1_2.mpr (by omega)) | exact zbF (fun z => by have := srt1_2.mp z; omega)) rfl rfl rfl
  refine z_iload_n hC dX7_isDigit_6 rfl ?_
  refine z_bipush hC dX7_isDigit_7 (v := nI 57) rfl ?_
  refine z_nicmp_gt hC dX7_isDigit_9 (tgt := 16) (by decide) (by omega) (by omega) (fun c9 => ?_) (fun c9 => ?_)
  · skip
    refine z_iconst hC dX7_isDigit_16 (v := nI 0) rfl ?_
    refine z_zret hC dX7_isDigit_17 rfl ?_
    exact hE.to (by first | exact zbT (srt1_2.mpr (by omega)) | exact zbF (fun z => by have := srt1_2.mp z; omega)) rfl rfl rfl
  refine z_iconst hC dX7_isDigit_12 (v := nI 1) rfl ?_
  refine z_goto hC dX7_isDigit_13 (tgt := 17) (by decide) ?_
  refine z_zret hC dX7_isDigit_17 rfl ?_
  exact hE.to (by first | exact zbT (srt1_2.mpr (by omega)) | exact zbF (fun z => by have := srt1_2.mp z; omega)) rfl rfl rfl

theorem mT_w {e0 p q : Nat} (hA : tkA T z e0 = p) (hs : tkS T z e0 = 1) (hq : enN T z 1 p = q) : mTM T z I e0 = mTI I (nI q) (nI 1) (nI p) (nI 0) := by
  have hE : tkE T z e0 = q := by unfold tkE; rw [if_pos (Or.inl hs), hs, hA, hq]
  have hg : fgN T z e0 = 0 := if_neg (by omega)
  unfold mTM
  rw [hE, hs, hA, hg]
theorem mT_d {e0 p q : Nat} (hA : tkA T z e0 = p) (hs : tkS T z e0 = 2) (hq : enN T z 2 p = q) : mTM T z I e0 = mTI I (nI q) (nI 2) (nI p) (nI (fgF T p (q - p))) := by
  have hE : tkE T z e0 = q := by unfold tkE; rw [if_pos (Or.inr hs), hs, hA, hq]
  have hg : fgN T z e0 = fgF T p (q - p) := by unfold fgN; rw [if_pos hs, hE, hA]
  unfold mTM
  rw [hE, hs, hA, hg]
theorem mT_o {e0 p s : Nat} (hA : tkA T z e0 = p) (hs : tkS T z e0 = s) (h1 : 3 ≤ s) : mTM T z I e0 = mTI I (nI (p + 1)) (nI s) (nI p) (nI 0) := by
  have hE : tkE T z e0 = p + 1 := by unfold tkE; rw [if_neg (by omega), if_neg (by omega), hA]
  have hg : fgN T z e0 = 0 := if_neg (by omega)
  unfold mTM
  rw [hE, hs, hA, hg]

theorem c_X7_token (hS : ∀ k, S 0 k = msh 0 k) (h7 : I 0 0 7 = nI z) (hX : ∀ i, i < z → X 0 15 i = nI (T i)) (hz : z ≤ 250) (hT : ∀ i, i < z → T i ≤ 255) {e0 : Nat} (he : I 0 0 30 = nI e0) (hez : e0 ≤ z) : zC0 mX7_token 1 [zr 0 0] (none) ad S I X Y sz (mTM T z I e0) X Y := by
  refine zgo (own := RX7) (k := 0) (by decide +kernel) rfl rfl rfl (fun C hC hnm hE => ?_)
  refine z_I (I2 := mTI I (nI e0) (I 0 0 31) (I 0 0 32) (I 0 0 33)) (mTI_self he) ?_
  have loop0 : ∀ (fuel : Nat) (p : Nat), z - p < fuel → p ≤ z → skN T z p = skN T z e0 → zL C 1 ad S 0 0 sz (mTI I (nI p) (I 0 0 31) (I 0 0 32) (I 0 0 33)) X Y 0 [some (zr 0 0)] [] := by
    intro fuel
    induction fuel with
    | zero => intro p hfu; exact absurd hfu (Nat.not_lt_zero _)
    | succ fuel ih =>
      intro p hfu hp0 hsk
      refine z_aload_n hC dX7_token_0 rfl ?_
      refine z_getN hC dX7_token_1 (hS _) zfX7_176 rfl mTI_30 ?_
      refine z_aload_n hC dX7_token_4 rfl ?_
      refine z_getN hC dX7_token_5 (hS _) zfX7_173 rfl ((mTI_ne (by omega)).trans h7) ?_
      refine z_nicmp_ge hC dX7_token_8 (tgt := 38) (by decide) (by omega) (by omega) (fun c8 => ?_) (fun c8 => ?_)
      · skip
        obtain rfl : p = z := by omega
        · skip
          have hA : tkA T p e0 = p := by show skN T p e0 = p; rw [← hsk, skN_z (Nat.le_refl _)]
          have hs : tkS T p e0 = 0 := by unfold tkS; rw [hA, if_neg (Nat.lt_irrefl _)]
          have hE1 : tkE T p e0 = p := by unfold tkE; rw [if_neg (by omega), if_pos hs, hA]
          have hg : fgN T p e0 = 0 := if_neg (by omega)
          refine z_aload_n hC dX7_token_38 rfl ?_
          refine z_aload_n hC dX7_token_39 rfl ?_
          refine z_getN hC dX7_token_40 (hS _) zfX7_176 rfl mTI_30 ?_
          refine z_putI hC dX7_token_43 (hS _) zfX7_179 rfl rfl rfl rfl ?_
          rw [mTI_p32]
          refine z_aload_n hC dX7_token_46 rfl ?_
          refine z_iconst hC dX7_token_47 (v := nI 0) rfl ?_
          refine z_putI hC dX7_token_48 (hS _) zfX7_182 rfl rfl rfl rfl ?_
          rw [mTI_p33]
          refine z_aload_n hC dX7_token_51 rfl ?_
          refine z_getN hC dX7_token_52 (hS _) zfX7_176 rfl mTI_30 ?_
          refine z_aload_n hC dX7_token_55 rfl ?_
          refine z_getN hC dX7_token_56 (hS _) zfX7_173 rfl ((mTI_ne (by omega)).trans h7) ?_
          refine z_nicmp_ne hC dX7_token_59 (tgt := 70) (by decide) (by omega) (by omega) (fun c59 => ?_) (fun c59 => ?_)
          · exfalso; omega
          refine z_aload_n hC dX7_token_62 rfl ?_
          refine z_iconst hC dX7_token_63 (v := nI 0) rfl ?_
          refine z_putI hC dX7_token_64 (hS _) zfX7_185 rfl rfl rfl rfl ?_
          rw [mTI_p31]
          refine z_goto hC dX7_token_67 (tgt := 263) (by decide) ?_
          refine z_vret hC dX7_token_263 ?_
          exact hE.to (by rfl) (by unfold mTM; rw [hA, hs, hE1, hg]) rfl rfl
      have hpz : p < z := by omega
      have hTb := hT p hpz
      refine z_aload_n hC dX7_token_11 rfl ?_
      refine z_getR hC dX7_token_12 (hS _) zfX7_31 rfl ?_
      refine z_aload_n hC dX7_token_15 rfl ?_
      refine z_getN hC dX7_token_16 (hS _) zfX7_176 rfl mTI_30 ?_
      refine z_naldN hC dX7_token_19 (hS _) (by omega) rfl (hX _ (by omega)) ?_
      refine z_bipush hC dX7_token_20 (v := nI 32) rfl ?_
      refine z_nicmp_ne hC dX7_token_22 (tgt := 38) (by decide) (by omega) (by omega) (fun c22 => ?_) (fun c22 => ?_)
      · skip
        have hTp := hT p hpz
        have hsb := srt1_b (T p)
        · skip
          have hA : tkA T z e0 = p := by show skN T z e0 = p; rw [← hsk, skN_0 hpz c22]
          have hs : tkS T z e0 = srt1 (T p) := by unfold tkS; rw [hA, if_pos hpz]
          refine z_aload_n hC dX7_token_38 rfl ?_
          refine z_aload_n hC dX7_token_39 rfl ?_
          refine z_getN hC dX7_token_40 (hS _) zfX7_176 rfl mTI_30 ?_
          refine z_putI hC dX7_token_43 (hS _) zfX7_179 rfl rfl rfl rfl ?_
          rw [mTI_p32]
          refine z_aload_n hC dX7_token_46 rfl ?_
          refine z_iconst hC dX7_token_47 (v := nI 0) rfl ?_
          refine z_putI hC dX7_token_48 (hS _) zfX7_182 rfl rfl rfl rfl ?_
          rw [mTI_p33]
          refine z_aload_n hC dX7_token_51 rfl ?_
          refine z_getN hC dX7_token_52 (hS _) zfX7_176 rfl mTI_30 ?_
          refine z_aload_n hC dX7_token_55 rfl ?_
          refine z_getN hC dX7_token_56 (hS _) zfX7_173 rfl ((mTI_ne (by omega)).trans h7) ?_
          refine z_nicmp_ne hC dX7_token_59 (tgt := 70) (by decide) (by omega) (by omega) (fun c59 => ?_) (fun c59 => ?_)
          rotate_left
          · exfalso; omega
          refine z_aload_n hC dX7_token_70 rfl ?_
          refine z_getR hC dX7_token_71 (hS _) zfX7_31 rfl ?_
          refine z_aload_n hC dX7_token_74 rfl ?_
          refine z_getN hC dX7_token_75 (hS _) zfX7_176 rfl mTI_30 ?_
          refine z_naldN hC dX7_token_78 (hS _) (by omega) rfl (hX _ (by omega)) ?_
          refine wSv hC dX7_token_79 zlX7_188 (c_X7_isLetter hTp) rfl rfl rfl rfl ⟨rfl, rfl⟩ ?_
          refine w_ifb_eq hC dX7_token_82 (tgt := 129) (by decide) (fun c82 => ?_) (fun c82 => ?_)
          · skip
            refine z_aload_n hC dX7_token_129 rfl ?_
            refine z_getR hC dX7_token_130 (hS _) zfX7_31 rfl ?_
            refine z_aload_n hC dX7_token_133 rfl ?_
            refine z_getN hC dX7_token_134 (hS _) zfX7_176 rfl mTI_30 ?_
            refine z_naldN hC dX7_token_137 (hS _) (by omega) rfl (hX _ (by omega)) ?_
            refine wSv hC dX7_token_138 zlX7_192 (c_X7_isDigit hTp) rfl rfl rfl rfl ⟨rfl, rfl⟩ ?_
            refine w_ifb_eq hC dX7_token_141 (tgt := 230) (by decide) (fun c141 => ?_) (fun c141 => ?_)
            · skip
              refine z_aload_n hC dX7_token_230 rfl ?_
              refine z_aload_n hC dX7_token_231 rfl ?_
              refine z_getR hC dX7_token_232 (hS _) zfX7_31 rfl ?_
              refine z_aload_n hC dX7_token_235 rfl ?_
              refine z_getN hC dX7_token_236 (hS _) zfX7_176 rfl mTI_30 ?_
              refine z_naldN hC dX7_token_239 (hS _) (by omega) rfl (hX _ (by omega)) ?_
              refine z_bipush hC dX7_token_240 (v := nI 59) rfl ?_
              refine z_nicmp_ne hC dX7_token_242 (tgt := 249) (by decide) (by omega) (by omega) (fun c242 => ?_) (fun c242 => ?_)
              · skip
                refine z_iconst hC dX7_token_249 (v := nI 4) rfl ?_
                refine z_putI hC dX7_token_250 (hS _) zfX7_185 rfl rfl rfl rfl ?_
                rw [mTI_p31]
                refine z_aload_n hC dX7_token_253 rfl ?_
                refine z_dup hC dX7_token_254 rfl ?_
                refine z_getN hC dX7_token_255 (hS _) zfX7_176 rfl mTI_30 ?_
                refine z_iconst hC dX7_token_258 (v := nI 1) rfl ?_
                refine z_nadd hC dX7_token_259  ?_
                refine z_putI hC dX7_token_260 (hS _) zfX7_176 rfl rfl rfl rfl ?_
                rw [mTI_p30]
                refine z_vret hC dX7_token_263 ?_
                exact hE.to (by rfl) (by first | exact mT_w hA (hs.trans c82) (hen.symm.trans (enN_z (by omega))) | exact mT_w hA (hs.trans c82) (hen.symm.trans (enN_0 hqz c113)) | exact mT_d hA (hs.trans c141) (hen.symm.trans (enN_z (by omega))) | exact mT_d hA (hs.trans c141) (hen.symm.trans (enN_0 hqz c172)) | exact mT_o hA (hs.trans (srt_3 c242)) (by decide) | exact mT_o hA (hs.trans (srt_4 c82 c141 c242)) (by decide)) rfl rfl
              refine z_iconst hC dX7_token_245 (v := nI 3) rfl ?_
              refine z_goto hC dX7_token_246 (tgt := 250) (by decide) ?_
              refine z_putI hC dX7_token_250 (hS _) zfX7_185 rfl rfl rfl rfl ?_
              rw [mTI_p31]
              refine z_aload_n hC dX7_token_253 rfl ?_
              refine z_dup hC dX7_token_254 rfl ?_
              refine z_getN hC dX7_token_255 (hS _) zfX7_176 rfl mTI_30 ?_
              refine z_iconst hC dX7_token_258 (v := nI 1) rfl ?_
              refine z_nadd hC dX7_token_259  ?_
              refine z_putI hC dX7_token_260 (hS _) zfX7_176 rfl rfl rfl rfl ?_
              rw [mTI_p30]
              refine z_vret hC dX7_token_263 ?_
              exact hE.to (by rfl) (by first | exact mT_w hA (hs.trans c82) (hen.symm.trans (enN_z (by omega))) | exact mT_w hA (hs.trans c82) (hen.symm.trans (enN_0 hqz c113)) | exact mT_d hA (hs.trans c141) (hen.symm.trans (enN_z (by omega))) | exact mT_d hA (hs.trans c141) (hen.symm.trans (enN_0 hqz c172)) | exact mT_o hA (hs.trans (srt_3 c242)) (by decide) | exact mT_o hA (hs.trans (srt_4 c82 c141 c242)) (by decide)) rfl rfl
            refine z_aload_n hC dX7_token_144 rfl ?_
            refine z_iconst hC dX7_token_145 (v := nI 2) rfl ?_
            refine z_putI hC dX7_token_146 (hS _) zfX7_185 rfl rfl rfl rfl ?_
            rw [mTI_p31]
            have loop149 : ∀ (fuel : Nat) (q : Nat), z - q < fuel → p ≤ q → q ≤ z → enN T z 2 q = enN T z 2 p → zL C 1 ad S 0 0 sz (mTI I (nI q) (nI 2) (nI p) (nI (fgF T p (q - p)))) X Y 149 [some (zr 0 0)] [] := by
              intro fuel149
              induction fuel149 with
              | zero => intro q hfu; exact absurd hfu (Nat.not_lt_zero _)
              | succ fuel149 ih149 =>
                intro q hfu hpq hq0 hen
                refine z_aload_n hC dX7_token_149 rfl ?_
                refine z_getN hC dX7_token_150 (hS _) zfX7_176 rfl mTI_30 ?_
                refine z_aload_n hC dX7_token_153 rfl ?_
                refine z_getN hC dX7_token_154 (hS _) zfX7_173 rfl ((mTI_ne (by omega)).trans h7) ?_
                refine z_nicmp_ge hC dX7_token_157 (tgt := 263) (by decide) (by omega) (by omega) (fun c157 => ?_) (fun c157 => ?_)
                · skip
                  refine z_vret hC dX7_token_263 ?_
                  exact hE.to (by rfl) (by first | exact mT_w hA (hs.trans c82) (hen.symm.trans (enN_z (by omega))) | exact mT_w hA (hs.trans c82) (hen.symm.trans (enN_0 hqz c113)) | exact mT_d hA (hs.trans c141) (hen.symm.trans (enN_z (by omega))) | exact mT_d hA (hs.trans c141) (hen.symm.trans (enN_0 hqz c172)) | exact mT_o hA (hs.trans (srt_3 c242)) (by decide) | exact mT_o hA (hs.trans (srt_4 c82 c141 c242)) (by decide)) rfl rfl
                have hqz : q < z := by omega
                refine z_aload_n hC dX7_token_160 rfl ?_
                refine z_getR hC dX7_token_161 (hS _) zfX7_31 rfl ?_
                refine z_aload_n hC dX7_token_164 rfl ?_
                refine z_getN hC dX7_token_165 (hS _) zfX7_176 rfl mTI_30 ?_
                refine z_naldN hC dX7_token_168 (hS _) (by omega) rfl (hX _ (by omega)) ?_
                refine wSv hC dX7_token_169 zlX7_192 (c_X7_isDigit (hT q hqz)) rfl rfl rfl rfl ⟨rfl, rfl⟩ ?_
                refine w_ifb_eq hC dX7_token_172 (tgt := 263) (by decide) (fun c172 => ?_) (fun c172 => ?_)
                · skip
                  refine z_vret hC dX7_token_263 ?_
                  exact hE.to (by rfl) (by first | exact mT_w hA (hs.trans c82) (hen.symm.trans (enN_z (by omega))) | exact mT_w hA (hs.trans c82) (hen.symm.trans (enN_0 hqz c113)) | exact mT_d hA (hs.trans c141) (hen.symm.trans (enN_z (by omega))) | exact mT_d hA (hs.trans c141) (hen.symm.trans (enN_0 hqz c172)) | exact mT_o hA (hs.trans (srt_3 c242)) (by decide) | exact mT_o hA (hs.trans (srt_4 c82 c141 c242)) (by decide)) rfl rfl
                have hd := srt_2 c172
                refine z_aload_n hC dX7_token_175 rfl ?_
                refine z_aload_n hC dX7_token_176 rfl ?_
                refine z_getN hC dX7_token_177 (hS _) zfX7_176 rfl mTI_30 ?_
                refine z_aload_n hC dX7_token_180 rfl ?_
                refine z_getN hC dX7_token_181 (hS _) zfX7_179 rfl mTI_32 ?_
                refine z_nsub hC dX7_token_184 (by omega) ?_
                refine z_iconst hC dX7_token_185 (v := nI 4) rfl ?_
                refine z_nicmp_ge hC dX7_token_186 (tgt := 212) (by decide) (by omega) (by omega) (fun c186 => ?_) (fun c186 => ?_)
                · skip
                  have hfs : 100000 = fgF T p (q + 1 - p) := by rw [show q + 1 - p = (q - p) + 1 by omega, fgF_b (by omega)]
                  refine z_ldc hC dX7_token_212 (v := nI 100000) (zin6 (i := 5) rfl rfl) ?_
                  rw [hfs]
                  refine z_putI hC dX7_token_214 (hS _) zfX7_182 rfl rfl rfl rfl ?_
                  rw [mTI_p33]
                  refine z_aload_n hC dX7_token_217 rfl ?_
                  refine z_dup hC dX7_token_218 rfl ?_
                  refine z_getN hC dX7_token_219 (hS _) zfX7_176 rfl mTI_30 ?_
                  refine z_iconst hC dX7_token_222 (v := nI 1) rfl ?_
                  refine z_nadd hC dX7_token_223  ?_
                  refine z_putI hC dX7_token_224 (hS _) zfX7_176 rfl rfl rfl rfl ?_
                  rw [mTI_p30]
                  refine z_goto hC dX7_token_227 (tgt := 149) (by decide) ?_
                  exact ih149 (q + 1) (by omega) (by omega) (by omega) (by rw [← hen, enN_s hqz c172])
                have hfs : fgF T p (q - p) * 10 + T q - 48 = fgF T p (q + 1 - p) := by rw [show q + 1 - p = (q - p) + 1 by omega, fgF_s (by omega), show p + (q - p) = q by omega]
                refine z_aload_n hC dX7_token_189 rfl ?_
                refine z_getN hC dX7_token_190 (hS _) zfX7_182 rfl mTI_33 ?_
                refine z_bipush hC dX7_token_193 (v := nI 10) rfl ?_
                refine z_nmul hC dX7_token_195  ?_
                refine z_aload_n hC dX7_token_196 rfl ?_
                refine z_getR hC dX7_token_197 (hS _) zfX7_31 rfl ?_
                refine z_aload_n hC dX7_token_200 rfl ?_
                refine z_getN hC dX7_token_201 (hS _) zfX7_176 rfl mTI_30 ?_
                refine z_naldN hC dX7_token_204 (hS _) (by omega) rfl (hX _ (by omega)) ?_
                refine z_nadd hC dX7_token_205  ?_
                refine z_bipush hC dX7_token_206 (v := nI 48) rfl ?_
                refine z_nsub hC dX7_token_208 (by omega) ?_
                refine z_goto hC dX7_token_209 (tgt := 214) (by decide) ?_
                rw [hfs]
                refine z_putI hC dX7_token_214 (hS _) zfX7_182 rfl rfl rfl rfl ?_
                rw [mTI_p33]
                refine z_aload_n hC dX7_token_217 rfl ?_
                refine z_dup hC dX7_token_218 rfl ?_
                refine z_getN hC dX7_token_219 (hS _) zfX7_176 rfl mTI_30 ?_
                refine z_iconst hC dX7_token_222 (v := nI 1) rfl ?_
                refine z_nadd hC dX7_token_223  ?_
                refine z_putI hC dX7_token_224 (hS _) zfX7_176 rfl rfl rfl rfl ?_
                rw [mTI_p30]
                refine z_goto hC dX7_token_227 (tgt := 149) (by decide) ?_
                exact ih149 (q + 1) (by omega) (by omega) (by omega) (by rw [← hen, enN_s hqz c172])
            have hf0 : fgF T p (p - p) = 0 := by rw [Nat.sub_self]; rfl
            refine z_I (I2 := mTI I (nI p) (nI 2) (nI p) (nI (fgF T p (p - p)))) (by rw [hf0]) ?_
            exact loop149 _ p (Nat.lt_succ_self _) (Nat.le_refl _) (by omega) rfl
          refine z_aload_n hC dX7_token_85 rfl ?_
          refine z_iconst hC dX7_token_86 (v := nI 1) rfl ?_
          refine z_putI hC dX7_token_87 (hS _) zfX7_185 rfl rfl rfl rfl ?_
          rw [mTI_p31]
          have loop90 : ∀ (fuel : Nat) (q : Nat), z - q < fuel → q ≤ z → enN T z 1 q = enN T z 1 p → zL C 1 ad S 0 0 sz (mTI I (nI q) (nI 1) (nI p) (nI 0)) X Y 90 [some (zr 0 0)] [] := by
            intro fuel90
            induction fuel90 with
            | zero => intro q hfu; exact absurd hfu (Nat.not_lt_zero _)
            | succ fuel90 ih90 =>
              intro q hfu hq0 hen
              refine z_aload_n hC dX7_token_90 rfl ?_
              refine z_getN hC dX7_token_91 (hS _) zfX7_176 rfl mTI_30 ?_
              refine z_aload_n hC dX7_token_94 rfl ?_
              refine z_getN hC dX7_token_95 (hS _) zfX7_173 rfl ((mTI_ne (by omega)).trans h7) ?_
              refine z_nicmp_ge hC dX7_token_98 (tgt := 263) (by decide) (by omega) (by omega) (fun c98 => ?_) (fun c98 => ?_)
              · skip
                refine z_vret hC dX7_token_263 ?_
                exact hE.to (by rfl) (by first | exact mT_w hA (hs.trans c82) (hen.symm.trans (enN_z (by omega))) | exact mT_w hA (hs.trans c82) (hen.symm.trans (enN_0 hqz c113)) | exact mT_d hA (hs.trans c141) (hen.symm.trans (enN_z (by omega))) | exact mT_d hA (hs.trans c141) (hen.symm.trans (enN_0 hqz c172)) | exact mT_o hA (hs.trans (srt_3 c242)) (by decide) | exact mT_o hA (hs.trans (srt_4 c82 c141 c242)) (by decide)) rfl rfl
              have hqz : q < z := by omega
              refine z_aload_n hC dX7_token_101 rfl ?_
              refine z_getR hC dX7_token_102 (hS _) zfX7_31 rfl ?_
              refine z_aload_n hC dX7_token_105 rfl ?_
              refine z_getN hC dX7_token_106 (hS _) zfX7_176 rfl mTI_30 ?_
              refine z_naldN hC dX7_token_109 (hS _) (by omega) rfl (hX _ (by omega)) ?_
              refine wSv hC dX7_token_110 zlX7_188 (c_X7_isLetter (hT q hqz)) rfl rfl rfl rfl ⟨rfl, rfl⟩ ?_
              refine w_ifb_eq hC dX7_token_113 (tgt := 263) (by decide) (fun c113 => ?_) (fun c113 => ?_)
              · skip
                refine z_vret hC dX7_token_263 ?_
                exact hE.to (by rfl) (by first | exact mT_w hA (hs.trans c82) (hen.symm.trans (enN_z (by omega))) | exact mT_w hA (hs.trans c82) (hen.symm.trans (enN_0 hqz c113)) | exact mT_d hA (hs.trans c141) (hen.symm.trans (enN_z (by omega))) | exact mT_d hA (hs.trans c141) (hen.symm.trans (enN_0 hqz c172)) | exact mT_o hA (hs.trans (srt_3 c242)) (by decide) | exact mT_o hA (hs.trans (srt_4 c82 c141 c242)) (by decide)) rfl rfl
              refine z_aload_n hC dX7_token_116 rfl ?_
              refine z_dup hC dX7_token_117 rfl ?_
              refine z_getN hC dX7_token_118 (hS _) zfX7_176 rfl mTI_30 ?_
              refine z_iconst hC dX7_token_121 (v := nI 1) rfl ?_
              refine z_nadd hC dX7_token_122  ?_
              refine z_putI hC dX7_token_123 (hS _) zfX7_176 rfl rfl rfl rfl ?_
              rw [mTI_p30]
              refine z_goto hC dX7_token_126 (tgt := 90) (by decide) ?_
              exact ih90 (q + 1) (by omega) (by omega) (by rw [← hen, enN_s hqz c113])
          exact loop90 _ p (Nat.lt_succ_self _) (by omega) rfl
      refine z_aload_n hC dX7_token_25 rfl ?_
      refine z_dup hC dX7_token_26 rfl ?_
      refine z_getN hC dX7_token_27 (hS _) zfX7_176 rfl mTI_30 ?_
      refine z_iconst hC dX7_token_30 (v := nI 1) rfl ?_
      refine z_nadd hC dX7_token_31  ?_
      refine z_putI hC dX7_token_32 (hS _) zfX7_176 rfl rfl rfl rfl ?_
      rw [mTI_p30]
      refine z_goto hC dX7_token_35 (tgt := 0) (by decide) ?_
      exact ih (p + 1) (by omega) (by omega) (by rw [← hsk, skN_s hpz c22])
  exact loop0 _ e0 (Nat.lt_succ_self _) hez rfl

end
