/-! the reference: words and numbers -/
theorem wd_ne : ∀ i, i < 8 → ∀ j, j < 8 → i ≠ j → zSl.getD i 0 ≠ zSl.getD j 0 ∨ ∃ k, k < 3 ∧ wdN i k ≠ wdN j k := by decide +kernel
theorem wrd_u {T : Nat → Nat} {a e i j : Nat} (hi : i < 8) (hj : j < 8) (h1 : wrd T a e i) (h2 : wrd T a e j) : i = j := by
  by_cases h : i = j
  · exact h
  · exfalso
    have h3 := (zsl4 i hi).2
    rcases wd_ne i hi j hj h with c | ⟨k, hk, c⟩
    · exact c (h1.1.symm.trans h2.1)
    · have h4 := (zsl4 j hj).2
      exact c ((h1.2 k (by omega)).symm.trans (h2.2 k (by omega)))
theorem wrd_w {T : Nat → Nat} {a e j : Nat} (hj : j < 8) (h : wrd T a e j) : wstN T a e = some j := by
  have hn : ∀ i, i < 8 → i ≠ j → ¬ wrd T a e i := fun i hi hij z => hij (wrd_u hi hj z h)
  unfold wstN
  rcases cy_q hj with rfl | rfl | rfl | rfl | rfl | rfl | rfl | rfl
  · rw [if_pos h]
  · rw [if_neg (hn 0 (by decide) (by decide)), if_pos h]
  · rw [if_neg (hn 0 (by decide) (by decide)), if_neg (hn 1 (by decide) (by decide)), if_pos h]
  · rw [if_neg (hn 0 (by decide) (by decide)), if_neg (hn 1 (by decide) (by decide)), if_neg (hn 2 (by decide) (by decide)), if_pos h]
  · rw [if_neg (hn 0 (by decide) (by decide)), if_neg (hn 1 (by decide) (by decide)), if_neg (hn 2 (by decide) (by decide)), if_neg (hn 3 (by decide) (by decide)), if_pos h]
  · rw [if_neg (hn 0 (by decide) (by decide)), if_neg (hn 1 (by decide) (by decide)), if_neg (hn 2 (by decide) (by decide)), if_neg (hn 3 (by decide) (by decide)), if_neg (hn 4 (by decide) (by decide)), if_pos h]
  · rw [if_neg (hn 0 (by decide) (by decide)), if_neg (hn 1 (by decide) (by decide)), if_neg (hn 2 (by decide) (by decide)), if_neg (hn 3 (by decide) (by decide)), if_neg (hn 4 (by decide) (by decide)), if_neg (hn 5 (by decide) (by decide)), if_pos h]
  · rw [if_neg (hn 0 (by decide) (by decide)), if_neg (hn 1 (by decide) (by decide)), if_neg (hn 2 (by decide) (by decide)), if_neg (hn 3 (by decide) (by decide)), if_neg (hn 4 (by decide) (by decide)), if_neg (hn 5 (by decide) (by decide)), if_neg (hn 6 (by decide) (by decide)), if_pos h]
theorem wst_w {T : Nat → Nat} {a e j : Nat} (h : wstN T a e = some j) : wrd T a e j := by
  unfold wstN at h
  repeat' split at h
  all_goals first | (cases h; assumption) | cases h
/-- the statement's word -/
def wqN (T : Nat → Nat) (z p : Nat) : Option Nat := if tkS T z p = 1 then wstN T (tkA T z p) (tkE T z p) else none
theorem wqN_iff {T : Nat → Nat} {z p j : Nat} (hj : j < 8) : (tkS T z p = 1 ∧ wrd T (tkA T z p) (tkE T z p) j) ↔ wqN T z p = some j := by
  unfold wqN
  constructor
  · intro h
    rw [if_pos h.1]; exact wrd_w hj h.2
  · intro h
    by_cases c : tkS T z p = 1
    · rw [if_pos c] at h
      exact ⟨c, wst_w h⟩
    · rw [if_neg c] at h
      cases h
theorem fgN_le {T : Nat → Nat} {z p : Nat} (hp : p ≤ z) : fgN T z p ≤ 100000 := by
  unfold fgN
  by_cases h : tkS T z p = 2
  · rw [if_pos h]
    unfold fgF
    split
    · next h4 =>
      have htk := tk_le (T := T) hp
      have h5 : vlN T (tkA T z p) (tkE T z p - tkA T z p) < 10 ^ (tkE T z p - tkA T z p) := vlN_le (fun i hi => (htk.2.2.2.2 (Or.inr h) _ (by omega) (by omega)).trans h)
      have h6 : 10 ^ (tkE T z p - tkA T z p) ≤ 10 ^ 4 := Nat.pow_le_pow_right (by decide) h4
      omega
    · exact Nat.le_refl _
  · rw [if_neg h]; omega
/-- what number asks of a value -/
abbrev cP (lo : Nat) (h : Int32) (v : Nat) : Prop := lN lo ≤ lN v ∧ lN v ≤ h.toInt64
theorem cP_n {lo h v : Nat} (h1 : lo < 2 ^ 31) (h2 : h < 2 ^ 31) (h3 : v < 2 ^ 31) : cP lo (nI h) v ↔ lo ≤ v ∧ v ≤ h := by
  refine and_congr (pk_lLE (by omega) (by omega)) ?_
  rw [show (nI h).toInt64 = lN h from nI_l h2]
  exact pk_lLE (by omega) (by omega)
theorem cP_b {n v : Nat} (h2 : n < 2 ^ 31) (h3 : v < 2 ^ 31) : cP 0 (nI n - nI 1) v ↔ v < n := by
  constructor
  · intro h
    exact (pk_lLT (by omega) (by omega)).mp ((i2l_pr h2).mp h.2)
  · intro h
    exact ⟨(pk_lLE (by omega) (by omega)).mpr (Nat.zero_le _), (i2l_pr h2).mpr ((pk_lLT (by omega) (by omega)).mpr h)⟩
section
variable {ad : zA} {S : zSh} {I X : zI} {Y : zY} {sz : Nat} {T : Nat → Nat} {z : Nat}

theorem c_X7_isWord (hS : ∀ k, S 0 k = msh 0 k) (h7 : I 0 0 7 = nI z) (hX : ∀ i, i < z → X 0 15 i = nI (T i)) (hz : z ≤ 250) (hT : ∀ i, i < z → T i ≤ 255) {p : Nat} (hp : p ≤ z) (hs : mSt T z p I) {j : Nat} (hj : j < 8) : zC0 mX7_isWord 4 [zr 0 0, zr 5 j] (some (zi (zb (tkS T z p = 1 ∧ wrd T (tkA T z p) (tkE T z p) j) inferInstance))) ad S I X Y sz I X Y := by
  refine zgo (own := RX7) (k := 1) (by decide +kernel) rfl rfl rfl (fun C hC hnm hE => ?_)
  have htk := tk_le (T := T) hp
  have hsb : tkS T z p ≤ 4 := tkS_le
  have hfb := fgN_le (T := T) hp
  have hl := zsl4 j hj
  refine z_aload_n hC dX7_isWord_0 rfl ?_
  refine z_getN hC dX7_isWord_1 (hS _) zfX7_185 rfl hs.2.1 ?_
  refine z_iconst hC dX7_isWord_4 (v := nI 1) rfl ?_
  refine z_nicmp_ne hC dX7_isWord_5 (tgt := 24) (by decide) (by omega) (by omega) (fun c5 => ?_) (fun c5 => ?_)
  · skip
    refine z_iconst hC dX7_isWord_24 (v := nI 0) rfl ?_
    refine z_zret hC dX7_isWord_25 rfl ?_
    exact hE.to (by first | exact zbF (fun h => c5 h.1) | exact zbF (fun h => c21 h.2.1)) rfl rfl rfl
  refine z_aload_n hC dX7_isWord_8 rfl ?_
  refine z_getN hC dX7_isWord_9 (hS _) zfX7_176 rfl hs.1 ?_
  refine z_aload_n hC dX7_isWord_12 rfl ?_
  refine z_getN hC dX7_isWord_13 (hS _) zfX7_179 rfl hs.2.2.1 ?_
  refine z_nsub hC dX7_isWord_16 (by omega) ?_
  refine z_aload_n hC dX7_isWord_17 rfl ?_
  refine wTv hC dX7_isWord_18 zlX7_199 (c_J0_length_8abf5 hj) hj rfl rfl rfl rfl rfl ⟨rfl, rfl⟩ ?_
  refine z_nicmp_eq hC dX7_isWord_21 (tgt := 26) (by decide) (by omega) (by omega) (fun c21 => ?_) (fun c21 => ?_)
  · skip
    refine z_iconst hC dX7_isWord_26 (v := nI 0) rfl ?_
    refine z_istore_n hC dX7_isWord_27 (lo2 := [_, _, _]) (Nat.le_of_ble_eq_true rfl) rfl rfl ?_
    have loop28 : ∀ (fuel : Nat) (i : Nat), zSl.getD j 0 - i < fuel → i ≤ zSl.getD j 0 → (∀ k, k < i → T (tkA T z p + k) = wdN j k) → zL C 3 ad S 0 0 sz I X Y 28 [some (zr 0 0), some (zr 5 j), some (zi (nI i))] [] := by
      intro fuel
      induction fuel with
      | zero => intro i hfu; exact absurd hfu (Nat.not_lt_zero _)
      | succ fuel ih =>
        intro i hfu hil hpre
        refine z_iload_n hC dX7_isWord_28 rfl ?_
        refine z_aload_n hC dX7_isWord_29 rfl ?_
        refine wTv hC dX7_isWord_30 zlX7_199 (c_J0_length_8abf5 hj) hj rfl rfl rfl rfl rfl ⟨rfl, rfl⟩ ?_
        refine z_nicmp_ge hC dX7_isWord_33 (tgt := 63) (by decide) (by omega) (by omega) (fun c33 => ?_) (fun c33 => ?_)
        · skip
          refine z_iconst hC dX7_isWord_63 (v := nI 1) rfl ?_
          refine z_zret hC dX7_isWord_64 rfl ?_
          exact hE.to (zbT ⟨by omega, c21, fun k hk => hpre k (by omega)⟩) rfl rfl rfl
        have hi : i < zSl.getD j 0 := by omega
        have hwb := zwd j hj i hi
        have hTb := hT (tkA T z p + i) (by omega)
        refine z_aload_n hC dX7_isWord_36 rfl ?_
        refine z_getR hC dX7_isWord_37 (hS _) zfX7_31 rfl ?_
        refine z_aload_n hC dX7_isWord_40 rfl ?_
        refine z_getN hC dX7_isWord_41 (hS _) zfX7_179 rfl hs.2.2.1 ?_
        refine z_iload_n hC dX7_isWord_44 rfl ?_
        refine z_nadd hC dX7_isWord_45  ?_
        refine z_naldN hC dX7_isWord_46 (hS _) (by omega) rfl (hX _ (by omega)) ?_
        refine z_aload_n hC dX7_isWord_47 rfl ?_
        refine z_iload_n hC dX7_isWord_48 rfl ?_
        refine wTv hC dX7_isWord_49 zlX7_204 (c_J0_charAt_5068e hj hi) hj rfl rfl rfl rfl rfl ⟨rfl, rfl⟩ ?_
        refine z_nicmp_eq hC dX7_isWord_52 (tgt := 57) (by decide) (by omega) (by omega) (fun c52 => ?_) (fun c52 => ?_)
        · skip
          refine z_ninc hC dX7_isWord_57 (lo2 := [_, _, _]) rfl rfl rfl rfl ?_
          refine z_goto hC dX7_isWord_60 (tgt := 28) (by decide) ?_
          refine ih (i + 1) (by omega) (by omega) (fun k hk => ?_)
          by_cases e1 : k = i
          · rw [e1]; exact c52
          · exact hpre k (by omega)
        refine z_iconst hC dX7_isWord_55 (v := nI 0) rfl ?_
        refine z_zret hC dX7_isWord_56 rfl ?_
        exact hE.to (zbF (fun h => c52 (h.2.2 i hi))) rfl rfl rfl
    exact loop28 _ 0 (Nat.lt_succ_self _) (Nat.zero_le _) (fun k hk => absurd hk (Nat.not_lt_zero _))
  refine z_iconst hC dX7_isWord_24 (v := nI 0) rfl ?_
  refine z_zret hC dX7_isWord_25 rfl ?_
  exact hE.to (by first | exact zbF (fun h => c5 h.1) | exact zbF (fun h => c21 h.2.1)) rfl rfl rfl

theorem c_isW (hS : ∀ k, S 0 k = msh 0 k) (h7 : I 0 0 7 = nI z) (hX : ∀ i, i < z → X 0 15 i = nI (T i)) (hz : z ≤ 250) (hT : ∀ i, i < z → T i ≤ 255) {p : Nat} (hp : p ≤ z) (hs : mSt T z p I) {j : Nat} (hj : j < 8) {v : Nat} (hv : v = if wqN T z p = some j then 1 else 0) : zC0 mX7_isWord 4 [zr 0 0, zr 5 j] (some (zi (nI v))) ad S I X Y sz I X Y := by
  have h := c_X7_isWord (ad := ad) (Y := Y) (sz := sz) hS h7 hX hz hT hp hs hj
  subst hv
  by_cases c : wqN T z p = some j
  · rw [if_pos c]
    rw [zb_1 ((wqN_iff hj).mpr c)] at h
    exact h
  · rw [if_neg c]
    rw [zb_0 (fun q => c ((wqN_iff hj).mp q))] at h
    exact h
theorem c_X7_wrong (hS : ∀ k, S 0 k = msh 0 k) {a : Nat} (h : I 0 0 32 = nI a) : zC0 mX7_wrong 0 [zr 0 0] (some (zi (nI 0))) ad S I X Y sz (up3 I 0 0 34 (nI a)) X Y := by
  refine zgo (own := RX7) (k := 0) (by decide +kernel) rfl rfl rfl (fun C hC hnm hE => ?_)
  refine z_aload_n hC dX7_wrong_0 rfl ?_
  refine z_aload_n hC dX7_wrong_1 rfl ?_
  refine z_getN hC dX7_wrong_2 (hS _) zfX7_179 rfl h ?_
  refine z_putI hC dX7_wrong_5 (hS _) zfX7_196 rfl rfl rfl rfl ?_
  refine z_iconst hC dX7_wrong_8 (v := nI 0) rfl ?_
  refine z_zret hC dX7_wrong_9 rfl ?_
  exact hE.to (by rfl) rfl rfl rfl

theorem c_number_t (hS : ∀ k, S 0 k = msh 0 k) (h7 : I 0 0 7 = nI z) (hX : ∀ i, i < z → X 0 15 i = nI (T i)) (hz : z ≤ 250) (hT : ∀ i, i < z → T i ≤ 255) {p : Nat} (hp : p ≤ z) (hs : mSt T z p I) {i lo : Nat} {h : Int32} (hi : i < 4) (hlo : lo ≤ 1000) (h2 : tkS T z p = 2) (hv : cP lo h (fgN T z p)) : zC0 mX7_number 2 [zr 0 0, zi (nI i), zi (nI lo), zi h] (some (zi (nI 1))) ad S I X Y sz (mTM T z I (tkE T z p)) (up3 X 0 28 i (nI (fgN T z p))) Y := by
  refine zgo (own := RX7) (k := 0) (by decide +kernel) rfl rfl rfl (fun C hC hnm hE => ?_)
  have htk := tk_le (T := T) hp
  have hsb : tkS T z p ≤ 4 := tkS_le
  have hfb := fgN_le (T := T) hp
  refine z_aload_n hC dX7_number_0 rfl ?_
  refine z_getN hC dX7_number_1 (hS _) zfX7_185 rfl hs.2.1 ?_
  refine z_iconst hC dX7_number_4 (v := nI 2) rfl ?_
  refine z_nicmp_ne hC dX7_number_5 (tgt := 23) (by decide) (by omega) (by omega) (fun c5 => ?_) (fun c5 => ?_)
  · exact absurd c5 (by omega)
  refine z_aload_n hC dX7_number_8 rfl ?_
  refine z_getN hC dX7_number_9 (hS _) zfX7_182 rfl hs.2.2.2 ?_
  refine z_n2m hC dX7_number_12 (by omega) ?_
  refine z_iload_n hC dX7_number_13 rfl ?_
  refine z_n2m hC dX7_number_14 (by omega) ?_
  refine z_iload_n hC dX7_number_15 rfl ?_
  refine z_i2l hC dX7_number_16  ?_
  refine wSv hC dX7_number_17 zlX7_97 c_X7_in rfl rfl rfl rfl ⟨rfl, rfl⟩ ?_
  refine w_ifb_ne hC dX7_number_20 (tgt := 28) (by decide) (fun c20 => ?_) (fun c20 => ?_)
  rotate_left
  · exact absurd c20 (fun z => z hv)
  refine z_aload_n hC dX7_number_28 rfl ?_
  refine z_getR hC dX7_number_29 (hS _) zfX7_80 rfl ?_
  refine z_iload_n hC dX7_number_32 rfl ?_
  refine z_aload_n hC dX7_number_33 rfl ?_
  refine z_getN hC dX7_number_34 (hS _) zfX7_182 rfl hs.2.2.2 ?_
  refine z_niast hC dX7_number_37 (hS _) (by omega) rfl ?_
  refine z_aload_n hC dX7_number_38 rfl ?_
  refine wV0 hC dX7_number_39 zlX7_212 (c_X7_token hS h7 (fun j hj => (up3_ne (by omega)).trans (hX j hj)) hz hT hs.1 htk.2.2.1) (hS _) rfl rfl rfl rfl rfl rfl ⟨rfl, rfl⟩ ?_
  refine z_iconst hC dX7_number_42 (v := nI 1) rfl ?_
  refine z_zret hC dX7_number_43 rfl ?_
  exact hE.to (by rfl) rfl rfl rfl

theorem c_number_f (hS : ∀ k, S 0 k = msh 0 k) (h7 : I 0 0 7 = nI z) (hX : ∀ i, i < z → X 0 15 i = nI (T i)) (hz : z ≤ 250) (hT : ∀ i, i < z → T i ≤ 255) {p : Nat} (hp : p ≤ z) (hs : mSt T z p I) {i lo : Nat} {h : Int32} (hi : i < 4) (hlo : lo ≤ 1000) (hv : ¬ (tkS T z p = 2 ∧ cP lo h (fgN T z p))) : zC0 mX7_number 2 [zr 0 0, zi (nI i), zi (nI lo), zi h] (some (zi (nI 0))) ad S I X Y sz (up3 I 0 0 34 (nI (tkA T z p))) X Y := by
  refine zgo (own := RX7) (k := 0) (by decide +kernel) rfl rfl rfl (fun C hC hnm hE => ?_)
  have htk := tk_le (T := T) hp
  have hsb : tkS T z p ≤ 4 := tkS_le
  have hfb := fgN_le (T := T) hp
  refine z_aload_n hC dX7_number_0 rfl ?_
  refine z_getN hC dX7_number_1 (hS _) zfX7_185 rfl hs.2.1 ?_
  refine z_iconst hC dX7_number_4 (v := nI 2) rfl ?_
  refine z_nicmp_ne hC dX7_number_5 (tgt := 23) (by decide) (by omega) (by omega) (fun c5 => ?_) (fun c5 => ?_)
  · skip
    refine z_aload_n hC dX7_number_23 rfl ?_
    refine wVv hC dX7_number_24 zlX7_208 (c_X7_wrong hS hs.2.2.1) (hS _) rfl rfl rfl rfl rfl rfl ⟨rfl, rfl⟩ ?_
    refine z_zret hC dX7_number_27 rfl ?_
    exact hE.to (by rfl) rfl rfl rfl
  refine z_aload_n hC dX7_number_8 rfl ?_
  refine z_getN hC dX7_number_9 (hS _) zfX7_182 rfl hs.2.2.2 ?_
  refine z_n2m hC dX7_number_12 (by omega) ?_
  refine z_iload_n hC dX7_number_13 rfl ?_
  refine z_n2m hC dX7_number_14 (by omega) ?_
  refine z_iload_n hC dX7_number_15 rfl ?_
  refine z_i2l hC dX7_number_16  ?_
  refine wSv hC dX7_number_17 zlX7_97 c_X7_in rfl rfl rfl rfl ⟨rfl, rfl⟩ ?_
  refine w_ifb_ne hC dX7_number_20 (tgt := 28) (by decide) (fun c20 => ?_) (fun c20 => ?_)
  · exact absurd c20 (fun z => hv ⟨by omega, z⟩)
  refine z_aload_n hC dX7_number_23 rfl ?_
  refine wVv hC dX7_number_24 zlX7_208 (c_X7_wrong hS hs.2.2.1) (hS _) rfl rfl rfl rfl rfl rfl ⟨rfl, rfl⟩ ?_
  refine z_zret hC dX7_number_27 rfl ?_
  exact hE.to (by rfl) rfl rfl rfl

theorem c_tells_t (hS : ∀ k, S 0 k = msh 0 k) (h7 : I 0 0 7 = nI z) (hX : ∀ i, i < z → X 0 15 i = nI (T i)) (hz : z ≤ 250) (hT : ∀ i, i < z → T i ≤ 255) {p : Nat} (hp : p ≤ z) (hs : mSt T z p I) {lo : Nat} {h : Int32} (hlo : lo ≤ 1000) (h2 : tkS T z (tkE T z p) = 2) (hv : cP lo h (fgN T z (tkE T z p))) : zC0 mX7_tells 3 [zr 0 0, zi (nI lo), zi h] (some (zi (nI 1))) ad S I X Y sz (mTM T z I (tkE T z (tkE T z p))) (up3 X 0 28 0 (nI (fgN T z (tkE T z p)))) Y := by
  refine zgo (own := RX7) (k := 0) (by decide +kernel) rfl rfl rfl (fun C hC hnm hE => ?_)
  have htk := tk_le (T := T) hp
  have hsb : tkS T z p ≤ 4 := tkS_le
  have hfb := fgN_le (T := T) hp
  refine z_aload_n hC dX7_tells_0 rfl ?_
  refine wV0 hC dX7_tells_1 zlX7_212 (c_X7_token hS h7 hX hz hT hs.1 htk.2.2.1) (hS _) rfl rfl rfl rfl rfl rfl ⟨rfl, rfl⟩ ?_
  refine z_aload_n hC dX7_tells_4 rfl ?_
  refine z_iconst hC dX7_tells_5 (v := nI 0) rfl ?_
  refine z_iload_n hC dX7_tells_6 rfl ?_
  refine z_iload_n hC dX7_tells_7 rfl ?_
  refine wVv hC dX7_tells_8 zlX7_214 (c_number_t hS ((mTM_ne (by omega)).trans h7) hX hz hT htk.2.2.1 mTM_st (by decide) hlo h2 hv) (hS _) rfl rfl rfl rfl rfl rfl ⟨rfl, rfl⟩ ?_
  rw [mTM_2]
  refine z_zret hC dX7_tells_11 rfl ?_
  exact hE.to (by rfl) rfl rfl rfl

theorem c_tells_f (hS : ∀ k, S 0 k = msh 0 k) (h7 : I 0 0 7 = nI z) (hX : ∀ i, i < z → X 0 15 i = nI (T i)) (hz : z ≤ 250) (hT : ∀ i, i < z → T i ≤ 255) {p : Nat} (hp : p ≤ z) (hs : mSt T z p I) {lo : Nat} {h : Int32} (hlo : lo ≤ 1000) (hv : ¬ (tkS T z (tkE T z p) = 2 ∧ cP lo h (fgN T z (tkE T z p)))) : zC0 mX7_tells 3 [zr 0 0, zi (nI lo), zi h] (some (zi (nI 0))) ad S I X Y sz (up3 (mTM T z I (tkE T z p)) 0 0 34 (nI (tkA T z (tkE T z p)))) X Y := by
  refine zgo (own := RX7) (k := 0) (by decide +kernel) rfl rfl rfl (fun C hC hnm hE => ?_)
  have htk := tk_le (T := T) hp
  have hsb : tkS T z p ≤ 4 := tkS_le
  have hfb := fgN_le (T := T) hp
  refine z_aload_n hC dX7_tells_0 rfl ?_
  refine wV0 hC dX7_tells_1 zlX7_212 (c_X7_token hS h7 hX hz hT hs.1 htk.2.2.1) (hS _) rfl rfl rfl rfl rfl rfl ⟨rfl, rfl⟩ ?_
  refine z_aload_n hC dX7_tells_4 rfl ?_
  refine z_iconst hC dX7_tells_5 (v := nI 0) rfl ?_
  refine z_iload_n hC dX7_tells_6 rfl ?_
  refine z_iload_n hC dX7_tells_7 rfl ?_
  refine wVv hC dX7_tells_8 zlX7_214 (c_number_f hS ((mTM_ne (by omega)).trans h7) hX hz hT htk.2.2.1 mTM_st (by decide) hlo hv) (hS _) rfl rfl rfl rfl rfl rfl ⟨rfl, rfl⟩ ?_
  refine z_zret hC dX7_tells_11 rfl ?_
  exact hE.to (by rfl) rfl rfl rfl

end
