/-! strings of the library; Tape -/
section
variable {bt : ByteArray} {own : String} {nL : Nat} {ret : Option FieldType} {N mc ms : Nat} {C : zC} {ad : zA} {S : zSh} {cells slots sz pc : Nat} {I X : zI} {Y : zY} {lo : List (Option zV)} {st : List zV}
theorem z_i2c (hC : zOk bt own nL ret N mc ms C ad) {x v : Int32} (d : decode bt pc = .ok (.i2c, 1)) (hv : (x.toUInt32 % 65536).toInt32 = v) (k : zL C nL ad S cells slots sz I X Y (pc + 1) lo ((.inl v) :: st)) : zL C nL ad S cells slots sz I X Y pc lo ((.inl x) :: st) :=
  fun H locs ls h1 h2 h3 => lv_i2c hC.1 hC.2.1 d hv (k H locs ls h1 h2 h3)
end
theorem zshr0 {x : Int32} : x >>> ((0 : Int32) &&& 31) = x := by
  rw [show ((0 : Int32) &&& 31) = 0 by decide]
  exact Int32.shiftRight_zero
def wdN (j i : Nat) : Nat := ((zSw.getD j []).getD i 0).toNatClampNeg
theorem zwd : ∀ j, j < 8 → ∀ i, i < zSl.getD j 0 → (((zSw.getD j []).getD (nI i).toNatClampNeg 0 &&& nI 255).toUInt32 % 65536).toInt32 = nI (wdN j i) ∧ narrow .char (.int (nI (wdN j i))) = .int (nI (wdN j i)) ∧ 97 ≤ wdN j i ∧ wdN j i ≤ 122 := by decide +kernel
theorem zsl4 : ∀ j, j < 8 → zSl.getD j 0 ≤ 4 ∧ 3 ≤ zSl.getD j 0 := by decide
section
variable {ad : zA} {S : zSh} {I X : zI} {Y : zY} {sz : Nat}

theorem c_J0_coder_7d493 {j : Nat} (hj : j < 8) : zC0 mJ0_coder_7d493 0 [zr 5 j] (some (zi 0)) ad S I X Y sz I X Y := by
  refine zgo (own := RJ0) (k := 0) (by decide +kernel) rfl rfl rfl (fun C hC hnm hE => ?_)
  refine z_getC hC (zin2 (i := 213) rfl rfl) dJ0_coder_7d493_0 ?_
  refine z_if_eq hC dJ0_coder_7d493_3 (tgt := 13) (by decide) (fun c3 => ?_) (fun c3 => ?_)
  · exact absurd c3 (by decide)
  refine z_aload_n hC dJ0_coder_7d493_6 rfl ?_
  refine z_strC hC hj (zin7 (i := 93) rfl rfl) dJ0_coder_7d493_7 ?_
  refine z_goto hC dJ0_coder_7d493_10 (tgt := 14) (by decide) ?_
  refine z_tret hC dJ0_coder_7d493_14 rfl ?_
  exact hE.to (by rfl) rfl rfl rfl

theorem c_J0_isLatin1_aae02 {j : Nat} (hj : j < 8) : zC0 mJ0_isLatin1_aae02 0 [zr 5 j] (some (zi 1)) ad S I X Y sz I X Y := by
  refine zgo (own := RJ0) (k := 0) (by decide +kernel) rfl rfl rfl (fun C hC hnm hE => ?_)
  refine z_getC hC (zin2 (i := 213) rfl rfl) dJ0_isLatin1_aae02_0 ?_
  refine z_if_eq hC dJ0_isLatin1_aae02_3 (tgt := 17) (by decide) (fun c3 => ?_) (fun c3 => ?_)
  · exact absurd c3 (by decide)
  refine z_aload_n hC dJ0_isLatin1_aae02_6 rfl ?_
  refine z_strC hC hj (zin7 (i := 93) rfl rfl) dJ0_isLatin1_aae02_7 ?_
  refine z_if_ne hC dJ0_isLatin1_aae02_10 (tgt := 17) (by decide) (fun c10 => ?_) (fun c10 => ?_)
  · exact absurd c10 (by decide)
  refine z_iconst hC dJ0_isLatin1_aae02_13 (v := nI 1) rfl ?_
  refine z_goto hC dJ0_isLatin1_aae02_14 (tgt := 18) (by decide) ?_
  refine z_zret hC dJ0_isLatin1_aae02_18 rfl ?_
  exact hE.to (by rfl) rfl rfl rfl

theorem c_J0_length_8abf5 {j : Nat} (hj : j < 8) : zC0 mJ0_length_8abf5 1 [zr 5 j] (some (zi (nI (zSl.getD j 0)))) ad S I X Y sz I X Y := by
  refine zgo (own := RJ0) (k := 0) (by decide +kernel) rfl rfl rfl (fun C hC hnm hE => ?_)
  refine z_aload_n hC dJ0_length_8abf5_0 rfl ?_
  refine z_strV hC hj (zin7 (i := 92) rfl rfl) dJ0_length_8abf5_1 ?_
  refine z_blen hC hj (v := nI (zSl.getD j 0)) rfl dJ0_length_8abf5_4 ?_
  refine z_aload_n hC dJ0_length_8abf5_5 rfl ?_
  refine zTv hC dJ0_length_8abf5_6 zlJ0_335 (c_J0_coder_7d493 hj) hj rfl rfl rfl rfl rfl ?_
  refine z_ishr hC dJ0_length_8abf5_9  ?_
  rw [zshr0]
  refine z_iret hC dJ0_length_8abf5_10 ?_
  exact hE.to (by rfl) rfl rfl rfl

theorem c_J3_checkIndex_8e157 {i n : Nat} {q : Option (Nat × Nat)} (hi : i < n) (hn : n < 2 ^ 30) : zC0 mJ3_checkIndex_8e157 0 [zi (nI i), zi (nI n), .inr (.inr q)] (some (zi (nI i))) ad S I X Y sz I X Y := by
  refine zgo (own := RJ3) (k := 0) (by decide +kernel) rfl rfl rfl (fun C hC hnm hE => ?_)
  refine z_iload_n hC dJ3_checkIndex_8e157_0 rfl ?_
  refine z_nif_lt hC dJ3_checkIndex_8e157_1 ⟨9, by decide⟩ (by omega) ?_
  refine z_iload_n hC dJ3_checkIndex_8e157_4 rfl ?_
  refine z_iload_n hC dJ3_checkIndex_8e157_5 rfl ?_
  refine z_nicmp_lt hC dJ3_checkIndex_8e157_6 (tgt := 16) (by decide) (by omega) (by omega) (fun c6 => ?_) (fun c6 => ?_)
  rotate_left
  · exfalso; omega
  refine z_iload_n hC dJ3_checkIndex_8e157_16 rfl ?_
  refine z_iret hC dJ3_checkIndex_8e157_17 ?_
  exact hE.to (by rfl) rfl rfl rfl

theorem c_J0_checkIndex_df160 {i n : Nat} (hi : i < n) (hn : n < 2 ^ 30) : zC0 mJ0_checkIndex_df160 1 [zi (nI i), zi (nI n)] (none) ad S I X Y sz I X Y := by
  refine zgo (own := RJ0) (k := 0) (by decide +kernel) rfl rfl rfl (fun C hC hnm hE => ?_)
  refine z_iload_n hC dJ0_checkIndex_df160_0 rfl ?_
  refine z_iload_n hC dJ0_checkIndex_df160_1 rfl ?_
  refine z_getF hC (zin2 (i := 229) rfl rfl) dJ0_checkIndex_df160_2 (fun qf => ?_)
  refine zSv hC dJ0_checkIndex_df160_5 zlJ0_1059 (c_J3_checkIndex_8e157 hi hn) rfl rfl rfl rfl ?_
  refine z_pop hC dJ0_checkIndex_df160_8 rfl ?_
  refine z_vret hC dJ0_checkIndex_df160_9 ?_
  exact hE.to (by rfl) rfl rfl rfl

theorem c_J1_charAt_3b067 {j : Nat} (hj : j < 8) {i : Nat} (hi : i < zSl.getD j 0) : zC0 mJ1_charAt_3b067 2 [zr 6 j, zi (nI i)] (some (zi (nI (wdN j i)))) ad S I X Y sz I X Y := by
  refine zgo (own := RJ1) (k := 0) (by decide +kernel) rfl rfl rfl (fun C hC hnm hE => ?_)
  refine z_iload_n hC dJ1_charAt_3b067_0 rfl ?_
  refine z_aload_n hC dJ1_charAt_3b067_1 rfl ?_
  refine z_blen hC hj (v := nI (zSl.getD j 0)) rfl dJ1_charAt_3b067_2 ?_
  refine zS0 hC dJ1_charAt_3b067_3 zlJ1_9 (c_J0_checkIndex_df160 hi (by have := zsl4 j hj; omega)) rfl rfl rfl rfl ?_
  refine z_aload_n hC dJ1_charAt_3b067_6 rfl ?_
  refine z_iload_n hC dJ1_charAt_3b067_7 rfl ?_
  refine z_bald hC hj (vp_in_nI hi (by have := zsl4 j hj; omega)) dJ1_charAt_3b067_8 ?_
  refine z_sipush hC dJ1_charAt_3b067_9 (v := nI 255) rfl ?_
  refine z_iand hC dJ1_charAt_3b067_12  ?_
  refine z_i2c hC dJ1_charAt_3b067_13 (zwd j hj i hi).1 ?_
  refine z_tret hC dJ1_charAt_3b067_14 (zwd j hj i hi).2.1 ?_
  exact hE.to (by rfl) rfl rfl rfl

theorem c_J0_charAt_5068e {j : Nat} (hj : j < 8) {i : Nat} (hi : i < zSl.getD j 0) : zC0 mJ0_charAt_5068e 3 [zr 5 j, zi (nI i)] (some (zi (nI (wdN j i)))) ad S I X Y sz I X Y := by
  refine zgo (own := RJ0) (k := 0) (by decide +kernel) rfl rfl rfl (fun C hC hnm hE => ?_)
  refine z_aload_n hC dJ0_charAt_5068e_0 rfl ?_
  refine zTv hC dJ0_charAt_5068e_1 zlJ0_492 (c_J0_isLatin1_aae02 hj) hj rfl rfl rfl rfl rfl ?_
  refine z_if_eq hC dJ0_charAt_5068e_4 (tgt := 16) (by decide) (fun c4 => ?_) (fun c4 => ?_)
  · exact absurd c4 (by decide)
  refine z_aload_n hC dJ0_charAt_5068e_7 rfl ?_
  refine z_strV hC hj (zin7 (i := 92) rfl rfl) dJ0_charAt_5068e_8 ?_
  refine z_iload_n hC dJ0_charAt_5068e_11 rfl ?_
  refine zSv hC dJ0_charAt_5068e_12 zlJ0_495 (c_J1_charAt_3b067 hj hi) rfl rfl rfl rfl ?_
  refine z_tret hC dJ0_charAt_5068e_15 (zwd j hj i hi).2.1 ?_
  exact hE.to (by rfl) rfl rfl rfl

end
/-- what THE TAPE holds: z bytes T -/
def zTp (T : Nat → Nat) (z : Nat) (I X : zI) : Prop := I 3 30 1 = nI z ∧ (∀ i, i < z → X 3 31 i = nI (T i)) ∧ z ≤ 250 ∧ ∀ i, i < z → T i ≤ 255
theorem zTp.frame {T : Nat → Nat} {z : Nat} {I X I' X' : zI} (h : zTp T z I X) (hI : I' 3 30 1 = I 3 30 1) (hX : ∀ j, X' 3 31 j = X 3 31 j) : zTp T z I' X' := ⟨by rw [hI]; exact h.1, fun i hi => by rw [hX]; exact h.2.1 i hi, h.2.2⟩
def srt1 (b : Nat) : Nat := if 97 ≤ b ∧ b ≤ 122 then 1 else if 48 ≤ b ∧ b ≤ 57 then 2 else if b = 59 then 3 else 4
theorem srt1_b (b : Nat) : 1 ≤ srt1 b ∧ srt1 b ≤ 4 := by
  unfold srt1
  repeat' split
  all_goals omega
def skF (T : Nat → Nat) : Nat → Nat → Nat
  | 0, p => p
  | k + 1, p => if T p = 32 then skF T k (p + 1) else p
def skN (T : Nat → Nat) (z p : Nat) : Nat := skF T (z - p) p
theorem skN_s {T : Nat → Nat} {z p : Nat} (h : p < z) (h2 : T p = 32) : skN T z p = skN T z (p + 1) := by
  unfold skN
  rw [show z - p = (z - (p + 1)) + 1 by omega]
  exact if_pos h2
theorem skN_0 {T : Nat → Nat} {z p : Nat} (h : p < z) (h2 : ¬ T p = 32) : skN T z p = p := by
  unfold skN
  rw [show z - p = (z - (p + 1)) + 1 by omega]
  exact if_neg h2
theorem skN_z {T : Nat → Nat} {z p : Nat} (h : z ≤ p) : skN T z p = p := by
  unfold skN
  rw [show z - p = 0 by omega]; rfl
theorem skF_le {T : Nat → Nat} : ∀ k p, p ≤ skF T k p ∧ skF T k p ≤ p + k
  | 0, p => ⟨Nat.le_refl _, Nat.le_refl _⟩
  | k + 1, p => by
    have := skF_le (T := T) k (p + 1)
    unfold skF
    split <;> omega
theorem skN_le {T : Nat → Nat} {z p : Nat} (h : p ≤ z) : p ≤ skN T z p ∧ skN T z p ≤ z := by
  have := skF_le (T := T) (z - p) p
  unfold skN
  omega
def enF (T : Nat → Nat) (s : Nat) : Nat → Nat → Nat
  | 0, e => e
  | k + 1, e => if srt1 (T e) = s then enF T s k (e + 1) else e
def enN (T : Nat → Nat) (z s e : Nat) : Nat := enF T s (z - e) e
theorem enN_s {T : Nat → Nat} {z s p : Nat} (h : p < z) (h2 : srt1 (T p) = s) : enN T z s p = enN T z s (p + 1) := by
  unfold enN
  rw [show z - p = (z - (p + 1)) + 1 by omega]
  exact if_pos h2
theorem enN_0 {T : Nat → Nat} {z s p : Nat} (h : p < z) (h2 : ¬ srt1 (T p) = s) : enN T z s p = p := by
  unfold enN
  rw [show z - p = (z - (p + 1)) + 1 by omega]
  exact if_neg h2
theorem enN_z {T : Nat → Nat} {z s p : Nat} (h : z ≤ p) : enN T z s p = p := by
  unfold enN
  rw [show z - p = 0 by omega]; rfl
theorem enF_le {T : Nat → Nat} {s : Nat} : ∀ k p, p ≤ enF T s k p ∧ enF T s k p ≤ p + k ∧ ∀ i, p ≤ i → i < enF T s k p → srt1 (T i) = s
  | 0, p => ⟨Nat.le_refl _, Nat.le_refl _, fun i h1 h2 => absurd h2 (by show ¬ i < p; omega)⟩
  | k + 1, p => by
    have := enF_le (T := T) (s := s) k (p + 1)
    unfold enF
    split
    · next h =>
      refine ⟨by omega, by omega, fun i h1 h2 => ?_⟩
      by_cases e : i = p
      · subst e; exact h
      · exact this.2.2 i (by omega) h2
    · exact ⟨Nat.le_refl _, by omega, fun i h1 h2 => absurd h2 (by omega)⟩
theorem enN_le {T : Nat → Nat} {z s p : Nat} (h : p ≤ z) : p ≤ enN T z s p ∧ enN T z s p ≤ z ∧ ∀ i, p ≤ i → i < enN T z s p → srt1 (T i) = s := by
  have := enF_le (T := T) (s := s) (z - p) p
  unfold enN
  exact ⟨this.1, by omega, this.2.2⟩
/-- the TOKEN from e on: its first place, its sort, the place behind it -/
def tkA (T : Nat → Nat) (z e : Nat) : Nat := skN T z e
def tkS (T : Nat → Nat) (z e : Nat) : Nat := if tkA T z e < z then srt1 (T (tkA T z e)) else 0
def tkE (T : Nat → Nat) (z e : Nat) : Nat := if tkS T z e = 1 ∨ tkS T z e = 2 then enN T z (tkS T z e) (tkA T z e) else if tkS T z e = 0 then tkA T z e else tkA T z e + 1
theorem tk_le {T : Nat → Nat} {z e : Nat} (h : e ≤ z) : e ≤ tkA T z e ∧ tkA T z e ≤ tkE T z e ∧ tkE T z e ≤ z ∧ (¬ tkS T z e = 0 → tkA T z e < tkE T z e) ∧ (tkS T z e = 1 ∨ tkS T z e = 2 → ∀ i, tkA T z e ≤ i → i < tkE T z e → srt1 (T i) = tkS T z e) := by
  have h1 := skN_le (T := T) h
  have h2 : tkA T z e = skN T z e := rfl
  by_cases hz : tkA T z e < z
  · have hs : tkS T z e = srt1 (T (tkA T z e)) := if_pos hz
    have hsb := srt1_b (T (tkA T z e))
    by_cases hw : tkS T z e = 1 ∨ tkS T z e = 2
    · have he : tkE T z e = enN T z (tkS T z e) (tkA T z e) := if_pos hw
      have hl := enN_le (T := T) (s := tkS T z e) (Nat.le_of_lt hz)
      have hl2 := enN_le (T := T) (s := tkS T z e) (show tkA T z e + 1 ≤ z by omega)
      rw [he]
      refine ⟨by omega, hl.1, hl.2.1, fun _ => ?_, fun _ => hl.2.2⟩
      rw [enN_s hz hs.symm]
      omega
    · have he : tkE T z e = tkA T z e + 1 := by
        unfold tkE
        rw [if_neg hw, if_neg (by omega)]
      exact ⟨by omega, by omega, by omega, fun _ => by omega, fun hh => absurd hh hw⟩
  · have hs : tkS T z e = 0 := if_neg hz
    have he : tkE T z e = tkA T z e := by
      unfold tkE
      rw [if_neg (by omega), if_pos hs]
    exact ⟨by omega, by omega, by omega, fun h => absurd hs h, fun hh => by omega⟩
def tkI (I : zI) (a s e : Nat) : zI := up3 (up3 (up3 I 3 30 3 (nI a)) 3 30 2 (nI s)) 3 30 4 (nI e)
theorem tkI_tkI {I : zI} {a s e a' s' e' : Nat} : tkI (tkI I a s e) a' s' e' = tkI I a' s' e' := by
  funext b c j
  unfold tkI up3
  repeat' split
  all_goals first | rfl | omega
theorem tkI_ne {I : zI} {a s e b k j : Nat} (h : ¬ (b = 3 ∧ k = 30 ∧ 2 ≤ j ∧ j ≤ 4)) : tkI I a s e b k j = I b k j := by
  unfold tkI
  rw [up3_ne (by omega), up3_ne (by omega), up3_ne (by omega)]
theorem tkI_2 {I : zI} {a s e : Nat} : tkI I a s e 3 30 2 = nI s := by simp [tkI, up3]
theorem tkI_3 {I : zI} {a s e : Nat} : tkI I a s e 3 30 3 = nI a := by simp [tkI, up3]
theorem tkI_4 {I : zI} {a s e : Nat} : tkI I a s e 3 30 4 = nI e := by simp [tkI, up3]
abbrev wrd (T : Nat → Nat) (a e j : Nat) : Prop := e - a = zSl.getD j 0 ∧ ∀ i, i < zSl.getD j 0 → T (a + i) = wdN j i
def wstN (T : Nat → Nat) (a e : Nat) : Option Nat := if wrd T a e 0 then some 0 else if wrd T a e 1 then some 1 else if wrd T a e 2 then some 2 else if wrd T a e 3 then some 3 else if wrd T a e 4 then some 4 else if wrd T a e 5 then some 5 else if wrd T a e 6 then some 6 else if wrd T a e 7 then some 7 else none
def vlN (T : Nat → Nat) (a : Nat) : Nat → Nat
  | 0 => 0
  | k + 1 => 10 * vlN T a k + T (a + k) - 48
theorem srt_2 {b : Nat} (h : srt1 b = 2) : 48 ≤ b ∧ b ≤ 57 := by
  unfold srt1 at h
  repeat' split at h
  all_goals omega
theorem vlN_le {T : Nat → Nat} {a : Nat} : ∀ {k : Nat}, (∀ i, i < k → srt1 (T (a + i)) = 2) → vlN T a k < 10 ^ k
  | 0, _ => by show 0 < 1; decide
  | k + 1, h => by
    have h1 := vlN_le (T := T) (a := a) (k := k) (fun i hi => h i (by omega))
    have h2 := srt_2 (h k (by omega))
    show 10 * vlN T a k + T (a + k) - 48 < 10 ^ k * 10
    omega
section
variable {ad : zA} {S : zSh} {I X : zI} {Y : zY} {sz : Nat} {T : Nat → Nat} {z : Nat}

theorem c_X4_isFull (hD : ∀ k, S 3 k = dsh k) (hT : zTp T z I X)  : zC0 mX4_isFull 0 [zr 3 30] (some (zi (zb (z = 250) inferInstance))) ad S I X Y sz I X Y := by
  refine zgo (own := RX4) (k := 0) (by decide +kernel) rfl rfl rfl (fun C hC hnm hE => ?_)
  have hz := hT.2.2.1
  refine z_aload_n hC dX4_isFull_0 rfl ?_
  refine z_getN hC dX4_isFull_1 (hD _) zfX4_18 rfl hT.1 ?_
  refine z_aload_n hC dX4_isFull_4 rfl ?_
  refine z_getR hC dX4_isFull_5 (hD _) zfX4_9 rfl ?_
  refine z_alen hC dX4_isFull_8 (hD _) (v := nI _) rfl ?_
  refine z_nicmp_lt hC dX4_isFull_9 (tgt := 16) (by decide) (by omega) (by omega) (fun c9 => ?_) (fun c9 => ?_)
  · skip
    refine z_iconst hC dX4_isFull_16 (v := nI 0) rfl ?_
    refine z_zret hC dX4_isFull_17 rfl ?_
    exact hE.to (by first | exact zbT (by omega) | exact zbF (by omega)) rfl rfl rfl
  refine z_iconst hC dX4_isFull_12 (v := nI 1) rfl ?_
  refine z_goto hC dX4_isFull_13 (tgt := 17) (by decide) ?_
  refine z_zret hC dX4_isFull_17 rfl ?_
  exact hE.to (by first | exact zbT (by omega) | exact zbF (by omega)) rfl rfl rfl

theorem c_X4_write (hD : ∀ k, S 3 k = dsh k) (hT : zTp T z I X) {v : Int32} (hz : z < 250) : zC0 mX4_write 0 [zr 3 30, zi v] (none) ad S I X Y sz (up3 I 3 30 1 (nI (z + 1))) (up3 X 3 31 z v) Y := by
  refine zgo (own := RX4) (k := 0) (by decide +kernel) rfl rfl rfl (fun C hC hnm hE => ?_)
  refine z_aload_n hC dX4_write_0 rfl ?_
  refine z_getN hC dX4_write_1 (hD _) zfX4_18 rfl hT.1 ?_
  refine z_nif_lt hC dX4_write_4 ⟨39, by decide⟩ (by omega) ?_
  refine z_aload_n hC dX4_write_7 rfl ?_
  refine z_getN hC dX4_write_8 (hD _) zfX4_18 rfl hT.1 ?_
  refine z_aload_n hC dX4_write_11 rfl ?_
  refine z_getR hC dX4_write_12 (hD _) zfX4_9 rfl ?_
  refine z_alen hC dX4_write_15 (hD _) (v := nI _) rfl ?_
  refine z_nicmp_ge hC dX4_write_16 (tgt := 39) (by decide) (by omega) (by omega) (fun c16 => ?_) (fun c16 => ?_)
  · exfalso; omega
  refine z_aload_n hC dX4_write_19 rfl ?_
  refine z_getR hC dX4_write_20 (hD _) zfX4_9 rfl ?_
  refine z_aload_n hC dX4_write_23 rfl ?_
  refine z_getN hC dX4_write_24 (hD _) zfX4_18 rfl hT.1 ?_
  refine z_iload_n hC dX4_write_27 rfl ?_
  refine z_niast hC dX4_write_28 (hD _) (by omega) rfl ?_
  refine z_aload_n hC dX4_write_29 rfl ?_
  refine z_dup hC dX4_write_30 rfl ?_
  refine z_getN hC dX4_write_31 (hD _) zfX4_18 rfl hT.1 ?_
  refine z_iconst hC dX4_write_34 (v := nI 1) rfl ?_
  refine z_nadd hC dX4_write_35  ?_
  refine z_putI hC dX4_write_36 (hD _) zfX4_18 rfl rfl rfl rfl ?_
  refine z_vret hC dX4_write_39 ?_
  exact hE.to (by rfl) rfl rfl rfl

theorem c_X4_byteAt (hD : ∀ k, S 3 k = dsh k) (hT : zTp T z I X) {p : Nat} (hp : p < z) : zC0 mX4_byteAt 0 [zr 3 30, zi (nI p)] (some (zi (nI (T p)))) ad S I X Y sz I X Y := by
  refine zgo (own := RX4) (k := 0) (by decide +kernel) rfl rfl rfl (fun C hC hnm hE => ?_)
  have hz := hT.2.2.1
  refine z_iload_n hC dX4_byteAt_0 rfl ?_
  refine z_nif_lt hC dX4_byteAt_1 ⟨30, by decide⟩ (by omega) ?_
  refine z_iload_n hC dX4_byteAt_4 rfl ?_
  refine z_aload_n hC dX4_byteAt_5 rfl ?_
  refine z_getN hC dX4_byteAt_6 (hD _) zfX4_18 rfl hT.1 ?_
  refine z_nicmp_ge hC dX4_byteAt_9 (tgt := 30) (by decide) (by omega) (by omega) (fun c9 => ?_) (fun c9 => ?_)
  · exfalso; omega
  refine z_iload_n hC dX4_byteAt_12 rfl ?_
  refine z_aload_n hC dX4_byteAt_13 rfl ?_
  refine z_getR hC dX4_byteAt_14 (hD _) zfX4_9 rfl ?_
  refine z_alen hC dX4_byteAt_17 (hD _) (v := nI _) rfl ?_
  refine z_nicmp_ge hC dX4_byteAt_18 (tgt := 30) (by decide) (by omega) (by omega) (fun c18 => ?_) (fun c18 => ?_)
  · exfalso; omega
  refine z_aload_n hC dX4_byteAt_21 rfl ?_
  refine z_getR hC dX4_byteAt_22 (hD _) zfX4_9 rfl ?_
  refine z_iload_n hC dX4_byteAt_25 rfl ?_
  refine z_naldN hC dX4_byteAt_26 (hD _) (by omega) rfl (hT.2.1 p hp) ?_
  refine z_goto hC dX4_byteAt_27 (tgt := 31) (by decide) ?_
  refine z_iret hC dX4_byteAt_31 ?_
  exact hE.to (by rfl) rfl rfl rfl

theorem c_X4_byteAt0 (hD : ∀ k, S 3 k = dsh k) (hT : zTp T z I X) {p : Nat} (hp : z ≤ p) (hp2 : p ≤ 250) : zC0 mX4_byteAt 0 [zr 3 30, zi (nI p)] (some (zi (-1))) ad S I X Y sz I X Y := by
  refine zgo (own := RX4) (k := 0) (by decide +kernel) rfl rfl rfl (fun C hC hnm hE => ?_)
  have hz := hT.2.2.1
  refine z_iload_n hC dX4_byteAt_0 rfl ?_
  refine z_nif_lt hC dX4_byteAt_1 ⟨30, by decide⟩ (by omega) ?_
  refine z_iload_n hC dX4_byteAt_4 rfl ?_
  refine z_aload_n hC dX4_byteAt_5 rfl ?_
  refine z_getN hC dX4_byteAt_6 (hD _) zfX4_18 rfl hT.1 ?_
  refine z_nicmp_ge hC dX4_byteAt_9 (tgt := 30) (by decide) (by omega) (by omega) (fun c9 => ?_) (fun c9 => ?_)
  rotate_left
  · exfalso; omega
  refine z_iconst hC dX4_byteAt_30 (v := -1) rfl ?_
  refine z_iret hC dX4_byteAt_31 ?_
  exact hE.to (by rfl) rfl rfl rfl

theorem c_X4_sortOf {b : Nat} (hb : b ≤ 255) : zC0 mX4_sortOf 0 [zi (nI b)] (some (zi (nI (srt1 b)))) ad S I X Y sz I X Y := by
  refine zgo (own := RX4) (k := 0) (by decide +kernel) rfl rfl rfl (fun C hC hnm hE => ?_)
  refine z_iload_n hC dX4_sortOf_0 rfl ?_
  refine z_iconst hC dX4_sortOf_1 (v := -1) rfl ?_
  refine z_icmp_ne hC dX4_sortOf_2 (tgt := 7) (by decide) (fun c2 => ?_) (fun c2 => ?_)
  rotate_left
  · exact absurd c2 (zne1 (by omega))
  refine z_iload_n hC dX4_sortOf_7 rfl ?_
  refine z_bipush hC dX4_sortOf_8 (v := nI 97) rfl ?_
  refine z_nicmp_lt hC dX4_sortOf_10 (tgt := 21) (by decide) (by omega) (by omega) (fun c10 => ?_) (fun c10 => ?_)
  · skip
    refine z_iload_n hC dX4_sortOf_21 rfl ?_
    refine z_bipush hC dX4_sortOf_22 (v := nI 48) rfl ?_
    refine z_nicmp_lt hC dX4_sortOf_24 (tgt := 35) (by decide) (by omega) (by omega) (fun c24 => ?_) (fun c24 => ?_)
    · skip
      refine z_iload_n hC dX4_sortOf_35 rfl ?_
      refine z_bipush hC dX4_sortOf_36 (v := nI 59) rfl ?_
      refine z_nicmp_ne hC dX4_sortOf_38 (tgt := 45) (by decide) (by omega) (by omega) (fun c38 => ?_) (fun c38 => ?_)
      · skip
        refine z_iconst hC dX4_sortOf_45 (v := nI 4) rfl ?_
        refine z_iret hC dX4_sortOf_46 ?_
        exact hE.to (by unfold srt1; (repeat' split) <;> first | rfl | (exfalso; omega)) rfl rfl rfl
      refine z_iconst hC dX4_sortOf_41 (v := nI 3) rfl ?_
      refine z_goto hC dX4_sortOf_42 (tgt := 46) (by decide) ?_
      refine z_iret hC dX4_sortOf_46 ?_
      exact hE.to (by unfold srt1; (repeat' split) <;> first | rfl | (exfalso; omega)) rfl rfl rfl
    refine z_iload_n hC dX4_sortOf_27 rfl ?_
    refine z_bipush hC dX4_sortOf_28 (v := nI 57) rfl ?_
    refine z_nicmp_gt hC dX4_sortOf_30 (tgt := 35) (by decide) (by omega) (by omega) (fun c30 => ?_) (fun c30 => ?_)
    · skip
      refine z_iload_n hC dX4_sortOf_35 rfl ?_
      refine z_bipush hC dX4_sortOf_36 (v := nI 59) rfl ?_
      refine z_nicmp_ne hC dX4_sortOf_38 (tgt := 45) (by decide) (by omega) (by omega) (fun c38 => ?_) (fun c38 => ?_)
      · skip
        refine z_iconst hC dX4_sortOf_45 (v := nI 4) rfl ?_
        refine z_iret hC dX4_sortOf_46 ?_
        exact hE.to (by unfold srt1; (repeat' split) <;> first | rfl | (exfalso; omega)) rfl rfl rfl
      refine z_iconst hC dX4_sortOf_41 (v := nI 3) rfl ?_
      refine z_goto hC dX4_sortOf_42 (tgt := 46) (by decide) ?_
      refine z_iret hC dX4_sortOf_46 ?_
      exact hE.to (by unfold srt1; (repeat' split) <;> first | rfl | (exfalso; omega)) rfl rfl rfl
    refine z_iconst hC dX4_sortOf_33 (v := nI 2) rfl ?_
    refine z_iret hC dX4_sortOf_34 ?_
    exact hE.to (by unfold srt1; (repeat' split) <;> first | rfl | (exfalso; omega)) rfl rfl rfl
  refine z_iload_n hC dX4_sortOf_13 rfl ?_
  refine z_bipush hC dX4_sortOf_14 (v := nI 122) rfl ?_
  refine z_nicmp_gt hC dX4_sortOf_16 (tgt := 21) (by decide) (by omega) (by omega) (fun c16 => ?_) (fun c16 => ?_)
  · skip
    refine z_iload_n hC dX4_sortOf_21 rfl ?_
    refine z_bipush hC dX4_sortOf_22 (v := nI 48) rfl ?_
    refine z_nicmp_lt hC dX4_sortOf_24 (tgt := 35) (by decide) (by omega) (by omega) (fun c24 => ?_) (fun c24 => ?_)
    · skip
      refine z_iload_n hC dX4_sortOf_35 rfl ?_
      refine z_bipush hC dX4_sortOf_36 (v := nI 59) rfl ?_
      refine z_nicmp_ne hC dX4_sortOf_38 (tgt := 45) (by decide) (by omega) (by omega) (fun c38 => ?_) (fun c38 => ?_)
      · skip
        refine z_iconst hC dX4_sortOf_45 (v := nI 4) rfl ?_
        refine z_iret hC dX4_sortOf_46 ?_
        exact hE.to (by unfold srt1; (repeat' split) <;> first | rfl | (exfalso; omega)) rfl rfl rfl
      refine z_iconst hC dX4_sortOf_41 (v := nI 3) rfl ?_
      refine z_goto hC dX4_sortOf_42 (tgt := 46) (by decide) ?_
      refine z_iret hC dX4_sortOf_46 ?_
      exact hE.to (by unfold srt1; (repeat' split) <;> first | rfl | (exfalso; omega)) rfl rfl rfl
    refine z_iload_n hC dX4_sortOf_27 rfl ?_
    refine z_bipush hC dX4_sortOf_28 (v := nI 57) rfl ?_
    refine z_nicmp_gt hC dX4_sortOf_30 (tgt := 35) (by decide) (by omega) (by omega) (fun c30 => ?_) (fun c30 => ?_)
    · skip
      refine z_iload_n hC dX4_sortOf_35 rfl ?_
      refine z_bipush hC dX4_sortOf_36 (v := nI 59) rfl ?_
      refine z_nicmp_ne hC dX4_sortOf_38 (tgt := 45) (by decide) (by omega) (by omega) (fun c38 => ?_) (fun c38 => ?_)
      · skip
        refine z_iconst hC dX4_sortOf_45 (v := nI 4) rfl ?_
        refine z_iret hC dX4_sortOf_46 ?_
        exact hE.to (by unfold srt1; (repeat' split) <;> first | rfl | (exfalso; omega)) rfl rfl rfl
      refine z_iconst hC dX4_sortOf_41 (v := nI 3) rfl ?_
      refine z_goto hC dX4_sortOf_42 (tgt := 46) (by decide) ?_
      refine z_iret hC dX4_sortOf_46 ?_
      exact hE.to (by unfold srt1; (repeat' split) <;> first | rfl | (exfalso; omega)) rfl rfl rfl
    refine z_iconst hC dX4_sortOf_33 (v := nI 2) rfl ?_
    refine z_iret hC dX4_sortOf_34 ?_
    exact hE.to (by unfold srt1; (repeat' split) <;> first | rfl | (exfalso; omega)) rfl rfl rfl
  refine z_iconst hC dX4_sortOf_19 (v := nI 1) rfl ?_
  refine z_iret hC dX4_sortOf_20 ?_
  exact hE.to (by unfold srt1; (repeat' split) <;> first | rfl | (exfalso; omega)) rfl rfl rfl

theorem c_X4_sortOf0  : zC0 mX4_sortOf 0 [zi (-1)] (some (zi (nI 0))) ad S I X Y sz I X Y := by
  refine zgo (own := RX4) (k := 0) (by decide +kernel) rfl rfl rfl (fun C hC hnm hE => ?_)
  refine z_iload_n hC dX4_sortOf_0 rfl ?_
  refine z_iconst hC dX4_sortOf_1 (v := -1) rfl ?_
  refine z_icmp_ne hC dX4_sortOf_2 (tgt := 7) (by decide) (fun c2 => ?_) (fun c2 => ?_)
  · exact absurd c2 (by decide)
  refine z_iconst hC dX4_sortOf_5 (v := nI 0) rfl ?_
  refine z_iret hC dX4_sortOf_6 ?_
  exact hE.to (by rfl) rfl rfl rfl

end
