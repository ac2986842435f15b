/-! the law: what holds at its entry -/
theorem zt1 {i : Nat} {w : Cond} (h : tables_1_1[i]? = some w) : w ∈ lw_tbl := List.mem_append_right _ (List.mem_append_left _ (List.mem_of_getElem? h))
theorem zt2 {i : Nat} {w : Cond} (h : tables_1_2[i]? = some w) : w ∈ lw_tbl := List.mem_append_right _ (List.mem_append_right _ (List.mem_append_left _ (List.mem_of_getElem? h)))
theorem zt3 {i : Nat} {w : Cond} (h : tables_1_3[i]? = some w) : w ∈ lw_tbl := List.mem_append_right _ (List.mem_append_right _ (List.mem_append_right _ (List.mem_append_left _ (List.mem_of_getElem? h))))
theorem zt4 {i : Nat} {w : Cond} (h : tables_1_4[i]? = some w) : w ∈ lw_tbl := List.mem_append_right _ (List.mem_append_right _ (List.mem_append_right _ (List.mem_append_right _ (List.mem_append_left _ (List.mem_of_getElem? h)))))
theorem zt5 {i : Nat} {w : Cond} (h : tables_1_5[i]? = some w) : w ∈ lw_tbl := List.mem_append_right _ (List.mem_append_right _ (List.mem_append_right _ (List.mem_append_right _ (List.mem_append_right _ (List.mem_append_left _ (List.mem_of_getElem? h))))))
theorem zt6 {i : Nat} {w : Cond} (h : tables_1_6[i]? = some w) : w ∈ lw_tbl := List.mem_append_right _ (List.mem_append_right _ (List.mem_append_right _ (List.mem_append_right _ (List.mem_append_right _ (List.mem_append_right _ (List.mem_append_left _ (List.mem_of_getElem? h)))))))
theorem zt7 {i : Nat} {w : Cond} (h : tables_1_7[i]? = some w) : w ∈ lw_tbl := List.mem_append_right _ (List.mem_append_right _ (List.mem_append_right _ (List.mem_append_right _ (List.mem_append_right _ (List.mem_append_right _ (List.mem_append_right _ (List.mem_of_getElem? h)))))))
theorem st_K {args : Array Value} {s : State} (hts : ∀ w ∈ lw_tbl, w.before args s = true) : ∃ g : zG, zK g s := by
  have ht : ∀ w ∈ zTb, w.before args s = true := fun w hw => hts w (zTb_all w hw)
  obtain ⟨c0, i0, h0⟩ := u_known (C := RX0) (T := TX0) (N := 4) (n := 4) ht zlay0 (hts _ (zt1 (i := 110) rfl))
  obtain ⟨c1, i1, h1⟩ := u_known (C := RX1) (T := TX1) (N := 8) (n := 8) ht zlay1 (hts _ (zt1 (i := 25) rfl))
  obtain ⟨c2, i2, h2⟩ := u_known (C := RX2) (T := TX2) (N := 3) (n := 3) ht zlay2 (hts _ (zt1 (i := 156) rfl))
  obtain ⟨c3, i3, h3⟩ := u_known (C := RX3) (T := TX3) (N := 3) (n := 3) ht zlay3 (hts _ (zt1 (i := 31) rfl))
  obtain ⟨c4, i4, h4⟩ := u_known (C := RX4) (T := TX4) (N := 6) (n := 6) ht zlay4 (hts _ (zt1 (i := 129) rfl))
  obtain ⟨c5, i5, h5⟩ := u_known (C := RX5) (T := TX5) (N := 4) (n := 4) ht zlay5 (hts _ (zt1 (i := 90) rfl))
  obtain ⟨c6, i6, h6⟩ := u_known (C := RX6) (T := TX6) (N := 9) (n := 9) ht zlay6 (hts _ (zt1 (i := 17) rfl))
  obtain ⟨c7, i7, h7⟩ := u_known (C := RX7) (T := TX7) (N := 43) (n := 43) ht zlay7 (hts _ (zt4 (i := 207) rfl))
  obtain ⟨aI, kI, pI, eI1, eI2, eI3⟩ := Cond.arrayClass_spec (hts _ (zt1 (i := 52) rfl))
  obtain ⟨aJ, kJ, pJ, eJ1, eJ2, eJ3⟩ := Cond.arrayClass_spec (hts _ (zt1 (i := 172) rfl))
  obtain ⟨pS, aS, kS, eS1, -, eS2, eS3, eS4⟩ := Cond.arrayOver_spec (hts _ (zt1 (i := 155) rfl))
  obtain ⟨pM, aM, kM, eM1, -, eM2, eM3, eM4⟩ := arrayOver_specB (t := .int) (hts _ (zt4 (i := 215) rfl))
  obtain ⟨pN, aN, kN, eN1, -, eN2, eN3, eN4⟩ := arrayOver_specB (t := .long) (hts _ (zt4 (i := 213) rfl))
  refine ⟨((fun k => match k with | 0 => c0 | 1 => c1 | 2 => c2 | 3 => c3 | 4 => c4 | 5 => c5 | 6 => c6 | _ => c7, fun k => match k with | 0 => i0 | 1 => i1 | 2 => i2 | 3 => i3 | 4 => i4 | 5 => i5 | 6 => i6 | _ => i7), fun k => match k with | 0 => aI | 1 => aJ | 2 => aS | 3 => aM | _ => aN), fun c q hq => ?_, fun k q hq => ?_⟩
  · match c, hq with
    | 0, hq => cases hq; exact h0
    | 1, hq => cases hq; exact h1
    | 2, hq => cases hq; exact h2
    | 3, hq => cases hq; exact h3
    | 4, hq => cases hq; exact h4
    | 5, hq => cases hq; exact h5
    | 6, hq => cases hq; exact h6
    | 7, hq => cases hq; exact h7
    | c + 8, hq => exact absurd hq (by simp [vwCl])
  · match k, hq with
    | 0, hq => cases hq; exact ⟨fun N z => ⟨(fun k h => by cases h), kI, eI2, pI, eI3⟩, eI1⟩
    | 1, hq => cases hq; exact ⟨fun N z => ⟨(fun k h => by cases h), kJ, eJ2, pJ, eJ3⟩, eJ1⟩
    | 2, hq => cases hq; exact ⟨fun N z => ⟨(fun k h => by cases h), kS, eS2, pS, eS3⟩, ⟨kS, pS, eS2, eS3, eS1, eS4⟩⟩
    | 3, hq => cases hq; exact ⟨fun N z => ⟨(fun k h => by cases h), kM, eM2, pM, eM3⟩, eM4⟩
    | 4, hq => cases hq; exact ⟨fun N z => ⟨(fun k h => by cases h), kN, eN2, pN, eN3⟩, eN4⟩
    | k + 5, hq => exact absurd hq (by simp [ztys])

def stT : Nat → Term := fun i => .string "OnTheRoof$Tape" ([89, 95, 97, 99, 101, 103, 105, 107].getD i 0)
abbrev stV (i : Nat) : Term := .field (stT i) "java/lang/String" "value" "[B"
abbrev stF : List Cond := flatC (Jvm.Cond.and given_1 narrow_1)
theorem st_m1 : ∀ i, i < 8 → Cond.exactly (stT i) "java/lang/String" ∈ stF ∧ Cond.eq (.field (stT i) "java/lang/String" "coder" "B") (.int 0) ∈ stF ∧ Cond.arrayOf (stV i) .byte ∈ stF ∧ Cond.eq (.length (stV i)) (.int (Int32.ofNat (zSl.getD i 0))) ∈ stF := fun i hi => by
  match i, hi with
  | 0, _ => exact ⟨(List.mem_of_getElem? (i := 90) (by decide +kernel)), (List.mem_of_getElem? (i := 91) (by decide +kernel)), (List.mem_of_getElem? (i := 92) (by decide +kernel)), (List.mem_of_getElem? (i := 93) (by decide +kernel))⟩
  | 1, _ => exact ⟨(List.mem_of_getElem? (i := 98) (by decide +kernel)), (List.mem_of_getElem? (i := 99) (by decide +kernel)), (List.mem_of_getElem? (i := 100) (by decide +kernel)), (List.mem_of_getElem? (i := 101) (by decide +kernel))⟩
  | 2, _ => exact ⟨(List.mem_of_getElem? (i := 107) (by decide +kernel)), (List.mem_of_getElem? (i := 108) (by decide +kernel)), (List.mem_of_getElem? (i := 109) (by decide +kernel)), (List.mem_of_getElem? (i := 110) (by decide +kernel))⟩
  | 3, _ => exact ⟨(List.mem_of_getElem? (i := 116) (by decide +kernel)), (List.mem_of_getElem? (i := 117) (by decide +kernel)), (List.mem_of_getElem? (i := 118) (by decide +kernel)), (List.mem_of_getElem? (i := 119) (by decide +kernel))⟩
  | 4, _ => exact ⟨(List.mem_of_getElem? (i := 127) (by decide +kernel)), (List.mem_of_getElem? (i := 128) (by decide +kernel)), (List.mem_of_getElem? (i := 129) (by decide +kernel)), (List.mem_of_getElem? (i := 130) (by decide +kernel))⟩
  | 5, _ => exact ⟨(List.mem_of_getElem? (i := 139) (by decide +kernel)), (List.mem_of_getElem? (i := 140) (by decide +kernel)), (List.mem_of_getElem? (i := 141) (by decide +kernel)), (List.mem_of_getElem? (i := 142) (by decide +kernel))⟩
  | 6, _ => exact ⟨(List.mem_of_getElem? (i := 152) (by decide +kernel)), (List.mem_of_getElem? (i := 153) (by decide +kernel)), (List.mem_of_getElem? (i := 154) (by decide +kernel)), (List.mem_of_getElem? (i := 155) (by decide +kernel))⟩
  | 7, _ => exact ⟨(List.mem_of_getElem? (i := 166) (by decide +kernel)), (List.mem_of_getElem? (i := 167) (by decide +kernel)), (List.mem_of_getElem? (i := 168) (by decide +kernel)), (List.mem_of_getElem? (i := 169) (by decide +kernel))⟩
theorem st_m2_0 : ∀ j, j < 4 → Cond.eq (.elem (stV 0) (.int (Int32.ofNat j))) (.int ((zSw.getD 0 []).getD j 0)) ∈ stF := fun j hj => by
  match j, hj with
  | 0, _ => exact (List.mem_of_getElem? (i := 94) (by decide +kernel))
  | 1, _ => exact (List.mem_of_getElem? (i := 95) (by decide +kernel))
  | 2, _ => exact (List.mem_of_getElem? (i := 96) (by decide +kernel))
  | 3, _ => exact (List.mem_of_getElem? (i := 97) (by decide +kernel))
theorem st_m2_1 : ∀ j, j < 4 → Cond.eq (.elem (stV 1) (.int (Int32.ofNat j))) (.int ((zSw.getD 1 []).getD j 0)) ∈ stF := fun j hj => by
  match j, hj with
  | 0, _ => exact (List.mem_of_getElem? (i := 102) (by decide +kernel))
  | 1, _ => exact (List.mem_of_getElem? (i := 103) (by decide +kernel))
  | 2, _ => exact (List.mem_of_getElem? (i := 104) (by decide +kernel))
  | 3, _ => exact (List.mem_of_getElem? (i := 105) (by decide +kernel))
theorem st_m2_2 : ∀ j, j < 3 → Cond.eq (.elem (stV 2) (.int (Int32.ofNat j))) (.int ((zSw.getD 2 []).getD j 0)) ∈ stF := fun j hj => by
  match j, hj with
  | 0, _ => exact (List.mem_of_getElem? (i := 111) (by decide +kernel))
  | 1, _ => exact (List.mem_of_getElem? (i := 112) (by decide +kernel))
  | 2, _ => exact (List.mem_of_getElem? (i := 113) (by decide +kernel))
theorem st_m2_3 : ∀ j, j < 4 → Cond.eq (.elem (stV 3) (.int (Int32.ofNat j))) (.int ((zSw.getD 3 []).getD j 0)) ∈ stF := fun j hj => by
  match j, hj with
  | 0, _ => exact (List.mem_of_getElem? (i := 120) (by decide +kernel))
  | 1, _ => exact (List.mem_of_getElem? (i := 121) (by decide +kernel))
  | 2, _ => exact (List.mem_of_getElem? (i := 122) (by decide +kernel))
  | 3, _ => exact (List.mem_of_getElem? (i := 123) (by decide +kernel))
theorem st_m2_4 : ∀ j, j < 4 → Cond.eq (.elem (stV 4) (.int (Int32.ofNat j))) (.int ((zSw.getD 4 []).getD j 0)) ∈ stF := fun j hj => by
  match j, hj with
  | 0, _ => exact (List.mem_of_getElem? (i := 131) (by decide +kernel))
  | 1, _ => exact (List.mem_of_getElem? (i := 132) (by decide +kernel))
  | 2, _ => exact (List.mem_of_getElem? (i := 133) (by decide +kernel))
  | 3, _ => exact (List.mem_of_getElem? (i := 134) (by decide +kernel))
theorem st_m2_5 : ∀ j, j < 4 → Cond.eq (.elem (stV 5) (.int (Int32.ofNat j))) (.int ((zSw.getD 5 []).getD j 0)) ∈ stF := fun j hj => by
  match j, hj with
  | 0, _ => exact (List.mem_of_getElem? (i := 143) (by decide +kernel))
  | 1, _ => exact (List.mem_of_getElem? (i := 144) (by decide +kernel))
  | 2, _ => exact (List.mem_of_getElem? (i := 145) (by decide +kernel))
  | 3, _ => exact (List.mem_of_getElem? (i := 146) (by decide +kernel))
theorem st_m2_6 : ∀ j, j < 4 → Cond.eq (.elem (stV 6) (.int (Int32.ofNat j))) (.int ((zSw.getD 6 []).getD j 0)) ∈ stF := fun j hj => by
  match j, hj with
  | 0, _ => exact (List.mem_of_getElem? (i := 156) (by decide +kernel))
  | 1, _ => exact (List.mem_of_getElem? (i := 157) (by decide +kernel))
  | 2, _ => exact (List.mem_of_getElem? (i := 158) (by decide +kernel))
  | 3, _ => exact (List.mem_of_getElem? (i := 159) (by decide +kernel))
theorem st_m2_7 : ∀ j, j < 4 → Cond.eq (.elem (stV 7) (.int (Int32.ofNat j))) (.int ((zSw.getD 7 []).getD j 0)) ∈ stF := fun j hj => by
  match j, hj with
  | 0, _ => exact (List.mem_of_getElem? (i := 170) (by decide +kernel))
  | 1, _ => exact (List.mem_of_getElem? (i := 171) (by decide +kernel))
  | 2, _ => exact (List.mem_of_getElem? (i := 172) (by decide +kernel))
  | 3, _ => exact (List.mem_of_getElem? (i := 173) (by decide +kernel))
theorem st_m2 : ∀ i, i < 8 → ∀ j, j < zSl.getD i 0 → Cond.eq (.elem (stV i) (.int (Int32.ofNat j))) (.int ((zSw.getD i []).getD j 0)) ∈ stF := fun i hi => by
  match i, hi with
  | 0, _ => exact st_m2_0
  | 1, _ => exact st_m2_1
  | 2, _ => exact st_m2_2
  | 3, _ => exact st_m2_3
  | 4, _ => exact st_m2_4
  | 5, _ => exact st_m2_5
  | 6, _ => exact st_m2_6
  | 7, _ => exact st_m2_7
theorem st_m3_0 : ∀ j, j < 8 → 0 ≠ j → Cond.not (Cond.eq (stT 0) (stT j)) ∈ stF ∨ Cond.not (Cond.eq (stT j) (stT 0)) ∈ stF := fun j hj hij => by
  match j, hj with
  | 0, _ => exact absurd rfl hij
  | 1, _ => exact Or.inl (List.mem_of_getElem? (i := 106) (by decide +kernel))
  | 2, _ => exact Or.inl (List.mem_of_getElem? (i := 114) (by decide +kernel))
  | 3, _ => exact Or.inl (List.mem_of_getElem? (i := 124) (by decide +kernel))
  | 4, _ => exact Or.inl (List.mem_of_getElem? (i := 135) (by decide +kernel))
  | 5, _ => exact Or.inl (List.mem_of_getElem? (i := 147) (by decide +kernel))
  | 6, _ => exact Or.inl (List.mem_of_getElem? (i := 160) (by decide +kernel))
  | 7, _ => exact Or.inl (List.mem_of_getElem? (i := 174) (by decide +kernel))
theorem st_m3_1 : ∀ j, j < 8 → 1 ≠ j → Cond.not (Cond.eq (stT 1) (stT j)) ∈ stF ∨ Cond.not (Cond.eq (stT j) (stT 1)) ∈ stF := fun j hj hij => by
  match j, hj with
  | 0, _ => exact Or.inr (List.mem_of_getElem? (i := 106) (by decide +kernel))
  | 1, _ => exact absurd rfl hij
  | 2, _ => exact Or.inl (List.mem_of_getElem? (i := 115) (by decide +kernel))
  | 3, _ => exact Or.inl (List.mem_of_getElem? (i := 125) (by decide +kernel))
  | 4, _ => exact Or.inl (List.mem_of_getElem? (i := 136) (by decide +kernel))
  | 5, _ => exact Or.inl (List.mem_of_getElem? (i := 148) (by decide +kernel))
  | 6, _ => exact Or.inl (List.mem_of_getElem? (i := 161) (by decide +kernel))
  | 7, _ => exact Or.inl (List.mem_of_getElem? (i := 175) (by decide +kernel))
theorem st_m3_2 : ∀ j, j < 8 → 2 ≠ j → Cond.not (Cond.eq (stT 2) (stT j)) ∈ stF ∨ Cond.not (Cond.eq (stT j) (stT 2)) ∈ stF := fun j hj hij => by
  match j, hj with
  | 0, _ => exact Or.inr (List.mem_of_getElem? (i := 114) (by decide +kernel))
  | 1, _ => exact Or.inr (List.mem_of_getElem? (i := 115) (by decide +kernel))
  | 2, _ => exact absurd rfl hij
  | 3, _ => exact Or.inl (List.mem_of_getElem? (i := 126) (by decide +kernel))
  | 4, _ => exact Or.inl (List.mem_of_getElem? (i := 137) (by decide +kernel))
  | 5, _ => exact Or.inl (List.mem_of_getElem? (i := 149) (by decide +kernel))
  | 6, _ => exact Or.inl (List.mem_of_getElem? (i := 162) (by decide +kernel))
  | 7, _ => exact Or.inl (List.mem_of_getElem? (i := 176) (by decide +kernel))
theorem st_m3_3 : ∀ j, j < 8 → 3 ≠ j → Cond.not (Cond.eq (stT 3) (stT j)) ∈ stF ∨ Cond.not (Cond.eq (stT j) (stT 3)) ∈ stF := fun j hj hij => by
  match j, hj with
  | 0, _ => exact Or.inr (List.mem_of_getElem? (i := 124) (by decide +kernel))
  | 1, _ => exact Or.inr (List.mem_of_getElem? (i := 125) (by decide +kernel))
  | 2, _ => exact Or.inr (List.mem_of_getElem? (i := 126) (by decide +kernel))
  | 3, _ => exact absurd rfl hij
  | 4, _ => exact Or.inl (List.mem_of_getElem? (i := 138) (by decide +kernel))
  | 5, _ => exact Or.inl (List.mem_of_getElem? (i := 150) (by decide +kernel))
  | 6, _ => exact Or.inl (List.mem_of_getElem? (i := 163) (by decide +kernel))
  | 7, _ => exact Or.inl (List.mem_of_getElem? (i := 177) (by decide +kernel))
theorem st_m3_4 : ∀ j, j < 8 → 4 ≠ j → Cond.not (Cond.eq (stT 4) (stT j)) ∈ stF ∨ Cond.not (Cond.eq (stT j) (stT 4)) ∈ stF := fun j hj hij => by
  match j, hj with
  | 0, _ => exact Or.inr (List.mem_of_getElem? (i := 135) (by decide +kernel))
  | 1, _ => exact Or.inr (List.mem_of_getElem? (i := 136) (by decide +kernel))
  | 2, _ => exact Or.inr (List.mem_of_getElem? (i := 137) (by decide +kernel))
  | 3, _ => exact Or.inr (List.mem_of_getElem? (i := 138) (by decide +kernel))
  | 4, _ => exact absurd rfl hij
  | 5, _ => exact Or.inl (List.mem_of_getElem? (i := 151) (by decide +kernel))
  | 6, _ => exact Or.inl (List.mem_of_getElem? (i := 164) (by decide +kernel))
  | 7, _ => exact Or.inl (List.mem_of_getElem? (i := 178) (by decide +kernel))
theorem st_m3_5 : ∀ j, j < 8 → 5 ≠ j → Cond.not (Cond.eq (stT 5) (stT j)) ∈ stF ∨ Cond.not (Cond.eq (stT j) (stT 5)) ∈ stF := fun j hj hij => by
  match j, hj with
  | 0, _ => exact Or.inr (List.mem_of_getElem? (i := 147) (by decide +kernel))
  | 1, _ => exact Or.inr (List.mem_of_getElem? (i := 148) (by decide +kernel))
  | 2, _ => exact Or.inr (List.mem_of_getElem? (i := 149) (by decide +kernel))
  | 3, _ => exact Or.inr (List.mem_of_getElem? (i := 150) (by decide +kernel))
  | 4, _ => exact Or.inr (List.mem_of_getElem? (i := 151) (by decide +kernel))
  | 5, _ => exact absurd rfl hij
  | 6, _ => exact Or.inl (List.mem_of_getElem? (i := 165) (by decide +kernel))
  | 7, _ => exact Or.inl (List.mem_of_getElem? (i := 179) (by decide +kernel))
theorem st_m3_6 : ∀ j, j < 8 → 6 ≠ j → Cond.not (Cond.eq (stT 6) (stT j)) ∈ stF ∨ Cond.not (Cond.eq (stT j) (stT 6)) ∈ stF := fun j hj hij => by
  match j, hj with
  | 0, _ => exact Or.inr (List.mem_of_getElem? (i := 160) (by decide +kernel))
  | 1, _ => exact Or.inr (List.mem_of_getElem? (i := 161) (by decide +kernel))
  | 2, _ => exact Or.inr (List.mem_of_getElem? (i := 162) (by decide +kernel))
  | 3, _ => exact Or.inr (List.mem_of_getElem? (i := 163) (by decide +kernel))
  | 4, _ => exact Or.inr (List.mem_of_getElem? (i := 164) (by decide +kernel))
  | 5, _ => exact Or.inr (List.mem_of_getElem? (i := 165) (by decide +kernel))
  | 6, _ => exact absurd rfl hij
  | 7, _ => exact Or.inl (List.mem_of_getElem? (i := 180) (by decide +kernel))
theorem st_m3_7 : ∀ j, j < 8 → 7 ≠ j → Cond.not (Cond.eq (stT 7) (stT j)) ∈ stF ∨ Cond.not (Cond.eq (stT j) (stT 7)) ∈ stF := fun j hj hij => by
  match j, hj with
  | 0, _ => exact Or.inr (List.mem_of_getElem? (i := 174) (by decide +kernel))
  | 1, _ => exact Or.inr (List.mem_of_getElem? (i := 175) (by decide +kernel))
  | 2, _ => exact Or.inr (List.mem_of_getElem? (i := 176) (by decide +kernel))
  | 3, _ => exact Or.inr (List.mem_of_getElem? (i := 177) (by decide +kernel))
  | 4, _ => exact Or.inr (List.mem_of_getElem? (i := 178) (by decide +kernel))
  | 5, _ => exact Or.inr (List.mem_of_getElem? (i := 179) (by decide +kernel))
  | 6, _ => exact Or.inr (List.mem_of_getElem? (i := 180) (by decide +kernel))
  | 7, _ => exact absurd rfl hij
theorem st_m3 : ∀ i, i < 8 → ∀ j, j < 8 → i ≠ j → Cond.not (Cond.eq (stT i) (stT j)) ∈ stF ∨ Cond.not (Cond.eq (stT j) (stT i)) ∈ stF := fun i hi => by
  match i, hi with
  | 0, _ => exact st_m3_0
  | 1, _ => exact st_m3_1
  | 2, _ => exact st_m3_2
  | 3, _ => exact st_m3_3
  | 4, _ => exact st_m3_4
  | 5, _ => exact st_m3_5
  | 6, _ => exact st_m3_6
  | 7, _ => exact st_m3_7
theorem st_m4_0 : ∀ j, j < 8 → Cond.eq (.elem (.static "OnTheRoof$Road" (zAn 0) "[I") (.int (Int32.ofNat j))) (.int ((zAl 0).getD j 0)) ∈ stF := fun j hj => by
  match j, hj with
  | 0, _ => exact (List.mem_of_getElem? (i := 82) (by decide +kernel))
  | 1, _ => exact (List.mem_of_getElem? (i := 83) (by decide +kernel))
  | 2, _ => exact (List.mem_of_getElem? (i := 84) (by decide +kernel))
  | 3, _ => exact (List.mem_of_getElem? (i := 85) (by decide +kernel))
  | 4, _ => exact (List.mem_of_getElem? (i := 86) (by decide +kernel))
  | 5, _ => exact (List.mem_of_getElem? (i := 87) (by decide +kernel))
  | 6, _ => exact (List.mem_of_getElem? (i := 88) (by decide +kernel))
  | 7, _ => exact (List.mem_of_getElem? (i := 89) (by decide +kernel))
theorem st_m4_1 : ∀ j, j < 32 → Cond.eq (.elem (.static "OnTheRoof$Road" (zAn 1) "[I") (.int (Int32.ofNat j))) (.int ((zAl 1).getD j 0)) ∈ stF := fun j hj => by
  match j, hj with
  | 0, _ => exact (List.mem_of_getElem? (i := 7) (by decide +kernel))
  | 1, _ => exact (List.mem_of_getElem? (i := 8) (by decide +kernel))
  | 2, _ => exact (List.mem_of_getElem? (i := 9) (by decide +kernel))
  | 3, _ => exact (List.mem_of_getElem? (i := 10) (by decide +kernel))
  | 4, _ => exact (List.mem_of_getElem? (i := 11) (by decide +kernel))
  | 5, _ => exact (List.mem_of_getElem? (i := 12) (by decide +kernel))
  | 6, _ => exact (List.mem_of_getElem? (i := 13) (by decide +kernel))
  | 7, _ => exact (List.mem_of_getElem? (i := 14) (by decide +kernel))
  | 8, _ => exact (List.mem_of_getElem? (i := 15) (by decide +kernel))
  | 9, _ => exact (List.mem_of_getElem? (i := 16) (by decide +kernel))
  | 10, _ => exact (List.mem_of_getElem? (i := 17) (by decide +kernel))
  | 11, _ => exact (List.mem_of_getElem? (i := 18) (by decide +kernel))
  | 12, _ => exact (List.mem_of_getElem? (i := 19) (by decide +kernel))
  | 13, _ => exact (List.mem_of_getElem? (i := 20) (by decide +kernel))
  | 14, _ => exact (List.mem_of_getElem? (i := 21) (by decide +kernel))
  | 15, _ => exact (List.mem_of_getElem? (i := 22) (by decide +kernel))
  | 16, _ => exact (List.mem_of_getElem? (i := 23) (by decide +kernel))
  | 17, _ => exact (List.mem_of_getElem? (i := 24) (by decide +kernel))
  | 18, _ => exact (List.mem_of_getElem? (i := 25) (by decide +kernel))
  | 19, _ => exact (List.mem_of_getElem? (i := 26) (by decide +kernel))
  | 20, _ => exact (List.mem_of_getElem? (i := 27) (by decide +kernel))
  | 21, _ => exact (List.mem_of_getElem? (i := 28) (by decide +kernel))
  | 22, _ => exact (List.mem_of_getElem? (i := 29) (by decide +kernel))
  | 23, _ => exact (List.mem_of_getElem? (i := 30) (by decide +kernel))
  | 24, _ => exact (List.mem_of_getElem? (i := 31) (by decide +kernel))
  | 25, _ => exact (List.mem_of_getElem? (i := 32) (by decide +kernel))
  | 26, _ => exact (List.mem_of_getElem? (i := 33) (by decide +kernel))
  | 27, _ => exact (List.mem_of_getElem? (i := 34) (by decide +kernel))
  | 28, _ => exact (List.mem_of_getElem? (i := 35) (by decide +kernel))
  | 29, _ => exact (List.mem_of_getElem? (i := 36) (by decide +kernel))
  | 30, _ => exact (List.mem_of_getElem? (i := 37) (by decide +kernel))
  | 31, _ => exact (List.mem_of_getElem? (i := 38) (by decide +kernel))
  | q + 32, h => exact absurd h (by omega)
theorem st_m4_2 : ∀ j, j < 32 → Cond.eq (.elem (.static "OnTheRoof$Road" (zAn 2) "[I") (.int (Int32.ofNat j))) (.int ((zAl 2).getD j 0)) ∈ stF := fun j hj => by
  match j, hj with
  | 0, _ => exact (List.mem_of_getElem? (i := 42) (by decide +kernel))
  | 1, _ => exact (List.mem_of_getElem? (i := 43) (by decide +kernel))
  | 2, _ => exact (List.mem_of_getElem? (i := 44) (by decide +kernel))
  | 3, _ => exact (List.mem_of_getElem? (i := 45) (by decide +kernel))
  | 4, _ => exact (List.mem_of_getElem? (i := 46) (by decide +kernel))
  | 5, _ => exact (List.mem_of_getElem? (i := 47) (by decide +kernel))
  | 6, _ => exact (List.mem_of_getElem? (i := 48) (by decide +kernel))
  | 7, _ => exact (List.mem_of_getElem? (i := 49) (by decide +kernel))
  | 8, _ => exact (List.mem_of_getElem? (i := 50) (by decide +kernel))
  | 9, _ => exact (List.mem_of_getElem? (i := 51) (by decide +kernel))
  | 10, _ => exact (List.mem_of_getElem? (i := 52) (by decide +kernel))
  | 11, _ => exact (List.mem_of_getElem? (i := 53) (by decide +kernel))
  | 12, _ => exact (List.mem_of_getElem? (i := 54) (by decide +kernel))
  | 13, _ => exact (List.mem_of_getElem? (i := 55) (by decide +kernel))
  | 14, _ => exact (List.mem_of_getElem? (i := 56) (by decide +kernel))
  | 15, _ => exact (List.mem_of_getElem? (i := 57) (by decide +kernel))
  | 16, _ => exact (List.mem_of_getElem? (i := 58) (by decide +kernel))
  | 17, _ => exact (List.mem_of_getElem? (i := 59) (by decide +kernel))
  | 18, _ => exact (List.mem_of_getElem? (i := 60) (by decide +kernel))
  | 19, _ => exact (List.mem_of_getElem? (i := 61) (by decide +kernel))
  | 20, _ => exact (List.mem_of_getElem? (i := 62) (by decide +kernel))
  | 21, _ => exact (List.mem_of_getElem? (i := 63) (by decide +kernel))
  | 22, _ => exact (List.mem_of_getElem? (i := 64) (by decide +kernel))
  | 23, _ => exact (List.mem_of_getElem? (i := 65) (by decide +kernel))
  | 24, _ => exact (List.mem_of_getElem? (i := 66) (by decide +kernel))
  | 25, _ => exact (List.mem_of_getElem? (i := 67) (by decide +kernel))
  | 26, _ => exact (List.mem_of_getElem? (i := 68) (by decide +kernel))
  | 27, _ => exact (List.mem_of_getElem? (i := 69) (by decide +kernel))
  | 28, _ => exact (List.mem_of_getElem? (i := 70) (by decide +kernel))
  | 29, _ => exact (List.mem_of_getElem? (i := 71) (by decide +kernel))
  | 30, _ => exact (List.mem_of_getElem? (i := 72) (by decide +kernel))
  | 31, _ => exact (List.mem_of_getElem? (i := 73) (by decide +kernel))
  | q + 32, h => exact absurd h (by omega)
theorem st_m4 : ∀ i, i < 3 → ∀ j, j < (zAl i).length → Cond.eq (.elem (.static "OnTheRoof$Road" (zAn i) "[I") (.int (Int32.ofNat j))) (.int ((zAl i).getD j 0)) ∈ stF := fun i hi => by
  match i, hi with
  | 0, _ => exact st_m4_0
  | 1, _ => exact st_m4_1
  | 2, _ => exact st_m4_2
theorem st_m5 : ∀ i, i < 3 → Cond.arrayOf (.static "OnTheRoof$Road" (zAn i) "[I") .int ∈ stF ∧ Cond.eq (.length (.static "OnTheRoof$Road" (zAn i) "[I")) (.int (Int32.ofNat (zAl i).length)) ∈ stF := fun i hi => by
  match i, hi with
  | 0, _ => exact ⟨(List.mem_of_getElem? (i := 80) (by decide +kernel)), (List.mem_of_getElem? (i := 81) (by decide +kernel))⟩
  | 1, _ => exact ⟨(List.mem_of_getElem? (i := 5) (by decide +kernel)), (List.mem_of_getElem? (i := 6) (by decide +kernel))⟩
  | 2, _ => exact ⟨(List.mem_of_getElem? (i := 40) (by decide +kernel)), (List.mem_of_getElem? (i := 41) (by decide +kernel))⟩
theorem st_m6 : ∀ i, i < 8 → Cond.eq (stT i) (.string "OnTheRoofModel" ([224, 230, 234, 235, 236, 238, 240, 242].getD i 0)) ∈ stF := fun i hi => by
  match i, hi with
  | 0, _ => exact (List.mem_of_getElem? (i := 189) (by decide +kernel))
  | 1, _ => exact (List.mem_of_getElem? (i := 206) (by decide +kernel))
  | 2, _ => exact (List.mem_of_getElem? (i := 223) (by decide +kernel))
  | 3, _ => exact (List.mem_of_getElem? (i := 242) (by decide +kernel))
  | 4, _ => exact (List.mem_of_getElem? (i := 262) (by decide +kernel))
  | 5, _ => exact (List.mem_of_getElem? (i := 283) (by decide +kernel))
  | 6, _ => exact (List.mem_of_getElem? (i := 305) (by decide +kernel))
  | 7, _ => exact (List.mem_of_getElem? (i := 328) (by decide +kernel))
theorem st_m7 : Cond.eq (.static "java/lang/String" "COMPACT_STRINGS" "Z") (.int 1) ∈ stF ∧ Cond.isRef (.static "jdk/internal/util/Preconditions" "SIOOBE_FORMATTER" zFmt) ∈ stF := ⟨(List.mem_of_getElem? (i := 74) (by decide +kernel)), (List.mem_of_getElem? (i := 75) (by decide +kernel))⟩
theorem st_refs {args : Array Value} {s : State} {adK : Nat → Nat} (hts : ∀ w ∈ lw_tbl, w.before args s = true) (hs : ∀ w ∈ stF, w.before args s = true) (h5 : ∀ i, i < 8 → (stT i).eval args s none [] s = some (.ref (adK i))) : ∀ q ∈ zRefs, vk_R q.1 q.2.1 q.2.2.1 (adK q.2.2.2) s := by
  unfold zRefs
  refine List.forall_mem_cons.mpr ⟨vk_R.of (hts _ (zt2 (i := 200) rfl)) (h5 0 (by decide)), ?_⟩
  refine List.forall_mem_cons.mpr ⟨vk_R.of (hts _ (zt3 (i := 13) rfl)) (h5 1 (by decide)), ?_⟩
  refine List.forall_mem_cons.mpr ⟨vk_R.of (hts _ (zt3 (i := 14) rfl)) (h5 2 (by decide)), ?_⟩
  refine List.forall_mem_cons.mpr ⟨vk_R.of (hts _ (zt3 (i := 15) rfl)) (h5 3 (by decide)), ?_⟩
  refine List.forall_mem_cons.mpr ⟨vk_R.of (hts _ (zt3 (i := 16) rfl)) (h5 4 (by decide)), ?_⟩
  refine List.forall_mem_cons.mpr ⟨vk_R.of (hts _ (zt3 (i := 17) rfl)) (h5 5 (by decide)), ?_⟩
  refine List.forall_mem_cons.mpr ⟨vk_R.of (hts _ (zt3 (i := 18) rfl)) (h5 6 (by decide)), ?_⟩
  refine List.forall_mem_cons.mpr ⟨vk_R.of (hts _ (zt3 (i := 19) rfl)) (h5 7 (by decide)), ?_⟩
  refine List.forall_mem_cons.mpr ⟨vk_R.of (hts _ (zt6 (i := 10) rfl)) (va_eqR (hs _ (st_m6 0 (by decide))) (h5 0 (by decide))), ?_⟩
  refine List.forall_mem_cons.mpr ⟨vk_R.of (hts _ (zt6 (i := 29) rfl)) (va_eqR (hs _ (st_m6 1 (by decide))) (h5 1 (by decide))), ?_⟩
  refine List.forall_mem_cons.mpr ⟨vk_R.of (hts _ (zt6 (i := 35) rfl)) (va_eqR (hs _ (st_m6 2 (by decide))) (h5 2 (by decide))), ?_⟩
  refine List.forall_mem_cons.mpr ⟨vk_R.of (hts _ (zt6 (i := 36) rfl)) (va_eqR (hs _ (st_m6 3 (by decide))) (h5 3 (by decide))), ?_⟩
  refine List.forall_mem_cons.mpr ⟨vk_R.of (hts _ (zt6 (i := 37) rfl)) (va_eqR (hs _ (st_m6 4 (by decide))) (h5 4 (by decide))), ?_⟩
  refine List.forall_mem_cons.mpr ⟨vk_R.of (hts _ (zt6 (i := 38) rfl)) (va_eqR (hs _ (st_m6 5 (by decide))) (h5 5 (by decide))), ?_⟩
  refine List.forall_mem_cons.mpr ⟨vk_R.of (hts _ (zt6 (i := 39) rfl)) (va_eqR (hs _ (st_m6 6 (by decide))) (h5 6 (by decide))), ?_⟩
  refine List.forall_mem_cons.mpr ⟨vk_R.of (hts _ (zt6 (i := 40) rfl)) (va_eqR (hs _ (st_m6 7 (by decide))) (h5 7 (by decide))), ?_⟩
  exact fun _ h => absurd h List.not_mem_nil
theorem st_nest {args : Array Value} {s : State} (hts : ∀ w ∈ lw_tbl, w.before args s = true) : ∀ q ∈ zNests, va_Nw (.methodLinkNest q.1 q.2.1 q.2.2.1 q.2.2.2) s := by
  unfold zNests
  refine List.forall_mem_cons.mpr ⟨va_Nw.of rfl (hts _ (zt3 (i := 49) rfl)), ?_⟩
  refine List.forall_mem_cons.mpr ⟨va_Nw.of rfl (hts _ (zt3 (i := 152) rfl)), ?_⟩
  refine List.forall_mem_cons.mpr ⟨va_Nw.of rfl (hts _ (zt3 (i := 208) rfl)), ?_⟩
  refine List.forall_mem_cons.mpr ⟨va_Nw.of rfl (hts _ (zt4 (i := 24) rfl)), ?_⟩
  refine List.forall_mem_cons.mpr ⟨va_Nw.of rfl (hts _ (zt4 (i := 70) rfl)), ?_⟩
  refine List.forall_mem_cons.mpr ⟨va_Nw.of rfl (hts _ (zt4 (i := 126) rfl)), ?_⟩
  refine List.forall_mem_cons.mpr ⟨va_Nw.of rfl (hts _ (zt4 (i := 172) rfl)), ?_⟩
  exact fun _ h => absurd h List.not_mem_nil
theorem st_z {args : Array Value} {s : State} (hts : ∀ w ∈ lw_tbl, w.before args s = true) (hA : ∀ a : Nat, a < s.heap.size → ¬ (fun q : Nat => s.heap.size ≤ q) a) : ∀ j, j < 3 → ∀ t : Nat, (Term.static "OnTheRoof$Road" (zAn j) "[I").eval args s none [] s = some (.ref t) → va_Z "OnTheRoof$Road" (zAn j) "[I" (.ref t) (fun q : Nat => s.heap.size ≤ q) s s.heap := by
  intro j hj t e1
  rcases (show j = 0 ∨ j = 1 ∨ j = 2 by omega) with rfl | rfl | rfl
  · exact va_Zof (hts _ (zt3 (i := 29) rfl)) (hts _ (zt1 (i := 2) rfl)) e1 hA
  · exact va_Zof (hts _ (zt2 (i := 99) rfl)) (hts _ (zt1 (i := 2) rfl)) e1 hA
  · exact va_Zof (hts _ (zt2 (i := 101) rfl)) (hts _ (zt1 (i := 2) rfl)) e1 hA
theorem st_old {args : Array Value} {s : State} (hts : ∀ w ∈ lw_tbl, w.before args s = true) (hgv : (Jvm.Cond.and given_1 narrow_1).before args s = true) : ∃ f : zA, ∀ ad : zA, (∀ b k, 4 ≤ b → b ≤ 7 → ad b k = f b k) → zOld ad (fun q => s.heap.size ≤ q) s s.heap := by
  have hs : ∀ w ∈ stF, w.before args s = true := flat_of_before _ hgv
  have hA : ∀ a : Nat, a < s.heap.size → ¬ (fun q : Nat => s.heap.size ≤ q) a := fun a h => Nat.not_le.mpr h
  obtain ⟨adK, adV, hS, h5⟩ := vk_Sof (N := 8) (tm := stT) (len := zSl) (byt := zSw) (A := fun q : Nat => s.heap.size ≤ q) (fun i hi => Nat.lt_of_le_of_lt (zsl4 i hi).1 (by decide)) (fun i hi => hs _ (st_m1 i hi).1) (fun i hi => hs _ (st_m1 i hi).2.1) (fun i hi => hs _ (st_m1 i hi).2.2.1) (fun i hi => hs _ (st_m1 i hi).2.2.2) (fun i hi j hj => hs _ (st_m2 i hi j hj)) (fun i j hi hj hij => (st_m3 i hi j hj hij).imp (fun h => hs _ h) (fun h => hs _ h)) hA
  have hT : ∀ i, ∃ t : Nat, i < 3 → (Term.static "OnTheRoof$Road" (zAn i) "[I").eval args s none [] s = some (.ref t) ∧ va_T .int t (zAl i).length (fun j => .int ((zAl i).getD j 0)) (fun q : Nat => s.heap.size ≤ q) s s.heap := by
    intro i
    by_cases hi : i < 3
    · have hl : (zAl i).length ≤ 32 := by
        rcases (show i = 0 ∨ i = 1 ∨ i = 2 by omega) with rfl | rfl | rfl <;> decide
      obtain ⟨t, e1, e2⟩ := va_Tof (tm := .static "OnTheRoof$Road" (zAn i) "[I") (ty := .int) (N := (zAl i).length) (f := fun j => .int ((zAl i).getD j 0)) (A := fun q : Nat => s.heap.size ≤ q) (by omega) (hs _ (st_m5 i hi).1) (va_eqt (hs _ (st_m5 i hi).2)) (fun j hj => va_eqt (hs _ (st_m4 i hi j hj))) hA
      exact ⟨t, fun _ => ⟨e1, e2⟩⟩
    · exact ⟨0, fun h => absurd h hi⟩
  obtain ⟨aT, hT⟩ := Classical.axiomOfChoice hT
  have hF : ∃ t : Nat, va_Z "jdk/internal/util/Preconditions" "SIOOBE_FORMATTER" zFmt .null (fun q : Nat => s.heap.size ≤ q) s s.heap ∨ va_Z "jdk/internal/util/Preconditions" "SIOOBE_FORMATTER" zFmt (.ref t) (fun q : Nat => s.heap.size ≤ q) s s.heap := by
    rcases va_Zqof (A := fun q : Nat => s.heap.size ≤ q) (hts _ (zt2 (i := 230) rfl)) (hts _ (zt1 (i := 13) rfl)) (hs _ st_m7.2) hA with h | ⟨t, h⟩
    · exact ⟨0, Or.inl h⟩
    · exact ⟨t, Or.inr h⟩
  obtain ⟨tF, hF⟩ := hF
  refine ⟨fun b k => if b = 4 then aT k else if b = 5 then adK k else if b = 6 then adV k else tF, fun ad had => ?_⟩
  have a4 : ∀ k, ad 4 k = aT k := fun k => had 4 k (by decide) (by decide)
  have a5 : ad 5 = adK := funext fun k => had 5 k (by decide) (by decide)
  have a6 : ad 6 = adV := funext fun k => had 6 k (by decide) (by decide)
  have a7 : ad 7 0 = tF := had 7 0 (by decide) (by decide)
  unfold zOld
  rw [a5, a6, a7]
  refine ⟨hS, ?_, va_Zof (hts _ (zt2 (i := 214) rfl)) (hts _ (zt1 (i := 11) rfl)) (va_eqi (hs _ st_m7.1)) hA, fun j hj => ?_, ⟨hts _ (zt1 (i := 155) rfl), hts _ (zt4 (i := 215) rfl), hts _ (zt4 (i := 213) rfl)⟩, hF, ?_⟩
  · exact st_refs hts hs h5
  · rw [a4]
    obtain ⟨e1, e2⟩ := hT j hj
    refine ⟨?_, e2⟩
    exact st_z hts hA j hj _ e1
  · exact st_nest hts
