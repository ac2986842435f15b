/-! the reference's object: its shape, its constructor -/
/-- the object of block 0 may hold one of block q; the others hold none -/
def ob : Nat → Nat → Nat
  | 0, q => q
  | b + 1, _ => b + 1
def mshR (b : Nat) : Nat → Option zS
  | 0 => some (.inr (.inl (7, [.inr (some (b, 1)), .inr (some (b, 2)), .inr (some (b, 3)), .inr (some (b, 4)), .inr (some (b, 13)), .inr (some (b, 14)), .inr (some (b, 15)), .inr none, .inr (some (b, 16)), .inr none, .inr (some (b, 17)), .inr (some (b, 18)), .inr (some (b, 19)), .inr (some (b, 20)), .inr (some (b, 21)), .inr none, .inr (some (b, 22)), .inr (some (b, 23)), .inr (some (b, 24)), .inr none, .inr (some (b, 25)), .inr (some (b, 26)), .inr (some (b, 27)), .inr none, .inr none, .inr none, .inr none, .inr none, .inr (some (ob b 2, 0)), .inr (some (ob b 1, 0)), .inr none, .inr none, .inr none, .inr none, .inr none, .inr (some (b, 28)), .inr none, .inr (some (b, 29)), .inr none, .inr (some (b, 30)), .inr none, .inr none, .inr (some (b, 31))])))
  | 1 => some (.inl (0, 8))
  | 2 => some (.inl (0, 8))
  | 3 => some (.inl (0, 8))
  | 4 => some (.inr (.inr (2, (List.range 8).map (fun i => some (b, 4 + 1 + i)))))
  | 5 => some (.inl (1, 40))
  | 6 => some (.inl (1, 40))
  | 7 => some (.inl (1, 40))
  | 8 => some (.inl (1, 40))
  | 9 => some (.inl (1, 40))
  | 10 => some (.inl (1, 40))
  | 11 => some (.inl (1, 40))
  | 12 => some (.inl (1, 40))
  | 13 => some (.inl (1, 40))
  | 14 => some (.inl (0, 8))
  | 15 => some (.inl (0, 250))
  | 16 => some (.inl (0, 8))
  | 17 => some (.inl (0, 14))
  | 18 => some (.inl (0, 14))
  | 19 => some (.inl (0, 14))
  | 20 => some (.inl (0, 14))
  | 21 => some (.inl (0, 14))
  | 22 => some (.inl (0, 9))
  | 23 => some (.inl (0, 9))
  | 24 => some (.inl (0, 9))
  | 25 => some (.inl (0, 6))
  | 26 => some (.inl (0, 6))
  | 27 => some (.inl (0, 6))
  | 28 => some (.inl (0, 4))
  | 29 => some (.inl (0, 14))
  | 30 => some (.inl (0, 14))
  | 31 => some (.inr (.inr (1, (List.range 15).map (fun i => some (b, 31 + 1 + i)))))
  | 32 => some (.inl (0, 901))
  | 33 => some (.inl (0, 901))
  | 34 => some (.inl (0, 901))
  | 35 => some (.inl (0, 901))
  | 36 => some (.inl (0, 901))
  | 37 => some (.inl (0, 901))
  | 38 => some (.inl (0, 901))
  | 39 => some (.inl (0, 901))
  | 40 => some (.inl (0, 901))
  | 41 => some (.inl (0, 901))
  | 42 => some (.inl (0, 901))
  | 43 => some (.inl (0, 901))
  | 44 => some (.inl (0, 901))
  | 45 => some (.inl (0, 901))
  | 46 => some (.inl (0, 901))
  | _ => none
def msh (b : Nat) : Nat → Option zS
  | 0 => some (.inr (.inl (7, [.inl (zr b 1), .inl (zr b 2), .inl (zr b 3), .inl (zr b 4), .inl (zr b 13), .inl (zr b 14), .inl (zr b 15), .inr none, .inl (zr b 16), .inr none, .inl (zr b 17), .inl (zr b 18), .inl (zr b 19), .inl (zr b 20), .inl (zr b 21), .inr none, .inl (zr b 22), .inl (zr b 23), .inl (zr b 24), .inr none, .inl (zr b 25), .inl (zr b 26), .inl (zr b 27), .inr none, .inr none, .inr none, .inr none, .inr none, .inr (some (ob b 2, 0)), .inr (some (ob b 1, 0)), .inr none, .inr none, .inr none, .inr none, .inr none, .inl (zr b 28), .inr none, .inl (zr b 29), .inr none, .inl (zr b 30), .inr none, .inr none, .inl (zr b 31)])))
  | 1 => some (.inl (0, 8))
  | 2 => some (.inl (0, 8))
  | 3 => some (.inl (0, 8))
  | 4 => some (.inr (.inr (2, (List.range 8).map (fun i => some (b, 4 + 1 + i)))))
  | 5 => some (.inl (1, 40))
  | 6 => some (.inl (1, 40))
  | 7 => some (.inl (1, 40))
  | 8 => some (.inl (1, 40))
  | 9 => some (.inl (1, 40))
  | 10 => some (.inl (1, 40))
  | 11 => some (.inl (1, 40))
  | 12 => some (.inl (1, 40))
  | 13 => some (.inl (1, 40))
  | 14 => some (.inl (0, 8))
  | 15 => some (.inl (0, 250))
  | 16 => some (.inl (0, 8))
  | 17 => some (.inl (0, 14))
  | 18 => some (.inl (0, 14))
  | 19 => some (.inl (0, 14))
  | 20 => some (.inl (0, 14))
  | 21 => some (.inl (0, 14))
  | 22 => some (.inl (0, 9))
  | 23 => some (.inl (0, 9))
  | 24 => some (.inl (0, 9))
  | 25 => some (.inl (0, 6))
  | 26 => some (.inl (0, 6))
  | 27 => some (.inl (0, 6))
  | 28 => some (.inl (0, 4))
  | 29 => some (.inl (0, 14))
  | 30 => some (.inl (0, 14))
  | 31 => some (.inr (.inr (1, (List.range 15).map (fun i => some (b, 31 + 1 + i)))))
  | 32 => some (.inl (0, 901))
  | 33 => some (.inl (0, 901))
  | 34 => some (.inl (0, 901))
  | 35 => some (.inl (0, 901))
  | 36 => some (.inl (0, 901))
  | 37 => some (.inl (0, 901))
  | 38 => some (.inl (0, 901))
  | 39 => some (.inl (0, 901))
  | 40 => some (.inl (0, 901))
  | 41 => some (.inl (0, 901))
  | 42 => some (.inl (0, 901))
  | 43 => some (.inl (0, 901))
  | 44 => some (.inl (0, 901))
  | 45 => some (.inl (0, 901))
  | 46 => some (.inl (0, 901))
  | _ => none
def zmR (b : Nat) (S : zSh) : zSh := fun b' k => if b' = b then mshR b k else S b' k
def zmd (b : Nat) (S : zSh) : zSh := fun b' k => if b' = b then msh b k else S b' k
theorem zmR_at {b k : Nat} {S : zSh} : zmR b S b k = mshR b k := if_pos rfl
theorem zmd_at {b k : Nat} {S : zSh} : zmd b S b k = msh b k := if_pos rfl
theorem zmd_ne {b b' k : Nat} {S : zSh} (h : b' ≠ b) : zmd b S b' k = S b' k := if_neg h
theorem msh_rows {b i : Nat} (hi : i < 8) : msh b (4 + 1 + i) = some (.inl (1, 40)) ∧ mshR b (4 + 1 + i) = some (.inl (1, 40)) := by
  match i, hi with
  | 0, _ => exact ⟨rfl, rfl⟩
  | 1, _ => exact ⟨rfl, rfl⟩
  | 2, _ => exact ⟨rfl, rfl⟩
  | 3, _ => exact ⟨rfl, rfl⟩
  | 4, _ => exact ⟨rfl, rfl⟩
  | 5, _ => exact ⟨rfl, rfl⟩
  | 6, _ => exact ⟨rfl, rfl⟩
  | 7, _ => exact ⟨rfl, rfl⟩
theorem msh_most {b i : Nat} (hi : i < 15) : msh b (31 + 1 + i) = some (.inl (0, 901)) ∧ mshR b (31 + 1 + i) = some (.inl (0, 901)) := by
  match i, hi with
  | 0, _ => exact ⟨rfl, rfl⟩
  | 1, _ => exact ⟨rfl, rfl⟩
  | 2, _ => exact ⟨rfl, rfl⟩
  | 3, _ => exact ⟨rfl, rfl⟩
  | 4, _ => exact ⟨rfl, rfl⟩
  | 5, _ => exact ⟨rfl, rfl⟩
  | 6, _ => exact ⟨rfl, rfl⟩
  | 7, _ => exact ⟨rfl, rfl⟩
  | 8, _ => exact ⟨rfl, rfl⟩
  | 9, _ => exact ⟨rfl, rfl⟩
  | 10, _ => exact ⟨rfl, rfl⟩
  | 11, _ => exact ⟨rfl, rfl⟩
  | 12, _ => exact ⟨rfl, rfl⟩
  | 13, _ => exact ⟨rfl, rfl⟩
  | 14, _ => exact ⟨rfl, rfl⟩
def modI (b : Nat) (I : zI) : zI := up3 (up3 (up3 (up3 (up3 (up3 (up3 (up3 (up3 (up3 (up3 (up3 (up3 (up3 (up3 (up3 (up3 (up3 (up3 (up3 (up3 (up3 (up3 (up3 (up3 (up3 I b 0 0 1) b 0 1 1) b 0 2 1) b 0 3 1) b 0 4 1) b 0 5 1) b 0 6 1) b 0 8 1) b 0 10 1) b 0 11 1) b 0 12 1) b 0 13 1) b 0 14 1) b 0 16 1) b 0 17 1) b 0 18 1) b 0 20 1) b 0 21 1) b 0 22 1) b 0 23 (nI 3)) b 0 26 (-1)) b 0 27 (nI 1)) b 0 35 1) b 0 37 1) b 0 39 1) b 0 42 1
theorem modI_off {b : Nat} {I : zI} {b' k j : Nat} (h : ¬ (b' = b ∧ k = 0)) : modI b I b' k j = I b' k j := by
  have e : ∀ (J : zI) i v, up3 J b 0 i v b' k j = J b' k j := fun J i v => up3_ne (fun z => h ⟨z.1, z.2.1⟩)
  unfold modI
  simp only [e]
theorem modI_v {b : Nat} {I : zI} {j : Nat} : modI b I b 0 j = if j = 23 then nI 3 else if j = 26 then -1 else if j = 27 then nI 1 else if j ∈ [0, 1, 2, 3, 4, 5, 6, 8, 10, 11, 12, 13, 14, 16, 17, 18, 20, 21, 22, 35, 37, 39, 42] then 1 else I b 0 j := by
  by_cases hj : j < 43
  · rcases (show j = 0 ∨ j = 1 ∨ j = 2 ∨ j = 3 ∨ j = 4 ∨ j = 5 ∨ j = 6 ∨ j = 7 ∨ j = 8 ∨ j = 9 ∨ j = 10 ∨ j = 11 ∨ j = 12 ∨ j = 13 ∨ j = 14 ∨ j = 15 ∨ j = 16 ∨ j = 17 ∨ j = 18 ∨ j = 19 ∨ j = 20 ∨ j = 21 ∨ j = 22 ∨ j = 23 ∨ j = 24 ∨ j = 25 ∨ j = 26 ∨ j = 27 ∨ j = 28 ∨ j = 29 ∨ j = 30 ∨ j = 31 ∨ j = 32 ∨ j = 33 ∨ j = 34 ∨ j = 35 ∨ j = 36 ∨ j = 37 ∨ j = 38 ∨ j = 39 ∨ j = 40 ∨ j = 41 ∨ j = 42 by omega) with rfl | rfl | rfl | rfl | rfl | rfl | rfl | rfl | rfl | rfl | rfl | rfl | rfl | rfl | rfl | rfl | rfl | rfl | rfl | rfl | rfl | rfl | rfl | rfl | rfl | rfl | rfl | rfl | rfl | rfl | rfl | rfl | rfl | rfl | rfl | rfl | rfl | rfl | rfl | rfl | rfl | rfl | rfl <;> simp [modI, up3]
  · have e : ∀ (J : zI) i v, i < 43 → up3 J b 0 i v b 0 j = J b 0 j := fun J i v hi => up3_ne (by omega)
    unfold modI
    rw [e _ _ _ (by decide), e _ _ _ (by decide), e _ _ _ (by decide), e _ _ _ (by decide), e _ _ _ (by decide), e _ _ _ (by decide), e _ _ _ (by decide), e _ _ _ (by decide), e _ _ _ (by decide), e _ _ _ (by decide), e _ _ _ (by decide), e _ _ _ (by decide), e _ _ _ (by decide), e _ _ _ (by decide), e _ _ _ (by decide), e _ _ _ (by decide), e _ _ _ (by decide), e _ _ _ (by decide), e _ _ _ (by decide), e _ _ _ (by decide), e _ _ _ (by decide), e _ _ _ (by decide), e _ _ _ (by decide), e _ _ _ (by decide), e _ _ _ (by decide), e _ _ _ (by decide)]
    rw [if_neg (by omega), if_neg (by omega), if_neg (by omega), if_neg (by simp; omega)]
theorem zmd_same {b : Nat} {I X : zI} {Y : zY} {g : zG} {A : Nat → Prop} {ad : zA} {S : zSh} {H : Heap} (h : zW g A ad (zcut b 47 (zmR b S)) (modI b I) X Y H) : zW g A ad (zmd b S) (modI b I) X Y H := by
  refine h.same fun b' k sh2 h2 => ?_
  by_cases hb : b' = b
  · subst hb
    have h3 : msh b' k = some sh2 := by rw [← h2]; exact zmd_at.symm
    have hk : k < 47 := by
      rcases Nat.lt_or_ge k 47 with h' | h'
      · exact h'
      · obtain ⟨k1, rfl⟩ := Nat.exists_eq_add_of_le h'
        rw [Nat.add_comm] at h3
        cases h3
    have e : zcut b' 47 (zmR b' S) b' k = mshR b' k := by
      show (if b' = b' ∧ 47 ≤ k then none else zmR b' S b' k) = _
      rw [if_neg (fun z => by omega)]; exact zmR_at
    match k, hk, h3, e with
    | 0, _, h3, e =>
      cases h3
      refine ⟨_, e, zobj ?_⟩
      have f : ∀ (j : Nat) (q : Nat × Nat), j ∈ [0, 1, 2, 3, 4, 5, 6, 8, 10, 11, 12, 13, 14, 16, 17, 18, 20, 21, 22, 35, 37, 39, 42] → zfv (modI b' I) b' 0 j (.inr (some q)) = .inr (.inr (some q)) := fun j q hj => zfv_1 (by rw [modI_v, if_neg (fun z => by subst z; simp at hj), if_neg (fun z => by subst z; simp at hj), if_neg (fun z => by subst z; simp at hj), if_pos hj])
      simp only [List.mapIdx_cons, List.mapIdx_nil, Nat.reduceAdd]
      rw [f 0 _ (by decide), f 1 _ (by decide), f 2 _ (by decide), f 3 _ (by decide), f 4 _ (by decide), f 5 _ (by decide), f 6 _ (by decide), f 8 _ (by decide), f 10 _ (by decide), f 11 _ (by decide), f 12 _ (by decide), f 13 _ (by decide), f 14 _ (by decide), f 16 _ (by decide), f 17 _ (by decide), f 18 _ (by decide), f 20 _ (by decide), f 21 _ (by decide), f 22 _ (by decide), f 35 _ (by decide), f 37 _ (by decide), f 39 _ (by decide), f 42 _ (by decide)]
      rfl
    | k + 1, hk, h3, e =>
      have e2 : mshR b' (k + 1) = msh b' (k + 1) := by
        match k, hk with
        | 0, _ => rfl
        | 1, _ => rfl
        | 2, _ => rfl
        | 3, _ => rfl
        | 4, _ => rfl
        | 5, _ => rfl
        | 6, _ => rfl
        | 7, _ => rfl
        | 8, _ => rfl
        | 9, _ => rfl
        | 10, _ => rfl
        | 11, _ => rfl
        | 12, _ => rfl
        | 13, _ => rfl
        | 14, _ => rfl
        | 15, _ => rfl
        | 16, _ => rfl
        | 17, _ => rfl
        | 18, _ => rfl
        | 19, _ => rfl
        | 20, _ => rfl
        | 21, _ => rfl
        | 22, _ => rfl
        | 23, _ => rfl
        | 24, _ => rfl
        | 25, _ => rfl
        | 26, _ => rfl
        | 27, _ => rfl
        | 28, _ => rfl
        | 29, _ => rfl
        | 30, _ => rfl
        | 31, _ => rfl
        | 32, _ => rfl
        | 33, _ => rfl
        | 34, _ => rfl
        | 35, _ => rfl
        | 36, _ => rfl
        | 37, _ => rfl
        | 38, _ => rfl
        | 39, _ => rfl
        | 40, _ => rfl
        | 41, _ => rfl
        | 42, _ => rfl
        | 43, _ => rfl
        | 44, _ => rfl
        | 45, _ => rfl
      exact ⟨sh2, by rw [e, e2]; exact h3, rfl⟩
  · refine ⟨sh2, ?_, rfl⟩
    rw [← h2]
    show (if b' = b ∧ 47 ≤ k then none else zmR b S b' k) = _
    rw [if_neg (fun z => hb z.1)]
    exact (if_neg hb).trans (if_neg hb).symm
section
variable {ad : zA} {S : zSh} {I X : zI} {Y : zY} {sz b : Nat}
theorem c_X7_init (hX : ∀ k j, X b k j = 0) (hY : ∀ k j, Y b k j = 0) (hz : ∀ i, ad b (1 + i) = sz + i) : zCall mX7_init 1 46 14335 [zr b 0] (none) ad (zcut b 1 (zmR b S)) I X Y (sz) (zmd b S) (modI b I) X Y (sz + 46) := by
  refine zgo (own := RX7) (k := 0) (by decide +kernel) rfl rfl rfl (fun C hC hnm hE => ?_)
  refine z_aload_n hC dX7_init_0 rfl ?_
  refine z_obj hC dX7_init_1 (zin4 (i := 211) rfl rfl) (zin1 (i := 22) rfl rfl) (zin1 (i := 23) rfl rfl) rfl rfl ?_
  refine z_aload_n hC dX7_init_4 rfl ?_
  refine z_bipush hC dX7_init_5 (v := nI 8) rfl ?_
  refine z_nwI hC (b := b) (w := 1) dX7_init_7 (zin1 (i := 52) rfl rfl) zmR_at rfl (by decide) (hX _) (hz 0) ⟨by decide, by decide⟩ ?_
  refine z_putOF hC hnm dX7_init_9 (zcut_lt (S := zmR b S) zmR_at (by decide)) zfX7_7 rfl rfl rfl rfl (ty := (.array .int)) (by decide +kernel) (fun _ => rfl) (fun _ => rfl) ?_
  refine z_aload_n hC dX7_init_12 rfl ?_
  refine z_bipush hC dX7_init_13 (v := nI 8) rfl ?_
  refine z_nwI hC (b := b) (w := 2) dX7_init_15 (zin1 (i := 52) rfl rfl) zmR_at rfl (by decide) (hX _) (hz 1) ⟨by decide, by decide⟩ ?_
  refine z_putOF hC hnm dX7_init_17 (zcut_lt (S := zmR b S) zmR_at (by decide)) zfX7_13 rfl rfl rfl rfl (ty := (.array .int)) (by decide +kernel) (fun _ => rfl) (fun _ => rfl) ?_
  refine z_aload_n hC dX7_init_20 rfl ?_
  refine z_bipush hC dX7_init_21 (v := nI 8) rfl ?_
  refine z_nwI hC (b := b) (w := 3) dX7_init_23 (zin1 (i := 52) rfl rfl) zmR_at rfl (by decide) (hX _) (hz 2) ⟨by decide, by decide⟩ ?_
  refine z_putOF hC hnm dX7_init_25 (zcut_lt (S := zmR b S) zmR_at (by decide)) zfX7_16 rfl rfl rfl rfl (ty := (.array .int)) (by decide +kernel) (fun _ => rfl) (fun _ => rfl) ?_
  refine z_aload_n hC dX7_init_28 rfl ?_
  refine z_bipush hC dX7_init_29 (v := nI 8) rfl ?_
  refine z_bipush hC dX7_init_31 (v := nI 40) rfl ?_
  refine z_mulJ hC (b := b) (w := 4) dX7_init_33 (zin4 (i := 212) rfl rfl) (zin1 (i := 172) rfl rfl) zmR_at (fun i hi => zmR_at.trans (msh_rows hi).2) (fun _ _ _ => (hY _ _)) (fun i _ => (by have h := hz (3 + i); rw [show 1 + (3 + i) = 4 + i by omega] at h; omega)) (by decide) (by decide) ⟨by decide, by decide⟩ ?_
  refine z_putOF hC hnm dX7_init_37 (zcut_lt (S := zmR b S) zmR_at (by decide)) zfX7_21 rfl rfl rfl rfl (ty := (.array (.array .long))) (by decide +kernel) (fun _ => rfl) (fun _ => rfl) ?_
  refine z_aload_n hC dX7_init_40 rfl ?_
  refine z_bipush hC dX7_init_41 (v := nI 40) rfl ?_
  refine z_nwJ hC (b := b) (w := 13) dX7_init_43 (zin1 (i := 172) rfl rfl) zmR_at rfl (by decide) (hY _) (hz 12) ⟨by decide, by decide⟩ ?_
  refine z_putOF hC hnm dX7_init_45 (zcut_lt (S := zmR b S) zmR_at (by decide)) zfX7_24 rfl rfl rfl rfl (ty := (.array .long)) (by decide +kernel) (fun _ => rfl) (fun _ => rfl) ?_
  refine z_aload_n hC dX7_init_48 rfl ?_
  refine z_bipush hC dX7_init_49 (v := nI 8) rfl ?_
  refine z_nwI hC (b := b) (w := 14) dX7_init_51 (zin1 (i := 52) rfl rfl) zmR_at rfl (by decide) (hX _) (hz 13) ⟨by decide, by decide⟩ ?_
  refine z_putOF hC hnm dX7_init_53 (zcut_lt (S := zmR b S) zmR_at (by decide)) zfX7_28 rfl rfl rfl rfl (ty := (.array .int)) (by decide +kernel) (fun _ => rfl) (fun _ => rfl) ?_
  refine z_aload_n hC dX7_init_56 rfl ?_
  refine z_sipush hC dX7_init_57 (v := nI 250) rfl ?_
  refine z_nwI hC (b := b) (w := 15) dX7_init_60 (zin1 (i := 52) rfl rfl) zmR_at rfl (by decide) (hX _) (hz 14) ⟨by decide, by decide⟩ ?_
  refine z_putOF hC hnm dX7_init_62 (zcut_lt (S := zmR b S) zmR_at (by decide)) zfX7_31 rfl rfl rfl rfl (ty := (.array .int)) (by decide +kernel) (fun _ => rfl) (fun _ => rfl) ?_
  refine z_aload_n hC dX7_init_65 rfl ?_
  refine z_bipush hC dX7_init_66 (v := nI 8) rfl ?_
  refine z_nwI hC (b := b) (w := 16) dX7_init_68 (zin1 (i := 52) rfl rfl) zmR_at rfl (by decide) (hX _) (hz 15) ⟨by decide, by decide⟩ ?_
  refine z_putOF hC hnm dX7_init_70 (zcut_lt (S := zmR b S) zmR_at (by decide)) zfX7_34 rfl rfl rfl rfl (ty := (.array .int)) (by decide +kernel) (fun _ => rfl) (fun _ => rfl) ?_
  refine z_aload_n hC dX7_init_73 rfl ?_
  refine z_bipush hC dX7_init_74 (v := nI 14) rfl ?_
  refine z_nwI hC (b := b) (w := 17) dX7_init_76 (zin1 (i := 52) rfl rfl) zmR_at rfl (by decide) (hX _) (hz 16) ⟨by decide, by decide⟩ ?_
  refine z_putOF hC hnm dX7_init_78 (zcut_lt (S := zmR b S) zmR_at (by decide)) zfX7_37 rfl rfl rfl rfl (ty := (.array .int)) (by decide +kernel) (fun _ => rfl) (fun _ => rfl) ?_
  refine z_aload_n hC dX7_init_81 rfl ?_
  refine z_bipush hC dX7_init_82 (v := nI 14) rfl ?_
  refine z_nwI hC (b := b) (w := 18) dX7_init_84 (zin1 (i := 52) rfl rfl) zmR_at rfl (by decide) (hX _) (hz 17) ⟨by decide, by decide⟩ ?_
  refine z_putOF hC hnm dX7_init_86 (zcut_lt (S := zmR b S) zmR_at (by decide)) zfX7_40 rfl rfl rfl rfl (ty := (.array .int)) (by decide +kernel) (fun _ => rfl) (fun _ => rfl) ?_
  refine z_aload_n hC dX7_init_89 rfl ?_
  refine z_bipush hC dX7_init_90 (v := nI 14) rfl ?_
  refine z_nwI hC (b := b) (w := 19) dX7_init_92 (zin1 (i := 52) rfl rfl) zmR_at rfl (by decide) (hX _) (hz 18) ⟨by decide, by decide⟩ ?_
  refine z_putOF hC hnm dX7_init_94 (zcut_lt (S := zmR b S) zmR_at (by decide)) zfX7_43 rfl rfl rfl rfl (ty := (.array .int)) (by decide +kernel) (fun _ => rfl) (fun _ => rfl) ?_
  refine z_aload_n hC dX7_init_97 rfl ?_
  refine z_bipush hC dX7_init_98 (v := nI 14) rfl ?_
  refine z_nwI hC (b := b) (w := 20) dX7_init_100 (zin1 (i := 52) rfl rfl) zmR_at rfl (by decide) (hX _) (hz 19) ⟨by decide, by decide⟩ ?_
  refine z_putOF hC hnm dX7_init_102 (zcut_lt (S := zmR b S) zmR_at (by decide)) zfX7_46 rfl rfl rfl rfl (ty := (.array .int)) (by decide +kernel) (fun _ => rfl) (fun _ => rfl) ?_
  refine z_aload_n hC dX7_init_105 rfl ?_
  refine z_bipush hC dX7_init_106 (v := nI 14) rfl ?_
  refine z_nwI hC (b := b) (w := 21) dX7_init_108 (zin1 (i := 52) rfl rfl) zmR_at rfl (by decide) (hX _) (hz 20) ⟨by decide, by decide⟩ ?_
  refine z_putOF hC hnm dX7_init_110 (zcut_lt (S := zmR b S) zmR_at (by decide)) zfX7_49 rfl rfl rfl rfl (ty := (.array .int)) (by decide +kernel) (fun _ => rfl) (fun _ => rfl) ?_
  refine z_aload_n hC dX7_init_113 rfl ?_
  refine z_bipush hC dX7_init_114 (v := nI 9) rfl ?_
  refine z_nwI hC (b := b) (w := 22) dX7_init_116 (zin1 (i := 52) rfl rfl) zmR_at rfl (by decide) (hX _) (hz 21) ⟨by decide, by decide⟩ ?_
  refine z_putOF hC hnm dX7_init_118 (zcut_lt (S := zmR b S) zmR_at (by decide)) zfX7_52 rfl rfl rfl rfl (ty := (.array .int)) (by decide +kernel) (fun _ => rfl) (fun _ => rfl) ?_
  refine z_aload_n hC dX7_init_121 rfl ?_
  refine z_bipush hC dX7_init_122 (v := nI 9) rfl ?_
  refine z_nwI hC (b := b) (w := 23) dX7_init_124 (zin1 (i := 52) rfl rfl) zmR_at rfl (by decide) (hX _) (hz 22) ⟨by decide, by decide⟩ ?_
  refine z_putOF hC hnm dX7_init_126 (zcut_lt (S := zmR b S) zmR_at (by decide)) zfX7_55 rfl rfl rfl rfl (ty := (.array .int)) (by decide +kernel) (fun _ => rfl) (fun _ => rfl) ?_
  refine z_aload_n hC dX7_init_129 rfl ?_
  refine z_bipush hC dX7_init_130 (v := nI 9) rfl ?_
  refine z_nwI hC (b := b) (w := 24) dX7_init_132 (zin1 (i := 52) rfl rfl) zmR_at rfl (by decide) (hX _) (hz 23) ⟨by decide, by decide⟩ ?_
  refine z_putOF hC hnm dX7_init_134 (zcut_lt (S := zmR b S) zmR_at (by decide)) zfX7_58 rfl rfl rfl rfl (ty := (.array .int)) (by decide +kernel) (fun _ => rfl) (fun _ => rfl) ?_
  refine z_aload_n hC dX7_init_137 rfl ?_
  refine z_bipush hC dX7_init_138 (v := nI 6) rfl ?_
  refine z_nwI hC (b := b) (w := 25) dX7_init_140 (zin1 (i := 52) rfl rfl) zmR_at rfl (by decide) (hX _) (hz 24) ⟨by decide, by decide⟩ ?_
  refine z_putOF hC hnm dX7_init_142 (zcut_lt (S := zmR b S) zmR_at (by decide)) zfX7_61 rfl rfl rfl rfl (ty := (.array .int)) (by decide +kernel) (fun _ => rfl) (fun _ => rfl) ?_
  refine z_aload_n hC dX7_init_145 rfl ?_
  refine z_bipush hC dX7_init_146 (v := nI 6) rfl ?_
  refine z_nwI hC (b := b) (w := 26) dX7_init_148 (zin1 (i := 52) rfl rfl) zmR_at rfl (by decide) (hX _) (hz 25) ⟨by decide, by decide⟩ ?_
  refine z_putOF hC hnm dX7_init_150 (zcut_lt (S := zmR b S) zmR_at (by decide)) zfX7_64 rfl rfl rfl rfl (ty := (.array .int)) (by decide +kernel) (fun _ => rfl) (fun _ => rfl) ?_
  refine z_aload_n hC dX7_init_153 rfl ?_
  refine z_bipush hC dX7_init_154 (v := nI 6) rfl ?_
  refine z_nwI hC (b := b) (w := 27) dX7_init_156 (zin1 (i := 52) rfl rfl) zmR_at rfl (by decide) (hX _) (hz 26) ⟨by decide, by decide⟩ ?_
  refine z_putOF hC hnm dX7_init_158 (zcut_lt (S := zmR b S) zmR_at (by decide)) zfX7_67 rfl rfl rfl rfl (ty := (.array .int)) (by decide +kernel) (fun _ => rfl) (fun _ => rfl) ?_
  refine z_aload_n hC dX7_init_161 rfl ?_
  refine z_iconst hC dX7_init_162 (v := nI 3) rfl ?_
  refine z_putI hC dX7_init_163 (zcut_lt (S := zmR b S) zmR_at (by decide)) zfX7_70 rfl rfl rfl rfl ?_
  refine z_aload_n hC dX7_init_166 rfl ?_
  refine z_iconst hC dX7_init_167 (v := -1) rfl ?_
  refine z_putI hC dX7_init_168 (zcut_lt (S := zmR b S) zmR_at (by decide)) zfX7_74 rfl rfl rfl rfl ?_
  refine z_aload_n hC dX7_init_171 rfl ?_
  refine z_iconst hC dX7_init_172 (v := nI 1) rfl ?_
  refine z_putI hC dX7_init_173 (zcut_lt (S := zmR b S) zmR_at (by decide)) zfX7_77 rfl rfl rfl rfl ?_
  refine z_aload_n hC dX7_init_176 rfl ?_
  refine z_iconst hC dX7_init_177 (v := nI 4) rfl ?_
  refine z_nwI hC (b := b) (w := 28) dX7_init_178 (zin1 (i := 52) rfl rfl) zmR_at rfl (by decide) (hX _) (hz 27) ⟨by decide, by decide⟩ ?_
  refine z_putOF hC hnm dX7_init_180 (zcut_lt (S := zmR b S) zmR_at (by decide)) zfX7_80 rfl rfl rfl rfl (ty := (.array .int)) (by decide +kernel) (fun _ => rfl) (fun _ => rfl) ?_
  refine z_aload_n hC dX7_init_183 rfl ?_
  refine z_bipush hC dX7_init_184 (v := nI 14) rfl ?_
  refine z_nwI hC (b := b) (w := 29) dX7_init_186 (zin1 (i := 52) rfl rfl) zmR_at rfl (by decide) (hX _) (hz 28) ⟨by decide, by decide⟩ ?_
  refine z_putOF hC hnm dX7_init_188 (zcut_lt (S := zmR b S) zmR_at (by decide)) zfX7_83 rfl rfl rfl rfl (ty := (.array .int)) (by decide +kernel) (fun _ => rfl) (fun _ => rfl) ?_
  refine z_aload_n hC dX7_init_191 rfl ?_
  refine z_bipush hC dX7_init_192 (v := nI 14) rfl ?_
  refine z_nwI hC (b := b) (w := 30) dX7_init_194 (zin1 (i := 52) rfl rfl) zmR_at rfl (by decide) (hX _) (hz 29) ⟨by decide, by decide⟩ ?_
  refine z_putOF hC hnm dX7_init_196 (zcut_lt (S := zmR b S) zmR_at (by decide)) zfX7_86 rfl rfl rfl rfl (ty := (.array .int)) (by decide +kernel) (fun _ => rfl) (fun _ => rfl) ?_
  refine z_aload_n hC dX7_init_199 rfl ?_
  refine z_bipush hC dX7_init_200 (v := nI 15) rfl ?_
  refine z_sipush hC dX7_init_202 (v := nI 901) rfl ?_
  refine z_mulI hC (b := b) (w := 31) dX7_init_205 (zin4 (i := 214) rfl rfl) (zin1 (i := 52) rfl rfl) zmR_at (fun i hi => zmR_at.trans (msh_most hi).2) (fun _ _ _ => (hX _ _)) (fun i _ => (by have h := hz (30 + i); rw [show 1 + (30 + i) = 31 + i by omega] at h; omega)) (by decide) (by decide) ⟨by decide, by decide⟩ ?_
  refine z_putOF hC hnm dX7_init_209 (zcut_lt (S := zmR b S) zmR_at (by decide)) zfX7_91 rfl rfl rfl rfl (ty := (.array (.array .int))) (by decide +kernel) (fun _ => rfl) (fun _ => rfl) ?_
  refine z_widen (k := 46) (n := 14335) (by decide) (by decide) ?_
  refine z_vret hC dX7_init_212 ?_
  exact hE.re (fun g A H h => zmd_same h)

end
