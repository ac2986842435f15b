/-! Road: the rest -/
def zcp {α : Type} (f g : Nat → α) (n : Nat) : Nat → α := fun j => if j < n then f j else g j
theorem va_cpy0 {α : Type} (f g : Nat → α) (n : Nat) : va_cpy f g 0 0 n = zcp f g n := by
  funext j
  unfold va_cpy zcp
  by_cases h : j < n
  · rw [if_pos ⟨Nat.zero_le _, by omega⟩, if_pos h]; congr 1; omega
  · rw [if_neg (by omega), if_neg h]
def zcpI (r r2 : Nat) (I : zI) : zI := fun b k j => if b = 3 ∧ k = r + 1 ∧ j = 2 then I 3 (r2 + 1) 2 else if b = 3 ∧ k = r + 3 ∧ j = 2 then I 3 (r2 + 3) 2 else if b = 3 ∧ k = r + 5 ∧ j = 2 then I 3 (r2 + 5) 2 else if b = 3 ∧ k = r ∧ 3 ≤ j ∧ j < 8 then I 3 r2 j else I b k j
def zcpX (r r2 : Nat) (X : zI) : zI := fun b k j => if b = 3 ∧ (k = r + 2 ∧ j < 70 ∨ k = r + 4 ∧ j < 24 ∨ k = r + 6 ∧ j < 18) then X 3 (r2 + (k - r)) j else X b k j
theorem zcpI_eq {r r2 : Nat} {I : zI} {k j : Nat} (hk : k ≤ 6) (h : (k = 1 ∨ k = 3 ∨ k = 5) ∧ j = 2 ∨ k = 0 ∧ 3 ≤ j ∧ j < 8) : zcpI r r2 I 3 (r + k) j = I 3 (r2 + k) j := by
  unfold zcpI
  rcases h with ⟨rfl | rfl | rfl, rfl⟩ | ⟨rfl, h1, h2⟩
  · rw [if_pos ⟨rfl, rfl, rfl⟩]
  · rw [if_neg (by omega), if_pos ⟨rfl, rfl, rfl⟩]
  · rw [if_neg (by omega), if_neg (by omega), if_pos ⟨rfl, rfl, rfl⟩]
  · rw [if_neg (by omega), if_neg (by omega), if_neg (by omega), if_pos ⟨rfl, rfl, h1, h2⟩]; rfl
theorem zcpI_ne {r r2 : Nat} {I : zI} {b k j : Nat} (h : ¬ (b = 3 ∧ ((k = r + 1 ∨ k = r + 3 ∨ k = r + 5) ∧ j = 2 ∨ k = r ∧ 3 ≤ j ∧ j < 8))) : zcpI r r2 I b k j = I b k j := by
  unfold zcpI
  rw [if_neg (by omega), if_neg (by omega), if_neg (by omega), if_neg (by omega)]
theorem zcpX_eq {r r2 : Nat} {X : zI} {k j : Nat} (h : k = 2 ∧ j < 70 ∨ k = 4 ∧ j < 24 ∨ k = 6 ∧ j < 18) : zcpX r r2 X 3 (r + k) j = X 3 (r2 + k) j := by
  unfold zcpX
  rw [if_pos (by omega), show r2 + (r + k - r) = r2 + k by omega]
theorem zcpI_nest {r r2 : Nat} {I : zI} : zcpI r r2 I = up3 (up3 (up3 (up3 (up3 (up3 (up3 (up3 I 3 (r + 1) 2 (I 3 (r2 + 1) 2)) 3 (r + 3) 2 (I 3 (r2 + 3) 2)) 3 (r + 5) 2 (I 3 (r2 + 5) 2)) 3 r 3 (I 3 r2 3)) 3 r 4 (I 3 r2 4)) 3 r 5 (I 3 r2 5)) 3 r 6 (I 3 r2 6)) 3 r 7 (I 3 r2 7) := by
  funext b k j
  unfold up3 zcpI
  by_cases hb : b = 3
  · subst hb
    by_cases hk : k = r
    · subst hk
      rw [if_neg (by omega), if_neg (by omega), if_neg (by omega)]
      by_cases hj : 3 ≤ j ∧ j < 8
      · rw [if_pos ⟨rfl, rfl, hj⟩]
        have : j = 3 ∨ j = 4 ∨ j = 5 ∨ j = 6 ∨ j = 7 := by omega
        rcases this with rfl | rfl | rfl | rfl | rfl <;> simp
      · rw [if_neg (by omega), if_neg (by omega), if_neg (by omega), if_neg (by omega), if_neg (by omega), if_neg (by omega), if_neg (by omega), if_neg (by omega), if_neg (by omega)]
    · rw [if_neg (c := 3 = 3 ∧ k = r ∧ j = 7) (by omega), if_neg (c := 3 = 3 ∧ k = r ∧ j = 6) (by omega), if_neg (c := 3 = 3 ∧ k = r ∧ j = 5) (by omega), if_neg (c := 3 = 3 ∧ k = r ∧ j = 4) (by omega), if_neg (c := 3 = 3 ∧ k = r ∧ j = 3) (by omega), if_neg (c := 3 = 3 ∧ k = r ∧ 3 ≤ j ∧ j < 8) (by omega)]
      by_cases h1 : k = r + 1 ∧ j = 2
      · rw [if_pos ⟨rfl, h1⟩, if_neg (by omega), if_neg (by omega), if_pos ⟨rfl, h1⟩]
      · rw [if_neg (c := 3 = 3 ∧ k = r + 1 ∧ j = 2) (by omega)]
        by_cases h3 : k = r + 3 ∧ j = 2
        · rw [if_pos ⟨rfl, h3⟩, if_neg (by omega), if_pos ⟨rfl, h3⟩]
        · rw [if_neg (c := 3 = 3 ∧ k = r + 3 ∧ j = 2) (by omega), if_neg (c := 3 = 3 ∧ k = r + 3 ∧ j = 2) (by omega), if_neg (c := 3 = 3 ∧ k = r + 1 ∧ j = 2) (by omega)]
  · simp [hb]
/-- the widths of a road's tables -/
def zRw (r : Nat) (I : zI) : Prop := I 3 (r + 1) 1 = nI 5 ∧ I 3 (r + 3) 1 = nI 3 ∧ I 3 (r + 5) 1 = nI 3
theorem zRm.rw {r : Nat} {R : RS} {I X : zI} (h : zRm r R I X) : zRw r I := ⟨h.1.1, h.2.1.1, h.2.2.1.1⟩
theorem zRw.frame {r : Nat} {I I' : zI} (h : zRw r I) (hI : ∀ k, r ≤ k → k < r + 7 → I' 3 k 1 = I 3 k 1) : zRw r I' := ⟨by rw [hI _ (by omega) (by omega)]; exact h.1, by rw [hI _ (by omega) (by omega)]; exact h.2.1, by rw [hI _ (by omega) (by omega)]; exact h.2.2⟩
theorem zRm_copy {r r2 : Nat} {R2 : RS} {I X : zI} (h : zRw r I) (h2 : zRm r2 R2 I X) (hR : ROK R2) : zRm r R2 (zcpI r r2 I) (zcpX r r2 X) := by
  obtain ⟨a1, b1, c1⟩ := h
  obtain ⟨⟨-, e2, e3⟩, ⟨-, f2, f3⟩, ⟨-, g2, g3⟩, k1, k2, k3, k4, k5⟩ := h2
  have h1 := hR.1
  have hs := hR.2.1
  have hc := hR.2.2.1
  refine ⟨⟨?_, ?_, fun i j hi hj => ?_⟩, ⟨?_, ?_, fun i j hi hj => ?_⟩, ⟨?_, ?_, fun i j hi hj => ?_⟩, ?_, ?_, ?_, ?_, ?_⟩
  · rw [zcpI_ne (by omega)]; exact a1
  · rw [zcpI_eq (by omega) (by omega)]; exact e2
  · rw [zcpX_eq (by omega)]; exact e3 i j hi hj
  · rw [zcpI_ne (by omega)]; exact b1
  · rw [zcpI_eq (by omega) (by omega)]; exact f2
  · rw [zcpX_eq (by omega)]; exact f3 i j hi hj
  · rw [zcpI_ne (by omega)]; exact c1
  · rw [zcpI_eq (by omega) (by omega)]; exact g2
  · rw [zcpX_eq (by omega)]; exact g3 i j hi hj
  all_goals exact (zcpI_eq (r := r) (r2 := r2) (k := 0) (by omega) (by omega)).trans (by assumption)
section
variable {ad : zA} {S : zSh} {I X : zI} {Y : zY} {sz : Nat} {r : Nat} {R : RS}
theorem c_ttake {k c k2 c2 n : Nat} (hT : S 3 k = some (tsh c)) (hc : S 3 c = some (.inl (0, n))) (hT2 : S 3 k2 = some (tsh c2)) (hc2 : S 3 c2 = some (.inl (0, n))) (h70 : n ≤ 70) : zC0 mX3_takeFrom 1 [zr 3 k, zr 3 k2] none ad S I X Y sz (up3 I 3 k 2 (I 3 k2 2)) (up2 X 3 c (zcp (X 3 c2) (X 3 c) n)) Y := by
  have h := c_X3_takeFrom (ad := ad) (I := I) (X := X) (Y := Y) (sz := sz) hT hc hT2 hc2 h70
  rwa [nI_0c, nI_clamp (by omega), va_cpy0] at h

theorem c_X1_takeFrom {r2 : Nat} (hr : zRd S r) (hr2 : zRd S r2) (hd : r + 7 ≤ r2 ∨ r2 + 7 ≤ r) : zC0 mX1_takeFrom 2 [zr 3 r, zr 3 r2] (none) ad S I X Y sz (zcpI r r2 I) (zcpX r r2 X) Y := by
  refine zgo (own := RX1) (k := 0) (by decide +kernel) rfl rfl rfl (fun C hC hnm hE => ?_)
  refine z_aload_n hC dX1_takeFrom_0 rfl ?_
  refine z_getR hC dX1_takeFrom_1 hr.1 zfX1_14 rfl ?_
  refine z_aload_n hC dX1_takeFrom_4 rfl ?_
  refine z_getR hC dX1_takeFrom_5 hr2.1 zfX1_14 rfl ?_
  refine zV0 hC dX1_takeFrom_8 zlX1_36 (c_ttake hr.2.1 hr.2.2.1 hr2.2.1 hr2.2.2.1 (by decide)) hr.2.1 rfl rfl rfl rfl rfl rfl ?_
  refine z_aload_n hC dX1_takeFrom_11 rfl ?_
  refine z_getR hC dX1_takeFrom_12 hr.1 zfX1_20 rfl ?_
  refine z_aload_n hC dX1_takeFrom_15 rfl ?_
  refine z_getR hC dX1_takeFrom_16 hr2.1 zfX1_20 rfl ?_
  refine zV0 hC dX1_takeFrom_19 zlX1_36 (c_ttake hr.2.2.2.1 hr.2.2.2.2.1 hr2.2.2.2.1 hr2.2.2.2.2.1 (by decide)) hr.2.2.2.1 rfl rfl rfl rfl rfl rfl ?_
  rw [up3_ne (f := I) (b := 3) (k := r + 1) (j := 2) (b' := 3) (k' := r2 + 3) (j' := 2) (by omega)]
  refine z_aload_n hC dX1_takeFrom_22 rfl ?_
  refine z_getR hC dX1_takeFrom_23 hr.1 zfX1_23 rfl ?_
  refine z_aload_n hC dX1_takeFrom_26 rfl ?_
  refine z_getR hC dX1_takeFrom_27 hr2.1 zfX1_23 rfl ?_
  refine zV0 hC dX1_takeFrom_30 zlX1_36 (c_ttake hr.2.2.2.2.2.1 hr.2.2.2.2.2.2 hr2.2.2.2.2.2.1 hr2.2.2.2.2.2.2 (by decide)) hr.2.2.2.2.2.1 rfl rfl rfl rfl rfl rfl ?_
  repeat rw [up3_ne (b' := 3) (k' := r2 + 5) (j' := 2) (by omega)]
  refine z_aload_n hC dX1_takeFrom_33 rfl ?_
  refine z_aload_n hC dX1_takeFrom_34 rfl ?_
  refine z_getI hC dX1_takeFrom_35 hr2.1 zfX1_26 rfl ?_
  repeat rw [up3_ne (b' := 3) (k' := r2) (j' := 3) (by omega)]
  refine z_putI hC dX1_takeFrom_38 hr.1 zfX1_26 rfl rfl rfl rfl ?_
  refine z_aload_n hC dX1_takeFrom_41 rfl ?_
  refine z_aload_n hC dX1_takeFrom_42 rfl ?_
  refine z_getI hC dX1_takeFrom_43 hr2.1 zfX1_40 rfl ?_
  repeat rw [up3_ne (b' := 3) (k' := r2) (j' := 4) (by omega)]
  refine z_putI hC dX1_takeFrom_46 hr.1 zfX1_40 rfl rfl rfl rfl ?_
  refine z_aload_n hC dX1_takeFrom_49 rfl ?_
  refine z_aload_n hC dX1_takeFrom_50 rfl ?_
  refine z_getI hC dX1_takeFrom_51 hr2.1 zfX1_43 rfl ?_
  repeat rw [up3_ne (b' := 3) (k' := r2) (j' := 5) (by omega)]
  refine z_putI hC dX1_takeFrom_54 hr.1 zfX1_43 rfl rfl rfl rfl ?_
  refine z_aload_n hC dX1_takeFrom_57 rfl ?_
  refine z_aload_n hC dX1_takeFrom_58 rfl ?_
  refine z_getI hC dX1_takeFrom_59 hr2.1 zfX1_30 rfl ?_
  repeat rw [up3_ne (b' := 3) (k' := r2) (j' := 6) (by omega)]
  refine z_putI hC dX1_takeFrom_62 hr.1 zfX1_30 rfl rfl rfl rfl ?_
  refine z_aload_n hC dX1_takeFrom_65 rfl ?_
  refine z_aload_n hC dX1_takeFrom_66 rfl ?_
  refine z_getI hC dX1_takeFrom_67 hr2.1 zfX1_33 rfl ?_
  repeat rw [up3_ne (b' := 3) (k' := r2) (j' := 7) (by omega)]
  refine z_putI hC dX1_takeFrom_70 hr.1 zfX1_33 rfl rfl rfl rfl ?_
  refine z_vret hC dX1_takeFrom_73 ?_
  exact hE.to (by rfl) zcpI_nest (by funext b k j; simp only [up2, zcpX]; grind [zcp]) rfl

theorem zRm_frame7 {r : Nat} {R : RS} {I X : zI} {x : Int32} (h : zRm r R I X) : zRm r (rseed R x) (up3 I 3 r 7 x) X := zRm_seed h
theorem c_X1_lookInTruthA (hr : zRd S r) (hm : zRm r R I X) (hR : ROK R) {b l : Nat} (hb : b < R.1 0) (hl : l ≤ 3) (hL : I 3 r 6 = nI b) (hq : rngN (nextS (I 3 r 7)) % 100 < seenN l) : zC0 mX1_lookInTruth 5 [zr 3 r, zi (nI b), zi (nI l)] (some (zi (nI 1))) ad S I X Y sz (up3 I 3 r 7 (nextS (I 3 r 7))) X Y := by
  refine zgo (own := RX1) (k := 0) (by decide +kernel) rfl rfl rfl (fun C hC hnm hE => ?_)
  have hcc : ∀ s : Int32, zC0 mX1_lookInVain 3 [zr 3 r, zi (nI b), zi (nI l)] none ad S (up3 I 3 r 7 s) X Y sz (up3 I 3 r 7 s) (up3 X 3 (r + 2) (b * 5 + 4) (nI (missN (R.2.1 4 b) l))) Y := fun s => c_X1_lookInVain (R := rseed R s) hr (zRm_seed hm) hR hb hl
  refine z_aload_n hC dX1_lookInTruth_0 rfl ?_
  refine z_getI hC dX1_lookInTruth_1 hr.1 zfX1_30 rfl ?_
  refine z_iload_n hC dX1_lookInTruth_4 rfl ?_
  refine z_icmp_ne hC dX1_lookInTruth_5 (tgt := 23) (by decide) (fun c5 => ?_) (fun c5 => ?_)
  · exfalso; exact c5 hL
  refine z_aload_n hC dX1_lookInTruth_8 rfl ?_
  refine z_bipush hC dX1_lookInTruth_9 (v := nI 100) rfl ?_
  refine zVv hC dX1_lookInTruth_11 zlX1_106 (c_X1_draw hr (by decide) (by decide)) hr.1 rfl rfl rfl rfl rfl rfl ?_
  refine z_iload_n hC dX1_lookInTruth_14 rfl ?_
  refine zNv hC dX1_lookInTruth_15 zlX1_110 (c_X6_seenBy hl) rfl rfl rfl rfl ?_
  refine z_nicmp_ge hC dX1_lookInTruth_18 (tgt := 23) (by decide) (by omega) (by have := seenN_le l; omega) (fun c18 => ?_) (fun c18 => ?_)
  · exfalso; omega
  refine z_iconst hC dX1_lookInTruth_21 (v := nI 1) rfl ?_
  refine z_iret hC dX1_lookInTruth_22 ?_
  exact hE.to (by rfl) rfl rfl rfl

theorem c_X1_lookInTruthB (hr : zRd S r) (hm : zRm r R I X) (hR : ROK R) {b l : Nat} (hb : b < R.1 0) (hl : l ≤ 3) (hL : I 3 r 6 = nI b) (hq : ¬ rngN (nextS (I 3 r 7)) % 100 < seenN l) : zC0 mX1_lookInTruth 5 [zr 3 r, zi (nI b), zi (nI l)] (some (zi (nI 0))) ad S I X Y sz (up3 I 3 r 7 (nextS (I 3 r 7))) (up3 X 3 (r + 2) (b * 5 + 4) (nI (missN (R.2.1 4 b) l))) Y := by
  refine zgo (own := RX1) (k := 0) (by decide +kernel) rfl rfl rfl (fun C hC hnm hE => ?_)
  have hcc : ∀ s : Int32, zC0 mX1_lookInVain 3 [zr 3 r, zi (nI b), zi (nI l)] none ad S (up3 I 3 r 7 s) X Y sz (up3 I 3 r 7 s) (up3 X 3 (r + 2) (b * 5 + 4) (nI (missN (R.2.1 4 b) l))) Y := fun s => c_X1_lookInVain (R := rseed R s) hr (zRm_seed hm) hR hb hl
  refine z_aload_n hC dX1_lookInTruth_0 rfl ?_
  refine z_getI hC dX1_lookInTruth_1 hr.1 zfX1_30 rfl ?_
  refine z_iload_n hC dX1_lookInTruth_4 rfl ?_
  refine z_icmp_ne hC dX1_lookInTruth_5 (tgt := 23) (by decide) (fun c5 => ?_) (fun c5 => ?_)
  · exfalso; exact c5 hL
  refine z_aload_n hC dX1_lookInTruth_8 rfl ?_
  refine z_bipush hC dX1_lookInTruth_9 (v := nI 100) rfl ?_
  refine zVv hC dX1_lookInTruth_11 zlX1_106 (c_X1_draw hr (by decide) (by decide)) hr.1 rfl rfl rfl rfl rfl rfl ?_
  refine z_iload_n hC dX1_lookInTruth_14 rfl ?_
  refine zNv hC dX1_lookInTruth_15 zlX1_110 (c_X6_seenBy hl) rfl rfl rfl rfl ?_
  refine z_nicmp_ge hC dX1_lookInTruth_18 (tgt := 23) (by decide) (by omega) (by have := seenN_le l; omega) (fun c18 => ?_) (fun c18 => ?_)
  rotate_left
  · exfalso; omega
  refine z_aload_n hC dX1_lookInTruth_23 rfl ?_
  refine z_iload_n hC dX1_lookInTruth_24 rfl ?_
  refine z_iload_n hC dX1_lookInTruth_25 rfl ?_
  refine zV0 hC dX1_lookInTruth_26 zlX1_113 (hcc _) hr.1 rfl rfl rfl rfl rfl rfl ?_
  refine z_iconst hC dX1_lookInTruth_29 (v := nI 0) rfl ?_
  refine z_iret hC dX1_lookInTruth_30 ?_
  exact hE.to (by rfl) rfl rfl rfl

theorem c_X1_lookInTruthC (hr : zRd S r) (hm : zRm r R I X) (hR : ROK R) {b l : Nat} (hb : b < R.1 0) (hl : l ≤ 3) (hL : ¬ I 3 r 6 = nI b) : zC0 mX1_lookInTruth 5 [zr 3 r, zi (nI b), zi (nI l)] (some (zi (nI 0))) ad S I X Y sz I (up3 X 3 (r + 2) (b * 5 + 4) (nI (missN (R.2.1 4 b) l))) Y := by
  refine zgo (own := RX1) (k := 0) (by decide +kernel) rfl rfl rfl (fun C hC hnm hE => ?_)
  refine z_aload_n hC dX1_lookInTruth_0 rfl ?_
  refine z_getI hC dX1_lookInTruth_1 hr.1 zfX1_30 rfl ?_
  refine z_iload_n hC dX1_lookInTruth_4 rfl ?_
  refine z_icmp_ne hC dX1_lookInTruth_5 (tgt := 23) (by decide) (fun c5 => ?_) (fun c5 => ?_)
  rotate_left
  · exact absurd c5 hL
  refine z_aload_n hC dX1_lookInTruth_23 rfl ?_
  refine z_iload_n hC dX1_lookInTruth_24 rfl ?_
  refine z_iload_n hC dX1_lookInTruth_25 rfl ?_
  refine zV0 hC dX1_lookInTruth_26 zlX1_113 (c_X1_lookInVain hr hm hR hb hl) hr.1 rfl rfl rfl rfl rfl rfl ?_
  refine z_iconst hC dX1_lookInTruth_29 (v := nI 0) rfl ?_
  refine z_iret hC dX1_lookInTruth_30 ?_
  exact hE.to (by rfl) rfl rfl rfl

theorem c_X1_numbersOf {q : Nat} (hq : q < 8) : zC0 mX1_numbersOf 0 [zi (nI q)] (some (zi ((zAl 0).getD q 0))) ad S I X Y sz I X Y := by
  refine zgo (own := RX1) (k := 0) (by decide +kernel) rfl rfl rfl (fun C hC hnm hE => ?_)
  refine z_iload_n hC dX1_numbersOf_0 rfl ?_
  refine z_nif_lt hC dX1_numbersOf_1 ⟨20, by decide⟩ (by omega) ?_
  refine z_iload_n hC dX1_numbersOf_4 rfl ?_
  refine z_getA hC (j := 0) (by decide) (zin3 (i := 28) rfl rfl) dX1_numbersOf_5 ?_
  refine z_lenA hC (j := 0) (v := nI 8) (by decide) rfl dX1_numbersOf_8 ?_
  refine z_nicmp_ge hC dX1_numbersOf_9 (tgt := 20) (by decide) (by omega) (by omega) (fun c9 => ?_) (fun c9 => ?_)
  · exfalso; omega
  refine z_getA hC (j := 0) (by decide) (zin3 (i := 28) rfl rfl) dX1_numbersOf_12 ?_
  refine z_iload_n hC dX1_numbersOf_15 rfl ?_
  refine z_naldA hC (by decide) (by show _ < [8, 32, 32].getD 0 0; simp; omega) dX1_numbersOf_16 ?_
  refine z_goto hC dX1_numbersOf_17 (tgt := 21) (by decide) ?_
  refine z_iret hC dX1_numbersOf_21 ?_
  exact hE.to (by rfl) rfl rfl rfl

theorem c_X1_hasRoomFor (hr : zRd S r) (hm : zRm r R I X) (hR : ROK R) {q : Nat} (hq : q < 8) : zC0 mX1_hasRoomFor 1 [zr 3 r, zi (nI q)] (some (zi (zb ((q = 0 → R.1 0 < 14) ∧ (q = 4 ∨ q = 5 → R.1 1 < 8) ∧ (q = 6 → R.1 2 < 6)) inferInstance))) ad S I X Y sz I X Y := by
  refine zgo (own := RX1) (k := 0) (by decide +kernel) rfl rfl rfl (fun C hC hnm hE => ?_)
  have hn := hR.1
  have hs := hR.2.1
  have hc := hR.2.2.1
  refine z_iload_n hC dX1_hasRoomFor_0 rfl ?_
  by_cases s1_0 : q = 0
  · refine z_tabK hC dX1_hasRoomFor_1 (v := nI 0) (by rw [s1_0]) rfl rfl (tgt := 44) (by decide) ?_
    refine z_aload_n hC dX1_hasRoomFor_44 rfl ?_
    refine z_getR hC dX1_hasRoomFor_45 hr.1 zfX1_14 rfl ?_
    refine zVv hC dX1_hasRoomFor_48 zlX1_59 (c_bfull hr hm hR) hr.2.1 rfl rfl rfl rfl rfl rfl ?_
    refine z_ifb_ne hC dX1_hasRoomFor_51 (tgt := 58) (by decide) (fun c51 => ?_) (fun c51 => ?_)
    · skip
      refine z_iconst hC dX1_hasRoomFor_58 (v := nI 0) rfl ?_
      refine z_zret hC dX1_hasRoomFor_59 rfl ?_
      exact hE.to (by first | exact zbT (by omega) | exact zbF (by omega)) rfl rfl rfl
    refine z_iconst hC dX1_hasRoomFor_54 (v := nI 1) rfl ?_
    refine z_goto hC dX1_hasRoomFor_55 (tgt := 59) (by decide) ?_
    refine z_zret hC dX1_hasRoomFor_59 rfl ?_
    exact hE.to (by first | exact zbT (by omega) | exact zbF (by omega)) rfl rfl rfl
  by_cases s1_1 : q = 1
  · refine z_tabK hC dX1_hasRoomFor_1 (v := nI 1) (by rw [s1_1]) rfl rfl (tgt := 92) (by decide) ?_
    refine z_iconst hC dX1_hasRoomFor_92 (v := nI 1) rfl ?_
    refine z_zret hC dX1_hasRoomFor_93 rfl ?_
    exact hE.to (by first | exact zbT (by omega) | exact zbF (by omega)) rfl rfl rfl
  by_cases s1_2 : q = 2
  · refine z_tabK hC dX1_hasRoomFor_1 (v := nI 2) (by rw [s1_2]) rfl rfl (tgt := 92) (by decide) ?_
    refine z_iconst hC dX1_hasRoomFor_92 (v := nI 1) rfl ?_
    refine z_zret hC dX1_hasRoomFor_93 rfl ?_
    exact hE.to (by first | exact zbT (by omega) | exact zbF (by omega)) rfl rfl rfl
  by_cases s1_3 : q = 3
  · refine z_tabK hC dX1_hasRoomFor_1 (v := nI 3) (by rw [s1_3]) rfl rfl (tgt := 92) (by decide) ?_
    refine z_iconst hC dX1_hasRoomFor_92 (v := nI 1) rfl ?_
    refine z_zret hC dX1_hasRoomFor_93 rfl ?_
    exact hE.to (by first | exact zbT (by omega) | exact zbF (by omega)) rfl rfl rfl
  by_cases s1_4 : q = 4
  · refine z_tabK hC dX1_hasRoomFor_1 (v := nI 4) (by rw [s1_4]) rfl rfl (tgt := 60) (by decide) ?_
    refine z_aload_n hC dX1_hasRoomFor_60 rfl ?_
    refine z_getR hC dX1_hasRoomFor_61 hr.1 zfX1_20 rfl ?_
    refine zVv hC dX1_hasRoomFor_64 zlX1_59 (c_sfull hr hm hR) hr.2.2.2.1 rfl rfl rfl rfl rfl rfl ?_
    refine z_ifb_ne hC dX1_hasRoomFor_67 (tgt := 74) (by decide) (fun c67 => ?_) (fun c67 => ?_)
    · skip
      refine z_iconst hC dX1_hasRoomFor_74 (v := nI 0) rfl ?_
      refine z_zret hC dX1_hasRoomFor_75 rfl ?_
      exact hE.to (by first | exact zbT (by omega) | exact zbF (by omega)) rfl rfl rfl
    refine z_iconst hC dX1_hasRoomFor_70 (v := nI 1) rfl ?_
    refine z_goto hC dX1_hasRoomFor_71 (tgt := 75) (by decide) ?_
    refine z_zret hC dX1_hasRoomFor_75 rfl ?_
    exact hE.to (by first | exact zbT (by omega) | exact zbF (by omega)) rfl rfl rfl
  by_cases s1_5 : q = 5
  · refine z_tabK hC dX1_hasRoomFor_1 (v := nI 5) (by rw [s1_5]) rfl rfl (tgt := 60) (by decide) ?_
    refine z_aload_n hC dX1_hasRoomFor_60 rfl ?_
    refine z_getR hC dX1_hasRoomFor_61 hr.1 zfX1_20 rfl ?_
    refine zVv hC dX1_hasRoomFor_64 zlX1_59 (c_sfull hr hm hR) hr.2.2.2.1 rfl rfl rfl rfl rfl rfl ?_
    refine z_ifb_ne hC dX1_hasRoomFor_67 (tgt := 74) (by decide) (fun c67 => ?_) (fun c67 => ?_)
    · skip
      refine z_iconst hC dX1_hasRoomFor_74 (v := nI 0) rfl ?_
      refine z_zret hC dX1_hasRoomFor_75 rfl ?_
      exact hE.to (by first | exact zbT (by omega) | exact zbF (by omega)) rfl rfl rfl
    refine z_iconst hC dX1_hasRoomFor_70 (v := nI 1) rfl ?_
    refine z_goto hC dX1_hasRoomFor_71 (tgt := 75) (by decide) ?_
    refine z_zret hC dX1_hasRoomFor_75 rfl ?_
    exact hE.to (by first | exact zbT (by omega) | exact zbF (by omega)) rfl rfl rfl
  by_cases s1_6 : q = 6
  · refine z_tabK hC dX1_hasRoomFor_1 (v := nI 6) (by rw [s1_6]) rfl rfl (tgt := 76) (by decide) ?_
    refine z_aload_n hC dX1_hasRoomFor_76 rfl ?_
    refine z_getR hC dX1_hasRoomFor_77 hr.1 zfX1_23 rfl ?_
    refine zVv hC dX1_hasRoomFor_80 zlX1_59 (c_cfull hr hm hR) hr.2.2.2.2.2.1 rfl rfl rfl rfl rfl rfl ?_
    refine z_ifb_ne hC dX1_hasRoomFor_83 (tgt := 90) (by decide) (fun c83 => ?_) (fun c83 => ?_)
    · skip
      refine z_iconst hC dX1_hasRoomFor_90 (v := nI 0) rfl ?_
      refine z_zret hC dX1_hasRoomFor_91 rfl ?_
      exact hE.to (by first | exact zbT (by omega) | exact zbF (by omega)) rfl rfl rfl
    refine z_iconst hC dX1_hasRoomFor_86 (v := nI 1) rfl ?_
    refine z_goto hC dX1_hasRoomFor_87 (tgt := 91) (by decide) ?_
    refine z_zret hC dX1_hasRoomFor_91 rfl ?_
    exact hE.to (by first | exact zbT (by omega) | exact zbF (by omega)) rfl rfl rfl
  refine z_tableOut hC dX1_hasRoomFor_1 (by rw [nI_toInt (by omega)]; omega) (tgt := 92) (by decide) ?_
  refine z_iconst hC dX1_hasRoomFor_92 (v := nI 1) rfl ?_
  refine z_zret hC dX1_hasRoomFor_93 rfl ?_
  exact hE.to (by first | exact zbT (by omega) | exact zbF (by omega)) rfl rfl rfl

theorem c_X1_takes (hr : zRd S r) (hm : zRm r R I X) (hR : ROK R) {q p : Nat} {x : Int32} (hq : q < 8) (hp : p < 4) : zC0 mX1_takes 0 [zr 3 r, zi (nI q), zi (nI p), zi x] (some (zi (zb ((zAl 1).getD (4 * q + p) 0 ≤ x ∧ x ≤ (if (zAl 2).getD (4 * q + p) 0 = -1 then nI (R.1 0) - nI 1 else (zAl 2).getD (4 * q + p) 0)) inferInstance))) ad S I X Y sz I X Y := by
  refine zgo (own := RX1) (k := 2) (by decide +kernel) rfl rfl rfl (fun C hC hnm hE => ?_)
  refine z_iconst hC dX1_takes_0 (v := nI 4) rfl ?_
  refine z_iload_n hC dX1_takes_1 rfl ?_
  refine z_nmul hC dX1_takes_2  ?_
  refine z_iload_n hC dX1_takes_3 rfl ?_
  refine z_nadd hC dX1_takes_4  ?_
  refine z_istore hC dX1_takes_5 (lo2 := [_, _, _, _, _, _]) (Nat.le_of_ble_eq_true rfl) rfl rfl ?_
  refine z_iload hC dX1_takes_7 rfl ?_
  refine z_nif_lt hC dX1_takes_9 ⟨30, by decide⟩ (by omega) ?_
  refine z_iload hC dX1_takes_12 rfl ?_
  refine z_getA hC (j := 1) (by decide) (zin2 (i := 98) rfl rfl) dX1_takes_14 ?_
  refine z_lenA hC (j := 1) (v := nI 32) (by decide) rfl dX1_takes_17 ?_
  refine z_nicmp_ge hC dX1_takes_18 (tgt := 30) (by decide) (by omega) (by omega) (fun c18 => ?_) (fun c18 => ?_)
  · exfalso; omega
  refine z_iload hC dX1_takes_21 rfl ?_
  refine z_getA hC (j := 2) (by decide) (zin2 (i := 100) rfl rfl) dX1_takes_23 ?_
  refine z_lenA hC (j := 2) (v := nI 32) (by decide) rfl dX1_takes_26 ?_
  refine z_nicmp_lt hC dX1_takes_27 (tgt := 32) (by decide) (by omega) (by omega) (fun c27 => ?_) (fun c27 => ?_)
  rotate_left
  · exfalso; omega
  refine z_getA hC (j := 2) (by decide) (zin2 (i := 100) rfl rfl) dX1_takes_32 ?_
  refine z_iload hC dX1_takes_35 rfl ?_
  refine z_naldA hC (by decide) (by show _ < [8, 32, 32].getD 2 0; simp; omega) dX1_takes_37 ?_
  refine z_iconst hC dX1_takes_38 (v := -1) rfl ?_
  refine z_icmp_ne hC dX1_takes_39 (tgt := 54) (by decide) (fun c39 => ?_) (fun c39 => ?_)
  · skip
    refine z_getA hC (j := 2) (by decide) (zin2 (i := 100) rfl rfl) dX1_takes_54 ?_
    refine z_iload hC dX1_takes_57 rfl ?_
    refine z_naldA hC (by decide) (by show _ < [8, 32, 32].getD 2 0; simp; omega) dX1_takes_59 ?_
    refine z_istore hC dX1_takes_60 (lo2 := [_, _, _, _, _, _]) (Nat.le_of_ble_eq_true rfl) rfl rfl ?_
    refine z_iload_n hC dX1_takes_62 rfl ?_
    refine z_getA hC (j := 1) (by decide) (zin2 (i := 98) rfl rfl) dX1_takes_63 ?_
    refine z_iload hC dX1_takes_66 rfl ?_
    refine z_naldA hC (by decide) (by show _ < [8, 32, 32].getD 1 0; simp; omega) dX1_takes_68 ?_
    refine z_icmp_lt hC dX1_takes_69 (tgt := 82) (by decide) (fun c69 => ?_) (fun c69 => ?_)
    · skip
      refine z_iconst hC dX1_takes_82 (v := nI 0) rfl ?_
      refine z_zret hC dX1_takes_83 rfl ?_
      exact hE.to (by first | exact zbT (by grind) | exact zbF (by grind)) rfl rfl rfl
    refine z_iload_n hC dX1_takes_72 rfl ?_
    refine z_iload hC dX1_takes_73 rfl ?_
    refine z_icmp_gt hC dX1_takes_75 (tgt := 82) (by decide) (fun c75 => ?_) (fun c75 => ?_)
    · skip
      refine z_iconst hC dX1_takes_82 (v := nI 0) rfl ?_
      refine z_zret hC dX1_takes_83 rfl ?_
      exact hE.to (by first | exact zbT (by grind) | exact zbF (by grind)) rfl rfl rfl
    refine z_iconst hC dX1_takes_78 (v := nI 1) rfl ?_
    refine z_goto hC dX1_takes_79 (tgt := 83) (by decide) ?_
    refine z_zret hC dX1_takes_83 rfl ?_
    exact hE.to (by first | exact zbT (by grind) | exact zbF (by grind)) rfl rfl rfl
  refine z_aload_n hC dX1_takes_42 rfl ?_
  refine z_getR hC dX1_takes_43 hr.1 zfX1_14 rfl ?_
  refine z_getN hC dX1_takes_46 hr.2.1 zfX1_56 rfl hm.1.2.1 ?_
  refine z_iconst hC dX1_takes_49 (v := nI 1) rfl ?_
  refine z_isub hC dX1_takes_50  ?_
  refine z_goto hC dX1_takes_51 (tgt := 60) (by decide) ?_
  refine z_istore hC dX1_takes_60 (lo2 := [_, _, _, _, _, _]) (Nat.le_of_ble_eq_true rfl) rfl rfl ?_
  refine z_iload_n hC dX1_takes_62 rfl ?_
  refine z_getA hC (j := 1) (by decide) (zin2 (i := 98) rfl rfl) dX1_takes_63 ?_
  refine z_iload hC dX1_takes_66 rfl ?_
  refine z_naldA hC (by decide) (by show _ < [8, 32, 32].getD 1 0; simp; omega) dX1_takes_68 ?_
  refine z_icmp_lt hC dX1_takes_69 (tgt := 82) (by decide) (fun c69 => ?_) (fun c69 => ?_)
  · skip
    refine z_iconst hC dX1_takes_82 (v := nI 0) rfl ?_
    refine z_zret hC dX1_takes_83 rfl ?_
    exact hE.to (by first | exact zbT (by grind) | exact zbF (by grind)) rfl rfl rfl
  refine z_iload_n hC dX1_takes_72 rfl ?_
  refine z_iload hC dX1_takes_73 rfl ?_
  refine z_icmp_gt hC dX1_takes_75 (tgt := 82) (by decide) (fun c75 => ?_) (fun c75 => ?_)
  · skip
    refine z_iconst hC dX1_takes_82 (v := nI 0) rfl ?_
    refine z_zret hC dX1_takes_83 rfl ?_
    exact hE.to (by first | exact zbT (by grind) | exact zbF (by grind)) rfl rfl rfl
  refine z_iconst hC dX1_takes_78 (v := nI 1) rfl ?_
  refine z_goto hC dX1_takes_79 (tgt := 83) (by decide) ?_
  refine z_zret hC dX1_takes_83 rfl ?_
  exact hE.to (by first | exact zbT (by grind) | exact zbF (by grind)) rfl rfl rfl

theorem c_X1_addBend (hr : zRd S r) (hm : zRm r R I X) (hR : ROK R) {k a y q : Nat} (hf : R.1 0 < 14) : zC0 mX1_addBend 3 [zr 3 r, zi (nI k), zi (nI a), zi (nI y), zi (nI q)] (some (zi (nI (R.1 0)))) ad S I X Y sz (up3 I 3 (r + 1) 2 (nI (R.1 0 + 1))) (zaddB r (R.1 0) X k a y q) Y := by
  refine zgo (own := RX1) (k := 1) (by decide +kernel) rfl rfl rfl (fun C hC hnm hE => ?_)
  have hw : (up3 I 3 (r + 1) 2 (nI (R.1 0 + 1))) 3 (r + 1) 1 = nI 5 := by rw [up3_ne (by omega)]; exact hm.1.1
  have hn := up3_eq I 3 (r + 1) 2 (nI (R.1 0 + 1))
  refine z_aload_n hC dX1_addBend_0 rfl ?_
  refine z_getR hC dX1_addBend_1 hr.1 zfX1_14 rfl ?_
  refine zVv hC dX1_addBend_4 zlX1_63 (c_X3_grow hr.2.1 hr.2.2.1 hm.1.1 hm.1.2.1 (by omega) (by decide) hR.1 (by decide) (by omega)) hr.2.1 rfl rfl rfl rfl rfl rfl ?_
  refine z_istore hC dX1_addBend_7 (lo2 := [_, _, _, _, _, _]) (Nat.le_of_ble_eq_true rfl) rfl rfl ?_
  refine z_aload_n hC dX1_addBend_9 rfl ?_
  refine z_getR hC dX1_addBend_10 hr.1 zfX1_14 rfl ?_
  refine z_iload hC dX1_addBend_13 rfl ?_
  refine z_iconst hC dX1_addBend_15 (v := nI 0) rfl ?_
  refine z_iload_n hC dX1_addBend_16 rfl ?_
  refine zV0 hC dX1_addBend_17 zlX1_67 (c_bput hr hR hw hn (by omega) (Nat.lt_succ_self _) (j := 0) (by decide)) hr.2.1 rfl rfl rfl rfl rfl rfl ?_
  refine z_aload_n hC dX1_addBend_20 rfl ?_
  refine z_getR hC dX1_addBend_21 hr.1 zfX1_14 rfl ?_
  refine z_iload hC dX1_addBend_24 rfl ?_
  refine z_iconst hC dX1_addBend_26 (v := nI 1) rfl ?_
  refine z_iload_n hC dX1_addBend_27 rfl ?_
  refine zV0 hC dX1_addBend_28 zlX1_67 (c_bput hr hR hw hn (by omega) (Nat.lt_succ_self _) (j := 1) (by decide)) hr.2.1 rfl rfl rfl rfl rfl rfl ?_
  refine z_aload_n hC dX1_addBend_31 rfl ?_
  refine z_getR hC dX1_addBend_32 hr.1 zfX1_14 rfl ?_
  refine z_iload hC dX1_addBend_35 rfl ?_
  refine z_iconst hC dX1_addBend_37 (v := nI 2) rfl ?_
  refine z_iload_n hC dX1_addBend_38 rfl ?_
  refine zV0 hC dX1_addBend_39 zlX1_67 (c_bput hr hR hw hn (by omega) (Nat.lt_succ_self _) (j := 2) (by decide)) hr.2.1 rfl rfl rfl rfl rfl rfl ?_
  refine z_aload_n hC dX1_addBend_42 rfl ?_
  refine z_getR hC dX1_addBend_43 hr.1 zfX1_14 rfl ?_
  refine z_iload hC dX1_addBend_46 rfl ?_
  refine z_iconst hC dX1_addBend_48 (v := nI 3) rfl ?_
  refine z_iload hC dX1_addBend_49 rfl ?_
  refine zV0 hC dX1_addBend_51 zlX1_67 (c_bput hr hR hw hn (by omega) (Nat.lt_succ_self _) (j := 3) (by decide)) hr.2.1 rfl rfl rfl rfl rfl rfl ?_
  refine z_aload_n hC dX1_addBend_54 rfl ?_
  refine z_getR hC dX1_addBend_55 hr.1 zfX1_14 rfl ?_
  refine z_iload hC dX1_addBend_58 rfl ?_
  refine z_iconst hC dX1_addBend_60 (v := nI 4) rfl ?_
  refine z_bipush hC dX1_addBend_61 (v := nI 100) rfl ?_
  refine zV0 hC dX1_addBend_63 zlX1_67 (c_bput hr hR hw hn (by omega) (Nat.lt_succ_self _) (j := 4) (by decide)) hr.2.1 rfl rfl rfl rfl rfl rfl ?_
  refine z_iload hC dX1_addBend_66 rfl ?_
  refine z_iret hC dX1_addBend_68 ?_
  exact hE.to (by rfl) rfl rfl rfl

theorem c_X1_addSign (hr : zRd S r) (hm : zRm r R I X) (hR : ROK R) {b q s : Nat} (hq : q ≤ 1) (hf : R.1 1 < 8) : zC0 mX1_addSign 3 [zr 3 r, zi (nI b), zi (nI q), zi (nI s)] (none) ad S I X Y sz (up3 I 3 (r + 3) 2 (nI (R.1 1 + 1))) (zadd3 (r + 4) (R.1 1) X b q s) Y := by
  refine zgo (own := RX1) (k := 1) (by decide +kernel) rfl rfl rfl (fun C hC hnm hE => ?_)
  have hw : (up3 I 3 (r + 3) 2 (nI (R.1 1 + 1))) 3 (r + 3) 1 = nI 3 := by rw [up3_ne (by omega)]; exact hm.2.1.1
  have hn := up3_eq I 3 (r + 3) 2 (nI (R.1 1 + 1))
  refine z_aload_n hC dX1_addSign_0 rfl ?_
  refine z_getR hC dX1_addSign_1 hr.1 zfX1_20 rfl ?_
  refine zVv hC dX1_addSign_4 zlX1_63 (c_X3_grow hr.2.2.2.1 hr.2.2.2.2.1 hm.2.1.1 hm.2.1.2.1 (by omega) (by decide) (by omega) (by decide) (by omega)) hr.2.2.2.1 rfl rfl rfl rfl rfl rfl ?_
  refine z_istore hC dX1_addSign_7 (lo2 := [_, _, _, _, _]) (Nat.le_of_ble_eq_true rfl) rfl rfl ?_
  refine z_aload_n hC dX1_addSign_9 rfl ?_
  refine z_getR hC dX1_addSign_10 hr.1 zfX1_20 rfl ?_
  refine z_iload hC dX1_addSign_13 rfl ?_
  refine z_iconst hC dX1_addSign_15 (v := nI 0) rfl ?_
  refine z_iload_n hC dX1_addSign_16 rfl ?_
  refine zV0 hC dX1_addSign_17 zlX1_67 (c_sput hr hR hw hn (by omega) (Nat.lt_succ_self _) (j := 0) (by decide)) hr.2.2.2.1 rfl rfl rfl rfl rfl rfl ?_
  refine z_aload_n hC dX1_addSign_20 rfl ?_
  refine z_getR hC dX1_addSign_21 hr.1 zfX1_20 rfl ?_
  refine z_iload hC dX1_addSign_24 rfl ?_
  refine z_iconst hC dX1_addSign_26 (v := nI 1) rfl ?_
  refine z_iload_n hC dX1_addSign_27 rfl ?_
  refine z_nif_eq hC dX1_addSign_28 (tgt := 35) (by decide) (by omega) (fun c28 => ?_) (fun c28 => ?_)
  · skip
    refine z_iconst hC dX1_addSign_35 (v := nI 0) rfl ?_
    refine zV0 hC dX1_addSign_36 zlX1_67 (c_sput hr hR hw hn (by omega) (Nat.lt_succ_self _) (j := 1) (by decide)) hr.2.2.2.1 rfl rfl rfl rfl rfl rfl ?_
    refine z_aload_n hC dX1_addSign_39 rfl ?_
    refine z_getR hC dX1_addSign_40 hr.1 zfX1_20 rfl ?_
    refine z_iload hC dX1_addSign_43 rfl ?_
    refine z_iconst hC dX1_addSign_45 (v := nI 2) rfl ?_
    refine z_iload_n hC dX1_addSign_46 rfl ?_
    refine zV0 hC dX1_addSign_47 zlX1_67 (c_sput hr hR hw hn (by omega) (Nat.lt_succ_self _) (j := 2) (by decide)) hr.2.2.2.1 rfl rfl rfl rfl rfl rfl ?_
    refine z_vret hC dX1_addSign_50 ?_
    exact hE.to (by rfl) rfl (by first | (rw [show q = 0 by omega]; rfl) | (rw [show q = 1 by omega]; rfl)) rfl
  refine z_iconst hC dX1_addSign_31 (v := nI 1) rfl ?_
  refine z_goto hC dX1_addSign_32 (tgt := 36) (by decide) ?_
  refine zV0 hC dX1_addSign_36 zlX1_67 (c_sput hr hR hw hn (by omega) (Nat.lt_succ_self _) (j := 1) (by decide)) hr.2.2.2.1 rfl rfl rfl rfl rfl rfl ?_
  refine z_aload_n hC dX1_addSign_39 rfl ?_
  refine z_getR hC dX1_addSign_40 hr.1 zfX1_20 rfl ?_
  refine z_iload hC dX1_addSign_43 rfl ?_
  refine z_iconst hC dX1_addSign_45 (v := nI 2) rfl ?_
  refine z_iload_n hC dX1_addSign_46 rfl ?_
  refine zV0 hC dX1_addSign_47 zlX1_67 (c_sput hr hR hw hn (by omega) (Nat.lt_succ_self _) (j := 2) (by decide)) hr.2.2.2.1 rfl rfl rfl rfl rfl rfl ?_
  refine z_vret hC dX1_addSign_50 ?_
  exact hE.to (by rfl) rfl (by first | (rw [show q = 0 by omega]; rfl) | (rw [show q = 1 by omega]; rfl)) rfl

theorem c_X1_addCall (hr : zRd S r) (hm : zRm r R I X) (hR : ROK R) {b q s : Nat} (hf : R.1 2 < 6) : zC0 mX1_addCall 3 [zr 3 r, zi (nI b), zi (nI q), zi (nI s)] (some (zi (nI (R.1 2)))) ad S I X Y sz (up3 I 3 (r + 5) 2 (nI (R.1 2 + 1))) (zadd3 (r + 6) (R.1 2) X b q s) Y := by
  refine zgo (own := RX1) (k := 1) (by decide +kernel) rfl rfl rfl (fun C hC hnm hE => ?_)
  have hw : (up3 I 3 (r + 5) 2 (nI (R.1 2 + 1))) 3 (r + 5) 1 = nI 3 := by rw [up3_ne (by omega)]; exact hm.2.2.1.1
  have hn := up3_eq I 3 (r + 5) 2 (nI (R.1 2 + 1))
  refine z_aload_n hC dX1_addCall_0 rfl ?_
  refine z_getR hC dX1_addCall_1 hr.1 zfX1_23 rfl ?_
  refine zVv hC dX1_addCall_4 zlX1_63 (c_X3_grow hr.2.2.2.2.2.1 hr.2.2.2.2.2.2 hm.2.2.1.1 hm.2.2.1.2.1 (by omega) (by decide) (by omega) (by decide) (by omega)) hr.2.2.2.2.2.1 rfl rfl rfl rfl rfl rfl ?_
  refine z_istore hC dX1_addCall_7 (lo2 := [_, _, _, _, _]) (Nat.le_of_ble_eq_true rfl) rfl rfl ?_
  refine z_aload_n hC dX1_addCall_9 rfl ?_
  refine z_getR hC dX1_addCall_10 hr.1 zfX1_23 rfl ?_
  refine z_iload hC dX1_addCall_13 rfl ?_
  refine z_iconst hC dX1_addCall_15 (v := nI 0) rfl ?_
  refine z_iload_n hC dX1_addCall_16 rfl ?_
  refine zV0 hC dX1_addCall_17 zlX1_67 (c_cput hr hR hw hn (by omega) (Nat.lt_succ_self _) (j := 0) (by decide)) hr.2.2.2.2.2.1 rfl rfl rfl rfl rfl rfl ?_
  refine z_aload_n hC dX1_addCall_20 rfl ?_
  refine z_getR hC dX1_addCall_21 hr.1 zfX1_23 rfl ?_
  refine z_iload hC dX1_addCall_24 rfl ?_
  refine z_iconst hC dX1_addCall_26 (v := nI 1) rfl ?_
  refine z_iload_n hC dX1_addCall_27 rfl ?_
  refine zV0 hC dX1_addCall_28 zlX1_67 (c_cput hr hR hw hn (by omega) (Nat.lt_succ_self _) (j := 1) (by decide)) hr.2.2.2.2.2.1 rfl rfl rfl rfl rfl rfl ?_
  refine z_aload_n hC dX1_addCall_31 rfl ?_
  refine z_getR hC dX1_addCall_32 hr.1 zfX1_23 rfl ?_
  refine z_iload hC dX1_addCall_35 rfl ?_
  refine z_iconst hC dX1_addCall_37 (v := nI 2) rfl ?_
  refine z_iload_n hC dX1_addCall_38 rfl ?_
  refine zV0 hC dX1_addCall_39 zlX1_67 (c_cput hr hR hw hn (by omega) (Nat.lt_succ_self _) (j := 2) (by decide)) hr.2.2.2.2.2.1 rfl rfl rfl rfl rfl rfl ?_
  refine z_iload hC dX1_addCall_42 rfl ?_
  refine z_iret hC dX1_addCall_44 ?_
  exact hE.to (by rfl) rfl rfl rfl

end
