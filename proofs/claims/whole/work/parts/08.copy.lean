section ZCP
variable {C : zC} {nL : Nat} {ad : zA} {S : zSh} {cells slots sz : Nat} {I X : zI} {Y : zY} {pc : Nat} {lo : List (Option zV)} {st : List zV}
variable {bt : ByteArray} {own : String} {ret : Option FieldType} {N mc ms : Nat}
theorem z_copyi (hC : zOk bt own nL ret N mc ms C ad) {idx b1 j1 n1 b2 j2 n2 : Nat} {sp dp n : Int32} (d : decode bt pc = .ok (.invokestatic idx, 3)) (hl : zcpW own idx) (hs1 : S b1 j1 = some (.inl (0, n1))) (hs2 : S b2 j2 = some (.inl (0, n2))) (g1 : ¬ sp < 0) (g2 : ¬ dp < 0) (g3 : ¬ n < 0) (g4 : sp.toNatClampNeg + n.toNatClampNeg ≤ n1) (g5 : dp.toNatClampNeg + n.toNatClampNeg ≤ n2) (hN : 1 ≤ N) (hst : st = [])
    (kk : zL C nL ad S cells slots sz I (up2 X b2 j2 (va_cpy (X b1 j1) (X b2 j2) sp.toNatClampNeg dp.toNatClampNeg n.toNatClampNeg)) Y (pc + 3) lo st) : zL C nL ad S cells slots sz I X Y pc lo (.inl n :: .inl dp :: .inr (.inr (some (b2, j2))) :: .inl sp :: .inr (.inr (some (b1, j1))) :: st) := by
  subst hst
  intro H locs ls h1 h2 h3 T hT Xs
  have hts := hC.2.2.2.2.1
  have hR := hC.2.2.2.2.2.2.2.1
  have hK := hC.2.2.2.2.2.2.2.2.1
  have hc0 : H[ad b1 j1]? = some (vp_cell ((cg C).2 0) (n1, .inl (X b1 j1))) := (h1.1.1 b1 j1 _ hs1).1
  have hc1 : H[ad b2 j2]? = some (vp_cell ((cg C).2 0) (n2, .inl (X b2 j2))) := (h1.1.1 b2 j2 _ hs2).1
  have hl1 : ad b2 j2 < H.size := (Array.getElem?_eq_some_iff.mp hc1).1
  obtain ⟨-, k0, hk0, cm0, hkk0⟩ := (hK.2 0 _ rfl).1 n1 (fun j => .int (X b1 j1 j))
  obtain ⟨-, k1, hk1, cm1, hkk1⟩ := (hK.2 0 _ rfl).1 n2 (fun j => .int (X b2 j2 j))
  have ea : ∀ (m : Nat) (f : Nat → Int32), (vp_cell ((cg C).2 0) (m, .inl f)).slots.size = m := fun m f => by rw [vp_cell_i, arrV_size]
  have ln : 11 + (nativeFrameWords "java/lang/System" "arraycopy" 5) ≤ 36 := by decide +kernel
  obtain ⟨vm', X', step⟩ := Xs.arraycopy hC.1 hC.2.2.2.1 (hts _ hl.1) (hts _ hl.2.1) (hts _ hl.2.2.1) (hts _ hl.2.2.2) (src := ad b1 j1) (dst := ad b2 j2) (cs := vp_cell ((cg C).2 0) (n1, .inl (X b1 j1))) (cd := vp_cell ((cg C).2 0) (n2, .inl (X b2 j2))) (srcPos := sp) (destPos := dp) (n := n) (by rw [hT]; exact hc0) (by rw [hT]; exact hc1)
    (fun _ h => by cases h) (fun _ h => by cases h) (fun h => by cases h) (fun h => by cases h) hk0 hk1 hkk0 hkk1 (by simp [refKind]) g1 g2 g3 (by rw [znn g1, znn g3, ea]; omega) (by rw [znn g2, znn g3, ea]; omega)
    (fun vm₁ _ i hi => by
      have e : (vp_cell ((cg C).2 0) (n1, .inl (X b1 j1))).slots.getD (sp.toNatClampNeg + i) .null = .int (X b1 j1 (sp.toNatClampNeg + i)) := by
        rw [vp_cell_i, Array.getD_eq_getD_getElem?, arrV_read _ _ (by omega)]; rfl
      exact ⟨by rw [e]; rfl, by rw [e]; exact trivial⟩)
    (g := F0 (cm C) pc ls (List.map (rv ad) (.inl n :: .inl dp :: .inr (.inr (some (b2, j2))) :: .inl sp :: .inr (.inr (some (b1, j1))) :: []))) rfl (by rw [hC.2.2.1]; exact h3.1) (rest := []) rfl (by rw [hC.2.1]; exact d) (Nat.le_trans hN hR.1) (by show 2 * 0 + 0 + _ ≤ _; have := hR.2.1; omega)
  have e1 := va_copied (fun z => .int z) ((cg C).2 0) ((cg C).2 0) (X b1 j1) (X b2 j2) (n0 := n1) (n1 := n2) (sp := sp.toNatClampNeg) (dp := dp.toNatClampNeg) (n := n.toNatClampNeg) g4
  have e1 : copied (vp_cell ((cg C).2 0) (n1, .inl (X b1 j1))) (vp_cell ((cg C).2 0) (n2, .inl (X b2 j2))) sp dp n = vp_cell ((cg C).2 0) (n2, .inl (va_cpy (X b1 j1) (X b2 j2) sp.toNatClampNeg dp.toNatClampNeg n.toNatClampNeg)) := e1
  rw [e1] at X' step
  obtain ⟨w1, w2, w3, w4⟩ := zafter_copy (z := vp_cell ((cg C).2 0) (n2, .inl (va_cpy (X b1 j1) (X b2 j2) sp.toNatClampNeg dp.toNatClampNeg n.toNatClampNeg))) hl1 h2 (h1.1.1 b2 j2 _ hs2).2
  have hnew : zW (cg C) (cA C) ad S I (up2 X b2 j2 (va_cpy (X b1 j1) (X b2 j2) sp.toNatClampNeg dp.toNatClampNeg n.toNatClampNeg)) Y (H.setIfInBounds (ad b2 j2) (vp_cell ((cg C).2 0) (n2, .inl (va_cpy (X b1 j1) (X b2 j2) sp.toNatClampNeg dp.toNatClampNeg n.toNatClampNeg)))) := by
    refine h1.1.put hs2 (fun _ _ _ _ => rfl) (fun b' k' i e => by rw [up2_ne e]) (fun _ _ _ _ => rfl) ?_ w2
    show (H.setIfInBounds _ _)[ad b2 j2]? = some (vp_cell _ (n2, .inl (up2 X b2 j2 _ b2 j2)))
    rw [w1, up2_eq]
  obtain ⟨t, a1, b3⟩ := kk _ _ ls ⟨hnew, by rw [w3]; exact h1.2⟩ (w4 _ (fun q hq => by obtain ⟨z, -, hz⟩ := List.mem_map.mp hq; rw [← hz])) h3 ((T.setVm vm').setCell (ad b2 j2) (vp_cell ((cg C).2 0) (n2, .inl (va_cpy (X b1 j1) (X b2 j2) sp.toNatClampNeg dp.toNatClampNeg n.toNatClampNeg)))) (by rw [← hT]; rfl) X'
  exact ⟨t, step t a1, b3⟩
theorem z_copyl (hC : zOk bt own nL ret N mc ms C ad) {idx b1 j1 n1 b2 j2 n2 : Nat} {sp dp n : Int32} (d : decode bt pc = .ok (.invokestatic idx, 3)) (hl : zcpW own idx) (hs1 : S b1 j1 = some (.inl (1, n1))) (hs2 : S b2 j2 = some (.inl (1, n2))) (g1 : ¬ sp < 0) (g2 : ¬ dp < 0) (g3 : ¬ n < 0) (g4 : sp.toNatClampNeg + n.toNatClampNeg ≤ n1) (g5 : dp.toNatClampNeg + n.toNatClampNeg ≤ n2) (hN : 1 ≤ N) (hst : st = [])
    (kk : zL C nL ad S cells slots sz I X (up2 Y b2 j2 (va_cpy (Y b1 j1) (Y b2 j2) sp.toNatClampNeg dp.toNatClampNeg n.toNatClampNeg)) (pc + 3) lo st) : zL C nL ad S cells slots sz I X Y pc lo (.inl n :: .inl dp :: .inr (.inr (some (b2, j2))) :: .inl sp :: .inr (.inr (some (b1, j1))) :: st) := by
  subst hst
  intro H locs ls h1 h2 h3 T hT Xs
  have hts := hC.2.2.2.2.1
  have hR := hC.2.2.2.2.2.2.2.1
  have hK := hC.2.2.2.2.2.2.2.2.1
  have hc0 : H[ad b1 j1]? = some (vp_cell ((cg C).2 1) (n1, .inr (.inl (Y b1 j1)))) := (h1.1.1 b1 j1 _ hs1).1
  have hc1 : H[ad b2 j2]? = some (vp_cell ((cg C).2 1) (n2, .inr (.inl (Y b2 j2)))) := (h1.1.1 b2 j2 _ hs2).1
  have hl1 : ad b2 j2 < H.size := (Array.getElem?_eq_some_iff.mp hc1).1
  obtain ⟨-, k0, hk0, cm0, hkk0⟩ := (hK.2 1 _ rfl).1 n1 (fun j => .long (Y b1 j1 j))
  obtain ⟨-, k1, hk1, cm1, hkk1⟩ := (hK.2 1 _ rfl).1 n2 (fun j => .long (Y b2 j2 j))
  have ea : ∀ (m : Nat) (f : Nat → Int64), (vp_cell ((cg C).2 1) (m, .inr (.inl f))).slots.size = m := fun m f => by rw [vp_cell_l, arrV_size]
  have ln : 11 + (nativeFrameWords "java/lang/System" "arraycopy" 5) ≤ 36 := by decide +kernel
  obtain ⟨vm', X', step⟩ := Xs.arraycopy hC.1 hC.2.2.2.1 (hts _ hl.1) (hts _ hl.2.1) (hts _ hl.2.2.1) (hts _ hl.2.2.2) (src := ad b1 j1) (dst := ad b2 j2) (cs := vp_cell ((cg C).2 1) (n1, .inr (.inl (Y b1 j1)))) (cd := vp_cell ((cg C).2 1) (n2, .inr (.inl (Y b2 j2)))) (srcPos := sp) (destPos := dp) (n := n) (by rw [hT]; exact hc0) (by rw [hT]; exact hc1)
    (fun _ h => by cases h) (fun _ h => by cases h) (fun h => by cases h) (fun h => by cases h) hk0 hk1 hkk0 hkk1 (by simp [refKind]) g1 g2 g3 (by rw [znn g1, znn g3, ea]; omega) (by rw [znn g2, znn g3, ea]; omega)
    (fun vm₁ _ i hi => by
      have e : (vp_cell ((cg C).2 1) (n1, .inr (.inl (Y b1 j1)))).slots.getD (sp.toNatClampNeg + i) .null = .long (Y b1 j1 (sp.toNatClampNeg + i)) := by
        rw [vp_cell_l, Array.getD_eq_getD_getElem?, arrV_read _ _ (by omega)]; rfl
      exact ⟨by rw [e]; rfl, by rw [e]; exact trivial⟩)
    (g := F0 (cm C) pc ls (List.map (rv ad) (.inl n :: .inl dp :: .inr (.inr (some (b2, j2))) :: .inl sp :: .inr (.inr (some (b1, j1))) :: []))) rfl (by rw [hC.2.2.1]; exact h3.1) (rest := []) rfl (by rw [hC.2.1]; exact d) (Nat.le_trans hN hR.1) (by show 2 * 0 + 0 + _ ≤ _; have := hR.2.1; omega)
  have e1 := va_copied (fun z => .long z) ((cg C).2 1) ((cg C).2 1) (Y b1 j1) (Y b2 j2) (n0 := n1) (n1 := n2) (sp := sp.toNatClampNeg) (dp := dp.toNatClampNeg) (n := n.toNatClampNeg) g4
  have e1 : copied (vp_cell ((cg C).2 1) (n1, .inr (.inl (Y b1 j1)))) (vp_cell ((cg C).2 1) (n2, .inr (.inl (Y b2 j2)))) sp dp n = vp_cell ((cg C).2 1) (n2, .inr (.inl (va_cpy (Y b1 j1) (Y b2 j2) sp.toNatClampNeg dp.toNatClampNeg n.toNatClampNeg))) := e1
  rw [e1] at X' step
  obtain ⟨w1, w2, w3, w4⟩ := zafter_copy (z := vp_cell ((cg C).2 1) (n2, .inr (.inl (va_cpy (Y b1 j1) (Y b2 j2) sp.toNatClampNeg dp.toNatClampNeg n.toNatClampNeg)))) hl1 h2 (h1.1.1 b2 j2 _ hs2).2
  have hnew : zW (cg C) (cA C) ad S I X (up2 Y b2 j2 (va_cpy (Y b1 j1) (Y b2 j2) sp.toNatClampNeg dp.toNatClampNeg n.toNatClampNeg)) (H.setIfInBounds (ad b2 j2) (vp_cell ((cg C).2 1) (n2, .inr (.inl (va_cpy (Y b1 j1) (Y b2 j2) sp.toNatClampNeg dp.toNatClampNeg n.toNatClampNeg))))) := by
    refine h1.1.put hs2 (fun _ _ _ _ => rfl) (fun _ _ _ _ => rfl) (fun b' k' i e => by rw [up2_ne e]) ?_ w2
    show (H.setIfInBounds _ _)[ad b2 j2]? = some (vp_cell _ (n2, .inr (.inl (up2 Y b2 j2 _ b2 j2))))
    rw [w1, up2_eq]
  obtain ⟨t, a1, b3⟩ := kk _ _ ls ⟨hnew, by rw [w3]; exact h1.2⟩ (w4 _ (fun q hq => by obtain ⟨z, -, hz⟩ := List.mem_map.mp hq; rw [← hz])) h3 ((T.setVm vm').setCell (ad b2 j2) (vp_cell ((cg C).2 1) (n2, .inr (.inl (va_cpy (Y b1 j1) (Y b2 j2) sp.toNatClampNeg dp.toNatClampNeg n.toNatClampNeg))))) (by rw [← hT]; rfl) X'
  exact ⟨t, step t a1, b3⟩
end ZCP
