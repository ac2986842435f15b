/-! Tape: the whole of it -/
theorem rdN_le {T : Nat → Nat} {z : Nat} {R : RS} {q : Nat} : ∀ (k i p : Nat) (nm : Nat → Nat), p ≤ z → p ≤ (rdN T z R q k i p nm).2.2.1 ∧ (rdN T z R q k i p nm).2.2.1 ≤ z
  | 0, i, p, nm, h => ⟨Nat.le_refl _, h⟩
  | k + 1, i, p, nm, h => by
    have h1 := tk_le (T := T) h
    have h2 := rdN_le (T := T) (z := z) (R := R) (q := q) k (i + 1) (tkE T z p) (fun j => if j = i then vlP T z (tkE T z p) else nm j) (by omega)
    unfold rdN
    split
    · exact ⟨by omega, h2.2⟩
    · exact ⟨by show p ≤ tkE T z p; omega, h1.2.2.1⟩
theorem rdN_ok {T : Nat → Nat} {z : Nat} {R : RS} {q : Nat} : ∀ (k i p : Nat) (nm : Nat → Nat), (rdN T z R q k i p nm).1 = true → (∀ j, j < i → tkN R q j (nm j)) → ∀ j, j < i + k → tkN R q j ((rdN T z R q k i p nm).2.2.2 j)
  | 0, i, p, nm, _, h, j, hj => h j hj
  | k + 1, i, p, nm, h0, h, j, hj => by
    unfold rdN at h0 ⊢
    by_cases c : tkS T z (tkE T z p) = 2 ∧ tkE T z (tkE T z p) - tkA T z (tkE T z p) ≤ 4 ∧ tkN R q i (vlP T z (tkE T z p))
    · rw [if_pos c] at h0 ⊢
      refine rdN_ok k (i + 1) _ _ h0 (fun j hj => ?_) j (by omega)
      try dsimp only
      by_cases e : j = i
      · rw [if_pos e, e]; exact c.2.2
      · rw [if_neg e]; exact h j (by omega)
    · rw [if_neg c] at h0
      exact absurd h0 Bool.false_ne_true
theorem rsN_le {T : Nat → Nat} {z : Nat} {R : RS} {p : Nat} (h : p ≤ z) : p ≤ (rsN T z R p).2.1 ∧ (rsN T z R p).2.1 ≤ z := by
  unfold rsN
  split
  · split
    · exact ⟨Nat.le_refl _, h⟩
    · split
      · exact rdN_le _ _ _ _ h
      · exact ⟨Nat.le_refl _, h⟩
  · exact ⟨Nat.le_refl _, h⟩
theorem rsN_ok {T : Nat → Nat} {z : Nat} {R : RS} {p q : Nat} (h : (rsN T z R p).1 = some q) : q < 8 ∧ rmP R q ∧ (∀ j, j < nbN q → tkN R q j ((rsN T z R p).2.2.2 j)) ∧ tkS T z p = 1 := by
  unfold rsN at h ⊢
  split at h
  · next hs =>
    rw [if_pos hs]
    split at h
    · cases h
    · next q' hw =>
      split at h
      · next hr =>
        dsimp only at h
        split at h
        · next hok =>
          cases h
          refine ⟨wstN_lt hw, hr, fun j hj => ?_, hs⟩
          rw [if_pos hr]
          exact rdN_ok (nbN q) 0 p rs0 hok (fun j hj => absurd hj (Nat.not_lt_zero _)) j (by omega)
        · cases h
      · cases h
  · cases h
def riN (T : Nat → Nat) (z : Nat) : Nat → Nat → RS → Nat → Int32 × RS
  | 0, _, R, p => (-20 - nI (tkA T z p), R)
  | f + 1, k, R, p => match (rsN T z R p).1 with
    | none => (-20 - nI (tkA T z (rsN T z R p).2.1), R)
    | some q => if tkS T z (tkE T z (rsN T z R p).2.1) = 0 then (nI k, cyR R q (rsN T z R p).2.2.2) else if tkS T z (tkE T z (rsN T z R p).2.1) = 3 then riN T z f (k + 1) (cyR R q (rsN T z R p).2.2.2) (tkE T z (tkE T z (rsN T z R p).2.1)) else (-20 - nI (tkA T z (tkE T z (rsN T z R p).2.1)), cyR R q (rsN T z R p).2.2.2)
theorem riN_n {T : Nat → Nat} {z f k : Nat} {R : RS} {p : Nat} (h : (rsN T z R p).1 = none) : riN T z (f + 1) k R p = (-20 - nI (tkA T z (rsN T z R p).2.1), R) := by
  unfold riN; rw [h]
theorem riN_e {T : Nat → Nat} {z f k : Nat} {R : RS} {p q : Nat} (h : (rsN T z R p).1 = some q) (h2 : tkS T z (tkE T z (rsN T z R p).2.1) = 0) : riN T z (f + 1) k R p = (nI k, cyR R q (rsN T z R p).2.2.2) := by
  unfold riN; rw [h]; exact if_pos h2
theorem riN_s {T : Nat → Nat} {z f k : Nat} {R : RS} {p q : Nat} (h : (rsN T z R p).1 = some q) (h2 : tkS T z (tkE T z (rsN T z R p).2.1) = 3) : riN T z (f + 1) k R p = riN T z f (k + 1) (cyR R q (rsN T z R p).2.2.2) (tkE T z (tkE T z (rsN T z R p).2.1)) := by
  conv => lhs; unfold riN
  rw [h]
  dsimp only
  rw [if_neg (by omega), if_pos h2]
theorem riN_x {T : Nat → Nat} {z f k : Nat} {R : RS} {p q : Nat} (h : (rsN T z R p).1 = some q) (h2 : ¬ tkS T z (tkE T z (rsN T z R p).2.1) = 0) (h3 : ¬ tkS T z (tkE T z (rsN T z R p).2.1) = 3) : riN T z (f + 1) k R p = (-20 - nI (tkA T z (tkE T z (rsN T z R p).2.1)), cyR R q (rsN T z R p).2.2.2) := by
  conv => lhs; unfold riN
  rw [h]
  dsimp only
  rw [if_neg h2, if_neg h3]
def riM (T : Nat → Nat) (z : Nat) : Nat → RS → Nat → zI → zI → zI × zI
  | 0, _, _, I, X => (I, X)
  | f + 1, R, p, I, X => match (rsN T z R p).1 with
    | none => (ryI T z R (rsN T z R p) I, ryX R (rsN T z R p) X)
    | some q => if tkS T z (tkE T z (rsN T z R p).2.1) = 3 then riM T z f (cyR R q (rsN T z R p).2.2.2) (tkE T z (tkE T z (rsN T z R p).2.1)) (tkM T z (ryI T z R (rsN T z R p) I) (tkE T z (tkE T z (rsN T z R p).2.1))) (ryX R (rsN T z R p) X) else (tkM T z (ryI T z R (rsN T z R p) I) (tkE T z (rsN T z R p).2.1), ryX R (rsN T z R p) X)
theorem riM_n {T : Nat → Nat} {z f : Nat} {R : RS} {p : Nat} {I X : zI} (h : (rsN T z R p).1 = none) : riM T z (f + 1) R p I X = (ryI T z R (rsN T z R p) I, ryX R (rsN T z R p) X) := by
  unfold riM; rw [h]
theorem riM_s {T : Nat → Nat} {z f : Nat} {R : RS} {p q : Nat} {I X : zI} (h : (rsN T z R p).1 = some q) (h2 : tkS T z (tkE T z (rsN T z R p).2.1) = 3) : riM T z (f + 1) R p I X = riM T z f (cyR R q (rsN T z R p).2.2.2) (tkE T z (tkE T z (rsN T z R p).2.1)) (tkM T z (ryI T z R (rsN T z R p) I) (tkE T z (tkE T z (rsN T z R p).2.1))) (ryX R (rsN T z R p) X) := by
  conv => lhs; unfold riM
  rw [h]
  exact if_pos h2
theorem riM_x {T : Nat → Nat} {z f : Nat} {R : RS} {p q : Nat} {I X : zI} (h : (rsN T z R p).1 = some q) (h2 : ¬ tkS T z (tkE T z (rsN T z R p).2.1) = 3) : riM T z (f + 1) R p I X = (tkM T z (ryI T z R (rsN T z R p) I) (tkE T z (rsN T z R p).2.1), ryX R (rsN T z R p) X) := by
  unfold riM
  rw [h]
  exact if_neg h2
theorem ryI_ne {T : Nat → Nat} {z : Nat} {R : RS} {o : Option Nat × Nat × Nat × (Nat → Nat)} {I : zI} {b k j : Nat} (h : ¬ (b = 3 ∧ (15 ≤ k ∧ k < 22 ∨ k = 30 ∧ 2 ≤ j ∧ j ≤ 4))) : ryI T z R o I b k j = I b k j := by
  obtain ⟨o1, p1, i1, nm⟩ := o
  rcases o1 with _ | q
  · exact tkI_ne (by omega)
  · exact (cyI_ne (by omega)).trans (tkI_ne (by omega))
theorem ryX_ne {R : RS} {o : Option Nat × Nat × Nat × (Nat → Nat)} {X : zI} {b k j : Nat} (h : ¬ (b = 3 ∧ (15 ≤ k ∧ k < 22 ∨ k = 32))) : ryX R o X b k j = X b k j := by
  obtain ⟨o1, p1, i1, nm⟩ := o
  rcases o1 with _ | q
  · exact zrow_ne (by omega)
  · exact (cyX_ne (by omega)).trans (zrow_ne (by omega))
theorem ry_4 {T : Nat → Nat} {z : Nat} {R : RS} {o : Option Nat × Nat × Nat × (Nat → Nat)} {I : zI} : ryI T z R o I 3 30 4 = nI (tkE T z o.2.1) ∧ ryI T z R o I 3 30 3 = nI (tkA T z o.2.1) := by
  obtain ⟨o1, p1, i1, nm⟩ := o
  rcases o1 with _ | q
  · exact ⟨tkI_4 (I := I) (a := tkA T z p1) (s := tkS T z p1), tkI_3 (I := I) (s := tkS T z p1) (e := tkE T z p1)⟩
  · exact ⟨(cyI_ne (by omega)).trans (tkI_4 (I := I) (a := tkA T z p1) (s := tkS T z p1)), (cyI_ne (by omega)).trans (tkI_3 (I := I) (s := tkS T z p1) (e := tkE T z p1))⟩
theorem ry_T {T : Nat → Nat} {z : Nat} {R : RS} {o : Option Nat × Nat × Nat × (Nat → Nat)} {I X : zI} (h : zTp T z I X) : zTp T z (ryI T z R o I) (ryX R o X) := h.frame (ryI_ne (by omega)) (fun j => ryX_ne (by omega))
theorem ry_m {T : Nat → Nat} {z : Nat} {R : RS} {p q : Nat} {I X : zI} (h : zRm 15 R I X) (ho : (rsN T z R p).1 = some q) : zRm 15 (cyR R q (rsN T z R p).2.2.2) (ryI T z R (rsN T z R p) I) (ryX R (rsN T z R p) X) := by
  have hk := rsN_ok ho
  unfold ryI ryX
  rw [ho]
  exact cy_zRm (h.frame (fun k j _ _ => tkI_ne (by omega)) (fun k j _ _ => zrow_ne (by omega))) hk.1 hk.2.2.1
theorem zneg20 {a : Nat} (h : a ≤ 250) : (-20 - nI a : Int32) < 0 := by
  have : ∀ a, a ≤ 250 → (-20 - nI a : Int32) < 0 := by decide +kernel
  exact this a h
theorem ri_ok {T : Nat → Nat} {z : Nat} : ∀ (f k : Nat) (R : RS) (p : Nat) (I X : zI), zTp T z I X → zRm 15 R I X → ROK R → p ≤ z → zRm 15 (riN T z f k R p).2 (riM T z f R p I X).1 (riM T z f R p I X).2 ∨ (riN T z f k R p).1 < 0
  | 0, k, R, p, I, X, hT, hm, hR, hp => Or.inl hm
  | f + 1, k, R, p, I, X, hT, hm, hR, hp => by
    have hl := rsN_le (T := T) (R := R) hp
    have hl2 := tk_le (T := T) hl.2
    have hl3 := tk_le (T := T) hl2.2.2.1
    have hz := hT.2.2.1
    rcases ho : (rsN T z R p).1 with _ | q
    · rw [riN_n ho]
      exact Or.inr (zneg20 (by omega))
    · have hk := rsN_ok ho
      by_cases h0 : tkS T z (tkE T z (rsN T z R p).2.1) = 0
      · rw [riN_e ho h0, riM_x ho (by omega)]
        exact Or.inl ((ry_m hm ho).frame (fun k j _ _ => tkI_ne (by omega)) (fun _ _ _ _ => rfl))
      · by_cases h3 : tkS T z (tkE T z (rsN T z R p).2.1) = 3
        · rw [riN_s ho h3, riM_s ho h3]
          exact ri_ok f (k + 1) _ _ _ _ ((ry_T hT).frame (tkI_ne (by omega)) (fun _ => rfl)) ((ry_m hm ho).frame (fun k j _ _ => tkI_ne (by omega)) (fun _ _ _ _ => rfl)) (cy_ROK hR hk.1 hk.2.1 hk.2.2.1) hl3.2.2.1
        · rw [riN_x ho h0 h3]
          exact Or.inr (zneg20 (by omega))
theorem ri_ROK {T : Nat → Nat} {z : Nat} : ∀ (f k : Nat) (R : RS) (p : Nat), ROK R → ROK (riN T z f k R p).2
  | 0, k, R, p, hR => hR
  | f + 1, k, R, p, hR => by
    rcases ho : (rsN T z R p).1 with _ | q
    · rw [riN_n ho]; exact hR
    · have hk := rsN_ok ho
      have hc := cy_ROK hR hk.1 hk.2.1 hk.2.2.1
      by_cases h0 : tkS T z (tkE T z (rsN T z R p).2.1) = 0
      · rw [riN_e ho h0]; exact hc
      · by_cases h3 : tkS T z (tkE T z (rsN T z R p).2.1) = 3
        · rw [riN_s ho h3]; exact ri_ROK f (k + 1) _ _ hc
        · rw [riN_x ho h0 h3]; exact hc
theorem riM_I {T : Nat → Nat} {z : Nat} {b c j : Nat} (h : ¬ (b = 3 ∧ (15 ≤ c ∧ c < 22 ∨ c = 30 ∧ 2 ≤ j ∧ j ≤ 4))) : ∀ (f : Nat) (R : RS) (p : Nat) (I X : zI), (riM T z f R p I X).1 b c j = I b c j
  | 0, R, p, I, X => rfl
  | f + 1, R, p, I, X => by
    rcases ho : (rsN T z R p).1 with _ | q
    · rw [riM_n ho]; exact ryI_ne h
    · by_cases h3 : tkS T z (tkE T z (rsN T z R p).2.1) = 3
      · rw [riM_s ho h3, riM_I h f]
        exact (tkI_ne (by omega)).trans (ryI_ne h)
      · rw [riM_x ho h3]
        exact (tkI_ne (by omega)).trans (ryI_ne h)
theorem riM_X {T : Nat → Nat} {z : Nat} {b c j : Nat} (h : ¬ (b = 3 ∧ (15 ≤ c ∧ c < 22 ∨ c = 32))) : ∀ (f : Nat) (R : RS) (p : Nat) (I X : zI), (riM T z f R p I X).2 b c j = X b c j
  | 0, R, p, I, X => rfl
  | f + 1, R, p, I, X => by
    rcases ho : (rsN T z R p).1 with _ | q
    · rw [riM_n ho]; exact ryX_ne h
    · by_cases h3 : tkS T z (tkE T z (rsN T z R p).2.1) = 3
      · rw [riM_s ho h3, riM_X h f]
        exact ryX_ne h
      · rw [riM_x ho h3]
        exact ryX_ne h
section
variable {ad : zA} {S : zSh} {I X : zI} {Y : zY} {sz : Nat} {T : Nat → Nat} {z : Nat} {R : RS}

theorem c_X4_readInto (hD : ∀ k, S 3 k = dsh k) (hT : zTp T z I X) (hm : zRm 15 R I X) (hR : ROK R) : zC0 mX4_readInto 8 [zr 3 30, zr 3 15] (some (zi (riN T z 250 1 R 0).1)) ad S I X Y sz (riM T z 250 R 0 (tkM T z I 0) X).1 (riM T z 250 R 0 (tkM T z I 0) X).2 Y := by
  refine zgo (own := RX4) (k := 1) (by decide +kernel) rfl rfl rfl (fun C hC hnm hE => ?_)
  have hz := hT.2.2.1
  have hT0 : zTp T z (up3 I 3 30 4 (nI 0)) X := hT.frame (up3_ne (by omega)) (fun _ => rfl)
  refine z_aload_n hC dX4_readInto_0 rfl ?_
  refine z_iconst hC dX4_readInto_1 (v := nI 0) rfl ?_
  refine z_putI hC dX4_readInto_2 (hD _) zfX4_22 rfl rfl rfl rfl ?_
  refine z_aload_n hC dX4_readInto_5 rfl ?_
  refine zV0 hC dX4_readInto_6 zlX4_25 (c_X4_step hD hT0 (up3_eq _ _ _ _ _) (Nat.zero_le z)) (hD _) rfl rfl rfl rfl rfl rfl ?_
  rw [show tkI (up3 I 3 30 4 (nI 0)) (tkA T z 0) (tkS T z 0) (tkE T z 0) = tkM T z I 0 by unfold tkM tkI; funext b c j; unfold up3; (repeat' split) <;> first | rfl | omega]
  refine z_iconst hC dX4_readInto_9 (v := nI 1) rfl ?_
  refine z_istore_n hC dX4_readInto_10 (lo2 := [_, _, _]) (Nat.le_of_ble_eq_true rfl) rfl rfl ?_
  have loop11 : ∀ (fuel : Nat) (f k p : Nat) (R' : RS) (I' X' : zI), f < fuel → k + f = 251 → zTp T z I' X' → zRm 15 R' I' X' → ROK R' → p ≤ z → I' = tkM T z I' p → riN T z f k R' p = riN T z 250 1 R 0 → riM T z f R' p I' X' = riM T z 250 R 0 (tkM T z I 0) X → zL C 3 ad S 0 0 sz I' X' Y 11 [some (zr 3 30), some (zr 3 15), some (zi (nI k))] [] := by
    intro fuel
    induction fuel with
    | zero => intro f k p R' I' X' hfu; exact absurd hfu (Nat.not_lt_zero _)
    | succ fuel ih =>
      intro f k p R' I' X' hfu hkf hT' hm' hR' hp hI hv hmm
      refine z_iload_n hC dX4_readInto_11 rfl ?_
      refine z_sipush hC dX4_readInto_12 (v := nI 250) rfl ?_
      refine z_nicmp_gt hC dX4_readInto_15 (tgt := 73) (by decide) (by omega) (by omega) (fun c15 => ?_) (fun c15 => ?_)
      · skip
        obtain rfl : f = 0 := by omega
        refine z_bipush hC dX4_readInto_73 (v := -20) rfl ?_
        refine z_aload_n hC dX4_readInto_75 rfl ?_
        refine z_getN hC dX4_readInto_76 (hD _) zfX4_32 rfl (by rw [hI]; exact tkI_3) ?_
        refine z_isub hC dX4_readInto_79  ?_
        refine z_iret hC dX4_readInto_80 ?_
        exact hE.to (by rw [← hv]; rfl) (by rw [← hmm]; rfl) (by rw [← hmm]; rfl) rfl
      obtain ⟨f1, rfl⟩ : ∃ f1, f = f1 + 1 := ⟨f - 1, by omega⟩
      have hl := rsN_le (T := T) (R := R') hp
      have htk := tk_le (T := T) hl.2
      have htk2 := tk_le (T := T) htk.2.2.1
      refine z_aload_n hC dX4_readInto_18 rfl ?_
      refine z_aload_n hC dX4_readInto_19 rfl ?_
      refine zVv hC dX4_readInto_20 zlX4_28 (c_X4_readStatement hD hT' hm' hR' hp hI) (hD _) rfl rfl rfl rfl rfl rfl ?_
      refine z_ifb_ne hC dX4_readInto_23 (tgt := 34) (by decide) (fun c23 => ?_) (fun c23 => ?_)
      · skip
        obtain ⟨q, ho⟩ := Option.isSome_iff_exists.mp c23
        have hk := rsN_ok ho
        have hsb := tkS_le (T := T) (z := z) (p := tkE T z (rsN T z R' p).2.1)
        have hT2 : zTp T z (tkM T z (ryI T z R' (rsN T z R' p) I') (tkE T z (rsN T z R' p).2.1)) (ryX R' (rsN T z R' p) X') := (ry_T hT').frame (tkI_ne (by omega)) (fun _ => rfl)
        refine z_aload_n hC dX4_readInto_34 rfl ?_
        refine zV0 hC dX4_readInto_35 zlX4_25 (c_X4_step hD (ry_T hT') ry_4.1 htk.2.2.1) (hD _) rfl rfl rfl rfl rfl rfl ?_
        change zL C 3 ad S 0 0 sz (tkM T z (ryI T z R' (rsN T z R' p) I') (tkE T z (rsN T z R' p).2.1)) (ryX R' (rsN T z R' p) X') Y _ _ _
        refine z_aload_n hC dX4_readInto_38 rfl ?_
        refine z_getN hC dX4_readInto_39 (hD _) zfX4_35 rfl tkI_2 ?_
        refine z_nif_ne hC dX4_readInto_42 (tgt := 47) (by decide) (by omega) (fun c42 => ?_) (fun c42 => ?_)
        · skip
          refine z_aload_n hC dX4_readInto_47 rfl ?_
          refine z_getN hC dX4_readInto_48 (hD _) zfX4_35 rfl tkI_2 ?_
          refine z_iconst hC dX4_readInto_51 (v := nI 3) rfl ?_
          refine z_nicmp_eq hC dX4_readInto_52 (tgt := 63) (by decide) (by omega) (by omega) (fun c52 => ?_) (fun c52 => ?_)
          · skip
            refine z_aload_n hC dX4_readInto_63 rfl ?_
            refine zV0 hC dX4_readInto_64 zlX4_25 (c_X4_step hD hT2 tkI_4 htk2.2.2.1) (hD _) rfl rfl rfl rfl rfl rfl ?_
            rw [tkM_tkM]
            refine z_ninc hC dX4_readInto_67 (lo2 := [_, _, _]) rfl rfl rfl rfl ?_
            refine z_goto hC dX4_readInto_70 (tgt := 11) (by decide) ?_
            refine ih f1 (k + 1) _ _ _ _ (by omega) (by omega) (hT2.frame (I' := tkM T z _ _) ((tkI_ne (by omega)).trans (tkI_ne (by omega)).symm) (fun _ => rfl)) ((ry_m hm' ho).frame (fun k j _ _ => tkI_ne (by omega)) (fun _ _ _ _ => rfl)) (cy_ROK hR' hk.1 hk.2.1 hk.2.2.1) htk2.2.2.1 tkI_tkI.symm ?_ ?_
            · rw [← hv, riN_s ho c52]
            · rw [← hmm, riM_s ho c52]
          refine z_bipush hC dX4_readInto_55 (v := -20) rfl ?_
          refine z_aload_n hC dX4_readInto_57 rfl ?_
          refine z_getN hC dX4_readInto_58 (hD _) zfX4_32 rfl tkI_3 ?_
          refine z_isub hC dX4_readInto_61  ?_
          refine z_iret hC dX4_readInto_62 ?_
          exact hE.to (by rw [← hv, riN_x ho c42 c52]) (by rw [← hmm, riM_x ho c52]) (by rw [← hmm, riM_x ho c52]) rfl
        refine z_iload_n hC dX4_readInto_45 rfl ?_
        refine z_iret hC dX4_readInto_46 ?_
        exact hE.to (by rw [← hv, riN_e ho c42]) (by rw [← hmm, riM_x ho (by omega)]) (by rw [← hmm, riM_x ho (by omega)]) rfl
      have ho : (rsN T z R' p).1 = none := by rcases h : (rsN T z R' p).1 with _ | q; rfl; exact absurd (by rw [h]; rfl) c23
      refine z_bipush hC dX4_readInto_26 (v := -20) rfl ?_
      refine z_aload_n hC dX4_readInto_28 rfl ?_
      refine z_getN hC dX4_readInto_29 (hD _) zfX4_32 rfl ry_4.2 ?_
      refine z_isub hC dX4_readInto_32  ?_
      refine z_iret hC dX4_readInto_33 ?_
      exact hE.to (by rw [← hv, riN_n ho]) (by rw [← hmm, riM_n ho]) (by rw [← hmm, riM_n ho]) rfl
  exact loop11 251 250 1 0 R (tkM T z I 0) X (by omega) (by omega) (hT.frame (tkI_ne (by omega)) (fun _ => rfl)) (hm.frame (fun k j _ _ => tkI_ne (by omega)) (fun _ _ _ _ => rfl)) hR (Nat.zero_le _) tkI_tkI.symm rfl rfl

end
