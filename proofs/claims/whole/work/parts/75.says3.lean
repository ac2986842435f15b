/-! the reference: asks, where, worst, last, after; looks -/
def ebO (f : Nat → Nat) (all : Nat) : Nat → Option Nat
  | 0 => none
  | k + 1 => some (ebN f all k)
def ebD (f : Nat → Nat) (all : Nat) : Nat → Nat
  | 0 => 0
  | k + 1 => dsN f all (ebN f all k)
theorem zabs_p {a b : Nat} (ha : a < 2 ^ 30) (hb : b < 2 ^ 30) (h : 0 ≤ nI a - nI b) : nI a - nI b = nI (distN b a) := by
  have h1 : b ≤ a := by
    rcases Nat.lt_or_ge a b with c | c
    · exact absurd h (Int32.not_le.mpr (sub_neg c (by omega)))
    · exact c
  rw [pk_sub h1]
  unfold distN
  by_cases c : a ≤ b
  · rw [if_pos c, show a = b by omega]
  · rw [if_neg c]
theorem zabs_n {a b : Nat} (ha : a < 2 ^ 30) (hb : b < 2 ^ 30) (h : ¬ 0 ≤ nI a - nI b) : -(nI a - nI b) = nI (distN b a) := by
  have h1 : a < b := by
    rcases Nat.lt_or_ge a b with c | c
    · exact c
    · rw [pk_sub c] at h; exact absurd (nI_pos' (by omega)) h
  rw [Int32.neg_sub, pk_sub (by omega)]
  unfold distN
  rw [if_pos (by omega)]
theorem rfall_addS {R : RS} {x q u v : Nat} : rfall (raddS R x q u) v = rfall R v := funext fun i => by
  show fallN (if i = R.1 1 ∧ 5 ≤ 0 ∧ 0 < 8 then _ else R.2.1 0 i) (if i = R.1 1 ∧ 5 ≤ 1 ∧ 1 < 8 then _ else R.2.1 1 i) v (R.1 4) (R.1 5) = _
  rw [if_neg (fun z => by omega), if_neg (fun z => by omega)]
  rfl
theorem signH_add {R : RS} {x q u : Nat} : ∀ s, s ≤ R.1 1 → signH (raddS R x q u) s = signH R s
  | 0, _ => by
    show heldN (rfall (raddS R x q u) (R.1 3)) (R.1 0) = _
    rw [rfall_addS]; rfl
  | s + 1, h => by
    have e : ∀ j, 5 ≤ j → j < 8 → (raddS R x q u).2.1 j s = R.2.1 j s := fun j h1 h2 => if_neg (fun z => by omega)
    show heedH (signH (raddS R x q u) s) ((raddS R x q u).2.1 6 s) (100 - (raddS R x q u).2.1 7 s) = _
    rw [signH_add s (by omega), e 6 (by omega) (by omega), e 7 (by omega) (by omega)]
    rfl
theorem signW_add {R : RS} {x q u : Nat} : ∀ s, s ≤ R.1 1 → signW (raddS R x q u) s = signW R s
  | 0, _ => by
    show fellN (rfall (raddS R x q u) (R.1 3)) = _
    rw [rfall_addS]; rfl
  | s + 1, h => by
    have e : ∀ j, 5 ≤ j → j < 8 → (raddS R x q u).2.1 j s = R.2.1 j s := fun j h1 h2 => if_neg (fun z => by omega)
    show heedW (signW (raddS R x q u) s) ((raddS R x q u).2.1 5 s) ((raddS R x q u).2.1 6 s) (100 - (raddS R x q u).2.1 7 s) = _
    rw [signW_add s (by omega), e 5 (by omega) (by omega), e 6 (by omega) (by omega), e 7 (by omega) (by omega)]
    rfl
theorem hwN_add {R : RS} {x q u : Nat} : hwN (raddS R x q u) = heedH (hwN R) q (100 - u) := by
  show heedH (signH (raddS R x q u) (R.1 1)) ((raddS R x q u).2.1 6 (R.1 1)) (100 - (raddS R x q u).2.1 7 (R.1 1)) = _
  rw [signH_add _ (Nat.le_refl _)]
  have e6 : (raddS R x q u).2.1 6 (R.1 1) = q := if_pos ⟨rfl, by decide, by decide⟩
  have e7 : (raddS R x q u).2.1 7 (R.1 1) = u := if_pos ⟨rfl, by decide, by decide⟩
  rw [e6, e7]
theorem alN_add {R : RS} {x q u : Nat} : alN (raddS R x q u) = sumN (wtN (heedW (signW R (R.1 1)) x q (100 - u)) (R.2.1 4)) (R.1 0) + heedH (hwN R) q (100 - u) := by
  have e5 : (raddS R x q u).2.1 5 (R.1 1) = x := if_pos ⟨rfl, by decide, by decide⟩
  have e6 : (raddS R x q u).2.1 6 (R.1 1) = q := if_pos ⟨rfl, by decide, by decide⟩
  have e7 : (raddS R x q u).2.1 7 (R.1 1) = u := if_pos ⟨rfl, by decide, by decide⟩
  have e4 : (raddS R x q u).2.1 4 = R.2.1 4 := funext fun i => if_neg (fun z => by omega)
  have hw : signW (raddS R x q u) (R.1 1 + 1) = heedW (signW R (R.1 1)) x q (100 - u) := by
    show heedW (signW (raddS R x q u) (R.1 1)) ((raddS R x q u).2.1 5 (R.1 1)) ((raddS R x q u).2.1 6 (R.1 1)) (100 - (raddS R x q u).2.1 7 (R.1 1)) = _
    rw [signW_add _ (Nat.le_refl _), e5, e6, e7]
  show sumN (wtN (signW (raddS R x q u) (R.1 1 + 1)) ((raddS R x q u).2.1 4)) (R.1 0) + hwN (raddS R x q u) = _
  rw [hw, e4, hwN_add]
theorem zQm.dropS {b : Nat} {R : RS} {x q u : Nat} {I X : zI} (h : zQm b (raddS R x q u) I X) : zQm b R (up3 I b 0 15 (nI (R.1 1))) X := by
  obtain ⟨⟨a1, a2, a3, a4, a5, a6, a7, a8⟩, h2, h3, h4⟩ := h
  refine ⟨⟨?_, up3_eq _ _ _ _ _, ?_, ?_, ?_, ?_, ?_, ?_⟩, fun j i hj hi => ?_, fun j i hj hi => ?_, fun j i hj hi => ?_⟩
  all_goals first | (rw [up3_ne (by omega)]; assumption) | skip
  · rw [h2 j i hj hi]
    exact congrArg nI (if_neg (fun z => by omega))
  · rw [h3 j i hj (show i < R.1 1 + 1 by omega)]
    exact congrArg nI (if_neg (fun z => by omega))
  · rw [h4 j i hj hi]
    exact congrArg nI (if_neg (fun z => by omega))
section
variable {ad : zA} {S : zSh} {I X : zI} {Y : zY} {sz : Nat} {D : DS} {qe : Bool}

theorem w_asks_t (hS : ∀ k, S 0 k = msh 0 k) (hO : DOK D) (hM : MMe qe D I X Y) (h0 : ¬ D.1.1 0 = 0) : zC0 mX7_asks 6 [zr 0 0] (some (zi (nI (ebN (fwN D.1) (alN D.1) (D.1.1 0 - 1))))) ad S I X Y sz (mwI 0 D.1 I) (mwX 0 D.1 X) Y := by
  refine zgo (own := RX7) (k := 4) (by decide +kernel) rfl rfl rfl (fun C hC hnm hE => ?_)
  have hm := hM.1
  have hR := hO.1
  have hmo := hm
  have hn14 := hR.1
  have hn8 := hR.2.1
  have hn6 := hR.2.2.1
  refine z_aload_n hC dX7_asks_0 rfl ?_
  refine z_getN hC dX7_asks_1 (hS _) zfX7_94 rfl hm.1.1 ?_
  refine z_nif_ne hC dX7_asks_4 (tgt := 14) (by decide) (by omega) (fun c4 => ?_) (fun c4 => ?_)
  rotate_left
  · exact absurd c4 h0
  refine z_aload_n hC dX7_asks_14 rfl ?_
  refine wV0 hC dX7_asks_15 zlX7_294 (c_X7_weigh hS hm hR) (hS _) rfl rfl rfl rfl rfl rfl ⟨rfl, rfl⟩ ?_
  have hq : zQm 0 D.1 (mwI 0 D.1 I) (mwX 0 D.1 X) := hmo.mw
  have hw : mwF 0 D.1 (mwI 0 D.1 I) (mwX 0 D.1 X) := mwF_of
  have hss := fsum_le hR (Nat.le_refl _)
  have hhw := hwN_le (R := D.1)
  have hal : alN D.1 ≤ 15000000 := Nat.add_le_add hss hhw
  refine z_iconst hC dX7_asks_18 (v := -1) rfl ?_
  refine z_istore_n hC dX7_asks_19 (lo2 := [_, _, _, _, _]) (Nat.le_of_ble_eq_true rfl) rfl rfl ?_
  refine z_iconst hC dX7_asks_20 (v := nI 0) rfl ?_
  refine z_istore_n hC dX7_asks_21 (lo2 := [_, _, _, _, _]) (Nat.le_of_ble_eq_true rfl) rfl rfl ?_
  refine z_iconst hC dX7_asks_22 (v := nI 0) rfl ?_
  refine z_istore_n hC dX7_asks_23 (lo2 := [_, _, _, _, _]) (Nat.le_of_ble_eq_true rfl) rfl rfl ?_
  have loop24 : ∀ (fuel : Nat) (i : Nat), D.1.1 0 - i < fuel → i ≤ D.1.1 0 → zL C 5 ad S 0 0 sz (mwI 0 D.1 I) (mwX 0 D.1 X) Y 24 [some (zr 0 0), some (zi (oI (ebO (fwN D.1) (alN D.1) i))), some (zi (nI (ebD (fwN D.1) (alN D.1) i))), some (zi (nI i)), none] [] := by
    intro fuel
    induction fuel with
    | zero => intro i hfu; exact absurd hfu (Nat.not_lt_zero _)
    | succ fuel ih =>
      intro i hfu hin
      refine z_iload_n hC dX7_asks_24 rfl ?_
      refine z_aload_n hC dX7_asks_25 rfl ?_
      refine z_getN hC dX7_asks_26 (hS _) zfX7_94 rfl hq.1.1 ?_
      refine z_nicmp_ge hC dX7_asks_29 (tgt := 84) (by decide) (by omega) (by omega) (fun c29 => ?_) (fun c29 => ?_)
      · skip
        obtain rfl : i = D.1.1 0 := by omega
        refine z_iload_n hC dX7_asks_84 rfl ?_
        refine z_iret hC dX7_asks_85 ?_
        obtain ⟨k, hk⟩ : ∃ k, D.1.1 0 = k + 1 := ⟨D.1.1 0 - 1, by omega⟩
        exact hE.to (by rw [hk]; rfl) rfl rfl rfl
      have hi : i < D.1.1 0 := by omega
      have hs1 := fsum_le hR (show i + 1 ≤ D.1.1 0 by omega)
      have hdb : ∀ j, j < D.1.1 0 → dsN (fwN D.1) (alN D.1) j ≤ 30000000 := fun j hj => by
        have := fsum_le hR (show j + 1 ≤ D.1.1 0 by omega)
        unfold dsN distN; split <;> omega
      have hdi := hdb i hi
      refine z_iconst hC dX7_asks_32 (v := nI 2) rfl ?_
      refine z_aload_n hC dX7_asks_33 rfl ?_
      refine z_iconst hC dX7_asks_34 (v := nI 0) rfl ?_
      refine z_iload_n hC dX7_asks_35 rfl ?_
      refine wVv hC dX7_asks_36 zlX7_301 (c_X7_sumOf hS hq hR hw (x := 0) (by omega) hi) (hS _) rfl rfl rfl rfl rfl rfl ⟨rfl, rfl⟩ ?_
      rw [sumR_N]
      refine z_nmul hC dX7_asks_39  ?_
      refine z_aload_n hC dX7_asks_40 rfl ?_
      refine z_getN hC dX7_asks_41 (hS _) zfX7_291 rfl hw.2.1 ?_
      refine z_isub hC dX7_asks_44  ?_
      refine z_istore hC dX7_asks_45 (lo2 := [_, _, _, _, _]) (Nat.le_of_ble_eq_true rfl) rfl rfl ?_
      refine z_iload hC dX7_asks_47 rfl ?_
      refine z_if_ge hC dX7_asks_49 (tgt := 58) (by decide) (fun c49 => ?_) (fun c49 => ?_)
      · skip
        have hab : nI (2 * sumN (fwN D.1) (i + 1)) - nI (alN D.1) = nI (dsN (fwN D.1) (alN D.1) i) := zabs_p (by omega) (by omega) c49
        refine z_iload hC dX7_asks_58 rfl ?_
        refine z_st (st2 := [zi (nI (dsN (fwN D.1) (alN D.1) i))]) (by rw [hab]) ?_
        refine z_istore hC dX7_asks_60 (lo2 := [_, _, _, _, _]) (Nat.le_of_ble_eq_true rfl) rfl rfl ?_
        rcases i with _ | k
        · skip
          have hn1 : (ebO (fwN D.1) (alN D.1) (0 + 1)) = some 0 := rfl
          have hn2 : (ebD (fwN D.1) (alN D.1) (0 + 1)) = dsN (fwN D.1) (alN D.1) 0 := rfl
          refine z_iload_n hC dX7_asks_62 rfl ?_
          refine z_iconst hC dX7_asks_63 (v := -1) rfl ?_
          refine z_icmp_eq hC dX7_asks_64 (tgt := 73) (by decide) (fun c64 => ?_) (fun c64 => ?_)
          rotate_left
          · exact absurd c64 (fun z => z rfl)
          refine z_iload_n hC dX7_asks_73 rfl ?_
          refine z_istore_n hC dX7_asks_74 (lo2 := [_, _, _, _, _]) (Nat.le_of_ble_eq_true rfl) rfl rfl ?_
          refine z_iload hC dX7_asks_75 rfl ?_
          refine z_istore_n hC dX7_asks_77 (lo2 := [_, _, _, _, _]) (Nat.le_of_ble_eq_true rfl) rfl rfl ?_
          refine z_ninc hC dX7_asks_78 (lo2 := [_, _, _, _, _]) rfl rfl rfl rfl ?_
          refine z_goto hC dX7_asks_81 (tgt := 24) (by decide) ?_
          first | (refine z_sub ?_ (ih (k + 1 + 1) (by omega) (by omega)); rw [hn1, hn2]; simp [zsub, oI]) | (refine z_sub ?_ (ih (0 + 1) (by omega) (by omega)); rw [hn1, hn2]; simp [zsub, oI])
        · skip
          have hek := ebN_le (f := (fwN D.1)) (all := (alN D.1)) k
          have hdk := hdb (ebN (fwN D.1) (alN D.1) k) (by omega)
          show zL C 5 ad S 0 0 sz _ _ Y _ [_, some (zi (nI (ebN (fwN D.1) (alN D.1) k))), some (zi (nI (dsN (fwN D.1) (alN D.1) (ebN (fwN D.1) (alN D.1) k)))), _, _] _
          refine z_iload_n hC dX7_asks_62 rfl ?_
          refine z_iconst hC dX7_asks_63 (v := -1) rfl ?_
          refine z_icmp_eq hC dX7_asks_64 (tgt := 73) (by decide) (fun c64 => ?_) (fun c64 => ?_)
          · exact absurd c64 (zne1 (by omega))
          refine z_iload hC dX7_asks_67 rfl ?_
          refine z_iload_n hC dX7_asks_69 rfl ?_
          refine z_nicmp_ge hC dX7_asks_70 (tgt := 78) (by decide) (by omega) (by omega) (fun c70 => ?_) (fun c70 => ?_)
          · skip
            have hn1 : (ebO (fwN D.1) (alN D.1) (k + 1 + 1)) = some (ebN (fwN D.1) (alN D.1) k) := congrArg some (if_neg (by omega))
            have hn2 : (ebD (fwN D.1) (alN D.1) (k + 1 + 1)) = dsN (fwN D.1) (alN D.1) (ebN (fwN D.1) (alN D.1) k) := congrArg (dsN (fwN D.1) (alN D.1)) (if_neg (by omega))
            refine z_ninc hC dX7_asks_78 (lo2 := [_, _, _, _, _]) rfl rfl rfl rfl ?_
            refine z_goto hC dX7_asks_81 (tgt := 24) (by decide) ?_
            first | (refine z_sub ?_ (ih (k + 1 + 1) (by omega) (by omega)); rw [hn1, hn2]; simp [zsub, oI]) | (refine z_sub ?_ (ih (0 + 1) (by omega) (by omega)); rw [hn1, hn2]; simp [zsub, oI])
          have hn1 : (ebO (fwN D.1) (alN D.1) (k + 1 + 1)) = some (k + 1) := congrArg some (if_pos (by omega))
          have hn2 : (ebD (fwN D.1) (alN D.1) (k + 1 + 1)) = dsN (fwN D.1) (alN D.1) (k + 1) := congrArg (dsN (fwN D.1) (alN D.1)) (if_pos (by omega))
          refine z_iload_n hC dX7_asks_73 rfl ?_
          refine z_istore_n hC dX7_asks_74 (lo2 := [_, _, _, _, _]) (Nat.le_of_ble_eq_true rfl) rfl rfl ?_
          refine z_iload hC dX7_asks_75 rfl ?_
          refine z_istore_n hC dX7_asks_77 (lo2 := [_, _, _, _, _]) (Nat.le_of_ble_eq_true rfl) rfl rfl ?_
          refine z_ninc hC dX7_asks_78 (lo2 := [_, _, _, _, _]) rfl rfl rfl rfl ?_
          refine z_goto hC dX7_asks_81 (tgt := 24) (by decide) ?_
          first | (refine z_sub ?_ (ih (k + 1 + 1) (by omega) (by omega)); rw [hn1, hn2]; simp [zsub, oI]) | (refine z_sub ?_ (ih (0 + 1) (by omega) (by omega)); rw [hn1, hn2]; simp [zsub, oI])
      have hab : -(nI (2 * sumN (fwN D.1) (i + 1)) - nI (alN D.1)) = nI (dsN (fwN D.1) (alN D.1) i) := zabs_n (by omega) (by omega) c49
      refine z_iload hC dX7_asks_52 rfl ?_
      refine z_ineg hC dX7_asks_54  ?_
      refine z_goto hC dX7_asks_55 (tgt := 60) (by decide) ?_
      refine z_st (st2 := [zi (nI (dsN (fwN D.1) (alN D.1) i))]) (by rw [hab]) ?_
      refine z_istore hC dX7_asks_60 (lo2 := [_, _, _, _, _]) (Nat.le_of_ble_eq_true rfl) rfl rfl ?_
      rcases i with _ | k
      · skip
        have hn1 : (ebO (fwN D.1) (alN D.1) (0 + 1)) = some 0 := rfl
        have hn2 : (ebD (fwN D.1) (alN D.1) (0 + 1)) = dsN (fwN D.1) (alN D.1) 0 := rfl
        refine z_iload_n hC dX7_asks_62 rfl ?_
        refine z_iconst hC dX7_asks_63 (v := -1) rfl ?_
        refine z_icmp_eq hC dX7_asks_64 (tgt := 73) (by decide) (fun c64 => ?_) (fun c64 => ?_)
        rotate_left
        · exact absurd c64 (fun z => z rfl)
        refine z_iload_n hC dX7_asks_73 rfl ?_
        refine z_istore_n hC dX7_asks_74 (lo2 := [_, _, _, _, _]) (Nat.le_of_ble_eq_true rfl) rfl rfl ?_
        refine z_iload hC dX7_asks_75 rfl ?_
        refine z_istore_n hC dX7_asks_77 (lo2 := [_, _, _, _, _]) (Nat.le_of_ble_eq_true rfl) rfl rfl ?_
        refine z_ninc hC dX7_asks_78 (lo2 := [_, _, _, _, _]) rfl rfl rfl rfl ?_
        refine z_goto hC dX7_asks_81 (tgt := 24) (by decide) ?_
        first | (refine z_sub ?_ (ih (k + 1 + 1) (by omega) (by omega)); rw [hn1, hn2]; simp [zsub, oI]) | (refine z_sub ?_ (ih (0 + 1) (by omega) (by omega)); rw [hn1, hn2]; simp [zsub, oI])
      · skip
        have hek := ebN_le (f := (fwN D.1)) (all := (alN D.1)) k
        have hdk := hdb (ebN (fwN D.1) (alN D.1) k) (by omega)
        show zL C 5 ad S 0 0 sz _ _ Y _ [_, some (zi (nI (ebN (fwN D.1) (alN D.1) k))), some (zi (nI (dsN (fwN D.1) (alN D.1) (ebN (fwN D.1) (alN D.1) k)))), _, _] _
        refine z_iload_n hC dX7_asks_62 rfl ?_
        refine z_iconst hC dX7_asks_63 (v := -1) rfl ?_
        refine z_icmp_eq hC dX7_asks_64 (tgt := 73) (by decide) (fun c64 => ?_) (fun c64 => ?_)
        · exact absurd c64 (zne1 (by omega))
        refine z_iload hC dX7_asks_67 rfl ?_
        refine z_iload_n hC dX7_asks_69 rfl ?_
        refine z_nicmp_ge hC dX7_asks_70 (tgt := 78) (by decide) (by omega) (by omega) (fun c70 => ?_) (fun c70 => ?_)
        · skip
          have hn1 : (ebO (fwN D.1) (alN D.1) (k + 1 + 1)) = some (ebN (fwN D.1) (alN D.1) k) := congrArg some (if_neg (by omega))
          have hn2 : (ebD (fwN D.1) (alN D.1) (k + 1 + 1)) = dsN (fwN D.1) (alN D.1) (ebN (fwN D.1) (alN D.1) k) := congrArg (dsN (fwN D.1) (alN D.1)) (if_neg (by omega))
          refine z_ninc hC dX7_asks_78 (lo2 := [_, _, _, _, _]) rfl rfl rfl rfl ?_
          refine z_goto hC dX7_asks_81 (tgt := 24) (by decide) ?_
          first | (refine z_sub ?_ (ih (k + 1 + 1) (by omega) (by omega)); rw [hn1, hn2]; simp [zsub, oI]) | (refine z_sub ?_ (ih (0 + 1) (by omega) (by omega)); rw [hn1, hn2]; simp [zsub, oI])
        have hn1 : (ebO (fwN D.1) (alN D.1) (k + 1 + 1)) = some (k + 1) := congrArg some (if_pos (by omega))
        have hn2 : (ebD (fwN D.1) (alN D.1) (k + 1 + 1)) = dsN (fwN D.1) (alN D.1) (k + 1) := congrArg (dsN (fwN D.1) (alN D.1)) (if_pos (by omega))
        refine z_iload_n hC dX7_asks_73 rfl ?_
        refine z_istore_n hC dX7_asks_74 (lo2 := [_, _, _, _, _]) (Nat.le_of_ble_eq_true rfl) rfl rfl ?_
        refine z_iload hC dX7_asks_75 rfl ?_
        refine z_istore_n hC dX7_asks_77 (lo2 := [_, _, _, _, _]) (Nat.le_of_ble_eq_true rfl) rfl rfl ?_
        refine z_ninc hC dX7_asks_78 (lo2 := [_, _, _, _, _]) rfl rfl rfl rfl ?_
        refine z_goto hC dX7_asks_81 (tgt := 24) (by decide) ?_
        first | (refine z_sub ?_ (ih (k + 1 + 1) (by omega) (by omega)); rw [hn1, hn2]; simp [zsub, oI]) | (refine z_sub ?_ (ih (0 + 1) (by omega) (by omega)); rw [hn1, hn2]; simp [zsub, oI])
  exact z_sub (by simp [zsub, ebO, ebD, oI]) (loop24 _ 0 (Nat.lt_succ_self _) (Nat.zero_le _))

theorem w_asks_z (hS : ∀ k, S 0 k = msh 0 k) (hO : DOK D) (hM : MMe qe D I X Y) (h0 : D.1.1 0 = 0) : zC0 mX7_asks 6 [zr 0 0] (some (zi (-5))) ad S I X Y sz I (rmX 0 3 X) Y := by
  refine zgo (own := RX7) (k := 4) (by decide +kernel) rfl rfl rfl (fun C hC hnm hE => ?_)
  have hm := hM.1
  have hR := hO.1
  have hmo := hm
  have hn14 := hR.1
  have hn8 := hR.2.1
  have hn6 := hR.2.2.1
  refine z_aload_n hC dX7_asks_0 rfl ?_
  refine z_getN hC dX7_asks_1 (hS _) zfX7_94 rfl hm.1.1 ?_
  refine z_nif_ne hC dX7_asks_4 (tgt := 14) (by decide) (by omega) (fun c4 => ?_) (fun c4 => ?_)
  · exact absurd c4 (fun z => z h0)
  refine z_aload_n hC dX7_asks_7 rfl ?_
  refine z_bipush hC dX7_asks_8 (v := -5) rfl ?_
  refine wVv hC dX7_asks_10 zlX7_107 (c_X7_refuse hS (j := 3) (by decide) (by decide)) (hS _) rfl rfl rfl rfl rfl rfl ⟨rfl, rfl⟩ ?_
  refine z_iret hC dX7_asks_13 ?_
  exact hE.to (by rfl) rfl rfl rfl

theorem w_where_z (hS : ∀ k, S 0 k = msh 0 k) (hO : DOK D) (hM : MMe qe D I X Y) (h0 : D.1.1 0 = 0) : zC0 mX7_where 6 [zr 0 0] (some (zi (-5))) ad S I X Y sz I (rmX 0 3 X) Y := by
  refine zgo (own := RX7) (k := 2) (by decide +kernel) rfl rfl rfl (fun C hC hnm hE => ?_)
  have hm := hM.1
  have hR := hO.1
  have hmo := hm
  have hn14 := hR.1
  have hn8 := hR.2.1
  have hn6 := hR.2.2.1
  refine z_aload_n hC dX7_where_0 rfl ?_
  refine z_getN hC dX7_where_1 (hS _) zfX7_94 rfl hm.1.1 ?_
  refine z_nif_ne hC dX7_where_4 (tgt := 14) (by decide) (by omega) (fun c4 => ?_) (fun c4 => ?_)
  · exact absurd c4 (fun z => z h0)
  refine z_aload_n hC dX7_where_7 rfl ?_
  refine z_bipush hC dX7_where_8 (v := -5) rfl ?_
  refine wVv hC dX7_where_10 zlX7_107 (c_X7_refuse hS (j := 3) (by decide) (by decide)) (hS _) rfl rfl rfl rfl rfl rfl ⟨rfl, rfl⟩ ?_
  refine z_iret hC dX7_where_13 ?_
  exact hE.to (by rfl) rfl rfl rfl

theorem w_worst_z (hS : ∀ k, S 0 k = msh 0 k) (hO : DOK D) (hM : MMe qe D I X Y) (h0 : D.1.1 0 = 0) : zC0 mX7_worst 6 [zr 0 0] (some (zi (-5))) ad S I X Y sz I (rmX 0 3 X) Y := by
  refine zgo (own := RX7) (k := 2) (by decide +kernel) rfl rfl rfl (fun C hC hnm hE => ?_)
  have hm := hM.1
  have hR := hO.1
  have hmo := hm
  have hn14 := hR.1
  have hn8 := hR.2.1
  have hn6 := hR.2.2.1
  refine z_aload_n hC dX7_worst_0 rfl ?_
  refine z_getN hC dX7_worst_1 (hS _) zfX7_94 rfl hm.1.1 ?_
  refine z_nif_ne hC dX7_worst_4 (tgt := 14) (by decide) (by omega) (fun c4 => ?_) (fun c4 => ?_)
  · exact absurd c4 (fun z => z h0)
  refine z_aload_n hC dX7_worst_7 rfl ?_
  refine z_bipush hC dX7_worst_8 (v := -5) rfl ?_
  refine wVv hC dX7_worst_10 zlX7_107 (c_X7_refuse hS (j := 3) (by decide) (by decide)) (hS _) rfl rfl rfl rfl rfl rfl ⟨rfl, rfl⟩ ?_
  refine z_iret hC dX7_worst_13 ?_
  exact hE.to (by rfl) rfl rfl rfl

theorem m_asks (hS : ∀ k, S 0 k = msh 0 k) (hO : DOK D) (hM : MMe qe D I X Y) : mC mX7_asks 6 [zr 0 0] (some (zi (asksS D).1)) (asksS D).2 ad S I X Y sz qe := by
  unfold asksS
  by_cases h : D.1.1 0 = 0
  · rw [if_pos h]; exact ⟨_, _, Y, hM.rf (by decide), w_asks_z hS hO hM h⟩
  · rw [if_neg h]; exact ⟨_, _, Y, hM.mw, w_asks_t hS hO hM h⟩

theorem w_where_t (hS : ∀ k, S 0 k = msh 0 k) (hO : DOK D) (hM : MMe qe D I X Y) (h0 : ¬ D.1.1 0 = 0) : zC0 mX7_where 6 [zr 0 0] (some (zi (oI (gbN (fwN D.1) 0 (D.1.1 0))))) ad S I X Y sz (mwI 0 D.1 I) (mwX 0 D.1 X) Y := by
  refine zgo (own := RX7) (k := 2) (by decide +kernel) rfl rfl rfl (fun C hC hnm hE => ?_)
  have hm := hM.1
  have hR := hO.1
  have hmo := hm
  have hn14 := hR.1
  have hn8 := hR.2.1
  have hn6 := hR.2.2.1
  refine z_aload_n hC dX7_where_0 rfl ?_
  refine z_getN hC dX7_where_1 (hS _) zfX7_94 rfl hm.1.1 ?_
  refine z_nif_ne hC dX7_where_4 (tgt := 14) (by decide) (by omega) (fun c4 => ?_) (fun c4 => ?_)
  rotate_left
  · exact absurd c4 h0
  refine z_aload_n hC dX7_where_14 rfl ?_
  refine wV0 hC dX7_where_15 zlX7_294 (c_X7_weigh hS hm hR) (hS _) rfl rfl rfl rfl rfl rfl ⟨rfl, rfl⟩ ?_
  have hq : zQm 0 D.1 (mwI 0 D.1 I) (mwX 0 D.1 X) := hmo.mw
  have hw : mwF 0 D.1 (mwI 0 D.1 I) (mwX 0 D.1 X) := mwF_of
  have hss := fsum_le hR (Nat.le_refl _)
  have hhw := hwN_le (R := D.1)
  have hal : alN D.1 ≤ 15000000 := Nat.add_le_add hss hhw
  refine z_iconst hC dX7_where_18 (v := nI 0) rfl ?_
  refine z_istore_n hC dX7_where_19 (lo2 := [_, _, _]) (Nat.le_of_ble_eq_true rfl) rfl rfl ?_
  refine z_iconst hC dX7_where_20 (v := nI 1) rfl ?_
  refine z_istore_n hC dX7_where_21 (lo2 := [_, _, _]) (Nat.le_of_ble_eq_true rfl) rfl rfl ?_
  have loop22 : ∀ (fuel : Nat) (i g : Nat), D.1.1 0 - i < fuel → i ≤ D.1.1 0 → gbN (fwN D.1) 0 i = some g → zL C 3 ad S 0 0 sz (mwI 0 D.1 I) (mwX 0 D.1 X) Y 22 [some (zr 0 0), some (zi (nI g)), some (zi (nI i))] [] := by
    intro fuel
    induction fuel with
    | zero => intro i g hfu; exact absurd hfu (Nat.not_lt_zero _)
    | succ fuel ih =>
      intro i g hfu hin hg
      refine z_iload_n hC dX7_where_22 rfl ?_
      refine z_aload_n hC dX7_where_23 rfl ?_
      refine z_getN hC dX7_where_24 (hS _) zfX7_94 rfl hq.1.1 ?_
      refine z_nicmp_ge hC dX7_where_27 (tgt := 57) (by decide) (by omega) (by omega) (fun c27 => ?_) (fun c27 => ?_)
      · skip
        obtain rfl : i = D.1.1 0 := by omega
        refine z_iload_n hC dX7_where_57 rfl ?_
        refine z_iret hC dX7_where_58 ?_
        exact hE.to (by rw [hg]; rfl) rfl rfl rfl
      have hi : i < D.1.1 0 := by omega
      have hgl := gbN_lt hg
      have hf1 := (fwN_le hR hi).1
      have hf2 := (fwN_le hR (show g < D.1.1 0 by omega)).1
      refine z_aload_n hC dX7_where_30 rfl ?_
      refine z_getR hC dX7_where_31 (hS _) zfX7_86 rfl ?_
      refine z_iload_n hC dX7_where_34 rfl ?_
      refine z_naldN hC dX7_where_35 (hS _) (by omega) rfl (hw.2.2 _ (by omega)) ?_
      refine z_aload_n hC dX7_where_36 rfl ?_
      refine z_getR hC dX7_where_37 (hS _) zfX7_86 rfl ?_
      refine z_iload_n hC dX7_where_40 rfl ?_
      refine z_naldN hC dX7_where_41 (hS _) (by omega) rfl (hw.2.2 _ (by omega)) ?_
      refine z_nicmp_le hC dX7_where_42 (tgt := 49) (by decide) (by omega) (by omega) (fun c42 => ?_) (fun c42 => ?_)
      · skip
        have hnx : gbN (fwN D.1) 0 (i + 1) = some g := gbN_g bit0 hg (by omega)
        refine z_iload_n hC dX7_where_49 rfl ?_
        refine z_istore_n hC dX7_where_50 (lo2 := [_, _, _]) (Nat.le_of_ble_eq_true rfl) rfl rfl ?_
        refine z_ninc hC dX7_where_51 (lo2 := [_, _, _]) rfl rfl rfl rfl ?_
        refine z_goto hC dX7_where_54 (tgt := 22) (by decide) ?_
        exact ih (i + 1) _ (by omega) (by omega) hnx
      have hnx : gbN (fwN D.1) 0 (i + 1) = some i := gbN_l bit0 hg (by omega)
      refine z_iload_n hC dX7_where_45 rfl ?_
      refine z_goto hC dX7_where_46 (tgt := 50) (by decide) ?_
      refine z_istore_n hC dX7_where_50 (lo2 := [_, _, _]) (Nat.le_of_ble_eq_true rfl) rfl rfl ?_
      refine z_ninc hC dX7_where_51 (lo2 := [_, _, _]) rfl rfl rfl rfl ?_
      refine z_goto hC dX7_where_54 (tgt := 22) (by decide) ?_
      exact ih (i + 1) _ (by omega) (by omega) hnx
  exact loop22 _ 1 0 (Nat.lt_succ_self _) (by omega) (gbN_n bit0 rfl)

theorem m_where (hS : ∀ k, S 0 k = msh 0 k) (hO : DOK D) (hM : MMe qe D I X Y) : mC mX7_where 6 [zr 0 0] (some (zi (whereS D).1)) (whereS D).2 ad S I X Y sz qe := by
  unfold whereS
  by_cases h : D.1.1 0 = 0
  · rw [if_pos h]; exact ⟨_, _, Y, hM.rf (by decide), w_where_z hS hO hM h⟩
  · rw [if_neg h]; exact ⟨_, _, Y, hM.mw, w_where_t hS hO hM h⟩

theorem w_worst_t (hS : ∀ k, S 0 k = msh 0 k) (hO : DOK D) (hM : MMe qe D I X Y) (h0 : ¬ D.1.1 0 = 0) : zC0 mX7_worst 6 [zr 0 0] (some (zi (nI (wsN (rfall D.1 (D.1.1 3)) (D.1.1 0 - 1))))) ad S I X Y sz I X Y := by
  refine zgo (own := RX7) (k := 2) (by decide +kernel) rfl rfl rfl (fun C hC hnm hE => ?_)
  have hm := hM.1
  have hR := hO.1
  have hmo := hm
  have hn14 := hR.1
  have hn8 := hR.2.1
  have hn6 := hR.2.2.1
  refine z_aload_n hC dX7_worst_0 rfl ?_
  refine z_getN hC dX7_worst_1 (hS _) zfX7_94 rfl hm.1.1 ?_
  refine z_nif_ne hC dX7_worst_4 (tgt := 14) (by decide) (by omega) (fun c4 => ?_) (fun c4 => ?_)
  rotate_left
  · exact absurd c4 h0
  refine z_iconst hC dX7_worst_14 (v := nI 0) rfl ?_
  refine z_istore_n hC dX7_worst_15 (lo2 := [_, _, _]) (Nat.le_of_ble_eq_true rfl) rfl rfl ?_
  refine z_iconst hC dX7_worst_16 (v := nI 1) rfl ?_
  refine z_istore_n hC dX7_worst_17 (lo2 := [_, _, _]) (Nat.le_of_ble_eq_true rfl) rfl rfl ?_
  have loop18 : ∀ (fuel : Nat) (k : Nat), D.1.1 0 - (k + 1) < fuel → k + 1 ≤ D.1.1 0 → zL C 3 ad S 0 0 sz I X Y 18 [some (zr 0 0), some (zi (nI (wsN (rfall D.1 (D.1.1 3)) k))), some (zi (nI (k + 1)))] [] := by
    intro fuel
    induction fuel with
    | zero => intro k hfu; exact absurd hfu (Nat.not_lt_zero _)
    | succ fuel ih =>
      intro k hfu hk
      have hwk := wsN_le (f := (rfall D.1 (D.1.1 3))) k
      refine z_iload_n hC dX7_worst_18 rfl ?_
      refine z_aload_n hC dX7_worst_19 rfl ?_
      refine z_getN hC dX7_worst_20 (hS _) zfX7_94 rfl hm.1.1 ?_
      refine z_nicmp_ge hC dX7_worst_23 (tgt := 59) (by decide) (by omega) (by omega) (fun c23 => ?_) (fun c23 => ?_)
      · skip
        refine z_iload_n hC dX7_worst_59 rfl ?_
        refine z_iret hC dX7_worst_60 ?_
        exact hE.to (by rw [show D.1.1 0 - 1 = k by omega]) rfl rfl rfl
      have hf1 := rfall_le (v := D.1.1 3) (i := k + 1) hR (by omega) hR.2.2.2.1.2
      have hf2 := rfall_le (v := D.1.1 3) (i := wsN (rfall D.1 (D.1.1 3)) k) hR (by omega) hR.2.2.2.1.2
      refine z_aload_n hC dX7_worst_26 rfl ?_
      refine z_iload_n hC dX7_worst_27 rfl ?_
      refine z_aload_n hC dX7_worst_28 rfl ?_
      refine z_getN hC dX7_worst_29 (hS _) zfX7_70 rfl hm.1.2.2.2.1 ?_
      refine wVv hC dX7_worst_32 zlX7_128 (c_X7_fallOf hS hm hR (by omega) hR.2.2.2.1.2) (hS _) rfl rfl rfl rfl rfl rfl ⟨rfl, rfl⟩ ?_
      refine z_aload_n hC dX7_worst_35 rfl ?_
      refine z_iload_n hC dX7_worst_36 rfl ?_
      refine z_aload_n hC dX7_worst_37 rfl ?_
      refine z_getN hC dX7_worst_38 (hS _) zfX7_70 rfl hm.1.2.2.2.1 ?_
      refine wVv hC dX7_worst_41 zlX7_128 (c_X7_fallOf hS hm hR (by omega) hR.2.2.2.1.2) (hS _) rfl rfl rfl rfl rfl rfl ⟨rfl, rfl⟩ ?_
      refine z_nicmp_le hC dX7_worst_44 (tgt := 51) (by decide) (by omega) (by omega) (fun c44 => ?_) (fun c44 => ?_)
      · skip
        have hnx : wsN (rfall D.1 (D.1.1 3)) (k + 1) = wsN (rfall D.1 (D.1.1 3)) k := if_neg (by omega)
        refine z_iload_n hC dX7_worst_51 rfl ?_
        refine z_istore_n hC dX7_worst_52 (lo2 := [_, _, _]) (Nat.le_of_ble_eq_true rfl) rfl rfl ?_
        refine z_ninc hC dX7_worst_53 (lo2 := [_, _, _]) rfl rfl rfl rfl ?_
        refine z_goto hC dX7_worst_56 (tgt := 18) (by decide) ?_
        exact z_sub (by rw [hnx]; simp [zsub]) (ih (k + 1) (by omega) (by omega))
      have hnx : wsN (rfall D.1 (D.1.1 3)) (k + 1) = k + 1 := if_pos (by omega)
      refine z_iload_n hC dX7_worst_47 rfl ?_
      refine z_goto hC dX7_worst_48 (tgt := 52) (by decide) ?_
      refine z_istore_n hC dX7_worst_52 (lo2 := [_, _, _]) (Nat.le_of_ble_eq_true rfl) rfl rfl ?_
      refine z_ninc hC dX7_worst_53 (lo2 := [_, _, _]) rfl rfl rfl rfl ?_
      refine z_goto hC dX7_worst_56 (tgt := 18) (by decide) ?_
      exact z_sub (by rw [hnx]; simp [zsub]) (ih (k + 1) (by omega) (by omega))
  exact z_sub (by simp [zsub, wsN]) (loop18 _ 0 (Nat.lt_succ_self _) (by omega))

theorem m_worst (hS : ∀ k, S 0 k = msh 0 k) (hO : DOK D) (hM : MMe qe D I X Y) : mC mX7_worst 6 [zr 0 0] (some (zi (worstS D).1)) (worstS D).2 ad S I X Y sz qe := by
  unfold worstS
  by_cases h : D.1.1 0 = 0
  · rw [if_pos h]; exact ⟨_, _, Y, hM.rf (by decide), w_worst_z hS hO hM h⟩
  · rw [if_neg h]; exact ⟨_, _, Y, hM, w_worst_t hS hO hM h⟩

theorem w_last_t (hS : ∀ k, S 0 k = msh 0 k) (hO : DOK D) (hM : MMe qe D I X Y)  : zC0 mX7_last 6 [zr 0 0] (some (zi (oI (lsN (fwN D.1) (D.1.1 0))))) ad S I X Y sz (mwI 0 D.1 I) (mwX 0 D.1 X) Y := by
  refine zgo (own := RX7) (k := 2) (by decide +kernel) rfl rfl rfl (fun C hC hnm hE => ?_)
  have hm := hM.1
  have hR := hO.1
  have hmo := hm
  have hn14 := hR.1
  have hn8 := hR.2.1
  have hn6 := hR.2.2.1
  refine z_aload_n hC dX7_last_0 rfl ?_
  refine wV0 hC dX7_last_1 zlX7_294 (c_X7_weigh hS hm hR) (hS _) rfl rfl rfl rfl rfl rfl ⟨rfl, rfl⟩ ?_
  have hq : zQm 0 D.1 (mwI 0 D.1 I) (mwX 0 D.1 X) := hmo.mw
  have hw : mwF 0 D.1 (mwI 0 D.1 I) (mwX 0 D.1 X) := mwF_of
  have hss := fsum_le hR (Nat.le_refl _)
  have hhw := hwN_le (R := D.1)
  have hal : alN D.1 ≤ 15000000 := Nat.add_le_add hss hhw
  refine z_iconst hC dX7_last_4 (v := -1) rfl ?_
  refine z_istore_n hC dX7_last_5 (lo2 := [_, _, _]) (Nat.le_of_ble_eq_true rfl) rfl rfl ?_
  refine z_iconst hC dX7_last_6 (v := nI 0) rfl ?_
  refine z_istore_n hC dX7_last_7 (lo2 := [_, _, _]) (Nat.le_of_ble_eq_true rfl) rfl rfl ?_
  have loop8 : ∀ (fuel : Nat) (i : Nat), D.1.1 0 - i < fuel → i ≤ D.1.1 0 → zL C 3 ad S 0 0 sz (mwI 0 D.1 I) (mwX 0 D.1 X) Y 8 [some (zr 0 0), some (zi (oI (lsN (fwN D.1) i))), some (zi (nI i))] [] := by
    intro fuel
    induction fuel with
    | zero => intro i hfu; exact absurd hfu (Nat.not_lt_zero _)
    | succ fuel ih =>
      intro i hfu hin
      refine z_iload_n hC dX7_last_8 rfl ?_
      refine z_aload_n hC dX7_last_9 rfl ?_
      refine z_getN hC dX7_last_10 (hS _) zfX7_94 rfl hq.1.1 ?_
      refine z_nicmp_ge hC dX7_last_13 (tgt := 37) (by decide) (by omega) (by omega) (fun c13 => ?_) (fun c13 => ?_)
      · skip
        obtain rfl : i = D.1.1 0 := by omega
        refine z_iload_n hC dX7_last_37 rfl ?_
        refine z_iret hC dX7_last_38 ?_
        exact hE.to (by rfl) rfl rfl rfl
      have hi : i < D.1.1 0 := by omega
      have hf1 := (fwN_le hR hi).1
      refine z_aload_n hC dX7_last_16 rfl ?_
      refine z_getR hC dX7_last_17 (hS _) zfX7_86 rfl ?_
      refine z_iload_n hC dX7_last_20 rfl ?_
      refine z_naldN hC dX7_last_21 (hS _) (by omega) rfl (hw.2.2 _ (by omega)) ?_
      refine z_nif_le hC dX7_last_22 (tgt := 29) (by decide) (by omega) (fun c22 => ?_) (fun c22 => ?_)
      · skip
        have hnx : lsN (fwN D.1) (i + 1) = lsN (fwN D.1) i := if_neg (by omega)
        refine z_iload_n hC dX7_last_29 rfl ?_
        refine z_istore_n hC dX7_last_30 (lo2 := [_, _, _]) (Nat.le_of_ble_eq_true rfl) rfl rfl ?_
        refine z_ninc hC dX7_last_31 (lo2 := [_, _, _]) rfl rfl rfl rfl ?_
        refine z_goto hC dX7_last_34 (tgt := 8) (by decide) ?_
        exact z_sub (by rw [hnx]; simp [zsub, oI]) (ih (i + 1) (by omega) (by omega))
      have hnx : lsN (fwN D.1) (i + 1) = some i := if_pos (by omega)
      refine z_iload_n hC dX7_last_25 rfl ?_
      refine z_goto hC dX7_last_26 (tgt := 30) (by decide) ?_
      refine z_istore_n hC dX7_last_30 (lo2 := [_, _, _]) (Nat.le_of_ble_eq_true rfl) rfl rfl ?_
      refine z_ninc hC dX7_last_31 (lo2 := [_, _, _]) rfl rfl rfl rfl ?_
      refine z_goto hC dX7_last_34 (tgt := 8) (by decide) ?_
      exact z_sub (by rw [hnx]; simp [zsub, oI]) (ih (i + 1) (by omega) (by omega))
  exact z_sub (by simp [zsub, lsN, oI]) (loop8 _ 0 (Nat.lt_succ_self _) (Nat.zero_le _))

theorem m_last (hS : ∀ k, S 0 k = msh 0 k) (hO : DOK D) (hM : MMe qe D I X Y) : mC mX7_last 6 [zr 0 0] (some (zi (lastS D).1)) (lastS D).2 ad S I X Y sz qe := ⟨_, _, Y, hM.mw, w_last_t hS hO hM⟩

theorem w_after_tz (hS : ∀ k, S 0 k = msh 0 k) (hO : DOK D) (hM : MMe qe D I X Y) {x u q : Nat} (hq : q ≤ 1) (hx : x < D.1.1 0) (hu : u ≤ 100) (hf : D.1.1 1 < 8) (hz : (sumN (wtN (heedW (signW D.1 (D.1.1 1)) x q (100 - u)) (D.1.2.1 4)) (D.1.1 0) + (heedH (hwN D.1) q (100 - u))) = 0) : zC0 mX7_after 6 [zr 0 0, zi (nI x), zi (nI q), zi (nI u)] (some (zi (-5))) ad S I X Y sz (up3 (mwI 0 (raddS D.1 x q u) (up3 I 0 0 15 (nI (D.1.1 1 + 1)))) 0 0 15 (nI (D.1.1 1))) (rmX 0 3 (mwX 0 (raddS D.1 x q u) (madd3 0 22 (D.1.1 1) X x q u))) Y := by
  refine zgo (own := RX7) (k := 0) (by decide +kernel) rfl rfl rfl (fun C hC hnm hE => ?_)
  have hm := hM.1
  have hR := hO.1
  have hmo := hm
  have hn14 := hR.1
  have hn8 := hR.2.1
  have hn6 := hR.2.2.1
  have hR2 : ROK (raddS D.1 x q u) := ROK_addS hR hf hx hq hu
  refine z_aload_n hC dX7_after_0 rfl ?_
  refine z_iload_n hC dX7_after_1 rfl ?_
  refine z_n2m hC dX7_after_2 (by omega) ?_
  refine wVv hC dX7_after_3 zlX7_118 (c_X7_isBendN hS hm hR (by omega)) (hS _) rfl rfl rfl rfl rfl rfl ⟨rfl, rfl⟩ ?_
  refine w_ifb_eq hC dX7_after_6 (tgt := 21) (by decide) (fun c6 => ?_) (fun c6 => ?_)
  · exact absurd c6 (by omega)
  refine z_iload_n hC dX7_after_9 rfl ?_
  refine z_n2m hC dX7_after_10 (by omega) ?_
  refine z_lconst hC dX7_after_11 (v := lN 0) rfl ?_
  refine z_ldc2 hC dX7_after_12 (v := lN 100) (zin5 (i := 183) rfl rfl) ?_
  refine wSv hC dX7_after_15 zlX7_97 (c_X7_inN (by omega) (by omega) (by omega)) rfl rfl rfl rfl ⟨rfl, rfl⟩ ?_
  refine w_ifb_ne hC dX7_after_18 (tgt := 28) (by decide) (fun c18 => ?_) (fun c18 => ?_)
  rotate_left
  · exact absurd c18 (by omega)
  refine z_aload_n hC dX7_after_28 rfl ?_
  refine z_getN hC dX7_after_29 (hS _) zfX7_150 rfl hm.1.2.1 ?_
  refine z_bipush hC dX7_after_32 (v := nI 8) rfl ?_
  refine z_nicmp_ne hC dX7_after_34 (tgt := 44) (by decide) (by omega) (by omega) (fun c34 => ?_) (fun c34 => ?_)
  rotate_left
  · exact absurd c34 (by omega)
  refine z_aload_n hC dX7_after_44 rfl ?_
  refine z_iload_n hC dX7_after_45 rfl ?_
  refine z_iload_n hC dX7_after_46 rfl ?_
  refine z_nif_eq hC dX7_after_47 (tgt := 54) (by decide) (by omega) (fun c47 => ?_) (fun c47 => ?_)
  · skip
    have hqq : q = 0 := by omega
    refine z_iconst hC dX7_after_54 (v := nI 0) rfl ?_
    refine z_st (st2 := [zi (nI q), zi (nI x), zr 0 0]) (by rw [hqq]) ?_
    refine z_iload_n hC dX7_after_55 rfl ?_
    refine wV0 hC dX7_after_56 zlX7_155 (c_X7_addSign hS hm hR) (hS _) rfl rfl rfl rfl rfl rfl ⟨rfl, rfl⟩ ?_
    have hm2 : zQm 0 (raddS D.1 x q u) (up3 I 0 0 15 (nI (D.1.1 1 + 1))) (madd3 0 22 (D.1.1 1) X x q u) := hm.addS
    refine z_aload_n hC dX7_after_59 rfl ?_
    refine wV0 hC dX7_after_60 zlX7_294 (c_X7_weigh hS hm2 hR2) (hS _) rfl rfl rfl rfl rfl rfl ⟨rfl, rfl⟩ ?_
    have hm3 : zQm 0 (raddS D.1 x q u) (mwI 0 (raddS D.1 x q u) (up3 I 0 0 15 (nI (D.1.1 1 + 1)))) (mwX 0 (raddS D.1 x q u) (madd3 0 22 (D.1.1 1) X x q u)) := hm2.mw
    have hw2 : mwF 0 (raddS D.1 x q u) (mwI 0 (raddS D.1 x q u) (up3 I 0 0 15 (nI (D.1.1 1 + 1)))) (mwX 0 (raddS D.1 x q u) (madd3 0 22 (D.1.1 1) X x q u)) := mwF_of
    have hh2 : (heedH (hwN D.1) q (100 - u)) ≤ 20000000 := by rw [← hwN_add (x := x)]; exact Nat.le_trans hwN_le (by decide)
    have hss := fsum_le hR2 (Nat.le_refl _)
    have hhw := hwN_le (R := (raddS D.1 x q u))
    have hal : alN (raddS D.1 x q u) ≤ 15000000 := Nat.add_le_add hss hhw
    refine z_aload_n hC dX7_after_63 rfl ?_
    refine z_dup hC dX7_after_64 rfl ?_
    refine z_getN hC dX7_after_65 (hS _) zfX7_150 rfl (show _ = nI (D.1.1 1 + 1) from hm3.1.2.1) ?_
    refine z_iconst hC dX7_after_68 (v := nI 1) rfl ?_
    refine z_nsub hC dX7_after_69 (by omega) ?_
    refine z_putI hC dX7_after_70 (hS _) zfX7_150 rfl rfl rfl rfl ?_
    have hwa : (up3 (mwI 0 (raddS D.1 x q u) (up3 I 0 0 15 (nI (D.1.1 1 + 1)))) 0 0 15 (nI (D.1.1 1))) 0 0 41 = nI (alN (raddS D.1 x q u)) := (up3_ne (by omega)).trans hw2.2.1
    refine z_aload_n hC dX7_after_73 rfl ?_
    refine z_aload_n hC dX7_after_74 rfl ?_
    refine z_getN hC dX7_after_75 (hS _) zfX7_285 rfl ((up3_ne (by omega)).trans (show _ = nI (heedH (hwN D.1) q (100 - u)) from by rw [← hwN_add (x := x)]; exact hw2.1)) ?_
    refine z_n2m hC dX7_after_78 (by omega) ?_
    refine wVv hC dX7_after_79 zlX7_297 (c_X7_tho0 hS hwa (by rw [alN_add]; exact hz)) (hS _) rfl rfl rfl rfl rfl rfl ⟨rfl, rfl⟩ ?_
    refine z_iret hC dX7_after_82 ?_
    exact hE.to (by rfl) rfl rfl rfl
  have hqq : q = 1 := by omega
  refine z_iconst hC dX7_after_50 (v := nI 1) rfl ?_
  refine z_goto hC dX7_after_51 (tgt := 55) (by decide) ?_
  refine z_st (st2 := [zi (nI q), zi (nI x), zr 0 0]) (by rw [hqq]) ?_
  refine z_iload_n hC dX7_after_55 rfl ?_
  refine wV0 hC dX7_after_56 zlX7_155 (c_X7_addSign hS hm hR) (hS _) rfl rfl rfl rfl rfl rfl ⟨rfl, rfl⟩ ?_
  have hm2 : zQm 0 (raddS D.1 x q u) (up3 I 0 0 15 (nI (D.1.1 1 + 1))) (madd3 0 22 (D.1.1 1) X x q u) := hm.addS
  refine z_aload_n hC dX7_after_59 rfl ?_
  refine wV0 hC dX7_after_60 zlX7_294 (c_X7_weigh hS hm2 hR2) (hS _) rfl rfl rfl rfl rfl rfl ⟨rfl, rfl⟩ ?_
  have hm3 : zQm 0 (raddS D.1 x q u) (mwI 0 (raddS D.1 x q u) (up3 I 0 0 15 (nI (D.1.1 1 + 1)))) (mwX 0 (raddS D.1 x q u) (madd3 0 22 (D.1.1 1) X x q u)) := hm2.mw
  have hw2 : mwF 0 (raddS D.1 x q u) (mwI 0 (raddS D.1 x q u) (up3 I 0 0 15 (nI (D.1.1 1 + 1)))) (mwX 0 (raddS D.1 x q u) (madd3 0 22 (D.1.1 1) X x q u)) := mwF_of
  have hh2 : (heedH (hwN D.1) q (100 - u)) ≤ 20000000 := by rw [← hwN_add (x := x)]; exact Nat.le_trans hwN_le (by decide)
  have hss := fsum_le hR2 (Nat.le_refl _)
  have hhw := hwN_le (R := (raddS D.1 x q u))
  have hal : alN (raddS D.1 x q u) ≤ 15000000 := Nat.add_le_add hss hhw
  refine z_aload_n hC dX7_after_63 rfl ?_
  refine z_dup hC dX7_after_64 rfl ?_
  refine z_getN hC dX7_after_65 (hS _) zfX7_150 rfl (show _ = nI (D.1.1 1 + 1) from hm3.1.2.1) ?_
  refine z_iconst hC dX7_after_68 (v := nI 1) rfl ?_
  refine z_nsub hC dX7_after_69 (by omega) ?_
  refine z_putI hC dX7_after_70 (hS _) zfX7_150 rfl rfl rfl rfl ?_
  have hwa : (up3 (mwI 0 (raddS D.1 x q u) (up3 I 0 0 15 (nI (D.1.1 1 + 1)))) 0 0 15 (nI (D.1.1 1))) 0 0 41 = nI (alN (raddS D.1 x q u)) := (up3_ne (by omega)).trans hw2.2.1
  refine z_aload_n hC dX7_after_73 rfl ?_
  refine z_aload_n hC dX7_after_74 rfl ?_
  refine z_getN hC dX7_after_75 (hS _) zfX7_285 rfl ((up3_ne (by omega)).trans (show _ = nI (heedH (hwN D.1) q (100 - u)) from by rw [← hwN_add (x := x)]; exact hw2.1)) ?_
  refine z_n2m hC dX7_after_78 (by omega) ?_
  refine wVv hC dX7_after_79 zlX7_297 (c_X7_tho0 hS hwa (by rw [alN_add]; exact hz)) (hS _) rfl rfl rfl rfl rfl rfl ⟨rfl, rfl⟩ ?_
  refine z_iret hC dX7_after_82 ?_
  exact hE.to (by rfl) rfl rfl rfl

theorem w_after_tt (hS : ∀ k, S 0 k = msh 0 k) (hO : DOK D) (hM : MMe qe D I X Y) {x u q : Nat} (hq : q ≤ 1) (hx : x < D.1.1 0) (hu : u ≤ 100) (hf : D.1.1 1 < 8) (hz : ¬ (sumN (wtN (heedW (signW D.1 (D.1.1 1)) x q (100 - u)) (D.1.2.1 4)) (D.1.1 0) + (heedH (hwN D.1) q (100 - u))) = 0) : zC0 mX7_after 6 [zr 0 0, zi (nI x), zi (nI q), zi (nI u)] (some (zi (nI (1000 * (heedH (hwN D.1) q (100 - u)) / (sumN (wtN (heedW (signW D.1 (D.1.1 1)) x q (100 - u)) (D.1.2.1 4)) (D.1.1 0) + (heedH (hwN D.1) q (100 - u))))))) ad S I X Y sz (up3 (mwI 0 (raddS D.1 x q u) (up3 I 0 0 15 (nI (D.1.1 1 + 1)))) 0 0 15 (nI (D.1.1 1))) (mwX 0 (raddS D.1 x q u) (madd3 0 22 (D.1.1 1) X x q u)) Y := by
  refine zgo (own := RX7) (k := 0) (by decide +kernel) rfl rfl rfl (fun C hC hnm hE => ?_)
  have hm := hM.1
  have hR := hO.1
  have hmo := hm
  have hn14 := hR.1
  have hn8 := hR.2.1
  have hn6 := hR.2.2.1
  have hR2 : ROK (raddS D.1 x q u) := ROK_addS hR hf hx hq hu
  refine z_aload_n hC dX7_after_0 rfl ?_
  refine z_iload_n hC dX7_after_1 rfl ?_
  refine z_n2m hC dX7_after_2 (by omega) ?_
  refine wVv hC dX7_after_3 zlX7_118 (c_X7_isBendN hS hm hR (by omega)) (hS _) rfl rfl rfl rfl rfl rfl ⟨rfl, rfl⟩ ?_
  refine w_ifb_eq hC dX7_after_6 (tgt := 21) (by decide) (fun c6 => ?_) (fun c6 => ?_)
  · exact absurd c6 (by omega)
  refine z_iload_n hC dX7_after_9 rfl ?_
  refine z_n2m hC dX7_after_10 (by omega) ?_
  refine z_lconst hC dX7_after_11 (v := lN 0) rfl ?_
  refine z_ldc2 hC dX7_after_12 (v := lN 100) (zin5 (i := 183) rfl rfl) ?_
  refine wSv hC dX7_after_15 zlX7_97 (c_X7_inN (by omega) (by omega) (by omega)) rfl rfl rfl rfl ⟨rfl, rfl⟩ ?_
  refine w_ifb_ne hC dX7_after_18 (tgt := 28) (by decide) (fun c18 => ?_) (fun c18 => ?_)
  rotate_left
  · exact absurd c18 (by omega)
  refine z_aload_n hC dX7_after_28 rfl ?_
  refine z_getN hC dX7_after_29 (hS _) zfX7_150 rfl hm.1.2.1 ?_
  refine z_bipush hC dX7_after_32 (v := nI 8) rfl ?_
  refine z_nicmp_ne hC dX7_after_34 (tgt := 44) (by decide) (by omega) (by omega) (fun c34 => ?_) (fun c34 => ?_)
  rotate_left
  · exact absurd c34 (by omega)
  refine z_aload_n hC dX7_after_44 rfl ?_
  refine z_iload_n hC dX7_after_45 rfl ?_
  refine z_iload_n hC dX7_after_46 rfl ?_
  refine z_nif_eq hC dX7_after_47 (tgt := 54) (by decide) (by omega) (fun c47 => ?_) (fun c47 => ?_)
  · skip
    have hqq : q = 0 := by omega
    refine z_iconst hC dX7_after_54 (v := nI 0) rfl ?_
    refine z_st (st2 := [zi (nI q), zi (nI x), zr 0 0]) (by rw [hqq]) ?_
    refine z_iload_n hC dX7_after_55 rfl ?_
    refine wV0 hC dX7_after_56 zlX7_155 (c_X7_addSign hS hm hR) (hS _) rfl rfl rfl rfl rfl rfl ⟨rfl, rfl⟩ ?_
    have hm2 : zQm 0 (raddS D.1 x q u) (up3 I 0 0 15 (nI (D.1.1 1 + 1))) (madd3 0 22 (D.1.1 1) X x q u) := hm.addS
    refine z_aload_n hC dX7_after_59 rfl ?_
    refine wV0 hC dX7_after_60 zlX7_294 (c_X7_weigh hS hm2 hR2) (hS _) rfl rfl rfl rfl rfl rfl ⟨rfl, rfl⟩ ?_
    have hm3 : zQm 0 (raddS D.1 x q u) (mwI 0 (raddS D.1 x q u) (up3 I 0 0 15 (nI (D.1.1 1 + 1)))) (mwX 0 (raddS D.1 x q u) (madd3 0 22 (D.1.1 1) X x q u)) := hm2.mw
    have hw2 : mwF 0 (raddS D.1 x q u) (mwI 0 (raddS D.1 x q u) (up3 I 0 0 15 (nI (D.1.1 1 + 1)))) (mwX 0 (raddS D.1 x q u) (madd3 0 22 (D.1.1 1) X x q u)) := mwF_of
    have hh2 : (heedH (hwN D.1) q (100 - u)) ≤ 20000000 := by rw [← hwN_add (x := x)]; exact Nat.le_trans hwN_le (by decide)
    have hss := fsum_le hR2 (Nat.le_refl _)
    have hhw := hwN_le (R := (raddS D.1 x q u))
    have hal : alN (raddS D.1 x q u) ≤ 15000000 := Nat.add_le_add hss hhw
    refine z_aload_n hC dX7_after_63 rfl ?_
    refine z_dup hC dX7_after_64 rfl ?_
    refine z_getN hC dX7_after_65 (hS _) zfX7_150 rfl (show _ = nI (D.1.1 1 + 1) from hm3.1.2.1) ?_
    refine z_iconst hC dX7_after_68 (v := nI 1) rfl ?_
    refine z_nsub hC dX7_after_69 (by omega) ?_
    refine z_putI hC dX7_after_70 (hS _) zfX7_150 rfl rfl rfl rfl ?_
    have hwa : (up3 (mwI 0 (raddS D.1 x q u) (up3 I 0 0 15 (nI (D.1.1 1 + 1)))) 0 0 15 (nI (D.1.1 1))) 0 0 41 = nI (alN (raddS D.1 x q u)) := (up3_ne (by omega)).trans hw2.2.1
    refine z_aload_n hC dX7_after_73 rfl ?_
    refine z_aload_n hC dX7_after_74 rfl ?_
    refine z_getN hC dX7_after_75 (hS _) zfX7_285 rfl ((up3_ne (by omega)).trans (show _ = nI (heedH (hwN D.1) q (100 - u)) from by rw [← hwN_add (x := x)]; exact hw2.1)) ?_
    refine z_n2m hC dX7_after_78 (by omega) ?_
    refine wVv hC dX7_after_79 zlX7_297 (c_X7_tho1 hS hwa (by rw [alN_add]; exact hz) (Nat.le_trans hal (by decide)) hh2) (hS _) rfl rfl rfl rfl rfl rfl ⟨rfl, rfl⟩ ?_
    refine z_iret hC dX7_after_82 ?_
    exact hE.to (by rw [alN_add]) rfl rfl rfl
  have hqq : q = 1 := by omega
  refine z_iconst hC dX7_after_50 (v := nI 1) rfl ?_
  refine z_goto hC dX7_after_51 (tgt := 55) (by decide) ?_
  refine z_st (st2 := [zi (nI q), zi (nI x), zr 0 0]) (by rw [hqq]) ?_
  refine z_iload_n hC dX7_after_55 rfl ?_
  refine wV0 hC dX7_after_56 zlX7_155 (c_X7_addSign hS hm hR) (hS _) rfl rfl rfl rfl rfl rfl ⟨rfl, rfl⟩ ?_
  have hm2 : zQm 0 (raddS D.1 x q u) (up3 I 0 0 15 (nI (D.1.1 1 + 1))) (madd3 0 22 (D.1.1 1) X x q u) := hm.addS
  refine z_aload_n hC dX7_after_59 rfl ?_
  refine wV0 hC dX7_after_60 zlX7_294 (c_X7_weigh hS hm2 hR2) (hS _) rfl rfl rfl rfl rfl rfl ⟨rfl, rfl⟩ ?_
  have hm3 : zQm 0 (raddS D.1 x q u) (mwI 0 (raddS D.1 x q u) (up3 I 0 0 15 (nI (D.1.1 1 + 1)))) (mwX 0 (raddS D.1 x q u) (madd3 0 22 (D.1.1 1) X x q u)) := hm2.mw
  have hw2 : mwF 0 (raddS D.1 x q u) (mwI 0 (raddS D.1 x q u) (up3 I 0 0 15 (nI (D.1.1 1 + 1)))) (mwX 0 (raddS D.1 x q u) (madd3 0 22 (D.1.1 1) X x q u)) := mwF_of
  have hh2 : (heedH (hwN D.1) q (100 - u)) ≤ 20000000 := by rw [← hwN_add (x := x)]; exact Nat.le_trans hwN_le (by decide)
  have hss := fsum_le hR2 (Nat.le_refl _)
  have hhw := hwN_le (R := (raddS D.1 x q u))
  have hal : alN (raddS D.1 x q u) ≤ 15000000 := Nat.add_le_add hss hhw
  refine z_aload_n hC dX7_after_63 rfl ?_
  refine z_dup hC dX7_after_64 rfl ?_
  refine z_getN hC dX7_after_65 (hS _) zfX7_150 rfl (show _ = nI (D.1.1 1 + 1) from hm3.1.2.1) ?_
  refine z_iconst hC dX7_after_68 (v := nI 1) rfl ?_
  refine z_nsub hC dX7_after_69 (by omega) ?_
  refine z_putI hC dX7_after_70 (hS _) zfX7_150 rfl rfl rfl rfl ?_
  have hwa : (up3 (mwI 0 (raddS D.1 x q u) (up3 I 0 0 15 (nI (D.1.1 1 + 1)))) 0 0 15 (nI (D.1.1 1))) 0 0 41 = nI (alN (raddS D.1 x q u)) := (up3_ne (by omega)).trans hw2.2.1
  refine z_aload_n hC dX7_after_73 rfl ?_
  refine z_aload_n hC dX7_after_74 rfl ?_
  refine z_getN hC dX7_after_75 (hS _) zfX7_285 rfl ((up3_ne (by omega)).trans (show _ = nI (heedH (hwN D.1) q (100 - u)) from by rw [← hwN_add (x := x)]; exact hw2.1)) ?_
  refine z_n2m hC dX7_after_78 (by omega) ?_
  refine wVv hC dX7_after_79 zlX7_297 (c_X7_tho1 hS hwa (by rw [alN_add]; exact hz) (Nat.le_trans hal (by decide)) hh2) (hS _) rfl rfl rfl rfl rfl rfl ⟨rfl, rfl⟩ ?_
  refine z_iret hC dX7_after_82 ?_
  exact hE.to (by rw [alN_add]) rfl rfl rfl

theorem w_after_o (hS : ∀ k, S 0 k = msh 0 k) (hO : DOK D) (hM : MMe qe D I X Y) {x u : Int32} {q : Nat} (h0 : tkP D.1 4 0 x) (h1 : tkP D.1 4 1 u) (hf : D.1.1 1 = 8) : zC0 mX7_after 6 [zr 0 0, zi x, zi (nI q), zi u] (some (zi (-6))) ad S I X Y sz I (rmX 0 4 X) Y := by
  refine zgo (own := RX7) (k := 0) (by decide +kernel) rfl rfl rfl (fun C hC hnm hE => ?_)
  have hm := hM.1
  have hR := hO.1
  have hmo := hm
  have hn14 := hR.1
  have hn8 := hR.2.1
  have hn6 := hR.2.2.1
  refine z_aload_n hC dX7_after_0 rfl ?_
  refine z_iload_n hC dX7_after_1 rfl ?_
  refine z_i2l hC dX7_after_2  ?_
  refine wVv hC dX7_after_3 zlX7_118 (c_X7_isBendI hS hm hR) (hS _) rfl rfl rfl rfl rfl rfl ⟨rfl, rfl⟩ ?_
  refine w_ifb_eq hC dX7_after_6 (tgt := 21) (by decide) (fun c6 => ?_) (fun c6 => ?_)
  · exact absurd c6 (fun z => z ((tkI_40 hR.1).mp h0))
  refine z_iload_n hC dX7_after_9 rfl ?_
  refine z_i2l hC dX7_after_10  ?_
  refine z_lconst hC dX7_after_11 (v := lN 0) rfl ?_
  refine z_ldc2 hC dX7_after_12 (v := lN 100) (zin5 (i := 183) rfl rfl) ?_
  refine wSv hC dX7_after_15 zlX7_97 (c_X7_inI (by omega) (by omega)) rfl rfl rfl rfl ⟨rfl, rfl⟩ ?_
  refine w_ifb_ne hC dX7_after_18 (tgt := 28) (by decide) (fun c18 => ?_) (fun c18 => ?_)
  rotate_left
  · exact absurd c18 (fun z => z h1)
  refine z_aload_n hC dX7_after_28 rfl ?_
  refine z_getN hC dX7_after_29 (hS _) zfX7_150 rfl hm.1.2.1 ?_
  refine z_bipush hC dX7_after_32 (v := nI 8) rfl ?_
  refine z_nicmp_ne hC dX7_after_34 (tgt := 44) (by decide) (by omega) (by omega) (fun c34 => ?_) (fun c34 => ?_)
  · exact absurd c34 (fun z => z hf)
  refine z_aload_n hC dX7_after_37 rfl ?_
  refine z_bipush hC dX7_after_38 (v := -6) rfl ?_
  refine wVv hC dX7_after_40 zlX7_107 (c_X7_refuse hS (j := 4) (by decide) (by decide)) (hS _) rfl rfl rfl rfl rfl rfl ⟨rfl, rfl⟩ ?_
  refine z_iret hC dX7_after_43 ?_
  exact hE.to (by rfl) rfl rfl rfl

theorem w_after_f (hS : ∀ k, S 0 k = msh 0 k) (hO : DOK D) (hM : MMe qe D I X Y) {x u : Int32} {q : Nat} (hx : ¬ (tkP D.1 4 0 x ∧ tkP D.1 4 1 u)) : zC0 mX7_after 6 [zr 0 0, zi x, zi (nI q), zi u] (some (zi (-2))) ad S I X Y sz I (rmX 0 0 X) Y := by
  refine zgo (own := RX7) (k := 0) (by decide +kernel) rfl rfl rfl (fun C hC hnm hE => ?_)
  have hm := hM.1
  have hR := hO.1
  have hmo := hm
  have hn14 := hR.1
  have hn8 := hR.2.1
  have hn6 := hR.2.2.1
  refine z_aload_n hC dX7_after_0 rfl ?_
  refine z_iload_n hC dX7_after_1 rfl ?_
  refine z_i2l hC dX7_after_2  ?_
  refine wVv hC dX7_after_3 zlX7_118 (c_X7_isBendI hS hm hR) (hS _) rfl rfl rfl rfl rfl rfl ⟨rfl, rfl⟩ ?_
  refine w_ifb_eq hC dX7_after_6 (tgt := 21) (by decide) (fun c6 => ?_) (fun c6 => ?_)
  · skip
    refine z_aload_n hC dX7_after_21 rfl ?_
    refine z_bipush hC dX7_after_22 (v := -2) rfl ?_
    refine wVv hC dX7_after_24 zlX7_107 (c_X7_refuse hS (j := 0) (by decide) (by decide)) (hS _) rfl rfl rfl rfl rfl rfl ⟨rfl, rfl⟩ ?_
    refine z_iret hC dX7_after_27 ?_
    exact hE.to (by rfl) rfl rfl rfl
  refine z_iload_n hC dX7_after_9 rfl ?_
  refine z_i2l hC dX7_after_10  ?_
  refine z_lconst hC dX7_after_11 (v := lN 0) rfl ?_
  refine z_ldc2 hC dX7_after_12 (v := lN 100) (zin5 (i := 183) rfl rfl) ?_
  refine wSv hC dX7_after_15 zlX7_97 (c_X7_inI (by omega) (by omega)) rfl rfl rfl rfl ⟨rfl, rfl⟩ ?_
  refine w_ifb_ne hC dX7_after_18 (tgt := 28) (by decide) (fun c18 => ?_) (fun c18 => ?_)
  · exact absurd c18 (fun z => hx ⟨(tkI_40 hR.1).mpr c6, z⟩)
  refine z_aload_n hC dX7_after_21 rfl ?_
  refine z_bipush hC dX7_after_22 (v := -2) rfl ?_
  refine wVv hC dX7_after_24 zlX7_107 (c_X7_refuse hS (j := 0) (by decide) (by decide)) (hS _) rfl rfl rfl rfl rfl rfl ⟨rfl, rfl⟩ ?_
  refine z_iret hC dX7_after_27 ?_
  exact hE.to (by rfl) rfl rfl rfl

theorem MMe.aft (hM : MMe qe D I X Y) {x q u : Nat} : MMe qe D (up3 (mwI 0 (raddS D.1 x q u) (up3 I 0 0 15 (nI (D.1.1 1 + 1)))) 0 0 15 (nI (D.1.1 1))) (mwX 0 (raddS D.1 x q u) (madd3 0 22 (D.1.1 1) X x q u)) Y :=
  hM.road (R := D.1) (zQm.mw hM.1.addS).dropS (fun j _ => by rw [up3_ne (by omega)]; unfold mwI; rw [up3_ne (by omega), up3_ne (by omega), up3_ne (by omega), up3_ne (by omega)]) (fun k j _ _ => by unfold mwX; rw [zrow_ne (by omega), zrow_ne (by omega), madd3_ne (by omega)]) (fun k j => ⟨by rw [up3_ne (by omega)]; unfold mwI; rw [up3_ne (by omega), up3_ne (by omega), up3_ne (by omega), up3_ne (by omega)], by unfold mwX; rw [zrow_ne (by omega), zrow_ne (by omega), madd3_ne (by omega)]⟩)
theorem m_after (hS : ∀ k, S 0 k = msh 0 k) (hO : DOK D) (hM : MMe qe D I X Y) {x u : Int32} {q : Nat} (hq : q ≤ 1) : mC mX7_after 6 [zr 0 0, zi x, zi (nI q), zi u] (some (zi (afterS D x q u).1)) (afterS D x q u).2 ad S I X Y sz qe := by
  have hn14 := hO.1.2.1
  unfold afterS
  by_cases h : tkP D.1 4 0 x ∧ tkP D.1 4 1 u
  · rw [if_pos h]
    by_cases hf : D.1.1 1 = 8
    · rw [if_pos hf]
      exact ⟨I, rmX 0 4 X, Y, hM.rf (by decide), w_after_o hS hO hM h.1 h.2 hf⟩
    · rw [if_neg hf]
      obtain ⟨h0, h1⟩ := h
      obtain ⟨x, rfl, _, k0, e0⟩ := tkP_e hO.1 (by decide) (by decide) h0
      obtain ⟨u, rfl, _, k1, e1⟩ := tkP_e hO.1 (by decide) (by decide) h1
      have k0 := k0.2
      have k1 := k1.2
      rw [hiN_L (by decide)] at k0
      rw [hiN_n (k := 101) (by decide) (by decide)] at k1
      rw [e0, e1]
      unfold thoS
      split
      · next hz => exact ⟨_, _, Y, (hM.aft).rf (by decide), w_after_tz hS hO hM hq k0 (by omega) (by omega) hz⟩
      · next hz => exact ⟨_, _, Y, hM.aft, w_after_tt hS hO hM hq k0 (by omega) (by omega) hz⟩
  · rw [if_neg h]
    exact ⟨I, rmX 0 0 X, Y, hM.rf (by decide), w_after_f hS hO hM h⟩

theorem w_seconds_t (hS : ∀ k, S 0 k = msh 0 k) (hO : DOK D) (hM : MMe qe D I X Y) {b v : Nat} (hb : b < D.1.1 0) (h1 : 1 ≤ v) (h3 : v ≤ 3) : zC0 mX7_seconds 6 [zr 0 0, zi (nI b), zi (nI v)] (some (zi (nI (secN (D.1.2.1 2 b) v)))) ad S I X Y sz I X Y := by
  refine zgo (own := RX7) (k := 0) (by decide +kernel) rfl rfl rfl (fun C hC hnm hE => ?_)
  have hm := hM.1
  have hR := hO.1
  have hmo := hm
  have hn14 := hR.1
  have hn8 := hR.2.1
  have hn6 := hR.2.2.1
  refine z_aload_n hC dX7_seconds_0 rfl ?_
  refine z_iload_n hC dX7_seconds_1 rfl ?_
  refine z_n2m hC dX7_seconds_2 (by omega) ?_
  refine wVv hC dX7_seconds_3 zlX7_118 (c_X7_isBendN hS hm hR (by omega)) (hS _) rfl rfl rfl rfl rfl rfl ⟨rfl, rfl⟩ ?_
  refine w_ifb_eq hC dX7_seconds_6 (tgt := 25) (by decide) (fun c6 => ?_) (fun c6 => ?_)
  · exact absurd c6 (by omega)
  refine z_iload_n hC dX7_seconds_9 rfl ?_
  refine wSv hC dX7_seconds_10 zlX7_309 (c_X7_isLookN (by omega)) rfl rfl rfl rfl ⟨rfl, rfl⟩ ?_
  refine w_ifb_eq hC dX7_seconds_13 (tgt := 25) (by decide) (fun c13 => ?_) (fun c13 => ?_)
  · exact absurd c13 (by omega)
  refine z_aload_n hC dX7_seconds_16 rfl ?_
  refine z_iload_n hC dX7_seconds_17 rfl ?_
  refine z_iload_n hC dX7_seconds_18 rfl ?_
  refine wVv hC dX7_seconds_19 zlX7_312 (c_X7_secondsOf hS hm hR hb h3) (hS _) rfl rfl rfl rfl rfl rfl ⟨rfl, rfl⟩ ?_
  refine z_goto hC dX7_seconds_22 (tgt := 31) (by decide) ?_
  refine z_iret hC dX7_seconds_31 ?_
  exact hE.to (by rfl) rfl rfl rfl

theorem w_found_t (hS : ∀ k, S 0 k = msh 0 k) (hO : DOK D) (hM : MMe qe D I X Y) {b v : Nat} (hb : b < D.1.1 0) (h1 : 1 ≤ v) (h3 : v ≤ 3) : zC0 mX7_found 6 [zr 0 0, zi (nI b), zi (nI v)] (some (zi (nI (fbN (fwN D.1) b v)))) ad S I X Y sz (mwI 0 D.1 I) (mwX 0 D.1 X) Y := by
  refine zgo (own := RX7) (k := 0) (by decide +kernel) rfl rfl rfl (fun C hC hnm hE => ?_)
  have hm := hM.1
  have hR := hO.1
  have hmo := hm
  have hn14 := hR.1
  have hn8 := hR.2.1
  have hn6 := hR.2.2.1
  refine z_aload_n hC dX7_found_0 rfl ?_
  refine z_iload_n hC dX7_found_1 rfl ?_
  refine z_n2m hC dX7_found_2 (by omega) ?_
  refine wVv hC dX7_found_3 zlX7_118 (c_X7_isBendN hS hm hR (by omega)) (hS _) rfl rfl rfl rfl rfl rfl ⟨rfl, rfl⟩ ?_
  refine w_ifb_eq hC dX7_found_6 (tgt := 16) (by decide) (fun c6 => ?_) (fun c6 => ?_)
  · exact absurd c6 (by omega)
  refine z_iload_n hC dX7_found_9 rfl ?_
  refine wSv hC dX7_found_10 zlX7_309 (c_X7_isLookN (by omega)) rfl rfl rfl rfl ⟨rfl, rfl⟩ ?_
  refine w_ifb_ne hC dX7_found_13 (tgt := 23) (by decide) (fun c13 => ?_) (fun c13 => ?_)
  rotate_left
  · exact absurd c13 (by omega)
  refine z_aload_n hC dX7_found_23 rfl ?_
  refine wV0 hC dX7_found_24 zlX7_294 (c_X7_weigh hS hm hR) (hS _) rfl rfl rfl rfl rfl rfl ⟨rfl, rfl⟩ ?_
  have hq : zQm 0 D.1 (mwI 0 D.1 I) (mwX 0 D.1 X) := hmo.mw
  have hw : mwF 0 D.1 (mwI 0 D.1 I) (mwX 0 D.1 X) := mwF_of
  have hss := fsum_le hR (Nat.le_refl _)
  have hhw := hwN_le (R := D.1)
  have hal : alN D.1 ≤ 15000000 := Nat.add_le_add hss hhw
  refine z_aload_n hC dX7_found_27 rfl ?_
  refine z_iload_n hC dX7_found_28 rfl ?_
  refine z_iload_n hC dX7_found_29 rfl ?_
  refine wVv hC dX7_found_30 zlX7_315 (c_X7_foundBy hS hq hR hw hb h1 h3) (hS _) rfl rfl rfl rfl rfl rfl ⟨rfl, rfl⟩ ?_
  refine z_iret hC dX7_found_33 ?_
  exact hE.to (by rfl) rfl rfl rfl

theorem w_seconds_f (hS : ∀ k, S 0 k = msh 0 k) (hO : DOK D) (hM : MMe qe D I X Y) {x y : Int32} (hx : ¬ (inB x (D.1.1 0) ∧ iw y 1 3)) : zC0 mX7_seconds 6 [zr 0 0, zi x, zi y] (some (zi (-2))) ad S I X Y sz I (rmX 0 0 X) Y := by
  refine zgo (own := RX7) (k := 0) (by decide +kernel) rfl rfl rfl (fun C hC hnm hE => ?_)
  have hm := hM.1
  have hR := hO.1
  have hmo := hm
  have hn14 := hR.1
  have hn8 := hR.2.1
  have hn6 := hR.2.2.1
  refine z_aload_n hC dX7_seconds_0 rfl ?_
  refine z_iload_n hC dX7_seconds_1 rfl ?_
  refine z_i2l hC dX7_seconds_2  ?_
  refine wVv hC dX7_seconds_3 zlX7_118 (c_X7_isBendI hS hm hR) (hS _) rfl rfl rfl rfl rfl rfl ⟨rfl, rfl⟩ ?_
  refine w_ifb_eq hC dX7_seconds_6 (tgt := 25) (by decide) (fun c6 => ?_) (fun c6 => ?_)
  · skip
    refine z_aload_n hC dX7_seconds_25 rfl ?_
    refine z_bipush hC dX7_seconds_26 (v := -2) rfl ?_
    refine wVv hC dX7_seconds_28 zlX7_107 (c_X7_refuse hS (j := 0) (by decide) (by decide)) (hS _) rfl rfl rfl rfl rfl rfl ⟨rfl, rfl⟩ ?_
    refine z_iret hC dX7_seconds_31 ?_
    exact hE.to (by rfl) rfl rfl rfl
  refine z_iload_n hC dX7_seconds_9 rfl ?_
  refine wSv hC dX7_seconds_10 zlX7_309 c_X7_isLookI rfl rfl rfl rfl ⟨rfl, rfl⟩ ?_
  refine w_ifb_eq hC dX7_seconds_13 (tgt := 25) (by decide) (fun c13 => ?_) (fun c13 => ?_)
  rotate_left
  · exact absurd c13 (fun z => hx ⟨c6, z⟩)
  refine z_aload_n hC dX7_seconds_25 rfl ?_
  refine z_bipush hC dX7_seconds_26 (v := -2) rfl ?_
  refine wVv hC dX7_seconds_28 zlX7_107 (c_X7_refuse hS (j := 0) (by decide) (by decide)) (hS _) rfl rfl rfl rfl rfl rfl ⟨rfl, rfl⟩ ?_
  refine z_iret hC dX7_seconds_31 ?_
  exact hE.to (by rfl) rfl rfl rfl

theorem m_seconds (hS : ∀ k, S 0 k = msh 0 k) (hO : DOK D) (hM : MMe qe D I X Y) {x y : Int32} : mC mX7_seconds 6 [zr 0 0, zi x, zi y] (some (zi (secondsS D x y).1)) (secondsS D x y).2 ad S I X Y sz qe := by
  have hn14 := hO.1.1
  unfold secondsS
  by_cases h : inB x (D.1.1 0) ∧ iw y 1 3
  · rw [if_pos h]
    obtain ⟨b, hb, rfl, e1⟩ := inB_e h.1 (by omega)
    obtain ⟨v, h1, h9, rfl, e2⟩ := iw_e h.2 (by decide) (by decide)
    rw [e1, e2]
    exact ⟨_, _, Y, hM, w_seconds_t hS hO hM hb h1 h9⟩
  · rw [if_neg h]
    exact ⟨I, rmX 0 0 X, Y, hM.rf (by decide), w_seconds_f hS hO hM h⟩

theorem w_found_f (hS : ∀ k, S 0 k = msh 0 k) (hO : DOK D) (hM : MMe qe D I X Y) {x y : Int32} (hx : ¬ (inB x (D.1.1 0) ∧ iw y 1 3)) : zC0 mX7_found 6 [zr 0 0, zi x, zi y] (some (zi (-2))) ad S I X Y sz I (rmX 0 0 X) Y := by
  refine zgo (own := RX7) (k := 0) (by decide +kernel) rfl rfl rfl (fun C hC hnm hE => ?_)
  have hm := hM.1
  have hR := hO.1
  have hmo := hm
  have hn14 := hR.1
  have hn8 := hR.2.1
  have hn6 := hR.2.2.1
  refine z_aload_n hC dX7_found_0 rfl ?_
  refine z_iload_n hC dX7_found_1 rfl ?_
  refine z_i2l hC dX7_found_2  ?_
  refine wVv hC dX7_found_3 zlX7_118 (c_X7_isBendI hS hm hR) (hS _) rfl rfl rfl rfl rfl rfl ⟨rfl, rfl⟩ ?_
  refine w_ifb_eq hC dX7_found_6 (tgt := 16) (by decide) (fun c6 => ?_) (fun c6 => ?_)
  · skip
    refine z_aload_n hC dX7_found_16 rfl ?_
    refine z_bipush hC dX7_found_17 (v := -2) rfl ?_
    refine wVv hC dX7_found_19 zlX7_107 (c_X7_refuse hS (j := 0) (by decide) (by decide)) (hS _) rfl rfl rfl rfl rfl rfl ⟨rfl, rfl⟩ ?_
    refine z_iret hC dX7_found_22 ?_
    exact hE.to (by rfl) rfl rfl rfl
  refine z_iload_n hC dX7_found_9 rfl ?_
  refine wSv hC dX7_found_10 zlX7_309 c_X7_isLookI rfl rfl rfl rfl ⟨rfl, rfl⟩ ?_
  refine w_ifb_ne hC dX7_found_13 (tgt := 23) (by decide) (fun c13 => ?_) (fun c13 => ?_)
  · exact absurd c13 (fun z => hx ⟨c6, z⟩)
  refine z_aload_n hC dX7_found_16 rfl ?_
  refine z_bipush hC dX7_found_17 (v := -2) rfl ?_
  refine wVv hC dX7_found_19 zlX7_107 (c_X7_refuse hS (j := 0) (by decide) (by decide)) (hS _) rfl rfl rfl rfl rfl rfl ⟨rfl, rfl⟩ ?_
  refine z_iret hC dX7_found_22 ?_
  exact hE.to (by rfl) rfl rfl rfl

theorem m_found (hS : ∀ k, S 0 k = msh 0 k) (hO : DOK D) (hM : MMe qe D I X Y) {x y : Int32} : mC mX7_found 6 [zr 0 0, zi x, zi y] (some (zi (foundS D x y).1)) (foundS D x y).2 ad S I X Y sz qe := by
  have hn14 := hO.1.1
  unfold foundS
  by_cases h : inB x (D.1.1 0) ∧ iw y 1 3
  · rw [if_pos h]
    obtain ⟨b, hb, rfl, e1⟩ := inB_e h.1 (by omega)
    obtain ⟨v, h1, h9, rfl, e2⟩ := iw_e h.2 (by decide) (by decide)
    rw [e1, e2]
    exact ⟨_, _, Y, hM.mw, w_found_t hS hO hM hb h1 h9⟩
  · rw [if_neg h]
    exact ⟨I, rmX 0 0 X, Y, hM.rf (by decide), w_found_f hS hO hM h⟩

theorem w_next_t (hS : ∀ k, S 0 k = msh 0 k) (hO : DOK D) (hM : MMe qe D I X Y)  : zC0 mX7_next 6 [zr 0 0] (some (zi (oI (nxF D.1 (D.1.2.1 4))))) ad S I X Y sz (mwI 0 D.1 I) (mwX 0 D.1 X) Y := by
  refine zgo (own := RX7) (k := 0) (by decide +kernel) rfl rfl rfl (fun C hC hnm hE => ?_)
  have hm := hM.1
  have hR := hO.1
  have hmo := hm
  have hn14 := hR.1
  have hn8 := hR.2.1
  have hn6 := hR.2.2.1
  refine z_aload_n hC dX7_next_0 rfl ?_
  refine wVv hC dX7_next_1 zlX7_330 (c_X7_nextNow hS hm hR) (hS _) rfl rfl rfl rfl rfl rfl ⟨rfl, rfl⟩ ?_
  refine z_iret hC dX7_next_4 ?_
  exact hE.to (by rfl) rfl rfl rfl

theorem m_next (hS : ∀ k, S 0 k = msh 0 k) (hO : DOK D) (hM : MMe qe D I X Y) : mC mX7_next 6 [zr 0 0] (some (zi (nextS' D).1)) (nextS' D).2 ad S I X Y sz qe := ⟨_, _, Y, hM.mw, w_next_t hS hO hM⟩

end
