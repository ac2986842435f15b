/-! the law: its loop -/
theorem L_i6 {a L : Nat} (ha : a < 100000) (hL : L ≤ 3072) (h : ¬ (nI L - nI 6 : Int32) < nI a) : a + 6 ≤ L := by
  have h1 : (nI L).toInt = (L : Int) := nI_toInt (by omega)
  have h6 : (nI 6 : Int32).toInt = 6 := nI_toInt (n := 6) (by decide)
  have h2 : (nI a).toInt = (a : Int) := nI_toInt (by omega)
  have h3 : (nI L - nI 6 : Int32).toInt = (L : Int) - 6 := by
    rw [Int32.toInt_sub, h1, h6]
    exact Int.bmod_eq_of_le (by omega) (by omega)
  have h4 : ¬ (nI L - nI 6 : Int32).toInt < (nI a).toInt := fun z => h (Int32.lt_iff_toInt_lt.mpr z)
  rw [h3, h2] at h4
  omega
theorem nI_add6 (n : Nat) : nI (n + 6) = nI n + nI 6 := Int32.ofNat_add n 6
theorem L_sw {v : Int32} : (v.toInt < 0 ∨ 59 < v.toInt) ∨ ∃ k : Nat, k < 60 ∧ v = nI k := by
  by_cases h1 : v.toInt < 0
  · exact Or.inl (Or.inl h1)
  · by_cases h2 : 59 < v.toInt
    · exact Or.inl (Or.inr h2)
    · refine Or.inr ⟨v.toInt.toNat, by omega, Int32.toInt_inj.mp ?_⟩
      rw [nI_toInt (by omega)]
      omega
abbrev lwE (C : zC) : Prop := ∀ (ad : zA) (S : zSh) (cells slots sz : Nat) (I X : zI) (Y : zY) (lo : List (Option zV)), cells ≤ 276180 → slots ≤ 8273710 → zL C 4 ad S cells slots sz I X Y 1978 lo [zi 1]
section
variable {C : zC} {f : zA} {L b : Nat} {xs : Nat → Int32}
theorem L_step (hS : lwH C f b L xs) {D : DS} {z1 z2 cells slots sz i : Nat} {qe ke : Bool} {I X : zI} {Y : zY} (hi : i + 5 < L) (hO : DOK D) (hke : D.2.1.isSome = true → ke = true) (hD : DMe D I X Y) (hM : MMe qe D I X Y) (hr : cells + 47 ≤ 276180 ∧ slots + 14378 ≤ 8273710) (K : lwK C f (cells + 47) (slots + 14378) i) {v : Int32} : zL C 4 (aB f z1 z2) (lS qe ke) cells slots sz I X Y 33 [some (zr 8 0), some (zr 3 0), some (zr 0 0), some (zi (nI i))] [zi v] := by
  have hC := hS.1 z1 z2
  rcases (L_sw (v := v)) with h | ⟨k, hk, hv⟩
  · refine z_tableOut hC dL_law_33 h rfl ?_
    exact z_widen (k := cells + 47) (n := slots + 14378) (by omega) (by omega) (K D z1 z2 qe ke sz I X Y hO hke hD hM)
  · match k, hk, hv with
    | 0, _, hv => exact z_tabK (tgt := 288) hC dL_law_33 hv (by decide) rfl rfl (L_row hS hi hO hke hD hM hr K)
    | 1, _, hv => exact z_tabK (tgt := 331) hC dL_law_33 hv (by decide) rfl rfl (L_set hS hi hO hke hD hM hr K)
    | 2, _, hv => exact z_tabK (tgt := 404) hC dL_law_33 hv (by decide) rfl rfl (L_copy hS hi hO hke hD hM hr K)
    | 3, _, hv => exact z_tabK (tgt := 467) hC dL_law_33 hv (by decide) rfl rfl (L_element hS hi hO hke hD hM hr K)
    | 4, _, hv => exact z_tabK (tgt := 501) hC dL_law_33 hv (by decide) rfl rfl (L_holds hS hi hO hke hD hM hr K)
    | 5, _, hv => exact z_tabK (tgt := 524) hC dL_law_33 hv (by decide) rfl rfl (L_show hS hi hO hke hD hM hr K)
    | 6, _, hv => exact z_tabK (tgt := 557) hC dL_law_33 hv (by decide) rfl rfl (L_says hS hi hO hke hD hM hr K)
    | 7, _, hv => exact z_tabK (tgt := 590) hC dL_law_33 hv (by decide) rfl rfl (L_bend hS hi hO hke hD hM hr K)
    | 8, _, hv => exact z_tabK (tgt := 643) hC dL_law_33 hv (by decide) rfl rfl (L_ask hS hi hO hke hD hM hr K)
    | 9, _, hv => exact z_tabK (tgt := 676) hC dL_law_33 hv (by decide) rfl rfl (L_sign hS hi hO hke hD hM hr K)
    | 10, _, hv => exact z_tabK (tgt := 735) hC dL_law_33 hv (by decide) rfl rfl (L_anew hS hi hO hke hD hM hr K)
    | 11, _, hv => exact z_tabK (tgt := 748) hC dL_law_33 hv (by decide) rfl rfl (L_feed hS hi hO hke hD hM hr K)
    | 12, _, hv => exact z_tabK (tgt := 771) hC dL_law_33 hv (by decide) rfl rfl (L_wipe hS hi hO hke hD hM hr K)
    | 13, _, hv => exact z_tabK (tgt := 784) hC dL_law_33 hv (by decide) rfl rfl (L_way hS hi hO hke hD hM hr K)
    | 14, _, hv => exact z_tabK (tgt := 797) hC dL_law_33 hv (by decide) rfl rfl (L_bendOf hS hi hO hke hD hM hr K)
    | 15, _, hv => exact z_tabK (tgt := 830) hC dL_law_33 hv (by decide) rfl rfl (L_signOf hS hi hO hke hD hM hr K)
    | 16, _, hv => exact z_tabK (tgt := 863) hC dL_law_33 hv (by decide) rfl rfl (L_fall hS hi hO hke hD hM hr K)
    | 17, _, hv => exact z_tabK (tgt := 896) hC dL_law_33 hv (by decide) rfl rfl (L_fell hS hi hO hke hD hM hr K)
    | 18, _, hv => exact z_tabK (tgt := 929) hC dL_law_33 hv (by decide) rfl rfl (L_weight hS hi hO hke hD hM hr K)
    | 19, _, hv => exact z_tabK (tgt := 952) hC dL_law_33 hv (by decide) rfl rfl (L_likely hS hi hO hke hD hM hr K)
    | 20, _, hv => exact z_tabK (tgt := 975) hC dL_law_33 hv (by decide) rfl rfl (L_between hS hi hO hke hD hM hr K)
    | 21, _, hv => exact z_tabK (tgt := 1008) hC dL_law_33 hv (by decide) rfl rfl (L_half hS hi hO hke hD hM hr K)
    | 22, _, hv => exact z_tabK (tgt := 1021) hC dL_law_33 hv (by decide) rfl rfl (L_few hS hi hO hke hD hM hr K)
    | 23, _, hv => exact z_tabK (tgt := 1044) hC dL_law_33 hv (by decide) rfl rfl (L_asks hS hi hO hke hD hM hr K)
    | 24, _, hv => exact z_tabK (tgt := 1057) hC dL_law_33 hv (by decide) rfl rfl (L_after hS hi hO hke hD hM hr K)
    | 25, _, hv => exact z_tabK (tgt := 1116) hC dL_law_33 hv (by decide) rfl rfl (L_where hS hi hO hke hD hM hr K)
    | 26, _, hv => exact z_tabK (tgt := 1129) hC dL_law_33 hv (by decide) rfl rfl (L_seconds hS hi hO hke hD hM hr K)
    | 27, _, hv => exact z_tabK (tgt := 1162) hC dL_law_33 hv (by decide) rfl rfl (L_found hS hi hO hke hD hM hr K)
    | 28, _, hv => exact z_tabK (tgt := 1195) hC dL_law_33 hv (by decide) rfl rfl (L_best hS hi hO hke hD hM hr K)
    | 29, _, hv => exact z_tabK (tgt := 1228) hC dL_law_33 hv (by decide) rfl rfl (L_next hS hi hO hke hD hM hr K)
    | 30, _, hv => exact z_tabK (tgt := 1241) hC dL_law_33 hv (by decide) rfl rfl (L_soonest hS hi hO hke hD hM hr K)
    | 31, _, hv => exact z_tabK (tgt := 1264) hC dL_law_33 hv (by decide) rfl rfl (L_order hS hi hO hke hD hM hr K)
    | 32, _, hv => exact z_tabK (tgt := 1287) hC dL_law_33 hv (by decide) rfl rfl (L_vain hS hi hO hke hD hM hr K)
    | 33, _, hv => exact z_tabK (tgt := 1310) hC dL_law_33 hv (by decide) rfl rfl (L_others hS hi hO hke hD hM hr K)
    | 34, _, hv => exact z_tabK (tgt := 1333) hC dL_law_33 hv (by decide) rfl rfl (L_fast hS hi hO hke hD hM hr K)
    | 35, _, hv => exact z_tabK (tgt := 1356) hC dL_law_33 hv (by decide) rfl rfl (L_drove hS hi hO hke hD hM hr K)
    | 36, _, hv => exact z_tabK (tgt := 1379) hC dL_law_33 hv (by decide) rfl rfl (L_gripFor hS hi hO hke hD hM hr K)
    | 37, _, hv => exact z_tabK (tgt := 1402) hC dL_law_33 hv (by decide) rfl rfl (L_otherwise hS hi hO hke hD hM hr K)
    | 38, _, hv => exact z_tabK (tgt := 1415) hC dL_law_33 hv (by decide) rfl rfl (L_slows hS hi hO hke hD hM hr K)
    | 39, _, hv => exact z_tabK (tgt := 1438) hC dL_law_33 hv (by decide) rfl rfl (L_without hS hi hO hke hD hM hr K)
    | 40, _, hv => exact z_tabK (tgt := 1461) hC dL_law_33 hv (by decide) rfl rfl (L_once hS hi hO hke hD hM hr K)
    | 41, _, hv => exact z_tabK (tgt := 1484) hC dL_law_33 hv (by decide) rfl rfl (L_until hS hi hO hke hD hM hr K)
    | 42, _, hv => exact z_tabK (tgt := 1507) hC dL_law_33 hv (by decide) rfl rfl (L_worst hS hi hO hke hD hM hr K)
    | 43, _, hv => exact z_tabK (tgt := 1520) hC dL_law_33 hv (by decide) rfl rfl (L_last hS hi hO hke hD hM hr K)
    | 44, _, hv => exact z_tabK (tgt := 1533) hC dL_law_33 hv (by decide) rfl rfl (L_call hS hi hO hke hD hM hr K)
    | 45, _, hv => exact z_tabK (tgt := 1576) hC dL_law_33 hv (by decide) rfl rfl (L_callOf hS hi hO hke hD hM hr K)
    | 46, _, hv => exact z_tabK (tgt := 1609) hC dL_law_33 hv (by decide) rfl rfl (L_hears hS hi hO hke hD hM hr K)
    | 47, _, hv => exact z_tabK (tgt := 1632) hC dL_law_33 hv (by decide) rfl rfl (L_rings hS hi hO hke hD hM hr K)
    | 48, _, hv => exact z_tabK (tgt := 1655) hC dL_law_33 hv (by decide) rfl rfl (L_worth hS hi hO hke hD hM hr K)
    | 49, _, hv => exact z_tabK (tgt := 1698) hC dL_law_33 hv (by decide) rfl rfl (L_judge hS hi hO hke hD hM hr K)
    | 50, _, hv => exact z_tabK (tgt := 1731) hC dL_law_33 hv (by decide) rfl rfl (L_apart hS hi hO hke hD hM hr K)
    | 51, _, hv => exact z_tabK (tgt := 1764) hC dL_law_33 hv (by decide) rfl rfl (L_search hS hi hO hke hD hM hr K)
    | 52, _, hv => exact z_tabK (tgt := 1807) hC dL_law_33 hv (by decide) rfl rfl (L_lies hS hi hO hke hD hM hr K)
    | 53, _, hv => exact z_tabK (tgt := 1830) hC dL_law_33 hv (by decide) rfl rfl (L_drive hS hi hO hke hD hM hr K)
    | 54, _, hv => exact z_tabK (tgt := 1843) hC dL_law_33 hv (by decide) rfl rfl (L_look hS hi hO hke hD hM hr K)
    | 55, _, hv => exact z_tabK (tgt := 1876) hC dL_law_33 hv (by decide) rfl rfl (L_trips hS hi hO hke hD hM hr K)
    | 56, _, hv => exact z_tabK (tgt := 1899) hC dL_law_33 hv (by decide) rfl rfl (L_seed hS hi hO hke hD hM hr K)
    | 57, _, hv => exact z_tabK (tgt := 1922) hC dL_law_33 hv (by decide) rfl rfl (L_image hS hi hO hke hD hM hr K)
    | 58, _, hv => exact z_tabK (tgt := 1935) hC dL_law_33 hv (by decide) rfl rfl (L_back hS hi hO hke hD hM hr K)
    | 59, _, hv => exact z_tabK (tgt := 1948) hC dL_law_33 hv (by decide) rfl rfl (L_status hS hi hO hke hD hM hr K)
    | k + 60, hk, _ => omega
theorem L_loop (hS : lwH C f b L xs) (hE : lwE C) : ∀ (n t : Nat) (D : DS) (z1 z2 : Nat) (qe ke : Bool) (sz : Nat) (I X : zI) (Y : zY), L < 6 * (t + n) → 6 * t ≤ 3077 → DOK D → (D.2.1.isSome = true → ke = true) → DMe D I X Y → MMe qe D I X Y → zL C 4 (aB f z1 z2) (lS qe ke) (98 + 47 * t) (17237 + 14378 * t) sz I X Y 18 [some (zr 8 0), some (zr 3 0), some (zr 0 0), some (zi (nI (6 * t)))] [] := by
  have hL := hS.2.2.2.2.2
  intro n
  induction n with
  | zero =>
    intro t D z1 z2 qe ke sz I X Y hn ht hO hke hD hM
    have hC := hS.1 z1 z2
    refine z_iload_n hC dL_law_18 rfl ?_
    refine z_aload_n hC dL_law_19 rfl ?_
    refine z_slen hC hS.2.1 hS.2.2.1 hS.2.2.2.1 hS.2.2.2.2.1 dL_law_20 ?_
    refine z_bipush (v := nI 6) hC dL_law_21 rfl ?_
    refine z_isub hC dL_law_23 ?_
    refine z_icmp_gt (tgt := 1977) hC dL_law_24 rfl (fun _ => ?_) (fun h => ?_)
    · refine z_iconst (v := 1) hC dL_law_1977 rfl ?_
      exact hE _ _ _ _ _ _ _ _ _ (by omega) (by omega)
    · exact absurd (L_i6 (by omega) hL h) (by omega)
  | succ n ih =>
    intro t D z1 z2 qe ke sz I X Y hn ht hO hke hD hM
    have hC := hS.1 z1 z2
    refine z_iload_n hC dL_law_18 rfl ?_
    refine z_aload_n hC dL_law_19 rfl ?_
    refine z_slen hC hS.2.1 hS.2.2.1 hS.2.2.2.1 hS.2.2.2.2.1 dL_law_20 ?_
    refine z_bipush (v := nI 6) hC dL_law_21 rfl ?_
    refine z_isub hC dL_law_23 ?_
    refine z_icmp_gt (tgt := 1977) hC dL_law_24 rfl (fun _ => ?_) (fun h => ?_)
    · refine z_iconst (v := 1) hC dL_law_1977 rfl ?_
      exact hE _ _ _ _ _ _ _ _ _ (by omega) (by omega)
    have h6 := L_i6 (by omega) hL h
    refine z_aload_n hC dL_law_27 rfl ?_
    refine z_iload_n hC dL_law_28 rfl ?_
    refine z_sld hC hS.2.1 hS.2.2.1 hS.2.2.2.1 hS.2.2.2.2.1 (by omega) (by omega) dL_law_29 ?_
    refine z_bipush (v := nI 63) hC dL_law_30 rfl ?_
    refine z_iand hC dL_law_32 ?_
    refine L_step hS (by omega) hO hke hD hM ⟨by omega, by omega⟩ ?_
    intro D2 w1 w2 qe2 ke2 sz2 I2 X2 Y2 hO2 hke2 hD2 hM2
    have hC2 := hS.1 w1 w2
    refine z_iinc hC2 (v := nI 6) (lo2 := [some (zr 8 0), some (zr 3 0), some (zr 0 0), some (zi (nI (6 * (t + 1))))]) dL_law_1971 rfl rfl (by decide) rfl ?_ ?_
    · have e : nI (6 * t) + nI 6 = nI (6 * (t + 1)) := by
        rw [show 6 * (t + 1) = 6 * t + 6 by omega]
        exact (nI_add6 (6 * t)).symm
      rw [e]; rfl
    refine z_goto (tgt := 18) hC2 dL_law_1974 rfl ?_
    have e1 : 98 + 47 * t + 47 = 98 + 47 * (t + 1) := by omega
    have e2 : 17237 + 14378 * t + 14378 = 17237 + 14378 * (t + 1) := by omega
    rw [e1, e2]
    exact ih (t + 1) D2 w1 w2 qe2 ke2 sz2 I2 X2 Y2 (by omega) (by omega) hO2 hke2 hD2 hM2
theorem L_dz {b k j : Nat} (h : ¬ b = 3) : devI (fun _ _ _ => 0) b k j = 0 := by
  unfold devI
  rw [shI_off (by omega)]
  unfold devJ
  rw [up3_ne (by omega), up3_ne (by omega), up3_ne (by omega), tapI_off (by omega), up3_ne (by omega), plaI_off (by omega), up3_ne (by omega), wgtI_off (by omega), up3_ne (by omega), roadI_off (by omega), up3_ne (by omega), roadI_off (by omega), up3_ne (by omega), roadI_off (by omega)]
theorem L_s0 : zmd 0 (zdf (fun _ _ => none)) = lS false false := by
  funext b k
  unfold zmd zdf lS
  by_cases e0 : b = 0
  · rw [if_pos e0, if_pos e0]
  · rw [if_neg e0, if_neg e0]
    by_cases e1 : b = 1
    · subst e1; rfl
    · rw [if_neg e1]
      by_cases e2 : b = 2
      · subst e2; rfl
      · rw [if_neg e2]
theorem L_m0 : MMe false D0 (modI 0 (devI (fun _ _ _ => 0))) (fun _ _ _ => 0) (fun _ _ _ => 0) := by
  have m : ∀ j, (j = 7 ∨ j = 9 ∨ j = 15 ∨ j = 19 ∨ j = 24 ∨ j = 25 ∨ j = 28 ∨ j = 29) → modI 0 (devI (fun _ _ _ => 0)) 0 0 j = nI 0 := by
    intro j hj
    rw [modI_v, L_dz (by decide)]
    rcases hj with rfl | rfl | rfl | rfl | rfl | rfl | rfl | rfl <;> rfl
  have m23 : modI 0 (devI (fun _ _ _ => 0)) 0 0 23 = nI 3 := by rw [modI_v]; rfl
  have m26 : modI 0 (devI (fun _ _ _ => 0)) 0 0 26 = -1 := by rw [modI_v]; rfl
  have m27 : modI 0 (devI (fun _ _ _ => 0)) 0 0 27 = nI 1 := by rw [modI_v]; rfl
  exact ⟨⟨⟨m 9 (by decide), m 15 (by decide), m 19 (by decide), m23, m 24 (by decide), m 25 (by decide), m26, m27⟩, fun j i hj hi => absurd hi (Nat.not_lt_zero _), fun j i hj hi => absurd hi (Nat.not_lt_zero _), fun j i hj hi => absurd hi (Nat.not_lt_zero _)⟩, m 28 (by decide), m 29 (by decide), fun K hK => (by cases hK), ⟨m 7 (by decide), fun i hi => absurd hi (Nat.not_lt_zero _)⟩, fun s hs => rfl, fun j hj => rfl⟩
theorem L_start {sz : Nat} (hS : lwH C f b L xs) (hE : lwE C) (hf3 : ∀ k, f 3 k = sz + k) (hf0 : ∀ k, f 0 k = sz + 51 + k) : zL C 4 (aB f 0 0) (fun _ _ => none) 0 0 sz (fun _ _ _ => 0) (fun _ _ _ => 0) (fun _ _ _ => 0) 0 [some (zr 8 0), none, none, none] [] := by
  have hC := hS.1 0 0
  have hL := hS.2.2.2.2.2
  have a3 : ∀ k, aB f 0 0 3 k = sz + k := hf3
  have a0 : ∀ k, aB f 0 0 0 k = sz + 51 + k := hf0
  refine z_S (S2 := zcut 3 0 (zdv 0 (fun _ _ => none))) ?_ ?_
  · funext b k
    unfold zcut zdv
    by_cases e : b = 3
    · rw [if_pos ⟨e, Nat.zero_le _⟩]
    · rw [if_neg (fun z => e z.1), if_neg e]
  refine z_new hC (b := 3) (ci := 6) dL_law_0 rfl ⟨(zin1 (i := 16) rfl rfl), (zin1 (i := 17) rfl rfl), (zin1 (i := 1) rfl rfl)⟩ rfl rfl (fun j => rfl) (a3 0) ⟨by decide, by decide⟩ ?_
  refine z_dup hC dL_law_3 rfl ?_
  refine zIv hC dL_law_4 zlL_9 (c_X6_init (S := fun _ _ => none) (sz := sz + 1) (fun _ _ => rfl) (fun _ _ => rfl) (fun _ _ => rfl) (fun i => by rw [a3]; omega)) rfl rfl rfl rfl ⟨by decide, by decide⟩ ?_
  refine z_astore_n hC (lo2 := [some (zr 8 0), some (zr 3 0), none, none]) dL_law_7 (by decide) rfl rfl ?_
  refine z_S (zcut_0 (b := 0) (fun k => rfl)) ?_
  refine z_new hC (b := 0) (ci := 7) dL_law_8 rfl ⟨(zin4 (i := 206) rfl rfl), (zin4 (i := 207) rfl rfl), (zin1 (i := 9) rfl rfl)⟩ zmR_at rfl (fun j => L_dz (by decide)) (by rw [a0]) ⟨by decide, by decide⟩ ?_
  refine z_dup hC dL_law_11 rfl ?_
  refine zIv hC dL_law_12 zlL_12 (c_X7_init (b := 0) (sz := sz + 1 + 50 + 1) (fun _ _ => rfl) (fun _ _ => rfl) (fun i => by rw [a0]; omega)) rfl rfl rfl rfl ⟨by decide, by decide⟩ ?_
  refine z_astore_n hC (lo2 := [some (zr 8 0), some (zr 3 0), some (zr 0 0), none]) dL_law_15 (by decide) rfl rfl ?_
  refine z_iconst (v := nI (6 * 0)) hC dL_law_16 rfl ?_
  refine z_istore_n hC (lo2 := [some (zr 8 0), some (zr 3 0), some (zr 0 0), some (zi (nI (6 * 0)))]) dL_law_17 (by decide) rfl rfl ?_
  refine z_S L_s0 ?_
  refine z_widen (k := 98 + 47 * 0) (n := 17237 + 14378 * 0) (by decide) (by decide) ?_
  refine L_loop hS hE 514 0 D0 0 0 false false _ _ _ _ (by omega) (by decide) D0_ok (fun q => q) ?_ L_m0
  exact (D0_me (I := fun _ _ _ => 0) (X := fun _ _ _ => 0) (Y := fun _ _ _ => 0) (fun _ _ => rfl) (fun _ _ => rfl) (fun _ _ => rfl)).live (fun k j _ => ⟨modI_off (fun z => absurd z.1 (by decide)), rfl, rfl⟩)
end
