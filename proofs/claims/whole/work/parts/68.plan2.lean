/-! the reference: looks, the plan -/
theorem prd_lt {i y : Nat} (hi : i < 2 ^ 31) (hy : y < 2 ^ 31) : nI y - nI 1 < nI i ↔ y ≤ i := by
  by_cases h0 : y = 0
  · subst h0
    rw [nI_prd0]
    exact ⟨fun _ => Nat.zero_le _, fun _ => Int32.lt_of_lt_of_le (by decide) (nI_pos' hi)⟩
  · obtain ⟨k, rfl⟩ : ∃ k, y = k + 1 := ⟨y - 1, by omega⟩
    rw [nI_prd, nI_ltI (by omega) hi]; omega
theorem prd_neg {y : Nat} (hy : y < 2 ^ 31) : nI y - nI 1 < 0 ↔ y = 0 := by
  by_cases h0 : y = 0
  · subst h0
    rw [nI_prd0]
    exact ⟨fun _ => rfl, fun _ => by decide⟩
  · obtain ⟨k, rfl⟩ : ∃ k, y = k + 1 := ⟨y - 1, by omega⟩
    rw [nI_prd]
    exact ⟨fun h => absurd h (nI_pos (by omega)), fun h => absurd h h0⟩
def tnN (R : RS) (i l : Nat) : Nat := if l = 0 then 0 else cstN R i l
theorem sub_neg {a b : Nat} (h : a < b) (hb : b < 2 ^ 31) : nI a - nI b < 0 := by
  rw [Int32.lt_iff_toInt_lt, Int32.toInt_sub, nI_toInt (by omega), nI_toInt hb, Int.bmod_eq_of_le (by omega) (by omega)]
  show (a : Int) - b < 0
  omega
theorem tnN_le {R : RS} (hR : ROK R) {i l : Nat} (hi : i < R.1 0) : tnN R i l ≤ 1000 := by
  unfold tnN
  split
  · omega
  · exact (cst_b hR hi).2
theorem seen30 {l : Nat} (h1 : 1 ≤ l) (h3 : l ≤ 3) : 30 * l = seenN l := by
  have h : l = 1 ∨ l = 2 ∨ l = 3 := by omega
  rcases h with rfl | rfl | rfl <;> rfl
def gzN (R : RS) (i l : Nat) : Nat := if l = 0 then 0 else fbN (fwN R) i l
def mbN (R : RS) (P : Nat → Nat) (i l t : Nat) : Option Nat := if tnN R i l ≤ t then some (gzN R i l + P (t - tnN R i l)) else none
theorem msel {b j : Nat} (h : j < 15) : ((List.range 15).map (fun i => some (b, 31 + 1 + i)))[(nI j).toNatClampNeg]? = some (some (b, 31 + 1 + j)) := by
  rw [nI_clamp (by omega), List.getElem?_map, List.getElem?_range h]; rfl
theorem msel8 {b j : Nat} (h : j < 8) : ((List.range 8).map (fun i => some (b, 4 + 1 + i)))[(nI j).toNatClampNeg]? = some (some (b, 4 + 1 + j)) := by
  rw [nI_clamp (by omega), List.getElem?_map, List.getElem?_range h]; rfl
def moX (b : Nat) (R : RS) (X : zI) : Nat → zI
  | 0 => zrow b (31 + 1 + R.1 0) (fun _ => 0) 901 X
  | k + 1 => zrow b (31 + 1 + (R.1 0 - 1 - k)) (fun t => (plF R (k + 1) t).1) 901 (moX b R X k)
theorem moX_ne {b : Nat} {R : RS} {X : zI} {b' k' j : Nat} (h : ¬ (b' = b ∧ 32 ≤ k')) : ∀ k, moX b R X k b' k' j = X b' k' j
  | 0 => zrow_ne (by omega)
  | k + 1 => (zrow_ne (by omega)).trans (moX_ne h k)
theorem moX_get {b : Nat} {R : RS} {X : zI} {t : Nat} (ht : t < 901) : ∀ {k j : Nat}, j ≤ k → k ≤ R.1 0 → moX b R X k b (31 + 1 + (R.1 0 - j)) t = nI (plF R j t).1
  | 0, j, hj, _ => by
    obtain rfl : j = 0 := by omega
    exact zrow_get (f := fun _ => 0) ht
  | k + 1, j, hj, hk => by
    by_cases e : j = k + 1
    · subst e
      show zrow b (31 + 1 + (R.1 0 - 1 - k)) _ 901 _ b (31 + 1 + (R.1 0 - (k + 1))) t = _
      rw [show R.1 0 - (k + 1) = R.1 0 - 1 - k by omega]
      exact zrow_get (f := fun t => (plF R (k + 1) t).1) ht
    · exact (zrow_ne (by omega)).trans (moX_get ht (by omega) (by omega))
def btN (c g : Nat → Nat) (b : Nat) (P : Nat → Nat × Nat) (t : Nat) : Nat → Nat
  | 0 => 0
  | l + 1 => (chN c g b P t l).1
theorem plF_le {R : RS} (hR : ROK R) {k t : Nat} (hk : k ≤ R.1 0) : (plF R k t).1 ≤ 14000000 ∧ (plF R k t).2 < 2 ^ 28 := by
  have h := plN_le (c := cstN R) (g := gnN (signW R (R.1 1)) (R.2.1 4)) hR.1 (fun b l hb hl => fbN_le (fwN_le hR hb).1) k hk t
  have h2 : k * 1000000 ≤ 14 * 1000000 := Nat.mul_le_mul_right _ (by have := hR.1; omega)
  exact ⟨Nat.le_trans h.1 (Nat.le_trans h2 (by decide)), h.2⟩
theorem btN_mb {R : RS} {m k t l : Nat} : btN (cstN R m) (fbN (fwN R) m) m (plF R k) t (l + 1) = match mbN R (fun u => (plF R k u).1) m l t with
    | none => btN (cstN R m) (fbN (fwN R) m) m (plF R k) t l
    | some v => if btN (cstN R m) (fbN (fwN R) m) m (plF R k) t l < v then v else btN (cstN R m) (fbN (fwN R) m) m (plF R k) t l := by
  cases l with
  | zero =>
    have h : mbN R (fun u => (plF R k u).1) m 0 t = some (plF R k t).1 := by
      unfold mbN tnN gzN
      rw [if_pos rfl, if_pos (Nat.zero_le _), if_pos rfl, Nat.zero_add, Nat.sub_zero]
    rw [h]
    show (plF R k t).1 = if 0 < (plF R k t).1 then _ else 0
    split <;> omega
  | succ l =>
    have ht : tnN R m (l + 1) = cstN R m (l + 1) := if_neg (by omega)
    have hg : gzN R m (l + 1) = fbN (fwN R) m (l + 1) := if_neg (by omega)
    unfold mbN
    rw [ht, hg]
    show (chN _ _ _ _ _ (l + 1)).1 = _
    show _ = match (if cstN R m (l + 1) ≤ t then _ else _) with | none => (chN (cstN R m) (fbN (fwN R) m) m (plF R k) t l).1 | some v => if (chN (cstN R m) (fbN (fwN R) m) m (plF R k) t l).1 < v then v else (chN (cstN R m) (fbN (fwN R) m) m (plF R k) t l).1
    by_cases h1 : cstN R m (l + 1) ≤ t
    · rw [if_pos h1]
      dsimp only
      by_cases h2 : (plF R k (t - cstN R m (l + 1))).1 + fbN (fwN R) m (l + 1) ≤ (chN (cstN R m) (fbN (fwN R) m) m (plF R k) t l).1
      · rw [chN_b h2, if_neg (by rw [Nat.add_comm]; exact Nat.not_lt.mpr h2)]
      · rw [chN_c h1 h2, if_pos (by rw [Nat.add_comm]; exact Nat.not_le.mp h2)]
        exact Nat.add_comm _ _
    · rw [if_neg h1, chN_a h1]
theorem oI_ltN {o : Option Nat} {n : Nat} (hn : n < 2 ^ 31) (ho : ∀ v, o = some v → v < 2 ^ 31) : oI o ≤ nI n ↔ ∀ v, o = some v → v ≤ n := by
  rcases o with _ | v
  · exact ⟨fun _ v h => (by cases h), fun _ => Int32.le_trans (by decide) (nI_pos' hn)⟩
  · show nI v ≤ nI n ↔ _
    rw [nI_leI (ho v rfl) hn]
    exact ⟨fun h w hw => (by cases hw; exact h), fun h => h v rfl⟩
theorem mbN_le {R : RS} (hR : ROK R) {m k l t v : Nat} (hk : k ≤ R.1 0) (hm : m < R.1 0) (h : mbN R (fun u => (plF R k u).1) m l t = some v) : v ≤ 15000000 := by
  unfold mbN at h
  split at h
  · cases h
    have h1 := (plF_le hR hk (t := t - tnN R m l)).1
    have h2 : gzN R m l ≤ 1000000 := by
      unfold gzN
      split
      · omega
      · exact fbN_le (fwN_le hR hm).1
    dsimp only
    omega
  · cases h

section
variable {ad : zA} {S : zSh} {I X : zI} {Y : zY} {sz b : Nat} {R : RS}

theorem c_X7_sumOfP (hS : ∀ k, S b k = msh b k) (hm : zQm b R I X) (hR : ROK R) (hw : mwF b R I X) {x y : Nat} (hxy : x ≤ y) (hy : y ≤ R.1 0) : zC0 mX7_sumOf 0 [zr b 0, zi (nI x), zi (nI y - nI 1)] (some (zi (nI (sumR (fwN R) x y)))) ad S I X Y sz I X Y := by
  refine zgo (own := RX7) (k := 2) (by decide +kernel) rfl rfl rfl (fun C hC hnm hE => ?_)
  have hmo := hm
  have hn14 := hR.1
  have hn8 := hR.2.1
  have hn6 := hR.2.2.1
  refine z_iconst hC dX7_sumOf_0 (v := nI 0) rfl ?_
  refine z_istore_n hC dX7_sumOf_1 (lo2 := [_, _, _, _, _]) (Nat.le_of_ble_eq_true rfl) rfl rfl ?_
  refine z_iload_n hC dX7_sumOf_2 rfl ?_
  refine z_istore hC dX7_sumOf_3 (lo2 := [_, _, _, _, _]) (Nat.le_of_ble_eq_true rfl) rfl rfl ?_
  have loop5 : ∀ (fuel : Nat) (i : Nat), y - i < fuel → x ≤ i → i ≤ y → zL C 5 ad S 0 0 sz I X Y 5 [some (zr b 0), some (zi (nI x)), some (zi (nI y - nI 1)), some (zi (nI (sumR (fwN R) x i))), some (zi (nI i))] [] := by
    intro fuel
    induction fuel with
    | zero => intro i hfu; exact absurd hfu (Nat.not_lt_zero _)
    | succ fuel ih =>
      intro i hfu hxi hiy
      refine z_iload hC dX7_sumOf_5 rfl ?_
      refine z_iload_n hC dX7_sumOf_7 rfl ?_
      refine z_icmp_gt hC dX7_sumOf_8 (tgt := 27) (by decide) (fun c8 => ?_) (fun c8 => ?_)
      · skip
        rw [prd_lt (by omega) (by omega)] at c8
        obtain rfl : i = y := by omega
        refine z_iload_n hC dX7_sumOf_27 rfl ?_
        refine z_iret hC dX7_sumOf_28 ?_
        exact hE.to (by rfl) rfl rfl rfl
      rw [prd_lt (by omega) (by omega)] at c8
      refine z_iload_n hC dX7_sumOf_11 rfl ?_
      refine z_aload_n hC dX7_sumOf_12 rfl ?_
      refine z_getR hC dX7_sumOf_13 (hS _) zfX7_86 rfl ?_
      refine z_iload hC dX7_sumOf_16 rfl ?_
      refine z_naldN hC dX7_sumOf_18 (hS _) (by omega) rfl (hw.2.2 _ (by omega)) ?_
      refine z_nadd hC dX7_sumOf_19  ?_
      refine z_istore_n hC dX7_sumOf_20 (lo2 := [_, _, _, _, _]) (Nat.le_of_ble_eq_true rfl) rfl rfl ?_
      refine z_ninc hC dX7_sumOf_21 (lo2 := [_, _, _, _, _]) rfl rfl rfl rfl ?_
      refine z_goto hC dX7_sumOf_24 (tgt := 5) (by decide) ?_
      rw [← sumR_s hxi]
      exact ih (i + 1) (by omega) (by omega) (by omega)
  exact z_sub (by simp [zsub, sumR_0]) (loop5 _ x (Nat.lt_succ_self _) (Nat.le_refl _) hxy)

theorem c_X7_sumOf (hS : ∀ k, S b k = msh b k) (hm : zQm b R I X) (hR : ROK R) (hw : mwF b R I X) {x y : Nat} (hxy : x ≤ y + 1) (hy : y < R.1 0) : zC0 mX7_sumOf 0 [zr b 0, zi (nI x), zi (nI y)] (some (zi (nI (sumR (fwN R) x (y + 1))))) ad S I X Y sz I X Y := by
  have h := c_X7_sumOfP (ad := ad) (Y := Y) (sz := sz) hS hm hR hw hxy (show y + 1 ≤ R.1 0 from hy)
  rwa [nI_prd] at h
theorem c_X7_foundBy (hS : ∀ k, S b k = msh b k) (hm : zQm b R I X) (hR : ROK R) (hw : mwF b R I X) {i l : Nat} (hi : i < R.1 0) (hl1 : 1 ≤ l) (hl : l ≤ 3) : zC0 mX7_foundBy 1 [zr b 0, zi (nI i), zi (nI l)] (some (zi (nI (fbN (fwN R) i l)))) ad S I X Y sz I X Y := by
  refine zgo (own := RX7) (k := 0) (by decide +kernel) rfl rfl rfl (fun C hC hnm hE => ?_)
  have hmo := hm
  have hn14 := hR.1
  have hn8 := hR.2.1
  have hn6 := hR.2.2.1
  have hfl := fwN_le hR hi
  refine z_aload_n hC dX7_foundBy_0 rfl ?_
  refine z_getR hC dX7_foundBy_1 (hS _) zfX7_86 rfl ?_
  refine z_iload_n hC dX7_foundBy_4 rfl ?_
  refine z_naldN hC dX7_foundBy_5 (hS _) (by omega) rfl (hw.2.2 _ (by omega)) ?_
  refine z_iload_n hC dX7_foundBy_6 rfl ?_
  refine wSv hC dX7_foundBy_7 zlX7_304 (c_X7_sees (by omega)) rfl rfl rfl rfl ⟨rfl, rfl⟩ ?_
  refine wSv hC dX7_foundBy_10 zlX7_288 (c_X7_part (by show fwN R i ≤ _; omega) (by omega)) rfl rfl rfl rfl ⟨rfl, rfl⟩ ?_
  refine z_iret hC dX7_foundBy_13 ?_
  exact hE.to (by rw [seen30 hl1 hl]; rfl) rfl rfl rfl

theorem c_X7_tensOf (hS : ∀ k, S b k = msh b k) (hm : zQm b R I X) (hR : ROK R) {i l : Nat} (hi : i < R.1 0) (hl : l ≤ 3) : zC0 mX7_tensOf 1 [zr b 0, zi (nI i), zi (nI l)] (some (zi (nI (tnN R i l)))) ad S I X Y sz I X Y := by
  refine zgo (own := RX7) (k := 0) (by decide +kernel) rfl rfl rfl (fun C hC hnm hE => ?_)
  have hmo := hm
  have hn14 := hR.1
  have hn8 := hR.2.1
  have hn6 := hR.2.2.1
  have hcb : secN (R.2.1 2 i) l ≤ 1000 := by
    have := (hR.2.2.2.2.2.2.1 i hi).2.2.2.1
    unfold secN
    repeat' split
    all_goals omega
  refine z_iload_n hC dX7_tensOf_0 rfl ?_
  refine z_nif_ne hC dX7_tensOf_1 (tgt := 8) (by decide) (by omega) (fun c1 => ?_) (fun c1 => ?_)
  · skip
    refine z_aload_n hC dX7_tensOf_8 rfl ?_
    refine z_iload_n hC dX7_tensOf_9 rfl ?_
    refine z_iload_n hC dX7_tensOf_10 rfl ?_
    refine wVv hC dX7_tensOf_11 zlX7_312 (c_X7_secondsOf hS hm hR hi hl) (hS _) rfl rfl rfl rfl rfl rfl ⟨rfl, rfl⟩ ?_
    refine z_bipush hC dX7_tensOf_14 (v := nI 9) rfl ?_
    refine z_nadd hC dX7_tensOf_16  ?_
    refine z_bipush hC dX7_tensOf_17 (v := nI 10) rfl ?_
    refine z_ndiv hC dX7_tensOf_19 (by omega) (by omega) (by omega) ?_
    refine z_iret hC dX7_tensOf_20 ?_
    exact hE.to (by first | (subst c1; rfl) | (show some (zi (nI (if l = 0 then 0 else _))) = _; rw [if_neg c1])) rfl rfl rfl
  refine z_iconst hC dX7_tensOf_4 (v := nI 0) rfl ?_
  refine z_goto hC dX7_tensOf_5 (tgt := 20) (by decide) ?_
  refine z_iret hC dX7_tensOf_20 ?_
  exact hE.to (by first | (subst c1; rfl) | (show some (zi (nI (if l = 0 then 0 else _))) = _; rw [if_neg c1])) rfl rfl rfl

theorem c_X7_mostBy (hS : ∀ k, S b k = msh b k) (hm : zQm b R I X) (hR : ROK R) (hw : mwF b R I X) {i l t : Nat} {P : Nat → Nat} (hi : i < R.1 0) (hl : l ≤ 3) (ht : t ≤ 900) (hP : ∀ u, u ≤ t → X b (31 + 1 + (i + 1)) u = nI (P u)) : zC0 mX7_mostBy 2 [zr b 0, zi (nI i), zi (nI l), zi (nI t)] (some (zi (oI (mbN R P i l t)))) ad S I X Y sz I X Y := by
  refine zgo (own := RX7) (k := 1) (by decide +kernel) rfl rfl rfl (fun C hC hnm hE => ?_)
  have hmo := hm
  have hn14 := hR.1
  have hn8 := hR.2.1
  have hn6 := hR.2.2.1
  have hfl := fwN_le hR hi
  have htl := tnN_le hR hi (l := l)
  refine z_iload_n hC dX7_mostBy_0 rfl ?_
  refine z_aload_n hC dX7_mostBy_1 rfl ?_
  refine z_iload_n hC dX7_mostBy_2 rfl ?_
  refine z_iload_n hC dX7_mostBy_3 rfl ?_
  refine wVv hC dX7_mostBy_4 zlX7_318 (c_X7_tensOf hS hm hR hi hl) (hS _) rfl rfl rfl rfl rfl rfl ⟨rfl, rfl⟩ ?_
  by_cases htn : tnN R i l ≤ t
  · skip
    refine z_nsub hC dX7_mostBy_7 (by omega) ?_
    refine z_istore hC dX7_mostBy_8 (lo2 := [_, _, _, _, _]) (Nat.le_of_ble_eq_true rfl) rfl rfl ?_
    refine z_iload hC dX7_mostBy_10 rfl ?_
    refine z_nif_ge hC dX7_mostBy_12 (tgt := 19) (by decide) (by omega) ?_
    refine z_iload_n hC dX7_mostBy_19 rfl ?_
    refine z_nif_ne hC dX7_mostBy_20 (tgt := 27) (by decide) (by omega) (fun c20 => ?_) (fun c20 => ?_)
    · skip
      refine z_aload_n hC dX7_mostBy_27 rfl ?_
      refine z_iload_n hC dX7_mostBy_28 rfl ?_
      refine z_iload_n hC dX7_mostBy_29 rfl ?_
      refine wVv hC dX7_mostBy_30 zlX7_315 (c_X7_foundBy hS hm hR hw hi (by omega) hl) (hS _) rfl rfl rfl rfl rfl rfl ⟨rfl, rfl⟩ ?_
      refine z_aload_n hC dX7_mostBy_33 rfl ?_
      refine z_getR hC dX7_mostBy_34 (hS _) zfX7_91 rfl ?_
      refine z_iload_n hC dX7_mostBy_37 rfl ?_
      refine z_iconst hC dX7_mostBy_38 (v := nI 1) rfl ?_
      refine z_nadd hC dX7_mostBy_39  ?_
      refine z_aald hC (by decide) dX7_mostBy_40 (hS _) (by rw [List.length_map, List.length_range]; exact vp_in_nI (by omega) (by decide)) (msel (by omega)) ?_
      refine z_iload hC dX7_mostBy_41 rfl ?_
      refine z_naldN hC dX7_mostBy_43 ((hS _).trans (msh_most (by omega)).1) (by omega) rfl (hP _ (by omega)) ?_
      refine z_nadd hC dX7_mostBy_44  ?_
      refine z_iret hC dX7_mostBy_45 ?_
      exact hE.to (by unfold mbN; first | (rw [if_neg htn]; rfl) | (rw [if_pos htn]; unfold gzN; first | (rw [if_neg c20]; rfl) | (rw [if_pos c20]; rfl))) rfl rfl rfl
    refine z_iconst hC dX7_mostBy_23 (v := nI 0) rfl ?_
    refine z_goto hC dX7_mostBy_24 (tgt := 33) (by decide) ?_
    refine z_aload_n hC dX7_mostBy_33 rfl ?_
    refine z_getR hC dX7_mostBy_34 (hS _) zfX7_91 rfl ?_
    refine z_iload_n hC dX7_mostBy_37 rfl ?_
    refine z_iconst hC dX7_mostBy_38 (v := nI 1) rfl ?_
    refine z_nadd hC dX7_mostBy_39  ?_
    refine z_aald hC (by decide) dX7_mostBy_40 (hS _) (by rw [List.length_map, List.length_range]; exact vp_in_nI (by omega) (by decide)) (msel (by omega)) ?_
    refine z_iload hC dX7_mostBy_41 rfl ?_
    refine z_naldN hC dX7_mostBy_43 ((hS _).trans (msh_most (by omega)).1) (by omega) rfl (hP _ (by omega)) ?_
    refine z_nadd hC dX7_mostBy_44  ?_
    refine z_iret hC dX7_mostBy_45 ?_
    exact hE.to (by unfold mbN; first | (rw [if_neg htn]; rfl) | (rw [if_pos htn]; unfold gzN; first | (rw [if_neg c20]; rfl) | (rw [if_pos c20]; rfl))) rfl rfl rfl
  · skip
    refine z_isub hC dX7_mostBy_7  ?_
    refine z_istore hC dX7_mostBy_8 (lo2 := [_, _, _, _, _]) (Nat.le_of_ble_eq_true rfl) rfl rfl ?_
    refine z_iload hC dX7_mostBy_10 rfl ?_
    refine z_if_ge hC dX7_mostBy_12 (tgt := 19) (by decide) (fun c12 => ?_) (fun c12 => ?_)
    · exact absurd c12 (Int32.not_le.mpr (sub_neg (by omega) (by omega)))
    refine z_iconst hC dX7_mostBy_15 (v := -1) rfl ?_
    refine z_goto hC dX7_mostBy_16 (tgt := 45) (by decide) ?_
    refine z_iret hC dX7_mostBy_45 ?_
    exact hE.to (by unfold mbN; first | (rw [if_neg htn]; rfl) | (rw [if_pos htn]; unfold gzN; first | (rw [if_neg c20]; rfl) | (rw [if_pos c20]; rfl))) rfl rfl rfl

end
