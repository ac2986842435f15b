/-! the reference: BEST -/
def lkN (c g : Nat → Nat) (b : Nat) (P : Nat → Nat × Nat) (t : Nat) : Nat → Nat
  | 0 => 0
  | l + 1 => if c (l + 1) ≤ t ∧ (chN c g b P t l).1 < (P (t - c (l + 1))).1 + g (l + 1) then l + 1 else lkN c g b P t l
theorem lkN_le {c g : Nat → Nat} {b : Nat} {P : Nat → Nat × Nat} {t : Nat} : ∀ l, lkN c g b P t l ≤ l
  | 0 => Nat.le_refl _
  | l + 1 => by
    have := lkN_le (c := c) (g := g) (b := b) (P := P) (t := t) l
    unfold lkN
    split <;> omega
section
variable {R : RS} {m t : Nat} {P : Nat → Nat × Nat}
abbrev ck (R : RS) (m : Nat) (P : Nat → Nat × Nat) (t l : Nat) : Nat × Nat := chN (cstN R m) (fbN (fwN R) m) m P t l
abbrev lk (R : RS) (m : Nat) (P : Nat → Nat × Nat) (t l : Nat) : Nat := lkN (cstN R m) (fbN (fwN R) m) m P t l
theorem mb_0 : mbN R (fun u => (P u).1) m 0 t = some (P t).1 := by
  unfold mbN tnN gzN
  rw [if_pos rfl, if_pos (Nat.zero_le _), if_pos rfl, Nat.zero_add, Nat.sub_zero]
theorem mb_s {l : Nat} (h : cstN R m (l + 1) ≤ t) : mbN R (fun u => (P u).1) m (l + 1) t = some ((P (t - cstN R m (l + 1))).1 + fbN (fwN R) m (l + 1)) := by
  have ht : tnN R m (l + 1) = cstN R m (l + 1) := if_neg (by omega)
  have hg : gzN R m (l + 1) = fbN (fwN R) m (l + 1) := if_neg (by omega)
  unfold mbN
  rw [ht, hg, if_pos h, Nat.add_comm]
theorem mb_n {l : Nat} (h : ¬ cstN R m (l + 1) ≤ t) : mbN R (fun u => (P u).1) m (l + 1) t = none := by
  have ht : tnN R m (l + 1) = cstN R m (l + 1) := if_neg (by omega)
  unfold mbN
  rw [ht, if_neg h]
theorem lk_all : ∀ l, mbN R (fun u => (P u).1) m (lk R m P t l) t = some (ck R m P t l).1 ∧ (∀ j v, j < lk R m P t l → mbN R (fun u => (P u).1) m j t = some v → v < (ck R m P t l).1) ∧ (∀ j v, j ≤ l → mbN R (fun u => (P u).1) m j t = some v → v ≤ (ck R m P t l).1) ∧ (ck R m P t l).2 = (P (t - tnN R m (lk R m P t l))).2 ||| (lk R m P t l * 4 ^ m) ∧ tnN R m (lk R m P t l) ≤ t
  | 0 => by
    refine ⟨mb_0, fun j v hj => absurd hj (Nat.not_lt_zero _), fun j v hj hv => ?_, ?_, Nat.zero_le _⟩
    · obtain rfl : j = 0 := by omega
      rw [mb_0] at hv; cases hv; exact Nat.le_refl _
    · show (P t).2 = (P (t - tnN R m 0)).2 ||| (0 * 4 ^ m)
      rw [Nat.zero_mul, Nat.or_zero]
      rfl
  | l + 1 => by
    obtain ⟨h1, h2, h3, h4, h5⟩ := lk_all l
    by_cases h : cstN R m (l + 1) ≤ t ∧ (ck R m P t l).1 < (P (t - cstN R m (l + 1))).1 + fbN (fwN R) m (l + 1)
    · have e1 : lk R m P t (l + 1) = l + 1 := if_pos h
      have e2 : ck R m P t (l + 1) = ((P (t - cstN R m (l + 1))).1 + fbN (fwN R) m (l + 1), (P (t - cstN R m (l + 1))).2 ||| ((l + 1) * 4 ^ m)) := if_pos h
      have ht : tnN R m (l + 1) = cstN R m (l + 1) := if_neg (by omega)
      rw [e1, e2, ht]
      refine ⟨mb_s h.1, fun j v hj hv => Nat.lt_of_le_of_lt (h3 j v (by omega) hv) h.2, fun j v hj hv => ?_, rfl, h.1⟩
      by_cases ej : j = l + 1
      · subst ej; rw [mb_s h.1] at hv; cases hv; exact Nat.le_refl _
      · exact Nat.le_of_lt (Nat.lt_of_le_of_lt (h3 j v (by omega) hv) h.2)
    · have e1 : lk R m P t (l + 1) = lk R m P t l := if_neg h
      have e2 : ck R m P t (l + 1) = ck R m P t l := if_neg h
      rw [e1, e2]
      refine ⟨h1, h2, fun j v hj hv => ?_, h4, h5⟩
      by_cases ej : j = l + 1
      · subst ej
        by_cases hc : cstN R m (l + 1) ≤ t
        · rw [mb_s hc] at hv; cases hv
          exact Nat.not_lt.mp fun z => h ⟨hc, z⟩
        · rw [mb_n hc] at hv; cases hv
      · exact h3 j v (by omega) hv
end
theorem or_add {x y i : Nat} (hx : x % 4 ^ i = 0) (hy : y < 4 ^ i) : x ||| y = x + y := by
  have e : 4 ^ i = 2 ^ (2 * i) := by rw [Nat.pow_mul]
  rw [e] at hx hy
  have h := Nat.two_pow_add_eq_or_of_lt (i := 2 * i) (b := y) hy (x / 2 ^ (2 * i))
  rw [show 2 ^ (2 * i) * (x / 2 ^ (2 * i)) = x from by have := Nat.div_add_mod x (2 ^ (2 * i)); omega] at h
  exact h.symm
theorem dvd_mod {x i j : Nat} (h : x % 4 ^ i = 0) (hj : j ≤ i) : x % 4 ^ j = 0 := by
  obtain ⟨k, rfl⟩ := Nat.exists_eq_add_of_le hj
  exact Nat.mod_eq_zero_of_dvd (Nat.dvd_trans ⟨4 ^ k, by rw [Nat.pow_add]⟩ (Nat.dvd_of_mod_eq_zero h))
/-- the looks behind a bend are written above its own -/
theorem plF_low {R : RS} : ∀ k t, k ≤ R.1 0 → (plF R k t).2 % 4 ^ (R.1 0 - k) = 0
  | 0, t, _ => Nat.zero_mod _
  | k + 1, t, hk => by
    have e1 : R.1 0 - (R.1 0 - (k + 1)) = k + 1 := by omega
    have e2 : R.1 0 - (R.1 0 - (k + 1) + 1) = k := by omega
    have hs := plF_s (R := R) (m := R.1 0 - (k + 1)) (t := t) (by omega)
    rw [e1, e2] at hs
    have ha := (lk_all (R := R) (m := R.1 0 - (k + 1)) (t := t) (P := plF R k) 3).2.2.2.1
    rw [hs, ha]
    have hp := plF_low (R := R) k (t - tnN R (R.1 0 - (k + 1)) (lk R (R.1 0 - (k + 1)) (plF R k) t 3)) (by omega)
    have hl : lk R (R.1 0 - (k + 1)) (plF R k) t 3 ≤ 3 := lkN_le _
    have e3 : R.1 0 - k = R.1 0 - (k + 1) + 1 := by omega
    rw [e3] at hp
    have hlt : lk R (R.1 0 - (k + 1)) (plF R k) t 3 * 4 ^ (R.1 0 - (k + 1)) < 4 ^ (R.1 0 - (k + 1) + 1) := by
      rw [Nat.pow_succ, Nat.mul_comm (4 ^ (R.1 0 - (k + 1)))]
      exact Nat.mul_lt_mul_of_pos_right (show lk R (R.1 0 - (k + 1)) (plF R k) t 3 < 4 by omega) (Nat.pow_pos (by decide))
    rw [or_add hp hlt, Nat.add_mod, dvd_mod hp (Nat.le_succ _), Nat.mul_mod_left]
    rfl
theorem plF_at {R : RS} {m t : Nat} (hm : m < R.1 0) : (plF R (R.1 0 - m) t).2 / 4 ^ m % 4 = lk R m (plF R (R.1 0 - (m + 1))) t 3 ∧ ∀ j, m < j → (plF R (R.1 0 - m) t).2 / 4 ^ j % 4 = (plF R (R.1 0 - (m + 1)) (t - tnN R m (lk R m (plF R (R.1 0 - (m + 1))) t 3))).2 / 4 ^ j % 4 := by
  have hs := plF_s (R := R) (t := t) hm
  have ha := (lk_all (R := R) (m := m) (t := t) (P := plF R (R.1 0 - (m + 1))) 3).2.2.2.1
  have hl : lk R m (plF R (R.1 0 - (m + 1))) t 3 ≤ 3 := lkN_le _
  have hp := plF_low (R := R) (R.1 0 - (m + 1)) (t - tnN R m (lk R m (plF R (R.1 0 - (m + 1))) t 3)) (by omega)
  rw [show R.1 0 - (R.1 0 - (m + 1)) = m + 1 by omega] at hp
  have hpos : 0 < 4 ^ m := Nat.pow_pos (by decide)
  have hlt : lk R m (plF R (R.1 0 - (m + 1))) t 3 * 4 ^ m < 4 ^ (m + 1) := by
    rw [Nat.pow_succ, Nat.mul_comm (4 ^ m)]
    exact Nat.mul_lt_mul_of_pos_right (show lk R m (plF R (R.1 0 - (m + 1))) t 3 < 4 by omega) hpos
  rw [hs, ha, or_add hp hlt]
  obtain ⟨z, hz⟩ := Nat.dvd_of_mod_eq_zero hp
  rw [hz]
  refine ⟨?_, fun j hj => ?_⟩
  · rw [Nat.pow_succ, Nat.mul_assoc, Nat.mul_comm (lk R m (plF R (R.1 0 - (m + 1))) t 3), ← Nat.mul_add, Nat.mul_div_cancel_left _ hpos]
    omega
  · obtain ⟨d, rfl⟩ := Nat.exists_eq_add_of_le (show m + 1 ≤ j from hj)
    have hp1 : 0 < 4 ^ (m + 1) := Nat.pow_pos (by decide)
    rw [show 4 ^ (m + 1 + d) = 4 ^ (m + 1) * 4 ^ d from Nat.pow_add _ _ _, ← Nat.div_div_eq_div_mul, ← Nat.div_div_eq_div_mul, Nat.mul_add_div hp1, Nat.div_eq_of_lt hlt, Nat.add_zero, Nat.mul_div_cancel_left _ hp1]
theorem oI_ne {o : Option Nat} {n : Nat} (hn : n < 2 ^ 31) (ho : ∀ v, o = some v → v < n) : oI o ≠ nI n := by
  rcases o with _ | v
  · intro h
    have := nI_pos' hn
    rw [← h] at this
    exact absurd this (by decide)
  · intro h
    have hv := ho v rfl
    have := (nI_eq (by omega) hn).mp h
    omega
theorem pow4 {b : Nat} : 2 ^ (2 * b) = 4 ^ b := by rw [Nat.pow_mul]
section
variable {ad : zA} {S : zSh} {I X : zI} {Y : zY} {sz : Nat} {D : DS} {qe : Bool}

theorem w_best_n (hS : ∀ k, S 0 k = msh 0 k) (hO : DOK D) (hM : MMe qe D I X Y) {x : Nat} (hx : x ≤ 9000) : zC0 mX7_best 6 [zr 0 0, zi (nI x), zi (-1)] (some (zi (nI (plF D.1 (D.1.1 0) (x / 10)).1))) ad S I X Y sz (mwI 0 D.1 I) (moX 0 D.1 (mwX 0 D.1 X) (D.1.1 0)) Y := by
  refine zgo (own := RX7) (k := 3) (by decide +kernel) rfl rfl rfl (fun C hC hnm hE => ?_)
  have hm := hM.1
  have hR := hO.1
  have hmo := hm
  have hn14 := hR.1
  have hn8 := hR.2.1
  have hn6 := hR.2.2.1
  refine z_iload_n hC dX7_best_0 rfl ?_
  refine z_n2m hC dX7_best_1 (by omega) ?_
  refine z_lconst hC dX7_best_2 (v := lN 0) rfl ?_
  refine z_ldc2 hC dX7_best_3 (v := lN 9000) (zin6 (i := 152) rfl rfl) ?_
  refine wSv hC dX7_best_6 zlX7_97 (c_X7_inN (by omega) (by omega) (by omega)) rfl rfl rfl rfl ⟨rfl, rfl⟩ ?_
  refine w_ifb_eq hC dX7_best_9 (tgt := 26) (by decide) (fun c9 => ?_) (fun c9 => ?_)
  · exact absurd c9 (by omega)
  refine z_iload_n hC dX7_best_12 rfl ?_
  refine z_iconst hC dX7_best_13 (v := -1) rfl ?_
  refine z_icmp_eq hC dX7_best_14 (tgt := 33) (by decide) (fun c14 => ?_) (fun c14 => ?_)
  rotate_left
  · exact absurd c14 (fun z => z rfl)
  refine z_aload_n hC dX7_best_33 rfl ?_
  refine wV0 hC dX7_best_34 zlX7_327 (c_X7_findMost hS hm hR) (hS _) rfl rfl rfl rfl rfl rfl ⟨rfl, rfl⟩ ?_
  refine z_iload_n hC dX7_best_37 rfl ?_
  refine z_bipush hC dX7_best_38 (v := nI 10) rfl ?_
  refine z_ndiv hC dX7_best_40 (by omega) (by omega) (by omega) ?_
  refine z_istore_n hC dX7_best_41 (lo2 := [_, _, _, _, _, _]) (Nat.le_of_ble_eq_true rfl) rfl rfl ?_
  refine z_iload_n hC dX7_best_42 rfl ?_
  refine z_iconst hC dX7_best_43 (v := -1) rfl ?_
  refine z_icmp_ne hC dX7_best_44 (tgt := 56) (by decide) (fun c44 => ?_) (fun c44 => ?_)
  · exact absurd c44 (fun z => z rfl)
  refine z_aload_n hC dX7_best_47 rfl ?_
  refine z_getR hC dX7_best_48 (hS _) zfX7_91 rfl ?_
  refine z_iconst hC dX7_best_51 (v := nI 0) rfl ?_
  refine z_aald hC (by decide) dX7_best_52 (hS _) (by rw [List.length_map, List.length_range]; exact vp_in_nI (by omega) (by decide)) (msel (by decide)) ?_
  refine z_iload_n hC dX7_best_53 rfl ?_
  refine z_naldN hC dX7_best_54 ((hS _).trans (msh_most (by omega)).1) (by omega) rfl (show _ = nI (plF D.1 (D.1.1 0) (x / 10)).1 from by have h := moX_get (b := 0) (R := D.1) (X := (mwX 0 D.1 X)) (t := x / 10) (k := D.1.1 0) (j := D.1.1 0) (by omega) (Nat.le_refl _) (Nat.le_refl _); rwa [Nat.sub_self] at h) ?_
  refine z_iret hC dX7_best_55 ?_
  exact hE.to (by rfl) rfl rfl rfl

theorem w_best_b (hS : ∀ k, S 0 k = msh 0 k) (hO : DOK D) (hM : MMe qe D I X Y) {x b : Nat} (hx : x ≤ 9000) (hb : b < D.1.1 0) : zC0 mX7_best 6 [zr 0 0, zi (nI x), zi (nI b)] (some (zi (nI ((plF D.1 (D.1.1 0) (x / 10)).2 / 2 ^ (2 * b) % 4)))) ad S I X Y sz (mwI 0 D.1 I) (moX 0 D.1 (mwX 0 D.1 X) (D.1.1 0)) Y := by
  refine zgo (own := RX7) (k := 3) (by decide +kernel) rfl rfl rfl (fun C hC hnm hE => ?_)
  have hm := hM.1
  have hR := hO.1
  have hmo := hm
  have hn14 := hR.1
  have hn8 := hR.2.1
  have hn6 := hR.2.2.1
  refine z_iload_n hC dX7_best_0 rfl ?_
  refine z_n2m hC dX7_best_1 (by omega) ?_
  refine z_lconst hC dX7_best_2 (v := lN 0) rfl ?_
  refine z_ldc2 hC dX7_best_3 (v := lN 9000) (zin6 (i := 152) rfl rfl) ?_
  refine wSv hC dX7_best_6 zlX7_97 (c_X7_inN (by omega) (by omega) (by omega)) rfl rfl rfl rfl ⟨rfl, rfl⟩ ?_
  refine w_ifb_eq hC dX7_best_9 (tgt := 26) (by decide) (fun c9 => ?_) (fun c9 => ?_)
  · exact absurd c9 (by omega)
  refine z_iload_n hC dX7_best_12 rfl ?_
  refine z_iconst hC dX7_best_13 (v := -1) rfl ?_
  refine z_icmp_eq hC dX7_best_14 (tgt := 33) (by decide) (fun c14 => ?_) (fun c14 => ?_)
  · exact absurd c14 (zne1 (by omega))
  refine z_aload_n hC dX7_best_17 rfl ?_
  refine z_iload_n hC dX7_best_18 rfl ?_
  refine z_n2m hC dX7_best_19 (by omega) ?_
  refine wVv hC dX7_best_20 zlX7_118 (c_X7_isBendN hS hm hR (by omega)) (hS _) rfl rfl rfl rfl rfl rfl ⟨rfl, rfl⟩ ?_
  refine w_ifb_ne hC dX7_best_23 (tgt := 33) (by decide) (fun c23 => ?_) (fun c23 => ?_)
  rotate_left
  · exact absurd c23 (by omega)
  refine z_aload_n hC dX7_best_33 rfl ?_
  refine wV0 hC dX7_best_34 zlX7_327 (c_X7_findMost hS hm hR) (hS _) rfl rfl rfl rfl rfl rfl ⟨rfl, rfl⟩ ?_
  have hq : zQm 0 D.1 (mwI 0 D.1 I) (moX 0 D.1 (mwX 0 D.1 X) (D.1.1 0)) := hmo.mw.frame (fun _ _ _ => rfl) (fun k j _ _ => moX_ne (by omega) _)
  have hw : mwF 0 D.1 (mwI 0 D.1 I) (moX 0 D.1 (mwX 0 D.1 X) (D.1.1 0)) := mwF_of.frame (fun _ _ _ => rfl) (fun j => moX_ne (by omega) _)
  refine z_iload_n hC dX7_best_37 rfl ?_
  refine z_bipush hC dX7_best_38 (v := nI 10) rfl ?_
  refine z_ndiv hC dX7_best_40 (by omega) (by omega) (by omega) ?_
  refine z_istore_n hC dX7_best_41 (lo2 := [_, _, _, _, _, _]) (Nat.le_of_ble_eq_true rfl) rfl rfl ?_
  refine z_iload_n hC dX7_best_42 rfl ?_
  refine z_iconst hC dX7_best_43 (v := -1) rfl ?_
  refine z_icmp_ne hC dX7_best_44 (tgt := 56) (by decide) (fun c44 => ?_) (fun c44 => ?_)
  rotate_left
  · exact absurd c44 (zne1 (by omega))
  refine z_iconst hC dX7_best_56 (v := nI 0) rfl ?_
  refine z_istore hC dX7_best_57 (lo2 := [_, _, _, _, _, _]) (Nat.le_of_ble_eq_true rfl) rfl rfl ?_
  refine z_iconst hC dX7_best_59 (v := nI 0) rfl ?_
  refine z_istore hC dX7_best_60 (lo2 := [_, _, _, _, _, _]) (Nat.le_of_ble_eq_true rfl) rfl rfl ?_
  have loop62 : ∀ (fuel : Nat) (i t l : Nat), b + 1 - i < fuel → i ≤ b + 1 → t ≤ 900 → (∀ j, i ≤ j → (plF D.1 (D.1.1 0 - i) t).2 / 4 ^ j % 4 = (plF D.1 (D.1.1 0) (x / 10)).2 / 4 ^ j % 4) → (0 < i → l = (plF D.1 (D.1.1 0) (x / 10)).2 / 4 ^ (i - 1) % 4) → zL C 6 ad S 0 0 sz (mwI 0 D.1 I) (moX 0 D.1 (mwX 0 D.1 X) (D.1.1 0)) Y 62 [some (zr 0 0), some (zi (nI x)), some (zi (nI b)), some (zi (nI t)), some (zi (nI l)), some (zi (nI i))] [] := by
    intro fuel
    induction fuel with
    | zero => intro i t l hfu; exact absurd hfu (Nat.not_lt_zero _)
    | succ fuel ih =>
      intro i t l hfu hib ht hj hl
      refine z_iload hC dX7_best_62 rfl ?_
      refine z_iload_n hC dX7_best_64 rfl ?_
      refine z_nicmp_gt hC dX7_best_65 (tgt := 115) (by decide) (by omega) (by omega) (fun c65 => ?_) (fun c65 => ?_)
      · skip
        obtain rfl : i = b + 1 := by omega
        refine z_iload hC dX7_best_115 rfl ?_
        refine z_iret hC dX7_best_117 ?_
        exact hE.to (by rw [hl (by omega), Nat.add_sub_cancel, pow4]) rfl rfl rfl
      have hi : i < D.1.1 0 := by omega
      have hlk : (lk D.1 i (plF D.1 (D.1.1 0 - (i + 1))) t 3) ≤ 3 := lkN_le _
      have hla := lk_all (R := D.1) (m := i) (t := t) (P := plF D.1 (D.1.1 0 - (i + 1))) 3
      have hps := plF_s (R := D.1) (t := t) hi
      have hpl := (plF_le hR (show D.1.1 0 - i ≤ D.1.1 0 by omega) (t := t)).1
      have hP : ∀ u, u ≤ t → (moX 0 D.1 (mwX 0 D.1 X) (D.1.1 0)) 0 (31 + 1 + (i + 1)) u = nI (plF D.1 (D.1.1 0 - (i + 1)) u).1 := fun u hu => by have h := moX_get (b := 0) (R := D.1) (X := (mwX 0 D.1 X)) (t := u) (k := D.1.1 0) (j := (D.1.1 0 - (i + 1))) (by omega) (by omega) (Nat.le_refl _); rwa [show D.1.1 0 - (D.1.1 0 - (i + 1)) = i + 1 by omega] at h
      have hPi : (moX 0 D.1 (mwX 0 D.1 X) (D.1.1 0)) 0 (31 + 1 + i) t = nI (plF D.1 (D.1.1 0 - i) t).1 := by have h := moX_get (b := 0) (R := D.1) (X := (mwX 0 D.1 X)) (t := t) (k := D.1.1 0) (j := D.1.1 0 - i) (by omega) (by omega) (Nat.le_refl _); rwa [show D.1.1 0 - (D.1.1 0 - i) = i by omega] at h
      refine z_iconst hC dX7_best_68 (v := nI 0) rfl ?_
      refine z_istore hC dX7_best_69 (lo2 := [_, _, _, _, _, _]) (Nat.le_of_ble_eq_true rfl) rfl rfl ?_
      have loop71 : ∀ (fuel : Nat) (c : Nat), (lk D.1 i (plF D.1 (D.1.1 0 - (i + 1))) t 3) - c < fuel → c ≤ (lk D.1 i (plF D.1 (D.1.1 0 - (i + 1))) t 3) → zL C 6 ad S 0 0 sz (mwI 0 D.1 I) (moX 0 D.1 (mwX 0 D.1 X) (D.1.1 0)) Y 71 [some (zr 0 0), some (zi (nI x)), some (zi (nI b)), some (zi (nI t)), some (zi (nI c)), some (zi (nI i))] [] := by
        intro fuel2
        induction fuel2 with
        | zero => intro c hfu; exact absurd hfu (Nat.not_lt_zero _)
        | succ fuel2 ih2 =>
          intro c hfu hc
          refine z_aload_n hC dX7_best_71 rfl ?_
          refine z_iload hC dX7_best_72 rfl ?_
          refine z_iload hC dX7_best_74 rfl ?_
          refine z_iload_n hC dX7_best_76 rfl ?_
          refine wVv hC dX7_best_77 zlX7_321 (c_X7_mostBy (P := fun u => (plF D.1 (D.1.1 0 - (i + 1)) u).1) hS hq hR hw hi (by omega) (by omega) (fun u hu => hP u (by omega))) (hS _) rfl rfl rfl rfl rfl rfl ⟨rfl, rfl⟩ ?_
          refine z_aload_n hC dX7_best_80 rfl ?_
          refine z_getR hC dX7_best_81 (hS _) zfX7_91 rfl ?_
          refine z_iload hC dX7_best_84 rfl ?_
          refine z_aald hC (by decide) dX7_best_86 (hS _) (by rw [List.length_map, List.length_range]; exact vp_in_nI (by omega) (by decide)) (msel (by omega)) ?_
          refine z_iload_n hC dX7_best_87 rfl ?_
          refine z_naldN hC dX7_best_88 ((hS _).trans (msh_most (by omega)).1) (by omega) rfl hPi ?_
          by_cases hce : c = (lk D.1 i (plF D.1 (D.1.1 0 - (i + 1))) t 3)
          · skip
            have hmb := hla.1
            rw [← hce] at hmb
            rw [hmb, hps]
            refine z_icmp_eq hC dX7_best_89 (tgt := 98) (by decide) (fun c89 => ?_) (fun c89 => ?_)
            rotate_left
            · exact absurd c89 (fun z => z rfl)
            have htn := hla.2.2.2.2
            rw [hce]
            · skip
              refine z_iload_n hC dX7_best_98 rfl ?_
              refine z_aload_n hC dX7_best_99 rfl ?_
              refine z_iload hC dX7_best_100 rfl ?_
              refine z_iload hC dX7_best_102 rfl ?_
              refine wVv hC dX7_best_104 zlX7_318 (c_X7_tensOf hS hq hR hi (by omega)) (hS _) rfl rfl rfl rfl rfl rfl ⟨rfl, rfl⟩ ?_
              refine z_nsub hC dX7_best_107 (by omega) ?_
              refine z_istore_n hC dX7_best_108 (lo2 := [_, _, _, _, _, _]) (Nat.le_of_ble_eq_true rfl) rfl rfl ?_
              refine z_ninc hC dX7_best_109 (lo2 := [_, _, _, _, _, _]) rfl rfl rfl rfl ?_
              refine z_goto hC dX7_best_112 (tgt := 62) (by decide) ?_
              refine ih (i + 1) _ _ (by omega) (by omega) (by omega) (fun j hij => ?_) (fun _ => ?_)
              · rw [← hj j (by omega), (plF_at hi).2 j (by omega)]
              · rw [Nat.add_sub_cancel, ← hj i (Nat.le_refl _), (plF_at hi).1]
          · skip
            have hclt : c < (lk D.1 i (plF D.1 (D.1.1 0 - (i + 1))) t 3) := by omega
            refine z_icmp_eq hC dX7_best_89 (tgt := 98) (by decide) (fun c89 => ?_) (fun c89 => ?_)
            · exact absurd c89 (oI_ne (by omega) (fun v hv => by rw [hps]; exact hla.2.1 c v hclt hv))
            refine z_ninc hC dX7_best_92 (lo2 := [_, _, _, _, _, _]) rfl rfl rfl rfl ?_
            refine z_goto hC dX7_best_95 (tgt := 71) (by decide) ?_
            exact ih2 (c + 1) (by omega) (by omega)
      exact z_sub (by simp [zsub]) (loop71 _ 0 (Nat.lt_succ_self _) (Nat.zero_le _))
  exact loop62 _ 0 (x / 10) 0 (Nat.lt_succ_self _) (Nat.zero_le _) (by omega) (fun j _ => rfl) (fun h => absurd h (Nat.lt_irrefl _))

theorem w_best_f (hS : ∀ k, S 0 k = msh 0 k) (hO : DOK D) (hM : MMe qe D I X Y) {x y : Int32} (hx : ¬ (iw x 0 9000 ∧ (y = -1 ∨ inB y (D.1.1 0)))) : zC0 mX7_best 6 [zr 0 0, zi x, zi y] (some (zi (-2))) ad S I X Y sz I (rmX 0 0 X) Y := by
  refine zgo (own := RX7) (k := 3) (by decide +kernel) rfl rfl rfl (fun C hC hnm hE => ?_)
  have hm := hM.1
  have hR := hO.1
  have hmo := hm
  have hn14 := hR.1
  have hn8 := hR.2.1
  have hn6 := hR.2.2.1
  refine z_iload_n hC dX7_best_0 rfl ?_
  refine z_i2l hC dX7_best_1  ?_
  refine z_lconst hC dX7_best_2 (v := lN 0) rfl ?_
  refine z_ldc2 hC dX7_best_3 (v := lN 9000) (zin6 (i := 152) rfl rfl) ?_
  refine wSv hC dX7_best_6 zlX7_97 (c_X7_inI (by omega) (by omega)) rfl rfl rfl rfl ⟨rfl, rfl⟩ ?_
  refine w_ifb_eq hC dX7_best_9 (tgt := 26) (by decide) (fun c9 => ?_) (fun c9 => ?_)
  · skip
    refine z_aload_n hC dX7_best_26 rfl ?_
    refine z_bipush hC dX7_best_27 (v := -2) rfl ?_
    refine wVv hC dX7_best_29 zlX7_107 (c_X7_refuse hS (j := 0) (by decide) (by decide)) (hS _) rfl rfl rfl rfl rfl rfl ⟨rfl, rfl⟩ ?_
    refine z_iret hC dX7_best_32 ?_
    exact hE.to (by rfl) rfl rfl rfl
  refine z_iload_n hC dX7_best_12 rfl ?_
  refine z_iconst hC dX7_best_13 (v := -1) rfl ?_
  refine z_icmp_eq hC dX7_best_14 (tgt := 33) (by decide) (fun c14 => ?_) (fun c14 => ?_)
  · exact absurd c14 (fun z => hx ⟨c9, Or.inl z⟩)
  refine z_aload_n hC dX7_best_17 rfl ?_
  refine z_iload_n hC dX7_best_18 rfl ?_
  refine z_i2l hC dX7_best_19  ?_
  refine wVv hC dX7_best_20 zlX7_118 (c_X7_isBendI hS hm hR) (hS _) rfl rfl rfl rfl rfl rfl ⟨rfl, rfl⟩ ?_
  refine w_ifb_ne hC dX7_best_23 (tgt := 33) (by decide) (fun c23 => ?_) (fun c23 => ?_)
  · exact absurd c23 (fun z => hx ⟨c9, Or.inr z⟩)
  refine z_aload_n hC dX7_best_26 rfl ?_
  refine z_bipush hC dX7_best_27 (v := -2) rfl ?_
  refine wVv hC dX7_best_29 zlX7_107 (c_X7_refuse hS (j := 0) (by decide) (by decide)) (hS _) rfl rfl rfl rfl rfl rfl ⟨rfl, rfl⟩ ?_
  refine z_iret hC dX7_best_32 ?_
  exact hE.to (by rfl) rfl rfl rfl

theorem m_best (hS : ∀ k, S 0 k = msh 0 k) (hO : DOK D) (hM : MMe qe D I X Y) {x y : Int32} : mC mX7_best 6 [zr 0 0, zi x, zi y] (some (zi (bestS D x y).1)) (bestS D x y).2 ad S I X Y sz qe := by
  have hn14 := hO.1.1
  unfold bestS
  by_cases h : iw x 0 9000 ∧ (y = -1 ∨ inB y (D.1.1 0))
  · rw [if_pos h]
    obtain ⟨x, -, h2, rfl, e1⟩ := iw_e h.1 (by decide) (by decide)
    rw [e1]
    by_cases hx : y = -1
    · subst hx
      rw [if_pos rfl]
      exact ⟨_, _, Y, hM.mo, w_best_n hS hO hM h2⟩
    · obtain ⟨b, hb, rfl, e2⟩ := inB_e (h.2.resolve_left hx) (by omega)
      rw [if_neg hx, e2]
      exact ⟨_, _, Y, hM.mo, w_best_b hS hO hM h2 hb⟩
  · rw [if_neg h]
    exact ⟨I, rmX 0 0 X, Y, hM.rf (by decide), w_best_f hS hO hM h⟩

end
