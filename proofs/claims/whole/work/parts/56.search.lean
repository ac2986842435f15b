/-! OnTheRoof: search -/
abbrev tlk (x : Int64) (c : Nat) : Prop := 0 ≤ x ∧ x / lN 10 < lN c ∧ nI 1 ≤ (x - x / lN 10 * lN 10).toInt32 ∧ (x - x / lN 10 * lN 10).toInt32 ≤ nI 3
theorem ln63 {x : Int64} (h0 : 0 ≤ x) : ∃ v, v < 2 ^ 63 ∧ x = lN v ∧ x.toInt.toNat = v := by
  have g0 : (0 : Int) ≤ x.toInt := by simpa using Int64.le_iff_toInt_le.mp h0
  have g1 := Int64.toInt_lt x
  refine ⟨x.toInt.toNat, by omega, ?_, rfl⟩
  apply Int64.toInt_inj.mp
  rw [show (lN x.toInt.toNat).toInt = ((x.toInt.toNat : Nat) : Int) from lg_ofNat_toInt (by omega)]
  omega
theorem tlk_iff {v c : Nat} (hv : v < 2 ^ 63) (hc : c ≤ 14) : tlk (lN v) c ↔ v / 10 < c ∧ 1 ≤ v % 10 ∧ v % 10 ≤ 3 := by
  have e1 : lN v / lN 10 = lN (v / 10) := pk_lDiv hv (by decide) (by decide)
  have e2 : lN v - lN v / lN 10 * lN 10 = lN (v % 10) := by
    rw [e1, lN_mul, lN_sub (by omega), show v - v / 10 * 10 = v % 10 by omega]
  unfold tlk
  rw [e2, e1, lN_i, pk_lLT (by omega) (by omega), nI_leI (by omega) (by omega), nI_leI (by omega) (by omega)]
  constructor
  · intro h; exact h.2
  · intro h
    exact ⟨(pk_lLE (a := 0) (by decide) hv).mpr (Nat.zero_le _), h⟩
theorem tlk_e {x : Int64} {c : Nat} (hc : c ≤ 14) (h : tlk x c) : ∃ v, v / 10 < c ∧ 1 ≤ v % 10 ∧ v % 10 ≤ 3 ∧ x = lN v ∧ x.toInt.toNat = v := by
  obtain ⟨v, hv, rfl, e⟩ := ln63 h.1
  have h1 := (tlk_iff hv hc).mp h
  exact ⟨v, h1.1, h1.2.1, h1.2.2, rfl, e⟩
def srB (el : Nat → Int64) (k : Nat) : Nat := lnn (el k) / 10
def srL (el : Nat → Int64) (k : Nat) : Nat := lnn (el k) % 10
def srM (m : Nat → Nat) (el : Nat → Int64) : Nat → Nat → Nat
  | 0 => m
  | k + 1 => fun i => if i = srB el k then missN (srM m el k (srB el k)) (srL el k) else srM m el k i
theorem srM_le {m : Nat → Nat} {el : Nat → Int64} {n : Nat} (hm : ∀ i, i < n → m i ≤ 100) : ∀ k, (∀ t, t < k → srB el t < n) → ∀ i, i < n → srM m el k i ≤ 100
  | 0, _, i, hi => hm i hi
  | k + 1, hb, i, hi => by
    have h1 := srM_le (m := m) hm k (fun t ht => hb t (by omega))
    unfold srM
    try dsimp only
    split
    · exact missN_le (h1 _ (hb k (by omega)))
    · exact h1 i hi
def srT (R : RS) (el : Nat → Int64) : Nat → Nat := sumN (fun k => secN (R.2.1 2 (srB el k)) (srL el k))
def srF (R : RS) (el : Nat → Int64) : Nat → Nat := sumN (fun k => fbN (wtN (signW R (R.1 1)) (srM (R.2.1 4) el k)) (srB el k) (srL el k))
def allT (el : Nat → Int64) (c : Nat) : Nat → Bool
  | 0 => true
  | k + 1 => allT el c k && decide (tlk (el k) c)
theorem allT_iff {el : Nat → Int64} {c : Nat} : ∀ {k : Nat}, allT el c k = true ↔ ∀ t, t < k → tlk (el t) c
  | 0 => ⟨fun _ t ht => absurd ht (Nat.not_lt_zero _), fun _ => rfl⟩
  | k + 1 => by
    unfold allT
    rw [Bool.and_eq_true, allT_iff (k := k), decide_eq_true_eq]
    constructor
    · intro h t ht
      by_cases e : t = k
      · rw [e]; exact h.2
      · exact h.1 t (by omega)
    · intro h
      exact ⟨fun t ht => h t (by omega), h k (by omega)⟩
def searchS (D : DS) (x y u : Int32) : Int32 × DS := if iw u 0 1 then (match tolN D x y with
  | some j => bad j D
  | none => if allT (D.2.2.2.1.2.2 (nn x)) (D.1.1 0) (nn y) = true then (if nn u = 0 then nI (srT D.1 (D.2.2.2.1.2.2 (nn x)) (nn y)) else nI (srF D.1 (D.2.2.2.1.2.2 (nn x)) (nn y)), D) else bad 3 D) else bad 0 D

section
variable {ad : zA} {S : zSh} {I X : zI} {Y : zY} {sz : Nat} {D : DS}

theorem e_search_n (hD : ∀ k, S 3 k = dsh k) (hO : DOK D) (hM : DMe D I X Y) {s m : Nat} (hs : s < 8) (hm4 : m ≤ 40) (hh : I 3 (35 + 2 * s) 0 = -1) {u : Nat} (hu : u ≤ 1)  : zC0 mX6_search 7 [zr 3 0, zi (nI s), zi (nI m), zi (nI u)] (some (zi (-4))) ad S I X Y sz I (rfX 2 X) Y := by
  refine zgo (own := RX6) (k := 7) (by decide +kernel) rfl rfl rfl (fun C hC hnm hE => ?_)
  have hm := hM.1
  have hR := hO.1
  refine z_aload_n hC dX6_search_0 rfl ?_
  refine z_iload_n hC dX6_search_1 rfl ?_
  refine zVv hC dX6_search_2 zlX6_54 (c_shelfAt_t hD hs) (hD _) rfl rfl rfl rfl rfl rfl ?_
  refine z_astore hC dX6_search_5 (lo2 := [_, _, _, _, _, _, _, _, _, _, _]) (Nat.le_of_ble_eq_true rfl) rfl rfl ?_
  refine z_aload hC dX6_search_7 rfl ?_
  refine z_ifnull hC dX6_search_9  ?_
  refine z_iload_n hC dX6_search_12 rfl ?_
  refine z_iconst hC dX6_search_13 (v := nI 0) rfl ?_
  refine z_iconst hC dX6_search_14 (v := nI 1) rfl ?_
  refine zSv hC dX6_search_15 zlX6_58 c_X6_isWithin rfl rfl rfl rfl ?_
  refine z_ifb_ne hC dX6_search_18 (tgt := 28) (by decide) (fun c18 => ?_) (fun c18 => ?_)
  rotate_left
  · exact absurd c18 (fun z => z (iw_of (Nat.zero_le _) hu (by decide)))
  refine z_aload hC dX6_search_28 rfl ?_
  refine z_iload_n hC dX6_search_30 rfl ?_
  refine zVv hC dX6_search_31 zlX6_285 (c_rot_n ((hD _).trans (dsh_s hs).1) hh hm4) ((hD _).trans (dsh_s hs).1) rfl rfl rfl rfl rfl rfl ?_
  refine z_istore hC dX6_search_34 (lo2 := [_, _, _, _, _, _, _, _, _, _, _]) (Nat.le_of_ble_eq_true rfl) rfl rfl ?_
  refine z_iload hC dX6_search_36 rfl ?_
  refine z_if_eq hC dX6_search_38 (tgt := 48) (by decide) (fun c38 => ?_) (fun c38 => ?_)
  · exact absurd c38 (by decide)
  refine z_aload_n hC dX6_search_41 rfl ?_
  refine z_iload hC dX6_search_42 rfl ?_
  refine zVv hC dX6_search_44 zlX6_62 (c_X6_refuse hD (j := 2) (by decide) (by decide)) (hD _) rfl rfl rfl rfl rfl rfl ?_
  refine z_iret hC dX6_search_47 ?_
  exact hE.to (by rfl) rfl rfl rfl

theorem e_search_b (hD : ∀ k, S 3 k = dsh k) (hO : DOK D) (hM : DMe D I X Y) {s m : Nat} (hs : s < 8) (hm4 : m ≤ 40) {b : Nat} (hb : b < 14) (hh : I 3 (35 + 2 * s) 0 = nI (10 + b)) {u : Nat} (hu : u ≤ 1)  : zC0 mX6_search 7 [zr 3 0, zi (nI s), zi (nI m), zi (nI u)] (some (zi (-3))) ad S I X Y sz I (rfX 1 X) Y := by
  refine zgo (own := RX6) (k := 7) (by decide +kernel) rfl rfl rfl (fun C hC hnm hE => ?_)
  have hm := hM.1
  have hR := hO.1
  refine z_aload_n hC dX6_search_0 rfl ?_
  refine z_iload_n hC dX6_search_1 rfl ?_
  refine zVv hC dX6_search_2 zlX6_54 (c_shelfAt_t hD hs) (hD _) rfl rfl rfl rfl rfl rfl ?_
  refine z_astore hC dX6_search_5 (lo2 := [_, _, _, _, _, _, _, _, _, _, _]) (Nat.le_of_ble_eq_true rfl) rfl rfl ?_
  refine z_aload hC dX6_search_7 rfl ?_
  refine z_ifnull hC dX6_search_9  ?_
  refine z_iload_n hC dX6_search_12 rfl ?_
  refine z_iconst hC dX6_search_13 (v := nI 0) rfl ?_
  refine z_iconst hC dX6_search_14 (v := nI 1) rfl ?_
  refine zSv hC dX6_search_15 zlX6_58 c_X6_isWithin rfl rfl rfl rfl ?_
  refine z_ifb_ne hC dX6_search_18 (tgt := 28) (by decide) (fun c18 => ?_) (fun c18 => ?_)
  rotate_left
  · exact absurd c18 (fun z => z (iw_of (Nat.zero_le _) hu (by decide)))
  refine z_aload hC dX6_search_28 rfl ?_
  refine z_iload_n hC dX6_search_30 rfl ?_
  refine zVv hC dX6_search_31 zlX6_285 (c_rot_b ((hD _).trans (dsh_s hs).1) hh hb hm4) ((hD _).trans (dsh_s hs).1) rfl rfl rfl rfl rfl rfl ?_
  refine z_istore hC dX6_search_34 (lo2 := [_, _, _, _, _, _, _, _, _, _, _]) (Nat.le_of_ble_eq_true rfl) rfl rfl ?_
  refine z_iload hC dX6_search_36 rfl ?_
  refine z_if_eq hC dX6_search_38 (tgt := 48) (by decide) (fun c38 => ?_) (fun c38 => ?_)
  · exact absurd c38 (by decide)
  refine z_aload_n hC dX6_search_41 rfl ?_
  refine z_iload hC dX6_search_42 rfl ?_
  refine zVv hC dX6_search_44 zlX6_62 (c_X6_refuse hD (j := 1) (by decide) (by decide)) (hD _) rfl rfl rfl rfl rfl rfl ?_
  refine z_iret hC dX6_search_47 ?_
  exact hE.to (by rfl) rfl rfl rfl

theorem e_search_l (hD : ∀ k, S 3 k = dsh k) (hO : DOK D) (hM : DMe D I X Y) {s m : Nat} (hs : s < 8) (hm4 : m ≤ 40) {q : Nat} (hq : q ≤ 4) (hh : I 3 (35 + 2 * s) 0 = nI q) {n : Nat} (hn : I 3 (35 + 2 * s) 1 = nI n) (hn40 : n ≤ 40) (hmn : n < m) {u : Nat} (hu : u ≤ 1)  : zC0 mX6_search 7 [zr 3 0, zi (nI s), zi (nI m), zi (nI u)] (some (zi (-2))) ad S I X Y sz I (rfX 0 X) Y := by
  refine zgo (own := RX6) (k := 7) (by decide +kernel) rfl rfl rfl (fun C hC hnm hE => ?_)
  have hm := hM.1
  have hR := hO.1
  refine z_aload_n hC dX6_search_0 rfl ?_
  refine z_iload_n hC dX6_search_1 rfl ?_
  refine zVv hC dX6_search_2 zlX6_54 (c_shelfAt_t hD hs) (hD _) rfl rfl rfl rfl rfl rfl ?_
  refine z_astore hC dX6_search_5 (lo2 := [_, _, _, _, _, _, _, _, _, _, _]) (Nat.le_of_ble_eq_true rfl) rfl rfl ?_
  refine z_aload hC dX6_search_7 rfl ?_
  refine z_ifnull hC dX6_search_9  ?_
  refine z_iload_n hC dX6_search_12 rfl ?_
  refine z_iconst hC dX6_search_13 (v := nI 0) rfl ?_
  refine z_iconst hC dX6_search_14 (v := nI 1) rfl ?_
  refine zSv hC dX6_search_15 zlX6_58 c_X6_isWithin rfl rfl rfl rfl ?_
  refine z_ifb_ne hC dX6_search_18 (tgt := 28) (by decide) (fun c18 => ?_) (fun c18 => ?_)
  rotate_left
  · exact absurd c18 (fun z => z (iw_of (Nat.zero_le _) hu (by decide)))
  refine z_aload hC dX6_search_28 rfl ?_
  refine z_iload_n hC dX6_search_30 rfl ?_
  refine zVv hC dX6_search_31 zlX6_285 (c_rot_f ((hD _).trans (dsh_s hs).1) hh hq hn hn40 hm4 hmn) ((hD _).trans (dsh_s hs).1) rfl rfl rfl rfl rfl rfl ?_
  refine z_istore hC dX6_search_34 (lo2 := [_, _, _, _, _, _, _, _, _, _, _]) (Nat.le_of_ble_eq_true rfl) rfl rfl ?_
  refine z_iload hC dX6_search_36 rfl ?_
  refine z_if_eq hC dX6_search_38 (tgt := 48) (by decide) (fun c38 => ?_) (fun c38 => ?_)
  · exact absurd c38 (by decide)
  refine z_aload_n hC dX6_search_41 rfl ?_
  refine z_iload hC dX6_search_42 rfl ?_
  refine zVv hC dX6_search_44 zlX6_62 (c_X6_refuse hD (j := 0) (by decide) (by decide)) (hD _) rfl rfl rfl rfl rfl rfl ?_
  refine z_iret hC dX6_search_47 ?_
  exact hE.to (by rfl) rfl rfl rfl

theorem e_search_w (hD : ∀ k, S 3 k = dsh k) (hO : DOK D) (hM : DMe D I X Y) {s : Nat} {y : Int32} (hs : s < 8) (hy : ¬ inB y 41) {u : Nat} (hu : u ≤ 1)  : zC0 mX6_search 7 [zr 3 0, zi (nI s), zi y, zi (nI u)] (some (zi (-2))) ad S I X Y sz I (rfX 0 X) Y := by
  refine zgo (own := RX6) (k := 7) (by decide +kernel) rfl rfl rfl (fun C hC hnm hE => ?_)
  have hm := hM.1
  have hR := hO.1
  refine z_aload_n hC dX6_search_0 rfl ?_
  refine z_iload_n hC dX6_search_1 rfl ?_
  refine zVv hC dX6_search_2 zlX6_54 (c_shelfAt_t hD hs) (hD _) rfl rfl rfl rfl rfl rfl ?_
  refine z_astore hC dX6_search_5 (lo2 := [_, _, _, _, _, _, _, _, _, _, _]) (Nat.le_of_ble_eq_true rfl) rfl rfl ?_
  refine z_aload hC dX6_search_7 rfl ?_
  refine z_ifnull hC dX6_search_9  ?_
  refine z_iload_n hC dX6_search_12 rfl ?_
  refine z_iconst hC dX6_search_13 (v := nI 0) rfl ?_
  refine z_iconst hC dX6_search_14 (v := nI 1) rfl ?_
  refine zSv hC dX6_search_15 zlX6_58 c_X6_isWithin rfl rfl rfl rfl ?_
  refine z_ifb_ne hC dX6_search_18 (tgt := 28) (by decide) (fun c18 => ?_) (fun c18 => ?_)
  rotate_left
  · exact absurd c18 (fun z => z (iw_of (Nat.zero_le _) hu (by decide)))
  refine z_aload hC dX6_search_28 rfl ?_
  refine z_iload_n hC dX6_search_30 rfl ?_
  refine zVv hC dX6_search_31 zlX6_285 (c_rot_bad ((hD _).trans (dsh_s hs).1) hy) ((hD _).trans (dsh_s hs).1) rfl rfl rfl rfl rfl rfl ?_
  refine z_istore hC dX6_search_34 (lo2 := [_, _, _, _, _, _, _, _, _, _, _]) (Nat.le_of_ble_eq_true rfl) rfl rfl ?_
  refine z_iload hC dX6_search_36 rfl ?_
  refine z_if_eq hC dX6_search_38 (tgt := 48) (by decide) (fun c38 => ?_) (fun c38 => ?_)
  · exact absurd c38 (by decide)
  refine z_aload_n hC dX6_search_41 rfl ?_
  refine z_iload hC dX6_search_42 rfl ?_
  refine zVv hC dX6_search_44 zlX6_62 (c_X6_refuse hD (j := 0) (by decide) (by decide)) (hD _) rfl rfl rfl rfl rfl rfl ?_
  refine z_iret hC dX6_search_47 ?_
  exact hE.to (by rfl) rfl rfl rfl

theorem e_search_f (hD : ∀ k, S 3 k = dsh k) (hO : DOK D) (hM : DMe D I X Y) {x y u : Int32} (hx : ¬ inB x 8) : zC0 mX6_search 7 [zr 3 0, zi x, zi y, zi u] (some (zi (-2))) ad S I X Y sz I (rfX 0 X) Y := by
  refine zgo (own := RX6) (k := 7) (by decide +kernel) rfl rfl rfl (fun C hC hnm hE => ?_)
  have hm := hM.1
  have hR := hO.1
  refine z_aload_n hC dX6_search_0 rfl ?_
  refine z_iload_n hC dX6_search_1 rfl ?_
  refine zVv hC dX6_search_2 zlX6_54 (c_shelfAt_f hD hx) (hD _) rfl rfl rfl rfl rfl rfl ?_
  refine z_astoreN hC dX6_search_5 (lo2 := [_, _, _, _, _, _, _, _, _, _, _]) (Nat.le_of_ble_eq_true rfl) rfl rfl ?_
  refine z_aloadN hC dX6_search_7 rfl ?_
  refine z_ifnullN hC dX6_search_9 (tgt := 21) (by decide) ?_
  refine z_aload_n hC dX6_search_21 rfl ?_
  refine z_bipush hC dX6_search_22 (v := -2) rfl ?_
  refine zVv hC dX6_search_24 zlX6_62 (c_X6_refuse hD (j := 0) (by decide) (by decide)) (hD _) rfl rfl rfl rfl rfl rfl ?_
  refine z_iret hC dX6_search_27 ?_
  exact hE.to (by rfl) rfl rfl rfl

theorem e_search_u (hD : ∀ k, S 3 k = dsh k) (hO : DOK D) (hM : DMe D I X Y) {s : Nat} {y u : Int32} (hs : s < 8) (hu : ¬ iw u 0 1) : zC0 mX6_search 7 [zr 3 0, zi (nI s), zi y, zi u] (some (zi (-2))) ad S I X Y sz I (rfX 0 X) Y := by
  refine zgo (own := RX6) (k := 7) (by decide +kernel) rfl rfl rfl (fun C hC hnm hE => ?_)
  have hm := hM.1
  have hR := hO.1
  refine z_aload_n hC dX6_search_0 rfl ?_
  refine z_iload_n hC dX6_search_1 rfl ?_
  refine zVv hC dX6_search_2 zlX6_54 (c_shelfAt_t hD hs) (hD _) rfl rfl rfl rfl rfl rfl ?_
  refine z_astore hC dX6_search_5 (lo2 := [_, _, _, _, _, _, _, _, _, _, _]) (Nat.le_of_ble_eq_true rfl) rfl rfl ?_
  refine z_aload hC dX6_search_7 rfl ?_
  refine z_ifnull hC dX6_search_9  ?_
  refine z_iload_n hC dX6_search_12 rfl ?_
  refine z_iconst hC dX6_search_13 (v := nI 0) rfl ?_
  refine z_iconst hC dX6_search_14 (v := nI 1) rfl ?_
  refine zSv hC dX6_search_15 zlX6_58 c_X6_isWithin rfl rfl rfl rfl ?_
  refine z_ifb_ne hC dX6_search_18 (tgt := 28) (by decide) (fun c18 => ?_) (fun c18 => ?_)
  · exact absurd c18 hu
  refine z_aload_n hC dX6_search_21 rfl ?_
  refine z_bipush hC dX6_search_22 (v := -2) rfl ?_
  refine zVv hC dX6_search_24 zlX6_62 (c_X6_refuse hD (j := 0) (by decide) (by decide)) (hD _) rfl rfl rfl rfl rfl rfl ?_
  refine z_iret hC dX6_search_27 ?_
  exact hE.to (by rfl) rfl rfl rfl

theorem e_search_s (hD : ∀ k, S 3 k = dsh k) (hO : DOK D) (hM : DMe D I X Y) {s m : Nat} (hs : s < 8) (hm4 : m ≤ 40) {q : Nat} (hq : q ≤ 4) (hh : I 3 (35 + 2 * s) 0 = nI q) {n : Nat} (hn : I 3 (35 + 2 * s) 1 = nI n) (hn40 : n ≤ 40) (hmn : m ≤ n) {u : Nat} (hu : u ≤ 1) (hw : ¬ ∀ t, t < m → tlk (Y 3 (36 + 2 * s) t) (D.1.1 0)) : zC0 mX6_search 7 [zr 3 0, zi (nI s), zi (nI m), zi (nI u)] (some (zi (-5))) ad S I X Y sz I (rfX 3 X) Y := by
  refine zgo (own := RX6) (k := 7) (by decide +kernel) rfl rfl rfl (fun C hC hnm hE => ?_)
  have hm := hM.1
  have hR := hO.1
  refine z_aload_n hC dX6_search_0 rfl ?_
  refine z_iload_n hC dX6_search_1 rfl ?_
  refine zVv hC dX6_search_2 zlX6_54 (c_shelfAt_t hD hs) (hD _) rfl rfl rfl rfl rfl rfl ?_
  refine z_astore hC dX6_search_5 (lo2 := [_, _, _, _, _, _, _, _, _, _, _]) (Nat.le_of_ble_eq_true rfl) rfl rfl ?_
  refine z_aload hC dX6_search_7 rfl ?_
  refine z_ifnull hC dX6_search_9  ?_
  refine z_iload_n hC dX6_search_12 rfl ?_
  refine z_iconst hC dX6_search_13 (v := nI 0) rfl ?_
  refine z_iconst hC dX6_search_14 (v := nI 1) rfl ?_
  refine zSv hC dX6_search_15 zlX6_58 c_X6_isWithin rfl rfl rfl rfl ?_
  refine z_ifb_ne hC dX6_search_18 (tgt := 28) (by decide) (fun c18 => ?_) (fun c18 => ?_)
  rotate_left
  · exact absurd c18 (fun z => z (iw_of (Nat.zero_le _) hu (by decide)))
  refine z_aload hC dX6_search_28 rfl ?_
  refine z_iload_n hC dX6_search_30 rfl ?_
  refine zVv hC dX6_search_31 zlX6_285 (c_rot_t ((hD _).trans (dsh_s hs).1) hh hq hn hn40 hm4 hmn) ((hD _).trans (dsh_s hs).1) rfl rfl rfl rfl rfl rfl ?_
  refine z_istore hC dX6_search_34 (lo2 := [_, _, _, _, _, _, _, _, _, _, _]) (Nat.le_of_ble_eq_true rfl) rfl rfl ?_
  refine z_iload hC dX6_search_36 rfl ?_
  refine z_nif_eq hC dX6_search_38 (tgt := 48) (by decide) (by omega) (fun c38 => ?_) (fun c38 => ?_)
  rotate_left
  · exfalso; omega
  refine z_iconst hC dX6_search_48 (v := nI 0) rfl ?_
  refine z_istore hC dX6_search_49 (lo2 := [_, _, _, _, _, _, _, _, _, _, _]) (Nat.le_of_ble_eq_true rfl) rfl rfl ?_
  have loop51 : ∀ (fuel : Nat) (i : Nat), m - i < fuel → i ≤ m → (∀ t, t < i → tlk (Y 3 (36 + 2 * s) t) (D.1.1 0)) → zL C 11 ad S 0 0 sz I X Y 51 [some (zr 3 0), some (zi (nI s)), some (zi (nI m)), some (zi (nI u)), some (zr 3 (35 + 2 * s)), some (zi (nI 0)), some (zi (nI i)), none, none, none, none] [] := by
    intro fuel51
    induction fuel51 with
    | zero => intro i hfu; exact absurd hfu (Nat.not_lt_zero _)
    | succ fuel51 ih51 =>
      intro i hfu him hpre
      refine z_iload hC dX6_search_51 rfl ?_
      refine z_iload_n hC dX6_search_53 rfl ?_
      refine z_nicmp_ge hC dX6_search_54 (tgt := 84) (by decide) (by omega) (by omega) (fun c54 => ?_) (fun c54 => ?_)
      · exfalso; exact hw (fun t ht => hpre t (by omega))
      refine z_aload_n hC dX6_search_57 rfl ?_
      refine z_aload hC dX6_search_58 rfl ?_
      refine z_iload hC dX6_search_60 rfl ?_
      refine zVv hC dX6_search_62 zlX6_100 (c_elementAt_t ((hD _).trans (dsh_s hs).1) ((hD _).trans (dsh_s hs).2) hh hq hn hn40 (show i < n by omega)) ((hD _).trans (dsh_s hs).1) rfl rfl rfl rfl rfl rfl ?_
      refine zVv hC dX6_search_65 zlX6_297 (c_X6_isToldLook hD hm hR) (hD _) rfl rfl rfl rfl rfl rfl ?_
      refine z_ifb_ne hC dX6_search_68 (tgt := 78) (by decide) (fun c68 => ?_) (fun c68 => ?_)
      · skip
        refine z_ninc hC dX6_search_78 (lo2 := [_, _, _, _, _, _, _, _, _, _, _]) rfl rfl rfl rfl ?_
        refine z_goto hC dX6_search_81 (tgt := 51) (by decide) ?_
        refine ih51 (i + 1) (by omega) (by omega) (fun t ht => ?_)
        by_cases e : t = i
        · rw [e]; first | exact c68 | exact hw i (by omega)
        · exact hpre t (by omega)
      refine z_aload_n hC dX6_search_71 rfl ?_
      refine z_bipush hC dX6_search_72 (v := -5) rfl ?_
      refine zVv hC dX6_search_74 zlX6_62 (c_X6_refuse hD (j := 3) (by decide) (by decide)) (hD _) rfl rfl rfl rfl rfl rfl ?_
      refine z_iret hC dX6_search_77 ?_
      exact hE.to (by rfl) rfl rfl rfl
  exact z_sub (by simp [zsub]) (loop51 _ 0 (Nat.lt_succ_self _) (Nat.zero_le _) (fun t ht => absurd ht (Nat.not_lt_zero _)))

theorem srX0 {R : RS} {el : Nat → Int64} {s : Nat} : zrow 3 24 (srM (R.2.1 4) el 0) (R.1 0) (wgX R s X) = wgX R s X := zrow_zrow
theorem srM_step {m : Nat → Nat} {el : Nat → Int64} {k b l n : Nat} {X : zI} (ec : srB el k = b ∧ srL el k = l) (hb : b < n) : up3 (zrow 3 24 (srM m el k) n X) 3 24 b (nI (missN (srM m el k b) l)) = zrow 3 24 (srM m el (k + 1)) n X := by
  rw [zrow_set hb]
  obtain ⟨rfl, rfl⟩ := ec
  rfl
theorem e_search_t (hD : ∀ k, S 3 k = dsh k) (hO : DOK D) (hM : DMe D I X Y) {s m : Nat} (hs : s < 8) (hm4 : m ≤ 40) {q : Nat} (hq : q ≤ 4) (hh : I 3 (35 + 2 * s) 0 = nI q) {n : Nat} (hn : I 3 (35 + 2 * s) 1 = nI n) (hn40 : n ≤ 40) (hmn : m ≤ n) {u : Nat} (hu : u ≤ 1) (hw : ∀ t, t < m → tlk (Y 3 (36 + 2 * s) t) (D.1.1 0)) : zC0 mX6_search 7 [zr 3 0, zi (nI s), zi (nI m), zi (nI u)] (some (zi (if u = 0 then nI (srT D.1 (Y 3 (36 + 2 * s)) m) else nI (srF D.1 (Y 3 (36 + 2 * s)) m)))) ad S I X Y sz (wgI D.1 (D.1.1 1) I) (zrow 3 24 (srM (D.1.2.1 4) (Y 3 (36 + 2 * s)) m) (D.1.1 0) (wgX D.1 (D.1.1 1) X)) Y := by
  refine zgo (own := RX6) (k := 7) (by decide +kernel) rfl rfl rfl (fun C hC hnm hE => ?_)
  have hm := hM.1
  have hR := hO.1
  have hn14 := hR.1
  have hwg := wg_W (s := D.1.1 1) (I := I) (X := X) hR
  have hmg := wg_R (R := D.1) (s := D.1.1 1) (r := 1) (by decide) hm
  have hwb := wbits hwg
  have hhw : (wgI D.1 (D.1.1 1) I) 3 (35 + 2 * s) 0 = nI q := (wg_I (by omega)).trans hh
  have hnw : (wgI D.1 (D.1.1 1) I) 3 (35 + 2 * s) 1 = nI n := (wg_I (by omega)).trans hn
  refine z_aload_n hC dX6_search_0 rfl ?_
  refine z_iload_n hC dX6_search_1 rfl ?_
  refine zVv hC dX6_search_2 zlX6_54 (c_shelfAt_t hD hs) (hD _) rfl rfl rfl rfl rfl rfl ?_
  refine z_astore hC dX6_search_5 (lo2 := [_, _, _, _, _, _, _, _, _, _, _]) (Nat.le_of_ble_eq_true rfl) rfl rfl ?_
  refine z_aload hC dX6_search_7 rfl ?_
  refine z_ifnull hC dX6_search_9  ?_
  refine z_iload_n hC dX6_search_12 rfl ?_
  refine z_iconst hC dX6_search_13 (v := nI 0) rfl ?_
  refine z_iconst hC dX6_search_14 (v := nI 1) rfl ?_
  refine zSv hC dX6_search_15 zlX6_58 c_X6_isWithin rfl rfl rfl rfl ?_
  refine z_ifb_ne hC dX6_search_18 (tgt := 28) (by decide) (fun c18 => ?_) (fun c18 => ?_)
  rotate_left
  · exact absurd c18 (fun z => z (iw_of (Nat.zero_le _) hu (by decide)))
  refine z_aload hC dX6_search_28 rfl ?_
  refine z_iload_n hC dX6_search_30 rfl ?_
  refine zVv hC dX6_search_31 zlX6_285 (c_rot_t ((hD _).trans (dsh_s hs).1) hh hq hn hn40 hm4 hmn) ((hD _).trans (dsh_s hs).1) rfl rfl rfl rfl rfl rfl ?_
  refine z_istore hC dX6_search_34 (lo2 := [_, _, _, _, _, _, _, _, _, _, _]) (Nat.le_of_ble_eq_true rfl) rfl rfl ?_
  refine z_iload hC dX6_search_36 rfl ?_
  refine z_nif_eq hC dX6_search_38 (tgt := 48) (by decide) (by omega) (fun c38 => ?_) (fun c38 => ?_)
  rotate_left
  · exfalso; omega
  refine z_iconst hC dX6_search_48 (v := nI 0) rfl ?_
  refine z_istore hC dX6_search_49 (lo2 := [_, _, _, _, _, _, _, _, _, _, _]) (Nat.le_of_ble_eq_true rfl) rfl rfl ?_
  have loop51 : ∀ (fuel : Nat) (i : Nat), m - i < fuel → i ≤ m → (∀ t, t < i → tlk (Y 3 (36 + 2 * s) t) (D.1.1 0)) → zL C 11 ad S 0 0 sz I X Y 51 [some (zr 3 0), some (zi (nI s)), some (zi (nI m)), some (zi (nI u)), some (zr 3 (35 + 2 * s)), some (zi (nI 0)), some (zi (nI i)), none, none, none, none] [] := by
    intro fuel51
    induction fuel51 with
    | zero => intro i hfu; exact absurd hfu (Nat.not_lt_zero _)
    | succ fuel51 ih51 =>
      intro i hfu him hpre
      refine z_iload hC dX6_search_51 rfl ?_
      refine z_iload_n hC dX6_search_53 rfl ?_
      refine z_nicmp_ge hC dX6_search_54 (tgt := 84) (by decide) (by omega) (by omega) (fun c54 => ?_) (fun c54 => ?_)
      · skip
        have hsb : ∀ t, t < m → srB (Y 3 (36 + 2 * s)) t < D.1.1 0 := fun t ht => by obtain ⟨v, h1, -, -, -, e⟩ := tlk_e hn14 (hpre t (by omega)); unfold srB lnn; rw [e]; exact h1
        refine z_aload_n hC dX6_search_84 rfl ?_
        refine z_getR hC dX6_search_85 (hD _) zfX6_25 rfl ?_
        refine z_aload_n hC dX6_search_88 rfl ?_
        refine z_getR hC dX6_search_89 (hD _) zfX6_10 rfl ?_
        refine zV0 hC dX6_search_92 zlX6_194 (c_X5_weigh hD hm hR) (hD _) rfl rfl rfl rfl rfl rfl ?_
        refine z_iconst hC dX6_search_95 (v := nI 0) rfl ?_
        refine z_istore hC dX6_search_96 (lo2 := [_, _, _, _, _, _, _, _, _, _, _]) (Nat.le_of_ble_eq_true rfl) rfl rfl ?_
        refine z_iconst hC dX6_search_98 (v := nI 0) rfl ?_
        refine z_istore hC dX6_search_99 (lo2 := [_, _, _, _, _, _, _, _, _, _, _]) (Nat.le_of_ble_eq_true rfl) rfl rfl ?_
        refine z_iconst hC dX6_search_101 (v := nI 0) rfl ?_
        refine z_istore hC dX6_search_102 (lo2 := [_, _, _, _, _, _, _, _, _, _, _]) (Nat.le_of_ble_eq_true rfl) rfl rfl ?_
        have loop104 : ∀ (fuel : Nat) (k : Nat), m - k < fuel → k ≤ m → zL C 11 ad S 0 0 sz (wgI D.1 (D.1.1 1) I) (zrow 3 24 (srM (D.1.2.1 4) (Y 3 (36 + 2 * s)) k) (D.1.1 0) (wgX D.1 (D.1.1 1) X)) Y 104 [some (zr 3 0), some (zi (nI s)), some (zi (nI m)), some (zi (nI u)), some (zr 3 (35 + 2 * s)), some (zi (nI 0)), some (zi (nI (srT D.1 (Y 3 (36 + 2 * s)) k))), some (zi (nI (srF D.1 (Y 3 (36 + 2 * s)) k))), some (zi (nI k)), none, none] [] := by
          intro fuel104
          induction fuel104 with
          | zero => intro k hfu; exact absurd hfu (Nat.not_lt_zero _)
          | succ fuel104 ih104 =>
            intro k hfu hkm
            have hml := srM_le (el := (Y 3 (36 + 2 * s))) (fun i hi => (hwg.2.2.2.2.2.2 i hi).2) k (fun t ht => hsb t (by omega))
            have hwk : zWm (D.1.1 0) (signW D.1 (D.1.1 1)) (srM (D.1.2.1 4) (Y 3 (36 + 2 * s)) k) (signH D.1 (D.1.1 1)) (wgI D.1 (D.1.1 1) I) (zrow 3 24 (srM (D.1.2.1 4) (Y 3 (36 + 2 * s)) k) (D.1.1 0) (wgX D.1 (D.1.1 1) X)) := zWm_miss hwg hml
            have hmk : zRm 1 D.1 (wgI D.1 (D.1.1 1) I) (zrow 3 24 (srM (D.1.2.1 4) (Y 3 (36 + 2 * s)) k) (D.1.1 0) (wgX D.1 (D.1.1 1) X)) := hmg.frame (fun _ _ _ _ => rfl) (fun k1 j h1 h2 => zrow_ne (by omega))
            refine z_iload hC dX6_search_104 rfl ?_
            refine z_iload_n hC dX6_search_106 rfl ?_
            refine z_nicmp_ge hC dX6_search_107 (tgt := 187) (by decide) (by omega) (by omega) (fun c107 => ?_) (fun c107 => ?_)
            · skip
              obtain hkm2 : k = m := by omega
              refine z_iload_n hC dX6_search_187 rfl ?_
              refine z_nif_ne hC dX6_search_188 (tgt := 196) (by decide) (by omega) (fun c188 => ?_) (fun c188 => ?_)
              · skip
                refine z_iload hC dX6_search_196 rfl ?_
                refine z_iret hC dX6_search_198 ?_
                exact hE.to (by first | (rw [if_pos (by omega), hkm2]) | (rw [if_neg (by omega), hkm2])) rfl (by rw [hkm2]) rfl
              refine z_iload hC dX6_search_191 rfl ?_
              refine z_goto hC dX6_search_193 (tgt := 198) (by decide) ?_
              refine z_iret hC dX6_search_198 ?_
              exact hE.to (by first | (rw [if_pos (by omega), hkm2]) | (rw [if_neg (by omega), hkm2])) rfl (by rw [hkm2]) rfl
            obtain ⟨v, hb, hl1, hl3, ev, en⟩ := tlk_e hn14 (hpre k (by omega))
            have ec : srB (Y 3 (36 + 2 * s)) k = v / 10 ∧ srL (Y 3 (36 + 2 * s)) k = v % 10 := by unfold srB srL lnn; rw [en]; exact ⟨rfl, rfl⟩
            refine z_aload hC dX6_search_110 rfl ?_
            refine z_iload hC dX6_search_112 rfl ?_
            refine zVv hC dX6_search_114 zlX6_100 (c_elementAt_t ((hD _).trans (dsh_s hs).1) ((hD _).trans (dsh_s hs).2) hhw hq hnw hn40 (show k < n by omega)) ((hD _).trans (dsh_s hs).1) rfl rfl rfl rfl rfl rfl ?_
            rw [ev]
            refine z_ldc2 hC dX6_search_117 (v := lN 10) (zin4 (i := 144) rfl rfl) ?_
            refine z_mdiv hC dX6_search_120 (by omega) (by decide) (by decide) ?_
            refine z_m2n hC dX6_search_121  ?_
            refine z_istore hC dX6_search_122 (lo2 := [_, _, _, _, _, _, _, _, _, _, _]) (Nat.le_of_ble_eq_true rfl) rfl rfl ?_
            refine z_aload hC dX6_search_124 rfl ?_
            refine z_iload hC dX6_search_126 rfl ?_
            refine zVv hC dX6_search_128 zlX6_100 (c_elementAt_t ((hD _).trans (dsh_s hs).1) ((hD _).trans (dsh_s hs).2) hhw hq hnw hn40 (show k < n by omega)) ((hD _).trans (dsh_s hs).1) rfl rfl rfl rfl rfl rfl ?_
            rw [ev]
            refine z_ldc2 hC dX6_search_131 (v := lN 10) (zin4 (i := 144) rfl rfl) ?_
            refine z_mrem hC dX6_search_134 (by omega) (by decide) (by decide) ?_
            refine z_m2n hC dX6_search_135  ?_
            refine z_istore hC dX6_search_136 (lo2 := [_, _, _, _, _, _, _, _, _, _, _]) (Nat.le_of_ble_eq_true rfl) rfl rfl ?_
            refine z_iload hC dX6_search_138 rfl ?_
            refine z_aload_n hC dX6_search_140 rfl ?_
            refine z_getR hC dX6_search_141 (hD _) zfX6_10 rfl ?_
            refine z_iload hC dX6_search_144 rfl ?_
            refine z_iload hC dX6_search_146 rfl ?_
            refine zVv hC dX6_search_148 zlX6_223 (c_X1_secondsOf (zRd_1 hD) hmk hR hb (by omega)) (hD _) rfl rfl rfl rfl rfl rfl ?_
            refine z_nadd hC dX6_search_151  ?_
            refine z_istore hC dX6_search_152 (lo2 := [_, _, _, _, _, _, _, _, _, _, _]) (Nat.le_of_ble_eq_true rfl) rfl rfl ?_
            refine z_iload hC dX6_search_154 rfl ?_
            refine z_aload_n hC dX6_search_156 rfl ?_
            refine z_getR hC dX6_search_157 (hD _) zfX6_25 rfl ?_
            refine z_iload hC dX6_search_160 rfl ?_
            refine z_iload hC dX6_search_162 rfl ?_
            refine zVv hC dX6_search_164 zlX6_226 (c_X5_foundBy hD hwk hb (by omega)) (hD _) rfl rfl rfl rfl rfl rfl ?_
            refine z_nadd hC dX6_search_167  ?_
            refine z_istore hC dX6_search_168 (lo2 := [_, _, _, _, _, _, _, _, _, _, _]) (Nat.le_of_ble_eq_true rfl) rfl rfl ?_
            refine z_aload_n hC dX6_search_170 rfl ?_
            refine z_getR hC dX6_search_171 (hD _) zfX6_25 rfl ?_
            refine z_iload hC dX6_search_174 rfl ?_
            refine z_iload hC dX6_search_176 rfl ?_
            refine zV0 hC dX6_search_178 zlX6_303 (c_X5_lookInVain hD hwk hb (by omega)) (hD _) rfl rfl rfl rfl rfl rfl ?_
            rw [show up3 (zrow 3 24 (srM (D.1.2.1 4) (Y 3 (36 + 2 * s)) k) (D.1.1 0) (wgX D.1 (D.1.1 1) X)) 3 24 (v / 10) (nI (missN ((srM (D.1.2.1 4) (Y 3 (36 + 2 * s)) k) (v / 10)) (v % 10))) = zrow 3 24 (srM (D.1.2.1 4) (Y 3 (36 + 2 * s)) (k + 1)) (D.1.1 0) (wgX D.1 (D.1.1 1) X) from srM_step ec hb]
            refine z_ninc hC dX6_search_181 (lo2 := [_, _, _, _, _, _, _, _, _, _, _]) rfl rfl rfl rfl ?_
            refine z_goto hC dX6_search_184 (tgt := 104) (by decide) ?_
            refine z_sub ?_ (ih104 (k + 1) (by omega) (by omega))
            rw [show srT D.1 (Y 3 (36 + 2 * s)) (k + 1) = srT D.1 (Y 3 (36 + 2 * s)) k + secN (D.1.2.1 2 (v / 10)) (v % 10) by rw [← ec.1, ← ec.2]; rfl, show srF D.1 (Y 3 (36 + 2 * s)) (k + 1) = srF D.1 (Y 3 (36 + 2 * s)) k + fbN (wtN (signW D.1 (D.1.1 1)) (srM (D.1.2.1 4) (Y 3 (36 + 2 * s)) k)) (v / 10) (v % 10) by rw [← ec.1, ← ec.2]; rfl]
            simp [zsub]
        have h0 := loop104 _ 0 (Nat.lt_succ_self _) (Nat.zero_le _)
        rw [show zrow 3 24 (srM (D.1.2.1 4) (Y 3 (36 + 2 * s)) 0) (D.1.1 0) (wgX D.1 (D.1.1 1) X) = (wgX D.1 (D.1.1 1) X) from srX0] at h0
        exact z_sub (by simp [zsub, srT, srF, sumN]) h0
      refine z_aload_n hC dX6_search_57 rfl ?_
      refine z_aload hC dX6_search_58 rfl ?_
      refine z_iload hC dX6_search_60 rfl ?_
      refine zVv hC dX6_search_62 zlX6_100 (c_elementAt_t ((hD _).trans (dsh_s hs).1) ((hD _).trans (dsh_s hs).2) hh hq hn hn40 (show i < n by omega)) ((hD _).trans (dsh_s hs).1) rfl rfl rfl rfl rfl rfl ?_
      refine zVv hC dX6_search_65 zlX6_297 (c_X6_isToldLook hD hm hR) (hD _) rfl rfl rfl rfl rfl rfl ?_
      refine z_ifb_ne hC dX6_search_68 (tgt := 78) (by decide) (fun c68 => ?_) (fun c68 => ?_)
      rotate_left
      · exact absurd c68 (fun z => z (hw i (by omega)))
      refine z_ninc hC dX6_search_78 (lo2 := [_, _, _, _, _, _, _, _, _, _, _]) rfl rfl rfl rfl ?_
      refine z_goto hC dX6_search_81 (tgt := 51) (by decide) ?_
      refine ih51 (i + 1) (by omega) (by omega) (fun t ht => ?_)
      by_cases e : t = i
      · rw [e]; first | exact c68 | exact hw i (by omega)
      · exact hpre t (by omega)
  exact z_sub (by simp [zsub]) (loop51 _ 0 (Nat.lt_succ_self _) (Nat.zero_le _) (fun t ht => absurd ht (Nat.not_lt_zero _)))

end
