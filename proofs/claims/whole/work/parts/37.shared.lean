/-! OnTheRoof: what its calls share -/
def rfX (j : Nat) (X : zI) : zI := up3 X 3 33 j (X 3 33 j + nI 1)
abbrev undN (k o : Nat) : Prop := k = o ∨ o = 0 ∨ k = 3 ∧ o = 1 ∨ k = 4 ∧ o = 2
def lftN (w p : Nat) : Nat → Nat
  | 0 => w
  | k + 1 => lftN w p k - lftN w p k * p / 1000
theorem lftN_le {w p : Nat} : ∀ k, lftN w p k ≤ w
  | 0 => Nat.le_refl _
  | k + 1 => Nat.le_trans (Nat.sub_le _ _) (lftN_le k)
def hfN (pl : Nat → Nat) (own : Nat) : Nat → Nat
  | 0 => 0
  | i + 1 => if pl i < own ∧ hfN pl own i ≤ pl i then pl i + 1 else hfN pl own i
theorem hfN_le {pl : Nat → Nat} {own : Nat} : ∀ i, hfN pl own i ≤ own
  | 0 => Nat.zero_le _
  | i + 1 => by
    have := hfN_le (pl := pl) (own := own) i
    unfold hfN
    split <;> omega
def hearN (R : RS) (w : Nat → Nat) (c : Nat) : Nat := sumR w (hfN (R.2.1 8) (R.2.1 8 c) (R.1 2)) (R.2.1 8 c + 1) * R.2.1 10 c / 100
def hsetN (R : RS) (w : Nat → Nat) (t : Nat) : Nat → Nat := sumN (fun i => if bitN t i then hearN R w i else 0)
def minsN (R : RS) (t : Nat) : Nat → Nat := sumN (fun i => if bitN t i then R.2.1 9 i else 0)
def wpF (el : Nat → Int64) (c : Int64) : Nat → Nat → Int64 → Option Nat
  | 0, _, _ => none
  | k + 1, i, v => if el i < v ∨ c ≤ el i then some i else wpF el c k (i + 1) (el i)
theorem wpF_1 {el : Nat → Int64} {c : Int64} {k i : Nat} {v : Int64} (h : el i < v ∨ c ≤ el i) : wpF el c (k + 1) i v = some i := if_pos h
theorem wpF_0 {el : Nat → Int64} {c : Int64} {k i : Nat} {v : Int64} (h : ¬ (el i < v ∨ c ≤ el i)) : wpF el c (k + 1) i v = wpF el c k (i + 1) (el i) := if_neg h
def rheld (R : RS) (v w g : Nat) : Nat := heldN (fun i => fallN (R.2.1 0 i) (R.2.1 1 i) v w g) (R.1 0)
theorem rheld_le {R : RS} {v w g : Nat} : rheld R v w g ≤ 1000000 := heldN_le _ _
theorem shel : ∀ s, s < 8 → ([some (3, 35), some (3, 37), some (3, 39), some (3, 41), some (3, 43), some (3, 45), some (3, 47), some (3, 49)] : List (Option (Nat × Nat)))[s]? = some (some (3, 35 + 2 * s)) := by decide
theorem wbits {n : Nat} {w m : Nat → Nat} {h : Nat} {I X : zI} (hw : zWm n w m h I X) : sumN (wtN w m) n + h ≤ 15000000 := by
  have h1 := sumN_le (n := n) (fun i hi => (wtN_le hw hi).1)
  have h2 := hw.2.2.2.2.1
  have h3 := hw.2.2.2.2.2.1
  have : n * 1000000 ≤ 14 * 1000000 := Nat.mul_le_mul_right _ h2
  omega
section
variable {ad : zA} {S : zSh} {I X : zI} {Y : zY} {sz : Nat} {R : RS} {n h : Nat} {w m : Nat → Nat}
theorem c_bhas (hD : ∀ k, S 3 k = dsh k) (hm : zRm 1 R I X) {x : Int32} : zC0 mX3_has 0 [zr 3 2, zi x] (some (zi (zb (inB x (R.1 0)) inferInstance))) ad S I X Y sz I X Y := by
  have h := c_X3_has (ad := ad) (I := I) (X := X) (Y := Y) (sz := sz) (row := x) (hD 2)
  have e : I 3 2 2 = nI (R.1 0) := hm.1.2.1
  rwa [e] at h
theorem c_shas (hD : ∀ k, S 3 k = dsh k) (hm : zRm 1 R I X) {x : Int32} : zC0 mX3_has 0 [zr 3 4, zi x] (some (zi (zb (inB x (R.1 1)) inferInstance))) ad S I X Y sz I X Y := by
  have h := c_X3_has (ad := ad) (I := I) (X := X) (Y := Y) (sz := sz) (row := x) (hD 4)
  have e : I 3 4 2 = nI (R.1 1) := hm.2.1.2.1
  rwa [e] at h
theorem c_chas (hD : ∀ k, S 3 k = dsh k) (hm : zRm 1 R I X) {x : Int32} : zC0 mX3_has 0 [zr 3 6, zi x] (some (zi (zb (inB x (R.1 2)) inferInstance))) ad S I X Y sz I X Y := by
  have h := c_X3_has (ad := ad) (I := I) (X := X) (Y := Y) (sz := sz) (row := x) (hD 6)
  have e : I 3 6 2 = nI (R.1 2) := hm.2.2.1.2.1
  rwa [e] at h

theorem c_X6_refuse (hD : ∀ k, S 3 k = dsh k) {v : Int32} {j : Nat} (hj : j < 5) (hv : -2 - v = nI j) : zC0 mX6_refuse 0 [zr 3 0, zi v] (some (zi v)) ad S I X Y sz I (rfX j X) Y := by
  refine zgo (own := RX6) (k := 1) (by decide +kernel) rfl rfl rfl (fun C hC hnm hE => ?_)
  refine z_bipush hC dX6_refuse_0 (v := -2) rfl ?_
  refine z_iload_n hC dX6_refuse_2 rfl ?_
  refine z_isub hC dX6_refuse_3  ?_
  rw [hv]
  refine z_istore_n hC dX6_refuse_4 (lo2 := [_, _, _]) (Nat.le_of_ble_eq_true rfl) rfl rfl ?_
  refine z_iload_n hC dX6_refuse_5 rfl ?_
  refine z_nif_lt hC dX6_refuse_6 ⟨28, by decide⟩ (by omega) ?_
  refine z_iload_n hC dX6_refuse_9 rfl ?_
  refine z_aload_n hC dX6_refuse_10 rfl ?_
  refine z_getR hC dX6_refuse_11 (hD _) zfX6_43 rfl ?_
  refine z_alen hC dX6_refuse_14 (hD _) (v := nI _) rfl ?_
  refine z_nicmp_ge hC dX6_refuse_15 (tgt := 28) (by decide) (by omega) (by omega) (fun c15 => ?_) (fun c15 => ?_)
  · exfalso; omega
  refine z_aload_n hC dX6_refuse_18 rfl ?_
  refine z_getR hC dX6_refuse_19 (hD _) zfX6_43 rfl ?_
  refine z_iload_n hC dX6_refuse_22 rfl ?_
  refine z_dup2 hC dX6_refuse_23 rfl rfl ?_
  refine z_nald hC dX6_refuse_24 (hD _) (by omega) rfl ?_
  refine z_iconst hC dX6_refuse_25 (v := nI 1) rfl ?_
  refine z_iadd hC dX6_refuse_26  ?_
  refine z_niast hC dX6_refuse_27 (hD _) (by omega) rfl ?_
  refine z_iload_n hC dX6_refuse_28 rfl ?_
  refine z_iret hC dX6_refuse_29 ?_
  exact hE.to (by rfl) rfl rfl rfl

theorem c_X6_refused (hD : ∀ k, S 3 k = dsh k) {j : Nat} (hj : j < 5) : zC0 mX6_refused 0 [zr 3 0, zi (nI j)] (some (zi (X 3 33 j))) ad S I X Y sz I X Y := by
  refine zgo (own := RX6) (k := 0) (by decide +kernel) rfl rfl rfl (fun C hC hnm hE => ?_)
  refine z_iload_n hC dX6_refused_0 rfl ?_
  refine z_nif_lt hC dX6_refused_1 ⟨22, by decide⟩ (by omega) ?_
  refine z_iload_n hC dX6_refused_4 rfl ?_
  refine z_aload_n hC dX6_refused_5 rfl ?_
  refine z_getR hC dX6_refused_6 (hD _) zfX6_43 rfl ?_
  refine z_alen hC dX6_refused_9 (hD _) (v := nI _) rfl ?_
  refine z_nicmp_ge hC dX6_refused_10 (tgt := 22) (by decide) (by omega) (by omega) (fun c10 => ?_) (fun c10 => ?_)
  · exfalso; omega
  refine z_aload_n hC dX6_refused_13 rfl ?_
  refine z_getR hC dX6_refused_14 (hD _) zfX6_43 rfl ?_
  refine z_iload_n hC dX6_refused_17 rfl ?_
  refine z_nald hC dX6_refused_18 (hD _) (by omega) rfl ?_
  refine z_goto hC dX6_refused_19 (tgt := 23) (by decide) ?_
  refine z_iret hC dX6_refused_23 ?_
  exact hE.to (by rfl) rfl rfl rfl

theorem c_shelfAt_t (hD : ∀ k, S 3 k = dsh k) {s : Nat} (hs : s < 8) : zC0 mX6_shelfAt 0 [zr 3 0, zi (nI s)] (some (zr 3 (35 + 2 * s))) ad S I X Y sz I X Y := by
  refine zgo (own := RX6) (k := 0) (by decide +kernel) rfl rfl rfl (fun C hC hnm hE => ?_)
  refine z_iload_n hC dX6_shelfAt_0 rfl ?_
  refine z_nif_lt hC dX6_shelfAt_1 ⟨22, by decide⟩ (by omega) ?_
  refine z_iload_n hC dX6_shelfAt_4 rfl ?_
  refine z_aload_n hC dX6_shelfAt_5 rfl ?_
  refine z_getR hC dX6_shelfAt_6 (hD _) zfX6_49 rfl ?_
  refine z_alenQ hC (by decide) dX6_shelfAt_9 (hD _) (v := nI 8) rfl ?_
  refine z_nicmp_ge hC dX6_shelfAt_10 (tgt := 22) (by decide) (by omega) (by omega) (fun c10 => ?_) (fun c10 => ?_)
  · exfalso; omega
  refine z_aload_n hC dX6_shelfAt_13 rfl ?_
  refine z_getR hC dX6_shelfAt_14 (hD _) zfX6_49 rfl ?_
  refine z_iload_n hC dX6_shelfAt_17 rfl ?_
  refine z_aald hC (by decide) dX6_shelfAt_18 (hD _) (vp_in_nI hs (by decide)) (by rw [nI_clamp (by omega)]; exact shel s hs) ?_
  refine z_goto hC dX6_shelfAt_19 (tgt := 23) (by decide) ?_
  refine z_aret hC dX6_shelfAt_23 ?_
  exact hE.to (by rfl) rfl rfl rfl

theorem c_shelfAt_f (hD : ∀ k, S 3 k = dsh k) {x : Int32} (hx : ¬ inB x 8) : zC0 mX6_shelfAt 0 [zr 3 0, zi x] (some zu) ad S I X Y sz I X Y := by
  refine zgo (own := RX6) (k := 0) (by decide +kernel) rfl rfl rfl (fun C hC hnm hE => ?_)
  refine z_iload_n hC dX6_shelfAt_0 rfl ?_
  refine z_if_lt hC dX6_shelfAt_1 (tgt := 22) (by decide) (fun c1 => ?_) (fun c1 => ?_)
  · skip
    refine z_null hC dX6_shelfAt_22  ?_
    refine z_aret hC dX6_shelfAt_23 ?_
    exact hE.to (by rfl) rfl rfl rfl
  refine z_iload_n hC dX6_shelfAt_4 rfl ?_
  refine z_aload_n hC dX6_shelfAt_5 rfl ?_
  refine z_getR hC dX6_shelfAt_6 (hD _) zfX6_49 rfl ?_
  refine z_alenQ hC (by decide) dX6_shelfAt_9 (hD _) (v := nI 8) rfl ?_
  refine z_icmp_ge hC dX6_shelfAt_10 (tgt := 22) (by decide) (fun c10 => ?_) (fun c10 => ?_)
  rotate_left
  · exact absurd c10 (fun z => hx ⟨Int32.not_lt.mp c1, Int32.not_le.mp z⟩)
  refine z_null hC dX6_shelfAt_22  ?_
  refine z_aret hC dX6_shelfAt_23 ?_
  exact hE.to (by rfl) rfl rfl rfl

theorem c_X6_isLook {x : Int32} : zC0 mX6_isLook 1 [zi x] (some (zi (zb (nI 1 ≤ x ∧ x ≤ nI 3) inferInstance))) ad S I X Y sz I X Y := by
  refine zgo (own := RX6) (k := 0) (by decide +kernel) rfl rfl rfl (fun C hC hnm hE => ?_)
  refine z_iload_n hC dX6_isLook_0 rfl ?_
  refine z_iconst hC dX6_isLook_1 (v := nI 1) rfl ?_
  refine z_iconst hC dX6_isLook_2 (v := nI 3) rfl ?_
  refine zSv hC dX6_isLook_3 zlX6_58 c_X6_isWithin rfl rfl rfl rfl ?_
  refine z_zret hC dX6_isLook_6 zb_n ?_
  exact hE.to (by rfl) rfl rfl rfl

theorem c_X6_isUnder {k q : Nat} (hk : k ≤ 5) (hq : q ≤ 5) : zC0 mX6_isUnder 0 [zi (nI k), zi (nI q)] (some (zi (zb (undN k q) inferInstance))) ad S I X Y sz I X Y := by
  refine zgo (own := RX6) (k := 0) (by decide +kernel) rfl rfl rfl (fun C hC hnm hE => ?_)
  refine z_iload_n hC dX6_isUnder_0 rfl ?_
  refine z_iload_n hC dX6_isUnder_1 rfl ?_
  refine z_nicmp_eq hC dX6_isUnder_2 (tgt := 29) (by decide) (by omega) (by omega) (fun c2 => ?_) (fun c2 => ?_)
  · skip
    refine z_iconst hC dX6_isUnder_29 (v := nI 1) rfl ?_
    refine z_goto hC dX6_isUnder_30 (tgt := 34) (by decide) ?_
    refine z_zret hC dX6_isUnder_34 rfl ?_
    exact hE.to (by first | exact zbT (by omega) | exact zbF (by omega)) rfl rfl rfl
  refine z_iload_n hC dX6_isUnder_5 rfl ?_
  refine z_nif_eq hC dX6_isUnder_6 (tgt := 29) (by decide) (by omega) (fun c6 => ?_) (fun c6 => ?_)
  · skip
    refine z_iconst hC dX6_isUnder_29 (v := nI 1) rfl ?_
    refine z_goto hC dX6_isUnder_30 (tgt := 34) (by decide) ?_
    refine z_zret hC dX6_isUnder_34 rfl ?_
    exact hE.to (by first | exact zbT (by omega) | exact zbF (by omega)) rfl rfl rfl
  refine z_iload_n hC dX6_isUnder_9 rfl ?_
  refine z_iconst hC dX6_isUnder_10 (v := nI 3) rfl ?_
  refine z_nicmp_ne hC dX6_isUnder_11 (tgt := 19) (by decide) (by omega) (by omega) (fun c11 => ?_) (fun c11 => ?_)
  · skip
    refine z_iload_n hC dX6_isUnder_19 rfl ?_
    refine z_iconst hC dX6_isUnder_20 (v := nI 4) rfl ?_
    refine z_nicmp_ne hC dX6_isUnder_21 (tgt := 33) (by decide) (by omega) (by omega) (fun c21 => ?_) (fun c21 => ?_)
    · skip
      refine z_iconst hC dX6_isUnder_33 (v := nI 0) rfl ?_
      refine z_zret hC dX6_isUnder_34 rfl ?_
      exact hE.to (by first | exact zbT (by omega) | exact zbF (by omega)) rfl rfl rfl
    refine z_iload_n hC dX6_isUnder_24 rfl ?_
    refine z_iconst hC dX6_isUnder_25 (v := nI 2) rfl ?_
    refine z_nicmp_ne hC dX6_isUnder_26 (tgt := 33) (by decide) (by omega) (by omega) (fun c26 => ?_) (fun c26 => ?_)
    · skip
      refine z_iconst hC dX6_isUnder_33 (v := nI 0) rfl ?_
      refine z_zret hC dX6_isUnder_34 rfl ?_
      exact hE.to (by first | exact zbT (by omega) | exact zbF (by omega)) rfl rfl rfl
    refine z_iconst hC dX6_isUnder_29 (v := nI 1) rfl ?_
    refine z_goto hC dX6_isUnder_30 (tgt := 34) (by decide) ?_
    refine z_zret hC dX6_isUnder_34 rfl ?_
    exact hE.to (by first | exact zbT (by omega) | exact zbF (by omega)) rfl rfl rfl
  refine z_iload_n hC dX6_isUnder_14 rfl ?_
  refine z_iconst hC dX6_isUnder_15 (v := nI 1) rfl ?_
  refine z_nicmp_eq hC dX6_isUnder_16 (tgt := 29) (by decide) (by omega) (by omega) (fun c16 => ?_) (fun c16 => ?_)
  · skip
    refine z_iconst hC dX6_isUnder_29 (v := nI 1) rfl ?_
    refine z_goto hC dX6_isUnder_30 (tgt := 34) (by decide) ?_
    refine z_zret hC dX6_isUnder_34 rfl ?_
    exact hE.to (by first | exact zbT (by omega) | exact zbF (by omega)) rfl rfl rfl
  refine z_iload_n hC dX6_isUnder_19 rfl ?_
  refine z_iconst hC dX6_isUnder_20 (v := nI 4) rfl ?_
  refine z_nicmp_ne hC dX6_isUnder_21 (tgt := 33) (by decide) (by omega) (by omega) (fun c21 => ?_) (fun c21 => ?_)
  · skip
    refine z_iconst hC dX6_isUnder_33 (v := nI 0) rfl ?_
    refine z_zret hC dX6_isUnder_34 rfl ?_
    exact hE.to (by first | exact zbT (by omega) | exact zbF (by omega)) rfl rfl rfl
  refine z_iload_n hC dX6_isUnder_24 rfl ?_
  refine z_iconst hC dX6_isUnder_25 (v := nI 2) rfl ?_
  refine z_nicmp_ne hC dX6_isUnder_26 (tgt := 33) (by decide) (by omega) (by omega) (fun c26 => ?_) (fun c26 => ?_)
  · skip
    refine z_iconst hC dX6_isUnder_33 (v := nI 0) rfl ?_
    refine z_zret hC dX6_isUnder_34 rfl ?_
    exact hE.to (by first | exact zbT (by omega) | exact zbF (by omega)) rfl rfl rfl
  refine z_iconst hC dX6_isUnder_29 (v := nI 1) rfl ?_
  refine z_goto hC dX6_isUnder_30 (tgt := 34) (by decide) ?_
  refine z_zret hC dX6_isUnder_34 rfl ?_
  exact hE.to (by first | exact zbT (by omega) | exact zbF (by omega)) rfl rfl rfl

theorem c_X6_afterTrip {a b : Nat} (ha : a ≤ 1000000) (hb : b ≤ 1000000) : zC0 mX6_afterTrip 0 [zi (nI a), zi (nI b)] (some (zi (nI (a * b / 1000000)))) ad S I X Y sz I X Y := by
  refine zgo (own := RX6) (k := 0) (by decide +kernel) rfl rfl rfl (fun C hC hnm hE => ?_)
  have hab : a * b ≤ 1000000 * 1000000 := Nat.mul_le_mul ha hb
  refine z_iload_n hC dX6_afterTrip_0 rfl ?_
  refine z_n2m hC dX6_afterTrip_1 (by omega) ?_
  refine z_iload_n hC dX6_afterTrip_2 rfl ?_
  refine z_n2m hC dX6_afterTrip_3 (by omega) ?_
  refine z_mmul hC dX6_afterTrip_4  ?_
  refine z_ldc2 hC dX6_afterTrip_5 (v := lN 1000000) (zin4 (i := 86) rfl rfl) ?_
  refine z_mdiv hC dX6_afterTrip_8 (by omega) (by omega) (by omega) ?_
  refine z_m2n hC dX6_afterTrip_9  ?_
  refine z_iret hC dX6_afterTrip_10 ?_
  exact hE.to (by rfl) rfl rfl rfl

theorem c_X6_goneBy {v p t : Nat} (hv : v ≤ 1000000) (hp : p ≤ 1000) (ht : t ≤ 300) : zC0 mX6_goneBy 0 [zi (nI v), zi (nI p), zi (nI t)] (some (zi (nI (v - lftN v p t)))) ad S I X Y sz I X Y := by
  refine zgo (own := RX6) (k := 2) (by decide +kernel) rfl rfl rfl (fun C hC hnm hE => ?_)
  refine z_iload_n hC dX6_goneBy_0 rfl ?_
  refine z_istore_n hC dX6_goneBy_1 (lo2 := [_, _, _, _, _]) (Nat.le_of_ble_eq_true rfl) rfl rfl ?_
  refine z_iconst hC dX6_goneBy_2 (v := nI 0) rfl ?_
  refine z_istore hC dX6_goneBy_3 (lo2 := [_, _, _, _, _]) (Nat.le_of_ble_eq_true rfl) rfl rfl ?_
  have loop5 : ∀ (fuel : Nat) (k : Nat), t - k < fuel → k ≤ t → zL C 5 ad S 0 0 sz I X Y 5 [some (zi (nI v)), some (zi (nI p)), some (zi (nI t)), some (zi (nI (lftN v p k))), some (zi (nI k))] [] := by
    intro fuel
    induction fuel with
    | zero => intro k hfu; exact absurd hfu (Nat.not_lt_zero _)
    | succ fuel ih =>
      intro k hfu hk
      have hlf := lftN_le (w := v) (p := p) k
      have hlp : lftN v p k * p ≤ 1000000 * 1000 := Nat.mul_le_mul (by omega) hp
      have hlq : lftN v p k * p ≤ lftN v p k * 1000 := Nat.mul_le_mul_left _ hp
      refine z_iload hC dX6_goneBy_5 rfl ?_
      refine z_iload_n hC dX6_goneBy_7 rfl ?_
      refine z_nicmp_ge hC dX6_goneBy_8 (tgt := 27) (by decide) (by omega) (by omega) (fun c8 => ?_) (fun c8 => ?_)
      · skip
        refine z_iload_n hC dX6_goneBy_27 rfl ?_
        refine z_iload_n hC dX6_goneBy_28 rfl ?_
        refine z_nsub hC dX6_goneBy_29 (by omega) ?_
        refine z_iret hC dX6_goneBy_30 ?_
        exact hE.to (by rw [show t = k by omega]) rfl rfl rfl
      refine z_iload_n hC dX6_goneBy_11 rfl ?_
      refine z_iload_n hC dX6_goneBy_12 rfl ?_
      refine z_iload_n hC dX6_goneBy_13 rfl ?_
      refine z_nmul hC dX6_goneBy_14  ?_
      refine z_sipush hC dX6_goneBy_15 (v := nI 1000) rfl ?_
      refine z_ndiv hC dX6_goneBy_18 (by omega) (by omega) (by omega) ?_
      refine z_nsub hC dX6_goneBy_19 (by omega) ?_
      refine z_istore_n hC dX6_goneBy_20 (lo2 := [_, _, _, _, _]) (Nat.le_of_ble_eq_true rfl) rfl rfl ?_
      refine z_ninc hC dX6_goneBy_21 (lo2 := [_, _, _, _, _]) rfl rfl rfl rfl ?_
      refine z_goto hC dX6_goneBy_24 (tgt := 5) (by decide) ?_
      exact ih (k + 1) (by omega) (by omega)
  exact loop5 _ 0 (Nat.lt_succ_self _) (Nat.zero_le _)

theorem c_X6_isBendOrNone (hD : ∀ k, S 3 k = dsh k) (hm : zRm 1 R I X) (hR : ROK R) {x : Int32} : zC0 mX6_isBendOrNone 1 [zr 3 0, zi x] (some (zi (zb (x = -1 ∨ inB x (R.1 0)) inferInstance))) ad S I X Y sz I X Y := by
  refine zgo (own := RX6) (k := 0) (by decide +kernel) rfl rfl rfl (fun C hC hnm hE => ?_)
  refine z_iload_n hC dX6_isBendOrNone_0 rfl ?_
  refine z_iconst hC dX6_isBendOrNone_1 (v := -1) rfl ?_
  refine z_icmp_eq hC dX6_isBendOrNone_2 (tgt := 19) (by decide) (fun c2 => ?_) (fun c2 => ?_)
  · skip
    refine z_iconst hC dX6_isBendOrNone_19 (v := nI 1) rfl ?_
    refine z_goto hC dX6_isBendOrNone_20 (tgt := 24) (by decide) ?_
    refine z_zret hC dX6_isBendOrNone_24 rfl ?_
    exact hE.to (by first | exact zbT (Or.inl c2) | exact zbT (Or.inr c16) | exact zbF (fun h => h.elim c2 c16)) rfl rfl rfl
  refine z_aload_n hC dX6_isBendOrNone_5 rfl ?_
  refine z_getR hC dX6_isBendOrNone_6 (hD _) zfX6_10 rfl ?_
  refine z_getR hC dX6_isBendOrNone_9 (hD _) zfX6_115 rfl ?_
  refine z_iload_n hC dX6_isBendOrNone_12 rfl ?_
  refine zVv hC dX6_isBendOrNone_13 zlX6_119 (c_bhas hD hm) (hD _) rfl rfl rfl rfl rfl rfl ?_
  refine z_ifb_eq hC dX6_isBendOrNone_16 (tgt := 23) (by decide) (fun c16 => ?_) (fun c16 => ?_)
  · skip
    refine z_iconst hC dX6_isBendOrNone_23 (v := nI 0) rfl ?_
    refine z_zret hC dX6_isBendOrNone_24 rfl ?_
    exact hE.to (by first | exact zbT (Or.inl c2) | exact zbT (Or.inr c16) | exact zbF (fun h => h.elim c2 c16)) rfl rfl rfl
  refine z_iconst hC dX6_isBendOrNone_19 (v := nI 1) rfl ?_
  refine z_goto hC dX6_isBendOrNone_20 (tgt := 24) (by decide) ?_
  refine z_zret hC dX6_isBendOrNone_24 rfl ?_
  exact hE.to (by first | exact zbT (Or.inl c2) | exact zbT (Or.inr c16) | exact zbF (fun h => h.elim c2 c16)) rfl rfl rfl

theorem c_X6_isLookAt (hD : ∀ k, S 3 k = dsh k) (hm : zRm 1 R I X) (hR : ROK R) {x y : Int32} : zC0 mX6_isLookAt 2 [zr 3 0, zi x, zi y] (some (zi (zb (inB x (R.1 0) ∧ nI 1 ≤ y ∧ y ≤ nI 3) inferInstance))) ad S I X Y sz I X Y := by
  refine zgo (own := RX6) (k := 0) (by decide +kernel) rfl rfl rfl (fun C hC hnm hE => ?_)
  refine z_aload_n hC dX6_isLookAt_0 rfl ?_
  refine z_getR hC dX6_isLookAt_1 (hD _) zfX6_10 rfl ?_
  refine z_getR hC dX6_isLookAt_4 (hD _) zfX6_115 rfl ?_
  refine z_iload_n hC dX6_isLookAt_7 rfl ?_
  refine zVv hC dX6_isLookAt_8 zlX6_119 (c_bhas hD hm) (hD _) rfl rfl rfl rfl rfl rfl ?_
  refine z_ifb_eq hC dX6_isLookAt_11 (tgt := 25) (by decide) (fun c11 => ?_) (fun c11 => ?_)
  · skip
    refine z_iconst hC dX6_isLookAt_25 (v := nI 0) rfl ?_
    refine z_zret hC dX6_isLookAt_26 rfl ?_
    exact hE.to (by first | exact zbT ⟨c11, c18⟩ | exact zbF (fun h => c11 h.1) | exact zbF (fun h => c18 h.2)) rfl rfl rfl
  refine z_iload_n hC dX6_isLookAt_14 rfl ?_
  refine zSv hC dX6_isLookAt_15 zlX6_331 c_X6_isLook rfl rfl rfl rfl ?_
  refine z_ifb_eq hC dX6_isLookAt_18 (tgt := 25) (by decide) (fun c18 => ?_) (fun c18 => ?_)
  · skip
    refine z_iconst hC dX6_isLookAt_25 (v := nI 0) rfl ?_
    refine z_zret hC dX6_isLookAt_26 rfl ?_
    exact hE.to (by first | exact zbT ⟨c11, c18⟩ | exact zbF (fun h => c11 h.1) | exact zbF (fun h => c18 h.2)) rfl rfl rfl
  refine z_iconst hC dX6_isLookAt_21 (v := nI 1) rfl ?_
  refine z_goto hC dX6_isLookAt_22 (tgt := 26) (by decide) ?_
  refine z_zret hC dX6_isLookAt_26 rfl ?_
  exact hE.to (by first | exact zbT ⟨c11, c18⟩ | exact zbF (fun h => c11 h.1) | exact zbF (fun h => c18 h.2)) rfl rfl rfl

theorem c_X6_isSign (hD : ∀ k, S 3 k = dsh k) (hm : zRm 1 R I X) (hR : ROK R) {x y : Int32} : zC0 mX6_isSign 1 [zr 3 0, zi x, zi y] (some (zi (zb (tkP R 4 0 x ∧ tkP R 4 1 y) inferInstance))) ad S I X Y sz I X Y := by
  refine zgo (own := RX6) (k := 0) (by decide +kernel) rfl rfl rfl (fun C hC hnm hE => ?_)
  refine z_aload_n hC dX6_isSign_0 rfl ?_
  refine z_getR hC dX6_isSign_1 (hD _) zfX6_10 rfl ?_
  refine z_iconst hC dX6_isSign_4 (v := nI 4) rfl ?_
  refine z_iconst hC dX6_isSign_5 (v := nI 0) rfl ?_
  refine z_iload_n hC dX6_isSign_6 rfl ?_
  refine zVv hC dX6_isSign_7 zlX6_137 (c_X1_takes (zRd_1 hD) hm hR (q := 4) (p := 0) (by decide) (by decide)) (hD _) rfl rfl rfl rfl rfl rfl ?_
  refine z_ifb_eq hC dX6_isSign_10 (tgt := 30) (by decide) (fun c10 => ?_) (fun c10 => ?_)
  · skip
    refine z_iconst hC dX6_isSign_30 (v := nI 0) rfl ?_
    refine z_zret hC dX6_isSign_31 rfl ?_
    exact hE.to (by first | exact zbT ⟨c10, c23⟩ | exact zbF (fun h => c10 h.1) | exact zbF (fun h => c23 h.2)) rfl rfl rfl
  refine z_aload_n hC dX6_isSign_13 rfl ?_
  refine z_getR hC dX6_isSign_14 (hD _) zfX6_10 rfl ?_
  refine z_iconst hC dX6_isSign_17 (v := nI 4) rfl ?_
  refine z_iconst hC dX6_isSign_18 (v := nI 1) rfl ?_
  refine z_iload_n hC dX6_isSign_19 rfl ?_
  refine zVv hC dX6_isSign_20 zlX6_137 (c_X1_takes (zRd_1 hD) hm hR (q := 4) (p := 1) (by decide) (by decide)) (hD _) rfl rfl rfl rfl rfl rfl ?_
  refine z_ifb_eq hC dX6_isSign_23 (tgt := 30) (by decide) (fun c23 => ?_) (fun c23 => ?_)
  · skip
    refine z_iconst hC dX6_isSign_30 (v := nI 0) rfl ?_
    refine z_zret hC dX6_isSign_31 rfl ?_
    exact hE.to (by first | exact zbT ⟨c10, c23⟩ | exact zbF (fun h => c10 h.1) | exact zbF (fun h => c23 h.2)) rfl rfl rfl
  refine z_iconst hC dX6_isSign_26 (v := nI 1) rfl ?_
  refine z_goto hC dX6_isSign_27 (tgt := 31) (by decide) ?_
  refine z_zret hC dX6_isSign_31 rfl ?_
  exact hE.to (by first | exact zbT ⟨c10, c23⟩ | exact zbF (fun h => c10 h.1) | exact zbF (fun h => c23 h.2)) rfl rfl rfl

theorem c_X6_heldNow (hD : ∀ k, S 3 k = dsh k) (hm : zRm 1 R I X) (hR : ROK R)  : zC0 mX6_heldNow 5 [zr 3 0] (some (zi (nI (rheld R (R.1 3) (R.1 4) (R.1 5))))) ad S I X Y sz I X Y := by
  refine zgo (own := RX6) (k := 0) (by decide +kernel) rfl rfl rfl (fun C hC hnm hE => ?_)
  refine z_aload_n hC dX6_heldNow_0 rfl ?_
  refine z_getR hC dX6_heldNow_1 (hD _) zfX6_10 rfl ?_
  refine z_aload_n hC dX6_heldNow_4 rfl ?_
  refine z_getR hC dX6_heldNow_5 (hD _) zfX6_10 rfl ?_
  refine z_getN hC dX6_heldNow_8 (hD _) zfX6_134 rfl hm.2.2.2.1 ?_
  refine z_aload_n hC dX6_heldNow_11 rfl ?_
  refine z_getR hC dX6_heldNow_12 (hD _) zfX6_10 rfl ?_
  refine z_getN hC dX6_heldNow_15 (hD _) zfX6_250 rfl hm.2.2.2.2.1 ?_
  refine z_aload_n hC dX6_heldNow_18 rfl ?_
  refine z_getR hC dX6_heldNow_19 (hD _) zfX6_10 rfl ?_
  refine z_getN hC dX6_heldNow_22 (hD _) zfX6_253 rfl hm.2.2.2.2.2.1 ?_
  refine zVv hC dX6_heldNow_25 zlX6_256 (c_X1_heldBy (zRd_1 hD) hm hR hR.2.2.2.1.2 hR.2.2.2.2.1 hR.2.2.2.2.2.1) (hD _) rfl rfl rfl rfl rfl rfl ?_
  refine z_iret hC dX6_heldNow_28 ?_
  exact hE.to (by rfl) rfl rfl rfl

theorem c_tho_0 (hD : ∀ k, S 3 k = dsh k) (hw : zWm n w m h I X) {p : Nat} (h0 : sumN (wtN w m) n + h = 0) : zC0 mX6_thousandthsOfAll 3 [zr 3 0, zi (nI p)] (some (zi (-5))) ad S I X Y sz I (rfX 3 X) Y := by
  refine zgo (own := RX6) (k := 1) (by decide +kernel) rfl rfl rfl (fun C hC hnm hE => ?_)
  have hwb := wbits hw
  refine z_aload_n hC dX6_thousandthsOfAll_0 rfl ?_
  refine z_getR hC dX6_thousandthsOfAll_1 (hD _) zfX6_25 rfl ?_
  refine zVv hC dX6_thousandthsOfAll_4 zlX6_205 (c_X5_all hD hw) (hD _) rfl rfl rfl rfl rfl rfl ?_
  refine z_istore_n hC dX6_thousandthsOfAll_7 (lo2 := [_, _, _]) (Nat.le_of_ble_eq_true rfl) rfl rfl ?_
  refine z_iload_n hC dX6_thousandthsOfAll_8 rfl ?_
  refine z_nif_gt hC dX6_thousandthsOfAll_9 (tgt := 19) (by decide) (by omega) (fun c9 => ?_) (fun c9 => ?_)
  · exfalso; omega
  refine z_aload_n hC dX6_thousandthsOfAll_12 rfl ?_
  refine z_bipush hC dX6_thousandthsOfAll_13 (v := -5) rfl ?_
  refine zVv hC dX6_thousandthsOfAll_15 zlX6_62 (c_X6_refuse hD (j := 3) (by decide) (by decide)) (hD _) rfl rfl rfl rfl rfl rfl ?_
  refine z_iret hC dX6_thousandthsOfAll_18 ?_
  exact hE.to (by rfl) rfl rfl rfl

theorem c_tho (hD : ∀ k, S 3 k = dsh k) (hw : zWm n w m h I X) {p : Nat} (hp : p ≤ 15000000) (h0 : ¬ sumN (wtN w m) n + h = 0) : zC0 mX6_thousandthsOfAll 3 [zr 3 0, zi (nI p)] (some (zi (nI (1000 * p / (sumN (wtN w m) n + h))))) ad S I X Y sz I X Y := by
  refine zgo (own := RX6) (k := 1) (by decide +kernel) rfl rfl rfl (fun C hC hnm hE => ?_)
  have hwb := wbits hw
  refine z_aload_n hC dX6_thousandthsOfAll_0 rfl ?_
  refine z_getR hC dX6_thousandthsOfAll_1 (hD _) zfX6_25 rfl ?_
  refine zVv hC dX6_thousandthsOfAll_4 zlX6_205 (c_X5_all hD hw) (hD _) rfl rfl rfl rfl rfl rfl ?_
  refine z_istore_n hC dX6_thousandthsOfAll_7 (lo2 := [_, _, _]) (Nat.le_of_ble_eq_true rfl) rfl rfl ?_
  refine z_iload_n hC dX6_thousandthsOfAll_8 rfl ?_
  refine z_nif_gt hC dX6_thousandthsOfAll_9 (tgt := 19) (by decide) (by omega) (fun c9 => ?_) (fun c9 => ?_)
  rotate_left
  · exfalso; omega
  refine z_ldc2 hC dX6_thousandthsOfAll_19 (v := lN 1000) (zin3 (i := 129) rfl rfl) ?_
  refine z_iload_n hC dX6_thousandthsOfAll_22 rfl ?_
  refine z_n2m hC dX6_thousandthsOfAll_23 (by omega) ?_
  refine z_mmul hC dX6_thousandthsOfAll_24  ?_
  refine z_iload_n hC dX6_thousandthsOfAll_25 rfl ?_
  refine z_n2m hC dX6_thousandthsOfAll_26 (by omega) ?_
  refine z_mdiv hC dX6_thousandthsOfAll_27 (by omega) (by omega) (by omega) ?_
  refine z_m2n hC dX6_thousandthsOfAll_28  ?_
  refine z_iret hC dX6_thousandthsOfAll_29 ?_
  exact hE.to (by rfl) rfl rfl rfl

theorem zmaxN {a b : Nat} (ha : a < 2 ^ 31) (hb : b < 2 ^ 31) : (if nI a < nI b then nI b else nI a) = nI (if a < b then b else a) := by
  by_cases h : a < b
  · rw [if_pos ((nI_ltI ha hb).mpr h), if_pos h]
  · rw [if_neg (fun z => h ((nI_ltI ha hb).mp z)), if_neg h]
theorem hfN_x {pl : Nat → Nat} {own i : Nat} (h : ¬ pl i < own) : hfN pl own (i + 1) = hfN pl own i := if_neg (fun z => h z.1)
theorem hfN_m {pl : Nat → Nat} {own i : Nat} (h : pl i < own) : hfN pl own (i + 1) = if hfN pl own i < pl i + 1 then pl i + 1 else hfN pl own i := by
  conv => lhs; unfold hfN
  by_cases h2 : hfN pl own i < pl i + 1
  · rw [if_pos ⟨h, by omega⟩, if_pos h2]
  · rw [if_neg (by omega), if_neg h2]
theorem c_X6_heardBy (hD : ∀ k, S 3 k = dsh k) (hm : zRm 1 R I X) (hR : ROK R) (hw : zWm n w m h I X) (hnR : n = R.1 0) {c : Nat} (hc : c < R.1 2) : zC0 mX6_heardBy 3 [zr 3 0, zi (nI c)] (some (zi (nI (hearN R (wtN w m) c)))) ad S I X Y sz I X Y := by
  refine zgo (own := RX6) (k := 4) (by decide +kernel) rfl rfl rfl (fun C hC hnm hE => ?_)
  have hcc := hR.2.2.2.2.2.2.2.2 c hc
  have hn14 := hR.1
  have hwb := wbits hw
  refine z_aload_n hC dX6_heardBy_0 rfl ?_
  refine z_getR hC dX6_heardBy_1 (hD _) zfX6_10 rfl ?_
  refine z_getR hC dX6_heardBy_4 (hD _) zfX6_184 rfl ?_
  refine z_iload_n hC dX6_heardBy_7 rfl ?_
  refine z_iconst hC dX6_heardBy_8 (v := nI 0) rfl ?_
  refine zVv hC dX6_heardBy_9 zlX6_124 (c_cat (zRd_1 hD) hm hR hc (j := 0) (by decide)) (hD _) rfl rfl rfl rfl rfl rfl ?_
  change zL C 6 ad S 0 0 sz I X Y _ _ [zi (nI (R.2.1 8 c))]
  refine z_istore_n hC dX6_heardBy_12 (lo2 := [_, _, _, _, _, _]) (Nat.le_of_ble_eq_true rfl) rfl rfl ?_
  refine z_iconst hC dX6_heardBy_13 (v := nI 0) rfl ?_
  refine z_istore_n hC dX6_heardBy_14 (lo2 := [_, _, _, _, _, _]) (Nat.le_of_ble_eq_true rfl) rfl rfl ?_
  refine z_iconst hC dX6_heardBy_15 (v := nI 0) rfl ?_
  refine z_istore hC dX6_heardBy_16 (lo2 := [_, _, _, _, _, _]) (Nat.le_of_ble_eq_true rfl) rfl rfl ?_
  have loop18 : ∀ (fuel : Nat) (i : Nat), R.1 2 - i < fuel → i ≤ R.1 2 → zL C 6 ad S 0 0 sz I X Y 18 [some (zr 3 0), some (zi (nI c)), some (zi (nI (R.2.1 8 c))), some (zi (nI (hfN (R.2.1 8) (R.2.1 8 c) i))), some (zi (nI i)), none] [] := by
    intro fuel
    induction fuel with
    | zero => intro i hfu; exact absurd hfu (Nat.not_lt_zero _)
    | succ fuel ih =>
      intro i hfu hi6
      have hhf := hfN_le (pl := R.2.1 8) (own := R.2.1 8 c) i
      have h6 := hR.2.2.1
      refine z_iload hC dX6_heardBy_18 rfl ?_
      refine z_aload_n hC dX6_heardBy_20 rfl ?_
      refine z_getR hC dX6_heardBy_21 (hD _) zfX6_10 rfl ?_
      refine z_getR hC dX6_heardBy_24 (hD _) zfX6_184 rfl ?_
      refine z_getN hC dX6_heardBy_27 (hD _) zfX6_160 rfl hm.2.2.1.2.1 ?_
      refine z_nicmp_ge hC dX6_heardBy_30 (tgt := 75) (by decide) (by omega) (by omega) (fun c30 => ?_) (fun c30 => ?_)
      · skip
        obtain rfl : i = R.1 2 := by omega
        have hsl : sumR (wtN w m) (hfN (R.2.1 8) (R.2.1 8 c) (R.1 2)) (R.2.1 8 c + 1) ≤ 14 * 1000000 := Nat.le_trans (sumR_le (M := 1000000) (fun j _ hj => (wtN_le hw (by omega)).1)) (Nat.mul_le_mul_right _ (by omega))
        have hsk : sumR (wtN w m) (hfN (R.2.1 8) (R.2.1 8 c) (R.1 2)) (R.2.1 8 c + 1) * R.2.1 10 c ≤ 14 * 1000000 * 100 := Nat.mul_le_mul hsl hcc.2.2.2
        refine z_aload_n hC dX6_heardBy_75 rfl ?_
        refine z_getR hC dX6_heardBy_76 (hD _) zfX6_25 rfl ?_
        refine z_iload_n hC dX6_heardBy_79 rfl ?_
        refine z_iload_n hC dX6_heardBy_80 rfl ?_
        refine zVv hC dX6_heardBy_81 zlX6_202 (c_X5_sum hD hw (a := hfN (R.2.1 8) (R.2.1 8 c) (R.1 2)) (t := R.2.1 8 c) (hnR ▸ hcc.1) (by omega)) (hD _) rfl rfl rfl rfl rfl rfl ?_
        refine z_aload_n hC dX6_heardBy_84 rfl ?_
        refine z_getR hC dX6_heardBy_85 (hD _) zfX6_10 rfl ?_
        refine z_getR hC dX6_heardBy_88 (hD _) zfX6_184 rfl ?_
        refine z_iload_n hC dX6_heardBy_91 rfl ?_
        refine z_iconst hC dX6_heardBy_92 (v := nI 2) rfl ?_
        refine zVv hC dX6_heardBy_93 zlX6_124 (c_cat (zRd_1 hD) hm hR hc (j := 2) (by decide)) (hD _) rfl rfl rfl rfl rfl rfl ?_
        change zL C 6 ad S 0 0 sz I X Y _ _ [zi (nI (R.2.1 10 c)), _]
        refine z_nmul hC dX6_heardBy_96  ?_
        refine z_bipush hC dX6_heardBy_97 (v := nI 100) rfl ?_
        refine z_ndiv hC dX6_heardBy_99 (by omega) (by omega) (by omega) ?_
        refine z_iret hC dX6_heardBy_100 ?_
        exact hE.to (by rfl) rfl rfl rfl
      have hi : i < R.1 2 := by omega
      have hci := hR.2.2.2.2.2.2.2.2 i hi
      refine z_aload_n hC dX6_heardBy_33 rfl ?_
      refine z_getR hC dX6_heardBy_34 (hD _) zfX6_10 rfl ?_
      refine z_getR hC dX6_heardBy_37 (hD _) zfX6_184 rfl ?_
      refine z_iload hC dX6_heardBy_40 rfl ?_
      refine z_iconst hC dX6_heardBy_42 (v := nI 0) rfl ?_
      refine zVv hC dX6_heardBy_43 zlX6_124 (c_cat (zRd_1 hD) hm hR hi (j := 0) (by decide)) (hD _) rfl rfl rfl rfl rfl rfl ?_
      change zL C 6 ad S 0 0 sz I X Y _ _ [zi (nI (R.2.1 8 i))]
      refine z_istore hC dX6_heardBy_46 (lo2 := [_, _, _, _, _, _]) (Nat.le_of_ble_eq_true rfl) rfl rfl ?_
      refine z_iload hC dX6_heardBy_48 rfl ?_
      refine z_iload_n hC dX6_heardBy_50 rfl ?_
      refine z_nicmp_eq hC dX6_heardBy_51 (tgt := 69) (by decide) (by omega) (by omega) (fun c51 => ?_) (fun c51 => ?_)
      · skip
        refine z_ninc hC dX6_heardBy_69 (lo2 := [_, _, _, _, _, _]) rfl rfl rfl rfl ?_
        refine z_goto hC dX6_heardBy_72 (tgt := 18) (by decide) ?_
        refine z_sub ?_ (ih (i + 1) (by omega) (by omega))
        first | (rw [hfN_x (show ¬ (R.2.1 8 i < R.2.1 8 c) by first | omega | (subst c51; omega))]; simp [zsub]) | (rw [hfN_m (by omega)]; simp [zsub])
      refine z_iload hC dX6_heardBy_54 rfl ?_
      refine z_iload_n hC dX6_heardBy_56 rfl ?_
      refine z_nicmp_ge hC dX6_heardBy_57 (tgt := 69) (by decide) (by omega) (by omega) (fun c57 => ?_) (fun c57 => ?_)
      · skip
        refine z_ninc hC dX6_heardBy_69 (lo2 := [_, _, _, _, _, _]) rfl rfl rfl rfl ?_
        refine z_goto hC dX6_heardBy_72 (tgt := 18) (by decide) ?_
        refine z_sub ?_ (ih (i + 1) (by omega) (by omega))
        first | (rw [hfN_x (show ¬ (R.2.1 8 i < R.2.1 8 c) by first | omega | (subst c51; omega))]; simp [zsub]) | (rw [hfN_m (by omega)]; simp [zsub])
      refine z_iload_n hC dX6_heardBy_60 rfl ?_
      refine z_iload hC dX6_heardBy_61 rfl ?_
      refine z_iconst hC dX6_heardBy_63 (v := nI 1) rfl ?_
      refine z_nadd hC dX6_heardBy_64  ?_
      refine z_max hC dX6_heardBy_65 (zin4 (i := 104) rfl rfl) zmW_max (Nat.le_of_ble_eq_true rfl) (Nat.le_of_ble_eq_true rfl) (Nat.le_refl _) (Nat.le_refl _) ?_
      rw [zmaxN (by omega) (by omega)]
      refine z_istore_n hC dX6_heardBy_68 (lo2 := [_, _, _, _, _, _]) (Nat.le_of_ble_eq_true rfl) rfl rfl ?_
      refine z_ninc hC dX6_heardBy_69 (lo2 := [_, _, _, _, _, _]) rfl rfl rfl rfl ?_
      refine z_goto hC dX6_heardBy_72 (tgt := 18) (by decide) ?_
      refine z_sub ?_ (ih (i + 1) (by omega) (by omega))
      first | (rw [hfN_x (show ¬ (R.2.1 8 i < R.2.1 8 c) by first | omega | (subst c51; omega))]; simp [zsub]) | (rw [hfN_m (by omega)]; simp [zsub])
  exact z_sub (by simp [zsub, hfN]) (loop18 _ 0 (Nat.lt_succ_self _) (Nat.zero_le _))

end
