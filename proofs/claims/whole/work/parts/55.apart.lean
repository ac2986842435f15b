/-! OnTheRoof: apart -/
theorem lb_n {x : Int64} {c : Nat} (h0 : 0 ≤ x) (h1 : x < lN c) (hc : c < 2 ^ 31) : ∃ b, b < c ∧ x = lN b := by
  have g0 : (0 : Int) ≤ x.toInt := by simpa using Int64.le_iff_toInt_le.mp h0
  have g1 := Int64.lt_iff_toInt_lt.mp h1
  rw [lN_toInt hc] at g1
  refine ⟨x.toInt.toNat, by omega, ?_⟩
  apply Int64.toInt_inj.mp
  rw [lN_toInt (by omega)]
  omega
abbrev lnn (x : Int64) : Nat := x.toInt.toNat
theorem lnn_n {b : Nat} (h : b < 2 ^ 31) : lnn (lN b) = b := by
  unfold lnn
  rw [lN_toInt h]; rfl
theorem lNi2 {b : Nat} (_ : b < 2 ^ 31) : (lN b).toInt32 = nI b := lN_i b
def ydN (R : RS) (el : Nat → Int64) (i : Nat) : Nat := sumN (R.2.1 2) (lnn (el i) + 1)
def apF (R : RS) (el : Nat → Int64) : Nat → Nat
  | 0 => 0
  | k + 1 => if apF R el k < ydN R el (k + 1) - ydN R el k then ydN R el (k + 1) - ydN R el k else apF R el k
def apartS (D : DS) (x y : Int32) : Int32 × DS := match tolN D x y with
  | some j => bad j D
  | none => if wpF (D.2.2.2.1.2.2 (nn x)) (lN (D.1.1 0)) (nn y) 0 0 = none then (nI (apF D.1 (D.2.2.2.1.2.2 (nn x)) (nn y - 1)), D) else bad 3 D
theorem sumN_mono {f : Nat → Nat} {a b : Nat} (h : a ≤ b) : sumN f a ≤ sumN f b := by
  induction b with
  | zero => rw [show a = 0 by omega]; exact Nat.le_refl _
  | succ b ih =>
    by_cases e : a = b + 1
    · rw [e]; exact Nat.le_refl _
    · have := ih (by omega)
      show sumN f a ≤ sumN f b + f b
      omega
theorem told_b {f : Nat → Int64} {c m : Nat} (hc : c ≤ 14) (h : wpF f (lN c) m 0 0 = none) : ∀ t, t < m → ∃ b, b < c ∧ f t = lN b ∧ lnn (f t) = b := by
  intro t ht
  have h1 := wpF_none m 0 0 (Int64.le_refl _) h t (Nat.zero_le _) (by omega)
  obtain ⟨b, hb, e⟩ := lb_n h1.1 h1.2.1 (by omega)
  exact ⟨b, hb, e, by rw [e]; exact lnn_n (by omega)⟩
theorem told_m {f : Nat → Int64} {c m : Nat} (hc : c ≤ 14) (h : wpF f (lN c) m 0 0 = none) : ∀ t, t + 1 < m → lnn (f t) ≤ lnn (f (t + 1)) := by
  intro t ht
  have h1 := (wpF_none m 0 0 (Int64.le_refl _) h (t + 1) (Nat.zero_le _) (by omega)).2.2
  rw [if_neg (by omega), show t + 1 - 1 = t by omega] at h1
  obtain ⟨a, ha, e1, e2⟩ := told_b hc h t (by omega)
  obtain ⟨b, hb, e3, e4⟩ := told_b hc h (t + 1) (by omega)
  rw [e1, e3] at h1
  rw [e2, e4]
  exact (pk_lLE (by omega) (by omega)).mp h1
theorem apF_le {R : RS} {el : Nat → Int64} {M : Nat} (h : ∀ i, ydN R el i ≤ M) : ∀ k, apF R el k ≤ M
  | 0 => Nat.zero_le _
  | k + 1 => by
    have h1 := apF_le h k
    have h2 := h (k + 1)
    unfold apF
    split <;> omega
theorem apF_congr {R : RS} {f g : Nat → Int64} : ∀ k, (∀ t, t ≤ k → f t = g t) → apF R f k = apF R g k
  | 0, _ => rfl
  | k + 1, h => by
    have h1 := apF_congr (R := R) (f := f) (g := g) k (fun t ht => h t (by omega))
    have e1 : ydN R f k = ydN R g k := by unfold ydN; rw [h k (by omega)]
    have e2 : ydN R f (k + 1) = ydN R g (k + 1) := by unfold ydN; rw [h (k + 1) (by omega)]
    unfold apF
    rw [h1, e1, e2]

section
variable {ad : zA} {S : zSh} {I X : zI} {Y : zY} {sz : Nat} {D : DS}

theorem apK {R : RS} {el : Nat → Int64} {M m : Nat} (h : ∀ i, i < m → ydN R el i ≤ M) : ∀ k, k < m → apF R el k ≤ M
  | 0, _ => Nat.zero_le _
  | k + 1, hk => by
    have h1 := apK h k (by omega)
    have h2 := h (k + 1) hk
    unfold apF
    split <;> omega
theorem wpF_lt {f : Nat → Int64} {c : Int64} : ∀ (k i : Nat) (v : Int64) (q : Nat), wpF f c k i v = some q → q < i + k
  | 0, i, v, q, h => by cases h
  | k + 1, i, v, q, h => by
    by_cases hc : f i < v ∨ c ≤ f i
    · rw [wpF_1 hc] at h; cases h; omega
    · rw [wpF_0 hc] at h
      have := wpF_lt k (i + 1) _ q h
      omega
theorem woI {f : Nat → Int64} {c : Int64} {m : Nat} {v : Int64} (hm : m ≤ 40) (h : ¬ wpF f c m 0 v = none) : ¬ oI (wpF f c m 0 v) = -1 := by
  rcases hq : wpF f c m 0 v with _ | k
  · exact absurd hq h
  · have := wpF_lt m 0 v k hq
    exact zne1 (by omega)
theorem e_apart_n (hD : ∀ k, S 3 k = dsh k) (hO : DOK D) (hM : DMe D I X Y) {s m : Nat} (hs : s < 8) (hm4 : m ≤ 40) (hh : I 3 (35 + 2 * s) 0 = -1)  : zC0 mX6_apart 4 [zr 3 0, zi (nI s), zi (nI m)] (some (zi (-4))) ad S I X Y sz I (rfX 2 X) Y := by
  refine zgo (own := RX6) (k := 5) (by decide +kernel) rfl rfl rfl (fun C hC hnm hE => ?_)
  have hm := hM.1
  have hR := hO.1
  refine z_aload_n hC dX6_apart_0 rfl ?_
  refine z_iload_n hC dX6_apart_1 rfl ?_
  refine zVv hC dX6_apart_2 zlX6_54 (c_shelfAt_t hD hs) (hD _) rfl rfl rfl rfl rfl rfl ?_
  refine z_astore_n hC dX6_apart_5 (lo2 := [_, _, _, _, _, _, _, _]) (Nat.le_of_ble_eq_true rfl) rfl rfl ?_
  refine z_aload_n hC dX6_apart_6 rfl ?_
  refine z_ifnonnull hC dX6_apart_7 (tgt := 17) (by decide) ?_
  refine z_aload_n hC dX6_apart_17 rfl ?_
  refine z_iload_n hC dX6_apart_18 rfl ?_
  refine zVv hC dX6_apart_19 zlX6_285 (c_rot_n ((hD _).trans (dsh_s hs).1) hh hm4) ((hD _).trans (dsh_s hs).1) rfl rfl rfl rfl rfl rfl ?_
  refine z_istore hC dX6_apart_22 (lo2 := [_, _, _, _, _, _, _, _]) (Nat.le_of_ble_eq_true rfl) rfl rfl ?_
  refine z_iload hC dX6_apart_24 rfl ?_
  refine z_if_eq hC dX6_apart_26 (tgt := 36) (by decide) (fun c26 => ?_) (fun c26 => ?_)
  · exact absurd c26 (by decide)
  refine z_aload_n hC dX6_apart_29 rfl ?_
  refine z_iload hC dX6_apart_30 rfl ?_
  refine zVv hC dX6_apart_32 zlX6_62 (c_X6_refuse hD (j := 2) (by decide) (by decide)) (hD _) rfl rfl rfl rfl rfl rfl ?_
  refine z_iret hC dX6_apart_35 ?_
  exact hE.to (by rfl) rfl rfl rfl

theorem e_apart_b (hD : ∀ k, S 3 k = dsh k) (hO : DOK D) (hM : DMe D I X Y) {s m : Nat} (hs : s < 8) (hm4 : m ≤ 40) {b : Nat} (hb : b < 14) (hh : I 3 (35 + 2 * s) 0 = nI (10 + b))  : zC0 mX6_apart 4 [zr 3 0, zi (nI s), zi (nI m)] (some (zi (-3))) ad S I X Y sz I (rfX 1 X) Y := by
  refine zgo (own := RX6) (k := 5) (by decide +kernel) rfl rfl rfl (fun C hC hnm hE => ?_)
  have hm := hM.1
  have hR := hO.1
  refine z_aload_n hC dX6_apart_0 rfl ?_
  refine z_iload_n hC dX6_apart_1 rfl ?_
  refine zVv hC dX6_apart_2 zlX6_54 (c_shelfAt_t hD hs) (hD _) rfl rfl rfl rfl rfl rfl ?_
  refine z_astore_n hC dX6_apart_5 (lo2 := [_, _, _, _, _, _, _, _]) (Nat.le_of_ble_eq_true rfl) rfl rfl ?_
  refine z_aload_n hC dX6_apart_6 rfl ?_
  refine z_ifnonnull hC dX6_apart_7 (tgt := 17) (by decide) ?_
  refine z_aload_n hC dX6_apart_17 rfl ?_
  refine z_iload_n hC dX6_apart_18 rfl ?_
  refine zVv hC dX6_apart_19 zlX6_285 (c_rot_b ((hD _).trans (dsh_s hs).1) hh hb hm4) ((hD _).trans (dsh_s hs).1) rfl rfl rfl rfl rfl rfl ?_
  refine z_istore hC dX6_apart_22 (lo2 := [_, _, _, _, _, _, _, _]) (Nat.le_of_ble_eq_true rfl) rfl rfl ?_
  refine z_iload hC dX6_apart_24 rfl ?_
  refine z_if_eq hC dX6_apart_26 (tgt := 36) (by decide) (fun c26 => ?_) (fun c26 => ?_)
  · exact absurd c26 (by decide)
  refine z_aload_n hC dX6_apart_29 rfl ?_
  refine z_iload hC dX6_apart_30 rfl ?_
  refine zVv hC dX6_apart_32 zlX6_62 (c_X6_refuse hD (j := 1) (by decide) (by decide)) (hD _) rfl rfl rfl rfl rfl rfl ?_
  refine z_iret hC dX6_apart_35 ?_
  exact hE.to (by rfl) rfl rfl rfl

theorem e_apart_l (hD : ∀ k, S 3 k = dsh k) (hO : DOK D) (hM : DMe D I X Y) {s m : Nat} (hs : s < 8) (hm4 : m ≤ 40) {q : Nat} (hq : q ≤ 4) (hh : I 3 (35 + 2 * s) 0 = nI q) {n : Nat} (hn : I 3 (35 + 2 * s) 1 = nI n) (hn40 : n ≤ 40) (hmn : n < m)  : zC0 mX6_apart 4 [zr 3 0, zi (nI s), zi (nI m)] (some (zi (-2))) ad S I X Y sz I (rfX 0 X) Y := by
  refine zgo (own := RX6) (k := 5) (by decide +kernel) rfl rfl rfl (fun C hC hnm hE => ?_)
  have hm := hM.1
  have hR := hO.1
  refine z_aload_n hC dX6_apart_0 rfl ?_
  refine z_iload_n hC dX6_apart_1 rfl ?_
  refine zVv hC dX6_apart_2 zlX6_54 (c_shelfAt_t hD hs) (hD _) rfl rfl rfl rfl rfl rfl ?_
  refine z_astore_n hC dX6_apart_5 (lo2 := [_, _, _, _, _, _, _, _]) (Nat.le_of_ble_eq_true rfl) rfl rfl ?_
  refine z_aload_n hC dX6_apart_6 rfl ?_
  refine z_ifnonnull hC dX6_apart_7 (tgt := 17) (by decide) ?_
  refine z_aload_n hC dX6_apart_17 rfl ?_
  refine z_iload_n hC dX6_apart_18 rfl ?_
  refine zVv hC dX6_apart_19 zlX6_285 (c_rot_f ((hD _).trans (dsh_s hs).1) hh hq hn hn40 hm4 hmn) ((hD _).trans (dsh_s hs).1) rfl rfl rfl rfl rfl rfl ?_
  refine z_istore hC dX6_apart_22 (lo2 := [_, _, _, _, _, _, _, _]) (Nat.le_of_ble_eq_true rfl) rfl rfl ?_
  refine z_iload hC dX6_apart_24 rfl ?_
  refine z_if_eq hC dX6_apart_26 (tgt := 36) (by decide) (fun c26 => ?_) (fun c26 => ?_)
  · exact absurd c26 (by decide)
  refine z_aload_n hC dX6_apart_29 rfl ?_
  refine z_iload hC dX6_apart_30 rfl ?_
  refine zVv hC dX6_apart_32 zlX6_62 (c_X6_refuse hD (j := 0) (by decide) (by decide)) (hD _) rfl rfl rfl rfl rfl rfl ?_
  refine z_iret hC dX6_apart_35 ?_
  exact hE.to (by rfl) rfl rfl rfl

theorem e_apart_w (hD : ∀ k, S 3 k = dsh k) (hO : DOK D) (hM : DMe D I X Y) {s : Nat} {y : Int32} (hs : s < 8) (hy : ¬ inB y 41)  : zC0 mX6_apart 4 [zr 3 0, zi (nI s), zi y] (some (zi (-2))) ad S I X Y sz I (rfX 0 X) Y := by
  refine zgo (own := RX6) (k := 5) (by decide +kernel) rfl rfl rfl (fun C hC hnm hE => ?_)
  have hm := hM.1
  have hR := hO.1
  refine z_aload_n hC dX6_apart_0 rfl ?_
  refine z_iload_n hC dX6_apart_1 rfl ?_
  refine zVv hC dX6_apart_2 zlX6_54 (c_shelfAt_t hD hs) (hD _) rfl rfl rfl rfl rfl rfl ?_
  refine z_astore_n hC dX6_apart_5 (lo2 := [_, _, _, _, _, _, _, _]) (Nat.le_of_ble_eq_true rfl) rfl rfl ?_
  refine z_aload_n hC dX6_apart_6 rfl ?_
  refine z_ifnonnull hC dX6_apart_7 (tgt := 17) (by decide) ?_
  refine z_aload_n hC dX6_apart_17 rfl ?_
  refine z_iload_n hC dX6_apart_18 rfl ?_
  refine zVv hC dX6_apart_19 zlX6_285 (c_rot_bad ((hD _).trans (dsh_s hs).1) hy) ((hD _).trans (dsh_s hs).1) rfl rfl rfl rfl rfl rfl ?_
  refine z_istore hC dX6_apart_22 (lo2 := [_, _, _, _, _, _, _, _]) (Nat.le_of_ble_eq_true rfl) rfl rfl ?_
  refine z_iload hC dX6_apart_24 rfl ?_
  refine z_if_eq hC dX6_apart_26 (tgt := 36) (by decide) (fun c26 => ?_) (fun c26 => ?_)
  · exact absurd c26 (by decide)
  refine z_aload_n hC dX6_apart_29 rfl ?_
  refine z_iload hC dX6_apart_30 rfl ?_
  refine zVv hC dX6_apart_32 zlX6_62 (c_X6_refuse hD (j := 0) (by decide) (by decide)) (hD _) rfl rfl rfl rfl rfl rfl ?_
  refine z_iret hC dX6_apart_35 ?_
  exact hE.to (by rfl) rfl rfl rfl

theorem e_apart_f (hD : ∀ k, S 3 k = dsh k) (hO : DOK D) (hM : DMe D I X Y) {x y : Int32} (hx : ¬ inB x 8) : zC0 mX6_apart 4 [zr 3 0, zi x, zi y] (some (zi (-2))) ad S I X Y sz I (rfX 0 X) Y := by
  refine zgo (own := RX6) (k := 5) (by decide +kernel) rfl rfl rfl (fun C hC hnm hE => ?_)
  have hm := hM.1
  have hR := hO.1
  refine z_aload_n hC dX6_apart_0 rfl ?_
  refine z_iload_n hC dX6_apart_1 rfl ?_
  refine zVv hC dX6_apart_2 zlX6_54 (c_shelfAt_f hD hx) (hD _) rfl rfl rfl rfl rfl rfl ?_
  refine z_astore_nN hC dX6_apart_5 (lo2 := [_, _, _, _, _, _, _, _]) (Nat.le_of_ble_eq_true rfl) rfl rfl ?_
  refine z_aload_nN hC dX6_apart_6 rfl ?_
  refine z_ifnonnullN hC dX6_apart_7  ?_
  refine z_aload_n hC dX6_apart_10 rfl ?_
  refine z_bipush hC dX6_apart_11 (v := -2) rfl ?_
  refine zVv hC dX6_apart_13 zlX6_62 (c_X6_refuse hD (j := 0) (by decide) (by decide)) (hD _) rfl rfl rfl rfl rfl rfl ?_
  refine z_iret hC dX6_apart_16 ?_
  exact hE.to (by rfl) rfl rfl rfl

theorem e_apart_s (hD : ∀ k, S 3 k = dsh k) (hO : DOK D) (hM : DMe D I X Y) {s m : Nat} (hs : s < 8) (hm4 : m ≤ 40) {q : Nat} (hq : q ≤ 4) (hh : I 3 (35 + 2 * s) 0 = nI q) {n : Nat} (hn : I 3 (35 + 2 * s) 1 = nI n) (hn40 : n ≤ 40) (hmn : m ≤ n) (hw : ¬ wpF (Y 3 (36 + 2 * s)) (lN (D.1.1 0)) m 0 0 = none) : zC0 mX6_apart 4 [zr 3 0, zi (nI s), zi (nI m)] (some (zi (-5))) ad S I X Y sz I (rfX 3 X) Y := by
  refine zgo (own := RX6) (k := 5) (by decide +kernel) rfl rfl rfl (fun C hC hnm hE => ?_)
  have hm := hM.1
  have hR := hO.1
  refine z_aload_n hC dX6_apart_0 rfl ?_
  refine z_iload_n hC dX6_apart_1 rfl ?_
  refine zVv hC dX6_apart_2 zlX6_54 (c_shelfAt_t hD hs) (hD _) rfl rfl rfl rfl rfl rfl ?_
  refine z_astore_n hC dX6_apart_5 (lo2 := [_, _, _, _, _, _, _, _]) (Nat.le_of_ble_eq_true rfl) rfl rfl ?_
  refine z_aload_n hC dX6_apart_6 rfl ?_
  refine z_ifnonnull hC dX6_apart_7 (tgt := 17) (by decide) ?_
  refine z_aload_n hC dX6_apart_17 rfl ?_
  refine z_iload_n hC dX6_apart_18 rfl ?_
  refine zVv hC dX6_apart_19 zlX6_285 (c_rot_t ((hD _).trans (dsh_s hs).1) hh hq hn hn40 hm4 hmn) ((hD _).trans (dsh_s hs).1) rfl rfl rfl rfl rfl rfl ?_
  refine z_istore hC dX6_apart_22 (lo2 := [_, _, _, _, _, _, _, _]) (Nat.le_of_ble_eq_true rfl) rfl rfl ?_
  refine z_iload hC dX6_apart_24 rfl ?_
  refine z_nif_eq hC dX6_apart_26 (tgt := 36) (by decide) (by omega) (fun c26 => ?_) (fun c26 => ?_)
  rotate_left
  · exfalso; omega
  refine z_aload_n hC dX6_apart_36 rfl ?_
  refine z_aload_n hC dX6_apart_37 rfl ?_
  refine z_iload_n hC dX6_apart_38 rfl ?_
  refine zVv hC dX6_apart_39 zlX6_288 (c_X6_wrongPiece hD hm hR ((hD _).trans (dsh_s hs).1) ((hD _).trans (dsh_s hs).2) hh hq hn hn40 hmn) (hD _) rfl rfl rfl rfl rfl rfl ?_
  refine z_iconst hC dX6_apart_42 (v := -1) rfl ?_
  refine z_icmp_eq hC dX6_apart_43 (tgt := 53) (by decide) (fun c43 => ?_) (fun c43 => ?_)
  · exact absurd c43 (woI hm4 hw)
  refine z_aload_n hC dX6_apart_46 rfl ?_
  refine z_bipush hC dX6_apart_47 (v := -5) rfl ?_
  refine zVv hC dX6_apart_49 zlX6_62 (c_X6_refuse hD (j := 3) (by decide) (by decide)) (hD _) rfl rfl rfl rfl rfl rfl ?_
  refine z_iret hC dX6_apart_52 ?_
  exact hE.to (by rfl) rfl rfl rfl

theorem e_apart_t (hD : ∀ k, S 3 k = dsh k) (hO : DOK D) (hM : DMe D I X Y) {s m : Nat} (hs : s < 8) (hm4 : m ≤ 40) {q : Nat} (hq : q ≤ 4) (hh : I 3 (35 + 2 * s) 0 = nI q) {n : Nat} (hn : I 3 (35 + 2 * s) 1 = nI n) (hn40 : n ≤ 40) (hmn : m ≤ n) (hw : wpF (Y 3 (36 + 2 * s)) (lN (D.1.1 0)) m 0 0 = none) : zC0 mX6_apart 4 [zr 3 0, zi (nI s), zi (nI m)] (some (zi (nI (apF D.1 (Y 3 (36 + 2 * s)) (m - 1))))) ad S I X Y sz I X Y := by
  refine zgo (own := RX6) (k := 5) (by decide +kernel) rfl rfl rfl (fun C hC hnm hE => ?_)
  have hm := hM.1
  have hR := hO.1
  have hn14 := hR.1
  have htb := told_b hn14 hw
  have htm := told_m hn14 hw
  have hyl : ∀ i, i < m → ydN D.1 (Y 3 (36 + 2 * s)) i ≤ 14 * 999 := fun i hi => by
      obtain ⟨b, hb, -, e⟩ := htb i hi
      unfold ydN
      rw [e]
      exact Nat.le_trans (sumN_le (fun j hj => (hR.2.2.2.2.2.2.1 j (by omega)).2.2.2.1)) (Nat.mul_le_mul_right _ (by omega))
  refine z_aload_n hC dX6_apart_0 rfl ?_
  refine z_iload_n hC dX6_apart_1 rfl ?_
  refine zVv hC dX6_apart_2 zlX6_54 (c_shelfAt_t hD hs) (hD _) rfl rfl rfl rfl rfl rfl ?_
  refine z_astore_n hC dX6_apart_5 (lo2 := [_, _, _, _, _, _, _, _]) (Nat.le_of_ble_eq_true rfl) rfl rfl ?_
  refine z_aload_n hC dX6_apart_6 rfl ?_
  refine z_ifnonnull hC dX6_apart_7 (tgt := 17) (by decide) ?_
  refine z_aload_n hC dX6_apart_17 rfl ?_
  refine z_iload_n hC dX6_apart_18 rfl ?_
  refine zVv hC dX6_apart_19 zlX6_285 (c_rot_t ((hD _).trans (dsh_s hs).1) hh hq hn hn40 hm4 hmn) ((hD _).trans (dsh_s hs).1) rfl rfl rfl rfl rfl rfl ?_
  refine z_istore hC dX6_apart_22 (lo2 := [_, _, _, _, _, _, _, _]) (Nat.le_of_ble_eq_true rfl) rfl rfl ?_
  refine z_iload hC dX6_apart_24 rfl ?_
  refine z_nif_eq hC dX6_apart_26 (tgt := 36) (by decide) (by omega) (fun c26 => ?_) (fun c26 => ?_)
  rotate_left
  · exfalso; omega
  refine z_aload_n hC dX6_apart_36 rfl ?_
  refine z_aload_n hC dX6_apart_37 rfl ?_
  refine z_iload_n hC dX6_apart_38 rfl ?_
  refine zVv hC dX6_apart_39 zlX6_288 (c_X6_wrongPiece hD hm hR ((hD _).trans (dsh_s hs).1) ((hD _).trans (dsh_s hs).2) hh hq hn hn40 hmn) (hD _) rfl rfl rfl rfl rfl rfl ?_
  refine z_iconst hC dX6_apart_42 (v := -1) rfl ?_
  refine z_icmp_eq hC dX6_apart_43 (tgt := 53) (by decide) (fun c43 => ?_) (fun c43 => ?_)
  rotate_left
  · exact absurd c43 (fun z => z (by rw [hw]; rfl))
  refine z_iconst hC dX6_apart_53 (v := nI 0) rfl ?_
  refine z_istore hC dX6_apart_54 (lo2 := [_, _, _, _, _, _, _, _]) (Nat.le_of_ble_eq_true rfl) rfl rfl ?_
  refine z_iconst hC dX6_apart_56 (v := nI 1) rfl ?_
  refine z_istore hC dX6_apart_57 (lo2 := [_, _, _, _, _, _, _, _]) (Nat.le_of_ble_eq_true rfl) rfl rfl ?_
  have loop59 : ∀ (fuel : Nat) (k : Nat), m - k < fuel → k ≤ m - 1 → zL C 8 ad S 0 0 sz I X Y 59 [some (zr 3 0), some (zi (nI s)), some (zi (nI m)), some (zr 3 (35 + 2 * s)), some (zi (nI 0)), some (zi (nI (apF D.1 (Y 3 (36 + 2 * s)) k))), some (zi (nI (k + 1))), none] [] := by
    intro fuel
    induction fuel with
    | zero => intro k hfu; exact absurd hfu (Nat.not_lt_zero _)
    | succ fuel ih =>
      intro k hfu hk
      refine z_iload hC dX6_apart_59 rfl ?_
      refine z_iload_n hC dX6_apart_61 rfl ?_
      refine z_nicmp_ge hC dX6_apart_62 (tgt := 113) (by decide) (by omega) (by omega) (fun c62 => ?_) (fun c62 => ?_)
      · skip
        refine z_iload hC dX6_apart_113 rfl ?_
        refine z_iret hC dX6_apart_115 ?_
        exact hE.to (by rw [show m - 1 = k by omega]) rfl rfl rfl
      obtain ⟨b1, hb1, e1, l1⟩ := htb (k + 1) (by omega)
      obtain ⟨b2, hb2, e2, l2⟩ := htb k (by omega)
      have hnx : apF D.1 (Y 3 (36 + 2 * s)) (k + 1) = if apF D.1 (Y 3 (36 + 2 * s)) k < sumN (D.1.2.1 2) (b1 + 1) - sumN (D.1.2.1 2) (b2 + 1) then sumN (D.1.2.1 2) (b1 + 1) - sumN (D.1.2.1 2) (b2 + 1) else apF D.1 (Y 3 (36 + 2 * s)) k := by show (if _ < ydN D.1 (Y 3 (36 + 2 * s)) (k + 1) - ydN D.1 (Y 3 (36 + 2 * s)) k then _ else _) = _; unfold ydN; rw [l1, l2]
      have hmo := htm k (by omega)
      rw [l1, l2] at hmo
      have hsm := sumN_mono (f := D.1.2.1 2) (show b2 + 1 ≤ b1 + 1 by omega)
      have hy1 := hyl (k + 1) (by omega)
      unfold ydN at hy1
      rw [l1] at hy1
      have hal : apF D.1 (Y 3 (36 + 2 * s)) k ≤ 14 * 999 := apK hyl k (by omega)
      refine z_aload_n hC dX6_apart_65 rfl ?_
      refine z_getR hC dX6_apart_66 (hD _) zfX6_10 rfl ?_
      refine z_aload_n hC dX6_apart_69 rfl ?_
      refine z_iload hC dX6_apart_70 rfl ?_
      refine zVv hC dX6_apart_72 zlX6_100 (c_elementAt_t ((hD _).trans (dsh_s hs).1) ((hD _).trans (dsh_s hs).2) hh hq hn hn40 (show k + 1 < n by omega)) ((hD _).trans (dsh_s hs).1) rfl rfl rfl rfl rfl rfl ?_
      rw [e1]
      refine z_l2i hC dX6_apart_75  ?_
      rw [lNi2 (by omega)]
      refine zVv hC dX6_apart_76 zlX6_181 (c_X1_yardsTo (zRd_1 hD) hm hR hb1) (hD _) rfl rfl rfl rfl rfl rfl ?_
      refine z_aload_n hC dX6_apart_79 rfl ?_
      refine z_getR hC dX6_apart_80 (hD _) zfX6_10 rfl ?_
      refine z_aload_n hC dX6_apart_83 rfl ?_
      refine z_iload hC dX6_apart_84 rfl ?_
      refine z_iconst hC dX6_apart_86 (v := nI 1) rfl ?_
      refine z_nsub hC dX6_apart_87 (by omega) ?_
      rw [Nat.add_sub_cancel]
      refine zVv hC dX6_apart_88 zlX6_100 (c_elementAt_t ((hD _).trans (dsh_s hs).1) ((hD _).trans (dsh_s hs).2) hh hq hn hn40 (show k < n by omega)) ((hD _).trans (dsh_s hs).1) rfl rfl rfl rfl rfl rfl ?_
      try rw [Nat.add_sub_cancel]
      rw [e2]
      refine z_l2i hC dX6_apart_91  ?_
      rw [lNi2 (by omega)]
      refine zVv hC dX6_apart_92 zlX6_181 (c_X1_yardsTo (zRd_1 hD) hm hR hb2) (hD _) rfl rfl rfl rfl rfl rfl ?_
      refine z_nsub hC dX6_apart_95 (by omega) ?_
      refine z_istore hC dX6_apart_96 (lo2 := [_, _, _, _, _, _, _, _]) (Nat.le_of_ble_eq_true rfl) rfl rfl ?_
      refine z_iload hC dX6_apart_98 rfl ?_
      refine z_iload hC dX6_apart_100 rfl ?_
      refine z_max hC dX6_apart_102 (zin4 (i := 104) rfl rfl) zmW_max (Nat.le_of_ble_eq_true rfl) (Nat.le_of_ble_eq_true rfl) (Nat.le_refl _) (Nat.le_refl _) ?_
      rw [zmaxN (by omega) (by omega)]
      refine z_istore hC dX6_apart_105 (lo2 := [_, _, _, _, _, _, _, _]) (Nat.le_of_ble_eq_true rfl) rfl rfl ?_
      refine z_ninc hC dX6_apart_107 (lo2 := [_, _, _, _, _, _, _, _]) rfl rfl rfl rfl ?_
      refine z_goto hC dX6_apart_110 (tgt := 59) (by decide) ?_
      skip
      exact z_sub (by rw [hnx]; simp [zsub]) (ih (k + 1) (by omega) (by omega))
  exact z_sub (by simp [zsub, apF]) (loop59 _ 0 (Nat.lt_succ_self _) (Nat.zero_le _))

theorem o_apart (hD : ∀ k, S 3 k = dsh k) (hO : DOK D) (hM : DMe D I X Y) {x y : Int32} : dC mX6_apart 4 [zr 3 0, zi x, zi y] (some (zi (apartS D x y).1)) (apartS D x y).2 ad S I X Y sz := by
  have hn14 := hO.1.1
  unfold apartS tolN
  by_cases hx : inB x 8
  · rw [if_pos hx]
    obtain ⟨s, hs, rfl, e1⟩ := inB_e hx (by decide)
    rw [e1]
    by_cases hy : inB y 41
    · rw [if_pos hy]
      obtain ⟨m, hm1, rfl, e2⟩ := inB_e hy (by decide)
      rw [e2]
      obtain ⟨-, hn, hel⟩ := hM.2.2.2.2.1 s hs
      have hn40 := (hO.2.2.2 s hs).1
      rcases sh_st hO hM hs with ⟨h1, h2⟩ | ⟨q, hq, h1, h2⟩ | ⟨b, hb, h1, h2⟩
      · rw [h1]
        exact ⟨_, _, _, hM.rf (by decide), e_apart_n hD hO hM hs (by omega) h2⟩
      · rw [h1]
        dsimp only
        rw [if_neg (by omega)]
        by_cases hmn : m ≤ D.2.2.2.1.2.1 s
        · rw [if_pos hmn]
          dsimp only
          have ew : wpF (Y 3 (36 + 2 * s)) (lN (D.1.1 0)) m 0 0 = wpF (D.2.2.2.1.2.2 s) (lN (D.1.1 0)) m 0 0 := wpF_congr m 0 0 (fun t _ ht => hel t (by omega))
          by_cases hw : wpF (D.2.2.2.1.2.2 s) (lN (D.1.1 0)) m 0 0 = none
          · rw [if_pos hw, ← apF_congr (f := Y 3 (36 + 2 * s)) (m - 1) (fun t ht => hel t (by omega))]
            exact ⟨_, _, _, hM, e_apart_t hD hO hM hs (by omega) hq h2 hn hn40 hmn (ew.trans hw)⟩
          · rw [if_neg hw]
            exact ⟨_, _, _, hM.rf (by decide), e_apart_s hD hO hM hs (by omega) hq h2 hn hn40 hmn (fun z => hw (ew.symm.trans z))⟩
        · rw [if_neg hmn]
          exact ⟨_, _, _, hM.rf (by decide), e_apart_l hD hO hM hs (by omega) hq h2 hn hn40 (by omega)⟩
      · rw [h1]
        dsimp only
        rw [if_pos (by omega)]
        exact ⟨_, _, _, hM.rf (by decide), e_apart_b hD hO hM hs (by omega) (by omega) h2⟩
    · rw [if_neg hy]
      exact ⟨_, _, _, hM.rf (by decide), e_apart_w hD hO hM hs hy⟩
  · rw [if_neg hx]
    exact ⟨_, _, _, hM.rf (by decide), e_apart_f hD hO hM hx⟩
theorem k_apart {D : DS} (h : DOK D) {x y : Int32} : DOK (apartS D x y).2 := by
  unfold apartS
  repeat' split
  all_goals exact h
end
