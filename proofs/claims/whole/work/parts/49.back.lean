/-! OnTheRoof: judge, back -/
theorem wpF_congr {f g : Nat → Int64} {c : Int64} : ∀ (k i : Nat) (v : Int64), (∀ t, i ≤ t → t < i + k → f t = g t) → wpF f c k i v = wpF g c k i v
  | 0, _, _, _ => rfl
  | k + 1, i, v, h => by
    have h0 := h i (Nat.le_refl _) (by omega)
    have h1 := wpF_congr (c := c) k (i + 1) (f i) (fun t a b => h t (by omega) (by omega))
    show (if f i < v ∨ c ≤ f i then some i else wpF f c k (i + 1) (f i)) = (if g i < v ∨ c ≤ g i then some i else wpF g c k (i + 1) (g i))
    rw [h1, h0]
/-- how a told row is refused -/
def tolN (D : DS) (x y : Int32) : Option Nat := if inB x 8 then (if inB y 41 then (match D.2.2.2.1.1 (nn x) with
  | none => some 2
  | some q => if 10 ≤ q then some 1 else if nn y ≤ D.2.2.2.1.2.1 (nn x) then none else some 0) else some 0) else some 0
def judgeS (D : DS) (x y : Int32) : Int32 × DS := match tolN D x y with
  | some j => bad j D
  | none => (oI (wpF (D.2.2.2.1.2.2 (nn x)) (lN (D.1.1 0)) (nn y) 0 0), D)
def bkI (n : Nat) (h : Nat → Option Nat) (I : zI) : Nat → zI
  | 0 => I
  | s + 1 => match h s with
    | none => bkI n h I s
    | some q => if 10 + n ≤ q then up3 (bkI n h I s) 3 (35 + 2 * s) 0 (-1) else bkI n h I s
theorem bkI_n {n : Nat} {h : Nat → Option Nat} {I : zI} {s : Nat} (hq : h s = none) : bkI n h I (s + 1) = bkI n h I s := by
  conv => lhs; unfold bkI
  rw [hq]
theorem bkI_k {n : Nat} {h : Nat → Option Nat} {I : zI} {s q : Nat} (hq : h s = some q) (hc : ¬ 10 + n ≤ q) : bkI n h I (s + 1) = bkI n h I s := by
  conv => lhs; unfold bkI
  rw [hq]
  exact if_neg hc
theorem bkI_x {n : Nat} {h : Nat → Option Nat} {I : zI} {s q : Nat} (hq : h s = some q) (hc : 10 + n ≤ q) : bkI n h I (s + 1) = up3 (bkI n h I s) 3 (35 + 2 * s) 0 (-1) := by
  conv => lhs; unfold bkI
  rw [hq]
  exact if_pos hc
theorem bkI_ne {n : Nat} {h : Nat → Option Nat} {I : zI} {k j : Nat} (s : Nat) (hk : k < 35 ∨ j = 1 ∨ 35 + 2 * s ≤ k) : bkI n h I s 3 k j = I 3 k j := by
  induction s with
  | zero => rfl
  | succ s ih =>
    rcases hq : h s with _ | q
    · rw [bkI_n hq]; exact ih (by omega)
    · by_cases hc : 10 + n ≤ q
      · rw [bkI_x hq hc, up3_ne (by omega)]; exact ih (by omega)
      · rw [bkI_k hq hc]; exact ih (by omega)
theorem bkI_at {n : Nat} {h : Nat → Option Nat} {I : zI} (hI : ∀ s, s < 8 → I 3 (35 + 2 * s) 0 = oI (h s)) : ∀ (s t : Nat), t < s → s ≤ 8 → bkI n h I s 3 (35 + 2 * t) 0 = oI (bkH n h t)
  | 0, t, h1, _ => absurd h1 (Nat.not_lt_zero _)
  | s + 1, t, h1, h2 => by
    by_cases e : t = s
    · subst e
      have h3 := bkI_ne (n := n) (h := h) (I := I) (k := 35 + 2 * t) (j := 0) t (by omega)
      unfold bkI bkH
      rcases hq : h t with _ | q
      · dsimp only
        rw [h3, hI t (by omega), hq]
      · dsimp only
        by_cases hc : 10 + n ≤ q
        · rw [if_pos hc, if_pos hc, up3_eq]; rfl
        · rw [if_neg hc, if_neg hc, h3, hI t (by omega), hq]
    · have ih := bkI_at (n := n) hI s t (by omega) (by omega)
      rw [← ih]
      rcases hq : h s with _ | q
      · rw [bkI_n hq]
      · by_cases hc : 10 + n ≤ q
        · rw [bkI_x hq hc, up3_ne (by omega)]
        · rw [bkI_k hq hc]

section
variable {ad : zA} {S : zSh} {I X : zI} {Y : zY} {sz : Nat} {D : DS}

theorem e_judge_n (hD : ∀ k, S 3 k = dsh k) (hO : DOK D) (hM : DMe D I X Y) {s m : Nat} (hs : s < 8) (hm4 : m ≤ 40) (hh : I 3 (35 + 2 * s) 0 = -1)  : zC0 mX6_judge 4 [zr 3 0, zi (nI s), zi (nI m)] (some (zi (-4))) ad S I X Y sz I (rfX 2 X) Y := by
  refine zgo (own := RX6) (k := 2) (by decide +kernel) rfl rfl rfl (fun C hC hnm hE => ?_)
  have hm := hM.1
  have hR := hO.1
  refine z_aload_n hC dX6_judge_0 rfl ?_
  refine z_iload_n hC dX6_judge_1 rfl ?_
  refine zVv hC dX6_judge_2 zlX6_54 (c_shelfAt_t hD hs) (hD _) rfl rfl rfl rfl rfl rfl ?_
  refine z_astore_n hC dX6_judge_5 (lo2 := [_, _, _, _, _]) (Nat.le_of_ble_eq_true rfl) rfl rfl ?_
  refine z_aload_n hC dX6_judge_6 rfl ?_
  refine z_ifnonnull hC dX6_judge_7 (tgt := 17) (by decide) ?_
  refine z_aload_n hC dX6_judge_17 rfl ?_
  refine z_iload_n hC dX6_judge_18 rfl ?_
  refine zVv hC dX6_judge_19 zlX6_285 (c_rot_n ((hD _).trans (dsh_s hs).1) hh hm4) ((hD _).trans (dsh_s hs).1) rfl rfl rfl rfl rfl rfl ?_
  refine z_istore hC dX6_judge_22 (lo2 := [_, _, _, _, _]) (Nat.le_of_ble_eq_true rfl) rfl rfl ?_
  refine z_iload hC dX6_judge_24 rfl ?_
  refine z_if_eq hC dX6_judge_26 (tgt := 36) (by decide) (fun c26 => ?_) (fun c26 => ?_)
  · exact absurd c26 (by decide)
  refine z_aload_n hC dX6_judge_29 rfl ?_
  refine z_iload hC dX6_judge_30 rfl ?_
  refine zVv hC dX6_judge_32 zlX6_62 (c_X6_refuse hD (j := 2) (by decide) (by decide)) (hD _) rfl rfl rfl rfl rfl rfl ?_
  refine z_iret hC dX6_judge_35 ?_
  exact hE.to (by rfl) rfl rfl rfl

theorem e_judge_b (hD : ∀ k, S 3 k = dsh k) (hO : DOK D) (hM : DMe D I X Y) {s m : Nat} (hs : s < 8) (hm4 : m ≤ 40) {b : Nat} (hb : b < 14) (hh : I 3 (35 + 2 * s) 0 = nI (10 + b))  : zC0 mX6_judge 4 [zr 3 0, zi (nI s), zi (nI m)] (some (zi (-3))) ad S I X Y sz I (rfX 1 X) Y := by
  refine zgo (own := RX6) (k := 2) (by decide +kernel) rfl rfl rfl (fun C hC hnm hE => ?_)
  have hm := hM.1
  have hR := hO.1
  refine z_aload_n hC dX6_judge_0 rfl ?_
  refine z_iload_n hC dX6_judge_1 rfl ?_
  refine zVv hC dX6_judge_2 zlX6_54 (c_shelfAt_t hD hs) (hD _) rfl rfl rfl rfl rfl rfl ?_
  refine z_astore_n hC dX6_judge_5 (lo2 := [_, _, _, _, _]) (Nat.le_of_ble_eq_true rfl) rfl rfl ?_
  refine z_aload_n hC dX6_judge_6 rfl ?_
  refine z_ifnonnull hC dX6_judge_7 (tgt := 17) (by decide) ?_
  refine z_aload_n hC dX6_judge_17 rfl ?_
  refine z_iload_n hC dX6_judge_18 rfl ?_
  refine zVv hC dX6_judge_19 zlX6_285 (c_rot_b ((hD _).trans (dsh_s hs).1) hh hb hm4) ((hD _).trans (dsh_s hs).1) rfl rfl rfl rfl rfl rfl ?_
  refine z_istore hC dX6_judge_22 (lo2 := [_, _, _, _, _]) (Nat.le_of_ble_eq_true rfl) rfl rfl ?_
  refine z_iload hC dX6_judge_24 rfl ?_
  refine z_if_eq hC dX6_judge_26 (tgt := 36) (by decide) (fun c26 => ?_) (fun c26 => ?_)
  · exact absurd c26 (by decide)
  refine z_aload_n hC dX6_judge_29 rfl ?_
  refine z_iload hC dX6_judge_30 rfl ?_
  refine zVv hC dX6_judge_32 zlX6_62 (c_X6_refuse hD (j := 1) (by decide) (by decide)) (hD _) rfl rfl rfl rfl rfl rfl ?_
  refine z_iret hC dX6_judge_35 ?_
  exact hE.to (by rfl) rfl rfl rfl

theorem e_judge_l (hD : ∀ k, S 3 k = dsh k) (hO : DOK D) (hM : DMe D I X Y) {s m : Nat} (hs : s < 8) (hm4 : m ≤ 40) {q : Nat} (hq : q ≤ 4) (hh : I 3 (35 + 2 * s) 0 = nI q) {n : Nat} (hn : I 3 (35 + 2 * s) 1 = nI n) (hn40 : n ≤ 40) (hmn : n < m)  : zC0 mX6_judge 4 [zr 3 0, zi (nI s), zi (nI m)] (some (zi (-2))) ad S I X Y sz I (rfX 0 X) Y := by
  refine zgo (own := RX6) (k := 2) (by decide +kernel) rfl rfl rfl (fun C hC hnm hE => ?_)
  have hm := hM.1
  have hR := hO.1
  refine z_aload_n hC dX6_judge_0 rfl ?_
  refine z_iload_n hC dX6_judge_1 rfl ?_
  refine zVv hC dX6_judge_2 zlX6_54 (c_shelfAt_t hD hs) (hD _) rfl rfl rfl rfl rfl rfl ?_
  refine z_astore_n hC dX6_judge_5 (lo2 := [_, _, _, _, _]) (Nat.le_of_ble_eq_true rfl) rfl rfl ?_
  refine z_aload_n hC dX6_judge_6 rfl ?_
  refine z_ifnonnull hC dX6_judge_7 (tgt := 17) (by decide) ?_
  refine z_aload_n hC dX6_judge_17 rfl ?_
  refine z_iload_n hC dX6_judge_18 rfl ?_
  refine zVv hC dX6_judge_19 zlX6_285 (c_rot_f ((hD _).trans (dsh_s hs).1) hh hq hn hn40 hm4 hmn) ((hD _).trans (dsh_s hs).1) rfl rfl rfl rfl rfl rfl ?_
  refine z_istore hC dX6_judge_22 (lo2 := [_, _, _, _, _]) (Nat.le_of_ble_eq_true rfl) rfl rfl ?_
  refine z_iload hC dX6_judge_24 rfl ?_
  refine z_if_eq hC dX6_judge_26 (tgt := 36) (by decide) (fun c26 => ?_) (fun c26 => ?_)
  · exact absurd c26 (by decide)
  refine z_aload_n hC dX6_judge_29 rfl ?_
  refine z_iload hC dX6_judge_30 rfl ?_
  refine zVv hC dX6_judge_32 zlX6_62 (c_X6_refuse hD (j := 0) (by decide) (by decide)) (hD _) rfl rfl rfl rfl rfl rfl ?_
  refine z_iret hC dX6_judge_35 ?_
  exact hE.to (by rfl) rfl rfl rfl

theorem e_judge_w (hD : ∀ k, S 3 k = dsh k) (hO : DOK D) (hM : DMe D I X Y) {s : Nat} {y : Int32} (hs : s < 8) (hy : ¬ inB y 41)  : zC0 mX6_judge 4 [zr 3 0, zi (nI s), zi y] (some (zi (-2))) ad S I X Y sz I (rfX 0 X) Y := by
  refine zgo (own := RX6) (k := 2) (by decide +kernel) rfl rfl rfl (fun C hC hnm hE => ?_)
  have hm := hM.1
  have hR := hO.1
  refine z_aload_n hC dX6_judge_0 rfl ?_
  refine z_iload_n hC dX6_judge_1 rfl ?_
  refine zVv hC dX6_judge_2 zlX6_54 (c_shelfAt_t hD hs) (hD _) rfl rfl rfl rfl rfl rfl ?_
  refine z_astore_n hC dX6_judge_5 (lo2 := [_, _, _, _, _]) (Nat.le_of_ble_eq_true rfl) rfl rfl ?_
  refine z_aload_n hC dX6_judge_6 rfl ?_
  refine z_ifnonnull hC dX6_judge_7 (tgt := 17) (by decide) ?_
  refine z_aload_n hC dX6_judge_17 rfl ?_
  refine z_iload_n hC dX6_judge_18 rfl ?_
  refine zVv hC dX6_judge_19 zlX6_285 (c_rot_bad ((hD _).trans (dsh_s hs).1) hy) ((hD _).trans (dsh_s hs).1) rfl rfl rfl rfl rfl rfl ?_
  refine z_istore hC dX6_judge_22 (lo2 := [_, _, _, _, _]) (Nat.le_of_ble_eq_true rfl) rfl rfl ?_
  refine z_iload hC dX6_judge_24 rfl ?_
  refine z_if_eq hC dX6_judge_26 (tgt := 36) (by decide) (fun c26 => ?_) (fun c26 => ?_)
  · exact absurd c26 (by decide)
  refine z_aload_n hC dX6_judge_29 rfl ?_
  refine z_iload hC dX6_judge_30 rfl ?_
  refine zVv hC dX6_judge_32 zlX6_62 (c_X6_refuse hD (j := 0) (by decide) (by decide)) (hD _) rfl rfl rfl rfl rfl rfl ?_
  refine z_iret hC dX6_judge_35 ?_
  exact hE.to (by rfl) rfl rfl rfl

theorem e_judge_f (hD : ∀ k, S 3 k = dsh k) (hO : DOK D) (hM : DMe D I X Y) {x y : Int32} (hx : ¬ inB x 8) : zC0 mX6_judge 4 [zr 3 0, zi x, zi y] (some (zi (-2))) ad S I X Y sz I (rfX 0 X) Y := by
  refine zgo (own := RX6) (k := 2) (by decide +kernel) rfl rfl rfl (fun C hC hnm hE => ?_)
  have hm := hM.1
  have hR := hO.1
  refine z_aload_n hC dX6_judge_0 rfl ?_
  refine z_iload_n hC dX6_judge_1 rfl ?_
  refine zVv hC dX6_judge_2 zlX6_54 (c_shelfAt_f hD hx) (hD _) rfl rfl rfl rfl rfl rfl ?_
  refine z_astore_nN hC dX6_judge_5 (lo2 := [_, _, _, _, _]) (Nat.le_of_ble_eq_true rfl) rfl rfl ?_
  refine z_aload_nN hC dX6_judge_6 rfl ?_
  refine z_ifnonnullN hC dX6_judge_7  ?_
  refine z_aload_n hC dX6_judge_10 rfl ?_
  refine z_bipush hC dX6_judge_11 (v := -2) rfl ?_
  refine zVv hC dX6_judge_13 zlX6_62 (c_X6_refuse hD (j := 0) (by decide) (by decide)) (hD _) rfl rfl rfl rfl rfl rfl ?_
  refine z_iret hC dX6_judge_16 ?_
  exact hE.to (by rfl) rfl rfl rfl

theorem e_judge_t (hD : ∀ k, S 3 k = dsh k) (hO : DOK D) (hM : DMe D I X Y) {s m : Nat} (hs : s < 8) (hm4 : m ≤ 40) {q : Nat} (hq : q ≤ 4) (hh : I 3 (35 + 2 * s) 0 = nI q) {n : Nat} (hn : I 3 (35 + 2 * s) 1 = nI n) (hn40 : n ≤ 40) (hmn : m ≤ n) : zC0 mX6_judge 4 [zr 3 0, zi (nI s), zi (nI m)] (some (zi (oI (wpF (Y 3 (36 + 2 * s)) (lN (D.1.1 0)) m 0 0)))) ad S I X Y sz I X Y := by
  refine zgo (own := RX6) (k := 2) (by decide +kernel) rfl rfl rfl (fun C hC hnm hE => ?_)
  have hm := hM.1
  have hR := hO.1
  refine z_aload_n hC dX6_judge_0 rfl ?_
  refine z_iload_n hC dX6_judge_1 rfl ?_
  refine zVv hC dX6_judge_2 zlX6_54 (c_shelfAt_t hD hs) (hD _) rfl rfl rfl rfl rfl rfl ?_
  refine z_astore_n hC dX6_judge_5 (lo2 := [_, _, _, _, _]) (Nat.le_of_ble_eq_true rfl) rfl rfl ?_
  refine z_aload_n hC dX6_judge_6 rfl ?_
  refine z_ifnonnull hC dX6_judge_7 (tgt := 17) (by decide) ?_
  refine z_aload_n hC dX6_judge_17 rfl ?_
  refine z_iload_n hC dX6_judge_18 rfl ?_
  refine zVv hC dX6_judge_19 zlX6_285 (c_rot_t ((hD _).trans (dsh_s hs).1) hh hq hn hn40 hm4 hmn) ((hD _).trans (dsh_s hs).1) rfl rfl rfl rfl rfl rfl ?_
  refine z_istore hC dX6_judge_22 (lo2 := [_, _, _, _, _]) (Nat.le_of_ble_eq_true rfl) rfl rfl ?_
  refine z_iload hC dX6_judge_24 rfl ?_
  refine z_nif_eq hC dX6_judge_26 (tgt := 36) (by decide) (by omega) (fun c26 => ?_) (fun c26 => ?_)
  rotate_left
  · exfalso; omega
  refine z_aload_n hC dX6_judge_36 rfl ?_
  refine z_aload_n hC dX6_judge_37 rfl ?_
  refine z_iload_n hC dX6_judge_38 rfl ?_
  refine zVv hC dX6_judge_39 zlX6_288 (c_X6_wrongPiece hD hm hR ((hD _).trans (dsh_s hs).1) ((hD _).trans (dsh_s hs).2) hh hq hn hn40 hmn) (hD _) rfl rfl rfl rfl rfl rfl ?_
  refine z_iret hC dX6_judge_42 ?_
  exact hE.to (by rfl) rfl rfl rfl

theorem o_judge (hD : ∀ k, S 3 k = dsh k) (hO : DOK D) (hM : DMe D I X Y) {x y : Int32} : dC mX6_judge 4 [zr 3 0, zi x, zi y] (some (zi (judgeS D x y).1)) (judgeS D x y).2 ad S I X Y sz := by
  have hn14 := hO.1.1
  unfold judgeS tolN
  by_cases hx : inB x 8
  · rw [if_pos hx]
    obtain ⟨s, hs, rfl, e1⟩ := inB_e hx (by decide)
    rw [e1]
    by_cases hy : inB y 41
    · rw [if_pos hy]
      obtain ⟨m, hm1, rfl, e2⟩ := inB_e hy (by decide)
      rw [e2]
      obtain ⟨-, hn, hel⟩ := hM.2.2.2.2.1 s hs
      have hn40 := (hO.2.2.2 s hs).1
      rcases sh_st hO hM hs with ⟨h1, h2⟩ | ⟨q, hq, h1, h2⟩ | ⟨b, hb, h1, h2⟩
      · rw [h1]
        exact ⟨_, _, _, hM.rf (by decide), e_judge_n hD hO hM hs (by omega) h2⟩
      · rw [h1]
        dsimp only
        rw [if_neg (by omega)]
        by_cases hmn : m ≤ D.2.2.2.1.2.1 s
        · rw [if_pos hmn]
          dsimp only
          rw [← wpF_congr (f := Y 3 (36 + 2 * s)) m 0 0 (fun t _ ht => hel t (by omega))]
          exact ⟨_, _, _, hM, e_judge_t hD hO hM hs (by omega) hq h2 hn hn40 hmn⟩
        · rw [if_neg hmn]
          exact ⟨_, _, _, hM.rf (by decide), e_judge_l hD hO hM hs (by omega) hq h2 hn hn40 (by omega)⟩
      · rw [h1]
        dsimp only
        rw [if_pos (by omega)]
        exact ⟨_, _, _, hM.rf (by decide), e_judge_b hD hO hM hs (by omega) (by omega) h2⟩
    · rw [if_neg hy]
      exact ⟨_, _, _, hM.rf (by decide), e_judge_w hD hO hM hs hy⟩
  · rw [if_neg hx]
    exact ⟨_, _, _, hM.rf (by decide), e_judge_f hD hO hM hx⟩
theorem e_back_z (hD : ∀ k, S 3 k = dsh k) (hO : DOK D) (hM : DMe D I X Y) (hk : D.2.1 = none) : zC0 mX6_back 3 [zr 3 0] (some (zi (-5))) ad S I X Y sz I (rfX 3 X) Y := by
  refine zgo (own := RX6) (k := 2) (by decide +kernel) rfl rfl rfl (fun C hC hnm hE => ?_)
  have hm := hM.1
  have hR := hO.1
  have hz0 : I 3 0 8 = nI 0 := by rw [hM.2.1, hk]; rfl
  refine z_aload_n hC dX6_back_0 rfl ?_
  refine z_getN hC dX6_back_1 (hD _) zfX6_318 rfl hz0 ?_
  refine z_nif_ne hC dX6_back_4 (tgt := 14) (by decide) (by omega) (fun c4 => ?_) (fun c4 => ?_)
  · exfalso; omega
  refine z_aload_n hC dX6_back_7 rfl ?_
  refine z_bipush hC dX6_back_8 (v := -5) rfl ?_
  refine zVv hC dX6_back_10 zlX6_62 (c_X6_refuse hD (j := 3) (by decide) (by decide)) (hD _) rfl rfl rfl rfl rfl rfl ?_
  refine z_iret hC dX6_back_13 ?_
  exact hE.to (by rfl) rfl rfl rfl

theorem e_back_t (hD : ∀ k, S 3 k = dsh k) (hO : DOK D) (hM : DMe D I X Y) {R8 : RS} (hk : D.2.1 = some R8) : zC0 mX6_back 3 [zr 3 0] (some (zi (nI 1))) ad S I X Y sz (bkI (R8.1 0) D.2.2.2.1.1 (zcpI 1 8 I) 8) (zcpX 1 8 X) Y := by
  refine zgo (own := RX6) (k := 2) (by decide +kernel) rfl rfl rfl (fun C hC hnm hE => ?_)
  have hm := hM.1
  have hR := hO.1
  have hz1 : I 3 0 8 = nI 1 := by rw [hM.2.1, hk]; rfl
  have hK := hM.2.2.1 R8 hk
  have hKR := hO.2.1 R8 hk
  have hK14 := hKR.1
  have hn14 := hR.1
  have hmc : zRm 1 R8 (zcpI 1 8 I) (zcpX 1 8 X) := zRm_copy hm.rw hK hKR
  refine z_aload_n hC dX6_back_0 rfl ?_
  refine z_getN hC dX6_back_1 (hD _) zfX6_318 rfl hz1 ?_
  refine z_nif_ne hC dX6_back_4 (tgt := 14) (by decide) (by omega) (fun c4 => ?_) (fun c4 => ?_)
  rotate_left
  · exfalso; omega
  refine z_aload_n hC dX6_back_14 rfl ?_
  refine z_getR hC dX6_back_15 (hD _) zfX6_10 rfl ?_
  refine z_aload_n hC dX6_back_18 rfl ?_
  refine z_getR hC dX6_back_19 (hD _) zfX6_16 rfl ?_
  refine zV0 hC dX6_back_22 zlX6_173 (c_X1_takeFrom (zRd_1 hD) (zRd_8 hD) (by decide)) (hD _) rfl rfl rfl rfl rfl rfl ?_
  refine z_iconst hC dX6_back_25 (v := nI 0) rfl ?_
  refine z_istore_n hC dX6_back_26 (lo2 := [_, _, _]) (Nat.le_of_ble_eq_true rfl) rfl rfl ?_
  have loop27 : ∀ (fuel : Nat) (s : Nat), 8 - s < fuel → s ≤ 8 → zL C 3 ad S 0 0 sz (bkI (R8.1 0) D.2.2.2.1.1 (zcpI 1 8 I) s) (zcpX 1 8 X) Y 27 [some (zr 3 0), some (zi (nI s)), none] [] := by
    intro fuel
    induction fuel with
    | zero => intro s hfu; exact absurd hfu (Nat.not_lt_zero _)
    | succ fuel ih =>
      intro s hfu hs8
      have hms : zRm 1 R8 (bkI (R8.1 0) D.2.2.2.1.1 (zcpI 1 8 I) s) (zcpX 1 8 X) := hmc.frame (fun k j _ _ => bkI_ne s (by omega)) (fun _ _ _ _ => rfl)
      have hIs : (bkI (R8.1 0) D.2.2.2.1.1 (zcpI 1 8 I) s) 3 (35 + 2 * s) 0 = I 3 (35 + 2 * s) 0 := (bkI_ne s (by omega)).trans (zcpI_ne (by omega))
      refine z_iload_n hC dX6_back_27 rfl ?_
      refine z_aload_n hC dX6_back_28 rfl ?_
      refine z_getR hC dX6_back_29 (hD _) zfX6_49 rfl ?_
      refine z_alenQ hC (by decide) dX6_back_32 (hD _) (v := nI 8) rfl ?_
      refine z_nicmp_ge hC dX6_back_33 (tgt := 81) (by decide) (by omega) (by omega) (fun c33 => ?_) (fun c33 => ?_)
      · skip
        obtain rfl : s = 8 := by omega
        refine z_iconst hC dX6_back_81 (v := nI 1) rfl ?_
        refine z_iret hC dX6_back_82 ?_
        exact hE.to (by rfl) rfl rfl rfl
      have hs : s < 8 := by omega
      refine z_aload_n hC dX6_back_36 rfl ?_
      refine z_iload_n hC dX6_back_37 rfl ?_
      refine zVv hC dX6_back_38 zlX6_54 (c_shelfAt_t hD hs) (hD _) rfl rfl rfl rfl rfl rfl ?_
      refine z_astore_n hC dX6_back_41 (lo2 := [_, _, _]) (Nat.le_of_ble_eq_true rfl) rfl rfl ?_
      refine z_aload_n hC dX6_back_42 rfl ?_
      refine z_ifnull hC dX6_back_43  ?_
      refine z_aload_n hC dX6_back_46 rfl ?_
      rcases sh_st hO hM hs with ⟨h1, h2⟩ | ⟨q, hq, h1, h2⟩ | ⟨b, hb, h1, h2⟩
      · skip
        rw [← hIs] at h2
        have hnx : bkI (R8.1 0) D.2.2.2.1.1 (zcpI 1 8 I) (s + 1) = (bkI (R8.1 0) D.2.2.2.1.1 (zcpI 1 8 I) s) := bkI_n h1
        refine zVv hC dX6_back_47 zlX6_85 (c_isBend_n ((hD _).trans (dsh_s hs).1) h2) ((hD _).trans (dsh_s hs).1) rfl rfl rfl rfl rfl rfl ?_
        refine z_nif_eq hC dX6_back_50 (tgt := 75) (by decide) (by omega) (fun c50 => ?_) (fun c50 => ?_)
        rotate_left
        · exfalso; omega
        refine z_ninc hC dX6_back_75 (lo2 := [_, _, _]) rfl rfl rfl rfl ?_
        refine z_goto hC dX6_back_78 (tgt := 27) (by decide) ?_
        rw [← hnx]
        exact z_sub (by simp [zsub]) (ih (s + 1) (by omega) (by omega))
      · skip
        rw [← hIs] at h2
        have hnx : bkI (R8.1 0) D.2.2.2.1.1 (zcpI 1 8 I) (s + 1) = (bkI (R8.1 0) D.2.2.2.1.1 (zcpI 1 8 I) s) := bkI_k h1 (by omega)
        refine zVv hC dX6_back_47 zlX6_85 (c_isBend_r ((hD _).trans (dsh_s hs).1) h2 hq) ((hD _).trans (dsh_s hs).1) rfl rfl rfl rfl rfl rfl ?_
        refine z_nif_eq hC dX6_back_50 (tgt := 75) (by decide) (by omega) (fun c50 => ?_) (fun c50 => ?_)
        rotate_left
        · exfalso; omega
        refine z_ninc hC dX6_back_75 (lo2 := [_, _, _]) rfl rfl rfl rfl ?_
        refine z_goto hC dX6_back_78 (tgt := 27) (by decide) ?_
        rw [← hnx]
        exact z_sub (by simp [zsub]) (ih (s + 1) (by omega) (by omega))
      · skip
        rw [← hIs] at h2
        have hbb : inB (nI b) (R8.1 0) → b < R8.1 0 := fun h => (nI_ltI (by omega) (by omega)).mp h.2
        refine zVv hC dX6_back_47 zlX6_85 (c_isBend_b ((hD _).trans (dsh_s hs).1) h2 (by omega)) ((hD _).trans (dsh_s hs).1) rfl rfl rfl rfl rfl rfl ?_
        refine z_nif_eq hC dX6_back_50 (tgt := 75) (by decide) (by omega) (fun c50 => ?_) (fun c50 => ?_)
        · exfalso; omega
        refine z_aload_n hC dX6_back_53 rfl ?_
        refine z_getR hC dX6_back_54 (hD _) zfX6_10 rfl ?_
        refine z_getR hC dX6_back_57 (hD _) zfX6_115 rfl ?_
        refine z_aload_n hC dX6_back_60 rfl ?_
        refine zVv hC dX6_back_61 zlX6_111 (c_bendNumber_b ((hD _).trans (dsh_s hs).1) h2 (by omega)) ((hD _).trans (dsh_s hs).1) rfl rfl rfl rfl rfl rfl ?_
        refine zVv hC dX6_back_64 zlX6_119 (c_bhas hD hms) (hD _) rfl rfl rfl rfl rfl rfl ?_
        refine z_ifb_ne hC dX6_back_67 (tgt := 75) (by decide) (fun c67 => ?_) (fun c67 => ?_)
        · skip
          have hnx : bkI (R8.1 0) D.2.2.2.1.1 (zcpI 1 8 I) (s + 1) = (bkI (R8.1 0) D.2.2.2.1.1 (zcpI 1 8 I) s) := bkI_k h1 (by have := hbb c67; omega)
          refine z_ninc hC dX6_back_75 (lo2 := [_, _, _]) rfl rfl rfl rfl ?_
          refine z_goto hC dX6_back_78 (tgt := 27) (by decide) ?_
          rw [← hnx]
          exact z_sub (by simp [zsub]) (ih (s + 1) (by omega) (by omega))
        refine z_aload_n hC dX6_back_70 rfl ?_
        refine z_iconst hC dX6_back_71 (v := -1) rfl ?_
        refine zV0 hC dX6_back_72 zlX6_107 (c_takeBend_n ((hD _).trans (dsh_s hs).1)) ((hD _).trans (dsh_s hs).1) rfl rfl rfl rfl rfl rfl ?_
        have hnx : bkI (R8.1 0) D.2.2.2.1.1 (zcpI 1 8 I) (s + 1) = up3 (bkI (R8.1 0) D.2.2.2.1.1 (zcpI 1 8 I) s) 3 (35 + 2 * s) 0 (-1) := bkI_x h1 (by have hh : ¬ b < R8.1 0 := (fun h => c67 (inB_of h (by omega))); omega)
        refine z_ninc hC dX6_back_75 (lo2 := [_, _, _]) rfl rfl rfl rfl ?_
        refine z_goto hC dX6_back_78 (tgt := 27) (by decide) ?_
        rw [← hnx]
        exact z_sub (by simp [zsub]) (ih (s + 1) (by omega) (by omega))
  exact z_sub (by simp [zsub]) (loop27 _ 0 (Nat.lt_succ_self _) (Nat.zero_le _))

theorem o_back (hD : ∀ k, S 3 k = dsh k) (hO : DOK D) (hM : DMe D I X Y) : dC mX6_back 3 [zr 3 0] (some (zi (backS D).1)) (backS D).2 ad S I X Y sz := by
  unfold backS
  rcases hk : D.2.1 with _ | R8
  · exact ⟨_, _, _, hM.rf (by decide), e_back_z hD hO hM hk⟩
  · refine ⟨_, _, _, ?_, e_back_t hD hO hM hk⟩
    have hK := hM.2.2.1 R8 hk
    have hKR := hO.2.1 R8 hk
    have hmc : zRm 1 R8 (zcpI 1 8 I) (zcpX 1 8 X) := zRm_copy hM.1.rw hK hKR
    obtain ⟨h1, h2, h3, ⟨h4, h5⟩, h6, h7, h8, h9⟩ := hM
    have eI : ∀ k j, ¬ (1 ≤ k ∧ k < 8) → k < 35 ∨ j = 1 → (bkI (R8.1 0) D.2.2.2.1.1 (zcpI 1 8 I) 8) 3 k j = I 3 k j := fun k j a b => (bkI_ne 8 (by omega)).trans (zcpI_ne (by omega))
    have eX : ∀ k j, ¬ (1 ≤ k ∧ k < 8) → zcpX 1 8 X 3 k j = X 3 k j := fun k j a => zcpX_ne (by omega)
    refine ⟨hmc.frame (fun k j _ _ => bkI_ne 8 (by omega)) (fun _ _ _ _ => rfl), by rw [eI _ _ (by omega) (by omega), h2, hk], fun K1 hK1 => by cases hK1; exact (h3 R8 hk).frame (fun k j a b => eI k j (by omega) (by omega)) (fun k j a b => eX k j (by omega)), ⟨by rw [eI _ _ (by omega) (by omega)]; exact h4, fun i hi => by rw [eX _ _ (by omega)]; exact h5 i hi⟩, fun s hs => ?_, fun j hj => by rw [eX _ _ (by omega)]; exact h7 j hj, h8.frame (fun k a b => eI k 1 (by omega) (by omega)), h9.frame (fun k a b => eI k 1 (by omega) (by omega))⟩
    obtain ⟨g1, g2, g3⟩ := h6 s hs
    exact ⟨bkI_at (fun t ht => (zcpI_ne (by omega)).trans (h6 t ht).1) 8 s hs (Nat.le_refl _), by rw [eI _ _ (by omega) (by omega)]; exact g2, g3⟩
end
