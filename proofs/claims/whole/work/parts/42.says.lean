/-! OnTheRoof: what its WEIGHTS say -/
abbrev fwN (R : RS) : Nat → Nat := wtN (signW R (R.1 1)) (R.2.1 4)
abbrev hwN (R : RS) : Nat := signH R (R.1 1)
abbrev alN (R : RS) : Nat := sumN (fwN R) (R.1 0) + hwN R
def thoS (D : DS) (p all : Nat) : Int32 × DS := if all = 0 then bad 3 D else (nI (1000 * p / all), D)
def weightS (D : DS) (x : Int32) : Int32 × DS := if x = -1 ∨ inB x (D.1.1 0) then (if x = -1 then nI (hwN D.1) else nI (fwN D.1 (nn x)), D) else bad 0 D
def likelyS (D : DS) (x : Int32) : Int32 × DS := if x = -1 ∨ inB x (D.1.1 0) then thoS D (if x = -1 then hwN D.1 else fwN D.1 (nn x)) (alN D.1) else bad 0 D
def betweenS (D : DS) (x y : Int32) : Int32 × DS := if inB x (D.1.1 0) ∧ inB y (D.1.1 0) ∧ x ≤ y then thoS D (sumR (fwN D.1) (nn x) (nn y + 1)) (alN D.1) else bad 0 D
def hlF (f : Nat → Nat) (all : Nat) : Nat → Nat → Option Nat
  | 0, _ => none
  | k + 1, i => if all ≤ 2 * sumN f (i + 1) then some i else hlF f all k (i + 1)
def halfS (D : DS) : Int32 × DS := (oI (hlF (fwN D.1) (alN D.1) (D.1.1 0) 0), D)
def fewS (D : DS) (x : Int32) : Int32 × DS := if iw x 0 1000 then (nI (fewN (fwN D.1) (D.1.1 0) (nn x * sumN (fwN D.1) (D.1.1 0)) (D.1.1 0) 0 0 0), D) else bad 0 D
def asksS (D : DS) : Int32 × DS := if D.1.1 0 = 0 then bad 3 D else (nI (ebN (fwN D.1) (alN D.1) (D.1.1 0 - 1)), D)
def afterS (D : DS) (x : Int32) (q : Nat) (u : Int32) : Int32 × DS := if tkP D.1 4 0 x ∧ tkP D.1 4 1 u then (if D.1.1 1 = 8 then bad 4 D else thoS D (heedH (hwN D.1) q (100 - nn u)) (sumN (wtN (heedW (signW D.1 (D.1.1 1)) (nn x) q (100 - nn u)) (D.1.2.1 4)) (D.1.1 0) + heedH (hwN D.1) q (100 - nn u))) else bad 0 D
def whereS (D : DS) : Int32 × DS := if D.1.1 0 = 0 then bad 3 D else (oI (gbN (fwN D.1) 0 (D.1.1 0)), D)
def lsN (f : Nat → Nat) : Nat → Option Nat
  | 0 => none
  | k + 1 => if 0 < f k then some k else lsN f k
def lastS (D : DS) : Int32 × DS := (oI (lsN (fwN D.1) (D.1.1 0)), D)
def wsN (f : Nat → Nat) : Nat → Nat
  | 0 => 0
  | k + 1 => if f (wsN f k) < f (k + 1) then k + 1 else wsN f k
theorem wsN_le {f : Nat → Nat} : ∀ k, wsN f k ≤ k
  | 0 => Nat.le_refl _
  | k + 1 => by
    have := wsN_le (f := f) k
    unfold wsN
    split <;> omega
def worstS (D : DS) : Int32 × DS := if D.1.1 0 = 0 then bad 3 D else (nI (wsN (rfall D.1 (D.1.1 3)) (D.1.1 0 - 1)), D)
theorem zWm_heed {n : Nat} {w m : Nat → Nat} {h : Nat} {I X : zI} (hw : zWm n w m h I X) {b q left : Nat} (hl : left ≤ 100) : zWm n (heedW w b q left) m (heedH h q left) (up3 I 3 22 3 (nI (heedH h q left))) (zrow 3 23 (heedW w b q left) n X) := by
  obtain ⟨h1, h2, h3, h4, h5, h6, h7⟩ := hw
  exact ⟨by rw [up3_ne (by omega)]; exact h1, up3_eq _ _ _ _ _, fun i hi => zrow_get hi, fun i hi => by rw [zrow_ne (by omega)]; exact h4 i hi, h5, heedH_le h6 hl, fun i hi => ⟨heedW_le (h7 i hi).1 hl, (h7 i hi).2⟩⟩

section
variable {ad : zA} {S : zSh} {I X : zI} {Y : zY} {sz : Nat} {D : DS}

theorem e_weight_b (hD : ∀ k, S 3 k = dsh k) (hO : DOK D) (hM : DMe D I X Y) {b : Nat} (hb : b < D.1.1 0) : zC0 mX6_weight 7 [zr 3 0, zi (nI b)] (some (zi (nI (fwN D.1 b)))) ad S I X Y sz (wgI D.1 (D.1.1 1) I) (wgX D.1 (D.1.1 1) X) Y := by
  refine zgo (own := RX6) (k := 0) (by decide +kernel) rfl rfl rfl (fun C hC hnm hE => ?_)
  have hm := hM.1
  have hR := hO.1
  have hn14 := hR.1
  have hwg := wg_W (s := D.1.1 1) (I := I) (X := X) hR
  have hmg := wg_R (R := D.1) (s := D.1.1 1) (r := 1) (by decide) hm
  have hwb := wbits hwg
  refine z_aload_n hC dX6_weight_0 rfl ?_
  refine z_iload_n hC dX6_weight_1 rfl ?_
  refine zVv hC dX6_weight_2 zlX6_104 (c_X6_isBendOrNone hD hm hR) (hD _) rfl rfl rfl rfl rfl rfl ?_
  refine z_ifb_ne hC dX6_weight_5 (tgt := 15) (by decide) (fun c5 => ?_) (fun c5 => ?_)
  rotate_left
  · exact absurd c5 (fun z => z (Or.inr (inB_of hb (by omega))))
  refine z_aload_n hC dX6_weight_15 rfl ?_
  refine z_getR hC dX6_weight_16 (hD _) zfX6_25 rfl ?_
  refine z_aload_n hC dX6_weight_19 rfl ?_
  refine z_getR hC dX6_weight_20 (hD _) zfX6_10 rfl ?_
  refine zV0 hC dX6_weight_23 zlX6_194 (c_X5_weigh hD hm hR) (hD _) rfl rfl rfl rfl rfl rfl ?_
  refine z_aload_n hC dX6_weight_26 rfl ?_
  refine z_getR hC dX6_weight_27 (hD _) zfX6_25 rfl ?_
  refine z_iload_n hC dX6_weight_30 rfl ?_
  refine zVv hC dX6_weight_31 zlX6_197 (c_X5_at hD hwg hb) (hD _) rfl rfl rfl rfl rfl rfl ?_
  refine z_iret hC dX6_weight_34 ?_
  exact hE.to (by rfl) rfl rfl rfl

theorem e_weight_n (hD : ∀ k, S 3 k = dsh k) (hO : DOK D) (hM : DMe D I X Y)  : zC0 mX6_weight 7 [zr 3 0, zi (-1)] (some (zi (nI (hwN D.1)))) ad S I X Y sz (wgI D.1 (D.1.1 1) I) (wgX D.1 (D.1.1 1) X) Y := by
  refine zgo (own := RX6) (k := 0) (by decide +kernel) rfl rfl rfl (fun C hC hnm hE => ?_)
  have hm := hM.1
  have hR := hO.1
  have hn14 := hR.1
  have hwg := wg_W (s := D.1.1 1) (I := I) (X := X) hR
  have hmg := wg_R (R := D.1) (s := D.1.1 1) (r := 1) (by decide) hm
  have hwb := wbits hwg
  refine z_aload_n hC dX6_weight_0 rfl ?_
  refine z_iload_n hC dX6_weight_1 rfl ?_
  refine zVv hC dX6_weight_2 zlX6_104 (c_X6_isBendOrNone hD hm hR) (hD _) rfl rfl rfl rfl rfl rfl ?_
  refine z_ifb_ne hC dX6_weight_5 (tgt := 15) (by decide) (fun c5 => ?_) (fun c5 => ?_)
  rotate_left
  · exact absurd c5 (fun z => z (Or.inl rfl))
  refine z_aload_n hC dX6_weight_15 rfl ?_
  refine z_getR hC dX6_weight_16 (hD _) zfX6_25 rfl ?_
  refine z_aload_n hC dX6_weight_19 rfl ?_
  refine z_getR hC dX6_weight_20 (hD _) zfX6_10 rfl ?_
  refine zV0 hC dX6_weight_23 zlX6_194 (c_X5_weigh hD hm hR) (hD _) rfl rfl rfl rfl rfl rfl ?_
  refine z_aload_n hC dX6_weight_26 rfl ?_
  refine z_getR hC dX6_weight_27 (hD _) zfX6_25 rfl ?_
  refine z_iload_n hC dX6_weight_30 rfl ?_
  refine zVv hC dX6_weight_31 zlX6_197 (c_X5_atNone hD hwg) (hD _) rfl rfl rfl rfl rfl rfl ?_
  refine z_iret hC dX6_weight_34 ?_
  exact hE.to (by rfl) rfl rfl rfl

theorem e_weight_f (hD : ∀ k, S 3 k = dsh k) (hO : DOK D) (hM : DMe D I X Y) {x : Int32} (hx : ¬ (x = -1 ∨ inB x (D.1.1 0))) : zC0 mX6_weight 7 [zr 3 0, zi x] (some (zi (-2))) ad S I X Y sz I (rfX 0 X) Y := by
  refine zgo (own := RX6) (k := 0) (by decide +kernel) rfl rfl rfl (fun C hC hnm hE => ?_)
  have hm := hM.1
  have hR := hO.1
  refine z_aload_n hC dX6_weight_0 rfl ?_
  refine z_iload_n hC dX6_weight_1 rfl ?_
  refine zVv hC dX6_weight_2 zlX6_104 (c_X6_isBendOrNone hD hm hR) (hD _) rfl rfl rfl rfl rfl rfl ?_
  refine z_ifb_ne hC dX6_weight_5 (tgt := 15) (by decide) (fun c5 => ?_) (fun c5 => ?_)
  · exact absurd c5 hx
  refine z_aload_n hC dX6_weight_8 rfl ?_
  refine z_bipush hC dX6_weight_9 (v := -2) rfl ?_
  refine zVv hC dX6_weight_11 zlX6_62 (c_X6_refuse hD (j := 0) (by decide) (by decide)) (hD _) rfl rfl rfl rfl rfl rfl ?_
  refine z_iret hC dX6_weight_14 ?_
  exact hE.to (by rfl) rfl rfl rfl

theorem o_weight (hD : ∀ k, S 3 k = dsh k) (hO : DOK D) (hM : DMe D I X Y) {x : Int32} : dC mX6_weight 7 [zr 3 0, zi x] (some (zi (weightS D x).1)) (weightS D x).2 ad S I X Y sz := by
  have hn14 := hO.1.1
  unfold weightS
  by_cases h : x = -1 ∨ inB x (D.1.1 0)
  · rw [if_pos h]
    by_cases hx : x = -1
    · subst hx
      rw [if_pos rfl]
      exact ⟨_, _, Y, hM.wg, e_weight_n hD hO hM⟩
    · obtain ⟨b, hb, rfl, e1⟩ := inB_e (h.resolve_left hx) (by omega)
      rw [if_neg hx, e1]
      exact ⟨_, _, Y, hM.wg, e_weight_b hD hO hM hb⟩
  · rw [if_neg h]
    exact ⟨I, rfX 0 X, Y, hM.rf (by decide), e_weight_f hD hO hM h⟩
theorem e_likely_bz (hD : ∀ k, S 3 k = dsh k) (hO : DOK D) (hM : DMe D I X Y) (hz : alN D.1 = 0) {b : Nat} (hb : b < D.1.1 0) : zC0 mX6_likely 7 [zr 3 0, zi (nI b)] (some (zi (-5))) ad S I X Y sz (wgI D.1 (D.1.1 1) I) (rfX 3 (wgX D.1 (D.1.1 1) X)) Y := by
  refine zgo (own := RX6) (k := 0) (by decide +kernel) rfl rfl rfl (fun C hC hnm hE => ?_)
  have hm := hM.1
  have hR := hO.1
  have hn14 := hR.1
  have hwg := wg_W (s := D.1.1 1) (I := I) (X := X) hR
  have hmg := wg_R (R := D.1) (s := D.1.1 1) (r := 1) (by decide) hm
  have hwb := wbits hwg
  have hfb := (wtN_le hwg hb).1
  refine z_aload_n hC dX6_likely_0 rfl ?_
  refine z_iload_n hC dX6_likely_1 rfl ?_
  refine zVv hC dX6_likely_2 zlX6_104 (c_X6_isBendOrNone hD hm hR) (hD _) rfl rfl rfl rfl rfl rfl ?_
  refine z_ifb_ne hC dX6_likely_5 (tgt := 15) (by decide) (fun c5 => ?_) (fun c5 => ?_)
  rotate_left
  · exact absurd c5 (fun z => z (Or.inr (inB_of hb (by omega))))
  refine z_aload_n hC dX6_likely_15 rfl ?_
  refine z_getR hC dX6_likely_16 (hD _) zfX6_25 rfl ?_
  refine z_aload_n hC dX6_likely_19 rfl ?_
  refine z_getR hC dX6_likely_20 (hD _) zfX6_10 rfl ?_
  refine zV0 hC dX6_likely_23 zlX6_194 (c_X5_weigh hD hm hR) (hD _) rfl rfl rfl rfl rfl rfl ?_
  refine z_aload_n hC dX6_likely_26 rfl ?_
  refine z_aload_n hC dX6_likely_27 rfl ?_
  refine z_getR hC dX6_likely_28 (hD _) zfX6_25 rfl ?_
  refine z_iload_n hC dX6_likely_31 rfl ?_
  refine zVv hC dX6_likely_32 zlX6_197 (c_X5_at hD hwg hb) (hD _) rfl rfl rfl rfl rfl rfl ?_
  refine zVv hC dX6_likely_35 zlX6_199 (c_tho_0 hD hwg hz) (hD _) rfl rfl rfl rfl rfl rfl ?_
  refine z_iret hC dX6_likely_38 ?_
  exact hE.to (by rfl) rfl rfl rfl

theorem e_likely_nz (hD : ∀ k, S 3 k = dsh k) (hO : DOK D) (hM : DMe D I X Y) (hz : alN D.1 = 0)  : zC0 mX6_likely 7 [zr 3 0, zi (-1)] (some (zi (-5))) ad S I X Y sz (wgI D.1 (D.1.1 1) I) (rfX 3 (wgX D.1 (D.1.1 1) X)) Y := by
  refine zgo (own := RX6) (k := 0) (by decide +kernel) rfl rfl rfl (fun C hC hnm hE => ?_)
  have hm := hM.1
  have hR := hO.1
  have hn14 := hR.1
  have hwg := wg_W (s := D.1.1 1) (I := I) (X := X) hR
  have hmg := wg_R (R := D.1) (s := D.1.1 1) (r := 1) (by decide) hm
  have hwb := wbits hwg
  have hhb := hwg.2.2.2.2.2.1
  refine z_aload_n hC dX6_likely_0 rfl ?_
  refine z_iload_n hC dX6_likely_1 rfl ?_
  refine zVv hC dX6_likely_2 zlX6_104 (c_X6_isBendOrNone hD hm hR) (hD _) rfl rfl rfl rfl rfl rfl ?_
  refine z_ifb_ne hC dX6_likely_5 (tgt := 15) (by decide) (fun c5 => ?_) (fun c5 => ?_)
  rotate_left
  · exact absurd c5 (fun z => z (Or.inl rfl))
  refine z_aload_n hC dX6_likely_15 rfl ?_
  refine z_getR hC dX6_likely_16 (hD _) zfX6_25 rfl ?_
  refine z_aload_n hC dX6_likely_19 rfl ?_
  refine z_getR hC dX6_likely_20 (hD _) zfX6_10 rfl ?_
  refine zV0 hC dX6_likely_23 zlX6_194 (c_X5_weigh hD hm hR) (hD _) rfl rfl rfl rfl rfl rfl ?_
  refine z_aload_n hC dX6_likely_26 rfl ?_
  refine z_aload_n hC dX6_likely_27 rfl ?_
  refine z_getR hC dX6_likely_28 (hD _) zfX6_25 rfl ?_
  refine z_iload_n hC dX6_likely_31 rfl ?_
  refine zVv hC dX6_likely_32 zlX6_197 (c_X5_atNone hD hwg) (hD _) rfl rfl rfl rfl rfl rfl ?_
  refine zVv hC dX6_likely_35 zlX6_199 (c_tho_0 hD hwg hz) (hD _) rfl rfl rfl rfl rfl rfl ?_
  refine z_iret hC dX6_likely_38 ?_
  exact hE.to (by rfl) rfl rfl rfl

theorem e_between_tz (hD : ∀ k, S 3 k = dsh k) (hO : DOK D) (hM : DMe D I X Y) (hz : alN D.1 = 0) {a b : Nat} (hb : b < D.1.1 0) (hab : a ≤ b)  : zC0 mX6_between 7 [zr 3 0, zi (nI a), zi (nI b)] (some (zi (-5))) ad S I X Y sz (wgI D.1 (D.1.1 1) I) (rfX 3 (wgX D.1 (D.1.1 1) X)) Y := by
  refine zgo (own := RX6) (k := 0) (by decide +kernel) rfl rfl rfl (fun C hC hnm hE => ?_)
  have hm := hM.1
  have hR := hO.1
  have hn14 := hR.1
  have hwg := wg_W (s := D.1.1 1) (I := I) (X := X) hR
  have hmg := wg_R (R := D.1) (s := D.1.1 1) (r := 1) (by decide) hm
  have hwb := wbits hwg
  have hsr : sumR (wtN (signW D.1 (D.1.1 1)) (D.1.2.1 4)) a (b + 1) ≤ 14 * 1000000 := Nat.le_trans (sumR_le (M := 1000000) (fun j _ hj => (wtN_le hwg (by omega)).1)) (Nat.mul_le_mul_right _ (by omega))
  refine z_aload_n hC dX6_between_0 rfl ?_
  refine z_getR hC dX6_between_1 (hD _) zfX6_10 rfl ?_
  refine z_getR hC dX6_between_4 (hD _) zfX6_115 rfl ?_
  refine z_iload_n hC dX6_between_7 rfl ?_
  refine zVv hC dX6_between_8 zlX6_119 (c_bhas hD hm) (hD _) rfl rfl rfl rfl rfl rfl ?_
  refine z_ifb_eq hC dX6_between_11 (tgt := 33) (by decide) (fun c11 => ?_) (fun c11 => ?_)
  · exact absurd c11 (fun z => z (inB_of (by omega) (by omega)))
  refine z_aload_n hC dX6_between_14 rfl ?_
  refine z_getR hC dX6_between_15 (hD _) zfX6_10 rfl ?_
  refine z_getR hC dX6_between_18 (hD _) zfX6_115 rfl ?_
  refine z_iload_n hC dX6_between_21 rfl ?_
  refine zVv hC dX6_between_22 zlX6_119 (c_bhas hD hm) (hD _) rfl rfl rfl rfl rfl rfl ?_
  refine z_ifb_eq hC dX6_between_25 (tgt := 33) (by decide) (fun c25 => ?_) (fun c25 => ?_)
  · exact absurd c25 (fun z => z (inB_of hb (by omega)))
  refine z_iload_n hC dX6_between_28 rfl ?_
  refine z_iload_n hC dX6_between_29 rfl ?_
  refine z_nicmp_ge hC dX6_between_30 (tgt := 40) (by decide) (by omega) (by omega) (fun c30 => ?_) (fun c30 => ?_)
  rotate_left
  · exfalso; omega
  refine z_aload_n hC dX6_between_40 rfl ?_
  refine z_getR hC dX6_between_41 (hD _) zfX6_25 rfl ?_
  refine z_aload_n hC dX6_between_44 rfl ?_
  refine z_getR hC dX6_between_45 (hD _) zfX6_10 rfl ?_
  refine zV0 hC dX6_between_48 zlX6_194 (c_X5_weigh hD hm hR) (hD _) rfl rfl rfl rfl rfl rfl ?_
  refine z_aload_n hC dX6_between_51 rfl ?_
  refine z_aload_n hC dX6_between_52 rfl ?_
  refine z_getR hC dX6_between_53 (hD _) zfX6_25 rfl ?_
  refine z_iload_n hC dX6_between_56 rfl ?_
  refine z_iload_n hC dX6_between_57 rfl ?_
  refine zVv hC dX6_between_58 zlX6_202 (c_X5_sum hD hwg hb (by omega)) (hD _) rfl rfl rfl rfl rfl rfl ?_
  refine zVv hC dX6_between_61 zlX6_199 (c_tho_0 hD hwg hz) (hD _) rfl rfl rfl rfl rfl rfl ?_
  refine z_iret hC dX6_between_64 ?_
  exact hE.to (by rfl) rfl rfl rfl

theorem e_likely_bt (hD : ∀ k, S 3 k = dsh k) (hO : DOK D) (hM : DMe D I X Y) (hz : ¬ alN D.1 = 0) {b : Nat} (hb : b < D.1.1 0) : zC0 mX6_likely 7 [zr 3 0, zi (nI b)] (some (zi (nI (1000 * fwN D.1 b / alN D.1)))) ad S I X Y sz (wgI D.1 (D.1.1 1) I) (wgX D.1 (D.1.1 1) X) Y := by
  refine zgo (own := RX6) (k := 0) (by decide +kernel) rfl rfl rfl (fun C hC hnm hE => ?_)
  have hm := hM.1
  have hR := hO.1
  have hn14 := hR.1
  have hwg := wg_W (s := D.1.1 1) (I := I) (X := X) hR
  have hmg := wg_R (R := D.1) (s := D.1.1 1) (r := 1) (by decide) hm
  have hwb := wbits hwg
  have hfb := (wtN_le hwg hb).1
  refine z_aload_n hC dX6_likely_0 rfl ?_
  refine z_iload_n hC dX6_likely_1 rfl ?_
  refine zVv hC dX6_likely_2 zlX6_104 (c_X6_isBendOrNone hD hm hR) (hD _) rfl rfl rfl rfl rfl rfl ?_
  refine z_ifb_ne hC dX6_likely_5 (tgt := 15) (by decide) (fun c5 => ?_) (fun c5 => ?_)
  rotate_left
  · exact absurd c5 (fun z => z (Or.inr (inB_of hb (by omega))))
  refine z_aload_n hC dX6_likely_15 rfl ?_
  refine z_getR hC dX6_likely_16 (hD _) zfX6_25 rfl ?_
  refine z_aload_n hC dX6_likely_19 rfl ?_
  refine z_getR hC dX6_likely_20 (hD _) zfX6_10 rfl ?_
  refine zV0 hC dX6_likely_23 zlX6_194 (c_X5_weigh hD hm hR) (hD _) rfl rfl rfl rfl rfl rfl ?_
  refine z_aload_n hC dX6_likely_26 rfl ?_
  refine z_aload_n hC dX6_likely_27 rfl ?_
  refine z_getR hC dX6_likely_28 (hD _) zfX6_25 rfl ?_
  refine z_iload_n hC dX6_likely_31 rfl ?_
  refine zVv hC dX6_likely_32 zlX6_197 (c_X5_at hD hwg hb) (hD _) rfl rfl rfl rfl rfl rfl ?_
  refine zVv hC dX6_likely_35 zlX6_199 (c_tho hD hwg (by show wtN _ _ b ≤ _; omega) hz) (hD _) rfl rfl rfl rfl rfl rfl ?_
  refine z_iret hC dX6_likely_38 ?_
  exact hE.to (by rfl) rfl rfl rfl

theorem e_likely_nt (hD : ∀ k, S 3 k = dsh k) (hO : DOK D) (hM : DMe D I X Y) (hz : ¬ alN D.1 = 0)  : zC0 mX6_likely 7 [zr 3 0, zi (-1)] (some (zi (nI (1000 * hwN D.1 / alN D.1)))) ad S I X Y sz (wgI D.1 (D.1.1 1) I) (wgX D.1 (D.1.1 1) X) Y := by
  refine zgo (own := RX6) (k := 0) (by decide +kernel) rfl rfl rfl (fun C hC hnm hE => ?_)
  have hm := hM.1
  have hR := hO.1
  have hn14 := hR.1
  have hwg := wg_W (s := D.1.1 1) (I := I) (X := X) hR
  have hmg := wg_R (R := D.1) (s := D.1.1 1) (r := 1) (by decide) hm
  have hwb := wbits hwg
  have hhb := hwg.2.2.2.2.2.1
  refine z_aload_n hC dX6_likely_0 rfl ?_
  refine z_iload_n hC dX6_likely_1 rfl ?_
  refine zVv hC dX6_likely_2 zlX6_104 (c_X6_isBendOrNone hD hm hR) (hD _) rfl rfl rfl rfl rfl rfl ?_
  refine z_ifb_ne hC dX6_likely_5 (tgt := 15) (by decide) (fun c5 => ?_) (fun c5 => ?_)
  rotate_left
  · exact absurd c5 (fun z => z (Or.inl rfl))
  refine z_aload_n hC dX6_likely_15 rfl ?_
  refine z_getR hC dX6_likely_16 (hD _) zfX6_25 rfl ?_
  refine z_aload_n hC dX6_likely_19 rfl ?_
  refine z_getR hC dX6_likely_20 (hD _) zfX6_10 rfl ?_
  refine zV0 hC dX6_likely_23 zlX6_194 (c_X5_weigh hD hm hR) (hD _) rfl rfl rfl rfl rfl rfl ?_
  refine z_aload_n hC dX6_likely_26 rfl ?_
  refine z_aload_n hC dX6_likely_27 rfl ?_
  refine z_getR hC dX6_likely_28 (hD _) zfX6_25 rfl ?_
  refine z_iload_n hC dX6_likely_31 rfl ?_
  refine zVv hC dX6_likely_32 zlX6_197 (c_X5_atNone hD hwg) (hD _) rfl rfl rfl rfl rfl rfl ?_
  refine zVv hC dX6_likely_35 zlX6_199 (c_tho hD hwg (by omega) hz) (hD _) rfl rfl rfl rfl rfl rfl ?_
  refine z_iret hC dX6_likely_38 ?_
  exact hE.to (by rfl) rfl rfl rfl

theorem e_between_tt (hD : ∀ k, S 3 k = dsh k) (hO : DOK D) (hM : DMe D I X Y) (hz : ¬ alN D.1 = 0) {a b : Nat} (hb : b < D.1.1 0) (hab : a ≤ b)  : zC0 mX6_between 7 [zr 3 0, zi (nI a), zi (nI b)] (some (zi (nI (1000 * sumR (fwN D.1) a (b + 1) / alN D.1)))) ad S I X Y sz (wgI D.1 (D.1.1 1) I) (wgX D.1 (D.1.1 1) X) Y := by
  refine zgo (own := RX6) (k := 0) (by decide +kernel) rfl rfl rfl (fun C hC hnm hE => ?_)
  have hm := hM.1
  have hR := hO.1
  have hn14 := hR.1
  have hwg := wg_W (s := D.1.1 1) (I := I) (X := X) hR
  have hmg := wg_R (R := D.1) (s := D.1.1 1) (r := 1) (by decide) hm
  have hwb := wbits hwg
  have hsr : sumR (wtN (signW D.1 (D.1.1 1)) (D.1.2.1 4)) a (b + 1) ≤ 14 * 1000000 := Nat.le_trans (sumR_le (M := 1000000) (fun j _ hj => (wtN_le hwg (by omega)).1)) (Nat.mul_le_mul_right _ (by omega))
  refine z_aload_n hC dX6_between_0 rfl ?_
  refine z_getR hC dX6_between_1 (hD _) zfX6_10 rfl ?_
  refine z_getR hC dX6_between_4 (hD _) zfX6_115 rfl ?_
  refine z_iload_n hC dX6_between_7 rfl ?_
  refine zVv hC dX6_between_8 zlX6_119 (c_bhas hD hm) (hD _) rfl rfl rfl rfl rfl rfl ?_
  refine z_ifb_eq hC dX6_between_11 (tgt := 33) (by decide) (fun c11 => ?_) (fun c11 => ?_)
  · exact absurd c11 (fun z => z (inB_of (by omega) (by omega)))
  refine z_aload_n hC dX6_between_14 rfl ?_
  refine z_getR hC dX6_between_15 (hD _) zfX6_10 rfl ?_
  refine z_getR hC dX6_between_18 (hD _) zfX6_115 rfl ?_
  refine z_iload_n hC dX6_between_21 rfl ?_
  refine zVv hC dX6_between_22 zlX6_119 (c_bhas hD hm) (hD _) rfl rfl rfl rfl rfl rfl ?_
  refine z_ifb_eq hC dX6_between_25 (tgt := 33) (by decide) (fun c25 => ?_) (fun c25 => ?_)
  · exact absurd c25 (fun z => z (inB_of hb (by omega)))
  refine z_iload_n hC dX6_between_28 rfl ?_
  refine z_iload_n hC dX6_between_29 rfl ?_
  refine z_nicmp_ge hC dX6_between_30 (tgt := 40) (by decide) (by omega) (by omega) (fun c30 => ?_) (fun c30 => ?_)
  rotate_left
  · exfalso; omega
  refine z_aload_n hC dX6_between_40 rfl ?_
  refine z_getR hC dX6_between_41 (hD _) zfX6_25 rfl ?_
  refine z_aload_n hC dX6_between_44 rfl ?_
  refine z_getR hC dX6_between_45 (hD _) zfX6_10 rfl ?_
  refine zV0 hC dX6_between_48 zlX6_194 (c_X5_weigh hD hm hR) (hD _) rfl rfl rfl rfl rfl rfl ?_
  refine z_aload_n hC dX6_between_51 rfl ?_
  refine z_aload_n hC dX6_between_52 rfl ?_
  refine z_getR hC dX6_between_53 (hD _) zfX6_25 rfl ?_
  refine z_iload_n hC dX6_between_56 rfl ?_
  refine z_iload_n hC dX6_between_57 rfl ?_
  refine zVv hC dX6_between_58 zlX6_202 (c_X5_sum hD hwg hb (by omega)) (hD _) rfl rfl rfl rfl rfl rfl ?_
  refine zVv hC dX6_between_61 zlX6_199 (c_tho hD hwg (by omega) hz) (hD _) rfl rfl rfl rfl rfl rfl ?_
  refine z_iret hC dX6_between_64 ?_
  exact hE.to (by rfl) rfl rfl rfl

theorem e_likely_f (hD : ∀ k, S 3 k = dsh k) (hO : DOK D) (hM : DMe D I X Y) {x : Int32} (hx : ¬ (x = -1 ∨ inB x (D.1.1 0))) : zC0 mX6_likely 7 [zr 3 0, zi x] (some (zi (-2))) ad S I X Y sz I (rfX 0 X) Y := by
  refine zgo (own := RX6) (k := 0) (by decide +kernel) rfl rfl rfl (fun C hC hnm hE => ?_)
  have hm := hM.1
  have hR := hO.1
  refine z_aload_n hC dX6_likely_0 rfl ?_
  refine z_iload_n hC dX6_likely_1 rfl ?_
  refine zVv hC dX6_likely_2 zlX6_104 (c_X6_isBendOrNone hD hm hR) (hD _) rfl rfl rfl rfl rfl rfl ?_
  refine z_ifb_ne hC dX6_likely_5 (tgt := 15) (by decide) (fun c5 => ?_) (fun c5 => ?_)
  · exact absurd c5 hx
  refine z_aload_n hC dX6_likely_8 rfl ?_
  refine z_bipush hC dX6_likely_9 (v := -2) rfl ?_
  refine zVv hC dX6_likely_11 zlX6_62 (c_X6_refuse hD (j := 0) (by decide) (by decide)) (hD _) rfl rfl rfl rfl rfl rfl ?_
  refine z_iret hC dX6_likely_14 ?_
  exact hE.to (by rfl) rfl rfl rfl

theorem e_between_f (hD : ∀ k, S 3 k = dsh k) (hO : DOK D) (hM : DMe D I X Y) {x y : Int32} (hx : ¬ (inB x (D.1.1 0) ∧ inB y (D.1.1 0) ∧ x ≤ y)) : zC0 mX6_between 7 [zr 3 0, zi x, zi y] (some (zi (-2))) ad S I X Y sz I (rfX 0 X) Y := by
  refine zgo (own := RX6) (k := 0) (by decide +kernel) rfl rfl rfl (fun C hC hnm hE => ?_)
  have hm := hM.1
  have hR := hO.1
  refine z_aload_n hC dX6_between_0 rfl ?_
  refine z_getR hC dX6_between_1 (hD _) zfX6_10 rfl ?_
  refine z_getR hC dX6_between_4 (hD _) zfX6_115 rfl ?_
  refine z_iload_n hC dX6_between_7 rfl ?_
  refine zVv hC dX6_between_8 zlX6_119 (c_bhas hD hm) (hD _) rfl rfl rfl rfl rfl rfl ?_
  refine z_ifb_eq hC dX6_between_11 (tgt := 33) (by decide) (fun c11 => ?_) (fun c11 => ?_)
  · skip
    refine z_aload_n hC dX6_between_33 rfl ?_
    refine z_bipush hC dX6_between_34 (v := -2) rfl ?_
    refine zVv hC dX6_between_36 zlX6_62 (c_X6_refuse hD (j := 0) (by decide) (by decide)) (hD _) rfl rfl rfl rfl rfl rfl ?_
    refine z_iret hC dX6_between_39 ?_
    exact hE.to (by rfl) rfl rfl rfl
  refine z_aload_n hC dX6_between_14 rfl ?_
  refine z_getR hC dX6_between_15 (hD _) zfX6_10 rfl ?_
  refine z_getR hC dX6_between_18 (hD _) zfX6_115 rfl ?_
  refine z_iload_n hC dX6_between_21 rfl ?_
  refine zVv hC dX6_between_22 zlX6_119 (c_bhas hD hm) (hD _) rfl rfl rfl rfl rfl rfl ?_
  refine z_ifb_eq hC dX6_between_25 (tgt := 33) (by decide) (fun c25 => ?_) (fun c25 => ?_)
  · skip
    refine z_aload_n hC dX6_between_33 rfl ?_
    refine z_bipush hC dX6_between_34 (v := -2) rfl ?_
    refine zVv hC dX6_between_36 zlX6_62 (c_X6_refuse hD (j := 0) (by decide) (by decide)) (hD _) rfl rfl rfl rfl rfl rfl ?_
    refine z_iret hC dX6_between_39 ?_
    exact hE.to (by rfl) rfl rfl rfl
  refine z_iload_n hC dX6_between_28 rfl ?_
  refine z_iload_n hC dX6_between_29 rfl ?_
  refine z_icmp_ge hC dX6_between_30 (tgt := 40) (by decide) (fun c30 => ?_) (fun c30 => ?_)
  · exact absurd c30 (fun z => hx ⟨c11, c25, z⟩)
  refine z_aload_n hC dX6_between_33 rfl ?_
  refine z_bipush hC dX6_between_34 (v := -2) rfl ?_
  refine zVv hC dX6_between_36 zlX6_62 (c_X6_refuse hD (j := 0) (by decide) (by decide)) (hD _) rfl rfl rfl rfl rfl rfl ?_
  refine z_iret hC dX6_between_39 ?_
  exact hE.to (by rfl) rfl rfl rfl

theorem o_likely (hD : ∀ k, S 3 k = dsh k) (hO : DOK D) (hM : DMe D I X Y) {x : Int32} : dC mX6_likely 7 [zr 3 0, zi x] (some (zi (likelyS D x).1)) (likelyS D x).2 ad S I X Y sz := by
  have hn14 := hO.1.1
  unfold likelyS
  by_cases h : x = -1 ∨ inB x (D.1.1 0)
  · rw [if_pos h]
    by_cases hx : x = -1
    · subst hx
      rw [if_pos rfl]
      unfold thoS
      by_cases hz : alN D.1 = 0
      · rw [if_pos hz]; exact ⟨_, _, Y, (hM.wg).rf (by decide), e_likely_nz hD hO hM hz⟩
      · rw [if_neg hz]; exact ⟨_, _, Y, hM.wg, e_likely_nt hD hO hM hz⟩
    · obtain ⟨b, hb, rfl, e1⟩ := inB_e (h.resolve_left hx) (by omega)
      rw [if_neg hx, e1]
      unfold thoS
      by_cases hz : alN D.1 = 0
      · rw [if_pos hz]; exact ⟨_, _, Y, (hM.wg).rf (by decide), e_likely_bz hD hO hM hz hb⟩
      · rw [if_neg hz]; exact ⟨_, _, Y, hM.wg, e_likely_bt hD hO hM hz hb⟩
  · rw [if_neg h]
    exact ⟨I, rfX 0 X, Y, hM.rf (by decide), e_likely_f hD hO hM h⟩
theorem o_between (hD : ∀ k, S 3 k = dsh k) (hO : DOK D) (hM : DMe D I X Y) {x y : Int32} : dC mX6_between 7 [zr 3 0, zi x, zi y] (some (zi (betweenS D x y).1)) (betweenS D x y).2 ad S I X Y sz := by
  have hn14 := hO.1.1
  unfold betweenS
  by_cases h : inB x (D.1.1 0) ∧ inB y (D.1.1 0) ∧ x ≤ y
  · rw [if_pos h]
    obtain ⟨h1, h2, h3⟩ := h
    obtain ⟨a, ha, rfl, e1⟩ := inB_e h1 (by omega)
    obtain ⟨b, hb, rfl, e2⟩ := inB_e h2 (by omega)
    have hab := (nI_leI (by omega) (by omega)).mp h3
    rw [e1, e2]
    unfold thoS
    by_cases hz : alN D.1 = 0
    · rw [if_pos hz]; exact ⟨_, _, Y, (hM.wg).rf (by decide), e_between_tz hD hO hM hz hb hab⟩
    · rw [if_neg hz]; exact ⟨_, _, Y, hM.wg, e_between_tt hD hO hM hz hb hab⟩
  · rw [if_neg h]
    exact ⟨I, rfX 0 X, Y, hM.rf (by decide), e_between_f hD hO hM h⟩
theorem e_half_t (hD : ∀ k, S 3 k = dsh k) (hO : DOK D) (hM : DMe D I X Y)  : zC0 mX6_half 7 [zr 3 0] (some (zi (oI (hlF (wtN (signW D.1 (D.1.1 1)) (D.1.2.1 4)) (sumN (wtN (signW D.1 (D.1.1 1)) (D.1.2.1 4)) (D.1.1 0) + signH D.1 (D.1.1 1)) (D.1.1 0) 0)))) ad S I X Y sz (wgI D.1 (D.1.1 1) I) (wgX D.1 (D.1.1 1) X) Y := by
  refine zgo (own := RX6) (k := 2) (by decide +kernel) rfl rfl rfl (fun C hC hnm hE => ?_)
  have hm := hM.1
  have hR := hO.1
  have hn14 := hR.1
  have hwg := wg_W (s := D.1.1 1) (I := I) (X := X) hR
  have hmg := wg_R (R := D.1) (s := D.1.1 1) (r := 1) (by decide) hm
  have hwb := wbits hwg
  refine z_aload_n hC dX6_half_0 rfl ?_
  refine z_getR hC dX6_half_1 (hD _) zfX6_25 rfl ?_
  refine z_aload_n hC dX6_half_4 rfl ?_
  refine z_getR hC dX6_half_5 (hD _) zfX6_10 rfl ?_
  refine zV0 hC dX6_half_8 zlX6_194 (c_X5_weigh hD hm hR) (hD _) rfl rfl rfl rfl rfl rfl ?_
  refine z_aload_n hC dX6_half_11 rfl ?_
  refine z_getR hC dX6_half_12 (hD _) zfX6_25 rfl ?_
  refine zVv hC dX6_half_15 zlX6_205 (c_X5_all hD hwg) (hD _) rfl rfl rfl rfl rfl rfl ?_
  refine z_istore_n hC dX6_half_18 (lo2 := [_, _, _]) (Nat.le_of_ble_eq_true rfl) rfl rfl ?_
  refine z_iconst hC dX6_half_19 (v := nI 0) rfl ?_
  refine z_istore_n hC dX6_half_20 (lo2 := [_, _, _]) (Nat.le_of_ble_eq_true rfl) rfl rfl ?_
  have loop21 : ∀ (fuel : Nat) (i : Nat), D.1.1 0 - i < fuel → i ≤ D.1.1 0 → hlF (wtN (signW D.1 (D.1.1 1)) (D.1.2.1 4)) (sumN (wtN (signW D.1 (D.1.1 1)) (D.1.2.1 4)) (D.1.1 0) + signH D.1 (D.1.1 1)) (D.1.1 0 - i) i = hlF (wtN (signW D.1 (D.1.1 1)) (D.1.2.1 4)) (sumN (wtN (signW D.1 (D.1.1 1)) (D.1.2.1 4)) (D.1.1 0) + signH D.1 (D.1.1 1)) (D.1.1 0) 0 → zL C 3 ad S 0 0 sz (wgI D.1 (D.1.1 1) I) (wgX D.1 (D.1.1 1) X) Y 21 [some (zr 3 0), some (zi (nI (sumN (wtN (signW D.1 (D.1.1 1)) (D.1.2.1 4)) (D.1.1 0) + signH D.1 (D.1.1 1)))), some (zi (nI i))] [] := by
    intro fuel
    induction fuel with
    | zero => intro i hfu; exact absurd hfu (Nat.not_lt_zero _)
    | succ fuel ih =>
      intro i hfu hin hh
      refine z_iload_n hC dX6_half_21 rfl ?_
      refine z_aload_n hC dX6_half_22 rfl ?_
      refine z_getR hC dX6_half_23 (hD _) zfX6_10 rfl ?_
      refine z_getR hC dX6_half_26 (hD _) zfX6_115 rfl ?_
      refine z_getN hC dX6_half_29 (hD _) zfX6_160 rfl hmg.1.2.1 ?_
      refine z_nicmp_ge hC dX6_half_32 (tgt := 58) (by decide) (by omega) (by omega) (fun c32 => ?_) (fun c32 => ?_)
      · skip
        refine z_iconst hC dX6_half_58 (v := -1) rfl ?_
        refine z_iret hC dX6_half_59 ?_
        exact hE.to (by rw [← hh, show D.1.1 0 - i = 0 by omega]; rfl) rfl rfl rfl
      have hi : i < D.1.1 0 := by omega
      have hs1 : sumN (wtN (signW D.1 (D.1.1 1)) (D.1.2.1 4)) (i + 1) ≤ (i + 1) * 1000000 := sumN_le (fun j hj => (wtN_le hwg (by omega)).1)
      have hs2 : (i + 1) * 1000000 ≤ 14 * 1000000 := Nat.mul_le_mul_right _ (by omega)
      refine z_iconst hC dX6_half_35 (v := nI 2) rfl ?_
      refine z_aload_n hC dX6_half_36 rfl ?_
      refine z_getR hC dX6_half_37 (hD _) zfX6_25 rfl ?_
      refine z_iconst hC dX6_half_40 (v := nI 0) rfl ?_
      refine z_iload_n hC dX6_half_41 rfl ?_
      refine zVv hC dX6_half_42 zlX6_202 (c_X5_sum hD hwg (a := 0) (t := i) hi (by decide)) (hD _) rfl rfl rfl rfl rfl rfl ?_
      rw [sumR_N]
      refine z_nmul hC dX6_half_45  ?_
      refine z_iload_n hC dX6_half_46 rfl ?_
      refine z_nicmp_lt hC dX6_half_47 (tgt := 52) (by decide) (by omega) (by omega) (fun c47 => ?_) (fun c47 => ?_)
      · skip
        refine z_ninc hC dX6_half_52 (lo2 := [_, _, _]) rfl rfl rfl rfl ?_
        refine z_goto hC dX6_half_55 (tgt := 21) (by decide) ?_
        refine ih (i + 1) (by omega) (by omega) ?_
        rw [← hh, show D.1.1 0 - i = (D.1.1 0 - (i + 1)) + 1 by omega]
        exact (if_neg (by show ¬ _; omega)).symm
      refine z_iload_n hC dX6_half_50 rfl ?_
      refine z_iret hC dX6_half_51 ?_
      exact hE.to (by rw [← hh, show D.1.1 0 - i = (D.1.1 0 - (i + 1)) + 1 by omega]; show some (zi (oI (if (sumN (wtN (signW D.1 (D.1.1 1)) (D.1.2.1 4)) (D.1.1 0) + signH D.1 (D.1.1 1)) ≤ 2 * sumN (wtN (signW D.1 (D.1.1 1)) (D.1.2.1 4)) (i + 1) then some i else _))) = _; rw [if_pos (by omega)]; rfl) rfl rfl rfl
  exact loop21 _ 0 (Nat.lt_succ_self _) (Nat.zero_le _) rfl

theorem o_half (hD : ∀ k, S 3 k = dsh k) (hO : DOK D) (hM : DMe D I X Y) : dC mX6_half 7 [zr 3 0] (some (zi (halfS D).1)) (halfS D).2 ad S I X Y sz := ⟨_, _, Y, hM.wg, e_half_t hD hO hM⟩
theorem e_few_t (hD : ∀ k, S 3 k = dsh k) (hO : DOK D) (hM : DMe D I X Y) {v : Nat} (hv : v ≤ 1000) : zC0 mX6_few 7 [zr 3 0, zi (nI v)] (some (zi (nI (fewN (fwN D.1) (D.1.1 0) (v * sumN (fwN D.1) (D.1.1 0)) (D.1.1 0) 0 0 0)))) ad S I X Y sz (wgI D.1 (D.1.1 1) I) (wgX D.1 (D.1.1 1) X) Y := by
  refine zgo (own := RX6) (k := 0) (by decide +kernel) rfl rfl rfl (fun C hC hnm hE => ?_)
  have hm := hM.1
  have hR := hO.1
  have hn14 := hR.1
  have hwg := wg_W (s := D.1.1 1) (I := I) (X := X) hR
  have hmg := wg_R (R := D.1) (s := D.1.1 1) (r := 1) (by decide) hm
  have hwb := wbits hwg
  refine z_iload_n hC dX6_few_0 rfl ?_
  refine z_iconst hC dX6_few_1 (v := nI 0) rfl ?_
  refine z_sipush hC dX6_few_2 (v := nI 1000) rfl ?_
  refine zSv hC dX6_few_5 zlX6_58 c_X6_isWithin rfl rfl rfl rfl ?_
  refine z_ifb_ne hC dX6_few_8 (tgt := 18) (by decide) (fun c8 => ?_) (fun c8 => ?_)
  rotate_left
  · exact absurd c8 (fun z => z (iw_of (Nat.zero_le _) hv (by decide)))
  refine z_aload_n hC dX6_few_18 rfl ?_
  refine z_getR hC dX6_few_19 (hD _) zfX6_25 rfl ?_
  refine z_aload_n hC dX6_few_22 rfl ?_
  refine z_getR hC dX6_few_23 (hD _) zfX6_10 rfl ?_
  refine zV0 hC dX6_few_26 zlX6_194 (c_X5_weigh hD hm hR) (hD _) rfl rfl rfl rfl rfl rfl ?_
  refine z_aload_n hC dX6_few_29 rfl ?_
  refine z_getR hC dX6_few_30 (hD _) zfX6_25 rfl ?_
  refine z_iload_n hC dX6_few_33 rfl ?_
  refine zVv hC dX6_few_34 zlX6_208 (c_X5_fewestFor hD hwg hv) (hD _) rfl rfl rfl rfl rfl rfl ?_
  refine z_iret hC dX6_few_37 ?_
  exact hE.to (by rfl) rfl rfl rfl

theorem e_few_f (hD : ∀ k, S 3 k = dsh k) (hO : DOK D) (hM : DMe D I X Y) {x : Int32} (hx : ¬ iw x 0 1000) : zC0 mX6_few 7 [zr 3 0, zi x] (some (zi (-2))) ad S I X Y sz I (rfX 0 X) Y := by
  refine zgo (own := RX6) (k := 0) (by decide +kernel) rfl rfl rfl (fun C hC hnm hE => ?_)
  have hm := hM.1
  have hR := hO.1
  refine z_iload_n hC dX6_few_0 rfl ?_
  refine z_iconst hC dX6_few_1 (v := nI 0) rfl ?_
  refine z_sipush hC dX6_few_2 (v := nI 1000) rfl ?_
  refine zSv hC dX6_few_5 zlX6_58 c_X6_isWithin rfl rfl rfl rfl ?_
  refine z_ifb_ne hC dX6_few_8 (tgt := 18) (by decide) (fun c8 => ?_) (fun c8 => ?_)
  · exact absurd c8 hx
  refine z_aload_n hC dX6_few_11 rfl ?_
  refine z_bipush hC dX6_few_12 (v := -2) rfl ?_
  refine zVv hC dX6_few_14 zlX6_62 (c_X6_refuse hD (j := 0) (by decide) (by decide)) (hD _) rfl rfl rfl rfl rfl rfl ?_
  refine z_iret hC dX6_few_17 ?_
  exact hE.to (by rfl) rfl rfl rfl

theorem o_few (hD : ∀ k, S 3 k = dsh k) (hO : DOK D) (hM : DMe D I X Y) {x : Int32} : dC mX6_few 7 [zr 3 0, zi x] (some (zi (fewS D x).1)) (fewS D x).2 ad S I X Y sz := by
  unfold fewS
  by_cases h : iw x 0 1000
  · rw [if_pos h]
    obtain ⟨x, -, h2, rfl, e1⟩ := iw_e h (by decide) (by decide)
    rw [e1]
    exact ⟨_, _, Y, hM.wg, e_few_t hD hO hM h2⟩
  · rw [if_neg h]
    exact ⟨I, rfX 0 X, Y, hM.rf (by decide), e_few_f hD hO hM h⟩
theorem e_asks_t (hD : ∀ k, S 3 k = dsh k) (hO : DOK D) (hM : DMe D I X Y) (h0 : ¬ D.1.1 0 = 0) : zC0 mX6_asks 7 [zr 3 0] (some (zi (nI (ebN (fwN D.1) (alN D.1) (D.1.1 0 - 1))))) ad S I X Y sz (wgI D.1 (D.1.1 1) I) (wgX D.1 (D.1.1 1) X) Y := by
  refine zgo (own := RX6) (k := 0) (by decide +kernel) rfl rfl rfl (fun C hC hnm hE => ?_)
  have hm := hM.1
  have hR := hO.1
  have hn14 := hR.1
  have hwg := wg_W (s := D.1.1 1) (I := I) (X := X) hR
  have hmg := wg_R (R := D.1) (s := D.1.1 1) (r := 1) (by decide) hm
  have hwb := wbits hwg
  refine z_aload_n hC dX6_asks_0 rfl ?_
  refine z_getR hC dX6_asks_1 (hD _) zfX6_10 rfl ?_
  refine z_getR hC dX6_asks_4 (hD _) zfX6_115 rfl ?_
  refine z_getN hC dX6_asks_7 (hD _) zfX6_160 rfl hm.1.2.1 ?_
  refine z_nif_ne hC dX6_asks_10 (tgt := 20) (by decide) (by omega) (fun c10 => ?_) (fun c10 => ?_)
  rotate_left
  · exfalso; omega
  refine z_aload_n hC dX6_asks_20 rfl ?_
  refine z_getR hC dX6_asks_21 (hD _) zfX6_25 rfl ?_
  refine z_aload_n hC dX6_asks_24 rfl ?_
  refine z_getR hC dX6_asks_25 (hD _) zfX6_10 rfl ?_
  refine zV0 hC dX6_asks_28 zlX6_194 (c_X5_weigh hD hm hR) (hD _) rfl rfl rfl rfl rfl rfl ?_
  refine z_aload_n hC dX6_asks_31 rfl ?_
  refine z_getR hC dX6_asks_32 (hD _) zfX6_25 rfl ?_
  refine zVv hC dX6_asks_35 zlX6_211 (c_X5_evenestBend hD hwg (by omega)) (hD _) rfl rfl rfl rfl rfl rfl ?_
  refine z_iret hC dX6_asks_38 ?_
  exact hE.to (by rfl) rfl rfl rfl

theorem e_asks_z (hD : ∀ k, S 3 k = dsh k) (hO : DOK D) (hM : DMe D I X Y) (h0 : D.1.1 0 = 0) : zC0 mX6_asks 7 [zr 3 0] (some (zi (-5))) ad S I X Y sz I (rfX 3 X) Y := by
  refine zgo (own := RX6) (k := 0) (by decide +kernel) rfl rfl rfl (fun C hC hnm hE => ?_)
  have hm := hM.1
  have hR := hO.1
  have hn14 := hR.1
  refine z_aload_n hC dX6_asks_0 rfl ?_
  refine z_getR hC dX6_asks_1 (hD _) zfX6_10 rfl ?_
  refine z_getR hC dX6_asks_4 (hD _) zfX6_115 rfl ?_
  refine z_getN hC dX6_asks_7 (hD _) zfX6_160 rfl hm.1.2.1 ?_
  refine z_nif_ne hC dX6_asks_10 (tgt := 20) (by decide) (by omega) (fun c10 => ?_) (fun c10 => ?_)
  · exfalso; omega
  refine z_aload_n hC dX6_asks_13 rfl ?_
  refine z_bipush hC dX6_asks_14 (v := -5) rfl ?_
  refine zVv hC dX6_asks_16 zlX6_62 (c_X6_refuse hD (j := 3) (by decide) (by decide)) (hD _) rfl rfl rfl rfl rfl rfl ?_
  refine z_iret hC dX6_asks_19 ?_
  exact hE.to (by rfl) rfl rfl rfl

theorem o_asks (hD : ∀ k, S 3 k = dsh k) (hO : DOK D) (hM : DMe D I X Y) : dC mX6_asks 7 [zr 3 0] (some (zi (asksS D).1)) (asksS D).2 ad S I X Y sz := by
  unfold asksS
  by_cases h : D.1.1 0 = 0
  · rw [if_pos h]; exact ⟨_, _, Y, hM.rf (by decide), e_asks_z hD hO hM h⟩
  · rw [if_neg h]; exact ⟨_, _, Y, hM.wg, e_asks_t hD hO hM h⟩
theorem e_where_t (hD : ∀ k, S 3 k = dsh k) (hO : DOK D) (hM : DMe D I X Y) (h0 : ¬ D.1.1 0 = 0) : zC0 mX6_where 7 [zr 3 0] (some (zi (oI (gbN (fwN D.1) 0 (D.1.1 0))))) ad S I X Y sz (wgI D.1 (D.1.1 1) I) (wgX D.1 (D.1.1 1) X) Y := by
  refine zgo (own := RX6) (k := 0) (by decide +kernel) rfl rfl rfl (fun C hC hnm hE => ?_)
  have hm := hM.1
  have hR := hO.1
  have hn14 := hR.1
  have hwg := wg_W (s := D.1.1 1) (I := I) (X := X) hR
  have hmg := wg_R (R := D.1) (s := D.1.1 1) (r := 1) (by decide) hm
  have hwb := wbits hwg
  refine z_aload_n hC dX6_where_0 rfl ?_
  refine z_getR hC dX6_where_1 (hD _) zfX6_10 rfl ?_
  refine z_getR hC dX6_where_4 (hD _) zfX6_115 rfl ?_
  refine z_getN hC dX6_where_7 (hD _) zfX6_160 rfl hm.1.2.1 ?_
  refine z_nif_ne hC dX6_where_10 (tgt := 20) (by decide) (by omega) (fun c10 => ?_) (fun c10 => ?_)
  rotate_left
  · exfalso; omega
  refine z_aload_n hC dX6_where_20 rfl ?_
  refine z_getR hC dX6_where_21 (hD _) zfX6_25 rfl ?_
  refine z_aload_n hC dX6_where_24 rfl ?_
  refine z_getR hC dX6_where_25 (hD _) zfX6_10 rfl ?_
  refine zV0 hC dX6_where_28 zlX6_194 (c_X5_weigh hD hm hR) (hD _) rfl rfl rfl rfl rfl rfl ?_
  refine z_aload_n hC dX6_where_31 rfl ?_
  refine z_getR hC dX6_where_32 (hD _) zfX6_25 rfl ?_
  refine z_iconst hC dX6_where_35 (v := nI 0) rfl ?_
  refine zVv hC dX6_where_36 zlX6_217 (c_X5_greatestBut hD hwg (t := 0) (by decide)) (hD _) rfl rfl rfl rfl rfl rfl ?_
  refine z_iret hC dX6_where_39 ?_
  exact hE.to (by rfl) rfl rfl rfl

theorem e_where_z (hD : ∀ k, S 3 k = dsh k) (hO : DOK D) (hM : DMe D I X Y) (h0 : D.1.1 0 = 0) : zC0 mX6_where 7 [zr 3 0] (some (zi (-5))) ad S I X Y sz I (rfX 3 X) Y := by
  refine zgo (own := RX6) (k := 0) (by decide +kernel) rfl rfl rfl (fun C hC hnm hE => ?_)
  have hm := hM.1
  have hR := hO.1
  have hn14 := hR.1
  refine z_aload_n hC dX6_where_0 rfl ?_
  refine z_getR hC dX6_where_1 (hD _) zfX6_10 rfl ?_
  refine z_getR hC dX6_where_4 (hD _) zfX6_115 rfl ?_
  refine z_getN hC dX6_where_7 (hD _) zfX6_160 rfl hm.1.2.1 ?_
  refine z_nif_ne hC dX6_where_10 (tgt := 20) (by decide) (by omega) (fun c10 => ?_) (fun c10 => ?_)
  · exfalso; omega
  refine z_aload_n hC dX6_where_13 rfl ?_
  refine z_bipush hC dX6_where_14 (v := -5) rfl ?_
  refine zVv hC dX6_where_16 zlX6_62 (c_X6_refuse hD (j := 3) (by decide) (by decide)) (hD _) rfl rfl rfl rfl rfl rfl ?_
  refine z_iret hC dX6_where_19 ?_
  exact hE.to (by rfl) rfl rfl rfl

theorem o_where (hD : ∀ k, S 3 k = dsh k) (hO : DOK D) (hM : DMe D I X Y) : dC mX6_where 7 [zr 3 0] (some (zi (whereS D).1)) (whereS D).2 ad S I X Y sz := by
  unfold whereS
  by_cases h : D.1.1 0 = 0
  · rw [if_pos h]; exact ⟨_, _, Y, hM.rf (by decide), e_where_z hD hO hM h⟩
  · rw [if_neg h]; exact ⟨_, _, Y, hM.wg, e_where_t hD hO hM h⟩
theorem e_worst_t (hD : ∀ k, S 3 k = dsh k) (hO : DOK D) (hM : DMe D I X Y) (h0 : ¬ D.1.1 0 = 0) : zC0 mX6_worst 7 [zr 3 0] (some (zi (nI (wsN (rfall D.1 (D.1.1 3)) (D.1.1 0 - 1))))) ad S I X Y sz I X Y := by
  refine zgo (own := RX6) (k := 2) (by decide +kernel) rfl rfl rfl (fun C hC hnm hE => ?_)
  have hm := hM.1
  have hR := hO.1
  have hn14 := hR.1
  refine z_aload_n hC dX6_worst_0 rfl ?_
  refine z_getR hC dX6_worst_1 (hD _) zfX6_10 rfl ?_
  refine z_getR hC dX6_worst_4 (hD _) zfX6_115 rfl ?_
  refine z_getN hC dX6_worst_7 (hD _) zfX6_160 rfl hm.1.2.1 ?_
  refine z_nif_ne hC dX6_worst_10 (tgt := 20) (by decide) (by omega) (fun c10 => ?_) (fun c10 => ?_)
  rotate_left
  · exfalso; omega
  refine z_iconst hC dX6_worst_20 (v := nI 0) rfl ?_
  refine z_istore_n hC dX6_worst_21 (lo2 := [_, _, _]) (Nat.le_of_ble_eq_true rfl) rfl rfl ?_
  refine z_iconst hC dX6_worst_22 (v := nI 1) rfl ?_
  refine z_istore_n hC dX6_worst_23 (lo2 := [_, _, _]) (Nat.le_of_ble_eq_true rfl) rfl rfl ?_
  have loop24 : ∀ (fuel : Nat) (k : Nat), D.1.1 0 - (k + 1) < fuel → k + 1 ≤ D.1.1 0 → zL C 3 ad S 0 0 sz I X Y 24 [some (zr 3 0), some (zi (nI (wsN (rfall D.1 (D.1.1 3)) k))), some (zi (nI (k + 1)))] [] := by
    intro fuel
    induction fuel with
    | zero => intro k hfu; exact absurd hfu (Nat.not_lt_zero _)
    | succ fuel ih =>
      intro k hfu hk
      have hwk := wsN_le (f := rfall D.1 (D.1.1 3)) k
      refine z_iload_n hC dX6_worst_24 rfl ?_
      refine z_aload_n hC dX6_worst_25 rfl ?_
      refine z_getR hC dX6_worst_26 (hD _) zfX6_10 rfl ?_
      refine z_getR hC dX6_worst_29 (hD _) zfX6_115 rfl ?_
      refine z_getN hC dX6_worst_32 (hD _) zfX6_160 rfl hm.1.2.1 ?_
      refine z_nicmp_ge hC dX6_worst_35 (tgt := 79) (by decide) (by omega) (by omega) (fun c35 => ?_) (fun c35 => ?_)
      · skip
        refine z_iload_n hC dX6_worst_79 rfl ?_
        refine z_iret hC dX6_worst_80 ?_
        exact hE.to (by rw [show D.1.1 0 - 1 = k by omega]) rfl rfl rfl
      have hf1 := rfall_le (v := D.1.1 3) (i := k + 1) hR (by omega) hR.2.2.2.1.2
      have hf2 := rfall_le (v := D.1.1 3) (i := wsN (rfall D.1 (D.1.1 3)) k) hR (by omega) hR.2.2.2.1.2
      refine z_aload_n hC dX6_worst_38 rfl ?_
      refine z_getR hC dX6_worst_39 (hD _) zfX6_10 rfl ?_
      refine z_iload_n hC dX6_worst_42 rfl ?_
      refine z_aload_n hC dX6_worst_43 rfl ?_
      refine z_getR hC dX6_worst_44 (hD _) zfX6_10 rfl ?_
      refine z_getN hC dX6_worst_47 (hD _) zfX6_134 rfl hm.2.2.2.1 ?_
      refine zVv hC dX6_worst_50 zlX6_131 (c_X1_fallAt (zRd_1 hD) hm hR (i := k + 1) (by omega) hR.2.2.2.1.2) (hD _) rfl rfl rfl rfl rfl rfl ?_
      refine z_aload_n hC dX6_worst_53 rfl ?_
      refine z_getR hC dX6_worst_54 (hD _) zfX6_10 rfl ?_
      refine z_iload_n hC dX6_worst_57 rfl ?_
      refine z_aload_n hC dX6_worst_58 rfl ?_
      refine z_getR hC dX6_worst_59 (hD _) zfX6_10 rfl ?_
      refine z_getN hC dX6_worst_62 (hD _) zfX6_134 rfl hm.2.2.2.1 ?_
      refine zVv hC dX6_worst_65 zlX6_131 (c_X1_fallAt (zRd_1 hD) hm hR (i := wsN (rfall D.1 (D.1.1 3)) k) (by omega) hR.2.2.2.1.2) (hD _) rfl rfl rfl rfl rfl rfl ?_
      refine z_nicmp_le hC dX6_worst_68 (tgt := 73) (by decide) (by omega) (by omega) (fun c68 => ?_) (fun c68 => ?_)
      · skip
        refine z_ninc hC dX6_worst_73 (lo2 := [_, _, _]) rfl rfl rfl rfl ?_
        refine z_goto hC dX6_worst_76 (tgt := 24) (by decide) ?_
        refine z_sub ?_ (ih (k + 1) (by omega) (by omega))
        first | (rw [show wsN (rfall D.1 (D.1.1 3)) (k + 1) = k + 1 from if_pos (by omega)]; simp [zsub]) | (rw [show wsN (rfall D.1 (D.1.1 3)) (k + 1) = wsN (rfall D.1 (D.1.1 3)) k from if_neg (by omega)]; simp [zsub])
      refine z_iload_n hC dX6_worst_71 rfl ?_
      refine z_istore_n hC dX6_worst_72 (lo2 := [_, _, _]) (Nat.le_of_ble_eq_true rfl) rfl rfl ?_
      refine z_ninc hC dX6_worst_73 (lo2 := [_, _, _]) rfl rfl rfl rfl ?_
      refine z_goto hC dX6_worst_76 (tgt := 24) (by decide) ?_
      refine z_sub ?_ (ih (k + 1) (by omega) (by omega))
      first | (rw [show wsN (rfall D.1 (D.1.1 3)) (k + 1) = k + 1 from if_pos (by omega)]; simp [zsub]) | (rw [show wsN (rfall D.1 (D.1.1 3)) (k + 1) = wsN (rfall D.1 (D.1.1 3)) k from if_neg (by omega)]; simp [zsub])
  exact z_sub (by simp [zsub, wsN]) (loop24 _ 0 (Nat.lt_succ_self _) (by omega))

theorem e_worst_z (hD : ∀ k, S 3 k = dsh k) (hO : DOK D) (hM : DMe D I X Y) (h0 : D.1.1 0 = 0) : zC0 mX6_worst 7 [zr 3 0] (some (zi (-5))) ad S I X Y sz I (rfX 3 X) Y := by
  refine zgo (own := RX6) (k := 2) (by decide +kernel) rfl rfl rfl (fun C hC hnm hE => ?_)
  have hm := hM.1
  have hR := hO.1
  have hn14 := hR.1
  refine z_aload_n hC dX6_worst_0 rfl ?_
  refine z_getR hC dX6_worst_1 (hD _) zfX6_10 rfl ?_
  refine z_getR hC dX6_worst_4 (hD _) zfX6_115 rfl ?_
  refine z_getN hC dX6_worst_7 (hD _) zfX6_160 rfl hm.1.2.1 ?_
  refine z_nif_ne hC dX6_worst_10 (tgt := 20) (by decide) (by omega) (fun c10 => ?_) (fun c10 => ?_)
  · exfalso; omega
  refine z_aload_n hC dX6_worst_13 rfl ?_
  refine z_bipush hC dX6_worst_14 (v := -5) rfl ?_
  refine zVv hC dX6_worst_16 zlX6_62 (c_X6_refuse hD (j := 3) (by decide) (by decide)) (hD _) rfl rfl rfl rfl rfl rfl ?_
  refine z_iret hC dX6_worst_19 ?_
  exact hE.to (by rfl) rfl rfl rfl

theorem o_worst (hD : ∀ k, S 3 k = dsh k) (hO : DOK D) (hM : DMe D I X Y) : dC mX6_worst 7 [zr 3 0] (some (zi (worstS D).1)) (worstS D).2 ad S I X Y sz := by
  unfold worstS
  by_cases h : D.1.1 0 = 0
  · rw [if_pos h]; exact ⟨_, _, Y, hM.rf (by decide), e_worst_z hD hO hM h⟩
  · rw [if_neg h]; exact ⟨_, _, Y, hM, e_worst_t hD hO hM h⟩
theorem e_last_t (hD : ∀ k, S 3 k = dsh k) (hO : DOK D) (hM : DMe D I X Y)  : zC0 mX6_last 7 [zr 3 0] (some (zi (oI (lsN (wtN (signW D.1 (D.1.1 1)) (D.1.2.1 4)) (D.1.1 0))))) ad S I X Y sz (wgI D.1 (D.1.1 1) I) (wgX D.1 (D.1.1 1) X) Y := by
  refine zgo (own := RX6) (k := 1) (by decide +kernel) rfl rfl rfl (fun C hC hnm hE => ?_)
  have hm := hM.1
  have hR := hO.1
  have hn14 := hR.1
  have hwg := wg_W (s := D.1.1 1) (I := I) (X := X) hR
  have hmg := wg_R (R := D.1) (s := D.1.1 1) (r := 1) (by decide) hm
  have hwb := wbits hwg
  refine z_aload_n hC dX6_last_0 rfl ?_
  refine z_getR hC dX6_last_1 (hD _) zfX6_25 rfl ?_
  refine z_aload_n hC dX6_last_4 rfl ?_
  refine z_getR hC dX6_last_5 (hD _) zfX6_10 rfl ?_
  refine zV0 hC dX6_last_8 zlX6_194 (c_X5_weigh hD hm hR) (hD _) rfl rfl rfl rfl rfl rfl ?_
  refine z_aload_n hC dX6_last_11 rfl ?_
  refine z_getR hC dX6_last_12 (hD _) zfX6_10 rfl ?_
  refine z_getR hC dX6_last_15 (hD _) zfX6_115 rfl ?_
  refine z_getN hC dX6_last_18 (hD _) zfX6_160 rfl hmg.1.2.1 ?_
  refine z_iconst hC dX6_last_21 (v := nI 1) rfl ?_
  refine z_isub hC dX6_last_22  ?_
  refine z_istore_n hC dX6_last_23 (lo2 := [_, _]) (Nat.le_of_ble_eq_true rfl) rfl rfl ?_
  have loop24 : ∀ (fuel : Nat) (b : Nat), b < fuel → b ≤ D.1.1 0 → lsN (wtN (signW D.1 (D.1.1 1)) (D.1.2.1 4)) b = lsN (wtN (signW D.1 (D.1.1 1)) (D.1.2.1 4)) (D.1.1 0) → zL C 2 ad S 0 0 sz (wgI D.1 (D.1.1 1) I) (wgX D.1 (D.1.1 1) X) Y 24 [some (zr 3 0), some (zi (nI b - nI 1))] [] := by
    intro fuel
    induction fuel with
    | zero => intro b hfu; exact absurd hfu (Nat.not_lt_zero _)
    | succ fuel ih =>
      intro b hfu hbn hh
      refine z_iload_n hC dX6_last_24 rfl ?_
      rcases b with _ | b
      · skip
        refine z_if_lt hC dX6_last_25 (tgt := 47) (by decide) (fun c25 => ?_) (fun c25 => ?_)
        rotate_left
        · exact absurd c25 (by decide)
        refine z_iconst hC dX6_last_47 (v := -1) rfl ?_
        refine z_iret hC dX6_last_48 ?_
        exact hE.to (by rw [← hh]; rfl) rfl rfl rfl
      · skip
        rw [nI_prd]
        have hbl := (wtN_le hwg (show b < D.1.1 0 by omega)).1
        refine z_nif_lt hC dX6_last_25 ⟨47, by decide⟩ (by omega) ?_
        refine z_aload_n hC dX6_last_28 rfl ?_
        refine z_getR hC dX6_last_29 (hD _) zfX6_25 rfl ?_
        refine z_iload_n hC dX6_last_32 rfl ?_
        refine zVv hC dX6_last_33 zlX6_197 (c_X5_at hD hwg (show b < D.1.1 0 by omega)) (hD _) rfl rfl rfl rfl rfl rfl ?_
        refine z_nif_le hC dX6_last_36 (tgt := 41) (by decide) (by omega) (fun c36 => ?_) (fun c36 => ?_)
        · skip
          refine z_iinc hC dX6_last_41 (v := -1) (lo2 := [_, _]) rfl rfl (Nat.le_of_ble_eq_true rfl) rfl rfl ?_
          refine z_goto hC dX6_last_44 (tgt := 24) (by decide) ?_
          rw [nI_dec]
          refine ih b (by omega) (by omega) ?_
          rw [← hh]
          exact (if_neg (by show ¬ _; omega)).symm
        refine z_iload_n hC dX6_last_39 rfl ?_
        refine z_iret hC dX6_last_40 ?_
        exact hE.to (by rw [← hh]; show some (zi (oI (if 0 < (wtN (signW D.1 (D.1.1 1)) (D.1.2.1 4)) b then some b else _))) = _; rw [if_pos (by omega)]; rfl) rfl rfl rfl
  exact loop24 _ _ (Nat.lt_succ_self _) (Nat.le_refl _) rfl

theorem o_last (hD : ∀ k, S 3 k = dsh k) (hO : DOK D) (hM : DMe D I X Y) : dC mX6_last 7 [zr 3 0] (some (zi (lastS D).1)) (lastS D).2 ad S I X Y sz := ⟨_, _, Y, hM.wg, e_last_t hD hO hM⟩
theorem e_after_tz (hD : ∀ k, S 3 k = dsh k) (hO : DOK D) (hM : DMe D I X Y) {x u q : Nat} (hq : q ≤ 1) (hx : x < D.1.1 0) (hu : u ≤ 100) (h0 : tkP D.1 4 0 (nI x)) (h1 : tkP D.1 4 1 (nI u)) (hf : D.1.1 1 < 8) (hz : (sumN (wtN (heedW (signW D.1 (D.1.1 1)) x q (100 - u)) (D.1.2.1 4)) (D.1.1 0) + (heedH (hwN D.1) q (100 - u))) = 0) : zC0 mX6_after 7 [zr 3 0, zi (nI x), zi (nI q), zi (nI u)] (some (zi (-5))) ad S I X Y sz (up3 (wgI D.1 (D.1.1 1) I) 3 22 3 (nI (heedH (hwN D.1) q (100 - u)))) (rfX 3 (zrow 3 23 (heedW (signW D.1 (D.1.1 1)) x q (100 - u)) (D.1.1 0) (wgX D.1 (D.1.1 1) X))) Y := by
  refine zgo (own := RX6) (k := 0) (by decide +kernel) rfl rfl rfl (fun C hC hnm hE => ?_)
  have hm := hM.1
  have hR := hO.1
  have hn14 := hR.1
  have hwg := wg_W (s := D.1.1 1) (I := I) (X := X) hR
  have hmg := wg_R (R := D.1) (s := D.1.1 1) (r := 1) (by decide) hm
  have hwb := wbits hwg
  have hwh := zWm_heed (b := x) (q := q) hwg (show 100 - u ≤ 100 by omega)
  have hwc := wbits hwh
  refine z_aload_n hC dX6_after_0 rfl ?_
  refine z_iload_n hC dX6_after_1 rfl ?_
  refine z_iload_n hC dX6_after_2 rfl ?_
  refine zVv hC dX6_after_3 zlX6_150 (c_X6_isSign hD hm hR) (hD _) rfl rfl rfl rfl rfl rfl ?_
  refine z_ifb_ne hC dX6_after_6 (tgt := 16) (by decide) (fun c6 => ?_) (fun c6 => ?_)
  rotate_left
  · exact absurd c6 (fun z => z ⟨h0, h1⟩)
  refine z_aload_n hC dX6_after_16 rfl ?_
  refine z_getR hC dX6_after_17 (hD _) zfX6_10 rfl ?_
  refine z_getR hC dX6_after_20 (hD _) zfX6_153 rfl ?_
  refine zVv hC dX6_after_23 zlX6_140 (c_sfull (zRd_1 hD) hm hR) (hD _) rfl rfl rfl rfl rfl rfl ?_
  refine z_ifb_eq hC dX6_after_26 (tgt := 36) (by decide) (fun c26 => ?_) (fun c26 => ?_)
  rotate_left
  · exact absurd c26 (by omega)
  refine z_aload_n hC dX6_after_36 rfl ?_
  refine z_getR hC dX6_after_37 (hD _) zfX6_25 rfl ?_
  refine z_aload_n hC dX6_after_40 rfl ?_
  refine z_getR hC dX6_after_41 (hD _) zfX6_10 rfl ?_
  refine zV0 hC dX6_after_44 zlX6_194 (c_X5_weigh hD hm hR) (hD _) rfl rfl rfl rfl rfl rfl ?_
  refine z_aload_n hC dX6_after_47 rfl ?_
  refine z_getR hC dX6_after_48 (hD _) zfX6_25 rfl ?_
  refine z_iload_n hC dX6_after_51 rfl ?_
  refine z_iload_n hC dX6_after_52 rfl ?_
  refine z_iload_n hC dX6_after_53 rfl ?_
  refine zV0 hC dX6_after_54 zlX6_214 (c_X5_heed hD hwg (by omega) hq hu) (hD _) rfl rfl rfl rfl rfl rfl ?_
  refine z_aload_n hC dX6_after_57 rfl ?_
  refine z_aload_n hC dX6_after_58 rfl ?_
  refine z_getR hC dX6_after_59 (hD _) zfX6_25 rfl ?_
  refine z_iconst hC dX6_after_62 (v := -1) rfl ?_
  refine zVv hC dX6_after_63 zlX6_197 (c_X5_atNone hD hwh) (hD _) rfl rfl rfl rfl rfl rfl ?_
  refine zVv hC dX6_after_66 zlX6_199 (c_tho_0 hD hwh hz) (hD _) rfl rfl rfl rfl rfl rfl ?_
  refine z_iret hC dX6_after_69 ?_
  exact hE.to (by rfl) rfl rfl rfl

theorem e_after_tt (hD : ∀ k, S 3 k = dsh k) (hO : DOK D) (hM : DMe D I X Y) {x u q : Nat} (hq : q ≤ 1) (hx : x < D.1.1 0) (hu : u ≤ 100) (h0 : tkP D.1 4 0 (nI x)) (h1 : tkP D.1 4 1 (nI u)) (hf : D.1.1 1 < 8) (hz : ¬ (sumN (wtN (heedW (signW D.1 (D.1.1 1)) x q (100 - u)) (D.1.2.1 4)) (D.1.1 0) + (heedH (hwN D.1) q (100 - u))) = 0) : zC0 mX6_after 7 [zr 3 0, zi (nI x), zi (nI q), zi (nI u)] (some (zi (nI (1000 * (heedH (hwN D.1) q (100 - u)) / (sumN (wtN (heedW (signW D.1 (D.1.1 1)) x q (100 - u)) (D.1.2.1 4)) (D.1.1 0) + (heedH (hwN D.1) q (100 - u))))))) ad S I X Y sz (up3 (wgI D.1 (D.1.1 1) I) 3 22 3 (nI (heedH (hwN D.1) q (100 - u)))) (zrow 3 23 (heedW (signW D.1 (D.1.1 1)) x q (100 - u)) (D.1.1 0) (wgX D.1 (D.1.1 1) X)) Y := by
  refine zgo (own := RX6) (k := 0) (by decide +kernel) rfl rfl rfl (fun C hC hnm hE => ?_)
  have hm := hM.1
  have hR := hO.1
  have hn14 := hR.1
  have hwg := wg_W (s := D.1.1 1) (I := I) (X := X) hR
  have hmg := wg_R (R := D.1) (s := D.1.1 1) (r := 1) (by decide) hm
  have hwb := wbits hwg
  have hwh := zWm_heed (b := x) (q := q) hwg (show 100 - u ≤ 100 by omega)
  have hwc := wbits hwh
  refine z_aload_n hC dX6_after_0 rfl ?_
  refine z_iload_n hC dX6_after_1 rfl ?_
  refine z_iload_n hC dX6_after_2 rfl ?_
  refine zVv hC dX6_after_3 zlX6_150 (c_X6_isSign hD hm hR) (hD _) rfl rfl rfl rfl rfl rfl ?_
  refine z_ifb_ne hC dX6_after_6 (tgt := 16) (by decide) (fun c6 => ?_) (fun c6 => ?_)
  rotate_left
  · exact absurd c6 (fun z => z ⟨h0, h1⟩)
  refine z_aload_n hC dX6_after_16 rfl ?_
  refine z_getR hC dX6_after_17 (hD _) zfX6_10 rfl ?_
  refine z_getR hC dX6_after_20 (hD _) zfX6_153 rfl ?_
  refine zVv hC dX6_after_23 zlX6_140 (c_sfull (zRd_1 hD) hm hR) (hD _) rfl rfl rfl rfl rfl rfl ?_
  refine z_ifb_eq hC dX6_after_26 (tgt := 36) (by decide) (fun c26 => ?_) (fun c26 => ?_)
  rotate_left
  · exact absurd c26 (by omega)
  refine z_aload_n hC dX6_after_36 rfl ?_
  refine z_getR hC dX6_after_37 (hD _) zfX6_25 rfl ?_
  refine z_aload_n hC dX6_after_40 rfl ?_
  refine z_getR hC dX6_after_41 (hD _) zfX6_10 rfl ?_
  refine zV0 hC dX6_after_44 zlX6_194 (c_X5_weigh hD hm hR) (hD _) rfl rfl rfl rfl rfl rfl ?_
  refine z_aload_n hC dX6_after_47 rfl ?_
  refine z_getR hC dX6_after_48 (hD _) zfX6_25 rfl ?_
  refine z_iload_n hC dX6_after_51 rfl ?_
  refine z_iload_n hC dX6_after_52 rfl ?_
  refine z_iload_n hC dX6_after_53 rfl ?_
  refine zV0 hC dX6_after_54 zlX6_214 (c_X5_heed hD hwg (by omega) hq hu) (hD _) rfl rfl rfl rfl rfl rfl ?_
  refine z_aload_n hC dX6_after_57 rfl ?_
  refine z_aload_n hC dX6_after_58 rfl ?_
  refine z_getR hC dX6_after_59 (hD _) zfX6_25 rfl ?_
  refine z_iconst hC dX6_after_62 (v := -1) rfl ?_
  refine zVv hC dX6_after_63 zlX6_197 (c_X5_atNone hD hwh) (hD _) rfl rfl rfl rfl rfl rfl ?_
  refine zVv hC dX6_after_66 zlX6_199 (c_tho hD hwh (by omega) hz) (hD _) rfl rfl rfl rfl rfl rfl ?_
  refine z_iret hC dX6_after_69 ?_
  exact hE.to (by rfl) rfl rfl rfl

theorem e_after_o (hD : ∀ k, S 3 k = dsh k) (hO : DOK D) (hM : DMe D I X Y) {x u : Int32} {q : Nat} (h0 : tkP D.1 4 0 x) (h1 : tkP D.1 4 1 u) (hf : D.1.1 1 = 8) : zC0 mX6_after 7 [zr 3 0, zi x, zi (nI q), zi u] (some (zi (-6))) ad S I X Y sz I (rfX 4 X) Y := by
  refine zgo (own := RX6) (k := 0) (by decide +kernel) rfl rfl rfl (fun C hC hnm hE => ?_)
  have hm := hM.1
  have hR := hO.1
  refine z_aload_n hC dX6_after_0 rfl ?_
  refine z_iload_n hC dX6_after_1 rfl ?_
  refine z_iload_n hC dX6_after_2 rfl ?_
  refine zVv hC dX6_after_3 zlX6_150 (c_X6_isSign hD hm hR) (hD _) rfl rfl rfl rfl rfl rfl ?_
  refine z_ifb_ne hC dX6_after_6 (tgt := 16) (by decide) (fun c6 => ?_) (fun c6 => ?_)
  rotate_left
  · exact absurd c6 (fun z => z ⟨h0, h1⟩)
  refine z_aload_n hC dX6_after_16 rfl ?_
  refine z_getR hC dX6_after_17 (hD _) zfX6_10 rfl ?_
  refine z_getR hC dX6_after_20 (hD _) zfX6_153 rfl ?_
  refine zVv hC dX6_after_23 zlX6_140 (c_sfull (zRd_1 hD) hm hR) (hD _) rfl rfl rfl rfl rfl rfl ?_
  refine z_ifb_eq hC dX6_after_26 (tgt := 36) (by decide) (fun c26 => ?_) (fun c26 => ?_)
  · exact absurd c26 (fun z => z hf)
  refine z_aload_n hC dX6_after_29 rfl ?_
  refine z_bipush hC dX6_after_30 (v := -6) rfl ?_
  refine zVv hC dX6_after_32 zlX6_62 (c_X6_refuse hD (j := 4) (by decide) (by decide)) (hD _) rfl rfl rfl rfl rfl rfl ?_
  refine z_iret hC dX6_after_35 ?_
  exact hE.to (by rfl) rfl rfl rfl

theorem e_after_f (hD : ∀ k, S 3 k = dsh k) (hO : DOK D) (hM : DMe D I X Y) {x u : Int32} {q : Nat} (hx : ¬ (tkP D.1 4 0 x ∧ tkP D.1 4 1 u)) : zC0 mX6_after 7 [zr 3 0, zi x, zi (nI q), zi u] (some (zi (-2))) ad S I X Y sz I (rfX 0 X) Y := by
  refine zgo (own := RX6) (k := 0) (by decide +kernel) rfl rfl rfl (fun C hC hnm hE => ?_)
  have hm := hM.1
  have hR := hO.1
  refine z_aload_n hC dX6_after_0 rfl ?_
  refine z_iload_n hC dX6_after_1 rfl ?_
  refine z_iload_n hC dX6_after_2 rfl ?_
  refine zVv hC dX6_after_3 zlX6_150 (c_X6_isSign hD hm hR) (hD _) rfl rfl rfl rfl rfl rfl ?_
  refine z_ifb_ne hC dX6_after_6 (tgt := 16) (by decide) (fun c6 => ?_) (fun c6 => ?_)
  · exact absurd c6 hx
  refine z_aload_n hC dX6_after_9 rfl ?_
  refine z_bipush hC dX6_after_10 (v := -2) rfl ?_
  refine zVv hC dX6_after_12 zlX6_62 (c_X6_refuse hD (j := 0) (by decide) (by decide)) (hD _) rfl rfl rfl rfl rfl rfl ?_
  refine z_iret hC dX6_after_15 ?_
  exact hE.to (by rfl) rfl rfl rfl

theorem DMe.heed {D : DS} {I X : zI} {Y : zY} (h : DMe D I X Y) {v : Int32} {f : Nat → Nat} {n : Nat} : DMe D (up3 I 3 22 3 v) (zrow 3 23 f n X) Y := h.frame (fun k j hh => up3_ne (by omega)) (fun k j hh => zrow_ne (by omega))
theorem o_after (hD : ∀ k, S 3 k = dsh k) (hO : DOK D) (hM : DMe D I X Y) {x u : Int32} {q : Nat} (hq : q ≤ 1) : dC mX6_after 7 [zr 3 0, zi x, zi (nI q), zi u] (some (zi (afterS D x q u).1)) (afterS D x q u).2 ad S I X Y sz := by
  have hn14 := hO.1.2.1
  unfold afterS
  by_cases h : tkP D.1 4 0 x ∧ tkP D.1 4 1 u
  · rw [if_pos h]
    by_cases hf : D.1.1 1 = 8
    · rw [if_pos hf]
      exact ⟨I, rfX 4 X, Y, hM.rf (by decide), e_after_o hD hO hM h.1 h.2 hf⟩
    · rw [if_neg hf]
      obtain ⟨h0, h1⟩ := h
      obtain ⟨x, rfl, _, k0, e0⟩ := tkP_e hO.1 (by decide) (by decide) h0
      obtain ⟨u, rfl, _, k1, e1⟩ := tkP_e hO.1 (by decide) (by decide) h1
      have k0 := k0.2
      have k1 := k1.2
      rw [hiN_L (by decide)] at k0
      rw [hiN_n (k := 101) (by decide) (by decide)] at k1
      rw [e0, e1]
      unfold thoS
      split
      · next hz => exact ⟨_, _, Y, (hM.wg.heed).rf (by decide), e_after_tz hD hO hM hq k0 (by omega) h0 h1 (by omega) hz⟩
      · next hz => exact ⟨_, _, Y, hM.wg.heed, e_after_tt hD hO hM hq k0 (by omega) h0 h1 (by omega) hz⟩
  · rw [if_neg h]
    exact ⟨I, rfX 0 X, Y, hM.rf (by decide), e_after_f hD hO hM h⟩
end
