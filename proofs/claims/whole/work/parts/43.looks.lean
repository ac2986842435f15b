/-! OnTheRoof: LOOKS -/
def secondsS (D : DS) (x y : Int32) : Int32 × DS := if inB x (D.1.1 0) ∧ iw y 1 3 then (nI (secN (D.1.2.1 2 (nn x)) (nn y)), D) else bad 0 D
def foundS (D : DS) (x y : Int32) : Int32 × DS := if inB x (D.1.1 0) ∧ iw y 1 3 then (nI (fbN (fwN D.1) (nn x) (nn y)), D) else bad 0 D
abbrev nxF (R : RS) (m : Nat → Nat) : Option Nat := (nxS (rateN (wtN (signW R (R.1 1)) m) (R.2.1 2)) (3 * R.1 0)).2
abbrev vnF (R : RS) (k : Nat) : Nat → Nat := vnM (signW R (R.1 1)) (R.2.1 2) (R.1 0) (R.2.1 4) k
def nextS' (D : DS) : Int32 × DS := (oI (nxF D.1 (D.1.2.1 4)), D)
def orderS (D : DS) (x : Int32) : Int32 × DS := if iw x 0 40 then (oI (nxF D.1 (vnF D.1 (nn x))), D) else bad 0 D
def vainS (D : DS) (x : Int32) : Int32 × DS := if iw x 0 40 then (nI (sumN (wtN (signW D.1 (D.1.1 1)) (vnF D.1 (nn x))) (D.1.1 0) + hwN D.1), D) else bad 0 D
def othersS (D : DS) (x : Int32) : Int32 × DS := if iw x 0 300 then (nI (sumN (fun i => fwN D.1 i - lftN (fwN D.1 i) (D.1.2.1 3 i) (nn x)) (D.1.1 0)), D) else bad 0 D
abbrev plF (R : RS) : Nat → Nat → Nat × Nat := plN (cstN R) (gnN (signW R (R.1 1)) (R.2.1 4)) (R.1 0)
def bestS (D : DS) (x y : Int32) : Int32 × DS := if iw x 0 9000 ∧ (y = -1 ∨ inB y (D.1.1 0)) then (if y = -1 then nI (plF D.1 (D.1.1 0) (nn x / 10)).1 else nI ((plF D.1 (D.1.1 0) (nn x / 10)).2 / 2 ^ (2 * nn y) % 4), D) else bad 0 D
def soF (f : Nat → Nat) (v : Nat) : Nat → Nat → Option Nat
  | 0, _ => none
  | k + 1, t => if v ≤ f t then some (10 * t) else soF f v k (t + 1)
def soonestS (D : DS) (x : Int32) : Int32 × DS := if iw x 0 1000000 then (oI (soF (fun t => (plF D.1 (D.1.1 0) t).1) (nn x) 901 0), D) else bad 0 D
theorem DMe.rowm {D : DS} {I X : zI} {Y : zY} (h : DMe D I X Y) {f : Nat → Nat} {n : Nat} : DMe D I (zrow 3 24 f n X) Y := h.frame (fun k j hh => rfl) (fun k j hh => zrow_ne (by omega))
theorem DMe.plX {D : DS} {I X : zI} {Y : zY} (h : DMe D I X Y) {c g : Nat → Nat → Nat} {n q k : Nat} : DMe D I (plX c g n q X k) Y := h.frame (fun k j hh => rfl) (fun k j hh => plX_ne (by omega) _)

section
variable {ad : zA} {S : zSh} {I X : zI} {Y : zY} {sz : Nat} {D : DS}

theorem e_seconds_t (hD : ∀ k, S 3 k = dsh k) (hO : DOK D) (hM : DMe D I X Y) {b v : Nat} (hb : b < D.1.1 0) (h1 : 1 ≤ v) (h3 : v ≤ 3) : zC0 mX6_seconds 4 [zr 3 0, zi (nI b), zi (nI v)] (some (zi (nI (secN (D.1.2.1 2 b) v)))) ad S I X Y sz I X Y := by
  refine zgo (own := RX6) (k := 0) (by decide +kernel) rfl rfl rfl (fun C hC hnm hE => ?_)
  have hm := hM.1
  have hR := hO.1
  have hn14 := hR.1
  refine z_aload_n hC dX6_seconds_0 rfl ?_
  refine z_iload_n hC dX6_seconds_1 rfl ?_
  refine z_iload_n hC dX6_seconds_2 rfl ?_
  refine zVv hC dX6_seconds_3 zlX6_220 (c_X6_isLookAt hD hm hR) (hD _) rfl rfl rfl rfl rfl rfl ?_
  refine z_ifb_ne hC dX6_seconds_6 (tgt := 16) (by decide) (fun c6 => ?_) (fun c6 => ?_)
  rotate_left
  · exact absurd c6 (fun z => z ⟨inB_of hb (by omega), iw_of h1 h3 (by decide)⟩)
  refine z_aload_n hC dX6_seconds_16 rfl ?_
  refine z_getR hC dX6_seconds_17 (hD _) zfX6_10 rfl ?_
  refine z_iload_n hC dX6_seconds_20 rfl ?_
  refine z_iload_n hC dX6_seconds_21 rfl ?_
  refine zVv hC dX6_seconds_22 zlX6_223 (c_X1_secondsOf (zRd_1 hD) hm hR hb h3) (hD _) rfl rfl rfl rfl rfl rfl ?_
  refine z_iret hC dX6_seconds_25 ?_
  exact hE.to (by rfl) rfl rfl rfl

theorem e_found_t (hD : ∀ k, S 3 k = dsh k) (hO : DOK D) (hM : DMe D I X Y) {b v : Nat} (hb : b < D.1.1 0) (h1 : 1 ≤ v) (h3 : v ≤ 3) : zC0 mX6_found 7 [zr 3 0, zi (nI b), zi (nI v)] (some (zi (nI (fbN (fwN D.1) b v)))) ad S I X Y sz (wgI D.1 (D.1.1 1) I) (wgX D.1 (D.1.1 1) X) Y := by
  refine zgo (own := RX6) (k := 0) (by decide +kernel) rfl rfl rfl (fun C hC hnm hE => ?_)
  have hm := hM.1
  have hR := hO.1
  have hn14 := hR.1
  have hwg := wg_W (s := D.1.1 1) (I := I) (X := X) hR
  have hmg := wg_R (R := D.1) (s := D.1.1 1) (r := 1) (by decide) hm
  have hwb := wbits hwg
  refine z_aload_n hC dX6_found_0 rfl ?_
  refine z_iload_n hC dX6_found_1 rfl ?_
  refine z_iload_n hC dX6_found_2 rfl ?_
  refine zVv hC dX6_found_3 zlX6_220 (c_X6_isLookAt hD hm hR) (hD _) rfl rfl rfl rfl rfl rfl ?_
  refine z_ifb_ne hC dX6_found_6 (tgt := 16) (by decide) (fun c6 => ?_) (fun c6 => ?_)
  rotate_left
  · exact absurd c6 (fun z => z ⟨inB_of hb (by omega), iw_of h1 h3 (by decide)⟩)
  refine z_aload_n hC dX6_found_16 rfl ?_
  refine z_getR hC dX6_found_17 (hD _) zfX6_25 rfl ?_
  refine z_aload_n hC dX6_found_20 rfl ?_
  refine z_getR hC dX6_found_21 (hD _) zfX6_10 rfl ?_
  refine zV0 hC dX6_found_24 zlX6_194 (c_X5_weigh hD hm hR) (hD _) rfl rfl rfl rfl rfl rfl ?_
  refine z_aload_n hC dX6_found_27 rfl ?_
  refine z_getR hC dX6_found_28 (hD _) zfX6_25 rfl ?_
  refine z_iload_n hC dX6_found_31 rfl ?_
  refine z_iload_n hC dX6_found_32 rfl ?_
  refine zVv hC dX6_found_33 zlX6_226 (c_X5_foundBy hD hwg hb h3) (hD _) rfl rfl rfl rfl rfl rfl ?_
  refine z_iret hC dX6_found_36 ?_
  exact hE.to (by rfl) rfl rfl rfl

theorem e_seconds_f (hD : ∀ k, S 3 k = dsh k) (hO : DOK D) (hM : DMe D I X Y) {x y : Int32} (hx : ¬ (inB x (D.1.1 0) ∧ iw y 1 3)) : zC0 mX6_seconds 4 [zr 3 0, zi x, zi y] (some (zi (-2))) ad S I X Y sz I (rfX 0 X) Y := by
  refine zgo (own := RX6) (k := 0) (by decide +kernel) rfl rfl rfl (fun C hC hnm hE => ?_)
  have hm := hM.1
  have hR := hO.1
  refine z_aload_n hC dX6_seconds_0 rfl ?_
  refine z_iload_n hC dX6_seconds_1 rfl ?_
  refine z_iload_n hC dX6_seconds_2 rfl ?_
  refine zVv hC dX6_seconds_3 zlX6_220 (c_X6_isLookAt hD hm hR) (hD _) rfl rfl rfl rfl rfl rfl ?_
  refine z_ifb_ne hC dX6_seconds_6 (tgt := 16) (by decide) (fun c6 => ?_) (fun c6 => ?_)
  · exact absurd c6 hx
  refine z_aload_n hC dX6_seconds_9 rfl ?_
  refine z_bipush hC dX6_seconds_10 (v := -2) rfl ?_
  refine zVv hC dX6_seconds_12 zlX6_62 (c_X6_refuse hD (j := 0) (by decide) (by decide)) (hD _) rfl rfl rfl rfl rfl rfl ?_
  refine z_iret hC dX6_seconds_15 ?_
  exact hE.to (by rfl) rfl rfl rfl

theorem o_seconds (hD : ∀ k, S 3 k = dsh k) (hO : DOK D) (hM : DMe D I X Y) {x y : Int32} : dC mX6_seconds 4 [zr 3 0, zi x, zi y] (some (zi (secondsS D x y).1)) (secondsS D x y).2 ad S I X Y sz := by
  have hn14 := hO.1.1
  unfold secondsS
  by_cases h : inB x (D.1.1 0) ∧ iw y 1 3
  · rw [if_pos h]
    obtain ⟨b, hb, rfl, e1⟩ := inB_e h.1 (by omega)
    obtain ⟨v, h1, h9, rfl, e2⟩ := iw_e h.2 (by decide) (by decide)
    rw [e1, e2]
    exact ⟨_, _, Y, hM, e_seconds_t hD hO hM hb h1 h9⟩
  · rw [if_neg h]
    exact ⟨I, rfX 0 X, Y, hM.rf (by decide), e_seconds_f hD hO hM h⟩
theorem e_found_f (hD : ∀ k, S 3 k = dsh k) (hO : DOK D) (hM : DMe D I X Y) {x y : Int32} (hx : ¬ (inB x (D.1.1 0) ∧ iw y 1 3)) : zC0 mX6_found 7 [zr 3 0, zi x, zi y] (some (zi (-2))) ad S I X Y sz I (rfX 0 X) Y := by
  refine zgo (own := RX6) (k := 0) (by decide +kernel) rfl rfl rfl (fun C hC hnm hE => ?_)
  have hm := hM.1
  have hR := hO.1
  refine z_aload_n hC dX6_found_0 rfl ?_
  refine z_iload_n hC dX6_found_1 rfl ?_
  refine z_iload_n hC dX6_found_2 rfl ?_
  refine zVv hC dX6_found_3 zlX6_220 (c_X6_isLookAt hD hm hR) (hD _) rfl rfl rfl rfl rfl rfl ?_
  refine z_ifb_ne hC dX6_found_6 (tgt := 16) (by decide) (fun c6 => ?_) (fun c6 => ?_)
  · exact absurd c6 hx
  refine z_aload_n hC dX6_found_9 rfl ?_
  refine z_bipush hC dX6_found_10 (v := -2) rfl ?_
  refine zVv hC dX6_found_12 zlX6_62 (c_X6_refuse hD (j := 0) (by decide) (by decide)) (hD _) rfl rfl rfl rfl rfl rfl ?_
  refine z_iret hC dX6_found_15 ?_
  exact hE.to (by rfl) rfl rfl rfl

theorem o_found (hD : ∀ k, S 3 k = dsh k) (hO : DOK D) (hM : DMe D I X Y) {x y : Int32} : dC mX6_found 7 [zr 3 0, zi x, zi y] (some (zi (foundS D x y).1)) (foundS D x y).2 ad S I X Y sz := by
  have hn14 := hO.1.1
  unfold foundS
  by_cases h : inB x (D.1.1 0) ∧ iw y 1 3
  · rw [if_pos h]
    obtain ⟨b, hb, rfl, e1⟩ := inB_e h.1 (by omega)
    obtain ⟨v, h1, h9, rfl, e2⟩ := iw_e h.2 (by decide) (by decide)
    rw [e1, e2]
    exact ⟨_, _, Y, hM.wg, e_found_t hD hO hM hb h1 h9⟩
  · rw [if_neg h]
    exact ⟨I, rfX 0 X, Y, hM.rf (by decide), e_found_f hD hO hM h⟩
theorem e_next_t (hD : ∀ k, S 3 k = dsh k) (hO : DOK D) (hM : DMe D I X Y)  : zC0 mX6_next 7 [zr 3 0] (some (zi (oI (nxF D.1 (D.1.2.1 4))))) ad S I X Y sz (wgI D.1 (D.1.1 1) I) (wgX D.1 (D.1.1 1) X) Y := by
  refine zgo (own := RX6) (k := 0) (by decide +kernel) rfl rfl rfl (fun C hC hnm hE => ?_)
  have hm := hM.1
  have hR := hO.1
  have hn14 := hR.1
  have hwg := wg_W (s := D.1.1 1) (I := I) (X := X) hR
  have hmg := wg_R (R := D.1) (s := D.1.1 1) (r := 1) (by decide) hm
  have hwb := wbits hwg
  refine z_aload_n hC dX6_next_0 rfl ?_
  refine z_getR hC dX6_next_1 (hD _) zfX6_25 rfl ?_
  refine z_aload_n hC dX6_next_4 rfl ?_
  refine z_getR hC dX6_next_5 (hD _) zfX6_10 rfl ?_
  refine zV0 hC dX6_next_8 zlX6_194 (c_X5_weigh hD hm hR) (hD _) rfl rfl rfl rfl rfl rfl ?_
  refine z_aload_n hC dX6_next_11 rfl ?_
  refine z_getR hC dX6_next_12 (hD _) zfX6_25 rfl ?_
  refine z_aload_n hC dX6_next_15 rfl ?_
  refine z_getR hC dX6_next_16 (hD _) zfX6_10 rfl ?_
  refine zVv hC dX6_next_19 zlX6_239 (c_X5_nextLook hD hwg hmg hR rfl) (hD _) rfl rfl rfl rfl rfl rfl ?_
  refine z_iret hC dX6_next_22 ?_
  exact hE.to (by rfl) rfl rfl rfl

theorem o_next (hD : ∀ k, S 3 k = dsh k) (hO : DOK D) (hM : DMe D I X Y) : dC mX6_next 7 [zr 3 0] (some (zi (nextS' D).1)) (nextS' D).2 ad S I X Y sz := ⟨_, _, Y, hM.wg, e_next_t hD hO hM⟩
theorem e_order_t (hD : ∀ k, S 3 k = dsh k) (hO : DOK D) (hM : DMe D I X Y) {k : Nat} (hk : k ≤ 40) : zC0 mX6_order 8 [zr 3 0, zi (nI k)] (some (zi (oI (nxF D.1 (vnF D.1 k))))) ad S I X Y sz (wgI D.1 (D.1.1 1) I) (zrow 3 24 (vnF D.1 k) (D.1.1 0) (wgX D.1 (D.1.1 1) X)) Y := by
  refine zgo (own := RX6) (k := 0) (by decide +kernel) rfl rfl rfl (fun C hC hnm hE => ?_)
  have hm := hM.1
  have hR := hO.1
  have hn14 := hR.1
  have hwg := wg_W (s := D.1.1 1) (I := I) (X := X) hR
  have hmg := wg_R (R := D.1) (s := D.1.1 1) (r := 1) (by decide) hm
  have hwb := wbits hwg
  have hvl := vnM_le (w := signW D.1 (D.1.1 1)) (y := D.1.2.1 2) (fun i hi => (hwg.2.2.2.2.2.2 i hi).2) k
  have hwv : zWm (D.1.1 0) (signW D.1 (D.1.1 1)) (vnF D.1 k) (signH D.1 (D.1.1 1)) (wgI D.1 (D.1.1 1) I) (zrow 3 24 (vnF D.1 k) (D.1.1 0) (wgX D.1 (D.1.1 1) X)) := zWm_miss hwg hvl
  have hmv : zRm 1 D.1 (wgI D.1 (D.1.1 1) I) (zrow 3 24 (vnF D.1 k) (D.1.1 0) (wgX D.1 (D.1.1 1) X)) := hmg.frame (fun _ _ _ _ => rfl) (fun k1 j h1 h2 => zrow_ne (by omega))
  refine z_iload_n hC dX6_order_0 rfl ?_
  refine z_iconst hC dX6_order_1 (v := nI 0) rfl ?_
  refine z_bipush hC dX6_order_2 (v := nI 40) rfl ?_
  refine zSv hC dX6_order_4 zlX6_58 c_X6_isWithin rfl rfl rfl rfl ?_
  refine z_ifb_ne hC dX6_order_7 (tgt := 17) (by decide) (fun c7 => ?_) (fun c7 => ?_)
  rotate_left
  · exact absurd c7 (fun z => z (iw_of (Nat.zero_le _) hk (by decide)))
  refine z_aload_n hC dX6_order_17 rfl ?_
  refine z_getR hC dX6_order_18 (hD _) zfX6_25 rfl ?_
  refine z_aload_n hC dX6_order_21 rfl ?_
  refine z_getR hC dX6_order_22 (hD _) zfX6_10 rfl ?_
  refine zV0 hC dX6_order_25 zlX6_194 (c_X5_weigh hD hm hR) (hD _) rfl rfl rfl rfl rfl rfl ?_
  refine z_aload_n hC dX6_order_28 rfl ?_
  refine z_getR hC dX6_order_29 (hD _) zfX6_25 rfl ?_
  refine z_aload_n hC dX6_order_32 rfl ?_
  refine z_getR hC dX6_order_33 (hD _) zfX6_10 rfl ?_
  refine z_iload_n hC dX6_order_36 rfl ?_
  refine zV0 hC dX6_order_37 zlX6_243 (c_X5_lookOnInVain hD hwg hmg hR rfl hk) (hD _) rfl rfl rfl rfl rfl rfl ?_
  refine z_aload_n hC dX6_order_40 rfl ?_
  refine z_getR hC dX6_order_41 (hD _) zfX6_25 rfl ?_
  refine z_aload_n hC dX6_order_44 rfl ?_
  refine z_getR hC dX6_order_45 (hD _) zfX6_10 rfl ?_
  refine zVv hC dX6_order_48 zlX6_239 (c_X5_nextLook hD hwv hmv hR rfl) (hD _) rfl rfl rfl rfl rfl rfl ?_
  refine z_iret hC dX6_order_51 ?_
  exact hE.to (by rfl) rfl rfl rfl

theorem e_order_f (hD : ∀ k, S 3 k = dsh k) (hO : DOK D) (hM : DMe D I X Y) {x : Int32} (hx : ¬ iw x 0 40) : zC0 mX6_order 8 [zr 3 0, zi x] (some (zi (-2))) ad S I X Y sz I (rfX 0 X) Y := by
  refine zgo (own := RX6) (k := 0) (by decide +kernel) rfl rfl rfl (fun C hC hnm hE => ?_)
  have hm := hM.1
  have hR := hO.1
  refine z_iload_n hC dX6_order_0 rfl ?_
  refine z_iconst hC dX6_order_1 (v := nI 0) rfl ?_
  refine z_bipush hC dX6_order_2 (v := nI 40) rfl ?_
  refine zSv hC dX6_order_4 zlX6_58 c_X6_isWithin rfl rfl rfl rfl ?_
  refine z_ifb_ne hC dX6_order_7 (tgt := 17) (by decide) (fun c7 => ?_) (fun c7 => ?_)
  · exact absurd c7 hx
  refine z_aload_n hC dX6_order_10 rfl ?_
  refine z_bipush hC dX6_order_11 (v := -2) rfl ?_
  refine zVv hC dX6_order_13 zlX6_62 (c_X6_refuse hD (j := 0) (by decide) (by decide)) (hD _) rfl rfl rfl rfl rfl rfl ?_
  refine z_iret hC dX6_order_16 ?_
  exact hE.to (by rfl) rfl rfl rfl

theorem o_order (hD : ∀ k, S 3 k = dsh k) (hO : DOK D) (hM : DMe D I X Y) {x : Int32} : dC mX6_order 8 [zr 3 0, zi x] (some (zi (orderS D x).1)) (orderS D x).2 ad S I X Y sz := by
  unfold orderS
  by_cases h : iw x 0 40
  · rw [if_pos h]
    obtain ⟨x, -, h2, rfl, e1⟩ := iw_e h (by decide) (by decide)
    rw [e1]
    exact ⟨_, _, Y, hM.wg.rowm, e_order_t hD hO hM h2⟩
  · rw [if_neg h]
    exact ⟨I, rfX 0 X, Y, hM.rf (by decide), e_order_f hD hO hM h⟩
theorem e_vain_t (hD : ∀ k, S 3 k = dsh k) (hO : DOK D) (hM : DMe D I X Y) {k : Nat} (hk : k ≤ 40) : zC0 mX6_vain 8 [zr 3 0, zi (nI k)] (some (zi (nI (sumN (wtN (signW D.1 (D.1.1 1)) (vnF D.1 k)) (D.1.1 0) + hwN D.1)))) ad S I X Y sz (wgI D.1 (D.1.1 1) I) (zrow 3 24 (vnF D.1 k) (D.1.1 0) (wgX D.1 (D.1.1 1) X)) Y := by
  refine zgo (own := RX6) (k := 0) (by decide +kernel) rfl rfl rfl (fun C hC hnm hE => ?_)
  have hm := hM.1
  have hR := hO.1
  have hn14 := hR.1
  have hwg := wg_W (s := D.1.1 1) (I := I) (X := X) hR
  have hmg := wg_R (R := D.1) (s := D.1.1 1) (r := 1) (by decide) hm
  have hwb := wbits hwg
  have hvl := vnM_le (w := signW D.1 (D.1.1 1)) (y := D.1.2.1 2) (fun i hi => (hwg.2.2.2.2.2.2 i hi).2) k
  have hwv : zWm (D.1.1 0) (signW D.1 (D.1.1 1)) (vnF D.1 k) (signH D.1 (D.1.1 1)) (wgI D.1 (D.1.1 1) I) (zrow 3 24 (vnF D.1 k) (D.1.1 0) (wgX D.1 (D.1.1 1) X)) := zWm_miss hwg hvl
  have hmv : zRm 1 D.1 (wgI D.1 (D.1.1 1) I) (zrow 3 24 (vnF D.1 k) (D.1.1 0) (wgX D.1 (D.1.1 1) X)) := hmg.frame (fun _ _ _ _ => rfl) (fun k1 j h1 h2 => zrow_ne (by omega))
  refine z_iload_n hC dX6_vain_0 rfl ?_
  refine z_iconst hC dX6_vain_1 (v := nI 0) rfl ?_
  refine z_bipush hC dX6_vain_2 (v := nI 40) rfl ?_
  refine zSv hC dX6_vain_4 zlX6_58 c_X6_isWithin rfl rfl rfl rfl ?_
  refine z_ifb_ne hC dX6_vain_7 (tgt := 17) (by decide) (fun c7 => ?_) (fun c7 => ?_)
  rotate_left
  · exact absurd c7 (fun z => z (iw_of (Nat.zero_le _) hk (by decide)))
  refine z_aload_n hC dX6_vain_17 rfl ?_
  refine z_getR hC dX6_vain_18 (hD _) zfX6_25 rfl ?_
  refine z_aload_n hC dX6_vain_21 rfl ?_
  refine z_getR hC dX6_vain_22 (hD _) zfX6_10 rfl ?_
  refine zV0 hC dX6_vain_25 zlX6_194 (c_X5_weigh hD hm hR) (hD _) rfl rfl rfl rfl rfl rfl ?_
  refine z_aload_n hC dX6_vain_28 rfl ?_
  refine z_getR hC dX6_vain_29 (hD _) zfX6_25 rfl ?_
  refine z_aload_n hC dX6_vain_32 rfl ?_
  refine z_getR hC dX6_vain_33 (hD _) zfX6_10 rfl ?_
  refine z_iload_n hC dX6_vain_36 rfl ?_
  refine zV0 hC dX6_vain_37 zlX6_243 (c_X5_lookOnInVain hD hwg hmg hR rfl hk) (hD _) rfl rfl rfl rfl rfl rfl ?_
  refine z_aload_n hC dX6_vain_40 rfl ?_
  refine z_getR hC dX6_vain_41 (hD _) zfX6_25 rfl ?_
  refine zVv hC dX6_vain_44 zlX6_205 (c_X5_all hD hwv) (hD _) rfl rfl rfl rfl rfl rfl ?_
  refine z_iret hC dX6_vain_47 ?_
  exact hE.to (by rfl) rfl rfl rfl

theorem e_vain_f (hD : ∀ k, S 3 k = dsh k) (hO : DOK D) (hM : DMe D I X Y) {x : Int32} (hx : ¬ iw x 0 40) : zC0 mX6_vain 8 [zr 3 0, zi x] (some (zi (-2))) ad S I X Y sz I (rfX 0 X) Y := by
  refine zgo (own := RX6) (k := 0) (by decide +kernel) rfl rfl rfl (fun C hC hnm hE => ?_)
  have hm := hM.1
  have hR := hO.1
  refine z_iload_n hC dX6_vain_0 rfl ?_
  refine z_iconst hC dX6_vain_1 (v := nI 0) rfl ?_
  refine z_bipush hC dX6_vain_2 (v := nI 40) rfl ?_
  refine zSv hC dX6_vain_4 zlX6_58 c_X6_isWithin rfl rfl rfl rfl ?_
  refine z_ifb_ne hC dX6_vain_7 (tgt := 17) (by decide) (fun c7 => ?_) (fun c7 => ?_)
  · exact absurd c7 hx
  refine z_aload_n hC dX6_vain_10 rfl ?_
  refine z_bipush hC dX6_vain_11 (v := -2) rfl ?_
  refine zVv hC dX6_vain_13 zlX6_62 (c_X6_refuse hD (j := 0) (by decide) (by decide)) (hD _) rfl rfl rfl rfl rfl rfl ?_
  refine z_iret hC dX6_vain_16 ?_
  exact hE.to (by rfl) rfl rfl rfl

theorem o_vain (hD : ∀ k, S 3 k = dsh k) (hO : DOK D) (hM : DMe D I X Y) {x : Int32} : dC mX6_vain 8 [zr 3 0, zi x] (some (zi (vainS D x).1)) (vainS D x).2 ad S I X Y sz := by
  unfold vainS
  by_cases h : iw x 0 40
  · rw [if_pos h]
    obtain ⟨x, -, h2, rfl, e1⟩ := iw_e h (by decide) (by decide)
    rw [e1]
    exact ⟨_, _, Y, hM.wg.rowm, e_vain_t hD hO hM h2⟩
  · rw [if_neg h]
    exact ⟨I, rfX 0 X, Y, hM.rf (by decide), e_vain_f hD hO hM h⟩
end
