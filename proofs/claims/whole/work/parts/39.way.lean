/-! OnTheRoof: THE WAY -/
abbrev nn (x : Int32) : Nat := x.toInt.toNat
theorem nn_n {i : Nat} (h : i < 2 ^ 31) : nn (nI i) = i := zti h
def DR (D : DS) (R : RS) : DS := (R, D.2)
theorem DMe.m {D : DS} {I X : zI} {Y : zY} (h : DMe D I X Y) {R : RS} {I' X' : zI} (hm : zRm 1 R I' X') (hI : ∀ k j, ¬ (1 ≤ k ∧ k < 8) → I' 3 k j = I 3 k j) (hX : ∀ k j, ¬ (1 ≤ k ∧ k < 8) → X' 3 k j = X 3 k j) : DMe (DR D R) I' X' Y := by
  obtain ⟨h1, h2, h3, ⟨h4, h5⟩, h6, h7, h8, h9⟩ := h
  refine ⟨hm, by rw [hI _ _ (by omega)]; exact h2, fun K hK => (h3 K hK).frame (fun k j a b => hI k j (by omega)) (fun k j a b => hX k j (by omega)), ⟨by rw [hI _ _ (by omega)]; exact h4, fun i hi => by rw [hX _ _ (by omega)]; exact h5 i hi⟩, fun s hs => ?_, fun j hj => by rw [hX _ _ (by omega)]; exact h7 j hj, h8.frame (fun k a b => hI k 1 (by omega)), h9.frame (fun k a b => hI k 1 (by omega))⟩
  obtain ⟨g1, g2, g3⟩ := h6 s hs
  exact ⟨by rw [hI _ _ (by omega)]; exact g1, by rw [hI _ _ (by omega)]; exact g2, g3⟩
theorem DOK.r {D : DS} (h : DOK D) {R : RS} (hR : ROK R) (hn : D.1.1 0 ≤ R.1 0) : DOK (DR D R) := by
  obtain ⟨h1, h2, h3, h4⟩ := h
  refine ⟨hR, h2, h3, fun s hs => ⟨(h4 s hs).1, fun q hq => ?_⟩⟩
  have := (h4 s hs).2 q hq
  show q ≤ 4 ∨ 10 ≤ q ∧ q < 10 + R.1 0
  omega
/-- x as a number, if it is one that may stand there -/
theorem tkP_e {R : RS} {q p : Nat} {x : Int32} (hR : ROK R) (hq : q < 8) (hp : p < 4) (h : tkP R q p x) : ∃ v, x = nI v ∧ v < 2 ^ 31 ∧ tkN R q p v ∧ nn x = v := by
  have h0 : (0 : Int32) ≤ x := Int32.not_lt.mp (fun z => tkP_neg hq hp z h)
  have h1 : (0 : Int) ≤ x.toInt := by simpa using Int32.le_iff_toInt_le.mp h0
  have h3 := Int32.toInt_lt x
  have h2 : x = nI x.toInt.toNat := by
    apply Int32.toInt_inj.mp
    rw [nI_toInt (by omega)]
    omega
  have hv : x.toInt.toNat < 2 ^ 31 := by omega
  refine ⟨x.toInt.toNat, h2, hv, ?_, rfl⟩
  rw [h2] at h
  exact (tkP_n hR hq hp hv).mp h
theorem inB_e {x : Int32} {n : Nat} (h : inB x n) (hn : n < 2 ^ 31) : ∃ i, i < n ∧ x = nI i ∧ nn x = i := by
  obtain ⟨i, hi, rfl⟩ := inB_n h hn
  exact ⟨i, hi, rfl, nn_n (by omega)⟩
abbrev iw (x : Int32) (a n : Nat) : Prop := nI a ≤ x ∧ x ≤ nI n
theorem iw_e {x : Int32} {a n : Nat} (h : iw x a n) (ha : a < 2 ^ 31) (hn : n < 2 ^ 31) : ∃ i, a ≤ i ∧ i ≤ n ∧ x = nI i ∧ nn x = i := by
  have h0 : (0 : Int32) ≤ x := Int32.le_trans (nI_pos' ha) h.1
  have h1 : (0 : Int) ≤ x.toInt := by simpa using Int32.le_iff_toInt_le.mp h0
  have h3 := Int32.toInt_lt x
  have h2 : x = nI x.toInt.toNat := by
    apply Int32.toInt_inj.mp
    rw [nI_toInt (by omega)]
    omega
  have h4 := h.1
  have h5 := h.2
  rw [h2] at h4 h5
  exact ⟨x.toInt.toNat, (nI_leI ha (by omega)).mp h4, (nI_leI (by omega) hn).mp h5, h2, rfl⟩
theorem iw_of {i a n : Nat} (h1 : a ≤ i) (h2 : i ≤ n) (hn : n < 2 ^ 31) : iw (nI i) a n := ⟨(nI_leI (by omega) (by omega)).mpr h1, (nI_leI (by omega) hn).mpr h2⟩
def bendS (D : DS) (k a y q : Int32) : Int32 × DS :=
  if tkP D.1 0 0 k ∧ tkP D.1 0 1 a ∧ tkP D.1 0 2 y ∧ tkP D.1 0 3 q then (if D.1.1 0 = 14 then bad 4 D else (nI (D.1.1 0), DR D (raddB D.1 (nn k) (nn a) (nn y) (nn q)))) else bad 0 D
def askS (D : DS) (w v : Int32) : Int32 × DS :=
  if iw w 0 2 ∧ tkP D.1 (1 + nn w) 0 v then (nI (D.1.1 (3 + nn w)), DR D (rset D.1 (3 + nn w) (nn v))) else bad 0 D
def signS (D : DS) (b : Int32) (q : Nat) (s : Int32) : Int32 × DS :=
  if tkP D.1 4 0 b ∧ tkP D.1 4 1 s then (if D.1.1 1 = 8 then bad 4 D else (nI (D.1.1 1 + 1), DR D (raddS D.1 (nn b) q (nn s)))) else bad 0 D
def ocallS (D : DS) (b m k : Int32) : Int32 × DS :=
  if tkP D.1 6 0 b ∧ tkP D.1 6 1 m ∧ tkP D.1 6 2 k then (if D.1.1 2 = 6 then bad 4 D else (nI (D.1.1 2), DR D (raddC D.1 (nn b) (nn m) (nn k)))) else bad 0 D
def anewS (D : DS) : Int32 × DS := (nI (D.1.1 1), DR D (rforget D.1))
def bendOfS (D : DS) (b w : Int32) : Int32 × DS :=
  if inB b (D.1.1 0) ∧ iw w 0 6 then (if nn w = 5 then nI (rfall D.1 (D.1.1 3) (nn b)) else if nn w = 6 then nI (sumN (D.1.2.1 2) (nn b + 1)) else nI (D.1.2.1 (nn w) (nn b)), D) else bad 0 D
def signOfS (D : DS) (i w : Int32) : Int32 × DS := if inB i (D.1.1 1) ∧ iw w 0 2 then (nI (D.1.2.1 (5 + nn w) (nn i)), D) else bad 0 D
def callOfS (D : DS) (i w : Int32) : Int32 × DS := if inB i (D.1.1 2) ∧ iw w 0 2 then (nI (D.1.2.1 (8 + nn w) (nn i)), D) else bad 0 D
def fallS (D : DS) (b v : Int32) : Int32 × DS := if inB b (D.1.1 0) ∧ iw v 1 9 then (nI (rfall D.1 (nn v) (nn b)), D) else bad 0 D
def fellS (D : DS) (b v : Int32) : Int32 × DS := if (b = -1 ∨ inB b (D.1.1 0)) ∧ iw v 1 9 then (if b = -1 then nI (heldN (rfall D.1 (nn v)) (D.1.1 0)) else nI (fellN (rfall D.1 (nn v)) (nn b)), D) else bad 0 D

section
variable {ad : zA} {S : zSh} {I X : zI} {Y : zY} {sz : Nat} {D : DS}

theorem e_fall_t (hD : ∀ k, S 3 k = dsh k) (hO : DOK D) (hM : DMe D I X Y) {b v : Nat} (hb : b < D.1.1 0) (h1 : 1 ≤ v) (h9 : v ≤ 9) : zC0 mX6_fall 5 [zr 3 0, zi (nI b), zi (nI v)] (some (zi (nI (rfall D.1 v b)))) ad S I X Y sz I X Y := by
  refine zgo (own := RX6) (k := 0) (by decide +kernel) rfl rfl rfl (fun C hC hnm hE => ?_)
  have hm := hM.1
  have hR := hO.1
  have hn14 := hR.1
  refine z_aload_n hC dX6_fall_0 rfl ?_
  refine z_getR hC dX6_fall_1 (hD _) zfX6_10 rfl ?_
  refine z_getR hC dX6_fall_4 (hD _) zfX6_115 rfl ?_
  refine z_iload_n hC dX6_fall_7 rfl ?_
  refine zVv hC dX6_fall_8 zlX6_119 (c_bhas hD hm) (hD _) rfl rfl rfl rfl rfl rfl ?_
  refine z_ifb_eq hC dX6_fall_11 (tgt := 24) (by decide) (fun c11 => ?_) (fun c11 => ?_)
  · exact absurd c11 (fun z => z (inB_of hb (by omega)))
  refine z_iload_n hC dX6_fall_14 rfl ?_
  refine z_iconst hC dX6_fall_15 (v := nI 1) rfl ?_
  refine z_bipush hC dX6_fall_16 (v := nI 9) rfl ?_
  refine zSv hC dX6_fall_18 zlX6_58 c_X6_isWithin rfl rfl rfl rfl ?_
  refine z_ifb_ne hC dX6_fall_21 (tgt := 31) (by decide) (fun c21 => ?_) (fun c21 => ?_)
  rotate_left
  · exact absurd c21 (fun z => z (iw_of h1 h9 (by decide)))
  refine z_aload_n hC dX6_fall_31 rfl ?_
  refine z_getR hC dX6_fall_32 (hD _) zfX6_10 rfl ?_
  refine z_iload_n hC dX6_fall_35 rfl ?_
  refine z_iload_n hC dX6_fall_36 rfl ?_
  refine zVv hC dX6_fall_37 zlX6_131 (c_X1_fallAt (zRd_1 hD) hm hR hb h9) (hD _) rfl rfl rfl rfl rfl rfl ?_
  refine z_iret hC dX6_fall_40 ?_
  exact hE.to (by rfl) rfl rfl rfl

theorem e_fall_f (hD : ∀ k, S 3 k = dsh k) (hO : DOK D) (hM : DMe D I X Y) {x y : Int32} (hx : ¬ (inB x (D.1.1 0) ∧ iw y 1 9)) : zC0 mX6_fall 5 [zr 3 0, zi x, zi y] (some (zi (-2))) ad S I X Y sz I (rfX 0 X) Y := by
  refine zgo (own := RX6) (k := 0) (by decide +kernel) rfl rfl rfl (fun C hC hnm hE => ?_)
  have hm := hM.1
  have hR := hO.1
  refine z_aload_n hC dX6_fall_0 rfl ?_
  refine z_getR hC dX6_fall_1 (hD _) zfX6_10 rfl ?_
  refine z_getR hC dX6_fall_4 (hD _) zfX6_115 rfl ?_
  refine z_iload_n hC dX6_fall_7 rfl ?_
  refine zVv hC dX6_fall_8 zlX6_119 (c_bhas hD hm) (hD _) rfl rfl rfl rfl rfl rfl ?_
  refine z_ifb_eq hC dX6_fall_11 (tgt := 24) (by decide) (fun c11 => ?_) (fun c11 => ?_)
  · skip
    refine z_aload_n hC dX6_fall_24 rfl ?_
    refine z_bipush hC dX6_fall_25 (v := -2) rfl ?_
    refine zVv hC dX6_fall_27 zlX6_62 (c_X6_refuse hD (j := 0) (by decide) (by decide)) (hD _) rfl rfl rfl rfl rfl rfl ?_
    refine z_iret hC dX6_fall_30 ?_
    exact hE.to (by rfl) rfl rfl rfl
  refine z_iload_n hC dX6_fall_14 rfl ?_
  refine z_iconst hC dX6_fall_15 (v := nI 1) rfl ?_
  refine z_bipush hC dX6_fall_16 (v := nI 9) rfl ?_
  refine zSv hC dX6_fall_18 zlX6_58 c_X6_isWithin rfl rfl rfl rfl ?_
  refine z_ifb_ne hC dX6_fall_21 (tgt := 31) (by decide) (fun c21 => ?_) (fun c21 => ?_)
  · exact absurd c21 (fun z => hx ⟨c11, z⟩)
  refine z_aload_n hC dX6_fall_24 rfl ?_
  refine z_bipush hC dX6_fall_25 (v := -2) rfl ?_
  refine zVv hC dX6_fall_27 zlX6_62 (c_X6_refuse hD (j := 0) (by decide) (by decide)) (hD _) rfl rfl rfl rfl rfl rfl ?_
  refine z_iret hC dX6_fall_30 ?_
  exact hE.to (by rfl) rfl rfl rfl

theorem o_fall (hD : ∀ k, S 3 k = dsh k) (hO : DOK D) (hM : DMe D I X Y) {x y : Int32} : dC mX6_fall 5 [zr 3 0, zi x, zi y] (some (zi (fallS D x y).1)) (fallS D x y).2 ad S I X Y sz := by
  have hn14 := hO.1.1
  unfold fallS
  by_cases h : inB x (D.1.1 0) ∧ iw y 1 9
  · rw [if_pos h]
    obtain ⟨b, hb, rfl, e1⟩ := inB_e h.1 (by omega)
    obtain ⟨v, h1, h9, rfl, e2⟩ := iw_e h.2 (by decide) (by decide)
    rw [e1, e2]
    exact ⟨I, X, Y, hM, e_fall_t hD hO hM hb h1 h9⟩
  · rw [if_neg h]
    exact ⟨I, rfX 0 X, Y, hM.rf (by decide), e_fall_f hD hO hM h⟩
theorem e_fell_t (hD : ∀ k, S 3 k = dsh k) (hO : DOK D) (hM : DMe D I X Y) {b v : Nat} (hb : b < D.1.1 0) (h1 : 1 ≤ v) (h9 : v ≤ 9) : zC0 mX6_fell 6 [zr 3 0, zi (nI b), zi (nI v)] (some (zi (nI (fellN (rfall D.1 v) b)))) ad S I X Y sz I X Y := by
  refine zgo (own := RX6) (k := 0) (by decide +kernel) rfl rfl rfl (fun C hC hnm hE => ?_)
  have hm := hM.1
  have hR := hO.1
  have hn14 := hR.1
  refine z_aload_n hC dX6_fell_0 rfl ?_
  refine z_iload_n hC dX6_fell_1 rfl ?_
  refine zVv hC dX6_fell_2 zlX6_104 (c_X6_isBendOrNone hD hm hR) (hD _) rfl rfl rfl rfl rfl rfl ?_
  refine z_ifb_eq hC dX6_fell_5 (tgt := 18) (by decide) (fun c5 => ?_) (fun c5 => ?_)
  · exact absurd c5 (fun z => z (Or.inr (inB_of hb (by omega))))
  refine z_iload_n hC dX6_fell_8 rfl ?_
  refine z_iconst hC dX6_fell_9 (v := nI 1) rfl ?_
  refine z_bipush hC dX6_fell_10 (v := nI 9) rfl ?_
  refine zSv hC dX6_fell_12 zlX6_58 c_X6_isWithin rfl rfl rfl rfl ?_
  refine z_ifb_ne hC dX6_fell_15 (tgt := 25) (by decide) (fun c15 => ?_) (fun c15 => ?_)
  rotate_left
  · exact absurd c15 (fun z => z (iw_of h1 h9 (by decide)))
  refine z_aload_n hC dX6_fell_25 rfl ?_
  refine z_getR hC dX6_fell_26 (hD _) zfX6_10 rfl ?_
  refine z_iload_n hC dX6_fell_29 rfl ?_
  refine z_iload_n hC dX6_fell_30 rfl ?_
  refine zVv hC dX6_fell_31 zlX6_191 (c_X1_fellAt (zRd_1 hD) hm hR hb h9) (hD _) rfl rfl rfl rfl rfl rfl ?_
  refine z_iret hC dX6_fell_34 ?_
  exact hE.to (by rfl) rfl rfl rfl

theorem e_fell_n (hD : ∀ k, S 3 k = dsh k) (hO : DOK D) (hM : DMe D I X Y) {v : Nat} (h1 : 1 ≤ v) (h9 : v ≤ 9) : zC0 mX6_fell 6 [zr 3 0, zi (-1), zi (nI v)] (some (zi (nI (heldN (rfall D.1 v) (D.1.1 0))))) ad S I X Y sz I X Y := by
  refine zgo (own := RX6) (k := 0) (by decide +kernel) rfl rfl rfl (fun C hC hnm hE => ?_)
  have hm := hM.1
  have hR := hO.1
  refine z_aload_n hC dX6_fell_0 rfl ?_
  refine z_iload_n hC dX6_fell_1 rfl ?_
  refine zVv hC dX6_fell_2 zlX6_104 (c_X6_isBendOrNone hD hm hR) (hD _) rfl rfl rfl rfl rfl rfl ?_
  refine z_ifb_eq hC dX6_fell_5 (tgt := 18) (by decide) (fun c5 => ?_) (fun c5 => ?_)
  · exact absurd c5 (fun z => z (Or.inl rfl))
  refine z_iload_n hC dX6_fell_8 rfl ?_
  refine z_iconst hC dX6_fell_9 (v := nI 1) rfl ?_
  refine z_bipush hC dX6_fell_10 (v := nI 9) rfl ?_
  refine zSv hC dX6_fell_12 zlX6_58 c_X6_isWithin rfl rfl rfl rfl ?_
  refine z_ifb_ne hC dX6_fell_15 (tgt := 25) (by decide) (fun c15 => ?_) (fun c15 => ?_)
  rotate_left
  · exact absurd c15 (fun z => z (iw_of h1 h9 (by decide)))
  refine z_aload_n hC dX6_fell_25 rfl ?_
  refine z_getR hC dX6_fell_26 (hD _) zfX6_10 rfl ?_
  refine z_iload_n hC dX6_fell_29 rfl ?_
  refine z_iload_n hC dX6_fell_30 rfl ?_
  refine zVv hC dX6_fell_31 zlX6_191 (c_X1_fellAtNone (zRd_1 hD) hm hR h9) (hD _) rfl rfl rfl rfl rfl rfl ?_
  refine z_iret hC dX6_fell_34 ?_
  exact hE.to (by rfl) rfl rfl rfl

theorem e_fell_f (hD : ∀ k, S 3 k = dsh k) (hO : DOK D) (hM : DMe D I X Y) {x y : Int32} (hx : ¬ ((x = -1 ∨ inB x (D.1.1 0)) ∧ iw y 1 9)) : zC0 mX6_fell 6 [zr 3 0, zi x, zi y] (some (zi (-2))) ad S I X Y sz I (rfX 0 X) Y := by
  refine zgo (own := RX6) (k := 0) (by decide +kernel) rfl rfl rfl (fun C hC hnm hE => ?_)
  have hm := hM.1
  have hR := hO.1
  refine z_aload_n hC dX6_fell_0 rfl ?_
  refine z_iload_n hC dX6_fell_1 rfl ?_
  refine zVv hC dX6_fell_2 zlX6_104 (c_X6_isBendOrNone hD hm hR) (hD _) rfl rfl rfl rfl rfl rfl ?_
  refine z_ifb_eq hC dX6_fell_5 (tgt := 18) (by decide) (fun c5 => ?_) (fun c5 => ?_)
  · skip
    refine z_aload_n hC dX6_fell_18 rfl ?_
    refine z_bipush hC dX6_fell_19 (v := -2) rfl ?_
    refine zVv hC dX6_fell_21 zlX6_62 (c_X6_refuse hD (j := 0) (by decide) (by decide)) (hD _) rfl rfl rfl rfl rfl rfl ?_
    refine z_iret hC dX6_fell_24 ?_
    exact hE.to (by rfl) rfl rfl rfl
  refine z_iload_n hC dX6_fell_8 rfl ?_
  refine z_iconst hC dX6_fell_9 (v := nI 1) rfl ?_
  refine z_bipush hC dX6_fell_10 (v := nI 9) rfl ?_
  refine zSv hC dX6_fell_12 zlX6_58 c_X6_isWithin rfl rfl rfl rfl ?_
  refine z_ifb_ne hC dX6_fell_15 (tgt := 25) (by decide) (fun c15 => ?_) (fun c15 => ?_)
  · exact absurd c15 (fun z => hx ⟨c5, z⟩)
  refine z_aload_n hC dX6_fell_18 rfl ?_
  refine z_bipush hC dX6_fell_19 (v := -2) rfl ?_
  refine zVv hC dX6_fell_21 zlX6_62 (c_X6_refuse hD (j := 0) (by decide) (by decide)) (hD _) rfl rfl rfl rfl rfl rfl ?_
  refine z_iret hC dX6_fell_24 ?_
  exact hE.to (by rfl) rfl rfl rfl

theorem o_fell (hD : ∀ k, S 3 k = dsh k) (hO : DOK D) (hM : DMe D I X Y) {x y : Int32} : dC mX6_fell 6 [zr 3 0, zi x, zi y] (some (zi (fellS D x y).1)) (fellS D x y).2 ad S I X Y sz := by
  have hn14 := hO.1.1
  unfold fellS
  by_cases h : (x = -1 ∨ inB x (D.1.1 0)) ∧ iw y 1 9
  · rw [if_pos h]
    obtain ⟨v, h1, h9, rfl, e2⟩ := iw_e h.2 (by decide) (by decide)
    rw [e2]
    by_cases hx : x = -1
    · subst hx
      rw [if_pos rfl]
      exact ⟨I, X, Y, hM, e_fell_n hD hO hM h1 h9⟩
    · obtain ⟨b, hb, rfl, e1⟩ := inB_e (h.1.resolve_left hx) (by omega)
      rw [if_neg hx, e1]
      exact ⟨I, X, Y, hM, e_fell_t hD hO hM hb h1 h9⟩
  · rw [if_neg h]
    exact ⟨I, rfX 0 X, Y, hM.rf (by decide), e_fell_f hD hO hM h⟩
theorem e_bendOf_t (hD : ∀ k, S 3 k = dsh k) (hO : DOK D) (hM : DMe D I X Y) {b v : Nat} (hb : b < D.1.1 0) (h6 : v ≤ 6) : zC0 mX6_bendOf 5 [zr 3 0, zi (nI b), zi (nI v)] (some (zi (if v = 5 then nI (rfall D.1 (D.1.1 3) b) else if v = 6 then nI (sumN (D.1.2.1 2) (b + 1)) else nI (D.1.2.1 v b)))) ad S I X Y sz I X Y := by
  refine zgo (own := RX6) (k := 0) (by decide +kernel) rfl rfl rfl (fun C hC hnm hE => ?_)
  have hm := hM.1
  have hR := hO.1
  have hn14 := hR.1
  refine z_aload_n hC dX6_bendOf_0 rfl ?_
  refine z_getR hC dX6_bendOf_1 (hD _) zfX6_10 rfl ?_
  refine z_getR hC dX6_bendOf_4 (hD _) zfX6_115 rfl ?_
  refine z_iload_n hC dX6_bendOf_7 rfl ?_
  refine zVv hC dX6_bendOf_8 zlX6_119 (c_bhas hD hm) (hD _) rfl rfl rfl rfl rfl rfl ?_
  refine z_ifb_eq hC dX6_bendOf_11 (tgt := 24) (by decide) (fun c11 => ?_) (fun c11 => ?_)
  · exact absurd c11 (fun z => z (inB_of hb (by omega)))
  refine z_iload_n hC dX6_bendOf_14 rfl ?_
  refine z_iconst hC dX6_bendOf_15 (v := nI 0) rfl ?_
  refine z_bipush hC dX6_bendOf_16 (v := nI 6) rfl ?_
  refine zSv hC dX6_bendOf_18 zlX6_58 c_X6_isWithin rfl rfl rfl rfl ?_
  refine z_ifb_ne hC dX6_bendOf_21 (tgt := 31) (by decide) (fun c21 => ?_) (fun c21 => ?_)
  rotate_left
  · exact absurd c21 (fun z => z (iw_of (Nat.zero_le _) h6 (by decide)))
  refine z_iload_n hC dX6_bendOf_31 rfl ?_
  by_cases s32_5 : v = 5
  · refine z_lkK hC dX6_bendOf_32 (v := nI 5) (by rw [s32_5]) rfl (off := 28) rfl (tgt := 60) (by decide) ?_
    refine z_aload_n hC dX6_bendOf_60 rfl ?_
    refine z_getR hC dX6_bendOf_61 (hD _) zfX6_10 rfl ?_
    refine z_iload_n hC dX6_bendOf_64 rfl ?_
    refine z_aload_n hC dX6_bendOf_65 rfl ?_
    refine z_getR hC dX6_bendOf_66 (hD _) zfX6_10 rfl ?_
    refine z_getN hC dX6_bendOf_69 (hD _) zfX6_134 rfl hm.2.2.2.1 ?_
    refine zVv hC dX6_bendOf_72 zlX6_131 (c_X1_fallAt (zRd_1 hD) hm hR hb hR.2.2.2.1.2) (hD _) rfl rfl rfl rfl rfl rfl ?_
    refine z_iret hC dX6_bendOf_75 ?_
    exact hE.to (by rw [if_pos s32_5]) rfl rfl rfl
  by_cases s32_6 : v = 6
  · refine z_lkK hC dX6_bendOf_32 (v := nI 6) (by rw [s32_6]) rfl (off := 44) rfl (tgt := 76) (by decide) ?_
    refine z_aload_n hC dX6_bendOf_76 rfl ?_
    refine z_getR hC dX6_bendOf_77 (hD _) zfX6_10 rfl ?_
    refine z_iload_n hC dX6_bendOf_80 rfl ?_
    refine zVv hC dX6_bendOf_81 zlX6_181 (c_X1_yardsTo (zRd_1 hD) hm hR hb) (hD _) rfl rfl rfl rfl rfl rfl ?_
    refine z_iret hC dX6_bendOf_84 ?_
    exact hE.to (by rw [if_neg s32_5, if_pos s32_6]) rfl rfl rfl
  refine z_lookup hC dX6_bendOf_32 rfl (off := 53) (zlk_out (by rw [nI_toInt (by omega)]; intro q hq; simp at hq; rcases hq with rfl | rfl <;> simp <;> omega)) (tgt := 85) (by decide) ?_
  refine z_aload_n hC dX6_bendOf_85 rfl ?_
  refine z_getR hC dX6_bendOf_86 (hD _) zfX6_10 rfl ?_
  refine z_getR hC dX6_bendOf_89 (hD _) zfX6_115 rfl ?_
  refine z_iload_n hC dX6_bendOf_92 rfl ?_
  refine z_iload_n hC dX6_bendOf_93 rfl ?_
  refine zVv hC dX6_bendOf_94 zlX6_124 (c_bat (zRd_1 hD) hm hR hb (j := v) (by omega)) (hD _) rfl rfl rfl rfl rfl rfl ?_
  refine z_iret hC dX6_bendOf_97 ?_
  exact hE.to (by rw [if_neg s32_5, if_neg s32_6]) rfl rfl rfl

theorem e_bendOf_f (hD : ∀ k, S 3 k = dsh k) (hO : DOK D) (hM : DMe D I X Y) {x y : Int32} (hx : ¬ (inB x (D.1.1 0) ∧ iw y 0 6)) : zC0 mX6_bendOf 5 [zr 3 0, zi x, zi y] (some (zi (-2))) ad S I X Y sz I (rfX 0 X) Y := by
  refine zgo (own := RX6) (k := 0) (by decide +kernel) rfl rfl rfl (fun C hC hnm hE => ?_)
  have hm := hM.1
  have hR := hO.1
  refine z_aload_n hC dX6_bendOf_0 rfl ?_
  refine z_getR hC dX6_bendOf_1 (hD _) zfX6_10 rfl ?_
  refine z_getR hC dX6_bendOf_4 (hD _) zfX6_115 rfl ?_
  refine z_iload_n hC dX6_bendOf_7 rfl ?_
  refine zVv hC dX6_bendOf_8 zlX6_119 (c_bhas hD hm) (hD _) rfl rfl rfl rfl rfl rfl ?_
  refine z_ifb_eq hC dX6_bendOf_11 (tgt := 24) (by decide) (fun c11 => ?_) (fun c11 => ?_)
  · skip
    refine z_aload_n hC dX6_bendOf_24 rfl ?_
    refine z_bipush hC dX6_bendOf_25 (v := -2) rfl ?_
    refine zVv hC dX6_bendOf_27 zlX6_62 (c_X6_refuse hD (j := 0) (by decide) (by decide)) (hD _) rfl rfl rfl rfl rfl rfl ?_
    refine z_iret hC dX6_bendOf_30 ?_
    exact hE.to (by rfl) rfl rfl rfl
  refine z_iload_n hC dX6_bendOf_14 rfl ?_
  refine z_iconst hC dX6_bendOf_15 (v := nI 0) rfl ?_
  refine z_bipush hC dX6_bendOf_16 (v := nI 6) rfl ?_
  refine zSv hC dX6_bendOf_18 zlX6_58 c_X6_isWithin rfl rfl rfl rfl ?_
  refine z_ifb_ne hC dX6_bendOf_21 (tgt := 31) (by decide) (fun c21 => ?_) (fun c21 => ?_)
  · exact absurd c21 (fun z => hx ⟨c11, z⟩)
  refine z_aload_n hC dX6_bendOf_24 rfl ?_
  refine z_bipush hC dX6_bendOf_25 (v := -2) rfl ?_
  refine zVv hC dX6_bendOf_27 zlX6_62 (c_X6_refuse hD (j := 0) (by decide) (by decide)) (hD _) rfl rfl rfl rfl rfl rfl ?_
  refine z_iret hC dX6_bendOf_30 ?_
  exact hE.to (by rfl) rfl rfl rfl

theorem o_bendOf (hD : ∀ k, S 3 k = dsh k) (hO : DOK D) (hM : DMe D I X Y) {x y : Int32} : dC mX6_bendOf 5 [zr 3 0, zi x, zi y] (some (zi (bendOfS D x y).1)) (bendOfS D x y).2 ad S I X Y sz := by
  have hn14 := hO.1.1
  unfold bendOfS
  by_cases h : inB x (D.1.1 0) ∧ iw y 0 6
  · rw [if_pos h]
    obtain ⟨b, hb, rfl, e1⟩ := inB_e h.1 (by omega)
    obtain ⟨v, h1, h9, rfl, e2⟩ := iw_e h.2 (by decide) (by decide)
    rw [e1, e2]
    exact ⟨I, X, Y, hM, e_bendOf_t hD hO hM hb h9⟩
  · rw [if_neg h]
    exact ⟨I, rfX 0 X, Y, hM.rf (by decide), e_bendOf_f hD hO hM h⟩
theorem e_signOf_t (hD : ∀ k, S 3 k = dsh k) (hO : DOK D) (hM : DMe D I X Y) {i v : Nat} (hi : i < D.1.1 1) (h2 : v ≤ 2) : zC0 mX6_signOf 3 [zr 3 0, zi (nI i), zi (nI v)] (some (zi (nI (D.1.2.1 (5 + v) i)))) ad S I X Y sz I X Y := by
  refine zgo (own := RX6) (k := 0) (by decide +kernel) rfl rfl rfl (fun C hC hnm hE => ?_)
  have hm := hM.1
  have hR := hO.1
  have hn14 := hR.2.1
  refine z_aload_n hC dX6_signOf_0 rfl ?_
  refine z_getR hC dX6_signOf_1 (hD _) zfX6_10 rfl ?_
  refine z_getR hC dX6_signOf_4 (hD _) zfX6_153 rfl ?_
  refine z_iload_n hC dX6_signOf_7 rfl ?_
  refine zVv hC dX6_signOf_8 zlX6_119 (c_shas hD hm) (hD _) rfl rfl rfl rfl rfl rfl ?_
  refine z_ifb_eq hC dX6_signOf_11 (tgt := 23) (by decide) (fun c11 => ?_) (fun c11 => ?_)
  · exact absurd c11 (fun z => z (inB_of hi (by omega)))
  refine z_iload_n hC dX6_signOf_14 rfl ?_
  refine z_iconst hC dX6_signOf_15 (v := nI 0) rfl ?_
  refine z_iconst hC dX6_signOf_16 (v := nI 2) rfl ?_
  refine zSv hC dX6_signOf_17 zlX6_58 c_X6_isWithin rfl rfl rfl rfl ?_
  refine z_ifb_ne hC dX6_signOf_20 (tgt := 30) (by decide) (fun c20 => ?_) (fun c20 => ?_)
  rotate_left
  · exact absurd c20 (fun z => z (iw_of (Nat.zero_le _) h2 (by decide)))
  refine z_aload_n hC dX6_signOf_30 rfl ?_
  refine z_getR hC dX6_signOf_31 (hD _) zfX6_10 rfl ?_
  refine z_getR hC dX6_signOf_34 (hD _) zfX6_153 rfl ?_
  refine z_iload_n hC dX6_signOf_37 rfl ?_
  refine z_iload_n hC dX6_signOf_38 rfl ?_
  refine zVv hC dX6_signOf_39 zlX6_124 (c_sat (zRd_1 hD) hm hR hi (j := v) (by omega)) (hD _) rfl rfl rfl rfl rfl rfl ?_
  refine z_iret hC dX6_signOf_42 ?_
  exact hE.to (by rfl) rfl rfl rfl

theorem e_signOf_f (hD : ∀ k, S 3 k = dsh k) (hO : DOK D) (hM : DMe D I X Y) {x y : Int32} (hx : ¬ (inB x (D.1.1 1) ∧ iw y 0 2)) : zC0 mX6_signOf 3 [zr 3 0, zi x, zi y] (some (zi (-2))) ad S I X Y sz I (rfX 0 X) Y := by
  refine zgo (own := RX6) (k := 0) (by decide +kernel) rfl rfl rfl (fun C hC hnm hE => ?_)
  have hm := hM.1
  have hR := hO.1
  refine z_aload_n hC dX6_signOf_0 rfl ?_
  refine z_getR hC dX6_signOf_1 (hD _) zfX6_10 rfl ?_
  refine z_getR hC dX6_signOf_4 (hD _) zfX6_153 rfl ?_
  refine z_iload_n hC dX6_signOf_7 rfl ?_
  refine zVv hC dX6_signOf_8 zlX6_119 (c_shas hD hm) (hD _) rfl rfl rfl rfl rfl rfl ?_
  refine z_ifb_eq hC dX6_signOf_11 (tgt := 23) (by decide) (fun c11 => ?_) (fun c11 => ?_)
  · skip
    refine z_aload_n hC dX6_signOf_23 rfl ?_
    refine z_bipush hC dX6_signOf_24 (v := -2) rfl ?_
    refine zVv hC dX6_signOf_26 zlX6_62 (c_X6_refuse hD (j := 0) (by decide) (by decide)) (hD _) rfl rfl rfl rfl rfl rfl ?_
    refine z_iret hC dX6_signOf_29 ?_
    exact hE.to (by rfl) rfl rfl rfl
  refine z_iload_n hC dX6_signOf_14 rfl ?_
  refine z_iconst hC dX6_signOf_15 (v := nI 0) rfl ?_
  refine z_iconst hC dX6_signOf_16 (v := nI 2) rfl ?_
  refine zSv hC dX6_signOf_17 zlX6_58 c_X6_isWithin rfl rfl rfl rfl ?_
  refine z_ifb_ne hC dX6_signOf_20 (tgt := 30) (by decide) (fun c20 => ?_) (fun c20 => ?_)
  · exact absurd c20 (fun z => hx ⟨c11, z⟩)
  refine z_aload_n hC dX6_signOf_23 rfl ?_
  refine z_bipush hC dX6_signOf_24 (v := -2) rfl ?_
  refine zVv hC dX6_signOf_26 zlX6_62 (c_X6_refuse hD (j := 0) (by decide) (by decide)) (hD _) rfl rfl rfl rfl rfl rfl ?_
  refine z_iret hC dX6_signOf_29 ?_
  exact hE.to (by rfl) rfl rfl rfl

theorem o_signOf (hD : ∀ k, S 3 k = dsh k) (hO : DOK D) (hM : DMe D I X Y) {x y : Int32} : dC mX6_signOf 3 [zr 3 0, zi x, zi y] (some (zi (signOfS D x y).1)) (signOfS D x y).2 ad S I X Y sz := by
  have hn14 := hO.1.2.1
  unfold signOfS
  by_cases h : inB x (D.1.1 1) ∧ iw y 0 2
  · rw [if_pos h]
    obtain ⟨b, hb, rfl, e1⟩ := inB_e h.1 (by omega)
    obtain ⟨v, h1, h9, rfl, e2⟩ := iw_e h.2 (by decide) (by decide)
    rw [e1, e2]
    exact ⟨I, X, Y, hM, e_signOf_t hD hO hM hb h9⟩
  · rw [if_neg h]
    exact ⟨I, rfX 0 X, Y, hM.rf (by decide), e_signOf_f hD hO hM h⟩
theorem e_callOf_t (hD : ∀ k, S 3 k = dsh k) (hO : DOK D) (hM : DMe D I X Y) {i v : Nat} (hi : i < D.1.1 2) (h2 : v ≤ 2) : zC0 mX6_callOf 3 [zr 3 0, zi (nI i), zi (nI v)] (some (zi (nI (D.1.2.1 (8 + v) i)))) ad S I X Y sz I X Y := by
  refine zgo (own := RX6) (k := 0) (by decide +kernel) rfl rfl rfl (fun C hC hnm hE => ?_)
  have hm := hM.1
  have hR := hO.1
  have hn14 := hR.2.2.1
  refine z_aload_n hC dX6_callOf_0 rfl ?_
  refine z_getR hC dX6_callOf_1 (hD _) zfX6_10 rfl ?_
  refine z_getR hC dX6_callOf_4 (hD _) zfX6_184 rfl ?_
  refine z_iload_n hC dX6_callOf_7 rfl ?_
  refine zVv hC dX6_callOf_8 zlX6_119 (c_chas hD hm) (hD _) rfl rfl rfl rfl rfl rfl ?_
  refine z_ifb_eq hC dX6_callOf_11 (tgt := 23) (by decide) (fun c11 => ?_) (fun c11 => ?_)
  · exact absurd c11 (fun z => z (inB_of hi (by omega)))
  refine z_iload_n hC dX6_callOf_14 rfl ?_
  refine z_iconst hC dX6_callOf_15 (v := nI 0) rfl ?_
  refine z_iconst hC dX6_callOf_16 (v := nI 2) rfl ?_
  refine zSv hC dX6_callOf_17 zlX6_58 c_X6_isWithin rfl rfl rfl rfl ?_
  refine z_ifb_ne hC dX6_callOf_20 (tgt := 30) (by decide) (fun c20 => ?_) (fun c20 => ?_)
  rotate_left
  · exact absurd c20 (fun z => z (iw_of (Nat.zero_le _) h2 (by decide)))
  refine z_aload_n hC dX6_callOf_30 rfl ?_
  refine z_getR hC dX6_callOf_31 (hD _) zfX6_10 rfl ?_
  refine z_getR hC dX6_callOf_34 (hD _) zfX6_184 rfl ?_
  refine z_iload_n hC dX6_callOf_37 rfl ?_
  refine z_iload_n hC dX6_callOf_38 rfl ?_
  refine zVv hC dX6_callOf_39 zlX6_124 (c_cat (zRd_1 hD) hm hR hi (j := v) (by omega)) (hD _) rfl rfl rfl rfl rfl rfl ?_
  refine z_iret hC dX6_callOf_42 ?_
  exact hE.to (by rfl) rfl rfl rfl

theorem e_callOf_f (hD : ∀ k, S 3 k = dsh k) (hO : DOK D) (hM : DMe D I X Y) {x y : Int32} (hx : ¬ (inB x (D.1.1 2) ∧ iw y 0 2)) : zC0 mX6_callOf 3 [zr 3 0, zi x, zi y] (some (zi (-2))) ad S I X Y sz I (rfX 0 X) Y := by
  refine zgo (own := RX6) (k := 0) (by decide +kernel) rfl rfl rfl (fun C hC hnm hE => ?_)
  have hm := hM.1
  have hR := hO.1
  refine z_aload_n hC dX6_callOf_0 rfl ?_
  refine z_getR hC dX6_callOf_1 (hD _) zfX6_10 rfl ?_
  refine z_getR hC dX6_callOf_4 (hD _) zfX6_184 rfl ?_
  refine z_iload_n hC dX6_callOf_7 rfl ?_
  refine zVv hC dX6_callOf_8 zlX6_119 (c_chas hD hm) (hD _) rfl rfl rfl rfl rfl rfl ?_
  refine z_ifb_eq hC dX6_callOf_11 (tgt := 23) (by decide) (fun c11 => ?_) (fun c11 => ?_)
  · skip
    refine z_aload_n hC dX6_callOf_23 rfl ?_
    refine z_bipush hC dX6_callOf_24 (v := -2) rfl ?_
    refine zVv hC dX6_callOf_26 zlX6_62 (c_X6_refuse hD (j := 0) (by decide) (by decide)) (hD _) rfl rfl rfl rfl rfl rfl ?_
    refine z_iret hC dX6_callOf_29 ?_
    exact hE.to (by rfl) rfl rfl rfl
  refine z_iload_n hC dX6_callOf_14 rfl ?_
  refine z_iconst hC dX6_callOf_15 (v := nI 0) rfl ?_
  refine z_iconst hC dX6_callOf_16 (v := nI 2) rfl ?_
  refine zSv hC dX6_callOf_17 zlX6_58 c_X6_isWithin rfl rfl rfl rfl ?_
  refine z_ifb_ne hC dX6_callOf_20 (tgt := 30) (by decide) (fun c20 => ?_) (fun c20 => ?_)
  · exact absurd c20 (fun z => hx ⟨c11, z⟩)
  refine z_aload_n hC dX6_callOf_23 rfl ?_
  refine z_bipush hC dX6_callOf_24 (v := -2) rfl ?_
  refine zVv hC dX6_callOf_26 zlX6_62 (c_X6_refuse hD (j := 0) (by decide) (by decide)) (hD _) rfl rfl rfl rfl rfl rfl ?_
  refine z_iret hC dX6_callOf_29 ?_
  exact hE.to (by rfl) rfl rfl rfl

theorem o_callOf (hD : ∀ k, S 3 k = dsh k) (hO : DOK D) (hM : DMe D I X Y) {x y : Int32} : dC mX6_callOf 3 [zr 3 0, zi x, zi y] (some (zi (callOfS D x y).1)) (callOfS D x y).2 ad S I X Y sz := by
  have hn14 := hO.1.2.2.1
  unfold callOfS
  by_cases h : inB x (D.1.1 2) ∧ iw y 0 2
  · rw [if_pos h]
    obtain ⟨b, hb, rfl, e1⟩ := inB_e h.1 (by omega)
    obtain ⟨v, h1, h9, rfl, e2⟩ := iw_e h.2 (by decide) (by decide)
    rw [e1, e2]
    exact ⟨I, X, Y, hM, e_callOf_t hD hO hM hb h9⟩
  · rw [if_neg h]
    exact ⟨I, rfX 0 X, Y, hM.rf (by decide), e_callOf_f hD hO hM h⟩
end
