/-! OnTheRoof: others, BEST, how one drives -/
theorem nI_dec2 (p : Nat) : nI (p + 1) + -1 = nI p := by rw [nI_dec, nI_prd]
def faF (f : Nat → Nat) (v : Nat) : Nat → Option Nat
  | 0 => none
  | p + 1 => if v ≤ f (p + 1) then some (p + 1) else faF f v p
def fsF (f : Nat → Nat) (v : Nat) : Nat → Nat → Option Nat
  | 0, _ => none
  | k + 1, i => if v ≤ f i then some i else fsF f v k (i + 1)
def dvF (f : Nat → Nat) : Nat → Nat
  | 0 => 1
  | k + 1 => if f (dvF f k) < f (k + 2) then k + 2 else dvF f k
theorem dvF_le {f : Nat → Nat} : ∀ k, 1 ≤ dvF f k ∧ dvF f k ≤ k + 1
  | 0 => ⟨Nat.le_refl _, Nat.le_refl _⟩
  | k + 1 => by
    have := dvF_le (f := f) k
    unfold dvF
    split <;> omega
def atF (h : Nat) : Nat → Nat
  | 0 => 1000000
  | k + 1 => atF h k * h / 1000000
theorem atF_le {h : Nat} (hh : h ≤ 1000000) : ∀ k, atF h k ≤ 1000000
  | 0 => Nat.le_refl _
  | k + 1 => by
    have h1 := atF_le hh k
    have : atF h k * h ≤ 1000000 * 1000000 := Nat.mul_le_mul h1 hh
    show atF h k * h / 1000000 ≤ 1000000
    omega
abbrev nowN (R : RS) : Nat := rheld R (R.1 3) (R.1 4) (R.1 5)
def fastS (D : DS) (x : Int32) : Int32 × DS := if iw x 0 1000000 then (oI (faF (fun p => rheld D.1 p (D.1.1 4) (D.1.1 5)) (nn x) 9), D) else bad 0 D
def gripForS (D : DS) (x : Int32) : Int32 × DS := if iw x 0 1000000 then (oI (fsF (fun g => rheld D.1 (D.1.1 3) (D.1.1 4) g) (nn x) 11 0), D) else bad 0 D
def droveS (D : DS) (x : Int32) : Int32 × DS := if inB x (D.1.1 0) then (nI (dvF (fun p => fellN (rfall D.1 p) (nn x)) 8), D) else bad 0 D
def otherwiseS (D : DS) : Int32 × DS := (nI (rheld D.1 (D.1.1 3) (1 - D.1.1 4) (D.1.1 5)), D)
def withoutS (D : DS) (x : Int32) : Int32 × DS := if inB x (D.1.1 0) then (nI (heldN (hflN D.1 0 (2 ^ nn x)) (D.1.1 0)), D) else bad 0 D
def onceS (D : DS) (x : Int32) : Int32 × DS := if iw x 0 999 then (nI (1000000 - atF (nowN D.1) (nn x)), D) else bad 0 D
def untilS (D : DS) (x : Int32) : Int32 × DS := if iw x 0 1000000 then (oI (fsF (fun k => 1000000 - atF (nowN D.1) k) (nn x) 1000 0), D) else bad 0 D
def worthS (D : DS) (x y u : Int32) : Int32 × DS := if iw x 0 999 ∧ iw y 0 999 ∧ iw u 0 9999 then (nI (nn x * nn y * (1000000 - nowN D.1) / 1000000) - nI (nn u), D) else (-10000000 + -2, rfD 0 D)
def hearsS (D : DS) (x : Int32) : Int32 × DS := if inB x (D.1.1 2) then (nI (hearN D.1 (fwN D.1) (nn x)), D) else bad 0 D

section
variable {ad : zA} {S : zSh} {I X : zI} {Y : zY} {sz : Nat} {D : DS}

theorem e_others_t (hD : ∀ k, S 3 k = dsh k) (hO : DOK D) (hM : DMe D I X Y) {x : Nat} (hx : x ≤ 300) : zC0 mX6_others 7 [zr 3 0, zi (nI x)] (some (zi (nI (sumN (fun i => (wtN (signW D.1 (D.1.1 1)) (D.1.2.1 4)) i - lftN ((wtN (signW D.1 (D.1.1 1)) (D.1.2.1 4)) i) (D.1.2.1 3 i) x) (D.1.1 0))))) ad S I X Y sz (wgI D.1 (D.1.1 1) I) (wgX D.1 (D.1.1 1) X) Y := by
  refine zgo (own := RX6) (k := 2) (by decide +kernel) rfl rfl rfl (fun C hC hnm hE => ?_)
  have hm := hM.1
  have hR := hO.1
  have hn14 := hR.1
  have hwg := wg_W (s := D.1.1 1) (I := I) (X := X) hR
  have hmg := wg_R (R := D.1) (s := D.1.1 1) (r := 1) (by decide) hm
  have hwb := wbits hwg
  refine z_iload_n hC dX6_others_0 rfl ?_
  refine z_iconst hC dX6_others_1 (v := nI 0) rfl ?_
  refine z_sipush hC dX6_others_2 (v := nI 300) rfl ?_
  refine zSv hC dX6_others_5 zlX6_58 c_X6_isWithin rfl rfl rfl rfl ?_
  refine z_ifb_ne hC dX6_others_8 (tgt := 18) (by decide) (fun c8 => ?_) (fun c8 => ?_)
  rotate_left
  · exact absurd c8 (fun z => z (iw_of (Nat.zero_le _) hx (by decide)))
  refine z_aload_n hC dX6_others_18 rfl ?_
  refine z_getR hC dX6_others_19 (hD _) zfX6_25 rfl ?_
  refine z_aload_n hC dX6_others_22 rfl ?_
  refine z_getR hC dX6_others_23 (hD _) zfX6_10 rfl ?_
  refine zV0 hC dX6_others_26 zlX6_194 (c_X5_weigh hD hm hR) (hD _) rfl rfl rfl rfl rfl rfl ?_
  refine z_iconst hC dX6_others_29 (v := nI 0) rfl ?_
  refine z_istore_n hC dX6_others_30 (lo2 := [_, _, _, _]) (Nat.le_of_ble_eq_true rfl) rfl rfl ?_
  refine z_iconst hC dX6_others_31 (v := nI 0) rfl ?_
  refine z_istore_n hC dX6_others_32 (lo2 := [_, _, _, _]) (Nat.le_of_ble_eq_true rfl) rfl rfl ?_
  have loop33 : ∀ (fuel : Nat) (i : Nat), D.1.1 0 - i < fuel → i ≤ D.1.1 0 → zL C 4 ad S 0 0 sz (wgI D.1 (D.1.1 1) I) (wgX D.1 (D.1.1 1) X) Y 33 [some (zr 3 0), some (zi (nI x)), some (zi (nI (sumN (fun i => (wtN (signW D.1 (D.1.1 1)) (D.1.2.1 4)) i - lftN ((wtN (signW D.1 (D.1.1 1)) (D.1.2.1 4)) i) (D.1.2.1 3 i) x) i))), some (zi (nI i))] [] := by
    intro fuel
    induction fuel with
    | zero => intro i hfu; exact absurd hfu (Nat.not_lt_zero _)
    | succ fuel ih =>
      intro i hfu hin
      refine z_iload_n hC dX6_others_33 rfl ?_
      refine z_aload_n hC dX6_others_34 rfl ?_
      refine z_getR hC dX6_others_35 (hD _) zfX6_10 rfl ?_
      refine z_getR hC dX6_others_38 (hD _) zfX6_115 rfl ?_
      refine z_getN hC dX6_others_41 (hD _) zfX6_160 rfl hmg.1.2.1 ?_
      refine z_nicmp_ge hC dX6_others_44 (tgt := 80) (by decide) (by omega) (by omega) (fun c44 => ?_) (fun c44 => ?_)
      · skip
        refine z_iload_n hC dX6_others_80 rfl ?_
        refine z_iret hC dX6_others_81 ?_
        exact hE.to (by rw [show D.1.1 0 = i by omega]) rfl rfl rfl
      have hi : i < D.1.1 0 := by omega
      refine z_iload_n hC dX6_others_47 rfl ?_
      refine z_aload_n hC dX6_others_48 rfl ?_
      refine z_getR hC dX6_others_49 (hD _) zfX6_25 rfl ?_
      refine z_iload_n hC dX6_others_52 rfl ?_
      refine zVv hC dX6_others_53 zlX6_197 (c_X5_at hD hwg hi) (hD _) rfl rfl rfl rfl rfl rfl ?_
      refine z_aload_n hC dX6_others_56 rfl ?_
      refine z_getR hC dX6_others_57 (hD _) zfX6_10 rfl ?_
      refine z_getR hC dX6_others_60 (hD _) zfX6_115 rfl ?_
      refine z_iload_n hC dX6_others_63 rfl ?_
      refine z_iconst hC dX6_others_64 (v := nI 3) rfl ?_
      refine zVv hC dX6_others_65 zlX6_124 (c_bat (zRd_1 hD) hmg hR hi (j := 3) (by decide)) (hD _) rfl rfl rfl rfl rfl rfl ?_
      refine z_iload_n hC dX6_others_68 rfl ?_
      refine zSv hC dX6_others_69 zlX6_247 (c_X6_goneBy (wtN_le hwg hi).1 (hR.2.2.2.2.2.2.1 i hi).2.2.2.2.1 hx) rfl rfl rfl rfl ?_
      refine z_nadd hC dX6_others_72  ?_
      refine z_istore_n hC dX6_others_73 (lo2 := [_, _, _, _]) (Nat.le_of_ble_eq_true rfl) rfl rfl ?_
      refine z_ninc hC dX6_others_74 (lo2 := [_, _, _, _]) rfl rfl rfl rfl ?_
      refine z_goto hC dX6_others_77 (tgt := 33) (by decide) ?_
      exact ih (i + 1) (by omega) (by omega)
  exact loop33 _ 0 (Nat.lt_succ_self _) (Nat.zero_le _)

theorem e_others_f (hD : ∀ k, S 3 k = dsh k) (hO : DOK D) (hM : DMe D I X Y) {x : Int32} (hx : ¬ iw x 0 300) : zC0 mX6_others 7 [zr 3 0, zi x] (some (zi (-2))) ad S I X Y sz I (rfX 0 X) Y := by
  refine zgo (own := RX6) (k := 2) (by decide +kernel) rfl rfl rfl (fun C hC hnm hE => ?_)
  have hm := hM.1
  have hR := hO.1
  refine z_iload_n hC dX6_others_0 rfl ?_
  refine z_iconst hC dX6_others_1 (v := nI 0) rfl ?_
  refine z_sipush hC dX6_others_2 (v := nI 300) rfl ?_
  refine zSv hC dX6_others_5 zlX6_58 c_X6_isWithin rfl rfl rfl rfl ?_
  refine z_ifb_ne hC dX6_others_8 (tgt := 18) (by decide) (fun c8 => ?_) (fun c8 => ?_)
  · exact absurd c8 hx
  refine z_aload_n hC dX6_others_11 rfl ?_
  refine z_bipush hC dX6_others_12 (v := -2) rfl ?_
  refine zVv hC dX6_others_14 zlX6_62 (c_X6_refuse hD (j := 0) (by decide) (by decide)) (hD _) rfl rfl rfl rfl rfl rfl ?_
  refine z_iret hC dX6_others_17 ?_
  exact hE.to (by rfl) rfl rfl rfl

theorem o_others (hD : ∀ k, S 3 k = dsh k) (hO : DOK D) (hM : DMe D I X Y) {x : Int32} : dC mX6_others 7 [zr 3 0, zi x] (some (zi (othersS D x).1)) (othersS D x).2 ad S I X Y sz := by
  unfold othersS
  by_cases h : iw x 0 300
  · rw [if_pos h]
    obtain ⟨x, -, h2, rfl, e1⟩ := iw_e h (by decide) (by decide)
    rw [e1]
    exact ⟨_, _, Y, hM.wg, e_others_t hD hO hM h2⟩
  · rw [if_neg h]
    exact ⟨I, rfX 0 X, Y, hM.rf (by decide), e_others_f hD hO hM h⟩
theorem e_best_b (hD : ∀ k, S 3 k = dsh k) (hO : DOK D) (hM : DMe D I X Y) {x b : Nat} (hx : x ≤ 9000) (hb : b < D.1.1 0) : zC0 mX6_best 8 [zr 3 0, zi (nI x), zi (nI b)] (some (zi (nI ((plF D.1 (D.1.1 0) (x / 10)).2 / 2 ^ (2 * b) % 4)))) ad S I X Y sz (wgI D.1 (D.1.1 1) I) (plX (cstN D.1) (gnN (signW D.1 (D.1.1 1)) (D.1.2.1 4)) (D.1.1 0) (x / 10) (wgX D.1 (D.1.1 1) X) (D.1.1 0)) Y := by
  refine zgo (own := RX6) (k := 1) (by decide +kernel) rfl rfl rfl (fun C hC hnm hE => ?_)
  have hm := hM.1
  have hR := hO.1
  have hn14 := hR.1
  have hwg := wg_W (s := D.1.1 1) (I := I) (X := X) hR
  have hmg := wg_R (R := D.1) (s := D.1.1 1) (r := 1) (by decide) hm
  have hwb := wbits hwg
  have hpl := plN_le (c := cstN D.1) (g := gnN (signW D.1 (D.1.1 1)) (D.1.2.1 4)) hn14 (fun b l hb hl => fbN_le (wtN_le hwg hb).1) (D.1.1 0) (Nat.le_refl _)
  refine z_iload_n hC dX6_best_0 rfl ?_
  refine z_iconst hC dX6_best_1 (v := nI 0) rfl ?_
  refine z_sipush hC dX6_best_2 (v := nI 9000) rfl ?_
  refine zSv hC dX6_best_5 zlX6_58 c_X6_isWithin rfl rfl rfl rfl ?_
  refine z_ifb_eq hC dX6_best_8 (tgt := 19) (by decide) (fun c8 => ?_) (fun c8 => ?_)
  · exact absurd c8 (fun z => z (iw_of (Nat.zero_le _) hx (by decide)))
  refine z_aload_n hC dX6_best_11 rfl ?_
  refine z_iload_n hC dX6_best_12 rfl ?_
  refine zVv hC dX6_best_13 zlX6_104 (c_X6_isBendOrNone hD hm hR) (hD _) rfl rfl rfl rfl rfl rfl ?_
  refine z_ifb_ne hC dX6_best_16 (tgt := 26) (by decide) (fun c16 => ?_) (fun c16 => ?_)
  rotate_left
  · exact absurd c16 (fun z => z (Or.inr (inB_of hb (by omega))))
  refine z_iload_n hC dX6_best_26 rfl ?_
  refine z_bipush hC dX6_best_27 (v := nI 10) rfl ?_
  refine z_ndiv hC dX6_best_29 (by omega) (by omega) (by omega) ?_
  refine z_istore_n hC dX6_best_30 (lo2 := [_, _, _, _]) (Nat.le_of_ble_eq_true rfl) rfl rfl ?_
  refine z_aload_n hC dX6_best_31 rfl ?_
  refine z_getR hC dX6_best_32 (hD _) zfX6_25 rfl ?_
  refine z_aload_n hC dX6_best_35 rfl ?_
  refine z_getR hC dX6_best_36 (hD _) zfX6_10 rfl ?_
  refine zV0 hC dX6_best_39 zlX6_194 (c_X5_weigh hD hm hR) (hD _) rfl rfl rfl rfl rfl rfl ?_
  refine z_aload_n hC dX6_best_42 rfl ?_
  refine z_getR hC dX6_best_43 (hD _) zfX6_32 rfl ?_
  refine z_aload_n hC dX6_best_46 rfl ?_
  refine z_getR hC dX6_best_47 (hD _) zfX6_25 rfl ?_
  refine z_aload_n hC dX6_best_50 rfl ?_
  refine z_getR hC dX6_best_51 (hD _) zfX6_10 rfl ?_
  refine z_iload_n hC dX6_best_54 rfl ?_
  refine zV0 hC dX6_best_55 zlX6_229 (c_X0_make hD hwg hmg hR rfl (q := x / 10) (by omega)) (hD _) rfl rfl rfl rfl rfl rfl ?_
  refine z_iload_n hC dX6_best_58 rfl ?_
  refine z_iconst hC dX6_best_59 (v := -1) rfl ?_
  refine z_icmp_ne hC dX6_best_60 (tgt := 74) (by decide) (fun c60 => ?_) (fun c60 => ?_)
  rotate_left
  · exact absurd c60 (zne1 (by omega))
  refine z_aload_n hC dX6_best_74 rfl ?_
  refine z_getR hC dX6_best_75 (hD _) zfX6_32 rfl ?_
  refine z_iload_n hC dX6_best_78 rfl ?_
  refine z_iload_n hC dX6_best_79 rfl ?_
  refine zVv hC dX6_best_80 zlX6_236 (c_X0_lookIn hD (t := x / 10) (by omega) (by omega) (plX_27 (Nat.le_refl _)) (hpl _).2) (hD _) rfl rfl rfl rfl rfl rfl ?_
  refine z_iret hC dX6_best_83 ?_
  exact hE.to (by rfl) rfl rfl rfl

theorem e_best_n (hD : ∀ k, S 3 k = dsh k) (hO : DOK D) (hM : DMe D I X Y) {x : Nat} (hx : x ≤ 9000) : zC0 mX6_best 8 [zr 3 0, zi (nI x), zi (-1)] (some (zi (nI (plF D.1 (D.1.1 0) (x / 10)).1))) ad S I X Y sz (wgI D.1 (D.1.1 1) I) (plX (cstN D.1) (gnN (signW D.1 (D.1.1 1)) (D.1.2.1 4)) (D.1.1 0) (x / 10) (wgX D.1 (D.1.1 1) X) (D.1.1 0)) Y := by
  refine zgo (own := RX6) (k := 1) (by decide +kernel) rfl rfl rfl (fun C hC hnm hE => ?_)
  have hm := hM.1
  have hR := hO.1
  have hn14 := hR.1
  have hwg := wg_W (s := D.1.1 1) (I := I) (X := X) hR
  have hmg := wg_R (R := D.1) (s := D.1.1 1) (r := 1) (by decide) hm
  have hwb := wbits hwg
  refine z_iload_n hC dX6_best_0 rfl ?_
  refine z_iconst hC dX6_best_1 (v := nI 0) rfl ?_
  refine z_sipush hC dX6_best_2 (v := nI 9000) rfl ?_
  refine zSv hC dX6_best_5 zlX6_58 c_X6_isWithin rfl rfl rfl rfl ?_
  refine z_ifb_eq hC dX6_best_8 (tgt := 19) (by decide) (fun c8 => ?_) (fun c8 => ?_)
  · exact absurd c8 (fun z => z (iw_of (Nat.zero_le _) hx (by decide)))
  refine z_aload_n hC dX6_best_11 rfl ?_
  refine z_iload_n hC dX6_best_12 rfl ?_
  refine zVv hC dX6_best_13 zlX6_104 (c_X6_isBendOrNone hD hm hR) (hD _) rfl rfl rfl rfl rfl rfl ?_
  refine z_ifb_ne hC dX6_best_16 (tgt := 26) (by decide) (fun c16 => ?_) (fun c16 => ?_)
  rotate_left
  · exact absurd c16 (fun z => z (Or.inl rfl))
  refine z_iload_n hC dX6_best_26 rfl ?_
  refine z_bipush hC dX6_best_27 (v := nI 10) rfl ?_
  refine z_ndiv hC dX6_best_29 (by omega) (by omega) (by omega) ?_
  refine z_istore_n hC dX6_best_30 (lo2 := [_, _, _, _]) (Nat.le_of_ble_eq_true rfl) rfl rfl ?_
  refine z_aload_n hC dX6_best_31 rfl ?_
  refine z_getR hC dX6_best_32 (hD _) zfX6_25 rfl ?_
  refine z_aload_n hC dX6_best_35 rfl ?_
  refine z_getR hC dX6_best_36 (hD _) zfX6_10 rfl ?_
  refine zV0 hC dX6_best_39 zlX6_194 (c_X5_weigh hD hm hR) (hD _) rfl rfl rfl rfl rfl rfl ?_
  refine z_aload_n hC dX6_best_42 rfl ?_
  refine z_getR hC dX6_best_43 (hD _) zfX6_32 rfl ?_
  refine z_aload_n hC dX6_best_46 rfl ?_
  refine z_getR hC dX6_best_47 (hD _) zfX6_25 rfl ?_
  refine z_aload_n hC dX6_best_50 rfl ?_
  refine z_getR hC dX6_best_51 (hD _) zfX6_10 rfl ?_
  refine z_iload_n hC dX6_best_54 rfl ?_
  refine zV0 hC dX6_best_55 zlX6_229 (c_X0_make hD hwg hmg hR rfl (q := x / 10) (by omega)) (hD _) rfl rfl rfl rfl rfl rfl ?_
  refine z_iload_n hC dX6_best_58 rfl ?_
  refine z_iconst hC dX6_best_59 (v := -1) rfl ?_
  refine z_icmp_ne hC dX6_best_60 (tgt := 74) (by decide) (fun c60 => ?_) (fun c60 => ?_)
  · exact absurd c60 (fun z => z rfl)
  refine z_aload_n hC dX6_best_63 rfl ?_
  refine z_getR hC dX6_best_64 (hD _) zfX6_32 rfl ?_
  refine z_iload_n hC dX6_best_67 rfl ?_
  refine zVv hC dX6_best_68 zlX6_233 (c_X0_foundIn hD (t := x / 10) (by omega)) (hD _) rfl rfl rfl rfl rfl rfl ?_
  refine z_goto hC dX6_best_71 (tgt := 83) (by decide) ?_
  refine z_iret hC dX6_best_83 ?_
  exact hE.to (by rw [plX_26 (Nat.le_refl _)]) rfl rfl rfl

theorem e_best_f (hD : ∀ k, S 3 k = dsh k) (hO : DOK D) (hM : DMe D I X Y) {x y : Int32} (hx : ¬ (iw x 0 9000 ∧ (y = -1 ∨ inB y (D.1.1 0)))) : zC0 mX6_best 8 [zr 3 0, zi x, zi y] (some (zi (-2))) ad S I X Y sz I (rfX 0 X) Y := by
  refine zgo (own := RX6) (k := 1) (by decide +kernel) rfl rfl rfl (fun C hC hnm hE => ?_)
  have hm := hM.1
  have hR := hO.1
  refine z_iload_n hC dX6_best_0 rfl ?_
  refine z_iconst hC dX6_best_1 (v := nI 0) rfl ?_
  refine z_sipush hC dX6_best_2 (v := nI 9000) rfl ?_
  refine zSv hC dX6_best_5 zlX6_58 c_X6_isWithin rfl rfl rfl rfl ?_
  refine z_ifb_eq hC dX6_best_8 (tgt := 19) (by decide) (fun c8 => ?_) (fun c8 => ?_)
  · skip
    refine z_aload_n hC dX6_best_19 rfl ?_
    refine z_bipush hC dX6_best_20 (v := -2) rfl ?_
    refine zVv hC dX6_best_22 zlX6_62 (c_X6_refuse hD (j := 0) (by decide) (by decide)) (hD _) rfl rfl rfl rfl rfl rfl ?_
    refine z_iret hC dX6_best_25 ?_
    exact hE.to (by rfl) rfl rfl rfl
  refine z_aload_n hC dX6_best_11 rfl ?_
  refine z_iload_n hC dX6_best_12 rfl ?_
  refine zVv hC dX6_best_13 zlX6_104 (c_X6_isBendOrNone hD hm hR) (hD _) rfl rfl rfl rfl rfl rfl ?_
  refine z_ifb_ne hC dX6_best_16 (tgt := 26) (by decide) (fun c16 => ?_) (fun c16 => ?_)
  · exact absurd c16 (fun z => hx ⟨c8, z⟩)
  refine z_aload_n hC dX6_best_19 rfl ?_
  refine z_bipush hC dX6_best_20 (v := -2) rfl ?_
  refine zVv hC dX6_best_22 zlX6_62 (c_X6_refuse hD (j := 0) (by decide) (by decide)) (hD _) rfl rfl rfl rfl rfl rfl ?_
  refine z_iret hC dX6_best_25 ?_
  exact hE.to (by rfl) rfl rfl rfl

theorem o_best (hD : ∀ k, S 3 k = dsh k) (hO : DOK D) (hM : DMe D I X Y) {x y : Int32} : dC mX6_best 8 [zr 3 0, zi x, zi y] (some (zi (bestS D x y).1)) (bestS D x y).2 ad S I X Y sz := by
  have hn14 := hO.1.1
  unfold bestS
  by_cases h : iw x 0 9000 ∧ (y = -1 ∨ inB y (D.1.1 0))
  · rw [if_pos h]
    obtain ⟨x, -, h2, rfl, e1⟩ := iw_e h.1 (by decide) (by decide)
    rw [e1]
    by_cases hx : y = -1
    · subst hx
      rw [if_pos rfl]
      exact ⟨_, _, Y, hM.wg.plX, e_best_n hD hO hM h2⟩
    · obtain ⟨b, hb, rfl, e2⟩ := inB_e (h.2.resolve_left hx) (by omega)
      rw [if_neg hx, e2]
      exact ⟨_, _, Y, hM.wg.plX, e_best_b hD hO hM h2 hb⟩
  · rw [if_neg h]
    exact ⟨I, rfX 0 X, Y, hM.rf (by decide), e_best_f hD hO hM h⟩
theorem e_soonest_t (hD : ∀ k, S 3 k = dsh k) (hO : DOK D) (hM : DMe D I X Y) {x : Nat} (hx : x ≤ 1000000) : zC0 mX6_soonest 8 [zr 3 0, zi (nI x)] (some (zi (oI (soF (fun t => (plF D.1 (D.1.1 0) t).1) x 901 0)))) ad S I X Y sz (wgI D.1 (D.1.1 1) I) (plX (cstN D.1) (gnN (signW D.1 (D.1.1 1)) (D.1.2.1 4)) (D.1.1 0) 900 (wgX D.1 (D.1.1 1) X) (D.1.1 0)) Y := by
  refine zgo (own := RX6) (k := 1) (by decide +kernel) rfl rfl rfl (fun C hC hnm hE => ?_)
  have hm := hM.1
  have hR := hO.1
  have hn14 := hR.1
  have hwg := wg_W (s := D.1.1 1) (I := I) (X := X) hR
  have hmg := wg_R (R := D.1) (s := D.1.1 1) (r := 1) (by decide) hm
  have hwb := wbits hwg
  have hpl := plN_le (c := cstN D.1) (g := gnN (signW D.1 (D.1.1 1)) (D.1.2.1 4)) hn14 (fun b l hb hl => fbN_le (wtN_le hwg hb).1) (D.1.1 0) (Nat.le_refl _)
  refine z_iload_n hC dX6_soonest_0 rfl ?_
  refine z_iconst hC dX6_soonest_1 (v := nI 0) rfl ?_
  refine z_ldc hC dX6_soonest_2 (v := nI 1000000) (zin4 (i := 10) rfl rfl) ?_
  refine zSv hC dX6_soonest_4 zlX6_58 c_X6_isWithin rfl rfl rfl rfl ?_
  refine z_ifb_ne hC dX6_soonest_7 (tgt := 17) (by decide) (fun c7 => ?_) (fun c7 => ?_)
  rotate_left
  · exact absurd c7 (fun z => z (iw_of (Nat.zero_le _) hx (by decide)))
  refine z_aload_n hC dX6_soonest_17 rfl ?_
  refine z_getR hC dX6_soonest_18 (hD _) zfX6_25 rfl ?_
  refine z_aload_n hC dX6_soonest_21 rfl ?_
  refine z_getR hC dX6_soonest_22 (hD _) zfX6_10 rfl ?_
  refine zV0 hC dX6_soonest_25 zlX6_194 (c_X5_weigh hD hm hR) (hD _) rfl rfl rfl rfl rfl rfl ?_
  refine z_aload_n hC dX6_soonest_28 rfl ?_
  refine z_getR hC dX6_soonest_29 (hD _) zfX6_32 rfl ?_
  refine z_aload_n hC dX6_soonest_32 rfl ?_
  refine z_getR hC dX6_soonest_33 (hD _) zfX6_25 rfl ?_
  refine z_aload_n hC dX6_soonest_36 rfl ?_
  refine z_getR hC dX6_soonest_37 (hD _) zfX6_10 rfl ?_
  refine z_sipush hC dX6_soonest_40 (v := nI 900) rfl ?_
  refine zV0 hC dX6_soonest_43 zlX6_229 (c_X0_make hD hwg hmg hR rfl (q := 900) (Nat.le_refl _)) (hD _) rfl rfl rfl rfl rfl rfl ?_
  refine z_iconst hC dX6_soonest_46 (v := nI 0) rfl ?_
  refine z_istore_n hC dX6_soonest_47 (lo2 := [_, _, _]) (Nat.le_of_ble_eq_true rfl) rfl rfl ?_
  have loop48 : ∀ (fuel : Nat) (t : Nat), 901 - t < fuel → t ≤ 901 → soF (fun t => (plF D.1 (D.1.1 0) t).1) x (901 - t) t = soF (fun t => (plF D.1 (D.1.1 0) t).1) x 901 0 → zL C 3 ad S 0 0 sz (wgI D.1 (D.1.1 1) I) (plX (cstN D.1) (gnN (signW D.1 (D.1.1 1)) (D.1.2.1 4)) (D.1.1 0) 900 (wgX D.1 (D.1.1 1) X) (D.1.1 0)) Y 48 [some (zr 3 0), some (zi (nI x)), some (zi (nI t))] [] := by
    intro fuel
    induction fuel with
    | zero => intro t hfu; exact absurd hfu (Nat.not_lt_zero _)
    | succ fuel ih =>
      intro t hfu ht hh
      refine z_iload_n hC dX6_soonest_48 rfl ?_
      refine z_sipush hC dX6_soonest_49 (v := nI 900) rfl ?_
      refine z_nicmp_gt hC dX6_soonest_52 (tgt := 78) (by decide) (by omega) (by omega) (fun c52 => ?_) (fun c52 => ?_)
      · skip
        refine z_iconst hC dX6_soonest_78 (v := -1) rfl ?_
        refine z_iret hC dX6_soonest_79 ?_
        exact hE.to (by rw [← hh, show 901 - t = 0 by omega]; rfl) rfl rfl rfl
      have hpt := (hpl t).1
      have h14m : D.1.1 0 * 1000000 ≤ 14 * 1000000 := Nat.mul_le_mul_right _ hn14
      refine z_aload_n hC dX6_soonest_55 rfl ?_
      refine z_getR hC dX6_soonest_56 (hD _) zfX6_32 rfl ?_
      refine z_iload_n hC dX6_soonest_59 rfl ?_
      refine zVv hC dX6_soonest_60 zlX6_233 (c_X0_foundIn hD (t := t) (by omega)) (hD _) rfl rfl rfl rfl rfl rfl ?_
      rw [plX_26 (by omega)]
      refine z_iload_n hC dX6_soonest_63 rfl ?_
      refine z_nicmp_lt hC dX6_soonest_64 (tgt := 72) (by decide) (by omega) (by omega) (fun c64 => ?_) (fun c64 => ?_)
      · skip
        refine z_ninc hC dX6_soonest_72 (lo2 := [_, _, _]) rfl rfl rfl rfl ?_
        refine z_goto hC dX6_soonest_75 (tgt := 48) (by decide) ?_
        refine ih (t + 1) (by omega) (by omega) ?_
        rw [← hh, show 901 - t = (901 - (t + 1)) + 1 by omega]
        exact (if_neg (by show ¬ (x ≤ (plN (cstN D.1) (gnN (signW D.1 (D.1.1 1)) (D.1.2.1 4)) (D.1.1 0) (D.1.1 0) t).1); omega)).symm
      refine z_bipush hC dX6_soonest_67 (v := nI 10) rfl ?_
      refine z_iload_n hC dX6_soonest_69 rfl ?_
      refine z_nmul hC dX6_soonest_70  ?_
      refine z_iret hC dX6_soonest_71 ?_
      exact hE.to (by rw [← hh, show 901 - t = (901 - (t + 1)) + 1 by omega]; show some (zi (oI (if x ≤ (plN (cstN D.1) (gnN (signW D.1 (D.1.1 1)) (D.1.2.1 4)) (D.1.1 0) (D.1.1 0) t).1 then some (10 * t) else _))) = _; rw [if_pos (by omega)]; rfl) rfl rfl rfl
  exact loop48 _ 0 (Nat.lt_succ_self _) (Nat.zero_le _) rfl

theorem e_soonest_f (hD : ∀ k, S 3 k = dsh k) (hO : DOK D) (hM : DMe D I X Y) {x : Int32} (hx : ¬ iw x 0 1000000) : zC0 mX6_soonest 8 [zr 3 0, zi x] (some (zi (-2))) ad S I X Y sz I (rfX 0 X) Y := by
  refine zgo (own := RX6) (k := 1) (by decide +kernel) rfl rfl rfl (fun C hC hnm hE => ?_)
  have hm := hM.1
  have hR := hO.1
  refine z_iload_n hC dX6_soonest_0 rfl ?_
  refine z_iconst hC dX6_soonest_1 (v := nI 0) rfl ?_
  refine z_ldc hC dX6_soonest_2 (v := nI 1000000) (zin4 (i := 10) rfl rfl) ?_
  refine zSv hC dX6_soonest_4 zlX6_58 c_X6_isWithin rfl rfl rfl rfl ?_
  refine z_ifb_ne hC dX6_soonest_7 (tgt := 17) (by decide) (fun c7 => ?_) (fun c7 => ?_)
  · exact absurd c7 hx
  refine z_aload_n hC dX6_soonest_10 rfl ?_
  refine z_bipush hC dX6_soonest_11 (v := -2) rfl ?_
  refine zVv hC dX6_soonest_13 zlX6_62 (c_X6_refuse hD (j := 0) (by decide) (by decide)) (hD _) rfl rfl rfl rfl rfl rfl ?_
  refine z_iret hC dX6_soonest_16 ?_
  exact hE.to (by rfl) rfl rfl rfl

theorem o_soonest (hD : ∀ k, S 3 k = dsh k) (hO : DOK D) (hM : DMe D I X Y) {x : Int32} : dC mX6_soonest 8 [zr 3 0, zi x] (some (zi (soonestS D x).1)) (soonestS D x).2 ad S I X Y sz := by
  unfold soonestS
  by_cases h : iw x 0 1000000
  · rw [if_pos h]
    obtain ⟨x, -, h2, rfl, e1⟩ := iw_e h (by decide) (by decide)
    rw [e1]
    exact ⟨_, _, Y, hM.wg.plX, e_soonest_t hD hO hM h2⟩
  · rw [if_neg h]
    exact ⟨I, rfX 0 X, Y, hM.rf (by decide), e_soonest_f hD hO hM h⟩
theorem e_fast_t (hD : ∀ k, S 3 k = dsh k) (hO : DOK D) (hM : DMe D I X Y) {x : Nat} (hx : x ≤ 1000000) : zC0 mX6_fast 5 [zr 3 0, zi (nI x)] (some (zi (oI (faF (fun p => rheld D.1 p (D.1.1 4) (D.1.1 5)) x 9)))) ad S I X Y sz I X Y := by
  refine zgo (own := RX6) (k := 1) (by decide +kernel) rfl rfl rfl (fun C hC hnm hE => ?_)
  have hm := hM.1
  have hR := hO.1
  refine z_iload_n hC dX6_fast_0 rfl ?_
  refine z_iconst hC dX6_fast_1 (v := nI 0) rfl ?_
  refine z_ldc hC dX6_fast_2 (v := nI 1000000) (zin4 (i := 10) rfl rfl) ?_
  refine zSv hC dX6_fast_4 zlX6_58 c_X6_isWithin rfl rfl rfl rfl ?_
  refine z_ifb_ne hC dX6_fast_7 (tgt := 17) (by decide) (fun c7 => ?_) (fun c7 => ?_)
  rotate_left
  · exact absurd c7 (fun z => z (iw_of (Nat.zero_le _) hx (by decide)))
  refine z_bipush hC dX6_fast_17 (v := nI 9) rfl ?_
  refine z_istore_n hC dX6_fast_19 (lo2 := [_, _, _]) (Nat.le_of_ble_eq_true rfl) rfl rfl ?_
  have loop20 : ∀ (fuel : Nat) (p : Nat), p < fuel → p ≤ 9 → faF (fun p => rheld D.1 p (D.1.1 4) (D.1.1 5)) x p = faF (fun p => rheld D.1 p (D.1.1 4) (D.1.1 5)) x 9 → zL C 3 ad S 0 0 sz I X Y 20 [some (zr 3 0), some (zi (nI x)), some (zi (nI p))] [] := by
    intro fuel
    induction fuel with
    | zero => intro p hfu; exact absurd hfu (Nat.not_lt_zero _)
    | succ fuel ih =>
      intro p hfu hp hh
      refine z_iload_n hC dX6_fast_20 rfl ?_
      refine z_iconst hC dX6_fast_21 (v := nI 1) rfl ?_
      refine z_nicmp_lt hC dX6_fast_22 (tgt := 59) (by decide) (by omega) (by omega) (fun c22 => ?_) (fun c22 => ?_)
      · skip
        obtain rfl : p = 0 := by omega
        refine z_iconst hC dX6_fast_59 (v := -1) rfl ?_
        refine z_iret hC dX6_fast_60 ?_
        exact hE.to (by rw [← hh]; rfl) rfl rfl rfl
      obtain ⟨p, rfl⟩ : ∃ p1, p = p1 + 1 := ⟨p - 1, by omega⟩
      refine z_aload_n hC dX6_fast_25 rfl ?_
      refine z_getR hC dX6_fast_26 (hD _) zfX6_10 rfl ?_
      refine z_iload_n hC dX6_fast_29 rfl ?_
      refine z_aload_n hC dX6_fast_30 rfl ?_
      refine z_getR hC dX6_fast_31 (hD _) zfX6_10 rfl ?_
      refine z_getN hC dX6_fast_34 (hD _) zfX6_250 rfl hm.2.2.2.2.1 ?_
      refine z_aload_n hC dX6_fast_37 rfl ?_
      refine z_getR hC dX6_fast_38 (hD _) zfX6_10 rfl ?_
      refine z_getN hC dX6_fast_41 (hD _) zfX6_253 rfl hm.2.2.2.2.2.1 ?_
      refine zVv hC dX6_fast_44 zlX6_256 (c_X1_heldBy (zRd_1 hD) hm hR (v := p + 1) (by omega) hR.2.2.2.2.1 hR.2.2.2.2.2.1) (hD _) rfl rfl rfl rfl rfl rfl ?_
      change zL C 3 ad S 0 0 sz I X Y _ _ [zi (nI (rheld D.1 (p + 1) (D.1.1 4) (D.1.1 5)))]
      have hrl := rheld_le (R := D.1) (v := p + 1) (w := D.1.1 4) (g := D.1.1 5)
      refine z_iload_n hC dX6_fast_47 rfl ?_
      refine z_nicmp_lt hC dX6_fast_48 (tgt := 53) (by decide) (by omega) (by omega) (fun c48 => ?_) (fun c48 => ?_)
      · skip
        refine z_iinc hC dX6_fast_53 (v := -1) (lo2 := [_, _, _]) rfl rfl (Nat.le_of_ble_eq_true rfl) rfl rfl ?_
        refine z_goto hC dX6_fast_56 (tgt := 20) (by decide) ?_
        rw [nI_dec2]
        refine ih p (by omega) (by omega) ?_
        rw [← hh]
        exact (if_neg (by show ¬ (x ≤ rheld D.1 (p + 1) (D.1.1 4) (D.1.1 5)); omega)).symm
      refine z_iload_n hC dX6_fast_51 rfl ?_
      refine z_iret hC dX6_fast_52 ?_
      exact hE.to (by rw [← hh]; show some (zi (oI (if x ≤ rheld D.1 (p + 1) (D.1.1 4) (D.1.1 5) then some (p + 1) else _))) = _; rw [if_pos (by omega)]; rfl) rfl rfl rfl
  exact loop20 _ 9 (Nat.lt_succ_self _) (Nat.le_refl _) rfl

theorem e_fast_f (hD : ∀ k, S 3 k = dsh k) (hO : DOK D) (hM : DMe D I X Y) {x : Int32} (hx : ¬ iw x 0 1000000) : zC0 mX6_fast 5 [zr 3 0, zi x] (some (zi (-2))) ad S I X Y sz I (rfX 0 X) Y := by
  refine zgo (own := RX6) (k := 1) (by decide +kernel) rfl rfl rfl (fun C hC hnm hE => ?_)
  have hm := hM.1
  have hR := hO.1
  refine z_iload_n hC dX6_fast_0 rfl ?_
  refine z_iconst hC dX6_fast_1 (v := nI 0) rfl ?_
  refine z_ldc hC dX6_fast_2 (v := nI 1000000) (zin4 (i := 10) rfl rfl) ?_
  refine zSv hC dX6_fast_4 zlX6_58 c_X6_isWithin rfl rfl rfl rfl ?_
  refine z_ifb_ne hC dX6_fast_7 (tgt := 17) (by decide) (fun c7 => ?_) (fun c7 => ?_)
  · exact absurd c7 hx
  refine z_aload_n hC dX6_fast_10 rfl ?_
  refine z_bipush hC dX6_fast_11 (v := -2) rfl ?_
  refine zVv hC dX6_fast_13 zlX6_62 (c_X6_refuse hD (j := 0) (by decide) (by decide)) (hD _) rfl rfl rfl rfl rfl rfl ?_
  refine z_iret hC dX6_fast_16 ?_
  exact hE.to (by rfl) rfl rfl rfl

theorem o_fast (hD : ∀ k, S 3 k = dsh k) (hO : DOK D) (hM : DMe D I X Y) {x : Int32} : dC mX6_fast 5 [zr 3 0, zi x] (some (zi (fastS D x).1)) (fastS D x).2 ad S I X Y sz := by
  unfold fastS
  by_cases h : iw x 0 1000000
  · rw [if_pos h]
    obtain ⟨x, -, h2, rfl, e1⟩ := iw_e h (by decide) (by decide)
    rw [e1]
    exact ⟨_, _, Y, hM, e_fast_t hD hO hM h2⟩
  · rw [if_neg h]
    exact ⟨I, rfX 0 X, Y, hM.rf (by decide), e_fast_f hD hO hM h⟩
theorem e_gripFor_t (hD : ∀ k, S 3 k = dsh k) (hO : DOK D) (hM : DMe D I X Y) {x : Nat} (hx : x ≤ 1000000) : zC0 mX6_gripFor 5 [zr 3 0, zi (nI x)] (some (zi (oI (fsF (fun g => rheld D.1 (D.1.1 3) (D.1.1 4) g) x 11 0)))) ad S I X Y sz I X Y := by
  refine zgo (own := RX6) (k := 1) (by decide +kernel) rfl rfl rfl (fun C hC hnm hE => ?_)
  have hm := hM.1
  have hR := hO.1
  refine z_iload_n hC dX6_gripFor_0 rfl ?_
  refine z_iconst hC dX6_gripFor_1 (v := nI 0) rfl ?_
  refine z_ldc hC dX6_gripFor_2 (v := nI 1000000) (zin4 (i := 10) rfl rfl) ?_
  refine zSv hC dX6_gripFor_4 zlX6_58 c_X6_isWithin rfl rfl rfl rfl ?_
  refine z_ifb_ne hC dX6_gripFor_7 (tgt := 17) (by decide) (fun c7 => ?_) (fun c7 => ?_)
  rotate_left
  · exact absurd c7 (fun z => z (iw_of (Nat.zero_le _) hx (by decide)))
  refine z_iconst hC dX6_gripFor_17 (v := nI 0) rfl ?_
  refine z_istore_n hC dX6_gripFor_18 (lo2 := [_, _, _]) (Nat.le_of_ble_eq_true rfl) rfl rfl ?_
  have loop19 : ∀ (fuel : Nat) (g : Nat), 11 - g < fuel → g ≤ 11 → fsF (fun g => rheld D.1 (D.1.1 3) (D.1.1 4) g) x (11 - g) g = fsF (fun g => rheld D.1 (D.1.1 3) (D.1.1 4) g) x 11 0 → zL C 3 ad S 0 0 sz I X Y 19 [some (zr 3 0), some (zi (nI x)), some (zi (nI g))] [] := by
    intro fuel
    induction fuel with
    | zero => intro g hfu; exact absurd hfu (Nat.not_lt_zero _)
    | succ fuel ih =>
      intro g hfu hg hh
      refine z_iload_n hC dX6_gripFor_19 rfl ?_
      refine z_bipush hC dX6_gripFor_20 (v := nI 10) rfl ?_
      refine z_nicmp_gt hC dX6_gripFor_22 (tgt := 59) (by decide) (by omega) (by omega) (fun c22 => ?_) (fun c22 => ?_)
      · skip
        refine z_iconst hC dX6_gripFor_59 (v := -1) rfl ?_
        refine z_iret hC dX6_gripFor_60 ?_
        exact hE.to (by rw [← hh, show 11 - g = 0 by omega]; rfl) rfl rfl rfl
      refine z_aload_n hC dX6_gripFor_25 rfl ?_
      refine z_getR hC dX6_gripFor_26 (hD _) zfX6_10 rfl ?_
      refine z_aload_n hC dX6_gripFor_29 rfl ?_
      refine z_getR hC dX6_gripFor_30 (hD _) zfX6_10 rfl ?_
      refine z_getN hC dX6_gripFor_33 (hD _) zfX6_134 rfl hm.2.2.2.1 ?_
      refine z_aload_n hC dX6_gripFor_36 rfl ?_
      refine z_getR hC dX6_gripFor_37 (hD _) zfX6_10 rfl ?_
      refine z_getN hC dX6_gripFor_40 (hD _) zfX6_250 rfl hm.2.2.2.2.1 ?_
      refine z_iload_n hC dX6_gripFor_43 rfl ?_
      refine zVv hC dX6_gripFor_44 zlX6_256 (c_X1_heldBy (zRd_1 hD) hm hR (g := g) hR.2.2.2.1.2 hR.2.2.2.2.1 (by omega)) (hD _) rfl rfl rfl rfl rfl rfl ?_
      change zL C 3 ad S 0 0 sz I X Y _ _ [zi (nI (rheld D.1 (D.1.1 3) (D.1.1 4) g))]
      have hrl := rheld_le (R := D.1) (v := D.1.1 3) (w := D.1.1 4) (g := g)
      refine z_iload_n hC dX6_gripFor_47 rfl ?_
      refine z_nicmp_lt hC dX6_gripFor_48 (tgt := 53) (by decide) (by omega) (by omega) (fun c48 => ?_) (fun c48 => ?_)
      · skip
        refine z_ninc hC dX6_gripFor_53 (lo2 := [_, _, _]) rfl rfl rfl rfl ?_
        refine z_goto hC dX6_gripFor_56 (tgt := 19) (by decide) ?_
        refine ih (g + 1) (by omega) (by omega) ?_
        rw [← hh, show 11 - g = (11 - (g + 1)) + 1 by omega]
        exact (if_neg (by show ¬ (x ≤ rheld D.1 (D.1.1 3) (D.1.1 4) g); omega)).symm
      refine z_iload_n hC dX6_gripFor_51 rfl ?_
      refine z_iret hC dX6_gripFor_52 ?_
      exact hE.to (by rw [← hh, show 11 - g = (11 - (g + 1)) + 1 by omega]; show some (zi (oI (if x ≤ rheld D.1 (D.1.1 3) (D.1.1 4) g then some g else _))) = _; rw [if_pos (by omega)]; rfl) rfl rfl rfl
  exact loop19 _ 0 (Nat.lt_succ_self _) (Nat.zero_le _) rfl

theorem e_gripFor_f (hD : ∀ k, S 3 k = dsh k) (hO : DOK D) (hM : DMe D I X Y) {x : Int32} (hx : ¬ iw x 0 1000000) : zC0 mX6_gripFor 5 [zr 3 0, zi x] (some (zi (-2))) ad S I X Y sz I (rfX 0 X) Y := by
  refine zgo (own := RX6) (k := 1) (by decide +kernel) rfl rfl rfl (fun C hC hnm hE => ?_)
  have hm := hM.1
  have hR := hO.1
  refine z_iload_n hC dX6_gripFor_0 rfl ?_
  refine z_iconst hC dX6_gripFor_1 (v := nI 0) rfl ?_
  refine z_ldc hC dX6_gripFor_2 (v := nI 1000000) (zin4 (i := 10) rfl rfl) ?_
  refine zSv hC dX6_gripFor_4 zlX6_58 c_X6_isWithin rfl rfl rfl rfl ?_
  refine z_ifb_ne hC dX6_gripFor_7 (tgt := 17) (by decide) (fun c7 => ?_) (fun c7 => ?_)
  · exact absurd c7 hx
  refine z_aload_n hC dX6_gripFor_10 rfl ?_
  refine z_bipush hC dX6_gripFor_11 (v := -2) rfl ?_
  refine zVv hC dX6_gripFor_13 zlX6_62 (c_X6_refuse hD (j := 0) (by decide) (by decide)) (hD _) rfl rfl rfl rfl rfl rfl ?_
  refine z_iret hC dX6_gripFor_16 ?_
  exact hE.to (by rfl) rfl rfl rfl

theorem o_gripFor (hD : ∀ k, S 3 k = dsh k) (hO : DOK D) (hM : DMe D I X Y) {x : Int32} : dC mX6_gripFor 5 [zr 3 0, zi x] (some (zi (gripForS D x).1)) (gripForS D x).2 ad S I X Y sz := by
  unfold gripForS
  by_cases h : iw x 0 1000000
  · rw [if_pos h]
    obtain ⟨x, -, h2, rfl, e1⟩ := iw_e h (by decide) (by decide)
    rw [e1]
    exact ⟨_, _, Y, hM, e_gripFor_t hD hO hM h2⟩
  · rw [if_neg h]
    exact ⟨I, rfX 0 X, Y, hM.rf (by decide), e_gripFor_f hD hO hM h⟩
theorem e_drove_t (hD : ∀ k, S 3 k = dsh k) (hO : DOK D) (hM : DMe D I X Y) {x : Nat} (hx : x < D.1.1 0) : zC0 mX6_drove 6 [zr 3 0, zi (nI x)] (some (zi (nI (dvF (fun p => fellN (rfall D.1 p) x) 8)))) ad S I X Y sz I X Y := by
  refine zgo (own := RX6) (k := 2) (by decide +kernel) rfl rfl rfl (fun C hC hnm hE => ?_)
  have hm := hM.1
  have hR := hO.1
  have hn14 := hR.1
  refine z_aload_n hC dX6_drove_0 rfl ?_
  refine z_getR hC dX6_drove_1 (hD _) zfX6_10 rfl ?_
  refine z_getR hC dX6_drove_4 (hD _) zfX6_115 rfl ?_
  refine z_iload_n hC dX6_drove_7 rfl ?_
  refine zVv hC dX6_drove_8 zlX6_119 (c_bhas hD hm) (hD _) rfl rfl rfl rfl rfl rfl ?_
  refine z_ifb_ne hC dX6_drove_11 (tgt := 21) (by decide) (fun c11 => ?_) (fun c11 => ?_)
  rotate_left
  · exact absurd c11 (fun z => z (inB_of hx (by omega)))
  refine z_iconst hC dX6_drove_21 (v := nI 1) rfl ?_
  refine z_istore_n hC dX6_drove_22 (lo2 := [_, _, _, _]) (Nat.le_of_ble_eq_true rfl) rfl rfl ?_
  refine z_iconst hC dX6_drove_23 (v := nI 2) rfl ?_
  refine z_istore_n hC dX6_drove_24 (lo2 := [_, _, _, _]) (Nat.le_of_ble_eq_true rfl) rfl rfl ?_
  have loop25 : ∀ (fuel : Nat) (k : Nat), 8 - k < fuel → k ≤ 8 → zL C 4 ad S 0 0 sz I X Y 25 [some (zr 3 0), some (zi (nI x)), some (zi (nI (dvF (fun p => fellN (rfall D.1 p) x) k))), some (zi (nI (k + 2)))] [] := by
    intro fuel
    induction fuel with
    | zero => intro k hfu; exact absurd hfu (Nat.not_lt_zero _)
    | succ fuel ih =>
      intro k hfu hk8
      have hdl := dvF_le (f := (fun p => fellN (rfall D.1 p) x)) k
      refine z_iload_n hC dX6_drove_25 rfl ?_
      refine z_bipush hC dX6_drove_26 (v := nI 9) rfl ?_
      refine z_nicmp_gt hC dX6_drove_28 (tgt := 60) (by decide) (by omega) (by omega) (fun c28 => ?_) (fun c28 => ?_)
      · skip
        refine z_iload_n hC dX6_drove_60 rfl ?_
        refine z_iret hC dX6_drove_61 ?_
        exact hE.to (by rw [show 8 = k by omega]) rfl rfl rfl
      have hfl : ∀ v, v ≤ 9 → fellN (rfall D.1 v) x ≤ 1000000 := fun v hv => Nat.le_trans (fellN_le (by have := rfall_le (v := v) hR hx hv; omega)) (heldN_le _ _)
      have hf1 := hfl (k + 2) (by omega)
      have hf2 := hfl (dvF (fun p => fellN (rfall D.1 p) x) k) (by omega)
      refine z_aload_n hC dX6_drove_31 rfl ?_
      refine z_getR hC dX6_drove_32 (hD _) zfX6_10 rfl ?_
      refine z_iload_n hC dX6_drove_35 rfl ?_
      refine z_iload_n hC dX6_drove_36 rfl ?_
      refine zVv hC dX6_drove_37 zlX6_191 (c_X1_fellAt (zRd_1 hD) hm hR hx (v := k + 2) (by omega)) (hD _) rfl rfl rfl rfl rfl rfl ?_
      refine z_aload_n hC dX6_drove_40 rfl ?_
      refine z_getR hC dX6_drove_41 (hD _) zfX6_10 rfl ?_
      refine z_iload_n hC dX6_drove_44 rfl ?_
      refine z_iload_n hC dX6_drove_45 rfl ?_
      refine zVv hC dX6_drove_46 zlX6_191 (c_X1_fellAt (zRd_1 hD) hm hR hx (v := dvF (fun p => fellN (rfall D.1 p) x) k) (by omega)) (hD _) rfl rfl rfl rfl rfl rfl ?_
      refine z_nicmp_le hC dX6_drove_49 (tgt := 54) (by decide) (by omega) (by omega) (fun c49 => ?_) (fun c49 => ?_)
      · skip
        refine z_ninc hC dX6_drove_54 (lo2 := [_, _, _, _]) rfl rfl rfl rfl ?_
        refine z_goto hC dX6_drove_57 (tgt := 25) (by decide) ?_
        refine z_sub ?_ (ih (k + 1) (by omega) (by omega))
        first | (rw [show dvF (fun p => fellN (rfall D.1 p) x) (k + 1) = k + 2 from if_pos (by show fellN _ x < fellN _ x; omega)]; simp [zsub]) | (rw [show dvF (fun p => fellN (rfall D.1 p) x) (k + 1) = dvF (fun p => fellN (rfall D.1 p) x) k from if_neg (by show ¬ (fellN _ x < fellN _ x); omega)]; simp [zsub])
      refine z_iload_n hC dX6_drove_52 rfl ?_
      refine z_istore_n hC dX6_drove_53 (lo2 := [_, _, _, _]) (Nat.le_of_ble_eq_true rfl) rfl rfl ?_
      refine z_ninc hC dX6_drove_54 (lo2 := [_, _, _, _]) rfl rfl rfl rfl ?_
      refine z_goto hC dX6_drove_57 (tgt := 25) (by decide) ?_
      refine z_sub ?_ (ih (k + 1) (by omega) (by omega))
      first | (rw [show dvF (fun p => fellN (rfall D.1 p) x) (k + 1) = k + 2 from if_pos (by show fellN _ x < fellN _ x; omega)]; simp [zsub]) | (rw [show dvF (fun p => fellN (rfall D.1 p) x) (k + 1) = dvF (fun p => fellN (rfall D.1 p) x) k from if_neg (by show ¬ (fellN _ x < fellN _ x); omega)]; simp [zsub])
  exact z_sub (by simp [zsub, dvF]) (loop25 _ 0 (Nat.lt_succ_self _) (Nat.zero_le _))

theorem e_drove_f (hD : ∀ k, S 3 k = dsh k) (hO : DOK D) (hM : DMe D I X Y) {x : Int32} (hx : ¬ inB x (D.1.1 0)) : zC0 mX6_drove 6 [zr 3 0, zi x] (some (zi (-2))) ad S I X Y sz I (rfX 0 X) Y := by
  refine zgo (own := RX6) (k := 2) (by decide +kernel) rfl rfl rfl (fun C hC hnm hE => ?_)
  have hm := hM.1
  have hR := hO.1
  refine z_aload_n hC dX6_drove_0 rfl ?_
  refine z_getR hC dX6_drove_1 (hD _) zfX6_10 rfl ?_
  refine z_getR hC dX6_drove_4 (hD _) zfX6_115 rfl ?_
  refine z_iload_n hC dX6_drove_7 rfl ?_
  refine zVv hC dX6_drove_8 zlX6_119 (c_bhas hD hm) (hD _) rfl rfl rfl rfl rfl rfl ?_
  refine z_ifb_ne hC dX6_drove_11 (tgt := 21) (by decide) (fun c11 => ?_) (fun c11 => ?_)
  · exact absurd c11 hx
  refine z_aload_n hC dX6_drove_14 rfl ?_
  refine z_bipush hC dX6_drove_15 (v := -2) rfl ?_
  refine zVv hC dX6_drove_17 zlX6_62 (c_X6_refuse hD (j := 0) (by decide) (by decide)) (hD _) rfl rfl rfl rfl rfl rfl ?_
  refine z_iret hC dX6_drove_20 ?_
  exact hE.to (by rfl) rfl rfl rfl

theorem o_drove (hD : ∀ k, S 3 k = dsh k) (hO : DOK D) (hM : DMe D I X Y) {x : Int32} : dC mX6_drove 6 [zr 3 0, zi x] (some (zi (droveS D x).1)) (droveS D x).2 ad S I X Y sz := by
  have hn14 := hO.1.1
  unfold droveS
  by_cases h : inB x (D.1.1 0)
  · rw [if_pos h]
    obtain ⟨x, h2, rfl, e1⟩ := inB_e h (by omega)
    rw [e1]
    exact ⟨_, _, Y, hM, e_drove_t hD hO hM h2⟩
  · rw [if_neg h]
    exact ⟨I, rfX 0 X, Y, hM.rf (by decide), e_drove_f hD hO hM h⟩
theorem e_otherwise_t (hD : ∀ k, S 3 k = dsh k) (hO : DOK D) (hM : DMe D I X Y)  : zC0 mX6_otherwise 5 [zr 3 0] (some (zi (nI (rheld D.1 (D.1.1 3) (1 - D.1.1 4) (D.1.1 5))))) ad S I X Y sz I X Y := by
  refine zgo (own := RX6) (k := 0) (by decide +kernel) rfl rfl rfl (fun C hC hnm hE => ?_)
  have hm := hM.1
  have hR := hO.1
  have hw1 := hR.2.2.2.2.1
  refine z_aload_n hC dX6_otherwise_0 rfl ?_
  refine z_getR hC dX6_otherwise_1 (hD _) zfX6_10 rfl ?_
  refine z_aload_n hC dX6_otherwise_4 rfl ?_
  refine z_getR hC dX6_otherwise_5 (hD _) zfX6_10 rfl ?_
  refine z_getN hC dX6_otherwise_8 (hD _) zfX6_134 rfl hm.2.2.2.1 ?_
  refine z_iconst hC dX6_otherwise_11 (v := nI 1) rfl ?_
  refine z_aload_n hC dX6_otherwise_12 rfl ?_
  refine z_getR hC dX6_otherwise_13 (hD _) zfX6_10 rfl ?_
  refine z_getN hC dX6_otherwise_16 (hD _) zfX6_250 rfl hm.2.2.2.2.1 ?_
  refine z_nsub hC dX6_otherwise_19 (by omega) ?_
  refine z_aload_n hC dX6_otherwise_20 rfl ?_
  refine z_getR hC dX6_otherwise_21 (hD _) zfX6_10 rfl ?_
  refine z_getN hC dX6_otherwise_24 (hD _) zfX6_253 rfl hm.2.2.2.2.2.1 ?_
  refine zVv hC dX6_otherwise_27 zlX6_256 (c_X1_heldBy (zRd_1 hD) hm hR hR.2.2.2.1.2 (w := 1 - D.1.1 4) (by omega) hR.2.2.2.2.2.1) (hD _) rfl rfl rfl rfl rfl rfl ?_
  refine z_iret hC dX6_otherwise_30 ?_
  exact hE.to (by rfl) rfl rfl rfl

theorem o_otherwise (hD : ∀ k, S 3 k = dsh k) (hO : DOK D) (hM : DMe D I X Y) : dC mX6_otherwise 5 [zr 3 0] (some (zi (otherwiseS D).1)) (otherwiseS D).2 ad S I X Y sz := ⟨_, _, Y, hM, e_otherwise_t hD hO hM⟩
theorem e_without_t (hD : ∀ k, S 3 k = dsh k) (hO : DOK D) (hM : DMe D I X Y) {x : Nat} (hx : x < D.1.1 0) : zC0 mX6_without 6 [zr 3 0, zi (nI x)] (some (zi (nI (heldN (hflN D.1 0 (2 ^ x)) (D.1.1 0))))) ad S I X Y sz I X Y := by
  refine zgo (own := RX6) (k := 0) (by decide +kernel) rfl rfl rfl (fun C hC hnm hE => ?_)
  have hm := hM.1
  have hR := hO.1
  have hn14 := hR.1
  have h2x : 2 ^ x < 2 ^ 14 := Nat.pow_lt_pow_right (by decide) (by omega)
  refine z_aload_n hC dX6_without_0 rfl ?_
  refine z_getR hC dX6_without_1 (hD _) zfX6_10 rfl ?_
  refine z_getR hC dX6_without_4 (hD _) zfX6_115 rfl ?_
  refine z_iload_n hC dX6_without_7 rfl ?_
  refine zVv hC dX6_without_8 zlX6_119 (c_bhas hD hm) (hD _) rfl rfl rfl rfl rfl rfl ?_
  refine z_ifb_ne hC dX6_without_11 (tgt := 21) (by decide) (fun c11 => ?_) (fun c11 => ?_)
  rotate_left
  · exact absurd c11 (fun z => z (inB_of hx (by omega)))
  refine z_aload_n hC dX6_without_21 rfl ?_
  refine z_getR hC dX6_without_22 (hD _) zfX6_10 rfl ?_
  refine z_iconst hC dX6_without_25 (v := nI 0) rfl ?_
  refine z_iconst hC dX6_without_26 (v := nI 1) rfl ?_
  refine z_iload_n hC dX6_without_27 rfl ?_
  refine z_ishl hC dX6_without_28  ?_
  rw [zshl1 x (by omega)]
  refine zVv hC dX6_without_29 zlX6_264 (c_X1_heldWith (zRd_1 hD) hm hR (m1 := 0) (m2 := 2 ^ x) (by decide) (by omega)) (hD _) rfl rfl rfl rfl rfl rfl ?_
  refine z_iret hC dX6_without_32 ?_
  exact hE.to (by rfl) rfl rfl rfl

theorem e_without_f (hD : ∀ k, S 3 k = dsh k) (hO : DOK D) (hM : DMe D I X Y) {x : Int32} (hx : ¬ inB x (D.1.1 0)) : zC0 mX6_without 6 [zr 3 0, zi x] (some (zi (-2))) ad S I X Y sz I (rfX 0 X) Y := by
  refine zgo (own := RX6) (k := 0) (by decide +kernel) rfl rfl rfl (fun C hC hnm hE => ?_)
  have hm := hM.1
  have hR := hO.1
  refine z_aload_n hC dX6_without_0 rfl ?_
  refine z_getR hC dX6_without_1 (hD _) zfX6_10 rfl ?_
  refine z_getR hC dX6_without_4 (hD _) zfX6_115 rfl ?_
  refine z_iload_n hC dX6_without_7 rfl ?_
  refine zVv hC dX6_without_8 zlX6_119 (c_bhas hD hm) (hD _) rfl rfl rfl rfl rfl rfl ?_
  refine z_ifb_ne hC dX6_without_11 (tgt := 21) (by decide) (fun c11 => ?_) (fun c11 => ?_)
  · exact absurd c11 hx
  refine z_aload_n hC dX6_without_14 rfl ?_
  refine z_bipush hC dX6_without_15 (v := -2) rfl ?_
  refine zVv hC dX6_without_17 zlX6_62 (c_X6_refuse hD (j := 0) (by decide) (by decide)) (hD _) rfl rfl rfl rfl rfl rfl ?_
  refine z_iret hC dX6_without_20 ?_
  exact hE.to (by rfl) rfl rfl rfl

theorem o_without (hD : ∀ k, S 3 k = dsh k) (hO : DOK D) (hM : DMe D I X Y) {x : Int32} : dC mX6_without 6 [zr 3 0, zi x] (some (zi (withoutS D x).1)) (withoutS D x).2 ad S I X Y sz := by
  have hn14 := hO.1.1
  unfold withoutS
  by_cases h : inB x (D.1.1 0)
  · rw [if_pos h]
    obtain ⟨x, h2, rfl, e1⟩ := inB_e h (by omega)
    rw [e1]
    exact ⟨_, _, Y, hM, e_without_t hD hO hM h2⟩
  · rw [if_neg h]
    exact ⟨I, rfX 0 X, Y, hM.rf (by decide), e_without_f hD hO hM h⟩
theorem e_once_t (hD : ∀ k, S 3 k = dsh k) (hO : DOK D) (hM : DMe D I X Y) {x : Nat} (hx : x ≤ 999) : zC0 mX6_once 6 [zr 3 0, zi (nI x)] (some (zi (nI (1000000 - atF (nowN D.1) x)))) ad S I X Y sz I X Y := by
  refine zgo (own := RX6) (k := 3) (by decide +kernel) rfl rfl rfl (fun C hC hnm hE => ?_)
  have hm := hM.1
  have hR := hO.1
  have hrl := rheld_le (R := D.1) (v := D.1.1 3) (w := D.1.1 4) (g := D.1.1 5)
  have hal := atF_le hrl
  refine z_iload_n hC dX6_once_0 rfl ?_
  refine z_iconst hC dX6_once_1 (v := nI 0) rfl ?_
  refine z_sipush hC dX6_once_2 (v := nI 999) rfl ?_
  refine zSv hC dX6_once_5 zlX6_58 c_X6_isWithin rfl rfl rfl rfl ?_
  refine z_ifb_ne hC dX6_once_8 (tgt := 18) (by decide) (fun c8 => ?_) (fun c8 => ?_)
  rotate_left
  · exact absurd c8 (fun z => z (iw_of (Nat.zero_le _) hx (by decide)))
  refine z_aload_n hC dX6_once_18 rfl ?_
  refine zVv hC dX6_once_19 zlX6_267 (c_X6_heldNow hD hm hR) (hD _) rfl rfl rfl rfl rfl rfl ?_
  refine z_istore_n hC dX6_once_22 (lo2 := [_, _, _, _, _]) (Nat.le_of_ble_eq_true rfl) rfl rfl ?_
  refine z_ldc hC dX6_once_23 (v := nI 1000000) (zin4 (i := 10) rfl rfl) ?_
  refine z_istore_n hC dX6_once_25 (lo2 := [_, _, _, _, _]) (Nat.le_of_ble_eq_true rfl) rfl rfl ?_
  refine z_iconst hC dX6_once_26 (v := nI 0) rfl ?_
  refine z_istore hC dX6_once_27 (lo2 := [_, _, _, _, _]) (Nat.le_of_ble_eq_true rfl) rfl rfl ?_
  have loop29 : ∀ (fuel : Nat) (k : Nat), x - k < fuel → k ≤ x → zL C 5 ad S 0 0 sz I X Y 29 [some (zr 3 0), some (zi (nI x)), some (zi (nI (nowN D.1))), some (zi (nI (atF (nowN D.1) k))), some (zi (nI k))] [] := by
    intro fuel
    induction fuel with
    | zero => intro k hfu; exact absurd hfu (Nat.not_lt_zero _)
    | succ fuel ih =>
      intro k hfu hk
      refine z_iload hC dX6_once_29 rfl ?_
      refine z_iload_n hC dX6_once_31 rfl ?_
      refine z_nicmp_ge hC dX6_once_32 (tgt := 47) (by decide) (by omega) (by omega) (fun c32 => ?_) (fun c32 => ?_)
      · skip
        obtain rfl : k = x := by omega
        have hakx := hal k
        refine z_ldc hC dX6_once_47 (v := nI 1000000) (zin4 (i := 10) rfl rfl) ?_
        refine z_iload_n hC dX6_once_49 rfl ?_
        refine z_nsub hC dX6_once_50 (by omega) ?_
        refine z_iret hC dX6_once_51 ?_
        exact hE.to (by rfl) rfl rfl rfl
      refine z_iload_n hC dX6_once_35 rfl ?_
      refine z_iload_n hC dX6_once_36 rfl ?_
      refine zSv hC dX6_once_37 zlX6_270 (c_X6_afterTrip (hal k) hrl) rfl rfl rfl rfl ?_
      refine z_istore_n hC dX6_once_40 (lo2 := [_, _, _, _, _]) (Nat.le_of_ble_eq_true rfl) rfl rfl ?_
      refine z_ninc hC dX6_once_41 (lo2 := [_, _, _, _, _]) rfl rfl rfl rfl ?_
      refine z_goto hC dX6_once_44 (tgt := 29) (by decide) ?_
      exact ih (k + 1) (by omega) (by omega)
  exact loop29 _ 0 (Nat.lt_succ_self _) (Nat.zero_le _)

theorem e_once_f (hD : ∀ k, S 3 k = dsh k) (hO : DOK D) (hM : DMe D I X Y) {x : Int32} (hx : ¬ iw x 0 999) : zC0 mX6_once 6 [zr 3 0, zi x] (some (zi (-2))) ad S I X Y sz I (rfX 0 X) Y := by
  refine zgo (own := RX6) (k := 3) (by decide +kernel) rfl rfl rfl (fun C hC hnm hE => ?_)
  have hm := hM.1
  have hR := hO.1
  refine z_iload_n hC dX6_once_0 rfl ?_
  refine z_iconst hC dX6_once_1 (v := nI 0) rfl ?_
  refine z_sipush hC dX6_once_2 (v := nI 999) rfl ?_
  refine zSv hC dX6_once_5 zlX6_58 c_X6_isWithin rfl rfl rfl rfl ?_
  refine z_ifb_ne hC dX6_once_8 (tgt := 18) (by decide) (fun c8 => ?_) (fun c8 => ?_)
  · exact absurd c8 hx
  refine z_aload_n hC dX6_once_11 rfl ?_
  refine z_bipush hC dX6_once_12 (v := -2) rfl ?_
  refine zVv hC dX6_once_14 zlX6_62 (c_X6_refuse hD (j := 0) (by decide) (by decide)) (hD _) rfl rfl rfl rfl rfl rfl ?_
  refine z_iret hC dX6_once_17 ?_
  exact hE.to (by rfl) rfl rfl rfl

theorem o_once (hD : ∀ k, S 3 k = dsh k) (hO : DOK D) (hM : DMe D I X Y) {x : Int32} : dC mX6_once 6 [zr 3 0, zi x] (some (zi (onceS D x).1)) (onceS D x).2 ad S I X Y sz := by
  unfold onceS
  by_cases h : iw x 0 999
  · rw [if_pos h]
    obtain ⟨x, -, h2, rfl, e1⟩ := iw_e h (by decide) (by decide)
    rw [e1]
    exact ⟨_, _, Y, hM, e_once_t hD hO hM h2⟩
  · rw [if_neg h]
    exact ⟨I, rfX 0 X, Y, hM.rf (by decide), e_once_f hD hO hM h⟩
theorem e_until_t (hD : ∀ k, S 3 k = dsh k) (hO : DOK D) (hM : DMe D I X Y) {x : Nat} (hx : x ≤ 1000000) : zC0 mX6_until 6 [zr 3 0, zi (nI x)] (some (zi (oI (fsF (fun k => 1000000 - atF (nowN D.1) k) x 1000 0)))) ad S I X Y sz I X Y := by
  refine zgo (own := RX6) (k := 3) (by decide +kernel) rfl rfl rfl (fun C hC hnm hE => ?_)
  have hm := hM.1
  have hR := hO.1
  have hrl := rheld_le (R := D.1) (v := D.1.1 3) (w := D.1.1 4) (g := D.1.1 5)
  have hal := atF_le hrl
  refine z_iload_n hC dX6_until_0 rfl ?_
  refine z_iconst hC dX6_until_1 (v := nI 0) rfl ?_
  refine z_ldc hC dX6_until_2 (v := nI 1000000) (zin4 (i := 10) rfl rfl) ?_
  refine zSv hC dX6_until_4 zlX6_58 c_X6_isWithin rfl rfl rfl rfl ?_
  refine z_ifb_ne hC dX6_until_7 (tgt := 17) (by decide) (fun c7 => ?_) (fun c7 => ?_)
  rotate_left
  · exact absurd c7 (fun z => z (iw_of (Nat.zero_le _) hx (by decide)))
  refine z_aload_n hC dX6_until_17 rfl ?_
  refine zVv hC dX6_until_18 zlX6_267 (c_X6_heldNow hD hm hR) (hD _) rfl rfl rfl rfl rfl rfl ?_
  refine z_istore_n hC dX6_until_21 (lo2 := [_, _, _, _, _]) (Nat.le_of_ble_eq_true rfl) rfl rfl ?_
  refine z_ldc hC dX6_until_22 (v := nI 1000000) (zin4 (i := 10) rfl rfl) ?_
  refine z_istore_n hC dX6_until_24 (lo2 := [_, _, _, _, _]) (Nat.le_of_ble_eq_true rfl) rfl rfl ?_
  refine z_iconst hC dX6_until_25 (v := nI 0) rfl ?_
  refine z_istore hC dX6_until_26 (lo2 := [_, _, _, _, _]) (Nat.le_of_ble_eq_true rfl) rfl rfl ?_
  have loop28 : ∀ (fuel : Nat) (k : Nat), 1000 - k < fuel → k ≤ 1000 → fsF (fun k => 1000000 - atF (nowN D.1) k) x (1000 - k) k = fsF (fun k => 1000000 - atF (nowN D.1) k) x 1000 0 → zL C 5 ad S 0 0 sz I X Y 28 [some (zr 3 0), some (zi (nI x)), some (zi (nI (rheld D.1 (D.1.1 3) (D.1.1 4) (D.1.1 5)))), some (zi (nI (atF (rheld D.1 (D.1.1 3) (D.1.1 4) (D.1.1 5)) k))), some (zi (nI k))] [] := by
    intro fuel
    induction fuel with
    | zero => intro k hfu; exact absurd hfu (Nat.not_lt_zero _)
    | succ fuel ih =>
      intro k hfu hk hh
      have hakx := hal k
      refine z_iload hC dX6_until_28 rfl ?_
      refine z_sipush hC dX6_until_30 (v := nI 999) rfl ?_
      refine z_nicmp_gt hC dX6_until_33 (tgt := 59) (by decide) (by omega) (by omega) (fun c33 => ?_) (fun c33 => ?_)
      · skip
        refine z_iconst hC dX6_until_59 (v := -1) rfl ?_
        refine z_iret hC dX6_until_60 ?_
        exact hE.to (by rw [← hh, show 1000 - k = 0 by omega]; rfl) rfl rfl rfl
      refine z_ldc hC dX6_until_36 (v := nI 1000000) (zin4 (i := 10) rfl rfl) ?_
      refine z_iload_n hC dX6_until_38 rfl ?_
      refine z_nsub hC dX6_until_39 (by omega) ?_
      refine z_iload_n hC dX6_until_40 rfl ?_
      refine z_nicmp_lt hC dX6_until_41 (tgt := 47) (by decide) (by omega) (by omega) (fun c41 => ?_) (fun c41 => ?_)
      · skip
        refine z_iload_n hC dX6_until_47 rfl ?_
        refine z_iload_n hC dX6_until_48 rfl ?_
        refine zSv hC dX6_until_49 zlX6_270 (c_X6_afterTrip (hal k) hrl) rfl rfl rfl rfl ?_
        refine z_istore_n hC dX6_until_52 (lo2 := [_, _, _, _, _]) (Nat.le_of_ble_eq_true rfl) rfl rfl ?_
        refine z_ninc hC dX6_until_53 (lo2 := [_, _, _, _, _]) rfl rfl rfl rfl ?_
        refine z_goto hC dX6_until_56 (tgt := 28) (by decide) ?_
        refine ih (k + 1) (by omega) (by omega) ?_
        rw [← hh, show 1000 - k = (1000 - (k + 1)) + 1 by omega]
        exact (if_neg (by show ¬ (x ≤ 1000000 - atF (rheld D.1 (D.1.1 3) (D.1.1 4) (D.1.1 5)) k); omega)).symm
      refine z_iload hC dX6_until_44 rfl ?_
      refine z_iret hC dX6_until_46 ?_
      exact hE.to (by rw [← hh, show 1000 - k = (1000 - (k + 1)) + 1 by omega]; show some (zi (oI (if x ≤ 1000000 - atF (rheld D.1 (D.1.1 3) (D.1.1 4) (D.1.1 5)) k then some k else _))) = _; rw [if_pos (by omega)]; rfl) rfl rfl rfl
  exact loop28 _ 0 (Nat.lt_succ_self _) (Nat.zero_le _) rfl

theorem e_until_f (hD : ∀ k, S 3 k = dsh k) (hO : DOK D) (hM : DMe D I X Y) {x : Int32} (hx : ¬ iw x 0 1000000) : zC0 mX6_until 6 [zr 3 0, zi x] (some (zi (-2))) ad S I X Y sz I (rfX 0 X) Y := by
  refine zgo (own := RX6) (k := 3) (by decide +kernel) rfl rfl rfl (fun C hC hnm hE => ?_)
  have hm := hM.1
  have hR := hO.1
  refine z_iload_n hC dX6_until_0 rfl ?_
  refine z_iconst hC dX6_until_1 (v := nI 0) rfl ?_
  refine z_ldc hC dX6_until_2 (v := nI 1000000) (zin4 (i := 10) rfl rfl) ?_
  refine zSv hC dX6_until_4 zlX6_58 c_X6_isWithin rfl rfl rfl rfl ?_
  refine z_ifb_ne hC dX6_until_7 (tgt := 17) (by decide) (fun c7 => ?_) (fun c7 => ?_)
  · exact absurd c7 hx
  refine z_aload_n hC dX6_until_10 rfl ?_
  refine z_bipush hC dX6_until_11 (v := -2) rfl ?_
  refine zVv hC dX6_until_13 zlX6_62 (c_X6_refuse hD (j := 0) (by decide) (by decide)) (hD _) rfl rfl rfl rfl rfl rfl ?_
  refine z_iret hC dX6_until_16 ?_
  exact hE.to (by rfl) rfl rfl rfl

theorem o_until (hD : ∀ k, S 3 k = dsh k) (hO : DOK D) (hM : DMe D I X Y) {x : Int32} : dC mX6_until 6 [zr 3 0, zi x] (some (zi (untilS D x).1)) (untilS D x).2 ad S I X Y sz := by
  unfold untilS
  by_cases h : iw x 0 1000000
  · rw [if_pos h]
    obtain ⟨x, -, h2, rfl, e1⟩ := iw_e h (by decide) (by decide)
    rw [e1]
    exact ⟨_, _, Y, hM, e_until_t hD hO hM h2⟩
  · rw [if_neg h]
    exact ⟨I, rfX 0 X, Y, hM.rf (by decide), e_until_f hD hO hM h⟩
theorem e_worth_t (hD : ∀ k, S 3 k = dsh k) (hO : DOK D) (hM : DMe D I X Y) {x y u : Nat} (hx : x ≤ 999) (hy : y ≤ 999) (hu : u ≤ 9999) : zC0 mX6_worth 6 [zr 3 0, zi (nI x), zi (nI y), zi (nI u)] (some (zi (nI (x * y * (1000000 - nowN D.1) / 1000000) - nI u))) ad S I X Y sz I X Y := by
  refine zgo (own := RX6) (k := 2) (by decide +kernel) rfl rfl rfl (fun C hC hnm hE => ?_)
  have hm := hM.1
  have hR := hO.1
  have hrl := rheld_le (R := D.1) (v := D.1.1 3) (w := D.1.1 4) (g := D.1.1 5)
  have hxy : x * y ≤ 999 * 999 := Nat.mul_le_mul hx hy
  have hxyz : x * y * (1000000 - rheld D.1 (D.1.1 3) (D.1.1 4) (D.1.1 5)) ≤ 999 * 999 * 1000000 := Nat.mul_le_mul hxy (by omega)
  refine z_iload_n hC dX6_worth_0 rfl ?_
  refine z_iconst hC dX6_worth_1 (v := nI 0) rfl ?_
  refine z_sipush hC dX6_worth_2 (v := nI 999) rfl ?_
  refine zSv hC dX6_worth_5 zlX6_58 c_X6_isWithin rfl rfl rfl rfl ?_
  refine z_ifb_eq hC dX6_worth_8 (tgt := 33) (by decide) (fun c8 => ?_) (fun c8 => ?_)
  · exact absurd c8 (fun z => z (iw_of (Nat.zero_le _) hx (by decide)))
  refine z_iload_n hC dX6_worth_11 rfl ?_
  refine z_iconst hC dX6_worth_12 (v := nI 0) rfl ?_
  refine z_sipush hC dX6_worth_13 (v := nI 999) rfl ?_
  refine zSv hC dX6_worth_16 zlX6_58 c_X6_isWithin rfl rfl rfl rfl ?_
  refine z_ifb_eq hC dX6_worth_19 (tgt := 33) (by decide) (fun c19 => ?_) (fun c19 => ?_)
  · exact absurd c19 (fun z => z (iw_of (Nat.zero_le _) hy (by decide)))
  refine z_iload_n hC dX6_worth_22 rfl ?_
  refine z_iconst hC dX6_worth_23 (v := nI 0) rfl ?_
  refine z_sipush hC dX6_worth_24 (v := nI 9999) rfl ?_
  refine zSv hC dX6_worth_27 zlX6_58 c_X6_isWithin rfl rfl rfl rfl ?_
  refine z_ifb_ne hC dX6_worth_30 (tgt := 44) (by decide) (fun c30 => ?_) (fun c30 => ?_)
  rotate_left
  · exact absurd c30 (fun z => z (iw_of (Nat.zero_le _) hu (by decide)))
  refine z_iload_n hC dX6_worth_44 rfl ?_
  refine z_n2m hC dX6_worth_45 (by omega) ?_
  refine z_iload_n hC dX6_worth_46 rfl ?_
  refine z_n2m hC dX6_worth_47 (by omega) ?_
  refine z_mmul hC dX6_worth_48  ?_
  refine z_ldc hC dX6_worth_49 (v := nI 1000000) (zin4 (i := 10) rfl rfl) ?_
  refine z_aload_n hC dX6_worth_51 rfl ?_
  refine zVv hC dX6_worth_52 zlX6_267 (c_X6_heldNow hD hm hR) (hD _) rfl rfl rfl rfl rfl rfl ?_
  refine z_nsub hC dX6_worth_55 (by omega) ?_
  refine z_n2m hC dX6_worth_56 (by omega) ?_
  refine z_mmul hC dX6_worth_57  ?_
  refine z_ldc2 hC dX6_worth_58 (v := lN 1000000) (zin4 (i := 86) rfl rfl) ?_
  refine z_mdiv hC dX6_worth_61 (by omega) (by omega) (by omega) ?_
  refine z_lstore hC dX6_worth_62 (lo2 := [_, _, _, _, _, _]) (Nat.le_of_ble_eq_true rfl) rfl rfl ?_
  refine z_lload hC dX6_worth_64 rfl ?_
  refine z_m2n hC dX6_worth_66  ?_
  refine z_iload_n hC dX6_worth_67 rfl ?_
  refine z_isub hC dX6_worth_68  ?_
  refine z_iret hC dX6_worth_69 ?_
  exact hE.to (by rfl) rfl rfl rfl

theorem e_worth_f (hD : ∀ k, S 3 k = dsh k) (hO : DOK D) (hM : DMe D I X Y) {x y u : Int32} (hx : ¬ (iw x 0 999 ∧ iw y 0 999 ∧ iw u 0 9999)) : zC0 mX6_worth 6 [zr 3 0, zi x, zi y, zi u] (some (zi (-10000000 + -2))) ad S I X Y sz I (rfX 0 X) Y := by
  refine zgo (own := RX6) (k := 2) (by decide +kernel) rfl rfl rfl (fun C hC hnm hE => ?_)
  have hm := hM.1
  have hR := hO.1
  refine z_iload_n hC dX6_worth_0 rfl ?_
  refine z_iconst hC dX6_worth_1 (v := nI 0) rfl ?_
  refine z_sipush hC dX6_worth_2 (v := nI 999) rfl ?_
  refine zSv hC dX6_worth_5 zlX6_58 c_X6_isWithin rfl rfl rfl rfl ?_
  refine z_ifb_eq hC dX6_worth_8 (tgt := 33) (by decide) (fun c8 => ?_) (fun c8 => ?_)
  · skip
    refine z_ldcw hC dX6_worth_33 (v := -10000000) (zin4 (i := 95) rfl rfl) ?_
    refine z_aload_n hC dX6_worth_36 rfl ?_
    refine z_bipush hC dX6_worth_37 (v := -2) rfl ?_
    refine zVv hC dX6_worth_39 zlX6_62 (c_X6_refuse hD (j := 0) (by decide) (by decide)) (hD _) rfl rfl rfl rfl rfl rfl ?_
    refine z_iadd hC dX6_worth_42  ?_
    refine z_iret hC dX6_worth_43 ?_
    exact hE.to (by rfl) rfl rfl rfl
  refine z_iload_n hC dX6_worth_11 rfl ?_
  refine z_iconst hC dX6_worth_12 (v := nI 0) rfl ?_
  refine z_sipush hC dX6_worth_13 (v := nI 999) rfl ?_
  refine zSv hC dX6_worth_16 zlX6_58 c_X6_isWithin rfl rfl rfl rfl ?_
  refine z_ifb_eq hC dX6_worth_19 (tgt := 33) (by decide) (fun c19 => ?_) (fun c19 => ?_)
  · skip
    refine z_ldcw hC dX6_worth_33 (v := -10000000) (zin4 (i := 95) rfl rfl) ?_
    refine z_aload_n hC dX6_worth_36 rfl ?_
    refine z_bipush hC dX6_worth_37 (v := -2) rfl ?_
    refine zVv hC dX6_worth_39 zlX6_62 (c_X6_refuse hD (j := 0) (by decide) (by decide)) (hD _) rfl rfl rfl rfl rfl rfl ?_
    refine z_iadd hC dX6_worth_42  ?_
    refine z_iret hC dX6_worth_43 ?_
    exact hE.to (by rfl) rfl rfl rfl
  refine z_iload_n hC dX6_worth_22 rfl ?_
  refine z_iconst hC dX6_worth_23 (v := nI 0) rfl ?_
  refine z_sipush hC dX6_worth_24 (v := nI 9999) rfl ?_
  refine zSv hC dX6_worth_27 zlX6_58 c_X6_isWithin rfl rfl rfl rfl ?_
  refine z_ifb_ne hC dX6_worth_30 (tgt := 44) (by decide) (fun c30 => ?_) (fun c30 => ?_)
  · exact absurd c30 (fun z => hx ⟨c8, c19, z⟩)
  refine z_ldcw hC dX6_worth_33 (v := -10000000) (zin4 (i := 95) rfl rfl) ?_
  refine z_aload_n hC dX6_worth_36 rfl ?_
  refine z_bipush hC dX6_worth_37 (v := -2) rfl ?_
  refine zVv hC dX6_worth_39 zlX6_62 (c_X6_refuse hD (j := 0) (by decide) (by decide)) (hD _) rfl rfl rfl rfl rfl rfl ?_
  refine z_iadd hC dX6_worth_42  ?_
  refine z_iret hC dX6_worth_43 ?_
  exact hE.to (by rfl) rfl rfl rfl

theorem o_worth (hD : ∀ k, S 3 k = dsh k) (hO : DOK D) (hM : DMe D I X Y) {x y u : Int32} : dC mX6_worth 6 [zr 3 0, zi x, zi y, zi u] (some (zi (worthS D x y u).1)) (worthS D x y u).2 ad S I X Y sz := by
  unfold worthS
  by_cases h : iw x 0 999 ∧ iw y 0 999 ∧ iw u 0 9999
  · rw [if_pos h]
    obtain ⟨x, -, h1, rfl, e1⟩ := iw_e h.1 (by decide) (by decide)
    obtain ⟨y, -, h2, rfl, e2⟩ := iw_e h.2.1 (by decide) (by decide)
    obtain ⟨u, -, h3, rfl, e3⟩ := iw_e h.2.2 (by decide) (by decide)
    rw [e1, e2, e3]
    exact ⟨_, _, Y, hM, e_worth_t hD hO hM h1 h2 h3⟩
  · rw [if_neg h]
    exact ⟨I, rfX 0 X, Y, hM.rf (by decide), e_worth_f hD hO hM h⟩
theorem e_hears_t (hD : ∀ k, S 3 k = dsh k) (hO : DOK D) (hM : DMe D I X Y) {x : Nat} (hx : x < D.1.1 2) : zC0 mX6_hears 7 [zr 3 0, zi (nI x)] (some (zi (nI (hearN D.1 (fwN D.1) x)))) ad S I X Y sz (wgI D.1 (D.1.1 1) I) (wgX D.1 (D.1.1 1) X) Y := by
  refine zgo (own := RX6) (k := 0) (by decide +kernel) rfl rfl rfl (fun C hC hnm hE => ?_)
  have hm := hM.1
  have hR := hO.1
  have hn14 := hR.1
  have hwg := wg_W (s := D.1.1 1) (I := I) (X := X) hR
  have hmg := wg_R (R := D.1) (s := D.1.1 1) (r := 1) (by decide) hm
  have hwb := wbits hwg
  have hn6 := hR.2.2.1
  refine z_aload_n hC dX6_hears_0 rfl ?_
  refine z_getR hC dX6_hears_1 (hD _) zfX6_10 rfl ?_
  refine z_getR hC dX6_hears_4 (hD _) zfX6_184 rfl ?_
  refine z_iload_n hC dX6_hears_7 rfl ?_
  refine zVv hC dX6_hears_8 zlX6_119 (c_chas hD hm) (hD _) rfl rfl rfl rfl rfl rfl ?_
  refine z_ifb_ne hC dX6_hears_11 (tgt := 21) (by decide) (fun c11 => ?_) (fun c11 => ?_)
  rotate_left
  · exact absurd c11 (fun z => z (inB_of hx (by omega)))
  refine z_aload_n hC dX6_hears_21 rfl ?_
  refine z_getR hC dX6_hears_22 (hD _) zfX6_25 rfl ?_
  refine z_aload_n hC dX6_hears_25 rfl ?_
  refine z_getR hC dX6_hears_26 (hD _) zfX6_10 rfl ?_
  refine zV0 hC dX6_hears_29 zlX6_194 (c_X5_weigh hD hm hR) (hD _) rfl rfl rfl rfl rfl rfl ?_
  refine z_aload_n hC dX6_hears_32 rfl ?_
  refine z_iload_n hC dX6_hears_33 rfl ?_
  refine zVv hC dX6_hears_34 zlX6_276 (c_X6_heardBy hD hmg hR hwg rfl hx) (hD _) rfl rfl rfl rfl rfl rfl ?_
  refine z_iret hC dX6_hears_37 ?_
  exact hE.to (by rfl) rfl rfl rfl

theorem e_hears_f (hD : ∀ k, S 3 k = dsh k) (hO : DOK D) (hM : DMe D I X Y) {x : Int32} (hx : ¬ inB x (D.1.1 2)) : zC0 mX6_hears 7 [zr 3 0, zi x] (some (zi (-2))) ad S I X Y sz I (rfX 0 X) Y := by
  refine zgo (own := RX6) (k := 0) (by decide +kernel) rfl rfl rfl (fun C hC hnm hE => ?_)
  have hm := hM.1
  have hR := hO.1
  refine z_aload_n hC dX6_hears_0 rfl ?_
  refine z_getR hC dX6_hears_1 (hD _) zfX6_10 rfl ?_
  refine z_getR hC dX6_hears_4 (hD _) zfX6_184 rfl ?_
  refine z_iload_n hC dX6_hears_7 rfl ?_
  refine zVv hC dX6_hears_8 zlX6_119 (c_chas hD hm) (hD _) rfl rfl rfl rfl rfl rfl ?_
  refine z_ifb_ne hC dX6_hears_11 (tgt := 21) (by decide) (fun c11 => ?_) (fun c11 => ?_)
  · exact absurd c11 hx
  refine z_aload_n hC dX6_hears_14 rfl ?_
  refine z_bipush hC dX6_hears_15 (v := -2) rfl ?_
  refine zVv hC dX6_hears_17 zlX6_62 (c_X6_refuse hD (j := 0) (by decide) (by decide)) (hD _) rfl rfl rfl rfl rfl rfl ?_
  refine z_iret hC dX6_hears_20 ?_
  exact hE.to (by rfl) rfl rfl rfl

theorem o_hears (hD : ∀ k, S 3 k = dsh k) (hO : DOK D) (hM : DMe D I X Y) {x : Int32} : dC mX6_hears 7 [zr 3 0, zi x] (some (zi (hearsS D x).1)) (hearsS D x).2 ad S I X Y sz := by
  have hn14 := hO.1.2.2.1
  unfold hearsS
  by_cases h : inB x (D.1.1 2)
  · rw [if_pos h]
    obtain ⟨x, h2, rfl, e1⟩ := inB_e h (by omega)
    rw [e1]
    exact ⟨_, _, Y, hM.wg, e_hears_t hD hO hM h2⟩
  · rw [if_neg h]
    exact ⟨I, rfX 0 X, Y, hM.rf (by decide), e_hears_f hD hO hM h⟩
end
