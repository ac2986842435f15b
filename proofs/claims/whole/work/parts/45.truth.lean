/-! OnTheRoof: IN TRUTH; all of it -/
abbrev drN (R : RS) : Int32 × Int32 × Nat := drvN (rfall R (R.1 3)) (R.1 0) 0 R.2.2.2
def drvR (R : RS) : RS := rseed (rlies (rforget R) (drN R).2.1) (drN R).1
theorem ROK_drv {R : RS} (h : ROK R) : ROK (drvR R) := by
  have h1 : ROK (rforget R) := ROK_forget h
  unfold ROK at h1 ⊢
  exact h1
def liesS (D : DS) (x : Int32) : Int32 × DS := if x = -1 ∨ inB x (D.1.1 0) then (D.1.2.2.1, DR D (rlies D.1 x)) else bad 0 D
def seedS (D : DS) (x : Int32) : Int32 × DS := (D.1.2.2.2, DR D (rseed D.1 x))
def driveS (D : DS) : Int32 × DS := (nI (drN D.1).2.2, DR D (drvR D.1))
def lookS (D : DS) (x y : Int32) : Int32 × DS := if inB x (D.1.1 0) ∧ iw y 1 3 then (if D.1.2.2.1 = x then (if rngN (nextS D.1.2.2.2) % 100 < seenN (nn y) then (nI 1, DR D (rseed D.1 (nextS D.1.2.2.2))) else (nI 0, DR D (rmiss (rseed D.1 (nextS D.1.2.2.2)) (nn x) (nn y)))) else (nI 0, DR D (rmiss D.1 (nn x) (nn y)))) else bad 0 D
def trF (R : RS) : Nat → RS × Nat
  | 0 => (R, 0)
  | k + 1 => (drvR (trF R k).1, (trF R k).2 + (drN (trF R k).1).2.2)
def tripsS (D : DS) (x : Int32) : Int32 × DS := if iw x 1 99 then (nI (trF D.1 (nn x)).2, DR D (trF D.1 (nn x)).1) else bad 0 D
def drI (R : RS) (I : zI) : zI := up3 (up3 (up3 I 3 (1 + 3) 2 (nI 0)) 3 1 6 (drN R).2.1) 3 1 7 (drN R).1
def trI (R : RS) (I : zI) : Nat → zI
  | 0 => I
  | k + 1 => drI (trF R k).1 (trI R I k)
def trX (R : RS) (X : zI) : Nat → zI
  | 0 => X
  | k + 1 => zforg 1 ((trF R k).1.1 0) (trX R X k)
theorem dr_m {R : RS} {I X : zI} (h : zRm 1 R I X) : zRm 1 (drvR R) (drI R I) (zforg 1 (R.1 0) X) := zRm_seed (zRm_lies (zRm_forget h))
theorem drI_ne {R : RS} {I : zI} {k j : Nat} (h : ¬ (1 ≤ k ∧ k < 8)) : drI R I 3 k j = I 3 k j := by
  unfold drI
  rw [up3_ne (by omega), up3_ne (by omega), up3_ne (by omega)]
theorem tr_m {R : RS} {I X : zI} (h : zRm 1 R I X) (hR : ROK R) : ∀ k, zRm 1 (trF R k).1 (trI R I k) (trX R X k) ∧ ROK (trF R k).1
  | 0 => ⟨h, hR⟩
  | k + 1 => ⟨dr_m (tr_m h hR k).1, ROK_drv (tr_m h hR k).2⟩
theorem trI_ne {R : RS} {I : zI} {k j : Nat} (h : ¬ (1 ≤ k ∧ k < 8)) : ∀ t, trI R I t 3 k j = I 3 k j
  | 0 => rfl
  | t + 1 => (drI_ne h).trans (trI_ne h t)
theorem trX_ne {R : RS} {X : zI} {k j : Nat} (h : ¬ (1 ≤ k ∧ k < 8)) : ∀ t, trX R X t 3 k j = X 3 k j
  | 0 => rfl
  | t + 1 => (if_neg (by omega)).trans (trX_ne h t)
def imageS (D : DS) : Int32 × DS := (nI 1, (D.1, some D.1, D.2.2))
def bkH (n : Nat) (h : Nat → Option Nat) : Nat → Option Nat := fun s => match h s with
  | none => none
  | some q => if 10 + n ≤ q then none else some q
def backS (D : DS) : Int32 × DS := match D.2.1 with
  | none => bad 3 D
  | some K => (nI 1, (K, some K, D.2.2.1, (bkH (K.1 0) D.2.2.2.1.1, D.2.2.2.1.2), D.2.2.2.2))

section
variable {ad : zA} {S : zSh} {I X : zI} {Y : zY} {sz : Nat} {D : DS}

theorem d_drive (hD : ∀ k, S 3 k = dsh k) {R : RS} (hm : zRm 1 R I X) (hR : ROK R) : zC0 mX1_driveInTruth 5 [zr 3 1] (some (zi (nI (drN R).2.2))) ad S I X Y sz (drI R I) (zforg 1 (R.1 0) X) Y := by
  have h := c_X1_driveInTruth (ad := ad) (Y := Y) (sz := sz) (zRd_1 hD) hm hR
  have e : I 3 1 7 = R.2.2.2 := hm.2.2.2.2.2.2.2
  rw [e] at h
  exact h
theorem e_lies_t (hD : ∀ k, S 3 k = dsh k) (hO : DOK D) (hM : DMe D I X Y) {x : Int32} (hx : x = -1 ∨ inB x (D.1.1 0)) : zC0 mX6_lies 2 [zr 3 0, zi x] (some (zi D.1.2.2.1)) ad S I X Y sz (up3 I 3 1 6 x) X Y := by
  refine zgo (own := RX6) (k := 1) (by decide +kernel) rfl rfl rfl (fun C hC hnm hE => ?_)
  have hm := hM.1
  have hR := hO.1
  refine z_aload_n hC dX6_lies_0 rfl ?_
  refine z_iload_n hC dX6_lies_1 rfl ?_
  refine zVv hC dX6_lies_2 zlX6_104 (c_X6_isBendOrNone hD hm hR) (hD _) rfl rfl rfl rfl rfl rfl ?_
  refine z_ifb_ne hC dX6_lies_5 (tgt := 15) (by decide) (fun c5 => ?_) (fun c5 => ?_)
  rotate_left
  · exact absurd c5 (fun z => z hx)
  refine z_aload_n hC dX6_lies_15 rfl ?_
  refine z_getR hC dX6_lies_16 (hD _) zfX6_10 rfl ?_
  refine z_getI hC dX6_lies_19 (hD _) zfX6_306 rfl ?_
  refine z_istore_n hC dX6_lies_22 (lo2 := [_, _, _]) (Nat.le_of_ble_eq_true rfl) rfl rfl ?_
  refine z_aload_n hC dX6_lies_23 rfl ?_
  refine z_getR hC dX6_lies_24 (hD _) zfX6_10 rfl ?_
  refine z_iload_n hC dX6_lies_27 rfl ?_
  refine z_putI hC dX6_lies_28 (hD _) zfX6_306 rfl rfl rfl rfl ?_
  refine z_iload_n hC dX6_lies_31 rfl ?_
  refine z_iret hC dX6_lies_32 ?_
  exact hE.to (by rw [show I 3 1 6 = D.1.2.2.1 from hm.2.2.2.2.2.2.1]) rfl rfl rfl

theorem e_lies_f (hD : ∀ k, S 3 k = dsh k) (hO : DOK D) (hM : DMe D I X Y) {x : Int32} (hx : ¬ (x = -1 ∨ inB x (D.1.1 0))) : zC0 mX6_lies 2 [zr 3 0, zi x] (some (zi (-2))) ad S I X Y sz I (rfX 0 X) Y := by
  refine zgo (own := RX6) (k := 1) (by decide +kernel) rfl rfl rfl (fun C hC hnm hE => ?_)
  have hm := hM.1
  have hR := hO.1
  refine z_aload_n hC dX6_lies_0 rfl ?_
  refine z_iload_n hC dX6_lies_1 rfl ?_
  refine zVv hC dX6_lies_2 zlX6_104 (c_X6_isBendOrNone hD hm hR) (hD _) rfl rfl rfl rfl rfl rfl ?_
  refine z_ifb_ne hC dX6_lies_5 (tgt := 15) (by decide) (fun c5 => ?_) (fun c5 => ?_)
  · exact absurd c5 hx
  refine z_aload_n hC dX6_lies_8 rfl ?_
  refine z_bipush hC dX6_lies_9 (v := -2) rfl ?_
  refine zVv hC dX6_lies_11 zlX6_62 (c_X6_refuse hD (j := 0) (by decide) (by decide)) (hD _) rfl rfl rfl rfl rfl rfl ?_
  refine z_iret hC dX6_lies_14 ?_
  exact hE.to (by rfl) rfl rfl rfl

theorem o_lies (hD : ∀ k, S 3 k = dsh k) (hO : DOK D) (hM : DMe D I X Y) {x : Int32} : dC mX6_lies 2 [zr 3 0, zi x] (some (zi (liesS D x).1)) (liesS D x).2 ad S I X Y sz := by
  unfold liesS
  by_cases h : x = -1 ∨ inB x (D.1.1 0)
  · rw [if_pos h]
    exact ⟨_, _, Y, hM.m (zRm_lies hM.1) (fun k j a => up3_ne (by omega)) (fun k j a => rfl), e_lies_t hD hO hM h⟩
  · rw [if_neg h]
    exact ⟨I, rfX 0 X, Y, hM.rf (by decide), e_lies_f hD hO hM h⟩
theorem e_seed_t (hD : ∀ k, S 3 k = dsh k) (hO : DOK D) (hM : DMe D I X Y) {x : Int32} : zC0 mX6_seed 0 [zr 3 0, zi x] (some (zi D.1.2.2.2)) ad S I X Y sz (up3 I 3 1 7 x) X Y := by
  refine zgo (own := RX6) (k := 1) (by decide +kernel) rfl rfl rfl (fun C hC hnm hE => ?_)
  have hm := hM.1
  have hR := hO.1
  refine z_aload_n hC dX6_seed_0 rfl ?_
  refine z_getR hC dX6_seed_1 (hD _) zfX6_10 rfl ?_
  refine z_getI hC dX6_seed_4 (hD _) zfX6_315 rfl ?_
  refine z_istore_n hC dX6_seed_7 (lo2 := [_, _, _]) (Nat.le_of_ble_eq_true rfl) rfl rfl ?_
  refine z_aload_n hC dX6_seed_8 rfl ?_
  refine z_getR hC dX6_seed_9 (hD _) zfX6_10 rfl ?_
  refine z_iload_n hC dX6_seed_12 rfl ?_
  refine z_putI hC dX6_seed_13 (hD _) zfX6_315 rfl rfl rfl rfl ?_
  refine z_iload_n hC dX6_seed_16 rfl ?_
  refine z_iret hC dX6_seed_17 ?_
  exact hE.to (by rw [show I 3 1 7 = D.1.2.2.2 from hm.2.2.2.2.2.2.2]) rfl rfl rfl

theorem o_seed (hD : ∀ k, S 3 k = dsh k) (hO : DOK D) (hM : DMe D I X Y) {x : Int32} : dC mX6_seed 0 [zr 3 0, zi x] (some (zi (seedS D x).1)) (seedS D x).2 ad S I X Y sz :=
  ⟨_, _, Y, hM.m (zRm_seed hM.1) (fun k j a => up3_ne (by omega)) (fun k j a => rfl), e_seed_t hD hO hM⟩
theorem e_drive_t (hD : ∀ k, S 3 k = dsh k) (hO : DOK D) (hM : DMe D I X Y)  : zC0 mX6_drive 6 [zr 3 0] (some (zi (nI (drN D.1).2.2))) ad S I X Y sz (drI D.1 I) (zforg 1 (D.1.1 0) X) Y := by
  refine zgo (own := RX6) (k := 0) (by decide +kernel) rfl rfl rfl (fun C hC hnm hE => ?_)
  have hm := hM.1
  have hR := hO.1
  refine z_aload_n hC dX6_drive_0 rfl ?_
  refine z_getR hC dX6_drive_1 (hD _) zfX6_10 rfl ?_
  refine zVv hC dX6_drive_4 zlX6_309 (d_drive hD hm hR) (hD _) rfl rfl rfl rfl rfl rfl ?_
  refine z_iret hC dX6_drive_7 ?_
  exact hE.to (by rfl) rfl rfl rfl

theorem o_drive (hD : ∀ k, S 3 k = dsh k) (hO : DOK D) (hM : DMe D I X Y) : dC mX6_drive 6 [zr 3 0] (some (zi (driveS D).1)) (driveS D).2 ad S I X Y sz :=
  ⟨_, _, Y, hM.m (dr_m hM.1) (fun k j a => drI_ne (by omega)) (fun k j a => if_neg (by omega)), e_drive_t hD hO hM⟩
theorem e_trips_t (hD : ∀ k, S 3 k = dsh k) (hO : DOK D) (hM : DMe D I X Y) {x : Nat} (h1 : 1 ≤ x) (hx : x ≤ 99) : zC0 mX6_trips 6 [zr 3 0, zi (nI x)] (some (zi (nI (trF D.1 x).2))) ad S I X Y sz (trI D.1 I x) (trX D.1 X x) Y := by
  refine zgo (own := RX6) (k := 2) (by decide +kernel) rfl rfl rfl (fun C hC hnm hE => ?_)
  have hm := hM.1
  have hR := hO.1
  have htr := tr_m hm hR
  refine z_iload_n hC dX6_trips_0 rfl ?_
  refine z_iconst hC dX6_trips_1 (v := nI 1) rfl ?_
  refine z_bipush hC dX6_trips_2 (v := nI 99) rfl ?_
  refine zSv hC dX6_trips_4 zlX6_58 c_X6_isWithin rfl rfl rfl rfl ?_
  refine z_ifb_ne hC dX6_trips_7 (tgt := 17) (by decide) (fun c7 => ?_) (fun c7 => ?_)
  rotate_left
  · exact absurd c7 (fun z => z (iw_of h1 hx (by decide)))
  refine z_iconst hC dX6_trips_17 (v := nI 0) rfl ?_
  refine z_istore_n hC dX6_trips_18 (lo2 := [_, _, _, _]) (Nat.le_of_ble_eq_true rfl) rfl rfl ?_
  refine z_iconst hC dX6_trips_19 (v := nI 0) rfl ?_
  refine z_istore_n hC dX6_trips_20 (lo2 := [_, _, _, _]) (Nat.le_of_ble_eq_true rfl) rfl rfl ?_
  have loop21 : ∀ (fuel : Nat) (k : Nat), x - k < fuel → k ≤ x → zL C 4 ad S 0 0 sz (trI D.1 I k) (trX D.1 X k) Y 21 [some (zr 3 0), some (zi (nI x)), some (zi (nI (trF D.1 k).2)), some (zi (nI k))] [] := by
    intro fuel
    induction fuel with
    | zero => intro k hfu; exact absurd hfu (Nat.not_lt_zero _)
    | succ fuel ih =>
      intro k hfu hk
      refine z_iload_n hC dX6_trips_21 rfl ?_
      refine z_iload_n hC dX6_trips_22 rfl ?_
      refine z_nicmp_ge hC dX6_trips_23 (tgt := 42) (by decide) (by omega) (by omega) (fun c23 => ?_) (fun c23 => ?_)
      · skip
        obtain rfl : k = x := by omega
        refine z_iload_n hC dX6_trips_42 rfl ?_
        refine z_iret hC dX6_trips_43 ?_
        exact hE.to (by rfl) rfl rfl rfl
      refine z_iload_n hC dX6_trips_26 rfl ?_
      refine z_aload_n hC dX6_trips_27 rfl ?_
      refine z_getR hC dX6_trips_28 (hD _) zfX6_10 rfl ?_
      refine zVv hC dX6_trips_31 zlX6_309 (d_drive hD (htr k).1 (htr k).2) (hD _) rfl rfl rfl rfl rfl rfl ?_
      refine z_nadd hC dX6_trips_34  ?_
      refine z_istore_n hC dX6_trips_35 (lo2 := [_, _, _, _]) (Nat.le_of_ble_eq_true rfl) rfl rfl ?_
      refine z_ninc hC dX6_trips_36 (lo2 := [_, _, _, _]) rfl rfl rfl rfl ?_
      refine z_goto hC dX6_trips_39 (tgt := 21) (by decide) ?_
      exact ih (k + 1) (by omega) (by omega)
  exact loop21 _ 0 (Nat.lt_succ_self _) (Nat.zero_le _)

theorem e_trips_f (hD : ∀ k, S 3 k = dsh k) (hO : DOK D) (hM : DMe D I X Y) {x : Int32} (hx : ¬ iw x 1 99) : zC0 mX6_trips 6 [zr 3 0, zi x] (some (zi (-2))) ad S I X Y sz I (rfX 0 X) Y := by
  refine zgo (own := RX6) (k := 2) (by decide +kernel) rfl rfl rfl (fun C hC hnm hE => ?_)
  have hm := hM.1
  have hR := hO.1
  refine z_iload_n hC dX6_trips_0 rfl ?_
  refine z_iconst hC dX6_trips_1 (v := nI 1) rfl ?_
  refine z_bipush hC dX6_trips_2 (v := nI 99) rfl ?_
  refine zSv hC dX6_trips_4 zlX6_58 c_X6_isWithin rfl rfl rfl rfl ?_
  refine z_ifb_ne hC dX6_trips_7 (tgt := 17) (by decide) (fun c7 => ?_) (fun c7 => ?_)
  · exact absurd c7 hx
  refine z_aload_n hC dX6_trips_10 rfl ?_
  refine z_bipush hC dX6_trips_11 (v := -2) rfl ?_
  refine zVv hC dX6_trips_13 zlX6_62 (c_X6_refuse hD (j := 0) (by decide) (by decide)) (hD _) rfl rfl rfl rfl rfl rfl ?_
  refine z_iret hC dX6_trips_16 ?_
  exact hE.to (by rfl) rfl rfl rfl

theorem o_trips (hD : ∀ k, S 3 k = dsh k) (hO : DOK D) (hM : DMe D I X Y) {x : Int32} : dC mX6_trips 6 [zr 3 0, zi x] (some (zi (tripsS D x).1)) (tripsS D x).2 ad S I X Y sz := by
  unfold tripsS
  by_cases h : iw x 1 99
  · rw [if_pos h]
    obtain ⟨x, h1, h2, rfl, e1⟩ := iw_e h (by decide) (by decide)
    rw [e1]
    exact ⟨_, _, Y, hM.m (tr_m hM.1 hO.1 x).1 (fun k j a => trI_ne (by omega) x) (fun k j a => trX_ne (by omega) x), e_trips_t hD hO hM h1 h2⟩
  · rw [if_neg h]
    exact ⟨I, rfX 0 X, Y, hM.rf (by decide), e_trips_f hD hO hM h⟩
theorem d_lookA (hD : ∀ k, S 3 k = dsh k) {R : RS} (hm : zRm 1 R I X) (hR : ROK R) {b l : Nat} (hb : b < R.1 0) (hl : l ≤ 3) (hL : R.2.2.1 = nI b) (hq : rngN (nextS R.2.2.2) % 100 < seenN l) : zC0 mX1_lookInTruth 5 [zr 3 1, zi (nI b), zi (nI l)] (some (zi (nI 1))) ad S I X Y sz (up3 I 3 1 7 (nextS R.2.2.2)) X Y := by
  have e : I 3 1 7 = R.2.2.2 := hm.2.2.2.2.2.2.2
  have e6 : I 3 1 6 = R.2.2.1 := hm.2.2.2.2.2.2.1
  have h := c_X1_lookInTruthA (ad := ad) (Y := Y) (sz := sz) (zRd_1 hD) hm hR hb hl (by rw [e6]; exact hL) (by rw [e]; exact hq)
  rw [e] at h
  exact h
theorem d_lookB (hD : ∀ k, S 3 k = dsh k) {R : RS} (hm : zRm 1 R I X) (hR : ROK R) {b l : Nat} (hb : b < R.1 0) (hl : l ≤ 3) (hL : R.2.2.1 = nI b) (hq : ¬ rngN (nextS R.2.2.2) % 100 < seenN l) : zC0 mX1_lookInTruth 5 [zr 3 1, zi (nI b), zi (nI l)] (some (zi (nI 0))) ad S I X Y sz (up3 I 3 1 7 (nextS R.2.2.2)) (up3 X 3 (1 + 2) (b * 5 + 4) (nI (missN (R.2.1 4 b) l))) Y := by
  have e : I 3 1 7 = R.2.2.2 := hm.2.2.2.2.2.2.2
  have e6 : I 3 1 6 = R.2.2.1 := hm.2.2.2.2.2.2.1
  have h := c_X1_lookInTruthB (ad := ad) (Y := Y) (sz := sz) (zRd_1 hD) hm hR hb hl (by rw [e6]; exact hL) (by rw [e]; exact hq)
  rw [e] at h
  exact h
theorem d_lookC (hD : ∀ k, S 3 k = dsh k) {R : RS} (hm : zRm 1 R I X) (hR : ROK R) {b l : Nat} (hb : b < R.1 0) (hl : l ≤ 3) (hL : ¬ R.2.2.1 = nI b) : zC0 mX1_lookInTruth 5 [zr 3 1, zi (nI b), zi (nI l)] (some (zi (nI 0))) ad S I X Y sz I (up3 X 3 (1 + 2) (b * 5 + 4) (nI (missN (R.2.1 4 b) l))) Y := by
  have e6 : I 3 1 6 = R.2.2.1 := hm.2.2.2.2.2.2.1
  exact c_X1_lookInTruthC (ad := ad) (Y := Y) (sz := sz) (zRd_1 hD) hm hR hb hl (by rw [e6]; exact hL)
theorem e_look_A (hD : ∀ k, S 3 k = dsh k) (hO : DOK D) (hM : DMe D I X Y) {b v : Nat} (hb : b < D.1.1 0) (h1 : 1 ≤ v) (h3 : v ≤ 3) (hL : D.1.2.2.1 = nI b) (hq : rngN (nextS D.1.2.2.2) % 100 < seenN v) : zC0 mX6_look 6 [zr 3 0, zi (nI b), zi (nI v)] (some (zi (nI 1))) ad S I X Y sz (up3 I 3 1 7 (nextS D.1.2.2.2)) X Y := by
  refine zgo (own := RX6) (k := 0) (by decide +kernel) rfl rfl rfl (fun C hC hnm hE => ?_)
  have hm := hM.1
  have hR := hO.1
  have hn14 := hR.1
  refine z_aload_n hC dX6_look_0 rfl ?_
  refine z_iload_n hC dX6_look_1 rfl ?_
  refine z_iload_n hC dX6_look_2 rfl ?_
  refine zVv hC dX6_look_3 zlX6_220 (c_X6_isLookAt hD hm hR) (hD _) rfl rfl rfl rfl rfl rfl ?_
  refine z_ifb_ne hC dX6_look_6 (tgt := 16) (by decide) (fun c6 => ?_) (fun c6 => ?_)
  rotate_left
  · exact absurd c6 (fun z => z ⟨inB_of hb (by omega), iw_of h1 h3 (by decide)⟩)
  refine z_aload_n hC dX6_look_16 rfl ?_
  refine z_getR hC dX6_look_17 (hD _) zfX6_10 rfl ?_
  refine z_iload_n hC dX6_look_20 rfl ?_
  refine z_iload_n hC dX6_look_21 rfl ?_
  refine zVv hC dX6_look_22 zlX6_312 (d_lookA hD hm hR hb h3 hL hq) (hD _) rfl rfl rfl rfl rfl rfl ?_
  refine z_iret hC dX6_look_25 ?_
  exact hE.to (by rfl) rfl rfl rfl

theorem e_look_B (hD : ∀ k, S 3 k = dsh k) (hO : DOK D) (hM : DMe D I X Y) {b v : Nat} (hb : b < D.1.1 0) (h1 : 1 ≤ v) (h3 : v ≤ 3) (hL : D.1.2.2.1 = nI b) (hq : ¬ rngN (nextS D.1.2.2.2) % 100 < seenN v) : zC0 mX6_look 6 [zr 3 0, zi (nI b), zi (nI v)] (some (zi (nI 0))) ad S I X Y sz (up3 I 3 1 7 (nextS D.1.2.2.2)) (up3 X 3 (1 + 2) (b * 5 + 4) (nI (missN (D.1.2.1 4 b) v))) Y := by
  refine zgo (own := RX6) (k := 0) (by decide +kernel) rfl rfl rfl (fun C hC hnm hE => ?_)
  have hm := hM.1
  have hR := hO.1
  have hn14 := hR.1
  refine z_aload_n hC dX6_look_0 rfl ?_
  refine z_iload_n hC dX6_look_1 rfl ?_
  refine z_iload_n hC dX6_look_2 rfl ?_
  refine zVv hC dX6_look_3 zlX6_220 (c_X6_isLookAt hD hm hR) (hD _) rfl rfl rfl rfl rfl rfl ?_
  refine z_ifb_ne hC dX6_look_6 (tgt := 16) (by decide) (fun c6 => ?_) (fun c6 => ?_)
  rotate_left
  · exact absurd c6 (fun z => z ⟨inB_of hb (by omega), iw_of h1 h3 (by decide)⟩)
  refine z_aload_n hC dX6_look_16 rfl ?_
  refine z_getR hC dX6_look_17 (hD _) zfX6_10 rfl ?_
  refine z_iload_n hC dX6_look_20 rfl ?_
  refine z_iload_n hC dX6_look_21 rfl ?_
  refine zVv hC dX6_look_22 zlX6_312 (d_lookB hD hm hR hb h3 hL hq) (hD _) rfl rfl rfl rfl rfl rfl ?_
  refine z_iret hC dX6_look_25 ?_
  exact hE.to (by rfl) rfl rfl rfl

theorem e_look_C (hD : ∀ k, S 3 k = dsh k) (hO : DOK D) (hM : DMe D I X Y) {b v : Nat} (hb : b < D.1.1 0) (h1 : 1 ≤ v) (h3 : v ≤ 3) (hL : ¬ D.1.2.2.1 = nI b) : zC0 mX6_look 6 [zr 3 0, zi (nI b), zi (nI v)] (some (zi (nI 0))) ad S I X Y sz I (up3 X 3 (1 + 2) (b * 5 + 4) (nI (missN (D.1.2.1 4 b) v))) Y := by
  refine zgo (own := RX6) (k := 0) (by decide +kernel) rfl rfl rfl (fun C hC hnm hE => ?_)
  have hm := hM.1
  have hR := hO.1
  have hn14 := hR.1
  refine z_aload_n hC dX6_look_0 rfl ?_
  refine z_iload_n hC dX6_look_1 rfl ?_
  refine z_iload_n hC dX6_look_2 rfl ?_
  refine zVv hC dX6_look_3 zlX6_220 (c_X6_isLookAt hD hm hR) (hD _) rfl rfl rfl rfl rfl rfl ?_
  refine z_ifb_ne hC dX6_look_6 (tgt := 16) (by decide) (fun c6 => ?_) (fun c6 => ?_)
  rotate_left
  · exact absurd c6 (fun z => z ⟨inB_of hb (by omega), iw_of h1 h3 (by decide)⟩)
  refine z_aload_n hC dX6_look_16 rfl ?_
  refine z_getR hC dX6_look_17 (hD _) zfX6_10 rfl ?_
  refine z_iload_n hC dX6_look_20 rfl ?_
  refine z_iload_n hC dX6_look_21 rfl ?_
  refine zVv hC dX6_look_22 zlX6_312 (d_lookC hD hm hR hb h3 hL) (hD _) rfl rfl rfl rfl rfl rfl ?_
  refine z_iret hC dX6_look_25 ?_
  exact hE.to (by rfl) rfl rfl rfl

theorem e_look_f (hD : ∀ k, S 3 k = dsh k) (hO : DOK D) (hM : DMe D I X Y) {x y : Int32} (hx : ¬ (inB x (D.1.1 0) ∧ iw y 1 3)) : zC0 mX6_look 6 [zr 3 0, zi x, zi y] (some (zi (-2))) ad S I X Y sz I (rfX 0 X) Y := by
  refine zgo (own := RX6) (k := 0) (by decide +kernel) rfl rfl rfl (fun C hC hnm hE => ?_)
  have hm := hM.1
  have hR := hO.1
  refine z_aload_n hC dX6_look_0 rfl ?_
  refine z_iload_n hC dX6_look_1 rfl ?_
  refine z_iload_n hC dX6_look_2 rfl ?_
  refine zVv hC dX6_look_3 zlX6_220 (c_X6_isLookAt hD hm hR) (hD _) rfl rfl rfl rfl rfl rfl ?_
  refine z_ifb_ne hC dX6_look_6 (tgt := 16) (by decide) (fun c6 => ?_) (fun c6 => ?_)
  · exact absurd c6 hx
  refine z_aload_n hC dX6_look_9 rfl ?_
  refine z_bipush hC dX6_look_10 (v := -2) rfl ?_
  refine zVv hC dX6_look_12 zlX6_62 (c_X6_refuse hD (j := 0) (by decide) (by decide)) (hD _) rfl rfl rfl rfl rfl rfl ?_
  refine z_iret hC dX6_look_15 ?_
  exact hE.to (by rfl) rfl rfl rfl

theorem o_look (hD : ∀ k, S 3 k = dsh k) (hO : DOK D) (hM : DMe D I X Y) {x y : Int32} : dC mX6_look 6 [zr 3 0, zi x, zi y] (some (zi (lookS D x y).1)) (lookS D x y).2 ad S I X Y sz := by
  have hn14 := hO.1.1
  unfold lookS
  by_cases h : inB x (D.1.1 0) ∧ iw y 1 3
  · rw [if_pos h]
    obtain ⟨b, hb, rfl, e1⟩ := inB_e h.1 (by omega)
    obtain ⟨v, h1, h3, rfl, e2⟩ := iw_e h.2 (by decide) (by decide)
    rw [e1, e2]
    by_cases hL : D.1.2.2.1 = nI b
    · rw [if_pos hL]
      by_cases hq : rngN (nextS D.1.2.2.2) % 100 < seenN v
      · rw [if_pos hq]
        exact ⟨_, _, Y, hM.m (zRm_seed hM.1) (fun k j a => up3_ne (by omega)) (fun k j a => rfl), e_look_A hD hO hM hb h1 h3 hL hq⟩
      · rw [if_neg hq]
        exact ⟨_, _, Y, hM.m (zRm_miss (zRm_seed hM.1) hb) (fun k j a => up3_ne (by omega)) (fun k j a => up3_ne (by omega)), e_look_B hD hO hM hb h1 h3 hL hq⟩
    · rw [if_neg hL]
      exact ⟨_, _, Y, hM.m (zRm_miss hM.1 hb) (fun k j a => rfl) (fun k j a => up3_ne (by omega)), e_look_C hD hO hM hb h1 h3 hL⟩
  · rw [if_neg h]
    exact ⟨I, rfX 0 X, Y, hM.rf (by decide), e_look_f hD hO hM h⟩
theorem e_image_t (hD : ∀ k, S 3 k = dsh k) (hO : DOK D) (hM : DMe D I X Y)  : zC0 mX6_image 3 [zr 3 0] (some (zi (nI 1))) ad S I X Y sz (up3 (zcpI 8 1 I) 3 0 8 (nI 1)) (zcpX 8 1 X) Y := by
  refine zgo (own := RX6) (k := 0) (by decide +kernel) rfl rfl rfl (fun C hC hnm hE => ?_)
  have hm := hM.1
  have hR := hO.1
  refine z_aload_n hC dX6_image_0 rfl ?_
  refine z_getR hC dX6_image_1 (hD _) zfX6_16 rfl ?_
  refine z_aload_n hC dX6_image_4 rfl ?_
  refine z_getR hC dX6_image_5 (hD _) zfX6_10 rfl ?_
  refine zV0 hC dX6_image_8 zlX6_173 (c_X1_takeFrom (zRd_8 hD) (zRd_1 hD) (by decide)) (hD _) rfl rfl rfl rfl rfl rfl ?_
  refine z_aload_n hC dX6_image_11 rfl ?_
  refine z_iconst hC dX6_image_12 (v := nI 1) rfl ?_
  refine z_putZ hC rfl rfl dX6_image_13 (hD _) zfX6_318 rfl rfl rfl rfl ?_
  refine z_iconst hC dX6_image_16 (v := nI 1) rfl ?_
  refine z_iret hC dX6_image_17 ?_
  exact hE.to (by rfl) rfl rfl rfl

theorem o_image (hD : ∀ k, S 3 k = dsh k) (hO : DOK D) (hM : DMe D I X Y) : dC mX6_image 3 [zr 3 0] (some (zi (imageS D).1)) (imageS D).2 ad S I X Y sz := by
  refine ⟨_, _, Y, ?_, e_image_t hD hO hM⟩
  have hk : zRm 8 D.1 (up3 (zcpI 8 1 I) 3 0 8 (nI 1)) (zcpX 8 1 X) := (zRm_copy hM.2.2.2.2.2.2.1 hM.1 hO.1).frame (fun k j a b => up3_ne (by omega)) (fun _ _ _ _ => rfl)
  obtain ⟨h1, h2, h3, ⟨h4, h5⟩, h6, h7, h8, h9⟩ := hM
  have eI : ∀ k j, ¬ (8 ≤ k ∧ k < 15) → ¬ (k = 0 ∧ j = 8) → up3 (zcpI 8 1 I) 3 0 8 (nI 1) 3 k j = I 3 k j := fun k j a b => by rw [up3_ne (by omega)]; exact zcpI_ne (by omega)
  have eX : ∀ k j, ¬ (8 ≤ k ∧ k < 15) → zcpX 8 1 X 3 k j = X 3 k j := fun k j a => zcpX_ne (by omega)
  refine ⟨h1.frame (fun k j a b => eI k j (by omega) (by omega)) (fun k j a b => eX k j (by omega)), up3_eq _ _ _ _ _, fun K hK => by cases hK; exact hk, ⟨by rw [eI _ _ (by omega) (by omega)]; exact h4, fun i hi => by rw [eX _ _ (by omega)]; exact h5 i hi⟩, fun s hs => ?_, fun j hj => by rw [eX _ _ (by omega)]; exact h7 j hj, hk.rw, h9.frame (fun k a b => eI k 1 (by omega) (by omega))⟩
  obtain ⟨g1, g2, g3⟩ := h6 s hs
  exact ⟨by rw [eI _ _ (by omega) (by omega)]; exact g1, by rw [eI _ _ (by omega) (by omega)]; exact g2, g3⟩
end
