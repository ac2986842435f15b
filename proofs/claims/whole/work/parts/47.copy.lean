/-! OnTheRoof: copy, says -/
def isB (o : Option Nat) : Bool := match o with
  | none => false
  | some q => decide (10 ≤ q)
def copyS (D : DS) (x y i j m : Int32) : Int32 × DS :=
  if inB x 8 ∧ inB y 8 then
    (if isB (D.2.2.2.1.1 (nn x)) = true ∨ isB (D.2.2.2.1.1 (nn y)) = true then bad 1 D
    else if D.2.2.2.1.1 (nn x) = none ∨ D.2.2.2.1.1 (nn y) = none then bad 2 D
    else if D.2.2.2.1.1 (nn x) = D.2.2.2.1.1 (nn y) then
      (if (inB i (D.2.2.2.1.2.1 (nn x) + 1) ∧ inB m (D.2.2.2.1.2.1 (nn x) + 1 - nn i)) ∧ inB j (D.2.2.2.1.2.1 (nn y) + 1) ∧ inB m (D.2.2.2.1.2.1 (nn y) + 1 - nn j) then
        (m, DH D D.2.2.2.1.1 D.2.2.2.1.2.1 (upS D.2.2.2.1.2.2 (nn y) (va_cpy (D.2.2.2.1.2.2 (nn x)) (D.2.2.2.1.2.2 (nn y)) (nn i) (nn j) (nn m)))) else bad 0 D)
    else bad 1 D)
  else bad 0 D
def saysS (D : DS) (x y : Int32) : Int32 × DS :=
  if inB x 8 ∧ iw y 0 5 then (match D.2.2.2.1.1 (nn x) with
    | none => bad 2 D
    | some q => if 10 ≤ q ∧ undN (D.1.2.1 0 (q - 10)) (nn y) then (if nn y = 0 then nI (D.1.2.1 2 (q - 10)) else if nn y = 2 then nI (rfall D.1 1 (q - 10)) else if nn y = 5 then nI (D.1.2.1 3 (q - 10)) else nI (rfall D.1 (D.1.1 3) (q - 10)), D) else bad 1 D)
  else bad 0 D

section
variable {ad : zA} {S : zSh} {I X : zI} {Y : zY} {sz : Nat} {D : DS}

theorem e_copy_nn (hD : ∀ k, S 3 k = dsh k) (hO : DOK D) (hM : DMe D I X Y) {p q : Nat} {i j m : Int32} (hp : p < 8) (hq : q < 8) (ep : I 3 (35 + 2 * p) 0 = -1) (eq : I 3 (35 + 2 * q) 0 = -1)  : zC0 mX6_copy 3 [zr 3 0, zi (nI p), zi (nI q), zi i, zi j, zi m] (some (zi (-4))) ad S I X Y sz I (rfX 2 X) Y := by
  refine zgo (own := RX6) (k := 2) (by decide +kernel) rfl rfl rfl (fun C hC hnm hE => ?_)
  have hm := hM.1
  have hR := hO.1
  refine z_aload_n hC dX6_copy_0 rfl ?_
  refine z_iload_n hC dX6_copy_1 rfl ?_
  refine zVv hC dX6_copy_2 zlX6_54 (c_shelfAt_t hD hp) (hD _) rfl rfl rfl rfl rfl rfl ?_
  refine z_astore hC dX6_copy_5 (lo2 := [_, _, _, _, _, _, _, _]) (Nat.le_of_ble_eq_true rfl) rfl rfl ?_
  refine z_aload_n hC dX6_copy_7 rfl ?_
  refine z_iload_n hC dX6_copy_8 rfl ?_
  refine zVv hC dX6_copy_9 zlX6_54 (c_shelfAt_t hD hq) (hD _) rfl rfl rfl rfl rfl rfl ?_
  refine z_astore hC dX6_copy_12 (lo2 := [_, _, _, _, _, _, _, _]) (Nat.le_of_ble_eq_true rfl) rfl rfl ?_
  refine z_aload hC dX6_copy_14 rfl ?_
  refine z_ifnull hC dX6_copy_16  ?_
  refine z_aload hC dX6_copy_19 rfl ?_
  refine z_ifnonnull hC dX6_copy_21 (tgt := 31) (by decide) ?_
  refine z_aload hC dX6_copy_31 rfl ?_
  refine zVv hC dX6_copy_33 zlX6_85 (c_isBend_n ((hD _).trans (dsh_s hp).1) ep) ((hD _).trans (dsh_s hp).1) rfl rfl rfl rfl rfl rfl ?_
  refine z_nif_ne hC dX6_copy_36 (tgt := 47) (by decide) (by omega) (fun c36 => ?_) (fun c36 => ?_)
  · exfalso; omega
  refine z_aload hC dX6_copy_39 rfl ?_
  refine zVv hC dX6_copy_41 zlX6_85 (c_isBend_n ((hD _).trans (dsh_s hq).1) eq) ((hD _).trans (dsh_s hq).1) rfl rfl rfl rfl rfl rfl ?_
  refine z_nif_eq hC dX6_copy_44 (tgt := 54) (by decide) (by omega) (fun c44 => ?_) (fun c44 => ?_)
  rotate_left
  · exfalso; omega
  refine z_aload hC dX6_copy_54 rfl ?_
  refine zVv hC dX6_copy_56 zlX6_74 (c_isEmpty_n ((hD _).trans (dsh_s hp).1) ep) ((hD _).trans (dsh_s hp).1) rfl rfl rfl rfl rfl rfl ?_
  refine z_nif_ne hC dX6_copy_59 (tgt := 70) (by decide) (by omega) (fun c59 => ?_) (fun c59 => ?_)
  rotate_left
  · exfalso; omega
  refine z_aload_n hC dX6_copy_70 rfl ?_
  refine z_bipush hC dX6_copy_71 (v := -4) rfl ?_
  refine zVv hC dX6_copy_73 zlX6_62 (c_X6_refuse hD (j := 2) (by decide) (by decide)) (hD _) rfl rfl rfl rfl rfl rfl ?_
  refine z_iret hC dX6_copy_76 ?_
  exact hE.to (by rfl) rfl rfl rfl

theorem e_copy_nr (hD : ∀ k, S 3 k = dsh k) (hO : DOK D) (hM : DMe D I X Y) {p q : Nat} {i j m : Int32} (hp : p < 8) (hq : q < 8) (ep : I 3 (35 + 2 * p) 0 = -1) {rq : Nat} (gq : rq ≤ 4) (eq : I 3 (35 + 2 * q) 0 = nI rq)  : zC0 mX6_copy 3 [zr 3 0, zi (nI p), zi (nI q), zi i, zi j, zi m] (some (zi (-4))) ad S I X Y sz I (rfX 2 X) Y := by
  refine zgo (own := RX6) (k := 2) (by decide +kernel) rfl rfl rfl (fun C hC hnm hE => ?_)
  have hm := hM.1
  have hR := hO.1
  refine z_aload_n hC dX6_copy_0 rfl ?_
  refine z_iload_n hC dX6_copy_1 rfl ?_
  refine zVv hC dX6_copy_2 zlX6_54 (c_shelfAt_t hD hp) (hD _) rfl rfl rfl rfl rfl rfl ?_
  refine z_astore hC dX6_copy_5 (lo2 := [_, _, _, _, _, _, _, _]) (Nat.le_of_ble_eq_true rfl) rfl rfl ?_
  refine z_aload_n hC dX6_copy_7 rfl ?_
  refine z_iload_n hC dX6_copy_8 rfl ?_
  refine zVv hC dX6_copy_9 zlX6_54 (c_shelfAt_t hD hq) (hD _) rfl rfl rfl rfl rfl rfl ?_
  refine z_astore hC dX6_copy_12 (lo2 := [_, _, _, _, _, _, _, _]) (Nat.le_of_ble_eq_true rfl) rfl rfl ?_
  refine z_aload hC dX6_copy_14 rfl ?_
  refine z_ifnull hC dX6_copy_16  ?_
  refine z_aload hC dX6_copy_19 rfl ?_
  refine z_ifnonnull hC dX6_copy_21 (tgt := 31) (by decide) ?_
  refine z_aload hC dX6_copy_31 rfl ?_
  refine zVv hC dX6_copy_33 zlX6_85 (c_isBend_n ((hD _).trans (dsh_s hp).1) ep) ((hD _).trans (dsh_s hp).1) rfl rfl rfl rfl rfl rfl ?_
  refine z_nif_ne hC dX6_copy_36 (tgt := 47) (by decide) (by omega) (fun c36 => ?_) (fun c36 => ?_)
  · exfalso; omega
  refine z_aload hC dX6_copy_39 rfl ?_
  refine zVv hC dX6_copy_41 zlX6_85 (c_isBend_r ((hD _).trans (dsh_s hq).1) eq gq) ((hD _).trans (dsh_s hq).1) rfl rfl rfl rfl rfl rfl ?_
  refine z_nif_eq hC dX6_copy_44 (tgt := 54) (by decide) (by omega) (fun c44 => ?_) (fun c44 => ?_)
  rotate_left
  · exfalso; omega
  refine z_aload hC dX6_copy_54 rfl ?_
  refine zVv hC dX6_copy_56 zlX6_74 (c_isEmpty_n ((hD _).trans (dsh_s hp).1) ep) ((hD _).trans (dsh_s hp).1) rfl rfl rfl rfl rfl rfl ?_
  refine z_nif_ne hC dX6_copy_59 (tgt := 70) (by decide) (by omega) (fun c59 => ?_) (fun c59 => ?_)
  rotate_left
  · exfalso; omega
  refine z_aload_n hC dX6_copy_70 rfl ?_
  refine z_bipush hC dX6_copy_71 (v := -4) rfl ?_
  refine zVv hC dX6_copy_73 zlX6_62 (c_X6_refuse hD (j := 2) (by decide) (by decide)) (hD _) rfl rfl rfl rfl rfl rfl ?_
  refine z_iret hC dX6_copy_76 ?_
  exact hE.to (by rfl) rfl rfl rfl

theorem e_copy_nb (hD : ∀ k, S 3 k = dsh k) (hO : DOK D) (hM : DMe D I X Y) {p q : Nat} {i j m : Int32} (hp : p < 8) (hq : q < 8) (ep : I 3 (35 + 2 * p) 0 = -1) {rq : Nat} (gq : rq < 14) (eq : I 3 (35 + 2 * q) 0 = nI (10 + rq))  : zC0 mX6_copy 3 [zr 3 0, zi (nI p), zi (nI q), zi i, zi j, zi m] (some (zi (-3))) ad S I X Y sz I (rfX 1 X) Y := by
  refine zgo (own := RX6) (k := 2) (by decide +kernel) rfl rfl rfl (fun C hC hnm hE => ?_)
  have hm := hM.1
  have hR := hO.1
  refine z_aload_n hC dX6_copy_0 rfl ?_
  refine z_iload_n hC dX6_copy_1 rfl ?_
  refine zVv hC dX6_copy_2 zlX6_54 (c_shelfAt_t hD hp) (hD _) rfl rfl rfl rfl rfl rfl ?_
  refine z_astore hC dX6_copy_5 (lo2 := [_, _, _, _, _, _, _, _]) (Nat.le_of_ble_eq_true rfl) rfl rfl ?_
  refine z_aload_n hC dX6_copy_7 rfl ?_
  refine z_iload_n hC dX6_copy_8 rfl ?_
  refine zVv hC dX6_copy_9 zlX6_54 (c_shelfAt_t hD hq) (hD _) rfl rfl rfl rfl rfl rfl ?_
  refine z_astore hC dX6_copy_12 (lo2 := [_, _, _, _, _, _, _, _]) (Nat.le_of_ble_eq_true rfl) rfl rfl ?_
  refine z_aload hC dX6_copy_14 rfl ?_
  refine z_ifnull hC dX6_copy_16  ?_
  refine z_aload hC dX6_copy_19 rfl ?_
  refine z_ifnonnull hC dX6_copy_21 (tgt := 31) (by decide) ?_
  refine z_aload hC dX6_copy_31 rfl ?_
  refine zVv hC dX6_copy_33 zlX6_85 (c_isBend_n ((hD _).trans (dsh_s hp).1) ep) ((hD _).trans (dsh_s hp).1) rfl rfl rfl rfl rfl rfl ?_
  refine z_nif_ne hC dX6_copy_36 (tgt := 47) (by decide) (by omega) (fun c36 => ?_) (fun c36 => ?_)
  · exfalso; omega
  refine z_aload hC dX6_copy_39 rfl ?_
  refine zVv hC dX6_copy_41 zlX6_85 (c_isBend_b ((hD _).trans (dsh_s hq).1) eq gq) ((hD _).trans (dsh_s hq).1) rfl rfl rfl rfl rfl rfl ?_
  refine z_nif_eq hC dX6_copy_44 (tgt := 54) (by decide) (by omega) (fun c44 => ?_) (fun c44 => ?_)
  · exfalso; omega
  refine z_aload_n hC dX6_copy_47 rfl ?_
  refine z_bipush hC dX6_copy_48 (v := -3) rfl ?_
  refine zVv hC dX6_copy_50 zlX6_62 (c_X6_refuse hD (j := 1) (by decide) (by decide)) (hD _) rfl rfl rfl rfl rfl rfl ?_
  refine z_iret hC dX6_copy_53 ?_
  exact hE.to (by rfl) rfl rfl rfl

theorem e_copy_rn (hD : ∀ k, S 3 k = dsh k) (hO : DOK D) (hM : DMe D I X Y) {p q : Nat} {i j m : Int32} (hp : p < 8) (hq : q < 8) {rp : Nat} (gp : rp ≤ 4) (ep : I 3 (35 + 2 * p) 0 = nI rp) (eq : I 3 (35 + 2 * q) 0 = -1)  : zC0 mX6_copy 3 [zr 3 0, zi (nI p), zi (nI q), zi i, zi j, zi m] (some (zi (-4))) ad S I X Y sz I (rfX 2 X) Y := by
  refine zgo (own := RX6) (k := 2) (by decide +kernel) rfl rfl rfl (fun C hC hnm hE => ?_)
  have hm := hM.1
  have hR := hO.1
  refine z_aload_n hC dX6_copy_0 rfl ?_
  refine z_iload_n hC dX6_copy_1 rfl ?_
  refine zVv hC dX6_copy_2 zlX6_54 (c_shelfAt_t hD hp) (hD _) rfl rfl rfl rfl rfl rfl ?_
  refine z_astore hC dX6_copy_5 (lo2 := [_, _, _, _, _, _, _, _]) (Nat.le_of_ble_eq_true rfl) rfl rfl ?_
  refine z_aload_n hC dX6_copy_7 rfl ?_
  refine z_iload_n hC dX6_copy_8 rfl ?_
  refine zVv hC dX6_copy_9 zlX6_54 (c_shelfAt_t hD hq) (hD _) rfl rfl rfl rfl rfl rfl ?_
  refine z_astore hC dX6_copy_12 (lo2 := [_, _, _, _, _, _, _, _]) (Nat.le_of_ble_eq_true rfl) rfl rfl ?_
  refine z_aload hC dX6_copy_14 rfl ?_
  refine z_ifnull hC dX6_copy_16  ?_
  refine z_aload hC dX6_copy_19 rfl ?_
  refine z_ifnonnull hC dX6_copy_21 (tgt := 31) (by decide) ?_
  refine z_aload hC dX6_copy_31 rfl ?_
  refine zVv hC dX6_copy_33 zlX6_85 (c_isBend_r ((hD _).trans (dsh_s hp).1) ep gp) ((hD _).trans (dsh_s hp).1) rfl rfl rfl rfl rfl rfl ?_
  refine z_nif_ne hC dX6_copy_36 (tgt := 47) (by decide) (by omega) (fun c36 => ?_) (fun c36 => ?_)
  · exfalso; omega
  refine z_aload hC dX6_copy_39 rfl ?_
  refine zVv hC dX6_copy_41 zlX6_85 (c_isBend_n ((hD _).trans (dsh_s hq).1) eq) ((hD _).trans (dsh_s hq).1) rfl rfl rfl rfl rfl rfl ?_
  refine z_nif_eq hC dX6_copy_44 (tgt := 54) (by decide) (by omega) (fun c44 => ?_) (fun c44 => ?_)
  rotate_left
  · exfalso; omega
  refine z_aload hC dX6_copy_54 rfl ?_
  refine zVv hC dX6_copy_56 zlX6_74 (c_isEmpty_r ((hD _).trans (dsh_s hp).1) ep (by omega)) ((hD _).trans (dsh_s hp).1) rfl rfl rfl rfl rfl rfl ?_
  refine z_nif_ne hC dX6_copy_59 (tgt := 70) (by decide) (by omega) (fun c59 => ?_) (fun c59 => ?_)
  · exfalso; omega
  refine z_aload hC dX6_copy_62 rfl ?_
  refine zVv hC dX6_copy_64 zlX6_74 (c_isEmpty_n ((hD _).trans (dsh_s hq).1) eq) ((hD _).trans (dsh_s hq).1) rfl rfl rfl rfl rfl rfl ?_
  refine z_nif_eq hC dX6_copy_67 (tgt := 77) (by decide) (by omega) (fun c67 => ?_) (fun c67 => ?_)
  · exfalso; omega
  refine z_aload_n hC dX6_copy_70 rfl ?_
  refine z_bipush hC dX6_copy_71 (v := -4) rfl ?_
  refine zVv hC dX6_copy_73 zlX6_62 (c_X6_refuse hD (j := 2) (by decide) (by decide)) (hD _) rfl rfl rfl rfl rfl rfl ?_
  refine z_iret hC dX6_copy_76 ?_
  exact hE.to (by rfl) rfl rfl rfl

theorem e_copy_rb (hD : ∀ k, S 3 k = dsh k) (hO : DOK D) (hM : DMe D I X Y) {p q : Nat} {i j m : Int32} (hp : p < 8) (hq : q < 8) {rp : Nat} (gp : rp ≤ 4) (ep : I 3 (35 + 2 * p) 0 = nI rp) {rq : Nat} (gq : rq < 14) (eq : I 3 (35 + 2 * q) 0 = nI (10 + rq))  : zC0 mX6_copy 3 [zr 3 0, zi (nI p), zi (nI q), zi i, zi j, zi m] (some (zi (-3))) ad S I X Y sz I (rfX 1 X) Y := by
  refine zgo (own := RX6) (k := 2) (by decide +kernel) rfl rfl rfl (fun C hC hnm hE => ?_)
  have hm := hM.1
  have hR := hO.1
  refine z_aload_n hC dX6_copy_0 rfl ?_
  refine z_iload_n hC dX6_copy_1 rfl ?_
  refine zVv hC dX6_copy_2 zlX6_54 (c_shelfAt_t hD hp) (hD _) rfl rfl rfl rfl rfl rfl ?_
  refine z_astore hC dX6_copy_5 (lo2 := [_, _, _, _, _, _, _, _]) (Nat.le_of_ble_eq_true rfl) rfl rfl ?_
  refine z_aload_n hC dX6_copy_7 rfl ?_
  refine z_iload_n hC dX6_copy_8 rfl ?_
  refine zVv hC dX6_copy_9 zlX6_54 (c_shelfAt_t hD hq) (hD _) rfl rfl rfl rfl rfl rfl ?_
  refine z_astore hC dX6_copy_12 (lo2 := [_, _, _, _, _, _, _, _]) (Nat.le_of_ble_eq_true rfl) rfl rfl ?_
  refine z_aload hC dX6_copy_14 rfl ?_
  refine z_ifnull hC dX6_copy_16  ?_
  refine z_aload hC dX6_copy_19 rfl ?_
  refine z_ifnonnull hC dX6_copy_21 (tgt := 31) (by decide) ?_
  refine z_aload hC dX6_copy_31 rfl ?_
  refine zVv hC dX6_copy_33 zlX6_85 (c_isBend_r ((hD _).trans (dsh_s hp).1) ep gp) ((hD _).trans (dsh_s hp).1) rfl rfl rfl rfl rfl rfl ?_
  refine z_nif_ne hC dX6_copy_36 (tgt := 47) (by decide) (by omega) (fun c36 => ?_) (fun c36 => ?_)
  · exfalso; omega
  refine z_aload hC dX6_copy_39 rfl ?_
  refine zVv hC dX6_copy_41 zlX6_85 (c_isBend_b ((hD _).trans (dsh_s hq).1) eq gq) ((hD _).trans (dsh_s hq).1) rfl rfl rfl rfl rfl rfl ?_
  refine z_nif_eq hC dX6_copy_44 (tgt := 54) (by decide) (by omega) (fun c44 => ?_) (fun c44 => ?_)
  · exfalso; omega
  refine z_aload_n hC dX6_copy_47 rfl ?_
  refine z_bipush hC dX6_copy_48 (v := -3) rfl ?_
  refine zVv hC dX6_copy_50 zlX6_62 (c_X6_refuse hD (j := 1) (by decide) (by decide)) (hD _) rfl rfl rfl rfl rfl rfl ?_
  refine z_iret hC dX6_copy_53 ?_
  exact hE.to (by rfl) rfl rfl rfl

theorem e_copy_bx (hD : ∀ k, S 3 k = dsh k) (hO : DOK D) (hM : DMe D I X Y) {p q : Nat} {i j m : Int32} (hp : p < 8) (hq : q < 8) {rp : Nat} (gp : rp < 14) (ep : I 3 (35 + 2 * p) 0 = nI (10 + rp))  : zC0 mX6_copy 3 [zr 3 0, zi (nI p), zi (nI q), zi i, zi j, zi m] (some (zi (-3))) ad S I X Y sz I (rfX 1 X) Y := by
  refine zgo (own := RX6) (k := 2) (by decide +kernel) rfl rfl rfl (fun C hC hnm hE => ?_)
  have hm := hM.1
  have hR := hO.1
  refine z_aload_n hC dX6_copy_0 rfl ?_
  refine z_iload_n hC dX6_copy_1 rfl ?_
  refine zVv hC dX6_copy_2 zlX6_54 (c_shelfAt_t hD hp) (hD _) rfl rfl rfl rfl rfl rfl ?_
  refine z_astore hC dX6_copy_5 (lo2 := [_, _, _, _, _, _, _, _]) (Nat.le_of_ble_eq_true rfl) rfl rfl ?_
  refine z_aload_n hC dX6_copy_7 rfl ?_
  refine z_iload_n hC dX6_copy_8 rfl ?_
  refine zVv hC dX6_copy_9 zlX6_54 (c_shelfAt_t hD hq) (hD _) rfl rfl rfl rfl rfl rfl ?_
  refine z_astore hC dX6_copy_12 (lo2 := [_, _, _, _, _, _, _, _]) (Nat.le_of_ble_eq_true rfl) rfl rfl ?_
  refine z_aload hC dX6_copy_14 rfl ?_
  refine z_ifnull hC dX6_copy_16  ?_
  refine z_aload hC dX6_copy_19 rfl ?_
  refine z_ifnonnull hC dX6_copy_21 (tgt := 31) (by decide) ?_
  refine z_aload hC dX6_copy_31 rfl ?_
  refine zVv hC dX6_copy_33 zlX6_85 (c_isBend_b ((hD _).trans (dsh_s hp).1) ep gp) ((hD _).trans (dsh_s hp).1) rfl rfl rfl rfl rfl rfl ?_
  refine z_nif_ne hC dX6_copy_36 (tgt := 47) (by decide) (by omega) (fun c36 => ?_) (fun c36 => ?_)
  rotate_left
  · exfalso; omega
  refine z_aload_n hC dX6_copy_47 rfl ?_
  refine z_bipush hC dX6_copy_48 (v := -3) rfl ?_
  refine zVv hC dX6_copy_50 zlX6_62 (c_X6_refuse hD (j := 1) (by decide) (by decide)) (hD _) rfl rfl rfl rfl rfl rfl ?_
  refine z_iret hC dX6_copy_53 ?_
  exact hE.to (by rfl) rfl rfl rfl

theorem e_copy_rd (hD : ∀ k, S 3 k = dsh k) (hO : DOK D) (hM : DMe D I X Y) {p q : Nat} {i j m : Int32} (hp : p < 8) (hq : q < 8) {rp : Nat} (gp : rp ≤ 4) (ep : I 3 (35 + 2 * p) 0 = nI rp) {rq : Nat} (gq : rq ≤ 4) (eq : I 3 (35 + 2 * q) 0 = nI rq) (hd : ¬ rp = rq) : zC0 mX6_copy 3 [zr 3 0, zi (nI p), zi (nI q), zi i, zi j, zi m] (some (zi (-3))) ad S I X Y sz I (rfX 1 X) Y := by
  refine zgo (own := RX6) (k := 2) (by decide +kernel) rfl rfl rfl (fun C hC hnm hE => ?_)
  have hm := hM.1
  have hR := hO.1
  refine z_aload_n hC dX6_copy_0 rfl ?_
  refine z_iload_n hC dX6_copy_1 rfl ?_
  refine zVv hC dX6_copy_2 zlX6_54 (c_shelfAt_t hD hp) (hD _) rfl rfl rfl rfl rfl rfl ?_
  refine z_astore hC dX6_copy_5 (lo2 := [_, _, _, _, _, _, _, _]) (Nat.le_of_ble_eq_true rfl) rfl rfl ?_
  refine z_aload_n hC dX6_copy_7 rfl ?_
  refine z_iload_n hC dX6_copy_8 rfl ?_
  refine zVv hC dX6_copy_9 zlX6_54 (c_shelfAt_t hD hq) (hD _) rfl rfl rfl rfl rfl rfl ?_
  refine z_astore hC dX6_copy_12 (lo2 := [_, _, _, _, _, _, _, _]) (Nat.le_of_ble_eq_true rfl) rfl rfl ?_
  refine z_aload hC dX6_copy_14 rfl ?_
  refine z_ifnull hC dX6_copy_16  ?_
  refine z_aload hC dX6_copy_19 rfl ?_
  refine z_ifnonnull hC dX6_copy_21 (tgt := 31) (by decide) ?_
  refine z_aload hC dX6_copy_31 rfl ?_
  refine zVv hC dX6_copy_33 zlX6_85 (c_isBend_r ((hD _).trans (dsh_s hp).1) ep gp) ((hD _).trans (dsh_s hp).1) rfl rfl rfl rfl rfl rfl ?_
  refine z_nif_ne hC dX6_copy_36 (tgt := 47) (by decide) (by omega) (fun c36 => ?_) (fun c36 => ?_)
  · exfalso; omega
  refine z_aload hC dX6_copy_39 rfl ?_
  refine zVv hC dX6_copy_41 zlX6_85 (c_isBend_r ((hD _).trans (dsh_s hq).1) eq gq) ((hD _).trans (dsh_s hq).1) rfl rfl rfl rfl rfl rfl ?_
  refine z_nif_eq hC dX6_copy_44 (tgt := 54) (by decide) (by omega) (fun c44 => ?_) (fun c44 => ?_)
  rotate_left
  · exfalso; omega
  refine z_aload hC dX6_copy_54 rfl ?_
  refine zVv hC dX6_copy_56 zlX6_74 (c_isEmpty_r ((hD _).trans (dsh_s hp).1) ep (by omega)) ((hD _).trans (dsh_s hp).1) rfl rfl rfl rfl rfl rfl ?_
  refine z_nif_ne hC dX6_copy_59 (tgt := 70) (by decide) (by omega) (fun c59 => ?_) (fun c59 => ?_)
  · exfalso; omega
  refine z_aload hC dX6_copy_62 rfl ?_
  refine zVv hC dX6_copy_64 zlX6_74 (c_isEmpty_r ((hD _).trans (dsh_s hq).1) eq (by omega)) ((hD _).trans (dsh_s hq).1) rfl rfl rfl rfl rfl rfl ?_
  refine z_nif_eq hC dX6_copy_67 (tgt := 77) (by decide) (by omega) (fun c67 => ?_) (fun c67 => ?_)
  rotate_left
  · exfalso; omega
  refine z_aload hC dX6_copy_77 rfl ?_
  refine z_getN hC dX6_copy_79 ((hD _).trans (dsh_s hp).1) zfX6_88 rfl ep ?_
  refine z_aload hC dX6_copy_82 rfl ?_
  refine z_getN hC dX6_copy_84 ((hD _).trans (dsh_s hq).1) zfX6_88 rfl eq ?_
  refine z_nicmp_eq hC dX6_copy_87 (tgt := 97) (by decide) (by omega) (by omega) (fun c87 => ?_) (fun c87 => ?_)
  · exfalso; omega
  refine z_aload_n hC dX6_copy_90 rfl ?_
  refine z_bipush hC dX6_copy_91 (v := -3) rfl ?_
  refine zVv hC dX6_copy_93 zlX6_62 (c_X6_refuse hD (j := 1) (by decide) (by decide)) (hD _) rfl rfl rfl rfl rfl rfl ?_
  refine z_iret hC dX6_copy_96 ?_
  exact hE.to (by rfl) rfl rfl rfl

theorem e_copy_re (hD : ∀ k, S 3 k = dsh k) (hO : DOK D) (hM : DMe D I X Y) {p q : Nat} {i j m : Int32} (hp : p < 8) (hq : q < 8) {rp : Nat} (gp : rp ≤ 4) (ep : I 3 (35 + 2 * p) 0 = nI rp) {rq : Nat} (gq : rq ≤ 4) (eq : I 3 (35 + 2 * q) 0 = nI rq) (hd : rp = rq) {np nq : Nat} (kp : I 3 (35 + 2 * p) 1 = nI np) (kp40 : np ≤ 40) (kq : I 3 (35 + 2 * q) 1 = nI nq) (kq40 : nq ≤ 40) (hx : ¬ (inB i (np + 1) ∧ inB m (np + 1 - i.toInt.toNat))) : zC0 mX6_copy 3 [zr 3 0, zi (nI p), zi (nI q), zi i, zi j, zi m] (some (zi (-2))) ad S I X Y sz I (rfX 0 X) Y := by
  refine zgo (own := RX6) (k := 2) (by decide +kernel) rfl rfl rfl (fun C hC hnm hE => ?_)
  have hm := hM.1
  have hR := hO.1
  refine z_aload_n hC dX6_copy_0 rfl ?_
  refine z_iload_n hC dX6_copy_1 rfl ?_
  refine zVv hC dX6_copy_2 zlX6_54 (c_shelfAt_t hD hp) (hD _) rfl rfl rfl rfl rfl rfl ?_
  refine z_astore hC dX6_copy_5 (lo2 := [_, _, _, _, _, _, _, _]) (Nat.le_of_ble_eq_true rfl) rfl rfl ?_
  refine z_aload_n hC dX6_copy_7 rfl ?_
  refine z_iload_n hC dX6_copy_8 rfl ?_
  refine zVv hC dX6_copy_9 zlX6_54 (c_shelfAt_t hD hq) (hD _) rfl rfl rfl rfl rfl rfl ?_
  refine z_astore hC dX6_copy_12 (lo2 := [_, _, _, _, _, _, _, _]) (Nat.le_of_ble_eq_true rfl) rfl rfl ?_
  refine z_aload hC dX6_copy_14 rfl ?_
  refine z_ifnull hC dX6_copy_16  ?_
  refine z_aload hC dX6_copy_19 rfl ?_
  refine z_ifnonnull hC dX6_copy_21 (tgt := 31) (by decide) ?_
  refine z_aload hC dX6_copy_31 rfl ?_
  refine zVv hC dX6_copy_33 zlX6_85 (c_isBend_r ((hD _).trans (dsh_s hp).1) ep gp) ((hD _).trans (dsh_s hp).1) rfl rfl rfl rfl rfl rfl ?_
  refine z_nif_ne hC dX6_copy_36 (tgt := 47) (by decide) (by omega) (fun c36 => ?_) (fun c36 => ?_)
  · exfalso; omega
  refine z_aload hC dX6_copy_39 rfl ?_
  refine zVv hC dX6_copy_41 zlX6_85 (c_isBend_r ((hD _).trans (dsh_s hq).1) eq gq) ((hD _).trans (dsh_s hq).1) rfl rfl rfl rfl rfl rfl ?_
  refine z_nif_eq hC dX6_copy_44 (tgt := 54) (by decide) (by omega) (fun c44 => ?_) (fun c44 => ?_)
  rotate_left
  · exfalso; omega
  refine z_aload hC dX6_copy_54 rfl ?_
  refine zVv hC dX6_copy_56 zlX6_74 (c_isEmpty_r ((hD _).trans (dsh_s hp).1) ep (by omega)) ((hD _).trans (dsh_s hp).1) rfl rfl rfl rfl rfl rfl ?_
  refine z_nif_ne hC dX6_copy_59 (tgt := 70) (by decide) (by omega) (fun c59 => ?_) (fun c59 => ?_)
  · exfalso; omega
  refine z_aload hC dX6_copy_62 rfl ?_
  refine zVv hC dX6_copy_64 zlX6_74 (c_isEmpty_r ((hD _).trans (dsh_s hq).1) eq (by omega)) ((hD _).trans (dsh_s hq).1) rfl rfl rfl rfl rfl rfl ?_
  refine z_nif_eq hC dX6_copy_67 (tgt := 77) (by decide) (by omega) (fun c67 => ?_) (fun c67 => ?_)
  rotate_left
  · exfalso; omega
  refine z_aload hC dX6_copy_77 rfl ?_
  refine z_getN hC dX6_copy_79 ((hD _).trans (dsh_s hp).1) zfX6_88 rfl ep ?_
  refine z_aload hC dX6_copy_82 rfl ?_
  refine z_getN hC dX6_copy_84 ((hD _).trans (dsh_s hq).1) zfX6_88 rfl eq ?_
  refine z_nicmp_eq hC dX6_copy_87 (tgt := 97) (by decide) (by omega) (by omega) (fun c87 => ?_) (fun c87 => ?_)
  rotate_left
  · exfalso; omega
  refine z_aload hC dX6_copy_97 rfl ?_
  refine z_iload_n hC dX6_copy_99 rfl ?_
  refine z_iload hC dX6_copy_100 rfl ?_
  refine zVv hC dX6_copy_102 zlX6_92 (c_hasElements_f ((hD _).trans (dsh_s hp).1) ep gp kp kp40 hx) ((hD _).trans (dsh_s hp).1) rfl rfl rfl rfl rfl rfl ?_
  refine z_nif_eq hC dX6_copy_105 (tgt := 120) (by decide) (by omega) (fun c105 => ?_) (fun c105 => ?_)
  rotate_left
  · exfalso; omega
  refine z_aload_n hC dX6_copy_120 rfl ?_
  refine z_bipush hC dX6_copy_121 (v := -2) rfl ?_
  refine zVv hC dX6_copy_123 zlX6_62 (c_X6_refuse hD (j := 0) (by decide) (by decide)) (hD _) rfl rfl rfl rfl rfl rfl ?_
  refine z_iret hC dX6_copy_126 ?_
  exact hE.to (by rfl) rfl rfl rfl

theorem e_copy_rg (hD : ∀ k, S 3 k = dsh k) (hO : DOK D) (hM : DMe D I X Y) {p q i m : Nat} {j : Int32} (hp : p < 8) (hq : q < 8) {rp : Nat} (gp : rp ≤ 4) (ep : I 3 (35 + 2 * p) 0 = nI rp) {rq : Nat} (gq : rq ≤ 4) (eq : I 3 (35 + 2 * q) 0 = nI rq) (hd : rp = rq) {np nq : Nat} (kp : I 3 (35 + 2 * p) 1 = nI np) (kp40 : np ≤ 40) (kq : I 3 (35 + 2 * q) 1 = nI nq) (kq40 : nq ≤ 40) (h1 : i + m ≤ np) (hx : ¬ (inB j (nq + 1) ∧ inB (nI m) (nq + 1 - j.toInt.toNat))) : zC0 mX6_copy 3 [zr 3 0, zi (nI p), zi (nI q), zi (nI i), zi j, zi (nI m)] (some (zi (-2))) ad S I X Y sz I (rfX 0 X) Y := by
  refine zgo (own := RX6) (k := 2) (by decide +kernel) rfl rfl rfl (fun C hC hnm hE => ?_)
  have hm := hM.1
  have hR := hO.1
  refine z_aload_n hC dX6_copy_0 rfl ?_
  refine z_iload_n hC dX6_copy_1 rfl ?_
  refine zVv hC dX6_copy_2 zlX6_54 (c_shelfAt_t hD hp) (hD _) rfl rfl rfl rfl rfl rfl ?_
  refine z_astore hC dX6_copy_5 (lo2 := [_, _, _, _, _, _, _, _]) (Nat.le_of_ble_eq_true rfl) rfl rfl ?_
  refine z_aload_n hC dX6_copy_7 rfl ?_
  refine z_iload_n hC dX6_copy_8 rfl ?_
  refine zVv hC dX6_copy_9 zlX6_54 (c_shelfAt_t hD hq) (hD _) rfl rfl rfl rfl rfl rfl ?_
  refine z_astore hC dX6_copy_12 (lo2 := [_, _, _, _, _, _, _, _]) (Nat.le_of_ble_eq_true rfl) rfl rfl ?_
  refine z_aload hC dX6_copy_14 rfl ?_
  refine z_ifnull hC dX6_copy_16  ?_
  refine z_aload hC dX6_copy_19 rfl ?_
  refine z_ifnonnull hC dX6_copy_21 (tgt := 31) (by decide) ?_
  refine z_aload hC dX6_copy_31 rfl ?_
  refine zVv hC dX6_copy_33 zlX6_85 (c_isBend_r ((hD _).trans (dsh_s hp).1) ep gp) ((hD _).trans (dsh_s hp).1) rfl rfl rfl rfl rfl rfl ?_
  refine z_nif_ne hC dX6_copy_36 (tgt := 47) (by decide) (by omega) (fun c36 => ?_) (fun c36 => ?_)
  · exfalso; omega
  refine z_aload hC dX6_copy_39 rfl ?_
  refine zVv hC dX6_copy_41 zlX6_85 (c_isBend_r ((hD _).trans (dsh_s hq).1) eq gq) ((hD _).trans (dsh_s hq).1) rfl rfl rfl rfl rfl rfl ?_
  refine z_nif_eq hC dX6_copy_44 (tgt := 54) (by decide) (by omega) (fun c44 => ?_) (fun c44 => ?_)
  rotate_left
  · exfalso; omega
  refine z_aload hC dX6_copy_54 rfl ?_
  refine zVv hC dX6_copy_56 zlX6_74 (c_isEmpty_r ((hD _).trans (dsh_s hp).1) ep (by omega)) ((hD _).trans (dsh_s hp).1) rfl rfl rfl rfl rfl rfl ?_
  refine z_nif_ne hC dX6_copy_59 (tgt := 70) (by decide) (by omega) (fun c59 => ?_) (fun c59 => ?_)
  · exfalso; omega
  refine z_aload hC dX6_copy_62 rfl ?_
  refine zVv hC dX6_copy_64 zlX6_74 (c_isEmpty_r ((hD _).trans (dsh_s hq).1) eq (by omega)) ((hD _).trans (dsh_s hq).1) rfl rfl rfl rfl rfl rfl ?_
  refine z_nif_eq hC dX6_copy_67 (tgt := 77) (by decide) (by omega) (fun c67 => ?_) (fun c67 => ?_)
  rotate_left
  · exfalso; omega
  refine z_aload hC dX6_copy_77 rfl ?_
  refine z_getN hC dX6_copy_79 ((hD _).trans (dsh_s hp).1) zfX6_88 rfl ep ?_
  refine z_aload hC dX6_copy_82 rfl ?_
  refine z_getN hC dX6_copy_84 ((hD _).trans (dsh_s hq).1) zfX6_88 rfl eq ?_
  refine z_nicmp_eq hC dX6_copy_87 (tgt := 97) (by decide) (by omega) (by omega) (fun c87 => ?_) (fun c87 => ?_)
  rotate_left
  · exfalso; omega
  refine z_aload hC dX6_copy_97 rfl ?_
  refine z_iload_n hC dX6_copy_99 rfl ?_
  refine z_iload hC dX6_copy_100 rfl ?_
  refine zVv hC dX6_copy_102 zlX6_92 (c_hasElements_t ((hD _).trans (dsh_s hp).1) ep gp kp kp40 h1) ((hD _).trans (dsh_s hp).1) rfl rfl rfl rfl rfl rfl ?_
  refine z_nif_eq hC dX6_copy_105 (tgt := 120) (by decide) (by omega) (fun c105 => ?_) (fun c105 => ?_)
  · exfalso; omega
  refine z_aload hC dX6_copy_108 rfl ?_
  refine z_iload hC dX6_copy_110 rfl ?_
  refine z_iload hC dX6_copy_112 rfl ?_
  refine zVv hC dX6_copy_114 zlX6_92 (c_hasElements_f ((hD _).trans (dsh_s hq).1) eq gq kq kq40 hx) ((hD _).trans (dsh_s hq).1) rfl rfl rfl rfl rfl rfl ?_
  refine z_nif_ne hC dX6_copy_117 (tgt := 127) (by decide) (by omega) (fun c117 => ?_) (fun c117 => ?_)
  · exfalso; omega
  refine z_aload_n hC dX6_copy_120 rfl ?_
  refine z_bipush hC dX6_copy_121 (v := -2) rfl ?_
  refine zVv hC dX6_copy_123 zlX6_62 (c_X6_refuse hD (j := 0) (by decide) (by decide)) (hD _) rfl rfl rfl rfl rfl rfl ?_
  refine z_iret hC dX6_copy_126 ?_
  exact hE.to (by rfl) rfl rfl rfl

theorem e_copy_rr (hD : ∀ k, S 3 k = dsh k) (hO : DOK D) (hM : DMe D I X Y) {p q i j m : Nat} (hp : p < 8) (hq : q < 8) {rp : Nat} (gp : rp ≤ 4) (ep : I 3 (35 + 2 * p) 0 = nI rp) {rq : Nat} (gq : rq ≤ 4) (eq : I 3 (35 + 2 * q) 0 = nI rq) (hd : rp = rq) {np nq : Nat} (kp : I 3 (35 + 2 * p) 1 = nI np) (kp40 : np ≤ 40) (kq : I 3 (35 + 2 * q) 1 = nI nq) (kq40 : nq ≤ 40) (h1 : i + m ≤ np) (h2 : j + m ≤ nq) : zC0 mX6_copy 3 [zr 3 0, zi (nI p), zi (nI q), zi (nI i), zi (nI j), zi (nI m)] (some (zi (nI m))) ad S I X Y sz I X (up2 Y 3 (36 + 2 * q) (va_cpy (Y 3 (36 + 2 * p)) (Y 3 (36 + 2 * q)) i j m)) := by
  refine zgo (own := RX6) (k := 2) (by decide +kernel) rfl rfl rfl (fun C hC hnm hE => ?_)
  have hm := hM.1
  have hR := hO.1
  refine z_aload_n hC dX6_copy_0 rfl ?_
  refine z_iload_n hC dX6_copy_1 rfl ?_
  refine zVv hC dX6_copy_2 zlX6_54 (c_shelfAt_t hD hp) (hD _) rfl rfl rfl rfl rfl rfl ?_
  refine z_astore hC dX6_copy_5 (lo2 := [_, _, _, _, _, _, _, _]) (Nat.le_of_ble_eq_true rfl) rfl rfl ?_
  refine z_aload_n hC dX6_copy_7 rfl ?_
  refine z_iload_n hC dX6_copy_8 rfl ?_
  refine zVv hC dX6_copy_9 zlX6_54 (c_shelfAt_t hD hq) (hD _) rfl rfl rfl rfl rfl rfl ?_
  refine z_astore hC dX6_copy_12 (lo2 := [_, _, _, _, _, _, _, _]) (Nat.le_of_ble_eq_true rfl) rfl rfl ?_
  refine z_aload hC dX6_copy_14 rfl ?_
  refine z_ifnull hC dX6_copy_16  ?_
  refine z_aload hC dX6_copy_19 rfl ?_
  refine z_ifnonnull hC dX6_copy_21 (tgt := 31) (by decide) ?_
  refine z_aload hC dX6_copy_31 rfl ?_
  refine zVv hC dX6_copy_33 zlX6_85 (c_isBend_r ((hD _).trans (dsh_s hp).1) ep gp) ((hD _).trans (dsh_s hp).1) rfl rfl rfl rfl rfl rfl ?_
  refine z_nif_ne hC dX6_copy_36 (tgt := 47) (by decide) (by omega) (fun c36 => ?_) (fun c36 => ?_)
  · exfalso; omega
  refine z_aload hC dX6_copy_39 rfl ?_
  refine zVv hC dX6_copy_41 zlX6_85 (c_isBend_r ((hD _).trans (dsh_s hq).1) eq gq) ((hD _).trans (dsh_s hq).1) rfl rfl rfl rfl rfl rfl ?_
  refine z_nif_eq hC dX6_copy_44 (tgt := 54) (by decide) (by omega) (fun c44 => ?_) (fun c44 => ?_)
  rotate_left
  · exfalso; omega
  refine z_aload hC dX6_copy_54 rfl ?_
  refine zVv hC dX6_copy_56 zlX6_74 (c_isEmpty_r ((hD _).trans (dsh_s hp).1) ep (by omega)) ((hD _).trans (dsh_s hp).1) rfl rfl rfl rfl rfl rfl ?_
  refine z_nif_ne hC dX6_copy_59 (tgt := 70) (by decide) (by omega) (fun c59 => ?_) (fun c59 => ?_)
  · exfalso; omega
  refine z_aload hC dX6_copy_62 rfl ?_
  refine zVv hC dX6_copy_64 zlX6_74 (c_isEmpty_r ((hD _).trans (dsh_s hq).1) eq (by omega)) ((hD _).trans (dsh_s hq).1) rfl rfl rfl rfl rfl rfl ?_
  refine z_nif_eq hC dX6_copy_67 (tgt := 77) (by decide) (by omega) (fun c67 => ?_) (fun c67 => ?_)
  rotate_left
  · exfalso; omega
  refine z_aload hC dX6_copy_77 rfl ?_
  refine z_getN hC dX6_copy_79 ((hD _).trans (dsh_s hp).1) zfX6_88 rfl ep ?_
  refine z_aload hC dX6_copy_82 rfl ?_
  refine z_getN hC dX6_copy_84 ((hD _).trans (dsh_s hq).1) zfX6_88 rfl eq ?_
  refine z_nicmp_eq hC dX6_copy_87 (tgt := 97) (by decide) (by omega) (by omega) (fun c87 => ?_) (fun c87 => ?_)
  rotate_left
  · exfalso; omega
  refine z_aload hC dX6_copy_97 rfl ?_
  refine z_iload_n hC dX6_copy_99 rfl ?_
  refine z_iload hC dX6_copy_100 rfl ?_
  refine zVv hC dX6_copy_102 zlX6_92 (c_hasElements_t ((hD _).trans (dsh_s hp).1) ep gp kp kp40 h1) ((hD _).trans (dsh_s hp).1) rfl rfl rfl rfl rfl rfl ?_
  refine z_nif_eq hC dX6_copy_105 (tgt := 120) (by decide) (by omega) (fun c105 => ?_) (fun c105 => ?_)
  · exfalso; omega
  refine z_aload hC dX6_copy_108 rfl ?_
  refine z_iload hC dX6_copy_110 rfl ?_
  refine z_iload hC dX6_copy_112 rfl ?_
  refine zVv hC dX6_copy_114 zlX6_92 (c_hasElements_t ((hD _).trans (dsh_s hq).1) eq gq kq kq40 h2) ((hD _).trans (dsh_s hq).1) rfl rfl rfl rfl rfl rfl ?_
  refine z_nif_ne hC dX6_copy_117 (tgt := 127) (by decide) (by omega) (fun c117 => ?_) (fun c117 => ?_)
  rotate_left
  · exfalso; omega
  refine z_aload hC dX6_copy_127 rfl ?_
  refine z_aload hC dX6_copy_129 rfl ?_
  refine z_iload_n hC dX6_copy_131 rfl ?_
  refine z_iload hC dX6_copy_132 rfl ?_
  refine z_iload hC dX6_copy_134 rfl ?_
  refine zV0 hC dX6_copy_136 zlX6_96 (c_X2_takeElements ((hD _).trans (dsh_s hq).1) ((hD _).trans (dsh_s hq).2) eq gq kq kq40 ((hD _).trans (dsh_s hp).1) ((hD _).trans (dsh_s hp).2) ep gp kp kp40 h1 h2) ((hD _).trans (dsh_s hq).1) rfl rfl rfl rfl rfl rfl ?_
  refine z_iload hC dX6_copy_139 rfl ?_
  refine z_iret hC dX6_copy_141 ?_
  exact hE.to (by rfl) rfl rfl rfl

theorem e_copy_fa (hD : ∀ k, S 3 k = dsh k) (hO : DOK D) (hM : DMe D I X Y) {x i j m : Int32} {q : Nat} (hx : ¬ inB x 8) (hq : q < 8) : zC0 mX6_copy 3 [zr 3 0, zi x, zi (nI q), zi i, zi j, zi m] (some (zi (-2))) ad S I X Y sz I (rfX 0 X) Y := by
  refine zgo (own := RX6) (k := 2) (by decide +kernel) rfl rfl rfl (fun C hC hnm hE => ?_)
  have hm := hM.1
  have hR := hO.1
  refine z_aload_n hC dX6_copy_0 rfl ?_
  refine z_iload_n hC dX6_copy_1 rfl ?_
  refine zVv hC dX6_copy_2 zlX6_54 (c_shelfAt_f hD hx) (hD _) rfl rfl rfl rfl rfl rfl ?_
  refine z_astoreN hC dX6_copy_5 (lo2 := [_, _, _, _, _, _, _, _]) (Nat.le_of_ble_eq_true rfl) rfl rfl ?_
  refine z_aload_n hC dX6_copy_7 rfl ?_
  refine z_iload_n hC dX6_copy_8 rfl ?_
  refine zVv hC dX6_copy_9 zlX6_54 (c_shelfAt_t hD hq) (hD _) rfl rfl rfl rfl rfl rfl ?_
  refine z_astore hC dX6_copy_12 (lo2 := [_, _, _, _, _, _, _, _]) (Nat.le_of_ble_eq_true rfl) rfl rfl ?_
  refine z_aloadN hC dX6_copy_14 rfl ?_
  refine z_ifnullN hC dX6_copy_16 (tgt := 24) (by decide) ?_
  refine z_aload_n hC dX6_copy_24 rfl ?_
  refine z_bipush hC dX6_copy_25 (v := -2) rfl ?_
  refine zVv hC dX6_copy_27 zlX6_62 (c_X6_refuse hD (j := 0) (by decide) (by decide)) (hD _) rfl rfl rfl rfl rfl rfl ?_
  refine z_iret hC dX6_copy_30 ?_
  exact hE.to (by rfl) rfl rfl rfl

theorem e_copy_fb (hD : ∀ k, S 3 k = dsh k) (hO : DOK D) (hM : DMe D I X Y) {x y i j m : Int32} (hx : ¬ inB x 8) (hy : ¬ inB y 8) : zC0 mX6_copy 3 [zr 3 0, zi x, zi y, zi i, zi j, zi m] (some (zi (-2))) ad S I X Y sz I (rfX 0 X) Y := by
  refine zgo (own := RX6) (k := 2) (by decide +kernel) rfl rfl rfl (fun C hC hnm hE => ?_)
  have hm := hM.1
  have hR := hO.1
  refine z_aload_n hC dX6_copy_0 rfl ?_
  refine z_iload_n hC dX6_copy_1 rfl ?_
  refine zVv hC dX6_copy_2 zlX6_54 (c_shelfAt_f hD hx) (hD _) rfl rfl rfl rfl rfl rfl ?_
  refine z_astoreN hC dX6_copy_5 (lo2 := [_, _, _, _, _, _, _, _]) (Nat.le_of_ble_eq_true rfl) rfl rfl ?_
  refine z_aload_n hC dX6_copy_7 rfl ?_
  refine z_iload_n hC dX6_copy_8 rfl ?_
  refine zVv hC dX6_copy_9 zlX6_54 (c_shelfAt_f hD hy) (hD _) rfl rfl rfl rfl rfl rfl ?_
  refine z_astoreN hC dX6_copy_12 (lo2 := [_, _, _, _, _, _, _, _]) (Nat.le_of_ble_eq_true rfl) rfl rfl ?_
  refine z_aloadN hC dX6_copy_14 rfl ?_
  refine z_ifnullN hC dX6_copy_16 (tgt := 24) (by decide) ?_
  refine z_aload_n hC dX6_copy_24 rfl ?_
  refine z_bipush hC dX6_copy_25 (v := -2) rfl ?_
  refine zVv hC dX6_copy_27 zlX6_62 (c_X6_refuse hD (j := 0) (by decide) (by decide)) (hD _) rfl rfl rfl rfl rfl rfl ?_
  refine z_iret hC dX6_copy_30 ?_
  exact hE.to (by rfl) rfl rfl rfl

theorem e_copy_fc (hD : ∀ k, S 3 k = dsh k) (hO : DOK D) (hM : DMe D I X Y) {y i j m : Int32} {p : Nat} (hp : p < 8) (hy : ¬ inB y 8) : zC0 mX6_copy 3 [zr 3 0, zi (nI p), zi y, zi i, zi j, zi m] (some (zi (-2))) ad S I X Y sz I (rfX 0 X) Y := by
  refine zgo (own := RX6) (k := 2) (by decide +kernel) rfl rfl rfl (fun C hC hnm hE => ?_)
  have hm := hM.1
  have hR := hO.1
  refine z_aload_n hC dX6_copy_0 rfl ?_
  refine z_iload_n hC dX6_copy_1 rfl ?_
  refine zVv hC dX6_copy_2 zlX6_54 (c_shelfAt_t hD hp) (hD _) rfl rfl rfl rfl rfl rfl ?_
  refine z_astore hC dX6_copy_5 (lo2 := [_, _, _, _, _, _, _, _]) (Nat.le_of_ble_eq_true rfl) rfl rfl ?_
  refine z_aload_n hC dX6_copy_7 rfl ?_
  refine z_iload_n hC dX6_copy_8 rfl ?_
  refine zVv hC dX6_copy_9 zlX6_54 (c_shelfAt_f hD hy) (hD _) rfl rfl rfl rfl rfl rfl ?_
  refine z_astoreN hC dX6_copy_12 (lo2 := [_, _, _, _, _, _, _, _]) (Nat.le_of_ble_eq_true rfl) rfl rfl ?_
  refine z_aload hC dX6_copy_14 rfl ?_
  refine z_ifnull hC dX6_copy_16  ?_
  refine z_aloadN hC dX6_copy_19 rfl ?_
  refine z_ifnonnullN hC dX6_copy_21  ?_
  refine z_aload_n hC dX6_copy_24 rfl ?_
  refine z_bipush hC dX6_copy_25 (v := -2) rfl ?_
  refine zVv hC dX6_copy_27 zlX6_62 (c_X6_refuse hD (j := 0) (by decide) (by decide)) (hD _) rfl rfl rfl rfl rfl rfl ?_
  refine z_iret hC dX6_copy_30 ?_
  exact hE.to (by rfl) rfl rfl rfl

end
