/-! OnTheRoof: SHELVES -/
section
variable {bt : ByteArray} {own : String} {nL : Nat} {ret : Option FieldType} {N mc ms : Nat} {C : zC} {ad : zA} {S : zSh} {cells slots sz pc : Nat} {I X : zI} {Y : zY} {lo : List (Option zV)} {st : List zV}
theorem z_astoreN (hC : zOk bt own nL ret N mc ms C ad) {i : Nat} {lo2 : List (Option zV)} (d : decode bt pc = .ok (.astore i, 2)) (hn : i < nL) (hk : zok lo i = true) (hl : lo.set i (some zu) = lo2) (k : zL C nL ad S cells slots sz I X Y (pc + 2) lo2 (st)) : zL C nL ad S cells slots sz I X Y pc lo (zu :: st) :=
  fun H locs ls h1 h2 h3 => lv_astoreN hC.1 hC.2.1 d (zlv_has h3) hn rfl (fun ls2 h4 => k H locs ls2 h1 h2 (hl ▸ zlv_st1 (v := zu) hk h4))
theorem z_astore_nN (hC : zOk bt own nL ret N mc ms C ad) {n : Fin 4} {lo2 : List (Option zV)} (d : decode bt pc = .ok (.astore_n n, 1)) (hn : n.val < nL) (hk : zok lo n.val = true) (hl : lo.set n.val (some zu) = lo2) (k : zL C nL ad S cells slots sz I X Y (pc + 1) lo2 (st)) : zL C nL ad S cells slots sz I X Y pc lo (zu :: st) :=
  fun H locs ls h1 h2 h3 => lv_astore_nN hC.1 hC.2.1 d rfl (zlv_has h3) hn rfl (fun ls2 h4 => k H locs ls2 h1 h2 (hl ▸ zlv_st1 (v := zu) hk h4))
theorem z_aloadN (hC : zOk bt own nL ret N mc ms C ad) {i : Nat} (d : decode bt pc = .ok (.aload i, 2)) (hx : lo[i]? = some (some zu)) (k : zL C nL ad S cells slots sz I X Y (pc + 2) lo (zu :: st)) : zL C nL ad S cells slots sz I X Y pc lo st :=
  fun H locs ls h1 h2 h3 => lv_aloadN hC.1 hC.2.1 d (h3.2.2 _ _ hx) (k H locs ls h1 h2 h3)
theorem z_aload_nN (hC : zOk bt own nL ret N mc ms C ad) {n : Fin 4} (d : decode bt pc = .ok (.aload_n n, 1)) (hx : lo[n.val]? = some (some zu)) (k : zL C nL ad S cells slots sz I X Y (pc + 1) lo (zu :: st)) : zL C nL ad S cells slots sz I X Y pc lo st :=
  fun H locs ls h1 h2 h3 => lv_aload_nN hC.1 hC.2.1 d rfl (h3.2.2 _ _ hx) (k H locs ls h1 h2 h3)
end
def DH (D : DS) (h : Nat → Option Nat) (n : Nat → Nat) (el : Nat → Nat → Int64) : DS := (D.1, D.2.1, D.2.2.1, (h, n, el), D.2.2.2.2)
theorem DMe.sh {D : DS} {I X I' : zI} {Y Y' : zY} (h : DMe D I X Y) {hh : Nat → Option Nat} {n : Nat → Nat} {el : Nat → Nat → Int64} (hI : ∀ k j, ¬ (35 ≤ k) → I' 3 k j = I 3 k j) (hs : ∀ s, s < 8 → I' 3 (35 + 2 * s) 0 = oI (hh s) ∧ I' 3 (35 + 2 * s) 1 = nI (n s) ∧ ∀ i, i < 40 → Y' 3 (36 + 2 * s) i = el s i) : DMe (DH D hh n el) I' X Y' := by
  obtain ⟨h1, h2, h3, ⟨h4, h5⟩, h6, h7, h8, h9⟩ := h
  exact ⟨h1.frame (fun k j a b => hI k j (by omega)) (fun _ _ _ _ => rfl), by rw [hI _ _ (by omega)]; exact h2, fun K hK => (h3 K hK).frame (fun k j a b => hI k j (by omega)) (fun _ _ _ _ => rfl), ⟨by rw [hI _ _ (by omega)]; exact h4, h5⟩, hs, h7, h8.frame (fun k a b => hI k 1 (by omega)), h9.frame (fun k a b => hI k 1 (by omega))⟩
theorem sh_st {D : DS} {I X : zI} {Y : zY} (hO : DOK D) (hM : DMe D I X Y) {s : Nat} (hs : s < 8) : (D.2.2.2.1.1 s = none ∧ I 3 (35 + 2 * s) 0 = -1) ∨ (∃ q, q ≤ 4 ∧ D.2.2.2.1.1 s = some q ∧ I 3 (35 + 2 * s) 0 = nI q) ∨ (∃ b, b < D.1.1 0 ∧ D.2.2.2.1.1 s = some (10 + b) ∧ I 3 (35 + 2 * s) 0 = nI (10 + b)) := by
  have h1 := (hM.2.2.2.2.1 s hs).1
  have h2 := (hO.2.2.2 s hs).2
  rcases hq : D.2.2.2.1.1 s with _ | q
  · rw [hq] at h1
    exact Or.inl ⟨rfl, h1⟩
  · rw [hq] at h1
    rcases h2 q hq with h3 | h3
    · exact Or.inr (Or.inl ⟨q, h3, rfl, h1⟩)
    · refine Or.inr (Or.inr ⟨q - 10, by omega, by rw [show 10 + (q - 10) = q by omega], ?_⟩)
      rw [show 10 + (q - 10) = q by omega]; exact h1
def upS {α : Type} (f : Nat → α) (s : Nat) (v : α) : Nat → α := fun t => if t = s then v else f t
theorem upS_eq {α : Type} {f : Nat → α} {s : Nat} {v : α} : upS f s v s = v := if_pos rfl
theorem upS_ne {α : Type} {f : Nat → α} {s t : Nat} {v : α} (h : ¬ t = s) : upS f s v t = f t := if_neg h
def rowS (D : DS) (x y u : Int32) : Int32 × DS := if inB x 8 ∧ iw y 0 4 ∧ iw u 0 40 then (nI 1, DH D (upS D.2.2.2.1.1 (nn x) (some (nn y))) (upS D.2.2.2.1.2.1 (nn x) (nn u)) (upS D.2.2.2.1.2.2 (nn x) (fun _ => 0))) else bad 0 D
def setS (D : DS) (x y : Int32) (v : Int64) : Int32 × DS := if inB x 8 then (match D.2.2.2.1.1 (nn x) with
  | none => bad 2 D
  | some q => if 10 ≤ q then bad 1 D else if inB y (D.2.2.2.1.2.1 (nn x)) then (nI 1, DH D D.2.2.2.1.1 D.2.2.2.1.2.1 (upS D.2.2.2.1.2.2 (nn x) (upS (D.2.2.2.1.2.2 (nn x)) (nn y) (fitL q v)))) else bad 0 D) else bad 0 D
def elementS (D : DS) (x y : Int32) : Int64 := if inB x 8 then (match D.2.2.2.1.1 (nn x) with
  | none => 0
  | some q => if 10 ≤ q then 0 else if inB y (D.2.2.2.1.2.1 (nn x)) then D.2.2.2.1.2.2 (nn x) (nn y) else 0) else 0
def holdsS (D : DS) (x : Int32) : Int32 := if inB x 8 then oI (D.2.2.2.1.1 (nn x)) else -1
def showS (D : DS) (x y : Int32) : Int32 × DS := if inB x 8 ∧ (y = -1 ∨ inB y (D.1.1 0)) then (nI 1, DH D (upS D.2.2.2.1.1 (nn x) (if y = -1 then none else some (10 + nn y))) D.2.2.2.1.2.1 D.2.2.2.1.2.2) else bad 0 D

section
variable {ad : zA} {S : zSh} {I X : zI} {Y : zY} {sz : Nat} {D : DS}

theorem e_row_t (hD : ∀ k, S 3 k = dsh k) (hO : DOK D) (hM : DMe D I X Y) {s y u : Nat} (hs : s < 8) (hy : y ≤ 4) (hu : u ≤ 40) : zC0 mX6_row 1 [zr 3 0, zi (nI s), zi (nI y), zi (nI u)] (some (zi (nI 1))) ad S I X Y sz (up3 (up3 I 3 (35 + 2 * s) 0 (nI y)) 3 (35 + 2 * s) 1 (nI u)) X (zero40 (36 + 2 * s) 40 Y) := by
  refine zgo (own := RX6) (k := 1) (by decide +kernel) rfl rfl rfl (fun C hC hnm hE => ?_)
  have hm := hM.1
  have hR := hO.1
  refine z_aload_n hC dX6_row_0 rfl ?_
  refine z_iload_n hC dX6_row_1 rfl ?_
  refine zVv hC dX6_row_2 zlX6_54 (c_shelfAt_t hD hs) (hD _) rfl rfl rfl rfl rfl rfl ?_
  refine z_astore hC dX6_row_5 (lo2 := [_, _, _, _, _]) (Nat.le_of_ble_eq_true rfl) rfl rfl ?_
  refine z_aload hC dX6_row_7 rfl ?_
  refine z_ifnull hC dX6_row_9  ?_
  refine z_iload_n hC dX6_row_12 rfl ?_
  refine z_iconst hC dX6_row_13 (v := nI 0) rfl ?_
  refine z_iconst hC dX6_row_14 (v := nI 4) rfl ?_
  refine zSv hC dX6_row_15 zlX6_58 c_X6_isWithin rfl rfl rfl rfl ?_
  refine z_ifb_eq hC dX6_row_18 (tgt := 31) (by decide) (fun c18 => ?_) (fun c18 => ?_)
  · exact absurd c18 (fun z => z (iw_of (Nat.zero_le _) hy (by decide)))
  refine z_iload_n hC dX6_row_21 rfl ?_
  refine z_iconst hC dX6_row_22 (v := nI 0) rfl ?_
  refine z_bipush hC dX6_row_23 (v := nI 40) rfl ?_
  refine zSv hC dX6_row_25 zlX6_58 c_X6_isWithin rfl rfl rfl rfl ?_
  refine z_ifb_ne hC dX6_row_28 (tgt := 38) (by decide) (fun c28 => ?_) (fun c28 => ?_)
  rotate_left
  · exact absurd c28 (fun z => z (iw_of (Nat.zero_le _) hu (by decide)))
  refine z_aload hC dX6_row_38 rfl ?_
  refine z_iload_n hC dX6_row_40 rfl ?_
  refine z_iload_n hC dX6_row_41 rfl ?_
  refine zV0 hC dX6_row_42 zlX6_66 (c_X2_takeRow ((hD _).trans (dsh_s hs).1) ((hD _).trans (dsh_s hs).2)) ((hD _).trans (dsh_s hs).1) rfl rfl rfl rfl rfl rfl ?_
  refine z_iconst hC dX6_row_45 (v := nI 1) rfl ?_
  refine z_iret hC dX6_row_46 ?_
  exact hE.to (by rfl) rfl rfl rfl

theorem e_row_g (hD : ∀ k, S 3 k = dsh k) (hO : DOK D) (hM : DMe D I X Y) {s : Nat} {y u : Int32} (hs : s < 8) (hx : ¬ (iw y 0 4 ∧ iw u 0 40)) : zC0 mX6_row 1 [zr 3 0, zi (nI s), zi y, zi u] (some (zi (-2))) ad S I X Y sz I (rfX 0 X) Y := by
  refine zgo (own := RX6) (k := 1) (by decide +kernel) rfl rfl rfl (fun C hC hnm hE => ?_)
  have hm := hM.1
  have hR := hO.1
  refine z_aload_n hC dX6_row_0 rfl ?_
  refine z_iload_n hC dX6_row_1 rfl ?_
  refine zVv hC dX6_row_2 zlX6_54 (c_shelfAt_t hD hs) (hD _) rfl rfl rfl rfl rfl rfl ?_
  refine z_astore hC dX6_row_5 (lo2 := [_, _, _, _, _]) (Nat.le_of_ble_eq_true rfl) rfl rfl ?_
  refine z_aload hC dX6_row_7 rfl ?_
  refine z_ifnull hC dX6_row_9  ?_
  refine z_iload_n hC dX6_row_12 rfl ?_
  refine z_iconst hC dX6_row_13 (v := nI 0) rfl ?_
  refine z_iconst hC dX6_row_14 (v := nI 4) rfl ?_
  refine zSv hC dX6_row_15 zlX6_58 c_X6_isWithin rfl rfl rfl rfl ?_
  refine z_ifb_eq hC dX6_row_18 (tgt := 31) (by decide) (fun c18 => ?_) (fun c18 => ?_)
  · skip
    refine z_aload_n hC dX6_row_31 rfl ?_
    refine z_bipush hC dX6_row_32 (v := -2) rfl ?_
    refine zVv hC dX6_row_34 zlX6_62 (c_X6_refuse hD (j := 0) (by decide) (by decide)) (hD _) rfl rfl rfl rfl rfl rfl ?_
    refine z_iret hC dX6_row_37 ?_
    exact hE.to (by rfl) rfl rfl rfl
  refine z_iload_n hC dX6_row_21 rfl ?_
  refine z_iconst hC dX6_row_22 (v := nI 0) rfl ?_
  refine z_bipush hC dX6_row_23 (v := nI 40) rfl ?_
  refine zSv hC dX6_row_25 zlX6_58 c_X6_isWithin rfl rfl rfl rfl ?_
  refine z_ifb_ne hC dX6_row_28 (tgt := 38) (by decide) (fun c28 => ?_) (fun c28 => ?_)
  · exact absurd c28 (fun z => hx ⟨c18, z⟩)
  refine z_aload_n hC dX6_row_31 rfl ?_
  refine z_bipush hC dX6_row_32 (v := -2) rfl ?_
  refine zVv hC dX6_row_34 zlX6_62 (c_X6_refuse hD (j := 0) (by decide) (by decide)) (hD _) rfl rfl rfl rfl rfl rfl ?_
  refine z_iret hC dX6_row_37 ?_
  exact hE.to (by rfl) rfl rfl rfl

theorem e_row_f (hD : ∀ k, S 3 k = dsh k) (hO : DOK D) (hM : DMe D I X Y) {x y u : Int32} (hx : ¬ inB x 8) : zC0 mX6_row 1 [zr 3 0, zi x, zi y, zi u] (some (zi (-2))) ad S I X Y sz I (rfX 0 X) Y := by
  refine zgo (own := RX6) (k := 1) (by decide +kernel) rfl rfl rfl (fun C hC hnm hE => ?_)
  have hm := hM.1
  have hR := hO.1
  refine z_aload_n hC dX6_row_0 rfl ?_
  refine z_iload_n hC dX6_row_1 rfl ?_
  refine zVv hC dX6_row_2 zlX6_54 (c_shelfAt_f hD hx) (hD _) rfl rfl rfl rfl rfl rfl ?_
  refine z_astoreN hC dX6_row_5 (lo2 := [_, _, _, _, _]) (Nat.le_of_ble_eq_true rfl) rfl rfl ?_
  refine z_aloadN hC dX6_row_7 rfl ?_
  refine z_ifnullN hC dX6_row_9 (tgt := 31) (by decide) ?_
  refine z_aload_n hC dX6_row_31 rfl ?_
  refine z_bipush hC dX6_row_32 (v := -2) rfl ?_
  refine zVv hC dX6_row_34 zlX6_62 (c_X6_refuse hD (j := 0) (by decide) (by decide)) (hD _) rfl rfl rfl rfl rfl rfl ?_
  refine z_iret hC dX6_row_37 ?_
  exact hE.to (by rfl) rfl rfl rfl

theorem o_row (hD : ∀ k, S 3 k = dsh k) (hO : DOK D) (hM : DMe D I X Y) {x y u : Int32} : dC mX6_row 1 [zr 3 0, zi x, zi y, zi u] (some (zi (rowS D x y u).1)) (rowS D x y u).2 ad S I X Y sz := by
  unfold rowS
  by_cases hx : inB x 8
  · obtain ⟨s, hs, rfl, e1⟩ := inB_e hx (by decide)
    by_cases h : iw y 0 4 ∧ iw u 0 40
    · rw [if_pos ⟨hx, h⟩]
      obtain ⟨y, -, hy, rfl, e2⟩ := iw_e h.1 (by decide) (by decide)
      obtain ⟨u, -, hu, rfl, e3⟩ := iw_e h.2 (by decide) (by decide)
      rw [e1, e2, e3]
      refine ⟨_, _, _, hM.sh (fun k j a => by rw [up3_ne (by omega), up3_ne (by omega)]) (fun t ht => ?_), e_row_t hD hO hM hs hy hu⟩
      obtain ⟨g1, g2, g3⟩ := hM.2.2.2.2.1 t ht
      by_cases e : t = s
      · subst e
        refine ⟨by rw [up3_ne (by omega), up3_eq, upS_eq]; rfl, by rw [up3_eq, upS_eq], fun i hi => ?_⟩
        rw [upS_eq]
        exact if_pos ⟨rfl, rfl, hi⟩
      · rw [upS_ne e, upS_ne e, upS_ne e]
        refine ⟨by rw [up3_ne (by omega), up3_ne (by omega)]; exact g1, by rw [up3_ne (by omega), up3_ne (by omega)]; exact g2, fun i hi => ?_⟩
        exact (if_neg (by omega)).trans (g3 i hi)
    · rw [if_neg (fun z => h z.2)]
      exact ⟨_, _, _, hM.rf (by decide), e_row_g hD hO hM hs h⟩
  · rw [if_neg (fun z => hx z.1)]
    exact ⟨_, _, _, hM.rf (by decide), e_row_f hD hO hM hx⟩
theorem e_set_n (hD : ∀ k, S 3 k = dsh k) (hO : DOK D) (hM : DMe D I X Y) {s : Nat} {y : Int32} {v : Int64} (hs : s < 8) (hh : I 3 (35 + 2 * s) 0 = -1) : zC0 mX6_set 3 [zr 3 0, zi (nI s), zi y, zl v] (some (zi (-4))) ad S I X Y sz I (rfX 2 X) Y := by
  refine zgo (own := RX6) (k := 1) (by decide +kernel) rfl rfl rfl (fun C hC hnm hE => ?_)
  have hm := hM.1
  have hR := hO.1
  refine z_aload_n hC dX6_set_0 rfl ?_
  refine z_iload_n hC dX6_set_1 rfl ?_
  refine zVv hC dX6_set_2 zlX6_54 (c_shelfAt_t hD hs) (hD _) rfl rfl rfl rfl rfl rfl ?_
  refine z_astore hC dX6_set_5 (lo2 := [_, _, _, _, _, _]) (Nat.le_of_ble_eq_true rfl) rfl rfl ?_
  refine z_aload hC dX6_set_7 rfl ?_
  refine z_ifnonnull hC dX6_set_9 (tgt := 19) (by decide) ?_
  refine z_aload hC dX6_set_19 rfl ?_
  refine zVv hC dX6_set_21 zlX6_70 (c_isRow_n ((hD _).trans (dsh_s hs).1) hh) ((hD _).trans (dsh_s hs).1) rfl rfl rfl rfl rfl rfl ?_
  refine z_nif_ne hC dX6_set_24 (tgt := 47) (by decide) (by omega) (fun c24 => ?_) (fun c24 => ?_)
  · exfalso; omega
  refine z_aload_n hC dX6_set_27 rfl ?_
  refine z_aload hC dX6_set_28 rfl ?_
  refine zVv hC dX6_set_30 zlX6_74 (c_isEmpty_n ((hD _).trans (dsh_s hs).1) hh) ((hD _).trans (dsh_s hs).1) rfl rfl rfl rfl rfl rfl ?_
  refine z_nif_eq hC dX6_set_33 (tgt := 41) (by decide) (by omega) (fun c33 => ?_) (fun c33 => ?_)
  · exfalso; omega
  refine z_bipush hC dX6_set_36 (v := -4) rfl ?_
  refine z_goto hC dX6_set_38 (tgt := 43) (by decide) ?_
  refine zVv hC dX6_set_43 zlX6_62 (c_X6_refuse hD (j := 2) (by decide) (by decide)) (hD _) rfl rfl rfl rfl rfl rfl ?_
  refine z_iret hC dX6_set_46 ?_
  exact hE.to (by rfl) rfl rfl rfl

theorem e_set_b (hD : ∀ k, S 3 k = dsh k) (hO : DOK D) (hM : DMe D I X Y) {s : Nat} {y : Int32} {v : Int64} (hs : s < 8) {b : Nat} (hb : b < 14) (hh : I 3 (35 + 2 * s) 0 = nI (10 + b)) : zC0 mX6_set 3 [zr 3 0, zi (nI s), zi y, zl v] (some (zi (-3))) ad S I X Y sz I (rfX 1 X) Y := by
  refine zgo (own := RX6) (k := 1) (by decide +kernel) rfl rfl rfl (fun C hC hnm hE => ?_)
  have hm := hM.1
  have hR := hO.1
  refine z_aload_n hC dX6_set_0 rfl ?_
  refine z_iload_n hC dX6_set_1 rfl ?_
  refine zVv hC dX6_set_2 zlX6_54 (c_shelfAt_t hD hs) (hD _) rfl rfl rfl rfl rfl rfl ?_
  refine z_astore hC dX6_set_5 (lo2 := [_, _, _, _, _, _]) (Nat.le_of_ble_eq_true rfl) rfl rfl ?_
  refine z_aload hC dX6_set_7 rfl ?_
  refine z_ifnonnull hC dX6_set_9 (tgt := 19) (by decide) ?_
  refine z_aload hC dX6_set_19 rfl ?_
  refine zVv hC dX6_set_21 zlX6_70 (c_isRow_b ((hD _).trans (dsh_s hs).1) hh hb) ((hD _).trans (dsh_s hs).1) rfl rfl rfl rfl rfl rfl ?_
  refine z_nif_ne hC dX6_set_24 (tgt := 47) (by decide) (by omega) (fun c24 => ?_) (fun c24 => ?_)
  · exfalso; omega
  refine z_aload_n hC dX6_set_27 rfl ?_
  refine z_aload hC dX6_set_28 rfl ?_
  refine zVv hC dX6_set_30 zlX6_74 (c_isEmpty_r ((hD _).trans (dsh_s hs).1) hh (by omega)) ((hD _).trans (dsh_s hs).1) rfl rfl rfl rfl rfl rfl ?_
  refine z_nif_eq hC dX6_set_33 (tgt := 41) (by decide) (by omega) (fun c33 => ?_) (fun c33 => ?_)
  rotate_left
  · exfalso; omega
  refine z_bipush hC dX6_set_41 (v := -3) rfl ?_
  refine zVv hC dX6_set_43 zlX6_62 (c_X6_refuse hD (j := 1) (by decide) (by decide)) (hD _) rfl rfl rfl rfl rfl rfl ?_
  refine z_iret hC dX6_set_46 ?_
  exact hE.to (by rfl) rfl rfl rfl

theorem e_set_t (hD : ∀ k, S 3 k = dsh k) (hO : DOK D) (hM : DMe D I X Y) {s y : Nat} {v : Int64} (hs : s < 8) {q : Nat} (hq : q ≤ 4) (hh : I 3 (35 + 2 * s) 0 = nI q){n : Nat} (hn : I 3 (35 + 2 * s) 1 = nI n) (hn40 : n ≤ 40)(hy : y < n) : zC0 mX6_set 3 [zr 3 0, zi (nI s), zi (nI y), zl v] (some (zi (nI 1))) ad S I X Y sz I X (up3 Y 3 (36 + 2 * s) y (fitL q v)) := by
  refine zgo (own := RX6) (k := 1) (by decide +kernel) rfl rfl rfl (fun C hC hnm hE => ?_)
  have hm := hM.1
  have hR := hO.1
  refine z_aload_n hC dX6_set_0 rfl ?_
  refine z_iload_n hC dX6_set_1 rfl ?_
  refine zVv hC dX6_set_2 zlX6_54 (c_shelfAt_t hD hs) (hD _) rfl rfl rfl rfl rfl rfl ?_
  refine z_astore hC dX6_set_5 (lo2 := [_, _, _, _, _, _]) (Nat.le_of_ble_eq_true rfl) rfl rfl ?_
  refine z_aload hC dX6_set_7 rfl ?_
  refine z_ifnonnull hC dX6_set_9 (tgt := 19) (by decide) ?_
  refine z_aload hC dX6_set_19 rfl ?_
  refine zVv hC dX6_set_21 zlX6_70 (c_isRow_r ((hD _).trans (dsh_s hs).1) hh hq) ((hD _).trans (dsh_s hs).1) rfl rfl rfl rfl rfl rfl ?_
  refine z_nif_ne hC dX6_set_24 (tgt := 47) (by decide) (by omega) (fun c24 => ?_) (fun c24 => ?_)
  rotate_left
  · exfalso; omega
  refine z_aload hC dX6_set_47 rfl ?_
  refine z_iload_n hC dX6_set_49 rfl ?_
  refine zVv hC dX6_set_50 zlX6_77 (c_hasElement_t ((hD _).trans (dsh_s hs).1) hh hq hn hn40 hy) ((hD _).trans (dsh_s hs).1) rfl rfl rfl rfl rfl rfl ?_
  refine z_nif_ne hC dX6_set_53 (tgt := 63) (by decide) (by omega) (fun c53 => ?_) (fun c53 => ?_)
  rotate_left
  · exfalso; omega
  refine z_aload hC dX6_set_63 rfl ?_
  refine z_iload_n hC dX6_set_65 rfl ?_
  refine z_lload_n hC dX6_set_66 rfl ?_
  refine zV0 hC dX6_set_67 zlX6_81 (c_X2_putElement ((hD _).trans (dsh_s hs).1) ((hD _).trans (dsh_s hs).2) hh hq hn hn40 hy) ((hD _).trans (dsh_s hs).1) rfl rfl rfl rfl rfl rfl ?_
  refine z_iconst hC dX6_set_70 (v := nI 1) rfl ?_
  refine z_iret hC dX6_set_71 ?_
  exact hE.to (by rfl) rfl rfl rfl

theorem e_set_g (hD : ∀ k, S 3 k = dsh k) (hO : DOK D) (hM : DMe D I X Y) {s : Nat} {y : Int32} {v : Int64} (hs : s < 8) {q : Nat} (hq : q ≤ 4) (hh : I 3 (35 + 2 * s) 0 = nI q){n : Nat} (hn : I 3 (35 + 2 * s) 1 = nI n) (hn40 : n ≤ 40)(hy : ¬ inB y n) : zC0 mX6_set 3 [zr 3 0, zi (nI s), zi y, zl v] (some (zi (-2))) ad S I X Y sz I (rfX 0 X) Y := by
  refine zgo (own := RX6) (k := 1) (by decide +kernel) rfl rfl rfl (fun C hC hnm hE => ?_)
  have hm := hM.1
  have hR := hO.1
  refine z_aload_n hC dX6_set_0 rfl ?_
  refine z_iload_n hC dX6_set_1 rfl ?_
  refine zVv hC dX6_set_2 zlX6_54 (c_shelfAt_t hD hs) (hD _) rfl rfl rfl rfl rfl rfl ?_
  refine z_astore hC dX6_set_5 (lo2 := [_, _, _, _, _, _]) (Nat.le_of_ble_eq_true rfl) rfl rfl ?_
  refine z_aload hC dX6_set_7 rfl ?_
  refine z_ifnonnull hC dX6_set_9 (tgt := 19) (by decide) ?_
  refine z_aload hC dX6_set_19 rfl ?_
  refine zVv hC dX6_set_21 zlX6_70 (c_isRow_r ((hD _).trans (dsh_s hs).1) hh hq) ((hD _).trans (dsh_s hs).1) rfl rfl rfl rfl rfl rfl ?_
  refine z_nif_ne hC dX6_set_24 (tgt := 47) (by decide) (by omega) (fun c24 => ?_) (fun c24 => ?_)
  rotate_left
  · exfalso; omega
  refine z_aload hC dX6_set_47 rfl ?_
  refine z_iload_n hC dX6_set_49 rfl ?_
  refine zVv hC dX6_set_50 zlX6_77 (c_hasElement_f ((hD _).trans (dsh_s hs).1) hh hq hn hn40 hy) ((hD _).trans (dsh_s hs).1) rfl rfl rfl rfl rfl rfl ?_
  refine z_nif_ne hC dX6_set_53 (tgt := 63) (by decide) (by omega) (fun c53 => ?_) (fun c53 => ?_)
  · exfalso; omega
  refine z_aload_n hC dX6_set_56 rfl ?_
  refine z_bipush hC dX6_set_57 (v := -2) rfl ?_
  refine zVv hC dX6_set_59 zlX6_62 (c_X6_refuse hD (j := 0) (by decide) (by decide)) (hD _) rfl rfl rfl rfl rfl rfl ?_
  refine z_iret hC dX6_set_62 ?_
  exact hE.to (by rfl) rfl rfl rfl

theorem e_set_f (hD : ∀ k, S 3 k = dsh k) (hO : DOK D) (hM : DMe D I X Y) {x y : Int32} {v : Int64} (hx : ¬ inB x 8) : zC0 mX6_set 3 [zr 3 0, zi x, zi y, zl v] (some (zi (-2))) ad S I X Y sz I (rfX 0 X) Y := by
  refine zgo (own := RX6) (k := 1) (by decide +kernel) rfl rfl rfl (fun C hC hnm hE => ?_)
  have hm := hM.1
  have hR := hO.1
  refine z_aload_n hC dX6_set_0 rfl ?_
  refine z_iload_n hC dX6_set_1 rfl ?_
  refine zVv hC dX6_set_2 zlX6_54 (c_shelfAt_f hD hx) (hD _) rfl rfl rfl rfl rfl rfl ?_
  refine z_astoreN hC dX6_set_5 (lo2 := [_, _, _, _, _, _]) (Nat.le_of_ble_eq_true rfl) rfl rfl ?_
  refine z_aloadN hC dX6_set_7 rfl ?_
  refine z_ifnonnullN hC dX6_set_9  ?_
  refine z_aload_n hC dX6_set_12 rfl ?_
  refine z_bipush hC dX6_set_13 (v := -2) rfl ?_
  refine zVv hC dX6_set_15 zlX6_62 (c_X6_refuse hD (j := 0) (by decide) (by decide)) (hD _) rfl rfl rfl rfl rfl rfl ?_
  refine z_iret hC dX6_set_18 ?_
  exact hE.to (by rfl) rfl rfl rfl

theorem o_set (hD : ∀ k, S 3 k = dsh k) (hO : DOK D) (hM : DMe D I X Y) {x y : Int32} {v : Int64} : dC mX6_set 3 [zr 3 0, zi x, zi y, zl v] (some (zi (setS D x y v).1)) (setS D x y v).2 ad S I X Y sz := by
  have hn14 := hO.1.1
  unfold setS
  by_cases hx : inB x 8
  · rw [if_pos hx]
    obtain ⟨s, hs, rfl, e1⟩ := inB_e hx (by decide)
    rw [e1]
    have hn := (hM.2.2.2.2.1 s hs).2.1
    have hn40 := (hO.2.2.2 s hs).1
    rcases sh_st hO hM hs with ⟨h1, h2⟩ | ⟨q, hq, h1, h2⟩ | ⟨b, hb, h1, h2⟩
    · rw [h1]
      exact ⟨_, _, _, hM.rf (by decide), e_set_n hD hO hM hs h2⟩
    · rw [h1]
      dsimp only
      rw [if_neg (by omega)]
      by_cases hy : inB y (D.2.2.2.1.2.1 s)
      · rw [if_pos hy]
        obtain ⟨y, hy1, rfl, e2⟩ := inB_e hy (by omega)
        rw [e2]
        refine ⟨_, _, _, hM.sh (fun k j a => rfl) (fun t ht => ?_), e_set_t hD hO hM hs hq h2 hn hn40 hy1⟩
        obtain ⟨g1, g2, g3⟩ := hM.2.2.2.2.1 t ht
        refine ⟨g1, g2, fun i hi => ?_⟩
        by_cases e : t = s
        · subst e
          rw [upS_eq]
          by_cases e3 : i = y
          · subst e3; rw [up3_eq, upS_eq]
          · rw [up3_ne (by omega), upS_ne e3]; exact g3 i hi
        · rw [upS_ne e, up3_ne (by omega)]; exact g3 i hi
      · rw [if_neg hy]
        exact ⟨_, _, _, hM.rf (by decide), e_set_g hD hO hM hs hq h2 hn hn40 hy⟩
    · rw [h1]
      dsimp only
      rw [if_pos (by omega)]
      exact ⟨_, _, _, hM.rf (by decide), e_set_b hD hO hM hs (by omega) h2⟩
  · rw [if_neg hx]
    exact ⟨_, _, _, hM.rf (by decide), e_set_f hD hO hM hx⟩
theorem e_element_n (hD : ∀ k, S 3 k = dsh k) (hO : DOK D) (hM : DMe D I X Y) {s : Nat} {y : Int32} (hs : s < 8) (hh : I 3 (35 + 2 * s) 0 = -1) : zC0 mX6_element 3 [zr 3 0, zi (nI s), zi y] (some (zl 0)) ad S I X Y sz I X Y := by
  refine zgo (own := RX6) (k := 1) (by decide +kernel) rfl rfl rfl (fun C hC hnm hE => ?_)
  have hm := hM.1
  have hR := hO.1
  refine z_aload_n hC dX6_element_0 rfl ?_
  refine z_iload_n hC dX6_element_1 rfl ?_
  refine zVv hC dX6_element_2 zlX6_54 (c_shelfAt_t hD hs) (hD _) rfl rfl rfl rfl rfl rfl ?_
  refine z_astore_n hC dX6_element_5 (lo2 := [_, _, _, _]) (Nat.le_of_ble_eq_true rfl) rfl rfl ?_
  refine z_aload_n hC dX6_element_6 rfl ?_
  refine z_ifnonnull hC dX6_element_7 (tgt := 14) (by decide) ?_
  refine z_aload_n hC dX6_element_14 rfl ?_
  refine z_iload_n hC dX6_element_15 rfl ?_
  refine zVv hC dX6_element_16 zlX6_100 (c_elementAt_n ((hD _).trans (dsh_s hs).1) hh) ((hD _).trans (dsh_s hs).1) rfl rfl rfl rfl rfl rfl ?_
  refine z_lret hC dX6_element_19 ?_
  exact hE.to (by rfl) rfl rfl rfl

theorem e_element_b (hD : ∀ k, S 3 k = dsh k) (hO : DOK D) (hM : DMe D I X Y) {s : Nat} {y : Int32} (hs : s < 8) {b : Nat} (hb : b < 14) (hh : I 3 (35 + 2 * s) 0 = nI (10 + b)) : zC0 mX6_element 3 [zr 3 0, zi (nI s), zi y] (some (zl 0)) ad S I X Y sz I X Y := by
  refine zgo (own := RX6) (k := 1) (by decide +kernel) rfl rfl rfl (fun C hC hnm hE => ?_)
  have hm := hM.1
  have hR := hO.1
  refine z_aload_n hC dX6_element_0 rfl ?_
  refine z_iload_n hC dX6_element_1 rfl ?_
  refine zVv hC dX6_element_2 zlX6_54 (c_shelfAt_t hD hs) (hD _) rfl rfl rfl rfl rfl rfl ?_
  refine z_astore_n hC dX6_element_5 (lo2 := [_, _, _, _]) (Nat.le_of_ble_eq_true rfl) rfl rfl ?_
  refine z_aload_n hC dX6_element_6 rfl ?_
  refine z_ifnonnull hC dX6_element_7 (tgt := 14) (by decide) ?_
  refine z_aload_n hC dX6_element_14 rfl ?_
  refine z_iload_n hC dX6_element_15 rfl ?_
  refine zVv hC dX6_element_16 zlX6_100 (c_elementAt_b ((hD _).trans (dsh_s hs).1) hh hb) ((hD _).trans (dsh_s hs).1) rfl rfl rfl rfl rfl rfl ?_
  refine z_lret hC dX6_element_19 ?_
  exact hE.to (by rfl) rfl rfl rfl

theorem e_element_t (hD : ∀ k, S 3 k = dsh k) (hO : DOK D) (hM : DMe D I X Y) {s y : Nat} (hs : s < 8) {q : Nat} (hq : q ≤ 4) (hh : I 3 (35 + 2 * s) 0 = nI q){n : Nat} (hn : I 3 (35 + 2 * s) 1 = nI n) (hn40 : n ≤ 40)(hy : y < n) : zC0 mX6_element 3 [zr 3 0, zi (nI s), zi (nI y)] (some (zl (Y 3 (36 + 2 * s) y))) ad S I X Y sz I X Y := by
  refine zgo (own := RX6) (k := 1) (by decide +kernel) rfl rfl rfl (fun C hC hnm hE => ?_)
  have hm := hM.1
  have hR := hO.1
  refine z_aload_n hC dX6_element_0 rfl ?_
  refine z_iload_n hC dX6_element_1 rfl ?_
  refine zVv hC dX6_element_2 zlX6_54 (c_shelfAt_t hD hs) (hD _) rfl rfl rfl rfl rfl rfl ?_
  refine z_astore_n hC dX6_element_5 (lo2 := [_, _, _, _]) (Nat.le_of_ble_eq_true rfl) rfl rfl ?_
  refine z_aload_n hC dX6_element_6 rfl ?_
  refine z_ifnonnull hC dX6_element_7 (tgt := 14) (by decide) ?_
  refine z_aload_n hC dX6_element_14 rfl ?_
  refine z_iload_n hC dX6_element_15 rfl ?_
  refine zVv hC dX6_element_16 zlX6_100 (c_elementAt_t ((hD _).trans (dsh_s hs).1) ((hD _).trans (dsh_s hs).2) hh hq hn hn40 hy) ((hD _).trans (dsh_s hs).1) rfl rfl rfl rfl rfl rfl ?_
  refine z_lret hC dX6_element_19 ?_
  exact hE.to (by rfl) rfl rfl rfl

theorem e_element_g (hD : ∀ k, S 3 k = dsh k) (hO : DOK D) (hM : DMe D I X Y) {s : Nat} {y : Int32} (hs : s < 8) {q : Nat} (hq : q ≤ 4) (hh : I 3 (35 + 2 * s) 0 = nI q){n : Nat} (hn : I 3 (35 + 2 * s) 1 = nI n) (hn40 : n ≤ 40)(hy : ¬ inB y n) : zC0 mX6_element 3 [zr 3 0, zi (nI s), zi y] (some (zl 0)) ad S I X Y sz I X Y := by
  refine zgo (own := RX6) (k := 1) (by decide +kernel) rfl rfl rfl (fun C hC hnm hE => ?_)
  have hm := hM.1
  have hR := hO.1
  refine z_aload_n hC dX6_element_0 rfl ?_
  refine z_iload_n hC dX6_element_1 rfl ?_
  refine zVv hC dX6_element_2 zlX6_54 (c_shelfAt_t hD hs) (hD _) rfl rfl rfl rfl rfl rfl ?_
  refine z_astore_n hC dX6_element_5 (lo2 := [_, _, _, _]) (Nat.le_of_ble_eq_true rfl) rfl rfl ?_
  refine z_aload_n hC dX6_element_6 rfl ?_
  refine z_ifnonnull hC dX6_element_7 (tgt := 14) (by decide) ?_
  refine z_aload_n hC dX6_element_14 rfl ?_
  refine z_iload_n hC dX6_element_15 rfl ?_
  refine zVv hC dX6_element_16 zlX6_100 (c_elementAt_f ((hD _).trans (dsh_s hs).1) hh hq hn hn40 hy) ((hD _).trans (dsh_s hs).1) rfl rfl rfl rfl rfl rfl ?_
  refine z_lret hC dX6_element_19 ?_
  exact hE.to (by rfl) rfl rfl rfl

theorem e_element_f (hD : ∀ k, S 3 k = dsh k) (hO : DOK D) (hM : DMe D I X Y) {x y : Int32} (hx : ¬ inB x 8) : zC0 mX6_element 3 [zr 3 0, zi x, zi y] (some (zl 0)) ad S I X Y sz I X Y := by
  refine zgo (own := RX6) (k := 1) (by decide +kernel) rfl rfl rfl (fun C hC hnm hE => ?_)
  have hm := hM.1
  have hR := hO.1
  refine z_aload_n hC dX6_element_0 rfl ?_
  refine z_iload_n hC dX6_element_1 rfl ?_
  refine zVv hC dX6_element_2 zlX6_54 (c_shelfAt_f hD hx) (hD _) rfl rfl rfl rfl rfl rfl ?_
  refine z_astore_nN hC dX6_element_5 (lo2 := [_, _, _, _]) (Nat.le_of_ble_eq_true rfl) rfl rfl ?_
  refine z_aload_nN hC dX6_element_6 rfl ?_
  refine z_ifnonnullN hC dX6_element_7  ?_
  refine z_lconst hC dX6_element_10 (v := lN 0) rfl ?_
  refine z_goto hC dX6_element_11 (tgt := 19) (by decide) ?_
  refine z_lret hC dX6_element_19 ?_
  exact hE.to (by rw [show lN 0 = 0 by decide]) rfl rfl rfl

theorem o_element (hD : ∀ k, S 3 k = dsh k) (hO : DOK D) (hM : DMe D I X Y) {x y : Int32} : dC mX6_element 3 [zr 3 0, zi x, zi y] (some (zl (elementS D x y))) D ad S I X Y sz := by
  have hn14 := hO.1.1
  unfold elementS
  by_cases hx : inB x 8
  · rw [if_pos hx]
    obtain ⟨s, hs, rfl, e1⟩ := inB_e hx (by decide)
    rw [e1]
    obtain ⟨-, hn, hel⟩ := hM.2.2.2.2.1 s hs
    have hn40 := (hO.2.2.2 s hs).1
    rcases sh_st hO hM hs with ⟨h1, h2⟩ | ⟨q, hq, h1, h2⟩ | ⟨b, hb, h1, h2⟩
    · rw [h1]
      exact ⟨_, _, _, hM, e_element_n hD hO hM hs h2⟩
    · rw [h1]
      dsimp only
      rw [if_neg (by omega)]
      by_cases hy : inB y (D.2.2.2.1.2.1 s)
      · rw [if_pos hy]
        obtain ⟨y, hy1, rfl, e2⟩ := inB_e hy (by omega)
        rw [e2, ← hel y (by omega)]
        exact ⟨_, _, _, hM, e_element_t hD hO hM hs hq h2 hn hn40 hy1⟩
      · rw [if_neg hy]
        exact ⟨_, _, _, hM, e_element_g hD hO hM hs hq h2 hn hn40 hy⟩
    · rw [h1]
      dsimp only
      rw [if_pos (by omega)]
      exact ⟨_, _, _, hM, e_element_b hD hO hM hs (by omega) h2⟩
  · rw [if_neg hx]
    exact ⟨_, _, _, hM, e_element_f hD hO hM hx⟩
theorem e_holds_t (hD : ∀ k, S 3 k = dsh k) (hO : DOK D) (hM : DMe D I X Y) {s : Nat} (hs : s < 8) : zC0 mX6_holds 1 [zr 3 0, zi (nI s)] (some (zi (I 3 (35 + 2 * s) 0))) ad S I X Y sz I X Y := by
  refine zgo (own := RX6) (k := 1) (by decide +kernel) rfl rfl rfl (fun C hC hnm hE => ?_)
  have hm := hM.1
  have hR := hO.1
  refine z_aload_n hC dX6_holds_0 rfl ?_
  refine z_iload_n hC dX6_holds_1 rfl ?_
  refine zVv hC dX6_holds_2 zlX6_54 (c_shelfAt_t hD hs) (hD _) rfl rfl rfl rfl rfl rfl ?_
  refine z_astore_n hC dX6_holds_5 (lo2 := [_, _, _]) (Nat.le_of_ble_eq_true rfl) rfl rfl ?_
  refine z_aload_n hC dX6_holds_6 rfl ?_
  refine z_ifnonnull hC dX6_holds_7 (tgt := 14) (by decide) ?_
  refine z_aload_n hC dX6_holds_14 rfl ?_
  refine z_getI hC dX6_holds_15 ((hD _).trans (dsh_s hs).1) zfX6_88 rfl ?_
  refine z_iret hC dX6_holds_18 ?_
  exact hE.to (by rfl) rfl rfl rfl

theorem e_holds_f (hD : ∀ k, S 3 k = dsh k) (hO : DOK D) (hM : DMe D I X Y) {x : Int32} (hx : ¬ inB x 8) : zC0 mX6_holds 1 [zr 3 0, zi x] (some (zi (-1))) ad S I X Y sz I X Y := by
  refine zgo (own := RX6) (k := 1) (by decide +kernel) rfl rfl rfl (fun C hC hnm hE => ?_)
  have hm := hM.1
  have hR := hO.1
  refine z_aload_n hC dX6_holds_0 rfl ?_
  refine z_iload_n hC dX6_holds_1 rfl ?_
  refine zVv hC dX6_holds_2 zlX6_54 (c_shelfAt_f hD hx) (hD _) rfl rfl rfl rfl rfl rfl ?_
  refine z_astore_nN hC dX6_holds_5 (lo2 := [_, _, _]) (Nat.le_of_ble_eq_true rfl) rfl rfl ?_
  refine z_aload_nN hC dX6_holds_6 rfl ?_
  refine z_ifnonnullN hC dX6_holds_7  ?_
  refine z_iconst hC dX6_holds_10 (v := -1) rfl ?_
  refine z_goto hC dX6_holds_11 (tgt := 18) (by decide) ?_
  refine z_iret hC dX6_holds_18 ?_
  exact hE.to (by rfl) rfl rfl rfl

theorem o_holds (hD : ∀ k, S 3 k = dsh k) (hO : DOK D) (hM : DMe D I X Y) {x : Int32} : dC mX6_holds 1 [zr 3 0, zi x] (some (zi (holdsS D x))) D ad S I X Y sz := by
  unfold holdsS
  by_cases hx : inB x 8
  · rw [if_pos hx]
    obtain ⟨s, hs, rfl, e1⟩ := inB_e hx (by decide)
    rw [e1, ← (hM.2.2.2.2.1 s hs).1]
    exact ⟨_, _, _, hM, e_holds_t hD hO hM hs⟩
  · rw [if_neg hx]
    exact ⟨_, _, _, hM, e_holds_f hD hO hM hx⟩
theorem e_show_b (hD : ∀ k, S 3 k = dsh k) (hO : DOK D) (hM : DMe D I X Y) {s b : Nat} (hs : s < 8) (hb : b < D.1.1 0) : zC0 mX6_show 2 [zr 3 0, zi (nI s), zi (nI b)] (some (zi (nI 1))) ad S I X Y sz (up3 I 3 (35 + 2 * s) 0 (nI (10 + b))) X Y := by
  refine zgo (own := RX6) (k := 1) (by decide +kernel) rfl rfl rfl (fun C hC hnm hE => ?_)
  have hm := hM.1
  have hR := hO.1
  have hn14 := hR.1
  refine z_aload_n hC dX6_show_0 rfl ?_
  refine z_iload_n hC dX6_show_1 rfl ?_
  refine zVv hC dX6_show_2 zlX6_54 (c_shelfAt_t hD hs) (hD _) rfl rfl rfl rfl rfl rfl ?_
  refine z_astore_n hC dX6_show_5 (lo2 := [_, _, _, _]) (Nat.le_of_ble_eq_true rfl) rfl rfl ?_
  refine z_aload_n hC dX6_show_6 rfl ?_
  refine z_ifnull hC dX6_show_7  ?_
  refine z_aload_n hC dX6_show_10 rfl ?_
  refine z_iload_n hC dX6_show_11 rfl ?_
  refine zVv hC dX6_show_12 zlX6_104 (c_X6_isBendOrNone hD hm hR) (hD _) rfl rfl rfl rfl rfl rfl ?_
  refine z_ifb_ne hC dX6_show_15 (tgt := 25) (by decide) (fun c15 => ?_) (fun c15 => ?_)
  rotate_left
  · exact absurd c15 (fun z => z (Or.inr (inB_of hb (by omega))))
  refine z_aload_n hC dX6_show_25 rfl ?_
  refine z_iload_n hC dX6_show_26 rfl ?_
  refine zV0 hC dX6_show_27 zlX6_107 (c_takeBend_b ((hD _).trans (dsh_s hs).1) (by omega)) ((hD _).trans (dsh_s hs).1) rfl rfl rfl rfl rfl rfl ?_
  refine z_iconst hC dX6_show_30 (v := nI 1) rfl ?_
  refine z_iret hC dX6_show_31 ?_
  exact hE.to (by rfl) rfl rfl rfl

theorem e_show_n (hD : ∀ k, S 3 k = dsh k) (hO : DOK D) (hM : DMe D I X Y) {s : Nat} (hs : s < 8) : zC0 mX6_show 2 [zr 3 0, zi (nI s), zi (-1)] (some (zi (nI 1))) ad S I X Y sz (up3 I 3 (35 + 2 * s) 0 (-1)) X Y := by
  refine zgo (own := RX6) (k := 1) (by decide +kernel) rfl rfl rfl (fun C hC hnm hE => ?_)
  have hm := hM.1
  have hR := hO.1
  refine z_aload_n hC dX6_show_0 rfl ?_
  refine z_iload_n hC dX6_show_1 rfl ?_
  refine zVv hC dX6_show_2 zlX6_54 (c_shelfAt_t hD hs) (hD _) rfl rfl rfl rfl rfl rfl ?_
  refine z_astore_n hC dX6_show_5 (lo2 := [_, _, _, _]) (Nat.le_of_ble_eq_true rfl) rfl rfl ?_
  refine z_aload_n hC dX6_show_6 rfl ?_
  refine z_ifnull hC dX6_show_7  ?_
  refine z_aload_n hC dX6_show_10 rfl ?_
  refine z_iload_n hC dX6_show_11 rfl ?_
  refine zVv hC dX6_show_12 zlX6_104 (c_X6_isBendOrNone hD hm hR) (hD _) rfl rfl rfl rfl rfl rfl ?_
  refine z_ifb_ne hC dX6_show_15 (tgt := 25) (by decide) (fun c15 => ?_) (fun c15 => ?_)
  rotate_left
  · exact absurd c15 (fun z => z (Or.inl rfl))
  refine z_aload_n hC dX6_show_25 rfl ?_
  refine z_iload_n hC dX6_show_26 rfl ?_
  refine zV0 hC dX6_show_27 zlX6_107 (c_takeBend_n ((hD _).trans (dsh_s hs).1)) ((hD _).trans (dsh_s hs).1) rfl rfl rfl rfl rfl rfl ?_
  refine z_iconst hC dX6_show_30 (v := nI 1) rfl ?_
  refine z_iret hC dX6_show_31 ?_
  exact hE.to (by rfl) rfl rfl rfl

theorem e_show_g (hD : ∀ k, S 3 k = dsh k) (hO : DOK D) (hM : DMe D I X Y) {s : Nat} {y : Int32} (hs : s < 8) (hy : ¬ (y = -1 ∨ inB y (D.1.1 0))) : zC0 mX6_show 2 [zr 3 0, zi (nI s), zi y] (some (zi (-2))) ad S I X Y sz I (rfX 0 X) Y := by
  refine zgo (own := RX6) (k := 1) (by decide +kernel) rfl rfl rfl (fun C hC hnm hE => ?_)
  have hm := hM.1
  have hR := hO.1
  refine z_aload_n hC dX6_show_0 rfl ?_
  refine z_iload_n hC dX6_show_1 rfl ?_
  refine zVv hC dX6_show_2 zlX6_54 (c_shelfAt_t hD hs) (hD _) rfl rfl rfl rfl rfl rfl ?_
  refine z_astore_n hC dX6_show_5 (lo2 := [_, _, _, _]) (Nat.le_of_ble_eq_true rfl) rfl rfl ?_
  refine z_aload_n hC dX6_show_6 rfl ?_
  refine z_ifnull hC dX6_show_7  ?_
  refine z_aload_n hC dX6_show_10 rfl ?_
  refine z_iload_n hC dX6_show_11 rfl ?_
  refine zVv hC dX6_show_12 zlX6_104 (c_X6_isBendOrNone hD hm hR) (hD _) rfl rfl rfl rfl rfl rfl ?_
  refine z_ifb_ne hC dX6_show_15 (tgt := 25) (by decide) (fun c15 => ?_) (fun c15 => ?_)
  · exact absurd c15 hy
  refine z_aload_n hC dX6_show_18 rfl ?_
  refine z_bipush hC dX6_show_19 (v := -2) rfl ?_
  refine zVv hC dX6_show_21 zlX6_62 (c_X6_refuse hD (j := 0) (by decide) (by decide)) (hD _) rfl rfl rfl rfl rfl rfl ?_
  refine z_iret hC dX6_show_24 ?_
  exact hE.to (by rfl) rfl rfl rfl

theorem e_show_f (hD : ∀ k, S 3 k = dsh k) (hO : DOK D) (hM : DMe D I X Y) {x y : Int32} (hx : ¬ inB x 8) : zC0 mX6_show 2 [zr 3 0, zi x, zi y] (some (zi (-2))) ad S I X Y sz I (rfX 0 X) Y := by
  refine zgo (own := RX6) (k := 1) (by decide +kernel) rfl rfl rfl (fun C hC hnm hE => ?_)
  have hm := hM.1
  have hR := hO.1
  refine z_aload_n hC dX6_show_0 rfl ?_
  refine z_iload_n hC dX6_show_1 rfl ?_
  refine zVv hC dX6_show_2 zlX6_54 (c_shelfAt_f hD hx) (hD _) rfl rfl rfl rfl rfl rfl ?_
  refine z_astore_nN hC dX6_show_5 (lo2 := [_, _, _, _]) (Nat.le_of_ble_eq_true rfl) rfl rfl ?_
  refine z_aload_nN hC dX6_show_6 rfl ?_
  refine z_ifnullN hC dX6_show_7 (tgt := 18) (by decide) ?_
  refine z_aload_n hC dX6_show_18 rfl ?_
  refine z_bipush hC dX6_show_19 (v := -2) rfl ?_
  refine zVv hC dX6_show_21 zlX6_62 (c_X6_refuse hD (j := 0) (by decide) (by decide)) (hD _) rfl rfl rfl rfl rfl rfl ?_
  refine z_iret hC dX6_show_24 ?_
  exact hE.to (by rfl) rfl rfl rfl

theorem sh_1 {D : DS} {I X : zI} {Y : zY} (hM : DMe D I X Y) {s : Nat} (hs : s < 8) {o : Option Nat} : DMe (DH D (upS D.2.2.2.1.1 s o) D.2.2.2.1.2.1 D.2.2.2.1.2.2) (up3 I 3 (35 + 2 * s) 0 (oI o)) X Y := by
  refine hM.sh (fun k j a => up3_ne (by omega)) (fun t ht => ?_)
  obtain ⟨g1, g2, g3⟩ := hM.2.2.2.2.1 t ht
  by_cases e : t = s
  · subst e
    exact ⟨by rw [up3_eq, upS_eq], by rw [up3_ne (by omega)]; exact g2, g3⟩
  · rw [upS_ne e]
    exact ⟨by rw [up3_ne (by omega)]; exact g1, by rw [up3_ne (by omega)]; exact g2, g3⟩
theorem o_show (hD : ∀ k, S 3 k = dsh k) (hO : DOK D) (hM : DMe D I X Y) {x y : Int32} : dC mX6_show 2 [zr 3 0, zi x, zi y] (some (zi (showS D x y).1)) (showS D x y).2 ad S I X Y sz := by
  have hn14 := hO.1.1
  unfold showS
  by_cases hx : inB x 8
  · obtain ⟨s, hs, rfl, e1⟩ := inB_e hx (by decide)
    by_cases hy : y = -1 ∨ inB y (D.1.1 0)
    · rw [if_pos ⟨hx, hy⟩, e1]
      by_cases e : y = -1
      · subst e
        rw [if_pos rfl]
        exact ⟨_, _, _, sh_1 hM hs, e_show_n hD hO hM hs⟩
      · rw [if_neg e]
        obtain ⟨b, hb, rfl, e2⟩ := inB_e (hy.resolve_left e) (by omega)
        rw [e2]
        exact ⟨_, _, _, sh_1 hM hs, e_show_b hD hO hM hs hb⟩
    · rw [if_neg (fun z => hy z.2)]
      exact ⟨_, _, _, hM.rf (by decide), e_show_g hD hO hM hs hy⟩
  · rw [if_neg (fun z => hx z.1)]
    exact ⟨_, _, _, hM.rf (by decide), e_show_f hD hO hM hx⟩
end
