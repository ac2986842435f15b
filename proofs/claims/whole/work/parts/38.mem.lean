/-! OnTheRoof: more of what its calls share; what its memory says -/
theorem dsh_s {s : Nat} (hs : s < 8) : dsh (35 + 2 * s) = some (ssh (36 + 2 * s)) ∧ dsh (36 + 2 * s) = some (.inl (1, 40)) := by
  match s, hs with
  | 0, _ => exact ⟨rfl, rfl⟩
  | 1, _ => exact ⟨rfl, rfl⟩
  | 2, _ => exact ⟨rfl, rfl⟩
  | 3, _ => exact ⟨rfl, rfl⟩
  | 4, _ => exact ⟨rfl, rfl⟩
  | 5, _ => exact ⟨rfl, rfl⟩
  | 6, _ => exact ⟨rfl, rfl⟩
  | 7, _ => exact ⟨rfl, rfl⟩
abbrev DS : Type := RS × Option RS × ((Nat → Nat) × Nat) × ((Nat → Option Nat) × (Nat → Nat) × (Nat → Nat → Int64)) × (Nat → Int32)
def DOK (D : DS) : Prop := ROK D.1 ∧ (∀ K, D.2.1 = some K → ROK K) ∧ (D.2.2.1.2 ≤ 250 ∧ ∀ i, i < D.2.2.1.2 → D.2.2.1.1 i ≤ 255) ∧ ∀ s, s < 8 → D.2.2.2.1.2.1 s ≤ 40 ∧ ∀ q, D.2.2.2.1.1 s = some q → q ≤ 4 ∨ 10 ≤ q ∧ q < 10 + D.1.1 0
def DMe (D : DS) (I X : zI) (Y : zY) : Prop := zRm 1 D.1 I X ∧ (I 3 0 8 = if D.2.1.isSome = true then nI 1 else nI 0) ∧ (∀ K, D.2.1 = some K → zRm 8 K I X) ∧ (I 3 30 1 = nI D.2.2.1.2 ∧ ∀ i, i < D.2.2.1.2 → X 3 31 i = nI (D.2.2.1.1 i)) ∧ (∀ s, s < 8 → I 3 (35 + 2 * s) 0 = oI (D.2.2.2.1.1 s) ∧ I 3 (35 + 2 * s) 1 = nI (D.2.2.2.1.2.1 s) ∧ ∀ i, i < 40 → Y 3 (36 + 2 * s) i = D.2.2.2.1.2.2 s i) ∧ (∀ j, j < 5 → X 3 33 j = D.2.2.2.2 j) ∧ zRw 8 I ∧ zRw 15 I
def rfD (j : Nat) (D : DS) : DS := (D.1, D.2.1, D.2.2.1, D.2.2.2.1, fun i => if i = j then D.2.2.2.2 i + nI 1 else D.2.2.2.2 i)
abbrev bad (j : Nat) (D : DS) : Int32 × DS := (-2 - nI j, rfD j D)
theorem DMe.tp {D : DS} {I X : zI} {Y : zY} (h : DMe D I X Y) (hO : DOK D) : zTp D.2.2.1.1 D.2.2.1.2 I X := ⟨h.2.2.2.1.1, h.2.2.2.1.2, hO.2.2.1.1, hO.2.2.1.2⟩
theorem DMe.frame {D : DS} {I X I' X' : zI} {Y : zY} (h : DMe D I X Y) (hI : ∀ k j, ¬ (15 ≤ k ∧ k ≤ 22 ∧ ¬ j = 1 ∨ k = 30 ∧ 2 ≤ j) → I' 3 k j = I 3 k j) (hX : ∀ k j, ¬ (15 ≤ k ∧ k ≤ 32 ∧ ¬ k = 31) → X' 3 k j = X 3 k j) : DMe D I' X' Y := by
  obtain ⟨h1, h2, h3, ⟨h4, h5⟩, h6, h7, h8, h9⟩ := h
  refine ⟨h1.frame (fun k j a b => hI k j (by omega)) (fun k j a b => hX k j (by omega)), by rw [hI _ _ (by omega)]; exact h2, fun K hK => (h3 K hK).frame (fun k j a b => hI k j (by omega)) (fun k j a b => hX k j (by omega)), ⟨by rw [hI _ _ (by omega)]; exact h4, fun i hi => by rw [hX _ _ (by omega)]; exact h5 i hi⟩, fun s hs => ?_, fun j hj => by rw [hX _ _ (by omega)]; exact h7 j hj, h8.frame (fun k a b => hI k 1 (by omega)), h9.frame (fun k a b => hI k 1 (by omega))⟩
  obtain ⟨g1, g2, g3⟩ := h6 s hs
  exact ⟨by rw [hI _ _ (by omega)]; exact g1, by rw [hI _ _ (by omega)]; exact g2, g3⟩
theorem DMe.rf {D : DS} {I X : zI} {Y : zY} (h : DMe D I X Y) {j : Nat} (hj : j < 5) : DMe (rfD j D) I (rfX j X) Y := by
  obtain ⟨h1, h2, h3, ⟨h4, h5⟩, h6, h7, h8, h9⟩ := h
  have e : ∀ b k i, ¬ (b = 3 ∧ k = 33) → rfX j X b k i = X b k i := fun b k i hh => up3_ne (by omega)
  refine ⟨h1.frame (fun _ _ _ _ => rfl) (fun k j a b => e _ _ _ (by omega)), h2, fun K hK => (h3 K hK).frame (fun _ _ _ _ => rfl) (fun k j a b => e _ _ _ (by omega)), ⟨h4, fun i hi => by rw [e _ _ _ (by omega)]; exact h5 i hi⟩, h6, fun i hi => ?_, h8, h9⟩
  show up3 X 3 33 j (X 3 33 j + nI 1) 3 33 i = if i = j then D.2.2.2.2 i + nI 1 else D.2.2.2.2 i
  by_cases e1 : i = j
  · subst e1; rw [up3_eq, if_pos rfl, h7 i hj]
  · rw [up3_ne (by omega), if_neg e1]; exact h7 i hi
theorem DMe.wg {D : DS} {I X : zI} {Y : zY} (h : DMe D I X Y) {R : RS} {s : Nat} : DMe D (wgI R s I) (wgX R s X) Y := h.frame (fun k j hh => wg_I (by omega)) (fun k j hh => wg_X (by omega))
def dC (y : zM) (n : Nat) (args : List zV) (v : Option zV) (D' : DS) (ad : zA) (S : zSh) (I X : zI) (Y : zY) (sz : Nat) : Prop := ∃ I' X' Y', DMe D' I' X' Y' ∧ zC0 y n args v ad S I X Y sz I' X' Y'
theorem DOK.rf {D : DS} (h : DOK D) {j : Nat} : DOK (rfD j D) := h
section
variable {ad : zA} {S : zSh} {I X : zI} {Y : zY} {sz : Nat} {R : RS} {n h : Nat} {w m : Nat → Nat}

theorem c_X6_heardBySet (hD : ∀ k, S 3 k = dsh k) (hm : zRm 1 R I X) (hR : ROK R) (hw : zWm n w m h I X) (hnR : n = R.1 0) {t : Nat} (ht : t < 2 ^ 31) : zC0 mX6_heardBySet 4 [zr 3 0, zi (nI t)] (some (zi (nI (hsetN R (wtN w m) t (R.1 2))))) ad S I X Y sz I X Y := by
  refine zgo (own := RX6) (k := 2) (by decide +kernel) rfl rfl rfl (fun C hC hnm hE => ?_)
  have h6 := hR.2.2.1
  refine z_iconst hC dX6_heardBySet_0 (v := nI 0) rfl ?_
  refine z_istore_n hC dX6_heardBySet_1 (lo2 := [_, _, _, _]) (Nat.le_of_ble_eq_true rfl) rfl rfl ?_
  refine z_iconst hC dX6_heardBySet_2 (v := nI 0) rfl ?_
  refine z_istore_n hC dX6_heardBySet_3 (lo2 := [_, _, _, _]) (Nat.le_of_ble_eq_true rfl) rfl rfl ?_
  have loop4 : ∀ (fuel : Nat) (i : Nat), R.1 2 - i < fuel → i ≤ R.1 2 → zL C 4 ad S 0 0 sz I X Y 4 [some (zr 3 0), some (zi (nI t)), some (zi (nI (hsetN R (wtN w m) t i))), some (zi (nI i))] [] := by
    intro fuel
    induction fuel with
    | zero => intro i hfu; exact absurd hfu (Nat.not_lt_zero _)
    | succ fuel ih =>
      intro i hfu hi6
      refine z_iload_n hC dX6_heardBySet_4 rfl ?_
      refine z_aload_n hC dX6_heardBySet_5 rfl ?_
      refine z_getR hC dX6_heardBySet_6 (hD _) zfX6_10 rfl ?_
      refine z_getR hC dX6_heardBySet_9 (hD _) zfX6_184 rfl ?_
      refine z_getN hC dX6_heardBySet_12 (hD _) zfX6_160 rfl hm.2.2.1.2.1 ?_
      refine z_nicmp_ge hC dX6_heardBySet_15 (tgt := 40) (by decide) (by omega) (by omega) (fun c15 => ?_) (fun c15 => ?_)
      · skip
        obtain rfl : i = R.1 2 := by omega
        refine z_iload_n hC dX6_heardBySet_40 rfl ?_
        refine z_iret hC dX6_heardBySet_41 ?_
        exact hE.to (by rfl) rfl rfl rfl
      have hi : i < R.1 2 := by omega
      refine z_iload_n hC dX6_heardBySet_18 rfl ?_
      refine z_iload_n hC dX6_heardBySet_19 rfl ?_
      refine zSv hC dX6_heardBySet_20 zlX6_336 (c_X6_isIn ht (show i < 32 by omega)) rfl rfl rfl rfl ?_
      refine z_ifb_eq hC dX6_heardBySet_23 (tgt := 34) (by decide) (fun c23 => ?_) (fun c23 => ?_)
      · skip
        refine z_ninc hC dX6_heardBySet_34 (lo2 := [_, _, _, _]) rfl rfl rfl rfl ?_
        refine z_goto hC dX6_heardBySet_37 (tgt := 4) (by decide) ?_
        refine z_sub ?_ (ih (i + 1) (by omega) (by omega))
        first | (rw [show hsetN R (wtN w m) t (i + 1) = hsetN R (wtN w m) t i + hearN R (wtN w m) i from congrArg _ (if_pos c23)]; simp [zsub]) | (rw [show hsetN R (wtN w m) t (i + 1) = hsetN R (wtN w m) t i from (congrArg (hsetN R (wtN w m) t i + ·) (if_neg c23)).trans (Nat.add_zero _)]; simp [zsub])
      refine z_iload_n hC dX6_heardBySet_26 rfl ?_
      refine z_aload_n hC dX6_heardBySet_27 rfl ?_
      refine z_iload_n hC dX6_heardBySet_28 rfl ?_
      refine zVv hC dX6_heardBySet_29 zlX6_276 (c_X6_heardBy hD hm hR hw hnR hi) (hD _) rfl rfl rfl rfl rfl rfl ?_
      refine z_nadd hC dX6_heardBySet_32  ?_
      refine z_istore_n hC dX6_heardBySet_33 (lo2 := [_, _, _, _]) (Nat.le_of_ble_eq_true rfl) rfl rfl ?_
      refine z_ninc hC dX6_heardBySet_34 (lo2 := [_, _, _, _]) rfl rfl rfl rfl ?_
      refine z_goto hC dX6_heardBySet_37 (tgt := 4) (by decide) ?_
      refine z_sub ?_ (ih (i + 1) (by omega) (by omega))
      first | (rw [show hsetN R (wtN w m) t (i + 1) = hsetN R (wtN w m) t i + hearN R (wtN w m) i from congrArg _ (if_pos c23)]; simp [zsub]) | (rw [show hsetN R (wtN w m) t (i + 1) = hsetN R (wtN w m) t i from (congrArg (hsetN R (wtN w m) t i + ·) (if_neg c23)).trans (Nat.add_zero _)]; simp [zsub])
  exact z_sub (by simp [zsub, sumN, hsetN, minsN]) (loop4 _ 0 (Nat.lt_succ_self _) (Nat.zero_le _))

theorem c_X6_minutesOf (hD : ∀ k, S 3 k = dsh k) (hm : zRm 1 R I X) (hR : ROK R) {t : Nat} (ht : t < 2 ^ 31) : zC0 mX6_minutesOf 3 [zr 3 0, zi (nI t)] (some (zi (nI (minsN R t (R.1 2))))) ad S I X Y sz I X Y := by
  refine zgo (own := RX6) (k := 2) (by decide +kernel) rfl rfl rfl (fun C hC hnm hE => ?_)
  have h6 := hR.2.2.1
  refine z_iconst hC dX6_minutesOf_0 (v := nI 0) rfl ?_
  refine z_istore_n hC dX6_minutesOf_1 (lo2 := [_, _, _, _]) (Nat.le_of_ble_eq_true rfl) rfl rfl ?_
  refine z_iconst hC dX6_minutesOf_2 (v := nI 0) rfl ?_
  refine z_istore_n hC dX6_minutesOf_3 (lo2 := [_, _, _, _]) (Nat.le_of_ble_eq_true rfl) rfl rfl ?_
  have loop4 : ∀ (fuel : Nat) (i : Nat), R.1 2 - i < fuel → i ≤ R.1 2 → zL C 4 ad S 0 0 sz I X Y 4 [some (zr 3 0), some (zi (nI t)), some (zi (nI (minsN R t i))), some (zi (nI i))] [] := by
    intro fuel
    induction fuel with
    | zero => intro i hfu; exact absurd hfu (Nat.not_lt_zero _)
    | succ fuel ih =>
      intro i hfu hi6
      refine z_iload_n hC dX6_minutesOf_4 rfl ?_
      refine z_aload_n hC dX6_minutesOf_5 rfl ?_
      refine z_getR hC dX6_minutesOf_6 (hD _) zfX6_10 rfl ?_
      refine z_getR hC dX6_minutesOf_9 (hD _) zfX6_184 rfl ?_
      refine z_getN hC dX6_minutesOf_12 (hD _) zfX6_160 rfl hm.2.2.1.2.1 ?_
      refine z_nicmp_ge hC dX6_minutesOf_15 (tgt := 47) (by decide) (by omega) (by omega) (fun c15 => ?_) (fun c15 => ?_)
      · skip
        obtain rfl : i = R.1 2 := by omega
        refine z_iload_n hC dX6_minutesOf_47 rfl ?_
        refine z_iret hC dX6_minutesOf_48 ?_
        exact hE.to (by rfl) rfl rfl rfl
      have hi : i < R.1 2 := by omega
      refine z_iload_n hC dX6_minutesOf_18 rfl ?_
      refine z_iload_n hC dX6_minutesOf_19 rfl ?_
      refine zSv hC dX6_minutesOf_20 zlX6_336 (c_X6_isIn ht (show i < 32 by omega)) rfl rfl rfl rfl ?_
      refine z_ifb_eq hC dX6_minutesOf_23 (tgt := 41) (by decide) (fun c23 => ?_) (fun c23 => ?_)
      · skip
        refine z_ninc hC dX6_minutesOf_41 (lo2 := [_, _, _, _]) rfl rfl rfl rfl ?_
        refine z_goto hC dX6_minutesOf_44 (tgt := 4) (by decide) ?_
        refine z_sub ?_ (ih (i + 1) (by omega) (by omega))
        first | (rw [show minsN R t (i + 1) = minsN R t i + R.2.1 9 i from congrArg _ (if_pos c23)]; simp [zsub]) | (rw [show minsN R t (i + 1) = minsN R t i from (congrArg (minsN R t i + ·) (if_neg c23)).trans (Nat.add_zero _)]; simp [zsub])
      refine z_iload_n hC dX6_minutesOf_26 rfl ?_
      refine z_aload_n hC dX6_minutesOf_27 rfl ?_
      refine z_getR hC dX6_minutesOf_28 (hD _) zfX6_10 rfl ?_
      refine z_getR hC dX6_minutesOf_31 (hD _) zfX6_184 rfl ?_
      refine z_iload_n hC dX6_minutesOf_34 rfl ?_
      refine z_iconst hC dX6_minutesOf_35 (v := nI 1) rfl ?_
      refine zVv hC dX6_minutesOf_36 zlX6_124 (c_cat (zRd_1 hD) hm hR hi (j := 1) (by decide)) (hD _) rfl rfl rfl rfl rfl rfl ?_
      change zL C 4 ad S 0 0 sz I X Y _ _ [zi (nI (R.2.1 9 i)), _]
      refine z_nadd hC dX6_minutesOf_39  ?_
      refine z_istore_n hC dX6_minutesOf_40 (lo2 := [_, _, _, _]) (Nat.le_of_ble_eq_true rfl) rfl rfl ?_
      refine z_ninc hC dX6_minutesOf_41 (lo2 := [_, _, _, _]) rfl rfl rfl rfl ?_
      refine z_goto hC dX6_minutesOf_44 (tgt := 4) (by decide) ?_
      refine z_sub ?_ (ih (i + 1) (by omega) (by omega))
      first | (rw [show minsN R t (i + 1) = minsN R t i + R.2.1 9 i from congrArg _ (if_pos c23)]; simp [zsub]) | (rw [show minsN R t (i + 1) = minsN R t i from (congrArg (minsN R t i + ·) (if_neg c23)).trans (Nat.add_zero _)]; simp [zsub])
  exact z_sub (by simp [zsub, sumN, hsetN, minsN]) (loop4 _ 0 (Nat.lt_succ_self _) (Nat.zero_le _))

theorem c_X6_wrongPiece (hD : ∀ k, S 3 k = dsh k) (hm : zRm 1 R I X) (hR : ROK R) {k c : Nat} (hS : S 3 k = some (ssh c)) (hS2 : S 3 c = some (.inl (1, 40))) {q : Nat} (hh : I 3 k 0 = nI q) (hq : q ≤ 4) {n : Nat} (hn : I 3 k 1 = nI n) (hn40 : n ≤ 40) {p : Nat} (hp : p ≤ n) : zC0 mX6_wrongPiece 3 [zr 3 0, zr 3 k, zi (nI p)] (some (zi (oI (wpF (Y 3 c) (lN (R.1 0)) p 0 0)))) ad S I X Y sz I X Y := by
  refine zgo (own := RX6) (k := 5) (by decide +kernel) rfl rfl rfl (fun C hC hnm hE => ?_)
  have hn14 := hR.1
  refine z_lconst hC dX6_wrongPiece_0 (v := lN 0) rfl ?_
  refine z_lstore_n hC dX6_wrongPiece_1 (lo2 := [_, _, _, _, _, _, _, _]) (Nat.le_of_ble_eq_true rfl) rfl rfl ?_
  refine z_iconst hC dX6_wrongPiece_2 (v := nI 0) rfl ?_
  refine z_istore hC dX6_wrongPiece_3 (lo2 := [_, _, _, _, _, _, _, _]) (Nat.le_of_ble_eq_true rfl) rfl rfl ?_
  have loop5 : ∀ (fuel : Nat) (i : Nat) (v : Int64), p - i < fuel → i ≤ p → wpF (Y 3 c) (lN (R.1 0)) (p - i) i v = wpF (Y 3 c) (lN (R.1 0)) p 0 0 → zL C 8 ad S 0 0 sz I X Y 5 [some (zr 3 0), some (zr 3 k), some (zi (nI p)), some (zl v), none, some (zi (nI i)), none, none] [] := by
    intro fuel
    induction fuel with
    | zero => intro i v hfu; exact absurd hfu (Nat.not_lt_zero _)
    | succ fuel ih =>
      intro i v hfu hip hw
      refine z_iload hC dX6_wrongPiece_5 rfl ?_
      refine z_iload_n hC dX6_wrongPiece_7 rfl ?_
      refine z_nicmp_ge hC dX6_wrongPiece_8 (tgt := 55) (by decide) (by omega) (by omega) (fun c8 => ?_) (fun c8 => ?_)
      · skip
        refine z_iconst hC dX6_wrongPiece_55 (v := -1) rfl ?_
        refine z_iret hC dX6_wrongPiece_56 ?_
        exact hE.to (by rw [← hw, show p - i = 0 by omega]; rfl) rfl rfl rfl
      refine z_aload_n hC dX6_wrongPiece_11 rfl ?_
      refine z_iload hC dX6_wrongPiece_12 rfl ?_
      refine zVv hC dX6_wrongPiece_14 zlX6_100 (c_elementAt_t hS hS2 hh hq hn hn40 (show i < n by omega)) hS rfl rfl rfl rfl rfl rfl ?_
      refine z_lstore hC dX6_wrongPiece_17 (lo2 := [_, _, _, _, _, _, _, _]) (Nat.le_of_ble_eq_true rfl) rfl rfl ?_
      refine z_lload hC dX6_wrongPiece_19 rfl ?_
      refine z_lload_n hC dX6_wrongPiece_21 rfl ?_
      refine z_lcmp hC dX6_wrongPiece_22  ?_
      refine z_if_lt hC dX6_wrongPiece_23 (tgt := 43) (by decide) (fun c23 => ?_) (fun c23 => ?_)
      · skip
        refine z_iload hC dX6_wrongPiece_43 rfl ?_
        refine z_iret hC dX6_wrongPiece_45 ?_
        exact hE.to (by rw [← hw, show p - i = (p - (i + 1)) + 1 by omega]; (first | rw [wpF_1 (Or.inl ((lg_cmp_lt _ _).mp c23))] | rw [wpF_1 (Or.inr (Int64.not_lt.mp (fun h => c40 ((lg_cmp_lt _ _).mpr h))))]); rfl) rfl rfl rfl
      refine z_lload hC dX6_wrongPiece_26 rfl ?_
      refine z_aload_n hC dX6_wrongPiece_28 rfl ?_
      refine z_getR hC dX6_wrongPiece_29 (hD _) zfX6_10 rfl ?_
      refine z_getR hC dX6_wrongPiece_32 (hD _) zfX6_115 rfl ?_
      refine z_getN hC dX6_wrongPiece_35 (hD _) zfX6_160 rfl hm.1.2.1 ?_
      refine z_n2m hC dX6_wrongPiece_38 (by omega) ?_
      refine z_lcmp hC dX6_wrongPiece_39  ?_
      refine z_if_lt hC dX6_wrongPiece_40 (tgt := 46) (by decide) (fun c40 => ?_) (fun c40 => ?_)
      · skip
        refine z_lload hC dX6_wrongPiece_46 rfl ?_
        refine z_lstore_n hC dX6_wrongPiece_48 (lo2 := [_, _, _, _, _, _, _, _]) (Nat.le_of_ble_eq_true rfl) rfl rfl ?_
        refine z_ninc hC dX6_wrongPiece_49 (lo2 := [_, _, _, _, _, _, _, _]) rfl rfl rfl rfl ?_
        refine z_goto hC dX6_wrongPiece_52 (tgt := 5) (by decide) ?_
        refine z_sub ?_ (ih (i + 1) (Y 3 c i) (by omega) (by omega) ?_)
        · simp [zsub]
        · rw [← hw, show p - i = (p - (i + 1)) + 1 by omega]
          exact (wpF_0 (fun h => h.elim (fun h => c23 ((lg_cmp_lt _ _).mpr h)) (fun h => absurd ((lg_cmp_lt _ _).mp c40) (Int64.not_lt.mpr h)))).symm
      refine z_iload hC dX6_wrongPiece_43 rfl ?_
      refine z_iret hC dX6_wrongPiece_45 ?_
      exact hE.to (by rw [← hw, show p - i = (p - (i + 1)) + 1 by omega]; (first | rw [wpF_1 (Or.inl ((lg_cmp_lt _ _).mp c23))] | rw [wpF_1 (Or.inr (Int64.not_lt.mp (fun h => c40 ((lg_cmp_lt _ _).mpr h))))]); rfl) rfl rfl rfl
  exact z_sub (by simp [zsub, show lN 0 = 0 by decide]) (loop5 _ 0 0 (Nat.lt_succ_self _) (Nat.zero_le _) rfl)

theorem c_X6_isToldLook (hD : ∀ k, S 3 k = dsh k) (hm : zRm 1 R I X) (hR : ROK R) {v : Int64} : zC0 mX6_isToldLook 2 [zr 3 0, zl v] (some (zi (zb (0 ≤ v ∧ v / lN 10 < lN (R.1 0) ∧ nI 1 ≤ (v - v / lN 10 * lN 10).toInt32 ∧ (v - v / lN 10 * lN 10).toInt32 ≤ nI 3) inferInstance))) ad S I X Y sz I X Y := by
  refine zgo (own := RX6) (k := 0) (by decide +kernel) rfl rfl rfl (fun C hC hnm hE => ?_)
  have hn14 := hR.1
  have e0 : lN 0 = 0 := by decide
  refine z_lload_n hC dX6_isToldLook_0 rfl ?_
  refine z_lconst hC dX6_isToldLook_1 (v := lN 0) rfl ?_
  refine z_lcmp hC dX6_isToldLook_2  ?_
  refine z_if_lt hC dX6_isToldLook_3 (tgt := 42) (by decide) (fun c3 => ?_) (fun c3 => ?_)
  · skip
    refine z_iconst hC dX6_isToldLook_42 (v := nI 0) rfl ?_
    refine z_zret hC dX6_isToldLook_43 rfl ?_
    exact hE.to (by first | exact zbT ⟨Int64.not_lt.mp (fun h => c3 ((lg_cmp_lt _ _).mpr (e0 ▸ h))), Int64.not_le.mp (fun h => c23 ((lg_cmp_ge _ _).mpr h)), c35⟩ | exact zbF (fun h => absurd ((lg_cmp_lt _ _).mp c3) (Int64.not_lt.mpr (e0 ▸ h.1))) | exact zbF (fun h => absurd ((lg_cmp_ge _ _).mp c23) (Int64.not_le.mpr h.2.1)) | exact zbF (fun h => c35 h.2.2)) rfl rfl rfl
  refine z_lload_n hC dX6_isToldLook_6 rfl ?_
  refine z_ldc2 hC dX6_isToldLook_7 (v := lN 10) (zin4 (i := 144) rfl rfl) ?_
  refine z_ldiv hC dX6_isToldLook_10 (by decide) ?_
  refine z_aload_n hC dX6_isToldLook_11 rfl ?_
  refine z_getR hC dX6_isToldLook_12 (hD _) zfX6_10 rfl ?_
  refine z_getR hC dX6_isToldLook_15 (hD _) zfX6_115 rfl ?_
  refine z_getN hC dX6_isToldLook_18 (hD _) zfX6_160 rfl hm.1.2.1 ?_
  refine z_n2m hC dX6_isToldLook_21 (by omega) ?_
  refine z_lcmp hC dX6_isToldLook_22  ?_
  refine z_if_ge hC dX6_isToldLook_23 (tgt := 42) (by decide) (fun c23 => ?_) (fun c23 => ?_)
  · skip
    refine z_iconst hC dX6_isToldLook_42 (v := nI 0) rfl ?_
    refine z_zret hC dX6_isToldLook_43 rfl ?_
    exact hE.to (by first | exact zbT ⟨Int64.not_lt.mp (fun h => c3 ((lg_cmp_lt _ _).mpr (e0 ▸ h))), Int64.not_le.mp (fun h => c23 ((lg_cmp_ge _ _).mpr h)), c35⟩ | exact zbF (fun h => absurd ((lg_cmp_lt _ _).mp c3) (Int64.not_lt.mpr (e0 ▸ h.1))) | exact zbF (fun h => absurd ((lg_cmp_ge _ _).mp c23) (Int64.not_le.mpr h.2.1)) | exact zbF (fun h => c35 h.2.2)) rfl rfl rfl
  refine z_lload_n hC dX6_isToldLook_26 rfl ?_
  refine z_ldc2 hC dX6_isToldLook_27 (v := lN 10) (zin4 (i := 144) rfl rfl) ?_
  refine z_lrem hC dX6_isToldLook_30 (by decide) ?_
  refine z_l2i hC dX6_isToldLook_31  ?_
  refine zSv hC dX6_isToldLook_32 zlX6_331 c_X6_isLook rfl rfl rfl rfl ?_
  refine z_ifb_eq hC dX6_isToldLook_35 (tgt := 42) (by decide) (fun c35 => ?_) (fun c35 => ?_)
  · skip
    refine z_iconst hC dX6_isToldLook_42 (v := nI 0) rfl ?_
    refine z_zret hC dX6_isToldLook_43 rfl ?_
    exact hE.to (by first | exact zbT ⟨Int64.not_lt.mp (fun h => c3 ((lg_cmp_lt _ _).mpr (e0 ▸ h))), Int64.not_le.mp (fun h => c23 ((lg_cmp_ge _ _).mpr h)), c35⟩ | exact zbF (fun h => absurd ((lg_cmp_lt _ _).mp c3) (Int64.not_lt.mpr (e0 ▸ h.1))) | exact zbF (fun h => absurd ((lg_cmp_ge _ _).mp c23) (Int64.not_le.mpr h.2.1)) | exact zbF (fun h => c35 h.2.2)) rfl rfl rfl
  refine z_iconst hC dX6_isToldLook_38 (v := nI 1) rfl ?_
  refine z_goto hC dX6_isToldLook_39 (tgt := 43) (by decide) ?_
  refine z_zret hC dX6_isToldLook_43 rfl ?_
  exact hE.to (by first | exact zbT ⟨Int64.not_lt.mp (fun h => c3 ((lg_cmp_lt _ _).mpr (e0 ▸ h))), Int64.not_le.mp (fun h => c23 ((lg_cmp_ge _ _).mpr h)), c35⟩ | exact zbF (fun h => absurd ((lg_cmp_lt _ _).mp c3) (Int64.not_lt.mpr (e0 ▸ h.1))) | exact zbF (fun h => absurd ((lg_cmp_ge _ _).mp c23) (Int64.not_le.mpr h.2.1)) | exact zbF (fun h => c35 h.2.2)) rfl rfl rfl

theorem c_X6_fullShelves (hD : ∀ k, S 3 k = dsh k) {hs : Nat → Option Nat} (hM : ∀ s, s < 8 → I 3 (35 + 2 * s) 0 = oI (hs s) ∧ ∀ q, hs s = some q → q < 24) : zC0 mX6_fullShelves 1 [zr 3 0] (some (zi (nI (sumN (fun s => if hs s = none then 0 else 1) 8)))) ad S I X Y sz I X Y := by
  refine zgo (own := RX6) (k := 3) (by decide +kernel) rfl rfl rfl (fun C hC hnm hE => ?_)
  refine z_iconst hC dX6_fullShelves_0 (v := nI 0) rfl ?_
  refine z_istore_n hC dX6_fullShelves_1 (lo2 := [_, _, _, _]) (Nat.le_of_ble_eq_true rfl) rfl rfl ?_
  refine z_iconst hC dX6_fullShelves_2 (v := nI 0) rfl ?_
  refine z_istore_n hC dX6_fullShelves_3 (lo2 := [_, _, _, _]) (Nat.le_of_ble_eq_true rfl) rfl rfl ?_
  have loop4 : ∀ (fuel : Nat) (s : Nat), 8 - s < fuel → s ≤ 8 → zL C 4 ad S 0 0 sz I X Y 4 [some (zr 3 0), some (zi (nI (sumN (fun s => if hs s = none then 0 else 1) s))), some (zi (nI s)), none] [] := by
    intro fuel
    induction fuel with
    | zero => intro s hfu; exact absurd hfu (Nat.not_lt_zero _)
    | succ fuel ih =>
      intro s hfu hsle
      refine z_iload_n hC dX6_fullShelves_4 rfl ?_
      refine z_aload_n hC dX6_fullShelves_5 rfl ?_
      refine z_getR hC dX6_fullShelves_6 (hD _) zfX6_49 rfl ?_
      refine z_alenQ hC (by decide) dX6_fullShelves_9 (hD _) (v := nI 8) rfl ?_
      refine z_nicmp_ge hC dX6_fullShelves_10 (tgt := 39) (by decide) (by omega) (by omega) (fun c10 => ?_) (fun c10 => ?_)
      · skip
        obtain rfl : s = 8 := by omega
        refine z_iload_n hC dX6_fullShelves_39 rfl ?_
        refine z_iret hC dX6_fullShelves_40 ?_
        exact hE.to (by rfl) rfl rfl rfl
      have hs8 : s < 8 := by omega
      obtain ⟨m1, m2⟩ := hM s hs8
      refine z_aload_n hC dX6_fullShelves_13 rfl ?_
      refine z_iload_n hC dX6_fullShelves_14 rfl ?_
      refine zVv hC dX6_fullShelves_15 zlX6_54 (c_shelfAt_t hD hs8) (hD _) rfl rfl rfl rfl rfl rfl ?_
      refine z_astore_n hC dX6_fullShelves_18 (lo2 := [_, _, _, _]) (Nat.le_of_ble_eq_true rfl) rfl rfl ?_
      refine z_aload_n hC dX6_fullShelves_19 rfl ?_
      refine z_ifnull hC dX6_fullShelves_20  ?_
      refine z_aload_n hC dX6_fullShelves_23 rfl ?_
      rcases hq : hs s with _ | q
      · skip
        rw [hq] at m1
        have hcc : sumN (fun s => if hs s = none then 0 else 1) (s + 1) = sumN (fun s => if hs s = none then 0 else 1) s := by show _ + (if hs s = none then 0 else 1) = _; rw [if_pos hq]; rfl
        refine zVv hC dX6_fullShelves_24 zlX6_74 (c_isEmpty_n ((hD _).trans (dsh_s hs8).1) m1) ((hD _).trans (dsh_s hs8).1) rfl rfl rfl rfl rfl rfl ?_
        refine z_nif_ne hC dX6_fullShelves_27 (tgt := 33) (by decide) (by omega) (fun c27 => ?_) (fun c27 => ?_)
        rotate_left
        · exfalso; omega
        refine z_ninc hC dX6_fullShelves_33 (lo2 := [_, _, _, _]) rfl rfl rfl rfl ?_
        refine z_goto hC dX6_fullShelves_36 (tgt := 4) (by decide) ?_
        rw [← hcc]
        exact z_sub (by simp [zsub]) (ih (s + 1) (by omega) (by omega))
      · skip
        rw [hq] at m1
        have hq24 := m2 q hq
        have hcc : sumN (fun s => if hs s = none then 0 else 1) (s + 1) = sumN (fun s => if hs s = none then 0 else 1) s + 1 := by show _ + (if hs s = none then 0 else 1) = _; rw [if_neg (by rw [hq]; exact Option.some_ne_none q)]
        refine zVv hC dX6_fullShelves_24 zlX6_74 (c_isEmpty_r ((hD _).trans (dsh_s hs8).1) m1 hq24) ((hD _).trans (dsh_s hs8).1) rfl rfl rfl rfl rfl rfl ?_
        refine z_nif_ne hC dX6_fullShelves_27 (tgt := 33) (by decide) (by omega) (fun c27 => ?_) (fun c27 => ?_)
        · exfalso; omega
        refine z_ninc hC dX6_fullShelves_30 (lo2 := [_, _, _, _]) rfl rfl rfl rfl ?_
        refine z_ninc hC dX6_fullShelves_33 (lo2 := [_, _, _, _]) rfl rfl rfl rfl ?_
        refine z_goto hC dX6_fullShelves_36 (tgt := 4) (by decide) ?_
        rw [← hcc]
        exact z_sub (by simp [zsub]) (ih (s + 1) (by omega) (by omega))
  exact z_sub (by simp [zsub, sumN]) (loop4 _ 0 (Nat.lt_succ_self _) (Nat.zero_le _))

end
