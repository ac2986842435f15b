/-! the reference: SHELVES -/
theorem iwB {x : Int32} {n : Nat} (hn : n + 1 < 2 ^ 31) : iw x 0 n ↔ inB x (n + 1) := by
  constructor
  · intro h
    obtain ⟨i, -, h2, rfl, -⟩ := iw_e h (by decide) (by omega)
    exact inB_of (by omega) hn
  · intro h
    obtain ⟨i, h2, rfl, -⟩ := inB_e h hn
    exact iw_of (Nat.zero_le _) (by omega) (by omega)
abbrev rwM (s q n : Nat) (el : Nat → Int64) (X : zI) (Y : zY) : Prop := X 0 1 s = nI 1 ∧ X 0 2 s = nI q ∧ X 0 3 s = nI n ∧ ∀ i, i < 40 → Y 0 (4 + 1 + s) i = el i
abbrev shwM (s b : Nat) (X : zI) : Prop := X 0 1 s = nI 2 ∧ X 0 14 s = nI b
theorem sh_stM {qe : Bool} {D : DS} {I X : zI} {Y : zY} (hO : DOK D) (hM : MMe qe D I X Y) {s : Nat} (hs : s < 8) : (D.2.2.2.1.1 s = none ∧ X 0 1 s = nI 0) ∨ (∃ q, q ≤ 4 ∧ D.2.2.2.1.1 s = some q ∧ rwM s q (D.2.2.2.1.2.1 s) (D.2.2.2.1.2.2 s) X Y) ∨ (∃ b, b < D.1.1 0 ∧ D.2.2.2.1.1 s = some (10 + b) ∧ shwM s b X) := by
  have h1 := hM.2.2.2.2.2.1 s hs
  have h2 := (hO.2.2.2 s hs).2
  rcases hq : D.2.2.2.1.1 s with _ | q
  · rw [hq] at h1
    exact Or.inl ⟨rfl, h1⟩
  · rw [hq] at h1
    have h1' : (if q < 10 then _ else _) := h1
    rcases h2 q hq with h3 | h3
    · rw [if_pos (by omega)] at h1'
      exact Or.inr (Or.inl ⟨q, h3, rfl, h1'⟩)
    · rw [if_neg (by omega)] at h1'
      refine Or.inr (Or.inr ⟨q - 10, by omega, by rw [show 10 + (q - 10) = q by omega], h1'⟩)
theorem zMs_r {s q n : Nat} {el : Nat → Int64} {X : zI} {Y : zY} (hq : q ≤ 4) (h : rwM s q n el X Y) : zMs (some q) n el s X Y := by
  show (if q < 10 then _ else _)
  rw [if_pos (by omega)]; exact h
theorem zMs_b {s b n : Nat} {el : Nat → Int64} {X : zI} {Y : zY} (h : shwM s b X) : zMs (some (10 + b)) n el s X Y := by
  show (if 10 + b < 10 then _ else _)
  rw [if_neg (by omega), show 10 + b - 10 = b by omega]; exact h
theorem zMs.at {h : Option Nat} {z : Nat} {el : Nat → Int64} {s : Nat} {X X' : zI} {Y Y' : zY} (g : zMs h z el s X Y) (hX : ∀ k, (k = 1 ∨ k = 2 ∨ k = 3 ∨ k = 14) → X' 0 k s = X 0 k s) (hY : ∀ i, i < 40 → Y' 0 (4 + 1 + s) i = Y 0 (4 + 1 + s) i) : zMs h z el s X' Y' := by
  cases h with
  | none => show X' 0 1 s = _; rw [hX _ (by omega)]; exact g
  | some q =>
    show (if q < 10 then _ else _)
    have g' : (if q < 10 then _ else _) := g
    by_cases c : q < 10
    · rw [if_pos c] at g' ⊢
      rw [hX _ (by omega), hX _ (by omega), hX _ (by omega)]
      exact ⟨g'.1, g'.2.1, g'.2.2.1, fun i hi => (hY i hi).trans (g'.2.2.2 i hi)⟩
    · rw [if_neg c] at g' ⊢
      rw [hX _ (by omega), hX _ (by omega)]
      exact g'
theorem MMe.sh {qe : Bool} {D : DS} {I X X' : zI} {Y Y' : zY} (h : MMe qe D I X Y) {hh : Nat → Option Nat} {n : Nat → Nat} {el : Nat → Nat → Int64} (hX : ∀ b k j, ¬ (b = 0 ∧ (k = 1 ∨ k = 2 ∨ k = 3 ∨ k = 14)) → X' b k j = X b k j) (hs : ∀ s, s < 8 → zMs (hh s) (n s) (el s) s X' Y') : MMe qe (DH D hh n el) I X' Y' := by
  obtain ⟨g1, g2, g3, g4, ⟨g5, g6⟩, g7, g8⟩ := h
  exact ⟨g1.frame (fun _ _ _ => rfl) (fun k j _ _ => hX _ _ _ (by omega)), g2, g3, fun K hK => (g4 K hK).frame (fun _ _ _ => rfl) (fun k j _ _ => hX _ _ _ (by omega)), ⟨g5, fun i hi => by rw [hX _ _ _ (by omega)]; exact g6 i hi⟩, hs, fun j hj => by rw [hX _ _ _ (by omega)]; exact g8 j hj⟩
def mzY (s n : Nat) (Y : zY) : zY := fun b k j => if b = 0 ∧ k = 4 + 1 + s ∧ j < n then 0 else Y b k j
theorem mzY_s {s n : Nat} {Y : zY} : up3 (mzY s n Y) 0 (4 + 1 + s) n 0 = mzY s (n + 1) Y := by
  funext b k j
  unfold up3 mzY
  by_cases h1 : b = 0 ∧ k = 4 + 1 + s ∧ j = n
  · rw [if_pos h1, if_pos (by omega)]
  · rw [if_neg h1]
    by_cases h2 : b = 0 ∧ k = 4 + 1 + s ∧ j < n
    · rw [if_pos h2, if_pos (by omega)]
    · rw [if_neg h2, if_neg (by omega)]
theorem mzY_0 {s : Nat} {Y : zY} : mzY s 0 Y = Y := by
  funext b k j
  exact if_neg (by omega)
def mvY (p i n : Nat) (Y : zY) : zY := fun b k t => if b = 0 ∧ k = 13 ∧ t < n then Y 0 (4 + 1 + p) (i + t) else Y b k t
theorem mvY_s {p i n : Nat} {Y : zY} {v : Int64} (hv : v = Y 0 (4 + 1 + p) (i + n)) : up3 (mvY p i n Y) 0 13 n v = mvY p i (n + 1) Y := by
  funext b k t
  unfold up3 mvY
  by_cases h1 : b = 0 ∧ k = 13 ∧ t = n
  · rw [if_pos h1, if_pos (by omega), hv, h1.2.2]
  · rw [if_neg h1]
    by_cases h2 : b = 0 ∧ k = 13 ∧ t < n
    · rw [if_pos h2, if_pos (by omega)]
    · rw [if_neg h2, if_neg (by omega)]
theorem mvY_0 {p i : Nat} {Y : zY} : mvY p i 0 Y = Y := by
  funext b k j
  exact if_neg (by omega)
def cpY (q j n : Nat) (Y : zY) : zY := fun b k t => if b = 0 ∧ k = 4 + 1 + q ∧ j ≤ t ∧ t < j + n then Y 0 13 (t - j) else Y b k t
theorem cpY_s {q j n : Nat} {Y : zY} {v : Int64} (hv : v = Y 0 13 n) : up3 (cpY q j n Y) 0 (4 + 1 + q) (j + n) v = cpY q j (n + 1) Y := by
  funext b k t
  unfold up3 cpY
  by_cases h1 : b = 0 ∧ k = 4 + 1 + q ∧ t = j + n
  · rw [if_pos h1, if_pos (by omega), hv, h1.2.2, Nat.add_sub_cancel_left]
  · rw [if_neg h1]
    by_cases h2 : b = 0 ∧ k = 4 + 1 + q ∧ j ≤ t ∧ t < j + n
    · rw [if_pos h2, if_pos (by omega)]
    · rw [if_neg h2, if_neg (by omega)]
theorem cpY_0 {q j : Nat} {Y : zY} : cpY q j 0 Y = Y := by
  funext b k t
  exact if_neg (by omega)
theorem cp_ok {i j m : Int32} {np nq : Nat} (hp : np ≤ 40) (hq : nq ≤ 40) (h1 : ¬ m < 0) (h2 : ¬ i < 0) (h3 : ¬ j < 0) (h4 : ¬ nI np < m) (h5 : ¬ nI nq < m) (h6 : ¬ nI np - m < i) (h7 : j ≤ nI nq - m) : (inB i (np + 1) ∧ inB m (np + 1 - nn i)) ∧ inB j (nq + 1) ∧ inB m (nq + 1 - nn j) := by
  obtain ⟨m, -, hm2, rfl, -⟩ := iw_e (a := 0) (n := np) ⟨Int32.not_lt.mp h1, Int32.not_lt.mp h4⟩ (by decide) (by omega)
  have hm3 : m ≤ nq := nI_nlt' (by omega) (by omega) h5
  rw [pk_sub hm2] at h6
  rw [pk_sub hm3] at h7
  obtain ⟨i, -, hi2, rfl, e1⟩ := iw_e (a := 0) (n := np - m) ⟨Int32.not_lt.mp h2, Int32.not_lt.mp h6⟩ (by decide) (by omega)
  obtain ⟨j, -, hj2, rfl, e2⟩ := iw_e (a := 0) (n := nq - m) ⟨Int32.not_lt.mp h3, h7⟩ (by decide) (by omega)
  rw [e1, e2]
  exact ⟨⟨inB_of (by omega) (by omega), inB_of (by omega) (by omega)⟩, inB_of (by omega) (by omega), inB_of (by omega) (by omega)⟩
section
variable {ad : zA} {S : zSh} {I X : zI} {Y : zY} {sz : Nat} {D : DS} {qe : Bool}

theorem c_noRow_n (hS : ∀ k, S 0 k = msh 0 k) {s : Nat} (hs : s < 8) (h : X 0 1 s = nI 0) : zC0 mX7_noRow 3 [zr 0 0, zi (nI s)] (some (zi (-4))) ad S I X Y sz I (rmX 0 2 X) Y := by
  refine zgo (own := RX7) (k := 0) (by decide +kernel) rfl rfl rfl (fun C hC hnm hE => ?_)
  refine z_iload_n hC dX7_noRow_0 rfl ?_
  refine z_n2m hC dX7_noRow_1 (by omega) ?_
  refine z_lconst hC dX7_noRow_2 (v := lN 0) rfl ?_
  refine z_ldc2 hC dX7_noRow_3 (v := lN 7) (zin5 (i := 110) rfl rfl) ?_
  refine wSv hC dX7_noRow_6 zlX7_97 (c_X7_inN (by omega) (by omega) (by omega)) rfl rfl rfl rfl ⟨rfl, rfl⟩ ?_
  refine w_ifb_ne hC dX7_noRow_9 (tgt := 19) (by decide) (fun c9 => ?_) (fun c9 => ?_)
  rotate_left
  · exact absurd c9 (by omega)
  refine z_aload_n hC dX7_noRow_19 rfl ?_
  refine z_getR hC dX7_noRow_20 (hS _) zfX7_7 rfl ?_
  refine z_iload_n hC dX7_noRow_23 rfl ?_
  refine z_naldN hC dX7_noRow_24 (hS _) (by omega) rfl h ?_
  refine z_iconst hC dX7_noRow_25 (v := nI 2) rfl ?_
  refine z_nicmp_ne hC dX7_noRow_26 (tgt := 36) (by decide) (by omega) (by omega) (fun c26 => ?_) (fun c26 => ?_)
  rotate_left
  · exact absurd c26 (by omega)
  refine z_aload_n hC dX7_noRow_36 rfl ?_
  refine z_getR hC dX7_noRow_37 (hS _) zfX7_7 rfl ?_
  refine z_iload_n hC dX7_noRow_40 rfl ?_
  refine z_naldN hC dX7_noRow_41 (hS _) (by omega) rfl h ?_
  refine z_nif_ne hC dX7_noRow_42 (tgt := 54) (by decide) (by omega) (fun c42 => ?_) (fun c42 => ?_)
  · exact absurd c42 (fun z => z rfl)
  refine z_aload_n hC dX7_noRow_45 rfl ?_
  refine z_bipush hC dX7_noRow_46 (v := -4) rfl ?_
  refine wVv hC dX7_noRow_48 zlX7_107 (c_X7_refuse hS (j := 2) (by decide) (by decide)) (hS _) rfl rfl rfl rfl rfl rfl ⟨rfl, rfl⟩ ?_
  refine z_goto hC dX7_noRow_51 (tgt := 55) (by decide) ?_
  refine z_iret hC dX7_noRow_55 ?_
  exact hE.to (by rfl) rfl rfl rfl

theorem c_noRow_b (hS : ∀ k, S 0 k = msh 0 k) {s : Nat} (hs : s < 8) (h : X 0 1 s = nI 2) : zC0 mX7_noRow 3 [zr 0 0, zi (nI s)] (some (zi (-3))) ad S I X Y sz I (rmX 0 1 X) Y := by
  refine zgo (own := RX7) (k := 0) (by decide +kernel) rfl rfl rfl (fun C hC hnm hE => ?_)
  refine z_iload_n hC dX7_noRow_0 rfl ?_
  refine z_n2m hC dX7_noRow_1 (by omega) ?_
  refine z_lconst hC dX7_noRow_2 (v := lN 0) rfl ?_
  refine z_ldc2 hC dX7_noRow_3 (v := lN 7) (zin5 (i := 110) rfl rfl) ?_
  refine wSv hC dX7_noRow_6 zlX7_97 (c_X7_inN (by omega) (by omega) (by omega)) rfl rfl rfl rfl ⟨rfl, rfl⟩ ?_
  refine w_ifb_ne hC dX7_noRow_9 (tgt := 19) (by decide) (fun c9 => ?_) (fun c9 => ?_)
  rotate_left
  · exact absurd c9 (by omega)
  refine z_aload_n hC dX7_noRow_19 rfl ?_
  refine z_getR hC dX7_noRow_20 (hS _) zfX7_7 rfl ?_
  refine z_iload_n hC dX7_noRow_23 rfl ?_
  refine z_naldN hC dX7_noRow_24 (hS _) (by omega) rfl h ?_
  refine z_iconst hC dX7_noRow_25 (v := nI 2) rfl ?_
  refine z_nicmp_ne hC dX7_noRow_26 (tgt := 36) (by decide) (by omega) (by omega) (fun c26 => ?_) (fun c26 => ?_)
  · exact absurd c26 (by omega)
  refine z_aload_n hC dX7_noRow_29 rfl ?_
  refine z_bipush hC dX7_noRow_30 (v := -3) rfl ?_
  refine wVv hC dX7_noRow_32 zlX7_107 (c_X7_refuse hS (j := 1) (by decide) (by decide)) (hS _) rfl rfl rfl rfl rfl rfl ⟨rfl, rfl⟩ ?_
  refine z_iret hC dX7_noRow_35 ?_
  exact hE.to (by rfl) rfl rfl rfl

theorem c_noRow_r (hS : ∀ k, S 0 k = msh 0 k) {s : Nat} (hs : s < 8) (h : X 0 1 s = nI 1) : zC0 mX7_noRow 3 [zr 0 0, zi (nI s)] (some (zi (nI 0))) ad S I X Y sz I X Y := by
  refine zgo (own := RX7) (k := 0) (by decide +kernel) rfl rfl rfl (fun C hC hnm hE => ?_)
  refine z_iload_n hC dX7_noRow_0 rfl ?_
  refine z_n2m hC dX7_noRow_1 (by omega) ?_
  refine z_lconst hC dX7_noRow_2 (v := lN 0) rfl ?_
  refine z_ldc2 hC dX7_noRow_3 (v := lN 7) (zin5 (i := 110) rfl rfl) ?_
  refine wSv hC dX7_noRow_6 zlX7_97 (c_X7_inN (by omega) (by omega) (by omega)) rfl rfl rfl rfl ⟨rfl, rfl⟩ ?_
  refine w_ifb_ne hC dX7_noRow_9 (tgt := 19) (by decide) (fun c9 => ?_) (fun c9 => ?_)
  rotate_left
  · exact absurd c9 (by omega)
  refine z_aload_n hC dX7_noRow_19 rfl ?_
  refine z_getR hC dX7_noRow_20 (hS _) zfX7_7 rfl ?_
  refine z_iload_n hC dX7_noRow_23 rfl ?_
  refine z_naldN hC dX7_noRow_24 (hS _) (by omega) rfl h ?_
  refine z_iconst hC dX7_noRow_25 (v := nI 2) rfl ?_
  refine z_nicmp_ne hC dX7_noRow_26 (tgt := 36) (by decide) (by omega) (by omega) (fun c26 => ?_) (fun c26 => ?_)
  rotate_left
  · exact absurd c26 (by omega)
  refine z_aload_n hC dX7_noRow_36 rfl ?_
  refine z_getR hC dX7_noRow_37 (hS _) zfX7_7 rfl ?_
  refine z_iload_n hC dX7_noRow_40 rfl ?_
  refine z_naldN hC dX7_noRow_41 (hS _) (by omega) rfl h ?_
  refine z_nif_ne hC dX7_noRow_42 (tgt := 54) (by decide) (by omega) (fun c42 => ?_) (fun c42 => ?_)
  rotate_left
  · exact absurd c42 (by decide)
  refine z_iconst hC dX7_noRow_54 (v := nI 0) rfl ?_
  refine z_iret hC dX7_noRow_55 ?_
  exact hE.to (by rfl) rfl rfl rfl

theorem c_noRow_f (hS : ∀ k, S 0 k = msh 0 k) {x : Int32} (hx : ¬ inB x 8) : zC0 mX7_noRow 3 [zr 0 0, zi x] (some (zi (-2))) ad S I X Y sz I (rmX 0 0 X) Y := by
  refine zgo (own := RX7) (k := 0) (by decide +kernel) rfl rfl rfl (fun C hC hnm hE => ?_)
  refine z_iload_n hC dX7_noRow_0 rfl ?_
  refine z_i2l hC dX7_noRow_1  ?_
  refine z_lconst hC dX7_noRow_2 (v := lN 0) rfl ?_
  refine z_ldc2 hC dX7_noRow_3 (v := lN 7) (zin5 (i := 110) rfl rfl) ?_
  refine wSv hC dX7_noRow_6 zlX7_97 (c_X7_inI (by omega) (by omega)) rfl rfl rfl rfl ⟨rfl, rfl⟩ ?_
  refine w_ifb_ne hC dX7_noRow_9 (tgt := 19) (by decide) (fun c9 => ?_) (fun c9 => ?_)
  · exact absurd c9 (fun z => hx ((iwB (by decide)).mp z))
  refine z_aload_n hC dX7_noRow_12 rfl ?_
  refine z_bipush hC dX7_noRow_13 (v := -2) rfl ?_
  refine wVv hC dX7_noRow_15 zlX7_107 (c_X7_refuse hS (j := 0) (by decide) (by decide)) (hS _) rfl rfl rfl rfl rfl rfl ⟨rfl, rfl⟩ ?_
  refine z_iret hC dX7_noRow_18 ?_
  exact hE.to (by rfl) rfl rfl rfl

theorem c_X7_fit {q : Nat} {v : Int64} (hq : q ≤ 4) : zC0 mX7_fit 0 [zi (nI q), zl v] (some (zl (fitL q v))) ad S I X Y sz I X Y := by
  refine zgo (own := RX7) (k := 0) (by decide +kernel) rfl rfl rfl (fun C hC hnm hE => ?_)
  refine z_iload_n hC dX7_fit_0 rfl ?_
  by_cases s1_0 : q = 0
  · refine z_tabK hC dX7_fit_1 (v := nI 0) (by rw [s1_0]) rfl rfl (tgt := 32) (by decide) ?_
    subst q
    refine z_lload_n hC dX7_fit_32 rfl ?_
    refine z_l2i hC dX7_fit_33  ?_
    refine z_i2b hC dX7_fit_34  ?_
    refine z_i2l hC dX7_fit_35  ?_
    refine z_lret hC dX7_fit_36 ?_
    exact hE.to (by first | rfl | (show some (zl (if v = 0 then 0 else 1)) = _; first | (rw [if_pos (zlcmp0.mp (Decidable.byContradiction c51))]; rfl) | (rw [if_pos (zlcmp0.mp c51)]; rfl) | (rw [if_neg (fun h => c51 (zlcmp0.mpr h))]; rfl))) rfl rfl rfl
  by_cases s1_1 : q = 1
  · refine z_tabK hC dX7_fit_1 (v := nI 1) (by rw [s1_1]) rfl rfl (tgt := 37) (by decide) ?_
    subst q
    refine z_lload_n hC dX7_fit_37 rfl ?_
    refine z_l2i hC dX7_fit_38  ?_
    refine z_i2s hC dX7_fit_39  ?_
    refine z_i2l hC dX7_fit_40  ?_
    refine z_lret hC dX7_fit_41 ?_
    exact hE.to (by first | rfl | (show some (zl (if v = 0 then 0 else 1)) = _; first | (rw [if_pos (zlcmp0.mp (Decidable.byContradiction c51))]; rfl) | (rw [if_pos (zlcmp0.mp c51)]; rfl) | (rw [if_neg (fun h => c51 (zlcmp0.mpr h))]; rfl))) rfl rfl rfl
  by_cases s1_2 : q = 2
  · refine z_tabK hC dX7_fit_1 (v := nI 2) (by rw [s1_2]) rfl rfl (tgt := 42) (by decide) ?_
    subst q
    refine z_lload_n hC dX7_fit_42 rfl ?_
    refine z_l2i hC dX7_fit_43  ?_
    refine z_i2l hC dX7_fit_44  ?_
    refine z_lret hC dX7_fit_45 ?_
    exact hE.to (by first | rfl | (show some (zl (if v = 0 then 0 else 1)) = _; first | (rw [if_pos (zlcmp0.mp (Decidable.byContradiction c51))]; rfl) | (rw [if_pos (zlcmp0.mp c51)]; rfl) | (rw [if_neg (fun h => c51 (zlcmp0.mpr h))]; rfl))) rfl rfl rfl
  by_cases s1_3 : q = 3
  · refine z_tabK hC dX7_fit_1 (v := nI 3) (by rw [s1_3]) rfl rfl (tgt := 46) (by decide) ?_
    subst q
    refine z_lload_n hC dX7_fit_46 rfl ?_
    refine z_lret hC dX7_fit_47 ?_
    exact hE.to (by first | rfl | (show some (zl (if v = 0 then 0 else 1)) = _; first | (rw [if_pos (zlcmp0.mp (Decidable.byContradiction c51))]; rfl) | (rw [if_pos (zlcmp0.mp c51)]; rfl) | (rw [if_neg (fun h => c51 (zlcmp0.mpr h))]; rfl))) rfl rfl rfl
  refine z_tableOut hC dX7_fit_1 (by rw [nI_toInt (by omega)]; omega) (tgt := 48) (by decide) ?_
  obtain rfl : q = 4 := by omega
  refine z_lload_n hC dX7_fit_48 rfl ?_
  refine z_lconst hC dX7_fit_49 (v := lN 0) rfl ?_
  refine z_lcmp hC dX7_fit_50  ?_
  refine z_if_eq hC dX7_fit_51 (tgt := 58) (by decide) (fun c51 => ?_) (fun c51 => ?_)
  · skip
    refine z_lconst hC dX7_fit_58 (v := lN 0) rfl ?_
    refine z_lret hC dX7_fit_59 ?_
    exact hE.to (by first | rfl | (show some (zl (if v = 0 then 0 else 1)) = _; first | (rw [if_pos (zlcmp0.mp (Decidable.byContradiction c51))]; rfl) | (rw [if_pos (zlcmp0.mp c51)]; rfl) | (rw [if_neg (fun h => c51 (zlcmp0.mpr h))]; rfl))) rfl rfl rfl
  refine z_lconst hC dX7_fit_54 (v := lN 1) rfl ?_
  refine z_goto hC dX7_fit_55 (tgt := 59) (by decide) ?_
  refine z_lret hC dX7_fit_59 ?_
  exact hE.to (by first | rfl | (show some (zl (if v = 0 then 0 else 1)) = _; first | (rw [if_pos (zlcmp0.mp (Decidable.byContradiction c51))]; rfl) | (rw [if_pos (zlcmp0.mp c51)]; rfl) | (rw [if_neg (fun h => c51 (zlcmp0.mpr h))]; rfl))) rfl rfl rfl

theorem w_row_t (hS : ∀ k, S 0 k = msh 0 k) (hO : DOK D) (hM : MMe qe D I X Y) {s y u : Nat} (hs : s < 8) (hy : y ≤ 4) (hu : u ≤ 40) : zC0 mX7_row 6 [zr 0 0, zi (nI s), zi (nI y), zi (nI u)] (some (zi (nI 1))) ad S I X Y sz I (up3 (up3 (up3 X 0 1 s (nI 1)) 0 2 s (nI y)) 0 3 s (nI u)) (mzY s 40 Y) := by
  refine zgo (own := RX7) (k := 1) (by decide +kernel) rfl rfl rfl (fun C hC hnm hE => ?_)
  have hm := hM.1
  have hR := hO.1
  have hmo := hm
  have hn14 := hR.1
  have hn8 := hR.2.1
  have hn6 := hR.2.2.1
  refine z_iload_n hC dX7_row_0 rfl ?_
  refine z_n2m hC dX7_row_1 (by omega) ?_
  refine z_lconst hC dX7_row_2 (v := lN 0) rfl ?_
  refine z_ldc2 hC dX7_row_3 (v := lN 7) (zin5 (i := 110) rfl rfl) ?_
  refine wSv hC dX7_row_6 zlX7_97 (c_X7_inN (by omega) (by omega) (by omega)) rfl rfl rfl rfl ⟨rfl, rfl⟩ ?_
  refine w_ifb_eq hC dX7_row_9 (tgt := 36) (by decide) (fun c9 => ?_) (fun c9 => ?_)
  · exact absurd c9 (by omega)
  refine z_iload_n hC dX7_row_12 rfl ?_
  refine z_n2m hC dX7_row_13 (by omega) ?_
  refine z_lconst hC dX7_row_14 (v := lN 0) rfl ?_
  refine z_ldc2 hC dX7_row_15 (v := lN 4) (zin5 (i := 114) rfl rfl) ?_
  refine wSv hC dX7_row_18 zlX7_97 (c_X7_inN (by omega) (by omega) (by omega)) rfl rfl rfl rfl ⟨rfl, rfl⟩ ?_
  refine w_ifb_eq hC dX7_row_21 (tgt := 36) (by decide) (fun c21 => ?_) (fun c21 => ?_)
  · exact absurd c21 (by omega)
  refine z_iload_n hC dX7_row_24 rfl ?_
  refine z_n2m hC dX7_row_25 (by omega) ?_
  refine z_lconst hC dX7_row_26 (v := lN 0) rfl ?_
  refine z_ldc2 hC dX7_row_27 (v := lN 40) (zin5 (i := 115) rfl rfl) ?_
  refine wSv hC dX7_row_30 zlX7_97 (c_X7_inN (by omega) (by omega) (by omega)) rfl rfl rfl rfl ⟨rfl, rfl⟩ ?_
  refine w_ifb_ne hC dX7_row_33 (tgt := 43) (by decide) (fun c33 => ?_) (fun c33 => ?_)
  rotate_left
  · exact absurd c33 (by omega)
  refine z_aload_n hC dX7_row_43 rfl ?_
  refine z_getR hC dX7_row_44 (hS _) zfX7_7 rfl ?_
  refine z_iload_n hC dX7_row_47 rfl ?_
  refine z_iconst hC dX7_row_48 (v := nI 1) rfl ?_
  refine z_niast hC dX7_row_49 (hS _) (by omega) rfl ?_
  refine z_aload_n hC dX7_row_50 rfl ?_
  refine z_getR hC dX7_row_51 (hS _) zfX7_13 rfl ?_
  refine z_iload_n hC dX7_row_54 rfl ?_
  refine z_iload_n hC dX7_row_55 rfl ?_
  refine z_niast hC dX7_row_56 (hS _) (by omega) rfl ?_
  refine z_aload_n hC dX7_row_57 rfl ?_
  refine z_getR hC dX7_row_58 (hS _) zfX7_16 rfl ?_
  refine z_iload_n hC dX7_row_61 rfl ?_
  refine z_iload_n hC dX7_row_62 rfl ?_
  refine z_niast hC dX7_row_63 (hS _) (by omega) rfl ?_
  refine z_iconst hC dX7_row_64 (v := nI 0) rfl ?_
  refine z_istore hC dX7_row_65 (lo2 := [_, _, _, _, _]) (Nat.le_of_ble_eq_true rfl) rfl rfl ?_
  have loop67 : ∀ (fuel : Nat) (i : Nat), 40 - i < fuel → i ≤ 40 → zL C 5 ad S 0 0 sz I (up3 (up3 (up3 X 0 1 s (nI 1)) 0 2 s (nI y)) 0 3 s (nI u)) (mzY s i Y) 67 [some (zr 0 0), some (zi (nI s)), some (zi (nI y)), some (zi (nI u)), some (zi (nI i))] [] := by
    intro fuel
    induction fuel with
    | zero => intro i hfu; exact absurd hfu (Nat.not_lt_zero _)
    | succ fuel ih =>
      intro i hfu hi40
      refine z_iload hC dX7_row_67 rfl ?_
      refine z_bipush hC dX7_row_69 (v := nI 40) rfl ?_
      refine z_nicmp_ge hC dX7_row_71 (tgt := 90) (by decide) (by omega) (by omega) (fun c71 => ?_) (fun c71 => ?_)
      · skip
        obtain rfl : i = 40 := by omega
        refine z_iconst hC dX7_row_90 (v := nI 1) rfl ?_
        refine z_iret hC dX7_row_91 ?_
        exact hE.to (by rfl) rfl rfl rfl
      refine z_aload_n hC dX7_row_74 rfl ?_
      refine z_getR hC dX7_row_75 (hS _) zfX7_21 rfl ?_
      refine z_iload_n hC dX7_row_78 rfl ?_
      refine z_aald hC (by decide) dX7_row_79 (hS _) (by rw [List.length_map, List.length_range]; exact vp_in_nI (by omega) (by decide)) (msel8 (by omega)) ?_
      refine z_iload hC dX7_row_80 rfl ?_
      refine z_lconst hC dX7_row_82 (v := lN 0) rfl ?_
      refine z_nlast hC dX7_row_83 ((hS _).trans (msh_rows (by omega)).1) (by omega) rfl ?_
      refine z_Y (Y2 := mzY s (i + 1) Y) mzY_s ?_
      refine z_ninc hC dX7_row_84 (lo2 := [_, _, _, _, _]) rfl rfl rfl rfl ?_
      refine z_goto hC dX7_row_87 (tgt := 67) (by decide) ?_
      exact ih (i + 1) (by omega) (by omega)
  refine z_Y (Y2 := mzY s 0 Y) mzY_0.symm ?_
  exact loop67 _ 0 (Nat.lt_succ_self _) (Nat.zero_le _)

theorem w_row_g (hS : ∀ k, S 0 k = msh 0 k) (hO : DOK D) (hM : MMe qe D I X Y) {s : Nat} {y u : Int32} (hs : s < 8) (hx : ¬ (iw y 0 4 ∧ iw u 0 40)) : zC0 mX7_row 6 [zr 0 0, zi (nI s), zi y, zi u] (some (zi (-2))) ad S I X Y sz I (rmX 0 0 X) Y := by
  refine zgo (own := RX7) (k := 1) (by decide +kernel) rfl rfl rfl (fun C hC hnm hE => ?_)
  have hm := hM.1
  have hR := hO.1
  have hmo := hm
  have hn14 := hR.1
  have hn8 := hR.2.1
  have hn6 := hR.2.2.1
  refine z_iload_n hC dX7_row_0 rfl ?_
  refine z_n2m hC dX7_row_1 (by omega) ?_
  refine z_lconst hC dX7_row_2 (v := lN 0) rfl ?_
  refine z_ldc2 hC dX7_row_3 (v := lN 7) (zin5 (i := 110) rfl rfl) ?_
  refine wSv hC dX7_row_6 zlX7_97 (c_X7_inN (by omega) (by omega) (by omega)) rfl rfl rfl rfl ⟨rfl, rfl⟩ ?_
  refine w_ifb_eq hC dX7_row_9 (tgt := 36) (by decide) (fun c9 => ?_) (fun c9 => ?_)
  · exact absurd c9 (by omega)
  refine z_iload_n hC dX7_row_12 rfl ?_
  refine z_i2l hC dX7_row_13  ?_
  refine z_lconst hC dX7_row_14 (v := lN 0) rfl ?_
  refine z_ldc2 hC dX7_row_15 (v := lN 4) (zin5 (i := 114) rfl rfl) ?_
  refine wSv hC dX7_row_18 zlX7_97 (c_X7_inI (by omega) (by omega)) rfl rfl rfl rfl ⟨rfl, rfl⟩ ?_
  refine w_ifb_eq hC dX7_row_21 (tgt := 36) (by decide) (fun c21 => ?_) (fun c21 => ?_)
  · skip
    refine z_aload_n hC dX7_row_36 rfl ?_
    refine z_bipush hC dX7_row_37 (v := -2) rfl ?_
    refine wVv hC dX7_row_39 zlX7_107 (c_X7_refuse hS (j := 0) (by decide) (by decide)) (hS _) rfl rfl rfl rfl rfl rfl ⟨rfl, rfl⟩ ?_
    refine z_iret hC dX7_row_42 ?_
    exact hE.to (by rfl) rfl rfl rfl
  refine z_iload_n hC dX7_row_24 rfl ?_
  refine z_i2l hC dX7_row_25  ?_
  refine z_lconst hC dX7_row_26 (v := lN 0) rfl ?_
  refine z_ldc2 hC dX7_row_27 (v := lN 40) (zin5 (i := 115) rfl rfl) ?_
  refine wSv hC dX7_row_30 zlX7_97 (c_X7_inI (by omega) (by omega)) rfl rfl rfl rfl ⟨rfl, rfl⟩ ?_
  refine w_ifb_ne hC dX7_row_33 (tgt := 43) (by decide) (fun c33 => ?_) (fun c33 => ?_)
  · exact absurd c33 (fun z => hx ⟨c21, z⟩)
  refine z_aload_n hC dX7_row_36 rfl ?_
  refine z_bipush hC dX7_row_37 (v := -2) rfl ?_
  refine wVv hC dX7_row_39 zlX7_107 (c_X7_refuse hS (j := 0) (by decide) (by decide)) (hS _) rfl rfl rfl rfl rfl rfl ⟨rfl, rfl⟩ ?_
  refine z_iret hC dX7_row_42 ?_
  exact hE.to (by rfl) rfl rfl rfl

theorem w_row_f (hS : ∀ k, S 0 k = msh 0 k) (hO : DOK D) (hM : MMe qe D I X Y) {x y u : Int32} (hx : ¬ inB x 8) : zC0 mX7_row 6 [zr 0 0, zi x, zi y, zi u] (some (zi (-2))) ad S I X Y sz I (rmX 0 0 X) Y := by
  refine zgo (own := RX7) (k := 1) (by decide +kernel) rfl rfl rfl (fun C hC hnm hE => ?_)
  have hm := hM.1
  have hR := hO.1
  have hmo := hm
  have hn14 := hR.1
  have hn8 := hR.2.1
  have hn6 := hR.2.2.1
  refine z_iload_n hC dX7_row_0 rfl ?_
  refine z_i2l hC dX7_row_1  ?_
  refine z_lconst hC dX7_row_2 (v := lN 0) rfl ?_
  refine z_ldc2 hC dX7_row_3 (v := lN 7) (zin5 (i := 110) rfl rfl) ?_
  refine wSv hC dX7_row_6 zlX7_97 (c_X7_inI (by omega) (by omega)) rfl rfl rfl rfl ⟨rfl, rfl⟩ ?_
  refine w_ifb_eq hC dX7_row_9 (tgt := 36) (by decide) (fun c9 => ?_) (fun c9 => ?_)
  rotate_left
  · exact absurd c9 (fun z => hx ((iwB (by decide)).mp z))
  refine z_aload_n hC dX7_row_36 rfl ?_
  refine z_bipush hC dX7_row_37 (v := -2) rfl ?_
  refine wVv hC dX7_row_39 zlX7_107 (c_X7_refuse hS (j := 0) (by decide) (by decide)) (hS _) rfl rfl rfl rfl rfl rfl ⟨rfl, rfl⟩ ?_
  refine z_iret hC dX7_row_42 ?_
  exact hE.to (by rfl) rfl rfl rfl

theorem m_row (hS : ∀ k, S 0 k = msh 0 k) (hO : DOK D) (hM : MMe qe D I X Y) {x y u : Int32} : mC mX7_row 6 [zr 0 0, zi x, zi y, zi u] (some (zi (rowS D x y u).1)) (rowS D x y u).2 ad S I X Y sz qe := by
  unfold rowS
  by_cases hx : inB x 8
  · obtain ⟨s, hs, rfl, e1⟩ := inB_e hx (by decide)
    by_cases h : iw y 0 4 ∧ iw u 0 40
    · rw [if_pos ⟨hx, h⟩]
      obtain ⟨y, -, hy, rfl, e2⟩ := iw_e h.1 (by decide) (by decide)
      obtain ⟨u, -, hu, rfl, e3⟩ := iw_e h.2 (by decide) (by decide)
      rw [e1, e2, e3]
      refine ⟨_, _, _, hM.sh (fun b k j a => by rw [up3_ne (by omega), up3_ne (by omega), up3_ne (by omega)]) (fun t ht => ?_), w_row_t hS hO hM hs hy hu⟩
      by_cases e : t = s
      · subst e
        rw [upS_eq, upS_eq, upS_eq]
        exact zMs_r hy ⟨by rw [up3_ne (by omega), up3_ne (by omega), up3_eq], by rw [up3_ne (by omega), up3_eq], up3_eq _ _ _ _ _, fun i hi => if_pos ⟨rfl, rfl, hi⟩⟩
      · rw [upS_ne e, upS_ne e, upS_ne e]
        exact (hM.2.2.2.2.2.1 t ht).at (fun k _ => by rw [up3_ne (by omega), up3_ne (by omega), up3_ne (by omega)]) (fun i hi => if_neg (by omega))
    · rw [if_neg (fun z => h z.2)]
      exact ⟨_, _, _, hM.rf (by decide), w_row_g hS hO hM hs h⟩
  · rw [if_neg (fun z => hx z.1)]
    exact ⟨_, _, _, hM.rf (by decide), w_row_f hS hO hM hx⟩

theorem w_set_n (hS : ∀ k, S 0 k = msh 0 k) (hO : DOK D) (hM : MMe qe D I X Y) {s : Nat} {y : Int32} {v : Int64} (hs : s < 8) (hh : X 0 1 s = nI 0) : zC0 mX7_set 6 [zr 0 0, zi (nI s), zi y, zl v] (some (zi (-4))) ad S I X Y sz I (rmX 0 2 X) Y := by
  refine zgo (own := RX7) (k := 1) (by decide +kernel) rfl rfl rfl (fun C hC hnm hE => ?_)
  have hm := hM.1
  have hR := hO.1
  have hmo := hm
  have hn14 := hR.1
  have hn8 := hR.2.1
  have hn6 := hR.2.2.1
  refine z_aload_n hC dX7_set_0 rfl ?_
  refine z_iload_n hC dX7_set_1 rfl ?_
  refine wVv hC dX7_set_2 zlX7_111 (c_noRow_n hS hs hh) (hS _) rfl rfl rfl rfl rfl rfl ⟨rfl, rfl⟩ ?_
  refine z_istore hC dX7_set_5 (lo2 := [_, _, _, _, _, _]) (Nat.le_of_ble_eq_true rfl) rfl rfl ?_
  refine z_iload hC dX7_set_7 rfl ?_
  refine z_if_eq hC dX7_set_9 (tgt := 15) (by decide) (fun c9 => ?_) (fun c9 => ?_)
  · exact absurd c9 (by decide)
  refine z_iload hC dX7_set_12 rfl ?_
  refine z_iret hC dX7_set_14 ?_
  exact hE.to (by rfl) rfl rfl rfl

theorem w_set_b (hS : ∀ k, S 0 k = msh 0 k) (hO : DOK D) (hM : MMe qe D I X Y) {s : Nat} {y : Int32} {v : Int64} (hs : s < 8) {b : Nat} (hb : b < 14) (hh : shwM s b X) : zC0 mX7_set 6 [zr 0 0, zi (nI s), zi y, zl v] (some (zi (-3))) ad S I X Y sz I (rmX 0 1 X) Y := by
  refine zgo (own := RX7) (k := 1) (by decide +kernel) rfl rfl rfl (fun C hC hnm hE => ?_)
  have hm := hM.1
  have hR := hO.1
  have hmo := hm
  have hn14 := hR.1
  have hn8 := hR.2.1
  have hn6 := hR.2.2.1
  refine z_aload_n hC dX7_set_0 rfl ?_
  refine z_iload_n hC dX7_set_1 rfl ?_
  refine wVv hC dX7_set_2 zlX7_111 (c_noRow_b hS hs hh.1) (hS _) rfl rfl rfl rfl rfl rfl ⟨rfl, rfl⟩ ?_
  refine z_istore hC dX7_set_5 (lo2 := [_, _, _, _, _, _]) (Nat.le_of_ble_eq_true rfl) rfl rfl ?_
  refine z_iload hC dX7_set_7 rfl ?_
  refine z_if_eq hC dX7_set_9 (tgt := 15) (by decide) (fun c9 => ?_) (fun c9 => ?_)
  · exact absurd c9 (by decide)
  refine z_iload hC dX7_set_12 rfl ?_
  refine z_iret hC dX7_set_14 ?_
  exact hE.to (by rfl) rfl rfl rfl

theorem w_set_f (hS : ∀ k, S 0 k = msh 0 k) (hO : DOK D) (hM : MMe qe D I X Y) {x y : Int32} {v : Int64} (hx : ¬ inB x 8) : zC0 mX7_set 6 [zr 0 0, zi x, zi y, zl v] (some (zi (-2))) ad S I X Y sz I (rmX 0 0 X) Y := by
  refine zgo (own := RX7) (k := 1) (by decide +kernel) rfl rfl rfl (fun C hC hnm hE => ?_)
  have hm := hM.1
  have hR := hO.1
  have hmo := hm
  have hn14 := hR.1
  have hn8 := hR.2.1
  have hn6 := hR.2.2.1
  refine z_aload_n hC dX7_set_0 rfl ?_
  refine z_iload_n hC dX7_set_1 rfl ?_
  refine wVv hC dX7_set_2 zlX7_111 (c_noRow_f hS hx) (hS _) rfl rfl rfl rfl rfl rfl ⟨rfl, rfl⟩ ?_
  refine z_istore hC dX7_set_5 (lo2 := [_, _, _, _, _, _]) (Nat.le_of_ble_eq_true rfl) rfl rfl ?_
  refine z_iload hC dX7_set_7 rfl ?_
  refine z_if_eq hC dX7_set_9 (tgt := 15) (by decide) (fun c9 => ?_) (fun c9 => ?_)
  · exact absurd c9 (by decide)
  refine z_iload hC dX7_set_12 rfl ?_
  refine z_iret hC dX7_set_14 ?_
  exact hE.to (by rfl) rfl rfl rfl

theorem w_set_t (hS : ∀ k, S 0 k = msh 0 k) (hO : DOK D) (hM : MMe qe D I X Y) {s y : Nat} {v : Int64} (hs : s < 8) {q : Nat} (hq : q ≤ 4) {n : Nat} {el : Nat → Int64} (hh : rwM s q n el X Y) (hn40 : n ≤ 40) (hy : y < n) : zC0 mX7_set 6 [zr 0 0, zi (nI s), zi (nI y), zl v] (some (zi (nI 1))) ad S I X Y sz I X (up3 Y 0 (4 + 1 + s) y (fitL q v)) := by
  refine zgo (own := RX7) (k := 1) (by decide +kernel) rfl rfl rfl (fun C hC hnm hE => ?_)
  have hm := hM.1
  have hR := hO.1
  have hmo := hm
  have hn14 := hR.1
  have hn8 := hR.2.1
  have hn6 := hR.2.2.1
  refine z_aload_n hC dX7_set_0 rfl ?_
  refine z_iload_n hC dX7_set_1 rfl ?_
  refine wVv hC dX7_set_2 zlX7_111 (c_noRow_r hS hs hh.1) (hS _) rfl rfl rfl rfl rfl rfl ⟨rfl, rfl⟩ ?_
  refine z_istore hC dX7_set_5 (lo2 := [_, _, _, _, _, _]) (Nat.le_of_ble_eq_true rfl) rfl rfl ?_
  refine z_iload hC dX7_set_7 rfl ?_
  refine z_nif_eq hC dX7_set_9 (tgt := 15) (by decide) (by omega) (fun c9 => ?_) (fun c9 => ?_)
  rotate_left
  · exact absurd c9 (fun z => z rfl)
  refine z_iload_n hC dX7_set_15 rfl ?_
  refine z_n2m hC dX7_set_16 (by omega) ?_
  refine z_lconst hC dX7_set_17 (v := lN 0) rfl ?_
  refine z_aload_n hC dX7_set_18 rfl ?_
  refine z_getR hC dX7_set_19 (hS _) zfX7_16 rfl ?_
  refine z_iload_n hC dX7_set_22 rfl ?_
  refine z_naldN hC dX7_set_23 (hS _) (by omega) rfl hh.2.2.1 ?_
  refine z_iconst hC dX7_set_24 (v := nI 1) rfl ?_
  refine z_nsub hC dX7_set_25 (by omega) ?_
  refine z_n2m hC dX7_set_26 (by omega) ?_
  refine wSv hC dX7_set_27 zlX7_97 (c_X7_inN (by omega) (by omega) (by omega)) rfl rfl rfl rfl ⟨rfl, rfl⟩ ?_
  refine w_ifb_ne hC dX7_set_30 (tgt := 40) (by decide) (fun c30 => ?_) (fun c30 => ?_)
  rotate_left
  · exact absurd c30 (by omega)
  refine z_aload_n hC dX7_set_40 rfl ?_
  refine z_getR hC dX7_set_41 (hS _) zfX7_21 rfl ?_
  refine z_iload_n hC dX7_set_44 rfl ?_
  refine z_aald hC (by decide) dX7_set_45 (hS _) (by rw [List.length_map, List.length_range]; exact vp_in_nI (by omega) (by decide)) (msel8 (by omega)) ?_
  refine z_iload_n hC dX7_set_46 rfl ?_
  refine z_aload_n hC dX7_set_47 rfl ?_
  refine z_getR hC dX7_set_48 (hS _) zfX7_13 rfl ?_
  refine z_iload_n hC dX7_set_51 rfl ?_
  refine z_naldN hC dX7_set_52 (hS _) (by omega) rfl hh.2.1 ?_
  refine z_lload_n hC dX7_set_53 rfl ?_
  refine wSv hC dX7_set_54 zlX7_114 (c_X7_fit hq) rfl rfl rfl rfl ⟨rfl, rfl⟩ ?_
  refine z_nlast hC dX7_set_57 ((hS _).trans (msh_rows (by omega)).1) (by omega) rfl ?_
  refine z_iconst hC dX7_set_58 (v := nI 1) rfl ?_
  refine z_iret hC dX7_set_59 ?_
  exact hE.to (by rfl) rfl rfl rfl

theorem w_set_g (hS : ∀ k, S 0 k = msh 0 k) (hO : DOK D) (hM : MMe qe D I X Y) {s : Nat} {y : Int32} {v : Int64} (hs : s < 8) {q : Nat} (hq : q ≤ 4) {n : Nat} {el : Nat → Int64} (hh : rwM s q n el X Y) (hn40 : n ≤ 40) (hy : ¬ inB y n) : zC0 mX7_set 6 [zr 0 0, zi (nI s), zi y, zl v] (some (zi (-2))) ad S I X Y sz I (rmX 0 0 X) Y := by
  refine zgo (own := RX7) (k := 1) (by decide +kernel) rfl rfl rfl (fun C hC hnm hE => ?_)
  have hm := hM.1
  have hR := hO.1
  have hmo := hm
  have hn14 := hR.1
  have hn8 := hR.2.1
  have hn6 := hR.2.2.1
  refine z_aload_n hC dX7_set_0 rfl ?_
  refine z_iload_n hC dX7_set_1 rfl ?_
  refine wVv hC dX7_set_2 zlX7_111 (c_noRow_r hS hs hh.1) (hS _) rfl rfl rfl rfl rfl rfl ⟨rfl, rfl⟩ ?_
  refine z_istore hC dX7_set_5 (lo2 := [_, _, _, _, _, _]) (Nat.le_of_ble_eq_true rfl) rfl rfl ?_
  refine z_iload hC dX7_set_7 rfl ?_
  refine z_nif_eq hC dX7_set_9 (tgt := 15) (by decide) (by omega) (fun c9 => ?_) (fun c9 => ?_)
  rotate_left
  · exact absurd c9 (fun z => z rfl)
  refine z_iload_n hC dX7_set_15 rfl ?_
  refine z_i2l hC dX7_set_16  ?_
  refine z_lconst hC dX7_set_17 (v := lN 0) rfl ?_
  refine z_aload_n hC dX7_set_18 rfl ?_
  refine z_getR hC dX7_set_19 (hS _) zfX7_16 rfl ?_
  refine z_iload_n hC dX7_set_22 rfl ?_
  refine z_naldN hC dX7_set_23 (hS _) (by omega) rfl hh.2.2.1 ?_
  refine z_iconst hC dX7_set_24 (v := nI 1) rfl ?_
  refine z_isub hC dX7_set_25  ?_
  refine z_i2l hC dX7_set_26  ?_
  refine wSv hC dX7_set_27 zlX7_97 (c_X7_inB (by omega)) rfl rfl rfl rfl ⟨rfl, rfl⟩ ?_
  refine w_ifb_ne hC dX7_set_30 (tgt := 40) (by decide) (fun c30 => ?_) (fun c30 => ?_)
  · exact absurd c30 hy
  refine z_aload_n hC dX7_set_33 rfl ?_
  refine z_bipush hC dX7_set_34 (v := -2) rfl ?_
  refine wVv hC dX7_set_36 zlX7_107 (c_X7_refuse hS (j := 0) (by decide) (by decide)) (hS _) rfl rfl rfl rfl rfl rfl ⟨rfl, rfl⟩ ?_
  refine z_iret hC dX7_set_39 ?_
  exact hE.to (by rfl) rfl rfl rfl

theorem m_set (hS : ∀ k, S 0 k = msh 0 k) (hO : DOK D) (hM : MMe qe D I X Y) {x y : Int32} {v : Int64} : mC mX7_set 6 [zr 0 0, zi x, zi y, zl v] (some (zi (setS D x y v).1)) (setS D x y v).2 ad S I X Y sz qe := by
  have hn14 := hO.1.1
  unfold setS
  by_cases hx : inB x 8
  · rw [if_pos hx]
    obtain ⟨s, hs, rfl, e1⟩ := inB_e hx (by decide)
    rw [e1]
    have hn40 := (hO.2.2.2 s hs).1
    rcases sh_stM hO hM hs with ⟨h1, h2⟩ | ⟨q, hq, h1, h2⟩ | ⟨b, hb, h1, h2⟩
    · rw [h1]
      exact ⟨_, _, _, hM.rf (by decide), w_set_n hS hO hM hs h2⟩
    · rw [h1]
      dsimp only
      rw [if_neg (by omega)]
      by_cases hy : inB y (D.2.2.2.1.2.1 s)
      · rw [if_pos hy]
        obtain ⟨y, hy1, rfl, e2⟩ := inB_e hy (by omega)
        rw [e2]
        refine ⟨_, _, _, hM.sh (fun b k j a => rfl) (fun t ht => ?_), w_set_t hS hO hM hs hq h2 hn40 hy1⟩
        by_cases e : t = s
        · subst e
          rw [upS_eq, h1]
          refine zMs_r hq ⟨h2.1, h2.2.1, h2.2.2.1, fun i hi => ?_⟩
          by_cases e3 : i = y
          · subst e3; rw [up3_eq, upS_eq]
          · rw [up3_ne (by omega), upS_ne e3]; exact h2.2.2.2 i hi
        · rw [upS_ne e]
          exact (hM.2.2.2.2.2.1 t ht).at (fun k _ => rfl) (fun i hi => up3_ne (by omega))
      · rw [if_neg hy]
        exact ⟨_, _, _, hM.rf (by decide), w_set_g hS hO hM hs hq h2 hn40 hy⟩
    · rw [h1]
      dsimp only
      rw [if_pos (by omega)]
      exact ⟨_, _, _, hM.rf (by decide), w_set_b hS hO hM hs (by omega) h2⟩
  · rw [if_neg hx]
    exact ⟨_, _, _, hM.rf (by decide), w_set_f hS hO hM hx⟩

theorem w_element_n (hS : ∀ k, S 0 k = msh 0 k) (hO : DOK D) (hM : MMe qe D I X Y) {s : Nat} {y : Int32} (hs : s < 8) (hh : X 0 1 s = nI 0) : zC0 mX7_element 6 [zr 0 0, zi (nI s), zi y] (some (zl 0)) ad S I X Y sz I X Y := by
  refine zgo (own := RX7) (k := 0) (by decide +kernel) rfl rfl rfl (fun C hC hnm hE => ?_)
  have hm := hM.1
  have hR := hO.1
  have hmo := hm
  have hn14 := hR.1
  have hn8 := hR.2.1
  have hn6 := hR.2.2.1
  refine z_iload_n hC dX7_element_0 rfl ?_
  refine z_n2m hC dX7_element_1 (by omega) ?_
  refine z_lconst hC dX7_element_2 (v := lN 0) rfl ?_
  refine z_ldc2 hC dX7_element_3 (v := lN 7) (zin5 (i := 110) rfl rfl) ?_
  refine wSv hC dX7_element_6 zlX7_97 (c_X7_inN (by omega) (by omega) (by omega)) rfl rfl rfl rfl ⟨rfl, rfl⟩ ?_
  refine w_ifb_eq hC dX7_element_9 (tgt := 51) (by decide) (fun c9 => ?_) (fun c9 => ?_)
  · exact absurd c9 (by omega)
  refine z_aload_n hC dX7_element_12 rfl ?_
  refine z_getR hC dX7_element_13 (hS _) zfX7_7 rfl ?_
  refine z_iload_n hC dX7_element_16 rfl ?_
  refine z_naldN hC dX7_element_17 (hS _) (by omega) rfl hh ?_
  refine z_iconst hC dX7_element_18 (v := nI 1) rfl ?_
  refine z_nicmp_ne hC dX7_element_19 (tgt := 51) (by decide) (by omega) (by omega) (fun c19 => ?_) (fun c19 => ?_)
  rotate_left
  · exact absurd c19 (by omega)
  refine z_lconst hC dX7_element_51 (v := lN 0) rfl ?_
  refine z_lret hC dX7_element_52 ?_
  exact hE.to (by rfl) rfl rfl rfl

theorem w_element_b (hS : ∀ k, S 0 k = msh 0 k) (hO : DOK D) (hM : MMe qe D I X Y) {s : Nat} {y : Int32} (hs : s < 8) {b : Nat} (hb : b < 14) (hh : shwM s b X) : zC0 mX7_element 6 [zr 0 0, zi (nI s), zi y] (some (zl 0)) ad S I X Y sz I X Y := by
  refine zgo (own := RX7) (k := 0) (by decide +kernel) rfl rfl rfl (fun C hC hnm hE => ?_)
  have hm := hM.1
  have hR := hO.1
  have hmo := hm
  have hn14 := hR.1
  have hn8 := hR.2.1
  have hn6 := hR.2.2.1
  refine z_iload_n hC dX7_element_0 rfl ?_
  refine z_n2m hC dX7_element_1 (by omega) ?_
  refine z_lconst hC dX7_element_2 (v := lN 0) rfl ?_
  refine z_ldc2 hC dX7_element_3 (v := lN 7) (zin5 (i := 110) rfl rfl) ?_
  refine wSv hC dX7_element_6 zlX7_97 (c_X7_inN (by omega) (by omega) (by omega)) rfl rfl rfl rfl ⟨rfl, rfl⟩ ?_
  refine w_ifb_eq hC dX7_element_9 (tgt := 51) (by decide) (fun c9 => ?_) (fun c9 => ?_)
  · exact absurd c9 (by omega)
  refine z_aload_n hC dX7_element_12 rfl ?_
  refine z_getR hC dX7_element_13 (hS _) zfX7_7 rfl ?_
  refine z_iload_n hC dX7_element_16 rfl ?_
  refine z_naldN hC dX7_element_17 (hS _) (by omega) rfl hh.1 ?_
  refine z_iconst hC dX7_element_18 (v := nI 1) rfl ?_
  refine z_nicmp_ne hC dX7_element_19 (tgt := 51) (by decide) (by omega) (by omega) (fun c19 => ?_) (fun c19 => ?_)
  rotate_left
  · exact absurd c19 (by omega)
  refine z_lconst hC dX7_element_51 (v := lN 0) rfl ?_
  refine z_lret hC dX7_element_52 ?_
  exact hE.to (by rfl) rfl rfl rfl

theorem w_element_t (hS : ∀ k, S 0 k = msh 0 k) (hO : DOK D) (hM : MMe qe D I X Y) {s y : Nat} (hs : s < 8) {q : Nat} (hq : q ≤ 4) {n : Nat} {el : Nat → Int64} (hh : rwM s q n el X Y) (hn40 : n ≤ 40) (hy : y < n) : zC0 mX7_element 6 [zr 0 0, zi (nI s), zi (nI y)] (some (zl (Y 0 (4 + 1 + s) y))) ad S I X Y sz I X Y := by
  refine zgo (own := RX7) (k := 0) (by decide +kernel) rfl rfl rfl (fun C hC hnm hE => ?_)
  have hm := hM.1
  have hR := hO.1
  have hmo := hm
  have hn14 := hR.1
  have hn8 := hR.2.1
  have hn6 := hR.2.2.1
  refine z_iload_n hC dX7_element_0 rfl ?_
  refine z_n2m hC dX7_element_1 (by omega) ?_
  refine z_lconst hC dX7_element_2 (v := lN 0) rfl ?_
  refine z_ldc2 hC dX7_element_3 (v := lN 7) (zin5 (i := 110) rfl rfl) ?_
  refine wSv hC dX7_element_6 zlX7_97 (c_X7_inN (by omega) (by omega) (by omega)) rfl rfl rfl rfl ⟨rfl, rfl⟩ ?_
  refine w_ifb_eq hC dX7_element_9 (tgt := 51) (by decide) (fun c9 => ?_) (fun c9 => ?_)
  · exact absurd c9 (by omega)
  refine z_aload_n hC dX7_element_12 rfl ?_
  refine z_getR hC dX7_element_13 (hS _) zfX7_7 rfl ?_
  refine z_iload_n hC dX7_element_16 rfl ?_
  refine z_naldN hC dX7_element_17 (hS _) (by omega) rfl hh.1 ?_
  refine z_iconst hC dX7_element_18 (v := nI 1) rfl ?_
  refine z_nicmp_ne hC dX7_element_19 (tgt := 51) (by decide) (by omega) (by omega) (fun c19 => ?_) (fun c19 => ?_)
  · exact absurd c19 (by omega)
  refine z_iload_n hC dX7_element_22 rfl ?_
  refine z_n2m hC dX7_element_23 (by omega) ?_
  refine z_lconst hC dX7_element_24 (v := lN 0) rfl ?_
  refine z_aload_n hC dX7_element_25 rfl ?_
  refine z_getR hC dX7_element_26 (hS _) zfX7_16 rfl ?_
  refine z_iload_n hC dX7_element_29 rfl ?_
  refine z_naldN hC dX7_element_30 (hS _) (by omega) rfl hh.2.2.1 ?_
  refine z_iconst hC dX7_element_31 (v := nI 1) rfl ?_
  refine z_nsub hC dX7_element_32 (by omega) ?_
  refine z_n2m hC dX7_element_33 (by omega) ?_
  refine wSv hC dX7_element_34 zlX7_97 (c_X7_inN (by omega) (by omega) (by omega)) rfl rfl rfl rfl ⟨rfl, rfl⟩ ?_
  refine w_ifb_eq hC dX7_element_37 (tgt := 51) (by decide) (fun c37 => ?_) (fun c37 => ?_)
  · exact absurd c37 (by omega)
  refine z_aload_n hC dX7_element_40 rfl ?_
  refine z_getR hC dX7_element_41 (hS _) zfX7_21 rfl ?_
  refine z_iload_n hC dX7_element_44 rfl ?_
  refine z_aald hC (by decide) dX7_element_45 (hS _) (by rw [List.length_map, List.length_range]; exact vp_in_nI (by omega) (by decide)) (msel8 (by omega)) ?_
  refine z_iload_n hC dX7_element_46 rfl ?_
  refine z_nlald hC dX7_element_47 ((hS _).trans (msh_rows (by omega)).1) (by omega) rfl ?_
  refine z_goto hC dX7_element_48 (tgt := 52) (by decide) ?_
  refine z_lret hC dX7_element_52 ?_
  exact hE.to (by rfl) rfl rfl rfl

theorem w_element_g (hS : ∀ k, S 0 k = msh 0 k) (hO : DOK D) (hM : MMe qe D I X Y) {s : Nat} {y : Int32} (hs : s < 8) {q : Nat} (hq : q ≤ 4) {n : Nat} {el : Nat → Int64} (hh : rwM s q n el X Y) (hn40 : n ≤ 40) (hy : ¬ inB y n) : zC0 mX7_element 6 [zr 0 0, zi (nI s), zi y] (some (zl 0)) ad S I X Y sz I X Y := by
  refine zgo (own := RX7) (k := 0) (by decide +kernel) rfl rfl rfl (fun C hC hnm hE => ?_)
  have hm := hM.1
  have hR := hO.1
  have hmo := hm
  have hn14 := hR.1
  have hn8 := hR.2.1
  have hn6 := hR.2.2.1
  refine z_iload_n hC dX7_element_0 rfl ?_
  refine z_n2m hC dX7_element_1 (by omega) ?_
  refine z_lconst hC dX7_element_2 (v := lN 0) rfl ?_
  refine z_ldc2 hC dX7_element_3 (v := lN 7) (zin5 (i := 110) rfl rfl) ?_
  refine wSv hC dX7_element_6 zlX7_97 (c_X7_inN (by omega) (by omega) (by omega)) rfl rfl rfl rfl ⟨rfl, rfl⟩ ?_
  refine w_ifb_eq hC dX7_element_9 (tgt := 51) (by decide) (fun c9 => ?_) (fun c9 => ?_)
  · exact absurd c9 (by omega)
  refine z_aload_n hC dX7_element_12 rfl ?_
  refine z_getR hC dX7_element_13 (hS _) zfX7_7 rfl ?_
  refine z_iload_n hC dX7_element_16 rfl ?_
  refine z_naldN hC dX7_element_17 (hS _) (by omega) rfl hh.1 ?_
  refine z_iconst hC dX7_element_18 (v := nI 1) rfl ?_
  refine z_nicmp_ne hC dX7_element_19 (tgt := 51) (by decide) (by omega) (by omega) (fun c19 => ?_) (fun c19 => ?_)
  · exact absurd c19 (by omega)
  refine z_iload_n hC dX7_element_22 rfl ?_
  refine z_i2l hC dX7_element_23  ?_
  refine z_lconst hC dX7_element_24 (v := lN 0) rfl ?_
  refine z_aload_n hC dX7_element_25 rfl ?_
  refine z_getR hC dX7_element_26 (hS _) zfX7_16 rfl ?_
  refine z_iload_n hC dX7_element_29 rfl ?_
  refine z_naldN hC dX7_element_30 (hS _) (by omega) rfl hh.2.2.1 ?_
  refine z_iconst hC dX7_element_31 (v := nI 1) rfl ?_
  refine z_isub hC dX7_element_32  ?_
  refine z_i2l hC dX7_element_33  ?_
  refine wSv hC dX7_element_34 zlX7_97 (c_X7_inB (by omega)) rfl rfl rfl rfl ⟨rfl, rfl⟩ ?_
  refine w_ifb_eq hC dX7_element_37 (tgt := 51) (by decide) (fun c37 => ?_) (fun c37 => ?_)
  rotate_left
  · exact absurd c37 hy
  refine z_lconst hC dX7_element_51 (v := lN 0) rfl ?_
  refine z_lret hC dX7_element_52 ?_
  exact hE.to (by rfl) rfl rfl rfl

theorem w_element_f (hS : ∀ k, S 0 k = msh 0 k) (hO : DOK D) (hM : MMe qe D I X Y) {x y : Int32} (hx : ¬ inB x 8) : zC0 mX7_element 6 [zr 0 0, zi x, zi y] (some (zl 0)) ad S I X Y sz I X Y := by
  refine zgo (own := RX7) (k := 0) (by decide +kernel) rfl rfl rfl (fun C hC hnm hE => ?_)
  have hm := hM.1
  have hR := hO.1
  have hmo := hm
  have hn14 := hR.1
  have hn8 := hR.2.1
  have hn6 := hR.2.2.1
  refine z_iload_n hC dX7_element_0 rfl ?_
  refine z_i2l hC dX7_element_1  ?_
  refine z_lconst hC dX7_element_2 (v := lN 0) rfl ?_
  refine z_ldc2 hC dX7_element_3 (v := lN 7) (zin5 (i := 110) rfl rfl) ?_
  refine wSv hC dX7_element_6 zlX7_97 (c_X7_inI (by omega) (by omega)) rfl rfl rfl rfl ⟨rfl, rfl⟩ ?_
  refine w_ifb_eq hC dX7_element_9 (tgt := 51) (by decide) (fun c9 => ?_) (fun c9 => ?_)
  rotate_left
  · exact absurd c9 (fun z => hx ((iwB (by decide)).mp z))
  refine z_lconst hC dX7_element_51 (v := lN 0) rfl ?_
  refine z_lret hC dX7_element_52 ?_
  exact hE.to (by rfl) rfl rfl rfl

theorem m_element (hS : ∀ k, S 0 k = msh 0 k) (hO : DOK D) (hM : MMe qe D I X Y) {x y : Int32} : mC mX7_element 6 [zr 0 0, zi x, zi y] (some (zl (elementS D x y))) D ad S I X Y sz qe := by
  have hn14 := hO.1.1
  unfold elementS
  by_cases hx : inB x 8
  · rw [if_pos hx]
    obtain ⟨s, hs, rfl, e1⟩ := inB_e hx (by decide)
    rw [e1]
    have hn40 := (hO.2.2.2 s hs).1
    rcases sh_stM hO hM hs with ⟨h1, h2⟩ | ⟨q, hq, h1, h2⟩ | ⟨b, hb, h1, h2⟩
    · rw [h1]
      exact ⟨_, _, _, hM, w_element_n hS hO hM hs h2⟩
    · rw [h1]
      dsimp only
      rw [if_neg (by omega)]
      by_cases hy : inB y (D.2.2.2.1.2.1 s)
      · rw [if_pos hy]
        obtain ⟨y, hy1, rfl, e2⟩ := inB_e hy (by omega)
        rw [e2, ← h2.2.2.2 y (by omega)]
        exact ⟨_, _, _, hM, w_element_t hS hO hM hs hq h2 hn40 hy1⟩
      · rw [if_neg hy]
        exact ⟨_, _, _, hM, w_element_g hS hO hM hs hq h2 hn40 hy⟩
    · rw [h1]
      dsimp only
      rw [if_pos (by omega)]
      exact ⟨_, _, _, hM, w_element_b hS hO hM hs (by omega) h2⟩
  · rw [if_neg hx]
    exact ⟨_, _, _, hM, w_element_f hS hO hM hx⟩

theorem w_holds_n (hS : ∀ k, S 0 k = msh 0 k) (hO : DOK D) (hM : MMe qe D I X Y) {s : Nat} (hs : s < 8) (hh : X 0 1 s = nI 0) : zC0 mX7_holds 6 [zr 0 0, zi (nI s)] (some (zi (-1))) ad S I X Y sz I X Y := by
  refine zgo (own := RX7) (k := 0) (by decide +kernel) rfl rfl rfl (fun C hC hnm hE => ?_)
  have hm := hM.1
  have hR := hO.1
  have hmo := hm
  have hn14 := hR.1
  have hn8 := hR.2.1
  have hn6 := hR.2.2.1
  refine z_iload_n hC dX7_holds_0 rfl ?_
  refine z_n2m hC dX7_holds_1 (by omega) ?_
  refine z_lconst hC dX7_holds_2 (v := lN 0) rfl ?_
  refine z_ldc2 hC dX7_holds_3 (v := lN 7) (zin5 (i := 110) rfl rfl) ?_
  refine wSv hC dX7_holds_6 zlX7_97 (c_X7_inN (by omega) (by omega) (by omega)) rfl rfl rfl rfl ⟨rfl, rfl⟩ ?_
  refine w_ifb_eq hC dX7_holds_9 (tgt := 21) (by decide) (fun c9 => ?_) (fun c9 => ?_)
  · exact absurd c9 (by omega)
  refine z_aload_n hC dX7_holds_12 rfl ?_
  refine z_getR hC dX7_holds_13 (hS _) zfX7_7 rfl ?_
  refine z_iload_n hC dX7_holds_16 rfl ?_
  refine z_naldN hC dX7_holds_17 (hS _) (by omega) rfl hh ?_
  refine z_nif_ne hC dX7_holds_18 (tgt := 23) (by decide) (by omega) (fun c18 => ?_) (fun c18 => ?_)
  · exact absurd c18 (fun z => z rfl)
  refine z_iconst hC dX7_holds_21 (v := -1) rfl ?_
  refine z_iret hC dX7_holds_22 ?_
  exact hE.to (by rfl) rfl rfl rfl

theorem w_holds_r (hS : ∀ k, S 0 k = msh 0 k) (hO : DOK D) (hM : MMe qe D I X Y) {s : Nat} (hs : s < 8) {q : Nat} (hq : q ≤ 4) {n : Nat} {el : Nat → Int64} (hh : rwM s q n el X Y) (hn40 : n ≤ 40)  : zC0 mX7_holds 6 [zr 0 0, zi (nI s)] (some (zi (nI q))) ad S I X Y sz I X Y := by
  refine zgo (own := RX7) (k := 0) (by decide +kernel) rfl rfl rfl (fun C hC hnm hE => ?_)
  have hm := hM.1
  have hR := hO.1
  have hmo := hm
  have hn14 := hR.1
  have hn8 := hR.2.1
  have hn6 := hR.2.2.1
  refine z_iload_n hC dX7_holds_0 rfl ?_
  refine z_n2m hC dX7_holds_1 (by omega) ?_
  refine z_lconst hC dX7_holds_2 (v := lN 0) rfl ?_
  refine z_ldc2 hC dX7_holds_3 (v := lN 7) (zin5 (i := 110) rfl rfl) ?_
  refine wSv hC dX7_holds_6 zlX7_97 (c_X7_inN (by omega) (by omega) (by omega)) rfl rfl rfl rfl ⟨rfl, rfl⟩ ?_
  refine w_ifb_eq hC dX7_holds_9 (tgt := 21) (by decide) (fun c9 => ?_) (fun c9 => ?_)
  · exact absurd c9 (by omega)
  refine z_aload_n hC dX7_holds_12 rfl ?_
  refine z_getR hC dX7_holds_13 (hS _) zfX7_7 rfl ?_
  refine z_iload_n hC dX7_holds_16 rfl ?_
  refine z_naldN hC dX7_holds_17 (hS _) (by omega) rfl hh.1 ?_
  refine z_nif_ne hC dX7_holds_18 (tgt := 23) (by decide) (by omega) (fun c18 => ?_) (fun c18 => ?_)
  rotate_left
  · exact absurd c18 (by decide)
  refine z_aload_n hC dX7_holds_23 rfl ?_
  refine z_getR hC dX7_holds_24 (hS _) zfX7_7 rfl ?_
  refine z_iload_n hC dX7_holds_27 rfl ?_
  refine z_naldN hC dX7_holds_28 (hS _) (by omega) rfl hh.1 ?_
  refine z_iconst hC dX7_holds_29 (v := nI 1) rfl ?_
  refine z_nicmp_ne hC dX7_holds_30 (tgt := 42) (by decide) (by omega) (by omega) (fun c30 => ?_) (fun c30 => ?_)
  · exact absurd c30 (by omega)
  refine z_aload_n hC dX7_holds_33 rfl ?_
  refine z_getR hC dX7_holds_34 (hS _) zfX7_13 rfl ?_
  refine z_iload_n hC dX7_holds_37 rfl ?_
  refine z_naldN hC dX7_holds_38 (hS _) (by omega) rfl hh.2.1 ?_
  refine z_goto hC dX7_holds_39 (tgt := 51) (by decide) ?_
  refine z_iret hC dX7_holds_51 ?_
  exact hE.to (by rfl) rfl rfl rfl

theorem w_holds_b (hS : ∀ k, S 0 k = msh 0 k) (hO : DOK D) (hM : MMe qe D I X Y) {s : Nat} (hs : s < 8) {b : Nat} (hb : b < 14) (hh : shwM s b X) : zC0 mX7_holds 6 [zr 0 0, zi (nI s)] (some (zi (nI (10 + b)))) ad S I X Y sz I X Y := by
  refine zgo (own := RX7) (k := 0) (by decide +kernel) rfl rfl rfl (fun C hC hnm hE => ?_)
  have hm := hM.1
  have hR := hO.1
  have hmo := hm
  have hn14 := hR.1
  have hn8 := hR.2.1
  have hn6 := hR.2.2.1
  refine z_iload_n hC dX7_holds_0 rfl ?_
  refine z_n2m hC dX7_holds_1 (by omega) ?_
  refine z_lconst hC dX7_holds_2 (v := lN 0) rfl ?_
  refine z_ldc2 hC dX7_holds_3 (v := lN 7) (zin5 (i := 110) rfl rfl) ?_
  refine wSv hC dX7_holds_6 zlX7_97 (c_X7_inN (by omega) (by omega) (by omega)) rfl rfl rfl rfl ⟨rfl, rfl⟩ ?_
  refine w_ifb_eq hC dX7_holds_9 (tgt := 21) (by decide) (fun c9 => ?_) (fun c9 => ?_)
  · exact absurd c9 (by omega)
  refine z_aload_n hC dX7_holds_12 rfl ?_
  refine z_getR hC dX7_holds_13 (hS _) zfX7_7 rfl ?_
  refine z_iload_n hC dX7_holds_16 rfl ?_
  refine z_naldN hC dX7_holds_17 (hS _) (by omega) rfl hh.1 ?_
  refine z_nif_ne hC dX7_holds_18 (tgt := 23) (by decide) (by omega) (fun c18 => ?_) (fun c18 => ?_)
  rotate_left
  · exact absurd c18 (by decide)
  refine z_aload_n hC dX7_holds_23 rfl ?_
  refine z_getR hC dX7_holds_24 (hS _) zfX7_7 rfl ?_
  refine z_iload_n hC dX7_holds_27 rfl ?_
  refine z_naldN hC dX7_holds_28 (hS _) (by omega) rfl hh.1 ?_
  refine z_iconst hC dX7_holds_29 (v := nI 1) rfl ?_
  refine z_nicmp_ne hC dX7_holds_30 (tgt := 42) (by decide) (by omega) (by omega) (fun c30 => ?_) (fun c30 => ?_)
  rotate_left
  · exact absurd c30 (by omega)
  refine z_bipush hC dX7_holds_42 (v := nI 10) rfl ?_
  refine z_aload_n hC dX7_holds_44 rfl ?_
  refine z_getR hC dX7_holds_45 (hS _) zfX7_28 rfl ?_
  refine z_iload_n hC dX7_holds_48 rfl ?_
  refine z_naldN hC dX7_holds_49 (hS _) (by omega) rfl hh.2 ?_
  refine z_nadd hC dX7_holds_50  ?_
  refine z_iret hC dX7_holds_51 ?_
  exact hE.to (by rfl) rfl rfl rfl

theorem w_holds_f (hS : ∀ k, S 0 k = msh 0 k) (hO : DOK D) (hM : MMe qe D I X Y) {x : Int32} (hx : ¬ inB x 8) : zC0 mX7_holds 6 [zr 0 0, zi x] (some (zi (-1))) ad S I X Y sz I X Y := by
  refine zgo (own := RX7) (k := 0) (by decide +kernel) rfl rfl rfl (fun C hC hnm hE => ?_)
  have hm := hM.1
  have hR := hO.1
  have hmo := hm
  have hn14 := hR.1
  have hn8 := hR.2.1
  have hn6 := hR.2.2.1
  refine z_iload_n hC dX7_holds_0 rfl ?_
  refine z_i2l hC dX7_holds_1  ?_
  refine z_lconst hC dX7_holds_2 (v := lN 0) rfl ?_
  refine z_ldc2 hC dX7_holds_3 (v := lN 7) (zin5 (i := 110) rfl rfl) ?_
  refine wSv hC dX7_holds_6 zlX7_97 (c_X7_inI (by omega) (by omega)) rfl rfl rfl rfl ⟨rfl, rfl⟩ ?_
  refine w_ifb_eq hC dX7_holds_9 (tgt := 21) (by decide) (fun c9 => ?_) (fun c9 => ?_)
  rotate_left
  · exact absurd c9 (fun z => hx ((iwB (by decide)).mp z))
  refine z_iconst hC dX7_holds_21 (v := -1) rfl ?_
  refine z_iret hC dX7_holds_22 ?_
  exact hE.to (by rfl) rfl rfl rfl

theorem m_holds (hS : ∀ k, S 0 k = msh 0 k) (hO : DOK D) (hM : MMe qe D I X Y) {x : Int32} : mC mX7_holds 6 [zr 0 0, zi x] (some (zi (holdsS D x))) D ad S I X Y sz qe := by
  have hn14 := hO.1.1
  unfold holdsS
  by_cases hx : inB x 8
  · rw [if_pos hx]
    obtain ⟨s, hs, rfl, e1⟩ := inB_e hx (by decide)
    rw [e1]
    have hn40 := (hO.2.2.2 s hs).1
    rcases sh_stM hO hM hs with ⟨h1, h2⟩ | ⟨q, hq, h1, h2⟩ | ⟨b, hb, h1, h2⟩
    · rw [h1]; exact ⟨_, _, _, hM, w_holds_n hS hO hM hs h2⟩
    · rw [h1]; exact ⟨_, _, _, hM, w_holds_r hS hO hM hs hq h2 hn40⟩
    · rw [h1]; exact ⟨_, _, _, hM, w_holds_b hS hO hM hs (by omega) h2⟩
  · rw [if_neg hx]
    exact ⟨_, _, _, hM, w_holds_f hS hO hM hx⟩
theorem w_show_b (hS : ∀ k, S 0 k = msh 0 k) (hO : DOK D) (hM : MMe qe D I X Y) {s b : Nat} (hs : s < 8) (hb : b < D.1.1 0) : zC0 mX7_show 6 [zr 0 0, zi (nI s), zi (nI b)] (some (zi (nI 1))) ad S I X Y sz I (up3 (up3 X 0 1 s (nI 2)) 0 14 s (nI b)) Y := by
  refine zgo (own := RX7) (k := 0) (by decide +kernel) rfl rfl rfl (fun C hC hnm hE => ?_)
  have hm := hM.1
  have hR := hO.1
  have hmo := hm
  have hn14 := hR.1
  have hn8 := hR.2.1
  have hn6 := hR.2.2.1
  refine z_iload_n hC dX7_show_0 rfl ?_
  refine z_n2m hC dX7_show_1 (by omega) ?_
  refine z_lconst hC dX7_show_2 (v := lN 0) rfl ?_
  refine z_ldc2 hC dX7_show_3 (v := lN 7) (zin5 (i := 110) rfl rfl) ?_
  refine wSv hC dX7_show_6 zlX7_97 (c_X7_inN (by omega) (by omega) (by omega)) rfl rfl rfl rfl ⟨rfl, rfl⟩ ?_
  refine w_ifb_eq hC dX7_show_9 (tgt := 26) (by decide) (fun c9 => ?_) (fun c9 => ?_)
  · exact absurd c9 (by omega)
  refine z_iload_n hC dX7_show_12 rfl ?_
  refine z_iconst hC dX7_show_13 (v := -1) rfl ?_
  refine z_icmp_eq hC dX7_show_14 (tgt := 33) (by decide) (fun c14 => ?_) (fun c14 => ?_)
  · exact absurd c14 (zne1 (by omega))
  refine z_aload_n hC dX7_show_17 rfl ?_
  refine z_iload_n hC dX7_show_18 rfl ?_
  refine z_n2m hC dX7_show_19 (by omega) ?_
  refine wVv hC dX7_show_20 zlX7_118 (c_X7_isBendN hS hm hR (by omega)) (hS _) rfl rfl rfl rfl rfl rfl ⟨rfl, rfl⟩ ?_
  refine w_ifb_ne hC dX7_show_23 (tgt := 33) (by decide) (fun c23 => ?_) (fun c23 => ?_)
  rotate_left
  · exact absurd c23 (by omega)
  refine z_aload_n hC dX7_show_33 rfl ?_
  refine z_getR hC dX7_show_34 (hS _) zfX7_7 rfl ?_
  refine z_iload_n hC dX7_show_37 rfl ?_
  refine z_iload_n hC dX7_show_38 rfl ?_
  refine z_iconst hC dX7_show_39 (v := -1) rfl ?_
  refine z_icmp_ne hC dX7_show_40 (tgt := 47) (by decide) (fun c40 => ?_) (fun c40 => ?_)
  rotate_left
  · exact absurd c40 (zne1 (by omega))
  refine z_iconst hC dX7_show_47 (v := nI 2) rfl ?_
  refine z_niast hC dX7_show_48 (hS _) (by omega) rfl ?_
  refine z_aload_n hC dX7_show_49 rfl ?_
  refine z_getR hC dX7_show_50 (hS _) zfX7_28 rfl ?_
  refine z_iload_n hC dX7_show_53 rfl ?_
  refine z_iload_n hC dX7_show_54 rfl ?_
  refine z_niast hC dX7_show_55 (hS _) (by omega) rfl ?_
  refine z_iconst hC dX7_show_56 (v := nI 1) rfl ?_
  refine z_iret hC dX7_show_57 ?_
  exact hE.to (by rfl) rfl rfl rfl

theorem w_show_n (hS : ∀ k, S 0 k = msh 0 k) (hO : DOK D) (hM : MMe qe D I X Y) {s : Nat} (hs : s < 8) : zC0 mX7_show 6 [zr 0 0, zi (nI s), zi (-1)] (some (zi (nI 1))) ad S I X Y sz I (up3 (up3 X 0 1 s (nI 0)) 0 14 s (-1)) Y := by
  refine zgo (own := RX7) (k := 0) (by decide +kernel) rfl rfl rfl (fun C hC hnm hE => ?_)
  have hm := hM.1
  have hR := hO.1
  have hmo := hm
  have hn14 := hR.1
  have hn8 := hR.2.1
  have hn6 := hR.2.2.1
  refine z_iload_n hC dX7_show_0 rfl ?_
  refine z_n2m hC dX7_show_1 (by omega) ?_
  refine z_lconst hC dX7_show_2 (v := lN 0) rfl ?_
  refine z_ldc2 hC dX7_show_3 (v := lN 7) (zin5 (i := 110) rfl rfl) ?_
  refine wSv hC dX7_show_6 zlX7_97 (c_X7_inN (by omega) (by omega) (by omega)) rfl rfl rfl rfl ⟨rfl, rfl⟩ ?_
  refine w_ifb_eq hC dX7_show_9 (tgt := 26) (by decide) (fun c9 => ?_) (fun c9 => ?_)
  · exact absurd c9 (by omega)
  refine z_iload_n hC dX7_show_12 rfl ?_
  refine z_iconst hC dX7_show_13 (v := -1) rfl ?_
  refine z_icmp_eq hC dX7_show_14 (tgt := 33) (by decide) (fun c14 => ?_) (fun c14 => ?_)
  rotate_left
  · exact absurd c14 (fun z => z rfl)
  refine z_aload_n hC dX7_show_33 rfl ?_
  refine z_getR hC dX7_show_34 (hS _) zfX7_7 rfl ?_
  refine z_iload_n hC dX7_show_37 rfl ?_
  refine z_iload_n hC dX7_show_38 rfl ?_
  refine z_iconst hC dX7_show_39 (v := -1) rfl ?_
  refine z_icmp_ne hC dX7_show_40 (tgt := 47) (by decide) (fun c40 => ?_) (fun c40 => ?_)
  · exact absurd c40 (fun z => z rfl)
  refine z_iconst hC dX7_show_43 (v := nI 0) rfl ?_
  refine z_goto hC dX7_show_44 (tgt := 48) (by decide) ?_
  refine z_niast hC dX7_show_48 (hS _) (by omega) rfl ?_
  refine z_aload_n hC dX7_show_49 rfl ?_
  refine z_getR hC dX7_show_50 (hS _) zfX7_28 rfl ?_
  refine z_iload_n hC dX7_show_53 rfl ?_
  refine z_iload_n hC dX7_show_54 rfl ?_
  refine z_niast hC dX7_show_55 (hS _) (by omega) rfl ?_
  refine z_iconst hC dX7_show_56 (v := nI 1) rfl ?_
  refine z_iret hC dX7_show_57 ?_
  exact hE.to (by rfl) rfl rfl rfl

theorem w_show_g (hS : ∀ k, S 0 k = msh 0 k) (hO : DOK D) (hM : MMe qe D I X Y) {s : Nat} {y : Int32} (hs : s < 8) (hy : ¬ (y = -1 ∨ inB y (D.1.1 0))) : zC0 mX7_show 6 [zr 0 0, zi (nI s), zi y] (some (zi (-2))) ad S I X Y sz I (rmX 0 0 X) Y := by
  refine zgo (own := RX7) (k := 0) (by decide +kernel) rfl rfl rfl (fun C hC hnm hE => ?_)
  have hm := hM.1
  have hR := hO.1
  have hmo := hm
  have hn14 := hR.1
  have hn8 := hR.2.1
  have hn6 := hR.2.2.1
  refine z_iload_n hC dX7_show_0 rfl ?_
  refine z_n2m hC dX7_show_1 (by omega) ?_
  refine z_lconst hC dX7_show_2 (v := lN 0) rfl ?_
  refine z_ldc2 hC dX7_show_3 (v := lN 7) (zin5 (i := 110) rfl rfl) ?_
  refine wSv hC dX7_show_6 zlX7_97 (c_X7_inN (by omega) (by omega) (by omega)) rfl rfl rfl rfl ⟨rfl, rfl⟩ ?_
  refine w_ifb_eq hC dX7_show_9 (tgt := 26) (by decide) (fun c9 => ?_) (fun c9 => ?_)
  · exact absurd c9 (by omega)
  refine z_iload_n hC dX7_show_12 rfl ?_
  refine z_iconst hC dX7_show_13 (v := -1) rfl ?_
  refine z_icmp_eq hC dX7_show_14 (tgt := 33) (by decide) (fun c14 => ?_) (fun c14 => ?_)
  · exact absurd c14 (fun z => hy (Or.inl z))
  refine z_aload_n hC dX7_show_17 rfl ?_
  refine z_iload_n hC dX7_show_18 rfl ?_
  refine z_i2l hC dX7_show_19  ?_
  refine wVv hC dX7_show_20 zlX7_118 (c_X7_isBendI hS hm hR) (hS _) rfl rfl rfl rfl rfl rfl ⟨rfl, rfl⟩ ?_
  refine w_ifb_ne hC dX7_show_23 (tgt := 33) (by decide) (fun c23 => ?_) (fun c23 => ?_)
  · exact absurd c23 (fun z => hy (Or.inr z))
  refine z_aload_n hC dX7_show_26 rfl ?_
  refine z_bipush hC dX7_show_27 (v := -2) rfl ?_
  refine wVv hC dX7_show_29 zlX7_107 (c_X7_refuse hS (j := 0) (by decide) (by decide)) (hS _) rfl rfl rfl rfl rfl rfl ⟨rfl, rfl⟩ ?_
  refine z_iret hC dX7_show_32 ?_
  exact hE.to (by rfl) rfl rfl rfl

theorem w_show_f (hS : ∀ k, S 0 k = msh 0 k) (hO : DOK D) (hM : MMe qe D I X Y) {x y : Int32} (hx : ¬ inB x 8) : zC0 mX7_show 6 [zr 0 0, zi x, zi y] (some (zi (-2))) ad S I X Y sz I (rmX 0 0 X) Y := by
  refine zgo (own := RX7) (k := 0) (by decide +kernel) rfl rfl rfl (fun C hC hnm hE => ?_)
  have hm := hM.1
  have hR := hO.1
  have hmo := hm
  have hn14 := hR.1
  have hn8 := hR.2.1
  have hn6 := hR.2.2.1
  refine z_iload_n hC dX7_show_0 rfl ?_
  refine z_i2l hC dX7_show_1  ?_
  refine z_lconst hC dX7_show_2 (v := lN 0) rfl ?_
  refine z_ldc2 hC dX7_show_3 (v := lN 7) (zin5 (i := 110) rfl rfl) ?_
  refine wSv hC dX7_show_6 zlX7_97 (c_X7_inI (by omega) (by omega)) rfl rfl rfl rfl ⟨rfl, rfl⟩ ?_
  refine w_ifb_eq hC dX7_show_9 (tgt := 26) (by decide) (fun c9 => ?_) (fun c9 => ?_)
  rotate_left
  · exact absurd c9 (fun z => hx ((iwB (by decide)).mp z))
  refine z_aload_n hC dX7_show_26 rfl ?_
  refine z_bipush hC dX7_show_27 (v := -2) rfl ?_
  refine wVv hC dX7_show_29 zlX7_107 (c_X7_refuse hS (j := 0) (by decide) (by decide)) (hS _) rfl rfl rfl rfl rfl rfl ⟨rfl, rfl⟩ ?_
  refine z_iret hC dX7_show_32 ?_
  exact hE.to (by rfl) rfl rfl rfl

theorem sh_1M {hh : Option Nat} {X' : zI} (hM : MMe qe D I X Y) {s : Nat} (hX : ∀ b k j, ¬ (b = 0 ∧ (k = 1 ∨ k = 14) ∧ j = s) → X' b k j = X b k j) (h : zMs hh (D.2.2.2.1.2.1 s) (D.2.2.2.1.2.2 s) s X' Y) : MMe qe (DH D (upS D.2.2.2.1.1 s hh) D.2.2.2.1.2.1 D.2.2.2.1.2.2) I X' Y :=
  hM.sh (fun b k j a => hX b k j (by omega)) fun t ht => by
    by_cases e : t = s
    · subst e; rw [upS_eq]; exact h
    · rw [upS_ne e]
      exact (hM.2.2.2.2.2.1 t ht).at (fun k _ => hX _ _ _ (by omega)) (fun i hi => rfl)
theorem m_show (hS : ∀ k, S 0 k = msh 0 k) (hO : DOK D) (hM : MMe qe D I X Y) {x y : Int32} : mC mX7_show 6 [zr 0 0, zi x, zi y] (some (zi (showS D x y).1)) (showS D x y).2 ad S I X Y sz qe := by
  have hn14 := hO.1.1
  unfold showS
  by_cases hx : inB x 8
  · obtain ⟨s, hs, rfl, e1⟩ := inB_e hx (by decide)
    by_cases hy : y = -1 ∨ inB y (D.1.1 0)
    · rw [if_pos ⟨hx, hy⟩, e1]
      by_cases e : y = -1
      · subst e
        rw [if_pos rfl]
        exact ⟨_, _, _, sh_1M hM (fun b k j a => by rw [up3_ne (by omega), up3_ne (by omega)]) (show _ = nI 0 from (up3_ne (by omega)).trans (up3_eq _ _ _ _ _)), w_show_n hS hO hM hs⟩
      · rw [if_neg e]
        obtain ⟨b, hb, rfl, e2⟩ := inB_e (hy.resolve_left e) (by omega)
        rw [e2]
        exact ⟨_, _, _, sh_1M hM (fun b k j a => by rw [up3_ne (by omega), up3_ne (by omega)]) (zMs_b ⟨(up3_ne (by omega)).trans (up3_eq _ _ _ _ _), up3_eq _ _ _ _ _⟩), w_show_b hS hO hM hs hb⟩
    · rw [if_neg (fun z => hy z.2)]
      exact ⟨_, _, _, hM.rf (by decide), w_show_g hS hO hM hs hy⟩
  · rw [if_neg (fun z => hx z.1)]
    exact ⟨_, _, _, hM.rf (by decide), w_show_f hS hO hM hx⟩

end
