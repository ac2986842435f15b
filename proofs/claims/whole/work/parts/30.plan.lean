/-! Plan -/
theorem zshlN : ∀ b, b < 14 → ∀ l, l < 4 → (nI l <<< (nI (2 * b) &&& 31)) = nI (l * 4 ^ b) ∧ l * 4 ^ b < 2 ^ 28 := by decide +kernel
theorem zorN {t u : Nat} (ht : t < 2 ^ 28) (hu : u < 2 ^ 28) : nI t ||| nI u = nI (t ||| u) ∧ t ||| u < 2 ^ 28 := by
  have h2 : t ||| u < 2 ^ 28 := Nat.or_lt_two_pow ht hu
  refine ⟨?_, h2⟩
  apply Int32.toBitVec_inj.mp
  apply BitVec.eq_of_toNat_eq
  rw [nI_tn (by omega)]
  show ((nI t).toBitVec ||| (nI u).toBitVec).toNat = _
  rw [BitVec.toNat_or, nI_tn (by omega), nI_tn (by omega)]
theorem nI_dec (b : Nat) : nI b + -1 = nI b - nI 1 := (Int32.sub_eq_add_neg _ _).symm
theorem nI_prd (b : Nat) : nI (b + 1) - nI 1 = nI b := by rw [pk_sub (by omega)]; rfl
theorem nI_prd0 : (nI 0 - nI 1 : Int32) = -1 := by decide
/-- the choice of a look up to l at a bend b by t tens; P: what the bends behind give -/
def chN (c g : Nat → Nat) (b : Nat) (P : Nat → Nat × Nat) (t : Nat) : Nat → Nat × Nat
  | 0 => P t
  | l + 1 => if c (l + 1) ≤ t ∧ (chN c g b P t l).1 < (P (t - c (l + 1))).1 + g (l + 1) then ((P (t - c (l + 1))).1 + g (l + 1), (P (t - c (l + 1))).2 ||| ((l + 1) * 4 ^ b)) else chN c g b P t l
theorem chN_a {c g : Nat → Nat} {b : Nat} {P : Nat → Nat × Nat} {t l : Nat} (h : ¬ c (l + 1) ≤ t) : chN c g b P t (l + 1) = chN c g b P t l := if_neg (fun z => h z.1)
theorem chN_b {c g : Nat → Nat} {b : Nat} {P : Nat → Nat × Nat} {t l : Nat} (h : (P (t - c (l + 1))).1 + g (l + 1) ≤ (chN c g b P t l).1) : chN c g b P t (l + 1) = chN c g b P t l := if_neg (fun z => by omega)
theorem chN_c {c g : Nat → Nat} {b : Nat} {P : Nat → Nat × Nat} {t l : Nat} (h : c (l + 1) ≤ t) (h2 : ¬ (P (t - c (l + 1))).1 + g (l + 1) ≤ (chN c g b P t l).1) : chN c g b P t (l + 1) = ((P (t - c (l + 1))).1 + g (l + 1), (P (t - c (l + 1))).2 ||| ((l + 1) * 4 ^ b)) := if_pos ⟨h, by omega⟩
theorem chN_le {c g : Nat → Nat} {b : Nat} {P : Nat → Nat × Nat} {t M : Nat} (hb : b < 14) (hP : ∀ j, j ≤ t → (P j).1 ≤ M ∧ (P j).2 < 2 ^ 28) (hg : ∀ l, l ≤ 3 → g l ≤ 1000000) : ∀ l, l ≤ 3 → (chN c g b P t l).1 ≤ M + 1000000 ∧ (chN c g b P t l).2 < 2 ^ 28
  | 0, _ => ⟨Nat.le_trans (hP t (Nat.le_refl _)).1 (by omega), (hP t (Nat.le_refl _)).2⟩
  | l + 1, hl => by
    have h1 := hP (t - c (l + 1)) (by omega)
    have h2 := hg (l + 1) hl
    unfold chN
    split
    · exact ⟨by dsimp only; omega, (zorN h1.2 (zshlN b hb (l + 1) (by omega)).2).2⟩
    · exact chN_le hb hP hg l (by omega)
def plN (c g : Nat → Nat → Nat) (n : Nat) : Nat → Nat → Nat × Nat
  | 0 => fun _ => (0, 0)
  | k + 1 => fun t => chN (c (n - 1 - k)) (g (n - 1 - k)) (n - 1 - k) (plN c g n k) t 3
theorem plN_le {c g : Nat → Nat → Nat} {n : Nat} (hn : n ≤ 14) (hg : ∀ b l, b < n → l ≤ 3 → g b l ≤ 1000000) : ∀ k, k ≤ n → ∀ t, (plN c g n k t).1 ≤ k * 1000000 ∧ (plN c g n k t).2 < 2 ^ 28
  | 0, _, _ => ⟨Nat.zero_le _, by show 0 < 2 ^ 28; decide⟩
  | k + 1, hk, t => by
    have h := chN_le (c := c (n - 1 - k)) (g := g (n - 1 - k)) (b := n - 1 - k) (P := plN c g n k) (t := t) (M := k * 1000000) (by omega) (fun j _ => plN_le hn hg k (by omega) j) (fun l hl => hg _ l (by omega) hl) 3 (Nat.le_refl _)
    exact ⟨by rw [Nat.succ_mul]; exact h.1, h.2⟩
def tgX (c g : Nat → Nat) (X : zI) : Nat → zI
  | 0 => X
  | l + 1 => up3 (up3 (tgX c g X l) 3 28 (l + 1) (nI (c (l + 1)))) 3 29 (l + 1) (nI (g (l + 1)))
theorem tgX_ne {c g : Nat → Nat} {X : zI} {b k j : Nat} (h : ¬ (b = 3 ∧ 28 ≤ k ∧ k ≤ 29)) : ∀ l, tgX c g X l b k j = X b k j
  | 0 => rfl
  | l + 1 => by
    show up3 (up3 _ _ _ _ _) _ _ _ _ _ _ _ = _
    rw [up3_ne (by omega), up3_ne (by omega), tgX_ne h l]
theorem tgX_c {c g : Nat → Nat} {X : zI} : ∀ {l j : Nat}, j < l → tgX c g X l 3 28 (j + 1) = nI (c (j + 1))
  | 0, j, h => absurd h (Nat.not_lt_zero _)
  | l + 1, j, h => by
    show up3 (up3 _ _ _ _ _) _ _ _ _ _ _ _ = _
    rw [up3_ne (by omega)]
    by_cases e : j = l
    · subst e; rw [up3_eq]
    · rw [up3_ne (by omega), tgX_c (l := l) (by omega)]
theorem tgX_g {c g : Nat → Nat} {X : zI} : ∀ {l j : Nat}, j < l → tgX c g X l 3 29 (j + 1) = nI (g (j + 1))
  | 0, j, h => absurd h (Nat.not_lt_zero _)
  | l + 1, j, h => by
    show up3 (up3 _ _ _ _ _) _ _ _ _ _ _ _ = _
    by_cases e : j = l
    · subst e; rw [up3_eq]
    · rw [up3_ne (by omega), up3_ne (by omega), tgX_g (l := l) (by omega)]
def plR (f : Nat → Nat × Nat) (q : Nat) (X : zI) : zI := zrow 3 26 (fun t => (f t).1) (q + 1) (zrow 3 27 (fun t => (f t).2) (q + 1) X)
def plX (c g : Nat → Nat → Nat) (n q : Nat) (X : zI) : Nat → zI
  | 0 => plR (plN c g n 0) q X
  | k + 1 => plR (plN c g n (k + 1)) q (tgX (c (n - 1 - k)) (g (n - 1 - k)) (plX c g n q X k) 3)
theorem plR_ne {f : Nat → Nat × Nat} {q : Nat} {X : zI} {b k j : Nat} (h : ¬ (b = 3 ∧ 26 ≤ k ∧ k ≤ 27)) : plR f q X b k j = X b k j := by
  unfold plR
  rw [zrow_ne (by omega), zrow_ne (by omega)]
theorem plR_26 {f : Nat → Nat × Nat} {q : Nat} {X : zI} {t : Nat} (h : t ≤ q) : plR f q X 3 26 t = nI (f t).1 := zrow_get (f := fun t => (f t).1) (by omega)
theorem plR_27 {f : Nat → Nat × Nat} {q : Nat} {X : zI} {t : Nat} (h : t ≤ q) : plR f q X 3 27 t = nI (f t).2 := by
  unfold plR
  rw [zrow_ne (by omega)]
  exact zrow_get (f := fun t => (f t).2) (by omega)
theorem plX_ne {c g : Nat → Nat → Nat} {n q : Nat} {X : zI} {b k j : Nat} (h : ¬ (b = 3 ∧ 26 ≤ k ∧ k ≤ 29)) : ∀ l, plX c g n q X l b k j = X b k j
  | 0 => plR_ne (by omega)
  | l + 1 => by
    show plR _ _ _ _ _ _ = _
    rw [plR_ne (by omega), tgX_ne (by omega), plX_ne h l]
theorem plX_26 {c g : Nat → Nat → Nat} {n q : Nat} {X : zI} {t k : Nat} (h : t ≤ q) : plX c g n q X k 3 26 t = nI (plN c g n k t).1 := by
  cases k
  · exact plR_26 h
  · exact plR_26 h
theorem plX_27 {c g : Nat → Nat → Nat} {n q : Nat} {X : zI} {t k : Nat} (h : t ≤ q) : plX c g n q X k 3 27 t = nI (plN c g n k t).2 := by
  cases k
  · exact plR_27 h
  · exact plR_27 h
/-- from t on the new ones -/
def mixN (f f' : Nat → Nat × Nat) (t : Nat) : Nat → Nat × Nat := fun j => if j < t then f j else f' j
theorem zrow_set {b c k j v : Nat} {f : Nat → Nat} {X : zI} (h : j < k) : up3 (zrow b c f k X) b c j (nI v) = zrow b c (fun i => if i = j then v else f i) k X := by
  funext b1 c1 j1
  unfold up3 zrow
  by_cases h1 : b1 = b ∧ c1 = c ∧ j1 = j
  · obtain ⟨rfl, rfl, rfl⟩ := h1
    rw [if_pos ⟨rfl, rfl, rfl⟩, if_pos ⟨rfl, rfl, h⟩]
    dsimp only
    rw [if_pos rfl]
  · rw [if_neg h1]
    by_cases h2 : b1 = b ∧ c1 = c ∧ j1 < k
    · rw [if_pos h2, if_pos h2]
      dsimp only
      rw [if_neg (by omega)]
    · rw [if_neg h2, if_neg h2]
theorem plR_step {f f' : Nat → Nat × Nat} {q t : Nat} {X : zI} (h : t ≤ q) : up3 (up3 (plR (mixN f f' (t + 1)) q X) 3 26 t (nI (f' t).1)) 3 27 t (nI (f' t).2) = plR (mixN f f' t) q X := by
  unfold plR
  rw [zrow_set (by omega), zrow_up (by omega), zrow_set (by omega)]
  have e : ∀ i, (if i = t then f' t else mixN f f' (t + 1) i) = mixN f f' t i := by
    intro i
    unfold mixN
    by_cases h1 : i = t
    · rw [if_pos h1, if_neg (by omega), h1]
    · rw [if_neg h1]
      by_cases h2 : i < t
      · rw [if_pos h2, if_pos (by omega)]
      · rw [if_neg h2, if_neg (by omega)]
  congr 1
  · funext i
    rw [← e i]
    split <;> rfl
  · congr 1
    funext i
    rw [← e i]
    split <;> rfl
theorem plR_plR {f f' : Nat → Nat × Nat} {q : Nat} {X : zI} (h1 : ∀ t, t ≤ q → X 3 26 t = nI (f t).1 ∧ X 3 27 t = nI (f t).2) : X = plR (mixN f f' (q + 1)) q X := by
  funext b c j
  unfold plR zrow mixN
  by_cases h2 : b = 3 ∧ c = 26 ∧ j < q + 1
  · obtain ⟨rfl, rfl, h⟩ := h2
    rw [if_pos ⟨rfl, rfl, h⟩]
    dsimp only
    rw [if_pos h, (h1 j (by omega)).1]
  · rw [if_neg h2]
    by_cases h3 : b = 3 ∧ c = 27 ∧ j < q + 1
    · obtain ⟨rfl, rfl, h⟩ := h3
      rw [if_pos ⟨rfl, rfl, h⟩]
      dsimp only
      rw [if_pos h, (h1 j (by omega)).2]
    · rw [if_neg h3]
section
variable {ad : zA} {S : zSh} {I X : zI} {Y : zY} {sz : Nat} {n h : Nat} {w m : Nat → Nat} {R : RS}

theorem c_X0_foundIn (hD : ∀ k, S 3 k = dsh k) {t : Nat} (ht : t ≤ 900) : zC0 mX0_foundIn 0 [zr 3 25, zi (nI t)] (some (zi (X 3 26 t))) ad S I X Y sz I X Y := by
  refine zgo (own := RX0) (k := 0) (by decide +kernel) rfl rfl rfl (fun C hC hnm hE => ?_)
  refine z_iload_n hC dX0_foundIn_0 rfl ?_
  refine z_nif_lt hC dX0_foundIn_1 ⟨22, by decide⟩ (by omega) ?_
  refine z_iload_n hC dX0_foundIn_4 rfl ?_
  refine z_aload_n hC dX0_foundIn_5 rfl ?_
  refine z_getR hC dX0_foundIn_6 (hD _) zfX0_9 rfl ?_
  refine z_alen hC dX0_foundIn_9 (hD _) (v := nI _) rfl ?_
  refine z_nicmp_ge hC dX0_foundIn_10 (tgt := 22) (by decide) (by omega) (by omega) (fun c10 => ?_) (fun c10 => ?_)
  · exfalso; omega
  refine z_aload_n hC dX0_foundIn_13 rfl ?_
  refine z_getR hC dX0_foundIn_14 (hD _) zfX0_9 rfl ?_
  refine z_iload_n hC dX0_foundIn_17 rfl ?_
  refine z_nald hC dX0_foundIn_18 (hD _) (by omega) rfl ?_
  refine z_goto hC dX0_foundIn_19 (tgt := 23) (by decide) ?_
  refine z_iret hC dX0_foundIn_23 ?_
  exact hE.to (by rfl) rfl rfl rfl

theorem zbit3 {m b : Nat} (hm : m < 2 ^ 28) (hb : b < 14) : (nI m >>> (nI (2 * b) &&& 31)) &&& nI 3 = nI (m / 2 ^ (2 * b) % 4) := by
  obtain ⟨h1, h2⟩ := zshr31 (2 * b) (by omega)
  rw [h1, pk_shrN (by omega) (nI (2 * b)) (2 * b) h2]
  have h3 : m / 2 ^ (2 * b) < 2 ^ 32 := Nat.lt_of_le_of_lt (Nat.div_le_self _ _) (by omega)
  have := pk_andN (n := m / 2 ^ (2 * b)) h3 (m := nI 3) 2 (by decide)
  simpa using this
theorem c_X0_lookIn (hD : ∀ k, S 3 k = dsh k) {t b v : Nat} (ht : t ≤ 900) (hb : b < 14) (hv : X 3 27 t = nI v) (hv2 : v < 2 ^ 28) : zC0 mX0_lookIn 0 [zr 3 25, zi (nI t), zi (nI b)] (some (zi (nI (v / 2 ^ (2 * b) % 4)))) ad S I X Y sz I X Y := by
  refine zgo (own := RX0) (k := 0) (by decide +kernel) rfl rfl rfl (fun C hC hnm hE => ?_)
  refine z_iload_n hC dX0_lookIn_0 rfl ?_
  refine z_nif_lt hC dX0_lookIn_1 ⟨28, by decide⟩ (by omega) ?_
  refine z_iload_n hC dX0_lookIn_4 rfl ?_
  refine z_aload_n hC dX0_lookIn_5 rfl ?_
  refine z_getR hC dX0_lookIn_6 (hD _) zfX0_15 rfl ?_
  refine z_alen hC dX0_lookIn_9 (hD _) (v := nI _) rfl ?_
  refine z_nicmp_ge hC dX0_lookIn_10 (tgt := 28) (by decide) (by omega) (by omega) (fun c10 => ?_) (fun c10 => ?_)
  · exfalso; omega
  refine z_aload_n hC dX0_lookIn_13 rfl ?_
  refine z_getR hC dX0_lookIn_14 (hD _) zfX0_15 rfl ?_
  refine z_iload_n hC dX0_lookIn_17 rfl ?_
  refine z_naldN hC dX0_lookIn_18 (hD _) (by omega) rfl hv ?_
  refine z_iconst hC dX0_lookIn_19 (v := nI 2) rfl ?_
  refine z_iload_n hC dX0_lookIn_20 rfl ?_
  refine z_nmul hC dX0_lookIn_21  ?_
  refine z_ishr hC dX0_lookIn_22  ?_
  refine z_iconst hC dX0_lookIn_23 (v := nI 3) rfl ?_
  refine z_iand hC dX0_lookIn_24  ?_
  rw [zbit3 hv2 hb]
  refine z_goto hC dX0_lookIn_25 (tgt := 29) (by decide) ?_
  refine z_iret hC dX0_lookIn_29 ?_
  exact hE.to (by rfl) rfl rfl rfl

theorem c_X0_chooseLook (hD : ∀ k, S 3 k = dsh k) {c g : Nat → Nat} {P : Nat → Nat × Nat} {b t M : Nat} (hb : b < 14) (ht : t ≤ 900) (hM : M ≤ 20000000) (hP : ∀ j, j ≤ t → X 3 26 j = nI (P j).1 ∧ X 3 27 j = nI (P j).2) (hPb : ∀ j, j ≤ t → (P j).1 ≤ M ∧ (P j).2 < 2 ^ 28) (hc : ∀ l, l < 3 → X 3 28 (l + 1) = nI (c (l + 1)) ∧ 1 ≤ c (l + 1) ∧ c (l + 1) ≤ 1000) (hg : ∀ l, l < 3 → X 3 29 (l + 1) = nI (g (l + 1))) (hgb : ∀ l, l ≤ 3 → g l ≤ 1000000) : zC0 mX0_chooseLook 0 [zr 3 25, zi (nI b), zi (nI t)] (none) ad S I X Y sz I (up3 (up3 X 3 26 t (nI (chN c g b P t 3).1)) 3 27 t (nI (chN c g b P t 3).2)) Y := by
  refine zgo (own := RX0) (k := 4) (by decide +kernel) rfl rfl rfl (fun C hC hnm hE => ?_)
  have hch := chN_le (c := c) (g := g) hb hPb hgb
  refine z_aload_n hC dX0_chooseLook_0 rfl ?_
  refine z_getR hC dX0_chooseLook_1 (hD _) zfX0_9 rfl ?_
  refine z_iload_n hC dX0_chooseLook_4 rfl ?_
  refine z_naldN hC dX0_chooseLook_5 (hD _) (by omega) rfl (hP t (Nat.le_refl _)).1 ?_
  refine z_istore_n hC dX0_chooseLook_6 (lo2 := [_, _, _, _, _, _, _]) (Nat.le_of_ble_eq_true rfl) rfl rfl ?_
  refine z_aload_n hC dX0_chooseLook_7 rfl ?_
  refine z_getR hC dX0_chooseLook_8 (hD _) zfX0_15 rfl ?_
  refine z_iload_n hC dX0_chooseLook_11 rfl ?_
  refine z_naldN hC dX0_chooseLook_12 (hD _) (by omega) rfl (hP t (Nat.le_refl _)).2 ?_
  refine z_istore hC dX0_chooseLook_13 (lo2 := [_, _, _, _, _, _, _]) (Nat.le_of_ble_eq_true rfl) rfl rfl ?_
  refine z_iconst hC dX0_chooseLook_15 (v := nI 1) rfl ?_
  refine z_istore hC dX0_chooseLook_16 (lo2 := [_, _, _, _, _, _, _]) (Nat.le_of_ble_eq_true rfl) rfl rfl ?_
  have loop18 : ∀ (fuel : Nat) (l : Nat), 3 - l < fuel → l ≤ 3 → zL C 7 ad S 0 0 sz I X Y 18 [some (zr 3 25), some (zi (nI b)), some (zi (nI t)), some (zi (nI (chN c g b P t l).1)), some (zi (nI (chN c g b P t l).2)), some (zi (nI (l + 1))), none] [] := by
    intro fuel
    induction fuel with
    | zero => intro l hfu; exact absurd hfu (Nat.not_lt_zero _)
    | succ fuel ih =>
      intro l hfu hl3
      have hcl0 := hch l hl3
      refine z_iload hC dX0_chooseLook_18 rfl ?_
      refine z_aload_n hC dX0_chooseLook_20 rfl ?_
      refine z_getR hC dX0_chooseLook_21 (hD _) zfX0_18 rfl ?_
      refine z_alen hC dX0_chooseLook_24 (hD _) (v := nI _) rfl ?_
      refine z_nicmp_ge hC dX0_chooseLook_25 (tgt := 107) (by decide) (by omega) (by omega) (fun c25 => ?_) (fun c25 => ?_)
      · skip
        obtain rfl : l = 3 := by omega
        refine z_aload_n hC dX0_chooseLook_107 rfl ?_
        refine z_getR hC dX0_chooseLook_108 (hD _) zfX0_9 rfl ?_
        refine z_iload_n hC dX0_chooseLook_111 rfl ?_
        refine z_iload_n hC dX0_chooseLook_112 rfl ?_
        refine z_niast hC dX0_chooseLook_113 (hD _) (by omega) rfl ?_
        refine z_aload_n hC dX0_chooseLook_114 rfl ?_
        refine z_getR hC dX0_chooseLook_115 (hD _) zfX0_15 rfl ?_
        refine z_iload_n hC dX0_chooseLook_118 rfl ?_
        refine z_iload hC dX0_chooseLook_119 rfl ?_
        refine z_niast hC dX0_chooseLook_121 (hD _) (by omega) rfl ?_
        refine z_vret hC dX0_chooseLook_122 ?_
        exact hE.to (by rfl) rfl rfl rfl
      have hl : l < 3 := by omega
      have hcl := hc l hl
      have hgl := hgb (l + 1) (by omega)
      refine z_iload_n hC dX0_chooseLook_28 rfl ?_
      refine z_aload_n hC dX0_chooseLook_29 rfl ?_
      refine z_getR hC dX0_chooseLook_30 (hD _) zfX0_18 rfl ?_
      refine z_iload hC dX0_chooseLook_33 rfl ?_
      refine z_naldN hC dX0_chooseLook_35 (hD _) (by omega) rfl hcl.1 ?_
      refine z_isub hC dX0_chooseLook_36  ?_
      refine z_istore hC dX0_chooseLook_37 (lo2 := [_, _, _, _, _, _, _]) (Nat.le_of_ble_eq_true rfl) rfl rfl ?_
      by_cases hct : c (l + 1) ≤ t
      · skip
        rw [pk_sub hct]
        have hPr := hP (t - c (l + 1)) (by omega)
        have hPq := hPb (t - c (l + 1)) (by omega)
        refine z_iload hC dX0_chooseLook_39 rfl ?_
        refine z_nif_lt hC dX0_chooseLook_41 ⟨101, by decide⟩ (by omega) ?_
        refine z_iload hC dX0_chooseLook_44 rfl ?_
        refine z_iload_n hC dX0_chooseLook_46 rfl ?_
        refine z_nicmp_ge hC dX0_chooseLook_47 (tgt := 101) (by decide) (by omega) (by omega) (fun c47 => ?_) (fun c47 => ?_)
        · exfalso; omega
        refine z_aload_n hC dX0_chooseLook_50 rfl ?_
        refine z_getR hC dX0_chooseLook_51 (hD _) zfX0_9 rfl ?_
        refine z_iload hC dX0_chooseLook_54 rfl ?_
        refine z_naldN hC dX0_chooseLook_56 (hD _) (by omega) rfl hPr.1 ?_
        refine z_aload_n hC dX0_chooseLook_57 rfl ?_
        refine z_getR hC dX0_chooseLook_58 (hD _) zfX0_21 rfl ?_
        refine z_iload hC dX0_chooseLook_61 rfl ?_
        refine z_naldN hC dX0_chooseLook_63 (hD _) (by omega) rfl (hg l hl) ?_
        refine z_nadd hC dX0_chooseLook_64  ?_
        refine z_iload_n hC dX0_chooseLook_65 rfl ?_
        refine z_nicmp_le hC dX0_chooseLook_66 (tgt := 101) (by decide) (by omega) (by omega) (fun c66 => ?_) (fun c66 => ?_)
        · skip
          refine z_ninc hC dX0_chooseLook_101 (lo2 := [_, _, _, _, _, _, _]) rfl rfl rfl rfl ?_
          refine z_goto hC dX0_chooseLook_104 (tgt := 18) (by decide) ?_
          refine z_sub ?_ (ih (l + 1) (by omega) (by omega))
          first | (rw [chN_a hct]; simp [zsub]) | (rw [chN_b c66]; simp [zsub]) | (rw [chN_c hct (Nat.not_le.mpr c66)]; simp [zsub])
        refine z_aload_n hC dX0_chooseLook_69 rfl ?_
        refine z_getR hC dX0_chooseLook_70 (hD _) zfX0_9 rfl ?_
        refine z_iload hC dX0_chooseLook_73 rfl ?_
        refine z_naldN hC dX0_chooseLook_75 (hD _) (by omega) rfl hPr.1 ?_
        refine z_aload_n hC dX0_chooseLook_76 rfl ?_
        refine z_getR hC dX0_chooseLook_77 (hD _) zfX0_21 rfl ?_
        refine z_iload hC dX0_chooseLook_80 rfl ?_
        refine z_naldN hC dX0_chooseLook_82 (hD _) (by omega) rfl (hg l hl) ?_
        refine z_nadd hC dX0_chooseLook_83  ?_
        refine z_istore_n hC dX0_chooseLook_84 (lo2 := [_, _, _, _, _, _, _]) (Nat.le_of_ble_eq_true rfl) rfl rfl ?_
        refine z_aload_n hC dX0_chooseLook_85 rfl ?_
        refine z_getR hC dX0_chooseLook_86 (hD _) zfX0_15 rfl ?_
        refine z_iload hC dX0_chooseLook_89 rfl ?_
        refine z_naldN hC dX0_chooseLook_91 (hD _) (by omega) rfl hPr.2 ?_
        refine z_iload hC dX0_chooseLook_92 rfl ?_
        refine z_iconst hC dX0_chooseLook_94 (v := nI 2) rfl ?_
        refine z_iload_n hC dX0_chooseLook_95 rfl ?_
        refine z_nmul hC dX0_chooseLook_96  ?_
        refine z_ishl hC dX0_chooseLook_97  ?_
        rw [(zshlN b hb (l + 1) (by omega)).1]
        refine z_ior hC dX0_chooseLook_98  ?_
        rw [(zorN hPq.2 (zshlN b hb (l + 1) (by omega)).2).1]
        refine z_istore hC dX0_chooseLook_99 (lo2 := [_, _, _, _, _, _, _]) (Nat.le_of_ble_eq_true rfl) rfl rfl ?_
        refine z_ninc hC dX0_chooseLook_101 (lo2 := [_, _, _, _, _, _, _]) rfl rfl rfl rfl ?_
        refine z_goto hC dX0_chooseLook_104 (tgt := 18) (by decide) ?_
        refine z_sub ?_ (ih (l + 1) (by omega) (by omega))
        first | (rw [chN_a hct]; simp [zsub]) | (rw [chN_b c66]; simp [zsub]) | (rw [chN_c hct (Nat.not_le.mpr c66)]; simp [zsub])
      · skip
        refine z_iload hC dX0_chooseLook_39 rfl ?_
        refine z_if_lt hC dX0_chooseLook_41 (tgt := 101) (by decide) (fun c41 => ?_) (fun c41 => ?_)
        rotate_left
        · exact absurd c41 (fun z => z (pk_sneg (by omega) (by omega)))
        refine z_ninc hC dX0_chooseLook_101 (lo2 := [_, _, _, _, _, _, _]) rfl rfl rfl rfl ?_
        refine z_goto hC dX0_chooseLook_104 (tgt := 18) (by decide) ?_
        refine z_sub ?_ (ih (l + 1) (by omega) (by omega))
        first | (rw [chN_a hct]; simp [zsub]) | (rw [chN_b c66]; simp [zsub]) | (rw [chN_c hct (Nat.not_le.mpr c66)]; simp [zsub])
  exact z_sub (by simp [zsub, chN]) (loop18 _ 0 (Nat.lt_succ_self _) (Nat.zero_le _))

abbrev cstN (R : RS) : Nat → Nat → Nat := fun b l => (secN (R.2.1 2 b) l + 9) / 10
abbrev gnN (w m : Nat → Nat) : Nat → Nat → Nat := fbN (wtN w m)
theorem fbN_le {f : Nat → Nat} {b l : Nat} (h : f b ≤ 1000000) : fbN f b l ≤ 1000000 := by
  have h1 := seenN_le l
  have h2 : f b * seenN l ≤ 1000000 * 90 := Nat.mul_le_mul h h1
  unfold fbN
  omega
theorem cst_b {R : RS} (hR : ROK R) {b l : Nat} (hb : b < R.1 0) : 1 ≤ cstN R b l ∧ cstN R b l ≤ 1000 := by
  have h := secN_b (l := l) (hR.2.2.2.2.2.2.1 b hb).2.2.2.1
  unfold cstN
  omega
theorem zWm.frame {n : Nat} {w m : Nat → Nat} {h : Nat} {I X I' X' : zI} (hw : zWm n w m h I X) (hI : ∀ j, I' 3 22 j = I 3 22 j) (hX : ∀ k j, 23 ≤ k → k ≤ 24 → X' 3 k j = X 3 k j) : zWm n w m h I' X' := by
  obtain ⟨h1, h2, h3, h4, h5⟩ := hw
  exact ⟨by rw [hI]; exact h1, by rw [hI]; exact h2, fun i hi => by rw [hX 23 i (by decide) (by decide)]; exact h3 i hi, fun i hi => by rw [hX 24 i (by decide) (by decide)]; exact h4 i hi, h5⟩
theorem plX_next {c g : Nat → Nat → Nat} {n q k b : Nat} {X : zI} (hb : b = n - 1 - k) : plR (mixN (plN c g n k) (plN c g n (k + 1)) 0) q (tgX (c b) (g b) (plX c g n q X k) 3) = plX c g n q X (k + 1) := by
  subst hb
  rfl
theorem plR_step2 {c g : Nat → Nat → Nat} {n q t k b : Nat} {X : zI} (h : t ≤ q) (hb : b = n - 1 - k) : up3 (up3 (plR (mixN (plN c g n k) (plN c g n (k + 1)) (t + 1)) q X) 3 26 t (nI (chN (c b) (g b) b (plN c g n k) t 3).1)) 3 27 t (nI (chN (c b) (g b) b (plN c g n k) t 3).2) = plR (mixN (plN c g n k) (plN c g n (k + 1)) t) q X := by
  subst hb
  exact plR_step (f' := plN c g n (k + 1)) h
theorem c_X0_make (hD : ∀ k, S 3 k = dsh k) (hw : zWm n w m h I X) (hm : zRm 1 R I X) (hR : ROK R) (hnR : n = R.1 0) {q : Nat} (hq : q ≤ 900) : zC0 mX0_make 6 [zr 3 25, zr 3 22, zr 3 1, zi (nI q)] (none) ad S I X Y sz I (plX (cstN R) (gnN w m) n q X n) Y := by
  refine zgo (own := RX0) (k := 3) (by decide +kernel) rfl rfl rfl (fun C hC hnm hE => ?_)
  have hn := hw.2.2.2.2.1
  have hgb : ∀ b l, b < n → l ≤ 3 → gnN w m b l ≤ 1000000 := fun b l hb hl => fbN_le (wtN_le hw hb).1
  have hpl := plN_le (c := cstN R) hn hgb
  refine z_iload_n hC dX0_make_0 rfl ?_
  refine z_sipush hC dX0_make_1 (v := nI 900) rfl ?_
  refine z_min hC dX0_make_4 (zin3 (i := 217) rfl rfl) zmW_min (Nat.le_of_ble_eq_true rfl) (Nat.le_of_ble_eq_true rfl) (Nat.le_refl _) (Nat.le_refl _) ?_
  rw [zmin2 hq (by decide)]
  refine z_istore hC dX0_make_7 (lo2 := [_, _, _, _, _, _, _]) (Nat.le_of_ble_eq_true rfl) rfl rfl ?_
  refine z_iconst hC dX0_make_9 (v := nI 0) rfl ?_
  refine z_istore hC dX0_make_10 (lo2 := [_, _, _, _, _, _, _]) (Nat.le_of_ble_eq_true rfl) rfl rfl ?_
  have loop12 : ∀ (fuel : Nat) (t : Nat), q + 1 - t < fuel → t ≤ q + 1 → zL C 7 ad S 0 0 sz I (zrow 3 26 (fun _ => 0) t (zrow 3 27 (fun _ => 0) t X)) Y 12 [some (zr 3 25), some (zr 3 22), some (zr 3 1), some (zi (nI q)), some (zi (nI q)), some (zi (nI t)), none] [] := by
    intro fuel12
    induction fuel12 with
    | zero => intro t hfu; exact absurd hfu (Nat.not_lt_zero _)
    | succ fuel12 ih12 =>
      intro t hfu htq
      refine z_iload hC dX0_make_12 rfl ?_
      refine z_iload hC dX0_make_14 rfl ?_
      refine z_nicmp_gt hC dX0_make_16 (tgt := 41) (by decide) (by omega) (by omega) (fun c16 => ?_) (fun c16 => ?_)
      · skip
        obtain rfl : t = q + 1 := by omega
        have hwk := hw
        refine z_aload_n hC dX0_make_41 rfl ?_
        refine z_getN hC dX0_make_42 (hD _) zfX0_30 rfl hwk.1 ?_
        refine z_iconst hC dX0_make_45 (v := nI 1) rfl ?_
        refine z_isub hC dX0_make_46  ?_
        refine z_istore hC dX0_make_47 (lo2 := [_, _, _, _, _, _, _]) (Nat.le_of_ble_eq_true rfl) rfl rfl ?_
        have loop49 : ∀ (fuel : Nat) (k b : Nat), b < fuel → k + b = n → zL C 7 ad S 0 0 sz I (plX (cstN R) (gnN w m) n q X k) Y 49 [some (zr 3 25), some (zr 3 22), some (zr 3 1), some (zi (nI q)), some (zi (nI q)), some (zi (nI b - nI 1)), none] [] := by
          intro fuel49
          induction fuel49 with
          | zero => intro k b hfu; exact absurd hfu (Nat.not_lt_zero _)
          | succ fuel49 ih49 =>
            intro k b hfu hkb
            refine z_iload hC dX0_make_49 rfl ?_
            rcases b with _ | b
            · skip
              refine z_if_lt hC dX0_make_51 (tgt := 138) (by decide) (fun c51 => ?_) (fun c51 => ?_)
              rotate_left
              · exact absurd c51 (by decide)
              refine z_vret hC dX0_make_138 ?_
              exact hE.to (by rfl) rfl (by rw [show n = k by omega]) rfl
            · skip
              rw [nI_prd]
              have hbn : b < n := by omega
              refine z_nif_lt hC dX0_make_51 ⟨138, by decide⟩ (by omega) ?_
              refine z_iconst hC dX0_make_54 (v := nI 1) rfl ?_
              refine z_istore hC dX0_make_55 (lo2 := [_, _, _, _, _, _, _]) (Nat.le_of_ble_eq_true rfl) rfl rfl ?_
              have loop57 : ∀ (fuel : Nat) (l : Nat), 3 - l < fuel → l ≤ 3 → zL C 7 ad S 0 0 sz I (tgX (cstN R b) (gnN w m b) (plX (cstN R) (gnN w m) n q X k) l) Y 57 [some (zr 3 25), some (zr 3 22), some (zr 3 1), some (zi (nI q)), some (zi (nI q)), some (zi (nI b)), some (zi (nI (l + 1)))] [] := by
                intro fuel57
                induction fuel57 with
                | zero => intro l hfu; exact absurd hfu (Nat.not_lt_zero _)
                | succ fuel57 ih57 =>
                  intro l hfu hl3
                  have hmk : zRm 1 R I (tgX (cstN R b) (gnN w m b) (plX (cstN R) (gnN w m) n q X k) l) := hm.frame (fun _ _ _ _ => rfl) (fun k1 j _ _ => by rw [tgX_ne (by omega), plX_ne (by omega)])
                  refine z_iload hC dX0_make_57 rfl ?_
                  refine z_aload_n hC dX0_make_59 rfl ?_
                  refine z_getR hC dX0_make_60 (hD _) zfX0_18 rfl ?_
                  refine z_alen hC dX0_make_63 (hD _) (v := nI _) rfl ?_
                  refine z_nicmp_ge hC dX0_make_64 (tgt := 109) (by decide) (by omega) (by omega) (fun c64 => ?_) (fun c64 => ?_)
                  · skip
                    obtain rfl : l = 3 := by omega
                    refine z_iload hC dX0_make_109 rfl ?_
                    refine z_istore hC dX0_make_111 (lo2 := [_, _, _, _, _, _, _]) (Nat.le_of_ble_eq_true rfl) rfl rfl ?_
                    have loop113 : ∀ (fuel : Nat) (t : Nat), t < fuel → t ≤ q + 1 → zL C 7 ad S 0 0 sz I (plR (mixN (plN (cstN R) (gnN w m) n k) (plN (cstN R) (gnN w m) n (k + 1)) t) q (tgX (cstN R b) (gnN w m b) (plX (cstN R) (gnN w m) n q X k) 3)) Y 113 [some (zr 3 25), some (zr 3 22), some (zr 3 1), some (zi (nI q)), some (zi (nI q)), some (zi (nI b)), some (zi (nI t - nI 1))] [] := by
                      intro fuel113
                      induction fuel113 with
                      | zero => intro t hfu; exact absurd hfu (Nat.not_lt_zero _)
                      | succ fuel113 ih113 =>
                        intro t hfu htq
                        refine z_iload hC dX0_make_113 rfl ?_
                        rcases t with _ | t
                        · skip
                          refine z_if_lt hC dX0_make_115 (tgt := 132) (by decide) (fun c115 => ?_) (fun c115 => ?_)
                          rotate_left
                          · exact absurd c115 (by decide)
                          refine z_iinc hC dX0_make_132 (v := -1) (lo2 := [_, _, _, _, _, _, _]) rfl rfl (Nat.le_of_ble_eq_true rfl) rfl rfl ?_
                          refine z_goto hC dX0_make_135 (tgt := 49) (by decide) ?_
                          rw [plX_next (by omega), nI_dec]
                          exact z_sub (by simp [zsub]) (ih49 (k + 1) b (by omega) (by omega))
                        · skip
                          rw [nI_prd]
                          have hP1 : ∀ j, j ≤ t → (plR (mixN (plN (cstN R) (gnN w m) n k) (plN (cstN R) (gnN w m) n (k + 1)) (t + 1)) q (tgX (cstN R b) (gnN w m b) (plX (cstN R) (gnN w m) n q X k) 3)) 3 26 j = nI ((plN (cstN R) (gnN w m) n k) j).1 ∧ (plR (mixN (plN (cstN R) (gnN w m) n k) (plN (cstN R) (gnN w m) n (k + 1)) (t + 1)) q (tgX (cstN R b) (gnN w m b) (plX (cstN R) (gnN w m) n q X k) 3)) 3 27 j = nI ((plN (cstN R) (gnN w m) n k) j).2 := fun j hj => ⟨by rw [plR_26 (by omega)]; unfold mixN; rw [if_pos (by omega)], by rw [plR_27 (by omega)]; unfold mixN; rw [if_pos (by omega)]⟩
                          have hc1 : ∀ l, l < 3 → (plR (mixN (plN (cstN R) (gnN w m) n k) (plN (cstN R) (gnN w m) n (k + 1)) (t + 1)) q (tgX (cstN R b) (gnN w m b) (plX (cstN R) (gnN w m) n q X k) 3)) 3 28 (l + 1) = nI (cstN R b (l + 1)) ∧ 1 ≤ cstN R b (l + 1) ∧ cstN R b (l + 1) ≤ 1000 := fun l hl => ⟨by rw [plR_ne (by omega), tgX_c hl], cst_b hR (hnR ▸ hbn)⟩
                          have hg1 : ∀ l, l < 3 → (plR (mixN (plN (cstN R) (gnN w m) n k) (plN (cstN R) (gnN w m) n (k + 1)) (t + 1)) q (tgX (cstN R b) (gnN w m b) (plX (cstN R) (gnN w m) n q X k) 3)) 3 29 (l + 1) = nI (gnN w m b (l + 1)) := fun l hl => by rw [plR_ne (by omega), tgX_g hl]
                          refine z_nif_lt hC dX0_make_115 ⟨132, by decide⟩ (by omega) ?_
                          refine z_aload_n hC dX0_make_118 rfl ?_
                          refine z_iload hC dX0_make_119 rfl ?_
                          refine z_iload hC dX0_make_121 rfl ?_
                          refine zV0 hC dX0_make_123 zlX0_44 (c_X0_chooseLook hD (c := cstN R b) (g := gnN w m b) (P := (plN (cstN R) (gnN w m) n k)) (M := k * 1000000) (by omega) (show t ≤ 900 by omega) (by omega) hP1 (fun j _ => hpl k (by omega) j) hc1 hg1 (fun l hl => hgb b l hbn hl)) (hD _) rfl rfl rfl rfl rfl rfl ?_
                          refine z_iinc hC dX0_make_126 (v := -1) (lo2 := [_, _, _, _, _, _, _]) rfl rfl (Nat.le_of_ble_eq_true rfl) rfl rfl ?_
                          refine z_goto hC dX0_make_129 (tgt := 113) (by decide) ?_
                          rw [plR_step2 (by omega) (by omega), nI_dec]
                          exact ih113 t (by omega) (by omega)
                    have h0 := loop113 _ (q + 1) (Nat.lt_succ_self _) (Nat.le_refl _)
                    rw [nI_prd, ← plR_plR (fun t ht => ⟨by rw [tgX_ne (by omega)]; exact plX_26 ht, by rw [tgX_ne (by omega)]; exact plX_27 ht⟩)] at h0
                    exact h0
                  have hsb := secN_b (l := l + 1) (hR.2.2.2.2.2.2.1 b (hnR ▸ hbn)).2.2.2.1
                  refine z_aload_n hC dX0_make_67 rfl ?_
                  refine z_getR hC dX0_make_68 (hD _) zfX0_18 rfl ?_
                  refine z_iload hC dX0_make_71 rfl ?_
                  refine z_aload_n hC dX0_make_73 rfl ?_
                  refine z_iload hC dX0_make_74 rfl ?_
                  refine z_iload hC dX0_make_76 rfl ?_
                  refine zVv hC dX0_make_78 zlX0_36 (c_X1_secondsOf (zRd_1 hD) hmk hR (hnR ▸ hbn) (show l + 1 ≤ 3 by omega)) (hD _) rfl rfl rfl rfl rfl rfl ?_
                  refine z_bipush hC dX0_make_81 (v := nI 9) rfl ?_
                  refine z_nadd hC dX0_make_83  ?_
                  refine z_bipush hC dX0_make_84 (v := nI 10) rfl ?_
                  refine z_ndiv hC dX0_make_86 (by omega) (by omega) (by omega) ?_
                  refine z_niast hC dX0_make_87 (hD _) (by omega) rfl ?_
                  refine z_aload_n hC dX0_make_88 rfl ?_
                  refine z_getR hC dX0_make_89 (hD _) zfX0_21 rfl ?_
                  refine z_iload hC dX0_make_92 rfl ?_
                  refine z_aload_n hC dX0_make_94 rfl ?_
                  refine z_iload hC dX0_make_95 rfl ?_
                  refine z_iload hC dX0_make_97 rfl ?_
                  have hwk2 : zWm n w m h I (up3 (tgX (cstN R b) (gnN w m b) (plX (cstN R) (gnN w m) n q X k) l) 3 28 (l + 1) (nI (cstN R b (l + 1)))) := hw.frame (fun _ => rfl) (fun k1 j _ _ => by rw [up3_ne (by omega), tgX_ne (by omega), plX_ne (by omega)])
                  refine zVv hC dX0_make_99 zlX0_41 (c_X5_foundBy hD hwk2 hbn (show l + 1 ≤ 3 by omega)) (hD _) rfl rfl rfl rfl rfl rfl ?_
                  refine z_niast hC dX0_make_102 (hD _) (by omega) rfl ?_
                  refine z_ninc hC dX0_make_103 (lo2 := [_, _, _, _, _, _, _]) rfl rfl rfl rfl ?_
                  refine z_goto hC dX0_make_106 (tgt := 57) (by decide) ?_
                  exact ih57 (l + 1) (by omega) (by omega)
              exact z_sub (by simp [zsub, tgX]) (loop57 _ 0 (Nat.lt_succ_self _) (Nat.zero_le _))
        exact z_sub (by simp [zsub]) (loop49 _ 0 n (Nat.lt_succ_self _) (by omega))
      refine z_aload_n hC dX0_make_19 rfl ?_
      refine z_getR hC dX0_make_20 (hD _) zfX0_9 rfl ?_
      refine z_iload hC dX0_make_23 rfl ?_
      refine z_iconst hC dX0_make_25 (v := nI 0) rfl ?_
      refine z_niast hC dX0_make_26 (hD _) (by omega) rfl ?_
      refine z_aload_n hC dX0_make_27 rfl ?_
      refine z_getR hC dX0_make_28 (hD _) zfX0_15 rfl ?_
      refine z_iload hC dX0_make_31 rfl ?_
      refine z_iconst hC dX0_make_33 (v := nI 0) rfl ?_
      refine z_niast hC dX0_make_34 (hD _) (by omega) rfl ?_
      refine z_ninc hC dX0_make_35 (lo2 := [_, _, _, _, _, _, _]) rfl rfl rfl rfl ?_
      refine z_goto hC dX0_make_38 (tgt := 12) (by decide) ?_
      rw [show nI 0 = nI ((fun _ : Nat => 0) t) from rfl, zrow_s, zrow_up (by omega), zrow_s]
      exact ih12 (t + 1) (by omega) (by omega)
  have h0 := loop12 _ 0 (Nat.lt_succ_self _) (Nat.zero_le _)
  rw [zrow_0, zrow_0] at h0
  exact z_sub (by simp [zsub]) h0

end
