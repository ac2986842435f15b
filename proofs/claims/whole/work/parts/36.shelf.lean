/-! Shelf -/
abbrev inB (x : Int32) (n : Nat) : Prop := 0 ≤ x ∧ x < nI n
theorem inB_n {x : Int32} {n : Nat} (h : inB x n) (hn : n < 2 ^ 31) : ∃ i, i < n ∧ x = nI i := by
  have h0 : (0 : Int) ≤ x.toInt := by simpa using Int32.le_iff_toInt_le.mp h.1
  have h1 : x = nI x.toInt.toNat := by
    apply Int32.toInt_inj.mp
    have := Int32.toInt_lt x
    rw [nI_toInt (by omega)]
    omega
  refine ⟨x.toInt.toNat, ?_, h1⟩
  have h2 := h.2
  rw [h1] at h2
  have := Int32.toInt_lt x
  exact (nI_ltI (by omega) hn).mp h2
theorem inB_of {i n : Nat} (h : i < n) (hn : n < 2 ^ 31) : inB (nI i) n := ⟨nI_pos' (by omega), (nI_ltI (by omega) hn).mpr h⟩
def fitL (q : Nat) (v : Int64) : Int64 := if q = 0 then v.toInt32.toInt8.toInt32.toInt64 else if q = 1 then v.toInt32.toInt16.toInt32.toInt64 else if q = 2 then v.toInt32.toInt64 else if q = 4 then (if v = 0 then 0 else 1) else v
theorem zlcmp0 {v : Int64} : lg_cmp v (lN 0) = 0 ↔ v = 0 := by
  rw [show lN 0 = 0 by decide]
  unfold lg_cmp
  constructor
  · intro h
    split at h
    · exact absurd h (by decide)
    · split at h
      · assumption
      · exact absurd h (by decide)
  · intro h
    subst h
    decide
section
variable {ad : zA} {S : zSh} {I X : zI} {Y : zY} {sz : Nat} {k c : Nat}

theorem c_X6_isWithin {x a b : Int32} : zC0 mX6_isWithin 0 [zi x, zi a, zi b] (some (zi (zb (a ≤ x ∧ x ≤ b) inferInstance))) ad S I X Y sz I X Y := by
  refine zgo (own := RX6) (k := 0) (by decide +kernel) rfl rfl rfl (fun C hC hnm hE => ?_)
  refine z_iload_n hC dX6_isWithin_0 rfl ?_
  refine z_iload_n hC dX6_isWithin_1 rfl ?_
  refine z_icmp_lt hC dX6_isWithin_2 (tgt := 14) (by decide) (fun c2 => ?_) (fun c2 => ?_)
  · skip
    refine z_iconst hC dX6_isWithin_14 (v := nI 0) rfl ?_
    refine z_zret hC dX6_isWithin_15 rfl ?_
    exact hE.to (by first | exact zbT ⟨Int32.not_lt.mp c2, Int32.not_lt.mp c7⟩ | exact zbF (fun h => absurd c2 (Int32.not_lt.mpr h.1)) | exact zbF (fun h => absurd c7 (Int32.not_lt.mpr h.2))) rfl rfl rfl
  refine z_iload_n hC dX6_isWithin_5 rfl ?_
  refine z_iload_n hC dX6_isWithin_6 rfl ?_
  refine z_icmp_gt hC dX6_isWithin_7 (tgt := 14) (by decide) (fun c7 => ?_) (fun c7 => ?_)
  · skip
    refine z_iconst hC dX6_isWithin_14 (v := nI 0) rfl ?_
    refine z_zret hC dX6_isWithin_15 rfl ?_
    exact hE.to (by first | exact zbT ⟨Int32.not_lt.mp c2, Int32.not_lt.mp c7⟩ | exact zbF (fun h => absurd c2 (Int32.not_lt.mpr h.1)) | exact zbF (fun h => absurd c7 (Int32.not_lt.mpr h.2))) rfl rfl rfl
  refine z_iconst hC dX6_isWithin_10 (v := nI 1) rfl ?_
  refine z_goto hC dX6_isWithin_11 (tgt := 15) (by decide) ?_
  refine z_zret hC dX6_isWithin_15 rfl ?_
  exact hE.to (by first | exact zbT ⟨Int32.not_lt.mp c2, Int32.not_lt.mp c7⟩ | exact zbF (fun h => absurd c2 (Int32.not_lt.mpr h.1)) | exact zbF (fun h => absurd c7 (Int32.not_lt.mpr h.2))) rfl rfl rfl

theorem c_isEmpty_n (hS : S 3 k = some (ssh c)) (hh : I 3 k 0 = -1)  : zC0 mX2_isEmpty 0 [zr 3 k] (some (zi (nI 1))) ad S I X Y sz I X Y := by
  refine zgo (own := RX2) (k := 0) (by decide +kernel) rfl rfl rfl (fun C hC hnm hE => ?_)
  refine z_aload_n hC dX2_isEmpty_0 rfl ?_
  refine z_getI hC dX2_isEmpty_1 hS zfX2_9 rfl ?_
  refine z_iconst hC dX2_isEmpty_4 (v := -1) rfl ?_
  refine z_icmp_ne hC dX2_isEmpty_5 (tgt := 12) (by decide) (fun c5 => ?_) (fun c5 => ?_)
  · exact absurd c5 (fun z => z hh)
  refine z_iconst hC dX2_isEmpty_8 (v := nI 1) rfl ?_
  refine z_goto hC dX2_isEmpty_9 (tgt := 13) (by decide) ?_
  refine z_zret hC dX2_isEmpty_13 rfl ?_
  exact hE.to (by rfl) rfl rfl rfl

theorem c_isEmpty_r (hS : S 3 k = some (ssh c)) {q : Nat} (hh : I 3 k 0 = nI q) (hq : q < 24) : zC0 mX2_isEmpty 0 [zr 3 k] (some (zi (nI 0))) ad S I X Y sz I X Y := by
  refine zgo (own := RX2) (k := 0) (by decide +kernel) rfl rfl rfl (fun C hC hnm hE => ?_)
  refine z_aload_n hC dX2_isEmpty_0 rfl ?_
  refine z_getI hC dX2_isEmpty_1 hS zfX2_9 rfl ?_
  refine z_iconst hC dX2_isEmpty_4 (v := -1) rfl ?_
  refine z_icmp_ne hC dX2_isEmpty_5 (tgt := 12) (by decide) (fun c5 => ?_) (fun c5 => ?_)
  rotate_left
  · exact absurd c5 (by rw [hh]; exact zne1 (by omega))
  refine z_iconst hC dX2_isEmpty_12 (v := nI 0) rfl ?_
  refine z_zret hC dX2_isEmpty_13 rfl ?_
  exact hE.to (by rfl) rfl rfl rfl

theorem c_isRow_n (hS : S 3 k = some (ssh c)) (hh : I 3 k 0 = -1)  : zC0 mX2_isRow 0 [zr 3 k] (some (zi (nI 0))) ad S I X Y sz I X Y := by
  refine zgo (own := RX2) (k := 0) (by decide +kernel) rfl rfl rfl (fun C hC hnm hE => ?_)
  refine z_aload_n hC dX2_isRow_0 rfl ?_
  refine z_getI hC dX2_isRow_1 hS zfX2_9 rfl ?_
  refine z_if_lt hC dX2_isRow_4 (tgt := 19) (by decide) (fun c4 => ?_) (fun c4 => ?_)
  rotate_left
  · exact absurd c4 (fun z => z (by rw [hh]; decide))
  refine z_iconst hC dX2_isRow_19 (v := nI 0) rfl ?_
  refine z_zret hC dX2_isRow_20 rfl ?_
  exact hE.to (by rfl) rfl rfl rfl

theorem c_isRow_r (hS : S 3 k = some (ssh c)) {q : Nat} (hh : I 3 k 0 = nI q) (hq : q ≤ 4)  : zC0 mX2_isRow 0 [zr 3 k] (some (zi (nI 1))) ad S I X Y sz I X Y := by
  refine zgo (own := RX2) (k := 0) (by decide +kernel) rfl rfl rfl (fun C hC hnm hE => ?_)
  refine z_aload_n hC dX2_isRow_0 rfl ?_
  refine z_getN hC dX2_isRow_1 hS zfX2_9 rfl hh ?_
  refine z_nif_lt hC dX2_isRow_4 ⟨19, by decide⟩ (by omega) ?_
  refine z_aload_n hC dX2_isRow_7 rfl ?_
  refine z_getN hC dX2_isRow_8 hS zfX2_9 rfl hh ?_
  refine z_iconst hC dX2_isRow_11 (v := nI 4) rfl ?_
  refine z_nicmp_gt hC dX2_isRow_12 (tgt := 19) (by decide) (by omega) (by omega) (fun c12 => ?_) (fun c12 => ?_)
  · exfalso; omega
  refine z_iconst hC dX2_isRow_15 (v := nI 1) rfl ?_
  refine z_goto hC dX2_isRow_16 (tgt := 20) (by decide) ?_
  refine z_zret hC dX2_isRow_20 rfl ?_
  exact hE.to (by rfl) rfl rfl rfl

theorem c_isRow_b (hS : S 3 k = some (ssh c)) {b : Nat} (hh : I 3 k 0 = nI (10 + b)) (hb : b < 14)  : zC0 mX2_isRow 0 [zr 3 k] (some (zi (nI 0))) ad S I X Y sz I X Y := by
  refine zgo (own := RX2) (k := 0) (by decide +kernel) rfl rfl rfl (fun C hC hnm hE => ?_)
  refine z_aload_n hC dX2_isRow_0 rfl ?_
  refine z_getN hC dX2_isRow_1 hS zfX2_9 rfl hh ?_
  refine z_nif_lt hC dX2_isRow_4 ⟨19, by decide⟩ (by omega) ?_
  refine z_aload_n hC dX2_isRow_7 rfl ?_
  refine z_getN hC dX2_isRow_8 hS zfX2_9 rfl hh ?_
  refine z_iconst hC dX2_isRow_11 (v := nI 4) rfl ?_
  refine z_nicmp_gt hC dX2_isRow_12 (tgt := 19) (by decide) (by omega) (by omega) (fun c12 => ?_) (fun c12 => ?_)
  rotate_left
  · exfalso; omega
  refine z_iconst hC dX2_isRow_19 (v := nI 0) rfl ?_
  refine z_zret hC dX2_isRow_20 rfl ?_
  exact hE.to (by rfl) rfl rfl rfl

theorem c_isBend_n (hS : S 3 k = some (ssh c)) (hh : I 3 k 0 = -1)  : zC0 mX2_isBend 0 [zr 3 k] (some (zi (nI 0))) ad S I X Y sz I X Y := by
  refine zgo (own := RX2) (k := 0) (by decide +kernel) rfl rfl rfl (fun C hC hnm hE => ?_)
  refine z_aload_n hC dX2_isBend_0 rfl ?_
  refine z_getI hC dX2_isBend_1 hS zfX2_9 rfl ?_
  refine z_bipush hC dX2_isBend_4 (v := nI 10) rfl ?_
  refine z_icmp_lt hC dX2_isBend_6 (tgt := 13) (by decide) (fun c6 => ?_) (fun c6 => ?_)
  rotate_left
  · exact absurd c6 (fun z => z (by rw [hh]; decide))
  refine z_iconst hC dX2_isBend_13 (v := nI 0) rfl ?_
  refine z_zret hC dX2_isBend_14 rfl ?_
  exact hE.to (by rfl) rfl rfl rfl

theorem c_isBend_r (hS : S 3 k = some (ssh c)) {q : Nat} (hh : I 3 k 0 = nI q) (hq : q ≤ 4)  : zC0 mX2_isBend 0 [zr 3 k] (some (zi (nI 0))) ad S I X Y sz I X Y := by
  refine zgo (own := RX2) (k := 0) (by decide +kernel) rfl rfl rfl (fun C hC hnm hE => ?_)
  refine z_aload_n hC dX2_isBend_0 rfl ?_
  refine z_getN hC dX2_isBend_1 hS zfX2_9 rfl hh ?_
  refine z_bipush hC dX2_isBend_4 (v := nI 10) rfl ?_
  refine z_nicmp_lt hC dX2_isBend_6 (tgt := 13) (by decide) (by omega) (by omega) (fun c6 => ?_) (fun c6 => ?_)
  rotate_left
  · exfalso; omega
  refine z_iconst hC dX2_isBend_13 (v := nI 0) rfl ?_
  refine z_zret hC dX2_isBend_14 rfl ?_
  exact hE.to (by rfl) rfl rfl rfl

theorem c_isBend_b (hS : S 3 k = some (ssh c)) {b : Nat} (hh : I 3 k 0 = nI (10 + b)) (hb : b < 14)  : zC0 mX2_isBend 0 [zr 3 k] (some (zi (nI 1))) ad S I X Y sz I X Y := by
  refine zgo (own := RX2) (k := 0) (by decide +kernel) rfl rfl rfl (fun C hC hnm hE => ?_)
  refine z_aload_n hC dX2_isBend_0 rfl ?_
  refine z_getN hC dX2_isBend_1 hS zfX2_9 rfl hh ?_
  refine z_bipush hC dX2_isBend_4 (v := nI 10) rfl ?_
  refine z_nicmp_lt hC dX2_isBend_6 (tgt := 13) (by decide) (by omega) (by omega) (fun c6 => ?_) (fun c6 => ?_)
  · exfalso; omega
  refine z_iconst hC dX2_isBend_9 (v := nI 1) rfl ?_
  refine z_goto hC dX2_isBend_10 (tgt := 14) (by decide) ?_
  refine z_zret hC dX2_isBend_14 rfl ?_
  exact hE.to (by rfl) rfl rfl rfl

theorem c_bendNumber_n (hS : S 3 k = some (ssh c)) (hh : I 3 k 0 = -1)  : zC0 mX2_bendNumber 1 [zr 3 k] (some (zi (-1))) ad S I X Y sz I X Y := by
  refine zgo (own := RX2) (k := 0) (by decide +kernel) rfl rfl rfl (fun C hC hnm hE => ?_)
  refine z_aload_n hC dX2_bendNumber_0 rfl ?_
  refine zVv hC dX2_bendNumber_1 zlX2_19 (c_isBend_n hS hh) hS rfl rfl rfl rfl rfl rfl ?_
  refine z_nif_eq hC dX2_bendNumber_4 (tgt := 17) (by decide) (by omega) (fun c4 => ?_) (fun c4 => ?_)
  rotate_left
  · exfalso; omega
  refine z_iconst hC dX2_bendNumber_17 (v := -1) rfl ?_
  refine z_iret hC dX2_bendNumber_18 ?_
  exact hE.to (by rfl) rfl rfl rfl

theorem c_bendNumber_r (hS : S 3 k = some (ssh c)) {q : Nat} (hh : I 3 k 0 = nI q) (hq : q ≤ 4)  : zC0 mX2_bendNumber 1 [zr 3 k] (some (zi (-1))) ad S I X Y sz I X Y := by
  refine zgo (own := RX2) (k := 0) (by decide +kernel) rfl rfl rfl (fun C hC hnm hE => ?_)
  refine z_aload_n hC dX2_bendNumber_0 rfl ?_
  refine zVv hC dX2_bendNumber_1 zlX2_19 (c_isBend_r hS hh hq) hS rfl rfl rfl rfl rfl rfl ?_
  refine z_nif_eq hC dX2_bendNumber_4 (tgt := 17) (by decide) (by omega) (fun c4 => ?_) (fun c4 => ?_)
  rotate_left
  · exfalso; omega
  refine z_iconst hC dX2_bendNumber_17 (v := -1) rfl ?_
  refine z_iret hC dX2_bendNumber_18 ?_
  exact hE.to (by rfl) rfl rfl rfl

theorem c_bendNumber_b (hS : S 3 k = some (ssh c)) {b : Nat} (hh : I 3 k 0 = nI (10 + b)) (hb : b < 14)  : zC0 mX2_bendNumber 1 [zr 3 k] (some (zi (nI b))) ad S I X Y sz I X Y := by
  refine zgo (own := RX2) (k := 0) (by decide +kernel) rfl rfl rfl (fun C hC hnm hE => ?_)
  refine z_aload_n hC dX2_bendNumber_0 rfl ?_
  refine zVv hC dX2_bendNumber_1 zlX2_19 (c_isBend_b hS hh hb) hS rfl rfl rfl rfl rfl rfl ?_
  refine z_nif_eq hC dX2_bendNumber_4 (tgt := 17) (by decide) (by omega) (fun c4 => ?_) (fun c4 => ?_)
  · exfalso; omega
  refine z_aload_n hC dX2_bendNumber_7 rfl ?_
  refine z_getN hC dX2_bendNumber_8 hS zfX2_9 rfl hh ?_
  refine z_bipush hC dX2_bendNumber_11 (v := nI 10) rfl ?_
  refine z_nsub hC dX2_bendNumber_13 (by omega) ?_
  refine z_goto hC dX2_bendNumber_14 (tgt := 18) (by decide) ?_
  refine z_iret hC dX2_bendNumber_18 ?_
  exact hE.to (by rw [show 10 + b - 10 = b by omega]) rfl rfl rfl

theorem c_hasElement_n (hS : S 3 k = some (ssh c)) (hh : I 3 k 0 = -1) {x : Int32} : zC0 mX2_hasElement 1 [zr 3 k, zi x] (some (zi (nI 0))) ad S I X Y sz I X Y := by
  refine zgo (own := RX2) (k := 0) (by decide +kernel) rfl rfl rfl (fun C hC hnm hE => ?_)
  refine z_aload_n hC dX2_hasElement_0 rfl ?_
  refine zVv hC dX2_hasElement_1 zlX2_26 (c_isRow_n hS hh) hS rfl rfl rfl rfl rfl rfl ?_
  refine z_nif_eq hC dX2_hasElement_4 (tgt := 23) (by decide) (by omega) (fun c4 => ?_) (fun c4 => ?_)
  rotate_left
  · exfalso; omega
  refine z_iconst hC dX2_hasElement_23 (v := nI 0) rfl ?_
  refine z_zret hC dX2_hasElement_24 rfl ?_
  exact hE.to (by rfl) rfl rfl rfl

theorem c_elementAt_n (hS : S 3 k = some (ssh c)) (hh : I 3 k 0 = -1) {x : Int32} : zC0 mX2_elementAt 2 [zr 3 k, zi x] (some (zl 0)) ad S I X Y sz I X Y := by
  refine zgo (own := RX2) (k := 0) (by decide +kernel) rfl rfl rfl (fun C hC hnm hE => ?_)
  refine z_aload_n hC dX2_elementAt_0 rfl ?_
  refine z_iload_n hC dX2_elementAt_1 rfl ?_
  refine zVv hC dX2_elementAt_2 zlX2_29 (c_hasElement_n hS hh) hS rfl rfl rfl rfl rfl rfl ?_
  refine z_nif_eq hC dX2_elementAt_5 (tgt := 26) (by decide) (by omega) (fun c5 => ?_) (fun c5 => ?_)
  rotate_left
  · exfalso; omega
  refine z_lconst hC dX2_elementAt_26 (v := lN 0) rfl ?_
  refine z_lret hC dX2_elementAt_27 ?_
  exact hE.to (by rfl) rfl rfl rfl

theorem c_hasElement_b (hS : S 3 k = some (ssh c)) {b : Nat} (hh : I 3 k 0 = nI (10 + b)) (hb : b < 14) {x : Int32} : zC0 mX2_hasElement 1 [zr 3 k, zi x] (some (zi (nI 0))) ad S I X Y sz I X Y := by
  refine zgo (own := RX2) (k := 0) (by decide +kernel) rfl rfl rfl (fun C hC hnm hE => ?_)
  refine z_aload_n hC dX2_hasElement_0 rfl ?_
  refine zVv hC dX2_hasElement_1 zlX2_26 (c_isRow_b hS hh hb) hS rfl rfl rfl rfl rfl rfl ?_
  refine z_nif_eq hC dX2_hasElement_4 (tgt := 23) (by decide) (by omega) (fun c4 => ?_) (fun c4 => ?_)
  rotate_left
  · exfalso; omega
  refine z_iconst hC dX2_hasElement_23 (v := nI 0) rfl ?_
  refine z_zret hC dX2_hasElement_24 rfl ?_
  exact hE.to (by rfl) rfl rfl rfl

theorem c_elementAt_b (hS : S 3 k = some (ssh c)) {b : Nat} (hh : I 3 k 0 = nI (10 + b)) (hb : b < 14) {x : Int32} : zC0 mX2_elementAt 2 [zr 3 k, zi x] (some (zl 0)) ad S I X Y sz I X Y := by
  refine zgo (own := RX2) (k := 0) (by decide +kernel) rfl rfl rfl (fun C hC hnm hE => ?_)
  refine z_aload_n hC dX2_elementAt_0 rfl ?_
  refine z_iload_n hC dX2_elementAt_1 rfl ?_
  refine zVv hC dX2_elementAt_2 zlX2_29 (c_hasElement_b hS hh hb) hS rfl rfl rfl rfl rfl rfl ?_
  refine z_nif_eq hC dX2_elementAt_5 (tgt := 26) (by decide) (by omega) (fun c5 => ?_) (fun c5 => ?_)
  rotate_left
  · exfalso; omega
  refine z_lconst hC dX2_elementAt_26 (v := lN 0) rfl ?_
  refine z_lret hC dX2_elementAt_27 ?_
  exact hE.to (by rfl) rfl rfl rfl

theorem c_hasElement_t (hS : S 3 k = some (ssh c)) {q : Nat} (hh : I 3 k 0 = nI q) (hq : q ≤ 4) {n : Nat} (hn : I 3 k 1 = nI n) (hn40 : n ≤ 40) {i : Nat} (hi : i < n) : zC0 mX2_hasElement 1 [zr 3 k, zi (nI i)] (some (zi (nI 1))) ad S I X Y sz I X Y := by
  refine zgo (own := RX2) (k := 0) (by decide +kernel) rfl rfl rfl (fun C hC hnm hE => ?_)
  refine z_aload_n hC dX2_hasElement_0 rfl ?_
  refine zVv hC dX2_hasElement_1 zlX2_26 (c_isRow_r hS hh hq) hS rfl rfl rfl rfl rfl rfl ?_
  refine z_nif_eq hC dX2_hasElement_4 (tgt := 23) (by decide) (by omega) (fun c4 => ?_) (fun c4 => ?_)
  · exfalso; omega
  refine z_iload_n hC dX2_hasElement_7 rfl ?_
  refine z_nif_lt hC dX2_hasElement_8 ⟨23, by decide⟩ (by omega) ?_
  refine z_iload_n hC dX2_hasElement_11 rfl ?_
  refine z_aload_n hC dX2_hasElement_12 rfl ?_
  refine z_getN hC dX2_hasElement_13 hS zfX2_23 rfl hn ?_
  refine z_nicmp_ge hC dX2_hasElement_16 (tgt := 23) (by decide) (by omega) (by omega) (fun c16 => ?_) (fun c16 => ?_)
  · exfalso; omega
  refine z_iconst hC dX2_hasElement_19 (v := nI 1) rfl ?_
  refine z_goto hC dX2_hasElement_20 (tgt := 24) (by decide) ?_
  refine z_zret hC dX2_hasElement_24 rfl ?_
  exact hE.to (by rfl) rfl rfl rfl

theorem c_hasElement_f (hS : S 3 k = some (ssh c)) {q : Nat} (hh : I 3 k 0 = nI q) (hq : q ≤ 4) {n : Nat} (hn : I 3 k 1 = nI n) (hn40 : n ≤ 40) {x : Int32} (hx : ¬ inB x n) : zC0 mX2_hasElement 1 [zr 3 k, zi x] (some (zi (nI 0))) ad S I X Y sz I X Y := by
  refine zgo (own := RX2) (k := 0) (by decide +kernel) rfl rfl rfl (fun C hC hnm hE => ?_)
  refine z_aload_n hC dX2_hasElement_0 rfl ?_
  refine zVv hC dX2_hasElement_1 zlX2_26 (c_isRow_r hS hh hq) hS rfl rfl rfl rfl rfl rfl ?_
  refine z_nif_eq hC dX2_hasElement_4 (tgt := 23) (by decide) (by omega) (fun c4 => ?_) (fun c4 => ?_)
  · exfalso; omega
  refine z_iload_n hC dX2_hasElement_7 rfl ?_
  refine z_if_lt hC dX2_hasElement_8 (tgt := 23) (by decide) (fun c8 => ?_) (fun c8 => ?_)
  · skip
    refine z_iconst hC dX2_hasElement_23 (v := nI 0) rfl ?_
    refine z_zret hC dX2_hasElement_24 rfl ?_
    exact hE.to (by rfl) rfl rfl rfl
  refine z_iload_n hC dX2_hasElement_11 rfl ?_
  refine z_aload_n hC dX2_hasElement_12 rfl ?_
  refine z_getI hC dX2_hasElement_13 hS zfX2_23 rfl ?_
  refine z_icmp_ge hC dX2_hasElement_16 (tgt := 23) (by decide) (fun c16 => ?_) (fun c16 => ?_)
  rotate_left
  · exact absurd c16 (fun z => hx ⟨Int32.not_lt.mp c8, by rw [← hn]; exact Int32.not_le.mp z⟩)
  refine z_iconst hC dX2_hasElement_23 (v := nI 0) rfl ?_
  refine z_zret hC dX2_hasElement_24 rfl ?_
  exact hE.to (by rfl) rfl rfl rfl

theorem c_elementAt_t (hS : S 3 k = some (ssh c)) (hS2 : S 3 c = some (.inl (1, 40))) {q : Nat} (hh : I 3 k 0 = nI q) (hq : q ≤ 4) {n : Nat} (hn : I 3 k 1 = nI n) (hn40 : n ≤ 40) {i : Nat} (hi : i < n) : zC0 mX2_elementAt 2 [zr 3 k, zi (nI i)] (some (zl (Y 3 c i))) ad S I X Y sz I X Y := by
  refine zgo (own := RX2) (k := 0) (by decide +kernel) rfl rfl rfl (fun C hC hnm hE => ?_)
  refine z_aload_n hC dX2_elementAt_0 rfl ?_
  refine z_iload_n hC dX2_elementAt_1 rfl ?_
  refine zVv hC dX2_elementAt_2 zlX2_29 (c_hasElement_t hS hh hq hn hn40 hi) hS rfl rfl rfl rfl rfl rfl ?_
  refine z_nif_eq hC dX2_elementAt_5 (tgt := 26) (by decide) (by omega) (fun c5 => ?_) (fun c5 => ?_)
  · exfalso; omega
  refine z_iload_n hC dX2_elementAt_8 rfl ?_
  refine z_aload_n hC dX2_elementAt_9 rfl ?_
  refine z_getR hC dX2_elementAt_10 hS zfX2_15 rfl ?_
  refine z_alen hC dX2_elementAt_13 hS2 (v := nI _) rfl ?_
  refine z_nicmp_ge hC dX2_elementAt_14 (tgt := 26) (by decide) (by omega) (by omega) (fun c14 => ?_) (fun c14 => ?_)
  · exfalso; omega
  refine z_aload_n hC dX2_elementAt_17 rfl ?_
  refine z_getR hC dX2_elementAt_18 hS zfX2_15 rfl ?_
  refine z_iload_n hC dX2_elementAt_21 rfl ?_
  refine z_nlald hC dX2_elementAt_22 hS2 (by omega) rfl ?_
  refine z_goto hC dX2_elementAt_23 (tgt := 27) (by decide) ?_
  refine z_lret hC dX2_elementAt_27 ?_
  exact hE.to (by rfl) rfl rfl rfl

theorem c_elementAt_f (hS : S 3 k = some (ssh c)) {q : Nat} (hh : I 3 k 0 = nI q) (hq : q ≤ 4) {n : Nat} (hn : I 3 k 1 = nI n) (hn40 : n ≤ 40) {x : Int32} (hx : ¬ inB x n) : zC0 mX2_elementAt 2 [zr 3 k, zi x] (some (zl 0)) ad S I X Y sz I X Y := by
  refine zgo (own := RX2) (k := 0) (by decide +kernel) rfl rfl rfl (fun C hC hnm hE => ?_)
  refine z_aload_n hC dX2_elementAt_0 rfl ?_
  refine z_iload_n hC dX2_elementAt_1 rfl ?_
  refine zVv hC dX2_elementAt_2 zlX2_29 (c_hasElement_f hS hh hq hn hn40 hx) hS rfl rfl rfl rfl rfl rfl ?_
  refine z_nif_eq hC dX2_elementAt_5 (tgt := 26) (by decide) (by omega) (fun c5 => ?_) (fun c5 => ?_)
  rotate_left
  · exfalso; omega
  refine z_lconst hC dX2_elementAt_26 (v := lN 0) rfl ?_
  refine z_lret hC dX2_elementAt_27 ?_
  exact hE.to (by rfl) rfl rfl rfl

theorem c_hasElements_t (hS : S 3 k = some (ssh c)) {q : Nat} (hh : I 3 k 0 = nI q) (hq : q ≤ 4) {n : Nat} (hn : I 3 k 1 = nI n) (hn40 : n ≤ 40) {i m : Nat} (hi : i + m ≤ n) : zC0 mX2_hasElements 1 [zr 3 k, zi (nI i), zi (nI m)] (some (zi (nI 1))) ad S I X Y sz I X Y := by
  refine zgo (own := RX2) (k := 0) (by decide +kernel) rfl rfl rfl (fun C hC hnm hE => ?_)
  refine z_aload_n hC dX2_hasElements_0 rfl ?_
  refine zVv hC dX2_hasElements_1 zlX2_26 (c_isRow_r hS hh hq) hS rfl rfl rfl rfl rfl rfl ?_
  refine z_nif_eq hC dX2_hasElements_4 (tgt := 37) (by decide) (by omega) (fun c4 => ?_) (fun c4 => ?_)
  · exfalso; omega
  refine z_iload_n hC dX2_hasElements_7 rfl ?_
  refine z_nif_lt hC dX2_hasElements_8 ⟨37, by decide⟩ (by omega) ?_
  refine z_iload_n hC dX2_hasElements_11 rfl ?_
  refine z_nif_lt hC dX2_hasElements_12 ⟨37, by decide⟩ (by omega) ?_
  refine z_iload_n hC dX2_hasElements_15 rfl ?_
  refine z_aload_n hC dX2_hasElements_16 rfl ?_
  refine z_getN hC dX2_hasElements_17 hS zfX2_23 rfl hn ?_
  refine z_nicmp_gt hC dX2_hasElements_20 (tgt := 37) (by decide) (by omega) (by omega) (fun c20 => ?_) (fun c20 => ?_)
  · exfalso; omega
  refine z_iload_n hC dX2_hasElements_23 rfl ?_
  refine z_aload_n hC dX2_hasElements_24 rfl ?_
  refine z_getN hC dX2_hasElements_25 hS zfX2_23 rfl hn ?_
  refine z_iload_n hC dX2_hasElements_28 rfl ?_
  refine z_nsub hC dX2_hasElements_29 (by omega) ?_
  refine z_nicmp_gt hC dX2_hasElements_30 (tgt := 37) (by decide) (by omega) (by omega) (fun c30 => ?_) (fun c30 => ?_)
  · exfalso; omega
  refine z_iconst hC dX2_hasElements_33 (v := nI 1) rfl ?_
  refine z_goto hC dX2_hasElements_34 (tgt := 38) (by decide) ?_
  refine z_zret hC dX2_hasElements_38 rfl ?_
  exact hE.to (by rfl) rfl rfl rfl

theorem zlt_s {x : Int32} {n : Nat} (hn : n ≤ 40) (h : x ≤ nI n) : x < nI (n + 1) := Int32.lt_of_le_of_lt h ((nI_ltI (by omega) (by omega)).mpr (Nat.lt_succ_self _))
theorem zti {i : Nat} (h : i < 2 ^ 31) : (nI i).toInt.toNat = i := by rw [nI_toInt h]; rfl
theorem c_hasElements_f (hS : S 3 k = some (ssh c)) {q : Nat} (hh : I 3 k 0 = nI q) (hq : q ≤ 4) {n : Nat} (hn : I 3 k 1 = nI n) (hn40 : n ≤ 40) {x y : Int32} (hx : ¬ (inB x (n + 1) ∧ inB y (n + 1 - x.toInt.toNat))) : zC0 mX2_hasElements 1 [zr 3 k, zi x, zi y] (some (zi (nI 0))) ad S I X Y sz I X Y := by
  refine zgo (own := RX2) (k := 0) (by decide +kernel) rfl rfl rfl (fun C hC hnm hE => ?_)
  refine z_aload_n hC dX2_hasElements_0 rfl ?_
  refine zVv hC dX2_hasElements_1 zlX2_26 (c_isRow_r hS hh hq) hS rfl rfl rfl rfl rfl rfl ?_
  refine z_nif_eq hC dX2_hasElements_4 (tgt := 37) (by decide) (by omega) (fun c4 => ?_) (fun c4 => ?_)
  · exfalso; omega
  refine z_iload_n hC dX2_hasElements_7 rfl ?_
  refine z_if_lt hC dX2_hasElements_8 (tgt := 37) (by decide) (fun c8 => ?_) (fun c8 => ?_)
  · skip
    refine z_iconst hC dX2_hasElements_37 (v := nI 0) rfl ?_
    refine z_zret hC dX2_hasElements_38 rfl ?_
    exact hE.to (by rfl) rfl rfl rfl
  refine z_iload_n hC dX2_hasElements_11 rfl ?_
  refine z_if_lt hC dX2_hasElements_12 (tgt := 37) (by decide) (fun c12 => ?_) (fun c12 => ?_)
  · skip
    refine z_iconst hC dX2_hasElements_37 (v := nI 0) rfl ?_
    refine z_zret hC dX2_hasElements_38 rfl ?_
    exact hE.to (by rfl) rfl rfl rfl
  refine z_iload_n hC dX2_hasElements_15 rfl ?_
  refine z_aload_n hC dX2_hasElements_16 rfl ?_
  refine z_getI hC dX2_hasElements_17 hS zfX2_23 rfl ?_
  refine z_icmp_gt hC dX2_hasElements_20 (tgt := 37) (by decide) (fun c20 => ?_) (fun c20 => ?_)
  · skip
    refine z_iconst hC dX2_hasElements_37 (v := nI 0) rfl ?_
    refine z_zret hC dX2_hasElements_38 rfl ?_
    exact hE.to (by rfl) rfl rfl rfl
  obtain ⟨i, hi, rfl⟩ := inB_n (n := n + 1) (x := x) ⟨Int32.not_lt.mp c8, by rw [hn] at c20; exact zlt_s hn40 (Int32.not_lt.mp c20)⟩ (by omega)
  refine z_iload_n hC dX2_hasElements_23 rfl ?_
  refine z_aload_n hC dX2_hasElements_24 rfl ?_
  refine z_getI hC dX2_hasElements_25 hS zfX2_23 rfl ?_
  refine z_iload_n hC dX2_hasElements_28 rfl ?_
  refine z_isub hC dX2_hasElements_29  ?_
  refine z_icmp_gt hC dX2_hasElements_30 (tgt := 37) (by decide) (fun c30 => ?_) (fun c30 => ?_)
  rotate_left
  · exact absurd c30 (fun z => hx ⟨inB_of hi (by omega), Int32.not_lt.mp c12, by rw [zti (by omega)]; rw [hn, pk_sub (by omega)] at z; rw [show n + 1 - i = (n - i) + 1 by omega]; exact zlt_s (by omega) (Int32.not_lt.mp z)⟩)
  refine z_iconst hC dX2_hasElements_37 (v := nI 0) rfl ?_
  refine z_zret hC dX2_hasElements_38 rfl ?_
  exact hE.to (by rfl) rfl rfl rfl

theorem c_X2_keptOf (hS : S 3 k = some (ssh c)) {q : Nat} (hh : I 3 k 0 = nI q) (hq : q ≤ 4) {v : Int64} : zC0 mX2_keptOf 0 [zr 3 k, zl v] (some (zl (fitL q v))) ad S I X Y sz I X Y := by
  refine zgo (own := RX2) (k := 0) (by decide +kernel) rfl rfl rfl (fun C hC hnm hE => ?_)
  refine z_aload_n hC dX2_keptOf_0 rfl ?_
  refine z_getN hC dX2_keptOf_1 hS zfX2_9 rfl hh ?_
  by_cases s4_0 : q = 0
  · refine z_tabK hC dX2_keptOf_4 (v := nI 0) (by rw [s4_0]) rfl rfl (tgt := 40) (by decide) ?_
    subst q
    refine z_lload_n hC dX2_keptOf_40 rfl ?_
    refine z_l2i hC dX2_keptOf_41  ?_
    refine z_i2b hC dX2_keptOf_42  ?_
    refine z_i2l hC dX2_keptOf_43  ?_
    refine z_lret hC dX2_keptOf_44 ?_
    exact hE.to (by rfl) rfl rfl rfl
  by_cases s4_1 : q = 1
  · refine z_tabK hC dX2_keptOf_4 (v := nI 1) (by rw [s4_1]) rfl rfl (tgt := 45) (by decide) ?_
    subst q
    refine z_lload_n hC dX2_keptOf_45 rfl ?_
    refine z_l2i hC dX2_keptOf_46  ?_
    refine z_i2s hC dX2_keptOf_47  ?_
    refine z_i2l hC dX2_keptOf_48  ?_
    refine z_lret hC dX2_keptOf_49 ?_
    exact hE.to (by rfl) rfl rfl rfl
  by_cases s4_2 : q = 2
  · refine z_tabK hC dX2_keptOf_4 (v := nI 2) (by rw [s4_2]) rfl rfl (tgt := 50) (by decide) ?_
    subst q
    refine z_lload_n hC dX2_keptOf_50 rfl ?_
    refine z_l2i hC dX2_keptOf_51  ?_
    refine z_i2l hC dX2_keptOf_52  ?_
    refine z_lret hC dX2_keptOf_53 ?_
    exact hE.to (by rfl) rfl rfl rfl
  by_cases s4_3 : q = 3
  · refine z_tabK hC dX2_keptOf_4 (v := nI 3) (by rw [s4_3]) rfl rfl (tgt := 66) (by decide) ?_
    subst q
    refine z_lload_n hC dX2_keptOf_66 rfl ?_
    refine z_lret hC dX2_keptOf_67 ?_
    exact hE.to (by rfl) rfl rfl rfl
  by_cases s4_4 : q = 4
  · refine z_tabK hC dX2_keptOf_4 (v := nI 4) (by rw [s4_4]) rfl rfl (tgt := 54) (by decide) ?_
    subst q
    refine z_lload_n hC dX2_keptOf_54 rfl ?_
    refine z_lconst hC dX2_keptOf_55 (v := lN 0) rfl ?_
    refine z_lcmp hC dX2_keptOf_56  ?_
    refine z_if_ne hC dX2_keptOf_57 (tgt := 64) (by decide) (fun c57 => ?_) (fun c57 => ?_)
    · skip
      refine z_lconst hC dX2_keptOf_64 (v := lN 1) rfl ?_
      refine z_lret hC dX2_keptOf_65 ?_
      exact hE.to (by first | (show some (zl (if v = 0 then 0 else 1)) = _; first | rw [if_pos (zlcmp0.mp (Decidable.byContradiction c57))]; rfl | rw [if_pos (zlcmp0.mp c57)]; rfl | (rw [if_neg (fun h => c57 (zlcmp0.mpr h))]; rfl))) rfl rfl rfl
    refine z_lconst hC dX2_keptOf_60 (v := lN 0) rfl ?_
    refine z_goto hC dX2_keptOf_61 (tgt := 65) (by decide) ?_
    refine z_lret hC dX2_keptOf_65 ?_
    exact hE.to (by first | (show some (zl (if v = 0 then 0 else 1)) = _; first | rw [if_pos (zlcmp0.mp (Decidable.byContradiction c57))]; rfl | rw [if_pos (zlcmp0.mp c57)]; rfl | (rw [if_neg (fun h => c57 (zlcmp0.mpr h))]; rfl))) rfl rfl rfl
  exfalso; omega

theorem c_X2_putElement (hS : S 3 k = some (ssh c)) (hS2 : S 3 c = some (.inl (1, 40))) {q : Nat} (hh : I 3 k 0 = nI q) (hq : q ≤ 4) {n : Nat} (hn : I 3 k 1 = nI n) (hn40 : n ≤ 40) {i : Nat} {v : Int64} (hi : i < n) : zC0 mX2_putElement 2 [zr 3 k, zi (nI i), zl v] (none) ad S I X Y sz I X (up3 Y 3 c i (fitL q v)) := by
  refine zgo (own := RX2) (k := 0) (by decide +kernel) rfl rfl rfl (fun C hC hnm hE => ?_)
  refine z_aload_n hC dX2_putElement_0 rfl ?_
  refine z_iload_n hC dX2_putElement_1 rfl ?_
  refine zVv hC dX2_putElement_2 zlX2_29 (c_hasElement_t hS hh hq hn hn40 hi) hS rfl rfl rfl rfl rfl rfl ?_
  refine z_nif_eq hC dX2_putElement_5 (tgt := 28) (by decide) (by omega) (fun c5 => ?_) (fun c5 => ?_)
  · exfalso; omega
  refine z_iload_n hC dX2_putElement_8 rfl ?_
  refine z_aload_n hC dX2_putElement_9 rfl ?_
  refine z_getR hC dX2_putElement_10 hS zfX2_15 rfl ?_
  refine z_alen hC dX2_putElement_13 hS2 (v := nI _) rfl ?_
  refine z_nicmp_ge hC dX2_putElement_14 (tgt := 28) (by decide) (by omega) (by omega) (fun c14 => ?_) (fun c14 => ?_)
  · exfalso; omega
  refine z_aload_n hC dX2_putElement_17 rfl ?_
  refine z_getR hC dX2_putElement_18 hS zfX2_15 rfl ?_
  refine z_iload_n hC dX2_putElement_21 rfl ?_
  refine z_aload_n hC dX2_putElement_22 rfl ?_
  refine z_lload_n hC dX2_putElement_23 rfl ?_
  refine zVv hC dX2_putElement_24 zlX2_33 (c_X2_keptOf hS hh hq) hS rfl rfl rfl rfl rfl rfl ?_
  refine z_nlast hC dX2_putElement_27 hS2 (by omega) rfl ?_
  refine z_vret hC dX2_putElement_28 ?_
  exact hE.to (by rfl) rfl rfl rfl

theorem zY40 {Y : zY} {c : Nat} {i : Nat} : up3 (fun b' c' j => if b' = 3 ∧ c' = c ∧ j < i then 0 else Y b' c' j) 3 c i 0 = (fun b' c' j => if b' = 3 ∧ c' = c ∧ j < i + 1 then 0 else Y b' c' j) := by
  funext b' c' j
  unfold up3
  by_cases h1 : b' = 3 ∧ c' = c ∧ j = i
  · rw [if_pos h1, if_pos (by omega)]
  · rw [if_neg h1]
    show (if b' = 3 ∧ c' = c ∧ j < i then (0 : Int64) else Y b' c' j) = _
    by_cases h2 : b' = 3 ∧ c' = c ∧ j < i
    · rw [if_pos h2, if_pos (by omega)]
    · rw [if_neg h2, if_neg (by omega)]
def zero40 (c m : Nat) (Y : zY) : zY := fun b' c' j => if b' = 3 ∧ c' = c ∧ j < m then 0 else Y b' c' j
theorem zero40_0 {c : Nat} {Y : zY} : zero40 c 0 Y = Y := by
  funext b' c' j
  exact if_neg (by omega)
theorem c_X2_takeRow (hS : S 3 k = some (ssh c)) (hS2 : S 3 c = some (.inl (1, 40))) {q n : Int32} : zC0 mX2_takeRow 0 [zr 3 k, zi q, zi n] (none) ad S I X Y sz (up3 (up3 I 3 k 0 q) 3 k 1 n) X (zero40 c 40 Y) := by
  refine zgo (own := RX2) (k := 1) (by decide +kernel) rfl rfl rfl (fun C hC hnm hE => ?_)
  refine z_aload_n hC dX2_takeRow_0 rfl ?_
  refine z_iload_n hC dX2_takeRow_1 rfl ?_
  refine z_putI hC dX2_takeRow_2 hS zfX2_9 rfl rfl rfl rfl ?_
  refine z_aload_n hC dX2_takeRow_5 rfl ?_
  refine z_iload_n hC dX2_takeRow_6 rfl ?_
  refine z_putI hC dX2_takeRow_7 hS zfX2_23 rfl rfl rfl rfl ?_
  refine z_iconst hC dX2_takeRow_10 (v := nI 0) rfl ?_
  refine z_istore_n hC dX2_takeRow_11 (lo2 := [_, _, _, _]) (Nat.le_of_ble_eq_true rfl) rfl rfl ?_
  have loop12 : ∀ (fuel : Nat) (i : Nat), 40 - i < fuel → i ≤ 40 → zL C 4 ad S 0 0 sz (up3 (up3 I 3 k 0 q) 3 k 1 n) X (zero40 c i Y) 12 [some (zr 3 k), some (zi q), some (zi n), some (zi (nI i))] [] := by
    intro fuel
    induction fuel with
    | zero => intro i hfu; exact absurd hfu (Nat.not_lt_zero _)
    | succ fuel ih =>
      intro i hfu hi40
      refine z_iload_n hC dX2_takeRow_12 rfl ?_
      refine z_aload_n hC dX2_takeRow_13 rfl ?_
      refine z_getR hC dX2_takeRow_14 hS zfX2_15 rfl ?_
      refine z_alen hC dX2_takeRow_17 hS2 (v := nI _) rfl ?_
      refine z_nicmp_ge hC dX2_takeRow_18 (tgt := 34) (by decide) (by omega) (by omega) (fun c18 => ?_) (fun c18 => ?_)
      · skip
        obtain rfl : i = 40 := by omega
        refine z_vret hC dX2_takeRow_34 ?_
        exact hE.to (by rfl) rfl rfl rfl
      refine z_aload_n hC dX2_takeRow_21 rfl ?_
      refine z_getR hC dX2_takeRow_22 hS zfX2_15 rfl ?_
      refine z_iload_n hC dX2_takeRow_25 rfl ?_
      refine z_lconst hC dX2_takeRow_26 (v := lN 0) rfl ?_
      refine z_nlast hC dX2_takeRow_27 hS2 (by omega) rfl ?_
      refine z_ninc hC dX2_takeRow_28 (lo2 := [_, _, _, _]) rfl rfl rfl rfl ?_
      refine z_goto hC dX2_takeRow_31 (tgt := 12) (by decide) ?_
      rw [show (lN 0 : Int64) = 0 by decide, show up3 (zero40 c i Y) 3 c i 0 = zero40 c (i + 1) Y from zY40]
      exact ih (i + 1) (by omega) (by omega)
  have h0 := loop12 _ 0 (Nat.lt_succ_self _) (Nat.zero_le _)
  rw [zero40_0] at h0
  exact h0

theorem c_takeBend_b (hS : S 3 k = some (ssh c)) {b : Nat} (hb : b < 14) : zC0 mX2_takeBend 0 [zr 3 k, zi (nI b)] (none) ad S I X Y sz (up3 I 3 k 0 (nI (10 + b))) X Y := by
  refine zgo (own := RX2) (k := 0) (by decide +kernel) rfl rfl rfl (fun C hC hnm hE => ?_)
  refine z_aload_n hC dX2_takeBend_0 rfl ?_
  refine z_iload_n hC dX2_takeBend_1 rfl ?_
  refine z_iconst hC dX2_takeBend_2 (v := -1) rfl ?_
  refine z_icmp_ne hC dX2_takeBend_3 (tgt := 10) (by decide) (fun c3 => ?_) (fun c3 => ?_)
  rotate_left
  · exact absurd c3 (zne1 (by omega))
  refine z_bipush hC dX2_takeBend_10 (v := nI 10) rfl ?_
  refine z_iload_n hC dX2_takeBend_12 rfl ?_
  refine z_nadd hC dX2_takeBend_13  ?_
  refine z_putI hC dX2_takeBend_14 hS zfX2_9 rfl rfl rfl rfl ?_
  refine z_vret hC dX2_takeBend_17 ?_
  exact hE.to (by rfl) rfl rfl rfl

theorem c_takeBend_n (hS : S 3 k = some (ssh c))  : zC0 mX2_takeBend 0 [zr 3 k, zi (-1)] (none) ad S I X Y sz (up3 I 3 k 0 (-1)) X Y := by
  refine zgo (own := RX2) (k := 0) (by decide +kernel) rfl rfl rfl (fun C hC hnm hE => ?_)
  refine z_aload_n hC dX2_takeBend_0 rfl ?_
  refine z_iload_n hC dX2_takeBend_1 rfl ?_
  refine z_iconst hC dX2_takeBend_2 (v := -1) rfl ?_
  refine z_icmp_ne hC dX2_takeBend_3 (tgt := 10) (by decide) (fun c3 => ?_) (fun c3 => ?_)
  · exact absurd c3 (by decide)
  refine z_iconst hC dX2_takeBend_6 (v := -1) rfl ?_
  refine z_goto hC dX2_takeBend_7 (tgt := 14) (by decide) ?_
  refine z_putI hC dX2_takeBend_14 hS zfX2_9 rfl rfl rfl rfl ?_
  refine z_vret hC dX2_takeBend_17 ?_
  exact hE.to (by rfl) rfl rfl rfl

theorem c_rot_bad (hS : S 3 k = some (ssh c)) {x : Int32} (hx : ¬ inB x 41) : zC0 mX2_refusalOfTold 1 [zr 3 k, zi x] (some (zi (-2))) ad S I X Y sz I X Y := by
  refine zgo (own := RX2) (k := 0) (by decide +kernel) rfl rfl rfl (fun C hC hnm hE => ?_)
  refine z_iload_n hC dX2_refusalOfTold_0 rfl ?_
  refine z_iconst hC dX2_refusalOfTold_1 (v := nI 0) rfl ?_
  refine z_bipush hC dX2_refusalOfTold_2 (v := nI 40) rfl ?_
  refine zNv hC dX2_refusalOfTold_4 zlX2_47 c_X6_isWithin rfl rfl rfl rfl ?_
  refine z_ifb_ne hC dX2_refusalOfTold_7 (tgt := 13) (by decide) (fun c7 => ?_) (fun c7 => ?_)
  · exact absurd c7 (fun h => hx ⟨h.1, zlt_s (n := 40) (by decide) h.2⟩)
  refine z_bipush hC dX2_refusalOfTold_10 (v := -2) rfl ?_
  refine z_iret hC dX2_refusalOfTold_12 ?_
  exact hE.to (by rfl) rfl rfl rfl

theorem c_rot_n (hS : S 3 k = some (ssh c)) (hh : I 3 k 0 = -1) {m : Nat} (hm : m ≤ 40) : zC0 mX2_refusalOfTold 1 [zr 3 k, zi (nI m)] (some (zi (-4))) ad S I X Y sz I X Y := by
  refine zgo (own := RX2) (k := 0) (by decide +kernel) rfl rfl rfl (fun C hC hnm hE => ?_)
  refine z_iload_n hC dX2_refusalOfTold_0 rfl ?_
  refine z_iconst hC dX2_refusalOfTold_1 (v := nI 0) rfl ?_
  refine z_bipush hC dX2_refusalOfTold_2 (v := nI 40) rfl ?_
  refine zNv hC dX2_refusalOfTold_4 zlX2_47 c_X6_isWithin rfl rfl rfl rfl ?_
  refine z_ifb_ne hC dX2_refusalOfTold_7 (tgt := 13) (by decide) (fun c7 => ?_) (fun c7 => ?_)
  rotate_left
  · exact absurd c7 (fun z => z ⟨nI_pos' (by omega), (nI_leI (by omega) (by decide)).mpr (by omega)⟩)
  refine z_aload_n hC dX2_refusalOfTold_13 rfl ?_
  refine zVv hC dX2_refusalOfTold_14 zlX2_26 (c_isRow_n hS hh) hS rfl rfl rfl rfl rfl rfl ?_
  refine z_nif_ne hC dX2_refusalOfTold_17 (tgt := 35) (by decide) (by omega) (fun c17 => ?_) (fun c17 => ?_)
  · exfalso; omega
  refine z_aload_n hC dX2_refusalOfTold_20 rfl ?_
  refine zVv hC dX2_refusalOfTold_21 zlX2_51 (c_isEmpty_n hS hh) hS rfl rfl rfl rfl rfl rfl ?_
  refine z_nif_eq hC dX2_refusalOfTold_24 (tgt := 32) (by decide) (by omega) (fun c24 => ?_) (fun c24 => ?_)
  · exfalso; omega
  refine z_bipush hC dX2_refusalOfTold_27 (v := -4) rfl ?_
  refine z_goto hC dX2_refusalOfTold_29 (tgt := 34) (by decide) ?_
  refine z_iret hC dX2_refusalOfTold_34 ?_
  exact hE.to (by rfl) rfl rfl rfl

theorem c_rot_b (hS : S 3 k = some (ssh c)) {b : Nat} (hh : I 3 k 0 = nI (10 + b)) (hb : b < 14) {m : Nat} (hm : m ≤ 40) : zC0 mX2_refusalOfTold 1 [zr 3 k, zi (nI m)] (some (zi (-3))) ad S I X Y sz I X Y := by
  refine zgo (own := RX2) (k := 0) (by decide +kernel) rfl rfl rfl (fun C hC hnm hE => ?_)
  refine z_iload_n hC dX2_refusalOfTold_0 rfl ?_
  refine z_iconst hC dX2_refusalOfTold_1 (v := nI 0) rfl ?_
  refine z_bipush hC dX2_refusalOfTold_2 (v := nI 40) rfl ?_
  refine zNv hC dX2_refusalOfTold_4 zlX2_47 c_X6_isWithin rfl rfl rfl rfl ?_
  refine z_ifb_ne hC dX2_refusalOfTold_7 (tgt := 13) (by decide) (fun c7 => ?_) (fun c7 => ?_)
  rotate_left
  · exact absurd c7 (fun z => z ⟨nI_pos' (by omega), (nI_leI (by omega) (by decide)).mpr (by omega)⟩)
  refine z_aload_n hC dX2_refusalOfTold_13 rfl ?_
  refine zVv hC dX2_refusalOfTold_14 zlX2_26 (c_isRow_b hS hh hb) hS rfl rfl rfl rfl rfl rfl ?_
  refine z_nif_ne hC dX2_refusalOfTold_17 (tgt := 35) (by decide) (by omega) (fun c17 => ?_) (fun c17 => ?_)
  · exfalso; omega
  refine z_aload_n hC dX2_refusalOfTold_20 rfl ?_
  refine zVv hC dX2_refusalOfTold_21 zlX2_51 (c_isEmpty_r hS hh (by omega)) hS rfl rfl rfl rfl rfl rfl ?_
  refine z_nif_eq hC dX2_refusalOfTold_24 (tgt := 32) (by decide) (by omega) (fun c24 => ?_) (fun c24 => ?_)
  rotate_left
  · exfalso; omega
  refine z_bipush hC dX2_refusalOfTold_32 (v := -3) rfl ?_
  refine z_iret hC dX2_refusalOfTold_34 ?_
  exact hE.to (by rfl) rfl rfl rfl

theorem c_rot_t (hS : S 3 k = some (ssh c)) {q : Nat} (hh : I 3 k 0 = nI q) (hq : q ≤ 4) {n : Nat} (hn : I 3 k 1 = nI n) (hn40 : n ≤ 40) {m : Nat} (hm : m ≤ 40) (hmn : m ≤ n) : zC0 mX2_refusalOfTold 1 [zr 3 k, zi (nI m)] (some (zi (nI 0))) ad S I X Y sz I X Y := by
  refine zgo (own := RX2) (k := 0) (by decide +kernel) rfl rfl rfl (fun C hC hnm hE => ?_)
  refine z_iload_n hC dX2_refusalOfTold_0 rfl ?_
  refine z_iconst hC dX2_refusalOfTold_1 (v := nI 0) rfl ?_
  refine z_bipush hC dX2_refusalOfTold_2 (v := nI 40) rfl ?_
  refine zNv hC dX2_refusalOfTold_4 zlX2_47 c_X6_isWithin rfl rfl rfl rfl ?_
  refine z_ifb_ne hC dX2_refusalOfTold_7 (tgt := 13) (by decide) (fun c7 => ?_) (fun c7 => ?_)
  rotate_left
  · exact absurd c7 (fun z => z ⟨nI_pos' (by omega), (nI_leI (by omega) (by decide)).mpr (by omega)⟩)
  refine z_aload_n hC dX2_refusalOfTold_13 rfl ?_
  refine zVv hC dX2_refusalOfTold_14 zlX2_26 (c_isRow_r hS hh hq) hS rfl rfl rfl rfl rfl rfl ?_
  refine z_nif_ne hC dX2_refusalOfTold_17 (tgt := 35) (by decide) (by omega) (fun c17 => ?_) (fun c17 => ?_)
  rotate_left
  · exfalso; omega
  refine z_iload_n hC dX2_refusalOfTold_35 rfl ?_
  refine z_aload_n hC dX2_refusalOfTold_36 rfl ?_
  refine z_getN hC dX2_refusalOfTold_37 hS zfX2_23 rfl hn ?_
  refine z_nicmp_le hC dX2_refusalOfTold_40 (tgt := 48) (by decide) (by omega) (by omega) (fun c40 => ?_) (fun c40 => ?_)
  rotate_left
  · exfalso; omega
  refine z_iconst hC dX2_refusalOfTold_48 (v := nI 0) rfl ?_
  refine z_iret hC dX2_refusalOfTold_49 ?_
  exact hE.to (by rfl) rfl rfl rfl

theorem c_rot_f (hS : S 3 k = some (ssh c)) {q : Nat} (hh : I 3 k 0 = nI q) (hq : q ≤ 4) {n : Nat} (hn : I 3 k 1 = nI n) (hn40 : n ≤ 40) {m : Nat} (hm : m ≤ 40) (hmn : n < m) : zC0 mX2_refusalOfTold 1 [zr 3 k, zi (nI m)] (some (zi (-2))) ad S I X Y sz I X Y := by
  refine zgo (own := RX2) (k := 0) (by decide +kernel) rfl rfl rfl (fun C hC hnm hE => ?_)
  refine z_iload_n hC dX2_refusalOfTold_0 rfl ?_
  refine z_iconst hC dX2_refusalOfTold_1 (v := nI 0) rfl ?_
  refine z_bipush hC dX2_refusalOfTold_2 (v := nI 40) rfl ?_
  refine zNv hC dX2_refusalOfTold_4 zlX2_47 c_X6_isWithin rfl rfl rfl rfl ?_
  refine z_ifb_ne hC dX2_refusalOfTold_7 (tgt := 13) (by decide) (fun c7 => ?_) (fun c7 => ?_)
  rotate_left
  · exact absurd c7 (fun z => z ⟨nI_pos' (by omega), (nI_leI (by omega) (by decide)).mpr (by omega)⟩)
  refine z_aload_n hC dX2_refusalOfTold_13 rfl ?_
  refine zVv hC dX2_refusalOfTold_14 zlX2_26 (c_isRow_r hS hh hq) hS rfl rfl rfl rfl rfl rfl ?_
  refine z_nif_ne hC dX2_refusalOfTold_17 (tgt := 35) (by decide) (by omega) (fun c17 => ?_) (fun c17 => ?_)
  rotate_left
  · exfalso; omega
  refine z_iload_n hC dX2_refusalOfTold_35 rfl ?_
  refine z_aload_n hC dX2_refusalOfTold_36 rfl ?_
  refine z_getN hC dX2_refusalOfTold_37 hS zfX2_23 rfl hn ?_
  refine z_nicmp_le hC dX2_refusalOfTold_40 (tgt := 48) (by decide) (by omega) (by omega) (fun c40 => ?_) (fun c40 => ?_)
  · exfalso; omega
  refine z_bipush hC dX2_refusalOfTold_43 (v := -2) rfl ?_
  refine z_goto hC dX2_refusalOfTold_45 (tgt := 49) (by decide) ?_
  refine z_iret hC dX2_refusalOfTold_49 ?_
  exact hE.to (by rfl) rfl rfl rfl

theorem c_X2_takeElements (hS : S 3 k = some (ssh c)) (hS2 : S 3 c = some (.inl (1, 40))) {q : Nat} (hh : I 3 k 0 = nI q) (hq : q ≤ 4) {n : Nat} (hn : I 3 k 1 = nI n) (hn40 : n ≤ 40) {k2 c2 q2 n2 : Nat} (hT : S 3 k2 = some (ssh c2)) (hT2 : S 3 c2 = some (.inl (1, 40))) (hh2 : I 3 k2 0 = nI q2) (hq2 : q2 ≤ 4) (hn2 : I 3 k2 1 = nI n2) (hn240 : n2 ≤ 40) {i j m : Nat} (hi : i + m ≤ n2) (hj : j + m ≤ n) : zC0 mX2_takeElements 2 [zr 3 k, zr 3 k2, zi (nI i), zi (nI j), zi (nI m)] (none) ad S I X Y sz I X (up2 Y 3 c (va_cpy (Y 3 c2) (Y 3 c) i j m)) := by
  refine zgo (own := RX2) (k := 0) (by decide +kernel) rfl rfl rfl (fun C hC hnm hE => ?_)
  refine z_aload_n hC dX2_takeElements_0 rfl ?_
  refine z_iload_n hC dX2_takeElements_1 rfl ?_
  refine z_iload hC dX2_takeElements_2 rfl ?_
  refine zVv hC dX2_takeElements_4 zlX2_37 (c_hasElements_t hT hh2 hq2 hn2 hn240 hi) hT rfl rfl rfl rfl rfl rfl ?_
  refine z_nif_eq hC dX2_takeElements_7 (tgt := 35) (by decide) (by omega) (fun c7 => ?_) (fun c7 => ?_)
  · exfalso; omega
  refine z_aload_n hC dX2_takeElements_10 rfl ?_
  refine z_iload_n hC dX2_takeElements_11 rfl ?_
  refine z_iload hC dX2_takeElements_12 rfl ?_
  refine zVv hC dX2_takeElements_14 zlX2_37 (c_hasElements_t hS hh hq hn hn40 hj) hS rfl rfl rfl rfl rfl rfl ?_
  refine z_nif_eq hC dX2_takeElements_17 (tgt := 35) (by decide) (by omega) (fun c17 => ?_) (fun c17 => ?_)
  · exfalso; omega
  refine z_aload_n hC dX2_takeElements_20 rfl ?_
  refine z_getR hC dX2_takeElements_21 hT zfX2_15 rfl ?_
  refine z_iload_n hC dX2_takeElements_24 rfl ?_
  refine z_aload_n hC dX2_takeElements_25 rfl ?_
  refine z_getR hC dX2_takeElements_26 hS zfX2_15 rfl ?_
  refine z_iload_n hC dX2_takeElements_29 rfl ?_
  refine z_iload hC dX2_takeElements_30 rfl ?_
  refine z_copyl hC dX2_takeElements_32 ⟨(zin2 (i := 23) rfl rfl), (zin2 (i := 25) rfl rfl), (zin2 (i := 24) rfl rfl), (zin1 (i := 10) rfl rfl)⟩ hT2 hS2 (nI_pos (by omega)) (nI_pos (by omega)) (nI_pos (by omega)) (by rw [nI_clamp (by omega), nI_clamp (by omega)]; omega) (by rw [nI_clamp (by omega), nI_clamp (by omega)]; omega) (by decide) rfl ?_
  refine z_vret hC dX2_takeElements_35 ?_
  exact hE.to (by rfl) rfl rfl (by rw [nI_clamp (by omega), nI_clamp (by omega), nI_clamp (by omega)])

end
