/-! the shapes of the developers' objects (block 3), and Table -/

abbrev tsh (c : Nat) : zS := .inr (.inl (3, [.inl (zr 3 c), .inr none, .inr none]))
abbrev rsh (r : Nat) : zS := .inr (.inl (1, [.inl (zr 3 (r + 1)), .inl (zr 3 (r + 3)), .inl (zr 3 (r + 5)), .inr none, .inr none, .inr none, .inr none, .inr none]))
abbrev ssh (c : Nat) : zS := .inr (.inl (2, [.inr none, .inr none, .inl (zr 3 c)]))
def dsh : Nat → Option zS
  | 0 => some (.inr (.inl (6, [.inl (zr 3 1), .inl (zr 3 8), .inl (zr 3 15), .inl (zr 3 22), .inl (zr 3 25), .inl (zr 3 30), .inl (zr 3 34), .inl (zr 3 33), .inr none])))
  | 1 => some (rsh 1)
  | 2 => some (tsh 3)
  | 3 => some (.inl (0, 70))
  | 4 => some (tsh 5)
  | 5 => some (.inl (0, 24))
  | 6 => some (tsh 7)
  | 7 => some (.inl (0, 18))
  | 8 => some (rsh 8)
  | 9 => some (tsh 10)
  | 10 => some (.inl (0, 70))
  | 11 => some (tsh 12)
  | 12 => some (.inl (0, 24))
  | 13 => some (tsh 14)
  | 14 => some (.inl (0, 18))
  | 15 => some (rsh 15)
  | 16 => some (tsh 17)
  | 17 => some (.inl (0, 70))
  | 18 => some (tsh 19)
  | 19 => some (.inl (0, 24))
  | 20 => some (tsh 21)
  | 21 => some (.inl (0, 18))
  | 22 => some (.inr (.inl (5, [.inl (zr 3 23), .inl (zr 3 24), .inr none, .inr none])))
  | 23 => some (.inl (0, 14))
  | 24 => some (.inl (0, 14))
  | 25 => some (.inr (.inl (0, [.inl (zr 3 26), .inl (zr 3 27), .inl (zr 3 28), .inl (zr 3 29)])))
  | 26 => some (.inl (0, 901))
  | 27 => some (.inl (0, 901))
  | 28 => some (.inl (0, 4))
  | 29 => some (.inl (0, 4))
  | 30 => some (.inr (.inl (4, [.inl (zr 3 31), .inr none, .inr none, .inr none, .inr none, .inl (zr 3 32)])))
  | 31 => some (.inl (0, 250))
  | 32 => some (.inl (0, 4))
  | 33 => some (.inl (0, 5))
  | 34 => some (.inr (.inr (0, [some (3, 35), some (3, 37), some (3, 39), some (3, 41), some (3, 43), some (3, 45), some (3, 47), some (3, 49)])))
  | 35 => some (ssh 36)
  | 36 => some (.inl (1, 40))
  | 37 => some (ssh 38)
  | 38 => some (.inl (1, 40))
  | 39 => some (ssh 40)
  | 40 => some (.inl (1, 40))
  | 41 => some (ssh 42)
  | 42 => some (.inl (1, 40))
  | 43 => some (ssh 44)
  | 44 => some (.inl (1, 40))
  | 45 => some (ssh 46)
  | 46 => some (.inl (1, 40))
  | 47 => some (ssh 48)
  | 48 => some (.inl (1, 40))
  | 49 => some (ssh 50)
  | 50 => some (.inl (1, 40))
  | _ => none
def zRd (S : zSh) (r : Nat) : Prop := S 3 r = some (rsh r) ∧ S 3 (r + 1) = some (tsh (r + 2)) ∧ S 3 (r + 2) = some (.inl (0, 70)) ∧ S 3 (r + 3) = some (tsh (r + 4)) ∧ S 3 (r + 4) = some (.inl (0, 24)) ∧ S 3 (r + 5) = some (tsh (r + 6)) ∧ S 3 (r + 6) = some (.inl (0, 18))
theorem zRd_1 {S : zSh} (hD : ∀ k, S 3 k = dsh k) : zRd S 1 := ⟨hD _, hD _, hD _, hD _, hD _, hD _, hD _⟩
theorem zRd_8 {S : zSh} (hD : ∀ k, S 3 k = dsh k) : zRd S 8 := ⟨hD _, hD _, hD _, hD _, hD _, hD _, hD _⟩
theorem zRd_15 {S : zSh} (hD : ∀ k, S 3 k = dsh k) : zRd S 15 := ⟨hD _, hD _, hD _, hD _, hD _, hD _, hD _⟩
theorem zidx {i j w n : Nat} (hi : i < n) (hj : j < w) : i * w + j < n * w := by
  have h1 : (i + 1) * w ≤ n * w := Nat.mul_le_mul_right w hi
  have h2 : (i + 1) * w = i * w + w := Nat.succ_mul i w
  omega
section
variable {ad : zA} {S : zSh} {I X : zI} {Y : zY} {sz : Nat}

theorem c_X3_has {k c : Nat} {row : Int32} (hT : S 3 k = some (tsh c)) : zC0 mX3_has 0 [zr 3 k, zi row] (some (zi (zb (0 ≤ row ∧ row < I 3 k 2) inferInstance))) ad S I X Y sz I X Y := by
  refine zgo (own := RX3) (k := 0) (by decide +kernel) rfl rfl rfl (fun C hC hnm hE => ?_)
  refine z_iload_n hC dX3_has_0 rfl ?_
  refine z_if_lt hC dX3_has_1 (tgt := 16) (by decide) (fun c1 => ?_) (fun c1 => ?_)
  · skip
    refine z_iconst hC dX3_has_16 (v := nI 0) rfl ?_
    refine z_zret hC dX3_has_17 rfl ?_
    exact hE.to (by grind [zb, nI]) rfl rfl rfl
  refine z_iload_n hC dX3_has_4 rfl ?_
  refine z_aload_n hC dX3_has_5 rfl ?_
  refine z_getI hC dX3_has_6 hT zfX3_25 rfl ?_
  refine z_icmp_ge hC dX3_has_9 (tgt := 16) (by decide) (fun c9 => ?_) (fun c9 => ?_)
  · skip
    refine z_iconst hC dX3_has_16 (v := nI 0) rfl ?_
    refine z_zret hC dX3_has_17 rfl ?_
    exact hE.to (by grind [zb, nI]) rfl rfl rfl
  refine z_iconst hC dX3_has_12 (v := nI 1) rfl ?_
  refine z_goto hC dX3_has_13 (tgt := 17) (by decide) ?_
  refine z_zret hC dX3_has_17 rfl ?_
  exact hE.to (by grind [zb, nI]) rfl rfl rfl

theorem c_X3_hasN {k c i cnt : Nat} (hT : S 3 k = some (tsh c)) (hn : I 3 k 2 = nI cnt) (hi : i < 1000) (hcn : cnt ≤ 14) : zC0 mX3_has 0 [zr 3 k, zi (nI i)] (some (zi (zb (i < cnt) inferInstance))) ad S I X Y sz I X Y := by
  refine zgo (own := RX3) (k := 0) (by decide +kernel) rfl rfl rfl (fun C hC hnm hE => ?_)
  refine z_iload_n hC dX3_has_0 rfl ?_
  refine z_nif_lt hC dX3_has_1 ⟨16, by decide⟩ (by omega) ?_
  refine z_iload_n hC dX3_has_4 rfl ?_
  refine z_aload_n hC dX3_has_5 rfl ?_
  refine z_getN hC dX3_has_6 hT zfX3_25 rfl hn ?_
  refine z_nicmp_ge hC dX3_has_9 (tgt := 16) (by decide) (by omega) (by omega) (fun c9 => ?_) (fun c9 => ?_)
  · skip
    refine z_iconst hC dX3_has_16 (v := nI 0) rfl ?_
    refine z_zret hC dX3_has_17 rfl ?_
    exact hE.to (by grind [zb, nI]) rfl rfl rfl
  refine z_iconst hC dX3_has_12 (v := nI 1) rfl ?_
  refine z_goto hC dX3_has_13 (tgt := 17) (by decide) ?_
  refine z_zret hC dX3_has_17 rfl ?_
  exact hE.to (by grind [zb, nI]) rfl rfl rfl

theorem c_X3_cellOf {k c n w cnt : Nat} (hT : S 3 k = some (tsh c)) (hc : S 3 c = some (.inl (0, n))) (hw : I 3 k 1 = nI w) (hn : I 3 k 2 = nI cnt) (hb : cnt * w ≤ n) (h70 : n ≤ 70) (hcn : cnt ≤ 14) (hww : w ≤ 5) {i j : Nat} (hi : i < cnt) (hj : j < w) : zC0 mX3_cellOf 1 [zr 3 k, zi (nI i), zi (nI j)] (some (zi (nI (i * w + j)))) ad S I X Y sz I X Y := by
  refine zgo (own := RX3) (k := 0) (by decide +kernel) rfl rfl rfl (fun C hC hnm hE => ?_)
  have hx := zidx hi hj
  refine z_iload_n hC dX3_cellOf_0 rfl ?_
  refine z_nif_lt hC dX3_cellOf_1 ⟨35, by decide⟩ (by omega) ?_
  refine z_iload_n hC dX3_cellOf_4 rfl ?_
  refine z_aload_n hC dX3_cellOf_5 rfl ?_
  refine z_getN hC dX3_cellOf_6 hT zfX3_25 rfl hn ?_
  refine z_nicmp_ge hC dX3_cellOf_9 (tgt := 35) (by decide) (by omega) (by omega) (fun c9 => ?_) (fun c9 => ?_)
  · exfalso; omega
  refine z_iload_n hC dX3_cellOf_12 rfl ?_
  refine z_nif_lt hC dX3_cellOf_13 ⟨35, by decide⟩ (by omega) ?_
  refine z_iload_n hC dX3_cellOf_16 rfl ?_
  refine z_aload_n hC dX3_cellOf_17 rfl ?_
  refine z_getN hC dX3_cellOf_18 hT zfX3_21 rfl hw ?_
  refine z_nicmp_ge hC dX3_cellOf_21 (tgt := 35) (by decide) (by omega) (by omega) (fun c21 => ?_) (fun c21 => ?_)
  · exfalso; omega
  refine z_iload_n hC dX3_cellOf_24 rfl ?_
  refine z_aload_n hC dX3_cellOf_25 rfl ?_
  refine z_getN hC dX3_cellOf_26 hT zfX3_21 rfl hw ?_
  refine z_nmul hC dX3_cellOf_29  ?_
  refine z_iload_n hC dX3_cellOf_30 rfl ?_
  refine z_nadd hC dX3_cellOf_31  ?_
  refine z_goto hC dX3_cellOf_32 (tgt := 36) (by decide) ?_
  refine z_iret hC dX3_cellOf_36 ?_
  exact hE.to (by rfl) rfl rfl rfl

theorem c_X3_at {k c n w cnt : Nat} (hT : S 3 k = some (tsh c)) (hc : S 3 c = some (.inl (0, n))) (hw : I 3 k 1 = nI w) (hn : I 3 k 2 = nI cnt) (hb : cnt * w ≤ n) (h70 : n ≤ 70) (hcn : cnt ≤ 14) (hww : w ≤ 5) {i j : Nat} (hi : i < cnt) (hj : j < w) : zC0 mX3_at 2 [zr 3 k, zi (nI i), zi (nI j)] (some (zi (X 3 c (i * w + j)))) ad S I X Y sz I X Y := by
  refine zgo (own := RX3) (k := 1) (by decide +kernel) rfl rfl rfl (fun C hC hnm hE => ?_)
  have hx := zidx hi hj
  refine z_aload_n hC dX3_at_0 rfl ?_
  refine z_iload_n hC dX3_at_1 rfl ?_
  refine z_iload_n hC dX3_at_2 rfl ?_
  refine zVv hC dX3_at_3 zlX3_28 (c_X3_cellOf hT hc hw hn hb h70 hcn hww hi hj) hT rfl rfl rfl rfl rfl rfl ?_
  refine z_istore_n hC dX3_at_6 (lo2 := [_, _, _, _]) (Nat.le_of_ble_eq_true rfl) rfl rfl ?_
  refine z_iload_n hC dX3_at_7 rfl ?_
  refine z_nif_lt hC dX3_at_8 ⟨29, by decide⟩ (by omega) ?_
  refine z_iload_n hC dX3_at_11 rfl ?_
  refine z_aload_n hC dX3_at_12 rfl ?_
  refine z_getR hC dX3_at_13 hT zfX3_15 rfl ?_
  refine z_alen hC dX3_at_16 hc (v := nI _) rfl ?_
  refine z_nicmp_ge hC dX3_at_17 (tgt := 29) (by decide) (by omega) (by omega) (fun c17 => ?_) (fun c17 => ?_)
  · exfalso; omega
  refine z_aload_n hC dX3_at_20 rfl ?_
  refine z_getR hC dX3_at_21 hT zfX3_15 rfl ?_
  refine z_iload_n hC dX3_at_24 rfl ?_
  refine z_nald hC dX3_at_25 hc (by omega) (Nat.ble_eq_true_of_le (by omega)) ?_
  refine z_goto hC dX3_at_26 (tgt := 30) (by decide) ?_
  refine z_iret hC dX3_at_30 ?_
  exact hE.to (by rfl) rfl rfl rfl

theorem c_X3_put {k c n w cnt : Nat} (hT : S 3 k = some (tsh c)) (hc : S 3 c = some (.inl (0, n))) (hw : I 3 k 1 = nI w) (hn : I 3 k 2 = nI cnt) (hb : cnt * w ≤ n) (h70 : n ≤ 70) (hcn : cnt ≤ 14) (hww : w ≤ 5) {i j : Nat} {v : Int32} (hi : i < cnt) (hj : j < w) : zC0 mX3_put 2 [zr 3 k, zi (nI i), zi (nI j), zi v] (none) ad S I X Y sz I (up3 X 3 c (i * w + j) v) Y := by
  refine zgo (own := RX3) (k := 1) (by decide +kernel) rfl rfl rfl (fun C hC hnm hE => ?_)
  have hx := zidx hi hj
  refine z_aload_n hC dX3_put_0 rfl ?_
  refine z_iload_n hC dX3_put_1 rfl ?_
  refine z_iload_n hC dX3_put_2 rfl ?_
  refine zVv hC dX3_put_3 zlX3_28 (c_X3_cellOf hT hc hw hn hb h70 hcn hww hi hj) hT rfl rfl rfl rfl rfl rfl ?_
  refine z_istore hC dX3_put_6 (lo2 := [_, _, _, _, _]) (Nat.le_of_ble_eq_true rfl) rfl rfl ?_
  refine z_iload hC dX3_put_8 rfl ?_
  refine z_nif_lt hC dX3_put_10 ⟨31, by decide⟩ (by omega) ?_
  refine z_iload hC dX3_put_13 rfl ?_
  refine z_aload_n hC dX3_put_15 rfl ?_
  refine z_getR hC dX3_put_16 hT zfX3_15 rfl ?_
  refine z_alen hC dX3_put_19 hc (v := nI _) rfl ?_
  refine z_nicmp_ge hC dX3_put_20 (tgt := 31) (by decide) (by omega) (by omega) (fun c20 => ?_) (fun c20 => ?_)
  · exfalso; omega
  refine z_aload_n hC dX3_put_23 rfl ?_
  refine z_getR hC dX3_put_24 hT zfX3_15 rfl ?_
  refine z_iload hC dX3_put_27 rfl ?_
  refine z_iload_n hC dX3_put_29 rfl ?_
  refine z_niast hC dX3_put_30 hc (by omega) (Nat.ble_eq_true_of_le (by omega)) ?_
  refine z_vret hC dX3_put_31 ?_
  exact hE.to (by rfl) rfl rfl rfl

theorem c_X3_isFull {k c n w cnt : Nat} (hT : S 3 k = some (tsh c)) (hc : S 3 c = some (.inl (0, n))) (hw : I 3 k 1 = nI w) (hn : I 3 k 2 = nI cnt) (hb : cnt * w ≤ n) (h70 : n ≤ 70) (hcn : cnt ≤ 14) (hww : w ≤ 5)  : zC0 mX3_isFull 0 [zr 3 k] (some (zi (zb (n < (cnt + 1) * w) inferInstance))) ad S I X Y sz I X Y := by
  refine zgo (own := RX3) (k := 0) (by decide +kernel) rfl rfl rfl (fun C hC hnm hE => ?_)
  have hx : (cnt + 1) * w ≤ 15 * 5 := Nat.mul_le_mul (by omega) hww
  refine z_aload_n hC dX3_isFull_0 rfl ?_
  refine z_getN hC dX3_isFull_1 hT zfX3_25 rfl hn ?_
  refine z_iconst hC dX3_isFull_4 (v := nI 1) rfl ?_
  refine z_nadd hC dX3_isFull_5  ?_
  refine z_aload_n hC dX3_isFull_6 rfl ?_
  refine z_getN hC dX3_isFull_7 hT zfX3_21 rfl hw ?_
  refine z_nmul hC dX3_isFull_10  ?_
  refine z_aload_n hC dX3_isFull_11 rfl ?_
  refine z_getR hC dX3_isFull_12 hT zfX3_15 rfl ?_
  refine z_alen hC dX3_isFull_15 hc (v := nI _) rfl ?_
  refine z_nicmp_le hC dX3_isFull_16 (tgt := 23) (by decide) (by omega) (by omega) (fun c16 => ?_) (fun c16 => ?_)
  · skip
    refine z_iconst hC dX3_isFull_23 (v := nI 0) rfl ?_
    refine z_zret hC dX3_isFull_24 rfl ?_
    exact hE.to (by grind [zb, nI]) rfl rfl rfl
  refine z_iconst hC dX3_isFull_19 (v := nI 1) rfl ?_
  refine z_goto hC dX3_isFull_20 (tgt := 24) (by decide) ?_
  refine z_zret hC dX3_isFull_24 rfl ?_
  exact hE.to (by grind [zb, nI]) rfl rfl rfl

theorem c_X3_grow {k c n w cnt : Nat} (hT : S 3 k = some (tsh c)) (hc : S 3 c = some (.inl (0, n))) (hw : I 3 k 1 = nI w) (hn : I 3 k 2 = nI cnt) (hb : cnt * w ≤ n) (h70 : n ≤ 70) (hcn : cnt ≤ 14) (hww : w ≤ 5) (hf : (cnt + 1) * w ≤ n) : zC0 mX3_grow 1 [zr 3 k] (some (zi (nI cnt))) ad S I X Y sz (up3 I 3 k 2 (nI (cnt + 1))) X Y := by
  refine zgo (own := RX3) (k := 0) (by decide +kernel) rfl rfl rfl (fun C hC hnm hE => ?_)
  refine z_aload_n hC dX3_grow_0 rfl ?_
  refine zVv hC dX3_grow_1 zlX3_31 (c_X3_isFull hT hc hw hn hb h70 hcn hww) hT rfl rfl rfl rfl rfl rfl ?_
  refine z_ifb_eq hC dX3_grow_4 (tgt := 9) (by decide) (fun c4 => ?_) (fun c4 => ?_)
  rotate_left
  · exfalso; omega
  refine z_aload_n hC dX3_grow_9 rfl ?_
  refine z_dup hC dX3_grow_10 rfl ?_
  refine z_getN hC dX3_grow_11 hT zfX3_25 rfl hn ?_
  refine z_iconst hC dX3_grow_14 (v := nI 1) rfl ?_
  refine z_nadd hC dX3_grow_15  ?_
  refine z_putI hC dX3_grow_16 hT zfX3_25 rfl rfl rfl rfl ?_
  refine z_aload_n hC dX3_grow_19 rfl ?_
  refine z_getN hC dX3_grow_20 hT zfX3_25 rfl (up3_eq _ _ _ _ _) ?_
  refine z_iconst hC dX3_grow_23 (v := nI 1) rfl ?_
  refine z_nsub hC dX3_grow_24 (by omega) ?_
  refine z_iret hC dX3_grow_25 ?_
  exact hE.to (by rfl) rfl rfl rfl

end
