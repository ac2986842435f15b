/-! the developers' constructors -/
abbrev tshR (k : Nat) : zS := .inr (.inl (3, [.inr (some (3, k + 1)), .inr none, .inr none]))
abbrev rshR (r : Nat) : zS := .inr (.inl (1, [.inr (some (3, r + 1)), .inr (some (3, r + 3)), .inr (some (3, r + 5)), .inr none, .inr none, .inr none, .inr none, .inr none]))
abbrev sshR (k : Nat) : zS := .inr (.inl (2, [.inr none, .inr none, .inr (some (3, k + 1))]))
def tabI (k c : Nat) (I : zI) : zI := up3 (up3 I 3 k 0 1) 3 k 1 (nI c)
theorem tabI_off {k c : Nat} {I : zI} {b k' j : Nat} (h : ¬ (b = 3 ∧ k' = k)) : tabI k c I b k' j = I b k' j := by
  unfold tabI
  rw [up3_ne (by omega), up3_ne (by omega)]
def roadI (r : Nat) (I : zI) : zI := up3 (up3 (up3 (up3 (tabI (r + 5) 3 (up3 (tabI (r + 3) 3 (up3 (tabI (r + 1) 5 I) 3 r 0 1)) 3 r 1 1)) 3 r 2 1) 3 r 3 (nI 3)) 3 r 6 (-1)) 3 r 7 (nI 1)
def shfI (k : Nat) (I : zI) : zI := up3 (up3 I 3 k 0 (-1)) 3 k 2 1
def tapI (I : zI) : zI := up3 (up3 I 3 30 0 1) 3 30 5 1
def wgtI (I : zI) : zI := up3 (up3 I 3 22 0 1) 3 22 1 1
def plaI (I : zI) : zI := up3 (up3 (up3 (up3 I 3 25 0 1) 3 25 1 1) 3 25 2 1) 3 25 3 1
def zRdR (S : zSh) (r : Nat) : Prop := S 3 r = some (rshR r) ∧ S 3 (r + 1) = some (tshR (r + 1)) ∧ S 3 (r + 2) = some (.inl (0, 70)) ∧ S 3 (r + 3) = some (tshR (r + 3)) ∧ S 3 (r + 4) = some (.inl (0, 24)) ∧ S 3 (r + 5) = some (tshR (r + 5)) ∧ S 3 (r + 6) = some (.inl (0, 18))
section
variable {ad : zA} {S : zSh} {I X : zI} {Y : zY} {sz : Nat}

theorem c_X3_init {k a c n : Nat} (hs1 : S 3 k = some (tshR k)) (hs2 : S 3 (k + 1) = some (.inl (0, n))) (hn : a * c = n) (hn2 : n ≤ 1000) (hX : ∀ j, X 3 (k + 1) j = 0) (hz : ad 3 (k + 1) = sz) : zCall mX3_init 1 1 (n) [zr 3 k, zi (nI a), zi (nI c)] (none) ad (zcut 3 (k + 1) S) I X Y (sz) (zcut 3 (k + 2) S) (tabI k c I) X Y (sz + 1) := by
  refine zgo (own := RX3) (k := 0) (by decide +kernel) rfl rfl rfl (fun C hC hnm hE => ?_)
  refine z_aload_n hC dX3_init_0 rfl ?_
  refine z_obj hC dX3_init_1 (zin1 (i := 35) rfl rfl) (zin1 (i := 22) rfl rfl) (zin1 (i := 23) rfl rfl) rfl rfl ?_
  refine z_aload_n hC dX3_init_4 rfl ?_
  refine z_iconst hC dX3_init_5 (v := nI 0) rfl ?_
  refine z_iload_n hC dX3_init_6 rfl ?_
  refine z_iload_n hC dX3_init_7 rfl ?_
  refine z_nmul hC dX3_init_8  ?_
  refine z_max hC dX3_init_9 (zin1 (i := 36) rfl rfl) zmW_max (Nat.le_of_ble_eq_true rfl) (Nat.le_of_ble_eq_true rfl) (Nat.zero_le _) (Nat.zero_le _) ?_
  rw [zmax0 (by omega)]
  refine z_nwI hC (b := 3) dX3_init_12 (zin1 (i := 52) rfl rfl) hs2 (by rw [hn]) (by omega) hX hz ⟨by omega, by omega⟩ ?_
  refine z_putOF hC hnm dX3_init_14 (zcut_lt hs1 (by omega)) zfX3_15 rfl rfl rfl rfl (ty := (.array .int)) (by decide +kernel) (fun _ => rfl) (fun _ => rfl) ?_
  refine z_aload_n hC dX3_init_17 rfl ?_
  refine z_iload_n hC dX3_init_18 rfl ?_
  refine z_putIF hC hnm dX3_init_19 (zcut_lt hs1 (by omega)) zfX3_21 rfl rfl rfl rfl rfl ?_
  refine z_widen (k := 1) (n := (n)) (by omega) (by omega) ?_
  refine z_vret hC dX3_init_22 ?_
  exact hE.to (by rfl) rfl rfl rfl

theorem c_X1_init {r : Nat} (hr : zRdR S r) (hI : ∀ k j, r < k → I 3 k j = 0) (hX : ∀ k j, X 3 k j = 0) (hz : ∀ i, ad 3 (r + 1 + i) = sz + i) : zCall mX1_init 2 6 (121) [zr 3 r] (none) ad (zcut 3 (r + 1) S) I X Y (sz) (zcut 3 (r + 7) S) (roadI r I) X Y (sz + 6) := by
  refine zgo (own := RX1) (k := 0) (by decide +kernel) rfl rfl rfl (fun C hC hnm hE => ?_)
  refine z_aload_n hC dX1_init_0 rfl ?_
  refine z_obj hC dX1_init_1 (zin1 (i := 29) rfl rfl) (zin1 (i := 22) rfl rfl) (zin1 (i := 23) rfl rfl) rfl rfl ?_
  refine z_aload_n hC dX1_init_4 rfl ?_
  refine z_new hC (b := 3) (ci := 3) dX1_init_5 rfl ⟨(zin1 (i := 30) rfl rfl), (zin1 (i := 31) rfl rfl), (zin1 (i := 3) rfl rfl)⟩ hr.2.1 rfl (fun j => by first | exact hI _ _ (by omega) | (rw [up3_ne (by omega), tabI_off (by omega)]; exact hI _ _ (by omega)) | (rw [up3_ne (by omega), tabI_off (by omega), up3_ne (by omega), tabI_off (by omega)]; exact hI _ _ (by omega))) (hz 0) ⟨by decide, by decide⟩ ?_
  refine z_dup hC dX1_init_8 rfl ?_
  refine z_bipush hC dX1_init_9 (v := nI 14) rfl ?_
  refine z_iconst hC dX1_init_11 (v := nI 5) rfl ?_
  refine zIv hC dX1_init_12 zlX1_11 (c_X3_init (n := 70) hr.2.1 hr.2.2.1 rfl (by decide) (hX _) (hz 1)) rfl rfl rfl rfl ⟨by decide, by decide⟩ ?_
  refine z_putOF hC hnm dX1_init_15 (zcut_lt hr.1 (by omega)) zfX1_14 rfl rfl rfl rfl (ty := (.object "OnTheRoof$Table")) (by decide +kernel) (fun _ => rfl) (fun _ => rfl) ?_
  refine z_aload_n hC dX1_init_18 rfl ?_
  refine z_new hC (b := 3) (ci := 3) dX1_init_19 rfl ⟨(zin1 (i := 30) rfl rfl), (zin1 (i := 31) rfl rfl), (zin1 (i := 3) rfl rfl)⟩ hr.2.2.2.1 rfl (fun j => by first | exact hI _ _ (by omega) | (rw [up3_ne (by omega), tabI_off (by omega)]; exact hI _ _ (by omega)) | (rw [up3_ne (by omega), tabI_off (by omega), up3_ne (by omega), tabI_off (by omega)]; exact hI _ _ (by omega))) (hz 2) ⟨by decide, by decide⟩ ?_
  refine z_dup hC dX1_init_22 rfl ?_
  refine z_bipush hC dX1_init_23 (v := nI 8) rfl ?_
  refine z_iconst hC dX1_init_25 (v := nI 3) rfl ?_
  refine zIv hC dX1_init_26 zlX1_11 (c_X3_init (n := 24) hr.2.2.2.1 hr.2.2.2.2.1 rfl (by decide) (hX _) (hz 3)) rfl rfl rfl rfl ⟨by decide, by decide⟩ ?_
  refine z_putOF hC hnm dX1_init_29 (zcut_lt hr.1 (by omega)) zfX1_20 rfl rfl rfl rfl (ty := (.object "OnTheRoof$Table")) (by decide +kernel) (fun _ => rfl) (fun _ => rfl) ?_
  refine z_aload_n hC dX1_init_32 rfl ?_
  refine z_new hC (b := 3) (ci := 3) dX1_init_33 rfl ⟨(zin1 (i := 30) rfl rfl), (zin1 (i := 31) rfl rfl), (zin1 (i := 3) rfl rfl)⟩ hr.2.2.2.2.2.1 rfl (fun j => by first | exact hI _ _ (by omega) | (rw [up3_ne (by omega), tabI_off (by omega)]; exact hI _ _ (by omega)) | (rw [up3_ne (by omega), tabI_off (by omega), up3_ne (by omega), tabI_off (by omega)]; exact hI _ _ (by omega))) (hz 4) ⟨by decide, by decide⟩ ?_
  refine z_dup hC dX1_init_36 rfl ?_
  refine z_bipush hC dX1_init_37 (v := nI 6) rfl ?_
  refine z_iconst hC dX1_init_39 (v := nI 3) rfl ?_
  refine zIv hC dX1_init_40 zlX1_11 (c_X3_init (n := 18) hr.2.2.2.2.2.1 hr.2.2.2.2.2.2 rfl (by decide) (hX _) (hz 5)) rfl rfl rfl rfl ⟨by decide, by decide⟩ ?_
  refine z_putOF hC hnm dX1_init_43 (zcut_lt hr.1 (by omega)) zfX1_23 rfl rfl rfl rfl (ty := (.object "OnTheRoof$Table")) (by decide +kernel) (fun _ => rfl) (fun _ => rfl) ?_
  refine z_aload_n hC dX1_init_46 rfl ?_
  refine z_iconst hC dX1_init_47 (v := nI 3) rfl ?_
  refine z_putI hC dX1_init_48 (zcut_lt hr.1 (by omega)) zfX1_26 rfl rfl rfl rfl ?_
  refine z_aload_n hC dX1_init_51 rfl ?_
  refine z_iconst hC dX1_init_52 (v := -1) rfl ?_
  refine z_putI hC dX1_init_53 (zcut_lt hr.1 (by omega)) zfX1_30 rfl rfl rfl rfl ?_
  refine z_aload_n hC dX1_init_56 rfl ?_
  refine z_iconst hC dX1_init_57 (v := nI 1) rfl ?_
  refine z_putI hC dX1_init_58 (zcut_lt hr.1 (by omega)) zfX1_33 rfl rfl rfl rfl ?_
  refine z_widen (k := 6) (n := (121)) (by decide) (by decide) ?_
  refine z_vret hC dX1_init_61 ?_
  exact hE.to (by rfl) rfl rfl rfl

theorem c_X4_init (hs : S 3 30 = some (.inr (.inl (4, [.inr (some (3, 31)), .inr none, .inr none, .inr none, .inr none, .inr (some (3, 32))])))) (hs0 : S 3 31 = some (.inl (0, 250))) (hs1 : S 3 32 = some (.inl (0, 4))) (hX : ∀ k j, X 3 k j = 0) (hz : ∀ i, ad 3 (31 + i) = sz + i) : zCall mX4_init 1 2 (254) [zr 3 30] (none) ad (zcut 3 31 S) I X Y (sz) (zcut 3 33 S) (tapI I) X Y (sz + 2) := by
  refine zgo (own := RX4) (k := 0) (by decide +kernel) rfl rfl rfl (fun C hC hnm hE => ?_)
  refine z_aload_n hC dX4_init_0 rfl ?_
  refine z_obj hC dX4_init_1 (zin1 (i := 133) rfl rfl) (zin1 (i := 22) rfl rfl) (zin1 (i := 23) rfl rfl) rfl rfl ?_
  refine z_aload_n hC dX4_init_4 rfl ?_
  refine z_sipush hC dX4_init_5 (v := nI 250) rfl ?_
  refine z_nwI hC (b := 3) dX4_init_8 (zin1 (i := 52) rfl rfl) hs0 rfl (by decide) (hX _) (hz 0) ⟨by decide, by decide⟩ ?_
  refine z_putOF hC hnm dX4_init_10 (zcut_lt hs (by decide)) zfX4_9 rfl rfl rfl rfl (ty := (.array .int)) (by decide +kernel) (fun _ => rfl) (fun _ => rfl) ?_
  refine z_aload_n hC dX4_init_13 rfl ?_
  refine z_iconst hC dX4_init_14 (v := nI 4) rfl ?_
  refine z_nwI hC (b := 3) dX4_init_15 (zin1 (i := 52) rfl rfl) hs1 rfl (by decide) (hX _) (hz 1) ⟨by decide, by decide⟩ ?_
  refine z_putOF hC hnm dX4_init_17 (zcut_lt hs (by decide)) zfX4_15 rfl rfl rfl rfl (ty := (.array .int)) (by decide +kernel) (fun _ => rfl) (fun _ => rfl) ?_
  refine z_widen (k := 2) (n := (254)) (by decide) (by decide) ?_
  refine z_vret hC dX4_init_20 ?_
  exact hE.to (by rfl) rfl rfl rfl

theorem c_X5_init (hs : S 3 22 = some (.inr (.inl (5, [.inr (some (3, 23)), .inr (some (3, 24)), .inr none, .inr none])))) (hs0 : S 3 23 = some (.inl (0, 14))) (hs1 : S 3 24 = some (.inl (0, 14))) (hX : ∀ k j, X 3 k j = 0) (hz : ∀ i, ad 3 (23 + i) = sz + i) : zCall mX5_init 1 2 (28) [zr 3 22] (none) ad (zcut 3 23 S) I X Y (sz) (zcut 3 25 S) (wgtI I) X Y (sz + 2) := by
  refine zgo (own := RX5) (k := 0) (by decide +kernel) rfl rfl rfl (fun C hC hnm hE => ?_)
  refine z_aload_n hC dX5_init_0 rfl ?_
  refine z_obj hC dX5_init_1 (zin1 (i := 94) rfl rfl) (zin1 (i := 22) rfl rfl) (zin1 (i := 23) rfl rfl) rfl rfl ?_
  refine z_aload_n hC dX5_init_4 rfl ?_
  refine z_bipush hC dX5_init_5 (v := nI 14) rfl ?_
  refine z_nwI hC (b := 3) dX5_init_7 (zin1 (i := 52) rfl rfl) hs0 rfl (by decide) (hX _) (hz 0) ⟨by decide, by decide⟩ ?_
  refine z_putOF hC hnm dX5_init_9 (zcut_lt hs (by decide)) zfX5_9 rfl rfl rfl rfl (ty := (.array .int)) (by decide +kernel) (fun _ => rfl) (fun _ => rfl) ?_
  refine z_aload_n hC dX5_init_12 rfl ?_
  refine z_bipush hC dX5_init_13 (v := nI 14) rfl ?_
  refine z_nwI hC (b := 3) dX5_init_15 (zin1 (i := 52) rfl rfl) hs1 rfl (by decide) (hX _) (hz 1) ⟨by decide, by decide⟩ ?_
  refine z_putOF hC hnm dX5_init_17 (zcut_lt hs (by decide)) zfX5_15 rfl rfl rfl rfl (ty := (.array .int)) (by decide +kernel) (fun _ => rfl) (fun _ => rfl) ?_
  refine z_widen (k := 2) (n := (28)) (by decide) (by decide) ?_
  refine z_vret hC dX5_init_20 ?_
  exact hE.to (by rfl) rfl rfl rfl

theorem c_X0_init (hs : S 3 25 = some (.inr (.inl (0, [.inr (some (3, 26)), .inr (some (3, 27)), .inr (some (3, 28)), .inr (some (3, 29))])))) (hs0 : S 3 26 = some (.inl (0, 901))) (hs1 : S 3 27 = some (.inl (0, 901))) (hs2 : S 3 28 = some (.inl (0, 4))) (hs3 : S 3 29 = some (.inl (0, 4))) (hX : ∀ k j, X 3 k j = 0) (hz : ∀ i, ad 3 (26 + i) = sz + i) : zCall mX0_init 1 4 (1810) [zr 3 25] (none) ad (zcut 3 26 S) I X Y (sz) (zcut 3 30 S) (plaI I) X Y (sz + 4) := by
  refine zgo (own := RX0) (k := 0) (by decide +kernel) rfl rfl rfl (fun C hC hnm hE => ?_)
  refine z_aload_n hC dX0_init_0 rfl ?_
  refine z_obj hC dX0_init_1 (zin1 (i := 114) rfl rfl) (zin1 (i := 22) rfl rfl) (zin1 (i := 23) rfl rfl) rfl rfl ?_
  refine z_aload_n hC dX0_init_4 rfl ?_
  refine z_sipush hC dX0_init_5 (v := nI 901) rfl ?_
  refine z_nwI hC (b := 3) dX0_init_8 (zin1 (i := 52) rfl rfl) hs0 rfl (by decide) (hX _) (hz 0) ⟨by decide, by decide⟩ ?_
  refine z_putOF hC hnm dX0_init_10 (zcut_lt hs (by decide)) zfX0_9 rfl rfl rfl rfl (ty := (.array .int)) (by decide +kernel) (fun _ => rfl) (fun _ => rfl) ?_
  refine z_aload_n hC dX0_init_13 rfl ?_
  refine z_sipush hC dX0_init_14 (v := nI 901) rfl ?_
  refine z_nwI hC (b := 3) dX0_init_17 (zin1 (i := 52) rfl rfl) hs1 rfl (by decide) (hX _) (hz 1) ⟨by decide, by decide⟩ ?_
  refine z_putOF hC hnm dX0_init_19 (zcut_lt hs (by decide)) zfX0_15 rfl rfl rfl rfl (ty := (.array .int)) (by decide +kernel) (fun _ => rfl) (fun _ => rfl) ?_
  refine z_aload_n hC dX0_init_22 rfl ?_
  refine z_iconst hC dX0_init_23 (v := nI 4) rfl ?_
  refine z_nwI hC (b := 3) dX0_init_24 (zin1 (i := 52) rfl rfl) hs2 rfl (by decide) (hX _) (hz 2) ⟨by decide, by decide⟩ ?_
  refine z_putOF hC hnm dX0_init_26 (zcut_lt hs (by decide)) zfX0_18 rfl rfl rfl rfl (ty := (.array .int)) (by decide +kernel) (fun _ => rfl) (fun _ => rfl) ?_
  refine z_aload_n hC dX0_init_29 rfl ?_
  refine z_iconst hC dX0_init_30 (v := nI 4) rfl ?_
  refine z_nwI hC (b := 3) dX0_init_31 (zin1 (i := 52) rfl rfl) hs3 rfl (by decide) (hX _) (hz 3) ⟨by decide, by decide⟩ ?_
  refine z_putOF hC hnm dX0_init_33 (zcut_lt hs (by decide)) zfX0_21 rfl rfl rfl rfl (ty := (.array .int)) (by decide +kernel) (fun _ => rfl) (fun _ => rfl) ?_
  refine z_widen (k := 4) (n := (1810)) (by decide) (by decide) ?_
  refine z_vret hC dX0_init_36 ?_
  exact hE.to (by rfl) rfl rfl rfl

theorem c_X2_init {k : Nat} (hs1 : S 3 k = some (sshR k)) (hs2 : S 3 (k + 1) = some (.inl (1, 40))) (hY : ∀ j, Y 3 (k + 1) j = 0) (hz : ad 3 (k + 1) = sz) : zCall mX2_init 1 1 (40) [zr 3 k] (none) ad (zcut 3 (k + 1) S) I X Y (sz) (zcut 3 (k + 2) S) (shfI k I) X Y (sz + 1) := by
  refine zgo (own := RX2) (k := 0) (by decide +kernel) rfl rfl rfl (fun C hC hnm hE => ?_)
  refine z_aload_n hC dX2_init_0 rfl ?_
  refine z_obj hC dX2_init_1 (zin1 (i := 160) rfl rfl) (zin1 (i := 22) rfl rfl) (zin1 (i := 23) rfl rfl) rfl rfl ?_
  refine z_aload_n hC dX2_init_4 rfl ?_
  refine z_iconst hC dX2_init_5 (v := -1) rfl ?_
  refine z_putI hC dX2_init_6 (zcut_lt hs1 (by omega)) zfX2_9 rfl rfl rfl rfl ?_
  refine z_aload_n hC dX2_init_9 rfl ?_
  refine z_bipush hC dX2_init_10 (v := nI 40) rfl ?_
  refine z_nwJ hC (b := 3) dX2_init_12 (zin1 (i := 172) rfl rfl) hs2 rfl (by decide) hY hz ⟨by decide, by decide⟩ ?_
  refine z_putOF hC hnm dX2_init_14 (zcut_lt hs1 (by omega)) zfX2_15 rfl rfl rfl rfl (ty := (.array .long)) (by decide +kernel) (fun _ => rfl) (fun _ => rfl) ?_
  refine z_widen (k := 1) (n := (40)) (by decide) (by decide) ?_
  refine z_vret hC dX2_init_17 ?_
  exact hE.to (by rfl) rfl rfl rfl

end
theorem roadI_off {r : Nat} {I : zI} {b k j : Nat} (h : ¬ (b = 3 ∧ r ≤ k ∧ k < r + 7)) : roadI r I b k j = I b k j := by
  unfold roadI
  rw [up3_ne (by omega), up3_ne (by omega), up3_ne (by omega), up3_ne (by omega), tabI_off (by omega), up3_ne (by omega), tabI_off (by omega), up3_ne (by omega), tabI_off (by omega)]
theorem shfI_off {k : Nat} {I : zI} {b k' j : Nat} (h : ¬ (b = 3 ∧ k' = k)) : shfI k I b k' j = I b k' j := by
  unfold shfI
  rw [up3_ne (by omega), up3_ne (by omega)]
theorem tapI_off {I : zI} {b k j : Nat} (h : ¬ (b = 3 ∧ k = 30)) : tapI I b k j = I b k j := by
  unfold tapI
  rw [up3_ne (by omega), up3_ne (by omega)]
theorem wgtI_off {I : zI} {b k j : Nat} (h : ¬ (b = 3 ∧ k = 22)) : wgtI I b k j = I b k j := by
  unfold wgtI
  rw [up3_ne (by omega), up3_ne (by omega)]
theorem plaI_off {I : zI} {b k j : Nat} (h : ¬ (b = 3 ∧ k = 25)) : plaI I b k j = I b k j := by
  unfold plaI
  rw [up3_ne (by omega), up3_ne (by omega), up3_ne (by omega), up3_ne (by omega)]
theorem roadI_v {r : Nat} {I : zI} : (∀ j, j < 3 → roadI r I 3 r j = 1) ∧ roadI r I 3 r 3 = nI 3 ∧ roadI r I 3 r 4 = I 3 r 4 ∧ roadI r I 3 r 5 = I 3 r 5 ∧ roadI r I 3 r 6 = -1 ∧ roadI r I 3 r 7 = nI 1 ∧ (∀ j, j < 3 → roadI r I 3 (r + 1 + 2 * j) 0 = 1) ∧ roadI r I 3 (r + 1) 1 = nI 5 ∧ roadI r I 3 (r + 3) 1 = nI 3 ∧ roadI r I 3 (r + 5) 1 = nI 3 ∧ ∀ j, j < 3 → roadI r I 3 (r + 1 + 2 * j) 2 = I 3 (r + 1 + 2 * j) 2 := by
  refine ⟨fun j hj => ?_, ?_, ?_, ?_, ?_, ?_, fun j hj => ?_, ?_, ?_, ?_, fun j hj => ?_⟩
  all_goals first | (have h3 : j = 0 ∨ j = 1 ∨ j = 2 := by omega
                     rcases h3 with rfl | rfl | rfl <;> simp [roadI, tabI, up3] <;> (intro hh; omega)) | simp [roadI, tabI, up3]

