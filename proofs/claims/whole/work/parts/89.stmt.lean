/-! the reference: statements, what they are -/
def pk (T : Nat → Nat) (z p : Nat) : Nat → Nat
  | 0 => p
  | i + 1 => tkE T z (pk T z p i)
def vk (T : Nat → Nat) (z p i : Nat) : Nat := fgN T z (pk T z p (i + 1))
def nmK (T : Nat → Nat) (z p m : Nat) : Nat → Nat := fun j => if j < m then vk T z p j else 0
abbrev cK (T : Nat → Nat) (z : Nat) (R : RS) (q p i : Nat) : Prop := tkS T z (pk T z p (i + 1)) = 2 ∧ tkN R q i (vk T z p i)
theorem pkz_le {T : Nat → Nat} {z p : Nat} (hp : p ≤ z) : ∀ i, pk T z p i ≤ z
  | 0 => hp
  | i + 1 => (tk_le (pkz_le hp i)).2.2.1
theorem hiN_le {R : RS} {c : Nat} (hn : R.1 0 ≤ 14) (hc : c < 32) : hiN R c ≤ 1001 := by
  unfold hiN
  by_cases h : (zAl 2).getD c 0 = -1
  · rw [if_pos h]; omega
  · rw [if_neg h]
    have := ((zAl_t c hc).2.2 h).2
    omega
theorem nb_iff {T : Nat → Nat} {z p q i : Nat} {R : RS} (hn : R.1 0 ≤ 14) (hq : q < 8) (hi : i < 4) (hs : tkS T z p = 2) : tkN R q i (fgN T z p) ↔ tkE T z p - tkA T z p ≤ 4 ∧ tkN R q i (vlP T z p) := by
  unfold fgN
  rw [if_pos hs]
  unfold fgF
  by_cases h : tkE T z p - tkA T z p ≤ 4
  · rw [if_pos h]
    exact ⟨fun z => ⟨h, z⟩, fun z => z.2⟩
  · rw [if_neg h]
    constructor
    · intro z
      have := hiN_le (R := R) (c := 4 * q + i) hn (by omega)
      have := z.2
      omega
    · intro z
      exact absurd z.1 h
theorem rd_step {T : Nat → Nat} {z p q n : Nat} {R : RS} (hn : R.1 0 ≤ 14) (hq : q < 8) (h4 : n ≤ 4) : ∀ m, m ≤ n → (∀ i, i < m → cK T z R q p i) → rdN T z R q n 0 p rs0 = rdN T z R q (n - m) m (pk T z p m) (nmK T z p m)
  | 0, _, _ => by
    have e : rs0 = nmK T z p 0 := funext fun j => (if_neg (Nat.not_lt_zero _)).symm
    rw [e]
    rfl
  | m + 1, hm, hc => by
    have h1 := hc m (Nat.lt_succ_self m)
    have h2 := (nb_iff hn hq (by omega) h1.1).mp h1.2
    rw [rd_step hn hq h4 m (by omega) (fun i hi => hc i (by omega)), show n - m = (n - (m + 1)) + 1 by omega, rdN_1 h1.1 h2.1 h2.2]
    have e : (fun j => if j = m then vlP T z (tkE T z (pk T z p m)) else nmK T z p m j) = nmK T z p (m + 1) := by
      funext j
      unfold nmK
      by_cases ej : j = m
      · subst ej
        rw [if_pos rfl, if_pos (Nat.lt_succ_self _)]
        show _ = fgN T z (pk T z p (j + 1))
        unfold fgN
        rw [if_pos h1.1]
        unfold fgF
        exact (if_pos h2.1).symm
      · rw [if_neg ej]
        by_cases e2 : j < m
        · rw [if_pos e2, if_pos (by omega)]
        · rw [if_neg e2, if_neg (by omega)]
    rw [e]
    rfl
theorem rd_t {T : Nat → Nat} {z p q n : Nat} {R : RS} (hn : R.1 0 ≤ 14) (hq : q < 8) (h4 : n ≤ 4) (hc : ∀ i, i < n → cK T z R q p i) : rdN T z R q n 0 p rs0 = (true, n, pk T z p n, nmK T z p n) := by
  rw [rd_step hn hq h4 n (Nat.le_refl _) hc, Nat.sub_self]
  rfl
theorem rd_f {T : Nat → Nat} {z p q n m : Nat} {R : RS} (hn : R.1 0 ≤ 14) (hq : q < 8) (h4 : n ≤ 4) (hm : m < n) (hc : ∀ i, i < m → cK T z R q p i) (hb : ¬ cK T z R q p m) : rdN T z R q n 0 p rs0 = (false, m, pk T z p (m + 1), nmK T z p m) := by
  rw [rd_step hn hq h4 m (by omega) hc, show n - m = (n - (m + 1)) + 1 by omega]
  refine (rdN_0 (fun h => hb ⟨h.1, (nb_iff hn hq (by omega) h.1).mpr h.2⟩))
theorem wq_e {T : Nat → Nat} {z p q : Nat} (h : wqN T z p = some q) : tkS T z p = 1 ∧ wstN T (tkA T z p) (tkE T z p) = some q := by
  unfold wqN at h
  by_cases c : tkS T z p = 1
  · rw [if_pos c] at h; exact ⟨c, h⟩
  · rw [if_neg c] at h; cases h
theorem rs_t {T : Nat → Nat} {z p q : Nat} {R : RS} (hn : R.1 0 ≤ 14) (hw : wqN T z p = some q) (hr : rmP R q) (hc : ∀ i, i < nbN q → cK T z R q p i) : rsN T z R p = (some q, pk T z p (nbN q), nbN q, nmK T z p (nbN q)) := by
  obtain ⟨h1, h2⟩ := wq_e hw
  have hq := wstN_lt h2
  exact rsN_f h1 h2 hr (ok := true) (rd_t hn hq (nbN_t q hq).2.1 hc).symm
theorem rs_f {T : Nat → Nat} {z p q m : Nat} {R : RS} (hn : R.1 0 ≤ 14) (hw : wqN T z p = some q) (hr : rmP R q) (hm : m < nbN q) (hc : ∀ i, i < m → cK T z R q p i) (hb : ¬ cK T z R q p m) : rsN T z R p = (none, pk T z p (m + 1), m, nmK T z p m) := by
  obtain ⟨h1, h2⟩ := wq_e hw
  have hq := wstN_lt h2
  exact rsN_f h1 h2 hr (ok := false) (rd_f hn hq (nbN_t q hq).2.1 hm hc hb).symm
theorem rs_n {T : Nat → Nat} {z p : Nat} {R : RS} (hw : wqN T z p = none ∨ ∃ q, wqN T z p = some q ∧ ¬ rmP R q) : rsN T z R p = (none, p, 0, rs0) := by
  rcases hw with hw | ⟨q, hw, hr⟩
  · unfold wqN at hw
    by_cases c : tkS T z p = 1
    · rw [if_pos c] at hw; exact rsN_w hw
    · exact rsN_n c
  · exact rsN_r (wq_e hw).2 hr
theorem zr_1 {b c : Nat} {f : Nat → Nat} {X : zI} : up3 X b c 0 (nI (f 0)) = zrow b c f 1 X := by
  have h := zrow_s (b := b) (c := c) (k := 0) (f := f) (X := X)
  rw [zrow_0] at h
  exact h
theorem kP_00 {R : RS} {v : Nat} (hv : v ≤ 100000) : tkN R 0 0 v ↔ cP 0 (nI 5) v := tkV_00.trans (cP_n (by omega) (by omega) (by omega)).symm
theorem kP_01 {R : RS} {v : Nat} (hv : v ≤ 100000) : tkN R 0 1 v ↔ cP 0 (nI 9) v := tkV_01.trans (cP_n (by omega) (by omega) (by omega)).symm
theorem kP_02 {R : RS} {v : Nat} (hv : v ≤ 100000) : tkN R 0 2 v ↔ cP 1 (nI 999) v := tkV_02.trans (cP_n (by omega) (by omega) (by omega)).symm
theorem kP_03 {R : RS} {v : Nat} (hv : v ≤ 100000) : tkN R 0 3 v ↔ cP 0 (nI 1000) v := tkV_03.trans (cP_n (by omega) (by omega) (by omega)).symm
theorem kP_10 {R : RS} {v : Nat} (hv : v ≤ 100000) : tkN R 1 0 v ↔ cP 1 (nI 9) v := tkV_10.trans (cP_n (by omega) (by omega) (by omega)).symm
theorem kP_20 {R : RS} {v : Nat} (hv : v ≤ 100000) : tkN R 2 0 v ↔ cP 0 (nI 1) v := tkV_20.trans (cP_n (by omega) (by omega) (by omega)).symm
theorem kP_30 {R : RS} {v : Nat} (hv : v ≤ 100000) : tkN R 3 0 v ↔ cP 0 (nI 10) v := tkV_30.trans (cP_n (by omega) (by omega) (by omega)).symm
theorem kP_40 {R : RS} (hn : R.1 0 ≤ 14) {v : Nat} (hv : v ≤ 100000) : tkN R 4 0 v ↔ cP 0 (nI (R.1 0) - nI 1) v := tkV_40.trans (cP_b (by omega) (by omega)).symm
theorem kP_41 {R : RS} {v : Nat} (hv : v ≤ 100000) : tkN R 4 1 v ↔ cP 0 (nI 100) v := tkV_41.trans (cP_n (by omega) (by omega) (by omega)).symm
theorem kP_50 {R : RS} (hn : R.1 0 ≤ 14) {v : Nat} (hv : v ≤ 100000) : tkN R 5 0 v ↔ cP 0 (nI (R.1 0) - nI 1) v := tkV_50.trans (cP_b (by omega) (by omega)).symm
theorem kP_51 {R : RS} {v : Nat} (hv : v ≤ 100000) : tkN R 5 1 v ↔ cP 0 (nI 100) v := tkV_51.trans (cP_n (by omega) (by omega) (by omega)).symm
theorem kP_60 {R : RS} (hn : R.1 0 ≤ 14) {v : Nat} (hv : v ≤ 100000) : tkN R 6 0 v ↔ cP 0 (nI (R.1 0) - nI 1) v := tkV_60.trans (cP_b (by omega) (by omega)).symm
theorem kP_61 {R : RS} {v : Nat} (hv : v ≤ 100000) : tkN R 6 1 v ↔ cP 1 (nI 99) v := tkV_61.trans (cP_n (by omega) (by omega) (by omega)).symm
theorem kP_62 {R : RS} {v : Nat} (hv : v ≤ 100000) : tkN R 6 2 v ↔ cP 0 (nI 100) v := tkV_62.trans (cP_n (by omega) (by omega) (by omega)).symm
theorem kP_70 {R : RS} (hn : R.1 0 ≤ 14) {v : Nat} (hv : v ≤ 100000) : tkN R 7 0 v ↔ cP 0 (nI (R.1 0) - nI 1) v := tkV_70.trans (cP_b (by omega) (by omega)).symm
theorem kP_71 {R : RS} {v : Nat} (hv : v ≤ 100000) : tkN R 7 1 v ↔ cP 0 (nI 2) v := tkV_71.trans (cP_n (by omega) (by omega) (by omega)).symm
section
variable {ad : zA} {S : zSh} {I X : zI} {Y : zY} {sz b : Nat} {R : RS}

theorem c_ask_0 (hS : ∀ k, S b k = msh b k) (hm : zQm b R I X) (hR : ROK R) {y : Nat} (hy : 1 ≤ y ∧ y ≤ 9) : zC0 mX7_ask 1 [zr b 0, zi (nI 0), zi (nI y)] (some (zi (nI (R.1 3)))) ad S I X Y sz (up3 I b 0 23 (nI y)) X Y := by
  refine zgo (own := RX7) (k := 2) (by decide +kernel) rfl rfl rfl (fun C hC hnm hE => ?_)
  have hmo := hm
  have hn14 := hR.1
  have hn8 := hR.2.1
  have hn6 := hR.2.2.1
  refine z_iload_n hC dX7_ask_0 rfl ?_
  refine z_nif_ne hC dX7_ask_1 (tgt := 16) (by decide) (by omega) (fun c1 => ?_) (fun c1 => ?_)
  · exact absurd c1 (by decide)
  refine z_iload_n hC dX7_ask_4 rfl ?_
  refine z_n2m hC dX7_ask_5 (by omega) ?_
  refine z_lconst hC dX7_ask_6 (v := lN 1) rfl ?_
  refine z_ldc2 hC dX7_ask_7 (v := lN 9) (zin5 (i := 167) rfl rfl) ?_
  refine wSv hC dX7_ask_10 zlX7_97 (c_X7_inN (by omega) (by omega) (by omega)) rfl rfl rfl rfl ⟨rfl, rfl⟩ ?_
  refine z_goto hC dX7_ask_13 (tgt := 53) (by decide) ?_
  refine z_istore_n hC dX7_ask_53 (lo2 := [_, _, _, _, _]) (Nat.le_of_ble_eq_true rfl) rfl rfl ?_
  refine z_iload_n hC dX7_ask_54 rfl ?_
  refine w_ifb_ne hC dX7_ask_55 (tgt := 65) (by decide) (fun c55 => ?_) (fun c55 => ?_)
  rotate_left
  · exact absurd c55 (by omega)
  refine z_iload_n hC dX7_ask_65 rfl ?_
  refine z_nif_ne hC dX7_ask_66 (tgt := 76) (by decide) (by omega) (fun c66 => ?_) (fun c66 => ?_)
  · exact absurd c66 (by decide)
  refine z_aload_n hC dX7_ask_69 rfl ?_
  refine z_getN hC dX7_ask_70 (hS _) zfX7_70 rfl hm.1.2.2.2.1 ?_
  refine z_goto hC dX7_ask_73 (tgt := 92) (by decide) ?_
  refine z_istore hC dX7_ask_92 (lo2 := [_, _, _, _, _]) (Nat.le_of_ble_eq_true rfl) rfl rfl ?_
  refine z_aload_n hC dX7_ask_94 rfl ?_
  refine z_iload_n hC dX7_ask_95 rfl ?_
  refine z_nif_ne hC dX7_ask_96 (tgt := 103) (by decide) (by omega) (fun c96 => ?_) (fun c96 => ?_)
  · exact absurd c96 (by decide)
  refine z_iload_n hC dX7_ask_99 rfl ?_
  refine z_goto hC dX7_ask_100 (tgt := 107) (by decide) ?_
  refine z_putI hC dX7_ask_107 (hS _) zfX7_70 rfl rfl rfl rfl ?_
  refine z_aload_n hC dX7_ask_110 rfl ?_
  refine z_iload_n hC dX7_ask_111 rfl ?_
  refine z_iconst hC dX7_ask_112 (v := nI 1) rfl ?_
  refine z_nicmp_ne hC dX7_ask_113 (tgt := 120) (by decide) (by omega) (by omega) (fun c113 => ?_) (fun c113 => ?_)
  rotate_left
  · exact absurd c113 (by decide)
  refine z_aload_n hC dX7_ask_120 rfl ?_
  refine z_getN hC dX7_ask_121 (hS _) zfX7_144 rfl ((up3_ne (by omega)).trans hm.1.2.2.2.2.1) ?_
  refine z_putI hC dX7_ask_124 (hS _) zfX7_144 rfl rfl rfl rfl ?_
  refine z_I (up3_id ((up3_ne (by omega)).trans hm.1.2.2.2.2.1)) ?_
  refine z_aload_n hC dX7_ask_127 rfl ?_
  refine z_iload_n hC dX7_ask_128 rfl ?_
  refine z_iconst hC dX7_ask_129 (v := nI 2) rfl ?_
  refine z_nicmp_ne hC dX7_ask_130 (tgt := 137) (by decide) (by omega) (by omega) (fun c130 => ?_) (fun c130 => ?_)
  rotate_left
  · exact absurd c130 (by decide)
  refine z_aload_n hC dX7_ask_137 rfl ?_
  refine z_getN hC dX7_ask_138 (hS _) zfX7_147 rfl ((up3_ne (by omega)).trans hm.1.2.2.2.2.2.1) ?_
  refine z_putI hC dX7_ask_141 (hS _) zfX7_147 rfl rfl rfl rfl ?_
  refine z_I (up3_id ((up3_ne (by omega)).trans hm.1.2.2.2.2.2.1)) ?_
  refine z_iload hC dX7_ask_144 rfl ?_
  refine z_iret hC dX7_ask_146 ?_
  exact hE.to (by rfl) rfl rfl rfl

theorem c_ask_1 (hS : ∀ k, S b k = msh b k) (hm : zQm b R I X) (hR : ROK R) {y : Nat} (hy : y ≤ 1) : zC0 mX7_ask 1 [zr b 0, zi (nI 1), zi (nI y)] (some (zi (nI (R.1 4)))) ad S I X Y sz (up3 I b 0 24 (nI y)) X Y := by
  refine zgo (own := RX7) (k := 2) (by decide +kernel) rfl rfl rfl (fun C hC hnm hE => ?_)
  have hmo := hm
  have hn14 := hR.1
  have hn8 := hR.2.1
  have hn6 := hR.2.2.1
  refine z_iload_n hC dX7_ask_0 rfl ?_
  refine z_nif_ne hC dX7_ask_1 (tgt := 16) (by decide) (by omega) (fun c1 => ?_) (fun c1 => ?_)
  rotate_left
  · exact absurd c1 (by decide)
  refine z_iload_n hC dX7_ask_16 rfl ?_
  refine z_iconst hC dX7_ask_17 (v := nI 1) rfl ?_
  refine z_nicmp_ne hC dX7_ask_18 (tgt := 31) (by decide) (by omega) (by omega) (fun c18 => ?_) (fun c18 => ?_)
  · exact absurd c18 (by decide)
  refine z_iload_n hC dX7_ask_21 rfl ?_
  refine z_n2m hC dX7_ask_22 (by omega) ?_
  refine z_lconst hC dX7_ask_23 (v := lN 0) rfl ?_
  refine z_lconst hC dX7_ask_24 (v := lN 1) rfl ?_
  refine wSv hC dX7_ask_25 zlX7_97 (c_X7_inN (by omega) (by omega) (by omega)) rfl rfl rfl rfl ⟨rfl, rfl⟩ ?_
  refine z_goto hC dX7_ask_28 (tgt := 53) (by decide) ?_
  refine z_istore_n hC dX7_ask_53 (lo2 := [_, _, _, _, _]) (Nat.le_of_ble_eq_true rfl) rfl rfl ?_
  refine z_iload_n hC dX7_ask_54 rfl ?_
  refine w_ifb_ne hC dX7_ask_55 (tgt := 65) (by decide) (fun c55 => ?_) (fun c55 => ?_)
  rotate_left
  · exact absurd c55 (by omega)
  refine z_iload_n hC dX7_ask_65 rfl ?_
  refine z_nif_ne hC dX7_ask_66 (tgt := 76) (by decide) (by omega) (fun c66 => ?_) (fun c66 => ?_)
  rotate_left
  · exact absurd c66 (by decide)
  refine z_iload_n hC dX7_ask_76 rfl ?_
  refine z_iconst hC dX7_ask_77 (v := nI 1) rfl ?_
  refine z_nicmp_ne hC dX7_ask_78 (tgt := 88) (by decide) (by omega) (by omega) (fun c78 => ?_) (fun c78 => ?_)
  · exact absurd c78 (by decide)
  refine z_aload_n hC dX7_ask_81 rfl ?_
  refine z_getN hC dX7_ask_82 (hS _) zfX7_144 rfl hm.1.2.2.2.2.1 ?_
  refine z_goto hC dX7_ask_85 (tgt := 92) (by decide) ?_
  refine z_istore hC dX7_ask_92 (lo2 := [_, _, _, _, _]) (Nat.le_of_ble_eq_true rfl) rfl rfl ?_
  refine z_aload_n hC dX7_ask_94 rfl ?_
  refine z_iload_n hC dX7_ask_95 rfl ?_
  refine z_nif_ne hC dX7_ask_96 (tgt := 103) (by decide) (by omega) (fun c96 => ?_) (fun c96 => ?_)
  rotate_left
  · exact absurd c96 (by decide)
  refine z_aload_n hC dX7_ask_103 rfl ?_
  refine z_getN hC dX7_ask_104 (hS _) zfX7_70 rfl hm.1.2.2.2.1 ?_
  refine z_putI hC dX7_ask_107 (hS _) zfX7_70 rfl rfl rfl rfl ?_
  refine z_I (up3_id hm.1.2.2.2.1) ?_
  refine z_aload_n hC dX7_ask_110 rfl ?_
  refine z_iload_n hC dX7_ask_111 rfl ?_
  refine z_iconst hC dX7_ask_112 (v := nI 1) rfl ?_
  refine z_nicmp_ne hC dX7_ask_113 (tgt := 120) (by decide) (by omega) (by omega) (fun c113 => ?_) (fun c113 => ?_)
  · exact absurd c113 (by decide)
  refine z_iload_n hC dX7_ask_116 rfl ?_
  refine z_goto hC dX7_ask_117 (tgt := 124) (by decide) ?_
  refine z_putI hC dX7_ask_124 (hS _) zfX7_144 rfl rfl rfl rfl ?_
  refine z_aload_n hC dX7_ask_127 rfl ?_
  refine z_iload_n hC dX7_ask_128 rfl ?_
  refine z_iconst hC dX7_ask_129 (v := nI 2) rfl ?_
  refine z_nicmp_ne hC dX7_ask_130 (tgt := 137) (by decide) (by omega) (by omega) (fun c130 => ?_) (fun c130 => ?_)
  rotate_left
  · exact absurd c130 (by decide)
  refine z_aload_n hC dX7_ask_137 rfl ?_
  refine z_getN hC dX7_ask_138 (hS _) zfX7_147 rfl ((up3_ne (by omega)).trans hm.1.2.2.2.2.2.1) ?_
  refine z_putI hC dX7_ask_141 (hS _) zfX7_147 rfl rfl rfl rfl ?_
  refine z_I (up3_id ((up3_ne (by omega)).trans hm.1.2.2.2.2.2.1)) ?_
  refine z_iload hC dX7_ask_144 rfl ?_
  refine z_iret hC dX7_ask_146 ?_
  exact hE.to (by rfl) rfl rfl rfl

theorem c_ask_2 (hS : ∀ k, S b k = msh b k) (hm : zQm b R I X) (hR : ROK R) {y : Nat} (hy : y ≤ 10) : zC0 mX7_ask 1 [zr b 0, zi (nI 2), zi (nI y)] (some (zi (nI (R.1 5)))) ad S I X Y sz (up3 I b 0 25 (nI y)) X Y := by
  refine zgo (own := RX7) (k := 2) (by decide +kernel) rfl rfl rfl (fun C hC hnm hE => ?_)
  have hmo := hm
  have hn14 := hR.1
  have hn8 := hR.2.1
  have hn6 := hR.2.2.1
  refine z_iload_n hC dX7_ask_0 rfl ?_
  refine z_nif_ne hC dX7_ask_1 (tgt := 16) (by decide) (by omega) (fun c1 => ?_) (fun c1 => ?_)
  rotate_left
  · exact absurd c1 (by decide)
  refine z_iload_n hC dX7_ask_16 rfl ?_
  refine z_iconst hC dX7_ask_17 (v := nI 1) rfl ?_
  refine z_nicmp_ne hC dX7_ask_18 (tgt := 31) (by decide) (by omega) (by omega) (fun c18 => ?_) (fun c18 => ?_)
  rotate_left
  · exact absurd c18 (by decide)
  refine z_iload_n hC dX7_ask_31 rfl ?_
  refine z_iconst hC dX7_ask_32 (v := nI 2) rfl ?_
  refine z_nicmp_ne hC dX7_ask_33 (tgt := 52) (by decide) (by omega) (by omega) (fun c33 => ?_) (fun c33 => ?_)
  · exact absurd c33 (by decide)
  refine z_iload_n hC dX7_ask_36 rfl ?_
  refine z_n2m hC dX7_ask_37 (by omega) ?_
  refine z_lconst hC dX7_ask_38 (v := lN 0) rfl ?_
  refine z_ldc2 hC dX7_ask_39 (v := lN 10) (zin5 (i := 178) rfl rfl) ?_
  refine wSv hC dX7_ask_42 zlX7_97 (c_X7_inN (by omega) (by omega) (by omega)) rfl rfl rfl rfl ⟨rfl, rfl⟩ ?_
  refine w_ifb_eq hC dX7_ask_45 (tgt := 52) (by decide) (fun c45 => ?_) (fun c45 => ?_)
  · exact absurd c45 (by omega)
  refine z_iconst hC dX7_ask_48 (v := nI 1) rfl ?_
  refine z_goto hC dX7_ask_49 (tgt := 53) (by decide) ?_
  refine z_istore_n hC dX7_ask_53 (lo2 := [_, _, _, _, _]) (Nat.le_of_ble_eq_true rfl) rfl rfl ?_
  refine z_iload_n hC dX7_ask_54 rfl ?_
  refine z_nif_ne hC dX7_ask_55 (tgt := 65) (by decide) (by omega) (fun c55 => ?_) (fun c55 => ?_)
  rotate_left
  · exact absurd c55 (by decide)
  refine z_iload_n hC dX7_ask_65 rfl ?_
  refine z_nif_ne hC dX7_ask_66 (tgt := 76) (by decide) (by omega) (fun c66 => ?_) (fun c66 => ?_)
  rotate_left
  · exact absurd c66 (by decide)
  refine z_iload_n hC dX7_ask_76 rfl ?_
  refine z_iconst hC dX7_ask_77 (v := nI 1) rfl ?_
  refine z_nicmp_ne hC dX7_ask_78 (tgt := 88) (by decide) (by omega) (by omega) (fun c78 => ?_) (fun c78 => ?_)
  rotate_left
  · exact absurd c78 (by decide)
  refine z_aload_n hC dX7_ask_88 rfl ?_
  refine z_getN hC dX7_ask_89 (hS _) zfX7_147 rfl hm.1.2.2.2.2.2.1 ?_
  refine z_istore hC dX7_ask_92 (lo2 := [_, _, _, _, _]) (Nat.le_of_ble_eq_true rfl) rfl rfl ?_
  refine z_aload_n hC dX7_ask_94 rfl ?_
  refine z_iload_n hC dX7_ask_95 rfl ?_
  refine z_nif_ne hC dX7_ask_96 (tgt := 103) (by decide) (by omega) (fun c96 => ?_) (fun c96 => ?_)
  rotate_left
  · exact absurd c96 (by decide)
  refine z_aload_n hC dX7_ask_103 rfl ?_
  refine z_getN hC dX7_ask_104 (hS _) zfX7_70 rfl hm.1.2.2.2.1 ?_
  refine z_putI hC dX7_ask_107 (hS _) zfX7_70 rfl rfl rfl rfl ?_
  refine z_I (up3_id hm.1.2.2.2.1) ?_
  refine z_aload_n hC dX7_ask_110 rfl ?_
  refine z_iload_n hC dX7_ask_111 rfl ?_
  refine z_iconst hC dX7_ask_112 (v := nI 1) rfl ?_
  refine z_nicmp_ne hC dX7_ask_113 (tgt := 120) (by decide) (by omega) (by omega) (fun c113 => ?_) (fun c113 => ?_)
  rotate_left
  · exact absurd c113 (by decide)
  refine z_aload_n hC dX7_ask_120 rfl ?_
  refine z_getN hC dX7_ask_121 (hS _) zfX7_144 rfl hm.1.2.2.2.2.1 ?_
  refine z_putI hC dX7_ask_124 (hS _) zfX7_144 rfl rfl rfl rfl ?_
  refine z_I (up3_id hm.1.2.2.2.2.1) ?_
  refine z_aload_n hC dX7_ask_127 rfl ?_
  refine z_iload_n hC dX7_ask_128 rfl ?_
  refine z_iconst hC dX7_ask_129 (v := nI 2) rfl ?_
  refine z_nicmp_ne hC dX7_ask_130 (tgt := 137) (by decide) (by omega) (by omega) (fun c130 => ?_) (fun c130 => ?_)
  · exact absurd c130 (by decide)
  refine z_iload_n hC dX7_ask_133 rfl ?_
  refine z_goto hC dX7_ask_134 (tgt := 141) (by decide) ?_
  refine z_putI hC dX7_ask_141 (hS _) zfX7_147 rfl rfl rfl rfl ?_
  refine z_iload hC dX7_ask_144 rfl ?_
  refine z_iret hC dX7_ask_146 ?_
  exact hE.to (by rfl) rfl rfl rfl

end
section
variable {ad : zA} {S : zSh} {I X : zI} {Y : zY} {sz : Nat} {T : Nat → Nat} {z : Nat} {R : RS}

theorem c_asked_0t (hS : ∀ k, S 0 k = msh 0 k) (h7 : I 0 0 7 = nI z) (hX : ∀ i, i < z → X 0 15 i = nI (T i)) (hz : z ≤ 250) (hT : ∀ i, i < z → T i ≤ 255) {p : Nat} (hp : p ≤ z) (hs : mSt T z p I) (hm : zQm 0 R I X) (hR : ROK R) (hc : cK T z R 1 p 0) : zC0 mX7_asked 4 [zr 0 0, zi (nI 0), zi (nI 1), zi (nI 9)] (some (zi (nI 1))) ad S I X Y sz (up3 (mTM T z I (tkE T z (tkE T z p))) 0 0 23 (nI (vk T z p 0))) (zrow 0 28 (vk T z p) 1 X) Y := by
  refine zgo (own := RX7) (k := 0) (by decide +kernel) rfl rfl rfl (fun C hC hnm hE => ?_)
  have htk := tk_le (T := T) hp
  have hfb := fgN_le (T := T) htk.2.2.1
  have hk : cP 1 (nI 9) (fgN T z (tkE T z p)) := (kP_10 hfb).mp hc.2
  have hy := (tkV_10).mp hc.2
  have hmn : zQm 0 R (mTM T z I (tkE T z (tkE T z p))) (zrow 0 28 (vk T z p) 1 X) := hm.frame (fun j h1 h2 => mTM_ne (by omega)) (fun k j h1 h2 => zrow_ne (by omega))
  refine z_aload_n hC dX7_asked_0 rfl ?_
  refine z_iload_n hC dX7_asked_1 rfl ?_
  refine z_iload_n hC dX7_asked_2 rfl ?_
  refine wVv hC dX7_asked_3 zlX7_218 (c_tells_t hS h7 hX hz hT hp hs (by decide) hc.1 hk) (hS _) rfl rfl rfl rfl rfl rfl ⟨rfl, rfl⟩ ?_
  refine z_X (X2 := zrow 0 28 (vk T z p) 1 X) (zr_1 (f := vk T z p)) ?_
  refine z_nif_ne hC dX7_asked_6 (tgt := 11) (by decide) (by omega) (fun c6 => ?_) (fun c6 => ?_)
  rotate_left
  · exact absurd c6 (by decide)
  refine z_aload_n hC dX7_asked_11 rfl ?_
  refine z_iload_n hC dX7_asked_12 rfl ?_
  refine z_aload_n hC dX7_asked_13 rfl ?_
  refine z_getR hC dX7_asked_14 (hS _) zfX7_80 rfl ?_
  refine z_iconst hC dX7_asked_17 (v := nI 0) rfl ?_
  refine z_naldN hC dX7_asked_18 (hS _) (by omega) rfl (zrow_get (f := vk T z p) (by decide)) ?_
  refine wVv hC dX7_asked_19 zlX7_221 (c_ask_0 hS hmn hR (y := vk T z p 0) (by omega)) (hS _) rfl rfl rfl rfl rfl rfl ⟨rfl, rfl⟩ ?_
  refine z_pop hC dX7_asked_22 rfl ?_
  refine z_iconst hC dX7_asked_23 (v := nI 1) rfl ?_
  refine z_zret hC dX7_asked_24 rfl ?_
  exact hE.to (by rfl) rfl rfl rfl

theorem c_asked_0f (hS : ∀ k, S 0 k = msh 0 k) (h7 : I 0 0 7 = nI z) (hX : ∀ i, i < z → X 0 15 i = nI (T i)) (hz : z ≤ 250) (hT : ∀ i, i < z → T i ≤ 255) {p : Nat} (hp : p ≤ z) (hs : mSt T z p I) (hm : zQm 0 R I X) (hR : ROK R) (hc : ¬ cK T z R 1 p 0) : zC0 mX7_asked 4 [zr 0 0, zi (nI 0), zi (nI 1), zi (nI 9)] (some (zi (nI 0))) ad S I X Y sz (up3 (mTM T z I (tkE T z p)) 0 0 34 (nI (tkA T z (tkE T z p)))) X Y := by
  refine zgo (own := RX7) (k := 0) (by decide +kernel) rfl rfl rfl (fun C hC hnm hE => ?_)
  have htk := tk_le (T := T) hp
  have hfb := fgN_le (T := T) htk.2.2.1
  refine z_aload_n hC dX7_asked_0 rfl ?_
  refine z_iload_n hC dX7_asked_1 rfl ?_
  refine z_iload_n hC dX7_asked_2 rfl ?_
  refine wVv hC dX7_asked_3 zlX7_218 (c_tells_f hS h7 hX hz hT hp hs (by decide) (fun w => hc ⟨w.1, (kP_10 hfb).mpr w.2⟩)) (hS _) rfl rfl rfl rfl rfl rfl ⟨rfl, rfl⟩ ?_
  refine z_nif_ne hC dX7_asked_6 (tgt := 11) (by decide) (by omega) (fun c6 => ?_) (fun c6 => ?_)
  · exact absurd c6 (by decide)
  refine z_iconst hC dX7_asked_9 (v := nI 0) rfl ?_
  refine z_zret hC dX7_asked_10 rfl ?_
  exact hE.to (by rfl) rfl rfl rfl

theorem c_asked_1t (hS : ∀ k, S 0 k = msh 0 k) (h7 : I 0 0 7 = nI z) (hX : ∀ i, i < z → X 0 15 i = nI (T i)) (hz : z ≤ 250) (hT : ∀ i, i < z → T i ≤ 255) {p : Nat} (hp : p ≤ z) (hs : mSt T z p I) (hm : zQm 0 R I X) (hR : ROK R) (hc : cK T z R 2 p 0) : zC0 mX7_asked 4 [zr 0 0, zi (nI 1), zi (nI 0), zi (nI 1)] (some (zi (nI 1))) ad S I X Y sz (up3 (mTM T z I (tkE T z (tkE T z p))) 0 0 24 (nI (vk T z p 0))) (zrow 0 28 (vk T z p) 1 X) Y := by
  refine zgo (own := RX7) (k := 0) (by decide +kernel) rfl rfl rfl (fun C hC hnm hE => ?_)
  have htk := tk_le (T := T) hp
  have hfb := fgN_le (T := T) htk.2.2.1
  have hk : cP 0 (nI 1) (fgN T z (tkE T z p)) := (kP_20 hfb).mp hc.2
  have hy := (tkV_20).mp hc.2
  have hmn : zQm 0 R (mTM T z I (tkE T z (tkE T z p))) (zrow 0 28 (vk T z p) 1 X) := hm.frame (fun j h1 h2 => mTM_ne (by omega)) (fun k j h1 h2 => zrow_ne (by omega))
  refine z_aload_n hC dX7_asked_0 rfl ?_
  refine z_iload_n hC dX7_asked_1 rfl ?_
  refine z_iload_n hC dX7_asked_2 rfl ?_
  refine wVv hC dX7_asked_3 zlX7_218 (c_tells_t hS h7 hX hz hT hp hs (by decide) hc.1 hk) (hS _) rfl rfl rfl rfl rfl rfl ⟨rfl, rfl⟩ ?_
  refine z_X (X2 := zrow 0 28 (vk T z p) 1 X) (zr_1 (f := vk T z p)) ?_
  refine z_nif_ne hC dX7_asked_6 (tgt := 11) (by decide) (by omega) (fun c6 => ?_) (fun c6 => ?_)
  rotate_left
  · exact absurd c6 (by decide)
  refine z_aload_n hC dX7_asked_11 rfl ?_
  refine z_iload_n hC dX7_asked_12 rfl ?_
  refine z_aload_n hC dX7_asked_13 rfl ?_
  refine z_getR hC dX7_asked_14 (hS _) zfX7_80 rfl ?_
  refine z_iconst hC dX7_asked_17 (v := nI 0) rfl ?_
  refine z_naldN hC dX7_asked_18 (hS _) (by omega) rfl (zrow_get (f := vk T z p) (by decide)) ?_
  refine wVv hC dX7_asked_19 zlX7_221 (c_ask_1 hS hmn hR (y := vk T z p 0) (by omega)) (hS _) rfl rfl rfl rfl rfl rfl ⟨rfl, rfl⟩ ?_
  refine z_pop hC dX7_asked_22 rfl ?_
  refine z_iconst hC dX7_asked_23 (v := nI 1) rfl ?_
  refine z_zret hC dX7_asked_24 rfl ?_
  exact hE.to (by rfl) rfl rfl rfl

theorem c_asked_1f (hS : ∀ k, S 0 k = msh 0 k) (h7 : I 0 0 7 = nI z) (hX : ∀ i, i < z → X 0 15 i = nI (T i)) (hz : z ≤ 250) (hT : ∀ i, i < z → T i ≤ 255) {p : Nat} (hp : p ≤ z) (hs : mSt T z p I) (hm : zQm 0 R I X) (hR : ROK R) (hc : ¬ cK T z R 2 p 0) : zC0 mX7_asked 4 [zr 0 0, zi (nI 1), zi (nI 0), zi (nI 1)] (some (zi (nI 0))) ad S I X Y sz (up3 (mTM T z I (tkE T z p)) 0 0 34 (nI (tkA T z (tkE T z p)))) X Y := by
  refine zgo (own := RX7) (k := 0) (by decide +kernel) rfl rfl rfl (fun C hC hnm hE => ?_)
  have htk := tk_le (T := T) hp
  have hfb := fgN_le (T := T) htk.2.2.1
  refine z_aload_n hC dX7_asked_0 rfl ?_
  refine z_iload_n hC dX7_asked_1 rfl ?_
  refine z_iload_n hC dX7_asked_2 rfl ?_
  refine wVv hC dX7_asked_3 zlX7_218 (c_tells_f hS h7 hX hz hT hp hs (by decide) (fun w => hc ⟨w.1, (kP_20 hfb).mpr w.2⟩)) (hS _) rfl rfl rfl rfl rfl rfl ⟨rfl, rfl⟩ ?_
  refine z_nif_ne hC dX7_asked_6 (tgt := 11) (by decide) (by omega) (fun c6 => ?_) (fun c6 => ?_)
  · exact absurd c6 (by decide)
  refine z_iconst hC dX7_asked_9 (v := nI 0) rfl ?_
  refine z_zret hC dX7_asked_10 rfl ?_
  exact hE.to (by rfl) rfl rfl rfl

theorem c_asked_2t (hS : ∀ k, S 0 k = msh 0 k) (h7 : I 0 0 7 = nI z) (hX : ∀ i, i < z → X 0 15 i = nI (T i)) (hz : z ≤ 250) (hT : ∀ i, i < z → T i ≤ 255) {p : Nat} (hp : p ≤ z) (hs : mSt T z p I) (hm : zQm 0 R I X) (hR : ROK R) (hc : cK T z R 3 p 0) : zC0 mX7_asked 4 [zr 0 0, zi (nI 2), zi (nI 0), zi (nI 10)] (some (zi (nI 1))) ad S I X Y sz (up3 (mTM T z I (tkE T z (tkE T z p))) 0 0 25 (nI (vk T z p 0))) (zrow 0 28 (vk T z p) 1 X) Y := by
  refine zgo (own := RX7) (k := 0) (by decide +kernel) rfl rfl rfl (fun C hC hnm hE => ?_)
  have htk := tk_le (T := T) hp
  have hfb := fgN_le (T := T) htk.2.2.1
  have hk : cP 0 (nI 10) (fgN T z (tkE T z p)) := (kP_30 hfb).mp hc.2
  have hy := (tkV_30).mp hc.2
  have hmn : zQm 0 R (mTM T z I (tkE T z (tkE T z p))) (zrow 0 28 (vk T z p) 1 X) := hm.frame (fun j h1 h2 => mTM_ne (by omega)) (fun k j h1 h2 => zrow_ne (by omega))
  refine z_aload_n hC dX7_asked_0 rfl ?_
  refine z_iload_n hC dX7_asked_1 rfl ?_
  refine z_iload_n hC dX7_asked_2 rfl ?_
  refine wVv hC dX7_asked_3 zlX7_218 (c_tells_t hS h7 hX hz hT hp hs (by decide) hc.1 hk) (hS _) rfl rfl rfl rfl rfl rfl ⟨rfl, rfl⟩ ?_
  refine z_X (X2 := zrow 0 28 (vk T z p) 1 X) (zr_1 (f := vk T z p)) ?_
  refine z_nif_ne hC dX7_asked_6 (tgt := 11) (by decide) (by omega) (fun c6 => ?_) (fun c6 => ?_)
  rotate_left
  · exact absurd c6 (by decide)
  refine z_aload_n hC dX7_asked_11 rfl ?_
  refine z_iload_n hC dX7_asked_12 rfl ?_
  refine z_aload_n hC dX7_asked_13 rfl ?_
  refine z_getR hC dX7_asked_14 (hS _) zfX7_80 rfl ?_
  refine z_iconst hC dX7_asked_17 (v := nI 0) rfl ?_
  refine z_naldN hC dX7_asked_18 (hS _) (by omega) rfl (zrow_get (f := vk T z p) (by decide)) ?_
  refine wVv hC dX7_asked_19 zlX7_221 (c_ask_2 hS hmn hR (y := vk T z p 0) (by omega)) (hS _) rfl rfl rfl rfl rfl rfl ⟨rfl, rfl⟩ ?_
  refine z_pop hC dX7_asked_22 rfl ?_
  refine z_iconst hC dX7_asked_23 (v := nI 1) rfl ?_
  refine z_zret hC dX7_asked_24 rfl ?_
  exact hE.to (by rfl) rfl rfl rfl

theorem c_asked_2f (hS : ∀ k, S 0 k = msh 0 k) (h7 : I 0 0 7 = nI z) (hX : ∀ i, i < z → X 0 15 i = nI (T i)) (hz : z ≤ 250) (hT : ∀ i, i < z → T i ≤ 255) {p : Nat} (hp : p ≤ z) (hs : mSt T z p I) (hm : zQm 0 R I X) (hR : ROK R) (hc : ¬ cK T z R 3 p 0) : zC0 mX7_asked 4 [zr 0 0, zi (nI 2), zi (nI 0), zi (nI 10)] (some (zi (nI 0))) ad S I X Y sz (up3 (mTM T z I (tkE T z p)) 0 0 34 (nI (tkA T z (tkE T z p)))) X Y := by
  refine zgo (own := RX7) (k := 0) (by decide +kernel) rfl rfl rfl (fun C hC hnm hE => ?_)
  have htk := tk_le (T := T) hp
  have hfb := fgN_le (T := T) htk.2.2.1
  refine z_aload_n hC dX7_asked_0 rfl ?_
  refine z_iload_n hC dX7_asked_1 rfl ?_
  refine z_iload_n hC dX7_asked_2 rfl ?_
  refine wVv hC dX7_asked_3 zlX7_218 (c_tells_f hS h7 hX hz hT hp hs (by decide) (fun w => hc ⟨w.1, (kP_30 hfb).mpr w.2⟩)) (hS _) rfl rfl rfl rfl rfl rfl ⟨rfl, rfl⟩ ?_
  refine z_nif_ne hC dX7_asked_6 (tgt := 11) (by decide) (by omega) (fun c6 => ?_) (fun c6 => ?_)
  · exact absurd c6 (by decide)
  refine z_iconst hC dX7_asked_9 (v := nI 0) rfl ?_
  refine z_zret hC dX7_asked_10 rfl ?_
  exact hE.to (by rfl) rfl rfl rfl

end
