/-! OnTheRoof: what changes THE WAY and THE TAPE -/
theorem zaddB_ne {r n k a y q b c j : Nat} {X : zI} (h : ¬ (b = 3 ∧ c = r + 2)) : zaddB r n X k a y q b c j = X b c j := by
  unfold zaddB
  rw [up3_ne (by omega), up3_ne (by omega), up3_ne (by omega), up3_ne (by omega), up3_ne (by omega)]
theorem zadd3_ne {c0 n a q d b c j : Nat} {X : zI} (h : ¬ (b = 3 ∧ c = c0)) : zadd3 c0 n X a q d b c j = X b c j := by
  unfold zadd3
  rw [up3_ne (by omega), up3_ne (by omega), up3_ne (by omega)]
def DT (D : DS) (T : Nat → Nat) (z : Nat) : DS := (D.1, D.2.1, (T, z), D.2.2.2)
theorem DMe.tape {D : DS} {I X I' X' : zI} {Y : zY} (h : DMe D I X Y) {T : Nat → Nat} {z : Nat} (h1 : I' 3 30 1 = nI z) (h2 : ∀ i, i < z → X' 3 31 i = nI (T i)) (hI : ∀ k j, ¬ (15 ≤ k ∧ k ≤ 22 ∧ ¬ j = 1 ∨ k = 30) → I' 3 k j = I 3 k j) (hX : ∀ k j, ¬ (15 ≤ k ∧ k ≤ 32) → X' 3 k j = X 3 k j) : DMe (DT D T z) I' X' Y := by
  obtain ⟨g1, g2, g3, -, g6, g7, g8, g9⟩ := h
  refine ⟨g1.frame (fun k j a b => hI k j (by omega)) (fun k j a b => hX k j (by omega)), by rw [hI _ _ (by omega)]; exact g2, fun K hK => (g3 K hK).frame (fun k j a b => hI k j (by omega)) (fun k j a b => hX k j (by omega)), ⟨h1, h2⟩, fun s hs => ?_, fun j hj => by rw [hX _ _ (by omega)]; exact g7 j hj, g8.frame (fun k a b => hI k 1 (by omega)), g9.frame (fun k a b => hI k 1 (by omega))⟩
  obtain ⟨k1, k2, k3⟩ := g6 s hs
  exact ⟨by rw [hI _ _ (by omega)]; exact k1, by rw [hI _ _ (by omega)]; exact k2, k3⟩
theorem ryI_1 {T : Nat → Nat} {z : Nat} {R : RS} {o : Option Nat × Nat × Nat × (Nat → Nat)} {I : zI} {b k : Nat} : ryI T z R o I b k 1 = I b k 1 := by
  obtain ⟨o1, p1, i1, nm⟩ := o
  rcases o1 with _ | q
  · exact tkI_ne (by omega)
  · refine Eq.trans ?_ (tkI_ne (I := I) (by omega) : tkM T z I p1 b k 1 = I b k 1)
    show cyI 15 R q nm (tkM T z I p1) b k 1 = _
    unfold cyI
    repeat' split
    all_goals first | rfl | exact up3_ne (by omega)
theorem riM_1 {T : Nat → Nat} {z : Nat} {b c : Nat} : ∀ (f : Nat) (R : RS) (p : Nat) (I X : zI), (riM T z f R p I X).1 b c 1 = I b c 1
  | 0, R, p, I, X => rfl
  | f + 1, R, p, I, X => by
    rcases ho : (rsN T z R p).1 with _ | q
    · rw [riM_n ho]; exact ryI_1
    · by_cases h3 : tkS T z (tkE T z (rsN T z R p).2.1) = 3
      · rw [riM_s ho h3, riM_1 f]
        exact (tkI_ne (by omega)).trans ryI_1
      · rw [riM_x ho h3]
        exact (tkI_ne (by omega)).trans ryI_1
def feedS (D : DS) (l : Int32) : Int32 × DS := if iw l 0 255 then (if D.2.2.1.2 = 250 then bad 4 D else (nI (D.2.2.1.2 + 1), DT D (fun i => if i = D.2.2.1.2 then nn l else D.2.2.1.1 i) (D.2.2.1.2 + 1))) else bad 0 D
def wipeS (D : DS) : Int32 × DS := (nI D.2.2.1.2, DT D D.2.2.1.1 0)
def wayS (D : DS) : Int32 × DS := if (riN D.2.2.1.1 D.2.2.1.2 250 1 D.1 0).1 < 0 then ((riN D.2.2.1.1 D.2.2.1.2 250 1 D.1 0).1, rfD 0 (DT D D.2.2.1.1 0)) else ((riN D.2.2.1.1 D.2.2.1.2 250 1 D.1 0).1, DR (DT D D.2.2.1.1 0) (riN D.2.2.1.1 D.2.2.1.2 250 1 D.1 0).2)

section
variable {ad : zA} {S : zSh} {I X : zI} {Y : zY} {sz : Nat} {D : DS}

theorem e_bend_t (hD : ∀ k, S 3 k = dsh k) (hO : DOK D) (hM : DMe D I X Y) {x y u v : Nat} (h0 : tkP D.1 0 0 (nI x)) (h1 : tkP D.1 0 1 (nI y)) (h2 : tkP D.1 0 2 (nI u)) (h3 : tkP D.1 0 3 (nI v)) (hf : D.1.1 0 < 14) : zC0 mX6_bend 4 [zr 3 0, zi (nI x), zi (nI y), zi (nI u), zi (nI v)] (some (zi (nI (D.1.1 0)))) ad S I X Y sz (up3 I 3 (1 + 1) 2 (nI (D.1.1 0 + 1))) (zaddB 1 (D.1.1 0) X x y u v) Y := by
  refine zgo (own := RX6) (k := 0) (by decide +kernel) rfl rfl rfl (fun C hC hnm hE => ?_)
  have hm := hM.1
  have hR := hO.1
  refine z_aload_n hC dX6_bend_0 rfl ?_
  refine z_getR hC dX6_bend_1 (hD _) zfX6_10 rfl ?_
  refine z_iconst hC dX6_bend_4 (v := nI 0) rfl ?_
  refine z_iconst hC dX6_bend_5 (v := nI 0) rfl ?_
  refine z_iload_n hC dX6_bend_6 rfl ?_
  refine zVv hC dX6_bend_7 zlX6_137 (c_X1_takes (zRd_1 hD) hm hR (q := 0) (p := 0) (by decide) (by decide)) (hD _) rfl rfl rfl rfl rfl rfl ?_
  refine z_ifb_eq hC dX6_bend_10 (tgt := 53) (by decide) (fun c10 => ?_) (fun c10 => ?_)
  · exact absurd c10 (fun z => z h0)
  refine z_aload_n hC dX6_bend_13 rfl ?_
  refine z_getR hC dX6_bend_14 (hD _) zfX6_10 rfl ?_
  refine z_iconst hC dX6_bend_17 (v := nI 0) rfl ?_
  refine z_iconst hC dX6_bend_18 (v := nI 1) rfl ?_
  refine z_iload_n hC dX6_bend_19 rfl ?_
  refine zVv hC dX6_bend_20 zlX6_137 (c_X1_takes (zRd_1 hD) hm hR (q := 0) (p := 1) (by decide) (by decide)) (hD _) rfl rfl rfl rfl rfl rfl ?_
  refine z_ifb_eq hC dX6_bend_23 (tgt := 53) (by decide) (fun c23 => ?_) (fun c23 => ?_)
  · exact absurd c23 (fun z => z h1)
  refine z_aload_n hC dX6_bend_26 rfl ?_
  refine z_getR hC dX6_bend_27 (hD _) zfX6_10 rfl ?_
  refine z_iconst hC dX6_bend_30 (v := nI 0) rfl ?_
  refine z_iconst hC dX6_bend_31 (v := nI 2) rfl ?_
  refine z_iload_n hC dX6_bend_32 rfl ?_
  refine zVv hC dX6_bend_33 zlX6_137 (c_X1_takes (zRd_1 hD) hm hR (q := 0) (p := 2) (by decide) (by decide)) (hD _) rfl rfl rfl rfl rfl rfl ?_
  refine z_ifb_eq hC dX6_bend_36 (tgt := 53) (by decide) (fun c36 => ?_) (fun c36 => ?_)
  · exact absurd c36 (fun z => z h2)
  refine z_aload_n hC dX6_bend_39 rfl ?_
  refine z_getR hC dX6_bend_40 (hD _) zfX6_10 rfl ?_
  refine z_iconst hC dX6_bend_43 (v := nI 0) rfl ?_
  refine z_iconst hC dX6_bend_44 (v := nI 3) rfl ?_
  refine z_iload hC dX6_bend_45 rfl ?_
  refine zVv hC dX6_bend_47 zlX6_137 (c_X1_takes (zRd_1 hD) hm hR (q := 0) (p := 3) (by decide) (by decide)) (hD _) rfl rfl rfl rfl rfl rfl ?_
  refine z_ifb_ne hC dX6_bend_50 (tgt := 60) (by decide) (fun c50 => ?_) (fun c50 => ?_)
  rotate_left
  · exact absurd c50 (fun z => z h3)
  refine z_aload_n hC dX6_bend_60 rfl ?_
  refine z_getR hC dX6_bend_61 (hD _) zfX6_10 rfl ?_
  refine z_getR hC dX6_bend_64 (hD _) zfX6_115 rfl ?_
  refine zVv hC dX6_bend_67 zlX6_140 (c_bfull (zRd_1 hD) hm hR) (hD _) rfl rfl rfl rfl rfl rfl ?_
  refine z_ifb_eq hC dX6_bend_70 (tgt := 80) (by decide) (fun c70 => ?_) (fun c70 => ?_)
  rotate_left
  · exact absurd c70 (by omega)
  refine z_aload_n hC dX6_bend_80 rfl ?_
  refine z_getR hC dX6_bend_81 (hD _) zfX6_10 rfl ?_
  refine z_iload_n hC dX6_bend_84 rfl ?_
  refine z_iload_n hC dX6_bend_85 rfl ?_
  refine z_iload_n hC dX6_bend_86 rfl ?_
  refine z_iload hC dX6_bend_87 rfl ?_
  refine zVv hC dX6_bend_89 zlX6_143 (c_X1_addBend (zRd_1 hD) hm hR hf) (hD _) rfl rfl rfl rfl rfl rfl ?_
  refine z_iret hC dX6_bend_92 ?_
  exact hE.to (by rfl) rfl rfl rfl

theorem e_bend_o (hD : ∀ k, S 3 k = dsh k) (hO : DOK D) (hM : DMe D I X Y) {x y u v : Int32} (h0 : tkP D.1 0 0 x) (h1 : tkP D.1 0 1 y) (h2 : tkP D.1 0 2 u) (h3 : tkP D.1 0 3 v) (hf : D.1.1 0 = 14) : zC0 mX6_bend 4 [zr 3 0, zi x, zi y, zi u, zi v] (some (zi (-6))) ad S I X Y sz I (rfX 4 X) Y := by
  refine zgo (own := RX6) (k := 0) (by decide +kernel) rfl rfl rfl (fun C hC hnm hE => ?_)
  have hm := hM.1
  have hR := hO.1
  refine z_aload_n hC dX6_bend_0 rfl ?_
  refine z_getR hC dX6_bend_1 (hD _) zfX6_10 rfl ?_
  refine z_iconst hC dX6_bend_4 (v := nI 0) rfl ?_
  refine z_iconst hC dX6_bend_5 (v := nI 0) rfl ?_
  refine z_iload_n hC dX6_bend_6 rfl ?_
  refine zVv hC dX6_bend_7 zlX6_137 (c_X1_takes (zRd_1 hD) hm hR (q := 0) (p := 0) (by decide) (by decide)) (hD _) rfl rfl rfl rfl rfl rfl ?_
  refine z_ifb_eq hC dX6_bend_10 (tgt := 53) (by decide) (fun c10 => ?_) (fun c10 => ?_)
  · exact absurd c10 (fun z => z h0)
  refine z_aload_n hC dX6_bend_13 rfl ?_
  refine z_getR hC dX6_bend_14 (hD _) zfX6_10 rfl ?_
  refine z_iconst hC dX6_bend_17 (v := nI 0) rfl ?_
  refine z_iconst hC dX6_bend_18 (v := nI 1) rfl ?_
  refine z_iload_n hC dX6_bend_19 rfl ?_
  refine zVv hC dX6_bend_20 zlX6_137 (c_X1_takes (zRd_1 hD) hm hR (q := 0) (p := 1) (by decide) (by decide)) (hD _) rfl rfl rfl rfl rfl rfl ?_
  refine z_ifb_eq hC dX6_bend_23 (tgt := 53) (by decide) (fun c23 => ?_) (fun c23 => ?_)
  · exact absurd c23 (fun z => z h1)
  refine z_aload_n hC dX6_bend_26 rfl ?_
  refine z_getR hC dX6_bend_27 (hD _) zfX6_10 rfl ?_
  refine z_iconst hC dX6_bend_30 (v := nI 0) rfl ?_
  refine z_iconst hC dX6_bend_31 (v := nI 2) rfl ?_
  refine z_iload_n hC dX6_bend_32 rfl ?_
  refine zVv hC dX6_bend_33 zlX6_137 (c_X1_takes (zRd_1 hD) hm hR (q := 0) (p := 2) (by decide) (by decide)) (hD _) rfl rfl rfl rfl rfl rfl ?_
  refine z_ifb_eq hC dX6_bend_36 (tgt := 53) (by decide) (fun c36 => ?_) (fun c36 => ?_)
  · exact absurd c36 (fun z => z h2)
  refine z_aload_n hC dX6_bend_39 rfl ?_
  refine z_getR hC dX6_bend_40 (hD _) zfX6_10 rfl ?_
  refine z_iconst hC dX6_bend_43 (v := nI 0) rfl ?_
  refine z_iconst hC dX6_bend_44 (v := nI 3) rfl ?_
  refine z_iload hC dX6_bend_45 rfl ?_
  refine zVv hC dX6_bend_47 zlX6_137 (c_X1_takes (zRd_1 hD) hm hR (q := 0) (p := 3) (by decide) (by decide)) (hD _) rfl rfl rfl rfl rfl rfl ?_
  refine z_ifb_ne hC dX6_bend_50 (tgt := 60) (by decide) (fun c50 => ?_) (fun c50 => ?_)
  rotate_left
  · exact absurd c50 (fun z => z h3)
  refine z_aload_n hC dX6_bend_60 rfl ?_
  refine z_getR hC dX6_bend_61 (hD _) zfX6_10 rfl ?_
  refine z_getR hC dX6_bend_64 (hD _) zfX6_115 rfl ?_
  refine zVv hC dX6_bend_67 zlX6_140 (c_bfull (zRd_1 hD) hm hR) (hD _) rfl rfl rfl rfl rfl rfl ?_
  refine z_ifb_eq hC dX6_bend_70 (tgt := 80) (by decide) (fun c70 => ?_) (fun c70 => ?_)
  · exact absurd c70 (fun z => z hf)
  refine z_aload_n hC dX6_bend_73 rfl ?_
  refine z_bipush hC dX6_bend_74 (v := -6) rfl ?_
  refine zVv hC dX6_bend_76 zlX6_62 (c_X6_refuse hD (j := 4) (by decide) (by decide)) (hD _) rfl rfl rfl rfl rfl rfl ?_
  refine z_iret hC dX6_bend_79 ?_
  exact hE.to (by rfl) rfl rfl rfl

theorem e_bend_f (hD : ∀ k, S 3 k = dsh k) (hO : DOK D) (hM : DMe D I X Y) {x y u v : Int32} (hx : ¬ (tkP D.1 0 0 x ∧ tkP D.1 0 1 y ∧ tkP D.1 0 2 u ∧ tkP D.1 0 3 v)) : zC0 mX6_bend 4 [zr 3 0, zi x, zi y, zi u, zi v] (some (zi (-2))) ad S I X Y sz I (rfX 0 X) Y := by
  refine zgo (own := RX6) (k := 0) (by decide +kernel) rfl rfl rfl (fun C hC hnm hE => ?_)
  have hm := hM.1
  have hR := hO.1
  refine z_aload_n hC dX6_bend_0 rfl ?_
  refine z_getR hC dX6_bend_1 (hD _) zfX6_10 rfl ?_
  refine z_iconst hC dX6_bend_4 (v := nI 0) rfl ?_
  refine z_iconst hC dX6_bend_5 (v := nI 0) rfl ?_
  refine z_iload_n hC dX6_bend_6 rfl ?_
  refine zVv hC dX6_bend_7 zlX6_137 (c_X1_takes (zRd_1 hD) hm hR (q := 0) (p := 0) (by decide) (by decide)) (hD _) rfl rfl rfl rfl rfl rfl ?_
  refine z_ifb_eq hC dX6_bend_10 (tgt := 53) (by decide) (fun c10 => ?_) (fun c10 => ?_)
  · skip
    refine z_aload_n hC dX6_bend_53 rfl ?_
    refine z_bipush hC dX6_bend_54 (v := -2) rfl ?_
    refine zVv hC dX6_bend_56 zlX6_62 (c_X6_refuse hD (j := 0) (by decide) (by decide)) (hD _) rfl rfl rfl rfl rfl rfl ?_
    refine z_iret hC dX6_bend_59 ?_
    exact hE.to (by rfl) rfl rfl rfl
  refine z_aload_n hC dX6_bend_13 rfl ?_
  refine z_getR hC dX6_bend_14 (hD _) zfX6_10 rfl ?_
  refine z_iconst hC dX6_bend_17 (v := nI 0) rfl ?_
  refine z_iconst hC dX6_bend_18 (v := nI 1) rfl ?_
  refine z_iload_n hC dX6_bend_19 rfl ?_
  refine zVv hC dX6_bend_20 zlX6_137 (c_X1_takes (zRd_1 hD) hm hR (q := 0) (p := 1) (by decide) (by decide)) (hD _) rfl rfl rfl rfl rfl rfl ?_
  refine z_ifb_eq hC dX6_bend_23 (tgt := 53) (by decide) (fun c23 => ?_) (fun c23 => ?_)
  · skip
    refine z_aload_n hC dX6_bend_53 rfl ?_
    refine z_bipush hC dX6_bend_54 (v := -2) rfl ?_
    refine zVv hC dX6_bend_56 zlX6_62 (c_X6_refuse hD (j := 0) (by decide) (by decide)) (hD _) rfl rfl rfl rfl rfl rfl ?_
    refine z_iret hC dX6_bend_59 ?_
    exact hE.to (by rfl) rfl rfl rfl
  refine z_aload_n hC dX6_bend_26 rfl ?_
  refine z_getR hC dX6_bend_27 (hD _) zfX6_10 rfl ?_
  refine z_iconst hC dX6_bend_30 (v := nI 0) rfl ?_
  refine z_iconst hC dX6_bend_31 (v := nI 2) rfl ?_
  refine z_iload_n hC dX6_bend_32 rfl ?_
  refine zVv hC dX6_bend_33 zlX6_137 (c_X1_takes (zRd_1 hD) hm hR (q := 0) (p := 2) (by decide) (by decide)) (hD _) rfl rfl rfl rfl rfl rfl ?_
  refine z_ifb_eq hC dX6_bend_36 (tgt := 53) (by decide) (fun c36 => ?_) (fun c36 => ?_)
  · skip
    refine z_aload_n hC dX6_bend_53 rfl ?_
    refine z_bipush hC dX6_bend_54 (v := -2) rfl ?_
    refine zVv hC dX6_bend_56 zlX6_62 (c_X6_refuse hD (j := 0) (by decide) (by decide)) (hD _) rfl rfl rfl rfl rfl rfl ?_
    refine z_iret hC dX6_bend_59 ?_
    exact hE.to (by rfl) rfl rfl rfl
  refine z_aload_n hC dX6_bend_39 rfl ?_
  refine z_getR hC dX6_bend_40 (hD _) zfX6_10 rfl ?_
  refine z_iconst hC dX6_bend_43 (v := nI 0) rfl ?_
  refine z_iconst hC dX6_bend_44 (v := nI 3) rfl ?_
  refine z_iload hC dX6_bend_45 rfl ?_
  refine zVv hC dX6_bend_47 zlX6_137 (c_X1_takes (zRd_1 hD) hm hR (q := 0) (p := 3) (by decide) (by decide)) (hD _) rfl rfl rfl rfl rfl rfl ?_
  refine z_ifb_ne hC dX6_bend_50 (tgt := 60) (by decide) (fun c50 => ?_) (fun c50 => ?_)
  · exact absurd c50 (fun z => hx ⟨c10, c23, c36, z⟩)
  refine z_aload_n hC dX6_bend_53 rfl ?_
  refine z_bipush hC dX6_bend_54 (v := -2) rfl ?_
  refine zVv hC dX6_bend_56 zlX6_62 (c_X6_refuse hD (j := 0) (by decide) (by decide)) (hD _) rfl rfl rfl rfl rfl rfl ?_
  refine z_iret hC dX6_bend_59 ?_
  exact hE.to (by rfl) rfl rfl rfl

theorem o_bend (hD : ∀ k, S 3 k = dsh k) (hO : DOK D) (hM : DMe D I X Y) {x y u v : Int32} : dC mX6_bend 4 [zr 3 0, zi x, zi y, zi u, zi v] (some (zi (bendS D x y u v).1)) (bendS D x y u v).2 ad S I X Y sz := by
  have hn14 := hO.1.1
  unfold bendS
  by_cases h : tkP D.1 0 0 x ∧ tkP D.1 0 1 y ∧ tkP D.1 0 2 u ∧ tkP D.1 0 3 v
  · rw [if_pos h]
    by_cases hf : D.1.1 0 = 14
    · rw [if_pos hf]
      exact ⟨I, rfX 4 X, Y, hM.rf (by decide), e_bend_o hD hO hM h.1 h.2.1 h.2.2.1 h.2.2.2 hf⟩
    · rw [if_neg hf]
      obtain ⟨h0, h1, h2, h3⟩ := h
      obtain ⟨x, rfl, _, k0, e0⟩ := tkP_e hO.1 (by decide) (by decide) h0
      obtain ⟨y, rfl, _, k1, e1⟩ := tkP_e hO.1 (by decide) (by decide) h1
      obtain ⟨u, rfl, _, k2, e2⟩ := tkP_e hO.1 (by decide) (by decide) h2
      obtain ⟨v, rfl, _, k3, e3⟩ := tkP_e hO.1 (by decide) (by decide) h3
      rw [e0, e1, e2, e3]
      exact ⟨_, _, Y, hM.m (zRm_addB hM.1) (fun k j a => up3_ne (by omega)) (fun k j a => zaddB_ne (by omega)), e_bend_t hD hO hM h0 h1 h2 h3 (by omega)⟩
  · rw [if_neg h]
    exact ⟨I, rfX 0 X, Y, hM.rf (by decide), e_bend_f hD hO hM h⟩
theorem e_call_t (hD : ∀ k, S 3 k = dsh k) (hO : DOK D) (hM : DMe D I X Y) {x y u : Nat} (h0 : tkP D.1 6 0 (nI x)) (h1 : tkP D.1 6 1 (nI y)) (h2 : tkP D.1 6 2 (nI u)) (hf : D.1.1 2 < 6) : zC0 mX6_call 4 [zr 3 0, zi (nI x), zi (nI y), zi (nI u)] (some (zi (nI (D.1.1 2)))) ad S I X Y sz (up3 I 3 (1 + 5) 2 (nI (D.1.1 2 + 1))) (zadd3 (1 + 6) (D.1.1 2) X x y u) Y := by
  refine zgo (own := RX6) (k := 0) (by decide +kernel) rfl rfl rfl (fun C hC hnm hE => ?_)
  have hm := hM.1
  have hR := hO.1
  refine z_aload_n hC dX6_call_0 rfl ?_
  refine z_getR hC dX6_call_1 (hD _) zfX6_10 rfl ?_
  refine z_bipush hC dX6_call_4 (v := nI 6) rfl ?_
  refine z_iconst hC dX6_call_6 (v := nI 0) rfl ?_
  refine z_iload_n hC dX6_call_7 rfl ?_
  refine zVv hC dX6_call_8 zlX6_137 (c_X1_takes (zRd_1 hD) hm hR (q := 6) (p := 0) (by decide) (by decide)) (hD _) rfl rfl rfl rfl rfl rfl ?_
  refine z_ifb_eq hC dX6_call_11 (tgt := 42) (by decide) (fun c11 => ?_) (fun c11 => ?_)
  · exact absurd c11 (fun z => z h0)
  refine z_aload_n hC dX6_call_14 rfl ?_
  refine z_getR hC dX6_call_15 (hD _) zfX6_10 rfl ?_
  refine z_bipush hC dX6_call_18 (v := nI 6) rfl ?_
  refine z_iconst hC dX6_call_20 (v := nI 1) rfl ?_
  refine z_iload_n hC dX6_call_21 rfl ?_
  refine zVv hC dX6_call_22 zlX6_137 (c_X1_takes (zRd_1 hD) hm hR (q := 6) (p := 1) (by decide) (by decide)) (hD _) rfl rfl rfl rfl rfl rfl ?_
  refine z_ifb_eq hC dX6_call_25 (tgt := 42) (by decide) (fun c25 => ?_) (fun c25 => ?_)
  · exact absurd c25 (fun z => z h1)
  refine z_aload_n hC dX6_call_28 rfl ?_
  refine z_getR hC dX6_call_29 (hD _) zfX6_10 rfl ?_
  refine z_bipush hC dX6_call_32 (v := nI 6) rfl ?_
  refine z_iconst hC dX6_call_34 (v := nI 2) rfl ?_
  refine z_iload_n hC dX6_call_35 rfl ?_
  refine zVv hC dX6_call_36 zlX6_137 (c_X1_takes (zRd_1 hD) hm hR (q := 6) (p := 2) (by decide) (by decide)) (hD _) rfl rfl rfl rfl rfl rfl ?_
  refine z_ifb_ne hC dX6_call_39 (tgt := 49) (by decide) (fun c39 => ?_) (fun c39 => ?_)
  rotate_left
  · exact absurd c39 (fun z => z h2)
  refine z_aload_n hC dX6_call_49 rfl ?_
  refine z_getR hC dX6_call_50 (hD _) zfX6_10 rfl ?_
  refine z_getR hC dX6_call_53 (hD _) zfX6_184 rfl ?_
  refine zVv hC dX6_call_56 zlX6_140 (c_cfull (zRd_1 hD) hm hR) (hD _) rfl rfl rfl rfl rfl rfl ?_
  refine z_ifb_eq hC dX6_call_59 (tgt := 69) (by decide) (fun c59 => ?_) (fun c59 => ?_)
  rotate_left
  · exact absurd c59 (by omega)
  refine z_aload_n hC dX6_call_69 rfl ?_
  refine z_getR hC dX6_call_70 (hD _) zfX6_10 rfl ?_
  refine z_iload_n hC dX6_call_73 rfl ?_
  refine z_iload_n hC dX6_call_74 rfl ?_
  refine z_iload_n hC dX6_call_75 rfl ?_
  refine zVv hC dX6_call_76 zlX6_187 (c_X1_addCall (zRd_1 hD) hm hR hf) (hD _) rfl rfl rfl rfl rfl rfl ?_
  refine z_iret hC dX6_call_79 ?_
  exact hE.to (by rfl) rfl rfl rfl

theorem e_call_o (hD : ∀ k, S 3 k = dsh k) (hO : DOK D) (hM : DMe D I X Y) {x y u : Int32} (h0 : tkP D.1 6 0 x) (h1 : tkP D.1 6 1 y) (h2 : tkP D.1 6 2 u) (hf : D.1.1 2 = 6) : zC0 mX6_call 4 [zr 3 0, zi x, zi y, zi u] (some (zi (-6))) ad S I X Y sz I (rfX 4 X) Y := by
  refine zgo (own := RX6) (k := 0) (by decide +kernel) rfl rfl rfl (fun C hC hnm hE => ?_)
  have hm := hM.1
  have hR := hO.1
  refine z_aload_n hC dX6_call_0 rfl ?_
  refine z_getR hC dX6_call_1 (hD _) zfX6_10 rfl ?_
  refine z_bipush hC dX6_call_4 (v := nI 6) rfl ?_
  refine z_iconst hC dX6_call_6 (v := nI 0) rfl ?_
  refine z_iload_n hC dX6_call_7 rfl ?_
  refine zVv hC dX6_call_8 zlX6_137 (c_X1_takes (zRd_1 hD) hm hR (q := 6) (p := 0) (by decide) (by decide)) (hD _) rfl rfl rfl rfl rfl rfl ?_
  refine z_ifb_eq hC dX6_call_11 (tgt := 42) (by decide) (fun c11 => ?_) (fun c11 => ?_)
  · exact absurd c11 (fun z => z h0)
  refine z_aload_n hC dX6_call_14 rfl ?_
  refine z_getR hC dX6_call_15 (hD _) zfX6_10 rfl ?_
  refine z_bipush hC dX6_call_18 (v := nI 6) rfl ?_
  refine z_iconst hC dX6_call_20 (v := nI 1) rfl ?_
  refine z_iload_n hC dX6_call_21 rfl ?_
  refine zVv hC dX6_call_22 zlX6_137 (c_X1_takes (zRd_1 hD) hm hR (q := 6) (p := 1) (by decide) (by decide)) (hD _) rfl rfl rfl rfl rfl rfl ?_
  refine z_ifb_eq hC dX6_call_25 (tgt := 42) (by decide) (fun c25 => ?_) (fun c25 => ?_)
  · exact absurd c25 (fun z => z h1)
  refine z_aload_n hC dX6_call_28 rfl ?_
  refine z_getR hC dX6_call_29 (hD _) zfX6_10 rfl ?_
  refine z_bipush hC dX6_call_32 (v := nI 6) rfl ?_
  refine z_iconst hC dX6_call_34 (v := nI 2) rfl ?_
  refine z_iload_n hC dX6_call_35 rfl ?_
  refine zVv hC dX6_call_36 zlX6_137 (c_X1_takes (zRd_1 hD) hm hR (q := 6) (p := 2) (by decide) (by decide)) (hD _) rfl rfl rfl rfl rfl rfl ?_
  refine z_ifb_ne hC dX6_call_39 (tgt := 49) (by decide) (fun c39 => ?_) (fun c39 => ?_)
  rotate_left
  · exact absurd c39 (fun z => z h2)
  refine z_aload_n hC dX6_call_49 rfl ?_
  refine z_getR hC dX6_call_50 (hD _) zfX6_10 rfl ?_
  refine z_getR hC dX6_call_53 (hD _) zfX6_184 rfl ?_
  refine zVv hC dX6_call_56 zlX6_140 (c_cfull (zRd_1 hD) hm hR) (hD _) rfl rfl rfl rfl rfl rfl ?_
  refine z_ifb_eq hC dX6_call_59 (tgt := 69) (by decide) (fun c59 => ?_) (fun c59 => ?_)
  · exact absurd c59 (fun z => z hf)
  refine z_aload_n hC dX6_call_62 rfl ?_
  refine z_bipush hC dX6_call_63 (v := -6) rfl ?_
  refine zVv hC dX6_call_65 zlX6_62 (c_X6_refuse hD (j := 4) (by decide) (by decide)) (hD _) rfl rfl rfl rfl rfl rfl ?_
  refine z_iret hC dX6_call_68 ?_
  exact hE.to (by rfl) rfl rfl rfl

theorem e_call_f (hD : ∀ k, S 3 k = dsh k) (hO : DOK D) (hM : DMe D I X Y) {x y u : Int32} (hx : ¬ (tkP D.1 6 0 x ∧ tkP D.1 6 1 y ∧ tkP D.1 6 2 u)) : zC0 mX6_call 4 [zr 3 0, zi x, zi y, zi u] (some (zi (-2))) ad S I X Y sz I (rfX 0 X) Y := by
  refine zgo (own := RX6) (k := 0) (by decide +kernel) rfl rfl rfl (fun C hC hnm hE => ?_)
  have hm := hM.1
  have hR := hO.1
  refine z_aload_n hC dX6_call_0 rfl ?_
  refine z_getR hC dX6_call_1 (hD _) zfX6_10 rfl ?_
  refine z_bipush hC dX6_call_4 (v := nI 6) rfl ?_
  refine z_iconst hC dX6_call_6 (v := nI 0) rfl ?_
  refine z_iload_n hC dX6_call_7 rfl ?_
  refine zVv hC dX6_call_8 zlX6_137 (c_X1_takes (zRd_1 hD) hm hR (q := 6) (p := 0) (by decide) (by decide)) (hD _) rfl rfl rfl rfl rfl rfl ?_
  refine z_ifb_eq hC dX6_call_11 (tgt := 42) (by decide) (fun c11 => ?_) (fun c11 => ?_)
  · skip
    refine z_aload_n hC dX6_call_42 rfl ?_
    refine z_bipush hC dX6_call_43 (v := -2) rfl ?_
    refine zVv hC dX6_call_45 zlX6_62 (c_X6_refuse hD (j := 0) (by decide) (by decide)) (hD _) rfl rfl rfl rfl rfl rfl ?_
    refine z_iret hC dX6_call_48 ?_
    exact hE.to (by rfl) rfl rfl rfl
  refine z_aload_n hC dX6_call_14 rfl ?_
  refine z_getR hC dX6_call_15 (hD _) zfX6_10 rfl ?_
  refine z_bipush hC dX6_call_18 (v := nI 6) rfl ?_
  refine z_iconst hC dX6_call_20 (v := nI 1) rfl ?_
  refine z_iload_n hC dX6_call_21 rfl ?_
  refine zVv hC dX6_call_22 zlX6_137 (c_X1_takes (zRd_1 hD) hm hR (q := 6) (p := 1) (by decide) (by decide)) (hD _) rfl rfl rfl rfl rfl rfl ?_
  refine z_ifb_eq hC dX6_call_25 (tgt := 42) (by decide) (fun c25 => ?_) (fun c25 => ?_)
  · skip
    refine z_aload_n hC dX6_call_42 rfl ?_
    refine z_bipush hC dX6_call_43 (v := -2) rfl ?_
    refine zVv hC dX6_call_45 zlX6_62 (c_X6_refuse hD (j := 0) (by decide) (by decide)) (hD _) rfl rfl rfl rfl rfl rfl ?_
    refine z_iret hC dX6_call_48 ?_
    exact hE.to (by rfl) rfl rfl rfl
  refine z_aload_n hC dX6_call_28 rfl ?_
  refine z_getR hC dX6_call_29 (hD _) zfX6_10 rfl ?_
  refine z_bipush hC dX6_call_32 (v := nI 6) rfl ?_
  refine z_iconst hC dX6_call_34 (v := nI 2) rfl ?_
  refine z_iload_n hC dX6_call_35 rfl ?_
  refine zVv hC dX6_call_36 zlX6_137 (c_X1_takes (zRd_1 hD) hm hR (q := 6) (p := 2) (by decide) (by decide)) (hD _) rfl rfl rfl rfl rfl rfl ?_
  refine z_ifb_ne hC dX6_call_39 (tgt := 49) (by decide) (fun c39 => ?_) (fun c39 => ?_)
  · exact absurd c39 (fun z => hx ⟨c11, c25, z⟩)
  refine z_aload_n hC dX6_call_42 rfl ?_
  refine z_bipush hC dX6_call_43 (v := -2) rfl ?_
  refine zVv hC dX6_call_45 zlX6_62 (c_X6_refuse hD (j := 0) (by decide) (by decide)) (hD _) rfl rfl rfl rfl rfl rfl ?_
  refine z_iret hC dX6_call_48 ?_
  exact hE.to (by rfl) rfl rfl rfl

theorem o_call (hD : ∀ k, S 3 k = dsh k) (hO : DOK D) (hM : DMe D I X Y) {x y u : Int32} : dC mX6_call 4 [zr 3 0, zi x, zi y, zi u] (some (zi (ocallS D x y u).1)) (ocallS D x y u).2 ad S I X Y sz := by
  have hn14 := hO.1.2.2.1
  unfold ocallS
  by_cases h : tkP D.1 6 0 x ∧ tkP D.1 6 1 y ∧ tkP D.1 6 2 u
  · rw [if_pos h]
    by_cases hf : D.1.1 2 = 6
    · rw [if_pos hf]
      exact ⟨I, rfX 4 X, Y, hM.rf (by decide), e_call_o hD hO hM h.1 h.2.1 h.2.2 hf⟩
    · rw [if_neg hf]
      obtain ⟨h0, h1, h2⟩ := h
      obtain ⟨x, rfl, _, k0, e0⟩ := tkP_e hO.1 (by decide) (by decide) h0
      obtain ⟨y, rfl, _, k1, e1⟩ := tkP_e hO.1 (by decide) (by decide) h1
      obtain ⟨u, rfl, _, k2, e2⟩ := tkP_e hO.1 (by decide) (by decide) h2
      rw [e0, e1, e2]
      exact ⟨_, _, Y, hM.m (zRm_addC hM.1) (fun k j a => up3_ne (by omega)) (fun k j a => zadd3_ne (by omega)), e_call_t hD hO hM h0 h1 h2 (by omega)⟩
  · rw [if_neg h]
    exact ⟨I, rfX 0 X, Y, hM.rf (by decide), e_call_f hD hO hM h⟩
theorem e_sign_t (hD : ∀ k, S 3 k = dsh k) (hO : DOK D) (hM : DMe D I X Y) {x u q : Nat} (hq : q ≤ 1) (h0 : tkP D.1 4 0 (nI x)) (h1 : tkP D.1 4 1 (nI u)) (hf : D.1.1 1 < 8) : zC0 mX6_sign 4 [zr 3 0, zi (nI x), zi (nI q), zi (nI u)] (some (zi (nI (D.1.1 1 + 1)))) ad S I X Y sz (up3 I 3 (1 + 3) 2 (nI (D.1.1 1 + 1))) (zadd3 (1 + 4) (D.1.1 1) X x q u) Y := by
  refine zgo (own := RX6) (k := 0) (by decide +kernel) rfl rfl rfl (fun C hC hnm hE => ?_)
  have hm := hM.1
  have hR := hO.1
  refine z_aload_n hC dX6_sign_0 rfl ?_
  refine z_iload_n hC dX6_sign_1 rfl ?_
  refine z_iload_n hC dX6_sign_2 rfl ?_
  refine zVv hC dX6_sign_3 zlX6_150 (c_X6_isSign hD hm hR) (hD _) rfl rfl rfl rfl rfl rfl ?_
  refine z_ifb_ne hC dX6_sign_6 (tgt := 16) (by decide) (fun c6 => ?_) (fun c6 => ?_)
  rotate_left
  · exact absurd c6 (fun z => z ⟨h0, h1⟩)
  refine z_aload_n hC dX6_sign_16 rfl ?_
  refine z_getR hC dX6_sign_17 (hD _) zfX6_10 rfl ?_
  refine z_getR hC dX6_sign_20 (hD _) zfX6_153 rfl ?_
  refine zVv hC dX6_sign_23 zlX6_140 (c_sfull (zRd_1 hD) hm hR) (hD _) rfl rfl rfl rfl rfl rfl ?_
  refine z_ifb_eq hC dX6_sign_26 (tgt := 36) (by decide) (fun c26 => ?_) (fun c26 => ?_)
  rotate_left
  · exact absurd c26 (by omega)
  refine z_aload_n hC dX6_sign_36 rfl ?_
  refine z_getR hC dX6_sign_37 (hD _) zfX6_10 rfl ?_
  refine z_iload_n hC dX6_sign_40 rfl ?_
  refine z_iload_n hC dX6_sign_41 rfl ?_
  refine z_iload_n hC dX6_sign_42 rfl ?_
  refine zV0 hC dX6_sign_43 zlX6_156 (c_X1_addSign (zRd_1 hD) hm hR hq hf) (hD _) rfl rfl rfl rfl rfl rfl ?_
  refine z_aload_n hC dX6_sign_46 rfl ?_
  refine z_getR hC dX6_sign_47 (hD _) zfX6_10 rfl ?_
  refine z_getR hC dX6_sign_50 (hD _) zfX6_153 rfl ?_
  refine z_getN hC dX6_sign_53 (hD _) zfX6_160 rfl (up3_eq _ _ _ _ _) ?_
  refine z_iret hC dX6_sign_56 ?_
  exact hE.to (by rfl) rfl rfl rfl

theorem e_sign_o (hD : ∀ k, S 3 k = dsh k) (hO : DOK D) (hM : DMe D I X Y) {x u : Int32} {q : Nat} (h0 : tkP D.1 4 0 x) (h1 : tkP D.1 4 1 u) (hf : D.1.1 1 = 8) : zC0 mX6_sign 4 [zr 3 0, zi x, zi (nI q), zi u] (some (zi (-6))) ad S I X Y sz I (rfX 4 X) Y := by
  refine zgo (own := RX6) (k := 0) (by decide +kernel) rfl rfl rfl (fun C hC hnm hE => ?_)
  have hm := hM.1
  have hR := hO.1
  refine z_aload_n hC dX6_sign_0 rfl ?_
  refine z_iload_n hC dX6_sign_1 rfl ?_
  refine z_iload_n hC dX6_sign_2 rfl ?_
  refine zVv hC dX6_sign_3 zlX6_150 (c_X6_isSign hD hm hR) (hD _) rfl rfl rfl rfl rfl rfl ?_
  refine z_ifb_ne hC dX6_sign_6 (tgt := 16) (by decide) (fun c6 => ?_) (fun c6 => ?_)
  rotate_left
  · exact absurd c6 (fun z => z ⟨h0, h1⟩)
  refine z_aload_n hC dX6_sign_16 rfl ?_
  refine z_getR hC dX6_sign_17 (hD _) zfX6_10 rfl ?_
  refine z_getR hC dX6_sign_20 (hD _) zfX6_153 rfl ?_
  refine zVv hC dX6_sign_23 zlX6_140 (c_sfull (zRd_1 hD) hm hR) (hD _) rfl rfl rfl rfl rfl rfl ?_
  refine z_ifb_eq hC dX6_sign_26 (tgt := 36) (by decide) (fun c26 => ?_) (fun c26 => ?_)
  · exact absurd c26 (fun z => z hf)
  refine z_aload_n hC dX6_sign_29 rfl ?_
  refine z_bipush hC dX6_sign_30 (v := -6) rfl ?_
  refine zVv hC dX6_sign_32 zlX6_62 (c_X6_refuse hD (j := 4) (by decide) (by decide)) (hD _) rfl rfl rfl rfl rfl rfl ?_
  refine z_iret hC dX6_sign_35 ?_
  exact hE.to (by rfl) rfl rfl rfl

theorem e_sign_f (hD : ∀ k, S 3 k = dsh k) (hO : DOK D) (hM : DMe D I X Y) {x u : Int32} {q : Nat} (hx : ¬ (tkP D.1 4 0 x ∧ tkP D.1 4 1 u)) : zC0 mX6_sign 4 [zr 3 0, zi x, zi (nI q), zi u] (some (zi (-2))) ad S I X Y sz I (rfX 0 X) Y := by
  refine zgo (own := RX6) (k := 0) (by decide +kernel) rfl rfl rfl (fun C hC hnm hE => ?_)
  have hm := hM.1
  have hR := hO.1
  refine z_aload_n hC dX6_sign_0 rfl ?_
  refine z_iload_n hC dX6_sign_1 rfl ?_
  refine z_iload_n hC dX6_sign_2 rfl ?_
  refine zVv hC dX6_sign_3 zlX6_150 (c_X6_isSign hD hm hR) (hD _) rfl rfl rfl rfl rfl rfl ?_
  refine z_ifb_ne hC dX6_sign_6 (tgt := 16) (by decide) (fun c6 => ?_) (fun c6 => ?_)
  · exact absurd c6 hx
  refine z_aload_n hC dX6_sign_9 rfl ?_
  refine z_bipush hC dX6_sign_10 (v := -2) rfl ?_
  refine zVv hC dX6_sign_12 zlX6_62 (c_X6_refuse hD (j := 0) (by decide) (by decide)) (hD _) rfl rfl rfl rfl rfl rfl ?_
  refine z_iret hC dX6_sign_15 ?_
  exact hE.to (by rfl) rfl rfl rfl

theorem o_sign (hD : ∀ k, S 3 k = dsh k) (hO : DOK D) (hM : DMe D I X Y) {x u : Int32} {q : Nat} (hq : q ≤ 1) : dC mX6_sign 4 [zr 3 0, zi x, zi (nI q), zi u] (some (zi (signS D x q u).1)) (signS D x q u).2 ad S I X Y sz := by
  have hn14 := hO.1.2.1
  unfold signS
  by_cases h : tkP D.1 4 0 x ∧ tkP D.1 4 1 u
  · rw [if_pos h]
    by_cases hf : D.1.1 1 = 8
    · rw [if_pos hf]
      exact ⟨I, rfX 4 X, Y, hM.rf (by decide), e_sign_o hD hO hM h.1 h.2 hf⟩
    · rw [if_neg hf]
      obtain ⟨h0, h1⟩ := h
      obtain ⟨x, rfl, _, k0, e0⟩ := tkP_e hO.1 (by decide) (by decide) h0
      obtain ⟨u, rfl, _, k1, e1⟩ := tkP_e hO.1 (by decide) (by decide) h1
      rw [e0, e1]
      exact ⟨_, _, Y, hM.m (zRm_addS hM.1) (fun k j a => up3_ne (by omega)) (fun k j a => zadd3_ne (by omega)), e_sign_t hD hO hM hq h0 h1 (by omega)⟩
  · rw [if_neg h]
    exact ⟨I, rfX 0 X, Y, hM.rf (by decide), e_sign_f hD hO hM h⟩
theorem e_ask_t (hD : ∀ k, S 3 k = dsh k) (hO : DOK D) (hM : DMe D I X Y) {x y : Nat} (hx : x ≤ 2) (h0 : tkP D.1 (1 + x) 0 (nI y)) : zC0 mX6_ask 2 [zr 3 0, zi (nI x), zi (nI y)] (some (zi (nI (D.1.1 (3 + x))))) ad S I X Y sz (up3 I 3 1 (3 + x) (nI y)) X Y := by
  refine zgo (own := RX6) (k := 0) (by decide +kernel) rfl rfl rfl (fun C hC hnm hE => ?_)
  have hm := hM.1
  have hR := hO.1
  refine z_iload_n hC dX6_ask_0 rfl ?_
  refine z_iconst hC dX6_ask_1 (v := nI 0) rfl ?_
  refine z_iconst hC dX6_ask_2 (v := nI 2) rfl ?_
  refine zSv hC dX6_ask_3 zlX6_58 c_X6_isWithin rfl rfl rfl rfl ?_
  refine z_ifb_eq hC dX6_ask_6 (tgt := 24) (by decide) (fun c6 => ?_) (fun c6 => ?_)
  · exact absurd c6 (fun z => z (iw_of (Nat.zero_le _) hx (by decide)))
  refine z_aload_n hC dX6_ask_9 rfl ?_
  refine z_getR hC dX6_ask_10 (hD _) zfX6_10 rfl ?_
  refine z_iconst hC dX6_ask_13 (v := nI 1) rfl ?_
  refine z_iload_n hC dX6_ask_14 rfl ?_
  refine z_nadd hC dX6_ask_15  ?_
  refine z_iconst hC dX6_ask_16 (v := nI 0) rfl ?_
  refine z_iload_n hC dX6_ask_17 rfl ?_
  refine zVv hC dX6_ask_18 zlX6_137 (c_X1_takes (zRd_1 hD) hm hR (q := 1 + x) (p := 0) (by omega) (by decide)) (hD _) rfl rfl rfl rfl rfl rfl ?_
  refine z_ifb_ne hC dX6_ask_21 (tgt := 31) (by decide) (fun c21 => ?_) (fun c21 => ?_)
  rotate_left
  · exact absurd c21 (fun z => z h0)
  refine z_aload_n hC dX6_ask_31 rfl ?_
  refine z_getR hC dX6_ask_32 (hD _) zfX6_10 rfl ?_
  refine z_iload_n hC dX6_ask_35 rfl ?_
  refine z_iload_n hC dX6_ask_36 rfl ?_
  refine zVv hC dX6_ask_37 zlX6_147 (c_X1_settle (zRd_1 hD) hm hR (w := x) (by omega)) (hD _) rfl rfl rfl rfl rfl rfl ?_
  refine z_iret hC dX6_ask_40 ?_
  exact hE.to (by rfl) rfl rfl rfl

theorem e_ask_g (hD : ∀ k, S 3 k = dsh k) (hO : DOK D) (hM : DMe D I X Y) {x : Nat} {y : Int32} (hx : x ≤ 2) (h0 : ¬ tkP D.1 (1 + x) 0 y) : zC0 mX6_ask 2 [zr 3 0, zi (nI x), zi y] (some (zi (-2))) ad S I X Y sz I (rfX 0 X) Y := by
  refine zgo (own := RX6) (k := 0) (by decide +kernel) rfl rfl rfl (fun C hC hnm hE => ?_)
  have hm := hM.1
  have hR := hO.1
  refine z_iload_n hC dX6_ask_0 rfl ?_
  refine z_iconst hC dX6_ask_1 (v := nI 0) rfl ?_
  refine z_iconst hC dX6_ask_2 (v := nI 2) rfl ?_
  refine zSv hC dX6_ask_3 zlX6_58 c_X6_isWithin rfl rfl rfl rfl ?_
  refine z_ifb_eq hC dX6_ask_6 (tgt := 24) (by decide) (fun c6 => ?_) (fun c6 => ?_)
  · exact absurd c6 (fun z => z (iw_of (Nat.zero_le _) hx (by decide)))
  refine z_aload_n hC dX6_ask_9 rfl ?_
  refine z_getR hC dX6_ask_10 (hD _) zfX6_10 rfl ?_
  refine z_iconst hC dX6_ask_13 (v := nI 1) rfl ?_
  refine z_iload_n hC dX6_ask_14 rfl ?_
  refine z_nadd hC dX6_ask_15  ?_
  refine z_iconst hC dX6_ask_16 (v := nI 0) rfl ?_
  refine z_iload_n hC dX6_ask_17 rfl ?_
  refine zVv hC dX6_ask_18 zlX6_137 (c_X1_takes (zRd_1 hD) hm hR (q := 1 + x) (p := 0) (by omega) (by decide)) (hD _) rfl rfl rfl rfl rfl rfl ?_
  refine z_ifb_ne hC dX6_ask_21 (tgt := 31) (by decide) (fun c21 => ?_) (fun c21 => ?_)
  · exact absurd c21 h0
  refine z_aload_n hC dX6_ask_24 rfl ?_
  refine z_bipush hC dX6_ask_25 (v := -2) rfl ?_
  refine zVv hC dX6_ask_27 zlX6_62 (c_X6_refuse hD (j := 0) (by decide) (by decide)) (hD _) rfl rfl rfl rfl rfl rfl ?_
  refine z_iret hC dX6_ask_30 ?_
  exact hE.to (by rfl) rfl rfl rfl

theorem e_ask_f (hD : ∀ k, S 3 k = dsh k) (hO : DOK D) (hM : DMe D I X Y) {x y : Int32} (hx : ¬ iw x 0 2) : zC0 mX6_ask 2 [zr 3 0, zi x, zi y] (some (zi (-2))) ad S I X Y sz I (rfX 0 X) Y := by
  refine zgo (own := RX6) (k := 0) (by decide +kernel) rfl rfl rfl (fun C hC hnm hE => ?_)
  have hm := hM.1
  have hR := hO.1
  refine z_iload_n hC dX6_ask_0 rfl ?_
  refine z_iconst hC dX6_ask_1 (v := nI 0) rfl ?_
  refine z_iconst hC dX6_ask_2 (v := nI 2) rfl ?_
  refine zSv hC dX6_ask_3 zlX6_58 c_X6_isWithin rfl rfl rfl rfl ?_
  refine z_ifb_eq hC dX6_ask_6 (tgt := 24) (by decide) (fun c6 => ?_) (fun c6 => ?_)
  rotate_left
  · exact absurd c6 hx
  refine z_aload_n hC dX6_ask_24 rfl ?_
  refine z_bipush hC dX6_ask_25 (v := -2) rfl ?_
  refine zVv hC dX6_ask_27 zlX6_62 (c_X6_refuse hD (j := 0) (by decide) (by decide)) (hD _) rfl rfl rfl rfl rfl rfl ?_
  refine z_iret hC dX6_ask_30 ?_
  exact hE.to (by rfl) rfl rfl rfl

theorem o_ask (hD : ∀ k, S 3 k = dsh k) (hO : DOK D) (hM : DMe D I X Y) {x y : Int32} : dC mX6_ask 2 [zr 3 0, zi x, zi y] (some (zi (askS D x y).1)) (askS D x y).2 ad S I X Y sz := by
  unfold askS
  by_cases hx : iw x 0 2
  · obtain ⟨x, -, h2, rfl, e1⟩ := iw_e hx (by decide) (by decide)
    rw [e1]
    by_cases h0 : tkP D.1 (1 + x) 0 y
    · rw [if_pos ⟨hx, h0⟩]
      obtain ⟨y, rfl, _, k0, e0⟩ := tkP_e hO.1 (by omega) (by decide) h0
      rw [e0]
      exact ⟨_, _, Y, hM.m (zRm_set hM.1 (by omega)) (fun k j a => up3_ne (by omega)) (fun k j a => rfl), e_ask_t hD hO hM h2 h0⟩
    · rw [if_neg (fun z => h0 z.2)]
      exact ⟨I, rfX 0 X, Y, hM.rf (by decide), e_ask_g hD hO hM h2 h0⟩
  · rw [if_neg (fun z => hx z.1)]
    exact ⟨I, rfX 0 X, Y, hM.rf (by decide), e_ask_f hD hO hM hx⟩
theorem e_anew_t (hD : ∀ k, S 3 k = dsh k) (hO : DOK D) (hM : DMe D I X Y)  : zC0 mX6_anew 4 [zr 3 0] (some (zi (nI (D.1.1 1)))) ad S I X Y sz (up3 I 3 (1 + 3) 2 (nI 0)) (zforg 1 (D.1.1 0) X) Y := by
  refine zgo (own := RX6) (k := 1) (by decide +kernel) rfl rfl rfl (fun C hC hnm hE => ?_)
  have hm := hM.1
  have hR := hO.1
  refine z_aload_n hC dX6_anew_0 rfl ?_
  refine z_getR hC dX6_anew_1 (hD _) zfX6_10 rfl ?_
  refine z_getR hC dX6_anew_4 (hD _) zfX6_153 rfl ?_
  refine z_getN hC dX6_anew_7 (hD _) zfX6_160 rfl hm.2.1.2.1 ?_
  refine z_istore_n hC dX6_anew_10 (lo2 := [_, _]) (Nat.le_of_ble_eq_true rfl) rfl rfl ?_
  refine z_aload_n hC dX6_anew_11 rfl ?_
  refine z_getR hC dX6_anew_12 (hD _) zfX6_10 rfl ?_
  refine zV0 hC dX6_anew_15 zlX6_163 (c_X1_forget (zRd_1 hD) hm hR) (hD _) rfl rfl rfl rfl rfl rfl ?_
  refine z_iload_n hC dX6_anew_18 rfl ?_
  refine z_iret hC dX6_anew_19 ?_
  exact hE.to (by rfl) rfl rfl rfl

theorem o_anew (hD : ∀ k, S 3 k = dsh k) (hO : DOK D) (hM : DMe D I X Y) : dC mX6_anew 4 [zr 3 0] (some (zi (anewS D).1)) (anewS D).2 ad S I X Y sz :=
  ⟨_, _, Y, hM.m (zRm_forget hM.1) (fun k j a => up3_ne (by omega)) (fun k j a => if_neg (by omega)), e_anew_t hD hO hM⟩
theorem e_feed_t (hD : ∀ k, S 3 k = dsh k) (hO : DOK D) (hM : DMe D I X Y) {x : Nat} (hx : x ≤ 255) (hf : ¬ D.2.2.1.2 = 250) : zC0 mX6_feed 1 [zr 3 0, zi (nI x)] (some (zi (nI (D.2.2.1.2 + 1)))) ad S I X Y sz (up3 I 3 30 1 (nI (D.2.2.1.2 + 1))) (up3 X 3 31 D.2.2.1.2 (nI x)) Y := by
  refine zgo (own := RX6) (k := 0) (by decide +kernel) rfl rfl rfl (fun C hC hnm hE => ?_)
  have hm := hM.1
  have hR := hO.1
  have hT := hM.tp hO
  have hz := hT.2.2.1
  refine z_iload_n hC dX6_feed_0 rfl ?_
  refine z_iconst hC dX6_feed_1 (v := nI 0) rfl ?_
  refine z_sipush hC dX6_feed_2 (v := nI 255) rfl ?_
  refine zSv hC dX6_feed_5 zlX6_58 c_X6_isWithin rfl rfl rfl rfl ?_
  refine z_ifb_ne hC dX6_feed_8 (tgt := 18) (by decide) (fun c8 => ?_) (fun c8 => ?_)
  rotate_left
  · exact absurd c8 (fun z => z (iw_of (Nat.zero_le _) hx (by decide)))
  refine z_aload_n hC dX6_feed_18 rfl ?_
  refine z_getR hC dX6_feed_19 (hD _) zfX6_39 rfl ?_
  refine zVv hC dX6_feed_22 zlX6_166 (c_X4_isFull hD hT) (hD _) rfl rfl rfl rfl rfl rfl ?_
  refine z_ifb_eq hC dX6_feed_25 (tgt := 35) (by decide) (fun c25 => ?_) (fun c25 => ?_)
  rotate_left
  · exact absurd c25 hf
  refine z_aload_n hC dX6_feed_35 rfl ?_
  refine z_getR hC dX6_feed_36 (hD _) zfX6_39 rfl ?_
  refine z_iload_n hC dX6_feed_39 rfl ?_
  refine zV0 hC dX6_feed_40 zlX6_167 (c_X4_write hD hT (by omega)) (hD _) rfl rfl rfl rfl rfl rfl ?_
  refine z_aload_n hC dX6_feed_43 rfl ?_
  refine z_getR hC dX6_feed_44 (hD _) zfX6_39 rfl ?_
  refine z_getN hC dX6_feed_47 (hD _) zfX6_170 rfl (up3_eq _ _ _ _ _) ?_
  refine z_iret hC dX6_feed_50 ?_
  exact hE.to (by rfl) rfl rfl rfl

theorem e_feed_o (hD : ∀ k, S 3 k = dsh k) (hO : DOK D) (hM : DMe D I X Y) {x : Int32} (hx : iw x 0 255) (hf : D.2.2.1.2 = 250) : zC0 mX6_feed 1 [zr 3 0, zi x] (some (zi (-6))) ad S I X Y sz I (rfX 4 X) Y := by
  refine zgo (own := RX6) (k := 0) (by decide +kernel) rfl rfl rfl (fun C hC hnm hE => ?_)
  have hm := hM.1
  have hR := hO.1
  have hT := hM.tp hO
  refine z_iload_n hC dX6_feed_0 rfl ?_
  refine z_iconst hC dX6_feed_1 (v := nI 0) rfl ?_
  refine z_sipush hC dX6_feed_2 (v := nI 255) rfl ?_
  refine zSv hC dX6_feed_5 zlX6_58 c_X6_isWithin rfl rfl rfl rfl ?_
  refine z_ifb_ne hC dX6_feed_8 (tgt := 18) (by decide) (fun c8 => ?_) (fun c8 => ?_)
  rotate_left
  · exact absurd c8 (fun z => z hx)
  refine z_aload_n hC dX6_feed_18 rfl ?_
  refine z_getR hC dX6_feed_19 (hD _) zfX6_39 rfl ?_
  refine zVv hC dX6_feed_22 zlX6_166 (c_X4_isFull hD hT) (hD _) rfl rfl rfl rfl rfl rfl ?_
  refine z_ifb_eq hC dX6_feed_25 (tgt := 35) (by decide) (fun c25 => ?_) (fun c25 => ?_)
  · exact absurd c25 (fun z => z hf)
  refine z_aload_n hC dX6_feed_28 rfl ?_
  refine z_bipush hC dX6_feed_29 (v := -6) rfl ?_
  refine zVv hC dX6_feed_31 zlX6_62 (c_X6_refuse hD (j := 4) (by decide) (by decide)) (hD _) rfl rfl rfl rfl rfl rfl ?_
  refine z_iret hC dX6_feed_34 ?_
  exact hE.to (by rfl) rfl rfl rfl

theorem e_feed_f (hD : ∀ k, S 3 k = dsh k) (hO : DOK D) (hM : DMe D I X Y) {x : Int32} (hx : ¬ iw x 0 255) : zC0 mX6_feed 1 [zr 3 0, zi x] (some (zi (-2))) ad S I X Y sz I (rfX 0 X) Y := by
  refine zgo (own := RX6) (k := 0) (by decide +kernel) rfl rfl rfl (fun C hC hnm hE => ?_)
  have hm := hM.1
  have hR := hO.1
  refine z_iload_n hC dX6_feed_0 rfl ?_
  refine z_iconst hC dX6_feed_1 (v := nI 0) rfl ?_
  refine z_sipush hC dX6_feed_2 (v := nI 255) rfl ?_
  refine zSv hC dX6_feed_5 zlX6_58 c_X6_isWithin rfl rfl rfl rfl ?_
  refine z_ifb_ne hC dX6_feed_8 (tgt := 18) (by decide) (fun c8 => ?_) (fun c8 => ?_)
  · exact absurd c8 hx
  refine z_aload_n hC dX6_feed_11 rfl ?_
  refine z_bipush hC dX6_feed_12 (v := -2) rfl ?_
  refine zVv hC dX6_feed_14 zlX6_62 (c_X6_refuse hD (j := 0) (by decide) (by decide)) (hD _) rfl rfl rfl rfl rfl rfl ?_
  refine z_iret hC dX6_feed_17 ?_
  exact hE.to (by rfl) rfl rfl rfl

theorem o_feed (hD : ∀ k, S 3 k = dsh k) (hO : DOK D) (hM : DMe D I X Y) {x : Int32} : dC mX6_feed 1 [zr 3 0, zi x] (some (zi (feedS D x).1)) (feedS D x).2 ad S I X Y sz := by
  unfold feedS
  by_cases h : iw x 0 255
  · rw [if_pos h]
    by_cases hf : D.2.2.1.2 = 250
    · rw [if_pos hf]
      exact ⟨I, rfX 4 X, Y, hM.rf (by decide), e_feed_o hD hO hM h hf⟩
    · rw [if_neg hf]
      obtain ⟨x, -, h2, rfl, e1⟩ := iw_e h (by decide) (by decide)
      refine ⟨_, _, Y, hM.tape (up3_eq _ _ _ _ _) (fun i hi => ?_) (fun k j a => up3_ne (by omega)) (fun k j a => up3_ne (by omega)), e_feed_t hD hO hM h2 hf⟩
      rw [e1]
      by_cases e : i = D.2.2.1.2
      · rw [e, up3_eq, if_pos rfl]
      · rw [up3_ne (by omega), if_neg e]
        exact hM.2.2.2.1.2 i (by omega)
  · rw [if_neg h]
    exact ⟨I, rfX 0 X, Y, hM.rf (by decide), e_feed_f hD hO hM h⟩
theorem e_wipe_t (hD : ∀ k, S 3 k = dsh k) (hO : DOK D) (hM : DMe D I X Y)  : zC0 mX6_wipe 0 [zr 3 0] (some (zi (nI D.2.2.1.2))) ad S I X Y sz (up3 I 3 30 1 (nI 0)) X Y := by
  refine zgo (own := RX6) (k := 1) (by decide +kernel) rfl rfl rfl (fun C hC hnm hE => ?_)
  have hm := hM.1
  have hR := hO.1
  refine z_aload_n hC dX6_wipe_0 rfl ?_
  refine z_getR hC dX6_wipe_1 (hD _) zfX6_39 rfl ?_
  refine z_getN hC dX6_wipe_4 (hD _) zfX6_170 rfl hM.2.2.2.1.1 ?_
  refine z_istore_n hC dX6_wipe_7 (lo2 := [_, _]) (Nat.le_of_ble_eq_true rfl) rfl rfl ?_
  refine z_aload_n hC dX6_wipe_8 rfl ?_
  refine z_getR hC dX6_wipe_9 (hD _) zfX6_39 rfl ?_
  refine z_iconst hC dX6_wipe_12 (v := nI 0) rfl ?_
  refine z_putI hC dX6_wipe_13 (hD _) zfX6_170 rfl rfl rfl rfl ?_
  refine z_iload_n hC dX6_wipe_16 rfl ?_
  refine z_iret hC dX6_wipe_17 ?_
  exact hE.to (by rfl) rfl rfl rfl

theorem o_wipe (hD : ∀ k, S 3 k = dsh k) (hO : DOK D) (hM : DMe D I X Y) : dC mX6_wipe 0 [zr 3 0] (some (zi (wipeS D).1)) (wipeS D).2 ad S I X Y sz :=
  ⟨_, _, Y, hM.tape (up3_eq _ _ _ _ _) (fun i hi => absurd hi (Nat.not_lt_zero _)) (fun k j a => up3_ne (by omega)) (fun k j a => rfl), e_wipe_t hD hO hM⟩
end
