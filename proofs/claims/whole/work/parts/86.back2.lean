/-! the reference: image and back -/
def BK (K : RS) (D : DS) (i : Nat) : DS := (K, D.2.1, D.2.2.1, ((fun s => if s < i then bkH (K.1 0) D.2.2.2.1.1 s else D.2.2.2.1.1 s), D.2.2.2.1.2), D.2.2.2.2)
theorem BK_0 {K : RS} {D : DS} : BK K D 0 = DR D K := by
  refine congrArg (fun z => (K, D.2.1, D.2.2.1, (z, D.2.2.2.1.2), D.2.2.2.2)) (funext fun s => ?_)
  exact if_neg (Nat.not_lt_zero _)
theorem MMe.bk {qe : Bool} {K : RS} {D : DS} {i : Nat} {I X X' : zI} {Y : zY} (h : MMe qe (BK K D i) I X Y) (hX : ∀ b k j, ¬ (b = 0 ∧ (k = 1 ∨ k = 14) ∧ j = i) → X' b k j = X b k j) (hz : zMs (bkH (K.1 0) D.2.2.2.1.1 i) (D.2.2.2.1.2.1 i) (D.2.2.2.1.2.2 i) i X' Y) : MMe qe (BK K D (i + 1)) I X' Y := by
  have e : BK K D (i + 1) = DH (BK K D i) (upS (BK K D i).2.2.2.1.1 i (bkH (K.1 0) D.2.2.2.1.1 i)) (BK K D i).2.2.2.1.2.1 (BK K D i).2.2.2.1.2.2 := by
    refine congrArg (fun z => (K, D.2.1, D.2.2.1, (z, D.2.2.2.1.2), D.2.2.2.2)) (funext fun s => ?_)
    show (if s < i + 1 then bkH (K.1 0) D.2.2.2.1.1 s else D.2.2.2.1.1 s) = (if s = i then bkH (K.1 0) D.2.2.2.1.1 i else (if s < i then bkH (K.1 0) D.2.2.2.1.1 s else D.2.2.2.1.1 s))
    by_cases e : s = i
    · subst e; rw [if_pos (by omega), if_pos rfl]
    · rw [if_neg e]
      by_cases e2 : s < i
      · rw [if_pos (by omega), if_pos e2]
      · rw [if_neg (by omega), if_neg e2]
  rw [e]
  exact sh_1M h hX hz
theorem BK_8 {qe : Bool} {K : RS} {D : DS} {I X : zI} {Y : zY} (hk : D.2.1 = some K) (h : MMe qe (BK K D 8) I X Y) : MMe qe (backS D).2 I X Y := by
  obtain ⟨g1, g2, g3, g4, g5, g7, g8⟩ := h
  have e : (backS D).2 = (K, some K, D.2.2.1, (bkH (K.1 0) D.2.2.2.1.1, D.2.2.2.1.2), D.2.2.2.2) := by unfold backS; rw [hk]
  rw [e]
  refine ⟨g1, ?_, g3, fun K1 hK1 => g4 K1 (hk.trans hK1), g5, fun s hs => ?_, g8⟩
  · rw [g2]
    show (if D.2.1.isSome = true then _ else _) = _
    rw [hk]
  · have h1 := g7 s hs
    have e2 : (BK K D 8).2.2.2.1.1 s = bkH (K.1 0) D.2.2.2.1.1 s := if_pos hs
    rw [e2] at h1
    exact h1
theorem MMe.bk0 {qe : Bool} {K : RS} {D : DS} {I X : zI} {Y : zY} (h : MMe qe D I X Y) (hk : D.2.1 = some K) (hK : ROK K) : MMe qe (BK K D 0) (tfI 0 2 27 I) (tfX 0 2 27 X) Y := by
  rw [BK_0]
  exact h.road ((h.2.2.2.1 K hk).take hK) (fun j hj => tfI_ne (by omega)) (fun k j h1 h2 => tfX_ne (by omega)) (fun k j => ⟨tfI_ne (by omega), tfX_ne (by omega)⟩)
section
variable {ad : zA} {S : zSh} {I X : zI} {Y : zY} {sz : Nat} {D : DS} {qe : Bool}


theorem m_image (hS : ∀ k, S 0 k = msh 0 k) (hO : DOK D) (hM : MMe qe D I X Y) (hb : zBk 2 D.2.1.isSome ad S I X Y sz) : zCx mX7_image 6 47 14378 [zr 0 0] ad S I X Y sz (fun v' S' I' X' Y' sz' => v' = some (zi (imageS D).1) ∧ S' = zmd 2 S ∧ MMe qe (imageS D).2 I' X' Y') := by
  have h28 := hM.2.1
  have hR := hO.1
  cases hk : D.2.1.isSome with
  | true =>
    rw [hk] at h28 hb
    have h1 := hb.1 rfl
    have h := c_image_t (ad := ad) (X := X) (Y := Y) (sz := sz) hS (show ¬ I 0 0 28 = 0 from by rw [h28]; decide) h1
    rw [show zmd 2 S = S from zmd_id h1]
    exact h.x ⟨rfl, rfl, hM.im (fun j hj => tfI_ne (by omega)) ((tfI_ne (by omega)).trans h28) (fun k j => tfX_ne (by omega)) (hM.1.take hR)⟩
  | false =>
    rw [hk] at h28 hb
    obtain ⟨h1, h2, h3⟩ := hb.2 rfl
    have h := c_image_f (ad := ad) (X := X) (Y := Y) (sz := sz) hS h28 h1 h2 h3
    have hq : zQm 0 D.1 (up3 (modI 2 I) 0 0 28 1) X := hM.1.frame (fun j _ _ => by rw [up3_ne (by omega), modI_off (by omega)]) (fun _ _ _ _ => rfl)
    exact h.x ⟨rfl, rfl, hM.im (fun j hj => by rw [tfI_ne (by omega), up3_ne (by omega), modI_off (by omega)]) ((tfI_ne (by omega)).trans (up3_eq _ _ _ _ _)) (fun k j => tfX_ne (by omega)) (hq.take hR)⟩
theorem w_back_z (hS : ∀ k, S 0 k = msh 0 k) (hO : DOK D) (hM : MMe qe D I X Y) (hk : D.2.1 = none)  : zC0 mX7_back 6 [zr 0 0] (some (zi (-5))) ad S I X Y sz I (rmX 0 3 X) Y := by
  refine zgo (own := RX7) (k := 1) (by decide +kernel) rfl rfl rfl (fun C hC hnm hE => ?_)
  have hm := hM.1
  have hR := hO.1
  have hmo := hm
  have hn14 := hR.1
  have hn8 := hR.2.1
  have hn6 := hR.2.2.1
  refine z_aload_n hC dX7_back_0 rfl ?_
  refine z_getO hC dX7_back_1 (hS _) zfX7_375 rfl (fun c1 => ?_) (fun c1 => ?_)
  rotate_left
  · exact absurd (show I 0 0 28 = 0 from by rw [hM.2.1, hk]; rfl) c1
  refine z_ifnonnullN hC dX7_back_4  ?_
  refine z_aload_n hC dX7_back_7 rfl ?_
  refine z_bipush hC dX7_back_8 (v := -5) rfl ?_
  refine wVv hC dX7_back_10 zlX7_107 (c_X7_refuse hS (j := 3) (by decide) (by decide)) (hS _) rfl rfl rfl rfl rfl rfl ⟨rfl, rfl⟩ ?_
  refine z_iret hC dX7_back_13 ?_
  exact hE.to (by rfl) rfl rfl rfl

theorem w_back_t (hS : ∀ k, S 0 k = msh 0 k) (hO : DOK D) (hM : MMe qe D I X Y) {K : RS} (hk : D.2.1 = some K) (h2 : ∀ k, S 2 k = msh 2 k)  : zCq mX7_back 6 [zr 0 0] (some (zi (nI 1))) ad S I X Y sz (fun I1 X1 => MMe qe (backS D).2 I1 X1 Y) := by
  refine zgoQ (own := RX7) (k := 1) (by decide +kernel) rfl rfl rfl (fun C hC hnm hE => ?_)
  have hm := hM.1
  have hR := hO.1
  have hmo := hm
  have hn14 := hR.1
  have hn8 := hR.2.1
  have hn6 := hR.2.2.1
  have hk28 : ¬ I 0 0 28 = 0 := by rw [hM.2.1, hk]; exact (by decide : ¬ nI 1 = 0)
  have hKR := hO.2.1 K hk
  have hKn := hKR.1
  refine z_aload_n hC dX7_back_0 rfl ?_
  refine z_getO hC dX7_back_1 (hS _) zfX7_375 rfl (fun c1 => ?_) (fun c1 => ?_)
  · exact absurd c1 hk28
  refine z_ifnonnull hC dX7_back_4 (tgt := 14) (by decide) ?_
  refine z_aload_n hC dX7_back_14 rfl ?_
  refine z_aload_n hC dX7_back_15 rfl ?_
  refine z_getO hC dX7_back_16 (hS _) zfX7_375 rfl (fun c16 => ?_) (fun c16 => ?_)
  · exact absurd c16 hk28
  refine wV0 hC dX7_back_19 zlX7_259 (c_X7_takeFrom hS h2 (by decide)) (hS _) rfl rfl rfl rfl rfl rfl ⟨rfl, rfl⟩ ?_
  refine z_iconst hC dX7_back_22 (v := nI 0) rfl ?_
  refine z_istore_n hC dX7_back_23 (lo2 := [_, _]) (Nat.le_of_ble_eq_true rfl) rfl rfl ?_
  have loop24 : ∀ (fuel : Nat) (i : Nat) (I1 X1 : zI), 8 - i < fuel → i ≤ 8 → MMe qe (BK K D i) I1 X1 Y → zL C 2 ad S 0 0 sz I1 X1 Y 24 [some (zr 0 0), some (zi (nI i))] [] := by
    intro fuel
    induction fuel with
    | zero => intro i I1 X1 hfu; exact absurd hfu (Nat.not_lt_zero _)
    | succ fuel ih =>
      intro i I1 X1 hfu hi8 hme
      have hq : zQm 0 K I1 X1 := hme.1
      refine z_iload_n hC dX7_back_24 rfl ?_
      refine z_bipush hC dX7_back_25 (v := nI 8) rfl ?_
      refine z_nicmp_ge hC dX7_back_27 (tgt := 66) (by decide) (by omega) (by omega) (fun c27 => ?_) (fun c27 => ?_)
      · skip
        obtain rfl : i = 8 := by omega
        refine z_iconst hC dX7_back_66 (v := nI 1) rfl ?_
        refine z_iret hC dX7_back_67 ?_
        exact (hE _ _ (BK_8 hk hme)).to (by rfl) rfl rfl rfl
      have hi : i < 8 := by omega
      have hz := hme.2.2.2.2.2.1 i hi
      rw [show (BK K D i).2.2.2.1.1 i = D.2.2.2.1.1 i from if_neg (Nat.lt_irrefl _)] at hz
      have hb := (hO.2.2.2 i hi).2
      have hc : D.2.2.2.1.1 i = none ∨ (∃ q, q < 10 ∧ D.2.2.2.1.1 i = some q) ∨ ∃ q, D.2.2.2.1.1 i = some (10 + q) ∧ q < 14 := by
        rcases hq0 : D.2.2.2.1.1 i with _ | q
        · exact Or.inl rfl
        · have h1 := hb q hq0
          have h14 := hO.1.1
          rcases h1 with h1 | h1
          · exact Or.inr (Or.inl ⟨q, by omega, rfl⟩)
          · exact Or.inr (Or.inr ⟨q - 10, by rw [show 10 + (q - 10) = q by omega], by omega⟩)
      rcases hc with hq0 | ⟨q, hq10, hq0⟩ | ⟨q, hq0, hq14⟩
      · skip
        rw [hq0] at hz
        have hnx : MMe qe (BK K D (i + 1)) I1 X1 Y := hme.bk (fun _ _ _ _ => rfl) (by rw [show bkH (K.1 0) D.2.2.2.1.1 i = none by unfold bkH; rw [hq0]]; exact hz)
        refine z_aload_n hC dX7_back_30 rfl ?_
        refine z_getR hC dX7_back_31 (hS _) zfX7_7 rfl ?_
        refine z_iload_n hC dX7_back_34 rfl ?_
        refine z_naldN hC dX7_back_35 (hS _) (by omega) rfl hz ?_
        refine z_iconst hC dX7_back_36 (v := nI 2) rfl ?_
        refine z_nicmp_ne hC dX7_back_37 (tgt := 60) (by decide) (by omega) (by omega) (fun c37 => ?_) (fun c37 => ?_)
        rotate_left
        · exact absurd c37 (by decide)
        refine z_ninc hC dX7_back_60 (lo2 := [_, _]) rfl rfl rfl rfl ?_
        refine z_goto hC dX7_back_63 (tgt := 24) (by decide) ?_
        exact ih (i + 1) _ _ (by omega) (by omega) hnx
      · skip
        rw [hq0] at hz
        have hnx : MMe qe (BK K D (i + 1)) I1 X1 Y := hme.bk (fun _ _ _ _ => rfl) (by rw [show bkH (K.1 0) D.2.2.2.1.1 i = some q by unfold bkH; rw [hq0]; exact if_neg (by omega)]; exact hz)
        unfold zMs at hz
        dsimp only at hz
        rw [if_pos hq10] at hz
        refine z_aload_n hC dX7_back_30 rfl ?_
        refine z_getR hC dX7_back_31 (hS _) zfX7_7 rfl ?_
        refine z_iload_n hC dX7_back_34 rfl ?_
        refine z_naldN hC dX7_back_35 (hS _) (by omega) rfl hz.1 ?_
        refine z_iconst hC dX7_back_36 (v := nI 2) rfl ?_
        refine z_nicmp_ne hC dX7_back_37 (tgt := 60) (by decide) (by omega) (by omega) (fun c37 => ?_) (fun c37 => ?_)
        rotate_left
        · exact absurd c37 (by decide)
        refine z_ninc hC dX7_back_60 (lo2 := [_, _]) rfl rfl rfl rfl ?_
        refine z_goto hC dX7_back_63 (tgt := 24) (by decide) ?_
        exact ih (i + 1) _ _ (by omega) (by omega) hnx
      · skip
        rw [hq0] at hz
        have hz0 := hz
        unfold zMs at hz
        dsimp only at hz
        rw [if_neg (by omega), Nat.add_sub_cancel_left] at hz
        refine z_aload_n hC dX7_back_30 rfl ?_
        refine z_getR hC dX7_back_31 (hS _) zfX7_7 rfl ?_
        refine z_iload_n hC dX7_back_34 rfl ?_
        refine z_naldN hC dX7_back_35 (hS _) (by omega) rfl hz.1 ?_
        refine z_iconst hC dX7_back_36 (v := nI 2) rfl ?_
        refine z_nicmp_ne hC dX7_back_37 (tgt := 60) (by decide) (by omega) (by omega) (fun c37 => ?_) (fun c37 => ?_)
        · exact absurd c37 (fun z => z rfl)
        refine z_aload_n hC dX7_back_40 rfl ?_
        refine z_getR hC dX7_back_41 (hS _) zfX7_28 rfl ?_
        refine z_iload_n hC dX7_back_44 rfl ?_
        refine z_naldN hC dX7_back_45 (hS _) (by omega) rfl hz.2 ?_
        refine z_aload_n hC dX7_back_46 rfl ?_
        refine z_getN hC dX7_back_47 (hS _) zfX7_94 rfl hq.1.1 ?_
        refine z_nicmp_lt hC dX7_back_50 (tgt := 60) (by decide) (by omega) (by omega) (fun c50 => ?_) (fun c50 => ?_)
        · skip
          have hnx : MMe qe (BK K D (i + 1)) I1 X1 Y := hme.bk (fun _ _ _ _ => rfl) (by rw [show bkH (K.1 0) D.2.2.2.1.1 i = some (10 + q) by unfold bkH; rw [hq0]; exact if_neg (by omega)]; exact hz0)
          refine z_ninc hC dX7_back_60 (lo2 := [_, _]) rfl rfl rfl rfl ?_
          refine z_goto hC dX7_back_63 (tgt := 24) (by decide) ?_
          exact ih (i + 1) _ _ (by omega) (by omega) hnx
        refine z_aload_n hC dX7_back_53 rfl ?_
        refine z_getR hC dX7_back_54 (hS _) zfX7_7 rfl ?_
        refine z_iload_n hC dX7_back_57 rfl ?_
        refine z_iconst hC dX7_back_58 (v := nI 0) rfl ?_
        refine z_niast hC dX7_back_59 (hS _) (by omega) rfl ?_
        have hnx : MMe qe (BK K D (i + 1)) I1 (up3 X1 0 1 i (nI 0)) Y := hme.bk (fun b k j h => up3_ne (by omega)) (by rw [show bkH (K.1 0) D.2.2.2.1.1 i = none by unfold bkH; rw [hq0]; exact if_pos (by omega)]; exact up3_eq _ _ _ _ _)
        refine z_ninc hC dX7_back_60 (lo2 := [_, _]) rfl rfl rfl rfl ?_
        refine z_goto hC dX7_back_63 (tgt := 24) (by decide) ?_
        exact ih (i + 1) _ _ (by omega) (by omega) hnx
  exact loop24 _ 0 _ _ (Nat.lt_succ_self _) (Nat.zero_le _) (hM.bk0 hk hKR)

theorem m_back (hS : ∀ k, S 0 k = msh 0 k) (hO : DOK D) (hM : MMe qe D I X Y) (h2 : D.2.1.isSome = true → ∀ k, S 2 k = msh 2 k) : mQ mX7_back 6 [zr 0 0] (some (zi (backS D).1)) (backS D).2 ad S I X Y sz qe := by
  rcases hk : D.2.1 with _ | K
  · have e : backS D = bad 3 D := by unfold backS; rw [hk]
    rw [e]
    exact mC.q ⟨I, rmX 0 3 X, Y, hM.rf (by decide), w_back_z hS hO hM hk⟩
  · rw [show (backS D).1 = nI 1 by unfold backS; rw [hk]]
    exact mQ.of_q (w_back_t hS hO hM hk (h2 (by rw [hk]; rfl)))
end
