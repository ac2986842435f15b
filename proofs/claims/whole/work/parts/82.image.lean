/-! the reference: image, fresh, back -/
/-- block b is made, or it is to be made -/
def zBk (b : Nat) (e : Bool) (ad : zA) (S : zSh) (I X : zI) (Y : zY) (sz : Nat) : Prop := (e = true → ∀ k, S b k = msh b k) ∧ (e = false → (∀ k, S b k = none) ∧ (∀ i, ad b i = sz + i) ∧ ∀ k j, I b k j = 0 ∧ X b k j = 0 ∧ Y b k j = 0)
theorem zmd_id {b : Nat} {S : zSh} (h : ∀ k, S b k = msh b k) : zmd b S = S := by
  funext b' k
  by_cases e : b' = b
  · subst e; exact zmd_at.trans (h k).symm
  · exact zmd_ne e
theorem zcut_0 {b : Nat} {S : zSh} (h : ∀ k, S b k = none) : S = zcut b 0 (zmR b S) := by
  funext b' k
  by_cases e : b' = b
  · subst e; exact (h k).trans (if_pos ⟨rfl, Nat.zero_le _⟩).symm
  · exact ((if_neg (fun z => e z.1)).trans (if_neg e)).symm
theorem MMe.fr {qe qe' : Bool} {D : DS} {I X I' X' : zI} {Y : zY} (h : MMe qe D I X Y) (hI : ∀ j, j ≤ 28 → I' 0 0 j = I 0 0 j) (h29 : I' 0 0 29 = if qe' = true then nI 1 else nI 0) (hX : ∀ k j, k ≤ 27 → k ≠ 13 → X' 0 k j = X 0 k j) (h2 : ∀ k j, I' 2 k j = I 2 k j ∧ X' 2 k j = X 2 k j) : MMe qe' D I' X' Y := by
  obtain ⟨g1, g2, g3, g4, ⟨g5, g6⟩, g7, g8⟩ := h
  refine ⟨g1.frame (fun j _ _ => hI j (by omega)) (fun k j _ _ => hX k j (by omega) (by omega)), by rw [hI _ (by omega)]; exact g2, h29, fun K hK => (g4 K hK).frame (fun j _ _ => (h2 _ _).1) (fun k j _ _ => (h2 _ _).2), ⟨by rw [hI _ (by omega)]; exact g5, fun i hi => by rw [hX _ _ (by omega) (by omega)]; exact g6 i hi⟩, fun s hs => (g7 s hs).frame (fun k j a c => hX k j (by omega) c), fun j hj => by rw [hX _ _ (by omega) (by omega)]; exact g8 j hj⟩
theorem MMe.im {qe : Bool} {D : DS} {I X I' X' : zI} {Y : zY} (h : MMe qe D I X Y) (hI : ∀ j, j ≠ 28 → I' 0 0 j = I 0 0 j) (h28 : I' 0 0 28 = nI 1) (hX : ∀ k j, X' 0 k j = X 0 k j) (h2 : zQm 2 D.1 I' X') : MMe qe (imageS D).2 I' X' Y := by
  obtain ⟨g1, g2, g3, g4, ⟨g5, g6⟩, g7, g8⟩ := h
  refine ⟨g1.frame (fun j _ _ => hI j (by omega)) (fun k j _ _ => hX k j), h28, by rw [hI _ (by omega)]; exact g3, fun K hK => ?_, ⟨by rw [hI _ (by omega)]; exact g5, fun i hi => by rw [hX]; exact g6 i hi⟩, fun s hs => (g7 s hs).frame (fun k j a c => hX k j), fun j hj => by rw [hX]; exact g8 j hj⟩
  cases hK
  exact h2
section
variable {ad : zA} {S : zSh} {I X : zI} {Y : zY} {sz : Nat} {D : DS} {qe : Bool}

theorem c_fresh_t (hS : ∀ k, S 0 k = msh 0 k) (hh : ¬ I 0 0 29 = 0) (h1 : ∀ k, S 1 k = msh 1 k)  : zCall mX7_fresh 2 47 14378 [zr 0 0] (some (zr 1 0)) ad (S) I X Y (sz) (S) (tfI 1 0 27 I) (tfX 1 0 27 X) Y (sz) := by
  refine zgo (own := RX7) (k := 0) (by decide +kernel) rfl rfl rfl (fun C hC hnm hE => ?_)
  refine z_aload_n hC dX7_fresh_0 rfl ?_
  refine z_getO hC dX7_fresh_1 (hS _) zfX7_254 rfl (fun c1 => ?_) (fun c1 => ?_)
  · exact absurd c1 hh
  refine z_ifnonnull hC dX7_fresh_4 (tgt := 18) (by decide) ?_
  refine z_aload_n hC dX7_fresh_18 rfl ?_
  refine z_getO hC dX7_fresh_19 (hS _) zfX7_254 rfl (fun c19 => ?_) (fun c19 => ?_)
  · exact absurd c19 hh
  refine z_aload_n hC dX7_fresh_22 rfl ?_
  refine wV0 hC dX7_fresh_23 zlX7_259 (c_X7_takeFrom (fun k => h1 k) hS (by decide)) (h1 _) rfl rfl rfl rfl rfl rfl ⟨rfl, rfl⟩ ?_
  refine z_aload_n hC dX7_fresh_26 rfl ?_
  refine z_getO hC dX7_fresh_27 (hS _) zfX7_254 rfl (fun c27 => ?_) (fun c27 => ?_)
  · exact absurd c27 (show ¬ tfI 1 0 27 I 0 0 29 = 0 from by rw [tfI_ne (by omega)]; exact hh)
  refine z_widen (k := 47) (n := 14378) (by decide) (by decide) ?_
  refine z_aret hC dX7_fresh_30 ?_
  exact hE.to (by rfl) rfl rfl rfl

theorem c_fresh_f (hS : ∀ k, S 0 k = msh 0 k) (hh : I 0 0 29 = 0) (h1 : ∀ k, S 1 k = none) (hz : ∀ i, ad 1 i = sz + i) (hi : ∀ k j, I 1 k j = 0 ∧ X 1 k j = 0 ∧ Y 1 k j = 0)  : zCall mX7_fresh 2 47 14378 [zr 0 0] (some (zr 1 0)) ad (S) I X Y (sz) (zmd 1 S) (tfI 1 0 27 (up3 (modI 1 I) 0 0 29 1)) (tfX 1 0 27 X) Y (sz + 47) := by
  refine zgo (own := RX7) (k := 0) (by decide +kernel) rfl rfl rfl (fun C hC hnm hE => ?_)
  refine z_aload_n hC dX7_fresh_0 rfl ?_
  refine z_getO hC dX7_fresh_1 (hS _) zfX7_254 rfl (fun c1 => ?_) (fun c1 => ?_)
  rotate_left
  · exact absurd hh c1
  refine z_ifnonnullN hC dX7_fresh_4  ?_
  refine z_aload_n hC dX7_fresh_7 rfl ?_
  refine z_S (S2 := zcut 1 0 (zmR 1 S)) (zcut_0 h1) ?_
  refine z_new hC (b := 1) (ci := 7) dX7_fresh_8 rfl ⟨(zin5 (i := 222) rfl rfl), (zin4 (i := 207) rfl rfl), (zin1 (i := 9) rfl rfl)⟩ zmR_at rfl (fun j => (hi 0 j).1) (hz 0) ⟨by decide, by decide⟩ ?_
  refine z_dup hC dX7_fresh_11 rfl ?_
  refine zIv hC dX7_fresh_12 zlX7_258 (c_X7_init (b := 1) (S := S) (sz := sz + 1) (fun k j => (hi k j).2.1) (fun k j => (hi k j).2.2) (fun i => by have := hz (1 + i); omega)) rfl rfl rfl rfl ⟨by decide, by decide⟩ ?_
  refine z_putO hC dX7_fresh_15 ((zmd_ne (by decide)).trans (hS _)) zfX7_254 rfl rfl rfl (ty := (.object "OnTheRoofModel")) (by decide +kernel) (fun _ => rfl) (fun _ => rfl) ?_
  refine z_aload_n hC dX7_fresh_18 rfl ?_
  refine z_getO hC dX7_fresh_19 ((zmd_ne (by decide)).trans (hS _)) zfX7_254 rfl (fun c19 => ?_) (fun c19 => ?_)
  · exact absurd c19 (show ¬ up3 _ 0 0 29 _ 0 0 29 = 0 from by rw [up3_eq]; decide)
  refine z_aload_n hC dX7_fresh_22 rfl ?_
  refine wV0 hC dX7_fresh_23 zlX7_259 (c_X7_takeFrom (fun k => zmd_at) (fun k => (zmd_ne (by decide)).trans (hS k)) (by decide)) zmd_at rfl rfl rfl rfl rfl rfl ⟨rfl, rfl⟩ ?_
  refine z_aload_n hC dX7_fresh_26 rfl ?_
  refine z_getO hC dX7_fresh_27 ((zmd_ne (by decide)).trans (hS _)) zfX7_254 rfl (fun c27 => ?_) (fun c27 => ?_)
  · exact absurd c27 (show ¬ tfI 1 0 27 (up3 (modI 1 I) 0 0 29 1) 0 0 29 = 0 from by rw [tfI_ne (by omega)]; exact (show ¬ up3 _ 0 0 29 _ 0 0 29 = 0 from by rw [up3_eq]; decide))
  refine z_widen (k := 47) (n := 14378) (by decide) (by decide) ?_
  refine z_aret hC dX7_fresh_30 ?_
  exact hE.to (by rfl) rfl rfl rfl

theorem c_image_t (hS : ∀ k, S 0 k = msh 0 k) (hh : ¬ I 0 0 28 = 0) (h1 : ∀ k, S 2 k = msh 2 k)  : zCall mX7_image 6 47 14378 [zr 0 0] (some (zi (nI 1))) ad (S) I X Y (sz) (S) (tfI 2 0 27 I) (tfX 2 0 27 X) Y (sz) := by
  refine zgo (own := RX7) (k := 0) (by decide +kernel) rfl rfl rfl (fun C hC hnm hE => ?_)
  refine z_aload_n hC dX7_image_0 rfl ?_
  refine z_getO hC dX7_image_1 (hS _) zfX7_375 rfl (fun c1 => ?_) (fun c1 => ?_)
  · exact absurd c1 hh
  refine z_ifnonnull hC dX7_image_4 (tgt := 18) (by decide) ?_
  refine z_aload_n hC dX7_image_18 rfl ?_
  refine z_getO hC dX7_image_19 (hS _) zfX7_375 rfl (fun c19 => ?_) (fun c19 => ?_)
  · exact absurd c19 hh
  refine z_aload_n hC dX7_image_22 rfl ?_
  refine wV0 hC dX7_image_23 zlX7_259 (c_X7_takeFrom (fun k => h1 k) hS (by decide)) (h1 _) rfl rfl rfl rfl rfl rfl ⟨rfl, rfl⟩ ?_
  refine z_iconst hC dX7_image_26 (v := nI 1) rfl ?_
  refine z_widen (k := 47) (n := 14378) (by decide) (by decide) ?_
  refine z_iret hC dX7_image_27 ?_
  exact hE.to (by rfl) rfl rfl rfl

theorem c_image_f (hS : ∀ k, S 0 k = msh 0 k) (hh : I 0 0 28 = 0) (h1 : ∀ k, S 2 k = none) (hz : ∀ i, ad 2 i = sz + i) (hi : ∀ k j, I 2 k j = 0 ∧ X 2 k j = 0 ∧ Y 2 k j = 0)  : zCall mX7_image 6 47 14378 [zr 0 0] (some (zi (nI 1))) ad (S) I X Y (sz) (zmd 2 S) (tfI 2 0 27 (up3 (modI 2 I) 0 0 28 1)) (tfX 2 0 27 X) Y (sz + 47) := by
  refine zgo (own := RX7) (k := 0) (by decide +kernel) rfl rfl rfl (fun C hC hnm hE => ?_)
  refine z_aload_n hC dX7_image_0 rfl ?_
  refine z_getO hC dX7_image_1 (hS _) zfX7_375 rfl (fun c1 => ?_) (fun c1 => ?_)
  rotate_left
  · exact absurd hh c1
  refine z_ifnonnullN hC dX7_image_4  ?_
  refine z_aload_n hC dX7_image_7 rfl ?_
  refine z_S (S2 := zcut 2 0 (zmR 2 S)) (zcut_0 h1) ?_
  refine z_new hC (b := 2) (ci := 7) dX7_image_8 rfl ⟨(zin5 (i := 222) rfl rfl), (zin4 (i := 207) rfl rfl), (zin1 (i := 9) rfl rfl)⟩ zmR_at rfl (fun j => (hi 0 j).1) (hz 0) ⟨by decide, by decide⟩ ?_
  refine z_dup hC dX7_image_11 rfl ?_
  refine zIv hC dX7_image_12 zlX7_258 (c_X7_init (b := 2) (S := S) (sz := sz + 1) (fun k j => (hi k j).2.1) (fun k j => (hi k j).2.2) (fun i => by have := hz (1 + i); omega)) rfl rfl rfl rfl ⟨by decide, by decide⟩ ?_
  refine z_putO hC dX7_image_15 ((zmd_ne (by decide)).trans (hS _)) zfX7_375 rfl rfl rfl (ty := (.object "OnTheRoofModel")) (by decide +kernel) (fun _ => rfl) (fun _ => rfl) ?_
  refine z_aload_n hC dX7_image_18 rfl ?_
  refine z_getO hC dX7_image_19 ((zmd_ne (by decide)).trans (hS _)) zfX7_375 rfl (fun c19 => ?_) (fun c19 => ?_)
  · exact absurd c19 (show ¬ up3 _ 0 0 28 _ 0 0 28 = 0 from by rw [up3_eq]; decide)
  refine z_aload_n hC dX7_image_22 rfl ?_
  refine wV0 hC dX7_image_23 zlX7_259 (c_X7_takeFrom (fun k => zmd_at) (fun k => (zmd_ne (by decide)).trans (hS k)) (by decide)) zmd_at rfl rfl rfl rfl rfl rfl ⟨rfl, rfl⟩ ?_
  refine z_iconst hC dX7_image_26 (v := nI 1) rfl ?_
  refine z_widen (k := 47) (n := 14378) (by decide) (by decide) ?_
  refine z_iret hC dX7_image_27 ?_
  exact hE.to (by rfl) rfl rfl rfl

end
