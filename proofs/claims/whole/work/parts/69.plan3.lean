/-! the reference: the plan, the next look, what a call hears-/
theorem mwF.frame {b : Nat} {R : RS} {I X I' X' : zI} (h : mwF b R I X) (hI : ∀ j, 40 ≤ j → j ≤ 41 → I' b 0 j = I b 0 j) (hX : ∀ j, X' b 30 j = X b 30 j) : mwF b R I' X' := ⟨by rw [hI _ (by omega) (by omega)]; exact h.1, by rw [hI _ (by omega) (by omega)]; exact h.2.1, fun i hi => by rw [hX]; exact h.2.2 i hi⟩
theorem plF_s {R : RS} {m t : Nat} (hm : m < R.1 0) : plF R (R.1 0 - m) t = chN (cstN R m) (fbN (fwN R) m) m (plF R (R.1 0 - (m + 1))) t 3 := by
  obtain ⟨k, hk⟩ : ∃ k, R.1 0 = m + 1 + k := ⟨R.1 0 - (m + 1), by omega⟩
  have e1 : R.1 0 - m = k + 1 := by omega
  have e2 : R.1 0 - (m + 1) = k := by omega
  have e3 : R.1 0 - 1 - k = m := by omega
  rw [e1, e2]
  show chN (cstN R (R.1 0 - 1 - k)) _ (R.1 0 - 1 - k) _ t 3 = _
  rw [e3]
theorem moX_s {b : Nat} {R : RS} {X : zI} {m : Nat} (hm : m < R.1 0) : zrow b (31 + 1 + m) (fun t => (plF R (R.1 0 - m) t).1) 901 (moX b R X (R.1 0 - (m + 1))) = moX b R X (R.1 0 - m) := by
  obtain ⟨k, hk⟩ : ∃ k, R.1 0 = m + 1 + k := ⟨R.1 0 - (m + 1), by omega⟩
  have e1 : R.1 0 - m = k + 1 := by omega
  have e2 : R.1 0 - (m + 1) = k := by omega
  have e3 : R.1 0 - 1 - k = m := by omega
  rw [e1, e2]
  show _ = zrow b (31 + 1 + (R.1 0 - 1 - k)) _ 901 _
  rw [e3]
abbrev rtN (R : RS) : Nat → Nat → Nat := rateN (fwN R) (R.2.1 2)
theorem nxS_s {rt : Nat → Nat → Nat} {i l : Nat} (h1 : 1 ≤ l) (h3 : l ≤ 3) : nxS rt (3 * i + (l + 1 - 1)) = if (nxS rt (3 * i + (l - 1))).1 < rt i l then (rt i l, some (10 * i + l)) else nxS rt (3 * i + (l - 1)) := by
  obtain ⟨k, rfl⟩ : ∃ k, l = k + 1 := ⟨l - 1, by omega⟩
  show nxS rt (3 * i + k + 1) = _
  have e1 : (3 * i + k) / 3 = i := by omega
  have e2 : (3 * i + k) % 3 = k := by omega
  show (if (nxS rt (3 * i + k)).1 < rt ((3 * i + k) / 3) ((3 * i + k) % 3 + 1) then (rt ((3 * i + k) / 3) ((3 * i + k) % 3 + 1), some (10 * ((3 * i + k) / 3) + ((3 * i + k) % 3 + 1))) else nxS rt (3 * i + k)) = _
  rw [e1, e2]
  rfl
theorem secN_pos (y l : Nat) : 1 ≤ secN y l := by
  unfold secN
  repeat' split
  all_goals omega
theorem rtN_le {R : RS} (hR : ROK R) {i l : Nat} (hi : i < R.1 0) : rtN R i l ≤ 1000000000 := by
  have h1 : fbN (fwN R) i l ≤ 1000000 := fbN_le (fwN_le hR hi).1
  show 1000 * fbN (fwN R) i l / secN (R.2.1 2 i) l ≤ _
  exact Nat.le_trans (Nat.div_le_self _ _) (by omega)
theorem nxS_le2 {R : RS} (hR : ROK R) : ∀ p, p ≤ 3 * R.1 0 → (nxS (rtN R) p).1 ≤ 1000000000
  | 0, _ => Nat.zero_le _
  | p + 1, h => by
    unfold nxS
    split
    · exact rtN_le hR (by omega)
    · exact nxS_le2 hR p (by omega)

section
variable {ad : zA} {S : zSh} {I X : zI} {Y : zY} {sz b : Nat} {R : RS}

theorem c_X7_findMost (hS : ∀ k, S b k = msh b k) (hm : zQm b R I X) (hR : ROK R)  : zC0 mX7_findMost 3 [zr b 0] (none) ad S I X Y sz (mwI b R I) (moX b R (mwX b R X) (R.1 0)) Y := by
  refine zgo (own := RX7) (k := 5) (by decide +kernel) rfl rfl rfl (fun C hC hnm hE => ?_)
  have hmo := hm
  have hn14 := hR.1
  have hn8 := hR.2.1
  have hn6 := hR.2.2.1
  refine z_aload_n hC dX7_findMost_0 rfl ?_
  refine wV0 hC dX7_findMost_1 zlX7_294 (c_X7_weigh hS hm hR) (hS _) rfl rfl rfl rfl rfl rfl ⟨rfl, rfl⟩ ?_
  refine z_iconst hC dX7_findMost_4 (v := nI 0) rfl ?_
  refine z_istore_n hC dX7_findMost_5 (lo2 := [_, _, _, _, _, _]) (Nat.le_of_ble_eq_true rfl) rfl rfl ?_
  have hq0 : zQm b R (mwI b R I) (mwX b R X) := hmo.mw
  have loop6 : ∀ (fuel : Nat) (t : Nat), 901 - t < fuel → t ≤ 901 → zL C 6 ad S 0 0 sz (mwI b R I) (zrow b (31 + 1 + R.1 0) (fun _ => 0) t (mwX b R X)) Y 6 [some (zr b 0), some (zi (nI t)), none, none, none, none] [] := by
    intro fuel
    induction fuel with
    | zero => intro t hfu; exact absurd hfu (Nat.not_lt_zero _)
    | succ fuel ih =>
      intro t hfu ht
      have hq : zQm b R (mwI b R I) (zrow b (31 + 1 + R.1 0) (fun _ => 0) t (mwX b R X)) := hmo.mw.frame (fun _ _ _ => rfl) (fun k j _ _ => zrow_ne (by omega))
      refine z_iload_n hC dX7_findMost_6 rfl ?_
      refine z_sipush hC dX7_findMost_7 (v := nI 900) rfl ?_
      refine z_nicmp_gt hC dX7_findMost_10 (tgt := 31) (by decide) (by omega) (by omega) (fun c10 => ?_) (fun c10 => ?_)
      · skip
        obtain rfl : t = 901 := by omega
        refine z_aload_n hC dX7_findMost_31 rfl ?_
        refine z_getN hC dX7_findMost_32 (hS _) zfX7_94 rfl hq.1.1 ?_
        refine z_iconst hC dX7_findMost_35 (v := nI 1) rfl ?_
        refine z_isub hC dX7_findMost_36  ?_
        refine z_istore_n hC dX7_findMost_37 (lo2 := [_, _, _, _, _, _]) (Nat.le_of_ble_eq_true rfl) rfl rfl ?_
        have loop38 : ∀ (fuel : Nat) (m : Nat), m < fuel → m ≤ R.1 0 → zL C 6 ad S 0 0 sz (mwI b R I) (moX b R (mwX b R X) (R.1 0 - m)) Y 38 [some (zr b 0), some (zi (nI m - nI 1)), none, none, none, none] [] := by
          intro fuel2
          induction fuel2 with
          | zero => intro m hfu; exact absurd hfu (Nat.not_lt_zero _)
          | succ fuel2 ih2 =>
            intro m hfu hmN
            refine z_iload_n hC dX7_findMost_38 rfl ?_
            refine z_if_lt hC dX7_findMost_39 (tgt := 112) (by decide) (fun c39 => ?_) (fun c39 => ?_)
            · skip
              rw [prd_neg (by omega)] at c39
              obtain rfl : m = 0 := c39
              refine z_vret hC dX7_findMost_112 ?_
              exact hE.to (by rfl) rfl rfl rfl
            rw [prd_neg (by omega)] at c39
            obtain ⟨m, rfl⟩ : ∃ m1, m = m1 + 1 := ⟨m - 1, by omega⟩
            have hmn : m < R.1 0 := by omega
            rw [nI_prd]
            · skip
              refine z_iconst hC dX7_findMost_42 (v := nI 0) rfl ?_
              refine z_istore_n hC dX7_findMost_43 (lo2 := [_, _, _, _, _, _]) (Nat.le_of_ble_eq_true rfl) rfl rfl ?_
              have loop44 : ∀ (fuel : Nat) (t : Nat), 901 - t < fuel → t ≤ 901 → zL C 6 ad S 0 0 sz (mwI b R I) (zrow b (31 + 1 + m) (fun t => (plF R (R.1 0 - m) t).1) t (moX b R (mwX b R X) (R.1 0 - (m + 1)))) Y 44 [some (zr b 0), some (zi (nI m)), some (zi (nI t)), none, none, none] [] := by
                intro fuel3
                induction fuel3 with
                | zero => intro t hfu; exact absurd hfu (Nat.not_lt_zero _)
                | succ fuel3 ih3 =>
                  intro t hfu ht
                  refine z_iload_n hC dX7_findMost_44 rfl ?_
                  refine z_sipush hC dX7_findMost_45 (v := nI 900) rfl ?_
                  refine z_nicmp_gt hC dX7_findMost_48 (tgt := 106) (by decide) (by omega) (by omega) (fun c48 => ?_) (fun c48 => ?_)
                  · skip
                    obtain rfl : t = 901 := by omega
                    refine z_iinc hC dX7_findMost_106 (v := -1) (lo2 := [_, _, _, _, _, _]) rfl rfl (Nat.le_of_ble_eq_true rfl) rfl rfl ?_
                    refine z_goto hC dX7_findMost_109 (tgt := 38) (by decide) ?_
                    rw [nI_dec]
                    refine z_X (moX_s hmn) ?_
                    exact z_sub (by simp [zsub]) (ih2 m (by omega) (by omega))
                  refine z_iconst hC dX7_findMost_51 (v := nI 0) rfl ?_
                  refine z_istore_n hC dX7_findMost_52 (lo2 := [_, _, _, _, _, _]) (Nat.le_of_ble_eq_true rfl) rfl rfl ?_
                  refine z_iconst hC dX7_findMost_53 (v := nI 0) rfl ?_
                  refine z_istore hC dX7_findMost_54 (lo2 := [_, _, _, _, _, _]) (Nat.le_of_ble_eq_true rfl) rfl rfl ?_
                  have loop56 : ∀ (fuel : Nat) (l : Nat), 4 - l < fuel → l ≤ 4 → zL C 6 ad S 0 0 sz (mwI b R I) (zrow b (31 + 1 + m) (fun t => (plF R (R.1 0 - m) t).1) t (moX b R (mwX b R X) (R.1 0 - (m + 1)))) Y 56 [some (zr b 0), some (zi (nI m)), some (zi (nI t)), some (zi (nI (btN (cstN R m) (fbN (fwN R) m) m (plF R (R.1 0 - (m + 1))) t l))), some (zi (nI l)), none] [] := by
                    intro fuel4
                    induction fuel4 with
                    | zero => intro l hfu; exact absurd hfu (Nat.not_lt_zero _)
                    | succ fuel4 ih4 =>
                      intro l hfu hl4
                      have hq : zQm b R (mwI b R I) (zrow b (31 + 1 + m) (fun t => (plF R (R.1 0 - m) t).1) t (moX b R (mwX b R X) (R.1 0 - (m + 1)))) := hmo.mw.frame (fun _ _ _ => rfl) (fun k j _ _ => (zrow_ne (by omega)).trans (moX_ne (by omega) _))
                      have hwq : mwF b R (mwI b R I) (zrow b (31 + 1 + m) (fun t => (plF R (R.1 0 - m) t).1) t (moX b R (mwX b R X) (R.1 0 - (m + 1)))) := mwF_of.frame (fun _ _ _ => rfl) (fun j => (zrow_ne (by omega)).trans (moX_ne (by omega) _))
                      have hP : ∀ u, u ≤ t → (zrow b (31 + 1 + m) (fun t => (plF R (R.1 0 - m) t).1) t (moX b R (mwX b R X) (R.1 0 - (m + 1)))) b (31 + 1 + (m + 1)) u = nI (plF R (R.1 0 - (m + 1)) u).1 := fun u hu => (zrow_ne (by omega)).trans (by have h := moX_get (b := b) (R := R) (X := (mwX b R X)) (t := u) (k := (R.1 0 - (m + 1))) (j := (R.1 0 - (m + 1))) (by omega) (Nat.le_refl _) (by omega); rwa [show R.1 0 - (R.1 0 - (m + 1)) = m + 1 by omega] at h)
                      have hbl : (btN (cstN R m) (fbN (fwN R) m) m (plF R (R.1 0 - (m + 1))) t l) ≤ 14000000 := by
                        cases l with
                        | zero => exact Nat.zero_le _
                        | succ l =>
                          exact (chN_le (M := 13000000) (by omega) (fun j _ => ⟨Nat.le_trans (plN_le (c := cstN R) (g := gnN (signW R (R.1 1)) (R.2.1 4)) hR.1 (fun b l hb hl => fbN_le (fwN_le hR hb).1) (R.1 0 - (m + 1)) (by omega) j).1 (Nat.le_trans (Nat.mul_le_mul_right 1000000 (show (R.1 0 - (m + 1)) ≤ 13 by omega)) (by decide)), (plF_le hR (by omega)).2⟩) (fun l _ => fbN_le (fwN_le hR hmn).1) l (by omega)).1
                      refine z_iload hC dX7_findMost_56 rfl ?_
                      refine z_iconst hC dX7_findMost_58 (v := nI 3) rfl ?_
                      refine z_nicmp_gt hC dX7_findMost_59 (tgt := 91) (by decide) (by omega) (by omega) (fun c59 => ?_) (fun c59 => ?_)
                      · skip
                        obtain rfl : l = 4 := by omega
                        refine z_aload_n hC dX7_findMost_91 rfl ?_
                        refine z_getR hC dX7_findMost_92 (hS _) zfX7_91 rfl ?_
                        refine z_iload_n hC dX7_findMost_95 rfl ?_
                        refine z_aald hC (by decide) dX7_findMost_96 (hS _) (by rw [List.length_map, List.length_range]; exact vp_in_nI (by omega) (by decide)) (msel (by omega)) ?_
                        refine z_iload_n hC dX7_findMost_97 rfl ?_
                        refine z_iload_n hC dX7_findMost_98 rfl ?_
                        rw [show (btN (cstN R m) (fbN (fwN R) m) m (plF R (R.1 0 - (m + 1))) t 4) = (plF R (R.1 0 - m) t).1 from (by rw [plF_s hmn]; rfl)]
                        refine z_niast hC dX7_findMost_99 ((hS _).trans (msh_most (by omega)).1) (by omega) rfl ?_
                        refine z_X (X2 := zrow b (31 + 1 + m) (fun t => (plF R (R.1 0 - m) t).1) (t + 1) (moX b R (mwX b R X) (R.1 0 - (m + 1)))) zrow_s ?_
                        refine z_ninc hC dX7_findMost_100 (lo2 := [_, _, _, _, _, _]) rfl rfl rfl rfl ?_
                        refine z_goto hC dX7_findMost_103 (tgt := 44) (by decide) ?_
                        exact z_sub (by simp [zsub]) (ih3 (t + 1) (by omega) (by omega))
                      refine z_aload_n hC dX7_findMost_62 rfl ?_
                      refine z_iload_n hC dX7_findMost_63 rfl ?_
                      refine z_iload hC dX7_findMost_64 rfl ?_
                      refine z_iload_n hC dX7_findMost_66 rfl ?_
                      refine wVv hC dX7_findMost_67 zlX7_321 (c_X7_mostBy (P := fun u => (plF R (R.1 0 - (m + 1)) u).1) hS hq hR hwq hmn (by omega) (by omega) hP) (hS _) rfl rfl rfl rfl rfl rfl ⟨rfl, rfl⟩ ?_
                      refine z_istore hC dX7_findMost_70 (lo2 := [_, _, _, _, _, _]) (Nat.le_of_ble_eq_true rfl) rfl rfl ?_
                      have hmb2 : ∀ v, mbN R (fun u => (plF R (R.1 0 - (m + 1)) u).1) m l t = some v → v ≤ 15000000 := fun v hv => mbN_le hR (by omega) hmn hv
                      rcases hmb : mbN R (fun u => (plF R (R.1 0 - (m + 1)) u).1) m l t with _ | v
                      · skip
                        have hnx : (btN (cstN R m) (fbN (fwN R) m) m (plF R (R.1 0 - (m + 1))) t (l + 1)) = (btN (cstN R m) (fbN (fwN R) m) m (plF R (R.1 0 - (m + 1))) t l) := by rw [btN_mb, hmb]
                        refine z_iload hC dX7_findMost_72 rfl ?_
                        refine z_iload_n hC dX7_findMost_74 rfl ?_
                        refine z_icmp_le hC dX7_findMost_75 (tgt := 83) (by decide) (fun c75 => ?_) (fun c75 => ?_)
                        rotate_left
                        · exact absurd c75 (fun z => z (Int32.le_trans (by decide) (nI_pos' (by omega))))
                        refine z_iload_n hC dX7_findMost_83 rfl ?_
                        refine z_istore_n hC dX7_findMost_84 (lo2 := [_, _, _, _, _, _]) (Nat.le_of_ble_eq_true rfl) rfl rfl ?_
                        refine z_ninc hC dX7_findMost_85 (lo2 := [_, _, _, _, _, _]) rfl rfl rfl rfl ?_
                        refine z_goto hC dX7_findMost_88 (tgt := 56) (by decide) ?_
                        exact z_sub (by rw [hnx]; simp [zsub]) (ih4 (l + 1) (by omega) (by omega))
                      · skip
                        have hvl := hmb2 v hmb
                        show zL C 6 ad S 0 0 sz _ _ Y _ [_, _, _, _, _, some (zi (nI v))] _
                        refine z_iload hC dX7_findMost_72 rfl ?_
                        refine z_iload_n hC dX7_findMost_74 rfl ?_
                        refine z_nicmp_le hC dX7_findMost_75 (tgt := 83) (by decide) (by omega) (by omega) (fun c75 => ?_) (fun c75 => ?_)
                        · skip
                          have hnx : (btN (cstN R m) (fbN (fwN R) m) m (plF R (R.1 0 - (m + 1))) t (l + 1)) = (btN (cstN R m) (fbN (fwN R) m) m (plF R (R.1 0 - (m + 1))) t l) := by rw [btN_mb, hmb]; exact if_neg (by omega)
                          refine z_iload_n hC dX7_findMost_83 rfl ?_
                          refine z_istore_n hC dX7_findMost_84 (lo2 := [_, _, _, _, _, _]) (Nat.le_of_ble_eq_true rfl) rfl rfl ?_
                          refine z_ninc hC dX7_findMost_85 (lo2 := [_, _, _, _, _, _]) rfl rfl rfl rfl ?_
                          refine z_goto hC dX7_findMost_88 (tgt := 56) (by decide) ?_
                          exact z_sub (by rw [hnx]; simp [zsub]) (ih4 (l + 1) (by omega) (by omega))
                        have hnx : (btN (cstN R m) (fbN (fwN R) m) m (plF R (R.1 0 - (m + 1))) t (l + 1)) = v := by rw [btN_mb, hmb]; exact if_pos (by omega)
                        refine z_iload hC dX7_findMost_78 rfl ?_
                        refine z_goto hC dX7_findMost_80 (tgt := 84) (by decide) ?_
                        refine z_istore_n hC dX7_findMost_84 (lo2 := [_, _, _, _, _, _]) (Nat.le_of_ble_eq_true rfl) rfl rfl ?_
                        refine z_ninc hC dX7_findMost_85 (lo2 := [_, _, _, _, _, _]) rfl rfl rfl rfl ?_
                        refine z_goto hC dX7_findMost_88 (tgt := 56) (by decide) ?_
                        exact z_sub (by rw [hnx]; simp [zsub]) (ih4 (l + 1) (by omega) (by omega))
                  exact z_sub (by simp [zsub, btN]) (loop56 _ 0 (Nat.lt_succ_self _) (Nat.zero_le _))
              refine z_X (X2 := zrow b (31 + 1 + m) (fun t => (plF R (R.1 0 - m) t).1) 0 (moX b R (mwX b R X) (R.1 0 - (m + 1)))) zrow_0.symm ?_
              exact z_sub (by simp [zsub]) (loop44 _ 0 (Nat.lt_succ_self _) (Nat.zero_le _))
        refine z_X (X2 := moX b R (mwX b R X) (R.1 0 - R.1 0)) (by rw [Nat.sub_self]; rfl) ?_
        exact z_sub (by simp [zsub]) (loop38 _ (R.1 0) (Nat.lt_succ_self _) (Nat.le_refl _))
      refine z_aload_n hC dX7_findMost_13 rfl ?_
      refine z_getR hC dX7_findMost_14 (hS _) zfX7_91 rfl ?_
      refine z_aload_n hC dX7_findMost_17 rfl ?_
      refine z_getN hC dX7_findMost_18 (hS _) zfX7_94 rfl hq.1.1 ?_
      refine z_aald hC (by decide) dX7_findMost_21 (hS _) (by rw [List.length_map, List.length_range]; exact vp_in_nI (by omega) (by decide)) (msel (by omega)) ?_
      refine z_iload_n hC dX7_findMost_22 rfl ?_
      refine z_iconst hC dX7_findMost_23 (v := nI 0) rfl ?_
      refine z_niast hC dX7_findMost_24 ((hS _).trans (msh_most (by omega)).1) (by omega) rfl ?_
      refine z_X (X2 := zrow b (31 + 1 + R.1 0) (fun _ => 0) (t + 1) (mwX b R X)) zrow_s ?_
      refine z_ninc hC dX7_findMost_25 (lo2 := [_, _, _, _, _, _]) rfl rfl rfl rfl ?_
      refine z_goto hC dX7_findMost_28 (tgt := 6) (by decide) ?_
      exact ih (t + 1) (by omega) (by omega)
  refine z_X (X2 := zrow b (31 + 1 + R.1 0) (fun _ => 0) 0 (mwX b R X)) zrow_0.symm ?_
  exact loop6 _ 0 (Nat.lt_succ_self _) (Nat.zero_le _)

end
