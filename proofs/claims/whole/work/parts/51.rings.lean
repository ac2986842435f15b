/-! OnTheRoof: rings -/
def gtO (o : Option Nat) (v : Nat) : Bool := match o with
  | none => true
  | some x => decide (x < v)
def rgF (R : RS) (w : Nat → Nat) (m : Nat) : Nat → Nat × Option Nat
  | 0 => (0, none)
  | k + 1 => if minsN R k (R.1 2) ≤ m ∧ gtO (rgF R w m k).2 (hsetN R w k (R.1 2)) = true then (k, some (hsetN R w k (R.1 2))) else rgF R w m k
theorem rgF_1 {R : RS} {w : Nat → Nat} {m k : Nat} (h : minsN R k (R.1 2) ≤ m) (h2 : gtO (rgF R w m k).2 (hsetN R w k (R.1 2)) = true) : rgF R w m (k + 1) = (k, some (hsetN R w k (R.1 2))) := if_pos ⟨h, h2⟩
theorem rgF_0 {R : RS} {w : Nat → Nat} {m k : Nat} (h : ¬ (minsN R k (R.1 2) ≤ m ∧ gtO (rgF R w m k).2 (hsetN R w k (R.1 2)) = true)) : rgF R w m (k + 1) = rgF R w m k := if_neg h
theorem hear_le {R : RS} {n : Nat} {w m : Nat → Nat} {h : Nat} {I X : zI} (hw : zWm n w m h I X) (hR : ROK R) (hn : n = R.1 0) {c : Nat} (hc : c < R.1 2) : hearN R (wtN w m) c ≤ 14000000 := by
  have hcc := hR.2.2.2.2.2.2.2.2 c hc
  have h14 := hR.1
  have hsl : sumR (wtN w m) (hfN (R.2.1 8) (R.2.1 8 c) (R.1 2)) (R.2.1 8 c + 1) ≤ 14 * 1000000 := Nat.le_trans (sumR_le (M := 1000000) (fun j _ hj => (wtN_le hw (by omega)).1)) (Nat.mul_le_mul_right _ (by omega))
  have := pctN (w := sumR (wtN w m) (hfN (R.2.1 8) (R.2.1 8 c) (R.1 2)) (R.2.1 8 c + 1)) hcc.2.2.2
  unfold hearN
  omega
theorem hset_le {R : RS} {n : Nat} {w m : Nat → Nat} {h : Nat} {I X : zI} (hw : zWm n w m h I X) (hR : ROK R) (hn : n = R.1 0) {t : Nat} : hsetN R (wtN w m) t (R.1 2) ≤ 84000000 := by
  have h6 := hR.2.2.1
  have h1 : hsetN R (wtN w m) t (R.1 2) ≤ R.1 2 * 14000000 := sumN_le (fun i hi => by
    try dsimp only
    split
    · exact hear_le hw hR hn hi
    · omega)
  have h2 : R.1 2 * 14000000 ≤ 6 * 14000000 := Nat.mul_le_mul_right _ h6
  omega
theorem mins_le {R : RS} (hR : ROK R) {t : Nat} : minsN R t (R.1 2) ≤ 600 := by
  have h6 := hR.2.2.1
  have h1 : minsN R t (R.1 2) ≤ R.1 2 * 99 := sumN_le (fun i hi => by
    try dsimp only
    split
    · exact (hR.2.2.2.2.2.2.2.2 i hi).2.2.1
    · omega)
  have h2 : R.1 2 * 99 ≤ 6 * 99 := Nat.mul_le_mul_right _ h6
  omega
theorem rgF_le {R : RS} {n : Nat} {w m : Nat → Nat} {h : Nat} {I X : zI} (hw : zWm n w m h I X) (hR : ROK R) (hn : n = R.1 0) {v : Nat} : ∀ (k : Nat) (x : Nat), (rgF R (wtN w m) v k).2 = some x → x ≤ 84000000
  | 0, x, hx => by cases hx
  | k + 1, x, hx => by
    unfold rgF at hx
    split at hx
    · cases hx
      exact hset_le hw hR hn
    · exact rgF_le hw hR hn k x hx
theorem zm1_le {o : Option Nat} (h : ∀ x, o = some x → x < 2 ^ 31) : (-1 : Int32) ≤ oI o := by
  rcases o with _ | x
  · exact Int32.le_refl _
  · exact Int32.le_trans (by decide) (nI_pos' (h x rfl))
def ringsS (D : DS) (x : Int32) : Int32 × DS := if iw x 0 999 then (nI (rgF D.1 (fwN D.1) (nn x) (2 ^ D.1.1 2)).1, D) else bad 0 D

section
variable {ad : zA} {S : zSh} {I X : zI} {Y : zY} {sz : Nat} {D : DS}

theorem e_rings_t (hD : ∀ k, S 3 k = dsh k) (hO : DOK D) (hM : DMe D I X Y) {x : Nat} (hx : x ≤ 999) : zC0 mX6_rings 8 [zr 3 0, zi (nI x)] (some (zi (nI (rgF D.1 (wtN (signW D.1 (D.1.1 1)) (D.1.2.1 4)) x (2 ^ D.1.1 2)).1))) ad S I X Y sz (wgI D.1 (D.1.1 1) I) (wgX D.1 (D.1.1 1) X) Y := by
  refine zgo (own := RX6) (k := 5) (by decide +kernel) rfl rfl rfl (fun C hC hnm hE => ?_)
  have hm := hM.1
  have hR := hO.1
  have hn14 := hR.1
  have hwg := wg_W (s := D.1.1 1) (I := I) (X := X) hR
  have hmg := wg_R (R := D.1) (s := D.1.1 1) (r := 1) (by decide) hm
  have hwb := wbits hwg
  have hn6 := hR.2.2.1
  have hpw : 2 ^ D.1.1 2 ≤ 2 ^ 6 := Nat.pow_le_pow_right (by decide) hn6
  refine z_iload_n hC dX6_rings_0 rfl ?_
  refine z_iconst hC dX6_rings_1 (v := nI 0) rfl ?_
  refine z_sipush hC dX6_rings_2 (v := nI 999) rfl ?_
  refine zSv hC dX6_rings_5 zlX6_58 c_X6_isWithin rfl rfl rfl rfl ?_
  refine z_ifb_ne hC dX6_rings_8 (tgt := 18) (by decide) (fun c8 => ?_) (fun c8 => ?_)
  rotate_left
  · exact absurd c8 (fun z => z (iw_of (Nat.zero_le _) hx (by decide)))
  refine z_aload_n hC dX6_rings_18 rfl ?_
  refine z_getR hC dX6_rings_19 (hD _) zfX6_25 rfl ?_
  refine z_aload_n hC dX6_rings_22 rfl ?_
  refine z_getR hC dX6_rings_23 (hD _) zfX6_10 rfl ?_
  refine zV0 hC dX6_rings_26 zlX6_194 (c_X5_weigh hD hm hR) (hD _) rfl rfl rfl rfl rfl rfl ?_
  refine z_iconst hC dX6_rings_29 (v := nI 1) rfl ?_
  refine z_aload_n hC dX6_rings_30 rfl ?_
  refine z_getR hC dX6_rings_31 (hD _) zfX6_10 rfl ?_
  refine z_getR hC dX6_rings_34 (hD _) zfX6_184 rfl ?_
  refine z_getN hC dX6_rings_37 (hD _) zfX6_160 rfl hmg.2.2.1.2.1 ?_
  refine z_ishl hC dX6_rings_40  ?_
  rw [zshl1 (D.1.1 2) (by omega)]
  refine z_istore_n hC dX6_rings_41 (lo2 := [_, _, _, _, _, _, _]) (Nat.le_of_ble_eq_true rfl) rfl rfl ?_
  refine z_iconst hC dX6_rings_42 (v := nI 0) rfl ?_
  refine z_istore_n hC dX6_rings_43 (lo2 := [_, _, _, _, _, _, _]) (Nat.le_of_ble_eq_true rfl) rfl rfl ?_
  refine z_iconst hC dX6_rings_44 (v := -1) rfl ?_
  refine z_istore hC dX6_rings_45 (lo2 := [_, _, _, _, _, _, _]) (Nat.le_of_ble_eq_true rfl) rfl rfl ?_
  refine z_iconst hC dX6_rings_47 (v := nI 0) rfl ?_
  refine z_istore hC dX6_rings_48 (lo2 := [_, _, _, _, _, _, _]) (Nat.le_of_ble_eq_true rfl) rfl rfl ?_
  have loop50 : ∀ (fuel : Nat) (k : Nat), 2 ^ D.1.1 2 - k < fuel → k ≤ 2 ^ D.1.1 2 → zL C 7 ad S 0 0 sz (wgI D.1 (D.1.1 1) I) (wgX D.1 (D.1.1 1) X) Y 50 [some (zr 3 0), some (zi (nI x)), some (zi (nI (2 ^ D.1.1 2))), some (zi (nI (rgF D.1 (wtN (signW D.1 (D.1.1 1)) (D.1.2.1 4)) x k).1)), some (zi (oI (rgF D.1 (wtN (signW D.1 (D.1.1 1)) (D.1.2.1 4)) x k).2)), some (zi (nI k)), none] [] := by
    intro fuel
    induction fuel with
    | zero => intro k hfu; exact absurd hfu (Nat.not_lt_zero _)
    | succ fuel ih =>
      intro k hfu hk
      have hrl := rgF_le hwg hR rfl (v := x) k
      have hsl := hset_le hwg hR rfl (t := k)
      have hml := mins_le hR (t := k)
      refine z_iload hC dX6_rings_50 rfl ?_
      refine z_iload_n hC dX6_rings_52 rfl ?_
      refine z_nicmp_ge hC dX6_rings_53 (tgt := 98) (by decide) (by omega) (by omega) (fun c53 => ?_) (fun c53 => ?_)
      · skip
        obtain hk2 : k = 2 ^ D.1.1 2 := by omega
        refine z_iload_n hC dX6_rings_98 rfl ?_
        refine z_iret hC dX6_rings_99 ?_
        exact hE.to (by rw [hk2]) rfl rfl rfl
      refine z_aload_n hC dX6_rings_56 rfl ?_
      refine z_iload hC dX6_rings_57 rfl ?_
      refine zVv hC dX6_rings_59 zlX6_279 (c_X6_minutesOf hD hmg hR (t := k) (by omega)) (hD _) rfl rfl rfl rfl rfl rfl ?_
      refine z_iload_n hC dX6_rings_62 rfl ?_
      refine z_nicmp_gt hC dX6_rings_63 (tgt := 75) (by decide) (by omega) (by omega) (fun c63 => ?_) (fun c63 => ?_)
      · skip
        refine z_iconst hC dX6_rings_75 (v := -1) rfl ?_
        have hnx : rgF D.1 (wtN (signW D.1 (D.1.1 1)) (D.1.2.1 4)) x (k + 1) = (rgF D.1 (wtN (signW D.1 (D.1.1 1)) (D.1.2.1 4)) x k) := rgF_0 (fun z => by omega)
        · skip
          refine z_istore hC dX6_rings_76 (lo2 := [_, _, _, _, _, _, _]) (Nat.le_of_ble_eq_true rfl) rfl rfl ?_
          refine z_iload hC dX6_rings_78 rfl ?_
          refine z_iload hC dX6_rings_80 rfl ?_
          refine z_icmp_le hC dX6_rings_82 (tgt := 92) (by decide) (fun c82 => ?_) (fun c82 => ?_)
          rotate_left
          · exact absurd c82 (fun z => z (zm1_le (fun y hy => by have := hrl y hy; omega)))
          refine z_ninc hC dX6_rings_92 (lo2 := [_, _, _, _, _, _, _]) rfl rfl rfl rfl ?_
          refine z_goto hC dX6_rings_95 (tgt := 50) (by decide) ?_
          skip
          exact z_sub (by rw [hnx]; simp [zsub, oI, *]) (ih (k + 1) (by omega) (by omega))
      refine z_aload_n hC dX6_rings_66 rfl ?_
      refine z_iload hC dX6_rings_67 rfl ?_
      refine zVv hC dX6_rings_69 zlX6_282 (c_X6_heardBySet hD hmg hR hwg rfl (t := k) (by omega)) (hD _) rfl rfl rfl rfl rfl rfl ?_
      refine z_goto hC dX6_rings_72 (tgt := 76) (by decide) ?_
      rcases ho : (rgF D.1 (wtN (signW D.1 (D.1.1 1)) (D.1.2.1 4)) x k).2 with _ | y
      · skip
        have hnx : rgF D.1 (wtN (signW D.1 (D.1.1 1)) (D.1.2.1 4)) x (k + 1) = (k, some (hsetN D.1 (wtN (signW D.1 (D.1.1 1)) (D.1.2.1 4)) k (D.1.1 2))) := rgF_1 (by omega) (by rw [ho]; rfl)
        refine z_istore hC dX6_rings_76 (lo2 := [_, _, _, _, _, _, _]) (Nat.le_of_ble_eq_true rfl) rfl rfl ?_
        refine z_iload hC dX6_rings_78 rfl ?_
        refine z_iload hC dX6_rings_80 rfl ?_
        refine z_icmp_le hC dX6_rings_82 (tgt := 92) (by decide) (fun c82 => ?_) (fun c82 => ?_)
        · exact absurd c82 (zm1_lt (by omega))
        refine z_iload hC dX6_rings_85 rfl ?_
        refine z_istore hC dX6_rings_87 (lo2 := [_, _, _, _, _, _, _]) (Nat.le_of_ble_eq_true rfl) rfl rfl ?_
        refine z_iload hC dX6_rings_89 rfl ?_
        refine z_istore_n hC dX6_rings_91 (lo2 := [_, _, _, _, _, _, _]) (Nat.le_of_ble_eq_true rfl) rfl rfl ?_
        refine z_ninc hC dX6_rings_92 (lo2 := [_, _, _, _, _, _, _]) rfl rfl rfl rfl ?_
        refine z_goto hC dX6_rings_95 (tgt := 50) (by decide) ?_
        skip
        exact z_sub (by rw [hnx]; simp [zsub, oI, *]) (ih (k + 1) (by omega) (by omega))
      · skip
        have hyl := hrl y ho
        show zL C 7 ad S 0 0 sz _ _ Y _ [_, _, _, _, some (zi (nI y)), _, _] _
        refine z_istore hC dX6_rings_76 (lo2 := [_, _, _, _, _, _, _]) (Nat.le_of_ble_eq_true rfl) rfl rfl ?_
        refine z_iload hC dX6_rings_78 rfl ?_
        refine z_iload hC dX6_rings_80 rfl ?_
        refine z_nicmp_le hC dX6_rings_82 (tgt := 92) (by decide) (by omega) (by omega) (fun c82 => ?_) (fun c82 => ?_)
        · skip
          have hnx : rgF D.1 (wtN (signW D.1 (D.1.1 1)) (D.1.2.1 4)) x (k + 1) = (rgF D.1 (wtN (signW D.1 (D.1.1 1)) (D.1.2.1 4)) x k) := rgF_0 (fun z => by have hz := z.2; rw [ho] at hz; have := of_decide_eq_true hz; omega)
          refine z_ninc hC dX6_rings_92 (lo2 := [_, _, _, _, _, _, _]) rfl rfl rfl rfl ?_
          refine z_goto hC dX6_rings_95 (tgt := 50) (by decide) ?_
          skip
          exact z_sub (by rw [hnx]; simp [zsub, oI, *]) (ih (k + 1) (by omega) (by omega))
        have hnx : rgF D.1 (wtN (signW D.1 (D.1.1 1)) (D.1.2.1 4)) x (k + 1) = (k, some (hsetN D.1 (wtN (signW D.1 (D.1.1 1)) (D.1.2.1 4)) k (D.1.1 2))) := rgF_1 (by omega) (by rw [ho]; exact decide_eq_true (by omega))
        refine z_iload hC dX6_rings_85 rfl ?_
        refine z_istore hC dX6_rings_87 (lo2 := [_, _, _, _, _, _, _]) (Nat.le_of_ble_eq_true rfl) rfl rfl ?_
        refine z_iload hC dX6_rings_89 rfl ?_
        refine z_istore_n hC dX6_rings_91 (lo2 := [_, _, _, _, _, _, _]) (Nat.le_of_ble_eq_true rfl) rfl rfl ?_
        refine z_ninc hC dX6_rings_92 (lo2 := [_, _, _, _, _, _, _]) rfl rfl rfl rfl ?_
        refine z_goto hC dX6_rings_95 (tgt := 50) (by decide) ?_
        skip
        exact z_sub (by rw [hnx]; simp [zsub, oI, *]) (ih (k + 1) (by omega) (by omega))
  exact z_sub (by simp [zsub, rgF, oI]) (loop50 _ 0 (Nat.lt_succ_self _) (Nat.zero_le _))

theorem e_rings_f (hD : ∀ k, S 3 k = dsh k) (hO : DOK D) (hM : DMe D I X Y) {x : Int32} (hx : ¬ iw x 0 999) : zC0 mX6_rings 8 [zr 3 0, zi x] (some (zi (-2))) ad S I X Y sz I (rfX 0 X) Y := by
  refine zgo (own := RX6) (k := 5) (by decide +kernel) rfl rfl rfl (fun C hC hnm hE => ?_)
  have hm := hM.1
  have hR := hO.1
  refine z_iload_n hC dX6_rings_0 rfl ?_
  refine z_iconst hC dX6_rings_1 (v := nI 0) rfl ?_
  refine z_sipush hC dX6_rings_2 (v := nI 999) rfl ?_
  refine zSv hC dX6_rings_5 zlX6_58 c_X6_isWithin rfl rfl rfl rfl ?_
  refine z_ifb_ne hC dX6_rings_8 (tgt := 18) (by decide) (fun c8 => ?_) (fun c8 => ?_)
  · exact absurd c8 hx
  refine z_aload_n hC dX6_rings_11 rfl ?_
  refine z_bipush hC dX6_rings_12 (v := -2) rfl ?_
  refine zVv hC dX6_rings_14 zlX6_62 (c_X6_refuse hD (j := 0) (by decide) (by decide)) (hD _) rfl rfl rfl rfl rfl rfl ?_
  refine z_iret hC dX6_rings_17 ?_
  exact hE.to (by rfl) rfl rfl rfl

theorem o_rings (hD : ∀ k, S 3 k = dsh k) (hO : DOK D) (hM : DMe D I X Y) {x : Int32} : dC mX6_rings 8 [zr 3 0, zi x] (some (zi (ringsS D x).1)) (ringsS D x).2 ad S I X Y sz := by
  unfold ringsS
  by_cases h : iw x 0 999
  · rw [if_pos h]
    obtain ⟨x, -, h2, rfl, e1⟩ := iw_e h (by decide) (by decide)
    rw [e1]
    exact ⟨_, _, Y, hM.wg, e_rings_t hD hO hM h2⟩
  · rw [if_neg h]
    exact ⟨I, rfX 0 X, Y, hM.rf (by decide), e_rings_f hD hO hM h⟩
end
