/-! the reference: a draft of the road; looking in vain -/
section YC
variable {C : zC} {nL : Nat} {ad : zA} {S S' : zSh} {cells slots sz sz' : Nat} {I X I' X' : zI} {Y Y' : zY} {pc : Nat} {lo : List (Option zV)} {st : List zV}
variable {bt : ByteArray} {own : String} {ret : Option FieldType} {N mc ms : Nat} {y : zM} {np idx n mc1 ms1 : Nat} {P : zP}
theorem yVv {As : List zV} {w : zV} {st0 : List zV} {b j ci : Nat} {fl : List zF} {q : vw_C} (hC : zOk bt own nL ret N mc ms C ad) (d : decode bt pc = .ok (.invokevirtual idx, 3)) (hy : zVir own idx y np) (hM : zCall y n mc1 ms1 (.inr (.inr (some (b, j))) :: As) (some w) ad S I X Y sz S' I' X' Y' sz') (hs : S b j = some (.inr (.inl (ci, fl)))) (hc : vwCl[ci]? = some q) (hq : q.1 = y.1.cls) (hst : st0 = As.reverse ++ .inr (.inr (some (b, j))) :: st) (hnp : As.length = np) (hn : Nat.ble (n + 1) N = true) (hw : Nat.ble (st.map (fun v => zcat (some (some v)))).sum 8 = true) (hr : cells + mc1 ≤ mc ∧ slots + ms1 ≤ ms)
    (kk : zL C nL ad S' (cells + mc1) (slots + ms1) sz' I' X' Y' (pc + 3) lo (w :: st)) : zL C nL ad S cells slots sz I X Y pc lo st0 :=
  z_callV hC d hy hM hs hc hq hst hnp (Nat.le_of_ble_eq_true hn) (Nat.le_of_ble_eq_true hw) hr kk
theorem xVv {As : List zV} {st0 : List zV} {b j ci : Nat} {fl : List zF} {q : vw_C} (hC : zOk bt own nL ret N mc ms C ad) (d : decode bt pc = .ok (.invokevirtual idx, 3)) (hy : zVir own idx y np) (hM : zCx y n mc1 ms1 (.inr (.inr (some (b, j))) :: As) ad S I X Y sz P) (hs : S b j = some (.inr (.inl (ci, fl)))) (hc : vwCl[ci]? = some q) (hq : q.1 = y.1.cls) (hst : st0 = As.reverse ++ .inr (.inr (some (b, j))) :: st) (hnp : As.length = np) (hn : Nat.ble (n + 1) N = true) (hw : Nat.ble (st.map (fun v => zcat (some (some v)))).sum 8 = true) (hr : cells + mc1 ≤ mc ∧ slots + ms1 ≤ ms)
    (kk : ∀ v S' I' X' Y' sz', P v S' I' X' Y' sz' → zL C nL ad S' (cells + mc1) (slots + ms1) sz' I' X' Y' (pc + 3) lo (v.toList ++ st)) : zL C nL ad S cells slots sz I X Y pc lo st0 :=
  z_callVX hC d hy hM hs hc hq hst hnp (Nat.le_of_ble_eq_true hn) (Nat.le_of_ble_eq_true hw) hr kk
end YC
/-- the same road, people having looked as m says -/
def rmis (R : RS) (m : Nat → Nat) : RS := (R.1, fun j i => if j = 4 then m i else R.2.1 j i, R.2.2)
theorem rmis_0 {R : RS} : rmis R (R.2.1 4) = R := by
  obtain ⟨c, f, r⟩ := R
  refine congrArg (fun z => (c, z, r)) (funext fun j => funext fun i => ?_)
  show (if j = 4 then f 4 i else f j i) = f j i
  by_cases e : j = 4
  · rw [if_pos e, e]
  · rw [if_neg e]
theorem rmis_m {R : RS} {m : Nat → Nat} {b l : Nat} : rmiss (rmis R m) b l = rmis R (fun i => if i = b then missN (m b) l else m i) := by
  refine congrArg (fun z => (R.1, z, R.2.2)) (funext fun j => funext fun i => ?_)
  show (if j = 4 ∧ i = b then missN (m b) l else if j = 4 then m i else R.2.1 j i) = (if j = 4 then (if i = b then missN (m b) l else m i) else R.2.1 j i)
  by_cases e : j = 4
  · by_cases e2 : i = b
    · rw [if_pos ⟨e, e2⟩, if_pos e, if_pos e2]
    · rw [if_neg (fun z => e2 z.2), if_pos e, if_pos e, if_neg e2]
  · rw [if_neg (fun z => e z.1), if_neg e, if_neg e]
theorem rmis_W {R : RS} {m : Nat → Nat} : ∀ s, signW (rmis R m) s = signW R s
  | 0 => rfl
  | s + 1 => by
    show heedW (signW (rmis R m) s) (R.2.1 5 s) (R.2.1 6 s) (100 - R.2.1 7 s) = heedW (signW R s) (R.2.1 5 s) (R.2.1 6 s) (100 - R.2.1 7 s)
    rw [rmis_W s]
theorem rmis_H {R : RS} {m : Nat → Nat} : ∀ s, signH (rmis R m) s = signH R s
  | 0 => rfl
  | s + 1 => by
    show heedH (signH (rmis R m) s) (R.2.1 6 s) (100 - R.2.1 7 s) = heedH (signH R s) (R.2.1 6 s) (100 - R.2.1 7 s)
    rw [rmis_H s]
theorem rmis_f {R : RS} {m : Nat → Nat} : fwN (rmis R m) = wtN (signW R (R.1 1)) m := by
  show wtN (signW (rmis R m) (R.1 1)) m = _
  rw [rmis_W]
theorem rmis_n {R : RS} {m : Nat → Nat} : nxF (rmis R m) ((rmis R m).2.1 4) = nxF R m := by
  show (nxS (rateN (wtN (signW (rmis R m) (R.1 1)) m) (R.2.1 2)) (3 * R.1 0)).2 = _
  rw [rmis_W]
theorem rmis_a {R : RS} {m : Nat → Nat} : alN (rmis R m) = sumN (wtN (signW R (R.1 1)) m) (R.1 0) + hwN R := by
  show sumN (fwN (rmis R m)) (R.1 0) + signH (rmis R m) (R.1 1) = _
  rw [rmis_f, rmis_H]
theorem rmis_ok {R : RS} {m : Nat → Nat} (hR : ROK R) (hm : ∀ i, i < R.1 0 → m i ≤ 100) : ROK (rmis R m) := by
  obtain ⟨h1, h2, h3, h4, h5, h6, h7, h8, h9⟩ := hR
  exact ⟨h1, h2, h3, h4, h5, h6, fun i hi => ⟨(h7 i hi).1, (h7 i hi).2.1, (h7 i hi).2.2.1, (h7 i hi).2.2.2.1, (h7 i hi).2.2.2.2.1, hm i hi⟩, h8, h9⟩
/-- only block 1 has changed -/
theorem MMe.off {D : DS} {qe : Bool} {I X I' X' : zI} {Y : zY} (h : MMe qe D I X Y) (hI : ∀ b k j, b ≠ 1 → I' b k j = I b k j) (hX : ∀ b k j, b ≠ 1 → X' b k j = X b k j) : MMe qe D I' X' Y :=
  h.fr (fun j _ => hI _ _ _ (by decide)) (by rw [hI _ _ _ (by decide)]; exact h.2.2.1) (fun k j _ _ => hX _ _ _ (by decide)) (fun k j => ⟨hI _ _ _ (by decide), hX _ _ _ (by decide)⟩)
theorem mwI_off {R : RS} {I : zI} : ∀ b k j, b ≠ 1 → mwI 1 R I b k j = I b k j := fun b k j h => by unfold mwI; rw [up3_ne (by omega), up3_ne (by omega), up3_ne (by omega)]
theorem mwX_off {R : RS} {X : zI} : ∀ b k j, b ≠ 1 → mwX 1 R X b k j = X b k j := fun b k j h => by unfold mwX; rw [zrow_ne (by omega), zrow_ne (by omega)]
section
variable {ad : zA} {S : zSh} {I X : zI} {Y : zY} {sz : Nat} {D : DS} {qe : Bool}

theorem c_fresh (hS : ∀ k, S 0 k = msh 0 k) (hM : MMe qe D I X Y) (hR : ROK D.1) (hb : zBk 1 qe ad S I X Y sz) : ∃ I' X' sz', MMe true D I' X' Y ∧ zQm 1 D.1 I' X' ∧ zCall mX7_fresh 2 47 14378 [zr 0 0] (some (zr 1 0)) ad S I X Y sz (zmd 1 S) I' X' Y sz' := by
  cases qe with
  | true =>
    have h1 := hb.1 rfl
    have h29 : ¬ I 0 0 29 = 0 := by rw [hM.2.2.1]; decide
    refine ⟨_, _, sz, ?_, hM.1.take hR, ?_⟩
    · exact hM.off (fun b k j h => tfI_ne (by omega)) (fun b k j h => tfX_ne (by omega))
    · rw [zmd_id h1]; exact c_fresh_t hS h29 h1
  | false =>
    obtain ⟨h1, h2, h3⟩ := hb.2 rfl
    have h29 : I 0 0 29 = 0 := hM.2.2.1
    have hm0 : MMe true D (up3 (modI 1 I) 0 0 29 1) X Y := hM.fr (fun j hj => by rw [up3_ne (by omega), modI_off (by omega)]) (up3_eq _ _ _ _ _) (fun _ _ _ _ => rfl) (fun k j => ⟨by rw [up3_ne (by omega), modI_off (by omega)], rfl⟩)
    refine ⟨_, _, _, ?_, hm0.1.take hR, c_fresh_f hS h29 h1 h2 h3⟩
    exact hm0.off (fun b k j h => tfI_ne (by omega)) (fun b k j h => tfX_ne (by omega))
abbrev mX (y : zM) (n : Nat) (args : List zV) (v : Option zV) (D' : DS) (ad : zA) (S : zSh) (I X : zI) (Y : zY) (sz : Nat) (qe : Bool) : Prop := zCx y n 47 14378 args ad S I X Y sz (fun v' S' I' X' Y' sz' => v' = v ∧ ((S' = S ∧ MMe qe D' I' X' Y') ∨ (S' = zmd 1 S ∧ MMe true D' I' X' Y')))
theorem mX.a {y : zM} {n : Nat} {args : List zV} {v : Option zV} {D' : DS} {I' X' : zI} {Y' : zY} {sz' : Nat} (h : zCall y n 47 14378 args v ad S I X Y sz S I' X' Y' sz') (hM : MMe qe D' I' X' Y') : mX y n args v D' ad S I X Y sz qe := h.x ⟨rfl, Or.inl ⟨rfl, hM⟩⟩
theorem c_nextM {b : Nat} {R : RS} {m : Nat → Nat} (hS : ∀ k, S b k = msh b k) (hm : zQm b (rmis R m) I X) (hR : ROK R) (hml : ∀ i, i < R.1 0 → m i ≤ 100) : zC0 mX7_nextNow 3 [zr b 0] (some (zi (oI (nxF R m)))) ad S I X Y sz (mwI b (rmis R m) I) (mwX b (rmis R m) X) Y := by
  have h := c_X7_nextNow (ad := ad) (Y := Y) (sz := sz) hS hm (rmis_ok hR hml)
  rw [rmis_n] at h
  exact h

theorem c_vainly (hS : ∀ k, S 0 k = msh 0 k) (hO : DOK D) (hM : MMe qe D I X Y) (hb : zBk 1 qe ad S I X Y sz) {k : Nat} (hk : k ≤ 40) : zCx mX7_vainly 4 47 14378 [zr 0 0, zi (nI k)] ad S I X Y sz (fun v S1 I1 X1 Y1 sz1 => v = some (zr 1 0) ∧ S1 = zmd 1 S ∧ Y1 = Y ∧ zQm 1 (rmis D.1 (vnF D.1 k)) I1 X1 ∧ mwF 1 (rmis D.1 (vnF D.1 k)) I1 X1 ∧ MMe true D I1 X1 Y) := by
  refine zgoX (own := RX7) (k := 3) (by decide +kernel) rfl rfl rfl (fun C hC hnm hE => ?_)
  have hm := hM.1
  have hR := hO.1
  have hmo := hm
  have hn14 := hR.1
  have hn8 := hR.2.1
  have hn6 := hR.2.2.1
  obtain ⟨I2, X2, sz2, hM2, hq2, hc2⟩ := c_fresh hS hM hR hb
  have hS0 : ∀ k, zmd 1 S 0 k = msh 0 k := fun k => (zmd_ne (by decide)).trans (hS k)
  have hS1 : ∀ k, zmd 1 S 1 k = msh 1 k := fun k => zmd_at
  have hvl : ∀ j, ∀ i, i < D.1.1 0 → vnF D.1 j i ≤ 100 := fun j => vnM_le (fun i hi => (hR.2.2.2.2.2.2.1 i hi).2.2.2.2.2) j
  have hq3 : zQm 1 (rmis D.1 (vnF D.1 0)) I2 X2 := by show zQm 1 (rmis D.1 (D.1.2.1 4)) I2 X2; rw [rmis_0]; exact hq2
  refine z_aload_n hC dX7_vainly_0 rfl ?_
  refine yVv hC dX7_vainly_1 zlX7_263 hc2 (hS _) rfl rfl rfl rfl rfl rfl ⟨by decide, by decide⟩ ?_
  refine z_astore_n hC dX7_vainly_4 (lo2 := [_, _, _, _, _]) (Nat.le_of_ble_eq_true rfl) rfl rfl ?_
  refine z_aload_n hC dX7_vainly_5 rfl ?_
  refine wVv hC dX7_vainly_6 zlX7_330 (c_nextM hS1 hq3 hR (hvl 0)) (hS1 _) rfl rfl rfl rfl rfl rfl ⟨rfl, rfl⟩ ?_
  refine z_istore_n hC dX7_vainly_9 (lo2 := [_, _, _, _, _]) (Nat.le_of_ble_eq_true rfl) rfl rfl ?_
  refine z_iconst hC dX7_vainly_10 (v := nI 0) rfl ?_
  refine z_istore hC dX7_vainly_11 (lo2 := [_, _, _, _, _]) (Nat.le_of_ble_eq_true rfl) rfl rfl ?_
  have loop13 : ∀ (fuel : Nat) (i : Nat) (I1 X1 : zI), k - i < fuel → i ≤ k → zQm 1 (rmis D.1 (vnF D.1 i)) I1 X1 → mwF 1 (rmis D.1 (vnF D.1 i)) I1 X1 → MMe true D I1 X1 Y → zL C 5 ad (zmd 1 S) 47 14378 sz2 I1 X1 Y 13 [some (zr 0 0), some (zi (nI k)), some (zr 1 0), some (zi (oI (nxF D.1 (vnF D.1 i)))), some (zi (nI i))] [] := by
    intro fuel
    induction fuel with
    | zero => intro i I1 X1 hfu; exact absurd hfu (Nat.not_lt_zero _)
    | succ fuel ih =>
      intro i I1 X1 hfu hik hqi hwi hMi
      refine z_iload hC dX7_vainly_13 rfl ?_
      refine z_iload_n hC dX7_vainly_15 rfl ?_
      refine z_nicmp_ge hC dX7_vainly_16 (tgt := 47) (by decide) (by omega) (by omega) (fun c16 => ?_) (fun c16 => ?_)
      · skip
        obtain rfl : i = k := by omega
        refine z_aload_n hC dX7_vainly_47 rfl ?_
        refine z_widen (k := 47) (n := 14378) (by decide) (by decide) ?_
        refine z_aret hC dX7_vainly_48 ?_
        exact (hE (some (zr 1 0)) (zmd 1 S) I1 X1 Y sz2 ⟨rfl, rfl, rfl, (by first | exact hqi | (rw [show vnF D.1 k = vnF D.1 i from vnM_none hnx k hik]; exact hqi)), (by first | exact hwi | (rw [show vnF D.1 k = vnF D.1 i from vnM_none hnx k hik]; exact hwi)), hMi⟩).to rfl rfl rfl rfl
      rcases hnx : nxF D.1 (vnF D.1 i) with _ | q
      · skip
        refine z_iload_n hC dX7_vainly_19 rfl ?_
        refine z_iconst hC dX7_vainly_20 (v := -1) rfl ?_
        refine z_icmp_eq hC dX7_vainly_21 (tgt := 47) (by decide) (fun c21 => ?_) (fun c21 => ?_)
        rotate_left
        · exact absurd c21 (fun z => z rfl)
        refine z_aload_n hC dX7_vainly_47 rfl ?_
        refine z_widen (k := 47) (n := 14378) (by decide) (by decide) ?_
        refine z_aret hC dX7_vainly_48 ?_
        exact (hE (some (zr 1 0)) (zmd 1 S) I1 X1 Y sz2 ⟨rfl, rfl, rfl, (by first | exact hqi | (rw [show vnF D.1 k = vnF D.1 i from vnM_none hnx k hik]; exact hqi)), (by first | exact hwi | (rw [show vnF D.1 k = vnF D.1 i from vnM_none hnx k hik]; exact hwi)), hMi⟩).to rfl rfl rfl rfl
      · skip
        obtain ⟨b, l, hq, hl1, hl3, hb3⟩ := nxS_some hnx
        have hqb : q / 10 < D.1.1 0 := by omega
        show zL C 5 ad (zmd 1 S) 47 14378 sz2 _ _ Y _ [_, _, _, some (zi (nI q)), _] _
        refine z_iload_n hC dX7_vainly_19 rfl ?_
        refine z_iconst hC dX7_vainly_20 (v := -1) rfl ?_
        refine z_icmp_eq hC dX7_vainly_21 (tgt := 47) (by decide) (fun c21 => ?_) (fun c21 => ?_)
        · exact absurd c21 (zne1 (by omega))
        refine z_aload_n hC dX7_vainly_24 rfl ?_
        refine z_iload_n hC dX7_vainly_25 rfl ?_
        refine z_bipush hC dX7_vainly_26 (v := nI 10) rfl ?_
        refine z_ndiv hC dX7_vainly_28 (by omega) (by omega) (by omega) ?_
        refine z_iload_n hC dX7_vainly_29 rfl ?_
        refine z_bipush hC dX7_vainly_30 (v := nI 10) rfl ?_
        refine z_nrem hC dX7_vainly_32 (by omega) (by omega) (by omega) ?_
        refine wV0 hC dX7_vainly_33 zlX7_244 (c_X7_misses hS1 hqi (rmis_ok hR (hvl i)) (i := q / 10) (l := q % 10) hqb (by omega) (by omega)) (hS1 _) rfl rfl rfl rfl rfl rfl ⟨rfl, rfl⟩ ?_
        have hqn : zQm 1 (rmis D.1 (vnF D.1 (i + 1))) I1 (up3 X1 1 21 (q / 10) (nI (missN (vnF D.1 i (q / 10)) (q % 10)))) := by have h := hqi.miss (x := q / 10) (l := q % 10); rw [rmis_m] at h; rw [show vnF D.1 (i + 1) = _ from vnM_some hnx]; exact h
        refine z_aload_n hC dX7_vainly_36 rfl ?_
        refine wVv hC dX7_vainly_37 zlX7_330 (c_nextM hS1 hqn hR (hvl (i + 1))) (hS1 _) rfl rfl rfl rfl rfl rfl ⟨rfl, rfl⟩ ?_
        refine z_istore_n hC dX7_vainly_40 (lo2 := [_, _, _, _, _]) (Nat.le_of_ble_eq_true rfl) rfl rfl ?_
        refine z_ninc hC dX7_vainly_41 (lo2 := [_, _, _, _, _]) rfl rfl rfl rfl ?_
        refine z_goto hC dX7_vainly_44 (tgt := 13) (by decide) ?_
        exact ih (i + 1) _ _ (by omega) (by omega) hqn.mw mwF_of ((hMi.off (fun b k j h => rfl) (fun b k j h => up3_ne (by omega))).off mwI_off mwX_off)
  exact loop13 _ 0 _ _ (Nat.lt_succ_self _) (Nat.zero_le _) hq3.mw mwF_of (hM2.off mwI_off mwX_off)

end
