/-! Tape: statements -/
theorem wstN_lt {T : Nat → Nat} {a e q : Nat} (h : wstN T a e = some q) : q < 8 := by
  unfold wstN at h
  repeat' split at h
  all_goals first | cases h
  all_goals omega
def tkM (T : Nat → Nat) (z : Nat) (I : zI) (p : Nat) : zI := tkI I (tkA T z p) (tkS T z p) (tkE T z p)
theorem tkM_tkM {T : Nat → Nat} {z p p' : Nat} {I : zI} : tkI (tkM T z I p) (tkA T z p') (tkS T z p') (tkE T z p') = tkM T z I p' := tkI_tkI
abbrev vlP (T : Nat → Nat) (z p : Nat) : Nat := vlN T (tkA T z p) (tkE T z p - tkA T z p)
/-- the numbers of statement q: k more, i there, the TOKEN in hand from p on -/
def rdN (T : Nat → Nat) (z : Nat) (R : RS) (q : Nat) : Nat → Nat → Nat → (Nat → Nat) → Bool × Nat × Nat × (Nat → Nat)
  | 0, i, p, nm => (true, i, p, nm)
  | k + 1, i, p, nm => if tkS T z (tkE T z p) = 2 ∧ tkE T z (tkE T z p) - tkA T z (tkE T z p) ≤ 4 ∧ tkN R q i (vlP T z (tkE T z p)) then rdN T z R q k (i + 1) (tkE T z p) (fun j => if j = i then vlP T z (tkE T z p) else nm j) else (false, i, tkE T z p, nm)
theorem rdN_1 {T : Nat → Nat} {z : Nat} {R : RS} {q k i p : Nat} {nm : Nat → Nat} (h1 : tkS T z (tkE T z p) = 2) (h2 : tkE T z (tkE T z p) - tkA T z (tkE T z p) ≤ 4) (h3 : tkN R q i (vlP T z (tkE T z p))) : rdN T z R q (k + 1) i p nm = rdN T z R q k (i + 1) (tkE T z p) (fun j => if j = i then vlP T z (tkE T z p) else nm j) := if_pos ⟨h1, h2, h3⟩
theorem rdN_0 {T : Nat → Nat} {z : Nat} {R : RS} {q k i p : Nat} {nm : Nat → Nat} (h : ¬ (tkS T z (tkE T z p) = 2 ∧ tkE T z (tkE T z p) - tkA T z (tkE T z p) ≤ 4 ∧ tkN R q i (vlP T z (tkE T z p)))) : rdN T z R q (k + 1) i p nm = (false, i, tkE T z p, nm) := if_neg h
theorem rdN_z {T : Nat → Nat} {z : Nat} {R : RS} {q k i p : Nat} {nm : Nat → Nat} (hk : 0 < k) (h : ¬ (tkS T z (tkE T z p) = 2 ∧ tkE T z (tkE T z p) - tkA T z (tkE T z p) ≤ 4 ∧ tkN R q i (vlP T z (tkE T z p)))) : (false, i, tkE T z p, nm) = rdN T z R q k i p nm := by
  rw [show k = (k - 1) + 1 by omega, rdN_0 h]
abbrev rs0 : Nat → Nat := fun _ => 0
/-- the statement from p on: which, the TOKEN in hand then, how many numbers, the numbers -/
def rsN (T : Nat → Nat) (z : Nat) (R : RS) (p : Nat) : Option Nat × Nat × Nat × (Nat → Nat) :=
  if tkS T z p = 1 then
    match wstN T (tkA T z p) (tkE T z p) with
    | none => (none, p, 0, rs0)
    | some q => if rmP R q then (if (rdN T z R q (nbN q) 0 p rs0).1 = true then some q else none, (rdN T z R q (nbN q) 0 p rs0).2.2.1, (rdN T z R q (nbN q) 0 p rs0).2.1, (rdN T z R q (nbN q) 0 p rs0).2.2.2) else (none, p, 0, rs0)
  else (none, p, 0, rs0)
theorem rsN_n {T : Nat → Nat} {z : Nat} {R : RS} {p : Nat} (h : ¬ tkS T z p = 1) : rsN T z R p = (none, p, 0, rs0) := if_neg h
theorem rsN_w {T : Nat → Nat} {z : Nat} {R : RS} {p : Nat} (h : wstN T (tkA T z p) (tkE T z p) = none) : rsN T z R p = (none, p, 0, rs0) := by
  unfold rsN
  rw [h]
  split <;> rfl
theorem rsN_r {T : Nat → Nat} {z : Nat} {R : RS} {p q : Nat} (hw : wstN T (tkA T z p) (tkE T z p) = some q) (h : ¬ rmP R q) : rsN T z R p = (none, p, 0, rs0) := by
  unfold rsN
  rw [hw]
  dsimp only
  rw [if_neg h]
  split <;> rfl
theorem rsN_f {T : Nat → Nat} {z : Nat} {R : RS} {p q i p' : Nat} {nm : Nat → Nat} {ok : Bool} (hs : tkS T z p = 1) (hw : wstN T (tkA T z p) (tkE T z p) = some q) (hr : rmP R q) (h : (ok, i, p', nm) = rdN T z R q (nbN q) 0 p rs0) : rsN T z R p = (if ok = true then some q else none, p', i, nm) := by
  unfold rsN
  rw [if_pos hs, hw]
  dsimp only
  rw [if_pos hr, ← h]
def ryI (T : Nat → Nat) (z : Nat) (R : RS) (o : Option Nat × Nat × Nat × (Nat → Nat)) (I : zI) : zI := match o.1 with
  | none => tkM T z I o.2.1
  | some q => cyI 15 R q o.2.2.2 (tkM T z I o.2.1)
def ryX (R : RS) (o : Option Nat × Nat × Nat × (Nat → Nat)) (X : zI) : zI := match o.1 with
  | none => zrow 3 32 o.2.2.2 o.2.2.1 X
  | some q => cyX 15 R q o.2.2.2 (zrow 3 32 o.2.2.2 o.2.2.1 X)
theorem zrow_upd {b c i v : Nat} {f : Nat → Nat} {X : zI} : up3 (zrow b c f i X) b c i (nI v) = zrow b c (fun j => if j = i then v else f j) (i + 1) X := by
  funext b1 c1 j1
  unfold up3 zrow
  by_cases h1 : b1 = b ∧ c1 = c ∧ j1 = i
  · obtain ⟨rfl, rfl, rfl⟩ := h1
    rw [if_pos ⟨rfl, rfl, rfl⟩, if_pos ⟨rfl, rfl, Nat.lt_succ_self _⟩]
    dsimp only
    rw [if_pos rfl]
  · rw [if_neg h1]
    by_cases h2 : b1 = b ∧ c1 = c ∧ j1 < i
    · rw [if_pos h2, if_pos (by omega)]
      dsimp only
      rw [if_neg (by omega)]
    · rw [if_neg h2, if_neg (by omega)]
section
variable {ad : zA} {S : zSh} {I X : zI} {Y : zY} {sz : Nat} {T : Nat → Nat} {z : Nat} {R : RS}

theorem tkS_le {T : Nat → Nat} {z p : Nat} : tkS T z p ≤ 4 := by
  unfold tkS
  have := srt1_b (T (tkA T z p))
  split <;> omega
theorem c_X4_readStatement (hD : ∀ k, S 3 k = dsh k) (hT : zTp T z I X) (hm : zRm 15 R I X) (hR : ROK R) {p : Nat} (hp : p ≤ z) (hI : I = tkM T z I p) : zC0 mX4_readStatement 7 [zr 3 30, zr 3 15] (some (zi (zb ((rsN T z R p).1.isSome = true) inferInstance))) ad S I X Y sz (ryI T z R (rsN T z R p) I) (ryX R (rsN T z R p) X) Y := by
  refine zgo (own := RX4) (k := 2) (by decide +kernel) rfl rfl rfl (fun C hC hnm hE => ?_)
  have hz := hT.2.2.1
  have htk := tk_le (T := T) hp
  have h2 : I 3 30 2 = nI (tkS T z p) := by rw [hI]; exact tkI_2
  have h3 : I 3 30 3 = nI (tkA T z p) := by rw [hI]; exact tkI_3
  have h4 : I 3 30 4 = nI (tkE T z p) := by rw [hI]; exact tkI_4
  have hsb : tkS T z p ≤ 4 := tkS_le
  refine z_aload_n hC dX4_readStatement_0 rfl ?_
  refine z_getN hC dX4_readStatement_1 (hD _) zfX4_35 rfl h2 ?_
  refine z_iconst hC dX4_readStatement_4 (v := nI 1) rfl ?_
  refine z_nicmp_ne hC dX4_readStatement_5 (tgt := 15) (by decide) (by omega) (by omega) (fun c5 => ?_) (fun c5 => ?_)
  · skip
    refine z_iconst hC dX4_readStatement_15 (v := -1) rfl ?_
    skip
    · skip
      refine z_istore_n hC dX4_readStatement_16 (lo2 := [_, _, _, _]) (Nat.le_of_ble_eq_true rfl) rfl rfl ?_
      refine z_iload_n hC dX4_readStatement_17 rfl ?_
      refine z_iconst hC dX4_readStatement_18 (v := -1) rfl ?_
      refine z_icmp_eq hC dX4_readStatement_19 (tgt := 30) (by decide) (fun c19 => ?_) (fun c19 => ?_)
      rotate_left
      · exact absurd c19 (by decide)
      refine z_iconst hC dX4_readStatement_30 (v := nI 0) rfl ?_
      refine z_zret hC dX4_readStatement_31 rfl ?_
      exact hE.to (zbF (by rw [rsN_n c5]; exact Bool.false_ne_true)) (by rw [rsN_n c5]; exact hI.symm) (by rw [rsN_n c5]; exact zrow_0) rfl
  refine z_aload_n hC dX4_readStatement_8 rfl ?_
  refine zVv hC dX4_readStatement_9 zlX4_38 (c_X4_statementOf hD hT h3 h4 htk.2.1 htk.2.2.1) (hD _) rfl rfl rfl rfl rfl rfl ?_
  refine z_goto hC dX4_readStatement_12 (tgt := 16) (by decide) ?_
  rcases hw : wstN T (tkA T z p) (tkE T z p) with _ | q
  · skip
    show zL C 4 ad S 0 0 sz I X Y _ _ [zi (-1)]
    refine z_istore_n hC dX4_readStatement_16 (lo2 := [_, _, _, _]) (Nat.le_of_ble_eq_true rfl) rfl rfl ?_
    refine z_iload_n hC dX4_readStatement_17 rfl ?_
    refine z_iconst hC dX4_readStatement_18 (v := -1) rfl ?_
    refine z_icmp_eq hC dX4_readStatement_19 (tgt := 30) (by decide) (fun c19 => ?_) (fun c19 => ?_)
    rotate_left
    · exact absurd c19 (by decide)
    refine z_iconst hC dX4_readStatement_30 (v := nI 0) rfl ?_
    refine z_zret hC dX4_readStatement_31 rfl ?_
    exact hE.to (zbF (by rw [rsN_w hw]; exact Bool.false_ne_true)) (by rw [rsN_w hw]; exact hI.symm) (by rw [rsN_w hw]; exact zrow_0) rfl
  · skip
    have hq8 := wstN_lt hw
    show zL C 4 ad S 0 0 sz I X Y _ _ [zi (nI q)]
    refine z_istore_n hC dX4_readStatement_16 (lo2 := [_, _, _, _]) (Nat.le_of_ble_eq_true rfl) rfl rfl ?_
    refine z_iload_n hC dX4_readStatement_17 rfl ?_
    refine z_iconst hC dX4_readStatement_18 (v := -1) rfl ?_
    refine z_icmp_eq hC dX4_readStatement_19 (tgt := 30) (by decide) (fun c19 => ?_) (fun c19 => ?_)
    · exact absurd c19 (zne1 (by omega))
    refine z_aload_n hC dX4_readStatement_22 rfl ?_
    refine z_iload_n hC dX4_readStatement_23 rfl ?_
    refine zVv hC dX4_readStatement_24 zlX4_42 (c_X1_hasRoomFor (zRd_15 hD) hm hR hq8) (hD _) rfl rfl rfl rfl rfl rfl ?_
    refine z_ifb_ne hC dX4_readStatement_27 (tgt := 32) (by decide) (fun c27 => ?_) (fun c27 => ?_)
    · skip
      have hrm : rmP R q := c27
      refine z_iconst hC dX4_readStatement_32 (v := nI 0) rfl ?_
      refine z_istore_n hC dX4_readStatement_33 (lo2 := [_, _, _, _]) (Nat.le_of_ble_eq_true rfl) rfl rfl ?_
      have loop34 : ∀ (fuel : Nat) (i p1 : Nat) (nm : Nat → Nat), nbN q - i < fuel → i ≤ nbN q → p1 ≤ z → rdN T z R q (nbN q - i) i p1 nm = rdN T z R q (nbN q) 0 p rs0 → (∀ j, j < i → tkN R q j (nm j)) → zL C 4 ad S 0 0 sz (tkM T z I p1) (zrow 3 32 nm i X) Y 34 [some (zr 3 30), some (zr 3 15), some (zi (nI q)), some (zi (nI i))] [] := by
        intro fuel
        induction fuel with
        | zero => intro i p1 nm hfu; exact absurd hfu (Nat.not_lt_zero _)
        | succ fuel ih =>
          intro i p1 nm hfu hiq hp1 hrd hnm1
          have hTq : zTp T z (tkM T z I p1) (zrow 3 32 nm i X) := hT.frame (tkI_ne (by omega)) (fun j => zrow_ne (by omega))
          have htk1 := tk_le (T := T) hp1
          have htk2 := tk_le (T := T) htk1.2.2.1
          have hTs : zTp T z (tkM T z I (tkE T z p1)) (zrow 3 32 nm i X) := hT.frame (tkI_ne (by omega)) (fun j => zrow_ne (by omega))
          have hms : zRm 15 R (tkM T z I (tkE T z p1)) (zrow 3 32 nm i X) := hm.frame (fun k j _ _ => tkI_ne (by omega)) (fun k j _ _ => zrow_ne (by omega))
          have hmq : zRm 15 R (tkM T z I p1) (zrow 3 32 nm i X) := hm.frame (fun k j _ _ => tkI_ne (by omega)) (fun k j _ _ => zrow_ne (by omega))
          have hq2 : tkM T z I (tkE T z p1) 3 30 2 = nI (tkS T z (tkE T z p1)) := tkI_2
          have hq3 : tkM T z I (tkE T z p1) 3 30 3 = nI (tkA T z (tkE T z p1)) := tkI_3
          have hq4 : tkM T z I (tkE T z p1) 3 30 4 = nI (tkE T z (tkE T z p1)) := tkI_4
          have hsb1 : tkS T z (tkE T z p1) ≤ 4 := tkS_le
          refine z_iload_n hC dX4_readStatement_34 rfl ?_
          refine z_iload_n hC dX4_readStatement_35 rfl ?_
          refine zSv hC dX4_readStatement_36 zlX4_48 (c_X1_numbersOf hq8) rfl rfl rfl rfl ?_
          rw [(nbN_t q hq8).1]
          have hnb := nbN_t q hq8
          refine z_nicmp_ge hC dX4_readStatement_39 (tgt := 107) (by decide) (by omega) (by omega) (fun c39 => ?_) (fun c39 => ?_)
          · skip
            obtain rfl : i = nbN q := by omega
            rw [Nat.sub_self] at hrd
            have hrd := hrd
            change (true, nbN q, p1, nm) = _ at hrd
            refine z_aload_n hC dX4_readStatement_107 rfl ?_
            refine z_aload_n hC dX4_readStatement_108 rfl ?_
            refine z_iload_n hC dX4_readStatement_109 rfl ?_
            refine zV0 hC dX4_readStatement_110 zlX4_59 (c_X4_carryOut hD hmq hR hq8 hrm (fun j hj => zrow_get (by omega)) (fun j hj => hnm1 j (by omega))) (hD _) rfl rfl rfl rfl rfl rfl ?_
            refine z_iconst hC dX4_readStatement_113 (v := nI 1) rfl ?_
            refine z_zret hC dX4_readStatement_114 rfl ?_
            exact hE.to (zbT (by rw [rsN_f c5 hw hrm (ok := true) hrd]; rfl)) (by rw [rsN_f c5 hw hrm (ok := true) hrd]; rfl) (by rw [rsN_f c5 hw hrm (ok := true) hrd]; rfl) rfl
          refine z_iload_n hC dX4_readStatement_42 rfl ?_
          refine z_aload_n hC dX4_readStatement_43 rfl ?_
          refine z_getR hC dX4_readStatement_44 (hD _) zfX4_15 rfl ?_
          refine z_alen hC dX4_readStatement_47 (hD _) (v := nI _) rfl ?_
          refine z_nicmp_ge hC dX4_readStatement_48 (tgt := 107) (by decide) (by omega) (by omega) (fun c48 => ?_) (fun c48 => ?_)
          · exfalso; omega
          refine z_aload_n hC dX4_readStatement_51 rfl ?_
          refine zV0 hC dX4_readStatement_52 zlX4_25 (c_X4_step hD hTq (e0 := tkE T z p1) tkI_4 htk1.2.2.1) (hD _) rfl rfl rfl rfl rfl rfl ?_
          rw [tkM_tkM]
          refine z_aload_n hC dX4_readStatement_55 rfl ?_
          refine z_getN hC dX4_readStatement_56 (hD _) zfX4_35 rfl hq2 ?_
          refine z_iconst hC dX4_readStatement_59 (v := nI 2) rfl ?_
          refine z_nicmp_ne hC dX4_readStatement_60 (tgt := 89) (by decide) (by omega) (by omega) (fun c60 => ?_) (fun c60 => ?_)
          · skip
            skip
            · skip
              have hrd2 : (false, i, tkE T z p1, nm) = rdN T z R q (nbN q) 0 p rs0 := (rdN_z (by omega) (fun hh => by first | exact c60 hh.1 | (have := hh.2.1; omega) | exact c86 ((tkP_n (v := vlP T z (tkE T z p1)) hR hq8 (by omega) (Nat.lt_trans hvl (by decide))).mpr hh.2.2))).trans hrd
              refine z_iconst hC dX4_readStatement_89 (v := nI 0) rfl ?_
              refine z_zret hC dX4_readStatement_90 rfl ?_
              exact hE.to (zbF (by rw [rsN_f c5 hw hrm (ok := false) hrd2]; exact Bool.false_ne_true)) (by rw [rsN_f c5 hw hrm (ok := false) hrd2]; rfl) (by rw [rsN_f c5 hw hrm (ok := false) hrd2]; rfl) rfl
          have hs2 : tkS T z (tkE T z p1) = 2 := by omega
          refine z_aload_n hC dX4_readStatement_63 rfl ?_
          refine z_getN hC dX4_readStatement_64 (hD _) zfX4_22 rfl hq4 ?_
          refine z_aload_n hC dX4_readStatement_67 rfl ?_
          refine z_getN hC dX4_readStatement_68 (hD _) zfX4_32 rfl hq3 ?_
          refine z_nsub hC dX4_readStatement_71 (by omega) ?_
          refine z_iconst hC dX4_readStatement_72 (v := nI 4) rfl ?_
          refine z_nicmp_gt hC dX4_readStatement_73 (tgt := 89) (by decide) (by omega) (by omega) (fun c73 => ?_) (fun c73 => ?_)
          · skip
            skip
            · skip
              have hrd2 : (false, i, tkE T z p1, nm) = rdN T z R q (nbN q) 0 p rs0 := (rdN_z (by omega) (fun hh => by first | exact c60 hh.1 | (have := hh.2.1; omega) | exact c86 ((tkP_n (v := vlP T z (tkE T z p1)) hR hq8 (by omega) (Nat.lt_trans hvl (by decide))).mpr hh.2.2))).trans hrd
              refine z_iconst hC dX4_readStatement_89 (v := nI 0) rfl ?_
              refine z_zret hC dX4_readStatement_90 rfl ?_
              exact hE.to (zbF (by rw [rsN_f c5 hw hrm (ok := false) hrd2]; exact Bool.false_ne_true)) (by rw [rsN_f c5 hw hrm (ok := false) hrd2]; rfl) (by rw [rsN_f c5 hw hrm (ok := false) hrd2]; rfl) rfl
          have hd4 : tkE T z (tkE T z p1) - tkA T z (tkE T z p1) ≤ 4 := by omega
          have hvl : vlP T z (tkE T z p1) < 10000 := Nat.lt_of_lt_of_le (vlN_le (fun i hi => (htk2.2.2.2.2 (Or.inr hs2) _ (by omega) (by omega)).trans hs2)) (Nat.pow_le_pow_right (by decide) hd4)
          refine z_aload_n hC dX4_readStatement_76 rfl ?_
          refine z_iload_n hC dX4_readStatement_77 rfl ?_
          refine z_iload_n hC dX4_readStatement_78 rfl ?_
          refine z_aload_n hC dX4_readStatement_79 rfl ?_
          refine zVv hC dX4_readStatement_80 zlX4_52 (c_X4_valueOf hD hTs hq3 hq4 htk2.2.1 htk2.2.2.1 hd4 (fun i h1 h2 => (htk2.2.2.2.2 (Or.inr hs2) i h1 h2).trans hs2)) (hD _) rfl rfl rfl rfl rfl rfl ?_
          refine zVv hC dX4_readStatement_83 zlX4_55 (c_X1_takes (zRd_15 hD) hms hR hq8 (show i < 4 by omega)) (hD _) rfl rfl rfl rfl rfl rfl ?_
          refine z_ifb_ne hC dX4_readStatement_86 (tgt := 91) (by decide) (fun c86 => ?_) (fun c86 => ?_)
          · skip
            have htn : tkN R q i (vlP T z (tkE T z p1)) := (tkP_n hR hq8 (by omega) (Nat.lt_trans hvl (by decide))).mp c86
            refine z_aload_n hC dX4_readStatement_91 rfl ?_
            refine z_getR hC dX4_readStatement_92 (hD _) zfX4_15 rfl ?_
            refine z_iload_n hC dX4_readStatement_95 rfl ?_
            refine z_aload_n hC dX4_readStatement_96 rfl ?_
            refine zVv hC dX4_readStatement_97 zlX4_52 (c_X4_valueOf hD hTs hq3 hq4 htk2.2.1 htk2.2.2.1 hd4 (fun i h1 h2 => (htk2.2.2.2.2 (Or.inr hs2) i h1 h2).trans hs2)) (hD _) rfl rfl rfl rfl rfl rfl ?_
            refine z_niast hC dX4_readStatement_100 (hD _) (by omega) rfl ?_
            refine z_ninc hC dX4_readStatement_101 (lo2 := [_, _, _, _]) rfl rfl rfl rfl ?_
            refine z_goto hC dX4_readStatement_104 (tgt := 34) (by decide) ?_
            rw [zrow_upd]
            refine ih (i + 1) (tkE T z p1) _ (by omega) (by omega) htk1.2.2.1 ?_ ?_
            · rw [← hrd, show nbN q - i = (nbN q - (i + 1)) + 1 by omega]
              exact (rdN_1 hs2 hd4 htn).symm
            · intro j hj
              try dsimp only
              by_cases e : j = i
              · rw [if_pos e, e]; exact htn
              · rw [if_neg e]; exact hnm1 j (by omega)
          skip
          · skip
            have hrd2 : (false, i, tkE T z p1, nm) = rdN T z R q (nbN q) 0 p rs0 := (rdN_z (by omega) (fun hh => by first | exact c60 hh.1 | (have := hh.2.1; omega) | exact c86 ((tkP_n (v := vlP T z (tkE T z p1)) hR hq8 (by omega) (Nat.lt_trans hvl (by decide))).mpr hh.2.2))).trans hrd
            refine z_iconst hC dX4_readStatement_89 (v := nI 0) rfl ?_
            refine z_zret hC dX4_readStatement_90 rfl ?_
            exact hE.to (zbF (by rw [rsN_f c5 hw hrm (ok := false) hrd2]; exact Bool.false_ne_true)) (by rw [rsN_f c5 hw hrm (ok := false) hrd2]; rfl) (by rw [rsN_f c5 hw hrm (ok := false) hrd2]; rfl) rfl
      have h0 := loop34 _ 0 p rs0 (Nat.lt_succ_self _) (Nat.zero_le _) hp rfl (fun j hj => absurd hj (Nat.not_lt_zero _))
      rw [← hI, zrow_0] at h0
      exact h0
    refine z_iconst hC dX4_readStatement_30 (v := nI 0) rfl ?_
    refine z_zret hC dX4_readStatement_31 rfl ?_
    exact hE.to (zbF (by rw [rsN_r hw c27]; exact Bool.false_ne_true)) (by rw [rsN_r hw c27]; exact hI.symm) (by rw [rsN_r hw c27]; exact zrow_0) rfl

end
