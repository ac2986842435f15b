/-! the reference: copy, says, told rows -/
theorem oI_nn {o : Option Nat} (h : ¬ o = none) (hb : ∀ j, o = some j → j < 2 ^ 31) : ¬ oI o = -1 := by
  rcases o with _ | j
  · exact absurd rfl h
  · exact zne1 (hb j rfl)

section
variable {ad : zA} {S : zSh} {I X : zI} {Y : zY} {sz : Nat} {D : DS} {qe : Bool}

theorem w_copy_nn (hS : ∀ k, S 0 k = msh 0 k) (hO : DOK D) (hM : MMe qe D I X Y) {p q : Nat} {i j m : Int32} (hp : p < 8) (hq : q < 8) (ep : X 0 1 p = nI 0) (eq : X 0 1 q = nI 0)  : zC0 mX7_copy 6 [zr 0 0, zi (nI p), zi (nI q), zi i, zi j, zi m] (some (zi (-4))) ad S I X Y sz I (rmX 0 2 X) Y := by
  refine zgo (own := RX7) (k := 1) (by decide +kernel) rfl rfl rfl (fun C hC hnm hE => ?_)
  have hm := hM.1
  have hR := hO.1
  have hmo := hm
  have hn14 := hR.1
  have hn8 := hR.2.1
  have hn6 := hR.2.2.1
  refine z_iload_n hC dX7_copy_0 rfl ?_
  refine z_n2m hC dX7_copy_1 (by omega) ?_
  refine z_lconst hC dX7_copy_2 (v := lN 0) rfl ?_
  refine z_ldc2 hC dX7_copy_3 (v := lN 7) (zin5 (i := 110) rfl rfl) ?_
  refine wSv hC dX7_copy_6 zlX7_97 (c_X7_inN (by omega) (by omega) (by omega)) rfl rfl rfl rfl ⟨rfl, rfl⟩ ?_
  refine w_ifb_eq hC dX7_copy_9 (tgt := 24) (by decide) (fun c9 => ?_) (fun c9 => ?_)
  · exact absurd c9 (by omega)
  refine z_iload_n hC dX7_copy_12 rfl ?_
  refine z_n2m hC dX7_copy_13 (by omega) ?_
  refine z_lconst hC dX7_copy_14 (v := lN 0) rfl ?_
  refine z_ldc2 hC dX7_copy_15 (v := lN 7) (zin5 (i := 110) rfl rfl) ?_
  refine wSv hC dX7_copy_18 zlX7_97 (c_X7_inN (by omega) (by omega) (by omega)) rfl rfl rfl rfl ⟨rfl, rfl⟩ ?_
  refine w_ifb_ne hC dX7_copy_21 (tgt := 31) (by decide) (fun c21 => ?_) (fun c21 => ?_)
  rotate_left
  · exact absurd c21 (by omega)
  refine z_aload_n hC dX7_copy_31 rfl ?_
  refine z_getR hC dX7_copy_32 (hS _) zfX7_7 rfl ?_
  refine z_iload_n hC dX7_copy_35 rfl ?_
  refine z_naldN hC dX7_copy_36 (hS _) (by omega) rfl ep ?_
  refine z_iconst hC dX7_copy_37 (v := nI 2) rfl ?_
  refine z_nicmp_eq hC dX7_copy_38 (tgt := 86) (by decide) (by omega) (by omega) (fun c38 => ?_) (fun c38 => ?_)
  · exact absurd c38 (by omega)
  refine z_aload_n hC dX7_copy_41 rfl ?_
  refine z_getR hC dX7_copy_42 (hS _) zfX7_7 rfl ?_
  refine z_iload_n hC dX7_copy_45 rfl ?_
  refine z_naldN hC dX7_copy_46 (hS _) (by omega) rfl eq ?_
  refine z_iconst hC dX7_copy_47 (v := nI 2) rfl ?_
  refine z_nicmp_eq hC dX7_copy_48 (tgt := 86) (by decide) (by omega) (by omega) (fun c48 => ?_) (fun c48 => ?_)
  · exact absurd c48 (by omega)
  refine z_aload_n hC dX7_copy_51 rfl ?_
  refine z_getR hC dX7_copy_52 (hS _) zfX7_7 rfl ?_
  refine z_iload_n hC dX7_copy_55 rfl ?_
  refine z_naldN hC dX7_copy_56 (hS _) (by omega) rfl ep ?_
  refine z_iconst hC dX7_copy_57 (v := nI 1) rfl ?_
  refine z_nicmp_ne hC dX7_copy_58 (tgt := 93) (by decide) (by omega) (by omega) (fun c58 => ?_) (fun c58 => ?_)
  rotate_left
  · exact absurd c58 (by omega)
  refine z_aload_n hC dX7_copy_93 rfl ?_
  refine z_getR hC dX7_copy_94 (hS _) zfX7_7 rfl ?_
  refine z_iload_n hC dX7_copy_97 rfl ?_
  refine z_naldN hC dX7_copy_98 (hS _) (by omega) rfl ep ?_
  refine z_nif_eq hC dX7_copy_99 (tgt := 111) (by decide) (by omega) (fun c99 => ?_) (fun c99 => ?_)
  rotate_left
  · exact absurd c99 (by omega)
  refine z_aload_n hC dX7_copy_111 rfl ?_
  refine z_bipush hC dX7_copy_112 (v := -4) rfl ?_
  refine wVv hC dX7_copy_114 zlX7_107 (c_X7_refuse hS (j := 2) (by decide) (by decide)) (hS _) rfl rfl rfl rfl rfl rfl ⟨rfl, rfl⟩ ?_
  refine z_iret hC dX7_copy_117 ?_
  exact hE.to (by rfl) rfl rfl rfl

theorem w_copy_nr (hS : ∀ k, S 0 k = msh 0 k) (hO : DOK D) (hM : MMe qe D I X Y) {p q : Nat} {i j m : Int32} (hp : p < 8) (hq : q < 8) (ep : X 0 1 p = nI 0) {rq : Nat} (gq : rq ≤ 4) {nq : Nat} {elq : Nat → Int64} (eq : rwM q rq nq elq X Y)  : zC0 mX7_copy 6 [zr 0 0, zi (nI p), zi (nI q), zi i, zi j, zi m] (some (zi (-4))) ad S I X Y sz I (rmX 0 2 X) Y := by
  refine zgo (own := RX7) (k := 1) (by decide +kernel) rfl rfl rfl (fun C hC hnm hE => ?_)
  have hm := hM.1
  have hR := hO.1
  have hmo := hm
  have hn14 := hR.1
  have hn8 := hR.2.1
  have hn6 := hR.2.2.1
  refine z_iload_n hC dX7_copy_0 rfl ?_
  refine z_n2m hC dX7_copy_1 (by omega) ?_
  refine z_lconst hC dX7_copy_2 (v := lN 0) rfl ?_
  refine z_ldc2 hC dX7_copy_3 (v := lN 7) (zin5 (i := 110) rfl rfl) ?_
  refine wSv hC dX7_copy_6 zlX7_97 (c_X7_inN (by omega) (by omega) (by omega)) rfl rfl rfl rfl ⟨rfl, rfl⟩ ?_
  refine w_ifb_eq hC dX7_copy_9 (tgt := 24) (by decide) (fun c9 => ?_) (fun c9 => ?_)
  · exact absurd c9 (by omega)
  refine z_iload_n hC dX7_copy_12 rfl ?_
  refine z_n2m hC dX7_copy_13 (by omega) ?_
  refine z_lconst hC dX7_copy_14 (v := lN 0) rfl ?_
  refine z_ldc2 hC dX7_copy_15 (v := lN 7) (zin5 (i := 110) rfl rfl) ?_
  refine wSv hC dX7_copy_18 zlX7_97 (c_X7_inN (by omega) (by omega) (by omega)) rfl rfl rfl rfl ⟨rfl, rfl⟩ ?_
  refine w_ifb_ne hC dX7_copy_21 (tgt := 31) (by decide) (fun c21 => ?_) (fun c21 => ?_)
  rotate_left
  · exact absurd c21 (by omega)
  refine z_aload_n hC dX7_copy_31 rfl ?_
  refine z_getR hC dX7_copy_32 (hS _) zfX7_7 rfl ?_
  refine z_iload_n hC dX7_copy_35 rfl ?_
  refine z_naldN hC dX7_copy_36 (hS _) (by omega) rfl ep ?_
  refine z_iconst hC dX7_copy_37 (v := nI 2) rfl ?_
  refine z_nicmp_eq hC dX7_copy_38 (tgt := 86) (by decide) (by omega) (by omega) (fun c38 => ?_) (fun c38 => ?_)
  · exact absurd c38 (by omega)
  refine z_aload_n hC dX7_copy_41 rfl ?_
  refine z_getR hC dX7_copy_42 (hS _) zfX7_7 rfl ?_
  refine z_iload_n hC dX7_copy_45 rfl ?_
  refine z_naldN hC dX7_copy_46 (hS _) (by omega) rfl eq.1 ?_
  refine z_iconst hC dX7_copy_47 (v := nI 2) rfl ?_
  refine z_nicmp_eq hC dX7_copy_48 (tgt := 86) (by decide) (by omega) (by omega) (fun c48 => ?_) (fun c48 => ?_)
  · exact absurd c48 (by omega)
  refine z_aload_n hC dX7_copy_51 rfl ?_
  refine z_getR hC dX7_copy_52 (hS _) zfX7_7 rfl ?_
  refine z_iload_n hC dX7_copy_55 rfl ?_
  refine z_naldN hC dX7_copy_56 (hS _) (by omega) rfl ep ?_
  refine z_iconst hC dX7_copy_57 (v := nI 1) rfl ?_
  refine z_nicmp_ne hC dX7_copy_58 (tgt := 93) (by decide) (by omega) (by omega) (fun c58 => ?_) (fun c58 => ?_)
  rotate_left
  · exact absurd c58 (by omega)
  refine z_aload_n hC dX7_copy_93 rfl ?_
  refine z_getR hC dX7_copy_94 (hS _) zfX7_7 rfl ?_
  refine z_iload_n hC dX7_copy_97 rfl ?_
  refine z_naldN hC dX7_copy_98 (hS _) (by omega) rfl ep ?_
  refine z_nif_eq hC dX7_copy_99 (tgt := 111) (by decide) (by omega) (fun c99 => ?_) (fun c99 => ?_)
  rotate_left
  · exact absurd c99 (by omega)
  refine z_aload_n hC dX7_copy_111 rfl ?_
  refine z_bipush hC dX7_copy_112 (v := -4) rfl ?_
  refine wVv hC dX7_copy_114 zlX7_107 (c_X7_refuse hS (j := 2) (by decide) (by decide)) (hS _) rfl rfl rfl rfl rfl rfl ⟨rfl, rfl⟩ ?_
  refine z_iret hC dX7_copy_117 ?_
  exact hE.to (by rfl) rfl rfl rfl

theorem w_copy_nb (hS : ∀ k, S 0 k = msh 0 k) (hO : DOK D) (hM : MMe qe D I X Y) {p q : Nat} {i j m : Int32} (hp : p < 8) (hq : q < 8) (ep : X 0 1 p = nI 0) {rq : Nat} (gq : rq < 14) (eq : shwM q rq X)  : zC0 mX7_copy 6 [zr 0 0, zi (nI p), zi (nI q), zi i, zi j, zi m] (some (zi (-3))) ad S I X Y sz I (rmX 0 1 X) Y := by
  refine zgo (own := RX7) (k := 1) (by decide +kernel) rfl rfl rfl (fun C hC hnm hE => ?_)
  have hm := hM.1
  have hR := hO.1
  have hmo := hm
  have hn14 := hR.1
  have hn8 := hR.2.1
  have hn6 := hR.2.2.1
  refine z_iload_n hC dX7_copy_0 rfl ?_
  refine z_n2m hC dX7_copy_1 (by omega) ?_
  refine z_lconst hC dX7_copy_2 (v := lN 0) rfl ?_
  refine z_ldc2 hC dX7_copy_3 (v := lN 7) (zin5 (i := 110) rfl rfl) ?_
  refine wSv hC dX7_copy_6 zlX7_97 (c_X7_inN (by omega) (by omega) (by omega)) rfl rfl rfl rfl ⟨rfl, rfl⟩ ?_
  refine w_ifb_eq hC dX7_copy_9 (tgt := 24) (by decide) (fun c9 => ?_) (fun c9 => ?_)
  · exact absurd c9 (by omega)
  refine z_iload_n hC dX7_copy_12 rfl ?_
  refine z_n2m hC dX7_copy_13 (by omega) ?_
  refine z_lconst hC dX7_copy_14 (v := lN 0) rfl ?_
  refine z_ldc2 hC dX7_copy_15 (v := lN 7) (zin5 (i := 110) rfl rfl) ?_
  refine wSv hC dX7_copy_18 zlX7_97 (c_X7_inN (by omega) (by omega) (by omega)) rfl rfl rfl rfl ⟨rfl, rfl⟩ ?_
  refine w_ifb_ne hC dX7_copy_21 (tgt := 31) (by decide) (fun c21 => ?_) (fun c21 => ?_)
  rotate_left
  · exact absurd c21 (by omega)
  refine z_aload_n hC dX7_copy_31 rfl ?_
  refine z_getR hC dX7_copy_32 (hS _) zfX7_7 rfl ?_
  refine z_iload_n hC dX7_copy_35 rfl ?_
  refine z_naldN hC dX7_copy_36 (hS _) (by omega) rfl ep ?_
  refine z_iconst hC dX7_copy_37 (v := nI 2) rfl ?_
  refine z_nicmp_eq hC dX7_copy_38 (tgt := 86) (by decide) (by omega) (by omega) (fun c38 => ?_) (fun c38 => ?_)
  · exact absurd c38 (by omega)
  refine z_aload_n hC dX7_copy_41 rfl ?_
  refine z_getR hC dX7_copy_42 (hS _) zfX7_7 rfl ?_
  refine z_iload_n hC dX7_copy_45 rfl ?_
  refine z_naldN hC dX7_copy_46 (hS _) (by omega) rfl eq.1 ?_
  refine z_iconst hC dX7_copy_47 (v := nI 2) rfl ?_
  refine z_nicmp_eq hC dX7_copy_48 (tgt := 86) (by decide) (by omega) (by omega) (fun c48 => ?_) (fun c48 => ?_)
  rotate_left
  · exact absurd c48 (by omega)
  refine z_aload_n hC dX7_copy_86 rfl ?_
  refine z_bipush hC dX7_copy_87 (v := -3) rfl ?_
  refine wVv hC dX7_copy_89 zlX7_107 (c_X7_refuse hS (j := 1) (by decide) (by decide)) (hS _) rfl rfl rfl rfl rfl rfl ⟨rfl, rfl⟩ ?_
  refine z_iret hC dX7_copy_92 ?_
  exact hE.to (by rfl) rfl rfl rfl

theorem w_copy_rn (hS : ∀ k, S 0 k = msh 0 k) (hO : DOK D) (hM : MMe qe D I X Y) {p q : Nat} {i j m : Int32} (hp : p < 8) (hq : q < 8) {rp : Nat} (gp : rp ≤ 4) {np : Nat} {elp : Nat → Int64} (ep : rwM p rp np elp X Y) (eq : X 0 1 q = nI 0)  : zC0 mX7_copy 6 [zr 0 0, zi (nI p), zi (nI q), zi i, zi j, zi m] (some (zi (-4))) ad S I X Y sz I (rmX 0 2 X) Y := by
  refine zgo (own := RX7) (k := 1) (by decide +kernel) rfl rfl rfl (fun C hC hnm hE => ?_)
  have hm := hM.1
  have hR := hO.1
  have hmo := hm
  have hn14 := hR.1
  have hn8 := hR.2.1
  have hn6 := hR.2.2.1
  refine z_iload_n hC dX7_copy_0 rfl ?_
  refine z_n2m hC dX7_copy_1 (by omega) ?_
  refine z_lconst hC dX7_copy_2 (v := lN 0) rfl ?_
  refine z_ldc2 hC dX7_copy_3 (v := lN 7) (zin5 (i := 110) rfl rfl) ?_
  refine wSv hC dX7_copy_6 zlX7_97 (c_X7_inN (by omega) (by omega) (by omega)) rfl rfl rfl rfl ⟨rfl, rfl⟩ ?_
  refine w_ifb_eq hC dX7_copy_9 (tgt := 24) (by decide) (fun c9 => ?_) (fun c9 => ?_)
  · exact absurd c9 (by omega)
  refine z_iload_n hC dX7_copy_12 rfl ?_
  refine z_n2m hC dX7_copy_13 (by omega) ?_
  refine z_lconst hC dX7_copy_14 (v := lN 0) rfl ?_
  refine z_ldc2 hC dX7_copy_15 (v := lN 7) (zin5 (i := 110) rfl rfl) ?_
  refine wSv hC dX7_copy_18 zlX7_97 (c_X7_inN (by omega) (by omega) (by omega)) rfl rfl rfl rfl ⟨rfl, rfl⟩ ?_
  refine w_ifb_ne hC dX7_copy_21 (tgt := 31) (by decide) (fun c21 => ?_) (fun c21 => ?_)
  rotate_left
  · exact absurd c21 (by omega)
  refine z_aload_n hC dX7_copy_31 rfl ?_
  refine z_getR hC dX7_copy_32 (hS _) zfX7_7 rfl ?_
  refine z_iload_n hC dX7_copy_35 rfl ?_
  refine z_naldN hC dX7_copy_36 (hS _) (by omega) rfl ep.1 ?_
  refine z_iconst hC dX7_copy_37 (v := nI 2) rfl ?_
  refine z_nicmp_eq hC dX7_copy_38 (tgt := 86) (by decide) (by omega) (by omega) (fun c38 => ?_) (fun c38 => ?_)
  · exact absurd c38 (by omega)
  refine z_aload_n hC dX7_copy_41 rfl ?_
  refine z_getR hC dX7_copy_42 (hS _) zfX7_7 rfl ?_
  refine z_iload_n hC dX7_copy_45 rfl ?_
  refine z_naldN hC dX7_copy_46 (hS _) (by omega) rfl eq ?_
  refine z_iconst hC dX7_copy_47 (v := nI 2) rfl ?_
  refine z_nicmp_eq hC dX7_copy_48 (tgt := 86) (by decide) (by omega) (by omega) (fun c48 => ?_) (fun c48 => ?_)
  · exact absurd c48 (by omega)
  refine z_aload_n hC dX7_copy_51 rfl ?_
  refine z_getR hC dX7_copy_52 (hS _) zfX7_7 rfl ?_
  refine z_iload_n hC dX7_copy_55 rfl ?_
  refine z_naldN hC dX7_copy_56 (hS _) (by omega) rfl ep.1 ?_
  refine z_iconst hC dX7_copy_57 (v := nI 1) rfl ?_
  refine z_nicmp_ne hC dX7_copy_58 (tgt := 93) (by decide) (by omega) (by omega) (fun c58 => ?_) (fun c58 => ?_)
  · exact absurd c58 (by omega)
  refine z_aload_n hC dX7_copy_61 rfl ?_
  refine z_getR hC dX7_copy_62 (hS _) zfX7_7 rfl ?_
  refine z_iload_n hC dX7_copy_65 rfl ?_
  refine z_naldN hC dX7_copy_66 (hS _) (by omega) rfl eq ?_
  refine z_iconst hC dX7_copy_67 (v := nI 1) rfl ?_
  refine z_nicmp_ne hC dX7_copy_68 (tgt := 93) (by decide) (by omega) (by omega) (fun c68 => ?_) (fun c68 => ?_)
  rotate_left
  · exact absurd c68 (by omega)
  refine z_aload_n hC dX7_copy_93 rfl ?_
  refine z_getR hC dX7_copy_94 (hS _) zfX7_7 rfl ?_
  refine z_iload_n hC dX7_copy_97 rfl ?_
  refine z_naldN hC dX7_copy_98 (hS _) (by omega) rfl ep.1 ?_
  refine z_nif_eq hC dX7_copy_99 (tgt := 111) (by decide) (by omega) (fun c99 => ?_) (fun c99 => ?_)
  · exact absurd c99 (by omega)
  refine z_aload_n hC dX7_copy_102 rfl ?_
  refine z_getR hC dX7_copy_103 (hS _) zfX7_7 rfl ?_
  refine z_iload_n hC dX7_copy_106 rfl ?_
  refine z_naldN hC dX7_copy_107 (hS _) (by omega) rfl eq ?_
  refine z_nif_ne hC dX7_copy_108 (tgt := 118) (by decide) (by omega) (fun c108 => ?_) (fun c108 => ?_)
  · exact absurd c108 (by omega)
  refine z_aload_n hC dX7_copy_111 rfl ?_
  refine z_bipush hC dX7_copy_112 (v := -4) rfl ?_
  refine wVv hC dX7_copy_114 zlX7_107 (c_X7_refuse hS (j := 2) (by decide) (by decide)) (hS _) rfl rfl rfl rfl rfl rfl ⟨rfl, rfl⟩ ?_
  refine z_iret hC dX7_copy_117 ?_
  exact hE.to (by rfl) rfl rfl rfl

theorem w_copy_rb (hS : ∀ k, S 0 k = msh 0 k) (hO : DOK D) (hM : MMe qe D I X Y) {p q : Nat} {i j m : Int32} (hp : p < 8) (hq : q < 8) {rp : Nat} (gp : rp ≤ 4) {np : Nat} {elp : Nat → Int64} (ep : rwM p rp np elp X Y) {rq : Nat} (gq : rq < 14) (eq : shwM q rq X)  : zC0 mX7_copy 6 [zr 0 0, zi (nI p), zi (nI q), zi i, zi j, zi m] (some (zi (-3))) ad S I X Y sz I (rmX 0 1 X) Y := by
  refine zgo (own := RX7) (k := 1) (by decide +kernel) rfl rfl rfl (fun C hC hnm hE => ?_)
  have hm := hM.1
  have hR := hO.1
  have hmo := hm
  have hn14 := hR.1
  have hn8 := hR.2.1
  have hn6 := hR.2.2.1
  refine z_iload_n hC dX7_copy_0 rfl ?_
  refine z_n2m hC dX7_copy_1 (by omega) ?_
  refine z_lconst hC dX7_copy_2 (v := lN 0) rfl ?_
  refine z_ldc2 hC dX7_copy_3 (v := lN 7) (zin5 (i := 110) rfl rfl) ?_
  refine wSv hC dX7_copy_6 zlX7_97 (c_X7_inN (by omega) (by omega) (by omega)) rfl rfl rfl rfl ⟨rfl, rfl⟩ ?_
  refine w_ifb_eq hC dX7_copy_9 (tgt := 24) (by decide) (fun c9 => ?_) (fun c9 => ?_)
  · exact absurd c9 (by omega)
  refine z_iload_n hC dX7_copy_12 rfl ?_
  refine z_n2m hC dX7_copy_13 (by omega) ?_
  refine z_lconst hC dX7_copy_14 (v := lN 0) rfl ?_
  refine z_ldc2 hC dX7_copy_15 (v := lN 7) (zin5 (i := 110) rfl rfl) ?_
  refine wSv hC dX7_copy_18 zlX7_97 (c_X7_inN (by omega) (by omega) (by omega)) rfl rfl rfl rfl ⟨rfl, rfl⟩ ?_
  refine w_ifb_ne hC dX7_copy_21 (tgt := 31) (by decide) (fun c21 => ?_) (fun c21 => ?_)
  rotate_left
  · exact absurd c21 (by omega)
  refine z_aload_n hC dX7_copy_31 rfl ?_
  refine z_getR hC dX7_copy_32 (hS _) zfX7_7 rfl ?_
  refine z_iload_n hC dX7_copy_35 rfl ?_
  refine z_naldN hC dX7_copy_36 (hS _) (by omega) rfl ep.1 ?_
  refine z_iconst hC dX7_copy_37 (v := nI 2) rfl ?_
  refine z_nicmp_eq hC dX7_copy_38 (tgt := 86) (by decide) (by omega) (by omega) (fun c38 => ?_) (fun c38 => ?_)
  · exact absurd c38 (by omega)
  refine z_aload_n hC dX7_copy_41 rfl ?_
  refine z_getR hC dX7_copy_42 (hS _) zfX7_7 rfl ?_
  refine z_iload_n hC dX7_copy_45 rfl ?_
  refine z_naldN hC dX7_copy_46 (hS _) (by omega) rfl eq.1 ?_
  refine z_iconst hC dX7_copy_47 (v := nI 2) rfl ?_
  refine z_nicmp_eq hC dX7_copy_48 (tgt := 86) (by decide) (by omega) (by omega) (fun c48 => ?_) (fun c48 => ?_)
  rotate_left
  · exact absurd c48 (by omega)
  refine z_aload_n hC dX7_copy_86 rfl ?_
  refine z_bipush hC dX7_copy_87 (v := -3) rfl ?_
  refine wVv hC dX7_copy_89 zlX7_107 (c_X7_refuse hS (j := 1) (by decide) (by decide)) (hS _) rfl rfl rfl rfl rfl rfl ⟨rfl, rfl⟩ ?_
  refine z_iret hC dX7_copy_92 ?_
  exact hE.to (by rfl) rfl rfl rfl

theorem w_copy_bx (hS : ∀ k, S 0 k = msh 0 k) (hO : DOK D) (hM : MMe qe D I X Y) {p q : Nat} {i j m : Int32} (hp : p < 8) (hq : q < 8) {rp : Nat} (gp : rp < 14) (ep : shwM p rp X)  : zC0 mX7_copy 6 [zr 0 0, zi (nI p), zi (nI q), zi i, zi j, zi m] (some (zi (-3))) ad S I X Y sz I (rmX 0 1 X) Y := by
  refine zgo (own := RX7) (k := 1) (by decide +kernel) rfl rfl rfl (fun C hC hnm hE => ?_)
  have hm := hM.1
  have hR := hO.1
  have hmo := hm
  have hn14 := hR.1
  have hn8 := hR.2.1
  have hn6 := hR.2.2.1
  refine z_iload_n hC dX7_copy_0 rfl ?_
  refine z_n2m hC dX7_copy_1 (by omega) ?_
  refine z_lconst hC dX7_copy_2 (v := lN 0) rfl ?_
  refine z_ldc2 hC dX7_copy_3 (v := lN 7) (zin5 (i := 110) rfl rfl) ?_
  refine wSv hC dX7_copy_6 zlX7_97 (c_X7_inN (by omega) (by omega) (by omega)) rfl rfl rfl rfl ⟨rfl, rfl⟩ ?_
  refine w_ifb_eq hC dX7_copy_9 (tgt := 24) (by decide) (fun c9 => ?_) (fun c9 => ?_)
  · exact absurd c9 (by omega)
  refine z_iload_n hC dX7_copy_12 rfl ?_
  refine z_n2m hC dX7_copy_13 (by omega) ?_
  refine z_lconst hC dX7_copy_14 (v := lN 0) rfl ?_
  refine z_ldc2 hC dX7_copy_15 (v := lN 7) (zin5 (i := 110) rfl rfl) ?_
  refine wSv hC dX7_copy_18 zlX7_97 (c_X7_inN (by omega) (by omega) (by omega)) rfl rfl rfl rfl ⟨rfl, rfl⟩ ?_
  refine w_ifb_ne hC dX7_copy_21 (tgt := 31) (by decide) (fun c21 => ?_) (fun c21 => ?_)
  rotate_left
  · exact absurd c21 (by omega)
  refine z_aload_n hC dX7_copy_31 rfl ?_
  refine z_getR hC dX7_copy_32 (hS _) zfX7_7 rfl ?_
  refine z_iload_n hC dX7_copy_35 rfl ?_
  refine z_naldN hC dX7_copy_36 (hS _) (by omega) rfl ep.1 ?_
  refine z_iconst hC dX7_copy_37 (v := nI 2) rfl ?_
  refine z_nicmp_eq hC dX7_copy_38 (tgt := 86) (by decide) (by omega) (by omega) (fun c38 => ?_) (fun c38 => ?_)
  rotate_left
  · exact absurd c38 (by omega)
  refine z_aload_n hC dX7_copy_86 rfl ?_
  refine z_bipush hC dX7_copy_87 (v := -3) rfl ?_
  refine wVv hC dX7_copy_89 zlX7_107 (c_X7_refuse hS (j := 1) (by decide) (by decide)) (hS _) rfl rfl rfl rfl rfl rfl ⟨rfl, rfl⟩ ?_
  refine z_iret hC dX7_copy_92 ?_
  exact hE.to (by rfl) rfl rfl rfl

theorem w_copy_rd (hS : ∀ k, S 0 k = msh 0 k) (hO : DOK D) (hM : MMe qe D I X Y) {p q : Nat} {i j m : Int32} (hp : p < 8) (hq : q < 8) {rp : Nat} (gp : rp ≤ 4) {np : Nat} {elp : Nat → Int64} (ep : rwM p rp np elp X Y) {rq : Nat} (gq : rq ≤ 4) {nq : Nat} {elq : Nat → Int64} (eq : rwM q rq nq elq X Y) (hd : ¬ rp = rq) : zC0 mX7_copy 6 [zr 0 0, zi (nI p), zi (nI q), zi i, zi j, zi m] (some (zi (-3))) ad S I X Y sz I (rmX 0 1 X) Y := by
  refine zgo (own := RX7) (k := 1) (by decide +kernel) rfl rfl rfl (fun C hC hnm hE => ?_)
  have hm := hM.1
  have hR := hO.1
  have hmo := hm
  have hn14 := hR.1
  have hn8 := hR.2.1
  have hn6 := hR.2.2.1
  refine z_iload_n hC dX7_copy_0 rfl ?_
  refine z_n2m hC dX7_copy_1 (by omega) ?_
  refine z_lconst hC dX7_copy_2 (v := lN 0) rfl ?_
  refine z_ldc2 hC dX7_copy_3 (v := lN 7) (zin5 (i := 110) rfl rfl) ?_
  refine wSv hC dX7_copy_6 zlX7_97 (c_X7_inN (by omega) (by omega) (by omega)) rfl rfl rfl rfl ⟨rfl, rfl⟩ ?_
  refine w_ifb_eq hC dX7_copy_9 (tgt := 24) (by decide) (fun c9 => ?_) (fun c9 => ?_)
  · exact absurd c9 (by omega)
  refine z_iload_n hC dX7_copy_12 rfl ?_
  refine z_n2m hC dX7_copy_13 (by omega) ?_
  refine z_lconst hC dX7_copy_14 (v := lN 0) rfl ?_
  refine z_ldc2 hC dX7_copy_15 (v := lN 7) (zin5 (i := 110) rfl rfl) ?_
  refine wSv hC dX7_copy_18 zlX7_97 (c_X7_inN (by omega) (by omega) (by omega)) rfl rfl rfl rfl ⟨rfl, rfl⟩ ?_
  refine w_ifb_ne hC dX7_copy_21 (tgt := 31) (by decide) (fun c21 => ?_) (fun c21 => ?_)
  rotate_left
  · exact absurd c21 (by omega)
  refine z_aload_n hC dX7_copy_31 rfl ?_
  refine z_getR hC dX7_copy_32 (hS _) zfX7_7 rfl ?_
  refine z_iload_n hC dX7_copy_35 rfl ?_
  refine z_naldN hC dX7_copy_36 (hS _) (by omega) rfl ep.1 ?_
  refine z_iconst hC dX7_copy_37 (v := nI 2) rfl ?_
  refine z_nicmp_eq hC dX7_copy_38 (tgt := 86) (by decide) (by omega) (by omega) (fun c38 => ?_) (fun c38 => ?_)
  · exact absurd c38 (by omega)
  refine z_aload_n hC dX7_copy_41 rfl ?_
  refine z_getR hC dX7_copy_42 (hS _) zfX7_7 rfl ?_
  refine z_iload_n hC dX7_copy_45 rfl ?_
  refine z_naldN hC dX7_copy_46 (hS _) (by omega) rfl eq.1 ?_
  refine z_iconst hC dX7_copy_47 (v := nI 2) rfl ?_
  refine z_nicmp_eq hC dX7_copy_48 (tgt := 86) (by decide) (by omega) (by omega) (fun c48 => ?_) (fun c48 => ?_)
  · exact absurd c48 (by omega)
  refine z_aload_n hC dX7_copy_51 rfl ?_
  refine z_getR hC dX7_copy_52 (hS _) zfX7_7 rfl ?_
  refine z_iload_n hC dX7_copy_55 rfl ?_
  refine z_naldN hC dX7_copy_56 (hS _) (by omega) rfl ep.1 ?_
  refine z_iconst hC dX7_copy_57 (v := nI 1) rfl ?_
  refine z_nicmp_ne hC dX7_copy_58 (tgt := 93) (by decide) (by omega) (by omega) (fun c58 => ?_) (fun c58 => ?_)
  · exact absurd c58 (by omega)
  refine z_aload_n hC dX7_copy_61 rfl ?_
  refine z_getR hC dX7_copy_62 (hS _) zfX7_7 rfl ?_
  refine z_iload_n hC dX7_copy_65 rfl ?_
  refine z_naldN hC dX7_copy_66 (hS _) (by omega) rfl eq.1 ?_
  refine z_iconst hC dX7_copy_67 (v := nI 1) rfl ?_
  refine z_nicmp_ne hC dX7_copy_68 (tgt := 93) (by decide) (by omega) (by omega) (fun c68 => ?_) (fun c68 => ?_)
  · exact absurd c68 (by omega)
  refine z_aload_n hC dX7_copy_71 rfl ?_
  refine z_getR hC dX7_copy_72 (hS _) zfX7_13 rfl ?_
  refine z_iload_n hC dX7_copy_75 rfl ?_
  refine z_naldN hC dX7_copy_76 (hS _) (by omega) rfl ep.2.1 ?_
  refine z_aload_n hC dX7_copy_77 rfl ?_
  refine z_getR hC dX7_copy_78 (hS _) zfX7_13 rfl ?_
  refine z_iload_n hC dX7_copy_81 rfl ?_
  refine z_naldN hC dX7_copy_82 (hS _) (by omega) rfl eq.2.1 ?_
  refine z_nicmp_eq hC dX7_copy_83 (tgt := 93) (by decide) (by omega) (by omega) (fun c83 => ?_) (fun c83 => ?_)
  · exact absurd c83 (by omega)
  refine z_aload_n hC dX7_copy_86 rfl ?_
  refine z_bipush hC dX7_copy_87 (v := -3) rfl ?_
  refine wVv hC dX7_copy_89 zlX7_107 (c_X7_refuse hS (j := 1) (by decide) (by decide)) (hS _) rfl rfl rfl rfl rfl rfl ⟨rfl, rfl⟩ ?_
  refine z_iret hC dX7_copy_92 ?_
  exact hE.to (by rfl) rfl rfl rfl

theorem w_copy_rx (hS : ∀ k, S 0 k = msh 0 k) (hO : DOK D) (hM : MMe qe D I X Y) {p q : Nat} {i j m : Int32} (hp : p < 8) (hq : q < 8) {rp : Nat} (gp : rp ≤ 4) {np : Nat} {elp : Nat → Int64} (ep : rwM p rp np elp X Y) {rq : Nat} (gq : rq ≤ 4) {nq : Nat} {elq : Nat → Int64} (eq : rwM q rq nq elq X Y) (hd : rp = rq) (kp40 : np ≤ 40) (kq40 : nq ≤ 40) (hx : ¬ ((inB i (np + 1) ∧ inB m (np + 1 - nn i)) ∧ inB j (nq + 1) ∧ inB m (nq + 1 - nn j))) : zC0 mX7_copy 6 [zr 0 0, zi (nI p), zi (nI q), zi i, zi j, zi m] (some (zi (-2))) ad S I X Y sz I (rmX 0 0 X) Y := by
  refine zgo (own := RX7) (k := 1) (by decide +kernel) rfl rfl rfl (fun C hC hnm hE => ?_)
  have hm := hM.1
  have hR := hO.1
  have hmo := hm
  have hn14 := hR.1
  have hn8 := hR.2.1
  have hn6 := hR.2.2.1
  refine z_iload_n hC dX7_copy_0 rfl ?_
  refine z_n2m hC dX7_copy_1 (by omega) ?_
  refine z_lconst hC dX7_copy_2 (v := lN 0) rfl ?_
  refine z_ldc2 hC dX7_copy_3 (v := lN 7) (zin5 (i := 110) rfl rfl) ?_
  refine wSv hC dX7_copy_6 zlX7_97 (c_X7_inN (by omega) (by omega) (by omega)) rfl rfl rfl rfl ⟨rfl, rfl⟩ ?_
  refine w_ifb_eq hC dX7_copy_9 (tgt := 24) (by decide) (fun c9 => ?_) (fun c9 => ?_)
  · exact absurd c9 (by omega)
  refine z_iload_n hC dX7_copy_12 rfl ?_
  refine z_n2m hC dX7_copy_13 (by omega) ?_
  refine z_lconst hC dX7_copy_14 (v := lN 0) rfl ?_
  refine z_ldc2 hC dX7_copy_15 (v := lN 7) (zin5 (i := 110) rfl rfl) ?_
  refine wSv hC dX7_copy_18 zlX7_97 (c_X7_inN (by omega) (by omega) (by omega)) rfl rfl rfl rfl ⟨rfl, rfl⟩ ?_
  refine w_ifb_ne hC dX7_copy_21 (tgt := 31) (by decide) (fun c21 => ?_) (fun c21 => ?_)
  rotate_left
  · exact absurd c21 (by omega)
  refine z_aload_n hC dX7_copy_31 rfl ?_
  refine z_getR hC dX7_copy_32 (hS _) zfX7_7 rfl ?_
  refine z_iload_n hC dX7_copy_35 rfl ?_
  refine z_naldN hC dX7_copy_36 (hS _) (by omega) rfl ep.1 ?_
  refine z_iconst hC dX7_copy_37 (v := nI 2) rfl ?_
  refine z_nicmp_eq hC dX7_copy_38 (tgt := 86) (by decide) (by omega) (by omega) (fun c38 => ?_) (fun c38 => ?_)
  · exact absurd c38 (by omega)
  refine z_aload_n hC dX7_copy_41 rfl ?_
  refine z_getR hC dX7_copy_42 (hS _) zfX7_7 rfl ?_
  refine z_iload_n hC dX7_copy_45 rfl ?_
  refine z_naldN hC dX7_copy_46 (hS _) (by omega) rfl eq.1 ?_
  refine z_iconst hC dX7_copy_47 (v := nI 2) rfl ?_
  refine z_nicmp_eq hC dX7_copy_48 (tgt := 86) (by decide) (by omega) (by omega) (fun c48 => ?_) (fun c48 => ?_)
  · exact absurd c48 (by omega)
  refine z_aload_n hC dX7_copy_51 rfl ?_
  refine z_getR hC dX7_copy_52 (hS _) zfX7_7 rfl ?_
  refine z_iload_n hC dX7_copy_55 rfl ?_
  refine z_naldN hC dX7_copy_56 (hS _) (by omega) rfl ep.1 ?_
  refine z_iconst hC dX7_copy_57 (v := nI 1) rfl ?_
  refine z_nicmp_ne hC dX7_copy_58 (tgt := 93) (by decide) (by omega) (by omega) (fun c58 => ?_) (fun c58 => ?_)
  · exact absurd c58 (by omega)
  refine z_aload_n hC dX7_copy_61 rfl ?_
  refine z_getR hC dX7_copy_62 (hS _) zfX7_7 rfl ?_
  refine z_iload_n hC dX7_copy_65 rfl ?_
  refine z_naldN hC dX7_copy_66 (hS _) (by omega) rfl eq.1 ?_
  refine z_iconst hC dX7_copy_67 (v := nI 1) rfl ?_
  refine z_nicmp_ne hC dX7_copy_68 (tgt := 93) (by decide) (by omega) (by omega) (fun c68 => ?_) (fun c68 => ?_)
  · exact absurd c68 (by omega)
  refine z_aload_n hC dX7_copy_71 rfl ?_
  refine z_getR hC dX7_copy_72 (hS _) zfX7_13 rfl ?_
  refine z_iload_n hC dX7_copy_75 rfl ?_
  refine z_naldN hC dX7_copy_76 (hS _) (by omega) rfl ep.2.1 ?_
  refine z_aload_n hC dX7_copy_77 rfl ?_
  refine z_getR hC dX7_copy_78 (hS _) zfX7_13 rfl ?_
  refine z_iload_n hC dX7_copy_81 rfl ?_
  refine z_naldN hC dX7_copy_82 (hS _) (by omega) rfl eq.2.1 ?_
  refine z_nicmp_eq hC dX7_copy_83 (tgt := 93) (by decide) (by omega) (by omega) (fun c83 => ?_) (fun c83 => ?_)
  rotate_left
  · exact absurd c83 (by omega)
  refine z_aload_n hC dX7_copy_93 rfl ?_
  refine z_getR hC dX7_copy_94 (hS _) zfX7_7 rfl ?_
  refine z_iload_n hC dX7_copy_97 rfl ?_
  refine z_naldN hC dX7_copy_98 (hS _) (by omega) rfl ep.1 ?_
  refine z_nif_eq hC dX7_copy_99 (tgt := 111) (by decide) (by omega) (fun c99 => ?_) (fun c99 => ?_)
  · exact absurd c99 (by omega)
  refine z_aload_n hC dX7_copy_102 rfl ?_
  refine z_getR hC dX7_copy_103 (hS _) zfX7_7 rfl ?_
  refine z_iload_n hC dX7_copy_106 rfl ?_
  refine z_naldN hC dX7_copy_107 (hS _) (by omega) rfl eq.1 ?_
  refine z_nif_ne hC dX7_copy_108 (tgt := 118) (by decide) (by omega) (fun c108 => ?_) (fun c108 => ?_)
  rotate_left
  · exact absurd c108 (by omega)
  refine z_iload hC dX7_copy_118 rfl ?_
  refine z_if_lt hC dX7_copy_120 (tgt := 181) (by decide) (fun c120 => ?_) (fun c120 => ?_)
  · skip
    refine z_aload_n hC dX7_copy_181 rfl ?_
    refine z_bipush hC dX7_copy_182 (v := -2) rfl ?_
    refine wVv hC dX7_copy_184 zlX7_107 (c_X7_refuse hS (j := 0) (by decide) (by decide)) (hS _) rfl rfl rfl rfl rfl rfl ⟨rfl, rfl⟩ ?_
    refine z_iret hC dX7_copy_187 ?_
    exact hE.to (by rfl) rfl rfl rfl
  refine z_iload_n hC dX7_copy_123 rfl ?_
  refine z_if_lt hC dX7_copy_124 (tgt := 181) (by decide) (fun c124 => ?_) (fun c124 => ?_)
  · skip
    refine z_aload_n hC dX7_copy_181 rfl ?_
    refine z_bipush hC dX7_copy_182 (v := -2) rfl ?_
    refine wVv hC dX7_copy_184 zlX7_107 (c_X7_refuse hS (j := 0) (by decide) (by decide)) (hS _) rfl rfl rfl rfl rfl rfl ⟨rfl, rfl⟩ ?_
    refine z_iret hC dX7_copy_187 ?_
    exact hE.to (by rfl) rfl rfl rfl
  refine z_iload hC dX7_copy_127 rfl ?_
  refine z_if_lt hC dX7_copy_129 (tgt := 181) (by decide) (fun c129 => ?_) (fun c129 => ?_)
  · skip
    refine z_aload_n hC dX7_copy_181 rfl ?_
    refine z_bipush hC dX7_copy_182 (v := -2) rfl ?_
    refine wVv hC dX7_copy_184 zlX7_107 (c_X7_refuse hS (j := 0) (by decide) (by decide)) (hS _) rfl rfl rfl rfl rfl rfl ⟨rfl, rfl⟩ ?_
    refine z_iret hC dX7_copy_187 ?_
    exact hE.to (by rfl) rfl rfl rfl
  refine z_iload hC dX7_copy_132 rfl ?_
  refine z_aload_n hC dX7_copy_134 rfl ?_
  refine z_getR hC dX7_copy_135 (hS _) zfX7_16 rfl ?_
  refine z_iload_n hC dX7_copy_138 rfl ?_
  refine z_naldN hC dX7_copy_139 (hS _) (by omega) rfl ep.2.2.1 ?_
  refine z_icmp_gt hC dX7_copy_140 (tgt := 181) (by decide) (fun c140 => ?_) (fun c140 => ?_)
  · skip
    refine z_aload_n hC dX7_copy_181 rfl ?_
    refine z_bipush hC dX7_copy_182 (v := -2) rfl ?_
    refine wVv hC dX7_copy_184 zlX7_107 (c_X7_refuse hS (j := 0) (by decide) (by decide)) (hS _) rfl rfl rfl rfl rfl rfl ⟨rfl, rfl⟩ ?_
    refine z_iret hC dX7_copy_187 ?_
    exact hE.to (by rfl) rfl rfl rfl
  refine z_iload hC dX7_copy_143 rfl ?_
  refine z_aload_n hC dX7_copy_145 rfl ?_
  refine z_getR hC dX7_copy_146 (hS _) zfX7_16 rfl ?_
  refine z_iload_n hC dX7_copy_149 rfl ?_
  refine z_naldN hC dX7_copy_150 (hS _) (by omega) rfl eq.2.2.1 ?_
  refine z_icmp_gt hC dX7_copy_151 (tgt := 181) (by decide) (fun c151 => ?_) (fun c151 => ?_)
  · skip
    refine z_aload_n hC dX7_copy_181 rfl ?_
    refine z_bipush hC dX7_copy_182 (v := -2) rfl ?_
    refine wVv hC dX7_copy_184 zlX7_107 (c_X7_refuse hS (j := 0) (by decide) (by decide)) (hS _) rfl rfl rfl rfl rfl rfl ⟨rfl, rfl⟩ ?_
    refine z_iret hC dX7_copy_187 ?_
    exact hE.to (by rfl) rfl rfl rfl
  refine z_iload_n hC dX7_copy_154 rfl ?_
  refine z_aload_n hC dX7_copy_155 rfl ?_
  refine z_getR hC dX7_copy_156 (hS _) zfX7_16 rfl ?_
  refine z_iload_n hC dX7_copy_159 rfl ?_
  refine z_naldN hC dX7_copy_160 (hS _) (by omega) rfl ep.2.2.1 ?_
  refine z_iload hC dX7_copy_161 rfl ?_
  refine z_isub hC dX7_copy_163  ?_
  refine z_icmp_gt hC dX7_copy_164 (tgt := 181) (by decide) (fun c164 => ?_) (fun c164 => ?_)
  · skip
    refine z_aload_n hC dX7_copy_181 rfl ?_
    refine z_bipush hC dX7_copy_182 (v := -2) rfl ?_
    refine wVv hC dX7_copy_184 zlX7_107 (c_X7_refuse hS (j := 0) (by decide) (by decide)) (hS _) rfl rfl rfl rfl rfl rfl ⟨rfl, rfl⟩ ?_
    refine z_iret hC dX7_copy_187 ?_
    exact hE.to (by rfl) rfl rfl rfl
  refine z_iload hC dX7_copy_167 rfl ?_
  refine z_aload_n hC dX7_copy_169 rfl ?_
  refine z_getR hC dX7_copy_170 (hS _) zfX7_16 rfl ?_
  refine z_iload_n hC dX7_copy_173 rfl ?_
  refine z_naldN hC dX7_copy_174 (hS _) (by omega) rfl eq.2.2.1 ?_
  refine z_iload hC dX7_copy_175 rfl ?_
  refine z_isub hC dX7_copy_177  ?_
  refine z_icmp_le hC dX7_copy_178 (tgt := 188) (by decide) (fun c178 => ?_) (fun c178 => ?_)
  · exact absurd c178 (fun z => hx (cp_ok kp40 kq40 c120 c124 c129 c140 c151 c164 z))
  refine z_aload_n hC dX7_copy_181 rfl ?_
  refine z_bipush hC dX7_copy_182 (v := -2) rfl ?_
  refine wVv hC dX7_copy_184 zlX7_107 (c_X7_refuse hS (j := 0) (by decide) (by decide)) (hS _) rfl rfl rfl rfl rfl rfl ⟨rfl, rfl⟩ ?_
  refine z_iret hC dX7_copy_187 ?_
  exact hE.to (by rfl) rfl rfl rfl

theorem w_copy_rr (hS : ∀ k, S 0 k = msh 0 k) (hO : DOK D) (hM : MMe qe D I X Y) {p q : Nat} {i j m : Nat} (hp : p < 8) (hq : q < 8) {rp : Nat} (gp : rp ≤ 4) {np : Nat} {elp : Nat → Int64} (ep : rwM p rp np elp X Y) {rq : Nat} (gq : rq ≤ 4) {nq : Nat} {elq : Nat → Int64} (eq : rwM q rq nq elq X Y) (hd : rp = rq) (kp40 : np ≤ 40) (kq40 : nq ≤ 40) (h1 : i + m ≤ np) (h2 : j + m ≤ nq) : zC0 mX7_copy 6 [zr 0 0, zi (nI p), zi (nI q), zi (nI i), zi (nI j), zi (nI m)] (some (zi (nI m))) ad S I X Y sz I X (cpY q j m (mvY p i m Y)) := by
  refine zgo (own := RX7) (k := 1) (by decide +kernel) rfl rfl rfl (fun C hC hnm hE => ?_)
  have hm := hM.1
  have hR := hO.1
  have hmo := hm
  have hn14 := hR.1
  have hn8 := hR.2.1
  have hn6 := hR.2.2.1
  refine z_iload_n hC dX7_copy_0 rfl ?_
  refine z_n2m hC dX7_copy_1 (by omega) ?_
  refine z_lconst hC dX7_copy_2 (v := lN 0) rfl ?_
  refine z_ldc2 hC dX7_copy_3 (v := lN 7) (zin5 (i := 110) rfl rfl) ?_
  refine wSv hC dX7_copy_6 zlX7_97 (c_X7_inN (by omega) (by omega) (by omega)) rfl rfl rfl rfl ⟨rfl, rfl⟩ ?_
  refine w_ifb_eq hC dX7_copy_9 (tgt := 24) (by decide) (fun c9 => ?_) (fun c9 => ?_)
  · exact absurd c9 (by omega)
  refine z_iload_n hC dX7_copy_12 rfl ?_
  refine z_n2m hC dX7_copy_13 (by omega) ?_
  refine z_lconst hC dX7_copy_14 (v := lN 0) rfl ?_
  refine z_ldc2 hC dX7_copy_15 (v := lN 7) (zin5 (i := 110) rfl rfl) ?_
  refine wSv hC dX7_copy_18 zlX7_97 (c_X7_inN (by omega) (by omega) (by omega)) rfl rfl rfl rfl ⟨rfl, rfl⟩ ?_
  refine w_ifb_ne hC dX7_copy_21 (tgt := 31) (by decide) (fun c21 => ?_) (fun c21 => ?_)
  rotate_left
  · exact absurd c21 (by omega)
  refine z_aload_n hC dX7_copy_31 rfl ?_
  refine z_getR hC dX7_copy_32 (hS _) zfX7_7 rfl ?_
  refine z_iload_n hC dX7_copy_35 rfl ?_
  refine z_naldN hC dX7_copy_36 (hS _) (by omega) rfl ep.1 ?_
  refine z_iconst hC dX7_copy_37 (v := nI 2) rfl ?_
  refine z_nicmp_eq hC dX7_copy_38 (tgt := 86) (by decide) (by omega) (by omega) (fun c38 => ?_) (fun c38 => ?_)
  · exact absurd c38 (by omega)
  refine z_aload_n hC dX7_copy_41 rfl ?_
  refine z_getR hC dX7_copy_42 (hS _) zfX7_7 rfl ?_
  refine z_iload_n hC dX7_copy_45 rfl ?_
  refine z_naldN hC dX7_copy_46 (hS _) (by omega) rfl eq.1 ?_
  refine z_iconst hC dX7_copy_47 (v := nI 2) rfl ?_
  refine z_nicmp_eq hC dX7_copy_48 (tgt := 86) (by decide) (by omega) (by omega) (fun c48 => ?_) (fun c48 => ?_)
  · exact absurd c48 (by omega)
  refine z_aload_n hC dX7_copy_51 rfl ?_
  refine z_getR hC dX7_copy_52 (hS _) zfX7_7 rfl ?_
  refine z_iload_n hC dX7_copy_55 rfl ?_
  refine z_naldN hC dX7_copy_56 (hS _) (by omega) rfl ep.1 ?_
  refine z_iconst hC dX7_copy_57 (v := nI 1) rfl ?_
  refine z_nicmp_ne hC dX7_copy_58 (tgt := 93) (by decide) (by omega) (by omega) (fun c58 => ?_) (fun c58 => ?_)
  · exact absurd c58 (by omega)
  refine z_aload_n hC dX7_copy_61 rfl ?_
  refine z_getR hC dX7_copy_62 (hS _) zfX7_7 rfl ?_
  refine z_iload_n hC dX7_copy_65 rfl ?_
  refine z_naldN hC dX7_copy_66 (hS _) (by omega) rfl eq.1 ?_
  refine z_iconst hC dX7_copy_67 (v := nI 1) rfl ?_
  refine z_nicmp_ne hC dX7_copy_68 (tgt := 93) (by decide) (by omega) (by omega) (fun c68 => ?_) (fun c68 => ?_)
  · exact absurd c68 (by omega)
  refine z_aload_n hC dX7_copy_71 rfl ?_
  refine z_getR hC dX7_copy_72 (hS _) zfX7_13 rfl ?_
  refine z_iload_n hC dX7_copy_75 rfl ?_
  refine z_naldN hC dX7_copy_76 (hS _) (by omega) rfl ep.2.1 ?_
  refine z_aload_n hC dX7_copy_77 rfl ?_
  refine z_getR hC dX7_copy_78 (hS _) zfX7_13 rfl ?_
  refine z_iload_n hC dX7_copy_81 rfl ?_
  refine z_naldN hC dX7_copy_82 (hS _) (by omega) rfl eq.2.1 ?_
  refine z_nicmp_eq hC dX7_copy_83 (tgt := 93) (by decide) (by omega) (by omega) (fun c83 => ?_) (fun c83 => ?_)
  rotate_left
  · exact absurd c83 (by omega)
  refine z_aload_n hC dX7_copy_93 rfl ?_
  refine z_getR hC dX7_copy_94 (hS _) zfX7_7 rfl ?_
  refine z_iload_n hC dX7_copy_97 rfl ?_
  refine z_naldN hC dX7_copy_98 (hS _) (by omega) rfl ep.1 ?_
  refine z_nif_eq hC dX7_copy_99 (tgt := 111) (by decide) (by omega) (fun c99 => ?_) (fun c99 => ?_)
  · exact absurd c99 (by omega)
  refine z_aload_n hC dX7_copy_102 rfl ?_
  refine z_getR hC dX7_copy_103 (hS _) zfX7_7 rfl ?_
  refine z_iload_n hC dX7_copy_106 rfl ?_
  refine z_naldN hC dX7_copy_107 (hS _) (by omega) rfl eq.1 ?_
  refine z_nif_ne hC dX7_copy_108 (tgt := 118) (by decide) (by omega) (fun c108 => ?_) (fun c108 => ?_)
  rotate_left
  · exact absurd c108 (by omega)
  refine z_iload hC dX7_copy_118 rfl ?_
  refine z_nif_lt hC dX7_copy_120 ⟨181, by decide⟩ (by omega) ?_
  refine z_iload_n hC dX7_copy_123 rfl ?_
  refine z_nif_lt hC dX7_copy_124 ⟨181, by decide⟩ (by omega) ?_
  refine z_iload hC dX7_copy_127 rfl ?_
  refine z_nif_lt hC dX7_copy_129 ⟨181, by decide⟩ (by omega) ?_
  refine z_iload hC dX7_copy_132 rfl ?_
  refine z_aload_n hC dX7_copy_134 rfl ?_
  refine z_getR hC dX7_copy_135 (hS _) zfX7_16 rfl ?_
  refine z_iload_n hC dX7_copy_138 rfl ?_
  refine z_naldN hC dX7_copy_139 (hS _) (by omega) rfl ep.2.2.1 ?_
  refine z_nicmp_gt hC dX7_copy_140 (tgt := 181) (by decide) (by omega) (by omega) (fun c140 => ?_) (fun c140 => ?_)
  · exact absurd c140 (by omega)
  refine z_iload hC dX7_copy_143 rfl ?_
  refine z_aload_n hC dX7_copy_145 rfl ?_
  refine z_getR hC dX7_copy_146 (hS _) zfX7_16 rfl ?_
  refine z_iload_n hC dX7_copy_149 rfl ?_
  refine z_naldN hC dX7_copy_150 (hS _) (by omega) rfl eq.2.2.1 ?_
  refine z_nicmp_gt hC dX7_copy_151 (tgt := 181) (by decide) (by omega) (by omega) (fun c151 => ?_) (fun c151 => ?_)
  · exact absurd c151 (by omega)
  refine z_iload_n hC dX7_copy_154 rfl ?_
  refine z_aload_n hC dX7_copy_155 rfl ?_
  refine z_getR hC dX7_copy_156 (hS _) zfX7_16 rfl ?_
  refine z_iload_n hC dX7_copy_159 rfl ?_
  refine z_naldN hC dX7_copy_160 (hS _) (by omega) rfl ep.2.2.1 ?_
  refine z_iload hC dX7_copy_161 rfl ?_
  refine z_nsub hC dX7_copy_163 (by omega) ?_
  refine z_nicmp_gt hC dX7_copy_164 (tgt := 181) (by decide) (by omega) (by omega) (fun c164 => ?_) (fun c164 => ?_)
  · exact absurd c164 (by omega)
  refine z_iload hC dX7_copy_167 rfl ?_
  refine z_aload_n hC dX7_copy_169 rfl ?_
  refine z_getR hC dX7_copy_170 (hS _) zfX7_16 rfl ?_
  refine z_iload_n hC dX7_copy_173 rfl ?_
  refine z_naldN hC dX7_copy_174 (hS _) (by omega) rfl eq.2.2.1 ?_
  refine z_iload hC dX7_copy_175 rfl ?_
  refine z_nsub hC dX7_copy_177 (by omega) ?_
  refine z_nicmp_le hC dX7_copy_178 (tgt := 188) (by decide) (by omega) (by omega) (fun c178 => ?_) (fun c178 => ?_)
  rotate_left
  · exact absurd c178 (by omega)
  refine z_iconst hC dX7_copy_188 (v := nI 0) rfl ?_
  refine z_istore hC dX7_copy_189 (lo2 := [_, _, _, _, _, _, _]) (Nat.le_of_ble_eq_true rfl) rfl rfl ?_
  have loop191 : ∀ (fuel : Nat) (t : Nat), m - t < fuel → t ≤ m → zL C 7 ad S 0 0 sz I X (mvY p i t Y) 191 [some (zr 0 0), some (zi (nI p)), some (zi (nI q)), some (zi (nI i)), some (zi (nI j)), some (zi (nI m)), some (zi (nI t))] [] := by
    intro fuel
    induction fuel with
    | zero => intro t hfu; exact absurd hfu (Nat.not_lt_zero _)
    | succ fuel ih =>
      intro t hfu htm
      refine z_iload hC dX7_copy_191 rfl ?_
      refine z_iload hC dX7_copy_193 rfl ?_
      refine z_nicmp_ge hC dX7_copy_195 (tgt := 222) (by decide) (by omega) (by omega) (fun c195 => ?_) (fun c195 => ?_)
      · skip
        have htm2 : m = t := by omega
        subst htm2
        refine z_iconst hC dX7_copy_222 (v := nI 0) rfl ?_
        refine z_istore hC dX7_copy_223 (lo2 := [_, _, _, _, _, _, _]) (Nat.le_of_ble_eq_true rfl) rfl rfl ?_
        have loop225 : ∀ (fuel : Nat) (t : Nat), m - t < fuel → t ≤ m → zL C 7 ad S 0 0 sz I X (cpY q j t (mvY p i m Y)) 225 [some (zr 0 0), some (zi (nI p)), some (zi (nI q)), some (zi (nI i)), some (zi (nI j)), some (zi (nI m)), some (zi (nI t))] [] := by
          intro fuel2
          induction fuel2 with
          | zero => intro t hfu; exact absurd hfu (Nat.not_lt_zero _)
          | succ fuel2 ih2 =>
            intro t hfu htm
            refine z_iload hC dX7_copy_225 rfl ?_
            refine z_iload hC dX7_copy_227 rfl ?_
            refine z_nicmp_ge hC dX7_copy_229 (tgt := 257) (by decide) (by omega) (by omega) (fun c229 => ?_) (fun c229 => ?_)
            · skip
              have htm2 : m = t := by omega
              subst htm2
              refine z_iload hC dX7_copy_257 rfl ?_
              refine z_iret hC dX7_copy_259 ?_
              exact hE.to (by rfl) rfl rfl rfl
            refine z_aload_n hC dX7_copy_232 rfl ?_
            refine z_getR hC dX7_copy_233 (hS _) zfX7_21 rfl ?_
            refine z_iload_n hC dX7_copy_236 rfl ?_
            refine z_aald hC (by decide) dX7_copy_237 (hS _) (by rw [List.length_map, List.length_range]; exact vp_in_nI (by omega) (by decide)) (msel8 hq) ?_
            refine z_iload hC dX7_copy_238 rfl ?_
            refine z_iload hC dX7_copy_240 rfl ?_
            refine z_nadd hC dX7_copy_242  ?_
            refine z_aload_n hC dX7_copy_243 rfl ?_
            refine z_getR hC dX7_copy_244 (hS _) zfX7_24 rfl ?_
            refine z_iload hC dX7_copy_247 rfl ?_
            refine z_nlald hC dX7_copy_249 (hS _) (by omega) rfl ?_
            refine z_nlast hC dX7_copy_250 ((hS _).trans (msh_rows (by omega)).1) (by omega) rfl ?_
            refine z_Y (Y2 := cpY q j (t + 1) (mvY p i m Y)) (cpY_s (show (cpY q j t (mvY p i m Y)) 0 13 t = _ from if_neg (by omega))) ?_
            refine z_ninc hC dX7_copy_251 (lo2 := [_, _, _, _, _, _, _]) rfl rfl rfl rfl ?_
            refine z_goto hC dX7_copy_254 (tgt := 225) (by decide) ?_
            exact ih2 (t + 1) (by omega) (by omega)
        refine z_Y (Y2 := cpY q j 0 (mvY p i m Y)) cpY_0.symm ?_
        exact loop225 _ 0 (Nat.lt_succ_self _) (Nat.zero_le _)
      refine z_aload_n hC dX7_copy_198 rfl ?_
      refine z_getR hC dX7_copy_199 (hS _) zfX7_24 rfl ?_
      refine z_iload hC dX7_copy_202 rfl ?_
      refine z_aload_n hC dX7_copy_204 rfl ?_
      refine z_getR hC dX7_copy_205 (hS _) zfX7_21 rfl ?_
      refine z_iload_n hC dX7_copy_208 rfl ?_
      refine z_aald hC (by decide) dX7_copy_209 (hS _) (by rw [List.length_map, List.length_range]; exact vp_in_nI (by omega) (by decide)) (msel8 hp) ?_
      refine z_iload_n hC dX7_copy_210 rfl ?_
      refine z_iload hC dX7_copy_211 rfl ?_
      refine z_nadd hC dX7_copy_213  ?_
      refine z_nlald hC dX7_copy_214 ((hS _).trans (msh_rows (by omega)).1) (by omega) rfl ?_
      refine z_nlast hC dX7_copy_215 (hS _) (by omega) rfl ?_
      refine z_Y (Y2 := mvY p i (t + 1) Y) (mvY_s (show (mvY p i t Y) 0 (4 + 1 + p) (i + t) = _ from if_neg (by omega))) ?_
      refine z_ninc hC dX7_copy_216 (lo2 := [_, _, _, _, _, _, _]) rfl rfl rfl rfl ?_
      refine z_goto hC dX7_copy_219 (tgt := 191) (by decide) ?_
      exact ih (t + 1) (by omega) (by omega)
  refine z_Y (Y2 := mvY p i 0 Y) mvY_0.symm ?_
  exact loop191 _ 0 (Nat.lt_succ_self _) (Nat.zero_le _)

theorem w_copy_fa (hS : ∀ k, S 0 k = msh 0 k) (hO : DOK D) (hM : MMe qe D I X Y) {x i j m : Int32} {q : Nat} (hx : ¬ inB x 8) (hq : q < 8) : zC0 mX7_copy 6 [zr 0 0, zi x, zi (nI q), zi i, zi j, zi m] (some (zi (-2))) ad S I X Y sz I (rmX 0 0 X) Y := by
  refine zgo (own := RX7) (k := 1) (by decide +kernel) rfl rfl rfl (fun C hC hnm hE => ?_)
  have hm := hM.1
  have hR := hO.1
  have hmo := hm
  have hn14 := hR.1
  have hn8 := hR.2.1
  have hn6 := hR.2.2.1
  refine z_iload_n hC dX7_copy_0 rfl ?_
  refine z_i2l hC dX7_copy_1  ?_
  refine z_lconst hC dX7_copy_2 (v := lN 0) rfl ?_
  refine z_ldc2 hC dX7_copy_3 (v := lN 7) (zin5 (i := 110) rfl rfl) ?_
  refine wSv hC dX7_copy_6 zlX7_97 (c_X7_inI (by omega) (by omega)) rfl rfl rfl rfl ⟨rfl, rfl⟩ ?_
  refine w_ifb_eq hC dX7_copy_9 (tgt := 24) (by decide) (fun c9 => ?_) (fun c9 => ?_)
  rotate_left
  · exact absurd c9 (fun z => hx ((iwB (by decide)).mp z))
  refine z_aload_n hC dX7_copy_24 rfl ?_
  refine z_bipush hC dX7_copy_25 (v := -2) rfl ?_
  refine wVv hC dX7_copy_27 zlX7_107 (c_X7_refuse hS (j := 0) (by decide) (by decide)) (hS _) rfl rfl rfl rfl rfl rfl ⟨rfl, rfl⟩ ?_
  refine z_iret hC dX7_copy_30 ?_
  exact hE.to (by rfl) rfl rfl rfl

theorem w_copy_fb (hS : ∀ k, S 0 k = msh 0 k) (hO : DOK D) (hM : MMe qe D I X Y) {x y i j m : Int32} (hx : ¬ inB x 8) (hy : ¬ inB y 8) : zC0 mX7_copy 6 [zr 0 0, zi x, zi y, zi i, zi j, zi m] (some (zi (-2))) ad S I X Y sz I (rmX 0 0 X) Y := by
  refine zgo (own := RX7) (k := 1) (by decide +kernel) rfl rfl rfl (fun C hC hnm hE => ?_)
  have hm := hM.1
  have hR := hO.1
  have hmo := hm
  have hn14 := hR.1
  have hn8 := hR.2.1
  have hn6 := hR.2.2.1
  refine z_iload_n hC dX7_copy_0 rfl ?_
  refine z_i2l hC dX7_copy_1  ?_
  refine z_lconst hC dX7_copy_2 (v := lN 0) rfl ?_
  refine z_ldc2 hC dX7_copy_3 (v := lN 7) (zin5 (i := 110) rfl rfl) ?_
  refine wSv hC dX7_copy_6 zlX7_97 (c_X7_inI (by omega) (by omega)) rfl rfl rfl rfl ⟨rfl, rfl⟩ ?_
  refine w_ifb_eq hC dX7_copy_9 (tgt := 24) (by decide) (fun c9 => ?_) (fun c9 => ?_)
  rotate_left
  · exact absurd c9 (fun z => hx ((iwB (by decide)).mp z))
  refine z_aload_n hC dX7_copy_24 rfl ?_
  refine z_bipush hC dX7_copy_25 (v := -2) rfl ?_
  refine wVv hC dX7_copy_27 zlX7_107 (c_X7_refuse hS (j := 0) (by decide) (by decide)) (hS _) rfl rfl rfl rfl rfl rfl ⟨rfl, rfl⟩ ?_
  refine z_iret hC dX7_copy_30 ?_
  exact hE.to (by rfl) rfl rfl rfl

theorem w_copy_fc (hS : ∀ k, S 0 k = msh 0 k) (hO : DOK D) (hM : MMe qe D I X Y) {y i j m : Int32} {p : Nat} (hp : p < 8) (hy : ¬ inB y 8) : zC0 mX7_copy 6 [zr 0 0, zi (nI p), zi y, zi i, zi j, zi m] (some (zi (-2))) ad S I X Y sz I (rmX 0 0 X) Y := by
  refine zgo (own := RX7) (k := 1) (by decide +kernel) rfl rfl rfl (fun C hC hnm hE => ?_)
  have hm := hM.1
  have hR := hO.1
  have hmo := hm
  have hn14 := hR.1
  have hn8 := hR.2.1
  have hn6 := hR.2.2.1
  refine z_iload_n hC dX7_copy_0 rfl ?_
  refine z_n2m hC dX7_copy_1 (by omega) ?_
  refine z_lconst hC dX7_copy_2 (v := lN 0) rfl ?_
  refine z_ldc2 hC dX7_copy_3 (v := lN 7) (zin5 (i := 110) rfl rfl) ?_
  refine wSv hC dX7_copy_6 zlX7_97 (c_X7_inN (by omega) (by omega) (by omega)) rfl rfl rfl rfl ⟨rfl, rfl⟩ ?_
  refine w_ifb_eq hC dX7_copy_9 (tgt := 24) (by decide) (fun c9 => ?_) (fun c9 => ?_)
  · exact absurd c9 (by omega)
  refine z_iload_n hC dX7_copy_12 rfl ?_
  refine z_i2l hC dX7_copy_13  ?_
  refine z_lconst hC dX7_copy_14 (v := lN 0) rfl ?_
  refine z_ldc2 hC dX7_copy_15 (v := lN 7) (zin5 (i := 110) rfl rfl) ?_
  refine wSv hC dX7_copy_18 zlX7_97 (c_X7_inI (by omega) (by omega)) rfl rfl rfl rfl ⟨rfl, rfl⟩ ?_
  refine w_ifb_ne hC dX7_copy_21 (tgt := 31) (by decide) (fun c21 => ?_) (fun c21 => ?_)
  · exact absurd c21 (fun z => hy ((iwB (by decide)).mp z))
  refine z_aload_n hC dX7_copy_24 rfl ?_
  refine z_bipush hC dX7_copy_25 (v := -2) rfl ?_
  refine wVv hC dX7_copy_27 zlX7_107 (c_X7_refuse hS (j := 0) (by decide) (by decide)) (hS _) rfl rfl rfl rfl rfl rfl ⟨rfl, rfl⟩ ?_
  refine z_iret hC dX7_copy_30 ?_
  exact hE.to (by rfl) rfl rfl rfl

theorem m_copy (hS : ∀ k, S 0 k = msh 0 k) (hO : DOK D) (hM : MMe qe D I X Y) {x y i j m : Int32} : mC mX7_copy 6 [zr 0 0, zi x, zi y, zi i, zi j, zi m] (some (zi (copyS D x y i j m).1)) (copyS D x y i j m).2 ad S I X Y sz qe := by
  have hn14 := hO.1.1
  unfold copyS
  by_cases hx : inB x 8
  · by_cases hy : inB y 8
    · rw [if_pos ⟨hx, hy⟩]
      obtain ⟨p, hp, rfl, e1⟩ := inB_e hx (by decide)
      obtain ⟨q, hq, rfl, e2⟩ := inB_e hy (by decide)
      rw [e1, e2]
      rcases sh_stM hO hM hp with ⟨h1, m1⟩ | ⟨rp, gp, h1, m1⟩ | ⟨rp, gp, h1, m1⟩
      · rcases sh_stM hO hM hq with ⟨k1, m2⟩ | ⟨rq, gq, k1, m2⟩ | ⟨rq, gq, k1, m2⟩
        · rw [if_neg (fun z => z.elim (by rw [h1]; exact isB_n) (by rw [k1]; exact isB_n))]
          rw [if_pos (Or.inl h1)]
          exact ⟨_, _, _, hM.rf (by decide), w_copy_nn hS hO hM hp hq m1 m2⟩
        · rw [if_neg (fun z => z.elim (by rw [h1]; exact isB_n) (by rw [k1]; exact isB_r gq))]
          rw [if_pos (Or.inl h1)]
          exact ⟨_, _, _, hM.rf (by decide), w_copy_nr hS hO hM hp hq m1 gq m2⟩
        · rw [k1, if_pos (Or.inr isB_b)]
          exact ⟨_, _, _, hM.rf (by decide), w_copy_nb hS hO hM hp hq m1 (by omega) m2⟩
      · rcases sh_stM hO hM hq with ⟨k1, m2⟩ | ⟨rq, gq, k1, m2⟩ | ⟨rq, gq, k1, m2⟩
        · rw [if_neg (fun z => z.elim (by rw [h1]; exact isB_r gp) (by rw [k1]; exact isB_n))]
          rw [if_pos (Or.inr k1)]
          exact ⟨_, _, _, hM.rf (by decide), w_copy_rn hS hO hM hp hq gp m1 m2⟩
        · rw [if_neg (fun z => z.elim (by rw [h1]; exact isB_r gp) (by rw [k1]; exact isB_r gq))]
          rw [if_neg (fun z => z.elim (by rw [h1]; exact Option.some_ne_none _) (by rw [k1]; exact Option.some_ne_none _))]
          by_cases hd : rp = rq
          · rw [if_pos (by rw [h1, k1, hd])]
            have kp40 := (hO.2.2.2 p hp).1
            have kq40 := (hO.2.2.2 q hq).1
            by_cases hi : inB i (D.2.2.2.1.2.1 p + 1) ∧ inB m (D.2.2.2.1.2.1 p + 1 - nn i)
            · obtain ⟨i, hi1, rfl, e3⟩ := inB_e hi.1 (by omega)
              have hi2 := hi.2
              rw [e3] at hi2 hi ⊢
              obtain ⟨m, hm1, rfl, e4⟩ := inB_e hi2 (by omega)
              by_cases hj : inB j (D.2.2.2.1.2.1 q + 1) ∧ inB (nI m) (D.2.2.2.1.2.1 q + 1 - nn j)
              · obtain ⟨j, hj1, rfl, e5⟩ := inB_e hj.1 (by omega)
                have hj2 := hj.2
                rw [e5] at hj2 hj ⊢
                obtain ⟨m', hm2, e6, -⟩ := inB_e hj2 (by omega)
                have e7 : m = m' := by
                  have := congrArg nn e6
                  rwa [nn_n (by omega), nn_n (by omega)] at this
                subst e7
                rw [if_pos ⟨hi, hj⟩, e4]
                refine ⟨_, _, _, hM.sh (fun b k j a => rfl) (fun t ht => ?_), w_copy_rr hS hO hM hp hq gp m1 gq m2 hd kp40 kq40 (by omega) (by omega)⟩
                by_cases e : t = q
                · subst e
                  rw [upS_eq, k1]
                  refine zMs_r gq ⟨m2.1, m2.2.1, m2.2.2.1, fun k hk => ?_⟩
                  unfold va_cpy
                  by_cases ek : j ≤ k ∧ k < j + m
                  · rw [if_pos ek, ← m1.2.2.2 _ (by omega)]
                    refine (if_pos ⟨rfl, rfl, ek⟩).trans ?_
                    exact if_pos ⟨rfl, rfl, by omega⟩
                  · rw [if_neg ek, ← m2.2.2.2 k hk]
                    refine (if_neg (fun z => ek z.2.2)).trans ?_
                    exact if_neg (by omega)
                · rw [upS_ne e]
                  exact (hM.2.2.2.2.2.1 t ht).at (fun k _ => rfl) (fun k hk => (if_neg (by omega)).trans (if_neg (by omega)))
              · rw [if_neg (fun z => hj z.2)]
                exact ⟨_, _, _, hM.rf (by decide), w_copy_rx hS hO hM hp hq gp m1 gq m2 hd kp40 kq40 (fun z => hj z.2)⟩
            · rw [if_neg (fun z => hi z.1)]
              exact ⟨_, _, _, hM.rf (by decide), w_copy_rx hS hO hM hp hq gp m1 gq m2 hd kp40 kq40 (fun z => hi z.1)⟩
          · rw [if_neg (fun z => hd (by rw [h1, k1] at z; exact Option.some.inj z))]
            exact ⟨_, _, _, hM.rf (by decide), w_copy_rd hS hO hM hp hq gp m1 gq m2 hd⟩
        · rw [k1, if_pos (Or.inr isB_b)]
          exact ⟨_, _, _, hM.rf (by decide), w_copy_rb hS hO hM hp hq gp m1 (by omega) m2⟩
      · rw [h1, if_pos (Or.inl isB_b)]
        exact ⟨_, _, _, hM.rf (by decide), w_copy_bx hS hO hM hp hq (by omega) m1⟩
    · rw [if_neg (fun z => hy z.2)]
      obtain ⟨p, hp, rfl, e1⟩ := inB_e hx (by decide)
      exact ⟨_, _, _, hM.rf (by decide), w_copy_fc hS hO hM hp hy⟩
  · rw [if_neg (fun z => hx z.1)]
    by_cases hy : inB y 8
    · obtain ⟨q, hq, rfl, e2⟩ := inB_e hy (by decide)
      exact ⟨_, _, _, hM.rf (by decide), w_copy_fa hS hO hM hx hq⟩
    · exact ⟨_, _, _, hM.rf (by decide), w_copy_fb hS hO hM hx hy⟩

theorem c_X7_isUnder {k y : Nat} (hk : k ≤ 5) (hy : y ≤ 5) : zC0 mX7_isUnder 0 [zi (nI k), zi (nI y)] (some (zi (zb (undN k y) inferInstance))) ad S I X Y sz I X Y := by
  refine zgo (own := RX7) (k := 0) (by decide +kernel) rfl rfl rfl (fun C hC hnm hE => ?_)
  refine z_iload_n hC dX7_isUnder_0 rfl ?_
  refine z_nif_eq hC dX7_isUnder_1 (tgt := 29) (by decide) (by omega) (fun c1 => ?_) (fun c1 => ?_)
  · skip
    refine z_iconst hC dX7_isUnder_29 (v := nI 1) rfl ?_
    refine z_goto hC dX7_isUnder_30 (tgt := 34) (by decide) ?_
    refine z_zret hC dX7_isUnder_34 rfl ?_
    exact hE.to (by first | exact zbT (by omega) | exact zbF (by omega)) rfl rfl rfl
  refine z_iload_n hC dX7_isUnder_4 rfl ?_
  refine z_iload_n hC dX7_isUnder_5 rfl ?_
  refine z_nicmp_eq hC dX7_isUnder_6 (tgt := 29) (by decide) (by omega) (by omega) (fun c6 => ?_) (fun c6 => ?_)
  · skip
    refine z_iconst hC dX7_isUnder_29 (v := nI 1) rfl ?_
    refine z_goto hC dX7_isUnder_30 (tgt := 34) (by decide) ?_
    refine z_zret hC dX7_isUnder_34 rfl ?_
    exact hE.to (by first | exact zbT (by omega) | exact zbF (by omega)) rfl rfl rfl
  refine z_iload_n hC dX7_isUnder_9 rfl ?_
  refine z_iconst hC dX7_isUnder_10 (v := nI 1) rfl ?_
  refine z_nicmp_ne hC dX7_isUnder_11 (tgt := 19) (by decide) (by omega) (by omega) (fun c11 => ?_) (fun c11 => ?_)
  · skip
    refine z_iload_n hC dX7_isUnder_19 rfl ?_
    refine z_iconst hC dX7_isUnder_20 (v := nI 2) rfl ?_
    refine z_nicmp_ne hC dX7_isUnder_21 (tgt := 33) (by decide) (by omega) (by omega) (fun c21 => ?_) (fun c21 => ?_)
    · skip
      refine z_iconst hC dX7_isUnder_33 (v := nI 0) rfl ?_
      refine z_zret hC dX7_isUnder_34 rfl ?_
      exact hE.to (by first | exact zbT (by omega) | exact zbF (by omega)) rfl rfl rfl
    refine z_iload_n hC dX7_isUnder_24 rfl ?_
    refine z_iconst hC dX7_isUnder_25 (v := nI 4) rfl ?_
    refine z_nicmp_ne hC dX7_isUnder_26 (tgt := 33) (by decide) (by omega) (by omega) (fun c26 => ?_) (fun c26 => ?_)
    · skip
      refine z_iconst hC dX7_isUnder_33 (v := nI 0) rfl ?_
      refine z_zret hC dX7_isUnder_34 rfl ?_
      exact hE.to (by first | exact zbT (by omega) | exact zbF (by omega)) rfl rfl rfl
    refine z_iconst hC dX7_isUnder_29 (v := nI 1) rfl ?_
    refine z_goto hC dX7_isUnder_30 (tgt := 34) (by decide) ?_
    refine z_zret hC dX7_isUnder_34 rfl ?_
    exact hE.to (by first | exact zbT (by omega) | exact zbF (by omega)) rfl rfl rfl
  refine z_iload_n hC dX7_isUnder_14 rfl ?_
  refine z_iconst hC dX7_isUnder_15 (v := nI 3) rfl ?_
  refine z_nicmp_eq hC dX7_isUnder_16 (tgt := 29) (by decide) (by omega) (by omega) (fun c16 => ?_) (fun c16 => ?_)
  · skip
    refine z_iconst hC dX7_isUnder_29 (v := nI 1) rfl ?_
    refine z_goto hC dX7_isUnder_30 (tgt := 34) (by decide) ?_
    refine z_zret hC dX7_isUnder_34 rfl ?_
    exact hE.to (by first | exact zbT (by omega) | exact zbF (by omega)) rfl rfl rfl
  refine z_iload_n hC dX7_isUnder_19 rfl ?_
  refine z_iconst hC dX7_isUnder_20 (v := nI 2) rfl ?_
  refine z_nicmp_ne hC dX7_isUnder_21 (tgt := 33) (by decide) (by omega) (by omega) (fun c21 => ?_) (fun c21 => ?_)
  · skip
    refine z_iconst hC dX7_isUnder_33 (v := nI 0) rfl ?_
    refine z_zret hC dX7_isUnder_34 rfl ?_
    exact hE.to (by first | exact zbT (by omega) | exact zbF (by omega)) rfl rfl rfl
  refine z_iload_n hC dX7_isUnder_24 rfl ?_
  refine z_iconst hC dX7_isUnder_25 (v := nI 4) rfl ?_
  refine z_nicmp_ne hC dX7_isUnder_26 (tgt := 33) (by decide) (by omega) (by omega) (fun c26 => ?_) (fun c26 => ?_)
  · skip
    refine z_iconst hC dX7_isUnder_33 (v := nI 0) rfl ?_
    refine z_zret hC dX7_isUnder_34 rfl ?_
    exact hE.to (by first | exact zbT (by omega) | exact zbF (by omega)) rfl rfl rfl
  refine z_iconst hC dX7_isUnder_29 (v := nI 1) rfl ?_
  refine z_goto hC dX7_isUnder_30 (tgt := 34) (by decide) ?_
  refine z_zret hC dX7_isUnder_34 rfl ?_
  exact hE.to (by first | exact zbT (by omega) | exact zbF (by omega)) rfl rfl rfl

theorem w_says_n (hS : ∀ k, S 0 k = msh 0 k) (hO : DOK D) (hM : MMe qe D I X Y) {s y : Nat} (hs : s < 8) (hy : y ≤ 5) (hh : X 0 1 s = nI 0) : zC0 mX7_says 6 [zr 0 0, zi (nI s), zi (nI y)] (some (zi (-4))) ad S I X Y sz I (rmX 0 2 X) Y := by
  refine zgo (own := RX7) (k := 1) (by decide +kernel) rfl rfl rfl (fun C hC hnm hE => ?_)
  have hm := hM.1
  have hR := hO.1
  have hmo := hm
  have hn14 := hR.1
  have hn8 := hR.2.1
  have hn6 := hR.2.2.1
  refine z_iload_n hC dX7_says_0 rfl ?_
  refine z_n2m hC dX7_says_1 (by omega) ?_
  refine z_lconst hC dX7_says_2 (v := lN 0) rfl ?_
  refine z_ldc2 hC dX7_says_3 (v := lN 7) (zin5 (i := 110) rfl rfl) ?_
  refine wSv hC dX7_says_6 zlX7_97 (c_X7_inN (by omega) (by omega) (by omega)) rfl rfl rfl rfl ⟨rfl, rfl⟩ ?_
  refine w_ifb_eq hC dX7_says_9 (tgt := 24) (by decide) (fun c9 => ?_) (fun c9 => ?_)
  · exact absurd c9 (by omega)
  refine z_iload_n hC dX7_says_12 rfl ?_
  refine z_n2m hC dX7_says_13 (by omega) ?_
  refine z_lconst hC dX7_says_14 (v := lN 0) rfl ?_
  refine z_ldc2 hC dX7_says_15 (v := lN 5) (zin5 (i := 155) rfl rfl) ?_
  refine wSv hC dX7_says_18 zlX7_97 (c_X7_inN (by omega) (by omega) (by omega)) rfl rfl rfl rfl ⟨rfl, rfl⟩ ?_
  refine w_ifb_ne hC dX7_says_21 (tgt := 31) (by decide) (fun c21 => ?_) (fun c21 => ?_)
  rotate_left
  · exact absurd c21 (by omega)
  refine z_aload_n hC dX7_says_31 rfl ?_
  refine z_getR hC dX7_says_32 (hS _) zfX7_7 rfl ?_
  refine z_iload_n hC dX7_says_35 rfl ?_
  refine z_naldN hC dX7_says_36 (hS _) (by omega) rfl hh ?_
  refine z_iconst hC dX7_says_37 (v := nI 1) rfl ?_
  refine z_nicmp_eq hC dX7_says_38 (tgt := 69) (by decide) (by omega) (by omega) (fun c38 => ?_) (fun c38 => ?_)
  · exact absurd c38 (by omega)
  refine z_aload_n hC dX7_says_41 rfl ?_
  refine z_getR hC dX7_says_42 (hS _) zfX7_7 rfl ?_
  refine z_iload_n hC dX7_says_45 rfl ?_
  refine z_naldN hC dX7_says_46 (hS _) (by omega) rfl hh ?_
  refine z_iconst hC dX7_says_47 (v := nI 2) rfl ?_
  refine z_nicmp_ne hC dX7_says_48 (tgt := 76) (by decide) (by omega) (by omega) (fun c48 => ?_) (fun c48 => ?_)
  rotate_left
  · exact absurd c48 (by omega)
  refine z_aload_n hC dX7_says_76 rfl ?_
  refine z_getR hC dX7_says_77 (hS _) zfX7_7 rfl ?_
  refine z_iload_n hC dX7_says_80 rfl ?_
  refine z_naldN hC dX7_says_81 (hS _) (by omega) rfl hh ?_
  refine z_nif_ne hC dX7_says_82 (tgt := 92) (by decide) (by omega) (fun c82 => ?_) (fun c82 => ?_)
  · exact absurd c82 (fun z => z rfl)
  refine z_aload_n hC dX7_says_85 rfl ?_
  refine z_bipush hC dX7_says_86 (v := -4) rfl ?_
  refine wVv hC dX7_says_88 zlX7_107 (c_X7_refuse hS (j := 2) (by decide) (by decide)) (hS _) rfl rfl rfl rfl rfl rfl ⟨rfl, rfl⟩ ?_
  refine z_iret hC dX7_says_91 ?_
  exact hE.to (by rfl) rfl rfl rfl

theorem w_says_r (hS : ∀ k, S 0 k = msh 0 k) (hO : DOK D) (hM : MMe qe D I X Y) {s y : Nat} (hs : s < 8) (hy : y ≤ 5) {q : Nat} (hq : q ≤ 4) {n : Nat} {el : Nat → Int64} (hh : rwM s q n el X Y) : zC0 mX7_says 6 [zr 0 0, zi (nI s), zi (nI y)] (some (zi (-3))) ad S I X Y sz I (rmX 0 1 X) Y := by
  refine zgo (own := RX7) (k := 1) (by decide +kernel) rfl rfl rfl (fun C hC hnm hE => ?_)
  have hm := hM.1
  have hR := hO.1
  have hmo := hm
  have hn14 := hR.1
  have hn8 := hR.2.1
  have hn6 := hR.2.2.1
  refine z_iload_n hC dX7_says_0 rfl ?_
  refine z_n2m hC dX7_says_1 (by omega) ?_
  refine z_lconst hC dX7_says_2 (v := lN 0) rfl ?_
  refine z_ldc2 hC dX7_says_3 (v := lN 7) (zin5 (i := 110) rfl rfl) ?_
  refine wSv hC dX7_says_6 zlX7_97 (c_X7_inN (by omega) (by omega) (by omega)) rfl rfl rfl rfl ⟨rfl, rfl⟩ ?_
  refine w_ifb_eq hC dX7_says_9 (tgt := 24) (by decide) (fun c9 => ?_) (fun c9 => ?_)
  · exact absurd c9 (by omega)
  refine z_iload_n hC dX7_says_12 rfl ?_
  refine z_n2m hC dX7_says_13 (by omega) ?_
  refine z_lconst hC dX7_says_14 (v := lN 0) rfl ?_
  refine z_ldc2 hC dX7_says_15 (v := lN 5) (zin5 (i := 155) rfl rfl) ?_
  refine wSv hC dX7_says_18 zlX7_97 (c_X7_inN (by omega) (by omega) (by omega)) rfl rfl rfl rfl ⟨rfl, rfl⟩ ?_
  refine w_ifb_ne hC dX7_says_21 (tgt := 31) (by decide) (fun c21 => ?_) (fun c21 => ?_)
  rotate_left
  · exact absurd c21 (by omega)
  refine z_aload_n hC dX7_says_31 rfl ?_
  refine z_getR hC dX7_says_32 (hS _) zfX7_7 rfl ?_
  refine z_iload_n hC dX7_says_35 rfl ?_
  refine z_naldN hC dX7_says_36 (hS _) (by omega) rfl hh.1 ?_
  refine z_iconst hC dX7_says_37 (v := nI 1) rfl ?_
  refine z_nicmp_eq hC dX7_says_38 (tgt := 69) (by decide) (by omega) (by omega) (fun c38 => ?_) (fun c38 => ?_)
  rotate_left
  · exact absurd c38 (by omega)
  refine z_aload_n hC dX7_says_69 rfl ?_
  refine z_bipush hC dX7_says_70 (v := -3) rfl ?_
  refine wVv hC dX7_says_72 zlX7_107 (c_X7_refuse hS (j := 1) (by decide) (by decide)) (hS _) rfl rfl rfl rfl rfl rfl ⟨rfl, rfl⟩ ?_
  refine z_iret hC dX7_says_75 ?_
  exact hE.to (by rfl) rfl rfl rfl

theorem w_says_u (hS : ∀ k, S 0 k = msh 0 k) (hO : DOK D) (hM : MMe qe D I X Y) {s y : Nat} (hs : s < 8) (hy : y ≤ 5) {b : Nat} (hb : b < D.1.1 0) (hh : shwM s b X) (hu : ¬ undN (D.1.2.1 0 b) y) : zC0 mX7_says 6 [zr 0 0, zi (nI s), zi (nI y)] (some (zi (-3))) ad S I X Y sz I (rmX 0 1 X) Y := by
  refine zgo (own := RX7) (k := 1) (by decide +kernel) rfl rfl rfl (fun C hC hnm hE => ?_)
  have hm := hM.1
  have hR := hO.1
  have hmo := hm
  have hn14 := hR.1
  have hn8 := hR.2.1
  have hn6 := hR.2.2.1
  have hbb := hR.2.2.2.2.2.2.1 b hb
  refine z_iload_n hC dX7_says_0 rfl ?_
  refine z_n2m hC dX7_says_1 (by omega) ?_
  refine z_lconst hC dX7_says_2 (v := lN 0) rfl ?_
  refine z_ldc2 hC dX7_says_3 (v := lN 7) (zin5 (i := 110) rfl rfl) ?_
  refine wSv hC dX7_says_6 zlX7_97 (c_X7_inN (by omega) (by omega) (by omega)) rfl rfl rfl rfl ⟨rfl, rfl⟩ ?_
  refine w_ifb_eq hC dX7_says_9 (tgt := 24) (by decide) (fun c9 => ?_) (fun c9 => ?_)
  · exact absurd c9 (by omega)
  refine z_iload_n hC dX7_says_12 rfl ?_
  refine z_n2m hC dX7_says_13 (by omega) ?_
  refine z_lconst hC dX7_says_14 (v := lN 0) rfl ?_
  refine z_ldc2 hC dX7_says_15 (v := lN 5) (zin5 (i := 155) rfl rfl) ?_
  refine wSv hC dX7_says_18 zlX7_97 (c_X7_inN (by omega) (by omega) (by omega)) rfl rfl rfl rfl ⟨rfl, rfl⟩ ?_
  refine w_ifb_ne hC dX7_says_21 (tgt := 31) (by decide) (fun c21 => ?_) (fun c21 => ?_)
  rotate_left
  · exact absurd c21 (by omega)
  refine z_aload_n hC dX7_says_31 rfl ?_
  refine z_getR hC dX7_says_32 (hS _) zfX7_7 rfl ?_
  refine z_iload_n hC dX7_says_35 rfl ?_
  refine z_naldN hC dX7_says_36 (hS _) (by omega) rfl hh.1 ?_
  refine z_iconst hC dX7_says_37 (v := nI 1) rfl ?_
  refine z_nicmp_eq hC dX7_says_38 (tgt := 69) (by decide) (by omega) (by omega) (fun c38 => ?_) (fun c38 => ?_)
  · exact absurd c38 (by omega)
  refine z_aload_n hC dX7_says_41 rfl ?_
  refine z_getR hC dX7_says_42 (hS _) zfX7_7 rfl ?_
  refine z_iload_n hC dX7_says_45 rfl ?_
  refine z_naldN hC dX7_says_46 (hS _) (by omega) rfl hh.1 ?_
  refine z_iconst hC dX7_says_47 (v := nI 2) rfl ?_
  refine z_nicmp_ne hC dX7_says_48 (tgt := 76) (by decide) (by omega) (by omega) (fun c48 => ?_) (fun c48 => ?_)
  · exact absurd c48 (by omega)
  refine z_aload_n hC dX7_says_51 rfl ?_
  refine z_getR hC dX7_says_52 (hS _) zfX7_37 rfl ?_
  refine z_aload_n hC dX7_says_55 rfl ?_
  refine z_getR hC dX7_says_56 (hS _) zfX7_28 rfl ?_
  refine z_iload_n hC dX7_says_59 rfl ?_
  refine z_naldN hC dX7_says_60 (hS _) (by omega) rfl hh.2 ?_
  refine z_naldN hC dX7_says_61 (hS _) (by omega) rfl (show _ = nI (D.1.2.1 0 _) from hm.2.1 0 _ (by decide) (by omega)) ?_
  refine z_iload_n hC dX7_says_62 rfl ?_
  refine wSv hC dX7_says_63 zlX7_124 (c_X7_isUnder (by omega) hy) rfl rfl rfl rfl ⟨rfl, rfl⟩ ?_
  refine w_ifb_ne hC dX7_says_66 (tgt := 76) (by decide) (fun c66 => ?_) (fun c66 => ?_)
  · exact absurd c66 hu
  refine z_aload_n hC dX7_says_69 rfl ?_
  refine z_bipush hC dX7_says_70 (v := -3) rfl ?_
  refine wVv hC dX7_says_72 zlX7_107 (c_X7_refuse hS (j := 1) (by decide) (by decide)) (hS _) rfl rfl rfl rfl rfl rfl ⟨rfl, rfl⟩ ?_
  refine z_iret hC dX7_says_75 ?_
  exact hE.to (by rfl) rfl rfl rfl

theorem w_says_t (hS : ∀ k, S 0 k = msh 0 k) (hO : DOK D) (hM : MMe qe D I X Y) {s y : Nat} (hs : s < 8) (hy : y ≤ 5) {b : Nat} (hb : b < D.1.1 0) (hh : shwM s b X) (hu : undN (D.1.2.1 0 b) y) : zC0 mX7_says 6 [zr 0 0, zi (nI s), zi (nI y)] (some (zi (if y = 0 then nI (D.1.2.1 2 b) else if y = 2 then nI (rfall D.1 1 b) else if y = 5 then nI (D.1.2.1 3 b) else nI (rfall D.1 (D.1.1 3) b)))) ad S I X Y sz I X Y := by
  refine zgo (own := RX7) (k := 1) (by decide +kernel) rfl rfl rfl (fun C hC hnm hE => ?_)
  have hm := hM.1
  have hR := hO.1
  have hmo := hm
  have hn14 := hR.1
  have hn8 := hR.2.1
  have hn6 := hR.2.2.1
  have hbb := hR.2.2.2.2.2.2.1 b hb
  refine z_iload_n hC dX7_says_0 rfl ?_
  refine z_n2m hC dX7_says_1 (by omega) ?_
  refine z_lconst hC dX7_says_2 (v := lN 0) rfl ?_
  refine z_ldc2 hC dX7_says_3 (v := lN 7) (zin5 (i := 110) rfl rfl) ?_
  refine wSv hC dX7_says_6 zlX7_97 (c_X7_inN (by omega) (by omega) (by omega)) rfl rfl rfl rfl ⟨rfl, rfl⟩ ?_
  refine w_ifb_eq hC dX7_says_9 (tgt := 24) (by decide) (fun c9 => ?_) (fun c9 => ?_)
  · exact absurd c9 (by omega)
  refine z_iload_n hC dX7_says_12 rfl ?_
  refine z_n2m hC dX7_says_13 (by omega) ?_
  refine z_lconst hC dX7_says_14 (v := lN 0) rfl ?_
  refine z_ldc2 hC dX7_says_15 (v := lN 5) (zin5 (i := 155) rfl rfl) ?_
  refine wSv hC dX7_says_18 zlX7_97 (c_X7_inN (by omega) (by omega) (by omega)) rfl rfl rfl rfl ⟨rfl, rfl⟩ ?_
  refine w_ifb_ne hC dX7_says_21 (tgt := 31) (by decide) (fun c21 => ?_) (fun c21 => ?_)
  rotate_left
  · exact absurd c21 (by omega)
  refine z_aload_n hC dX7_says_31 rfl ?_
  refine z_getR hC dX7_says_32 (hS _) zfX7_7 rfl ?_
  refine z_iload_n hC dX7_says_35 rfl ?_
  refine z_naldN hC dX7_says_36 (hS _) (by omega) rfl hh.1 ?_
  refine z_iconst hC dX7_says_37 (v := nI 1) rfl ?_
  refine z_nicmp_eq hC dX7_says_38 (tgt := 69) (by decide) (by omega) (by omega) (fun c38 => ?_) (fun c38 => ?_)
  · exact absurd c38 (by omega)
  refine z_aload_n hC dX7_says_41 rfl ?_
  refine z_getR hC dX7_says_42 (hS _) zfX7_7 rfl ?_
  refine z_iload_n hC dX7_says_45 rfl ?_
  refine z_naldN hC dX7_says_46 (hS _) (by omega) rfl hh.1 ?_
  refine z_iconst hC dX7_says_47 (v := nI 2) rfl ?_
  refine z_nicmp_ne hC dX7_says_48 (tgt := 76) (by decide) (by omega) (by omega) (fun c48 => ?_) (fun c48 => ?_)
  · exact absurd c48 (by omega)
  refine z_aload_n hC dX7_says_51 rfl ?_
  refine z_getR hC dX7_says_52 (hS _) zfX7_37 rfl ?_
  refine z_aload_n hC dX7_says_55 rfl ?_
  refine z_getR hC dX7_says_56 (hS _) zfX7_28 rfl ?_
  refine z_iload_n hC dX7_says_59 rfl ?_
  refine z_naldN hC dX7_says_60 (hS _) (by omega) rfl hh.2 ?_
  refine z_naldN hC dX7_says_61 (hS _) (by omega) rfl (show _ = nI (D.1.2.1 0 _) from hm.2.1 0 _ (by decide) (by omega)) ?_
  refine z_iload_n hC dX7_says_62 rfl ?_
  refine wSv hC dX7_says_63 zlX7_124 (c_X7_isUnder (by omega) hy) rfl rfl rfl rfl ⟨rfl, rfl⟩ ?_
  refine w_ifb_ne hC dX7_says_66 (tgt := 76) (by decide) (fun c66 => ?_) (fun c66 => ?_)
  rotate_left
  · exact absurd c66 (fun z => z hu)
  refine z_aload_n hC dX7_says_76 rfl ?_
  refine z_getR hC dX7_says_77 (hS _) zfX7_7 rfl ?_
  refine z_iload_n hC dX7_says_80 rfl ?_
  refine z_naldN hC dX7_says_81 (hS _) (by omega) rfl hh.1 ?_
  refine z_nif_ne hC dX7_says_82 (tgt := 92) (by decide) (by omega) (fun c82 => ?_) (fun c82 => ?_)
  rotate_left
  · exact absurd c82 (by omega)
  refine z_aload_n hC dX7_says_92 rfl ?_
  refine z_getR hC dX7_says_93 (hS _) zfX7_28 rfl ?_
  refine z_iload_n hC dX7_says_96 rfl ?_
  refine z_naldN hC dX7_says_97 (hS _) (by omega) rfl hh.2 ?_
  refine z_istore_n hC dX7_says_98 (lo2 := [_, _, _, _]) (Nat.le_of_ble_eq_true rfl) rfl rfl ?_
  refine z_iload_n hC dX7_says_99 rfl ?_
  by_cases s100_0 : y = 0
  · refine z_lkK hC dX7_says_100 (v := nI 0) (by rw [s100_0]) rfl (off := 36) rfl (tgt := 136) (by decide) ?_
    refine z_aload_n hC dX7_says_136 rfl ?_
    refine z_getR hC dX7_says_137 (hS _) zfX7_43 rfl ?_
    refine z_iload_n hC dX7_says_140 rfl ?_
    refine z_naldN hC dX7_says_141 (hS _) (by omega) rfl (show _ = nI (D.1.2.1 2 _) from hm.2.1 2 _ (by decide) (by omega)) ?_
    refine z_iret hC dX7_says_142 ?_
    exact hE.to (by simp [*]) rfl rfl rfl
  by_cases s100_2 : y = 2
  · refine z_lkK hC dX7_says_100 (v := nI 2) (by rw [s100_2]) rfl (off := 43) rfl (tgt := 143) (by decide) ?_
    refine z_aload_n hC dX7_says_143 rfl ?_
    refine z_iload_n hC dX7_says_144 rfl ?_
    refine z_iconst hC dX7_says_145 (v := nI 1) rfl ?_
    refine wVv hC dX7_says_146 zlX7_128 (c_X7_fallOf hS hm hR hb (by omega)) (hS _) rfl rfl rfl rfl rfl rfl ⟨rfl, rfl⟩ ?_
    refine z_iret hC dX7_says_149 ?_
    exact hE.to (by simp [*]) rfl rfl rfl
  by_cases s100_5 : y = 5
  · refine z_lkK hC dX7_says_100 (v := nI 5) (by rw [s100_5]) rfl (off := 50) rfl (tgt := 150) (by decide) ?_
    refine z_aload_n hC dX7_says_150 rfl ?_
    refine z_getR hC dX7_says_151 (hS _) zfX7_46 rfl ?_
    refine z_iload_n hC dX7_says_154 rfl ?_
    refine z_naldN hC dX7_says_155 (hS _) (by omega) rfl (show _ = nI (D.1.2.1 3 _) from hm.2.1 3 _ (by decide) (by omega)) ?_
    refine z_iret hC dX7_says_156 ?_
    exact hE.to (by simp [*]) rfl rfl rfl
  refine z_lookup hC dX7_says_100 rfl (off := 57) (zlk_out (by rw [nI_toInt (by omega)]; intro q hq; simp at hq; rcases hq with rfl | rfl | rfl <;> simp <;> omega)) (tgt := 157) (by decide) ?_
  refine z_aload_n hC dX7_says_157 rfl ?_
  refine z_iload_n hC dX7_says_158 rfl ?_
  refine z_aload_n hC dX7_says_159 rfl ?_
  refine z_getN hC dX7_says_160 (hS _) zfX7_70 rfl hm.1.2.2.2.1 ?_
  refine wVv hC dX7_says_163 zlX7_128 (c_X7_fallOf hS hm hR hb hR.2.2.2.1.2) (hS _) rfl rfl rfl rfl rfl rfl ⟨rfl, rfl⟩ ?_
  refine z_iret hC dX7_says_166 ?_
  exact hE.to (by simp [*]) rfl rfl rfl

theorem w_says_g (hS : ∀ k, S 0 k = msh 0 k) (hO : DOK D) (hM : MMe qe D I X Y) {s : Nat} {y : Int32} (hs : s < 8) (hx : ¬ iw y 0 5) : zC0 mX7_says 6 [zr 0 0, zi (nI s), zi y] (some (zi (-2))) ad S I X Y sz I (rmX 0 0 X) Y := by
  refine zgo (own := RX7) (k := 1) (by decide +kernel) rfl rfl rfl (fun C hC hnm hE => ?_)
  have hm := hM.1
  have hR := hO.1
  have hmo := hm
  have hn14 := hR.1
  have hn8 := hR.2.1
  have hn6 := hR.2.2.1
  refine z_iload_n hC dX7_says_0 rfl ?_
  refine z_n2m hC dX7_says_1 (by omega) ?_
  refine z_lconst hC dX7_says_2 (v := lN 0) rfl ?_
  refine z_ldc2 hC dX7_says_3 (v := lN 7) (zin5 (i := 110) rfl rfl) ?_
  refine wSv hC dX7_says_6 zlX7_97 (c_X7_inN (by omega) (by omega) (by omega)) rfl rfl rfl rfl ⟨rfl, rfl⟩ ?_
  refine w_ifb_eq hC dX7_says_9 (tgt := 24) (by decide) (fun c9 => ?_) (fun c9 => ?_)
  · exact absurd c9 (by omega)
  refine z_iload_n hC dX7_says_12 rfl ?_
  refine z_i2l hC dX7_says_13  ?_
  refine z_lconst hC dX7_says_14 (v := lN 0) rfl ?_
  refine z_ldc2 hC dX7_says_15 (v := lN 5) (zin5 (i := 155) rfl rfl) ?_
  refine wSv hC dX7_says_18 zlX7_97 (c_X7_inI (by omega) (by omega)) rfl rfl rfl rfl ⟨rfl, rfl⟩ ?_
  refine w_ifb_ne hC dX7_says_21 (tgt := 31) (by decide) (fun c21 => ?_) (fun c21 => ?_)
  · exact absurd c21 hx
  refine z_aload_n hC dX7_says_24 rfl ?_
  refine z_bipush hC dX7_says_25 (v := -2) rfl ?_
  refine wVv hC dX7_says_27 zlX7_107 (c_X7_refuse hS (j := 0) (by decide) (by decide)) (hS _) rfl rfl rfl rfl rfl rfl ⟨rfl, rfl⟩ ?_
  refine z_iret hC dX7_says_30 ?_
  exact hE.to (by rfl) rfl rfl rfl

theorem w_says_f (hS : ∀ k, S 0 k = msh 0 k) (hO : DOK D) (hM : MMe qe D I X Y) {x y : Int32} (hx : ¬ inB x 8) : zC0 mX7_says 6 [zr 0 0, zi x, zi y] (some (zi (-2))) ad S I X Y sz I (rmX 0 0 X) Y := by
  refine zgo (own := RX7) (k := 1) (by decide +kernel) rfl rfl rfl (fun C hC hnm hE => ?_)
  have hm := hM.1
  have hR := hO.1
  have hmo := hm
  have hn14 := hR.1
  have hn8 := hR.2.1
  have hn6 := hR.2.2.1
  refine z_iload_n hC dX7_says_0 rfl ?_
  refine z_i2l hC dX7_says_1  ?_
  refine z_lconst hC dX7_says_2 (v := lN 0) rfl ?_
  refine z_ldc2 hC dX7_says_3 (v := lN 7) (zin5 (i := 110) rfl rfl) ?_
  refine wSv hC dX7_says_6 zlX7_97 (c_X7_inI (by omega) (by omega)) rfl rfl rfl rfl ⟨rfl, rfl⟩ ?_
  refine w_ifb_eq hC dX7_says_9 (tgt := 24) (by decide) (fun c9 => ?_) (fun c9 => ?_)
  rotate_left
  · exact absurd c9 (fun z => hx ((iwB (by decide)).mp z))
  refine z_aload_n hC dX7_says_24 rfl ?_
  refine z_bipush hC dX7_says_25 (v := -2) rfl ?_
  refine wVv hC dX7_says_27 zlX7_107 (c_X7_refuse hS (j := 0) (by decide) (by decide)) (hS _) rfl rfl rfl rfl rfl rfl ⟨rfl, rfl⟩ ?_
  refine z_iret hC dX7_says_30 ?_
  exact hE.to (by rfl) rfl rfl rfl

theorem m_says (hS : ∀ k, S 0 k = msh 0 k) (hO : DOK D) (hM : MMe qe D I X Y) {x y : Int32} : mC mX7_says 6 [zr 0 0, zi x, zi y] (some (zi (saysS D x y).1)) (saysS D x y).2 ad S I X Y sz qe := by
  unfold saysS
  by_cases hx : inB x 8
  · obtain ⟨s, hs, rfl, e1⟩ := inB_e hx (by decide)
    by_cases hy : iw y 0 5
    · rw [if_pos ⟨hx, hy⟩, e1]
      obtain ⟨y, -, hy5, rfl, e2⟩ := iw_e hy (by decide) (by decide)
      rw [e2]
      rcases sh_stM hO hM hs with ⟨h1, h2⟩ | ⟨q, hq, h1, h2⟩ | ⟨b, hb, h1, h2⟩
      · rw [h1]
        exact ⟨_, _, _, hM.rf (by decide), w_says_n hS hO hM hs hy5 h2⟩
      · rw [h1]
        dsimp only
        rw [if_neg (by omega)]
        exact ⟨_, _, _, hM.rf (by decide), w_says_r hS hO hM hs hy5 hq h2⟩
      · rw [h1]
        dsimp only
        rw [show 10 + b - 10 = b by omega]
        by_cases hu : undN (D.1.2.1 0 b) y
        · rw [if_pos ⟨by omega, hu⟩]
          exact ⟨_, _, _, hM, w_says_t hS hO hM hs hy5 hb h2 hu⟩
        · rw [if_neg (fun z => hu z.2)]
          exact ⟨_, _, _, hM.rf (by decide), w_says_u hS hO hM hs hy5 hb h2 hu⟩
    · rw [if_neg (fun z => hy z.2)]
      exact ⟨_, _, _, hM.rf (by decide), w_says_g hS hO hM hs hy⟩
  · rw [if_neg (fun z => hx z.1)]
    exact ⟨_, _, _, hM.rf (by decide), w_says_f hS hO hM hx⟩

theorem c_noList_n (hS : ∀ k, S 0 k = msh 0 k) {s m : Nat} (hs : s < 8) (hm4 : m ≤ 40) (hh : X 0 1 s = nI 0) : zC0 mX7_noList 4 [zr 0 0, zi (nI s), zi (nI m)] (some (zi (-4))) ad S I X Y sz I (rmX 0 2 X) Y := by
  refine zgo (own := RX7) (k := 1) (by decide +kernel) rfl rfl rfl (fun C hC hnm hE => ?_)
  refine z_iload_n hC dX7_noList_0 rfl ?_
  refine z_n2m hC dX7_noList_1 (by omega) ?_
  refine z_lconst hC dX7_noList_2 (v := lN 0) rfl ?_
  refine z_ldc2 hC dX7_noList_3 (v := lN 7) (zin5 (i := 110) rfl rfl) ?_
  refine wSv hC dX7_noList_6 zlX7_97 (c_X7_inN (by omega) (by omega) (by omega)) rfl rfl rfl rfl ⟨rfl, rfl⟩ ?_
  refine w_ifb_eq hC dX7_noList_9 (tgt := 24) (by decide) (fun c9 => ?_) (fun c9 => ?_)
  · exact absurd c9 (by omega)
  refine z_iload_n hC dX7_noList_12 rfl ?_
  refine z_n2m hC dX7_noList_13 (by omega) ?_
  refine z_lconst hC dX7_noList_14 (v := lN 0) rfl ?_
  refine z_ldc2 hC dX7_noList_15 (v := lN 40) (zin5 (i := 115) rfl rfl) ?_
  refine wSv hC dX7_noList_18 zlX7_97 (c_X7_inN (by omega) (by omega) (by omega)) rfl rfl rfl rfl ⟨rfl, rfl⟩ ?_
  refine w_ifb_ne hC dX7_noList_21 (tgt := 31) (by decide) (fun c21 => ?_) (fun c21 => ?_)
  rotate_left
  · exact absurd c21 (by omega)
  refine z_aload_n hC dX7_noList_31 rfl ?_
  refine z_iload_n hC dX7_noList_32 rfl ?_
  refine wVv hC dX7_noList_33 zlX7_111 (c_noRow_n hS hs hh) (hS _) rfl rfl rfl rfl rfl rfl ⟨rfl, rfl⟩ ?_
  refine z_istore_n hC dX7_noList_36 (lo2 := [_, _, _, _]) (Nat.le_of_ble_eq_true rfl) rfl rfl ?_
  refine z_iload_n hC dX7_noList_37 rfl ?_
  refine z_if_eq hC dX7_noList_38 (tgt := 43) (by decide) (fun c38 => ?_) (fun c38 => ?_)
  · exact absurd c38 (by decide)
  refine z_iload_n hC dX7_noList_41 rfl ?_
  refine z_iret hC dX7_noList_42 ?_
  exact hE.to (by rfl) rfl rfl rfl

theorem c_noList_b (hS : ∀ k, S 0 k = msh 0 k) {s m : Nat} (hs : s < 8) (hm4 : m ≤ 40) {b : Nat} (hb : b < 14) (hh : shwM s b X) : zC0 mX7_noList 4 [zr 0 0, zi (nI s), zi (nI m)] (some (zi (-3))) ad S I X Y sz I (rmX 0 1 X) Y := by
  refine zgo (own := RX7) (k := 1) (by decide +kernel) rfl rfl rfl (fun C hC hnm hE => ?_)
  refine z_iload_n hC dX7_noList_0 rfl ?_
  refine z_n2m hC dX7_noList_1 (by omega) ?_
  refine z_lconst hC dX7_noList_2 (v := lN 0) rfl ?_
  refine z_ldc2 hC dX7_noList_3 (v := lN 7) (zin5 (i := 110) rfl rfl) ?_
  refine wSv hC dX7_noList_6 zlX7_97 (c_X7_inN (by omega) (by omega) (by omega)) rfl rfl rfl rfl ⟨rfl, rfl⟩ ?_
  refine w_ifb_eq hC dX7_noList_9 (tgt := 24) (by decide) (fun c9 => ?_) (fun c9 => ?_)
  · exact absurd c9 (by omega)
  refine z_iload_n hC dX7_noList_12 rfl ?_
  refine z_n2m hC dX7_noList_13 (by omega) ?_
  refine z_lconst hC dX7_noList_14 (v := lN 0) rfl ?_
  refine z_ldc2 hC dX7_noList_15 (v := lN 40) (zin5 (i := 115) rfl rfl) ?_
  refine wSv hC dX7_noList_18 zlX7_97 (c_X7_inN (by omega) (by omega) (by omega)) rfl rfl rfl rfl ⟨rfl, rfl⟩ ?_
  refine w_ifb_ne hC dX7_noList_21 (tgt := 31) (by decide) (fun c21 => ?_) (fun c21 => ?_)
  rotate_left
  · exact absurd c21 (by omega)
  refine z_aload_n hC dX7_noList_31 rfl ?_
  refine z_iload_n hC dX7_noList_32 rfl ?_
  refine wVv hC dX7_noList_33 zlX7_111 (c_noRow_b hS hs hh.1) (hS _) rfl rfl rfl rfl rfl rfl ⟨rfl, rfl⟩ ?_
  refine z_istore_n hC dX7_noList_36 (lo2 := [_, _, _, _]) (Nat.le_of_ble_eq_true rfl) rfl rfl ?_
  refine z_iload_n hC dX7_noList_37 rfl ?_
  refine z_if_eq hC dX7_noList_38 (tgt := 43) (by decide) (fun c38 => ?_) (fun c38 => ?_)
  · exact absurd c38 (by decide)
  refine z_iload_n hC dX7_noList_41 rfl ?_
  refine z_iret hC dX7_noList_42 ?_
  exact hE.to (by rfl) rfl rfl rfl

theorem c_noList_l (hS : ∀ k, S 0 k = msh 0 k) {s m : Nat} (hs : s < 8) (hm4 : m ≤ 40) {q : Nat} (hq : q ≤ 4) {n : Nat} {el : Nat → Int64} (hh : rwM s q n el X Y) (hn40 : n ≤ 40) (hmn : n < m) : zC0 mX7_noList 4 [zr 0 0, zi (nI s), zi (nI m)] (some (zi (-2))) ad S I X Y sz I (rmX 0 0 X) Y := by
  refine zgo (own := RX7) (k := 1) (by decide +kernel) rfl rfl rfl (fun C hC hnm hE => ?_)
  refine z_iload_n hC dX7_noList_0 rfl ?_
  refine z_n2m hC dX7_noList_1 (by omega) ?_
  refine z_lconst hC dX7_noList_2 (v := lN 0) rfl ?_
  refine z_ldc2 hC dX7_noList_3 (v := lN 7) (zin5 (i := 110) rfl rfl) ?_
  refine wSv hC dX7_noList_6 zlX7_97 (c_X7_inN (by omega) (by omega) (by omega)) rfl rfl rfl rfl ⟨rfl, rfl⟩ ?_
  refine w_ifb_eq hC dX7_noList_9 (tgt := 24) (by decide) (fun c9 => ?_) (fun c9 => ?_)
  · exact absurd c9 (by omega)
  refine z_iload_n hC dX7_noList_12 rfl ?_
  refine z_n2m hC dX7_noList_13 (by omega) ?_
  refine z_lconst hC dX7_noList_14 (v := lN 0) rfl ?_
  refine z_ldc2 hC dX7_noList_15 (v := lN 40) (zin5 (i := 115) rfl rfl) ?_
  refine wSv hC dX7_noList_18 zlX7_97 (c_X7_inN (by omega) (by omega) (by omega)) rfl rfl rfl rfl ⟨rfl, rfl⟩ ?_
  refine w_ifb_ne hC dX7_noList_21 (tgt := 31) (by decide) (fun c21 => ?_) (fun c21 => ?_)
  rotate_left
  · exact absurd c21 (by omega)
  refine z_aload_n hC dX7_noList_31 rfl ?_
  refine z_iload_n hC dX7_noList_32 rfl ?_
  refine wVv hC dX7_noList_33 zlX7_111 (c_noRow_r hS hs hh.1) (hS _) rfl rfl rfl rfl rfl rfl ⟨rfl, rfl⟩ ?_
  refine z_istore_n hC dX7_noList_36 (lo2 := [_, _, _, _]) (Nat.le_of_ble_eq_true rfl) rfl rfl ?_
  refine z_iload_n hC dX7_noList_37 rfl ?_
  refine z_nif_eq hC dX7_noList_38 (tgt := 43) (by decide) (by omega) (fun c38 => ?_) (fun c38 => ?_)
  rotate_left
  · exact absurd c38 (fun z => z rfl)
  refine z_aload_n hC dX7_noList_43 rfl ?_
  refine z_getR hC dX7_noList_44 (hS _) zfX7_16 rfl ?_
  refine z_iload_n hC dX7_noList_47 rfl ?_
  refine z_naldN hC dX7_noList_48 (hS _) (by omega) rfl hh.2.2.1 ?_
  refine z_iload_n hC dX7_noList_49 rfl ?_
  refine z_nicmp_ge hC dX7_noList_50 (tgt := 62) (by decide) (by omega) (by omega) (fun c50 => ?_) (fun c50 => ?_)
  · exact absurd c50 (by omega)
  refine z_aload_n hC dX7_noList_53 rfl ?_
  refine z_bipush hC dX7_noList_54 (v := -2) rfl ?_
  refine wVv hC dX7_noList_56 zlX7_107 (c_X7_refuse hS (j := 0) (by decide) (by decide)) (hS _) rfl rfl rfl rfl rfl rfl ⟨rfl, rfl⟩ ?_
  refine z_goto hC dX7_noList_59 (tgt := 63) (by decide) ?_
  refine z_iret hC dX7_noList_63 ?_
  exact hE.to (by rfl) rfl rfl rfl

theorem c_noList_t (hS : ∀ k, S 0 k = msh 0 k) {s m : Nat} (hs : s < 8) (hm4 : m ≤ 40) {q : Nat} (hq : q ≤ 4) {n : Nat} {el : Nat → Int64} (hh : rwM s q n el X Y) (hn40 : n ≤ 40) (hmn : m ≤ n) : zC0 mX7_noList 4 [zr 0 0, zi (nI s), zi (nI m)] (some (zi (nI 0))) ad S I X Y sz I X Y := by
  refine zgo (own := RX7) (k := 1) (by decide +kernel) rfl rfl rfl (fun C hC hnm hE => ?_)
  refine z_iload_n hC dX7_noList_0 rfl ?_
  refine z_n2m hC dX7_noList_1 (by omega) ?_
  refine z_lconst hC dX7_noList_2 (v := lN 0) rfl ?_
  refine z_ldc2 hC dX7_noList_3 (v := lN 7) (zin5 (i := 110) rfl rfl) ?_
  refine wSv hC dX7_noList_6 zlX7_97 (c_X7_inN (by omega) (by omega) (by omega)) rfl rfl rfl rfl ⟨rfl, rfl⟩ ?_
  refine w_ifb_eq hC dX7_noList_9 (tgt := 24) (by decide) (fun c9 => ?_) (fun c9 => ?_)
  · exact absurd c9 (by omega)
  refine z_iload_n hC dX7_noList_12 rfl ?_
  refine z_n2m hC dX7_noList_13 (by omega) ?_
  refine z_lconst hC dX7_noList_14 (v := lN 0) rfl ?_
  refine z_ldc2 hC dX7_noList_15 (v := lN 40) (zin5 (i := 115) rfl rfl) ?_
  refine wSv hC dX7_noList_18 zlX7_97 (c_X7_inN (by omega) (by omega) (by omega)) rfl rfl rfl rfl ⟨rfl, rfl⟩ ?_
  refine w_ifb_ne hC dX7_noList_21 (tgt := 31) (by decide) (fun c21 => ?_) (fun c21 => ?_)
  rotate_left
  · exact absurd c21 (by omega)
  refine z_aload_n hC dX7_noList_31 rfl ?_
  refine z_iload_n hC dX7_noList_32 rfl ?_
  refine wVv hC dX7_noList_33 zlX7_111 (c_noRow_r hS hs hh.1) (hS _) rfl rfl rfl rfl rfl rfl ⟨rfl, rfl⟩ ?_
  refine z_istore_n hC dX7_noList_36 (lo2 := [_, _, _, _]) (Nat.le_of_ble_eq_true rfl) rfl rfl ?_
  refine z_iload_n hC dX7_noList_37 rfl ?_
  refine z_nif_eq hC dX7_noList_38 (tgt := 43) (by decide) (by omega) (fun c38 => ?_) (fun c38 => ?_)
  rotate_left
  · exact absurd c38 (fun z => z rfl)
  refine z_aload_n hC dX7_noList_43 rfl ?_
  refine z_getR hC dX7_noList_44 (hS _) zfX7_16 rfl ?_
  refine z_iload_n hC dX7_noList_47 rfl ?_
  refine z_naldN hC dX7_noList_48 (hS _) (by omega) rfl hh.2.2.1 ?_
  refine z_iload_n hC dX7_noList_49 rfl ?_
  refine z_nicmp_ge hC dX7_noList_50 (tgt := 62) (by decide) (by omega) (by omega) (fun c50 => ?_) (fun c50 => ?_)
  rotate_left
  · exact absurd c50 (by omega)
  refine z_iconst hC dX7_noList_62 (v := nI 0) rfl ?_
  refine z_iret hC dX7_noList_63 ?_
  exact hE.to (by rfl) rfl rfl rfl

theorem c_noList_w (hS : ∀ k, S 0 k = msh 0 k) {s : Nat} {y : Int32} (hs : s < 8) (hy : ¬ inB y 41) : zC0 mX7_noList 4 [zr 0 0, zi (nI s), zi y] (some (zi (-2))) ad S I X Y sz I (rmX 0 0 X) Y := by
  refine zgo (own := RX7) (k := 1) (by decide +kernel) rfl rfl rfl (fun C hC hnm hE => ?_)
  refine z_iload_n hC dX7_noList_0 rfl ?_
  refine z_n2m hC dX7_noList_1 (by omega) ?_
  refine z_lconst hC dX7_noList_2 (v := lN 0) rfl ?_
  refine z_ldc2 hC dX7_noList_3 (v := lN 7) (zin5 (i := 110) rfl rfl) ?_
  refine wSv hC dX7_noList_6 zlX7_97 (c_X7_inN (by omega) (by omega) (by omega)) rfl rfl rfl rfl ⟨rfl, rfl⟩ ?_
  refine w_ifb_eq hC dX7_noList_9 (tgt := 24) (by decide) (fun c9 => ?_) (fun c9 => ?_)
  · exact absurd c9 (by omega)
  refine z_iload_n hC dX7_noList_12 rfl ?_
  refine z_i2l hC dX7_noList_13  ?_
  refine z_lconst hC dX7_noList_14 (v := lN 0) rfl ?_
  refine z_ldc2 hC dX7_noList_15 (v := lN 40) (zin5 (i := 115) rfl rfl) ?_
  refine wSv hC dX7_noList_18 zlX7_97 (c_X7_inI (by omega) (by omega)) rfl rfl rfl rfl ⟨rfl, rfl⟩ ?_
  refine w_ifb_ne hC dX7_noList_21 (tgt := 31) (by decide) (fun c21 => ?_) (fun c21 => ?_)
  · exact absurd c21 (fun z => hy ((iwB (by decide)).mp z))
  refine z_aload_n hC dX7_noList_24 rfl ?_
  refine z_bipush hC dX7_noList_25 (v := -2) rfl ?_
  refine wVv hC dX7_noList_27 zlX7_107 (c_X7_refuse hS (j := 0) (by decide) (by decide)) (hS _) rfl rfl rfl rfl rfl rfl ⟨rfl, rfl⟩ ?_
  refine z_iret hC dX7_noList_30 ?_
  exact hE.to (by rfl) rfl rfl rfl

theorem c_noList_f (hS : ∀ k, S 0 k = msh 0 k) {x y : Int32} (hx : ¬ inB x 8) : zC0 mX7_noList 4 [zr 0 0, zi x, zi y] (some (zi (-2))) ad S I X Y sz I (rmX 0 0 X) Y := by
  refine zgo (own := RX7) (k := 1) (by decide +kernel) rfl rfl rfl (fun C hC hnm hE => ?_)
  refine z_iload_n hC dX7_noList_0 rfl ?_
  refine z_i2l hC dX7_noList_1  ?_
  refine z_lconst hC dX7_noList_2 (v := lN 0) rfl ?_
  refine z_ldc2 hC dX7_noList_3 (v := lN 7) (zin5 (i := 110) rfl rfl) ?_
  refine wSv hC dX7_noList_6 zlX7_97 (c_X7_inI (by omega) (by omega)) rfl rfl rfl rfl ⟨rfl, rfl⟩ ?_
  refine w_ifb_eq hC dX7_noList_9 (tgt := 24) (by decide) (fun c9 => ?_) (fun c9 => ?_)
  rotate_left
  · exact absurd c9 (fun z => hx ((iwB (by decide)).mp z))
  refine z_aload_n hC dX7_noList_24 rfl ?_
  refine z_bipush hC dX7_noList_25 (v := -2) rfl ?_
  refine wVv hC dX7_noList_27 zlX7_107 (c_X7_refuse hS (j := 0) (by decide) (by decide)) (hS _) rfl rfl rfl rfl rfl rfl ⟨rfl, rfl⟩ ?_
  refine z_iret hC dX7_noList_30 ?_
  exact hE.to (by rfl) rfl rfl rfl

end
section
variable {ad : zA} {S : zSh} {I X : zI} {Y : zY} {sz b : Nat} {R : RS}

theorem c_X7_wrongIn (hS : ∀ k, S b k = msh b k) (hm : zQm b R I X) (hR : ROK R) {s m : Nat} (hs : s < 8) (hm4 : m ≤ 40) : zC0 mX7_wrongIn 2 [zr b 0, zr b (4 + 1 + s), zi (nI m)] (some (zi (oI (wpF (Y b (4 + 1 + s)) (lN (R.1 0)) m 0 0)))) ad S I X Y sz I X Y := by
  refine zgo (own := RX7) (k := 1) (by decide +kernel) rfl rfl rfl (fun C hC hnm hE => ?_)
  have hmo := hm
  have hn14 := hR.1
  have hn8 := hR.2.1
  have hn6 := hR.2.2.1
  refine z_iconst hC dX7_wrongIn_0 (v := nI 0) rfl ?_
  refine z_istore_n hC dX7_wrongIn_1 (lo2 := [_, _, _, _]) (Nat.le_of_ble_eq_true rfl) rfl rfl ?_
  have loop2 : ∀ (fuel : Nat) (i : Nat) (v : Int64), m - i < fuel → i ≤ m → lN 0 ≤ v → (0 < i → v = (Y b (4 + 1 + s)) (i - 1)) → (i = 0 → v = 0) → (wpF (Y b (4 + 1 + s)) (lN (R.1 0)) (m - i) i v) = (wpF (Y b (4 + 1 + s)) (lN (R.1 0)) m 0 0) → zL C 4 ad S 0 0 sz I X Y 2 [some (zr b 0), some (zr b (4 + 1 + s)), some (zi (nI m)), some (zi (nI i))] [] := by
    intro fuel
    induction fuel with
    | zero => intro i v hfu; exact absurd hfu (Nat.not_lt_zero _)
    | succ fuel ih =>
      intro i v hfu him hv0 hv1 hv2 hsp
      refine z_iload_n hC dX7_wrongIn_2 rfl ?_
      refine z_iload_n hC dX7_wrongIn_3 rfl ?_
      refine z_nicmp_ge hC dX7_wrongIn_4 (tgt := 41) (by decide) (by omega) (by omega) (fun c4 => ?_) (fun c4 => ?_)
      · skip
        refine z_iconst hC dX7_wrongIn_41 (v := -1) rfl ?_
        refine z_iret hC dX7_wrongIn_42 ?_
        exact hE.to (by rw [← hsp, show m - i = 0 by omega]; rfl) rfl rfl rfl
      refine z_aload_n hC dX7_wrongIn_7 rfl ?_
      refine z_aload_n hC dX7_wrongIn_8 rfl ?_
      refine z_iload_n hC dX7_wrongIn_9 rfl ?_
      refine z_nlald hC dX7_wrongIn_10 ((hS _).trans (msh_rows hs).1) (by omega) rfl ?_
      refine wVv hC dX7_wrongIn_11 zlX7_118 (c_X7_isBend hS hm hR) (hS _) rfl rfl rfl rfl rfl rfl ⟨rfl, rfl⟩ ?_
      refine w_ifb_eq hC dX7_wrongIn_14 (tgt := 33) (by decide) (fun c14 => ?_) (fun c14 => ?_)
      · skip
        have hww : (Y b (4 + 1 + s)) i < v ∨ lN (R.1 0) ≤ (Y b (4 + 1 + s)) i := by
          by_cases z : lN 0 ≤ (Y b (4 + 1 + s)) i
          · exact Or.inr (Int64.not_lt.mp (fun z2 => c14 ⟨z, z2⟩))
          · exact Or.inl (Int64.lt_of_lt_of_le (Int64.not_le.mp z) hv0)
        refine z_iload_n hC dX7_wrongIn_33 rfl ?_
        refine z_iret hC dX7_wrongIn_34 ?_
        exact hE.to (by rw [← hsp, show m - i = (m - (i + 1)) + 1 by omega, wpF_1 hww]; rfl) rfl rfl rfl
      refine z_iload_n hC dX7_wrongIn_17 rfl ?_
      refine z_nif_le hC dX7_wrongIn_18 (tgt := 35) (by decide) (by omega) (fun c18 => ?_) (fun c18 => ?_)
      · skip
        have hnw : ¬ ((Y b (4 + 1 + s)) i < v ∨ lN (R.1 0) ≤ (Y b (4 + 1 + s)) i) := by
          rw [hv2 (by omega)]
          exact fun z => z.elim (fun z => absurd z (Int64.not_lt.mpr c14.1)) (fun z => absurd z (Int64.not_le.mpr c14.2))
        refine z_ninc hC dX7_wrongIn_35 (lo2 := [_, _, _, _]) rfl rfl rfl rfl ?_
        refine z_goto hC dX7_wrongIn_38 (tgt := 2) (by decide) ?_
        refine ih (i + 1) ((Y b (4 + 1 + s)) i) (by omega) (by omega) c14.1 (fun _ => rfl) (fun z => absurd z (by omega)) ?_
        rw [← hsp, show m - i = (m - (i + 1)) + 1 by omega, wpF_0 hnw]
      refine z_aload_n hC dX7_wrongIn_21 rfl ?_
      refine z_iload_n hC dX7_wrongIn_22 rfl ?_
      refine z_nlald hC dX7_wrongIn_23 ((hS _).trans (msh_rows hs).1) (by omega) rfl ?_
      refine z_aload_n hC dX7_wrongIn_24 rfl ?_
      refine z_iload_n hC dX7_wrongIn_25 rfl ?_
      refine z_iconst hC dX7_wrongIn_26 (v := nI 1) rfl ?_
      refine z_nsub hC dX7_wrongIn_27 (by omega) ?_
      refine z_nlald hC dX7_wrongIn_28 ((hS _).trans (msh_rows hs).1) (by omega) rfl ?_
      refine z_lcmp hC dX7_wrongIn_29  ?_
      refine z_if_ge hC dX7_wrongIn_30 (tgt := 35) (by decide) (fun c30 => ?_) (fun c30 => ?_)
      · skip
        have hnw : ¬ ((Y b (4 + 1 + s)) i < v ∨ lN (R.1 0) ≤ (Y b (4 + 1 + s)) i) := by
          rw [hv1 (by omega)]
          exact fun z => z.elim (fun z => absurd c30 (Int32.not_le.mpr (lcl.mpr z))) (fun z => absurd z (Int64.not_le.mpr c14.2))
        refine z_ninc hC dX7_wrongIn_35 (lo2 := [_, _, _, _]) rfl rfl rfl rfl ?_
        refine z_goto hC dX7_wrongIn_38 (tgt := 2) (by decide) ?_
        refine ih (i + 1) ((Y b (4 + 1 + s)) i) (by omega) (by omega) c14.1 (fun _ => rfl) (fun z => absurd z (by omega)) ?_
        rw [← hsp, show m - i = (m - (i + 1)) + 1 by omega, wpF_0 hnw]
      have hww : (Y b (4 + 1 + s)) i < v ∨ lN (R.1 0) ≤ (Y b (4 + 1 + s)) i := by
        rw [hv1 (by omega)]
        exact Or.inl (lcl.mp (Int32.not_le.mp c30))
      refine z_iload_n hC dX7_wrongIn_33 rfl ?_
      refine z_iret hC dX7_wrongIn_34 ?_
      exact hE.to (by rw [← hsp, show m - i = (m - (i + 1)) + 1 by omega, wpF_1 hww]; rfl) rfl rfl rfl
  exact loop2 _ 0 0 (Nat.lt_succ_self _) (Nat.zero_le _) (by decide) (fun z => absurd z (Nat.lt_irrefl _)) (fun _ => rfl) rfl

end
section
variable {ad : zA} {S : zSh} {I X : zI} {Y : zY} {sz : Nat} {D : DS} {qe : Bool}

theorem w_judge_n (hS : ∀ k, S 0 k = msh 0 k) (hO : DOK D) (hM : MMe qe D I X Y) {s m : Nat} (hs : s < 8) (hm4 : m ≤ 40) (hh : X 0 1 s = nI 0) : zC0 mX7_judge 6 [zr 0 0, zi (nI s), zi (nI m)] (some (zi (-4))) ad S I X Y sz I (rmX 0 2 X) Y := by
  refine zgo (own := RX7) (k := 1) (by decide +kernel) rfl rfl rfl (fun C hC hnm hE => ?_)
  have hm := hM.1
  have hR := hO.1
  have hmo := hm
  have hn14 := hR.1
  have hn8 := hR.2.1
  have hn6 := hR.2.2.1
  refine z_aload_n hC dX7_judge_0 rfl ?_
  refine z_iload_n hC dX7_judge_1 rfl ?_
  refine z_iload_n hC dX7_judge_2 rfl ?_
  refine wVv hC dX7_judge_3 zlX7_353 (c_noList_n hS hs hm4 hh) (hS _) rfl rfl rfl rfl rfl rfl ⟨rfl, rfl⟩ ?_
  refine z_istore_n hC dX7_judge_6 (lo2 := [_, _, _, _]) (Nat.le_of_ble_eq_true rfl) rfl rfl ?_
  refine z_iload_n hC dX7_judge_7 rfl ?_
  refine z_if_eq hC dX7_judge_8 (tgt := 15) (by decide) (fun c8 => ?_) (fun c8 => ?_)
  · exact absurd c8 (by decide)
  refine z_iload_n hC dX7_judge_11 rfl ?_
  refine z_goto hC dX7_judge_12 (tgt := 26) (by decide) ?_
  refine z_iret hC dX7_judge_26 ?_
  exact hE.to (by rfl) rfl rfl rfl

theorem w_judge_b (hS : ∀ k, S 0 k = msh 0 k) (hO : DOK D) (hM : MMe qe D I X Y) {s m : Nat} (hs : s < 8) (hm4 : m ≤ 40) {b : Nat} (hb : b < 14) (hh : shwM s b X) : zC0 mX7_judge 6 [zr 0 0, zi (nI s), zi (nI m)] (some (zi (-3))) ad S I X Y sz I (rmX 0 1 X) Y := by
  refine zgo (own := RX7) (k := 1) (by decide +kernel) rfl rfl rfl (fun C hC hnm hE => ?_)
  have hm := hM.1
  have hR := hO.1
  have hmo := hm
  have hn14 := hR.1
  have hn8 := hR.2.1
  have hn6 := hR.2.2.1
  refine z_aload_n hC dX7_judge_0 rfl ?_
  refine z_iload_n hC dX7_judge_1 rfl ?_
  refine z_iload_n hC dX7_judge_2 rfl ?_
  refine wVv hC dX7_judge_3 zlX7_353 (c_noList_b hS hs hm4 hb hh) (hS _) rfl rfl rfl rfl rfl rfl ⟨rfl, rfl⟩ ?_
  refine z_istore_n hC dX7_judge_6 (lo2 := [_, _, _, _]) (Nat.le_of_ble_eq_true rfl) rfl rfl ?_
  refine z_iload_n hC dX7_judge_7 rfl ?_
  refine z_if_eq hC dX7_judge_8 (tgt := 15) (by decide) (fun c8 => ?_) (fun c8 => ?_)
  · exact absurd c8 (by decide)
  refine z_iload_n hC dX7_judge_11 rfl ?_
  refine z_goto hC dX7_judge_12 (tgt := 26) (by decide) ?_
  refine z_iret hC dX7_judge_26 ?_
  exact hE.to (by rfl) rfl rfl rfl

theorem w_judge_l (hS : ∀ k, S 0 k = msh 0 k) (hO : DOK D) (hM : MMe qe D I X Y) {s m : Nat} (hs : s < 8) (hm4 : m ≤ 40) {q : Nat} (hq : q ≤ 4) {n : Nat} {el : Nat → Int64} (hh : rwM s q n el X Y) (hn40 : n ≤ 40) (hmn : n < m) : zC0 mX7_judge 6 [zr 0 0, zi (nI s), zi (nI m)] (some (zi (-2))) ad S I X Y sz I (rmX 0 0 X) Y := by
  refine zgo (own := RX7) (k := 1) (by decide +kernel) rfl rfl rfl (fun C hC hnm hE => ?_)
  have hm := hM.1
  have hR := hO.1
  have hmo := hm
  have hn14 := hR.1
  have hn8 := hR.2.1
  have hn6 := hR.2.2.1
  refine z_aload_n hC dX7_judge_0 rfl ?_
  refine z_iload_n hC dX7_judge_1 rfl ?_
  refine z_iload_n hC dX7_judge_2 rfl ?_
  refine wVv hC dX7_judge_3 zlX7_353 (c_noList_l hS hs hm4 hq hh hn40 hmn) (hS _) rfl rfl rfl rfl rfl rfl ⟨rfl, rfl⟩ ?_
  refine z_istore_n hC dX7_judge_6 (lo2 := [_, _, _, _]) (Nat.le_of_ble_eq_true rfl) rfl rfl ?_
  refine z_iload_n hC dX7_judge_7 rfl ?_
  refine z_if_eq hC dX7_judge_8 (tgt := 15) (by decide) (fun c8 => ?_) (fun c8 => ?_)
  · exact absurd c8 (by decide)
  refine z_iload_n hC dX7_judge_11 rfl ?_
  refine z_goto hC dX7_judge_12 (tgt := 26) (by decide) ?_
  refine z_iret hC dX7_judge_26 ?_
  exact hE.to (by rfl) rfl rfl rfl

theorem w_judge_w (hS : ∀ k, S 0 k = msh 0 k) (hO : DOK D) (hM : MMe qe D I X Y) {s : Nat} {y : Int32} (hs : s < 8) (hy : ¬ inB y 41) : zC0 mX7_judge 6 [zr 0 0, zi (nI s), zi y] (some (zi (-2))) ad S I X Y sz I (rmX 0 0 X) Y := by
  refine zgo (own := RX7) (k := 1) (by decide +kernel) rfl rfl rfl (fun C hC hnm hE => ?_)
  have hm := hM.1
  have hR := hO.1
  have hmo := hm
  have hn14 := hR.1
  have hn8 := hR.2.1
  have hn6 := hR.2.2.1
  refine z_aload_n hC dX7_judge_0 rfl ?_
  refine z_iload_n hC dX7_judge_1 rfl ?_
  refine z_iload_n hC dX7_judge_2 rfl ?_
  refine wVv hC dX7_judge_3 zlX7_353 (c_noList_w hS hs hy) (hS _) rfl rfl rfl rfl rfl rfl ⟨rfl, rfl⟩ ?_
  refine z_istore_n hC dX7_judge_6 (lo2 := [_, _, _, _]) (Nat.le_of_ble_eq_true rfl) rfl rfl ?_
  refine z_iload_n hC dX7_judge_7 rfl ?_
  refine z_if_eq hC dX7_judge_8 (tgt := 15) (by decide) (fun c8 => ?_) (fun c8 => ?_)
  · exact absurd c8 (by decide)
  refine z_iload_n hC dX7_judge_11 rfl ?_
  refine z_goto hC dX7_judge_12 (tgt := 26) (by decide) ?_
  refine z_iret hC dX7_judge_26 ?_
  exact hE.to (by rfl) rfl rfl rfl

theorem w_judge_f (hS : ∀ k, S 0 k = msh 0 k) (hO : DOK D) (hM : MMe qe D I X Y) {x y : Int32} (hx : ¬ inB x 8) : zC0 mX7_judge 6 [zr 0 0, zi x, zi y] (some (zi (-2))) ad S I X Y sz I (rmX 0 0 X) Y := by
  refine zgo (own := RX7) (k := 1) (by decide +kernel) rfl rfl rfl (fun C hC hnm hE => ?_)
  have hm := hM.1
  have hR := hO.1
  have hmo := hm
  have hn14 := hR.1
  have hn8 := hR.2.1
  have hn6 := hR.2.2.1
  refine z_aload_n hC dX7_judge_0 rfl ?_
  refine z_iload_n hC dX7_judge_1 rfl ?_
  refine z_iload_n hC dX7_judge_2 rfl ?_
  refine wVv hC dX7_judge_3 zlX7_353 (c_noList_f hS hx) (hS _) rfl rfl rfl rfl rfl rfl ⟨rfl, rfl⟩ ?_
  refine z_istore_n hC dX7_judge_6 (lo2 := [_, _, _, _]) (Nat.le_of_ble_eq_true rfl) rfl rfl ?_
  refine z_iload_n hC dX7_judge_7 rfl ?_
  refine z_if_eq hC dX7_judge_8 (tgt := 15) (by decide) (fun c8 => ?_) (fun c8 => ?_)
  · exact absurd c8 (by decide)
  refine z_iload_n hC dX7_judge_11 rfl ?_
  refine z_goto hC dX7_judge_12 (tgt := 26) (by decide) ?_
  refine z_iret hC dX7_judge_26 ?_
  exact hE.to (by rfl) rfl rfl rfl

theorem w_apart_n (hS : ∀ k, S 0 k = msh 0 k) (hO : DOK D) (hM : MMe qe D I X Y) {s m : Nat} (hs : s < 8) (hm4 : m ≤ 40) (hh : X 0 1 s = nI 0) : zC0 mX7_apart 6 [zr 0 0, zi (nI s), zi (nI m)] (some (zi (-4))) ad S I X Y sz I (rmX 0 2 X) Y := by
  refine zgo (own := RX7) (k := 4) (by decide +kernel) rfl rfl rfl (fun C hC hnm hE => ?_)
  have hm := hM.1
  have hR := hO.1
  have hmo := hm
  have hn14 := hR.1
  have hn8 := hR.2.1
  have hn6 := hR.2.2.1
  refine z_aload_n hC dX7_apart_0 rfl ?_
  refine z_iload_n hC dX7_apart_1 rfl ?_
  refine z_iload_n hC dX7_apart_2 rfl ?_
  refine wVv hC dX7_apart_3 zlX7_353 (c_noList_n hS hs hm4 hh) (hS _) rfl rfl rfl rfl rfl rfl ⟨rfl, rfl⟩ ?_
  refine z_istore_n hC dX7_apart_6 (lo2 := [_, _, _, _, _, _, _]) (Nat.le_of_ble_eq_true rfl) rfl rfl ?_
  refine z_iload_n hC dX7_apart_7 rfl ?_
  refine z_if_eq hC dX7_apart_8 (tgt := 13) (by decide) (fun c8 => ?_) (fun c8 => ?_)
  · exact absurd c8 (by decide)
  refine z_iload_n hC dX7_apart_11 rfl ?_
  refine z_iret hC dX7_apart_12 ?_
  exact hE.to (by rfl) rfl rfl rfl

theorem w_apart_b (hS : ∀ k, S 0 k = msh 0 k) (hO : DOK D) (hM : MMe qe D I X Y) {s m : Nat} (hs : s < 8) (hm4 : m ≤ 40) {b : Nat} (hb : b < 14) (hh : shwM s b X) : zC0 mX7_apart 6 [zr 0 0, zi (nI s), zi (nI m)] (some (zi (-3))) ad S I X Y sz I (rmX 0 1 X) Y := by
  refine zgo (own := RX7) (k := 4) (by decide +kernel) rfl rfl rfl (fun C hC hnm hE => ?_)
  have hm := hM.1
  have hR := hO.1
  have hmo := hm
  have hn14 := hR.1
  have hn8 := hR.2.1
  have hn6 := hR.2.2.1
  refine z_aload_n hC dX7_apart_0 rfl ?_
  refine z_iload_n hC dX7_apart_1 rfl ?_
  refine z_iload_n hC dX7_apart_2 rfl ?_
  refine wVv hC dX7_apart_3 zlX7_353 (c_noList_b hS hs hm4 hb hh) (hS _) rfl rfl rfl rfl rfl rfl ⟨rfl, rfl⟩ ?_
  refine z_istore_n hC dX7_apart_6 (lo2 := [_, _, _, _, _, _, _]) (Nat.le_of_ble_eq_true rfl) rfl rfl ?_
  refine z_iload_n hC dX7_apart_7 rfl ?_
  refine z_if_eq hC dX7_apart_8 (tgt := 13) (by decide) (fun c8 => ?_) (fun c8 => ?_)
  · exact absurd c8 (by decide)
  refine z_iload_n hC dX7_apart_11 rfl ?_
  refine z_iret hC dX7_apart_12 ?_
  exact hE.to (by rfl) rfl rfl rfl

theorem w_apart_l (hS : ∀ k, S 0 k = msh 0 k) (hO : DOK D) (hM : MMe qe D I X Y) {s m : Nat} (hs : s < 8) (hm4 : m ≤ 40) {q : Nat} (hq : q ≤ 4) {n : Nat} {el : Nat → Int64} (hh : rwM s q n el X Y) (hn40 : n ≤ 40) (hmn : n < m) : zC0 mX7_apart 6 [zr 0 0, zi (nI s), zi (nI m)] (some (zi (-2))) ad S I X Y sz I (rmX 0 0 X) Y := by
  refine zgo (own := RX7) (k := 4) (by decide +kernel) rfl rfl rfl (fun C hC hnm hE => ?_)
  have hm := hM.1
  have hR := hO.1
  have hmo := hm
  have hn14 := hR.1
  have hn8 := hR.2.1
  have hn6 := hR.2.2.1
  refine z_aload_n hC dX7_apart_0 rfl ?_
  refine z_iload_n hC dX7_apart_1 rfl ?_
  refine z_iload_n hC dX7_apart_2 rfl ?_
  refine wVv hC dX7_apart_3 zlX7_353 (c_noList_l hS hs hm4 hq hh hn40 hmn) (hS _) rfl rfl rfl rfl rfl rfl ⟨rfl, rfl⟩ ?_
  refine z_istore_n hC dX7_apart_6 (lo2 := [_, _, _, _, _, _, _]) (Nat.le_of_ble_eq_true rfl) rfl rfl ?_
  refine z_iload_n hC dX7_apart_7 rfl ?_
  refine z_if_eq hC dX7_apart_8 (tgt := 13) (by decide) (fun c8 => ?_) (fun c8 => ?_)
  · exact absurd c8 (by decide)
  refine z_iload_n hC dX7_apart_11 rfl ?_
  refine z_iret hC dX7_apart_12 ?_
  exact hE.to (by rfl) rfl rfl rfl

theorem w_apart_w (hS : ∀ k, S 0 k = msh 0 k) (hO : DOK D) (hM : MMe qe D I X Y) {s : Nat} {y : Int32} (hs : s < 8) (hy : ¬ inB y 41) : zC0 mX7_apart 6 [zr 0 0, zi (nI s), zi y] (some (zi (-2))) ad S I X Y sz I (rmX 0 0 X) Y := by
  refine zgo (own := RX7) (k := 4) (by decide +kernel) rfl rfl rfl (fun C hC hnm hE => ?_)
  have hm := hM.1
  have hR := hO.1
  have hmo := hm
  have hn14 := hR.1
  have hn8 := hR.2.1
  have hn6 := hR.2.2.1
  refine z_aload_n hC dX7_apart_0 rfl ?_
  refine z_iload_n hC dX7_apart_1 rfl ?_
  refine z_iload_n hC dX7_apart_2 rfl ?_
  refine wVv hC dX7_apart_3 zlX7_353 (c_noList_w hS hs hy) (hS _) rfl rfl rfl rfl rfl rfl ⟨rfl, rfl⟩ ?_
  refine z_istore_n hC dX7_apart_6 (lo2 := [_, _, _, _, _, _, _]) (Nat.le_of_ble_eq_true rfl) rfl rfl ?_
  refine z_iload_n hC dX7_apart_7 rfl ?_
  refine z_if_eq hC dX7_apart_8 (tgt := 13) (by decide) (fun c8 => ?_) (fun c8 => ?_)
  · exact absurd c8 (by decide)
  refine z_iload_n hC dX7_apart_11 rfl ?_
  refine z_iret hC dX7_apart_12 ?_
  exact hE.to (by rfl) rfl rfl rfl

theorem w_apart_f (hS : ∀ k, S 0 k = msh 0 k) (hO : DOK D) (hM : MMe qe D I X Y) {x y : Int32} (hx : ¬ inB x 8) : zC0 mX7_apart 6 [zr 0 0, zi x, zi y] (some (zi (-2))) ad S I X Y sz I (rmX 0 0 X) Y := by
  refine zgo (own := RX7) (k := 4) (by decide +kernel) rfl rfl rfl (fun C hC hnm hE => ?_)
  have hm := hM.1
  have hR := hO.1
  have hmo := hm
  have hn14 := hR.1
  have hn8 := hR.2.1
  have hn6 := hR.2.2.1
  refine z_aload_n hC dX7_apart_0 rfl ?_
  refine z_iload_n hC dX7_apart_1 rfl ?_
  refine z_iload_n hC dX7_apart_2 rfl ?_
  refine wVv hC dX7_apart_3 zlX7_353 (c_noList_f hS hx) (hS _) rfl rfl rfl rfl rfl rfl ⟨rfl, rfl⟩ ?_
  refine z_istore_n hC dX7_apart_6 (lo2 := [_, _, _, _, _, _, _]) (Nat.le_of_ble_eq_true rfl) rfl rfl ?_
  refine z_iload_n hC dX7_apart_7 rfl ?_
  refine z_if_eq hC dX7_apart_8 (tgt := 13) (by decide) (fun c8 => ?_) (fun c8 => ?_)
  · exact absurd c8 (by decide)
  refine z_iload_n hC dX7_apart_11 rfl ?_
  refine z_iret hC dX7_apart_12 ?_
  exact hE.to (by rfl) rfl rfl rfl

theorem w_judge_t (hS : ∀ k, S 0 k = msh 0 k) (hO : DOK D) (hM : MMe qe D I X Y) {s m : Nat} (hs : s < 8) (hm4 : m ≤ 40) {q : Nat} (hq : q ≤ 4) {n : Nat} {el : Nat → Int64} (hh : rwM s q n el X Y) (hn40 : n ≤ 40) (hmn : m ≤ n) : zC0 mX7_judge 6 [zr 0 0, zi (nI s), zi (nI m)] (some (zi (oI (wpF (Y 0 (4 + 1 + s)) (lN (D.1.1 0)) m 0 0)))) ad S I X Y sz I X Y := by
  refine zgo (own := RX7) (k := 1) (by decide +kernel) rfl rfl rfl (fun C hC hnm hE => ?_)
  have hm := hM.1
  have hR := hO.1
  have hmo := hm
  have hn14 := hR.1
  have hn8 := hR.2.1
  have hn6 := hR.2.2.1
  refine z_aload_n hC dX7_judge_0 rfl ?_
  refine z_iload_n hC dX7_judge_1 rfl ?_
  refine z_iload_n hC dX7_judge_2 rfl ?_
  refine wVv hC dX7_judge_3 zlX7_353 (c_noList_t hS hs hm4 hq hh hn40 hmn) (hS _) rfl rfl rfl rfl rfl rfl ⟨rfl, rfl⟩ ?_
  refine z_istore_n hC dX7_judge_6 (lo2 := [_, _, _, _]) (Nat.le_of_ble_eq_true rfl) rfl rfl ?_
  refine z_iload_n hC dX7_judge_7 rfl ?_
  refine z_nif_eq hC dX7_judge_8 (tgt := 15) (by decide) (by omega) (fun c8 => ?_) (fun c8 => ?_)
  rotate_left
  · exact absurd c8 (fun z => z rfl)
  refine z_aload_n hC dX7_judge_15 rfl ?_
  refine z_aload_n hC dX7_judge_16 rfl ?_
  refine z_getR hC dX7_judge_17 (hS _) zfX7_21 rfl ?_
  refine z_iload_n hC dX7_judge_20 rfl ?_
  refine z_aald hC (by decide) dX7_judge_21 (hS _) (by rw [List.length_map, List.length_range]; exact vp_in_nI (by omega) (by decide)) (msel8 (by omega)) ?_
  refine z_iload_n hC dX7_judge_22 rfl ?_
  refine wVv hC dX7_judge_23 zlX7_356 (c_X7_wrongIn hS hm hR hs hm4) (hS _) rfl rfl rfl rfl rfl rfl ⟨rfl, rfl⟩ ?_
  refine z_iret hC dX7_judge_26 ?_
  exact hE.to (by rfl) rfl rfl rfl

theorem w_apart_s (hS : ∀ k, S 0 k = msh 0 k) (hO : DOK D) (hM : MMe qe D I X Y) {s m : Nat} (hs : s < 8) (hm4 : m ≤ 40) {q : Nat} (hq : q ≤ 4) {n : Nat} {el : Nat → Int64} (hh : rwM s q n el X Y) (hn40 : n ≤ 40) (hmn : m ≤ n) (hw : ¬ (wpF (Y 0 (4 + 1 + s)) (lN (D.1.1 0)) m 0 0) = none) : zC0 mX7_apart 6 [zr 0 0, zi (nI s), zi (nI m)] (some (zi (-5))) ad S I X Y sz I (rmX 0 3 X) Y := by
  refine zgo (own := RX7) (k := 4) (by decide +kernel) rfl rfl rfl (fun C hC hnm hE => ?_)
  have hm := hM.1
  have hR := hO.1
  have hmo := hm
  have hn14 := hR.1
  have hn8 := hR.2.1
  have hn6 := hR.2.2.1
  refine z_aload_n hC dX7_apart_0 rfl ?_
  refine z_iload_n hC dX7_apart_1 rfl ?_
  refine z_iload_n hC dX7_apart_2 rfl ?_
  refine wVv hC dX7_apart_3 zlX7_353 (c_noList_t hS hs hm4 hq hh hn40 hmn) (hS _) rfl rfl rfl rfl rfl rfl ⟨rfl, rfl⟩ ?_
  refine z_istore_n hC dX7_apart_6 (lo2 := [_, _, _, _, _, _, _]) (Nat.le_of_ble_eq_true rfl) rfl rfl ?_
  refine z_iload_n hC dX7_apart_7 rfl ?_
  refine z_nif_eq hC dX7_apart_8 (tgt := 13) (by decide) (by omega) (fun c8 => ?_) (fun c8 => ?_)
  rotate_left
  · exact absurd c8 (fun z => z rfl)
  refine z_aload_n hC dX7_apart_13 rfl ?_
  refine z_aload_n hC dX7_apart_14 rfl ?_
  refine z_getR hC dX7_apart_15 (hS _) zfX7_21 rfl ?_
  refine z_iload_n hC dX7_apart_18 rfl ?_
  refine z_aald hC (by decide) dX7_apart_19 (hS _) (by rw [List.length_map, List.length_range]; exact vp_in_nI (by omega) (by decide)) (msel8 (by omega)) ?_
  refine z_iload_n hC dX7_apart_20 rfl ?_
  refine wVv hC dX7_apart_21 zlX7_356 (c_X7_wrongIn hS hm hR hs hm4) (hS _) rfl rfl rfl rfl rfl rfl ⟨rfl, rfl⟩ ?_
  refine z_iconst hC dX7_apart_24 (v := -1) rfl ?_
  refine z_icmp_eq hC dX7_apart_25 (tgt := 35) (by decide) (fun c25 => ?_) (fun c25 => ?_)
  · exact absurd c25 (oI_nn hw (fun j hj => by have := wpF_lt _ _ _ _ hj; omega))
  refine z_aload_n hC dX7_apart_28 rfl ?_
  refine z_bipush hC dX7_apart_29 (v := -5) rfl ?_
  refine wVv hC dX7_apart_31 zlX7_107 (c_X7_refuse hS (j := 3) (by decide) (by decide)) (hS _) rfl rfl rfl rfl rfl rfl ⟨rfl, rfl⟩ ?_
  refine z_iret hC dX7_apart_34 ?_
  exact hE.to (by rfl) rfl rfl rfl

theorem w_apart_t (hS : ∀ k, S 0 k = msh 0 k) (hO : DOK D) (hM : MMe qe D I X Y) {s m : Nat} (hs : s < 8) (hm4 : m ≤ 40) {q : Nat} (hq : q ≤ 4) {n : Nat} {el : Nat → Int64} (hh : rwM s q n el X Y) (hn40 : n ≤ 40) (hmn : m ≤ n) (hw : (wpF (Y 0 (4 + 1 + s)) (lN (D.1.1 0)) m 0 0) = none) : zC0 mX7_apart 6 [zr 0 0, zi (nI s), zi (nI m)] (some (zi (nI (apF D.1 (Y 0 (4 + 1 + s)) (m - 1))))) ad S I X Y sz I X Y := by
  refine zgo (own := RX7) (k := 4) (by decide +kernel) rfl rfl rfl (fun C hC hnm hE => ?_)
  have hm := hM.1
  have hR := hO.1
  have hmo := hm
  have hn14 := hR.1
  have hn8 := hR.2.1
  have hn6 := hR.2.2.1
  have hyb : ∀ b, b < D.1.1 0 → sumN (D.1.2.1 2) (b + 1) ≤ 13986 := fun b hb => by
    have h1 : sumN (D.1.2.1 2) (b + 1) ≤ (b + 1) * 999 := sumN_le (fun i hi => (hR.2.2.2.2.2.2.1 i (by omega)).2.2.2.1)
    have h2 : (b + 1) * 999 ≤ 14 * 999 := Nat.mul_le_mul_right _ (by omega)
    omega
  refine z_aload_n hC dX7_apart_0 rfl ?_
  refine z_iload_n hC dX7_apart_1 rfl ?_
  refine z_iload_n hC dX7_apart_2 rfl ?_
  refine wVv hC dX7_apart_3 zlX7_353 (c_noList_t hS hs hm4 hq hh hn40 hmn) (hS _) rfl rfl rfl rfl rfl rfl ⟨rfl, rfl⟩ ?_
  refine z_istore_n hC dX7_apart_6 (lo2 := [_, _, _, _, _, _, _]) (Nat.le_of_ble_eq_true rfl) rfl rfl ?_
  refine z_iload_n hC dX7_apart_7 rfl ?_
  refine z_nif_eq hC dX7_apart_8 (tgt := 13) (by decide) (by omega) (fun c8 => ?_) (fun c8 => ?_)
  rotate_left
  · exact absurd c8 (fun z => z rfl)
  refine z_aload_n hC dX7_apart_13 rfl ?_
  refine z_aload_n hC dX7_apart_14 rfl ?_
  refine z_getR hC dX7_apart_15 (hS _) zfX7_21 rfl ?_
  refine z_iload_n hC dX7_apart_18 rfl ?_
  refine z_aald hC (by decide) dX7_apart_19 (hS _) (by rw [List.length_map, List.length_range]; exact vp_in_nI (by omega) (by decide)) (msel8 hs) ?_
  refine z_iload_n hC dX7_apart_20 rfl ?_
  refine wVv hC dX7_apart_21 zlX7_356 (c_X7_wrongIn hS hm hR hs hm4) (hS _) rfl rfl rfl rfl rfl rfl ⟨rfl, rfl⟩ ?_
  refine z_iconst hC dX7_apart_24 (v := -1) rfl ?_
  refine z_icmp_eq hC dX7_apart_25 (tgt := 35) (by decide) (fun c25 => ?_) (fun c25 => ?_)
  rotate_left
  · exact absurd c25 (fun z => z (by rw [hw]; rfl))
  refine z_iconst hC dX7_apart_35 (v := nI 0) rfl ?_
  refine z_istore hC dX7_apart_36 (lo2 := [_, _, _, _, _, _, _]) (Nat.le_of_ble_eq_true rfl) rfl rfl ?_
  refine z_iconst hC dX7_apart_38 (v := nI 1) rfl ?_
  refine z_istore hC dX7_apart_39 (lo2 := [_, _, _, _, _, _, _]) (Nat.le_of_ble_eq_true rfl) rfl rfl ?_
  have loop41 : ∀ (fuel : Nat) (k : Nat), m - k < fuel → k ≤ m - 1 → (apF D.1 (Y 0 (4 + 1 + s)) k) ≤ 13986 → zL C 7 ad S 0 0 sz I X Y 41 [some (zr 0 0), some (zi (nI s)), some (zi (nI m)), none, some (zi (nI (apF D.1 (Y 0 (4 + 1 + s)) k))), some (zi (nI (k + 1))), none] [] := by
    intro fuel
    induction fuel with
    | zero => intro k hfu; exact absurd hfu (Nat.not_lt_zero _)
    | succ fuel ih =>
      intro k hfu hkm hap
      refine z_iload hC dX7_apart_41 rfl ?_
      refine z_iload_n hC dX7_apart_43 rfl ?_
      refine z_nicmp_ge hC dX7_apart_44 (tgt := 102) (by decide) (by omega) (by omega) (fun c44 => ?_) (fun c44 => ?_)
      · skip
        refine z_iload hC dX7_apart_102 rfl ?_
        refine z_iret hC dX7_apart_104 ?_
        exact hE.to (by rw [show m - 1 = k by omega]) rfl rfl rfl
      obtain ⟨b1, hb1, he1, hl1⟩ := told_b hn14 hw (k + 1) (by omega)
      obtain ⟨b0, hb0, he0, hl0⟩ := told_b hn14 hw k (by omega)
      have hlm := told_m hn14 hw k (by omega)
      have hmo2 : ydN D.1 (Y 0 (4 + 1 + s)) k ≤ ydN D.1 (Y 0 (4 + 1 + s)) (k + 1) := sumN_mono (by omega)
      have hy1 : ydN D.1 (Y 0 (4 + 1 + s)) (k + 1) ≤ 13986 := by unfold ydN; rw [hl1]; exact hyb _ hb1
      refine z_aload_n hC dX7_apart_47 rfl ?_
      refine z_aload_n hC dX7_apart_48 rfl ?_
      refine z_getR hC dX7_apart_49 (hS _) zfX7_21 rfl ?_
      refine z_iload_n hC dX7_apart_52 rfl ?_
      refine z_aald hC (by decide) dX7_apart_53 (hS _) (by rw [List.length_map, List.length_range]; exact vp_in_nI (by omega) (by decide)) (msel8 hs) ?_
      refine z_iload hC dX7_apart_54 rfl ?_
      refine z_nlald hC dX7_apart_56 ((hS _).trans (msh_rows (by omega)).1) (by omega) rfl ?_
      rw [he1]
      refine z_m2n hC dX7_apart_57  ?_
      refine wVv hC dX7_apart_58 zlX7_270 (c_X7_yardsTo hS hm hR hb1) (hS _) rfl rfl rfl rfl rfl rfl ⟨rfl, rfl⟩ ?_
      rw [show sumN (D.1.2.1 2) (b1 + 1) = ydN D.1 (Y 0 (4 + 1 + s)) (k + 1) from by unfold ydN; rw [hl1]]
      refine z_aload_n hC dX7_apart_61 rfl ?_
      refine z_aload_n hC dX7_apart_62 rfl ?_
      refine z_getR hC dX7_apart_63 (hS _) zfX7_21 rfl ?_
      refine z_iload_n hC dX7_apart_66 rfl ?_
      refine z_aald hC (by decide) dX7_apart_67 (hS _) (by rw [List.length_map, List.length_range]; exact vp_in_nI (by omega) (by decide)) (msel8 hs) ?_
      refine z_iload hC dX7_apart_68 rfl ?_
      refine z_iconst hC dX7_apart_70 (v := nI 1) rfl ?_
      refine z_nsub hC dX7_apart_71 (by omega) ?_
      refine z_nlald hC dX7_apart_72 ((hS _).trans (msh_rows (by omega)).1) (by omega) rfl ?_
      rw [Nat.add_sub_cancel, he0]
      refine z_m2n hC dX7_apart_73  ?_
      refine wVv hC dX7_apart_74 zlX7_270 (c_X7_yardsTo hS hm hR hb0) (hS _) rfl rfl rfl rfl rfl rfl ⟨rfl, rfl⟩ ?_
      rw [show sumN (D.1.2.1 2) (b0 + 1) = ydN D.1 (Y 0 (4 + 1 + s)) k from by unfold ydN; rw [hl0]]
      refine z_nsub hC dX7_apart_77 hmo2 ?_
      refine z_istore hC dX7_apart_78 (lo2 := [_, _, _, _, _, _, _]) (Nat.le_of_ble_eq_true rfl) rfl rfl ?_
      refine z_iload hC dX7_apart_80 rfl ?_
      refine z_iload hC dX7_apart_82 rfl ?_
      refine z_nicmp_le hC dX7_apart_84 (tgt := 92) (by decide) (by omega) (by omega) (fun c84 => ?_) (fun c84 => ?_)
      · skip
        have hnx : apF D.1 (Y 0 (4 + 1 + s)) (k + 1) = (apF D.1 (Y 0 (4 + 1 + s)) k) := if_neg (by omega)
        refine z_iload hC dX7_apart_92 rfl ?_
        refine z_istore hC dX7_apart_94 (lo2 := [_, _, _, _, _, _, _]) (Nat.le_of_ble_eq_true rfl) rfl rfl ?_
        refine z_ninc hC dX7_apart_96 (lo2 := [_, _, _, _, _, _, _]) rfl rfl rfl rfl ?_
        refine z_goto hC dX7_apart_99 (tgt := 41) (by decide) ?_
        exact z_sub (by rw [hnx]; simp [zsub]) (ih (k + 1) (by omega) (by omega) (by rw [hnx]; omega))
      have hnx : apF D.1 (Y 0 (4 + 1 + s)) (k + 1) = ydN D.1 (Y 0 (4 + 1 + s)) (k + 1) - ydN D.1 (Y 0 (4 + 1 + s)) k := if_pos (by omega)
      refine z_iload hC dX7_apart_87 rfl ?_
      refine z_goto hC dX7_apart_89 (tgt := 94) (by decide) ?_
      refine z_istore hC dX7_apart_94 (lo2 := [_, _, _, _, _, _, _]) (Nat.le_of_ble_eq_true rfl) rfl rfl ?_
      refine z_ninc hC dX7_apart_96 (lo2 := [_, _, _, _, _, _, _]) rfl rfl rfl rfl ?_
      refine z_goto hC dX7_apart_99 (tgt := 41) (by decide) ?_
      exact z_sub (by rw [hnx]; simp [zsub]) (ih (k + 1) (by omega) (by omega) (by rw [hnx]; omega))
  exact z_sub (by simp [zsub, apF]) (loop41 _ 0 (Nat.lt_succ_self _) (Nat.zero_le _) (Nat.zero_le _))

theorem m_judge (hS : ∀ k, S 0 k = msh 0 k) (hO : DOK D) (hM : MMe qe D I X Y) {x y : Int32} : mC mX7_judge 6 [zr 0 0, zi x, zi y] (some (zi (judgeS D x y).1)) (judgeS D x y).2 ad S I X Y sz qe := by
  have hn14 := hO.1.1
  unfold judgeS tolN
  by_cases hx : inB x 8
  · rw [if_pos hx]
    obtain ⟨s, hs, rfl, e1⟩ := inB_e hx (by decide)
    rw [e1]
    by_cases hy : inB y 41
    · rw [if_pos hy]
      obtain ⟨m, hm1, rfl, e2⟩ := inB_e hy (by decide)
      rw [e2]
      have hn40 := (hO.2.2.2 s hs).1
      rcases sh_stM hO hM hs with ⟨h1, h2⟩ | ⟨q, hq, h1, h2⟩ | ⟨b, hb, h1, h2⟩
      · rw [h1]
        exact ⟨_, _, _, hM.rf (by decide), w_judge_n hS hO hM hs (by omega) h2⟩
      · rw [h1]
        dsimp only
        rw [if_neg (by omega)]
        by_cases hmn : m ≤ D.2.2.2.1.2.1 s
        · rw [if_pos hmn]
          dsimp only
          rw [← wpF_congr (f := Y 0 (4 + 1 + s)) m 0 0 (fun t _ ht => h2.2.2.2 t (by omega))]
          exact ⟨_, _, _, hM, w_judge_t hS hO hM hs (by omega) hq h2 hn40 hmn⟩
        · rw [if_neg hmn]
          exact ⟨_, _, _, hM.rf (by decide), w_judge_l hS hO hM hs (by omega) hq h2 hn40 (by omega)⟩
      · rw [h1]
        dsimp only
        rw [if_pos (by omega)]
        exact ⟨_, _, _, hM.rf (by decide), w_judge_b hS hO hM hs (by omega) (by omega) h2⟩
    · rw [if_neg hy]
      exact ⟨_, _, _, hM.rf (by decide), w_judge_w hS hO hM hs hy⟩
  · rw [if_neg hx]
    exact ⟨_, _, _, hM.rf (by decide), w_judge_f hS hO hM hx⟩

theorem m_apart (hS : ∀ k, S 0 k = msh 0 k) (hO : DOK D) (hM : MMe qe D I X Y) {x y : Int32} : mC mX7_apart 6 [zr 0 0, zi x, zi y] (some (zi (apartS D x y).1)) (apartS D x y).2 ad S I X Y sz qe := by
  have hn14 := hO.1.1
  unfold apartS tolN
  by_cases hx : inB x 8
  · rw [if_pos hx]
    obtain ⟨s, hs, rfl, e1⟩ := inB_e hx (by decide)
    rw [e1]
    by_cases hy : inB y 41
    · rw [if_pos hy]
      obtain ⟨m, hm1, rfl, e2⟩ := inB_e hy (by decide)
      rw [e2]
      have hn40 := (hO.2.2.2 s hs).1
      rcases sh_stM hO hM hs with ⟨h1, h2⟩ | ⟨q, hq, h1, h2⟩ | ⟨b, hb, h1, h2⟩
      · rw [h1]
        exact ⟨_, _, _, hM.rf (by decide), w_apart_n hS hO hM hs (by omega) h2⟩
      · rw [h1]
        dsimp only
        rw [if_neg (by omega)]
        by_cases hmn : m ≤ D.2.2.2.1.2.1 s
        · rw [if_pos hmn]
          dsimp only
          have ew : wpF (Y 0 (4 + 1 + s)) (lN (D.1.1 0)) m 0 0 = wpF (D.2.2.2.1.2.2 s) (lN (D.1.1 0)) m 0 0 := wpF_congr m 0 0 (fun t _ ht => h2.2.2.2 t (by omega))
          by_cases hw : wpF (D.2.2.2.1.2.2 s) (lN (D.1.1 0)) m 0 0 = none
          · rw [if_pos hw, ← apF_congr (f := Y 0 (4 + 1 + s)) (m - 1) (fun t ht => h2.2.2.2 t (by omega))]
            exact ⟨_, _, _, hM, w_apart_t hS hO hM hs (by omega) hq h2 hn40 hmn (ew.trans hw)⟩
          · rw [if_neg hw]
            exact ⟨_, _, _, hM.rf (by decide), w_apart_s hS hO hM hs (by omega) hq h2 hn40 hmn (fun z => hw (ew.symm.trans z))⟩
        · rw [if_neg hmn]
          exact ⟨_, _, _, hM.rf (by decide), w_apart_l hS hO hM hs (by omega) hq h2 hn40 (by omega)⟩
      · rw [h1]
        dsimp only
        rw [if_pos (by omega)]
        exact ⟨_, _, _, hM.rf (by decide), w_apart_b hS hO hM hs (by omega) (by omega) h2⟩
    · rw [if_neg hy]
      exact ⟨_, _, _, hM.rf (by decide), w_apart_w hS hO hM hs hy⟩
  · rw [if_neg hx]
    exact ⟨_, _, _, hM.rf (by decide), w_apart_f hS hO hM hx⟩

end
