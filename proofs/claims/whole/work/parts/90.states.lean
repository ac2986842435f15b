/-! the reference: a statement is read -/
theorem st_any {qe : Bool} {D : DS} {R R0 : RS} {I X I1 X1 : zI} {Y : zY} (hM : MMe qe (DR D R) I X Y) (hq1 : zQm 1 R0 I X) (hI : ∀ b k j, ¬ (b = 0 ∧ k = 0 ∧ 30 ≤ j ∧ j ≤ 36) → I1 b k j = I b k j) (hX : ∀ b k j, ¬ (b = 0 ∧ k = 28) → X1 b k j = X b k j) : MMe qe (DR D R) I1 X1 Y ∧ zQm 1 R0 I1 X1 :=
  ⟨hM.sc (fun j hj => hI _ _ _ (by omega)) (fun k j h1 h2 => hX _ _ _ (by omega)) (fun k j => ⟨hI _ _ _ (by omega), hX _ _ _ (by omega)⟩), hq1.frame (fun j _ _ => hI _ _ _ (by omega)) (fun k j _ _ => hX _ _ _ (by omega))⟩
theorem st_fin {qe : Bool} {D : DS} {R R0 R2 : RS} {T : Nat → Nat} {z p : Nat} {I I1 X1 I2 X2 : zI} {Y : zY} (hM : MMe qe (DR D R) I1 X1 Y ∧ zQm 1 R0 I1 X1) (hq : zQm 0 R2 I2 X2) (hI : ∀ b k j, ¬ (b = 0 ∧ k = 0 ∧ 9 ≤ j ∧ j ≤ 27) → I2 b k j = I1 b k j) (hX : ∀ b k j, ¬ (b = 0 ∧ 17 ≤ k ∧ k ≤ 27) → X2 b k j = X1 b k j) (hs : mSt T z p I1) (h36 : I1 0 0 36 = I 0 0 36) : mSt T z p I2 ∧ MMe qe (DR D R2) I2 X2 Y ∧ zQm 1 R0 I2 X2 ∧ I2 0 0 36 = I 0 0 36 := by
  obtain ⟨s1, s2, s3, s4⟩ := hs
  refine ⟨⟨?_, ?_, ?_, ?_⟩, hM.1.road hq (fun j h => hI _ _ _ (by omega)) (fun k j h1 h2 => hX _ _ _ (by omega)) (fun k j => ⟨hI _ _ _ (by omega), hX _ _ _ (by omega)⟩), hM.2.frame (fun j _ _ => hI _ _ _ (by omega)) (fun k j _ _ => hX _ _ _ (by omega)), (hI _ _ _ (by omega)).trans h36⟩
  all_goals (rw [hI _ _ _ (by omega)]; assumption)
section
variable {ad : zA} {S : zSh} {I X : zI} {Y : zY} {sz : Nat} {T : Nat → Nat} {z : Nat} {D : DS} {R R0 : RS} {qe : Bool}

theorem c_st_n (hS : ∀ k, S 0 k = msh 0 k) (h7 : I 0 0 7 = nI z) (hX : ∀ i, i < z → X 0 15 i = nI (T i)) (hz : z ≤ 250) (hT : ∀ i, i < z → T i ≤ 255) {p : Nat} (hp : p ≤ z) (hs : mSt T z p I) (hM : MMe qe (DR D R) I X Y) (hR : ROK R) (hq1 : zQm 1 R0 I X) (hw : wqN T z p = none)  : zCq mX7_statement 5 [zr 0 0] (some (zi (nI 0))) ad S I X Y sz (fun I1 X1 => I1 0 0 34 = nI (tkA T z p) ∧ MMe qe (DR D R) I1 X1 Y ∧ zQm 1 R0 I1 X1) := by
  refine zgoQ (own := RX7) (k := 1) (by decide +kernel) rfl rfl rfl (fun C hC hnm hE => ?_)
  have hm : zQm 0 R I X := hM.1
  have hn14 := hR.1
  have hn8 := hR.2.1
  have hn6 := hR.2.2.1
  have htk := tk_le (T := T) hp
  have hp1 : (tkE T z p) ≤ z := (tk_le (T := T) hp).2.2.1
  have hf1 := fgN_le (T := T) hp1
  have hp2 : (tkE T z (tkE T z p)) ≤ z := (tk_le (T := T) hp1).2.2.1
  have hf2 := fgN_le (T := T) hp2
  have hp3 : (tkE T z (tkE T z (tkE T z p))) ≤ z := (tk_le (T := T) hp2).2.2.1
  have hf3 := fgN_le (T := T) hp3
  have hp4 : (tkE T z (tkE T z (tkE T z (tkE T z p)))) ≤ z := (tk_le (T := T) hp3).2.2.1
  have hf4 := fgN_le (T := T) hp4
  have hp5 : (tkE T z (tkE T z (tkE T z (tkE T z (tkE T z p))))) ≤ z := (tk_le (T := T) hp4).2.2.1
  have hf5 := fgN_le (T := T) hp5
  refine z_aload_n hC dX7_statement_0 rfl ?_
  refine z_ldcS hC (j := 0) (List.mem_of_getElem? (i := 8) rfl) dX7_statement_1 ?_
  refine wVv hC dX7_statement_3 zlX7_226 (c_isW hS h7 hX hz hT hp hs (j := 0) (by decide) (v := 0) (by rw [hw]; decide)) (hS _) rfl rfl rfl rfl rfl rfl ⟨rfl, rfl⟩ ?_
  refine z_nif_eq hC dX7_statement_6 (tgt := 94) (by decide) (by omega) (fun c6 => ?_) (fun c6 => ?_)
  rotate_left
  · exact absurd c6 (by decide)
  refine z_aload_n hC dX7_statement_94 rfl ?_
  refine z_ldcS hC (j := 1) (List.mem_of_getElem? (i := 9) rfl) dX7_statement_95 ?_
  refine wVv hC dX7_statement_97 zlX7_226 (c_isW hS h7 hX hz hT hp hs (j := 1) (by decide) (v := 0) (by rw [hw]; decide)) (hS _) rfl rfl rfl rfl rfl rfl ⟨rfl, rfl⟩ ?_
  refine z_nif_eq hC dX7_statement_100 (tgt := 112) (by decide) (by omega) (fun c100 => ?_) (fun c100 => ?_)
  rotate_left
  · exact absurd c100 (by decide)
  refine z_aload_n hC dX7_statement_112 rfl ?_
  refine z_ldcS hC (j := 2) (List.mem_of_getElem? (i := 10) rfl) dX7_statement_113 ?_
  refine wVv hC dX7_statement_115 zlX7_226 (c_isW hS h7 hX hz hT hp hs (j := 2) (by decide) (v := 0) (by rw [hw]; decide)) (hS _) rfl rfl rfl rfl rfl rfl ⟨rfl, rfl⟩ ?_
  refine z_nif_eq hC dX7_statement_118 (tgt := 129) (by decide) (by omega) (fun c118 => ?_) (fun c118 => ?_)
  rotate_left
  · exact absurd c118 (by decide)
  refine z_aload_n hC dX7_statement_129 rfl ?_
  refine z_ldcS hC (j := 3) (List.mem_of_getElem? (i := 11) rfl) dX7_statement_130 ?_
  refine wVv hC dX7_statement_132 zlX7_226 (c_isW hS h7 hX hz hT hp hs (j := 3) (by decide) (v := 0) (by rw [hw]; decide)) (hS _) rfl rfl rfl rfl rfl rfl ⟨rfl, rfl⟩ ?_
  refine z_nif_eq hC dX7_statement_135 (tgt := 147) (by decide) (by omega) (fun c135 => ?_) (fun c135 => ?_)
  rotate_left
  · exact absurd c135 (by decide)
  refine z_aload_n hC dX7_statement_147 rfl ?_
  refine z_ldcS hC (j := 4) (List.mem_of_getElem? (i := 12) rfl) dX7_statement_148 ?_
  refine wVv hC dX7_statement_150 zlX7_226 (c_isW hS h7 hX hz hT hp hs (j := 4) (by decide) (v := 0) (by rw [hw]; decide)) (hS _) rfl rfl rfl rfl rfl rfl ⟨rfl, rfl⟩ ?_
  refine z_istore_n hC dX7_statement_153 (lo2 := [_, _]) (Nat.le_of_ble_eq_true rfl) rfl rfl ?_
  refine z_iload_n hC dX7_statement_154 rfl ?_
  refine z_nif_ne hC dX7_statement_155 (tgt := 167) (by decide) (by omega) (fun c155 => ?_) (fun c155 => ?_)
  · exact absurd c155 (by decide)
  refine z_aload_n hC dX7_statement_158 rfl ?_
  refine z_ldcS hC (j := 5) (List.mem_of_getElem? (i := 13) rfl) dX7_statement_159 ?_
  refine wVv hC dX7_statement_161 zlX7_226 (c_isW hS h7 hX hz hT hp hs (j := 5) (by decide) (v := 0) (by rw [hw]; decide)) (hS _) rfl rfl rfl rfl rfl rfl ⟨rfl, rfl⟩ ?_
  refine z_nif_eq hC dX7_statement_164 (tgt := 230) (by decide) (by omega) (fun c164 => ?_) (fun c164 => ?_)
  rotate_left
  · exact absurd c164 (by decide)
  refine z_aload_n hC dX7_statement_230 rfl ?_
  refine z_ldcS hC (j := 6) (List.mem_of_getElem? (i := 14) rfl) dX7_statement_231 ?_
  refine wVv hC dX7_statement_233 zlX7_226 (c_isW hS h7 hX hz hT hp hs (j := 6) (by decide) (v := 0) (by rw [hw]; decide)) (hS _) rfl rfl rfl rfl rfl rfl ⟨rfl, rfl⟩ ?_
  refine z_nif_eq hC dX7_statement_236 (tgt := 310) (by decide) (by omega) (fun c236 => ?_) (fun c236 => ?_)
  rotate_left
  · exact absurd c236 (by decide)
  refine z_aload_n hC dX7_statement_310 rfl ?_
  refine z_ldcS hC (j := 7) (List.mem_of_getElem? (i := 15) rfl) dX7_statement_311 ?_
  refine wVv hC dX7_statement_313 zlX7_226 (c_isW hS h7 hX hz hT hp hs (j := 7) (by decide) (v := 0) (by rw [hw]; decide)) (hS _) rfl rfl rfl rfl rfl rfl ⟨rfl, rfl⟩ ?_
  refine z_nif_eq hC dX7_statement_316 (tgt := 365) (by decide) (by omega) (fun c316 => ?_) (fun c316 => ?_)
  rotate_left
  · exact absurd c316 (by decide)
  refine z_aload_n hC dX7_statement_365 rfl ?_
  refine wVv hC dX7_statement_366 zlX7_208 (c_X7_wrong hS hs.2.2.1) (hS _) rfl rfl rfl rfl rfl rfl ⟨rfl, rfl⟩ ?_
  refine z_zret hC dX7_statement_369 rfl ?_
  exact (hE _ _ ⟨up3_eq _ _ _ _ _, st_any hM hq1 (fun b k j h => up3_ne (by omega)) (fun _ _ _ _ => rfl)⟩).to (by rfl) rfl rfl rfl

theorem c_st_0r (hS : ∀ k, S 0 k = msh 0 k) (h7 : I 0 0 7 = nI z) (hX : ∀ i, i < z → X 0 15 i = nI (T i)) (hz : z ≤ 250) (hT : ∀ i, i < z → T i ≤ 255) {p : Nat} (hp : p ≤ z) (hs : mSt T z p I) (hM : MMe qe (DR D R) I X Y) (hR : ROK R) (hq1 : zQm 1 R0 I X) (hw : wqN T z p = some 0) (hr : ¬ R.1 0 < 14)  : zCq mX7_statement 5 [zr 0 0] (some (zi (nI 0))) ad S I X Y sz (fun I1 X1 => I1 0 0 34 = nI (tkA T z p) ∧ MMe qe (DR D R) I1 X1 Y ∧ zQm 1 R0 I1 X1) := by
  refine zgoQ (own := RX7) (k := 1) (by decide +kernel) rfl rfl rfl (fun C hC hnm hE => ?_)
  have hm : zQm 0 R I X := hM.1
  have hn14 := hR.1
  have hn8 := hR.2.1
  have hn6 := hR.2.2.1
  have htk := tk_le (T := T) hp
  have hp1 : (tkE T z p) ≤ z := (tk_le (T := T) hp).2.2.1
  have hf1 := fgN_le (T := T) hp1
  have hp2 : (tkE T z (tkE T z p)) ≤ z := (tk_le (T := T) hp1).2.2.1
  have hf2 := fgN_le (T := T) hp2
  have hp3 : (tkE T z (tkE T z (tkE T z p))) ≤ z := (tk_le (T := T) hp2).2.2.1
  have hf3 := fgN_le (T := T) hp3
  have hp4 : (tkE T z (tkE T z (tkE T z (tkE T z p)))) ≤ z := (tk_le (T := T) hp3).2.2.1
  have hf4 := fgN_le (T := T) hp4
  have hp5 : (tkE T z (tkE T z (tkE T z (tkE T z (tkE T z p))))) ≤ z := (tk_le (T := T) hp4).2.2.1
  have hf5 := fgN_le (T := T) hp5
  refine z_aload_n hC dX7_statement_0 rfl ?_
  refine z_ldcS hC (j := 0) (List.mem_of_getElem? (i := 8) rfl) dX7_statement_1 ?_
  refine wVv hC dX7_statement_3 zlX7_226 (c_isW hS h7 hX hz hT hp hs (j := 0) (by decide) (v := 1) (by rw [hw]; decide)) (hS _) rfl rfl rfl rfl rfl rfl ⟨rfl, rfl⟩ ?_
  refine z_nif_eq hC dX7_statement_6 (tgt := 94) (by decide) (by omega) (fun c6 => ?_) (fun c6 => ?_)
  · exact absurd c6 (by decide)
  refine z_aload_n hC dX7_statement_9 rfl ?_
  refine z_getN hC dX7_statement_10 (hS _) zfX7_94 rfl hm.1.1 ?_
  refine z_bipush hC dX7_statement_13 (v := nI 14) rfl ?_
  refine z_nicmp_ge hC dX7_statement_15 (tgt := 94) (by decide) (by omega) (by omega) (fun c15 => ?_) (fun c15 => ?_)
  rotate_left
  · exact absurd c15 (by omega)
  refine z_aload_n hC dX7_statement_94 rfl ?_
  refine z_ldcS hC (j := 1) (List.mem_of_getElem? (i := 9) rfl) dX7_statement_95 ?_
  refine wVv hC dX7_statement_97 zlX7_226 (c_isW hS h7 hX hz hT hp hs (j := 1) (by decide) (v := 0) (by rw [hw]; decide)) (hS _) rfl rfl rfl rfl rfl rfl ⟨rfl, rfl⟩ ?_
  refine z_nif_eq hC dX7_statement_100 (tgt := 112) (by decide) (by omega) (fun c100 => ?_) (fun c100 => ?_)
  rotate_left
  · exact absurd c100 (by decide)
  refine z_aload_n hC dX7_statement_112 rfl ?_
  refine z_ldcS hC (j := 2) (List.mem_of_getElem? (i := 10) rfl) dX7_statement_113 ?_
  refine wVv hC dX7_statement_115 zlX7_226 (c_isW hS h7 hX hz hT hp hs (j := 2) (by decide) (v := 0) (by rw [hw]; decide)) (hS _) rfl rfl rfl rfl rfl rfl ⟨rfl, rfl⟩ ?_
  refine z_nif_eq hC dX7_statement_118 (tgt := 129) (by decide) (by omega) (fun c118 => ?_) (fun c118 => ?_)
  rotate_left
  · exact absurd c118 (by decide)
  refine z_aload_n hC dX7_statement_129 rfl ?_
  refine z_ldcS hC (j := 3) (List.mem_of_getElem? (i := 11) rfl) dX7_statement_130 ?_
  refine wVv hC dX7_statement_132 zlX7_226 (c_isW hS h7 hX hz hT hp hs (j := 3) (by decide) (v := 0) (by rw [hw]; decide)) (hS _) rfl rfl rfl rfl rfl rfl ⟨rfl, rfl⟩ ?_
  refine z_nif_eq hC dX7_statement_135 (tgt := 147) (by decide) (by omega) (fun c135 => ?_) (fun c135 => ?_)
  rotate_left
  · exact absurd c135 (by decide)
  refine z_aload_n hC dX7_statement_147 rfl ?_
  refine z_ldcS hC (j := 4) (List.mem_of_getElem? (i := 12) rfl) dX7_statement_148 ?_
  refine wVv hC dX7_statement_150 zlX7_226 (c_isW hS h7 hX hz hT hp hs (j := 4) (by decide) (v := 0) (by rw [hw]; decide)) (hS _) rfl rfl rfl rfl rfl rfl ⟨rfl, rfl⟩ ?_
  refine z_istore_n hC dX7_statement_153 (lo2 := [_, _]) (Nat.le_of_ble_eq_true rfl) rfl rfl ?_
  refine z_iload_n hC dX7_statement_154 rfl ?_
  refine z_nif_ne hC dX7_statement_155 (tgt := 167) (by decide) (by omega) (fun c155 => ?_) (fun c155 => ?_)
  · exact absurd c155 (by decide)
  refine z_aload_n hC dX7_statement_158 rfl ?_
  refine z_ldcS hC (j := 5) (List.mem_of_getElem? (i := 13) rfl) dX7_statement_159 ?_
  refine wVv hC dX7_statement_161 zlX7_226 (c_isW hS h7 hX hz hT hp hs (j := 5) (by decide) (v := 0) (by rw [hw]; decide)) (hS _) rfl rfl rfl rfl rfl rfl ⟨rfl, rfl⟩ ?_
  refine z_nif_eq hC dX7_statement_164 (tgt := 230) (by decide) (by omega) (fun c164 => ?_) (fun c164 => ?_)
  rotate_left
  · exact absurd c164 (by decide)
  refine z_aload_n hC dX7_statement_230 rfl ?_
  refine z_ldcS hC (j := 6) (List.mem_of_getElem? (i := 14) rfl) dX7_statement_231 ?_
  refine wVv hC dX7_statement_233 zlX7_226 (c_isW hS h7 hX hz hT hp hs (j := 6) (by decide) (v := 0) (by rw [hw]; decide)) (hS _) rfl rfl rfl rfl rfl rfl ⟨rfl, rfl⟩ ?_
  refine z_nif_eq hC dX7_statement_236 (tgt := 310) (by decide) (by omega) (fun c236 => ?_) (fun c236 => ?_)
  rotate_left
  · exact absurd c236 (by decide)
  refine z_aload_n hC dX7_statement_310 rfl ?_
  refine z_ldcS hC (j := 7) (List.mem_of_getElem? (i := 15) rfl) dX7_statement_311 ?_
  refine wVv hC dX7_statement_313 zlX7_226 (c_isW hS h7 hX hz hT hp hs (j := 7) (by decide) (v := 0) (by rw [hw]; decide)) (hS _) rfl rfl rfl rfl rfl rfl ⟨rfl, rfl⟩ ?_
  refine z_nif_eq hC dX7_statement_316 (tgt := 365) (by decide) (by omega) (fun c316 => ?_) (fun c316 => ?_)
  rotate_left
  · exact absurd c316 (by decide)
  refine z_aload_n hC dX7_statement_365 rfl ?_
  refine wVv hC dX7_statement_366 zlX7_208 (c_X7_wrong hS hs.2.2.1) (hS _) rfl rfl rfl rfl rfl rfl ⟨rfl, rfl⟩ ?_
  refine z_zret hC dX7_statement_369 rfl ?_
  exact (hE _ _ ⟨up3_eq _ _ _ _ _, st_any hM hq1 (fun b k j h => up3_ne (by omega)) (fun _ _ _ _ => rfl)⟩).to (by rfl) rfl rfl rfl

theorem c_st_4r (hS : ∀ k, S 0 k = msh 0 k) (h7 : I 0 0 7 = nI z) (hX : ∀ i, i < z → X 0 15 i = nI (T i)) (hz : z ≤ 250) (hT : ∀ i, i < z → T i ≤ 255) {p : Nat} (hp : p ≤ z) (hs : mSt T z p I) (hM : MMe qe (DR D R) I X Y) (hR : ROK R) (hq1 : zQm 1 R0 I X) (hw : wqN T z p = some 4) (hr : ¬ R.1 1 < 8)  : zCq mX7_statement 5 [zr 0 0] (some (zi (nI 0))) ad S I X Y sz (fun I1 X1 => I1 0 0 34 = nI (tkA T z p) ∧ MMe qe (DR D R) I1 X1 Y ∧ zQm 1 R0 I1 X1) := by
  refine zgoQ (own := RX7) (k := 1) (by decide +kernel) rfl rfl rfl (fun C hC hnm hE => ?_)
  have hm : zQm 0 R I X := hM.1
  have hn14 := hR.1
  have hn8 := hR.2.1
  have hn6 := hR.2.2.1
  have htk := tk_le (T := T) hp
  have hp1 : (tkE T z p) ≤ z := (tk_le (T := T) hp).2.2.1
  have hf1 := fgN_le (T := T) hp1
  have hp2 : (tkE T z (tkE T z p)) ≤ z := (tk_le (T := T) hp1).2.2.1
  have hf2 := fgN_le (T := T) hp2
  have hp3 : (tkE T z (tkE T z (tkE T z p))) ≤ z := (tk_le (T := T) hp2).2.2.1
  have hf3 := fgN_le (T := T) hp3
  have hp4 : (tkE T z (tkE T z (tkE T z (tkE T z p)))) ≤ z := (tk_le (T := T) hp3).2.2.1
  have hf4 := fgN_le (T := T) hp4
  have hp5 : (tkE T z (tkE T z (tkE T z (tkE T z (tkE T z p))))) ≤ z := (tk_le (T := T) hp4).2.2.1
  have hf5 := fgN_le (T := T) hp5
  refine z_aload_n hC dX7_statement_0 rfl ?_
  refine z_ldcS hC (j := 0) (List.mem_of_getElem? (i := 8) rfl) dX7_statement_1 ?_
  refine wVv hC dX7_statement_3 zlX7_226 (c_isW hS h7 hX hz hT hp hs (j := 0) (by decide) (v := 0) (by rw [hw]; decide)) (hS _) rfl rfl rfl rfl rfl rfl ⟨rfl, rfl⟩ ?_
  refine z_nif_eq hC dX7_statement_6 (tgt := 94) (by decide) (by omega) (fun c6 => ?_) (fun c6 => ?_)
  rotate_left
  · exact absurd c6 (by decide)
  refine z_aload_n hC dX7_statement_94 rfl ?_
  refine z_ldcS hC (j := 1) (List.mem_of_getElem? (i := 9) rfl) dX7_statement_95 ?_
  refine wVv hC dX7_statement_97 zlX7_226 (c_isW hS h7 hX hz hT hp hs (j := 1) (by decide) (v := 0) (by rw [hw]; decide)) (hS _) rfl rfl rfl rfl rfl rfl ⟨rfl, rfl⟩ ?_
  refine z_nif_eq hC dX7_statement_100 (tgt := 112) (by decide) (by omega) (fun c100 => ?_) (fun c100 => ?_)
  rotate_left
  · exact absurd c100 (by decide)
  refine z_aload_n hC dX7_statement_112 rfl ?_
  refine z_ldcS hC (j := 2) (List.mem_of_getElem? (i := 10) rfl) dX7_statement_113 ?_
  refine wVv hC dX7_statement_115 zlX7_226 (c_isW hS h7 hX hz hT hp hs (j := 2) (by decide) (v := 0) (by rw [hw]; decide)) (hS _) rfl rfl rfl rfl rfl rfl ⟨rfl, rfl⟩ ?_
  refine z_nif_eq hC dX7_statement_118 (tgt := 129) (by decide) (by omega) (fun c118 => ?_) (fun c118 => ?_)
  rotate_left
  · exact absurd c118 (by decide)
  refine z_aload_n hC dX7_statement_129 rfl ?_
  refine z_ldcS hC (j := 3) (List.mem_of_getElem? (i := 11) rfl) dX7_statement_130 ?_
  refine wVv hC dX7_statement_132 zlX7_226 (c_isW hS h7 hX hz hT hp hs (j := 3) (by decide) (v := 0) (by rw [hw]; decide)) (hS _) rfl rfl rfl rfl rfl rfl ⟨rfl, rfl⟩ ?_
  refine z_nif_eq hC dX7_statement_135 (tgt := 147) (by decide) (by omega) (fun c135 => ?_) (fun c135 => ?_)
  rotate_left
  · exact absurd c135 (by decide)
  refine z_aload_n hC dX7_statement_147 rfl ?_
  refine z_ldcS hC (j := 4) (List.mem_of_getElem? (i := 12) rfl) dX7_statement_148 ?_
  refine wVv hC dX7_statement_150 zlX7_226 (c_isW hS h7 hX hz hT hp hs (j := 4) (by decide) (v := 1) (by rw [hw]; decide)) (hS _) rfl rfl rfl rfl rfl rfl ⟨rfl, rfl⟩ ?_
  refine z_istore_n hC dX7_statement_153 (lo2 := [_, _]) (Nat.le_of_ble_eq_true rfl) rfl rfl ?_
  refine z_iload_n hC dX7_statement_154 rfl ?_
  refine z_nif_ne hC dX7_statement_155 (tgt := 167) (by decide) (by omega) (fun c155 => ?_) (fun c155 => ?_)
  rotate_left
  · exact absurd c155 (by decide)
  refine z_aload_n hC dX7_statement_167 rfl ?_
  refine z_getN hC dX7_statement_168 (hS _) zfX7_150 rfl hm.1.2.1 ?_
  refine z_bipush hC dX7_statement_171 (v := nI 8) rfl ?_
  refine z_nicmp_ge hC dX7_statement_173 (tgt := 230) (by decide) (by omega) (by omega) (fun c173 => ?_) (fun c173 => ?_)
  rotate_left
  · exact absurd c173 (by omega)
  refine z_aload_n hC dX7_statement_230 rfl ?_
  refine z_ldcS hC (j := 6) (List.mem_of_getElem? (i := 14) rfl) dX7_statement_231 ?_
  refine wVv hC dX7_statement_233 zlX7_226 (c_isW hS h7 hX hz hT hp hs (j := 6) (by decide) (v := 0) (by rw [hw]; decide)) (hS _) rfl rfl rfl rfl rfl rfl ⟨rfl, rfl⟩ ?_
  refine z_nif_eq hC dX7_statement_236 (tgt := 310) (by decide) (by omega) (fun c236 => ?_) (fun c236 => ?_)
  rotate_left
  · exact absurd c236 (by decide)
  refine z_aload_n hC dX7_statement_310 rfl ?_
  refine z_ldcS hC (j := 7) (List.mem_of_getElem? (i := 15) rfl) dX7_statement_311 ?_
  refine wVv hC dX7_statement_313 zlX7_226 (c_isW hS h7 hX hz hT hp hs (j := 7) (by decide) (v := 0) (by rw [hw]; decide)) (hS _) rfl rfl rfl rfl rfl rfl ⟨rfl, rfl⟩ ?_
  refine z_nif_eq hC dX7_statement_316 (tgt := 365) (by decide) (by omega) (fun c316 => ?_) (fun c316 => ?_)
  rotate_left
  · exact absurd c316 (by decide)
  refine z_aload_n hC dX7_statement_365 rfl ?_
  refine wVv hC dX7_statement_366 zlX7_208 (c_X7_wrong hS hs.2.2.1) (hS _) rfl rfl rfl rfl rfl rfl ⟨rfl, rfl⟩ ?_
  refine z_zret hC dX7_statement_369 rfl ?_
  exact (hE _ _ ⟨up3_eq _ _ _ _ _, st_any hM hq1 (fun b k j h => up3_ne (by omega)) (fun _ _ _ _ => rfl)⟩).to (by rfl) rfl rfl rfl

theorem c_st_5r (hS : ∀ k, S 0 k = msh 0 k) (h7 : I 0 0 7 = nI z) (hX : ∀ i, i < z → X 0 15 i = nI (T i)) (hz : z ≤ 250) (hT : ∀ i, i < z → T i ≤ 255) {p : Nat} (hp : p ≤ z) (hs : mSt T z p I) (hM : MMe qe (DR D R) I X Y) (hR : ROK R) (hq1 : zQm 1 R0 I X) (hw : wqN T z p = some 5) (hr : ¬ R.1 1 < 8)  : zCq mX7_statement 5 [zr 0 0] (some (zi (nI 0))) ad S I X Y sz (fun I1 X1 => I1 0 0 34 = nI (tkA T z p) ∧ MMe qe (DR D R) I1 X1 Y ∧ zQm 1 R0 I1 X1) := by
  refine zgoQ (own := RX7) (k := 1) (by decide +kernel) rfl rfl rfl (fun C hC hnm hE => ?_)
  have hm : zQm 0 R I X := hM.1
  have hn14 := hR.1
  have hn8 := hR.2.1
  have hn6 := hR.2.2.1
  have htk := tk_le (T := T) hp
  have hp1 : (tkE T z p) ≤ z := (tk_le (T := T) hp).2.2.1
  have hf1 := fgN_le (T := T) hp1
  have hp2 : (tkE T z (tkE T z p)) ≤ z := (tk_le (T := T) hp1).2.2.1
  have hf2 := fgN_le (T := T) hp2
  have hp3 : (tkE T z (tkE T z (tkE T z p))) ≤ z := (tk_le (T := T) hp2).2.2.1
  have hf3 := fgN_le (T := T) hp3
  have hp4 : (tkE T z (tkE T z (tkE T z (tkE T z p)))) ≤ z := (tk_le (T := T) hp3).2.2.1
  have hf4 := fgN_le (T := T) hp4
  have hp5 : (tkE T z (tkE T z (tkE T z (tkE T z (tkE T z p))))) ≤ z := (tk_le (T := T) hp4).2.2.1
  have hf5 := fgN_le (T := T) hp5
  refine z_aload_n hC dX7_statement_0 rfl ?_
  refine z_ldcS hC (j := 0) (List.mem_of_getElem? (i := 8) rfl) dX7_statement_1 ?_
  refine wVv hC dX7_statement_3 zlX7_226 (c_isW hS h7 hX hz hT hp hs (j := 0) (by decide) (v := 0) (by rw [hw]; decide)) (hS _) rfl rfl rfl rfl rfl rfl ⟨rfl, rfl⟩ ?_
  refine z_nif_eq hC dX7_statement_6 (tgt := 94) (by decide) (by omega) (fun c6 => ?_) (fun c6 => ?_)
  rotate_left
  · exact absurd c6 (by decide)
  refine z_aload_n hC dX7_statement_94 rfl ?_
  refine z_ldcS hC (j := 1) (List.mem_of_getElem? (i := 9) rfl) dX7_statement_95 ?_
  refine wVv hC dX7_statement_97 zlX7_226 (c_isW hS h7 hX hz hT hp hs (j := 1) (by decide) (v := 0) (by rw [hw]; decide)) (hS _) rfl rfl rfl rfl rfl rfl ⟨rfl, rfl⟩ ?_
  refine z_nif_eq hC dX7_statement_100 (tgt := 112) (by decide) (by omega) (fun c100 => ?_) (fun c100 => ?_)
  rotate_left
  · exact absurd c100 (by decide)
  refine z_aload_n hC dX7_statement_112 rfl ?_
  refine z_ldcS hC (j := 2) (List.mem_of_getElem? (i := 10) rfl) dX7_statement_113 ?_
  refine wVv hC dX7_statement_115 zlX7_226 (c_isW hS h7 hX hz hT hp hs (j := 2) (by decide) (v := 0) (by rw [hw]; decide)) (hS _) rfl rfl rfl rfl rfl rfl ⟨rfl, rfl⟩ ?_
  refine z_nif_eq hC dX7_statement_118 (tgt := 129) (by decide) (by omega) (fun c118 => ?_) (fun c118 => ?_)
  rotate_left
  · exact absurd c118 (by decide)
  refine z_aload_n hC dX7_statement_129 rfl ?_
  refine z_ldcS hC (j := 3) (List.mem_of_getElem? (i := 11) rfl) dX7_statement_130 ?_
  refine wVv hC dX7_statement_132 zlX7_226 (c_isW hS h7 hX hz hT hp hs (j := 3) (by decide) (v := 0) (by rw [hw]; decide)) (hS _) rfl rfl rfl rfl rfl rfl ⟨rfl, rfl⟩ ?_
  refine z_nif_eq hC dX7_statement_135 (tgt := 147) (by decide) (by omega) (fun c135 => ?_) (fun c135 => ?_)
  rotate_left
  · exact absurd c135 (by decide)
  refine z_aload_n hC dX7_statement_147 rfl ?_
  refine z_ldcS hC (j := 4) (List.mem_of_getElem? (i := 12) rfl) dX7_statement_148 ?_
  refine wVv hC dX7_statement_150 zlX7_226 (c_isW hS h7 hX hz hT hp hs (j := 4) (by decide) (v := 0) (by rw [hw]; decide)) (hS _) rfl rfl rfl rfl rfl rfl ⟨rfl, rfl⟩ ?_
  refine z_istore_n hC dX7_statement_153 (lo2 := [_, _]) (Nat.le_of_ble_eq_true rfl) rfl rfl ?_
  refine z_iload_n hC dX7_statement_154 rfl ?_
  refine z_nif_ne hC dX7_statement_155 (tgt := 167) (by decide) (by omega) (fun c155 => ?_) (fun c155 => ?_)
  · exact absurd c155 (by decide)
  refine z_aload_n hC dX7_statement_158 rfl ?_
  refine z_ldcS hC (j := 5) (List.mem_of_getElem? (i := 13) rfl) dX7_statement_159 ?_
  refine wVv hC dX7_statement_161 zlX7_226 (c_isW hS h7 hX hz hT hp hs (j := 5) (by decide) (v := 1) (by rw [hw]; decide)) (hS _) rfl rfl rfl rfl rfl rfl ⟨rfl, rfl⟩ ?_
  refine z_nif_eq hC dX7_statement_164 (tgt := 230) (by decide) (by omega) (fun c164 => ?_) (fun c164 => ?_)
  · exact absurd c164 (by decide)
  refine z_aload_n hC dX7_statement_167 rfl ?_
  refine z_getN hC dX7_statement_168 (hS _) zfX7_150 rfl hm.1.2.1 ?_
  refine z_bipush hC dX7_statement_171 (v := nI 8) rfl ?_
  refine z_nicmp_ge hC dX7_statement_173 (tgt := 230) (by decide) (by omega) (by omega) (fun c173 => ?_) (fun c173 => ?_)
  rotate_left
  · exact absurd c173 (by omega)
  refine z_aload_n hC dX7_statement_230 rfl ?_
  refine z_ldcS hC (j := 6) (List.mem_of_getElem? (i := 14) rfl) dX7_statement_231 ?_
  refine wVv hC dX7_statement_233 zlX7_226 (c_isW hS h7 hX hz hT hp hs (j := 6) (by decide) (v := 0) (by rw [hw]; decide)) (hS _) rfl rfl rfl rfl rfl rfl ⟨rfl, rfl⟩ ?_
  refine z_nif_eq hC dX7_statement_236 (tgt := 310) (by decide) (by omega) (fun c236 => ?_) (fun c236 => ?_)
  rotate_left
  · exact absurd c236 (by decide)
  refine z_aload_n hC dX7_statement_310 rfl ?_
  refine z_ldcS hC (j := 7) (List.mem_of_getElem? (i := 15) rfl) dX7_statement_311 ?_
  refine wVv hC dX7_statement_313 zlX7_226 (c_isW hS h7 hX hz hT hp hs (j := 7) (by decide) (v := 0) (by rw [hw]; decide)) (hS _) rfl rfl rfl rfl rfl rfl ⟨rfl, rfl⟩ ?_
  refine z_nif_eq hC dX7_statement_316 (tgt := 365) (by decide) (by omega) (fun c316 => ?_) (fun c316 => ?_)
  rotate_left
  · exact absurd c316 (by decide)
  refine z_aload_n hC dX7_statement_365 rfl ?_
  refine wVv hC dX7_statement_366 zlX7_208 (c_X7_wrong hS hs.2.2.1) (hS _) rfl rfl rfl rfl rfl rfl ⟨rfl, rfl⟩ ?_
  refine z_zret hC dX7_statement_369 rfl ?_
  exact (hE _ _ ⟨up3_eq _ _ _ _ _, st_any hM hq1 (fun b k j h => up3_ne (by omega)) (fun _ _ _ _ => rfl)⟩).to (by rfl) rfl rfl rfl

theorem c_st_6r (hS : ∀ k, S 0 k = msh 0 k) (h7 : I 0 0 7 = nI z) (hX : ∀ i, i < z → X 0 15 i = nI (T i)) (hz : z ≤ 250) (hT : ∀ i, i < z → T i ≤ 255) {p : Nat} (hp : p ≤ z) (hs : mSt T z p I) (hM : MMe qe (DR D R) I X Y) (hR : ROK R) (hq1 : zQm 1 R0 I X) (hw : wqN T z p = some 6) (hr : ¬ R.1 2 < 6)  : zCq mX7_statement 5 [zr 0 0] (some (zi (nI 0))) ad S I X Y sz (fun I1 X1 => I1 0 0 34 = nI (tkA T z p) ∧ MMe qe (DR D R) I1 X1 Y ∧ zQm 1 R0 I1 X1) := by
  refine zgoQ (own := RX7) (k := 1) (by decide +kernel) rfl rfl rfl (fun C hC hnm hE => ?_)
  have hm : zQm 0 R I X := hM.1
  have hn14 := hR.1
  have hn8 := hR.2.1
  have hn6 := hR.2.2.1
  have htk := tk_le (T := T) hp
  have hp1 : (tkE T z p) ≤ z := (tk_le (T := T) hp).2.2.1
  have hf1 := fgN_le (T := T) hp1
  have hp2 : (tkE T z (tkE T z p)) ≤ z := (tk_le (T := T) hp1).2.2.1
  have hf2 := fgN_le (T := T) hp2
  have hp3 : (tkE T z (tkE T z (tkE T z p))) ≤ z := (tk_le (T := T) hp2).2.2.1
  have hf3 := fgN_le (T := T) hp3
  have hp4 : (tkE T z (tkE T z (tkE T z (tkE T z p)))) ≤ z := (tk_le (T := T) hp3).2.2.1
  have hf4 := fgN_le (T := T) hp4
  have hp5 : (tkE T z (tkE T z (tkE T z (tkE T z (tkE T z p))))) ≤ z := (tk_le (T := T) hp4).2.2.1
  have hf5 := fgN_le (T := T) hp5
  refine z_aload_n hC dX7_statement_0 rfl ?_
  refine z_ldcS hC (j := 0) (List.mem_of_getElem? (i := 8) rfl) dX7_statement_1 ?_
  refine wVv hC dX7_statement_3 zlX7_226 (c_isW hS h7 hX hz hT hp hs (j := 0) (by decide) (v := 0) (by rw [hw]; decide)) (hS _) rfl rfl rfl rfl rfl rfl ⟨rfl, rfl⟩ ?_
  refine z_nif_eq hC dX7_statement_6 (tgt := 94) (by decide) (by omega) (fun c6 => ?_) (fun c6 => ?_)
  rotate_left
  · exact absurd c6 (by decide)
  refine z_aload_n hC dX7_statement_94 rfl ?_
  refine z_ldcS hC (j := 1) (List.mem_of_getElem? (i := 9) rfl) dX7_statement_95 ?_
  refine wVv hC dX7_statement_97 zlX7_226 (c_isW hS h7 hX hz hT hp hs (j := 1) (by decide) (v := 0) (by rw [hw]; decide)) (hS _) rfl rfl rfl rfl rfl rfl ⟨rfl, rfl⟩ ?_
  refine z_nif_eq hC dX7_statement_100 (tgt := 112) (by decide) (by omega) (fun c100 => ?_) (fun c100 => ?_)
  rotate_left
  · exact absurd c100 (by decide)
  refine z_aload_n hC dX7_statement_112 rfl ?_
  refine z_ldcS hC (j := 2) (List.mem_of_getElem? (i := 10) rfl) dX7_statement_113 ?_
  refine wVv hC dX7_statement_115 zlX7_226 (c_isW hS h7 hX hz hT hp hs (j := 2) (by decide) (v := 0) (by rw [hw]; decide)) (hS _) rfl rfl rfl rfl rfl rfl ⟨rfl, rfl⟩ ?_
  refine z_nif_eq hC dX7_statement_118 (tgt := 129) (by decide) (by omega) (fun c118 => ?_) (fun c118 => ?_)
  rotate_left
  · exact absurd c118 (by decide)
  refine z_aload_n hC dX7_statement_129 rfl ?_
  refine z_ldcS hC (j := 3) (List.mem_of_getElem? (i := 11) rfl) dX7_statement_130 ?_
  refine wVv hC dX7_statement_132 zlX7_226 (c_isW hS h7 hX hz hT hp hs (j := 3) (by decide) (v := 0) (by rw [hw]; decide)) (hS _) rfl rfl rfl rfl rfl rfl ⟨rfl, rfl⟩ ?_
  refine z_nif_eq hC dX7_statement_135 (tgt := 147) (by decide) (by omega) (fun c135 => ?_) (fun c135 => ?_)
  rotate_left
  · exact absurd c135 (by decide)
  refine z_aload_n hC dX7_statement_147 rfl ?_
  refine z_ldcS hC (j := 4) (List.mem_of_getElem? (i := 12) rfl) dX7_statement_148 ?_
  refine wVv hC dX7_statement_150 zlX7_226 (c_isW hS h7 hX hz hT hp hs (j := 4) (by decide) (v := 0) (by rw [hw]; decide)) (hS _) rfl rfl rfl rfl rfl rfl ⟨rfl, rfl⟩ ?_
  refine z_istore_n hC dX7_statement_153 (lo2 := [_, _]) (Nat.le_of_ble_eq_true rfl) rfl rfl ?_
  refine z_iload_n hC dX7_statement_154 rfl ?_
  refine z_nif_ne hC dX7_statement_155 (tgt := 167) (by decide) (by omega) (fun c155 => ?_) (fun c155 => ?_)
  · exact absurd c155 (by decide)
  refine z_aload_n hC dX7_statement_158 rfl ?_
  refine z_ldcS hC (j := 5) (List.mem_of_getElem? (i := 13) rfl) dX7_statement_159 ?_
  refine wVv hC dX7_statement_161 zlX7_226 (c_isW hS h7 hX hz hT hp hs (j := 5) (by decide) (v := 0) (by rw [hw]; decide)) (hS _) rfl rfl rfl rfl rfl rfl ⟨rfl, rfl⟩ ?_
  refine z_nif_eq hC dX7_statement_164 (tgt := 230) (by decide) (by omega) (fun c164 => ?_) (fun c164 => ?_)
  rotate_left
  · exact absurd c164 (by decide)
  refine z_aload_n hC dX7_statement_230 rfl ?_
  refine z_ldcS hC (j := 6) (List.mem_of_getElem? (i := 14) rfl) dX7_statement_231 ?_
  refine wVv hC dX7_statement_233 zlX7_226 (c_isW hS h7 hX hz hT hp hs (j := 6) (by decide) (v := 1) (by rw [hw]; decide)) (hS _) rfl rfl rfl rfl rfl rfl ⟨rfl, rfl⟩ ?_
  refine z_nif_eq hC dX7_statement_236 (tgt := 310) (by decide) (by omega) (fun c236 => ?_) (fun c236 => ?_)
  · exact absurd c236 (by decide)
  refine z_aload_n hC dX7_statement_239 rfl ?_
  refine z_getN hC dX7_statement_240 (hS _) zfX7_163 rfl hm.1.2.2.1 ?_
  refine z_bipush hC dX7_statement_243 (v := nI 6) rfl ?_
  refine z_nicmp_ge hC dX7_statement_245 (tgt := 310) (by decide) (by omega) (by omega) (fun c245 => ?_) (fun c245 => ?_)
  rotate_left
  · exact absurd c245 (by omega)
  refine z_aload_n hC dX7_statement_310 rfl ?_
  refine z_ldcS hC (j := 7) (List.mem_of_getElem? (i := 15) rfl) dX7_statement_311 ?_
  refine wVv hC dX7_statement_313 zlX7_226 (c_isW hS h7 hX hz hT hp hs (j := 7) (by decide) (v := 0) (by rw [hw]; decide)) (hS _) rfl rfl rfl rfl rfl rfl ⟨rfl, rfl⟩ ?_
  refine z_nif_eq hC dX7_statement_316 (tgt := 365) (by decide) (by omega) (fun c316 => ?_) (fun c316 => ?_)
  rotate_left
  · exact absurd c316 (by decide)
  refine z_aload_n hC dX7_statement_365 rfl ?_
  refine wVv hC dX7_statement_366 zlX7_208 (c_X7_wrong hS hs.2.2.1) (hS _) rfl rfl rfl rfl rfl rfl ⟨rfl, rfl⟩ ?_
  refine z_zret hC dX7_statement_369 rfl ?_
  exact (hE _ _ ⟨up3_eq _ _ _ _ _, st_any hM hq1 (fun b k j h => up3_ne (by omega)) (fun _ _ _ _ => rfl)⟩).to (by rfl) rfl rfl rfl

theorem c_st_0t (hS : ∀ k, S 0 k = msh 0 k) (h7 : I 0 0 7 = nI z) (hX : ∀ i, i < z → X 0 15 i = nI (T i)) (hz : z ≤ 250) (hT : ∀ i, i < z → T i ≤ 255) {p : Nat} (hp : p ≤ z) (hs : mSt T z p I) (hM : MMe qe (DR D R) I X Y) (hR : ROK R) (hq1 : zQm 1 R0 I X) (hw : wqN T z p = some 0) (hr : R.1 0 < 14) (hc : ∀ i, i < 4 → cK T z R 0 p i)  : zCq mX7_statement 5 [zr 0 0] (some (zi (nI 1))) ad S I X Y sz (fun I1 X1 => mSt T z (tkE T z (tkE T z (tkE T z (tkE T z (tkE T z p))))) I1 ∧ MMe qe (DR D (cyR R 0 (nmK T z p 4))) I1 X1 Y ∧ zQm 1 R0 I1 X1 ∧ I1 0 0 36 = I 0 0 36) := by
  refine zgoQ (own := RX7) (k := 1) (by decide +kernel) rfl rfl rfl (fun C hC hnm hE => ?_)
  have hm : zQm 0 R I X := hM.1
  have hn14 := hR.1
  have hn8 := hR.2.1
  have hn6 := hR.2.2.1
  have htk := tk_le (T := T) hp
  have hp1 : (tkE T z p) ≤ z := (tk_le (T := T) hp).2.2.1
  have hf1 := fgN_le (T := T) hp1
  have hp2 : (tkE T z (tkE T z p)) ≤ z := (tk_le (T := T) hp1).2.2.1
  have hf2 := fgN_le (T := T) hp2
  have hp3 : (tkE T z (tkE T z (tkE T z p))) ≤ z := (tk_le (T := T) hp2).2.2.1
  have hf3 := fgN_le (T := T) hp3
  have hp4 : (tkE T z (tkE T z (tkE T z (tkE T z p)))) ≤ z := (tk_le (T := T) hp3).2.2.1
  have hf4 := fgN_le (T := T) hp4
  have hp5 : (tkE T z (tkE T z (tkE T z (tkE T z (tkE T z p))))) ≤ z := (tk_le (T := T) hp4).2.2.1
  have hf5 := fgN_le (T := T) hp5
  have hv0 := (tkV_00).mp (hc 0 (by decide)).2
  have hv1 := (tkV_01).mp (hc 1 (by decide)).2
  have hv2 := (tkV_02).mp (hc 2 (by decide)).2
  have hv3 := (tkV_03).mp (hc 3 (by decide)).2
  have hst : MMe qe (DR D R) (mTM T z I (tkE T z (tkE T z (tkE T z (tkE T z (tkE T z p)))))) (zrow 0 28 (vk T z p) 4 X) Y ∧ zQm 1 R0 (mTM T z I (tkE T z (tkE T z (tkE T z (tkE T z (tkE T z p)))))) (zrow 0 28 (vk T z p) 4 X) := st_any hM hq1 (fun b k j h => mTM_ne (by omega)) (fun b k j h => zrow_ne (by omega))
  have hmn : zQm 0 R (mTM T z I (tkE T z (tkE T z (tkE T z (tkE T z (tkE T z p)))))) (zrow 0 28 (vk T z p) 4 X) := hst.1.1
  refine z_aload_n hC dX7_statement_0 rfl ?_
  refine z_ldcS hC (j := 0) (List.mem_of_getElem? (i := 8) rfl) dX7_statement_1 ?_
  refine wVv hC dX7_statement_3 zlX7_226 (c_isW hS h7 hX hz hT hp hs (j := 0) (by decide) (v := 1) (by rw [hw]; decide)) (hS _) rfl rfl rfl rfl rfl rfl ⟨rfl, rfl⟩ ?_
  refine z_nif_eq hC dX7_statement_6 (tgt := 94) (by decide) (by omega) (fun c6 => ?_) (fun c6 => ?_)
  · exact absurd c6 (by decide)
  refine z_aload_n hC dX7_statement_9 rfl ?_
  refine z_getN hC dX7_statement_10 (hS _) zfX7_94 rfl hm.1.1 ?_
  refine z_bipush hC dX7_statement_13 (v := nI 14) rfl ?_
  refine z_nicmp_ge hC dX7_statement_15 (tgt := 94) (by decide) (by omega) (by omega) (fun c15 => ?_) (fun c15 => ?_)
  · exact absurd c15 (by omega)
  refine z_aload_n hC dX7_statement_18 rfl ?_
  refine z_iconst hC dX7_statement_19 (v := nI 0) rfl ?_
  refine z_iconst hC dX7_statement_20 (v := nI 5) rfl ?_
  refine wVv hC dX7_statement_21 zlX7_218 (c_tells_t hS h7 hX hz hT hp hs (by decide) (hc 0 (by decide)).1 ((kP_00 hf1).mp (hc 0 (by decide)).2)) (hS _) rfl rfl rfl rfl rfl rfl ⟨rfl, rfl⟩ ?_
  refine z_X (X2 := zrow 0 28 (vk T z p) 1 X) (zr_1 (f := vk T z p)) ?_
  refine z_nif_eq hC dX7_statement_24 (tgt := 62) (by decide) (by omega) (fun c24 => ?_) (fun c24 => ?_)
  · exact absurd c24 (by decide)
  refine z_aload_n hC dX7_statement_27 rfl ?_
  refine z_iconst hC dX7_statement_28 (v := nI 1) rfl ?_
  refine z_iconst hC dX7_statement_29 (v := nI 0) rfl ?_
  refine z_bipush hC dX7_statement_30 (v := nI 9) rfl ?_
  refine wVv hC dX7_statement_32 zlX7_214 (c_number_t hS ((mTM_ne (by omega)).trans h7) (fun j hj => (zrow_ne (by omega)).trans (hX j hj)) hz hT hp2 mTM_st (by decide) (by decide) (hc 1 (by decide)).1 ((kP_01 hf2).mp (hc 1 (by decide)).2)) (hS _) rfl rfl rfl rfl rfl rfl ⟨rfl, rfl⟩ ?_
  rw [mTM_2]
  refine z_X (X2 := zrow 0 28 (vk T z p) 2 X) (zrow_s (k := 1) (f := vk T z p)) ?_
  refine z_nif_eq hC dX7_statement_35 (tgt := 62) (by decide) (by omega) (fun c35 => ?_) (fun c35 => ?_)
  · exact absurd c35 (by decide)
  refine z_aload_n hC dX7_statement_38 rfl ?_
  refine z_iconst hC dX7_statement_39 (v := nI 2) rfl ?_
  refine z_iconst hC dX7_statement_40 (v := nI 1) rfl ?_
  refine z_sipush hC dX7_statement_41 (v := nI 999) rfl ?_
  refine wVv hC dX7_statement_44 zlX7_214 (c_number_t hS ((mTM_ne (by omega)).trans h7) (fun j hj => (zrow_ne (by omega)).trans (hX j hj)) hz hT hp3 mTM_st (by decide) (by decide) (hc 2 (by decide)).1 ((kP_02 hf3).mp (hc 2 (by decide)).2)) (hS _) rfl rfl rfl rfl rfl rfl ⟨rfl, rfl⟩ ?_
  rw [mTM_2]
  refine z_X (X2 := zrow 0 28 (vk T z p) 3 X) (zrow_s (k := 2) (f := vk T z p)) ?_
  refine z_nif_eq hC dX7_statement_47 (tgt := 62) (by decide) (by omega) (fun c47 => ?_) (fun c47 => ?_)
  · exact absurd c47 (by decide)
  refine z_aload_n hC dX7_statement_50 rfl ?_
  refine z_iconst hC dX7_statement_51 (v := nI 3) rfl ?_
  refine z_iconst hC dX7_statement_52 (v := nI 0) rfl ?_
  refine z_sipush hC dX7_statement_53 (v := nI 1000) rfl ?_
  refine wVv hC dX7_statement_56 zlX7_214 (c_number_t hS ((mTM_ne (by omega)).trans h7) (fun j hj => (zrow_ne (by omega)).trans (hX j hj)) hz hT hp4 mTM_st (by decide) (by decide) (hc 3 (by decide)).1 ((kP_03 hf4).mp (hc 3 (by decide)).2)) (hS _) rfl rfl rfl rfl rfl rfl ⟨rfl, rfl⟩ ?_
  rw [mTM_2]
  refine z_X (X2 := zrow 0 28 (vk T z p) 4 X) (zrow_s (k := 3) (f := vk T z p)) ?_
  refine z_nif_ne hC dX7_statement_59 (tgt := 64) (by decide) (by omega) (fun c59 => ?_) (fun c59 => ?_)
  rotate_left
  · exact absurd c59 (by decide)
  refine z_aload_n hC dX7_statement_64 rfl ?_
  refine z_aload_n hC dX7_statement_65 rfl ?_
  refine z_getR hC dX7_statement_66 (hS _) zfX7_80 rfl ?_
  refine z_iconst hC dX7_statement_69 (v := nI 0) rfl ?_
  refine z_naldN hC dX7_statement_70 (hS _) (by omega) rfl (zrow_get (f := vk T z p) (show 0 < 4 by decide)) ?_
  refine z_aload_n hC dX7_statement_71 rfl ?_
  refine z_getR hC dX7_statement_72 (hS _) zfX7_80 rfl ?_
  refine z_iconst hC dX7_statement_75 (v := nI 1) rfl ?_
  refine z_naldN hC dX7_statement_76 (hS _) (by omega) rfl (zrow_get (f := vk T z p) (show 1 < 4 by decide)) ?_
  refine z_aload_n hC dX7_statement_77 rfl ?_
  refine z_getR hC dX7_statement_78 (hS _) zfX7_80 rfl ?_
  refine z_iconst hC dX7_statement_81 (v := nI 2) rfl ?_
  refine z_naldN hC dX7_statement_82 (hS _) (by omega) rfl (zrow_get (f := vk T z p) (show 2 < 4 by decide)) ?_
  refine z_aload_n hC dX7_statement_83 rfl ?_
  refine z_getR hC dX7_statement_84 (hS _) zfX7_80 rfl ?_
  refine z_iconst hC dX7_statement_87 (v := nI 3) rfl ?_
  refine z_naldN hC dX7_statement_88 (hS _) (by omega) rfl (zrow_get (f := vk T z p) (show 3 < 4 by decide)) ?_
  refine wV0 hC dX7_statement_89 zlX7_138 (c_X7_addBend hS hmn hR hr) (hS _) rfl rfl rfl rfl rfl rfl ⟨rfl, rfl⟩ ?_
  refine z_iconst hC dX7_statement_92 (v := nI 1) rfl ?_
  refine z_zret hC dX7_statement_93 rfl ?_
  exact (hE _ _ (st_fin hst (show zQm 0 (cyR R 0 (nmK T z p 4)) _ _ from hmn.addB) (fun b k j h => up3_ne (by omega)) (fun b k j h => maddB_ne (by omega)) mTM_st (mTM_ne (by omega)))).to (by rfl) rfl rfl rfl

theorem c_st_0f0 (hS : ∀ k, S 0 k = msh 0 k) (h7 : I 0 0 7 = nI z) (hX : ∀ i, i < z → X 0 15 i = nI (T i)) (hz : z ≤ 250) (hT : ∀ i, i < z → T i ≤ 255) {p : Nat} (hp : p ≤ z) (hs : mSt T z p I) (hM : MMe qe (DR D R) I X Y) (hR : ROK R) (hq1 : zQm 1 R0 I X) (hw : wqN T z p = some 0) (hr : R.1 0 < 14) (hc : ∀ i, i < 0 → cK T z R 0 p i) (hb : ¬ cK T z R 0 p 0)  : zCq mX7_statement 5 [zr 0 0] (some (zi (nI 0))) ad S I X Y sz (fun I1 X1 => I1 0 0 34 = nI (tkA T z (tkE T z p)) ∧ MMe qe (DR D R) I1 X1 Y ∧ zQm 1 R0 I1 X1) := by
  refine zgoQ (own := RX7) (k := 1) (by decide +kernel) rfl rfl rfl (fun C hC hnm hE => ?_)
  have hm : zQm 0 R I X := hM.1
  have hn14 := hR.1
  have hn8 := hR.2.1
  have hn6 := hR.2.2.1
  have htk := tk_le (T := T) hp
  have hp1 : (tkE T z p) ≤ z := (tk_le (T := T) hp).2.2.1
  have hf1 := fgN_le (T := T) hp1
  have hp2 : (tkE T z (tkE T z p)) ≤ z := (tk_le (T := T) hp1).2.2.1
  have hf2 := fgN_le (T := T) hp2
  have hp3 : (tkE T z (tkE T z (tkE T z p))) ≤ z := (tk_le (T := T) hp2).2.2.1
  have hf3 := fgN_le (T := T) hp3
  have hp4 : (tkE T z (tkE T z (tkE T z (tkE T z p)))) ≤ z := (tk_le (T := T) hp3).2.2.1
  have hf4 := fgN_le (T := T) hp4
  have hp5 : (tkE T z (tkE T z (tkE T z (tkE T z (tkE T z p))))) ≤ z := (tk_le (T := T) hp4).2.2.1
  have hf5 := fgN_le (T := T) hp5
  refine z_aload_n hC dX7_statement_0 rfl ?_
  refine z_ldcS hC (j := 0) (List.mem_of_getElem? (i := 8) rfl) dX7_statement_1 ?_
  refine wVv hC dX7_statement_3 zlX7_226 (c_isW hS h7 hX hz hT hp hs (j := 0) (by decide) (v := 1) (by rw [hw]; decide)) (hS _) rfl rfl rfl rfl rfl rfl ⟨rfl, rfl⟩ ?_
  refine z_nif_eq hC dX7_statement_6 (tgt := 94) (by decide) (by omega) (fun c6 => ?_) (fun c6 => ?_)
  · exact absurd c6 (by decide)
  refine z_aload_n hC dX7_statement_9 rfl ?_
  refine z_getN hC dX7_statement_10 (hS _) zfX7_94 rfl hm.1.1 ?_
  refine z_bipush hC dX7_statement_13 (v := nI 14) rfl ?_
  refine z_nicmp_ge hC dX7_statement_15 (tgt := 94) (by decide) (by omega) (by omega) (fun c15 => ?_) (fun c15 => ?_)
  · exact absurd c15 (by omega)
  refine z_aload_n hC dX7_statement_18 rfl ?_
  refine z_iconst hC dX7_statement_19 (v := nI 0) rfl ?_
  refine z_iconst hC dX7_statement_20 (v := nI 5) rfl ?_
  refine wVv hC dX7_statement_21 zlX7_218 (c_tells_f hS h7 hX hz hT hp hs (by decide) (fun w => hb ⟨w.1, (kP_00 hf1).mpr w.2⟩)) (hS _) rfl rfl rfl rfl rfl rfl ⟨rfl, rfl⟩ ?_
  refine z_nif_eq hC dX7_statement_24 (tgt := 62) (by decide) (by omega) (fun c24 => ?_) (fun c24 => ?_)
  rotate_left
  · exact absurd c24 (by decide)
  refine z_iconst hC dX7_statement_62 (v := nI 0) rfl ?_
  refine z_zret hC dX7_statement_63 rfl ?_
  exact (hE _ _ ⟨up3_eq _ _ _ _ _, st_any hM hq1 (fun b k j h => (up3_ne (by omega)).trans (mTM_ne (by omega))) (fun _ _ _ _ => rfl)⟩).to (by rfl) rfl rfl rfl

theorem c_st_0f1 (hS : ∀ k, S 0 k = msh 0 k) (h7 : I 0 0 7 = nI z) (hX : ∀ i, i < z → X 0 15 i = nI (T i)) (hz : z ≤ 250) (hT : ∀ i, i < z → T i ≤ 255) {p : Nat} (hp : p ≤ z) (hs : mSt T z p I) (hM : MMe qe (DR D R) I X Y) (hR : ROK R) (hq1 : zQm 1 R0 I X) (hw : wqN T z p = some 0) (hr : R.1 0 < 14) (hc : ∀ i, i < 1 → cK T z R 0 p i) (hb : ¬ cK T z R 0 p 1)  : zCq mX7_statement 5 [zr 0 0] (some (zi (nI 0))) ad S I X Y sz (fun I1 X1 => I1 0 0 34 = nI (tkA T z (tkE T z (tkE T z p))) ∧ MMe qe (DR D R) I1 X1 Y ∧ zQm 1 R0 I1 X1) := by
  refine zgoQ (own := RX7) (k := 1) (by decide +kernel) rfl rfl rfl (fun C hC hnm hE => ?_)
  have hm : zQm 0 R I X := hM.1
  have hn14 := hR.1
  have hn8 := hR.2.1
  have hn6 := hR.2.2.1
  have htk := tk_le (T := T) hp
  have hp1 : (tkE T z p) ≤ z := (tk_le (T := T) hp).2.2.1
  have hf1 := fgN_le (T := T) hp1
  have hp2 : (tkE T z (tkE T z p)) ≤ z := (tk_le (T := T) hp1).2.2.1
  have hf2 := fgN_le (T := T) hp2
  have hp3 : (tkE T z (tkE T z (tkE T z p))) ≤ z := (tk_le (T := T) hp2).2.2.1
  have hf3 := fgN_le (T := T) hp3
  have hp4 : (tkE T z (tkE T z (tkE T z (tkE T z p)))) ≤ z := (tk_le (T := T) hp3).2.2.1
  have hf4 := fgN_le (T := T) hp4
  have hp5 : (tkE T z (tkE T z (tkE T z (tkE T z (tkE T z p))))) ≤ z := (tk_le (T := T) hp4).2.2.1
  have hf5 := fgN_le (T := T) hp5
  refine z_aload_n hC dX7_statement_0 rfl ?_
  refine z_ldcS hC (j := 0) (List.mem_of_getElem? (i := 8) rfl) dX7_statement_1 ?_
  refine wVv hC dX7_statement_3 zlX7_226 (c_isW hS h7 hX hz hT hp hs (j := 0) (by decide) (v := 1) (by rw [hw]; decide)) (hS _) rfl rfl rfl rfl rfl rfl ⟨rfl, rfl⟩ ?_
  refine z_nif_eq hC dX7_statement_6 (tgt := 94) (by decide) (by omega) (fun c6 => ?_) (fun c6 => ?_)
  · exact absurd c6 (by decide)
  refine z_aload_n hC dX7_statement_9 rfl ?_
  refine z_getN hC dX7_statement_10 (hS _) zfX7_94 rfl hm.1.1 ?_
  refine z_bipush hC dX7_statement_13 (v := nI 14) rfl ?_
  refine z_nicmp_ge hC dX7_statement_15 (tgt := 94) (by decide) (by omega) (by omega) (fun c15 => ?_) (fun c15 => ?_)
  · exact absurd c15 (by omega)
  refine z_aload_n hC dX7_statement_18 rfl ?_
  refine z_iconst hC dX7_statement_19 (v := nI 0) rfl ?_
  refine z_iconst hC dX7_statement_20 (v := nI 5) rfl ?_
  refine wVv hC dX7_statement_21 zlX7_218 (c_tells_t hS h7 hX hz hT hp hs (by decide) (hc 0 (by decide)).1 ((kP_00 hf1).mp (hc 0 (by decide)).2)) (hS _) rfl rfl rfl rfl rfl rfl ⟨rfl, rfl⟩ ?_
  refine z_X (X2 := zrow 0 28 (vk T z p) 1 X) (zr_1 (f := vk T z p)) ?_
  refine z_nif_eq hC dX7_statement_24 (tgt := 62) (by decide) (by omega) (fun c24 => ?_) (fun c24 => ?_)
  · exact absurd c24 (by decide)
  refine z_aload_n hC dX7_statement_27 rfl ?_
  refine z_iconst hC dX7_statement_28 (v := nI 1) rfl ?_
  refine z_iconst hC dX7_statement_29 (v := nI 0) rfl ?_
  refine z_bipush hC dX7_statement_30 (v := nI 9) rfl ?_
  refine wVv hC dX7_statement_32 zlX7_214 (c_number_f hS ((mTM_ne (by omega)).trans h7) (fun j hj => (zrow_ne (by omega)).trans (hX j hj)) hz hT hp2 mTM_st (by decide) (by decide) (fun w => hb ⟨w.1, (kP_01 hf2).mpr w.2⟩)) (hS _) rfl rfl rfl rfl rfl rfl ⟨rfl, rfl⟩ ?_
  refine z_nif_eq hC dX7_statement_35 (tgt := 62) (by decide) (by omega) (fun c35 => ?_) (fun c35 => ?_)
  rotate_left
  · exact absurd c35 (by decide)
  refine z_iconst hC dX7_statement_62 (v := nI 0) rfl ?_
  refine z_zret hC dX7_statement_63 rfl ?_
  exact (hE _ _ ⟨up3_eq _ _ _ _ _, st_any hM hq1 (fun b k j h => (up3_ne (by omega)).trans (mTM_ne (by omega))) (fun b k j h => zrow_ne (by omega))⟩).to (by rfl) rfl rfl rfl

theorem c_st_0f2 (hS : ∀ k, S 0 k = msh 0 k) (h7 : I 0 0 7 = nI z) (hX : ∀ i, i < z → X 0 15 i = nI (T i)) (hz : z ≤ 250) (hT : ∀ i, i < z → T i ≤ 255) {p : Nat} (hp : p ≤ z) (hs : mSt T z p I) (hM : MMe qe (DR D R) I X Y) (hR : ROK R) (hq1 : zQm 1 R0 I X) (hw : wqN T z p = some 0) (hr : R.1 0 < 14) (hc : ∀ i, i < 2 → cK T z R 0 p i) (hb : ¬ cK T z R 0 p 2)  : zCq mX7_statement 5 [zr 0 0] (some (zi (nI 0))) ad S I X Y sz (fun I1 X1 => I1 0 0 34 = nI (tkA T z (tkE T z (tkE T z (tkE T z p)))) ∧ MMe qe (DR D R) I1 X1 Y ∧ zQm 1 R0 I1 X1) := by
  refine zgoQ (own := RX7) (k := 1) (by decide +kernel) rfl rfl rfl (fun C hC hnm hE => ?_)
  have hm : zQm 0 R I X := hM.1
  have hn14 := hR.1
  have hn8 := hR.2.1
  have hn6 := hR.2.2.1
  have htk := tk_le (T := T) hp
  have hp1 : (tkE T z p) ≤ z := (tk_le (T := T) hp).2.2.1
  have hf1 := fgN_le (T := T) hp1
  have hp2 : (tkE T z (tkE T z p)) ≤ z := (tk_le (T := T) hp1).2.2.1
  have hf2 := fgN_le (T := T) hp2
  have hp3 : (tkE T z (tkE T z (tkE T z p))) ≤ z := (tk_le (T := T) hp2).2.2.1
  have hf3 := fgN_le (T := T) hp3
  have hp4 : (tkE T z (tkE T z (tkE T z (tkE T z p)))) ≤ z := (tk_le (T := T) hp3).2.2.1
  have hf4 := fgN_le (T := T) hp4
  have hp5 : (tkE T z (tkE T z (tkE T z (tkE T z (tkE T z p))))) ≤ z := (tk_le (T := T) hp4).2.2.1
  have hf5 := fgN_le (T := T) hp5
  refine z_aload_n hC dX7_statement_0 rfl ?_
  refine z_ldcS hC (j := 0) (List.mem_of_getElem? (i := 8) rfl) dX7_statement_1 ?_
  refine wVv hC dX7_statement_3 zlX7_226 (c_isW hS h7 hX hz hT hp hs (j := 0) (by decide) (v := 1) (by rw [hw]; decide)) (hS _) rfl rfl rfl rfl rfl rfl ⟨rfl, rfl⟩ ?_
  refine z_nif_eq hC dX7_statement_6 (tgt := 94) (by decide) (by omega) (fun c6 => ?_) (fun c6 => ?_)
  · exact absurd c6 (by decide)
  refine z_aload_n hC dX7_statement_9 rfl ?_
  refine z_getN hC dX7_statement_10 (hS _) zfX7_94 rfl hm.1.1 ?_
  refine z_bipush hC dX7_statement_13 (v := nI 14) rfl ?_
  refine z_nicmp_ge hC dX7_statement_15 (tgt := 94) (by decide) (by omega) (by omega) (fun c15 => ?_) (fun c15 => ?_)
  · exact absurd c15 (by omega)
  refine z_aload_n hC dX7_statement_18 rfl ?_
  refine z_iconst hC dX7_statement_19 (v := nI 0) rfl ?_
  refine z_iconst hC dX7_statement_20 (v := nI 5) rfl ?_
  refine wVv hC dX7_statement_21 zlX7_218 (c_tells_t hS h7 hX hz hT hp hs (by decide) (hc 0 (by decide)).1 ((kP_00 hf1).mp (hc 0 (by decide)).2)) (hS _) rfl rfl rfl rfl rfl rfl ⟨rfl, rfl⟩ ?_
  refine z_X (X2 := zrow 0 28 (vk T z p) 1 X) (zr_1 (f := vk T z p)) ?_
  refine z_nif_eq hC dX7_statement_24 (tgt := 62) (by decide) (by omega) (fun c24 => ?_) (fun c24 => ?_)
  · exact absurd c24 (by decide)
  refine z_aload_n hC dX7_statement_27 rfl ?_
  refine z_iconst hC dX7_statement_28 (v := nI 1) rfl ?_
  refine z_iconst hC dX7_statement_29 (v := nI 0) rfl ?_
  refine z_bipush hC dX7_statement_30 (v := nI 9) rfl ?_
  refine wVv hC dX7_statement_32 zlX7_214 (c_number_t hS ((mTM_ne (by omega)).trans h7) (fun j hj => (zrow_ne (by omega)).trans (hX j hj)) hz hT hp2 mTM_st (by decide) (by decide) (hc 1 (by decide)).1 ((kP_01 hf2).mp (hc 1 (by decide)).2)) (hS _) rfl rfl rfl rfl rfl rfl ⟨rfl, rfl⟩ ?_
  rw [mTM_2]
  refine z_X (X2 := zrow 0 28 (vk T z p) 2 X) (zrow_s (k := 1) (f := vk T z p)) ?_
  refine z_nif_eq hC dX7_statement_35 (tgt := 62) (by decide) (by omega) (fun c35 => ?_) (fun c35 => ?_)
  · exact absurd c35 (by decide)
  refine z_aload_n hC dX7_statement_38 rfl ?_
  refine z_iconst hC dX7_statement_39 (v := nI 2) rfl ?_
  refine z_iconst hC dX7_statement_40 (v := nI 1) rfl ?_
  refine z_sipush hC dX7_statement_41 (v := nI 999) rfl ?_
  refine wVv hC dX7_statement_44 zlX7_214 (c_number_f hS ((mTM_ne (by omega)).trans h7) (fun j hj => (zrow_ne (by omega)).trans (hX j hj)) hz hT hp3 mTM_st (by decide) (by decide) (fun w => hb ⟨w.1, (kP_02 hf3).mpr w.2⟩)) (hS _) rfl rfl rfl rfl rfl rfl ⟨rfl, rfl⟩ ?_
  refine z_nif_eq hC dX7_statement_47 (tgt := 62) (by decide) (by omega) (fun c47 => ?_) (fun c47 => ?_)
  rotate_left
  · exact absurd c47 (by decide)
  refine z_iconst hC dX7_statement_62 (v := nI 0) rfl ?_
  refine z_zret hC dX7_statement_63 rfl ?_
  exact (hE _ _ ⟨up3_eq _ _ _ _ _, st_any hM hq1 (fun b k j h => (up3_ne (by omega)).trans (mTM_ne (by omega))) (fun b k j h => zrow_ne (by omega))⟩).to (by rfl) rfl rfl rfl

theorem c_st_0f3 (hS : ∀ k, S 0 k = msh 0 k) (h7 : I 0 0 7 = nI z) (hX : ∀ i, i < z → X 0 15 i = nI (T i)) (hz : z ≤ 250) (hT : ∀ i, i < z → T i ≤ 255) {p : Nat} (hp : p ≤ z) (hs : mSt T z p I) (hM : MMe qe (DR D R) I X Y) (hR : ROK R) (hq1 : zQm 1 R0 I X) (hw : wqN T z p = some 0) (hr : R.1 0 < 14) (hc : ∀ i, i < 3 → cK T z R 0 p i) (hb : ¬ cK T z R 0 p 3)  : zCq mX7_statement 5 [zr 0 0] (some (zi (nI 0))) ad S I X Y sz (fun I1 X1 => I1 0 0 34 = nI (tkA T z (tkE T z (tkE T z (tkE T z (tkE T z p))))) ∧ MMe qe (DR D R) I1 X1 Y ∧ zQm 1 R0 I1 X1) := by
  refine zgoQ (own := RX7) (k := 1) (by decide +kernel) rfl rfl rfl (fun C hC hnm hE => ?_)
  have hm : zQm 0 R I X := hM.1
  have hn14 := hR.1
  have hn8 := hR.2.1
  have hn6 := hR.2.2.1
  have htk := tk_le (T := T) hp
  have hp1 : (tkE T z p) ≤ z := (tk_le (T := T) hp).2.2.1
  have hf1 := fgN_le (T := T) hp1
  have hp2 : (tkE T z (tkE T z p)) ≤ z := (tk_le (T := T) hp1).2.2.1
  have hf2 := fgN_le (T := T) hp2
  have hp3 : (tkE T z (tkE T z (tkE T z p))) ≤ z := (tk_le (T := T) hp2).2.2.1
  have hf3 := fgN_le (T := T) hp3
  have hp4 : (tkE T z (tkE T z (tkE T z (tkE T z p)))) ≤ z := (tk_le (T := T) hp3).2.2.1
  have hf4 := fgN_le (T := T) hp4
  have hp5 : (tkE T z (tkE T z (tkE T z (tkE T z (tkE T z p))))) ≤ z := (tk_le (T := T) hp4).2.2.1
  have hf5 := fgN_le (T := T) hp5
  refine z_aload_n hC dX7_statement_0 rfl ?_
  refine z_ldcS hC (j := 0) (List.mem_of_getElem? (i := 8) rfl) dX7_statement_1 ?_
  refine wVv hC dX7_statement_3 zlX7_226 (c_isW hS h7 hX hz hT hp hs (j := 0) (by decide) (v := 1) (by rw [hw]; decide)) (hS _) rfl rfl rfl rfl rfl rfl ⟨rfl, rfl⟩ ?_
  refine z_nif_eq hC dX7_statement_6 (tgt := 94) (by decide) (by omega) (fun c6 => ?_) (fun c6 => ?_)
  · exact absurd c6 (by decide)
  refine z_aload_n hC dX7_statement_9 rfl ?_
  refine z_getN hC dX7_statement_10 (hS _) zfX7_94 rfl hm.1.1 ?_
  refine z_bipush hC dX7_statement_13 (v := nI 14) rfl ?_
  refine z_nicmp_ge hC dX7_statement_15 (tgt := 94) (by decide) (by omega) (by omega) (fun c15 => ?_) (fun c15 => ?_)
  · exact absurd c15 (by omega)
  refine z_aload_n hC dX7_statement_18 rfl ?_
  refine z_iconst hC dX7_statement_19 (v := nI 0) rfl ?_
  refine z_iconst hC dX7_statement_20 (v := nI 5) rfl ?_
  refine wVv hC dX7_statement_21 zlX7_218 (c_tells_t hS h7 hX hz hT hp hs (by decide) (hc 0 (by decide)).1 ((kP_00 hf1).mp (hc 0 (by decide)).2)) (hS _) rfl rfl rfl rfl rfl rfl ⟨rfl, rfl⟩ ?_
  refine z_X (X2 := zrow 0 28 (vk T z p) 1 X) (zr_1 (f := vk T z p)) ?_
  refine z_nif_eq hC dX7_statement_24 (tgt := 62) (by decide) (by omega) (fun c24 => ?_) (fun c24 => ?_)
  · exact absurd c24 (by decide)
  refine z_aload_n hC dX7_statement_27 rfl ?_
  refine z_iconst hC dX7_statement_28 (v := nI 1) rfl ?_
  refine z_iconst hC dX7_statement_29 (v := nI 0) rfl ?_
  refine z_bipush hC dX7_statement_30 (v := nI 9) rfl ?_
  refine wVv hC dX7_statement_32 zlX7_214 (c_number_t hS ((mTM_ne (by omega)).trans h7) (fun j hj => (zrow_ne (by omega)).trans (hX j hj)) hz hT hp2 mTM_st (by decide) (by decide) (hc 1 (by decide)).1 ((kP_01 hf2).mp (hc 1 (by decide)).2)) (hS _) rfl rfl rfl rfl rfl rfl ⟨rfl, rfl⟩ ?_
  rw [mTM_2]
  refine z_X (X2 := zrow 0 28 (vk T z p) 2 X) (zrow_s (k := 1) (f := vk T z p)) ?_
  refine z_nif_eq hC dX7_statement_35 (tgt := 62) (by decide) (by omega) (fun c35 => ?_) (fun c35 => ?_)
  · exact absurd c35 (by decide)
  refine z_aload_n hC dX7_statement_38 rfl ?_
  refine z_iconst hC dX7_statement_39 (v := nI 2) rfl ?_
  refine z_iconst hC dX7_statement_40 (v := nI 1) rfl ?_
  refine z_sipush hC dX7_statement_41 (v := nI 999) rfl ?_
  refine wVv hC dX7_statement_44 zlX7_214 (c_number_t hS ((mTM_ne (by omega)).trans h7) (fun j hj => (zrow_ne (by omega)).trans (hX j hj)) hz hT hp3 mTM_st (by decide) (by decide) (hc 2 (by decide)).1 ((kP_02 hf3).mp (hc 2 (by decide)).2)) (hS _) rfl rfl rfl rfl rfl rfl ⟨rfl, rfl⟩ ?_
  rw [mTM_2]
  refine z_X (X2 := zrow 0 28 (vk T z p) 3 X) (zrow_s (k := 2) (f := vk T z p)) ?_
  refine z_nif_eq hC dX7_statement_47 (tgt := 62) (by decide) (by omega) (fun c47 => ?_) (fun c47 => ?_)
  · exact absurd c47 (by decide)
  refine z_aload_n hC dX7_statement_50 rfl ?_
  refine z_iconst hC dX7_statement_51 (v := nI 3) rfl ?_
  refine z_iconst hC dX7_statement_52 (v := nI 0) rfl ?_
  refine z_sipush hC dX7_statement_53 (v := nI 1000) rfl ?_
  refine wVv hC dX7_statement_56 zlX7_214 (c_number_f hS ((mTM_ne (by omega)).trans h7) (fun j hj => (zrow_ne (by omega)).trans (hX j hj)) hz hT hp4 mTM_st (by decide) (by decide) (fun w => hb ⟨w.1, (kP_03 hf4).mpr w.2⟩)) (hS _) rfl rfl rfl rfl rfl rfl ⟨rfl, rfl⟩ ?_
  refine z_nif_ne hC dX7_statement_59 (tgt := 64) (by decide) (by omega) (fun c59 => ?_) (fun c59 => ?_)
  · exact absurd c59 (by decide)
  refine z_iconst hC dX7_statement_62 (v := nI 0) rfl ?_
  refine z_zret hC dX7_statement_63 rfl ?_
  exact (hE _ _ ⟨up3_eq _ _ _ _ _, st_any hM hq1 (fun b k j h => (up3_ne (by omega)).trans (mTM_ne (by omega))) (fun b k j h => zrow_ne (by omega))⟩).to (by rfl) rfl rfl rfl

theorem c_st_1t (hS : ∀ k, S 0 k = msh 0 k) (h7 : I 0 0 7 = nI z) (hX : ∀ i, i < z → X 0 15 i = nI (T i)) (hz : z ≤ 250) (hT : ∀ i, i < z → T i ≤ 255) {p : Nat} (hp : p ≤ z) (hs : mSt T z p I) (hM : MMe qe (DR D R) I X Y) (hR : ROK R) (hq1 : zQm 1 R0 I X) (hw : wqN T z p = some 1) (hc : ∀ i, i < 1 → cK T z R 1 p i)  : zCq mX7_statement 5 [zr 0 0] (some (zi (nI 1))) ad S I X Y sz (fun I1 X1 => mSt T z (tkE T z (tkE T z p)) I1 ∧ MMe qe (DR D (cyR R 1 (nmK T z p 1))) I1 X1 Y ∧ zQm 1 R0 I1 X1 ∧ I1 0 0 36 = I 0 0 36) := by
  refine zgoQ (own := RX7) (k := 1) (by decide +kernel) rfl rfl rfl (fun C hC hnm hE => ?_)
  have hm : zQm 0 R I X := hM.1
  have hn14 := hR.1
  have hn8 := hR.2.1
  have hn6 := hR.2.2.1
  have htk := tk_le (T := T) hp
  have hp1 : (tkE T z p) ≤ z := (tk_le (T := T) hp).2.2.1
  have hf1 := fgN_le (T := T) hp1
  have hp2 : (tkE T z (tkE T z p)) ≤ z := (tk_le (T := T) hp1).2.2.1
  have hf2 := fgN_le (T := T) hp2
  have hp3 : (tkE T z (tkE T z (tkE T z p))) ≤ z := (tk_le (T := T) hp2).2.2.1
  have hf3 := fgN_le (T := T) hp3
  have hp4 : (tkE T z (tkE T z (tkE T z (tkE T z p)))) ≤ z := (tk_le (T := T) hp3).2.2.1
  have hf4 := fgN_le (T := T) hp4
  have hp5 : (tkE T z (tkE T z (tkE T z (tkE T z (tkE T z p))))) ≤ z := (tk_le (T := T) hp4).2.2.1
  have hf5 := fgN_le (T := T) hp5
  have hv0 := (tkV_10).mp (hc 0 (by decide)).2
  have hst : MMe qe (DR D R) (mTM T z I (tkE T z (tkE T z p))) (zrow 0 28 (vk T z p) 1 X) Y ∧ zQm 1 R0 (mTM T z I (tkE T z (tkE T z p))) (zrow 0 28 (vk T z p) 1 X) := st_any hM hq1 (fun b k j h => mTM_ne (by omega)) (fun b k j h => zrow_ne (by omega))
  have hmn : zQm 0 R (mTM T z I (tkE T z (tkE T z p))) (zrow 0 28 (vk T z p) 1 X) := hst.1.1
  refine z_aload_n hC dX7_statement_0 rfl ?_
  refine z_ldcS hC (j := 0) (List.mem_of_getElem? (i := 8) rfl) dX7_statement_1 ?_
  refine wVv hC dX7_statement_3 zlX7_226 (c_isW hS h7 hX hz hT hp hs (j := 0) (by decide) (v := 0) (by rw [hw]; decide)) (hS _) rfl rfl rfl rfl rfl rfl ⟨rfl, rfl⟩ ?_
  refine z_nif_eq hC dX7_statement_6 (tgt := 94) (by decide) (by omega) (fun c6 => ?_) (fun c6 => ?_)
  rotate_left
  · exact absurd c6 (by decide)
  refine z_aload_n hC dX7_statement_94 rfl ?_
  refine z_ldcS hC (j := 1) (List.mem_of_getElem? (i := 9) rfl) dX7_statement_95 ?_
  refine wVv hC dX7_statement_97 zlX7_226 (c_isW hS h7 hX hz hT hp hs (j := 1) (by decide) (v := 1) (by rw [hw]; decide)) (hS _) rfl rfl rfl rfl rfl rfl ⟨rfl, rfl⟩ ?_
  refine z_nif_eq hC dX7_statement_100 (tgt := 112) (by decide) (by omega) (fun c100 => ?_) (fun c100 => ?_)
  · exact absurd c100 (by decide)
  refine z_aload_n hC dX7_statement_103 rfl ?_
  refine z_iconst hC dX7_statement_104 (v := nI 0) rfl ?_
  refine z_iconst hC dX7_statement_105 (v := nI 1) rfl ?_
  refine z_bipush hC dX7_statement_106 (v := nI 9) rfl ?_
  refine wVv hC dX7_statement_108 zlX7_231 (c_asked_0t hS h7 hX hz hT hp hs hm hR (hc 0 (by decide))) (hS _) rfl rfl rfl rfl rfl rfl ⟨rfl, rfl⟩ ?_
  refine z_zret hC dX7_statement_111 rfl ?_
  exact (hE _ _ (st_fin hst (show zQm 0 (cyR R 1 (nmK T z p 1)) _ _ from hmn.set (j := 3) (by decide)) (fun b k j h => up3_ne (by omega)) (fun b k j h => rfl) mTM_st (mTM_ne (by omega)))).to (by rfl) rfl rfl rfl

theorem c_st_1f0 (hS : ∀ k, S 0 k = msh 0 k) (h7 : I 0 0 7 = nI z) (hX : ∀ i, i < z → X 0 15 i = nI (T i)) (hz : z ≤ 250) (hT : ∀ i, i < z → T i ≤ 255) {p : Nat} (hp : p ≤ z) (hs : mSt T z p I) (hM : MMe qe (DR D R) I X Y) (hR : ROK R) (hq1 : zQm 1 R0 I X) (hw : wqN T z p = some 1) (hc : ∀ i, i < 0 → cK T z R 1 p i) (hb : ¬ cK T z R 1 p 0)  : zCq mX7_statement 5 [zr 0 0] (some (zi (nI 0))) ad S I X Y sz (fun I1 X1 => I1 0 0 34 = nI (tkA T z (tkE T z p)) ∧ MMe qe (DR D R) I1 X1 Y ∧ zQm 1 R0 I1 X1) := by
  refine zgoQ (own := RX7) (k := 1) (by decide +kernel) rfl rfl rfl (fun C hC hnm hE => ?_)
  have hm : zQm 0 R I X := hM.1
  have hn14 := hR.1
  have hn8 := hR.2.1
  have hn6 := hR.2.2.1
  have htk := tk_le (T := T) hp
  have hp1 : (tkE T z p) ≤ z := (tk_le (T := T) hp).2.2.1
  have hf1 := fgN_le (T := T) hp1
  have hp2 : (tkE T z (tkE T z p)) ≤ z := (tk_le (T := T) hp1).2.2.1
  have hf2 := fgN_le (T := T) hp2
  have hp3 : (tkE T z (tkE T z (tkE T z p))) ≤ z := (tk_le (T := T) hp2).2.2.1
  have hf3 := fgN_le (T := T) hp3
  have hp4 : (tkE T z (tkE T z (tkE T z (tkE T z p)))) ≤ z := (tk_le (T := T) hp3).2.2.1
  have hf4 := fgN_le (T := T) hp4
  have hp5 : (tkE T z (tkE T z (tkE T z (tkE T z (tkE T z p))))) ≤ z := (tk_le (T := T) hp4).2.2.1
  have hf5 := fgN_le (T := T) hp5
  refine z_aload_n hC dX7_statement_0 rfl ?_
  refine z_ldcS hC (j := 0) (List.mem_of_getElem? (i := 8) rfl) dX7_statement_1 ?_
  refine wVv hC dX7_statement_3 zlX7_226 (c_isW hS h7 hX hz hT hp hs (j := 0) (by decide) (v := 0) (by rw [hw]; decide)) (hS _) rfl rfl rfl rfl rfl rfl ⟨rfl, rfl⟩ ?_
  refine z_nif_eq hC dX7_statement_6 (tgt := 94) (by decide) (by omega) (fun c6 => ?_) (fun c6 => ?_)
  rotate_left
  · exact absurd c6 (by decide)
  refine z_aload_n hC dX7_statement_94 rfl ?_
  refine z_ldcS hC (j := 1) (List.mem_of_getElem? (i := 9) rfl) dX7_statement_95 ?_
  refine wVv hC dX7_statement_97 zlX7_226 (c_isW hS h7 hX hz hT hp hs (j := 1) (by decide) (v := 1) (by rw [hw]; decide)) (hS _) rfl rfl rfl rfl rfl rfl ⟨rfl, rfl⟩ ?_
  refine z_nif_eq hC dX7_statement_100 (tgt := 112) (by decide) (by omega) (fun c100 => ?_) (fun c100 => ?_)
  · exact absurd c100 (by decide)
  refine z_aload_n hC dX7_statement_103 rfl ?_
  refine z_iconst hC dX7_statement_104 (v := nI 0) rfl ?_
  refine z_iconst hC dX7_statement_105 (v := nI 1) rfl ?_
  refine z_bipush hC dX7_statement_106 (v := nI 9) rfl ?_
  refine wVv hC dX7_statement_108 zlX7_231 (c_asked_0f hS h7 hX hz hT hp hs hm hR hb) (hS _) rfl rfl rfl rfl rfl rfl ⟨rfl, rfl⟩ ?_
  refine z_zret hC dX7_statement_111 rfl ?_
  exact (hE _ _ ⟨up3_eq _ _ _ _ _, st_any hM hq1 (fun b k j h => (up3_ne (by omega)).trans (mTM_ne (by omega))) (fun _ _ _ _ => rfl)⟩).to (by rfl) rfl rfl rfl

theorem c_st_2t (hS : ∀ k, S 0 k = msh 0 k) (h7 : I 0 0 7 = nI z) (hX : ∀ i, i < z → X 0 15 i = nI (T i)) (hz : z ≤ 250) (hT : ∀ i, i < z → T i ≤ 255) {p : Nat} (hp : p ≤ z) (hs : mSt T z p I) (hM : MMe qe (DR D R) I X Y) (hR : ROK R) (hq1 : zQm 1 R0 I X) (hw : wqN T z p = some 2) (hc : ∀ i, i < 1 → cK T z R 2 p i)  : zCq mX7_statement 5 [zr 0 0] (some (zi (nI 1))) ad S I X Y sz (fun I1 X1 => mSt T z (tkE T z (tkE T z p)) I1 ∧ MMe qe (DR D (cyR R 2 (nmK T z p 1))) I1 X1 Y ∧ zQm 1 R0 I1 X1 ∧ I1 0 0 36 = I 0 0 36) := by
  refine zgoQ (own := RX7) (k := 1) (by decide +kernel) rfl rfl rfl (fun C hC hnm hE => ?_)
  have hm : zQm 0 R I X := hM.1
  have hn14 := hR.1
  have hn8 := hR.2.1
  have hn6 := hR.2.2.1
  have htk := tk_le (T := T) hp
  have hp1 : (tkE T z p) ≤ z := (tk_le (T := T) hp).2.2.1
  have hf1 := fgN_le (T := T) hp1
  have hp2 : (tkE T z (tkE T z p)) ≤ z := (tk_le (T := T) hp1).2.2.1
  have hf2 := fgN_le (T := T) hp2
  have hp3 : (tkE T z (tkE T z (tkE T z p))) ≤ z := (tk_le (T := T) hp2).2.2.1
  have hf3 := fgN_le (T := T) hp3
  have hp4 : (tkE T z (tkE T z (tkE T z (tkE T z p)))) ≤ z := (tk_le (T := T) hp3).2.2.1
  have hf4 := fgN_le (T := T) hp4
  have hp5 : (tkE T z (tkE T z (tkE T z (tkE T z (tkE T z p))))) ≤ z := (tk_le (T := T) hp4).2.2.1
  have hf5 := fgN_le (T := T) hp5
  have hv0 := (tkV_20).mp (hc 0 (by decide)).2
  have hst : MMe qe (DR D R) (mTM T z I (tkE T z (tkE T z p))) (zrow 0 28 (vk T z p) 1 X) Y ∧ zQm 1 R0 (mTM T z I (tkE T z (tkE T z p))) (zrow 0 28 (vk T z p) 1 X) := st_any hM hq1 (fun b k j h => mTM_ne (by omega)) (fun b k j h => zrow_ne (by omega))
  have hmn : zQm 0 R (mTM T z I (tkE T z (tkE T z p))) (zrow 0 28 (vk T z p) 1 X) := hst.1.1
  refine z_aload_n hC dX7_statement_0 rfl ?_
  refine z_ldcS hC (j := 0) (List.mem_of_getElem? (i := 8) rfl) dX7_statement_1 ?_
  refine wVv hC dX7_statement_3 zlX7_226 (c_isW hS h7 hX hz hT hp hs (j := 0) (by decide) (v := 0) (by rw [hw]; decide)) (hS _) rfl rfl rfl rfl rfl rfl ⟨rfl, rfl⟩ ?_
  refine z_nif_eq hC dX7_statement_6 (tgt := 94) (by decide) (by omega) (fun c6 => ?_) (fun c6 => ?_)
  rotate_left
  · exact absurd c6 (by decide)
  refine z_aload_n hC dX7_statement_94 rfl ?_
  refine z_ldcS hC (j := 1) (List.mem_of_getElem? (i := 9) rfl) dX7_statement_95 ?_
  refine wVv hC dX7_statement_97 zlX7_226 (c_isW hS h7 hX hz hT hp hs (j := 1) (by decide) (v := 0) (by rw [hw]; decide)) (hS _) rfl rfl rfl rfl rfl rfl ⟨rfl, rfl⟩ ?_
  refine z_nif_eq hC dX7_statement_100 (tgt := 112) (by decide) (by omega) (fun c100 => ?_) (fun c100 => ?_)
  rotate_left
  · exact absurd c100 (by decide)
  refine z_aload_n hC dX7_statement_112 rfl ?_
  refine z_ldcS hC (j := 2) (List.mem_of_getElem? (i := 10) rfl) dX7_statement_113 ?_
  refine wVv hC dX7_statement_115 zlX7_226 (c_isW hS h7 hX hz hT hp hs (j := 2) (by decide) (v := 1) (by rw [hw]; decide)) (hS _) rfl rfl rfl rfl rfl rfl ⟨rfl, rfl⟩ ?_
  refine z_nif_eq hC dX7_statement_118 (tgt := 129) (by decide) (by omega) (fun c118 => ?_) (fun c118 => ?_)
  · exact absurd c118 (by decide)
  refine z_aload_n hC dX7_statement_121 rfl ?_
  refine z_iconst hC dX7_statement_122 (v := nI 1) rfl ?_
  refine z_iconst hC dX7_statement_123 (v := nI 0) rfl ?_
  refine z_iconst hC dX7_statement_124 (v := nI 1) rfl ?_
  refine wVv hC dX7_statement_125 zlX7_231 (c_asked_1t hS h7 hX hz hT hp hs hm hR (hc 0 (by decide))) (hS _) rfl rfl rfl rfl rfl rfl ⟨rfl, rfl⟩ ?_
  refine z_zret hC dX7_statement_128 rfl ?_
  exact (hE _ _ (st_fin hst (show zQm 0 (cyR R 2 (nmK T z p 1)) _ _ from hmn.set (j := 4) (by decide)) (fun b k j h => up3_ne (by omega)) (fun b k j h => rfl) mTM_st (mTM_ne (by omega)))).to (by rfl) rfl rfl rfl

theorem c_st_2f0 (hS : ∀ k, S 0 k = msh 0 k) (h7 : I 0 0 7 = nI z) (hX : ∀ i, i < z → X 0 15 i = nI (T i)) (hz : z ≤ 250) (hT : ∀ i, i < z → T i ≤ 255) {p : Nat} (hp : p ≤ z) (hs : mSt T z p I) (hM : MMe qe (DR D R) I X Y) (hR : ROK R) (hq1 : zQm 1 R0 I X) (hw : wqN T z p = some 2) (hc : ∀ i, i < 0 → cK T z R 2 p i) (hb : ¬ cK T z R 2 p 0)  : zCq mX7_statement 5 [zr 0 0] (some (zi (nI 0))) ad S I X Y sz (fun I1 X1 => I1 0 0 34 = nI (tkA T z (tkE T z p)) ∧ MMe qe (DR D R) I1 X1 Y ∧ zQm 1 R0 I1 X1) := by
  refine zgoQ (own := RX7) (k := 1) (by decide +kernel) rfl rfl rfl (fun C hC hnm hE => ?_)
  have hm : zQm 0 R I X := hM.1
  have hn14 := hR.1
  have hn8 := hR.2.1
  have hn6 := hR.2.2.1
  have htk := tk_le (T := T) hp
  have hp1 : (tkE T z p) ≤ z := (tk_le (T := T) hp).2.2.1
  have hf1 := fgN_le (T := T) hp1
  have hp2 : (tkE T z (tkE T z p)) ≤ z := (tk_le (T := T) hp1).2.2.1
  have hf2 := fgN_le (T := T) hp2
  have hp3 : (tkE T z (tkE T z (tkE T z p))) ≤ z := (tk_le (T := T) hp2).2.2.1
  have hf3 := fgN_le (T := T) hp3
  have hp4 : (tkE T z (tkE T z (tkE T z (tkE T z p)))) ≤ z := (tk_le (T := T) hp3).2.2.1
  have hf4 := fgN_le (T := T) hp4
  have hp5 : (tkE T z (tkE T z (tkE T z (tkE T z (tkE T z p))))) ≤ z := (tk_le (T := T) hp4).2.2.1
  have hf5 := fgN_le (T := T) hp5
  refine z_aload_n hC dX7_statement_0 rfl ?_
  refine z_ldcS hC (j := 0) (List.mem_of_getElem? (i := 8) rfl) dX7_statement_1 ?_
  refine wVv hC dX7_statement_3 zlX7_226 (c_isW hS h7 hX hz hT hp hs (j := 0) (by decide) (v := 0) (by rw [hw]; decide)) (hS _) rfl rfl rfl rfl rfl rfl ⟨rfl, rfl⟩ ?_
  refine z_nif_eq hC dX7_statement_6 (tgt := 94) (by decide) (by omega) (fun c6 => ?_) (fun c6 => ?_)
  rotate_left
  · exact absurd c6 (by decide)
  refine z_aload_n hC dX7_statement_94 rfl ?_
  refine z_ldcS hC (j := 1) (List.mem_of_getElem? (i := 9) rfl) dX7_statement_95 ?_
  refine wVv hC dX7_statement_97 zlX7_226 (c_isW hS h7 hX hz hT hp hs (j := 1) (by decide) (v := 0) (by rw [hw]; decide)) (hS _) rfl rfl rfl rfl rfl rfl ⟨rfl, rfl⟩ ?_
  refine z_nif_eq hC dX7_statement_100 (tgt := 112) (by decide) (by omega) (fun c100 => ?_) (fun c100 => ?_)
  rotate_left
  · exact absurd c100 (by decide)
  refine z_aload_n hC dX7_statement_112 rfl ?_
  refine z_ldcS hC (j := 2) (List.mem_of_getElem? (i := 10) rfl) dX7_statement_113 ?_
  refine wVv hC dX7_statement_115 zlX7_226 (c_isW hS h7 hX hz hT hp hs (j := 2) (by decide) (v := 1) (by rw [hw]; decide)) (hS _) rfl rfl rfl rfl rfl rfl ⟨rfl, rfl⟩ ?_
  refine z_nif_eq hC dX7_statement_118 (tgt := 129) (by decide) (by omega) (fun c118 => ?_) (fun c118 => ?_)
  · exact absurd c118 (by decide)
  refine z_aload_n hC dX7_statement_121 rfl ?_
  refine z_iconst hC dX7_statement_122 (v := nI 1) rfl ?_
  refine z_iconst hC dX7_statement_123 (v := nI 0) rfl ?_
  refine z_iconst hC dX7_statement_124 (v := nI 1) rfl ?_
  refine wVv hC dX7_statement_125 zlX7_231 (c_asked_1f hS h7 hX hz hT hp hs hm hR hb) (hS _) rfl rfl rfl rfl rfl rfl ⟨rfl, rfl⟩ ?_
  refine z_zret hC dX7_statement_128 rfl ?_
  exact (hE _ _ ⟨up3_eq _ _ _ _ _, st_any hM hq1 (fun b k j h => (up3_ne (by omega)).trans (mTM_ne (by omega))) (fun _ _ _ _ => rfl)⟩).to (by rfl) rfl rfl rfl

theorem c_st_3t (hS : ∀ k, S 0 k = msh 0 k) (h7 : I 0 0 7 = nI z) (hX : ∀ i, i < z → X 0 15 i = nI (T i)) (hz : z ≤ 250) (hT : ∀ i, i < z → T i ≤ 255) {p : Nat} (hp : p ≤ z) (hs : mSt T z p I) (hM : MMe qe (DR D R) I X Y) (hR : ROK R) (hq1 : zQm 1 R0 I X) (hw : wqN T z p = some 3) (hc : ∀ i, i < 1 → cK T z R 3 p i)  : zCq mX7_statement 5 [zr 0 0] (some (zi (nI 1))) ad S I X Y sz (fun I1 X1 => mSt T z (tkE T z (tkE T z p)) I1 ∧ MMe qe (DR D (cyR R 3 (nmK T z p 1))) I1 X1 Y ∧ zQm 1 R0 I1 X1 ∧ I1 0 0 36 = I 0 0 36) := by
  refine zgoQ (own := RX7) (k := 1) (by decide +kernel) rfl rfl rfl (fun C hC hnm hE => ?_)
  have hm : zQm 0 R I X := hM.1
  have hn14 := hR.1
  have hn8 := hR.2.1
  have hn6 := hR.2.2.1
  have htk := tk_le (T := T) hp
  have hp1 : (tkE T z p) ≤ z := (tk_le (T := T) hp).2.2.1
  have hf1 := fgN_le (T := T) hp1
  have hp2 : (tkE T z (tkE T z p)) ≤ z := (tk_le (T := T) hp1).2.2.1
  have hf2 := fgN_le (T := T) hp2
  have hp3 : (tkE T z (tkE T z (tkE T z p))) ≤ z := (tk_le (T := T) hp2).2.2.1
  have hf3 := fgN_le (T := T) hp3
  have hp4 : (tkE T z (tkE T z (tkE T z (tkE T z p)))) ≤ z := (tk_le (T := T) hp3).2.2.1
  have hf4 := fgN_le (T := T) hp4
  have hp5 : (tkE T z (tkE T z (tkE T z (tkE T z (tkE T z p))))) ≤ z := (tk_le (T := T) hp4).2.2.1
  have hf5 := fgN_le (T := T) hp5
  have hv0 := (tkV_30).mp (hc 0 (by decide)).2
  have hst : MMe qe (DR D R) (mTM T z I (tkE T z (tkE T z p))) (zrow 0 28 (vk T z p) 1 X) Y ∧ zQm 1 R0 (mTM T z I (tkE T z (tkE T z p))) (zrow 0 28 (vk T z p) 1 X) := st_any hM hq1 (fun b k j h => mTM_ne (by omega)) (fun b k j h => zrow_ne (by omega))
  have hmn : zQm 0 R (mTM T z I (tkE T z (tkE T z p))) (zrow 0 28 (vk T z p) 1 X) := hst.1.1
  refine z_aload_n hC dX7_statement_0 rfl ?_
  refine z_ldcS hC (j := 0) (List.mem_of_getElem? (i := 8) rfl) dX7_statement_1 ?_
  refine wVv hC dX7_statement_3 zlX7_226 (c_isW hS h7 hX hz hT hp hs (j := 0) (by decide) (v := 0) (by rw [hw]; decide)) (hS _) rfl rfl rfl rfl rfl rfl ⟨rfl, rfl⟩ ?_
  refine z_nif_eq hC dX7_statement_6 (tgt := 94) (by decide) (by omega) (fun c6 => ?_) (fun c6 => ?_)
  rotate_left
  · exact absurd c6 (by decide)
  refine z_aload_n hC dX7_statement_94 rfl ?_
  refine z_ldcS hC (j := 1) (List.mem_of_getElem? (i := 9) rfl) dX7_statement_95 ?_
  refine wVv hC dX7_statement_97 zlX7_226 (c_isW hS h7 hX hz hT hp hs (j := 1) (by decide) (v := 0) (by rw [hw]; decide)) (hS _) rfl rfl rfl rfl rfl rfl ⟨rfl, rfl⟩ ?_
  refine z_nif_eq hC dX7_statement_100 (tgt := 112) (by decide) (by omega) (fun c100 => ?_) (fun c100 => ?_)
  rotate_left
  · exact absurd c100 (by decide)
  refine z_aload_n hC dX7_statement_112 rfl ?_
  refine z_ldcS hC (j := 2) (List.mem_of_getElem? (i := 10) rfl) dX7_statement_113 ?_
  refine wVv hC dX7_statement_115 zlX7_226 (c_isW hS h7 hX hz hT hp hs (j := 2) (by decide) (v := 0) (by rw [hw]; decide)) (hS _) rfl rfl rfl rfl rfl rfl ⟨rfl, rfl⟩ ?_
  refine z_nif_eq hC dX7_statement_118 (tgt := 129) (by decide) (by omega) (fun c118 => ?_) (fun c118 => ?_)
  rotate_left
  · exact absurd c118 (by decide)
  refine z_aload_n hC dX7_statement_129 rfl ?_
  refine z_ldcS hC (j := 3) (List.mem_of_getElem? (i := 11) rfl) dX7_statement_130 ?_
  refine wVv hC dX7_statement_132 zlX7_226 (c_isW hS h7 hX hz hT hp hs (j := 3) (by decide) (v := 1) (by rw [hw]; decide)) (hS _) rfl rfl rfl rfl rfl rfl ⟨rfl, rfl⟩ ?_
  refine z_nif_eq hC dX7_statement_135 (tgt := 147) (by decide) (by omega) (fun c135 => ?_) (fun c135 => ?_)
  · exact absurd c135 (by decide)
  refine z_aload_n hC dX7_statement_138 rfl ?_
  refine z_iconst hC dX7_statement_139 (v := nI 2) rfl ?_
  refine z_iconst hC dX7_statement_140 (v := nI 0) rfl ?_
  refine z_bipush hC dX7_statement_141 (v := nI 10) rfl ?_
  refine wVv hC dX7_statement_143 zlX7_231 (c_asked_2t hS h7 hX hz hT hp hs hm hR (hc 0 (by decide))) (hS _) rfl rfl rfl rfl rfl rfl ⟨rfl, rfl⟩ ?_
  refine z_zret hC dX7_statement_146 rfl ?_
  exact (hE _ _ (st_fin hst (show zQm 0 (cyR R 3 (nmK T z p 1)) _ _ from hmn.set (j := 5) (by decide)) (fun b k j h => up3_ne (by omega)) (fun b k j h => rfl) mTM_st (mTM_ne (by omega)))).to (by rfl) rfl rfl rfl

theorem c_st_3f0 (hS : ∀ k, S 0 k = msh 0 k) (h7 : I 0 0 7 = nI z) (hX : ∀ i, i < z → X 0 15 i = nI (T i)) (hz : z ≤ 250) (hT : ∀ i, i < z → T i ≤ 255) {p : Nat} (hp : p ≤ z) (hs : mSt T z p I) (hM : MMe qe (DR D R) I X Y) (hR : ROK R) (hq1 : zQm 1 R0 I X) (hw : wqN T z p = some 3) (hc : ∀ i, i < 0 → cK T z R 3 p i) (hb : ¬ cK T z R 3 p 0)  : zCq mX7_statement 5 [zr 0 0] (some (zi (nI 0))) ad S I X Y sz (fun I1 X1 => I1 0 0 34 = nI (tkA T z (tkE T z p)) ∧ MMe qe (DR D R) I1 X1 Y ∧ zQm 1 R0 I1 X1) := by
  refine zgoQ (own := RX7) (k := 1) (by decide +kernel) rfl rfl rfl (fun C hC hnm hE => ?_)
  have hm : zQm 0 R I X := hM.1
  have hn14 := hR.1
  have hn8 := hR.2.1
  have hn6 := hR.2.2.1
  have htk := tk_le (T := T) hp
  have hp1 : (tkE T z p) ≤ z := (tk_le (T := T) hp).2.2.1
  have hf1 := fgN_le (T := T) hp1
  have hp2 : (tkE T z (tkE T z p)) ≤ z := (tk_le (T := T) hp1).2.2.1
  have hf2 := fgN_le (T := T) hp2
  have hp3 : (tkE T z (tkE T z (tkE T z p))) ≤ z := (tk_le (T := T) hp2).2.2.1
  have hf3 := fgN_le (T := T) hp3
  have hp4 : (tkE T z (tkE T z (tkE T z (tkE T z p)))) ≤ z := (tk_le (T := T) hp3).2.2.1
  have hf4 := fgN_le (T := T) hp4
  have hp5 : (tkE T z (tkE T z (tkE T z (tkE T z (tkE T z p))))) ≤ z := (tk_le (T := T) hp4).2.2.1
  have hf5 := fgN_le (T := T) hp5
  refine z_aload_n hC dX7_statement_0 rfl ?_
  refine z_ldcS hC (j := 0) (List.mem_of_getElem? (i := 8) rfl) dX7_statement_1 ?_
  refine wVv hC dX7_statement_3 zlX7_226 (c_isW hS h7 hX hz hT hp hs (j := 0) (by decide) (v := 0) (by rw [hw]; decide)) (hS _) rfl rfl rfl rfl rfl rfl ⟨rfl, rfl⟩ ?_
  refine z_nif_eq hC dX7_statement_6 (tgt := 94) (by decide) (by omega) (fun c6 => ?_) (fun c6 => ?_)
  rotate_left
  · exact absurd c6 (by decide)
  refine z_aload_n hC dX7_statement_94 rfl ?_
  refine z_ldcS hC (j := 1) (List.mem_of_getElem? (i := 9) rfl) dX7_statement_95 ?_
  refine wVv hC dX7_statement_97 zlX7_226 (c_isW hS h7 hX hz hT hp hs (j := 1) (by decide) (v := 0) (by rw [hw]; decide)) (hS _) rfl rfl rfl rfl rfl rfl ⟨rfl, rfl⟩ ?_
  refine z_nif_eq hC dX7_statement_100 (tgt := 112) (by decide) (by omega) (fun c100 => ?_) (fun c100 => ?_)
  rotate_left
  · exact absurd c100 (by decide)
  refine z_aload_n hC dX7_statement_112 rfl ?_
  refine z_ldcS hC (j := 2) (List.mem_of_getElem? (i := 10) rfl) dX7_statement_113 ?_
  refine wVv hC dX7_statement_115 zlX7_226 (c_isW hS h7 hX hz hT hp hs (j := 2) (by decide) (v := 0) (by rw [hw]; decide)) (hS _) rfl rfl rfl rfl rfl rfl ⟨rfl, rfl⟩ ?_
  refine z_nif_eq hC dX7_statement_118 (tgt := 129) (by decide) (by omega) (fun c118 => ?_) (fun c118 => ?_)
  rotate_left
  · exact absurd c118 (by decide)
  refine z_aload_n hC dX7_statement_129 rfl ?_
  refine z_ldcS hC (j := 3) (List.mem_of_getElem? (i := 11) rfl) dX7_statement_130 ?_
  refine wVv hC dX7_statement_132 zlX7_226 (c_isW hS h7 hX hz hT hp hs (j := 3) (by decide) (v := 1) (by rw [hw]; decide)) (hS _) rfl rfl rfl rfl rfl rfl ⟨rfl, rfl⟩ ?_
  refine z_nif_eq hC dX7_statement_135 (tgt := 147) (by decide) (by omega) (fun c135 => ?_) (fun c135 => ?_)
  · exact absurd c135 (by decide)
  refine z_aload_n hC dX7_statement_138 rfl ?_
  refine z_iconst hC dX7_statement_139 (v := nI 2) rfl ?_
  refine z_iconst hC dX7_statement_140 (v := nI 0) rfl ?_
  refine z_bipush hC dX7_statement_141 (v := nI 10) rfl ?_
  refine wVv hC dX7_statement_143 zlX7_231 (c_asked_2f hS h7 hX hz hT hp hs hm hR hb) (hS _) rfl rfl rfl rfl rfl rfl ⟨rfl, rfl⟩ ?_
  refine z_zret hC dX7_statement_146 rfl ?_
  exact (hE _ _ ⟨up3_eq _ _ _ _ _, st_any hM hq1 (fun b k j h => (up3_ne (by omega)).trans (mTM_ne (by omega))) (fun _ _ _ _ => rfl)⟩).to (by rfl) rfl rfl rfl

theorem c_st_4t (hS : ∀ k, S 0 k = msh 0 k) (h7 : I 0 0 7 = nI z) (hX : ∀ i, i < z → X 0 15 i = nI (T i)) (hz : z ≤ 250) (hT : ∀ i, i < z → T i ≤ 255) {p : Nat} (hp : p ≤ z) (hs : mSt T z p I) (hM : MMe qe (DR D R) I X Y) (hR : ROK R) (hq1 : zQm 1 R0 I X) (hw : wqN T z p = some 4) (hr : R.1 1 < 8) (hc : ∀ i, i < 2 → cK T z R 4 p i)  : zCq mX7_statement 5 [zr 0 0] (some (zi (nI 1))) ad S I X Y sz (fun I1 X1 => mSt T z (tkE T z (tkE T z (tkE T z p))) I1 ∧ MMe qe (DR D (cyR R 4 (nmK T z p 2))) I1 X1 Y ∧ zQm 1 R0 I1 X1 ∧ I1 0 0 36 = I 0 0 36) := by
  refine zgoQ (own := RX7) (k := 1) (by decide +kernel) rfl rfl rfl (fun C hC hnm hE => ?_)
  have hm : zQm 0 R I X := hM.1
  have hn14 := hR.1
  have hn8 := hR.2.1
  have hn6 := hR.2.2.1
  have htk := tk_le (T := T) hp
  have hp1 : (tkE T z p) ≤ z := (tk_le (T := T) hp).2.2.1
  have hf1 := fgN_le (T := T) hp1
  have hp2 : (tkE T z (tkE T z p)) ≤ z := (tk_le (T := T) hp1).2.2.1
  have hf2 := fgN_le (T := T) hp2
  have hp3 : (tkE T z (tkE T z (tkE T z p))) ≤ z := (tk_le (T := T) hp2).2.2.1
  have hf3 := fgN_le (T := T) hp3
  have hp4 : (tkE T z (tkE T z (tkE T z (tkE T z p)))) ≤ z := (tk_le (T := T) hp3).2.2.1
  have hf4 := fgN_le (T := T) hp4
  have hp5 : (tkE T z (tkE T z (tkE T z (tkE T z (tkE T z p))))) ≤ z := (tk_le (T := T) hp4).2.2.1
  have hf5 := fgN_le (T := T) hp5
  have hv0 := (tkV_40).mp (hc 0 (by decide)).2
  have hv1 := (tkV_41).mp (hc 1 (by decide)).2
  have hst : MMe qe (DR D R) (mTM T z I (tkE T z (tkE T z (tkE T z p)))) (zrow 0 28 (vk T z p) 2 X) Y ∧ zQm 1 R0 (mTM T z I (tkE T z (tkE T z (tkE T z p)))) (zrow 0 28 (vk T z p) 2 X) := st_any hM hq1 (fun b k j h => mTM_ne (by omega)) (fun b k j h => zrow_ne (by omega))
  have hmn : zQm 0 R (mTM T z I (tkE T z (tkE T z (tkE T z p)))) (zrow 0 28 (vk T z p) 2 X) := hst.1.1
  refine z_aload_n hC dX7_statement_0 rfl ?_
  refine z_ldcS hC (j := 0) (List.mem_of_getElem? (i := 8) rfl) dX7_statement_1 ?_
  refine wVv hC dX7_statement_3 zlX7_226 (c_isW hS h7 hX hz hT hp hs (j := 0) (by decide) (v := 0) (by rw [hw]; decide)) (hS _) rfl rfl rfl rfl rfl rfl ⟨rfl, rfl⟩ ?_
  refine z_nif_eq hC dX7_statement_6 (tgt := 94) (by decide) (by omega) (fun c6 => ?_) (fun c6 => ?_)
  rotate_left
  · exact absurd c6 (by decide)
  refine z_aload_n hC dX7_statement_94 rfl ?_
  refine z_ldcS hC (j := 1) (List.mem_of_getElem? (i := 9) rfl) dX7_statement_95 ?_
  refine wVv hC dX7_statement_97 zlX7_226 (c_isW hS h7 hX hz hT hp hs (j := 1) (by decide) (v := 0) (by rw [hw]; decide)) (hS _) rfl rfl rfl rfl rfl rfl ⟨rfl, rfl⟩ ?_
  refine z_nif_eq hC dX7_statement_100 (tgt := 112) (by decide) (by omega) (fun c100 => ?_) (fun c100 => ?_)
  rotate_left
  · exact absurd c100 (by decide)
  refine z_aload_n hC dX7_statement_112 rfl ?_
  refine z_ldcS hC (j := 2) (List.mem_of_getElem? (i := 10) rfl) dX7_statement_113 ?_
  refine wVv hC dX7_statement_115 zlX7_226 (c_isW hS h7 hX hz hT hp hs (j := 2) (by decide) (v := 0) (by rw [hw]; decide)) (hS _) rfl rfl rfl rfl rfl rfl ⟨rfl, rfl⟩ ?_
  refine z_nif_eq hC dX7_statement_118 (tgt := 129) (by decide) (by omega) (fun c118 => ?_) (fun c118 => ?_)
  rotate_left
  · exact absurd c118 (by decide)
  refine z_aload_n hC dX7_statement_129 rfl ?_
  refine z_ldcS hC (j := 3) (List.mem_of_getElem? (i := 11) rfl) dX7_statement_130 ?_
  refine wVv hC dX7_statement_132 zlX7_226 (c_isW hS h7 hX hz hT hp hs (j := 3) (by decide) (v := 0) (by rw [hw]; decide)) (hS _) rfl rfl rfl rfl rfl rfl ⟨rfl, rfl⟩ ?_
  refine z_nif_eq hC dX7_statement_135 (tgt := 147) (by decide) (by omega) (fun c135 => ?_) (fun c135 => ?_)
  rotate_left
  · exact absurd c135 (by decide)
  refine z_aload_n hC dX7_statement_147 rfl ?_
  refine z_ldcS hC (j := 4) (List.mem_of_getElem? (i := 12) rfl) dX7_statement_148 ?_
  refine wVv hC dX7_statement_150 zlX7_226 (c_isW hS h7 hX hz hT hp hs (j := 4) (by decide) (v := 1) (by rw [hw]; decide)) (hS _) rfl rfl rfl rfl rfl rfl ⟨rfl, rfl⟩ ?_
  refine z_istore_n hC dX7_statement_153 (lo2 := [_, _]) (Nat.le_of_ble_eq_true rfl) rfl rfl ?_
  refine z_iload_n hC dX7_statement_154 rfl ?_
  refine z_nif_ne hC dX7_statement_155 (tgt := 167) (by decide) (by omega) (fun c155 => ?_) (fun c155 => ?_)
  rotate_left
  · exact absurd c155 (by decide)
  refine z_aload_n hC dX7_statement_167 rfl ?_
  refine z_getN hC dX7_statement_168 (hS _) zfX7_150 rfl hm.1.2.1 ?_
  refine z_bipush hC dX7_statement_171 (v := nI 8) rfl ?_
  refine z_nicmp_ge hC dX7_statement_173 (tgt := 230) (by decide) (by omega) (by omega) (fun c173 => ?_) (fun c173 => ?_)
  · exact absurd c173 (by omega)
  refine z_aload_n hC dX7_statement_176 rfl ?_
  refine z_iconst hC dX7_statement_177 (v := nI 0) rfl ?_
  refine z_aload_n hC dX7_statement_178 rfl ?_
  refine z_getN hC dX7_statement_179 (hS _) zfX7_94 rfl hm.1.1 ?_
  refine z_iconst hC dX7_statement_182 (v := nI 1) rfl ?_
  refine z_isub hC dX7_statement_183  ?_
  refine wVv hC dX7_statement_184 zlX7_218 (c_tells_t hS h7 hX hz hT hp hs (by decide) (hc 0 (by decide)).1 ((kP_40 hn14 hf1).mp (hc 0 (by decide)).2)) (hS _) rfl rfl rfl rfl rfl rfl ⟨rfl, rfl⟩ ?_
  refine z_X (X2 := zrow 0 28 (vk T z p) 1 X) (zr_1 (f := vk T z p)) ?_
  refine z_nif_eq hC dX7_statement_187 (tgt := 201) (by decide) (by omega) (fun c187 => ?_) (fun c187 => ?_)
  · exact absurd c187 (by decide)
  refine z_aload_n hC dX7_statement_190 rfl ?_
  refine z_iconst hC dX7_statement_191 (v := nI 1) rfl ?_
  refine z_iconst hC dX7_statement_192 (v := nI 0) rfl ?_
  refine z_bipush hC dX7_statement_193 (v := nI 100) rfl ?_
  refine wVv hC dX7_statement_195 zlX7_214 (c_number_t hS ((mTM_ne (by omega)).trans h7) (fun j hj => (zrow_ne (by omega)).trans (hX j hj)) hz hT hp2 mTM_st (by decide) (by decide) (hc 1 (by decide)).1 ((kP_41 hf2).mp (hc 1 (by decide)).2)) (hS _) rfl rfl rfl rfl rfl rfl ⟨rfl, rfl⟩ ?_
  rw [mTM_2]
  refine z_X (X2 := zrow 0 28 (vk T z p) 2 X) (zrow_s (k := 1) (f := vk T z p)) ?_
  refine z_nif_ne hC dX7_statement_198 (tgt := 203) (by decide) (by omega) (fun c198 => ?_) (fun c198 => ?_)
  rotate_left
  · exact absurd c198 (by decide)
  refine z_aload_n hC dX7_statement_203 rfl ?_
  refine z_aload_n hC dX7_statement_204 rfl ?_
  refine z_getR hC dX7_statement_205 (hS _) zfX7_80 rfl ?_
  refine z_iconst hC dX7_statement_208 (v := nI 0) rfl ?_
  refine z_naldN hC dX7_statement_209 (hS _) (by omega) rfl (zrow_get (f := vk T z p) (show 0 < 2 by decide)) ?_
  refine z_iload_n hC dX7_statement_210 rfl ?_
  refine z_nif_eq hC dX7_statement_211 (tgt := 218) (by decide) (by omega) (fun c211 => ?_) (fun c211 => ?_)
  · exact absurd c211 (by decide)
  refine z_iconst hC dX7_statement_214 (v := nI 1) rfl ?_
  refine z_goto hC dX7_statement_215 (tgt := 219) (by decide) ?_
  refine z_aload_n hC dX7_statement_219 rfl ?_
  refine z_getR hC dX7_statement_220 (hS _) zfX7_80 rfl ?_
  refine z_iconst hC dX7_statement_223 (v := nI 1) rfl ?_
  refine z_naldN hC dX7_statement_224 (hS _) (by omega) rfl (zrow_get (f := vk T z p) (show 1 < 2 by decide)) ?_
  refine wV0 hC dX7_statement_225 zlX7_155 (c_X7_addSign hS hmn hR) (hS _) rfl rfl rfl rfl rfl rfl ⟨rfl, rfl⟩ ?_
  refine z_iconst hC dX7_statement_228 (v := nI 1) rfl ?_
  refine z_zret hC dX7_statement_229 rfl ?_
  exact (hE _ _ (st_fin hst (show zQm 0 (cyR R 4 (nmK T z p 2)) _ _ from hmn.addS) (fun b k j h => up3_ne (by omega)) (fun b k j h => madd3_ne (by omega)) mTM_st (mTM_ne (by omega)))).to (by rfl) rfl rfl rfl

theorem c_st_4f0 (hS : ∀ k, S 0 k = msh 0 k) (h7 : I 0 0 7 = nI z) (hX : ∀ i, i < z → X 0 15 i = nI (T i)) (hz : z ≤ 250) (hT : ∀ i, i < z → T i ≤ 255) {p : Nat} (hp : p ≤ z) (hs : mSt T z p I) (hM : MMe qe (DR D R) I X Y) (hR : ROK R) (hq1 : zQm 1 R0 I X) (hw : wqN T z p = some 4) (hr : R.1 1 < 8) (hc : ∀ i, i < 0 → cK T z R 4 p i) (hb : ¬ cK T z R 4 p 0)  : zCq mX7_statement 5 [zr 0 0] (some (zi (nI 0))) ad S I X Y sz (fun I1 X1 => I1 0 0 34 = nI (tkA T z (tkE T z p)) ∧ MMe qe (DR D R) I1 X1 Y ∧ zQm 1 R0 I1 X1) := by
  refine zgoQ (own := RX7) (k := 1) (by decide +kernel) rfl rfl rfl (fun C hC hnm hE => ?_)
  have hm : zQm 0 R I X := hM.1
  have hn14 := hR.1
  have hn8 := hR.2.1
  have hn6 := hR.2.2.1
  have htk := tk_le (T := T) hp
  have hp1 : (tkE T z p) ≤ z := (tk_le (T := T) hp).2.2.1
  have hf1 := fgN_le (T := T) hp1
  have hp2 : (tkE T z (tkE T z p)) ≤ z := (tk_le (T := T) hp1).2.2.1
  have hf2 := fgN_le (T := T) hp2
  have hp3 : (tkE T z (tkE T z (tkE T z p))) ≤ z := (tk_le (T := T) hp2).2.2.1
  have hf3 := fgN_le (T := T) hp3
  have hp4 : (tkE T z (tkE T z (tkE T z (tkE T z p)))) ≤ z := (tk_le (T := T) hp3).2.2.1
  have hf4 := fgN_le (T := T) hp4
  have hp5 : (tkE T z (tkE T z (tkE T z (tkE T z (tkE T z p))))) ≤ z := (tk_le (T := T) hp4).2.2.1
  have hf5 := fgN_le (T := T) hp5
  refine z_aload_n hC dX7_statement_0 rfl ?_
  refine z_ldcS hC (j := 0) (List.mem_of_getElem? (i := 8) rfl) dX7_statement_1 ?_
  refine wVv hC dX7_statement_3 zlX7_226 (c_isW hS h7 hX hz hT hp hs (j := 0) (by decide) (v := 0) (by rw [hw]; decide)) (hS _) rfl rfl rfl rfl rfl rfl ⟨rfl, rfl⟩ ?_
  refine z_nif_eq hC dX7_statement_6 (tgt := 94) (by decide) (by omega) (fun c6 => ?_) (fun c6 => ?_)
  rotate_left
  · exact absurd c6 (by decide)
  refine z_aload_n hC dX7_statement_94 rfl ?_
  refine z_ldcS hC (j := 1) (List.mem_of_getElem? (i := 9) rfl) dX7_statement_95 ?_
  refine wVv hC dX7_statement_97 zlX7_226 (c_isW hS h7 hX hz hT hp hs (j := 1) (by decide) (v := 0) (by rw [hw]; decide)) (hS _) rfl rfl rfl rfl rfl rfl ⟨rfl, rfl⟩ ?_
  refine z_nif_eq hC dX7_statement_100 (tgt := 112) (by decide) (by omega) (fun c100 => ?_) (fun c100 => ?_)
  rotate_left
  · exact absurd c100 (by decide)
  refine z_aload_n hC dX7_statement_112 rfl ?_
  refine z_ldcS hC (j := 2) (List.mem_of_getElem? (i := 10) rfl) dX7_statement_113 ?_
  refine wVv hC dX7_statement_115 zlX7_226 (c_isW hS h7 hX hz hT hp hs (j := 2) (by decide) (v := 0) (by rw [hw]; decide)) (hS _) rfl rfl rfl rfl rfl rfl ⟨rfl, rfl⟩ ?_
  refine z_nif_eq hC dX7_statement_118 (tgt := 129) (by decide) (by omega) (fun c118 => ?_) (fun c118 => ?_)
  rotate_left
  · exact absurd c118 (by decide)
  refine z_aload_n hC dX7_statement_129 rfl ?_
  refine z_ldcS hC (j := 3) (List.mem_of_getElem? (i := 11) rfl) dX7_statement_130 ?_
  refine wVv hC dX7_statement_132 zlX7_226 (c_isW hS h7 hX hz hT hp hs (j := 3) (by decide) (v := 0) (by rw [hw]; decide)) (hS _) rfl rfl rfl rfl rfl rfl ⟨rfl, rfl⟩ ?_
  refine z_nif_eq hC dX7_statement_135 (tgt := 147) (by decide) (by omega) (fun c135 => ?_) (fun c135 => ?_)
  rotate_left
  · exact absurd c135 (by decide)
  refine z_aload_n hC dX7_statement_147 rfl ?_
  refine z_ldcS hC (j := 4) (List.mem_of_getElem? (i := 12) rfl) dX7_statement_148 ?_
  refine wVv hC dX7_statement_150 zlX7_226 (c_isW hS h7 hX hz hT hp hs (j := 4) (by decide) (v := 1) (by rw [hw]; decide)) (hS _) rfl rfl rfl rfl rfl rfl ⟨rfl, rfl⟩ ?_
  refine z_istore_n hC dX7_statement_153 (lo2 := [_, _]) (Nat.le_of_ble_eq_true rfl) rfl rfl ?_
  refine z_iload_n hC dX7_statement_154 rfl ?_
  refine z_nif_ne hC dX7_statement_155 (tgt := 167) (by decide) (by omega) (fun c155 => ?_) (fun c155 => ?_)
  rotate_left
  · exact absurd c155 (by decide)
  refine z_aload_n hC dX7_statement_167 rfl ?_
  refine z_getN hC dX7_statement_168 (hS _) zfX7_150 rfl hm.1.2.1 ?_
  refine z_bipush hC dX7_statement_171 (v := nI 8) rfl ?_
  refine z_nicmp_ge hC dX7_statement_173 (tgt := 230) (by decide) (by omega) (by omega) (fun c173 => ?_) (fun c173 => ?_)
  · exact absurd c173 (by omega)
  refine z_aload_n hC dX7_statement_176 rfl ?_
  refine z_iconst hC dX7_statement_177 (v := nI 0) rfl ?_
  refine z_aload_n hC dX7_statement_178 rfl ?_
  refine z_getN hC dX7_statement_179 (hS _) zfX7_94 rfl hm.1.1 ?_
  refine z_iconst hC dX7_statement_182 (v := nI 1) rfl ?_
  refine z_isub hC dX7_statement_183  ?_
  refine wVv hC dX7_statement_184 zlX7_218 (c_tells_f hS h7 hX hz hT hp hs (by decide) (fun w => hb ⟨w.1, (kP_40 hn14 hf1).mpr w.2⟩)) (hS _) rfl rfl rfl rfl rfl rfl ⟨rfl, rfl⟩ ?_
  refine z_nif_eq hC dX7_statement_187 (tgt := 201) (by decide) (by omega) (fun c187 => ?_) (fun c187 => ?_)
  rotate_left
  · exact absurd c187 (by decide)
  refine z_iconst hC dX7_statement_201 (v := nI 0) rfl ?_
  refine z_zret hC dX7_statement_202 rfl ?_
  exact (hE _ _ ⟨up3_eq _ _ _ _ _, st_any hM hq1 (fun b k j h => (up3_ne (by omega)).trans (mTM_ne (by omega))) (fun _ _ _ _ => rfl)⟩).to (by rfl) rfl rfl rfl

theorem c_st_4f1 (hS : ∀ k, S 0 k = msh 0 k) (h7 : I 0 0 7 = nI z) (hX : ∀ i, i < z → X 0 15 i = nI (T i)) (hz : z ≤ 250) (hT : ∀ i, i < z → T i ≤ 255) {p : Nat} (hp : p ≤ z) (hs : mSt T z p I) (hM : MMe qe (DR D R) I X Y) (hR : ROK R) (hq1 : zQm 1 R0 I X) (hw : wqN T z p = some 4) (hr : R.1 1 < 8) (hc : ∀ i, i < 1 → cK T z R 4 p i) (hb : ¬ cK T z R 4 p 1)  : zCq mX7_statement 5 [zr 0 0] (some (zi (nI 0))) ad S I X Y sz (fun I1 X1 => I1 0 0 34 = nI (tkA T z (tkE T z (tkE T z p))) ∧ MMe qe (DR D R) I1 X1 Y ∧ zQm 1 R0 I1 X1) := by
  refine zgoQ (own := RX7) (k := 1) (by decide +kernel) rfl rfl rfl (fun C hC hnm hE => ?_)
  have hm : zQm 0 R I X := hM.1
  have hn14 := hR.1
  have hn8 := hR.2.1
  have hn6 := hR.2.2.1
  have htk := tk_le (T := T) hp
  have hp1 : (tkE T z p) ≤ z := (tk_le (T := T) hp).2.2.1
  have hf1 := fgN_le (T := T) hp1
  have hp2 : (tkE T z (tkE T z p)) ≤ z := (tk_le (T := T) hp1).2.2.1
  have hf2 := fgN_le (T := T) hp2
  have hp3 : (tkE T z (tkE T z (tkE T z p))) ≤ z := (tk_le (T := T) hp2).2.2.1
  have hf3 := fgN_le (T := T) hp3
  have hp4 : (tkE T z (tkE T z (tkE T z (tkE T z p)))) ≤ z := (tk_le (T := T) hp3).2.2.1
  have hf4 := fgN_le (T := T) hp4
  have hp5 : (tkE T z (tkE T z (tkE T z (tkE T z (tkE T z p))))) ≤ z := (tk_le (T := T) hp4).2.2.1
  have hf5 := fgN_le (T := T) hp5
  refine z_aload_n hC dX7_statement_0 rfl ?_
  refine z_ldcS hC (j := 0) (List.mem_of_getElem? (i := 8) rfl) dX7_statement_1 ?_
  refine wVv hC dX7_statement_3 zlX7_226 (c_isW hS h7 hX hz hT hp hs (j := 0) (by decide) (v := 0) (by rw [hw]; decide)) (hS _) rfl rfl rfl rfl rfl rfl ⟨rfl, rfl⟩ ?_
  refine z_nif_eq hC dX7_statement_6 (tgt := 94) (by decide) (by omega) (fun c6 => ?_) (fun c6 => ?_)
  rotate_left
  · exact absurd c6 (by decide)
  refine z_aload_n hC dX7_statement_94 rfl ?_
  refine z_ldcS hC (j := 1) (List.mem_of_getElem? (i := 9) rfl) dX7_statement_95 ?_
  refine wVv hC dX7_statement_97 zlX7_226 (c_isW hS h7 hX hz hT hp hs (j := 1) (by decide) (v := 0) (by rw [hw]; decide)) (hS _) rfl rfl rfl rfl rfl rfl ⟨rfl, rfl⟩ ?_
  refine z_nif_eq hC dX7_statement_100 (tgt := 112) (by decide) (by omega) (fun c100 => ?_) (fun c100 => ?_)
  rotate_left
  · exact absurd c100 (by decide)
  refine z_aload_n hC dX7_statement_112 rfl ?_
  refine z_ldcS hC (j := 2) (List.mem_of_getElem? (i := 10) rfl) dX7_statement_113 ?_
  refine wVv hC dX7_statement_115 zlX7_226 (c_isW hS h7 hX hz hT hp hs (j := 2) (by decide) (v := 0) (by rw [hw]; decide)) (hS _) rfl rfl rfl rfl rfl rfl ⟨rfl, rfl⟩ ?_
  refine z_nif_eq hC dX7_statement_118 (tgt := 129) (by decide) (by omega) (fun c118 => ?_) (fun c118 => ?_)
  rotate_left
  · exact absurd c118 (by decide)
  refine z_aload_n hC dX7_statement_129 rfl ?_
  refine z_ldcS hC (j := 3) (List.mem_of_getElem? (i := 11) rfl) dX7_statement_130 ?_
  refine wVv hC dX7_statement_132 zlX7_226 (c_isW hS h7 hX hz hT hp hs (j := 3) (by decide) (v := 0) (by rw [hw]; decide)) (hS _) rfl rfl rfl rfl rfl rfl ⟨rfl, rfl⟩ ?_
  refine z_nif_eq hC dX7_statement_135 (tgt := 147) (by decide) (by omega) (fun c135 => ?_) (fun c135 => ?_)
  rotate_left
  · exact absurd c135 (by decide)
  refine z_aload_n hC dX7_statement_147 rfl ?_
  refine z_ldcS hC (j := 4) (List.mem_of_getElem? (i := 12) rfl) dX7_statement_148 ?_
  refine wVv hC dX7_statement_150 zlX7_226 (c_isW hS h7 hX hz hT hp hs (j := 4) (by decide) (v := 1) (by rw [hw]; decide)) (hS _) rfl rfl rfl rfl rfl rfl ⟨rfl, rfl⟩ ?_
  refine z_istore_n hC dX7_statement_153 (lo2 := [_, _]) (Nat.le_of_ble_eq_true rfl) rfl rfl ?_
  refine z_iload_n hC dX7_statement_154 rfl ?_
  refine z_nif_ne hC dX7_statement_155 (tgt := 167) (by decide) (by omega) (fun c155 => ?_) (fun c155 => ?_)
  rotate_left
  · exact absurd c155 (by decide)
  refine z_aload_n hC dX7_statement_167 rfl ?_
  refine z_getN hC dX7_statement_168 (hS _) zfX7_150 rfl hm.1.2.1 ?_
  refine z_bipush hC dX7_statement_171 (v := nI 8) rfl ?_
  refine z_nicmp_ge hC dX7_statement_173 (tgt := 230) (by decide) (by omega) (by omega) (fun c173 => ?_) (fun c173 => ?_)
  · exact absurd c173 (by omega)
  refine z_aload_n hC dX7_statement_176 rfl ?_
  refine z_iconst hC dX7_statement_177 (v := nI 0) rfl ?_
  refine z_aload_n hC dX7_statement_178 rfl ?_
  refine z_getN hC dX7_statement_179 (hS _) zfX7_94 rfl hm.1.1 ?_
  refine z_iconst hC dX7_statement_182 (v := nI 1) rfl ?_
  refine z_isub hC dX7_statement_183  ?_
  refine wVv hC dX7_statement_184 zlX7_218 (c_tells_t hS h7 hX hz hT hp hs (by decide) (hc 0 (by decide)).1 ((kP_40 hn14 hf1).mp (hc 0 (by decide)).2)) (hS _) rfl rfl rfl rfl rfl rfl ⟨rfl, rfl⟩ ?_
  refine z_X (X2 := zrow 0 28 (vk T z p) 1 X) (zr_1 (f := vk T z p)) ?_
  refine z_nif_eq hC dX7_statement_187 (tgt := 201) (by decide) (by omega) (fun c187 => ?_) (fun c187 => ?_)
  · exact absurd c187 (by decide)
  refine z_aload_n hC dX7_statement_190 rfl ?_
  refine z_iconst hC dX7_statement_191 (v := nI 1) rfl ?_
  refine z_iconst hC dX7_statement_192 (v := nI 0) rfl ?_
  refine z_bipush hC dX7_statement_193 (v := nI 100) rfl ?_
  refine wVv hC dX7_statement_195 zlX7_214 (c_number_f hS ((mTM_ne (by omega)).trans h7) (fun j hj => (zrow_ne (by omega)).trans (hX j hj)) hz hT hp2 mTM_st (by decide) (by decide) (fun w => hb ⟨w.1, (kP_41 hf2).mpr w.2⟩)) (hS _) rfl rfl rfl rfl rfl rfl ⟨rfl, rfl⟩ ?_
  refine z_nif_ne hC dX7_statement_198 (tgt := 203) (by decide) (by omega) (fun c198 => ?_) (fun c198 => ?_)
  · exact absurd c198 (by decide)
  refine z_iconst hC dX7_statement_201 (v := nI 0) rfl ?_
  refine z_zret hC dX7_statement_202 rfl ?_
  exact (hE _ _ ⟨up3_eq _ _ _ _ _, st_any hM hq1 (fun b k j h => (up3_ne (by omega)).trans (mTM_ne (by omega))) (fun b k j h => zrow_ne (by omega))⟩).to (by rfl) rfl rfl rfl

theorem c_st_5t (hS : ∀ k, S 0 k = msh 0 k) (h7 : I 0 0 7 = nI z) (hX : ∀ i, i < z → X 0 15 i = nI (T i)) (hz : z ≤ 250) (hT : ∀ i, i < z → T i ≤ 255) {p : Nat} (hp : p ≤ z) (hs : mSt T z p I) (hM : MMe qe (DR D R) I X Y) (hR : ROK R) (hq1 : zQm 1 R0 I X) (hw : wqN T z p = some 5) (hr : R.1 1 < 8) (hc : ∀ i, i < 2 → cK T z R 5 p i)  : zCq mX7_statement 5 [zr 0 0] (some (zi (nI 1))) ad S I X Y sz (fun I1 X1 => mSt T z (tkE T z (tkE T z (tkE T z p))) I1 ∧ MMe qe (DR D (cyR R 5 (nmK T z p 2))) I1 X1 Y ∧ zQm 1 R0 I1 X1 ∧ I1 0 0 36 = I 0 0 36) := by
  refine zgoQ (own := RX7) (k := 1) (by decide +kernel) rfl rfl rfl (fun C hC hnm hE => ?_)
  have hm : zQm 0 R I X := hM.1
  have hn14 := hR.1
  have hn8 := hR.2.1
  have hn6 := hR.2.2.1
  have htk := tk_le (T := T) hp
  have hp1 : (tkE T z p) ≤ z := (tk_le (T := T) hp).2.2.1
  have hf1 := fgN_le (T := T) hp1
  have hp2 : (tkE T z (tkE T z p)) ≤ z := (tk_le (T := T) hp1).2.2.1
  have hf2 := fgN_le (T := T) hp2
  have hp3 : (tkE T z (tkE T z (tkE T z p))) ≤ z := (tk_le (T := T) hp2).2.2.1
  have hf3 := fgN_le (T := T) hp3
  have hp4 : (tkE T z (tkE T z (tkE T z (tkE T z p)))) ≤ z := (tk_le (T := T) hp3).2.2.1
  have hf4 := fgN_le (T := T) hp4
  have hp5 : (tkE T z (tkE T z (tkE T z (tkE T z (tkE T z p))))) ≤ z := (tk_le (T := T) hp4).2.2.1
  have hf5 := fgN_le (T := T) hp5
  have hv0 := (tkV_50).mp (hc 0 (by decide)).2
  have hv1 := (tkV_51).mp (hc 1 (by decide)).2
  have hst : MMe qe (DR D R) (mTM T z I (tkE T z (tkE T z (tkE T z p)))) (zrow 0 28 (vk T z p) 2 X) Y ∧ zQm 1 R0 (mTM T z I (tkE T z (tkE T z (tkE T z p)))) (zrow 0 28 (vk T z p) 2 X) := st_any hM hq1 (fun b k j h => mTM_ne (by omega)) (fun b k j h => zrow_ne (by omega))
  have hmn : zQm 0 R (mTM T z I (tkE T z (tkE T z (tkE T z p)))) (zrow 0 28 (vk T z p) 2 X) := hst.1.1
  refine z_aload_n hC dX7_statement_0 rfl ?_
  refine z_ldcS hC (j := 0) (List.mem_of_getElem? (i := 8) rfl) dX7_statement_1 ?_
  refine wVv hC dX7_statement_3 zlX7_226 (c_isW hS h7 hX hz hT hp hs (j := 0) (by decide) (v := 0) (by rw [hw]; decide)) (hS _) rfl rfl rfl rfl rfl rfl ⟨rfl, rfl⟩ ?_
  refine z_nif_eq hC dX7_statement_6 (tgt := 94) (by decide) (by omega) (fun c6 => ?_) (fun c6 => ?_)
  rotate_left
  · exact absurd c6 (by decide)
  refine z_aload_n hC dX7_statement_94 rfl ?_
  refine z_ldcS hC (j := 1) (List.mem_of_getElem? (i := 9) rfl) dX7_statement_95 ?_
  refine wVv hC dX7_statement_97 zlX7_226 (c_isW hS h7 hX hz hT hp hs (j := 1) (by decide) (v := 0) (by rw [hw]; decide)) (hS _) rfl rfl rfl rfl rfl rfl ⟨rfl, rfl⟩ ?_
  refine z_nif_eq hC dX7_statement_100 (tgt := 112) (by decide) (by omega) (fun c100 => ?_) (fun c100 => ?_)
  rotate_left
  · exact absurd c100 (by decide)
  refine z_aload_n hC dX7_statement_112 rfl ?_
  refine z_ldcS hC (j := 2) (List.mem_of_getElem? (i := 10) rfl) dX7_statement_113 ?_
  refine wVv hC dX7_statement_115 zlX7_226 (c_isW hS h7 hX hz hT hp hs (j := 2) (by decide) (v := 0) (by rw [hw]; decide)) (hS _) rfl rfl rfl rfl rfl rfl ⟨rfl, rfl⟩ ?_
  refine z_nif_eq hC dX7_statement_118 (tgt := 129) (by decide) (by omega) (fun c118 => ?_) (fun c118 => ?_)
  rotate_left
  · exact absurd c118 (by decide)
  refine z_aload_n hC dX7_statement_129 rfl ?_
  refine z_ldcS hC (j := 3) (List.mem_of_getElem? (i := 11) rfl) dX7_statement_130 ?_
  refine wVv hC dX7_statement_132 zlX7_226 (c_isW hS h7 hX hz hT hp hs (j := 3) (by decide) (v := 0) (by rw [hw]; decide)) (hS _) rfl rfl rfl rfl rfl rfl ⟨rfl, rfl⟩ ?_
  refine z_nif_eq hC dX7_statement_135 (tgt := 147) (by decide) (by omega) (fun c135 => ?_) (fun c135 => ?_)
  rotate_left
  · exact absurd c135 (by decide)
  refine z_aload_n hC dX7_statement_147 rfl ?_
  refine z_ldcS hC (j := 4) (List.mem_of_getElem? (i := 12) rfl) dX7_statement_148 ?_
  refine wVv hC dX7_statement_150 zlX7_226 (c_isW hS h7 hX hz hT hp hs (j := 4) (by decide) (v := 0) (by rw [hw]; decide)) (hS _) rfl rfl rfl rfl rfl rfl ⟨rfl, rfl⟩ ?_
  refine z_istore_n hC dX7_statement_153 (lo2 := [_, _]) (Nat.le_of_ble_eq_true rfl) rfl rfl ?_
  refine z_iload_n hC dX7_statement_154 rfl ?_
  refine z_nif_ne hC dX7_statement_155 (tgt := 167) (by decide) (by omega) (fun c155 => ?_) (fun c155 => ?_)
  · exact absurd c155 (by decide)
  refine z_aload_n hC dX7_statement_158 rfl ?_
  refine z_ldcS hC (j := 5) (List.mem_of_getElem? (i := 13) rfl) dX7_statement_159 ?_
  refine wVv hC dX7_statement_161 zlX7_226 (c_isW hS h7 hX hz hT hp hs (j := 5) (by decide) (v := 1) (by rw [hw]; decide)) (hS _) rfl rfl rfl rfl rfl rfl ⟨rfl, rfl⟩ ?_
  refine z_nif_eq hC dX7_statement_164 (tgt := 230) (by decide) (by omega) (fun c164 => ?_) (fun c164 => ?_)
  · exact absurd c164 (by decide)
  refine z_aload_n hC dX7_statement_167 rfl ?_
  refine z_getN hC dX7_statement_168 (hS _) zfX7_150 rfl hm.1.2.1 ?_
  refine z_bipush hC dX7_statement_171 (v := nI 8) rfl ?_
  refine z_nicmp_ge hC dX7_statement_173 (tgt := 230) (by decide) (by omega) (by omega) (fun c173 => ?_) (fun c173 => ?_)
  · exact absurd c173 (by omega)
  refine z_aload_n hC dX7_statement_176 rfl ?_
  refine z_iconst hC dX7_statement_177 (v := nI 0) rfl ?_
  refine z_aload_n hC dX7_statement_178 rfl ?_
  refine z_getN hC dX7_statement_179 (hS _) zfX7_94 rfl hm.1.1 ?_
  refine z_iconst hC dX7_statement_182 (v := nI 1) rfl ?_
  refine z_isub hC dX7_statement_183  ?_
  refine wVv hC dX7_statement_184 zlX7_218 (c_tells_t hS h7 hX hz hT hp hs (by decide) (hc 0 (by decide)).1 ((kP_50 hn14 hf1).mp (hc 0 (by decide)).2)) (hS _) rfl rfl rfl rfl rfl rfl ⟨rfl, rfl⟩ ?_
  refine z_X (X2 := zrow 0 28 (vk T z p) 1 X) (zr_1 (f := vk T z p)) ?_
  refine z_nif_eq hC dX7_statement_187 (tgt := 201) (by decide) (by omega) (fun c187 => ?_) (fun c187 => ?_)
  · exact absurd c187 (by decide)
  refine z_aload_n hC dX7_statement_190 rfl ?_
  refine z_iconst hC dX7_statement_191 (v := nI 1) rfl ?_
  refine z_iconst hC dX7_statement_192 (v := nI 0) rfl ?_
  refine z_bipush hC dX7_statement_193 (v := nI 100) rfl ?_
  refine wVv hC dX7_statement_195 zlX7_214 (c_number_t hS ((mTM_ne (by omega)).trans h7) (fun j hj => (zrow_ne (by omega)).trans (hX j hj)) hz hT hp2 mTM_st (by decide) (by decide) (hc 1 (by decide)).1 ((kP_51 hf2).mp (hc 1 (by decide)).2)) (hS _) rfl rfl rfl rfl rfl rfl ⟨rfl, rfl⟩ ?_
  rw [mTM_2]
  refine z_X (X2 := zrow 0 28 (vk T z p) 2 X) (zrow_s (k := 1) (f := vk T z p)) ?_
  refine z_nif_ne hC dX7_statement_198 (tgt := 203) (by decide) (by omega) (fun c198 => ?_) (fun c198 => ?_)
  rotate_left
  · exact absurd c198 (by decide)
  refine z_aload_n hC dX7_statement_203 rfl ?_
  refine z_aload_n hC dX7_statement_204 rfl ?_
  refine z_getR hC dX7_statement_205 (hS _) zfX7_80 rfl ?_
  refine z_iconst hC dX7_statement_208 (v := nI 0) rfl ?_
  refine z_naldN hC dX7_statement_209 (hS _) (by omega) rfl (zrow_get (f := vk T z p) (show 0 < 2 by decide)) ?_
  refine z_iload_n hC dX7_statement_210 rfl ?_
  refine z_nif_eq hC dX7_statement_211 (tgt := 218) (by decide) (by omega) (fun c211 => ?_) (fun c211 => ?_)
  rotate_left
  · exact absurd c211 (by decide)
  refine z_iconst hC dX7_statement_218 (v := nI 0) rfl ?_
  refine z_aload_n hC dX7_statement_219 rfl ?_
  refine z_getR hC dX7_statement_220 (hS _) zfX7_80 rfl ?_
  refine z_iconst hC dX7_statement_223 (v := nI 1) rfl ?_
  refine z_naldN hC dX7_statement_224 (hS _) (by omega) rfl (zrow_get (f := vk T z p) (show 1 < 2 by decide)) ?_
  refine wV0 hC dX7_statement_225 zlX7_155 (c_X7_addSign hS hmn hR) (hS _) rfl rfl rfl rfl rfl rfl ⟨rfl, rfl⟩ ?_
  refine z_iconst hC dX7_statement_228 (v := nI 1) rfl ?_
  refine z_zret hC dX7_statement_229 rfl ?_
  exact (hE _ _ (st_fin hst (show zQm 0 (cyR R 5 (nmK T z p 2)) _ _ from hmn.addS) (fun b k j h => up3_ne (by omega)) (fun b k j h => madd3_ne (by omega)) mTM_st (mTM_ne (by omega)))).to (by rfl) rfl rfl rfl

theorem c_st_5f0 (hS : ∀ k, S 0 k = msh 0 k) (h7 : I 0 0 7 = nI z) (hX : ∀ i, i < z → X 0 15 i = nI (T i)) (hz : z ≤ 250) (hT : ∀ i, i < z → T i ≤ 255) {p : Nat} (hp : p ≤ z) (hs : mSt T z p I) (hM : MMe qe (DR D R) I X Y) (hR : ROK R) (hq1 : zQm 1 R0 I X) (hw : wqN T z p = some 5) (hr : R.1 1 < 8) (hc : ∀ i, i < 0 → cK T z R 5 p i) (hb : ¬ cK T z R 5 p 0)  : zCq mX7_statement 5 [zr 0 0] (some (zi (nI 0))) ad S I X Y sz (fun I1 X1 => I1 0 0 34 = nI (tkA T z (tkE T z p)) ∧ MMe qe (DR D R) I1 X1 Y ∧ zQm 1 R0 I1 X1) := by
  refine zgoQ (own := RX7) (k := 1) (by decide +kernel) rfl rfl rfl (fun C hC hnm hE => ?_)
  have hm : zQm 0 R I X := hM.1
  have hn14 := hR.1
  have hn8 := hR.2.1
  have hn6 := hR.2.2.1
  have htk := tk_le (T := T) hp
  have hp1 : (tkE T z p) ≤ z := (tk_le (T := T) hp).2.2.1
  have hf1 := fgN_le (T := T) hp1
  have hp2 : (tkE T z (tkE T z p)) ≤ z := (tk_le (T := T) hp1).2.2.1
  have hf2 := fgN_le (T := T) hp2
  have hp3 : (tkE T z (tkE T z (tkE T z p))) ≤ z := (tk_le (T := T) hp2).2.2.1
  have hf3 := fgN_le (T := T) hp3
  have hp4 : (tkE T z (tkE T z (tkE T z (tkE T z p)))) ≤ z := (tk_le (T := T) hp3).2.2.1
  have hf4 := fgN_le (T := T) hp4
  have hp5 : (tkE T z (tkE T z (tkE T z (tkE T z (tkE T z p))))) ≤ z := (tk_le (T := T) hp4).2.2.1
  have hf5 := fgN_le (T := T) hp5
  refine z_aload_n hC dX7_statement_0 rfl ?_
  refine z_ldcS hC (j := 0) (List.mem_of_getElem? (i := 8) rfl) dX7_statement_1 ?_
  refine wVv hC dX7_statement_3 zlX7_226 (c_isW hS h7 hX hz hT hp hs (j := 0) (by decide) (v := 0) (by rw [hw]; decide)) (hS _) rfl rfl rfl rfl rfl rfl ⟨rfl, rfl⟩ ?_
  refine z_nif_eq hC dX7_statement_6 (tgt := 94) (by decide) (by omega) (fun c6 => ?_) (fun c6 => ?_)
  rotate_left
  · exact absurd c6 (by decide)
  refine z_aload_n hC dX7_statement_94 rfl ?_
  refine z_ldcS hC (j := 1) (List.mem_of_getElem? (i := 9) rfl) dX7_statement_95 ?_
  refine wVv hC dX7_statement_97 zlX7_226 (c_isW hS h7 hX hz hT hp hs (j := 1) (by decide) (v := 0) (by rw [hw]; decide)) (hS _) rfl rfl rfl rfl rfl rfl ⟨rfl, rfl⟩ ?_
  refine z_nif_eq hC dX7_statement_100 (tgt := 112) (by decide) (by omega) (fun c100 => ?_) (fun c100 => ?_)
  rotate_left
  · exact absurd c100 (by decide)
  refine z_aload_n hC dX7_statement_112 rfl ?_
  refine z_ldcS hC (j := 2) (List.mem_of_getElem? (i := 10) rfl) dX7_statement_113 ?_
  refine wVv hC dX7_statement_115 zlX7_226 (c_isW hS h7 hX hz hT hp hs (j := 2) (by decide) (v := 0) (by rw [hw]; decide)) (hS _) rfl rfl rfl rfl rfl rfl ⟨rfl, rfl⟩ ?_
  refine z_nif_eq hC dX7_statement_118 (tgt := 129) (by decide) (by omega) (fun c118 => ?_) (fun c118 => ?_)
  rotate_left
  · exact absurd c118 (by decide)
  refine z_aload_n hC dX7_statement_129 rfl ?_
  refine z_ldcS hC (j := 3) (List.mem_of_getElem? (i := 11) rfl) dX7_statement_130 ?_
  refine wVv hC dX7_statement_132 zlX7_226 (c_isW hS h7 hX hz hT hp hs (j := 3) (by decide) (v := 0) (by rw [hw]; decide)) (hS _) rfl rfl rfl rfl rfl rfl ⟨rfl, rfl⟩ ?_
  refine z_nif_eq hC dX7_statement_135 (tgt := 147) (by decide) (by omega) (fun c135 => ?_) (fun c135 => ?_)
  rotate_left
  · exact absurd c135 (by decide)
  refine z_aload_n hC dX7_statement_147 rfl ?_
  refine z_ldcS hC (j := 4) (List.mem_of_getElem? (i := 12) rfl) dX7_statement_148 ?_
  refine wVv hC dX7_statement_150 zlX7_226 (c_isW hS h7 hX hz hT hp hs (j := 4) (by decide) (v := 0) (by rw [hw]; decide)) (hS _) rfl rfl rfl rfl rfl rfl ⟨rfl, rfl⟩ ?_
  refine z_istore_n hC dX7_statement_153 (lo2 := [_, _]) (Nat.le_of_ble_eq_true rfl) rfl rfl ?_
  refine z_iload_n hC dX7_statement_154 rfl ?_
  refine z_nif_ne hC dX7_statement_155 (tgt := 167) (by decide) (by omega) (fun c155 => ?_) (fun c155 => ?_)
  · exact absurd c155 (by decide)
  refine z_aload_n hC dX7_statement_158 rfl ?_
  refine z_ldcS hC (j := 5) (List.mem_of_getElem? (i := 13) rfl) dX7_statement_159 ?_
  refine wVv hC dX7_statement_161 zlX7_226 (c_isW hS h7 hX hz hT hp hs (j := 5) (by decide) (v := 1) (by rw [hw]; decide)) (hS _) rfl rfl rfl rfl rfl rfl ⟨rfl, rfl⟩ ?_
  refine z_nif_eq hC dX7_statement_164 (tgt := 230) (by decide) (by omega) (fun c164 => ?_) (fun c164 => ?_)
  · exact absurd c164 (by decide)
  refine z_aload_n hC dX7_statement_167 rfl ?_
  refine z_getN hC dX7_statement_168 (hS _) zfX7_150 rfl hm.1.2.1 ?_
  refine z_bipush hC dX7_statement_171 (v := nI 8) rfl ?_
  refine z_nicmp_ge hC dX7_statement_173 (tgt := 230) (by decide) (by omega) (by omega) (fun c173 => ?_) (fun c173 => ?_)
  · exact absurd c173 (by omega)
  refine z_aload_n hC dX7_statement_176 rfl ?_
  refine z_iconst hC dX7_statement_177 (v := nI 0) rfl ?_
  refine z_aload_n hC dX7_statement_178 rfl ?_
  refine z_getN hC dX7_statement_179 (hS _) zfX7_94 rfl hm.1.1 ?_
  refine z_iconst hC dX7_statement_182 (v := nI 1) rfl ?_
  refine z_isub hC dX7_statement_183  ?_
  refine wVv hC dX7_statement_184 zlX7_218 (c_tells_f hS h7 hX hz hT hp hs (by decide) (fun w => hb ⟨w.1, (kP_50 hn14 hf1).mpr w.2⟩)) (hS _) rfl rfl rfl rfl rfl rfl ⟨rfl, rfl⟩ ?_
  refine z_nif_eq hC dX7_statement_187 (tgt := 201) (by decide) (by omega) (fun c187 => ?_) (fun c187 => ?_)
  rotate_left
  · exact absurd c187 (by decide)
  refine z_iconst hC dX7_statement_201 (v := nI 0) rfl ?_
  refine z_zret hC dX7_statement_202 rfl ?_
  exact (hE _ _ ⟨up3_eq _ _ _ _ _, st_any hM hq1 (fun b k j h => (up3_ne (by omega)).trans (mTM_ne (by omega))) (fun _ _ _ _ => rfl)⟩).to (by rfl) rfl rfl rfl

theorem c_st_5f1 (hS : ∀ k, S 0 k = msh 0 k) (h7 : I 0 0 7 = nI z) (hX : ∀ i, i < z → X 0 15 i = nI (T i)) (hz : z ≤ 250) (hT : ∀ i, i < z → T i ≤ 255) {p : Nat} (hp : p ≤ z) (hs : mSt T z p I) (hM : MMe qe (DR D R) I X Y) (hR : ROK R) (hq1 : zQm 1 R0 I X) (hw : wqN T z p = some 5) (hr : R.1 1 < 8) (hc : ∀ i, i < 1 → cK T z R 5 p i) (hb : ¬ cK T z R 5 p 1)  : zCq mX7_statement 5 [zr 0 0] (some (zi (nI 0))) ad S I X Y sz (fun I1 X1 => I1 0 0 34 = nI (tkA T z (tkE T z (tkE T z p))) ∧ MMe qe (DR D R) I1 X1 Y ∧ zQm 1 R0 I1 X1) := by
  refine zgoQ (own := RX7) (k := 1) (by decide +kernel) rfl rfl rfl (fun C hC hnm hE => ?_)
  have hm : zQm 0 R I X := hM.1
  have hn14 := hR.1
  have hn8 := hR.2.1
  have hn6 := hR.2.2.1
  have htk := tk_le (T := T) hp
  have hp1 : (tkE T z p) ≤ z := (tk_le (T := T) hp).2.2.1
  have hf1 := fgN_le (T := T) hp1
  have hp2 : (tkE T z (tkE T z p)) ≤ z := (tk_le (T := T) hp1).2.2.1
  have hf2 := fgN_le (T := T) hp2
  have hp3 : (tkE T z (tkE T z (tkE T z p))) ≤ z := (tk_le (T := T) hp2).2.2.1
  have hf3 := fgN_le (T := T) hp3
  have hp4 : (tkE T z (tkE T z (tkE T z (tkE T z p)))) ≤ z := (tk_le (T := T) hp3).2.2.1
  have hf4 := fgN_le (T := T) hp4
  have hp5 : (tkE T z (tkE T z (tkE T z (tkE T z (tkE T z p))))) ≤ z := (tk_le (T := T) hp4).2.2.1
  have hf5 := fgN_le (T := T) hp5
  refine z_aload_n hC dX7_statement_0 rfl ?_
  refine z_ldcS hC (j := 0) (List.mem_of_getElem? (i := 8) rfl) dX7_statement_1 ?_
  refine wVv hC dX7_statement_3 zlX7_226 (c_isW hS h7 hX hz hT hp hs (j := 0) (by decide) (v := 0) (by rw [hw]; decide)) (hS _) rfl rfl rfl rfl rfl rfl ⟨rfl, rfl⟩ ?_
  refine z_nif_eq hC dX7_statement_6 (tgt := 94) (by decide) (by omega) (fun c6 => ?_) (fun c6 => ?_)
  rotate_left
  · exact absurd c6 (by decide)
  refine z_aload_n hC dX7_statement_94 rfl ?_
  refine z_ldcS hC (j := 1) (List.mem_of_getElem? (i := 9) rfl) dX7_statement_95 ?_
  refine wVv hC dX7_statement_97 zlX7_226 (c_isW hS h7 hX hz hT hp hs (j := 1) (by decide) (v := 0) (by rw [hw]; decide)) (hS _) rfl rfl rfl rfl rfl rfl ⟨rfl, rfl⟩ ?_
  refine z_nif_eq hC dX7_statement_100 (tgt := 112) (by decide) (by omega) (fun c100 => ?_) (fun c100 => ?_)
  rotate_left
  · exact absurd c100 (by decide)
  refine z_aload_n hC dX7_statement_112 rfl ?_
  refine z_ldcS hC (j := 2) (List.mem_of_getElem? (i := 10) rfl) dX7_statement_113 ?_
  refine wVv hC dX7_statement_115 zlX7_226 (c_isW hS h7 hX hz hT hp hs (j := 2) (by decide) (v := 0) (by rw [hw]; decide)) (hS _) rfl rfl rfl rfl rfl rfl ⟨rfl, rfl⟩ ?_
  refine z_nif_eq hC dX7_statement_118 (tgt := 129) (by decide) (by omega) (fun c118 => ?_) (fun c118 => ?_)
  rotate_left
  · exact absurd c118 (by decide)
  refine z_aload_n hC dX7_statement_129 rfl ?_
  refine z_ldcS hC (j := 3) (List.mem_of_getElem? (i := 11) rfl) dX7_statement_130 ?_
  refine wVv hC dX7_statement_132 zlX7_226 (c_isW hS h7 hX hz hT hp hs (j := 3) (by decide) (v := 0) (by rw [hw]; decide)) (hS _) rfl rfl rfl rfl rfl rfl ⟨rfl, rfl⟩ ?_
  refine z_nif_eq hC dX7_statement_135 (tgt := 147) (by decide) (by omega) (fun c135 => ?_) (fun c135 => ?_)
  rotate_left
  · exact absurd c135 (by decide)
  refine z_aload_n hC dX7_statement_147 rfl ?_
  refine z_ldcS hC (j := 4) (List.mem_of_getElem? (i := 12) rfl) dX7_statement_148 ?_
  refine wVv hC dX7_statement_150 zlX7_226 (c_isW hS h7 hX hz hT hp hs (j := 4) (by decide) (v := 0) (by rw [hw]; decide)) (hS _) rfl rfl rfl rfl rfl rfl ⟨rfl, rfl⟩ ?_
  refine z_istore_n hC dX7_statement_153 (lo2 := [_, _]) (Nat.le_of_ble_eq_true rfl) rfl rfl ?_
  refine z_iload_n hC dX7_statement_154 rfl ?_
  refine z_nif_ne hC dX7_statement_155 (tgt := 167) (by decide) (by omega) (fun c155 => ?_) (fun c155 => ?_)
  · exact absurd c155 (by decide)
  refine z_aload_n hC dX7_statement_158 rfl ?_
  refine z_ldcS hC (j := 5) (List.mem_of_getElem? (i := 13) rfl) dX7_statement_159 ?_
  refine wVv hC dX7_statement_161 zlX7_226 (c_isW hS h7 hX hz hT hp hs (j := 5) (by decide) (v := 1) (by rw [hw]; decide)) (hS _) rfl rfl rfl rfl rfl rfl ⟨rfl, rfl⟩ ?_
  refine z_nif_eq hC dX7_statement_164 (tgt := 230) (by decide) (by omega) (fun c164 => ?_) (fun c164 => ?_)
  · exact absurd c164 (by decide)
  refine z_aload_n hC dX7_statement_167 rfl ?_
  refine z_getN hC dX7_statement_168 (hS _) zfX7_150 rfl hm.1.2.1 ?_
  refine z_bipush hC dX7_statement_171 (v := nI 8) rfl ?_
  refine z_nicmp_ge hC dX7_statement_173 (tgt := 230) (by decide) (by omega) (by omega) (fun c173 => ?_) (fun c173 => ?_)
  · exact absurd c173 (by omega)
  refine z_aload_n hC dX7_statement_176 rfl ?_
  refine z_iconst hC dX7_statement_177 (v := nI 0) rfl ?_
  refine z_aload_n hC dX7_statement_178 rfl ?_
  refine z_getN hC dX7_statement_179 (hS _) zfX7_94 rfl hm.1.1 ?_
  refine z_iconst hC dX7_statement_182 (v := nI 1) rfl ?_
  refine z_isub hC dX7_statement_183  ?_
  refine wVv hC dX7_statement_184 zlX7_218 (c_tells_t hS h7 hX hz hT hp hs (by decide) (hc 0 (by decide)).1 ((kP_50 hn14 hf1).mp (hc 0 (by decide)).2)) (hS _) rfl rfl rfl rfl rfl rfl ⟨rfl, rfl⟩ ?_
  refine z_X (X2 := zrow 0 28 (vk T z p) 1 X) (zr_1 (f := vk T z p)) ?_
  refine z_nif_eq hC dX7_statement_187 (tgt := 201) (by decide) (by omega) (fun c187 => ?_) (fun c187 => ?_)
  · exact absurd c187 (by decide)
  refine z_aload_n hC dX7_statement_190 rfl ?_
  refine z_iconst hC dX7_statement_191 (v := nI 1) rfl ?_
  refine z_iconst hC dX7_statement_192 (v := nI 0) rfl ?_
  refine z_bipush hC dX7_statement_193 (v := nI 100) rfl ?_
  refine wVv hC dX7_statement_195 zlX7_214 (c_number_f hS ((mTM_ne (by omega)).trans h7) (fun j hj => (zrow_ne (by omega)).trans (hX j hj)) hz hT hp2 mTM_st (by decide) (by decide) (fun w => hb ⟨w.1, (kP_51 hf2).mpr w.2⟩)) (hS _) rfl rfl rfl rfl rfl rfl ⟨rfl, rfl⟩ ?_
  refine z_nif_ne hC dX7_statement_198 (tgt := 203) (by decide) (by omega) (fun c198 => ?_) (fun c198 => ?_)
  · exact absurd c198 (by decide)
  refine z_iconst hC dX7_statement_201 (v := nI 0) rfl ?_
  refine z_zret hC dX7_statement_202 rfl ?_
  exact (hE _ _ ⟨up3_eq _ _ _ _ _, st_any hM hq1 (fun b k j h => (up3_ne (by omega)).trans (mTM_ne (by omega))) (fun b k j h => zrow_ne (by omega))⟩).to (by rfl) rfl rfl rfl

theorem c_st_6t (hS : ∀ k, S 0 k = msh 0 k) (h7 : I 0 0 7 = nI z) (hX : ∀ i, i < z → X 0 15 i = nI (T i)) (hz : z ≤ 250) (hT : ∀ i, i < z → T i ≤ 255) {p : Nat} (hp : p ≤ z) (hs : mSt T z p I) (hM : MMe qe (DR D R) I X Y) (hR : ROK R) (hq1 : zQm 1 R0 I X) (hw : wqN T z p = some 6) (hr : R.1 2 < 6) (hc : ∀ i, i < 3 → cK T z R 6 p i)  : zCq mX7_statement 5 [zr 0 0] (some (zi (nI 1))) ad S I X Y sz (fun I1 X1 => mSt T z (tkE T z (tkE T z (tkE T z (tkE T z p)))) I1 ∧ MMe qe (DR D (cyR R 6 (nmK T z p 3))) I1 X1 Y ∧ zQm 1 R0 I1 X1 ∧ I1 0 0 36 = I 0 0 36) := by
  refine zgoQ (own := RX7) (k := 1) (by decide +kernel) rfl rfl rfl (fun C hC hnm hE => ?_)
  have hm : zQm 0 R I X := hM.1
  have hn14 := hR.1
  have hn8 := hR.2.1
  have hn6 := hR.2.2.1
  have htk := tk_le (T := T) hp
  have hp1 : (tkE T z p) ≤ z := (tk_le (T := T) hp).2.2.1
  have hf1 := fgN_le (T := T) hp1
  have hp2 : (tkE T z (tkE T z p)) ≤ z := (tk_le (T := T) hp1).2.2.1
  have hf2 := fgN_le (T := T) hp2
  have hp3 : (tkE T z (tkE T z (tkE T z p))) ≤ z := (tk_le (T := T) hp2).2.2.1
  have hf3 := fgN_le (T := T) hp3
  have hp4 : (tkE T z (tkE T z (tkE T z (tkE T z p)))) ≤ z := (tk_le (T := T) hp3).2.2.1
  have hf4 := fgN_le (T := T) hp4
  have hp5 : (tkE T z (tkE T z (tkE T z (tkE T z (tkE T z p))))) ≤ z := (tk_le (T := T) hp4).2.2.1
  have hf5 := fgN_le (T := T) hp5
  have hv0 := (tkV_60).mp (hc 0 (by decide)).2
  have hv1 := (tkV_61).mp (hc 1 (by decide)).2
  have hv2 := (tkV_62).mp (hc 2 (by decide)).2
  have hst : MMe qe (DR D R) (mTM T z I (tkE T z (tkE T z (tkE T z (tkE T z p))))) (zrow 0 28 (vk T z p) 3 X) Y ∧ zQm 1 R0 (mTM T z I (tkE T z (tkE T z (tkE T z (tkE T z p))))) (zrow 0 28 (vk T z p) 3 X) := st_any hM hq1 (fun b k j h => mTM_ne (by omega)) (fun b k j h => zrow_ne (by omega))
  have hmn : zQm 0 R (mTM T z I (tkE T z (tkE T z (tkE T z (tkE T z p))))) (zrow 0 28 (vk T z p) 3 X) := hst.1.1
  refine z_aload_n hC dX7_statement_0 rfl ?_
  refine z_ldcS hC (j := 0) (List.mem_of_getElem? (i := 8) rfl) dX7_statement_1 ?_
  refine wVv hC dX7_statement_3 zlX7_226 (c_isW hS h7 hX hz hT hp hs (j := 0) (by decide) (v := 0) (by rw [hw]; decide)) (hS _) rfl rfl rfl rfl rfl rfl ⟨rfl, rfl⟩ ?_
  refine z_nif_eq hC dX7_statement_6 (tgt := 94) (by decide) (by omega) (fun c6 => ?_) (fun c6 => ?_)
  rotate_left
  · exact absurd c6 (by decide)
  refine z_aload_n hC dX7_statement_94 rfl ?_
  refine z_ldcS hC (j := 1) (List.mem_of_getElem? (i := 9) rfl) dX7_statement_95 ?_
  refine wVv hC dX7_statement_97 zlX7_226 (c_isW hS h7 hX hz hT hp hs (j := 1) (by decide) (v := 0) (by rw [hw]; decide)) (hS _) rfl rfl rfl rfl rfl rfl ⟨rfl, rfl⟩ ?_
  refine z_nif_eq hC dX7_statement_100 (tgt := 112) (by decide) (by omega) (fun c100 => ?_) (fun c100 => ?_)
  rotate_left
  · exact absurd c100 (by decide)
  refine z_aload_n hC dX7_statement_112 rfl ?_
  refine z_ldcS hC (j := 2) (List.mem_of_getElem? (i := 10) rfl) dX7_statement_113 ?_
  refine wVv hC dX7_statement_115 zlX7_226 (c_isW hS h7 hX hz hT hp hs (j := 2) (by decide) (v := 0) (by rw [hw]; decide)) (hS _) rfl rfl rfl rfl rfl rfl ⟨rfl, rfl⟩ ?_
  refine z_nif_eq hC dX7_statement_118 (tgt := 129) (by decide) (by omega) (fun c118 => ?_) (fun c118 => ?_)
  rotate_left
  · exact absurd c118 (by decide)
  refine z_aload_n hC dX7_statement_129 rfl ?_
  refine z_ldcS hC (j := 3) (List.mem_of_getElem? (i := 11) rfl) dX7_statement_130 ?_
  refine wVv hC dX7_statement_132 zlX7_226 (c_isW hS h7 hX hz hT hp hs (j := 3) (by decide) (v := 0) (by rw [hw]; decide)) (hS _) rfl rfl rfl rfl rfl rfl ⟨rfl, rfl⟩ ?_
  refine z_nif_eq hC dX7_statement_135 (tgt := 147) (by decide) (by omega) (fun c135 => ?_) (fun c135 => ?_)
  rotate_left
  · exact absurd c135 (by decide)
  refine z_aload_n hC dX7_statement_147 rfl ?_
  refine z_ldcS hC (j := 4) (List.mem_of_getElem? (i := 12) rfl) dX7_statement_148 ?_
  refine wVv hC dX7_statement_150 zlX7_226 (c_isW hS h7 hX hz hT hp hs (j := 4) (by decide) (v := 0) (by rw [hw]; decide)) (hS _) rfl rfl rfl rfl rfl rfl ⟨rfl, rfl⟩ ?_
  refine z_istore_n hC dX7_statement_153 (lo2 := [_, _]) (Nat.le_of_ble_eq_true rfl) rfl rfl ?_
  refine z_iload_n hC dX7_statement_154 rfl ?_
  refine z_nif_ne hC dX7_statement_155 (tgt := 167) (by decide) (by omega) (fun c155 => ?_) (fun c155 => ?_)
  · exact absurd c155 (by decide)
  refine z_aload_n hC dX7_statement_158 rfl ?_
  refine z_ldcS hC (j := 5) (List.mem_of_getElem? (i := 13) rfl) dX7_statement_159 ?_
  refine wVv hC dX7_statement_161 zlX7_226 (c_isW hS h7 hX hz hT hp hs (j := 5) (by decide) (v := 0) (by rw [hw]; decide)) (hS _) rfl rfl rfl rfl rfl rfl ⟨rfl, rfl⟩ ?_
  refine z_nif_eq hC dX7_statement_164 (tgt := 230) (by decide) (by omega) (fun c164 => ?_) (fun c164 => ?_)
  rotate_left
  · exact absurd c164 (by decide)
  refine z_aload_n hC dX7_statement_230 rfl ?_
  refine z_ldcS hC (j := 6) (List.mem_of_getElem? (i := 14) rfl) dX7_statement_231 ?_
  refine wVv hC dX7_statement_233 zlX7_226 (c_isW hS h7 hX hz hT hp hs (j := 6) (by decide) (v := 1) (by rw [hw]; decide)) (hS _) rfl rfl rfl rfl rfl rfl ⟨rfl, rfl⟩ ?_
  refine z_nif_eq hC dX7_statement_236 (tgt := 310) (by decide) (by omega) (fun c236 => ?_) (fun c236 => ?_)
  · exact absurd c236 (by decide)
  refine z_aload_n hC dX7_statement_239 rfl ?_
  refine z_getN hC dX7_statement_240 (hS _) zfX7_163 rfl hm.1.2.2.1 ?_
  refine z_bipush hC dX7_statement_243 (v := nI 6) rfl ?_
  refine z_nicmp_ge hC dX7_statement_245 (tgt := 310) (by decide) (by omega) (by omega) (fun c245 => ?_) (fun c245 => ?_)
  · exact absurd c245 (by omega)
  refine z_aload_n hC dX7_statement_248 rfl ?_
  refine z_iconst hC dX7_statement_249 (v := nI 0) rfl ?_
  refine z_aload_n hC dX7_statement_250 rfl ?_
  refine z_getN hC dX7_statement_251 (hS _) zfX7_94 rfl hm.1.1 ?_
  refine z_iconst hC dX7_statement_254 (v := nI 1) rfl ?_
  refine z_isub hC dX7_statement_255  ?_
  refine wVv hC dX7_statement_256 zlX7_218 (c_tells_t hS h7 hX hz hT hp hs (by decide) (hc 0 (by decide)).1 ((kP_60 hn14 hf1).mp (hc 0 (by decide)).2)) (hS _) rfl rfl rfl rfl rfl rfl ⟨rfl, rfl⟩ ?_
  refine z_X (X2 := zrow 0 28 (vk T z p) 1 X) (zr_1 (f := vk T z p)) ?_
  refine z_nif_eq hC dX7_statement_259 (tgt := 284) (by decide) (by omega) (fun c259 => ?_) (fun c259 => ?_)
  · exact absurd c259 (by decide)
  refine z_aload_n hC dX7_statement_262 rfl ?_
  refine z_iconst hC dX7_statement_263 (v := nI 1) rfl ?_
  refine z_iconst hC dX7_statement_264 (v := nI 1) rfl ?_
  refine z_bipush hC dX7_statement_265 (v := nI 99) rfl ?_
  refine wVv hC dX7_statement_267 zlX7_214 (c_number_t hS ((mTM_ne (by omega)).trans h7) (fun j hj => (zrow_ne (by omega)).trans (hX j hj)) hz hT hp2 mTM_st (by decide) (by decide) (hc 1 (by decide)).1 ((kP_61 hf2).mp (hc 1 (by decide)).2)) (hS _) rfl rfl rfl rfl rfl rfl ⟨rfl, rfl⟩ ?_
  rw [mTM_2]
  refine z_X (X2 := zrow 0 28 (vk T z p) 2 X) (zrow_s (k := 1) (f := vk T z p)) ?_
  refine z_nif_eq hC dX7_statement_270 (tgt := 284) (by decide) (by omega) (fun c270 => ?_) (fun c270 => ?_)
  · exact absurd c270 (by decide)
  refine z_aload_n hC dX7_statement_273 rfl ?_
  refine z_iconst hC dX7_statement_274 (v := nI 2) rfl ?_
  refine z_iconst hC dX7_statement_275 (v := nI 0) rfl ?_
  refine z_bipush hC dX7_statement_276 (v := nI 100) rfl ?_
  refine wVv hC dX7_statement_278 zlX7_214 (c_number_t hS ((mTM_ne (by omega)).trans h7) (fun j hj => (zrow_ne (by omega)).trans (hX j hj)) hz hT hp3 mTM_st (by decide) (by decide) (hc 2 (by decide)).1 ((kP_62 hf3).mp (hc 2 (by decide)).2)) (hS _) rfl rfl rfl rfl rfl rfl ⟨rfl, rfl⟩ ?_
  rw [mTM_2]
  refine z_X (X2 := zrow 0 28 (vk T z p) 3 X) (zrow_s (k := 2) (f := vk T z p)) ?_
  refine z_nif_ne hC dX7_statement_281 (tgt := 286) (by decide) (by omega) (fun c281 => ?_) (fun c281 => ?_)
  rotate_left
  · exact absurd c281 (by decide)
  refine z_aload_n hC dX7_statement_286 rfl ?_
  refine z_aload_n hC dX7_statement_287 rfl ?_
  refine z_getR hC dX7_statement_288 (hS _) zfX7_80 rfl ?_
  refine z_iconst hC dX7_statement_291 (v := nI 0) rfl ?_
  refine z_naldN hC dX7_statement_292 (hS _) (by omega) rfl (zrow_get (f := vk T z p) (show 0 < 3 by decide)) ?_
  refine z_aload_n hC dX7_statement_293 rfl ?_
  refine z_getR hC dX7_statement_294 (hS _) zfX7_80 rfl ?_
  refine z_iconst hC dX7_statement_297 (v := nI 1) rfl ?_
  refine z_naldN hC dX7_statement_298 (hS _) (by omega) rfl (zrow_get (f := vk T z p) (show 1 < 3 by decide)) ?_
  refine z_aload_n hC dX7_statement_299 rfl ?_
  refine z_getR hC dX7_statement_300 (hS _) zfX7_80 rfl ?_
  refine z_iconst hC dX7_statement_303 (v := nI 2) rfl ?_
  refine z_naldN hC dX7_statement_304 (hS _) (by omega) rfl (zrow_get (f := vk T z p) (show 2 < 3 by decide)) ?_
  refine wV0 hC dX7_statement_305 zlX7_168 (c_X7_addCall hS hmn hR hr) (hS _) rfl rfl rfl rfl rfl rfl ⟨rfl, rfl⟩ ?_
  refine z_iconst hC dX7_statement_308 (v := nI 1) rfl ?_
  refine z_zret hC dX7_statement_309 rfl ?_
  exact (hE _ _ (st_fin hst (show zQm 0 (cyR R 6 (nmK T z p 3)) _ _ from hmn.addC) (fun b k j h => up3_ne (by omega)) (fun b k j h => madd3_ne (by omega)) mTM_st (mTM_ne (by omega)))).to (by rfl) rfl rfl rfl

theorem c_st_6f0 (hS : ∀ k, S 0 k = msh 0 k) (h7 : I 0 0 7 = nI z) (hX : ∀ i, i < z → X 0 15 i = nI (T i)) (hz : z ≤ 250) (hT : ∀ i, i < z → T i ≤ 255) {p : Nat} (hp : p ≤ z) (hs : mSt T z p I) (hM : MMe qe (DR D R) I X Y) (hR : ROK R) (hq1 : zQm 1 R0 I X) (hw : wqN T z p = some 6) (hr : R.1 2 < 6) (hc : ∀ i, i < 0 → cK T z R 6 p i) (hb : ¬ cK T z R 6 p 0)  : zCq mX7_statement 5 [zr 0 0] (some (zi (nI 0))) ad S I X Y sz (fun I1 X1 => I1 0 0 34 = nI (tkA T z (tkE T z p)) ∧ MMe qe (DR D R) I1 X1 Y ∧ zQm 1 R0 I1 X1) := by
  refine zgoQ (own := RX7) (k := 1) (by decide +kernel) rfl rfl rfl (fun C hC hnm hE => ?_)
  have hm : zQm 0 R I X := hM.1
  have hn14 := hR.1
  have hn8 := hR.2.1
  have hn6 := hR.2.2.1
  have htk := tk_le (T := T) hp
  have hp1 : (tkE T z p) ≤ z := (tk_le (T := T) hp).2.2.1
  have hf1 := fgN_le (T := T) hp1
  have hp2 : (tkE T z (tkE T z p)) ≤ z := (tk_le (T := T) hp1).2.2.1
  have hf2 := fgN_le (T := T) hp2
  have hp3 : (tkE T z (tkE T z (tkE T z p))) ≤ z := (tk_le (T := T) hp2).2.2.1
  have hf3 := fgN_le (T := T) hp3
  have hp4 : (tkE T z (tkE T z (tkE T z (tkE T z p)))) ≤ z := (tk_le (T := T) hp3).2.2.1
  have hf4 := fgN_le (T := T) hp4
  have hp5 : (tkE T z (tkE T z (tkE T z (tkE T z (tkE T z p))))) ≤ z := (tk_le (T := T) hp4).2.2.1
  have hf5 := fgN_le (T := T) hp5
  refine z_aload_n hC dX7_statement_0 rfl ?_
  refine z_ldcS hC (j := 0) (List.mem_of_getElem? (i := 8) rfl) dX7_statement_1 ?_
  refine wVv hC dX7_statement_3 zlX7_226 (c_isW hS h7 hX hz hT hp hs (j := 0) (by decide) (v := 0) (by rw [hw]; decide)) (hS _) rfl rfl rfl rfl rfl rfl ⟨rfl, rfl⟩ ?_
  refine z_nif_eq hC dX7_statement_6 (tgt := 94) (by decide) (by omega) (fun c6 => ?_) (fun c6 => ?_)
  rotate_left
  · exact absurd c6 (by decide)
  refine z_aload_n hC dX7_statement_94 rfl ?_
  refine z_ldcS hC (j := 1) (List.mem_of_getElem? (i := 9) rfl) dX7_statement_95 ?_
  refine wVv hC dX7_statement_97 zlX7_226 (c_isW hS h7 hX hz hT hp hs (j := 1) (by decide) (v := 0) (by rw [hw]; decide)) (hS _) rfl rfl rfl rfl rfl rfl ⟨rfl, rfl⟩ ?_
  refine z_nif_eq hC dX7_statement_100 (tgt := 112) (by decide) (by omega) (fun c100 => ?_) (fun c100 => ?_)
  rotate_left
  · exact absurd c100 (by decide)
  refine z_aload_n hC dX7_statement_112 rfl ?_
  refine z_ldcS hC (j := 2) (List.mem_of_getElem? (i := 10) rfl) dX7_statement_113 ?_
  refine wVv hC dX7_statement_115 zlX7_226 (c_isW hS h7 hX hz hT hp hs (j := 2) (by decide) (v := 0) (by rw [hw]; decide)) (hS _) rfl rfl rfl rfl rfl rfl ⟨rfl, rfl⟩ ?_
  refine z_nif_eq hC dX7_statement_118 (tgt := 129) (by decide) (by omega) (fun c118 => ?_) (fun c118 => ?_)
  rotate_left
  · exact absurd c118 (by decide)
  refine z_aload_n hC dX7_statement_129 rfl ?_
  refine z_ldcS hC (j := 3) (List.mem_of_getElem? (i := 11) rfl) dX7_statement_130 ?_
  refine wVv hC dX7_statement_132 zlX7_226 (c_isW hS h7 hX hz hT hp hs (j := 3) (by decide) (v := 0) (by rw [hw]; decide)) (hS _) rfl rfl rfl rfl rfl rfl ⟨rfl, rfl⟩ ?_
  refine z_nif_eq hC dX7_statement_135 (tgt := 147) (by decide) (by omega) (fun c135 => ?_) (fun c135 => ?_)
  rotate_left
  · exact absurd c135 (by decide)
  refine z_aload_n hC dX7_statement_147 rfl ?_
  refine z_ldcS hC (j := 4) (List.mem_of_getElem? (i := 12) rfl) dX7_statement_148 ?_
  refine wVv hC dX7_statement_150 zlX7_226 (c_isW hS h7 hX hz hT hp hs (j := 4) (by decide) (v := 0) (by rw [hw]; decide)) (hS _) rfl rfl rfl rfl rfl rfl ⟨rfl, rfl⟩ ?_
  refine z_istore_n hC dX7_statement_153 (lo2 := [_, _]) (Nat.le_of_ble_eq_true rfl) rfl rfl ?_
  refine z_iload_n hC dX7_statement_154 rfl ?_
  refine z_nif_ne hC dX7_statement_155 (tgt := 167) (by decide) (by omega) (fun c155 => ?_) (fun c155 => ?_)
  · exact absurd c155 (by decide)
  refine z_aload_n hC dX7_statement_158 rfl ?_
  refine z_ldcS hC (j := 5) (List.mem_of_getElem? (i := 13) rfl) dX7_statement_159 ?_
  refine wVv hC dX7_statement_161 zlX7_226 (c_isW hS h7 hX hz hT hp hs (j := 5) (by decide) (v := 0) (by rw [hw]; decide)) (hS _) rfl rfl rfl rfl rfl rfl ⟨rfl, rfl⟩ ?_
  refine z_nif_eq hC dX7_statement_164 (tgt := 230) (by decide) (by omega) (fun c164 => ?_) (fun c164 => ?_)
  rotate_left
  · exact absurd c164 (by decide)
  refine z_aload_n hC dX7_statement_230 rfl ?_
  refine z_ldcS hC (j := 6) (List.mem_of_getElem? (i := 14) rfl) dX7_statement_231 ?_
  refine wVv hC dX7_statement_233 zlX7_226 (c_isW hS h7 hX hz hT hp hs (j := 6) (by decide) (v := 1) (by rw [hw]; decide)) (hS _) rfl rfl rfl rfl rfl rfl ⟨rfl, rfl⟩ ?_
  refine z_nif_eq hC dX7_statement_236 (tgt := 310) (by decide) (by omega) (fun c236 => ?_) (fun c236 => ?_)
  · exact absurd c236 (by decide)
  refine z_aload_n hC dX7_statement_239 rfl ?_
  refine z_getN hC dX7_statement_240 (hS _) zfX7_163 rfl hm.1.2.2.1 ?_
  refine z_bipush hC dX7_statement_243 (v := nI 6) rfl ?_
  refine z_nicmp_ge hC dX7_statement_245 (tgt := 310) (by decide) (by omega) (by omega) (fun c245 => ?_) (fun c245 => ?_)
  · exact absurd c245 (by omega)
  refine z_aload_n hC dX7_statement_248 rfl ?_
  refine z_iconst hC dX7_statement_249 (v := nI 0) rfl ?_
  refine z_aload_n hC dX7_statement_250 rfl ?_
  refine z_getN hC dX7_statement_251 (hS _) zfX7_94 rfl hm.1.1 ?_
  refine z_iconst hC dX7_statement_254 (v := nI 1) rfl ?_
  refine z_isub hC dX7_statement_255  ?_
  refine wVv hC dX7_statement_256 zlX7_218 (c_tells_f hS h7 hX hz hT hp hs (by decide) (fun w => hb ⟨w.1, (kP_60 hn14 hf1).mpr w.2⟩)) (hS _) rfl rfl rfl rfl rfl rfl ⟨rfl, rfl⟩ ?_
  refine z_nif_eq hC dX7_statement_259 (tgt := 284) (by decide) (by omega) (fun c259 => ?_) (fun c259 => ?_)
  rotate_left
  · exact absurd c259 (by decide)
  refine z_iconst hC dX7_statement_284 (v := nI 0) rfl ?_
  refine z_zret hC dX7_statement_285 rfl ?_
  exact (hE _ _ ⟨up3_eq _ _ _ _ _, st_any hM hq1 (fun b k j h => (up3_ne (by omega)).trans (mTM_ne (by omega))) (fun _ _ _ _ => rfl)⟩).to (by rfl) rfl rfl rfl

theorem c_st_6f1 (hS : ∀ k, S 0 k = msh 0 k) (h7 : I 0 0 7 = nI z) (hX : ∀ i, i < z → X 0 15 i = nI (T i)) (hz : z ≤ 250) (hT : ∀ i, i < z → T i ≤ 255) {p : Nat} (hp : p ≤ z) (hs : mSt T z p I) (hM : MMe qe (DR D R) I X Y) (hR : ROK R) (hq1 : zQm 1 R0 I X) (hw : wqN T z p = some 6) (hr : R.1 2 < 6) (hc : ∀ i, i < 1 → cK T z R 6 p i) (hb : ¬ cK T z R 6 p 1)  : zCq mX7_statement 5 [zr 0 0] (some (zi (nI 0))) ad S I X Y sz (fun I1 X1 => I1 0 0 34 = nI (tkA T z (tkE T z (tkE T z p))) ∧ MMe qe (DR D R) I1 X1 Y ∧ zQm 1 R0 I1 X1) := by
  refine zgoQ (own := RX7) (k := 1) (by decide +kernel) rfl rfl rfl (fun C hC hnm hE => ?_)
  have hm : zQm 0 R I X := hM.1
  have hn14 := hR.1
  have hn8 := hR.2.1
  have hn6 := hR.2.2.1
  have htk := tk_le (T := T) hp
  have hp1 : (tkE T z p) ≤ z := (tk_le (T := T) hp).2.2.1
  have hf1 := fgN_le (T := T) hp1
  have hp2 : (tkE T z (tkE T z p)) ≤ z := (tk_le (T := T) hp1).2.2.1
  have hf2 := fgN_le (T := T) hp2
  have hp3 : (tkE T z (tkE T z (tkE T z p))) ≤ z := (tk_le (T := T) hp2).2.2.1
  have hf3 := fgN_le (T := T) hp3
  have hp4 : (tkE T z (tkE T z (tkE T z (tkE T z p)))) ≤ z := (tk_le (T := T) hp3).2.2.1
  have hf4 := fgN_le (T := T) hp4
  have hp5 : (tkE T z (tkE T z (tkE T z (tkE T z (tkE T z p))))) ≤ z := (tk_le (T := T) hp4).2.2.1
  have hf5 := fgN_le (T := T) hp5
  refine z_aload_n hC dX7_statement_0 rfl ?_
  refine z_ldcS hC (j := 0) (List.mem_of_getElem? (i := 8) rfl) dX7_statement_1 ?_
  refine wVv hC dX7_statement_3 zlX7_226 (c_isW hS h7 hX hz hT hp hs (j := 0) (by decide) (v := 0) (by rw [hw]; decide)) (hS _) rfl rfl rfl rfl rfl rfl ⟨rfl, rfl⟩ ?_
  refine z_nif_eq hC dX7_statement_6 (tgt := 94) (by decide) (by omega) (fun c6 => ?_) (fun c6 => ?_)
  rotate_left
  · exact absurd c6 (by decide)
  refine z_aload_n hC dX7_statement_94 rfl ?_
  refine z_ldcS hC (j := 1) (List.mem_of_getElem? (i := 9) rfl) dX7_statement_95 ?_
  refine wVv hC dX7_statement_97 zlX7_226 (c_isW hS h7 hX hz hT hp hs (j := 1) (by decide) (v := 0) (by rw [hw]; decide)) (hS _) rfl rfl rfl rfl rfl rfl ⟨rfl, rfl⟩ ?_
  refine z_nif_eq hC dX7_statement_100 (tgt := 112) (by decide) (by omega) (fun c100 => ?_) (fun c100 => ?_)
  rotate_left
  · exact absurd c100 (by decide)
  refine z_aload_n hC dX7_statement_112 rfl ?_
  refine z_ldcS hC (j := 2) (List.mem_of_getElem? (i := 10) rfl) dX7_statement_113 ?_
  refine wVv hC dX7_statement_115 zlX7_226 (c_isW hS h7 hX hz hT hp hs (j := 2) (by decide) (v := 0) (by rw [hw]; decide)) (hS _) rfl rfl rfl rfl rfl rfl ⟨rfl, rfl⟩ ?_
  refine z_nif_eq hC dX7_statement_118 (tgt := 129) (by decide) (by omega) (fun c118 => ?_) (fun c118 => ?_)
  rotate_left
  · exact absurd c118 (by decide)
  refine z_aload_n hC dX7_statement_129 rfl ?_
  refine z_ldcS hC (j := 3) (List.mem_of_getElem? (i := 11) rfl) dX7_statement_130 ?_
  refine wVv hC dX7_statement_132 zlX7_226 (c_isW hS h7 hX hz hT hp hs (j := 3) (by decide) (v := 0) (by rw [hw]; decide)) (hS _) rfl rfl rfl rfl rfl rfl ⟨rfl, rfl⟩ ?_
  refine z_nif_eq hC dX7_statement_135 (tgt := 147) (by decide) (by omega) (fun c135 => ?_) (fun c135 => ?_)
  rotate_left
  · exact absurd c135 (by decide)
  refine z_aload_n hC dX7_statement_147 rfl ?_
  refine z_ldcS hC (j := 4) (List.mem_of_getElem? (i := 12) rfl) dX7_statement_148 ?_
  refine wVv hC dX7_statement_150 zlX7_226 (c_isW hS h7 hX hz hT hp hs (j := 4) (by decide) (v := 0) (by rw [hw]; decide)) (hS _) rfl rfl rfl rfl rfl rfl ⟨rfl, rfl⟩ ?_
  refine z_istore_n hC dX7_statement_153 (lo2 := [_, _]) (Nat.le_of_ble_eq_true rfl) rfl rfl ?_
  refine z_iload_n hC dX7_statement_154 rfl ?_
  refine z_nif_ne hC dX7_statement_155 (tgt := 167) (by decide) (by omega) (fun c155 => ?_) (fun c155 => ?_)
  · exact absurd c155 (by decide)
  refine z_aload_n hC dX7_statement_158 rfl ?_
  refine z_ldcS hC (j := 5) (List.mem_of_getElem? (i := 13) rfl) dX7_statement_159 ?_
  refine wVv hC dX7_statement_161 zlX7_226 (c_isW hS h7 hX hz hT hp hs (j := 5) (by decide) (v := 0) (by rw [hw]; decide)) (hS _) rfl rfl rfl rfl rfl rfl ⟨rfl, rfl⟩ ?_
  refine z_nif_eq hC dX7_statement_164 (tgt := 230) (by decide) (by omega) (fun c164 => ?_) (fun c164 => ?_)
  rotate_left
  · exact absurd c164 (by decide)
  refine z_aload_n hC dX7_statement_230 rfl ?_
  refine z_ldcS hC (j := 6) (List.mem_of_getElem? (i := 14) rfl) dX7_statement_231 ?_
  refine wVv hC dX7_statement_233 zlX7_226 (c_isW hS h7 hX hz hT hp hs (j := 6) (by decide) (v := 1) (by rw [hw]; decide)) (hS _) rfl rfl rfl rfl rfl rfl ⟨rfl, rfl⟩ ?_
  refine z_nif_eq hC dX7_statement_236 (tgt := 310) (by decide) (by omega) (fun c236 => ?_) (fun c236 => ?_)
  · exact absurd c236 (by decide)
  refine z_aload_n hC dX7_statement_239 rfl ?_
  refine z_getN hC dX7_statement_240 (hS _) zfX7_163 rfl hm.1.2.2.1 ?_
  refine z_bipush hC dX7_statement_243 (v := nI 6) rfl ?_
  refine z_nicmp_ge hC dX7_statement_245 (tgt := 310) (by decide) (by omega) (by omega) (fun c245 => ?_) (fun c245 => ?_)
  · exact absurd c245 (by omega)
  refine z_aload_n hC dX7_statement_248 rfl ?_
  refine z_iconst hC dX7_statement_249 (v := nI 0) rfl ?_
  refine z_aload_n hC dX7_statement_250 rfl ?_
  refine z_getN hC dX7_statement_251 (hS _) zfX7_94 rfl hm.1.1 ?_
  refine z_iconst hC dX7_statement_254 (v := nI 1) rfl ?_
  refine z_isub hC dX7_statement_255  ?_
  refine wVv hC dX7_statement_256 zlX7_218 (c_tells_t hS h7 hX hz hT hp hs (by decide) (hc 0 (by decide)).1 ((kP_60 hn14 hf1).mp (hc 0 (by decide)).2)) (hS _) rfl rfl rfl rfl rfl rfl ⟨rfl, rfl⟩ ?_
  refine z_X (X2 := zrow 0 28 (vk T z p) 1 X) (zr_1 (f := vk T z p)) ?_
  refine z_nif_eq hC dX7_statement_259 (tgt := 284) (by decide) (by omega) (fun c259 => ?_) (fun c259 => ?_)
  · exact absurd c259 (by decide)
  refine z_aload_n hC dX7_statement_262 rfl ?_
  refine z_iconst hC dX7_statement_263 (v := nI 1) rfl ?_
  refine z_iconst hC dX7_statement_264 (v := nI 1) rfl ?_
  refine z_bipush hC dX7_statement_265 (v := nI 99) rfl ?_
  refine wVv hC dX7_statement_267 zlX7_214 (c_number_f hS ((mTM_ne (by omega)).trans h7) (fun j hj => (zrow_ne (by omega)).trans (hX j hj)) hz hT hp2 mTM_st (by decide) (by decide) (fun w => hb ⟨w.1, (kP_61 hf2).mpr w.2⟩)) (hS _) rfl rfl rfl rfl rfl rfl ⟨rfl, rfl⟩ ?_
  refine z_nif_eq hC dX7_statement_270 (tgt := 284) (by decide) (by omega) (fun c270 => ?_) (fun c270 => ?_)
  rotate_left
  · exact absurd c270 (by decide)
  refine z_iconst hC dX7_statement_284 (v := nI 0) rfl ?_
  refine z_zret hC dX7_statement_285 rfl ?_
  exact (hE _ _ ⟨up3_eq _ _ _ _ _, st_any hM hq1 (fun b k j h => (up3_ne (by omega)).trans (mTM_ne (by omega))) (fun b k j h => zrow_ne (by omega))⟩).to (by rfl) rfl rfl rfl

theorem c_st_6f2 (hS : ∀ k, S 0 k = msh 0 k) (h7 : I 0 0 7 = nI z) (hX : ∀ i, i < z → X 0 15 i = nI (T i)) (hz : z ≤ 250) (hT : ∀ i, i < z → T i ≤ 255) {p : Nat} (hp : p ≤ z) (hs : mSt T z p I) (hM : MMe qe (DR D R) I X Y) (hR : ROK R) (hq1 : zQm 1 R0 I X) (hw : wqN T z p = some 6) (hr : R.1 2 < 6) (hc : ∀ i, i < 2 → cK T z R 6 p i) (hb : ¬ cK T z R 6 p 2)  : zCq mX7_statement 5 [zr 0 0] (some (zi (nI 0))) ad S I X Y sz (fun I1 X1 => I1 0 0 34 = nI (tkA T z (tkE T z (tkE T z (tkE T z p)))) ∧ MMe qe (DR D R) I1 X1 Y ∧ zQm 1 R0 I1 X1) := by
  refine zgoQ (own := RX7) (k := 1) (by decide +kernel) rfl rfl rfl (fun C hC hnm hE => ?_)
  have hm : zQm 0 R I X := hM.1
  have hn14 := hR.1
  have hn8 := hR.2.1
  have hn6 := hR.2.2.1
  have htk := tk_le (T := T) hp
  have hp1 : (tkE T z p) ≤ z := (tk_le (T := T) hp).2.2.1
  have hf1 := fgN_le (T := T) hp1
  have hp2 : (tkE T z (tkE T z p)) ≤ z := (tk_le (T := T) hp1).2.2.1
  have hf2 := fgN_le (T := T) hp2
  have hp3 : (tkE T z (tkE T z (tkE T z p))) ≤ z := (tk_le (T := T) hp2).2.2.1
  have hf3 := fgN_le (T := T) hp3
  have hp4 : (tkE T z (tkE T z (tkE T z (tkE T z p)))) ≤ z := (tk_le (T := T) hp3).2.2.1
  have hf4 := fgN_le (T := T) hp4
  have hp5 : (tkE T z (tkE T z (tkE T z (tkE T z (tkE T z p))))) ≤ z := (tk_le (T := T) hp4).2.2.1
  have hf5 := fgN_le (T := T) hp5
  refine z_aload_n hC dX7_statement_0 rfl ?_
  refine z_ldcS hC (j := 0) (List.mem_of_getElem? (i := 8) rfl) dX7_statement_1 ?_
  refine wVv hC dX7_statement_3 zlX7_226 (c_isW hS h7 hX hz hT hp hs (j := 0) (by decide) (v := 0) (by rw [hw]; decide)) (hS _) rfl rfl rfl rfl rfl rfl ⟨rfl, rfl⟩ ?_
  refine z_nif_eq hC dX7_statement_6 (tgt := 94) (by decide) (by omega) (fun c6 => ?_) (fun c6 => ?_)
  rotate_left
  · exact absurd c6 (by decide)
  refine z_aload_n hC dX7_statement_94 rfl ?_
  refine z_ldcS hC (j := 1) (List.mem_of_getElem? (i := 9) rfl) dX7_statement_95 ?_
  refine wVv hC dX7_statement_97 zlX7_226 (c_isW hS h7 hX hz hT hp hs (j := 1) (by decide) (v := 0) (by rw [hw]; decide)) (hS _) rfl rfl rfl rfl rfl rfl ⟨rfl, rfl⟩ ?_
  refine z_nif_eq hC dX7_statement_100 (tgt := 112) (by decide) (by omega) (fun c100 => ?_) (fun c100 => ?_)
  rotate_left
  · exact absurd c100 (by decide)
  refine z_aload_n hC dX7_statement_112 rfl ?_
  refine z_ldcS hC (j := 2) (List.mem_of_getElem? (i := 10) rfl) dX7_statement_113 ?_
  refine wVv hC dX7_statement_115 zlX7_226 (c_isW hS h7 hX hz hT hp hs (j := 2) (by decide) (v := 0) (by rw [hw]; decide)) (hS _) rfl rfl rfl rfl rfl rfl ⟨rfl, rfl⟩ ?_
  refine z_nif_eq hC dX7_statement_118 (tgt := 129) (by decide) (by omega) (fun c118 => ?_) (fun c118 => ?_)
  rotate_left
  · exact absurd c118 (by decide)
  refine z_aload_n hC dX7_statement_129 rfl ?_
  refine z_ldcS hC (j := 3) (List.mem_of_getElem? (i := 11) rfl) dX7_statement_130 ?_
  refine wVv hC dX7_statement_132 zlX7_226 (c_isW hS h7 hX hz hT hp hs (j := 3) (by decide) (v := 0) (by rw [hw]; decide)) (hS _) rfl rfl rfl rfl rfl rfl ⟨rfl, rfl⟩ ?_
  refine z_nif_eq hC dX7_statement_135 (tgt := 147) (by decide) (by omega) (fun c135 => ?_) (fun c135 => ?_)
  rotate_left
  · exact absurd c135 (by decide)
  refine z_aload_n hC dX7_statement_147 rfl ?_
  refine z_ldcS hC (j := 4) (List.mem_of_getElem? (i := 12) rfl) dX7_statement_148 ?_
  refine wVv hC dX7_statement_150 zlX7_226 (c_isW hS h7 hX hz hT hp hs (j := 4) (by decide) (v := 0) (by rw [hw]; decide)) (hS _) rfl rfl rfl rfl rfl rfl ⟨rfl, rfl⟩ ?_
  refine z_istore_n hC dX7_statement_153 (lo2 := [_, _]) (Nat.le_of_ble_eq_true rfl) rfl rfl ?_
  refine z_iload_n hC dX7_statement_154 rfl ?_
  refine z_nif_ne hC dX7_statement_155 (tgt := 167) (by decide) (by omega) (fun c155 => ?_) (fun c155 => ?_)
  · exact absurd c155 (by decide)
  refine z_aload_n hC dX7_statement_158 rfl ?_
  refine z_ldcS hC (j := 5) (List.mem_of_getElem? (i := 13) rfl) dX7_statement_159 ?_
  refine wVv hC dX7_statement_161 zlX7_226 (c_isW hS h7 hX hz hT hp hs (j := 5) (by decide) (v := 0) (by rw [hw]; decide)) (hS _) rfl rfl rfl rfl rfl rfl ⟨rfl, rfl⟩ ?_
  refine z_nif_eq hC dX7_statement_164 (tgt := 230) (by decide) (by omega) (fun c164 => ?_) (fun c164 => ?_)
  rotate_left
  · exact absurd c164 (by decide)
  refine z_aload_n hC dX7_statement_230 rfl ?_
  refine z_ldcS hC (j := 6) (List.mem_of_getElem? (i := 14) rfl) dX7_statement_231 ?_
  refine wVv hC dX7_statement_233 zlX7_226 (c_isW hS h7 hX hz hT hp hs (j := 6) (by decide) (v := 1) (by rw [hw]; decide)) (hS _) rfl rfl rfl rfl rfl rfl ⟨rfl, rfl⟩ ?_
  refine z_nif_eq hC dX7_statement_236 (tgt := 310) (by decide) (by omega) (fun c236 => ?_) (fun c236 => ?_)
  · exact absurd c236 (by decide)
  refine z_aload_n hC dX7_statement_239 rfl ?_
  refine z_getN hC dX7_statement_240 (hS _) zfX7_163 rfl hm.1.2.2.1 ?_
  refine z_bipush hC dX7_statement_243 (v := nI 6) rfl ?_
  refine z_nicmp_ge hC dX7_statement_245 (tgt := 310) (by decide) (by omega) (by omega) (fun c245 => ?_) (fun c245 => ?_)
  · exact absurd c245 (by omega)
  refine z_aload_n hC dX7_statement_248 rfl ?_
  refine z_iconst hC dX7_statement_249 (v := nI 0) rfl ?_
  refine z_aload_n hC dX7_statement_250 rfl ?_
  refine z_getN hC dX7_statement_251 (hS _) zfX7_94 rfl hm.1.1 ?_
  refine z_iconst hC dX7_statement_254 (v := nI 1) rfl ?_
  refine z_isub hC dX7_statement_255  ?_
  refine wVv hC dX7_statement_256 zlX7_218 (c_tells_t hS h7 hX hz hT hp hs (by decide) (hc 0 (by decide)).1 ((kP_60 hn14 hf1).mp (hc 0 (by decide)).2)) (hS _) rfl rfl rfl rfl rfl rfl ⟨rfl, rfl⟩ ?_
  refine z_X (X2 := zrow 0 28 (vk T z p) 1 X) (zr_1 (f := vk T z p)) ?_
  refine z_nif_eq hC dX7_statement_259 (tgt := 284) (by decide) (by omega) (fun c259 => ?_) (fun c259 => ?_)
  · exact absurd c259 (by decide)
  refine z_aload_n hC dX7_statement_262 rfl ?_
  refine z_iconst hC dX7_statement_263 (v := nI 1) rfl ?_
  refine z_iconst hC dX7_statement_264 (v := nI 1) rfl ?_
  refine z_bipush hC dX7_statement_265 (v := nI 99) rfl ?_
  refine wVv hC dX7_statement_267 zlX7_214 (c_number_t hS ((mTM_ne (by omega)).trans h7) (fun j hj => (zrow_ne (by omega)).trans (hX j hj)) hz hT hp2 mTM_st (by decide) (by decide) (hc 1 (by decide)).1 ((kP_61 hf2).mp (hc 1 (by decide)).2)) (hS _) rfl rfl rfl rfl rfl rfl ⟨rfl, rfl⟩ ?_
  rw [mTM_2]
  refine z_X (X2 := zrow 0 28 (vk T z p) 2 X) (zrow_s (k := 1) (f := vk T z p)) ?_
  refine z_nif_eq hC dX7_statement_270 (tgt := 284) (by decide) (by omega) (fun c270 => ?_) (fun c270 => ?_)
  · exact absurd c270 (by decide)
  refine z_aload_n hC dX7_statement_273 rfl ?_
  refine z_iconst hC dX7_statement_274 (v := nI 2) rfl ?_
  refine z_iconst hC dX7_statement_275 (v := nI 0) rfl ?_
  refine z_bipush hC dX7_statement_276 (v := nI 100) rfl ?_
  refine wVv hC dX7_statement_278 zlX7_214 (c_number_f hS ((mTM_ne (by omega)).trans h7) (fun j hj => (zrow_ne (by omega)).trans (hX j hj)) hz hT hp3 mTM_st (by decide) (by decide) (fun w => hb ⟨w.1, (kP_62 hf3).mpr w.2⟩)) (hS _) rfl rfl rfl rfl rfl rfl ⟨rfl, rfl⟩ ?_
  refine z_nif_ne hC dX7_statement_281 (tgt := 286) (by decide) (by omega) (fun c281 => ?_) (fun c281 => ?_)
  · exact absurd c281 (by decide)
  refine z_iconst hC dX7_statement_284 (v := nI 0) rfl ?_
  refine z_zret hC dX7_statement_285 rfl ?_
  exact (hE _ _ ⟨up3_eq _ _ _ _ _, st_any hM hq1 (fun b k j h => (up3_ne (by omega)).trans (mTM_ne (by omega))) (fun b k j h => zrow_ne (by omega))⟩).to (by rfl) rfl rfl rfl

theorem c_st_7t (hS : ∀ k, S 0 k = msh 0 k) (h7 : I 0 0 7 = nI z) (hX : ∀ i, i < z → X 0 15 i = nI (T i)) (hz : z ≤ 250) (hT : ∀ i, i < z → T i ≤ 255) {p : Nat} (hp : p ≤ z) (hs : mSt T z p I) (hM : MMe qe (DR D R) I X Y) (hR : ROK R) (hq1 : zQm 1 R0 I X) (hw : wqN T z p = some 7) (hc : ∀ i, i < 2 → cK T z R 7 p i)  : zCq mX7_statement 5 [zr 0 0] (some (zi (nI 1))) ad S I X Y sz (fun I1 X1 => mSt T z (tkE T z (tkE T z (tkE T z p))) I1 ∧ MMe qe (DR D (cyR R 7 (nmK T z p 2))) I1 X1 Y ∧ zQm 1 R0 I1 X1 ∧ I1 0 0 36 = I 0 0 36) := by
  refine zgoQ (own := RX7) (k := 1) (by decide +kernel) rfl rfl rfl (fun C hC hnm hE => ?_)
  have hm : zQm 0 R I X := hM.1
  have hn14 := hR.1
  have hn8 := hR.2.1
  have hn6 := hR.2.2.1
  have htk := tk_le (T := T) hp
  have hp1 : (tkE T z p) ≤ z := (tk_le (T := T) hp).2.2.1
  have hf1 := fgN_le (T := T) hp1
  have hp2 : (tkE T z (tkE T z p)) ≤ z := (tk_le (T := T) hp1).2.2.1
  have hf2 := fgN_le (T := T) hp2
  have hp3 : (tkE T z (tkE T z (tkE T z p))) ≤ z := (tk_le (T := T) hp2).2.2.1
  have hf3 := fgN_le (T := T) hp3
  have hp4 : (tkE T z (tkE T z (tkE T z (tkE T z p)))) ≤ z := (tk_le (T := T) hp3).2.2.1
  have hf4 := fgN_le (T := T) hp4
  have hp5 : (tkE T z (tkE T z (tkE T z (tkE T z (tkE T z p))))) ≤ z := (tk_le (T := T) hp4).2.2.1
  have hf5 := fgN_le (T := T) hp5
  have hv0 := (tkV_70).mp (hc 0 (by decide)).2
  have hv1 := (tkV_71).mp (hc 1 (by decide)).2
  have hst : MMe qe (DR D R) (mTM T z I (tkE T z (tkE T z (tkE T z p)))) (zrow 0 28 (vk T z p) 2 X) Y ∧ zQm 1 R0 (mTM T z I (tkE T z (tkE T z (tkE T z p)))) (zrow 0 28 (vk T z p) 2 X) := st_any hM hq1 (fun b k j h => mTM_ne (by omega)) (fun b k j h => zrow_ne (by omega))
  have hmn : zQm 0 R (mTM T z I (tkE T z (tkE T z (tkE T z p)))) (zrow 0 28 (vk T z p) 2 X) := hst.1.1
  refine z_aload_n hC dX7_statement_0 rfl ?_
  refine z_ldcS hC (j := 0) (List.mem_of_getElem? (i := 8) rfl) dX7_statement_1 ?_
  refine wVv hC dX7_statement_3 zlX7_226 (c_isW hS h7 hX hz hT hp hs (j := 0) (by decide) (v := 0) (by rw [hw]; decide)) (hS _) rfl rfl rfl rfl rfl rfl ⟨rfl, rfl⟩ ?_
  refine z_nif_eq hC dX7_statement_6 (tgt := 94) (by decide) (by omega) (fun c6 => ?_) (fun c6 => ?_)
  rotate_left
  · exact absurd c6 (by decide)
  refine z_aload_n hC dX7_statement_94 rfl ?_
  refine z_ldcS hC (j := 1) (List.mem_of_getElem? (i := 9) rfl) dX7_statement_95 ?_
  refine wVv hC dX7_statement_97 zlX7_226 (c_isW hS h7 hX hz hT hp hs (j := 1) (by decide) (v := 0) (by rw [hw]; decide)) (hS _) rfl rfl rfl rfl rfl rfl ⟨rfl, rfl⟩ ?_
  refine z_nif_eq hC dX7_statement_100 (tgt := 112) (by decide) (by omega) (fun c100 => ?_) (fun c100 => ?_)
  rotate_left
  · exact absurd c100 (by decide)
  refine z_aload_n hC dX7_statement_112 rfl ?_
  refine z_ldcS hC (j := 2) (List.mem_of_getElem? (i := 10) rfl) dX7_statement_113 ?_
  refine wVv hC dX7_statement_115 zlX7_226 (c_isW hS h7 hX hz hT hp hs (j := 2) (by decide) (v := 0) (by rw [hw]; decide)) (hS _) rfl rfl rfl rfl rfl rfl ⟨rfl, rfl⟩ ?_
  refine z_nif_eq hC dX7_statement_118 (tgt := 129) (by decide) (by omega) (fun c118 => ?_) (fun c118 => ?_)
  rotate_left
  · exact absurd c118 (by decide)
  refine z_aload_n hC dX7_statement_129 rfl ?_
  refine z_ldcS hC (j := 3) (List.mem_of_getElem? (i := 11) rfl) dX7_statement_130 ?_
  refine wVv hC dX7_statement_132 zlX7_226 (c_isW hS h7 hX hz hT hp hs (j := 3) (by decide) (v := 0) (by rw [hw]; decide)) (hS _) rfl rfl rfl rfl rfl rfl ⟨rfl, rfl⟩ ?_
  refine z_nif_eq hC dX7_statement_135 (tgt := 147) (by decide) (by omega) (fun c135 => ?_) (fun c135 => ?_)
  rotate_left
  · exact absurd c135 (by decide)
  refine z_aload_n hC dX7_statement_147 rfl ?_
  refine z_ldcS hC (j := 4) (List.mem_of_getElem? (i := 12) rfl) dX7_statement_148 ?_
  refine wVv hC dX7_statement_150 zlX7_226 (c_isW hS h7 hX hz hT hp hs (j := 4) (by decide) (v := 0) (by rw [hw]; decide)) (hS _) rfl rfl rfl rfl rfl rfl ⟨rfl, rfl⟩ ?_
  refine z_istore_n hC dX7_statement_153 (lo2 := [_, _]) (Nat.le_of_ble_eq_true rfl) rfl rfl ?_
  refine z_iload_n hC dX7_statement_154 rfl ?_
  refine z_nif_ne hC dX7_statement_155 (tgt := 167) (by decide) (by omega) (fun c155 => ?_) (fun c155 => ?_)
  · exact absurd c155 (by decide)
  refine z_aload_n hC dX7_statement_158 rfl ?_
  refine z_ldcS hC (j := 5) (List.mem_of_getElem? (i := 13) rfl) dX7_statement_159 ?_
  refine wVv hC dX7_statement_161 zlX7_226 (c_isW hS h7 hX hz hT hp hs (j := 5) (by decide) (v := 0) (by rw [hw]; decide)) (hS _) rfl rfl rfl rfl rfl rfl ⟨rfl, rfl⟩ ?_
  refine z_nif_eq hC dX7_statement_164 (tgt := 230) (by decide) (by omega) (fun c164 => ?_) (fun c164 => ?_)
  rotate_left
  · exact absurd c164 (by decide)
  refine z_aload_n hC dX7_statement_230 rfl ?_
  refine z_ldcS hC (j := 6) (List.mem_of_getElem? (i := 14) rfl) dX7_statement_231 ?_
  refine wVv hC dX7_statement_233 zlX7_226 (c_isW hS h7 hX hz hT hp hs (j := 6) (by decide) (v := 0) (by rw [hw]; decide)) (hS _) rfl rfl rfl rfl rfl rfl ⟨rfl, rfl⟩ ?_
  refine z_nif_eq hC dX7_statement_236 (tgt := 310) (by decide) (by omega) (fun c236 => ?_) (fun c236 => ?_)
  rotate_left
  · exact absurd c236 (by decide)
  refine z_aload_n hC dX7_statement_310 rfl ?_
  refine z_ldcS hC (j := 7) (List.mem_of_getElem? (i := 15) rfl) dX7_statement_311 ?_
  refine wVv hC dX7_statement_313 zlX7_226 (c_isW hS h7 hX hz hT hp hs (j := 7) (by decide) (v := 1) (by rw [hw]; decide)) (hS _) rfl rfl rfl rfl rfl rfl ⟨rfl, rfl⟩ ?_
  refine z_nif_eq hC dX7_statement_316 (tgt := 365) (by decide) (by omega) (fun c316 => ?_) (fun c316 => ?_)
  · exact absurd c316 (by decide)
  refine z_aload_n hC dX7_statement_319 rfl ?_
  refine z_iconst hC dX7_statement_320 (v := nI 0) rfl ?_
  refine z_aload_n hC dX7_statement_321 rfl ?_
  refine z_getN hC dX7_statement_322 (hS _) zfX7_94 rfl hm.1.1 ?_
  refine z_iconst hC dX7_statement_325 (v := nI 1) rfl ?_
  refine z_isub hC dX7_statement_326  ?_
  refine wVv hC dX7_statement_327 zlX7_218 (c_tells_t hS h7 hX hz hT hp hs (by decide) (hc 0 (by decide)).1 ((kP_70 hn14 hf1).mp (hc 0 (by decide)).2)) (hS _) rfl rfl rfl rfl rfl rfl ⟨rfl, rfl⟩ ?_
  refine z_X (X2 := zrow 0 28 (vk T z p) 1 X) (zr_1 (f := vk T z p)) ?_
  refine z_nif_eq hC dX7_statement_330 (tgt := 343) (by decide) (by omega) (fun c330 => ?_) (fun c330 => ?_)
  · exact absurd c330 (by decide)
  refine z_aload_n hC dX7_statement_333 rfl ?_
  refine z_iconst hC dX7_statement_334 (v := nI 1) rfl ?_
  refine z_iconst hC dX7_statement_335 (v := nI 0) rfl ?_
  refine z_iconst hC dX7_statement_336 (v := nI 2) rfl ?_
  refine wVv hC dX7_statement_337 zlX7_214 (c_number_t hS ((mTM_ne (by omega)).trans h7) (fun j hj => (zrow_ne (by omega)).trans (hX j hj)) hz hT hp2 mTM_st (by decide) (by decide) (hc 1 (by decide)).1 ((kP_71 hf2).mp (hc 1 (by decide)).2)) (hS _) rfl rfl rfl rfl rfl rfl ⟨rfl, rfl⟩ ?_
  rw [mTM_2]
  refine z_X (X2 := zrow 0 28 (vk T z p) 2 X) (zrow_s (k := 1) (f := vk T z p)) ?_
  refine z_nif_ne hC dX7_statement_340 (tgt := 345) (by decide) (by omega) (fun c340 => ?_) (fun c340 => ?_)
  rotate_left
  · exact absurd c340 (by decide)
  refine z_aload_n hC dX7_statement_345 rfl ?_
  refine z_aload_n hC dX7_statement_346 rfl ?_
  refine z_getR hC dX7_statement_347 (hS _) zfX7_80 rfl ?_
  refine z_iconst hC dX7_statement_350 (v := nI 0) rfl ?_
  refine z_naldN hC dX7_statement_351 (hS _) (by omega) rfl (zrow_get (f := vk T z p) (show 0 < 2 by decide)) ?_
  refine z_aload_n hC dX7_statement_352 rfl ?_
  refine z_getR hC dX7_statement_353 (hS _) zfX7_80 rfl ?_
  refine z_iconst hC dX7_statement_356 (v := nI 1) rfl ?_
  refine z_naldN hC dX7_statement_357 (hS _) (by omega) rfl (zrow_get (f := vk T z p) (show 1 < 2 by decide)) ?_
  refine z_iconst hC dX7_statement_358 (v := nI 1) rfl ?_
  refine z_nadd hC dX7_statement_359  ?_
  refine wV0 hC dX7_statement_360 zlX7_244 (c_X7_misses hS hmn hR (i := vk T z p 0) (l := vk T z p 1 + 1) hv0 (by omega) (by omega)) (hS _) rfl rfl rfl rfl rfl rfl ⟨rfl, rfl⟩ ?_
  refine z_iconst hC dX7_statement_363 (v := nI 1) rfl ?_
  refine z_zret hC dX7_statement_364 rfl ?_
  exact (hE _ _ (st_fin hst (show zQm 0 (cyR R 7 (nmK T z p 2)) _ _ from hmn.miss) (fun b k j h => rfl) (fun b k j h => up3_ne (by omega)) mTM_st (mTM_ne (by omega)))).to (by rfl) rfl rfl rfl

theorem c_st_7f0 (hS : ∀ k, S 0 k = msh 0 k) (h7 : I 0 0 7 = nI z) (hX : ∀ i, i < z → X 0 15 i = nI (T i)) (hz : z ≤ 250) (hT : ∀ i, i < z → T i ≤ 255) {p : Nat} (hp : p ≤ z) (hs : mSt T z p I) (hM : MMe qe (DR D R) I X Y) (hR : ROK R) (hq1 : zQm 1 R0 I X) (hw : wqN T z p = some 7) (hc : ∀ i, i < 0 → cK T z R 7 p i) (hb : ¬ cK T z R 7 p 0)  : zCq mX7_statement 5 [zr 0 0] (some (zi (nI 0))) ad S I X Y sz (fun I1 X1 => I1 0 0 34 = nI (tkA T z (tkE T z p)) ∧ MMe qe (DR D R) I1 X1 Y ∧ zQm 1 R0 I1 X1) := by
  refine zgoQ (own := RX7) (k := 1) (by decide +kernel) rfl rfl rfl (fun C hC hnm hE => ?_)
  have hm : zQm 0 R I X := hM.1
  have hn14 := hR.1
  have hn8 := hR.2.1
  have hn6 := hR.2.2.1
  have htk := tk_le (T := T) hp
  have hp1 : (tkE T z p) ≤ z := (tk_le (T := T) hp).2.2.1
  have hf1 := fgN_le (T := T) hp1
  have hp2 : (tkE T z (tkE T z p)) ≤ z := (tk_le (T := T) hp1).2.2.1
  have hf2 := fgN_le (T := T) hp2
  have hp3 : (tkE T z (tkE T z (tkE T z p))) ≤ z := (tk_le (T := T) hp2).2.2.1
  have hf3 := fgN_le (T := T) hp3
  have hp4 : (tkE T z (tkE T z (tkE T z (tkE T z p)))) ≤ z := (tk_le (T := T) hp3).2.2.1
  have hf4 := fgN_le (T := T) hp4
  have hp5 : (tkE T z (tkE T z (tkE T z (tkE T z (tkE T z p))))) ≤ z := (tk_le (T := T) hp4).2.2.1
  have hf5 := fgN_le (T := T) hp5
  refine z_aload_n hC dX7_statement_0 rfl ?_
  refine z_ldcS hC (j := 0) (List.mem_of_getElem? (i := 8) rfl) dX7_statement_1 ?_
  refine wVv hC dX7_statement_3 zlX7_226 (c_isW hS h7 hX hz hT hp hs (j := 0) (by decide) (v := 0) (by rw [hw]; decide)) (hS _) rfl rfl rfl rfl rfl rfl ⟨rfl, rfl⟩ ?_
  refine z_nif_eq hC dX7_statement_6 (tgt := 94) (by decide) (by omega) (fun c6 => ?_) (fun c6 => ?_)
  rotate_left
  · exact absurd c6 (by decide)
  refine z_aload_n hC dX7_statement_94 rfl ?_
  refine z_ldcS hC (j := 1) (List.mem_of_getElem? (i := 9) rfl) dX7_statement_95 ?_
  refine wVv hC dX7_statement_97 zlX7_226 (c_isW hS h7 hX hz hT hp hs (j := 1) (by decide) (v := 0) (by rw [hw]; decide)) (hS _) rfl rfl rfl rfl rfl rfl ⟨rfl, rfl⟩ ?_
  refine z_nif_eq hC dX7_statement_100 (tgt := 112) (by decide) (by omega) (fun c100 => ?_) (fun c100 => ?_)
  rotate_left
  · exact absurd c100 (by decide)
  refine z_aload_n hC dX7_statement_112 rfl ?_
  refine z_ldcS hC (j := 2) (List.mem_of_getElem? (i := 10) rfl) dX7_statement_113 ?_
  refine wVv hC dX7_statement_115 zlX7_226 (c_isW hS h7 hX hz hT hp hs (j := 2) (by decide) (v := 0) (by rw [hw]; decide)) (hS _) rfl rfl rfl rfl rfl rfl ⟨rfl, rfl⟩ ?_
  refine z_nif_eq hC dX7_statement_118 (tgt := 129) (by decide) (by omega) (fun c118 => ?_) (fun c118 => ?_)
  rotate_left
  · exact absurd c118 (by decide)
  refine z_aload_n hC dX7_statement_129 rfl ?_
  refine z_ldcS hC (j := 3) (List.mem_of_getElem? (i := 11) rfl) dX7_statement_130 ?_
  refine wVv hC dX7_statement_132 zlX7_226 (c_isW hS h7 hX hz hT hp hs (j := 3) (by decide) (v := 0) (by rw [hw]; decide)) (hS _) rfl rfl rfl rfl rfl rfl ⟨rfl, rfl⟩ ?_
  refine z_nif_eq hC dX7_statement_135 (tgt := 147) (by decide) (by omega) (fun c135 => ?_) (fun c135 => ?_)
  rotate_left
  · exact absurd c135 (by decide)
  refine z_aload_n hC dX7_statement_147 rfl ?_
  refine z_ldcS hC (j := 4) (List.mem_of_getElem? (i := 12) rfl) dX7_statement_148 ?_
  refine wVv hC dX7_statement_150 zlX7_226 (c_isW hS h7 hX hz hT hp hs (j := 4) (by decide) (v := 0) (by rw [hw]; decide)) (hS _) rfl rfl rfl rfl rfl rfl ⟨rfl, rfl⟩ ?_
  refine z_istore_n hC dX7_statement_153 (lo2 := [_, _]) (Nat.le_of_ble_eq_true rfl) rfl rfl ?_
  refine z_iload_n hC dX7_statement_154 rfl ?_
  refine z_nif_ne hC dX7_statement_155 (tgt := 167) (by decide) (by omega) (fun c155 => ?_) (fun c155 => ?_)
  · exact absurd c155 (by decide)
  refine z_aload_n hC dX7_statement_158 rfl ?_
  refine z_ldcS hC (j := 5) (List.mem_of_getElem? (i := 13) rfl) dX7_statement_159 ?_
  refine wVv hC dX7_statement_161 zlX7_226 (c_isW hS h7 hX hz hT hp hs (j := 5) (by decide) (v := 0) (by rw [hw]; decide)) (hS _) rfl rfl rfl rfl rfl rfl ⟨rfl, rfl⟩ ?_
  refine z_nif_eq hC dX7_statement_164 (tgt := 230) (by decide) (by omega) (fun c164 => ?_) (fun c164 => ?_)
  rotate_left
  · exact absurd c164 (by decide)
  refine z_aload_n hC dX7_statement_230 rfl ?_
  refine z_ldcS hC (j := 6) (List.mem_of_getElem? (i := 14) rfl) dX7_statement_231 ?_
  refine wVv hC dX7_statement_233 zlX7_226 (c_isW hS h7 hX hz hT hp hs (j := 6) (by decide) (v := 0) (by rw [hw]; decide)) (hS _) rfl rfl rfl rfl rfl rfl ⟨rfl, rfl⟩ ?_
  refine z_nif_eq hC dX7_statement_236 (tgt := 310) (by decide) (by omega) (fun c236 => ?_) (fun c236 => ?_)
  rotate_left
  · exact absurd c236 (by decide)
  refine z_aload_n hC dX7_statement_310 rfl ?_
  refine z_ldcS hC (j := 7) (List.mem_of_getElem? (i := 15) rfl) dX7_statement_311 ?_
  refine wVv hC dX7_statement_313 zlX7_226 (c_isW hS h7 hX hz hT hp hs (j := 7) (by decide) (v := 1) (by rw [hw]; decide)) (hS _) rfl rfl rfl rfl rfl rfl ⟨rfl, rfl⟩ ?_
  refine z_nif_eq hC dX7_statement_316 (tgt := 365) (by decide) (by omega) (fun c316 => ?_) (fun c316 => ?_)
  · exact absurd c316 (by decide)
  refine z_aload_n hC dX7_statement_319 rfl ?_
  refine z_iconst hC dX7_statement_320 (v := nI 0) rfl ?_
  refine z_aload_n hC dX7_statement_321 rfl ?_
  refine z_getN hC dX7_statement_322 (hS _) zfX7_94 rfl hm.1.1 ?_
  refine z_iconst hC dX7_statement_325 (v := nI 1) rfl ?_
  refine z_isub hC dX7_statement_326  ?_
  refine wVv hC dX7_statement_327 zlX7_218 (c_tells_f hS h7 hX hz hT hp hs (by decide) (fun w => hb ⟨w.1, (kP_70 hn14 hf1).mpr w.2⟩)) (hS _) rfl rfl rfl rfl rfl rfl ⟨rfl, rfl⟩ ?_
  refine z_nif_eq hC dX7_statement_330 (tgt := 343) (by decide) (by omega) (fun c330 => ?_) (fun c330 => ?_)
  rotate_left
  · exact absurd c330 (by decide)
  refine z_iconst hC dX7_statement_343 (v := nI 0) rfl ?_
  refine z_zret hC dX7_statement_344 rfl ?_
  exact (hE _ _ ⟨up3_eq _ _ _ _ _, st_any hM hq1 (fun b k j h => (up3_ne (by omega)).trans (mTM_ne (by omega))) (fun _ _ _ _ => rfl)⟩).to (by rfl) rfl rfl rfl

theorem c_st_7f1 (hS : ∀ k, S 0 k = msh 0 k) (h7 : I 0 0 7 = nI z) (hX : ∀ i, i < z → X 0 15 i = nI (T i)) (hz : z ≤ 250) (hT : ∀ i, i < z → T i ≤ 255) {p : Nat} (hp : p ≤ z) (hs : mSt T z p I) (hM : MMe qe (DR D R) I X Y) (hR : ROK R) (hq1 : zQm 1 R0 I X) (hw : wqN T z p = some 7) (hc : ∀ i, i < 1 → cK T z R 7 p i) (hb : ¬ cK T z R 7 p 1)  : zCq mX7_statement 5 [zr 0 0] (some (zi (nI 0))) ad S I X Y sz (fun I1 X1 => I1 0 0 34 = nI (tkA T z (tkE T z (tkE T z p))) ∧ MMe qe (DR D R) I1 X1 Y ∧ zQm 1 R0 I1 X1) := by
  refine zgoQ (own := RX7) (k := 1) (by decide +kernel) rfl rfl rfl (fun C hC hnm hE => ?_)
  have hm : zQm 0 R I X := hM.1
  have hn14 := hR.1
  have hn8 := hR.2.1
  have hn6 := hR.2.2.1
  have htk := tk_le (T := T) hp
  have hp1 : (tkE T z p) ≤ z := (tk_le (T := T) hp).2.2.1
  have hf1 := fgN_le (T := T) hp1
  have hp2 : (tkE T z (tkE T z p)) ≤ z := (tk_le (T := T) hp1).2.2.1
  have hf2 := fgN_le (T := T) hp2
  have hp3 : (tkE T z (tkE T z (tkE T z p))) ≤ z := (tk_le (T := T) hp2).2.2.1
  have hf3 := fgN_le (T := T) hp3
  have hp4 : (tkE T z (tkE T z (tkE T z (tkE T z p)))) ≤ z := (tk_le (T := T) hp3).2.2.1
  have hf4 := fgN_le (T := T) hp4
  have hp5 : (tkE T z (tkE T z (tkE T z (tkE T z (tkE T z p))))) ≤ z := (tk_le (T := T) hp4).2.2.1
  have hf5 := fgN_le (T := T) hp5
  refine z_aload_n hC dX7_statement_0 rfl ?_
  refine z_ldcS hC (j := 0) (List.mem_of_getElem? (i := 8) rfl) dX7_statement_1 ?_
  refine wVv hC dX7_statement_3 zlX7_226 (c_isW hS h7 hX hz hT hp hs (j := 0) (by decide) (v := 0) (by rw [hw]; decide)) (hS _) rfl rfl rfl rfl rfl rfl ⟨rfl, rfl⟩ ?_
  refine z_nif_eq hC dX7_statement_6 (tgt := 94) (by decide) (by omega) (fun c6 => ?_) (fun c6 => ?_)
  rotate_left
  · exact absurd c6 (by decide)
  refine z_aload_n hC dX7_statement_94 rfl ?_
  refine z_ldcS hC (j := 1) (List.mem_of_getElem? (i := 9) rfl) dX7_statement_95 ?_
  refine wVv hC dX7_statement_97 zlX7_226 (c_isW hS h7 hX hz hT hp hs (j := 1) (by decide) (v := 0) (by rw [hw]; decide)) (hS _) rfl rfl rfl rfl rfl rfl ⟨rfl, rfl⟩ ?_
  refine z_nif_eq hC dX7_statement_100 (tgt := 112) (by decide) (by omega) (fun c100 => ?_) (fun c100 => ?_)
  rotate_left
  · exact absurd c100 (by decide)
  refine z_aload_n hC dX7_statement_112 rfl ?_
  refine z_ldcS hC (j := 2) (List.mem_of_getElem? (i := 10) rfl) dX7_statement_113 ?_
  refine wVv hC dX7_statement_115 zlX7_226 (c_isW hS h7 hX hz hT hp hs (j := 2) (by decide) (v := 0) (by rw [hw]; decide)) (hS _) rfl rfl rfl rfl rfl rfl ⟨rfl, rfl⟩ ?_
  refine z_nif_eq hC dX7_statement_118 (tgt := 129) (by decide) (by omega) (fun c118 => ?_) (fun c118 => ?_)
  rotate_left
  · exact absurd c118 (by decide)
  refine z_aload_n hC dX7_statement_129 rfl ?_
  refine z_ldcS hC (j := 3) (List.mem_of_getElem? (i := 11) rfl) dX7_statement_130 ?_
  refine wVv hC dX7_statement_132 zlX7_226 (c_isW hS h7 hX hz hT hp hs (j := 3) (by decide) (v := 0) (by rw [hw]; decide)) (hS _) rfl rfl rfl rfl rfl rfl ⟨rfl, rfl⟩ ?_
  refine z_nif_eq hC dX7_statement_135 (tgt := 147) (by decide) (by omega) (fun c135 => ?_) (fun c135 => ?_)
  rotate_left
  · exact absurd c135 (by decide)
  refine z_aload_n hC dX7_statement_147 rfl ?_
  refine z_ldcS hC (j := 4) (List.mem_of_getElem? (i := 12) rfl) dX7_statement_148 ?_
  refine wVv hC dX7_statement_150 zlX7_226 (c_isW hS h7 hX hz hT hp hs (j := 4) (by decide) (v := 0) (by rw [hw]; decide)) (hS _) rfl rfl rfl rfl rfl rfl ⟨rfl, rfl⟩ ?_
  refine z_istore_n hC dX7_statement_153 (lo2 := [_, _]) (Nat.le_of_ble_eq_true rfl) rfl rfl ?_
  refine z_iload_n hC dX7_statement_154 rfl ?_
  refine z_nif_ne hC dX7_statement_155 (tgt := 167) (by decide) (by omega) (fun c155 => ?_) (fun c155 => ?_)
  · exact absurd c155 (by decide)
  refine z_aload_n hC dX7_statement_158 rfl ?_
  refine z_ldcS hC (j := 5) (List.mem_of_getElem? (i := 13) rfl) dX7_statement_159 ?_
  refine wVv hC dX7_statement_161 zlX7_226 (c_isW hS h7 hX hz hT hp hs (j := 5) (by decide) (v := 0) (by rw [hw]; decide)) (hS _) rfl rfl rfl rfl rfl rfl ⟨rfl, rfl⟩ ?_
  refine z_nif_eq hC dX7_statement_164 (tgt := 230) (by decide) (by omega) (fun c164 => ?_) (fun c164 => ?_)
  rotate_left
  · exact absurd c164 (by decide)
  refine z_aload_n hC dX7_statement_230 rfl ?_
  refine z_ldcS hC (j := 6) (List.mem_of_getElem? (i := 14) rfl) dX7_statement_231 ?_
  refine wVv hC dX7_statement_233 zlX7_226 (c_isW hS h7 hX hz hT hp hs (j := 6) (by decide) (v := 0) (by rw [hw]; decide)) (hS _) rfl rfl rfl rfl rfl rfl ⟨rfl, rfl⟩ ?_
  refine z_nif_eq hC dX7_statement_236 (tgt := 310) (by decide) (by omega) (fun c236 => ?_) (fun c236 => ?_)
  rotate_left
  · exact absurd c236 (by decide)
  refine z_aload_n hC dX7_statement_310 rfl ?_
  refine z_ldcS hC (j := 7) (List.mem_of_getElem? (i := 15) rfl) dX7_statement_311 ?_
  refine wVv hC dX7_statement_313 zlX7_226 (c_isW hS h7 hX hz hT hp hs (j := 7) (by decide) (v := 1) (by rw [hw]; decide)) (hS _) rfl rfl rfl rfl rfl rfl ⟨rfl, rfl⟩ ?_
  refine z_nif_eq hC dX7_statement_316 (tgt := 365) (by decide) (by omega) (fun c316 => ?_) (fun c316 => ?_)
  · exact absurd c316 (by decide)
  refine z_aload_n hC dX7_statement_319 rfl ?_
  refine z_iconst hC dX7_statement_320 (v := nI 0) rfl ?_
  refine z_aload_n hC dX7_statement_321 rfl ?_
  refine z_getN hC dX7_statement_322 (hS _) zfX7_94 rfl hm.1.1 ?_
  refine z_iconst hC dX7_statement_325 (v := nI 1) rfl ?_
  refine z_isub hC dX7_statement_326  ?_
  refine wVv hC dX7_statement_327 zlX7_218 (c_tells_t hS h7 hX hz hT hp hs (by decide) (hc 0 (by decide)).1 ((kP_70 hn14 hf1).mp (hc 0 (by decide)).2)) (hS _) rfl rfl rfl rfl rfl rfl ⟨rfl, rfl⟩ ?_
  refine z_X (X2 := zrow 0 28 (vk T z p) 1 X) (zr_1 (f := vk T z p)) ?_
  refine z_nif_eq hC dX7_statement_330 (tgt := 343) (by decide) (by omega) (fun c330 => ?_) (fun c330 => ?_)
  · exact absurd c330 (by decide)
  refine z_aload_n hC dX7_statement_333 rfl ?_
  refine z_iconst hC dX7_statement_334 (v := nI 1) rfl ?_
  refine z_iconst hC dX7_statement_335 (v := nI 0) rfl ?_
  refine z_iconst hC dX7_statement_336 (v := nI 2) rfl ?_
  refine wVv hC dX7_statement_337 zlX7_214 (c_number_f hS ((mTM_ne (by omega)).trans h7) (fun j hj => (zrow_ne (by omega)).trans (hX j hj)) hz hT hp2 mTM_st (by decide) (by decide) (fun w => hb ⟨w.1, (kP_71 hf2).mpr w.2⟩)) (hS _) rfl rfl rfl rfl rfl rfl ⟨rfl, rfl⟩ ?_
  refine z_nif_ne hC dX7_statement_340 (tgt := 345) (by decide) (by omega) (fun c340 => ?_) (fun c340 => ?_)
  · exact absurd c340 (by decide)
  refine z_iconst hC dX7_statement_343 (v := nI 0) rfl ?_
  refine z_zret hC dX7_statement_344 rfl ?_
  exact (hE _ _ ⟨up3_eq _ _ _ _ _, st_any hM hq1 (fun b k j h => (up3_ne (by omega)).trans (mTM_ne (by omega))) (fun b k j h => zrow_ne (by omega))⟩).to (by rfl) rfl rfl rfl

end
