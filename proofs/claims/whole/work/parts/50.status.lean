/-! OnTheRoof: status -/
abbrev fullN (h : Nat → Option Nat) : Nat := sumN (fun s => if h s = none then 0 else 1) 8
abbrev lookedN (R : RS) : Nat := sumN (fun i => if R.2.1 4 i = 100 then 0 else 1) (R.1 0)
def statV (D : DS) (k : Nat) : Int32 := if k = 0 then nI (D.1.1 0) else if k = 1 then nI (D.1.1 1) else if k = 2 then nI (D.1.1 3) else if k = 3 then nI (D.1.1 4) else if k = 4 then nI (D.1.1 5) else if k = 5 then nI (sumN (D.1.2.1 2) (D.1.1 0)) else if k = 6 then D.1.2.2.1 else if k = 7 then nI (alN D.1) else if k = 8 then nI D.2.2.1.2 else if k = 9 then D.1.2.2.2 else if k = 10 then nI (fullN D.2.2.2.1.1) else if k = 11 then nI (lookedN D.1) else if k = 17 then nI (D.1.1 2) else -1
def statusS (D : DS) (x : Int32) : Int32 := if iw x 12 16 then D.2.2.2.2 (nn x - 12) else if inB x 18 then statV D (nn x) else -1

section
variable {ad : zA} {S : zSh} {I X : zI} {Y : zY} {sz : Nat} {D : DS}

theorem c_yardsTo0 (hD : ∀ k, S 3 k = dsh k) {R : RS} (hm : zRm 1 R I X) (h0 : R.1 0 = 0) {x : Int32} : zC0 mX1_yardsTo 3 [zr 3 1, zi x] (some (zi (nI 0))) ad S I X Y sz I X Y := by
  refine zgo (own := RX1) (k := 2) (by decide +kernel) rfl rfl rfl (fun C hC hnm hE => ?_)
  refine z_iconst hC dX1_yardsTo_0 (v := nI 0) rfl ?_
  refine z_istore_n hC dX1_yardsTo_1 (lo2 := [_, _, _, _]) (Nat.le_of_ble_eq_true rfl) rfl rfl ?_
  refine z_iconst hC dX1_yardsTo_2 (v := nI 0) rfl ?_
  refine z_istore_n hC dX1_yardsTo_3 (lo2 := [_, _, _, _]) (Nat.le_of_ble_eq_true rfl) rfl rfl ?_
  have loop4 : ∀ (fuel : Nat) (i : Nat), 1 - i < fuel → i = 0 → zL C 4 ad S 0 0 sz I X Y 4 [some (zr 3 1), some (zi x), some (zi (nI 0)), some (zi (nI i))] [] := by
    intro fuel
    induction fuel with
    | zero => intro i hfu; exact absurd hfu (Nat.not_lt_zero _)
    | succ fuel ih =>
      intro i hfu hi0
      refine z_iload_n hC dX1_yardsTo_4 rfl ?_
      refine z_aload_n hC dX1_yardsTo_5 rfl ?_
      refine z_getR hC dX1_yardsTo_6 (hD _) zfX1_14 rfl ?_
      refine z_getN hC dX1_yardsTo_9 (hD _) zfX1_56 rfl hm.1.2.1 ?_
      refine z_nicmp_ge hC dX1_yardsTo_12 (tgt := 38) (by decide) (by omega) (by omega) (fun c12 => ?_) (fun c12 => ?_)
      rotate_left
      · exfalso; omega
      refine z_iload_n hC dX1_yardsTo_38 rfl ?_
      refine z_iret hC dX1_yardsTo_39 ?_
      exact hE.to (by rfl) rfl rfl rfl
  exact loop4 _ 0 (Nat.lt_succ_self _) rfl

theorem c_yardsAll (hD : ∀ k, S 3 k = dsh k) {R : RS} (hm : zRm 1 R I X) (hR : ROK R) : zC0 mX1_yardsTo 3 [zr 3 1, zi (nI (R.1 0) - nI 1)] (some (zi (nI (sumN (R.2.1 2) (R.1 0))))) ad S I X Y sz I X Y := by
  by_cases h0 : R.1 0 = 0
  · have h := c_yardsTo0 (ad := ad) (Y := Y) (sz := sz) hD hm h0 (x := nI (R.1 0) - nI 1)
    rw [show sumN (R.2.1 2) (R.1 0) = 0 by rw [h0]; rfl]
    exact h
  · have h := c_X1_yardsTo (ad := ad) (Y := Y) (sz := sz) (zRd_1 hD) hm hR (b := R.1 0 - 1) (by omega)
    rw [pk_sub (by omega)]
    rwa [show R.1 0 - 1 + 1 = R.1 0 by omega] at h
theorem e_status_t (hD : ∀ k, S 3 k = dsh k) (hO : DOK D) (hM : DMe D I X Y) {k : Nat} (hk : k < 18) (h7 : ¬ k = 7) (h12 : ¬ iw (nI k) 12 16) : zC0 mX6_status 7 [zr 3 0, zi (nI k)] (some (zi (statV D k))) ad S I X Y sz I X Y := by
  refine zgo (own := RX6) (k := 0) (by decide +kernel) rfl rfl rfl (fun C hC hnm hE => ?_)
  have hm := hM.1
  have hR := hO.1
  have hn14 := hR.1
  have hfs : ∀ s, s < 8 → I 3 (35 + 2 * s) 0 = oI (D.2.2.2.1.1 s) ∧ ∀ q, D.2.2.2.1.1 s = some q → q < 24 := fun s hs => ⟨(hM.2.2.2.2.1 s hs).1, fun q hq => by have := (hO.2.2.2 s hs).2 q hq; omega⟩
  refine z_iload_n hC dX6_status_0 rfl ?_
  refine z_bipush hC dX6_status_1 (v := nI 12) rfl ?_
  refine z_bipush hC dX6_status_3 (v := nI 16) rfl ?_
  refine zSv hC dX6_status_5 zlX6_58 c_X6_isWithin rfl rfl rfl rfl ?_
  refine z_ifb_eq hC dX6_status_8 (tgt := 20) (by decide) (fun c8 => ?_) (fun c8 => ?_)
  rotate_left
  · exact absurd c8 h12
  refine z_iload_n hC dX6_status_20 rfl ?_
  by_cases s21_0 : k = 0
  · refine z_tabK hC dX6_status_21 (v := nI 0) (by rw [s21_0]) rfl rfl (tgt := 108) (by decide) ?_
    refine z_aload_n hC dX6_status_108 rfl ?_
    refine z_getR hC dX6_status_109 (hD _) zfX6_10 rfl ?_
    refine z_getR hC dX6_status_112 (hD _) zfX6_115 rfl ?_
    refine z_getN hC dX6_status_115 (hD _) zfX6_160 rfl hm.1.2.1 ?_
    refine z_iret hC dX6_status_118 ?_
    exact hE.to (by subst s21_0; rfl) rfl rfl rfl
  by_cases s21_1 : k = 1
  · refine z_tabK hC dX6_status_21 (v := nI 1) (by rw [s21_1]) rfl rfl (tgt := 119) (by decide) ?_
    refine z_aload_n hC dX6_status_119 rfl ?_
    refine z_getR hC dX6_status_120 (hD _) zfX6_10 rfl ?_
    refine z_getR hC dX6_status_123 (hD _) zfX6_153 rfl ?_
    refine z_getN hC dX6_status_126 (hD _) zfX6_160 rfl hm.2.1.2.1 ?_
    refine z_iret hC dX6_status_129 ?_
    exact hE.to (by subst s21_1; rfl) rfl rfl rfl
  by_cases s21_2 : k = 2
  · refine z_tabK hC dX6_status_21 (v := nI 2) (by rw [s21_2]) rfl rfl (tgt := 130) (by decide) ?_
    refine z_aload_n hC dX6_status_130 rfl ?_
    refine z_getR hC dX6_status_131 (hD _) zfX6_10 rfl ?_
    refine z_getN hC dX6_status_134 (hD _) zfX6_134 rfl hm.2.2.2.1 ?_
    refine z_iret hC dX6_status_137 ?_
    exact hE.to (by subst s21_2; rfl) rfl rfl rfl
  by_cases s21_3 : k = 3
  · refine z_tabK hC dX6_status_21 (v := nI 3) (by rw [s21_3]) rfl rfl (tgt := 138) (by decide) ?_
    refine z_aload_n hC dX6_status_138 rfl ?_
    refine z_getR hC dX6_status_139 (hD _) zfX6_10 rfl ?_
    refine z_getN hC dX6_status_142 (hD _) zfX6_250 rfl hm.2.2.2.2.1 ?_
    refine z_iret hC dX6_status_145 ?_
    exact hE.to (by subst s21_3; rfl) rfl rfl rfl
  by_cases s21_4 : k = 4
  · refine z_tabK hC dX6_status_21 (v := nI 4) (by rw [s21_4]) rfl rfl (tgt := 146) (by decide) ?_
    refine z_aload_n hC dX6_status_146 rfl ?_
    refine z_getR hC dX6_status_147 (hD _) zfX6_10 rfl ?_
    refine z_getN hC dX6_status_150 (hD _) zfX6_253 rfl hm.2.2.2.2.2.1 ?_
    refine z_iret hC dX6_status_153 ?_
    exact hE.to (by subst s21_4; rfl) rfl rfl rfl
  by_cases s21_5 : k = 5
  · refine z_tabK hC dX6_status_21 (v := nI 5) (by rw [s21_5]) rfl rfl (tgt := 154) (by decide) ?_
    refine z_aload_n hC dX6_status_154 rfl ?_
    refine z_getR hC dX6_status_155 (hD _) zfX6_10 rfl ?_
    refine z_aload_n hC dX6_status_158 rfl ?_
    refine z_getR hC dX6_status_159 (hD _) zfX6_10 rfl ?_
    refine z_getR hC dX6_status_162 (hD _) zfX6_115 rfl ?_
    refine z_getN hC dX6_status_165 (hD _) zfX6_160 rfl hm.1.2.1 ?_
    refine z_iconst hC dX6_status_168 (v := nI 1) rfl ?_
    refine z_isub hC dX6_status_169  ?_
    refine zVv hC dX6_status_170 zlX6_181 (c_yardsAll hD hm hR) (hD _) rfl rfl rfl rfl rfl rfl ?_
    refine z_iret hC dX6_status_173 ?_
    exact hE.to (by subst s21_5; rfl) rfl rfl rfl
  by_cases s21_6 : k = 6
  · refine z_tabK hC dX6_status_21 (v := nI 6) (by rw [s21_6]) rfl rfl (tgt := 174) (by decide) ?_
    refine z_aload_n hC dX6_status_174 rfl ?_
    refine z_getR hC dX6_status_175 (hD _) zfX6_10 rfl ?_
    refine z_getI hC dX6_status_178 (hD _) zfX6_306 rfl ?_
    refine z_iret hC dX6_status_181 ?_
    exact hE.to (by rw [show I 3 1 6 = D.1.2.2.1 from hm.2.2.2.2.2.2.1]; subst s21_6; rfl) rfl rfl rfl
  by_cases s21_7 : k = 7
  · refine z_tabK hC dX6_status_21 (v := nI 7) (by rw [s21_7]) rfl rfl (tgt := 182) (by decide) ?_
    exfalso; exact h7 s21_7
  by_cases s21_8 : k = 8
  · refine z_tabK hC dX6_status_21 (v := nI 8) (by rw [s21_8]) rfl rfl (tgt := 201) (by decide) ?_
    refine z_aload_n hC dX6_status_201 rfl ?_
    refine z_getR hC dX6_status_202 (hD _) zfX6_39 rfl ?_
    refine z_getN hC dX6_status_205 (hD _) zfX6_170 rfl hM.2.2.2.1.1 ?_
    refine z_iret hC dX6_status_208 ?_
    exact hE.to (by subst s21_8; rfl) rfl rfl rfl
  by_cases s21_9 : k = 9
  · refine z_tabK hC dX6_status_21 (v := nI 9) (by rw [s21_9]) rfl rfl (tgt := 209) (by decide) ?_
    refine z_aload_n hC dX6_status_209 rfl ?_
    refine z_getR hC dX6_status_210 (hD _) zfX6_10 rfl ?_
    refine z_getI hC dX6_status_213 (hD _) zfX6_315 rfl ?_
    refine z_iret hC dX6_status_216 ?_
    exact hE.to (by rw [show I 3 1 7 = D.1.2.2.2 from hm.2.2.2.2.2.2.2]; subst s21_9; rfl) rfl rfl rfl
  by_cases s21_10 : k = 10
  · refine z_tabK hC dX6_status_21 (v := nI 10) (by rw [s21_10]) rfl rfl (tgt := 217) (by decide) ?_
    refine z_aload_n hC dX6_status_217 rfl ?_
    refine zVv hC dX6_status_218 zlX6_325 (c_X6_fullShelves hD (hs := D.2.2.2.1.1) hfs) (hD _) rfl rfl rfl rfl rfl rfl ?_
    refine z_iret hC dX6_status_221 ?_
    exact hE.to (by subst s21_10; rfl) rfl rfl rfl
  by_cases s21_11 : k = 11
  · refine z_tabK hC dX6_status_21 (v := nI 11) (by rw [s21_11]) rfl rfl (tgt := 222) (by decide) ?_
    refine z_aload_n hC dX6_status_222 rfl ?_
    refine z_getR hC dX6_status_223 (hD _) zfX6_10 rfl ?_
    refine zVv hC dX6_status_226 zlX6_328 (c_X1_bendsLookedAt (zRd_1 hD) hm hR) (hD _) rfl rfl rfl rfl rfl rfl ?_
    refine z_iret hC dX6_status_229 ?_
    exact hE.to (by subst s21_11; rfl) rfl rfl rfl
  by_cases s21_12 : k = 12
  · refine z_tabK hC dX6_status_21 (v := nI 12) (by rw [s21_12]) rfl rfl (tgt := 241) (by decide) ?_
    exfalso; exact c8 (by rw [s21_12]; decide)
  by_cases s21_13 : k = 13
  · refine z_tabK hC dX6_status_21 (v := nI 13) (by rw [s21_13]) rfl rfl (tgt := 241) (by decide) ?_
    exfalso; exact c8 (by rw [s21_13]; decide)
  by_cases s21_14 : k = 14
  · refine z_tabK hC dX6_status_21 (v := nI 14) (by rw [s21_14]) rfl rfl (tgt := 241) (by decide) ?_
    exfalso; exact c8 (by rw [s21_14]; decide)
  by_cases s21_15 : k = 15
  · refine z_tabK hC dX6_status_21 (v := nI 15) (by rw [s21_15]) rfl rfl (tgt := 241) (by decide) ?_
    exfalso; exact c8 (by rw [s21_15]; decide)
  by_cases s21_16 : k = 16
  · refine z_tabK hC dX6_status_21 (v := nI 16) (by rw [s21_16]) rfl rfl (tgt := 241) (by decide) ?_
    exfalso; exact c8 (by rw [s21_16]; decide)
  by_cases s21_17 : k = 17
  · refine z_tabK hC dX6_status_21 (v := nI 17) (by rw [s21_17]) rfl rfl (tgt := 230) (by decide) ?_
    refine z_aload_n hC dX6_status_230 rfl ?_
    refine z_getR hC dX6_status_231 (hD _) zfX6_10 rfl ?_
    refine z_getR hC dX6_status_234 (hD _) zfX6_184 rfl ?_
    refine z_getN hC dX6_status_237 (hD _) zfX6_160 rfl hm.2.2.1.2.1 ?_
    refine z_iret hC dX6_status_240 ?_
    exact hE.to (by subst s21_17; rfl) rfl rfl rfl
  exfalso; omega

theorem e_status_w (hD : ∀ k, S 3 k = dsh k) (hO : DOK D) (hM : DMe D I X Y)  : zC0 mX6_status 7 [zr 3 0, zi (nI 7)] (some (zi (nI (alN D.1)))) ad S I X Y sz (wgI D.1 (D.1.1 1) I) (wgX D.1 (D.1.1 1) X) Y := by
  refine zgo (own := RX6) (k := 0) (by decide +kernel) rfl rfl rfl (fun C hC hnm hE => ?_)
  have hm := hM.1
  have hR := hO.1
  have hn14 := hR.1
  have hwg := wg_W (s := D.1.1 1) (I := I) (X := X) hR
  have hmg := wg_R (R := D.1) (s := D.1.1 1) (r := 1) (by decide) hm
  have hwb := wbits hwg
  refine z_iload_n hC dX6_status_0 rfl ?_
  refine z_bipush hC dX6_status_1 (v := nI 12) rfl ?_
  refine z_bipush hC dX6_status_3 (v := nI 16) rfl ?_
  refine zSv hC dX6_status_5 zlX6_58 c_X6_isWithin rfl rfl rfl rfl ?_
  refine z_ifb_eq hC dX6_status_8 (tgt := 20) (by decide) (fun c8 => ?_) (fun c8 => ?_)
  rotate_left
  · exact absurd c8 (by decide)
  refine z_iload_n hC dX6_status_20 rfl ?_
  refine z_tabK hC dX6_status_21 (v := nI 7) rfl rfl rfl (tgt := 182) (by decide) ?_
  refine z_aload_n hC dX6_status_182 rfl ?_
  refine z_getR hC dX6_status_183 (hD _) zfX6_25 rfl ?_
  refine z_aload_n hC dX6_status_186 rfl ?_
  refine z_getR hC dX6_status_187 (hD _) zfX6_10 rfl ?_
  refine zV0 hC dX6_status_190 zlX6_194 (c_X5_weigh hD hm hR) (hD _) rfl rfl rfl rfl rfl rfl ?_
  refine z_aload_n hC dX6_status_193 rfl ?_
  refine z_getR hC dX6_status_194 (hD _) zfX6_25 rfl ?_
  refine zVv hC dX6_status_197 zlX6_205 (c_X5_all hD hwg) (hD _) rfl rfl rfl rfl rfl rfl ?_
  refine z_iret hC dX6_status_200 ?_
  exact hE.to (by rfl) rfl rfl rfl

theorem e_status_r (hD : ∀ k, S 3 k = dsh k) (hO : DOK D) (hM : DMe D I X Y) {k : Nat} (h1 : 12 ≤ k) (h2 : k ≤ 16) : zC0 mX6_status 7 [zr 3 0, zi (nI k)] (some (zi (X 3 33 (k - 12)))) ad S I X Y sz I X Y := by
  refine zgo (own := RX6) (k := 0) (by decide +kernel) rfl rfl rfl (fun C hC hnm hE => ?_)
  have hm := hM.1
  have hR := hO.1
  refine z_iload_n hC dX6_status_0 rfl ?_
  refine z_bipush hC dX6_status_1 (v := nI 12) rfl ?_
  refine z_bipush hC dX6_status_3 (v := nI 16) rfl ?_
  refine zSv hC dX6_status_5 zlX6_58 c_X6_isWithin rfl rfl rfl rfl ?_
  refine z_ifb_eq hC dX6_status_8 (tgt := 20) (by decide) (fun c8 => ?_) (fun c8 => ?_)
  · exact absurd c8 (fun z => z (iw_of h1 h2 (by decide)))
  refine z_aload_n hC dX6_status_11 rfl ?_
  refine z_iload_n hC dX6_status_12 rfl ?_
  refine z_bipush hC dX6_status_13 (v := nI 12) rfl ?_
  refine z_nsub hC dX6_status_15 (by omega) ?_
  refine zVv hC dX6_status_16 zlX6_322 (c_X6_refused hD (j := k - 12) (by omega)) (hD _) rfl rfl rfl rfl rfl rfl ?_
  refine z_iret hC dX6_status_19 ?_
  exact hE.to (by rfl) rfl rfl rfl

theorem e_status_f (hD : ∀ k, S 3 k = dsh k) (hO : DOK D) (hM : DMe D I X Y) {x : Int32} (hx : ¬ inB x 18) (h12 : ¬ iw x 12 16) : zC0 mX6_status 7 [zr 3 0, zi x] (some (zi (-1))) ad S I X Y sz I X Y := by
  refine zgo (own := RX6) (k := 0) (by decide +kernel) rfl rfl rfl (fun C hC hnm hE => ?_)
  have hm := hM.1
  have hR := hO.1
  refine z_iload_n hC dX6_status_0 rfl ?_
  refine z_bipush hC dX6_status_1 (v := nI 12) rfl ?_
  refine z_bipush hC dX6_status_3 (v := nI 16) rfl ?_
  refine zSv hC dX6_status_5 zlX6_58 c_X6_isWithin rfl rfl rfl rfl ?_
  refine z_ifb_eq hC dX6_status_8 (tgt := 20) (by decide) (fun c8 => ?_) (fun c8 => ?_)
  rotate_left
  · exact absurd c8 h12
  refine z_iload_n hC dX6_status_20 rfl ?_
  by_cases s21_0 : x = 0
  · refine z_tabK hC dX6_status_21 (v := 0) s21_0 rfl rfl (tgt := 108) (by decide) ?_
    exfalso; rw [s21_0] at hx; exact hx (by decide)
  by_cases s21_1 : x = 1
  · refine z_tabK hC dX6_status_21 (v := 1) s21_1 rfl rfl (tgt := 119) (by decide) ?_
    exfalso; rw [s21_1] at hx; exact hx (by decide)
  by_cases s21_2 : x = 2
  · refine z_tabK hC dX6_status_21 (v := 2) s21_2 rfl rfl (tgt := 130) (by decide) ?_
    exfalso; rw [s21_2] at hx; exact hx (by decide)
  by_cases s21_3 : x = 3
  · refine z_tabK hC dX6_status_21 (v := 3) s21_3 rfl rfl (tgt := 138) (by decide) ?_
    exfalso; rw [s21_3] at hx; exact hx (by decide)
  by_cases s21_4 : x = 4
  · refine z_tabK hC dX6_status_21 (v := 4) s21_4 rfl rfl (tgt := 146) (by decide) ?_
    exfalso; rw [s21_4] at hx; exact hx (by decide)
  by_cases s21_5 : x = 5
  · refine z_tabK hC dX6_status_21 (v := 5) s21_5 rfl rfl (tgt := 154) (by decide) ?_
    exfalso; rw [s21_5] at hx; exact hx (by decide)
  by_cases s21_6 : x = 6
  · refine z_tabK hC dX6_status_21 (v := 6) s21_6 rfl rfl (tgt := 174) (by decide) ?_
    exfalso; rw [s21_6] at hx; exact hx (by decide)
  by_cases s21_7 : x = 7
  · refine z_tabK hC dX6_status_21 (v := 7) s21_7 rfl rfl (tgt := 182) (by decide) ?_
    exfalso; rw [s21_7] at hx; exact hx (by decide)
  by_cases s21_8 : x = 8
  · refine z_tabK hC dX6_status_21 (v := 8) s21_8 rfl rfl (tgt := 201) (by decide) ?_
    exfalso; rw [s21_8] at hx; exact hx (by decide)
  by_cases s21_9 : x = 9
  · refine z_tabK hC dX6_status_21 (v := 9) s21_9 rfl rfl (tgt := 209) (by decide) ?_
    exfalso; rw [s21_9] at hx; exact hx (by decide)
  by_cases s21_10 : x = 10
  · refine z_tabK hC dX6_status_21 (v := 10) s21_10 rfl rfl (tgt := 217) (by decide) ?_
    exfalso; rw [s21_10] at hx; exact hx (by decide)
  by_cases s21_11 : x = 11
  · refine z_tabK hC dX6_status_21 (v := 11) s21_11 rfl rfl (tgt := 222) (by decide) ?_
    exfalso; rw [s21_11] at hx; exact hx (by decide)
  by_cases s21_12 : x = 12
  · refine z_tabK hC dX6_status_21 (v := 12) s21_12 rfl rfl (tgt := 241) (by decide) ?_
    exfalso; rw [s21_12] at hx; exact hx (by decide)
  by_cases s21_13 : x = 13
  · refine z_tabK hC dX6_status_21 (v := 13) s21_13 rfl rfl (tgt := 241) (by decide) ?_
    exfalso; rw [s21_13] at hx; exact hx (by decide)
  by_cases s21_14 : x = 14
  · refine z_tabK hC dX6_status_21 (v := 14) s21_14 rfl rfl (tgt := 241) (by decide) ?_
    exfalso; rw [s21_14] at hx; exact hx (by decide)
  by_cases s21_15 : x = 15
  · refine z_tabK hC dX6_status_21 (v := 15) s21_15 rfl rfl (tgt := 241) (by decide) ?_
    exfalso; rw [s21_15] at hx; exact hx (by decide)
  by_cases s21_16 : x = 16
  · refine z_tabK hC dX6_status_21 (v := 16) s21_16 rfl rfl (tgt := 241) (by decide) ?_
    exfalso; rw [s21_16] at hx; exact hx (by decide)
  by_cases s21_17 : x = 17
  · refine z_tabK hC dX6_status_21 (v := 17) s21_17 rfl rfl (tgt := 230) (by decide) ?_
    exfalso; rw [s21_17] at hx; exact hx (by decide)
  refine z_tableOut hC dX6_status_21 (zsw_out fun k h1 h2 => by
      have hk : k = 0 ∨ k = 1 ∨ k = 2 ∨ k = 3 ∨ k = 4 ∨ k = 5 ∨ k = 6 ∨ k = 7 ∨ k = 8 ∨ k = 9 ∨ k = 10 ∨ k = 11 ∨ k = 12 ∨ k = 13 ∨ k = 14 ∨ k = 15 ∨ k = 16 ∨ k = 17 := by omega
      rcases hk with rfl | rfl | rfl | rfl | rfl | rfl | rfl | rfl | rfl | rfl | rfl | rfl | rfl | rfl | rfl | rfl | rfl | rfl <;> assumption) (tgt := 241) (by decide) ?_
  refine z_iconst hC dX6_status_241 (v := -1) rfl ?_
  refine z_iret hC dX6_status_242 ?_
  exact hE.to (by rfl) rfl rfl rfl

theorem o_status (hD : ∀ k, S 3 k = dsh k) (hO : DOK D) (hM : DMe D I X Y) {x : Int32} : dC mX6_status 7 [zr 3 0, zi x] (some (zi (statusS D x))) D ad S I X Y sz := by
  unfold statusS
  by_cases h : iw x 12 16
  · rw [if_pos h]
    obtain ⟨k, h1, h2, rfl, e1⟩ := iw_e h (by decide) (by decide)
    rw [e1, ← hM.2.2.2.2.2.1 (k - 12) (by omega)]
    exact ⟨_, _, _, hM, e_status_r hD hO hM h1 h2⟩
  · rw [if_neg h]
    by_cases hx : inB x 18
    · rw [if_pos hx]
      obtain ⟨k, hk, rfl, e1⟩ := inB_e hx (by decide)
      rw [e1]
      by_cases h7 : k = 7
      · subst h7
        exact ⟨_, _, _, hM.wg, e_status_w hD hO hM⟩
      · exact ⟨_, _, _, hM, e_status_t hD hO hM hk h7 h⟩
    · rw [if_neg hx]
      exact ⟨_, _, _, hM, e_status_f hD hO hM hx h⟩
end
