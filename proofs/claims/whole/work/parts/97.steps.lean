/-! the law: one step for each method -/
abbrev lwK (C : zC) (f : zA) (cells slots i : Nat) : Prop := ∀ (D : DS) (z1 z2 : Nat) (qe ke : Bool) (sz : Nat) (I X : zI) (Y : zY), DOK D → (D.2.1.isSome = true → ke = true) → DMe D I X Y → MMe qe D I X Y → zL C 4 (aB f z1 z2) (lS qe ke) cells slots sz I X Y 1971 [some (zr 8 0), some (zr 3 0), some (zr 0 0), some (zi (nI i))] []
abbrev lwH (C : zC) (f : zA) (b L : Nat) (xs : Nat → Int32) : Prop := (∀ z1 z2, zOk cL_law RL 4 (some .boolean) 12 276180 8273710 C (aB f z1 z2)) ∧ va_X b L xs (cs C) (cs C).heap ∧ b < (cs C).heap.size ∧ ¬ cA C b ∧ f 8 0 = b ∧ L ≤ 3072
section
variable {C : zC} {f : zA} {z1 z2 cells slots sz i L b : Nat} {qe ke : Bool} {I X : zI} {Y : zY} {D : DS} {xs : Nat → Int32}

theorem m_imageL {ad : zA} (hO : DOK D) (hM : MMe qe D I X Y) (hb : zBk 2 D.2.1.isSome ad (lM qe ke) I X Y sz) : zCx mX7_image 6 47 14378 [zr 0 0] ad (lM qe ke) I X Y sz (lP (zi (imageS D).1) (imageS D).2) :=
  (m_image (S := lM qe ke) (fun _ => rfl) hO hM hb).mono (fun v' S' I' X' Y' sz' hh => ⟨hh.1, qe, true, hh.2.1.trans lM_2, fun _ => rfl, hh.2.2⟩)
theorem Q_row {D : DS} {x y u : Int32} (h : (rowS D x y u).2.2.1.isSome = true) : D.2.1.isSome = true := by rw [q_row] at h; exact h
theorem Q_set {D : DS} {x y : Int32} {v : Int64} (h : (setS D x y v).2.2.1.isSome = true) : D.2.1.isSome = true := by rw [q_set] at h; exact h
theorem Q_copy {D : DS} {x y i j m : Int32} (h : (copyS D x y i j m).2.2.1.isSome = true) : D.2.1.isSome = true := by rw [q_copy] at h; exact h
theorem Q_show {D : DS} {x y : Int32} (h : (showS D x y).2.2.1.isSome = true) : D.2.1.isSome = true := by rw [q_show] at h; exact h
theorem Q_says {D : DS} {x y : Int32} (h : (saysS D x y).2.2.1.isSome = true) : D.2.1.isSome = true := by rw [q_says] at h; exact h
theorem Q_bend {D : DS} {x y u v : Int32} (h : (bendS D x y u v).2.2.1.isSome = true) : D.2.1.isSome = true := by rw [q_bend] at h; exact h
theorem Q_ask {D : DS} {x y : Int32} (h : (askS D x y).2.2.1.isSome = true) : D.2.1.isSome = true := by rw [q_ask] at h; exact h
theorem Q_sign {D : DS} {x u : Int32} {q : Nat}  (h : (signS D x q u).2.2.1.isSome = true) : D.2.1.isSome = true := by rw [q_sign] at h; exact h
theorem Q_anew {D : DS}  (h : (anewS D).2.2.1.isSome = true) : D.2.1.isSome = true := by rw [q_anew] at h; exact h
theorem Q_feed {D : DS} {x : Int32} (h : (feedS D x).2.2.1.isSome = true) : D.2.1.isSome = true := by rw [q_feed] at h; exact h
theorem Q_wipe {D : DS}  (h : (wipeS D).2.2.1.isSome = true) : D.2.1.isSome = true := by rw [q_wipe] at h; exact h
theorem Q_way {D : DS}  (h : (wayS D).2.2.1.isSome = true) : D.2.1.isSome = true := by rw [q_way] at h; exact h
theorem Q_bendOf {D : DS} {x y : Int32} (h : (bendOfS D x y).2.2.1.isSome = true) : D.2.1.isSome = true := by rw [q_bendOf] at h; exact h
theorem Q_signOf {D : DS} {x y : Int32} (h : (signOfS D x y).2.2.1.isSome = true) : D.2.1.isSome = true := by rw [q_signOf] at h; exact h
theorem Q_fall {D : DS} {x y : Int32} (h : (fallS D x y).2.2.1.isSome = true) : D.2.1.isSome = true := by rw [q_fall] at h; exact h
theorem Q_fell {D : DS} {x y : Int32} (h : (fellS D x y).2.2.1.isSome = true) : D.2.1.isSome = true := by rw [q_fell] at h; exact h
theorem Q_weight {D : DS} {x : Int32} (h : (weightS D x).2.2.1.isSome = true) : D.2.1.isSome = true := by rw [q_weight] at h; exact h
theorem Q_likely {D : DS} {x : Int32} (h : (likelyS D x).2.2.1.isSome = true) : D.2.1.isSome = true := by rw [q_likely] at h; exact h
theorem Q_between {D : DS} {x y : Int32} (h : (betweenS D x y).2.2.1.isSome = true) : D.2.1.isSome = true := by rw [q_between] at h; exact h
theorem Q_half {D : DS}  (h : (halfS D).2.2.1.isSome = true) : D.2.1.isSome = true := by rw [q_half] at h; exact h
theorem Q_few {D : DS} {x : Int32} (h : (fewS D x).2.2.1.isSome = true) : D.2.1.isSome = true := by rw [q_few] at h; exact h
theorem Q_asks {D : DS}  (h : (asksS D).2.2.1.isSome = true) : D.2.1.isSome = true := by rw [q_asks] at h; exact h
theorem Q_after {D : DS} {x u : Int32} {q : Nat}  (h : (afterS D x q u).2.2.1.isSome = true) : D.2.1.isSome = true := by rw [q_after] at h; exact h
theorem Q_where {D : DS}  (h : (whereS D).2.2.1.isSome = true) : D.2.1.isSome = true := by rw [q_where] at h; exact h
theorem Q_seconds {D : DS} {x y : Int32} (h : (secondsS D x y).2.2.1.isSome = true) : D.2.1.isSome = true := by rw [q_seconds] at h; exact h
theorem Q_found {D : DS} {x y : Int32} (h : (foundS D x y).2.2.1.isSome = true) : D.2.1.isSome = true := by rw [q_found] at h; exact h
theorem Q_best {D : DS} {x y : Int32} (h : (bestS D x y).2.2.1.isSome = true) : D.2.1.isSome = true := by rw [q_best] at h; exact h
theorem Q_next {D : DS}  (h : (nextS' D).2.2.1.isSome = true) : D.2.1.isSome = true := by rw [q_next] at h; exact h
theorem Q_soonest {D : DS} {x : Int32} (h : (soonestS D x).2.2.1.isSome = true) : D.2.1.isSome = true := by rw [q_soonest] at h; exact h
theorem Q_order {D : DS} {x : Int32} (h : (orderS D x).2.2.1.isSome = true) : D.2.1.isSome = true := by rw [q_order] at h; exact h
theorem Q_vain {D : DS} {x : Int32} (h : (vainS D x).2.2.1.isSome = true) : D.2.1.isSome = true := by rw [q_vain] at h; exact h
theorem Q_others {D : DS} {x : Int32} (h : (othersS D x).2.2.1.isSome = true) : D.2.1.isSome = true := by rw [q_others] at h; exact h
theorem Q_fast {D : DS} {x : Int32} (h : (fastS D x).2.2.1.isSome = true) : D.2.1.isSome = true := by rw [q_fast] at h; exact h
theorem Q_drove {D : DS} {x : Int32} (h : (droveS D x).2.2.1.isSome = true) : D.2.1.isSome = true := by rw [q_drove] at h; exact h
theorem Q_gripFor {D : DS} {x : Int32} (h : (gripForS D x).2.2.1.isSome = true) : D.2.1.isSome = true := by rw [q_gripFor] at h; exact h
theorem Q_otherwise {D : DS}  (h : (otherwiseS D).2.2.1.isSome = true) : D.2.1.isSome = true := by rw [q_otherwise] at h; exact h
theorem Q_slows {D : DS} {x : Int32} (h : (slowsS D x).2.2.1.isSome = true) : D.2.1.isSome = true := by rw [q_slows] at h; exact h
theorem Q_without {D : DS} {x : Int32} (h : (withoutS D x).2.2.1.isSome = true) : D.2.1.isSome = true := by rw [q_without] at h; exact h
theorem Q_once {D : DS} {x : Int32} (h : (onceS D x).2.2.1.isSome = true) : D.2.1.isSome = true := by rw [q_once] at h; exact h
theorem Q_until {D : DS} {x : Int32} (h : (untilS D x).2.2.1.isSome = true) : D.2.1.isSome = true := by rw [q_until] at h; exact h
theorem Q_worst {D : DS}  (h : (worstS D).2.2.1.isSome = true) : D.2.1.isSome = true := by rw [q_worst] at h; exact h
theorem Q_last {D : DS}  (h : (lastS D).2.2.1.isSome = true) : D.2.1.isSome = true := by rw [q_last] at h; exact h
theorem Q_call {D : DS} {x y u : Int32} (h : (ocallS D x y u).2.2.1.isSome = true) : D.2.1.isSome = true := by rw [q_call] at h; exact h
theorem Q_callOf {D : DS} {x y : Int32} (h : (callOfS D x y).2.2.1.isSome = true) : D.2.1.isSome = true := by rw [q_callOf] at h; exact h
theorem Q_hears {D : DS} {x : Int32} (h : (hearsS D x).2.2.1.isSome = true) : D.2.1.isSome = true := by rw [q_hears] at h; exact h
theorem Q_rings {D : DS} {x : Int32} (h : (ringsS D x).2.2.1.isSome = true) : D.2.1.isSome = true := by rw [q_rings] at h; exact h
theorem Q_worth {D : DS} {x y u : Int32} (h : (worthS D x y u).2.2.1.isSome = true) : D.2.1.isSome = true := by rw [q_worth] at h; exact h
theorem Q_judge {D : DS} {x y : Int32} (h : (judgeS D x y).2.2.1.isSome = true) : D.2.1.isSome = true := by rw [q_judge] at h; exact h
theorem Q_apart {D : DS} {x y : Int32} (h : (apartS D x y).2.2.1.isSome = true) : D.2.1.isSome = true := by rw [q_apart] at h; exact h
theorem Q_search {D : DS} {x y u : Int32} (h : (searchS D x y u).2.2.1.isSome = true) : D.2.1.isSome = true := by rw [q_search] at h; exact h
theorem Q_lies {D : DS} {x : Int32} (h : (liesS D x).2.2.1.isSome = true) : D.2.1.isSome = true := by rw [q_lies] at h; exact h
theorem Q_drive {D : DS}  (h : (driveS D).2.2.1.isSome = true) : D.2.1.isSome = true := by rw [q_drive] at h; exact h
theorem Q_look {D : DS} {x y : Int32} (h : (lookS D x y).2.2.1.isSome = true) : D.2.1.isSome = true := by rw [q_look] at h; exact h
theorem Q_trips {D : DS} {x : Int32} (h : (tripsS D x).2.2.1.isSome = true) : D.2.1.isSome = true := by rw [q_trips] at h; exact h
theorem Q_seed {D : DS} {x : Int32} (h : (seedS D x).2.2.1.isSome = true) : D.2.1.isSome = true := by rw [q_seed] at h; exact h
theorem Q_back {D : DS} (h : (backS D).2.2.1.isSome = true) : D.2.1.isSome = true := by rw [q_back] at h; exact h
theorem L_row (hS : lwH C f b L xs) (hi : i + 5 < L) (hO : DOK D) (hke : D.2.1.isSome = true → ke = true) (hD : DMe D I X Y) (hM : MMe qe D I X Y) (hr : cells + 47 ≤ 276180 ∧ slots + 14378 ≤ 8273710) (K : lwK C f (cells + 47) (slots + 14378) i) : zL C 4 (aB f z1 z2) (lS qe ke) cells slots sz I X Y 288 [some (zr 8 0), some (zr 3 0), some (zr 0 0), some (zi (nI i))] [] := by
  have hC := hS.1 z1 z2
  have hL := hS.2.2.2.2.2
  refine z_aload_n hC dL_law_288 rfl ?_
  refine z_aload_n hC dL_law_289 rfl ?_
  refine z_iload_n hC dL_law_290 rfl ?_
  refine z_iconst hC dL_law_291 (v := nI 1) rfl ?_
  refine z_nadd hC dL_law_292  ?_
  refine z_sld hC hS.2.1 hS.2.2.1 hS.2.2.2.1 hS.2.2.2.2.1 (by omega) (by omega) dL_law_293 ?_
  refine z_aload_n hC dL_law_294 rfl ?_
  refine z_iload_n hC dL_law_295 rfl ?_
  refine z_iconst hC dL_law_296 (v := nI 2) rfl ?_
  refine z_nadd hC dL_law_297  ?_
  refine z_sld hC hS.2.1 hS.2.2.1 hS.2.2.2.1 hS.2.2.2.2.1 (by omega) (by omega) dL_law_298 ?_
  refine z_aload_n hC dL_law_299 rfl ?_
  refine z_iload_n hC dL_law_300 rfl ?_
  refine z_iconst hC dL_law_301 (v := nI 3) rfl ?_
  refine z_nadd hC dL_law_302  ?_
  refine z_sld hC hS.2.1 hS.2.2.1 hS.2.2.2.1 hS.2.2.2.2.1 (by omega) (by omega) dL_law_303 ?_
  refine z_lD hC dL_law_304 zlL_13 rfl rfl rfl rfl rfl ⟨by omega, by omega⟩ hM hke (fun S' h => o_row h hO hD) (fun I3 X3 Y3 hD3 hM3 => ?_)
  refine z_aload_n hC dL_law_307 rfl ?_
  refine z_aload_n hC dL_law_308 rfl ?_
  refine z_iload_n hC dL_law_309 rfl ?_
  refine z_iconst hC dL_law_310 (v := nI 1) rfl ?_
  refine z_nadd hC dL_law_311  ?_
  refine z_sld hC hS.2.1 hS.2.2.1 hS.2.2.2.1 hS.2.2.2.2.1 (by omega) (by omega) dL_law_312 ?_
  refine z_aload_n hC dL_law_313 rfl ?_
  refine z_iload_n hC dL_law_314 rfl ?_
  refine z_iconst hC dL_law_315 (v := nI 2) rfl ?_
  refine z_nadd hC dL_law_316  ?_
  refine z_sld hC hS.2.1 hS.2.2.1 hS.2.2.2.1 hS.2.2.2.2.1 (by omega) (by omega) dL_law_317 ?_
  refine z_aload_n hC dL_law_318 rfl ?_
  refine z_iload_n hC dL_law_319 rfl ?_
  refine z_iconst hC dL_law_320 (v := nI 3) rfl ?_
  refine z_nadd hC dL_law_321  ?_
  refine z_sld hC hS.2.1 hS.2.2.1 hS.2.2.2.1 hS.2.2.2.2.1 (by omega) (by omega) dL_law_322 ?_
  refine z_lM hS.1 dL_law_323 zlL_17 rfl rfl rfl rfl rfl ⟨by omega, by omega⟩ hM3 hD3 hke rfl rfl (fun z1 z2 I X Y hM hb1 hb2 => mQ.l (mC.q (m_row (S := lM qe D.2.1.isSome) (fun _ => rfl) hO hM)) Q_row) (fun w1 w2 qe4 ke4 I4 X4 Y4 sz4 hk4 hD4 hM4 => ?_)
  have hC := hS.1 w1 w2
  refine z_icmp_eq hC dL_law_326 (tgt := 1971) (by decide) (fun c326 => ?_) (fun c326 => ?_)
  rotate_left
  · exact absurd c326 (fun z => z rfl)
  refine z_widen (k := cells + 47) (n := slots + 14378) (by omega) (by omega) ?_
  exact K _ w1 w2 qe4 ke4 sz4 I4 X4 Y4 (k_row hO) hk4 hD4 hM4

theorem L_set (hS : lwH C f b L xs) (hi : i + 5 < L) (hO : DOK D) (hke : D.2.1.isSome = true → ke = true) (hD : DMe D I X Y) (hM : MMe qe D I X Y) (hr : cells + 47 ≤ 276180 ∧ slots + 14378 ≤ 8273710) (K : lwK C f (cells + 47) (slots + 14378) i) : zL C 4 (aB f z1 z2) (lS qe ke) cells slots sz I X Y 331 [some (zr 8 0), some (zr 3 0), some (zr 0 0), some (zi (nI i))] [] := by
  have hC := hS.1 z1 z2
  have hL := hS.2.2.2.2.2
  refine z_aload_n hC dL_law_331 rfl ?_
  refine z_aload_n hC dL_law_332 rfl ?_
  refine z_iload_n hC dL_law_333 rfl ?_
  refine z_iconst hC dL_law_334 (v := nI 1) rfl ?_
  refine z_nadd hC dL_law_335  ?_
  refine z_sld hC hS.2.1 hS.2.2.1 hS.2.2.2.1 hS.2.2.2.2.1 (by omega) (by omega) dL_law_336 ?_
  refine z_aload_n hC dL_law_337 rfl ?_
  refine z_iload_n hC dL_law_338 rfl ?_
  refine z_iconst hC dL_law_339 (v := nI 2) rfl ?_
  refine z_nadd hC dL_law_340  ?_
  refine z_sld hC hS.2.1 hS.2.2.1 hS.2.2.2.1 hS.2.2.2.2.1 (by omega) (by omega) dL_law_341 ?_
  refine z_aload_n hC dL_law_342 rfl ?_
  refine z_iload_n hC dL_law_343 rfl ?_
  refine z_iconst hC dL_law_344 (v := nI 3) rfl ?_
  refine z_nadd hC dL_law_345  ?_
  refine z_sld hC hS.2.1 hS.2.2.1 hS.2.2.2.1 hS.2.2.2.2.1 (by omega) (by omega) dL_law_346 ?_
  refine z_i2l hC dL_law_347  ?_
  refine z_bipush hC dL_law_348 (v := nI 32) rfl ?_
  refine z_lshl hC dL_law_350  ?_
  refine z_aload_n hC dL_law_351 rfl ?_
  refine z_iload_n hC dL_law_352 rfl ?_
  refine z_iconst hC dL_law_353 (v := nI 4) rfl ?_
  refine z_nadd hC dL_law_354  ?_
  refine z_sld hC hS.2.1 hS.2.2.1 hS.2.2.2.1 hS.2.2.2.2.1 (by omega) (by omega) dL_law_355 ?_
  refine z_i2l hC dL_law_356  ?_
  refine z_ldc2 hC dL_law_357 (v := lN 4294967295) (zin7 (i := 91) rfl rfl) ?_
  refine z_land hC dL_law_360  ?_
  refine z_lor hC dL_law_361  ?_
  refine z_lD hC dL_law_362 zlL_20 rfl rfl rfl rfl rfl ⟨by omega, by omega⟩ hM hke (fun S' h => o_set h hO hD) (fun I3 X3 Y3 hD3 hM3 => ?_)
  refine z_aload_n hC dL_law_365 rfl ?_
  refine z_aload_n hC dL_law_366 rfl ?_
  refine z_iload_n hC dL_law_367 rfl ?_
  refine z_iconst hC dL_law_368 (v := nI 1) rfl ?_
  refine z_nadd hC dL_law_369  ?_
  refine z_sld hC hS.2.1 hS.2.2.1 hS.2.2.2.1 hS.2.2.2.2.1 (by omega) (by omega) dL_law_370 ?_
  refine z_aload_n hC dL_law_371 rfl ?_
  refine z_iload_n hC dL_law_372 rfl ?_
  refine z_iconst hC dL_law_373 (v := nI 2) rfl ?_
  refine z_nadd hC dL_law_374  ?_
  refine z_sld hC hS.2.1 hS.2.2.1 hS.2.2.2.1 hS.2.2.2.2.1 (by omega) (by omega) dL_law_375 ?_
  refine z_aload_n hC dL_law_376 rfl ?_
  refine z_iload_n hC dL_law_377 rfl ?_
  refine z_iconst hC dL_law_378 (v := nI 3) rfl ?_
  refine z_nadd hC dL_law_379  ?_
  refine z_sld hC hS.2.1 hS.2.2.1 hS.2.2.2.1 hS.2.2.2.2.1 (by omega) (by omega) dL_law_380 ?_
  refine z_i2l hC dL_law_381  ?_
  refine z_bipush hC dL_law_382 (v := nI 32) rfl ?_
  refine z_lshl hC dL_law_384  ?_
  refine z_aload_n hC dL_law_385 rfl ?_
  refine z_iload_n hC dL_law_386 rfl ?_
  refine z_iconst hC dL_law_387 (v := nI 4) rfl ?_
  refine z_nadd hC dL_law_388  ?_
  refine z_sld hC hS.2.1 hS.2.2.1 hS.2.2.2.1 hS.2.2.2.2.1 (by omega) (by omega) dL_law_389 ?_
  refine z_i2l hC dL_law_390  ?_
  refine z_ldc2 hC dL_law_391 (v := lN 4294967295) (zin7 (i := 91) rfl rfl) ?_
  refine z_land hC dL_law_394  ?_
  refine z_lor hC dL_law_395  ?_
  refine z_lM hS.1 dL_law_396 zlL_24 rfl rfl rfl rfl rfl ⟨by omega, by omega⟩ hM3 hD3 hke rfl rfl (fun z1 z2 I X Y hM hb1 hb2 => mQ.l (mC.q (m_set (S := lM qe D.2.1.isSome) (fun _ => rfl) hO hM)) Q_set) (fun w1 w2 qe4 ke4 I4 X4 Y4 sz4 hk4 hD4 hM4 => ?_)
  have hC := hS.1 w1 w2
  refine z_icmp_eq hC dL_law_399 (tgt := 1971) (by decide) (fun c399 => ?_) (fun c399 => ?_)
  rotate_left
  · exact absurd c399 (fun z => z rfl)
  refine z_widen (k := cells + 47) (n := slots + 14378) (by omega) (by omega) ?_
  exact K _ w1 w2 qe4 ke4 sz4 I4 X4 Y4 (k_set hO) hk4 hD4 hM4

theorem L_copy (hS : lwH C f b L xs) (hi : i + 5 < L) (hO : DOK D) (hke : D.2.1.isSome = true → ke = true) (hD : DMe D I X Y) (hM : MMe qe D I X Y) (hr : cells + 47 ≤ 276180 ∧ slots + 14378 ≤ 8273710) (K : lwK C f (cells + 47) (slots + 14378) i) : zL C 4 (aB f z1 z2) (lS qe ke) cells slots sz I X Y 404 [some (zr 8 0), some (zr 3 0), some (zr 0 0), some (zi (nI i))] [] := by
  have hC := hS.1 z1 z2
  have hL := hS.2.2.2.2.2
  refine z_aload_n hC dL_law_404 rfl ?_
  refine z_aload_n hC dL_law_405 rfl ?_
  refine z_iload_n hC dL_law_406 rfl ?_
  refine z_iconst hC dL_law_407 (v := nI 1) rfl ?_
  refine z_nadd hC dL_law_408  ?_
  refine z_sld hC hS.2.1 hS.2.2.1 hS.2.2.2.1 hS.2.2.2.2.1 (by omega) (by omega) dL_law_409 ?_
  refine z_aload_n hC dL_law_410 rfl ?_
  refine z_iload_n hC dL_law_411 rfl ?_
  refine z_iconst hC dL_law_412 (v := nI 2) rfl ?_
  refine z_nadd hC dL_law_413  ?_
  refine z_sld hC hS.2.1 hS.2.2.1 hS.2.2.2.1 hS.2.2.2.2.1 (by omega) (by omega) dL_law_414 ?_
  refine z_aload_n hC dL_law_415 rfl ?_
  refine z_iload_n hC dL_law_416 rfl ?_
  refine z_iconst hC dL_law_417 (v := nI 3) rfl ?_
  refine z_nadd hC dL_law_418  ?_
  refine z_sld hC hS.2.1 hS.2.2.1 hS.2.2.2.1 hS.2.2.2.2.1 (by omega) (by omega) dL_law_419 ?_
  refine z_aload_n hC dL_law_420 rfl ?_
  refine z_iload_n hC dL_law_421 rfl ?_
  refine z_iconst hC dL_law_422 (v := nI 4) rfl ?_
  refine z_nadd hC dL_law_423  ?_
  refine z_sld hC hS.2.1 hS.2.2.1 hS.2.2.2.1 hS.2.2.2.2.1 (by omega) (by omega) dL_law_424 ?_
  refine z_aload_n hC dL_law_425 rfl ?_
  refine z_iload_n hC dL_law_426 rfl ?_
  refine z_iconst hC dL_law_427 (v := nI 5) rfl ?_
  refine z_nadd hC dL_law_428  ?_
  refine z_sld hC hS.2.1 hS.2.2.1 hS.2.2.2.1 hS.2.2.2.2.1 (by omega) (by omega) dL_law_429 ?_
  refine z_lD hC dL_law_430 zlL_25 rfl rfl rfl rfl rfl ⟨by omega, by omega⟩ hM hke (fun S' h => o_copy h hO hD) (fun I3 X3 Y3 hD3 hM3 => ?_)
  refine z_aload_n hC dL_law_433 rfl ?_
  refine z_aload_n hC dL_law_434 rfl ?_
  refine z_iload_n hC dL_law_435 rfl ?_
  refine z_iconst hC dL_law_436 (v := nI 1) rfl ?_
  refine z_nadd hC dL_law_437  ?_
  refine z_sld hC hS.2.1 hS.2.2.1 hS.2.2.2.1 hS.2.2.2.2.1 (by omega) (by omega) dL_law_438 ?_
  refine z_aload_n hC dL_law_439 rfl ?_
  refine z_iload_n hC dL_law_440 rfl ?_
  refine z_iconst hC dL_law_441 (v := nI 2) rfl ?_
  refine z_nadd hC dL_law_442  ?_
  refine z_sld hC hS.2.1 hS.2.2.1 hS.2.2.2.1 hS.2.2.2.2.1 (by omega) (by omega) dL_law_443 ?_
  refine z_aload_n hC dL_law_444 rfl ?_
  refine z_iload_n hC dL_law_445 rfl ?_
  refine z_iconst hC dL_law_446 (v := nI 3) rfl ?_
  refine z_nadd hC dL_law_447  ?_
  refine z_sld hC hS.2.1 hS.2.2.1 hS.2.2.2.1 hS.2.2.2.2.1 (by omega) (by omega) dL_law_448 ?_
  refine z_aload_n hC dL_law_449 rfl ?_
  refine z_iload_n hC dL_law_450 rfl ?_
  refine z_iconst hC dL_law_451 (v := nI 4) rfl ?_
  refine z_nadd hC dL_law_452  ?_
  refine z_sld hC hS.2.1 hS.2.2.1 hS.2.2.2.1 hS.2.2.2.2.1 (by omega) (by omega) dL_law_453 ?_
  refine z_aload_n hC dL_law_454 rfl ?_
  refine z_iload_n hC dL_law_455 rfl ?_
  refine z_iconst hC dL_law_456 (v := nI 5) rfl ?_
  refine z_nadd hC dL_law_457  ?_
  refine z_sld hC hS.2.1 hS.2.2.1 hS.2.2.2.1 hS.2.2.2.2.1 (by omega) (by omega) dL_law_458 ?_
  refine z_lM hS.1 dL_law_459 zlL_29 rfl rfl rfl rfl rfl ⟨by omega, by omega⟩ hM3 hD3 hke rfl rfl (fun z1 z2 I X Y hM hb1 hb2 => mQ.l (mC.q (m_copy (S := lM qe D.2.1.isSome) (fun _ => rfl) hO hM)) Q_copy) (fun w1 w2 qe4 ke4 I4 X4 Y4 sz4 hk4 hD4 hM4 => ?_)
  have hC := hS.1 w1 w2
  refine z_icmp_eq hC dL_law_462 (tgt := 1971) (by decide) (fun c462 => ?_) (fun c462 => ?_)
  rotate_left
  · exact absurd c462 (fun z => z rfl)
  refine z_widen (k := cells + 47) (n := slots + 14378) (by omega) (by omega) ?_
  exact K _ w1 w2 qe4 ke4 sz4 I4 X4 Y4 (k_copy hO) hk4 hD4 hM4

theorem L_element (hS : lwH C f b L xs) (hi : i + 5 < L) (hO : DOK D) (hke : D.2.1.isSome = true → ke = true) (hD : DMe D I X Y) (hM : MMe qe D I X Y) (hr : cells + 47 ≤ 276180 ∧ slots + 14378 ≤ 8273710) (K : lwK C f (cells + 47) (slots + 14378) i) : zL C 4 (aB f z1 z2) (lS qe ke) cells slots sz I X Y 467 [some (zr 8 0), some (zr 3 0), some (zr 0 0), some (zi (nI i))] [] := by
  have hC := hS.1 z1 z2
  have hL := hS.2.2.2.2.2
  refine z_aload_n hC dL_law_467 rfl ?_
  refine z_aload_n hC dL_law_468 rfl ?_
  refine z_iload_n hC dL_law_469 rfl ?_
  refine z_iconst hC dL_law_470 (v := nI 1) rfl ?_
  refine z_nadd hC dL_law_471  ?_
  refine z_sld hC hS.2.1 hS.2.2.1 hS.2.2.2.1 hS.2.2.2.2.1 (by omega) (by omega) dL_law_472 ?_
  refine z_aload_n hC dL_law_473 rfl ?_
  refine z_iload_n hC dL_law_474 rfl ?_
  refine z_iconst hC dL_law_475 (v := nI 2) rfl ?_
  refine z_nadd hC dL_law_476  ?_
  refine z_sld hC hS.2.1 hS.2.2.1 hS.2.2.2.1 hS.2.2.2.2.1 (by omega) (by omega) dL_law_477 ?_
  refine z_lD hC dL_law_478 zlL_30 rfl rfl rfl rfl rfl ⟨by omega, by omega⟩ hM hke (fun S' h => o_element h hO hD) (fun I3 X3 Y3 hD3 hM3 => ?_)
  refine z_aload_n hC dL_law_481 rfl ?_
  refine z_aload_n hC dL_law_482 rfl ?_
  refine z_iload_n hC dL_law_483 rfl ?_
  refine z_iconst hC dL_law_484 (v := nI 1) rfl ?_
  refine z_nadd hC dL_law_485  ?_
  refine z_sld hC hS.2.1 hS.2.2.1 hS.2.2.2.1 hS.2.2.2.2.1 (by omega) (by omega) dL_law_486 ?_
  refine z_aload_n hC dL_law_487 rfl ?_
  refine z_iload_n hC dL_law_488 rfl ?_
  refine z_iconst hC dL_law_489 (v := nI 2) rfl ?_
  refine z_nadd hC dL_law_490  ?_
  refine z_sld hC hS.2.1 hS.2.2.1 hS.2.2.2.1 hS.2.2.2.2.1 (by omega) (by omega) dL_law_491 ?_
  refine z_lM hS.1 dL_law_492 zlL_34 rfl rfl rfl rfl rfl ⟨by omega, by omega⟩ hM3 hD3 hke rfl rfl (fun z1 z2 I X Y hM hb1 hb2 => mQ.l (mC.q (m_element (S := lM qe D.2.1.isSome) (fun _ => rfl) hO hM)) (fun q => q)) (fun w1 w2 qe4 ke4 I4 X4 Y4 sz4 hk4 hD4 hM4 => ?_)
  have hC := hS.1 w1 w2
  refine z_lcmp hC dL_law_495  ?_
  refine z_if_eq hC dL_law_496 (tgt := 1971) (by decide) (fun c496 => ?_) (fun c496 => ?_)
  rotate_left
  · exact absurd c496 (fun z => z lgc_self)
  refine z_widen (k := cells + 47) (n := slots + 14378) (by omega) (by omega) ?_
  exact K _ w1 w2 qe4 ke4 sz4 I4 X4 Y4 hO hk4 hD4 hM4

theorem L_holds (hS : lwH C f b L xs) (hi : i + 5 < L) (hO : DOK D) (hke : D.2.1.isSome = true → ke = true) (hD : DMe D I X Y) (hM : MMe qe D I X Y) (hr : cells + 47 ≤ 276180 ∧ slots + 14378 ≤ 8273710) (K : lwK C f (cells + 47) (slots + 14378) i) : zL C 4 (aB f z1 z2) (lS qe ke) cells slots sz I X Y 501 [some (zr 8 0), some (zr 3 0), some (zr 0 0), some (zi (nI i))] [] := by
  have hC := hS.1 z1 z2
  have hL := hS.2.2.2.2.2
  refine z_aload_n hC dL_law_501 rfl ?_
  refine z_aload_n hC dL_law_502 rfl ?_
  refine z_iload_n hC dL_law_503 rfl ?_
  refine z_iconst hC dL_law_504 (v := nI 1) rfl ?_
  refine z_nadd hC dL_law_505  ?_
  refine z_sld hC hS.2.1 hS.2.2.1 hS.2.2.2.1 hS.2.2.2.2.1 (by omega) (by omega) dL_law_506 ?_
  refine z_lD hC dL_law_507 zlL_35 rfl rfl rfl rfl rfl ⟨by omega, by omega⟩ hM hke (fun S' h => o_holds h hO hD) (fun I3 X3 Y3 hD3 hM3 => ?_)
  refine z_aload_n hC dL_law_510 rfl ?_
  refine z_aload_n hC dL_law_511 rfl ?_
  refine z_iload_n hC dL_law_512 rfl ?_
  refine z_iconst hC dL_law_513 (v := nI 1) rfl ?_
  refine z_nadd hC dL_law_514  ?_
  refine z_sld hC hS.2.1 hS.2.2.1 hS.2.2.2.1 hS.2.2.2.2.1 (by omega) (by omega) dL_law_515 ?_
  refine z_lM hS.1 dL_law_516 zlL_39 rfl rfl rfl rfl rfl ⟨by omega, by omega⟩ hM3 hD3 hke rfl rfl (fun z1 z2 I X Y hM hb1 hb2 => mQ.l (mC.q (m_holds (S := lM qe D.2.1.isSome) (fun _ => rfl) hO hM)) (fun q => q)) (fun w1 w2 qe4 ke4 I4 X4 Y4 sz4 hk4 hD4 hM4 => ?_)
  have hC := hS.1 w1 w2
  refine z_icmp_eq hC dL_law_519 (tgt := 1971) (by decide) (fun c519 => ?_) (fun c519 => ?_)
  rotate_left
  · exact absurd c519 (fun z => z rfl)
  refine z_widen (k := cells + 47) (n := slots + 14378) (by omega) (by omega) ?_
  exact K _ w1 w2 qe4 ke4 sz4 I4 X4 Y4 hO hk4 hD4 hM4

theorem L_show (hS : lwH C f b L xs) (hi : i + 5 < L) (hO : DOK D) (hke : D.2.1.isSome = true → ke = true) (hD : DMe D I X Y) (hM : MMe qe D I X Y) (hr : cells + 47 ≤ 276180 ∧ slots + 14378 ≤ 8273710) (K : lwK C f (cells + 47) (slots + 14378) i) : zL C 4 (aB f z1 z2) (lS qe ke) cells slots sz I X Y 524 [some (zr 8 0), some (zr 3 0), some (zr 0 0), some (zi (nI i))] [] := by
  have hC := hS.1 z1 z2
  have hL := hS.2.2.2.2.2
  refine z_aload_n hC dL_law_524 rfl ?_
  refine z_aload_n hC dL_law_525 rfl ?_
  refine z_iload_n hC dL_law_526 rfl ?_
  refine z_iconst hC dL_law_527 (v := nI 1) rfl ?_
  refine z_nadd hC dL_law_528  ?_
  refine z_sld hC hS.2.1 hS.2.2.1 hS.2.2.2.1 hS.2.2.2.2.1 (by omega) (by omega) dL_law_529 ?_
  refine z_aload_n hC dL_law_530 rfl ?_
  refine z_iload_n hC dL_law_531 rfl ?_
  refine z_iconst hC dL_law_532 (v := nI 2) rfl ?_
  refine z_nadd hC dL_law_533  ?_
  refine z_sld hC hS.2.1 hS.2.2.1 hS.2.2.2.1 hS.2.2.2.2.1 (by omega) (by omega) dL_law_534 ?_
  refine z_lD hC dL_law_535 zlL_40 rfl rfl rfl rfl rfl ⟨by omega, by omega⟩ hM hke (fun S' h => o_show h hO hD) (fun I3 X3 Y3 hD3 hM3 => ?_)
  refine z_aload_n hC dL_law_538 rfl ?_
  refine z_aload_n hC dL_law_539 rfl ?_
  refine z_iload_n hC dL_law_540 rfl ?_
  refine z_iconst hC dL_law_541 (v := nI 1) rfl ?_
  refine z_nadd hC dL_law_542  ?_
  refine z_sld hC hS.2.1 hS.2.2.1 hS.2.2.2.1 hS.2.2.2.2.1 (by omega) (by omega) dL_law_543 ?_
  refine z_aload_n hC dL_law_544 rfl ?_
  refine z_iload_n hC dL_law_545 rfl ?_
  refine z_iconst hC dL_law_546 (v := nI 2) rfl ?_
  refine z_nadd hC dL_law_547  ?_
  refine z_sld hC hS.2.1 hS.2.2.1 hS.2.2.2.1 hS.2.2.2.2.1 (by omega) (by omega) dL_law_548 ?_
  refine z_lM hS.1 dL_law_549 zlL_44 rfl rfl rfl rfl rfl ⟨by omega, by omega⟩ hM3 hD3 hke rfl rfl (fun z1 z2 I X Y hM hb1 hb2 => mQ.l (mC.q (m_show (S := lM qe D.2.1.isSome) (fun _ => rfl) hO hM)) Q_show) (fun w1 w2 qe4 ke4 I4 X4 Y4 sz4 hk4 hD4 hM4 => ?_)
  have hC := hS.1 w1 w2
  refine z_icmp_eq hC dL_law_552 (tgt := 1971) (by decide) (fun c552 => ?_) (fun c552 => ?_)
  rotate_left
  · exact absurd c552 (fun z => z rfl)
  refine z_widen (k := cells + 47) (n := slots + 14378) (by omega) (by omega) ?_
  exact K _ w1 w2 qe4 ke4 sz4 I4 X4 Y4 (k_show hO) hk4 hD4 hM4

theorem L_says (hS : lwH C f b L xs) (hi : i + 5 < L) (hO : DOK D) (hke : D.2.1.isSome = true → ke = true) (hD : DMe D I X Y) (hM : MMe qe D I X Y) (hr : cells + 47 ≤ 276180 ∧ slots + 14378 ≤ 8273710) (K : lwK C f (cells + 47) (slots + 14378) i) : zL C 4 (aB f z1 z2) (lS qe ke) cells slots sz I X Y 557 [some (zr 8 0), some (zr 3 0), some (zr 0 0), some (zi (nI i))] [] := by
  have hC := hS.1 z1 z2
  have hL := hS.2.2.2.2.2
  refine z_aload_n hC dL_law_557 rfl ?_
  refine z_aload_n hC dL_law_558 rfl ?_
  refine z_iload_n hC dL_law_559 rfl ?_
  refine z_iconst hC dL_law_560 (v := nI 1) rfl ?_
  refine z_nadd hC dL_law_561  ?_
  refine z_sld hC hS.2.1 hS.2.2.1 hS.2.2.2.1 hS.2.2.2.2.1 (by omega) (by omega) dL_law_562 ?_
  refine z_aload_n hC dL_law_563 rfl ?_
  refine z_iload_n hC dL_law_564 rfl ?_
  refine z_iconst hC dL_law_565 (v := nI 2) rfl ?_
  refine z_nadd hC dL_law_566  ?_
  refine z_sld hC hS.2.1 hS.2.2.1 hS.2.2.2.1 hS.2.2.2.2.1 (by omega) (by omega) dL_law_567 ?_
  refine z_lD hC dL_law_568 zlL_45 rfl rfl rfl rfl rfl ⟨by omega, by omega⟩ hM hke (fun S' h => o_says h hO hD) (fun I3 X3 Y3 hD3 hM3 => ?_)
  refine z_aload_n hC dL_law_571 rfl ?_
  refine z_aload_n hC dL_law_572 rfl ?_
  refine z_iload_n hC dL_law_573 rfl ?_
  refine z_iconst hC dL_law_574 (v := nI 1) rfl ?_
  refine z_nadd hC dL_law_575  ?_
  refine z_sld hC hS.2.1 hS.2.2.1 hS.2.2.2.1 hS.2.2.2.2.1 (by omega) (by omega) dL_law_576 ?_
  refine z_aload_n hC dL_law_577 rfl ?_
  refine z_iload_n hC dL_law_578 rfl ?_
  refine z_iconst hC dL_law_579 (v := nI 2) rfl ?_
  refine z_nadd hC dL_law_580  ?_
  refine z_sld hC hS.2.1 hS.2.2.1 hS.2.2.2.1 hS.2.2.2.2.1 (by omega) (by omega) dL_law_581 ?_
  refine z_lM hS.1 dL_law_582 zlL_48 rfl rfl rfl rfl rfl ⟨by omega, by omega⟩ hM3 hD3 hke rfl rfl (fun z1 z2 I X Y hM hb1 hb2 => mQ.l (mC.q (m_says (S := lM qe D.2.1.isSome) (fun _ => rfl) hO hM)) Q_says) (fun w1 w2 qe4 ke4 I4 X4 Y4 sz4 hk4 hD4 hM4 => ?_)
  have hC := hS.1 w1 w2
  refine z_icmp_eq hC dL_law_585 (tgt := 1971) (by decide) (fun c585 => ?_) (fun c585 => ?_)
  rotate_left
  · exact absurd c585 (fun z => z rfl)
  refine z_widen (k := cells + 47) (n := slots + 14378) (by omega) (by omega) ?_
  exact K _ w1 w2 qe4 ke4 sz4 I4 X4 Y4 (k_says hO) hk4 hD4 hM4

theorem L_bend (hS : lwH C f b L xs) (hi : i + 5 < L) (hO : DOK D) (hke : D.2.1.isSome = true → ke = true) (hD : DMe D I X Y) (hM : MMe qe D I X Y) (hr : cells + 47 ≤ 276180 ∧ slots + 14378 ≤ 8273710) (K : lwK C f (cells + 47) (slots + 14378) i) : zL C 4 (aB f z1 z2) (lS qe ke) cells slots sz I X Y 590 [some (zr 8 0), some (zr 3 0), some (zr 0 0), some (zi (nI i))] [] := by
  have hC := hS.1 z1 z2
  have hL := hS.2.2.2.2.2
  refine z_aload_n hC dL_law_590 rfl ?_
  refine z_aload_n hC dL_law_591 rfl ?_
  refine z_iload_n hC dL_law_592 rfl ?_
  refine z_iconst hC dL_law_593 (v := nI 1) rfl ?_
  refine z_nadd hC dL_law_594  ?_
  refine z_sld hC hS.2.1 hS.2.2.1 hS.2.2.2.1 hS.2.2.2.2.1 (by omega) (by omega) dL_law_595 ?_
  refine z_aload_n hC dL_law_596 rfl ?_
  refine z_iload_n hC dL_law_597 rfl ?_
  refine z_iconst hC dL_law_598 (v := nI 2) rfl ?_
  refine z_nadd hC dL_law_599  ?_
  refine z_sld hC hS.2.1 hS.2.2.1 hS.2.2.2.1 hS.2.2.2.2.1 (by omega) (by omega) dL_law_600 ?_
  refine z_aload_n hC dL_law_601 rfl ?_
  refine z_iload_n hC dL_law_602 rfl ?_
  refine z_iconst hC dL_law_603 (v := nI 3) rfl ?_
  refine z_nadd hC dL_law_604  ?_
  refine z_sld hC hS.2.1 hS.2.2.1 hS.2.2.2.1 hS.2.2.2.2.1 (by omega) (by omega) dL_law_605 ?_
  refine z_aload_n hC dL_law_606 rfl ?_
  refine z_iload_n hC dL_law_607 rfl ?_
  refine z_iconst hC dL_law_608 (v := nI 4) rfl ?_
  refine z_nadd hC dL_law_609  ?_
  refine z_sld hC hS.2.1 hS.2.2.1 hS.2.2.2.1 hS.2.2.2.2.1 (by omega) (by omega) dL_law_610 ?_
  refine z_lD hC dL_law_611 zlL_49 rfl rfl rfl rfl rfl ⟨by omega, by omega⟩ hM hke (fun S' h => o_bend h hO hD) (fun I3 X3 Y3 hD3 hM3 => ?_)
  refine z_aload_n hC dL_law_614 rfl ?_
  refine z_aload_n hC dL_law_615 rfl ?_
  refine z_iload_n hC dL_law_616 rfl ?_
  refine z_iconst hC dL_law_617 (v := nI 1) rfl ?_
  refine z_nadd hC dL_law_618  ?_
  refine z_sld hC hS.2.1 hS.2.2.1 hS.2.2.2.1 hS.2.2.2.2.1 (by omega) (by omega) dL_law_619 ?_
  refine z_aload_n hC dL_law_620 rfl ?_
  refine z_iload_n hC dL_law_621 rfl ?_
  refine z_iconst hC dL_law_622 (v := nI 2) rfl ?_
  refine z_nadd hC dL_law_623  ?_
  refine z_sld hC hS.2.1 hS.2.2.1 hS.2.2.2.1 hS.2.2.2.2.1 (by omega) (by omega) dL_law_624 ?_
  refine z_aload_n hC dL_law_625 rfl ?_
  refine z_iload_n hC dL_law_626 rfl ?_
  refine z_iconst hC dL_law_627 (v := nI 3) rfl ?_
  refine z_nadd hC dL_law_628  ?_
  refine z_sld hC hS.2.1 hS.2.2.1 hS.2.2.2.1 hS.2.2.2.2.1 (by omega) (by omega) dL_law_629 ?_
  refine z_aload_n hC dL_law_630 rfl ?_
  refine z_iload_n hC dL_law_631 rfl ?_
  refine z_iconst hC dL_law_632 (v := nI 4) rfl ?_
  refine z_nadd hC dL_law_633  ?_
  refine z_sld hC hS.2.1 hS.2.2.1 hS.2.2.2.1 hS.2.2.2.2.1 (by omega) (by omega) dL_law_634 ?_
  refine z_lM hS.1 dL_law_635 zlL_53 rfl rfl rfl rfl rfl ⟨by omega, by omega⟩ hM3 hD3 hke rfl rfl (fun z1 z2 I X Y hM hb1 hb2 => mQ.l (mC.q (m_bend (S := lM qe D.2.1.isSome) (fun _ => rfl) hO hM)) Q_bend) (fun w1 w2 qe4 ke4 I4 X4 Y4 sz4 hk4 hD4 hM4 => ?_)
  have hC := hS.1 w1 w2
  refine z_icmp_eq hC dL_law_638 (tgt := 1971) (by decide) (fun c638 => ?_) (fun c638 => ?_)
  rotate_left
  · exact absurd c638 (fun z => z rfl)
  refine z_widen (k := cells + 47) (n := slots + 14378) (by omega) (by omega) ?_
  exact K _ w1 w2 qe4 ke4 sz4 I4 X4 Y4 (k_bend hO) hk4 hD4 hM4

theorem L_ask (hS : lwH C f b L xs) (hi : i + 5 < L) (hO : DOK D) (hke : D.2.1.isSome = true → ke = true) (hD : DMe D I X Y) (hM : MMe qe D I X Y) (hr : cells + 47 ≤ 276180 ∧ slots + 14378 ≤ 8273710) (K : lwK C f (cells + 47) (slots + 14378) i) : zL C 4 (aB f z1 z2) (lS qe ke) cells slots sz I X Y 643 [some (zr 8 0), some (zr 3 0), some (zr 0 0), some (zi (nI i))] [] := by
  have hC := hS.1 z1 z2
  have hL := hS.2.2.2.2.2
  refine z_aload_n hC dL_law_643 rfl ?_
  refine z_aload_n hC dL_law_644 rfl ?_
  refine z_iload_n hC dL_law_645 rfl ?_
  refine z_iconst hC dL_law_646 (v := nI 1) rfl ?_
  refine z_nadd hC dL_law_647  ?_
  refine z_sld hC hS.2.1 hS.2.2.1 hS.2.2.2.1 hS.2.2.2.2.1 (by omega) (by omega) dL_law_648 ?_
  refine z_aload_n hC dL_law_649 rfl ?_
  refine z_iload_n hC dL_law_650 rfl ?_
  refine z_iconst hC dL_law_651 (v := nI 2) rfl ?_
  refine z_nadd hC dL_law_652  ?_
  refine z_sld hC hS.2.1 hS.2.2.1 hS.2.2.2.1 hS.2.2.2.2.1 (by omega) (by omega) dL_law_653 ?_
  refine z_lD hC dL_law_654 zlL_54 rfl rfl rfl rfl rfl ⟨by omega, by omega⟩ hM hke (fun S' h => o_ask h hO hD) (fun I3 X3 Y3 hD3 hM3 => ?_)
  refine z_aload_n hC dL_law_657 rfl ?_
  refine z_aload_n hC dL_law_658 rfl ?_
  refine z_iload_n hC dL_law_659 rfl ?_
  refine z_iconst hC dL_law_660 (v := nI 1) rfl ?_
  refine z_nadd hC dL_law_661  ?_
  refine z_sld hC hS.2.1 hS.2.2.1 hS.2.2.2.1 hS.2.2.2.2.1 (by omega) (by omega) dL_law_662 ?_
  refine z_aload_n hC dL_law_663 rfl ?_
  refine z_iload_n hC dL_law_664 rfl ?_
  refine z_iconst hC dL_law_665 (v := nI 2) rfl ?_
  refine z_nadd hC dL_law_666  ?_
  refine z_sld hC hS.2.1 hS.2.2.1 hS.2.2.2.1 hS.2.2.2.2.1 (by omega) (by omega) dL_law_667 ?_
  refine z_lM hS.1 dL_law_668 zlL_57 rfl rfl rfl rfl rfl ⟨by omega, by omega⟩ hM3 hD3 hke rfl rfl (fun z1 z2 I X Y hM hb1 hb2 => mQ.l (mC.q (m_ask (S := lM qe D.2.1.isSome) (fun _ => rfl) hO hM)) Q_ask) (fun w1 w2 qe4 ke4 I4 X4 Y4 sz4 hk4 hD4 hM4 => ?_)
  have hC := hS.1 w1 w2
  refine z_icmp_eq hC dL_law_671 (tgt := 1971) (by decide) (fun c671 => ?_) (fun c671 => ?_)
  rotate_left
  · exact absurd c671 (fun z => z rfl)
  refine z_widen (k := cells + 47) (n := slots + 14378) (by omega) (by omega) ?_
  exact K _ w1 w2 qe4 ke4 sz4 I4 X4 Y4 (k_ask hO) hk4 hD4 hM4

theorem L_sign (hS : lwH C f b L xs) (hi : i + 5 < L) (hO : DOK D) (hke : D.2.1.isSome = true → ke = true) (hD : DMe D I X Y) (hM : MMe qe D I X Y) (hr : cells + 47 ≤ 276180 ∧ slots + 14378 ≤ 8273710) (K : lwK C f (cells + 47) (slots + 14378) i) : zL C 4 (aB f z1 z2) (lS qe ke) cells slots sz I X Y 676 [some (zr 8 0), some (zr 3 0), some (zr 0 0), some (zi (nI i))] [] := by
  have hC := hS.1 z1 z2
  have hL := hS.2.2.2.2.2
  refine z_aload_n hC dL_law_676 rfl ?_
  refine z_aload_n hC dL_law_677 rfl ?_
  refine z_iload_n hC dL_law_678 rfl ?_
  refine z_iconst hC dL_law_679 (v := nI 1) rfl ?_
  refine z_nadd hC dL_law_680  ?_
  refine z_sld hC hS.2.1 hS.2.2.1 hS.2.2.2.1 hS.2.2.2.2.1 (by omega) (by omega) dL_law_681 ?_
  refine z_aload_n hC dL_law_682 rfl ?_
  refine z_iload_n hC dL_law_683 rfl ?_
  refine z_iconst hC dL_law_684 (v := nI 2) rfl ?_
  refine z_nadd hC dL_law_685  ?_
  refine z_sld hC hS.2.1 hS.2.2.1 hS.2.2.2.1 hS.2.2.2.2.1 (by omega) (by omega) dL_law_686 ?_
  by_cases hz : xs (i + 2) = 0
  · skip
    refine z_if_eq hC dL_law_687 (tgt := 694) (by decide) (fun c687 => ?_) (fun c687 => ?_)
    rotate_left
    · exact absurd c687 (fun z => z hz)
    refine z_iconst hC dL_law_694 (v := nI 0) rfl ?_
    refine z_aload_n hC dL_law_695 rfl ?_
    refine z_iload_n hC dL_law_696 rfl ?_
    refine z_iconst hC dL_law_697 (v := nI 3) rfl ?_
    refine z_nadd hC dL_law_698  ?_
    refine z_sld hC hS.2.1 hS.2.2.1 hS.2.2.2.1 hS.2.2.2.2.1 (by omega) (by omega) dL_law_699 ?_
    refine z_lD hC dL_law_700 zlL_58 rfl rfl rfl rfl rfl ⟨by omega, by omega⟩ hM hke (fun S' h => o_sign h hO hD (by decide)) (fun I3 X3 Y3 hD3 hM3 => ?_)
    refine z_aload_n hC dL_law_703 rfl ?_
    refine z_aload_n hC dL_law_704 rfl ?_
    refine z_iload_n hC dL_law_705 rfl ?_
    refine z_iconst hC dL_law_706 (v := nI 1) rfl ?_
    refine z_nadd hC dL_law_707  ?_
    refine z_sld hC hS.2.1 hS.2.2.1 hS.2.2.2.1 hS.2.2.2.2.1 (by omega) (by omega) dL_law_708 ?_
    refine z_aload_n hC dL_law_709 rfl ?_
    refine z_iload_n hC dL_law_710 rfl ?_
    refine z_iconst hC dL_law_711 (v := nI 2) rfl ?_
    refine z_nadd hC dL_law_712  ?_
    refine z_sld hC hS.2.1 hS.2.2.1 hS.2.2.2.1 hS.2.2.2.2.1 (by omega) (by omega) dL_law_713 ?_
    refine z_if_eq hC dL_law_714 (tgt := 721) (by decide) (fun c714 => ?_) (fun c714 => ?_)
    rotate_left
    · exact absurd c714 (fun z => z hz)
    refine z_iconst hC dL_law_721 (v := nI 0) rfl ?_
    refine z_aload_n hC dL_law_722 rfl ?_
    refine z_iload_n hC dL_law_723 rfl ?_
    refine z_iconst hC dL_law_724 (v := nI 3) rfl ?_
    refine z_nadd hC dL_law_725  ?_
    refine z_sld hC hS.2.1 hS.2.2.1 hS.2.2.2.1 hS.2.2.2.2.1 (by omega) (by omega) dL_law_726 ?_
    refine z_lM hS.1 dL_law_727 zlL_62 rfl rfl rfl rfl rfl ⟨by omega, by omega⟩ hM3 hD3 hke rfl rfl (fun z1 z2 I X Y hM hb1 hb2 => mQ.l (mC.q (m_sign (S := lM qe D.2.1.isSome) (fun _ => rfl) hO hM (by decide))) Q_sign) (fun w1 w2 qe4 ke4 I4 X4 Y4 sz4 hk4 hD4 hM4 => ?_)
    have hC := hS.1 w1 w2
    refine z_icmp_eq hC dL_law_730 (tgt := 1971) (by decide) (fun c730 => ?_) (fun c730 => ?_)
    rotate_left
    · exact absurd c730 (fun z => z rfl)
    refine z_widen (k := cells + 47) (n := slots + 14378) (by omega) (by omega) ?_
    exact K _ w1 w2 qe4 ke4 sz4 I4 X4 Y4 (k_sign hO (by decide)) hk4 hD4 hM4
  · skip
    refine z_if_eq hC dL_law_687 (tgt := 694) (by decide) (fun c687 => ?_) (fun c687 => ?_)
    · exact absurd c687 hz
    refine z_iconst hC dL_law_690 (v := nI 1) rfl ?_
    refine z_goto hC dL_law_691 (tgt := 695) (by decide) ?_
    refine z_aload_n hC dL_law_695 rfl ?_
    refine z_iload_n hC dL_law_696 rfl ?_
    refine z_iconst hC dL_law_697 (v := nI 3) rfl ?_
    refine z_nadd hC dL_law_698  ?_
    refine z_sld hC hS.2.1 hS.2.2.1 hS.2.2.2.1 hS.2.2.2.2.1 (by omega) (by omega) dL_law_699 ?_
    refine z_lD hC dL_law_700 zlL_58 rfl rfl rfl rfl rfl ⟨by omega, by omega⟩ hM hke (fun S' h => o_sign h hO hD (by decide)) (fun I3 X3 Y3 hD3 hM3 => ?_)
    refine z_aload_n hC dL_law_703 rfl ?_
    refine z_aload_n hC dL_law_704 rfl ?_
    refine z_iload_n hC dL_law_705 rfl ?_
    refine z_iconst hC dL_law_706 (v := nI 1) rfl ?_
    refine z_nadd hC dL_law_707  ?_
    refine z_sld hC hS.2.1 hS.2.2.1 hS.2.2.2.1 hS.2.2.2.2.1 (by omega) (by omega) dL_law_708 ?_
    refine z_aload_n hC dL_law_709 rfl ?_
    refine z_iload_n hC dL_law_710 rfl ?_
    refine z_iconst hC dL_law_711 (v := nI 2) rfl ?_
    refine z_nadd hC dL_law_712  ?_
    refine z_sld hC hS.2.1 hS.2.2.1 hS.2.2.2.1 hS.2.2.2.2.1 (by omega) (by omega) dL_law_713 ?_
    refine z_if_eq hC dL_law_714 (tgt := 721) (by decide) (fun c714 => ?_) (fun c714 => ?_)
    · exact absurd c714 hz
    refine z_iconst hC dL_law_717 (v := nI 1) rfl ?_
    refine z_goto hC dL_law_718 (tgt := 722) (by decide) ?_
    refine z_aload_n hC dL_law_722 rfl ?_
    refine z_iload_n hC dL_law_723 rfl ?_
    refine z_iconst hC dL_law_724 (v := nI 3) rfl ?_
    refine z_nadd hC dL_law_725  ?_
    refine z_sld hC hS.2.1 hS.2.2.1 hS.2.2.2.1 hS.2.2.2.2.1 (by omega) (by omega) dL_law_726 ?_
    refine z_lM hS.1 dL_law_727 zlL_62 rfl rfl rfl rfl rfl ⟨by omega, by omega⟩ hM3 hD3 hke rfl rfl (fun z1 z2 I X Y hM hb1 hb2 => mQ.l (mC.q (m_sign (S := lM qe D.2.1.isSome) (fun _ => rfl) hO hM (by decide))) Q_sign) (fun w1 w2 qe4 ke4 I4 X4 Y4 sz4 hk4 hD4 hM4 => ?_)
    have hC := hS.1 w1 w2
    refine z_icmp_eq hC dL_law_730 (tgt := 1971) (by decide) (fun c730 => ?_) (fun c730 => ?_)
    rotate_left
    · exact absurd c730 (fun z => z rfl)
    refine z_widen (k := cells + 47) (n := slots + 14378) (by omega) (by omega) ?_
    exact K _ w1 w2 qe4 ke4 sz4 I4 X4 Y4 (k_sign hO (by decide)) hk4 hD4 hM4

theorem L_anew (hS : lwH C f b L xs) (hi : i + 5 < L) (hO : DOK D) (hke : D.2.1.isSome = true → ke = true) (hD : DMe D I X Y) (hM : MMe qe D I X Y) (hr : cells + 47 ≤ 276180 ∧ slots + 14378 ≤ 8273710) (K : lwK C f (cells + 47) (slots + 14378) i) : zL C 4 (aB f z1 z2) (lS qe ke) cells slots sz I X Y 735 [some (zr 8 0), some (zr 3 0), some (zr 0 0), some (zi (nI i))] [] := by
  have hC := hS.1 z1 z2
  have hL := hS.2.2.2.2.2
  refine z_aload_n hC dL_law_735 rfl ?_
  refine z_lD hC dL_law_736 zlL_63 rfl rfl rfl rfl rfl ⟨by omega, by omega⟩ hM hke (fun S' h => o_anew h hO hD) (fun I3 X3 Y3 hD3 hM3 => ?_)
  refine z_aload_n hC dL_law_739 rfl ?_
  refine z_lM hS.1 dL_law_740 zlL_67 rfl rfl rfl rfl rfl ⟨by omega, by omega⟩ hM3 hD3 hke rfl rfl (fun z1 z2 I X Y hM hb1 hb2 => mQ.l (mC.q (m_anew (S := lM qe D.2.1.isSome) (fun _ => rfl) hO hM)) Q_anew) (fun w1 w2 qe4 ke4 I4 X4 Y4 sz4 hk4 hD4 hM4 => ?_)
  have hC := hS.1 w1 w2
  refine z_icmp_eq hC dL_law_743 (tgt := 1971) (by decide) (fun c743 => ?_) (fun c743 => ?_)
  rotate_left
  · exact absurd c743 (fun z => z rfl)
  refine z_widen (k := cells + 47) (n := slots + 14378) (by omega) (by omega) ?_
  exact K _ w1 w2 qe4 ke4 sz4 I4 X4 Y4 (k_anew hO) hk4 hD4 hM4

theorem L_feed (hS : lwH C f b L xs) (hi : i + 5 < L) (hO : DOK D) (hke : D.2.1.isSome = true → ke = true) (hD : DMe D I X Y) (hM : MMe qe D I X Y) (hr : cells + 47 ≤ 276180 ∧ slots + 14378 ≤ 8273710) (K : lwK C f (cells + 47) (slots + 14378) i) : zL C 4 (aB f z1 z2) (lS qe ke) cells slots sz I X Y 748 [some (zr 8 0), some (zr 3 0), some (zr 0 0), some (zi (nI i))] [] := by
  have hC := hS.1 z1 z2
  have hL := hS.2.2.2.2.2
  refine z_aload_n hC dL_law_748 rfl ?_
  refine z_aload_n hC dL_law_749 rfl ?_
  refine z_iload_n hC dL_law_750 rfl ?_
  refine z_iconst hC dL_law_751 (v := nI 1) rfl ?_
  refine z_nadd hC dL_law_752  ?_
  refine z_sld hC hS.2.1 hS.2.2.1 hS.2.2.2.1 hS.2.2.2.2.1 (by omega) (by omega) dL_law_753 ?_
  refine z_lD hC dL_law_754 zlL_68 rfl rfl rfl rfl rfl ⟨by omega, by omega⟩ hM hke (fun S' h => o_feed h hO hD) (fun I3 X3 Y3 hD3 hM3 => ?_)
  refine z_aload_n hC dL_law_757 rfl ?_
  refine z_aload_n hC dL_law_758 rfl ?_
  refine z_iload_n hC dL_law_759 rfl ?_
  refine z_iconst hC dL_law_760 (v := nI 1) rfl ?_
  refine z_nadd hC dL_law_761  ?_
  refine z_sld hC hS.2.1 hS.2.2.1 hS.2.2.2.1 hS.2.2.2.2.1 (by omega) (by omega) dL_law_762 ?_
  refine z_lM hS.1 dL_law_763 zlL_71 rfl rfl rfl rfl rfl ⟨by omega, by omega⟩ hM3 hD3 hke rfl rfl (fun z1 z2 I X Y hM hb1 hb2 => mQ.l (mC.q (m_feed (S := lM qe D.2.1.isSome) (fun _ => rfl) hO hM)) Q_feed) (fun w1 w2 qe4 ke4 I4 X4 Y4 sz4 hk4 hD4 hM4 => ?_)
  have hC := hS.1 w1 w2
  refine z_icmp_eq hC dL_law_766 (tgt := 1971) (by decide) (fun c766 => ?_) (fun c766 => ?_)
  rotate_left
  · exact absurd c766 (fun z => z rfl)
  refine z_widen (k := cells + 47) (n := slots + 14378) (by omega) (by omega) ?_
  exact K _ w1 w2 qe4 ke4 sz4 I4 X4 Y4 (k_feed hO) hk4 hD4 hM4

theorem L_wipe (hS : lwH C f b L xs) (hi : i + 5 < L) (hO : DOK D) (hke : D.2.1.isSome = true → ke = true) (hD : DMe D I X Y) (hM : MMe qe D I X Y) (hr : cells + 47 ≤ 276180 ∧ slots + 14378 ≤ 8273710) (K : lwK C f (cells + 47) (slots + 14378) i) : zL C 4 (aB f z1 z2) (lS qe ke) cells slots sz I X Y 771 [some (zr 8 0), some (zr 3 0), some (zr 0 0), some (zi (nI i))] [] := by
  have hC := hS.1 z1 z2
  have hL := hS.2.2.2.2.2
  refine z_aload_n hC dL_law_771 rfl ?_
  refine z_lD hC dL_law_772 zlL_72 rfl rfl rfl rfl rfl ⟨by omega, by omega⟩ hM hke (fun S' h => o_wipe h hO hD) (fun I3 X3 Y3 hD3 hM3 => ?_)
  refine z_aload_n hC dL_law_775 rfl ?_
  refine z_lM hS.1 dL_law_776 zlL_75 rfl rfl rfl rfl rfl ⟨by omega, by omega⟩ hM3 hD3 hke rfl rfl (fun z1 z2 I X Y hM hb1 hb2 => mQ.l (mC.q (m_wipe (S := lM qe D.2.1.isSome) (fun _ => rfl) hO hM)) Q_wipe) (fun w1 w2 qe4 ke4 I4 X4 Y4 sz4 hk4 hD4 hM4 => ?_)
  have hC := hS.1 w1 w2
  refine z_icmp_eq hC dL_law_779 (tgt := 1971) (by decide) (fun c779 => ?_) (fun c779 => ?_)
  rotate_left
  · exact absurd c779 (fun z => z rfl)
  refine z_widen (k := cells + 47) (n := slots + 14378) (by omega) (by omega) ?_
  exact K _ w1 w2 qe4 ke4 sz4 I4 X4 Y4 (k_wipe hO) hk4 hD4 hM4

theorem L_way (hS : lwH C f b L xs) (hi : i + 5 < L) (hO : DOK D) (hke : D.2.1.isSome = true → ke = true) (hD : DMe D I X Y) (hM : MMe qe D I X Y) (hr : cells + 47 ≤ 276180 ∧ slots + 14378 ≤ 8273710) (K : lwK C f (cells + 47) (slots + 14378) i) : zL C 4 (aB f z1 z2) (lS qe ke) cells slots sz I X Y 784 [some (zr 8 0), some (zr 3 0), some (zr 0 0), some (zi (nI i))] [] := by
  have hC := hS.1 z1 z2
  have hL := hS.2.2.2.2.2
  refine z_aload_n hC dL_law_784 rfl ?_
  refine z_lD hC dL_law_785 zlL_76 rfl rfl rfl rfl rfl ⟨by omega, by omega⟩ hM hke (fun S' h => o_way h hO hD) (fun I3 X3 Y3 hD3 hM3 => ?_)
  refine z_aload_n hC dL_law_788 rfl ?_
  refine z_lM hS.1 dL_law_789 zlL_79 rfl rfl rfl rfl rfl ⟨by omega, by omega⟩ hM3 hD3 hke rfl rfl (fun z1 z2 I X Y hM hb1 hb2 => mX.l (m_way (S := lM qe D.2.1.isSome) (fun _ => rfl) hO hM hb1) Q_way) (fun w1 w2 qe4 ke4 I4 X4 Y4 sz4 hk4 hD4 hM4 => ?_)
  have hC := hS.1 w1 w2
  refine z_icmp_eq hC dL_law_792 (tgt := 1971) (by decide) (fun c792 => ?_) (fun c792 => ?_)
  rotate_left
  · exact absurd c792 (fun z => z rfl)
  refine z_widen (k := cells + 47) (n := slots + 14378) (by omega) (by omega) ?_
  exact K _ w1 w2 qe4 ke4 sz4 I4 X4 Y4 (k_way hO) hk4 hD4 hM4

theorem L_bendOf (hS : lwH C f b L xs) (hi : i + 5 < L) (hO : DOK D) (hke : D.2.1.isSome = true → ke = true) (hD : DMe D I X Y) (hM : MMe qe D I X Y) (hr : cells + 47 ≤ 276180 ∧ slots + 14378 ≤ 8273710) (K : lwK C f (cells + 47) (slots + 14378) i) : zL C 4 (aB f z1 z2) (lS qe ke) cells slots sz I X Y 797 [some (zr 8 0), some (zr 3 0), some (zr 0 0), some (zi (nI i))] [] := by
  have hC := hS.1 z1 z2
  have hL := hS.2.2.2.2.2
  refine z_aload_n hC dL_law_797 rfl ?_
  refine z_aload_n hC dL_law_798 rfl ?_
  refine z_iload_n hC dL_law_799 rfl ?_
  refine z_iconst hC dL_law_800 (v := nI 1) rfl ?_
  refine z_nadd hC dL_law_801  ?_
  refine z_sld hC hS.2.1 hS.2.2.1 hS.2.2.2.1 hS.2.2.2.2.1 (by omega) (by omega) dL_law_802 ?_
  refine z_aload_n hC dL_law_803 rfl ?_
  refine z_iload_n hC dL_law_804 rfl ?_
  refine z_iconst hC dL_law_805 (v := nI 2) rfl ?_
  refine z_nadd hC dL_law_806  ?_
  refine z_sld hC hS.2.1 hS.2.2.1 hS.2.2.2.1 hS.2.2.2.2.1 (by omega) (by omega) dL_law_807 ?_
  refine z_lD hC dL_law_808 zlL_80 rfl rfl rfl rfl rfl ⟨by omega, by omega⟩ hM hke (fun S' h => o_bendOf h hO hD) (fun I3 X3 Y3 hD3 hM3 => ?_)
  refine z_aload_n hC dL_law_811 rfl ?_
  refine z_aload_n hC dL_law_812 rfl ?_
  refine z_iload_n hC dL_law_813 rfl ?_
  refine z_iconst hC dL_law_814 (v := nI 1) rfl ?_
  refine z_nadd hC dL_law_815  ?_
  refine z_sld hC hS.2.1 hS.2.2.1 hS.2.2.2.1 hS.2.2.2.2.1 (by omega) (by omega) dL_law_816 ?_
  refine z_aload_n hC dL_law_817 rfl ?_
  refine z_iload_n hC dL_law_818 rfl ?_
  refine z_iconst hC dL_law_819 (v := nI 2) rfl ?_
  refine z_nadd hC dL_law_820  ?_
  refine z_sld hC hS.2.1 hS.2.2.1 hS.2.2.2.1 hS.2.2.2.2.1 (by omega) (by omega) dL_law_821 ?_
  refine z_lM hS.1 dL_law_822 zlL_83 rfl rfl rfl rfl rfl ⟨by omega, by omega⟩ hM3 hD3 hke rfl rfl (fun z1 z2 I X Y hM hb1 hb2 => mQ.l (mC.q (m_bendOf (S := lM qe D.2.1.isSome) (fun _ => rfl) hO hM)) Q_bendOf) (fun w1 w2 qe4 ke4 I4 X4 Y4 sz4 hk4 hD4 hM4 => ?_)
  have hC := hS.1 w1 w2
  refine z_icmp_eq hC dL_law_825 (tgt := 1971) (by decide) (fun c825 => ?_) (fun c825 => ?_)
  rotate_left
  · exact absurd c825 (fun z => z rfl)
  refine z_widen (k := cells + 47) (n := slots + 14378) (by omega) (by omega) ?_
  exact K _ w1 w2 qe4 ke4 sz4 I4 X4 Y4 (k_bendOf hO) hk4 hD4 hM4

theorem L_signOf (hS : lwH C f b L xs) (hi : i + 5 < L) (hO : DOK D) (hke : D.2.1.isSome = true → ke = true) (hD : DMe D I X Y) (hM : MMe qe D I X Y) (hr : cells + 47 ≤ 276180 ∧ slots + 14378 ≤ 8273710) (K : lwK C f (cells + 47) (slots + 14378) i) : zL C 4 (aB f z1 z2) (lS qe ke) cells slots sz I X Y 830 [some (zr 8 0), some (zr 3 0), some (zr 0 0), some (zi (nI i))] [] := by
  have hC := hS.1 z1 z2
  have hL := hS.2.2.2.2.2
  refine z_aload_n hC dL_law_830 rfl ?_
  refine z_aload_n hC dL_law_831 rfl ?_
  refine z_iload_n hC dL_law_832 rfl ?_
  refine z_iconst hC dL_law_833 (v := nI 1) rfl ?_
  refine z_nadd hC dL_law_834  ?_
  refine z_sld hC hS.2.1 hS.2.2.1 hS.2.2.2.1 hS.2.2.2.2.1 (by omega) (by omega) dL_law_835 ?_
  refine z_aload_n hC dL_law_836 rfl ?_
  refine z_iload_n hC dL_law_837 rfl ?_
  refine z_iconst hC dL_law_838 (v := nI 2) rfl ?_
  refine z_nadd hC dL_law_839  ?_
  refine z_sld hC hS.2.1 hS.2.2.1 hS.2.2.2.1 hS.2.2.2.2.1 (by omega) (by omega) dL_law_840 ?_
  refine z_lD hC dL_law_841 zlL_84 rfl rfl rfl rfl rfl ⟨by omega, by omega⟩ hM hke (fun S' h => o_signOf h hO hD) (fun I3 X3 Y3 hD3 hM3 => ?_)
  refine z_aload_n hC dL_law_844 rfl ?_
  refine z_aload_n hC dL_law_845 rfl ?_
  refine z_iload_n hC dL_law_846 rfl ?_
  refine z_iconst hC dL_law_847 (v := nI 1) rfl ?_
  refine z_nadd hC dL_law_848  ?_
  refine z_sld hC hS.2.1 hS.2.2.1 hS.2.2.2.1 hS.2.2.2.2.1 (by omega) (by omega) dL_law_849 ?_
  refine z_aload_n hC dL_law_850 rfl ?_
  refine z_iload_n hC dL_law_851 rfl ?_
  refine z_iconst hC dL_law_852 (v := nI 2) rfl ?_
  refine z_nadd hC dL_law_853  ?_
  refine z_sld hC hS.2.1 hS.2.2.1 hS.2.2.2.1 hS.2.2.2.2.1 (by omega) (by omega) dL_law_854 ?_
  refine z_lM hS.1 dL_law_855 zlL_87 rfl rfl rfl rfl rfl ⟨by omega, by omega⟩ hM3 hD3 hke rfl rfl (fun z1 z2 I X Y hM hb1 hb2 => mQ.l (mC.q (m_signOf (S := lM qe D.2.1.isSome) (fun _ => rfl) hO hM)) Q_signOf) (fun w1 w2 qe4 ke4 I4 X4 Y4 sz4 hk4 hD4 hM4 => ?_)
  have hC := hS.1 w1 w2
  refine z_icmp_eq hC dL_law_858 (tgt := 1971) (by decide) (fun c858 => ?_) (fun c858 => ?_)
  rotate_left
  · exact absurd c858 (fun z => z rfl)
  refine z_widen (k := cells + 47) (n := slots + 14378) (by omega) (by omega) ?_
  exact K _ w1 w2 qe4 ke4 sz4 I4 X4 Y4 (k_signOf hO) hk4 hD4 hM4

theorem L_fall (hS : lwH C f b L xs) (hi : i + 5 < L) (hO : DOK D) (hke : D.2.1.isSome = true → ke = true) (hD : DMe D I X Y) (hM : MMe qe D I X Y) (hr : cells + 47 ≤ 276180 ∧ slots + 14378 ≤ 8273710) (K : lwK C f (cells + 47) (slots + 14378) i) : zL C 4 (aB f z1 z2) (lS qe ke) cells slots sz I X Y 863 [some (zr 8 0), some (zr 3 0), some (zr 0 0), some (zi (nI i))] [] := by
  have hC := hS.1 z1 z2
  have hL := hS.2.2.2.2.2
  refine z_aload_n hC dL_law_863 rfl ?_
  refine z_aload_n hC dL_law_864 rfl ?_
  refine z_iload_n hC dL_law_865 rfl ?_
  refine z_iconst hC dL_law_866 (v := nI 1) rfl ?_
  refine z_nadd hC dL_law_867  ?_
  refine z_sld hC hS.2.1 hS.2.2.1 hS.2.2.2.1 hS.2.2.2.2.1 (by omega) (by omega) dL_law_868 ?_
  refine z_aload_n hC dL_law_869 rfl ?_
  refine z_iload_n hC dL_law_870 rfl ?_
  refine z_iconst hC dL_law_871 (v := nI 2) rfl ?_
  refine z_nadd hC dL_law_872  ?_
  refine z_sld hC hS.2.1 hS.2.2.1 hS.2.2.2.1 hS.2.2.2.2.1 (by omega) (by omega) dL_law_873 ?_
  refine z_lD hC dL_law_874 zlL_88 rfl rfl rfl rfl rfl ⟨by omega, by omega⟩ hM hke (fun S' h => o_fall h hO hD) (fun I3 X3 Y3 hD3 hM3 => ?_)
  refine z_aload_n hC dL_law_877 rfl ?_
  refine z_aload_n hC dL_law_878 rfl ?_
  refine z_iload_n hC dL_law_879 rfl ?_
  refine z_iconst hC dL_law_880 (v := nI 1) rfl ?_
  refine z_nadd hC dL_law_881  ?_
  refine z_sld hC hS.2.1 hS.2.2.1 hS.2.2.2.1 hS.2.2.2.2.1 (by omega) (by omega) dL_law_882 ?_
  refine z_aload_n hC dL_law_883 rfl ?_
  refine z_iload_n hC dL_law_884 rfl ?_
  refine z_iconst hC dL_law_885 (v := nI 2) rfl ?_
  refine z_nadd hC dL_law_886  ?_
  refine z_sld hC hS.2.1 hS.2.2.1 hS.2.2.2.1 hS.2.2.2.2.1 (by omega) (by omega) dL_law_887 ?_
  refine z_lM hS.1 dL_law_888 zlL_91 rfl rfl rfl rfl rfl ⟨by omega, by omega⟩ hM3 hD3 hke rfl rfl (fun z1 z2 I X Y hM hb1 hb2 => mQ.l (mC.q (m_fall (S := lM qe D.2.1.isSome) (fun _ => rfl) hO hM)) Q_fall) (fun w1 w2 qe4 ke4 I4 X4 Y4 sz4 hk4 hD4 hM4 => ?_)
  have hC := hS.1 w1 w2
  refine z_icmp_eq hC dL_law_891 (tgt := 1971) (by decide) (fun c891 => ?_) (fun c891 => ?_)
  rotate_left
  · exact absurd c891 (fun z => z rfl)
  refine z_widen (k := cells + 47) (n := slots + 14378) (by omega) (by omega) ?_
  exact K _ w1 w2 qe4 ke4 sz4 I4 X4 Y4 (k_fall hO) hk4 hD4 hM4

theorem L_fell (hS : lwH C f b L xs) (hi : i + 5 < L) (hO : DOK D) (hke : D.2.1.isSome = true → ke = true) (hD : DMe D I X Y) (hM : MMe qe D I X Y) (hr : cells + 47 ≤ 276180 ∧ slots + 14378 ≤ 8273710) (K : lwK C f (cells + 47) (slots + 14378) i) : zL C 4 (aB f z1 z2) (lS qe ke) cells slots sz I X Y 896 [some (zr 8 0), some (zr 3 0), some (zr 0 0), some (zi (nI i))] [] := by
  have hC := hS.1 z1 z2
  have hL := hS.2.2.2.2.2
  refine z_aload_n hC dL_law_896 rfl ?_
  refine z_aload_n hC dL_law_897 rfl ?_
  refine z_iload_n hC dL_law_898 rfl ?_
  refine z_iconst hC dL_law_899 (v := nI 1) rfl ?_
  refine z_nadd hC dL_law_900  ?_
  refine z_sld hC hS.2.1 hS.2.2.1 hS.2.2.2.1 hS.2.2.2.2.1 (by omega) (by omega) dL_law_901 ?_
  refine z_aload_n hC dL_law_902 rfl ?_
  refine z_iload_n hC dL_law_903 rfl ?_
  refine z_iconst hC dL_law_904 (v := nI 2) rfl ?_
  refine z_nadd hC dL_law_905  ?_
  refine z_sld hC hS.2.1 hS.2.2.1 hS.2.2.2.1 hS.2.2.2.2.1 (by omega) (by omega) dL_law_906 ?_
  refine z_lD hC dL_law_907 zlL_92 rfl rfl rfl rfl rfl ⟨by omega, by omega⟩ hM hke (fun S' h => o_fell h hO hD) (fun I3 X3 Y3 hD3 hM3 => ?_)
  refine z_aload_n hC dL_law_910 rfl ?_
  refine z_aload_n hC dL_law_911 rfl ?_
  refine z_iload_n hC dL_law_912 rfl ?_
  refine z_iconst hC dL_law_913 (v := nI 1) rfl ?_
  refine z_nadd hC dL_law_914  ?_
  refine z_sld hC hS.2.1 hS.2.2.1 hS.2.2.2.1 hS.2.2.2.2.1 (by omega) (by omega) dL_law_915 ?_
  refine z_aload_n hC dL_law_916 rfl ?_
  refine z_iload_n hC dL_law_917 rfl ?_
  refine z_iconst hC dL_law_918 (v := nI 2) rfl ?_
  refine z_nadd hC dL_law_919  ?_
  refine z_sld hC hS.2.1 hS.2.2.1 hS.2.2.2.1 hS.2.2.2.2.1 (by omega) (by omega) dL_law_920 ?_
  refine z_lM hS.1 dL_law_921 zlL_95 rfl rfl rfl rfl rfl ⟨by omega, by omega⟩ hM3 hD3 hke rfl rfl (fun z1 z2 I X Y hM hb1 hb2 => mQ.l (mC.q (m_fell (S := lM qe D.2.1.isSome) (fun _ => rfl) hO hM)) Q_fell) (fun w1 w2 qe4 ke4 I4 X4 Y4 sz4 hk4 hD4 hM4 => ?_)
  have hC := hS.1 w1 w2
  refine z_icmp_eq hC dL_law_924 (tgt := 1971) (by decide) (fun c924 => ?_) (fun c924 => ?_)
  rotate_left
  · exact absurd c924 (fun z => z rfl)
  refine z_widen (k := cells + 47) (n := slots + 14378) (by omega) (by omega) ?_
  exact K _ w1 w2 qe4 ke4 sz4 I4 X4 Y4 (k_fell hO) hk4 hD4 hM4

theorem L_weight (hS : lwH C f b L xs) (hi : i + 5 < L) (hO : DOK D) (hke : D.2.1.isSome = true → ke = true) (hD : DMe D I X Y) (hM : MMe qe D I X Y) (hr : cells + 47 ≤ 276180 ∧ slots + 14378 ≤ 8273710) (K : lwK C f (cells + 47) (slots + 14378) i) : zL C 4 (aB f z1 z2) (lS qe ke) cells slots sz I X Y 929 [some (zr 8 0), some (zr 3 0), some (zr 0 0), some (zi (nI i))] [] := by
  have hC := hS.1 z1 z2
  have hL := hS.2.2.2.2.2
  refine z_aload_n hC dL_law_929 rfl ?_
  refine z_aload_n hC dL_law_930 rfl ?_
  refine z_iload_n hC dL_law_931 rfl ?_
  refine z_iconst hC dL_law_932 (v := nI 1) rfl ?_
  refine z_nadd hC dL_law_933  ?_
  refine z_sld hC hS.2.1 hS.2.2.1 hS.2.2.2.1 hS.2.2.2.2.1 (by omega) (by omega) dL_law_934 ?_
  refine z_lD hC dL_law_935 zlL_96 rfl rfl rfl rfl rfl ⟨by omega, by omega⟩ hM hke (fun S' h => o_weight h hO hD) (fun I3 X3 Y3 hD3 hM3 => ?_)
  refine z_aload_n hC dL_law_938 rfl ?_
  refine z_aload_n hC dL_law_939 rfl ?_
  refine z_iload_n hC dL_law_940 rfl ?_
  refine z_iconst hC dL_law_941 (v := nI 1) rfl ?_
  refine z_nadd hC dL_law_942  ?_
  refine z_sld hC hS.2.1 hS.2.2.1 hS.2.2.2.1 hS.2.2.2.2.1 (by omega) (by omega) dL_law_943 ?_
  refine z_lM hS.1 dL_law_944 zlL_99 rfl rfl rfl rfl rfl ⟨by omega, by omega⟩ hM3 hD3 hke rfl rfl (fun z1 z2 I X Y hM hb1 hb2 => mQ.l (mC.q (m_weight (S := lM qe D.2.1.isSome) (fun _ => rfl) hO hM)) Q_weight) (fun w1 w2 qe4 ke4 I4 X4 Y4 sz4 hk4 hD4 hM4 => ?_)
  have hC := hS.1 w1 w2
  refine z_icmp_eq hC dL_law_947 (tgt := 1971) (by decide) (fun c947 => ?_) (fun c947 => ?_)
  rotate_left
  · exact absurd c947 (fun z => z rfl)
  refine z_widen (k := cells + 47) (n := slots + 14378) (by omega) (by omega) ?_
  exact K _ w1 w2 qe4 ke4 sz4 I4 X4 Y4 (k_weight hO) hk4 hD4 hM4

theorem L_likely (hS : lwH C f b L xs) (hi : i + 5 < L) (hO : DOK D) (hke : D.2.1.isSome = true → ke = true) (hD : DMe D I X Y) (hM : MMe qe D I X Y) (hr : cells + 47 ≤ 276180 ∧ slots + 14378 ≤ 8273710) (K : lwK C f (cells + 47) (slots + 14378) i) : zL C 4 (aB f z1 z2) (lS qe ke) cells slots sz I X Y 952 [some (zr 8 0), some (zr 3 0), some (zr 0 0), some (zi (nI i))] [] := by
  have hC := hS.1 z1 z2
  have hL := hS.2.2.2.2.2
  refine z_aload_n hC dL_law_952 rfl ?_
  refine z_aload_n hC dL_law_953 rfl ?_
  refine z_iload_n hC dL_law_954 rfl ?_
  refine z_iconst hC dL_law_955 (v := nI 1) rfl ?_
  refine z_nadd hC dL_law_956  ?_
  refine z_sld hC hS.2.1 hS.2.2.1 hS.2.2.2.1 hS.2.2.2.2.1 (by omega) (by omega) dL_law_957 ?_
  refine z_lD hC dL_law_958 zlL_100 rfl rfl rfl rfl rfl ⟨by omega, by omega⟩ hM hke (fun S' h => o_likely h hO hD) (fun I3 X3 Y3 hD3 hM3 => ?_)
  refine z_aload_n hC dL_law_961 rfl ?_
  refine z_aload_n hC dL_law_962 rfl ?_
  refine z_iload_n hC dL_law_963 rfl ?_
  refine z_iconst hC dL_law_964 (v := nI 1) rfl ?_
  refine z_nadd hC dL_law_965  ?_
  refine z_sld hC hS.2.1 hS.2.2.1 hS.2.2.2.1 hS.2.2.2.2.1 (by omega) (by omega) dL_law_966 ?_
  refine z_lM hS.1 dL_law_967 zlL_103 rfl rfl rfl rfl rfl ⟨by omega, by omega⟩ hM3 hD3 hke rfl rfl (fun z1 z2 I X Y hM hb1 hb2 => mQ.l (mC.q (m_likely (S := lM qe D.2.1.isSome) (fun _ => rfl) hO hM)) Q_likely) (fun w1 w2 qe4 ke4 I4 X4 Y4 sz4 hk4 hD4 hM4 => ?_)
  have hC := hS.1 w1 w2
  refine z_icmp_eq hC dL_law_970 (tgt := 1971) (by decide) (fun c970 => ?_) (fun c970 => ?_)
  rotate_left
  · exact absurd c970 (fun z => z rfl)
  refine z_widen (k := cells + 47) (n := slots + 14378) (by omega) (by omega) ?_
  exact K _ w1 w2 qe4 ke4 sz4 I4 X4 Y4 (k_likely hO) hk4 hD4 hM4

theorem L_between (hS : lwH C f b L xs) (hi : i + 5 < L) (hO : DOK D) (hke : D.2.1.isSome = true → ke = true) (hD : DMe D I X Y) (hM : MMe qe D I X Y) (hr : cells + 47 ≤ 276180 ∧ slots + 14378 ≤ 8273710) (K : lwK C f (cells + 47) (slots + 14378) i) : zL C 4 (aB f z1 z2) (lS qe ke) cells slots sz I X Y 975 [some (zr 8 0), some (zr 3 0), some (zr 0 0), some (zi (nI i))] [] := by
  have hC := hS.1 z1 z2
  have hL := hS.2.2.2.2.2
  refine z_aload_n hC dL_law_975 rfl ?_
  refine z_aload_n hC dL_law_976 rfl ?_
  refine z_iload_n hC dL_law_977 rfl ?_
  refine z_iconst hC dL_law_978 (v := nI 1) rfl ?_
  refine z_nadd hC dL_law_979  ?_
  refine z_sld hC hS.2.1 hS.2.2.1 hS.2.2.2.1 hS.2.2.2.2.1 (by omega) (by omega) dL_law_980 ?_
  refine z_aload_n hC dL_law_981 rfl ?_
  refine z_iload_n hC dL_law_982 rfl ?_
  refine z_iconst hC dL_law_983 (v := nI 2) rfl ?_
  refine z_nadd hC dL_law_984  ?_
  refine z_sld hC hS.2.1 hS.2.2.1 hS.2.2.2.1 hS.2.2.2.2.1 (by omega) (by omega) dL_law_985 ?_
  refine z_lD hC dL_law_986 zlL_104 rfl rfl rfl rfl rfl ⟨by omega, by omega⟩ hM hke (fun S' h => o_between h hO hD) (fun I3 X3 Y3 hD3 hM3 => ?_)
  refine z_aload_n hC dL_law_989 rfl ?_
  refine z_aload_n hC dL_law_990 rfl ?_
  refine z_iload_n hC dL_law_991 rfl ?_
  refine z_iconst hC dL_law_992 (v := nI 1) rfl ?_
  refine z_nadd hC dL_law_993  ?_
  refine z_sld hC hS.2.1 hS.2.2.1 hS.2.2.2.1 hS.2.2.2.2.1 (by omega) (by omega) dL_law_994 ?_
  refine z_aload_n hC dL_law_995 rfl ?_
  refine z_iload_n hC dL_law_996 rfl ?_
  refine z_iconst hC dL_law_997 (v := nI 2) rfl ?_
  refine z_nadd hC dL_law_998  ?_
  refine z_sld hC hS.2.1 hS.2.2.1 hS.2.2.2.1 hS.2.2.2.2.1 (by omega) (by omega) dL_law_999 ?_
  refine z_lM hS.1 dL_law_1000 zlL_107 rfl rfl rfl rfl rfl ⟨by omega, by omega⟩ hM3 hD3 hke rfl rfl (fun z1 z2 I X Y hM hb1 hb2 => mQ.l (mC.q (m_between (S := lM qe D.2.1.isSome) (fun _ => rfl) hO hM)) Q_between) (fun w1 w2 qe4 ke4 I4 X4 Y4 sz4 hk4 hD4 hM4 => ?_)
  have hC := hS.1 w1 w2
  refine z_icmp_eq hC dL_law_1003 (tgt := 1971) (by decide) (fun c1003 => ?_) (fun c1003 => ?_)
  rotate_left
  · exact absurd c1003 (fun z => z rfl)
  refine z_widen (k := cells + 47) (n := slots + 14378) (by omega) (by omega) ?_
  exact K _ w1 w2 qe4 ke4 sz4 I4 X4 Y4 (k_between hO) hk4 hD4 hM4

theorem L_half (hS : lwH C f b L xs) (hi : i + 5 < L) (hO : DOK D) (hke : D.2.1.isSome = true → ke = true) (hD : DMe D I X Y) (hM : MMe qe D I X Y) (hr : cells + 47 ≤ 276180 ∧ slots + 14378 ≤ 8273710) (K : lwK C f (cells + 47) (slots + 14378) i) : zL C 4 (aB f z1 z2) (lS qe ke) cells slots sz I X Y 1008 [some (zr 8 0), some (zr 3 0), some (zr 0 0), some (zi (nI i))] [] := by
  have hC := hS.1 z1 z2
  have hL := hS.2.2.2.2.2
  refine z_aload_n hC dL_law_1008 rfl ?_
  refine z_lD hC dL_law_1009 zlL_108 rfl rfl rfl rfl rfl ⟨by omega, by omega⟩ hM hke (fun S' h => o_half h hO hD) (fun I3 X3 Y3 hD3 hM3 => ?_)
  refine z_aload_n hC dL_law_1012 rfl ?_
  refine z_lM hS.1 dL_law_1013 zlL_111 rfl rfl rfl rfl rfl ⟨by omega, by omega⟩ hM3 hD3 hke rfl rfl (fun z1 z2 I X Y hM hb1 hb2 => mQ.l (mC.q (m_half (S := lM qe D.2.1.isSome) (fun _ => rfl) hO hM)) Q_half) (fun w1 w2 qe4 ke4 I4 X4 Y4 sz4 hk4 hD4 hM4 => ?_)
  have hC := hS.1 w1 w2
  refine z_icmp_eq hC dL_law_1016 (tgt := 1971) (by decide) (fun c1016 => ?_) (fun c1016 => ?_)
  rotate_left
  · exact absurd c1016 (fun z => z rfl)
  refine z_widen (k := cells + 47) (n := slots + 14378) (by omega) (by omega) ?_
  exact K _ w1 w2 qe4 ke4 sz4 I4 X4 Y4 hO hk4 hD4 hM4

theorem L_few (hS : lwH C f b L xs) (hi : i + 5 < L) (hO : DOK D) (hke : D.2.1.isSome = true → ke = true) (hD : DMe D I X Y) (hM : MMe qe D I X Y) (hr : cells + 47 ≤ 276180 ∧ slots + 14378 ≤ 8273710) (K : lwK C f (cells + 47) (slots + 14378) i) : zL C 4 (aB f z1 z2) (lS qe ke) cells slots sz I X Y 1021 [some (zr 8 0), some (zr 3 0), some (zr 0 0), some (zi (nI i))] [] := by
  have hC := hS.1 z1 z2
  have hL := hS.2.2.2.2.2
  refine z_aload_n hC dL_law_1021 rfl ?_
  refine z_aload_n hC dL_law_1022 rfl ?_
  refine z_iload_n hC dL_law_1023 rfl ?_
  refine z_iconst hC dL_law_1024 (v := nI 1) rfl ?_
  refine z_nadd hC dL_law_1025  ?_
  refine z_sld hC hS.2.1 hS.2.2.1 hS.2.2.2.1 hS.2.2.2.2.1 (by omega) (by omega) dL_law_1026 ?_
  refine z_lD hC dL_law_1027 zlL_112 rfl rfl rfl rfl rfl ⟨by omega, by omega⟩ hM hke (fun S' h => o_few h hO hD) (fun I3 X3 Y3 hD3 hM3 => ?_)
  refine z_aload_n hC dL_law_1030 rfl ?_
  refine z_aload_n hC dL_law_1031 rfl ?_
  refine z_iload_n hC dL_law_1032 rfl ?_
  refine z_iconst hC dL_law_1033 (v := nI 1) rfl ?_
  refine z_nadd hC dL_law_1034  ?_
  refine z_sld hC hS.2.1 hS.2.2.1 hS.2.2.2.1 hS.2.2.2.2.1 (by omega) (by omega) dL_law_1035 ?_
  refine z_lM hS.1 dL_law_1036 zlL_115 rfl rfl rfl rfl rfl ⟨by omega, by omega⟩ hM3 hD3 hke rfl rfl (fun z1 z2 I X Y hM hb1 hb2 => mQ.l (mC.q (m_few (S := lM qe D.2.1.isSome) (fun _ => rfl) hO hM)) Q_few) (fun w1 w2 qe4 ke4 I4 X4 Y4 sz4 hk4 hD4 hM4 => ?_)
  have hC := hS.1 w1 w2
  refine z_icmp_eq hC dL_law_1039 (tgt := 1971) (by decide) (fun c1039 => ?_) (fun c1039 => ?_)
  rotate_left
  · exact absurd c1039 (fun z => z rfl)
  refine z_widen (k := cells + 47) (n := slots + 14378) (by omega) (by omega) ?_
  exact K _ w1 w2 qe4 ke4 sz4 I4 X4 Y4 (k_few hO) hk4 hD4 hM4

theorem L_asks (hS : lwH C f b L xs) (hi : i + 5 < L) (hO : DOK D) (hke : D.2.1.isSome = true → ke = true) (hD : DMe D I X Y) (hM : MMe qe D I X Y) (hr : cells + 47 ≤ 276180 ∧ slots + 14378 ≤ 8273710) (K : lwK C f (cells + 47) (slots + 14378) i) : zL C 4 (aB f z1 z2) (lS qe ke) cells slots sz I X Y 1044 [some (zr 8 0), some (zr 3 0), some (zr 0 0), some (zi (nI i))] [] := by
  have hC := hS.1 z1 z2
  have hL := hS.2.2.2.2.2
  refine z_aload_n hC dL_law_1044 rfl ?_
  refine z_lD hC dL_law_1045 zlL_116 rfl rfl rfl rfl rfl ⟨by omega, by omega⟩ hM hke (fun S' h => o_asks h hO hD) (fun I3 X3 Y3 hD3 hM3 => ?_)
  refine z_aload_n hC dL_law_1048 rfl ?_
  refine z_lM hS.1 dL_law_1049 zlL_119 rfl rfl rfl rfl rfl ⟨by omega, by omega⟩ hM3 hD3 hke rfl rfl (fun z1 z2 I X Y hM hb1 hb2 => mQ.l (mC.q (m_asks (S := lM qe D.2.1.isSome) (fun _ => rfl) hO hM)) Q_asks) (fun w1 w2 qe4 ke4 I4 X4 Y4 sz4 hk4 hD4 hM4 => ?_)
  have hC := hS.1 w1 w2
  refine z_icmp_eq hC dL_law_1052 (tgt := 1971) (by decide) (fun c1052 => ?_) (fun c1052 => ?_)
  rotate_left
  · exact absurd c1052 (fun z => z rfl)
  refine z_widen (k := cells + 47) (n := slots + 14378) (by omega) (by omega) ?_
  exact K _ w1 w2 qe4 ke4 sz4 I4 X4 Y4 (k_asks hO) hk4 hD4 hM4

theorem L_after (hS : lwH C f b L xs) (hi : i + 5 < L) (hO : DOK D) (hke : D.2.1.isSome = true → ke = true) (hD : DMe D I X Y) (hM : MMe qe D I X Y) (hr : cells + 47 ≤ 276180 ∧ slots + 14378 ≤ 8273710) (K : lwK C f (cells + 47) (slots + 14378) i) : zL C 4 (aB f z1 z2) (lS qe ke) cells slots sz I X Y 1057 [some (zr 8 0), some (zr 3 0), some (zr 0 0), some (zi (nI i))] [] := by
  have hC := hS.1 z1 z2
  have hL := hS.2.2.2.2.2
  refine z_aload_n hC dL_law_1057 rfl ?_
  refine z_aload_n hC dL_law_1058 rfl ?_
  refine z_iload_n hC dL_law_1059 rfl ?_
  refine z_iconst hC dL_law_1060 (v := nI 1) rfl ?_
  refine z_nadd hC dL_law_1061  ?_
  refine z_sld hC hS.2.1 hS.2.2.1 hS.2.2.2.1 hS.2.2.2.2.1 (by omega) (by omega) dL_law_1062 ?_
  refine z_aload_n hC dL_law_1063 rfl ?_
  refine z_iload_n hC dL_law_1064 rfl ?_
  refine z_iconst hC dL_law_1065 (v := nI 2) rfl ?_
  refine z_nadd hC dL_law_1066  ?_
  refine z_sld hC hS.2.1 hS.2.2.1 hS.2.2.2.1 hS.2.2.2.2.1 (by omega) (by omega) dL_law_1067 ?_
  by_cases hz : xs (i + 2) = 0
  · skip
    refine z_if_eq hC dL_law_1068 (tgt := 1075) (by decide) (fun c1068 => ?_) (fun c1068 => ?_)
    rotate_left
    · exact absurd c1068 (fun z => z hz)
    refine z_iconst hC dL_law_1075 (v := nI 0) rfl ?_
    refine z_aload_n hC dL_law_1076 rfl ?_
    refine z_iload_n hC dL_law_1077 rfl ?_
    refine z_iconst hC dL_law_1078 (v := nI 3) rfl ?_
    refine z_nadd hC dL_law_1079  ?_
    refine z_sld hC hS.2.1 hS.2.2.1 hS.2.2.2.1 hS.2.2.2.2.1 (by omega) (by omega) dL_law_1080 ?_
    refine z_lD hC dL_law_1081 zlL_120 rfl rfl rfl rfl rfl ⟨by omega, by omega⟩ hM hke (fun S' h => o_after h hO hD (by decide)) (fun I3 X3 Y3 hD3 hM3 => ?_)
    refine z_aload_n hC dL_law_1084 rfl ?_
    refine z_aload_n hC dL_law_1085 rfl ?_
    refine z_iload_n hC dL_law_1086 rfl ?_
    refine z_iconst hC dL_law_1087 (v := nI 1) rfl ?_
    refine z_nadd hC dL_law_1088  ?_
    refine z_sld hC hS.2.1 hS.2.2.1 hS.2.2.2.1 hS.2.2.2.2.1 (by omega) (by omega) dL_law_1089 ?_
    refine z_aload_n hC dL_law_1090 rfl ?_
    refine z_iload_n hC dL_law_1091 rfl ?_
    refine z_iconst hC dL_law_1092 (v := nI 2) rfl ?_
    refine z_nadd hC dL_law_1093  ?_
    refine z_sld hC hS.2.1 hS.2.2.1 hS.2.2.2.1 hS.2.2.2.2.1 (by omega) (by omega) dL_law_1094 ?_
    refine z_if_eq hC dL_law_1095 (tgt := 1102) (by decide) (fun c1095 => ?_) (fun c1095 => ?_)
    rotate_left
    · exact absurd c1095 (fun z => z hz)
    refine z_iconst hC dL_law_1102 (v := nI 0) rfl ?_
    refine z_aload_n hC dL_law_1103 rfl ?_
    refine z_iload_n hC dL_law_1104 rfl ?_
    refine z_iconst hC dL_law_1105 (v := nI 3) rfl ?_
    refine z_nadd hC dL_law_1106  ?_
    refine z_sld hC hS.2.1 hS.2.2.1 hS.2.2.2.1 hS.2.2.2.2.1 (by omega) (by omega) dL_law_1107 ?_
    refine z_lM hS.1 dL_law_1108 zlL_123 rfl rfl rfl rfl rfl ⟨by omega, by omega⟩ hM3 hD3 hke rfl rfl (fun z1 z2 I X Y hM hb1 hb2 => mQ.l (mC.q (m_after (S := lM qe D.2.1.isSome) (fun _ => rfl) hO hM (by decide))) Q_after) (fun w1 w2 qe4 ke4 I4 X4 Y4 sz4 hk4 hD4 hM4 => ?_)
    have hC := hS.1 w1 w2
    refine z_icmp_eq hC dL_law_1111 (tgt := 1971) (by decide) (fun c1111 => ?_) (fun c1111 => ?_)
    rotate_left
    · exact absurd c1111 (fun z => z rfl)
    refine z_widen (k := cells + 47) (n := slots + 14378) (by omega) (by omega) ?_
    exact K _ w1 w2 qe4 ke4 sz4 I4 X4 Y4 (k_after hO) hk4 hD4 hM4
  · skip
    refine z_if_eq hC dL_law_1068 (tgt := 1075) (by decide) (fun c1068 => ?_) (fun c1068 => ?_)
    · exact absurd c1068 hz
    refine z_iconst hC dL_law_1071 (v := nI 1) rfl ?_
    refine z_goto hC dL_law_1072 (tgt := 1076) (by decide) ?_
    refine z_aload_n hC dL_law_1076 rfl ?_
    refine z_iload_n hC dL_law_1077 rfl ?_
    refine z_iconst hC dL_law_1078 (v := nI 3) rfl ?_
    refine z_nadd hC dL_law_1079  ?_
    refine z_sld hC hS.2.1 hS.2.2.1 hS.2.2.2.1 hS.2.2.2.2.1 (by omega) (by omega) dL_law_1080 ?_
    refine z_lD hC dL_law_1081 zlL_120 rfl rfl rfl rfl rfl ⟨by omega, by omega⟩ hM hke (fun S' h => o_after h hO hD (by decide)) (fun I3 X3 Y3 hD3 hM3 => ?_)
    refine z_aload_n hC dL_law_1084 rfl ?_
    refine z_aload_n hC dL_law_1085 rfl ?_
    refine z_iload_n hC dL_law_1086 rfl ?_
    refine z_iconst hC dL_law_1087 (v := nI 1) rfl ?_
    refine z_nadd hC dL_law_1088  ?_
    refine z_sld hC hS.2.1 hS.2.2.1 hS.2.2.2.1 hS.2.2.2.2.1 (by omega) (by omega) dL_law_1089 ?_
    refine z_aload_n hC dL_law_1090 rfl ?_
    refine z_iload_n hC dL_law_1091 rfl ?_
    refine z_iconst hC dL_law_1092 (v := nI 2) rfl ?_
    refine z_nadd hC dL_law_1093  ?_
    refine z_sld hC hS.2.1 hS.2.2.1 hS.2.2.2.1 hS.2.2.2.2.1 (by omega) (by omega) dL_law_1094 ?_
    refine z_if_eq hC dL_law_1095 (tgt := 1102) (by decide) (fun c1095 => ?_) (fun c1095 => ?_)
    · exact absurd c1095 hz
    refine z_iconst hC dL_law_1098 (v := nI 1) rfl ?_
    refine z_goto hC dL_law_1099 (tgt := 1103) (by decide) ?_
    refine z_aload_n hC dL_law_1103 rfl ?_
    refine z_iload_n hC dL_law_1104 rfl ?_
    refine z_iconst hC dL_law_1105 (v := nI 3) rfl ?_
    refine z_nadd hC dL_law_1106  ?_
    refine z_sld hC hS.2.1 hS.2.2.1 hS.2.2.2.1 hS.2.2.2.2.1 (by omega) (by omega) dL_law_1107 ?_
    refine z_lM hS.1 dL_law_1108 zlL_123 rfl rfl rfl rfl rfl ⟨by omega, by omega⟩ hM3 hD3 hke rfl rfl (fun z1 z2 I X Y hM hb1 hb2 => mQ.l (mC.q (m_after (S := lM qe D.2.1.isSome) (fun _ => rfl) hO hM (by decide))) Q_after) (fun w1 w2 qe4 ke4 I4 X4 Y4 sz4 hk4 hD4 hM4 => ?_)
    have hC := hS.1 w1 w2
    refine z_icmp_eq hC dL_law_1111 (tgt := 1971) (by decide) (fun c1111 => ?_) (fun c1111 => ?_)
    rotate_left
    · exact absurd c1111 (fun z => z rfl)
    refine z_widen (k := cells + 47) (n := slots + 14378) (by omega) (by omega) ?_
    exact K _ w1 w2 qe4 ke4 sz4 I4 X4 Y4 (k_after hO) hk4 hD4 hM4

theorem L_where (hS : lwH C f b L xs) (hi : i + 5 < L) (hO : DOK D) (hke : D.2.1.isSome = true → ke = true) (hD : DMe D I X Y) (hM : MMe qe D I X Y) (hr : cells + 47 ≤ 276180 ∧ slots + 14378 ≤ 8273710) (K : lwK C f (cells + 47) (slots + 14378) i) : zL C 4 (aB f z1 z2) (lS qe ke) cells slots sz I X Y 1116 [some (zr 8 0), some (zr 3 0), some (zr 0 0), some (zi (nI i))] [] := by
  have hC := hS.1 z1 z2
  have hL := hS.2.2.2.2.2
  refine z_aload_n hC dL_law_1116 rfl ?_
  refine z_lD hC dL_law_1117 zlL_124 rfl rfl rfl rfl rfl ⟨by omega, by omega⟩ hM hke (fun S' h => o_where h hO hD) (fun I3 X3 Y3 hD3 hM3 => ?_)
  refine z_aload_n hC dL_law_1120 rfl ?_
  refine z_lM hS.1 dL_law_1121 zlL_127 rfl rfl rfl rfl rfl ⟨by omega, by omega⟩ hM3 hD3 hke rfl rfl (fun z1 z2 I X Y hM hb1 hb2 => mQ.l (mC.q (m_where (S := lM qe D.2.1.isSome) (fun _ => rfl) hO hM)) Q_where) (fun w1 w2 qe4 ke4 I4 X4 Y4 sz4 hk4 hD4 hM4 => ?_)
  have hC := hS.1 w1 w2
  refine z_icmp_eq hC dL_law_1124 (tgt := 1971) (by decide) (fun c1124 => ?_) (fun c1124 => ?_)
  rotate_left
  · exact absurd c1124 (fun z => z rfl)
  refine z_widen (k := cells + 47) (n := slots + 14378) (by omega) (by omega) ?_
  exact K _ w1 w2 qe4 ke4 sz4 I4 X4 Y4 (k_where hO) hk4 hD4 hM4

theorem L_seconds (hS : lwH C f b L xs) (hi : i + 5 < L) (hO : DOK D) (hke : D.2.1.isSome = true → ke = true) (hD : DMe D I X Y) (hM : MMe qe D I X Y) (hr : cells + 47 ≤ 276180 ∧ slots + 14378 ≤ 8273710) (K : lwK C f (cells + 47) (slots + 14378) i) : zL C 4 (aB f z1 z2) (lS qe ke) cells slots sz I X Y 1129 [some (zr 8 0), some (zr 3 0), some (zr 0 0), some (zi (nI i))] [] := by
  have hC := hS.1 z1 z2
  have hL := hS.2.2.2.2.2
  refine z_aload_n hC dL_law_1129 rfl ?_
  refine z_aload_n hC dL_law_1130 rfl ?_
  refine z_iload_n hC dL_law_1131 rfl ?_
  refine z_iconst hC dL_law_1132 (v := nI 1) rfl ?_
  refine z_nadd hC dL_law_1133  ?_
  refine z_sld hC hS.2.1 hS.2.2.1 hS.2.2.2.1 hS.2.2.2.2.1 (by omega) (by omega) dL_law_1134 ?_
  refine z_aload_n hC dL_law_1135 rfl ?_
  refine z_iload_n hC dL_law_1136 rfl ?_
  refine z_iconst hC dL_law_1137 (v := nI 2) rfl ?_
  refine z_nadd hC dL_law_1138  ?_
  refine z_sld hC hS.2.1 hS.2.2.1 hS.2.2.2.1 hS.2.2.2.2.1 (by omega) (by omega) dL_law_1139 ?_
  refine z_lD hC dL_law_1140 zlL_128 rfl rfl rfl rfl rfl ⟨by omega, by omega⟩ hM hke (fun S' h => o_seconds h hO hD) (fun I3 X3 Y3 hD3 hM3 => ?_)
  refine z_aload_n hC dL_law_1143 rfl ?_
  refine z_aload_n hC dL_law_1144 rfl ?_
  refine z_iload_n hC dL_law_1145 rfl ?_
  refine z_iconst hC dL_law_1146 (v := nI 1) rfl ?_
  refine z_nadd hC dL_law_1147  ?_
  refine z_sld hC hS.2.1 hS.2.2.1 hS.2.2.2.1 hS.2.2.2.2.1 (by omega) (by omega) dL_law_1148 ?_
  refine z_aload_n hC dL_law_1149 rfl ?_
  refine z_iload_n hC dL_law_1150 rfl ?_
  refine z_iconst hC dL_law_1151 (v := nI 2) rfl ?_
  refine z_nadd hC dL_law_1152  ?_
  refine z_sld hC hS.2.1 hS.2.2.1 hS.2.2.2.1 hS.2.2.2.2.1 (by omega) (by omega) dL_law_1153 ?_
  refine z_lM hS.1 dL_law_1154 zlL_131 rfl rfl rfl rfl rfl ⟨by omega, by omega⟩ hM3 hD3 hke rfl rfl (fun z1 z2 I X Y hM hb1 hb2 => mQ.l (mC.q (m_seconds (S := lM qe D.2.1.isSome) (fun _ => rfl) hO hM)) Q_seconds) (fun w1 w2 qe4 ke4 I4 X4 Y4 sz4 hk4 hD4 hM4 => ?_)
  have hC := hS.1 w1 w2
  refine z_icmp_eq hC dL_law_1157 (tgt := 1971) (by decide) (fun c1157 => ?_) (fun c1157 => ?_)
  rotate_left
  · exact absurd c1157 (fun z => z rfl)
  refine z_widen (k := cells + 47) (n := slots + 14378) (by omega) (by omega) ?_
  exact K _ w1 w2 qe4 ke4 sz4 I4 X4 Y4 (k_seconds hO) hk4 hD4 hM4

theorem L_found (hS : lwH C f b L xs) (hi : i + 5 < L) (hO : DOK D) (hke : D.2.1.isSome = true → ke = true) (hD : DMe D I X Y) (hM : MMe qe D I X Y) (hr : cells + 47 ≤ 276180 ∧ slots + 14378 ≤ 8273710) (K : lwK C f (cells + 47) (slots + 14378) i) : zL C 4 (aB f z1 z2) (lS qe ke) cells slots sz I X Y 1162 [some (zr 8 0), some (zr 3 0), some (zr 0 0), some (zi (nI i))] [] := by
  have hC := hS.1 z1 z2
  have hL := hS.2.2.2.2.2
  refine z_aload_n hC dL_law_1162 rfl ?_
  refine z_aload_n hC dL_law_1163 rfl ?_
  refine z_iload_n hC dL_law_1164 rfl ?_
  refine z_iconst hC dL_law_1165 (v := nI 1) rfl ?_
  refine z_nadd hC dL_law_1166  ?_
  refine z_sld hC hS.2.1 hS.2.2.1 hS.2.2.2.1 hS.2.2.2.2.1 (by omega) (by omega) dL_law_1167 ?_
  refine z_aload_n hC dL_law_1168 rfl ?_
  refine z_iload_n hC dL_law_1169 rfl ?_
  refine z_iconst hC dL_law_1170 (v := nI 2) rfl ?_
  refine z_nadd hC dL_law_1171  ?_
  refine z_sld hC hS.2.1 hS.2.2.1 hS.2.2.2.1 hS.2.2.2.2.1 (by omega) (by omega) dL_law_1172 ?_
  refine z_lD hC dL_law_1173 zlL_132 rfl rfl rfl rfl rfl ⟨by omega, by omega⟩ hM hke (fun S' h => o_found h hO hD) (fun I3 X3 Y3 hD3 hM3 => ?_)
  refine z_aload_n hC dL_law_1176 rfl ?_
  refine z_aload_n hC dL_law_1177 rfl ?_
  refine z_iload_n hC dL_law_1178 rfl ?_
  refine z_iconst hC dL_law_1179 (v := nI 1) rfl ?_
  refine z_nadd hC dL_law_1180  ?_
  refine z_sld hC hS.2.1 hS.2.2.1 hS.2.2.2.1 hS.2.2.2.2.1 (by omega) (by omega) dL_law_1181 ?_
  refine z_aload_n hC dL_law_1182 rfl ?_
  refine z_iload_n hC dL_law_1183 rfl ?_
  refine z_iconst hC dL_law_1184 (v := nI 2) rfl ?_
  refine z_nadd hC dL_law_1185  ?_
  refine z_sld hC hS.2.1 hS.2.2.1 hS.2.2.2.1 hS.2.2.2.2.1 (by omega) (by omega) dL_law_1186 ?_
  refine z_lM hS.1 dL_law_1187 zlL_135 rfl rfl rfl rfl rfl ⟨by omega, by omega⟩ hM3 hD3 hke rfl rfl (fun z1 z2 I X Y hM hb1 hb2 => mQ.l (mC.q (m_found (S := lM qe D.2.1.isSome) (fun _ => rfl) hO hM)) Q_found) (fun w1 w2 qe4 ke4 I4 X4 Y4 sz4 hk4 hD4 hM4 => ?_)
  have hC := hS.1 w1 w2
  refine z_icmp_eq hC dL_law_1190 (tgt := 1971) (by decide) (fun c1190 => ?_) (fun c1190 => ?_)
  rotate_left
  · exact absurd c1190 (fun z => z rfl)
  refine z_widen (k := cells + 47) (n := slots + 14378) (by omega) (by omega) ?_
  exact K _ w1 w2 qe4 ke4 sz4 I4 X4 Y4 (k_found hO) hk4 hD4 hM4

theorem L_best (hS : lwH C f b L xs) (hi : i + 5 < L) (hO : DOK D) (hke : D.2.1.isSome = true → ke = true) (hD : DMe D I X Y) (hM : MMe qe D I X Y) (hr : cells + 47 ≤ 276180 ∧ slots + 14378 ≤ 8273710) (K : lwK C f (cells + 47) (slots + 14378) i) : zL C 4 (aB f z1 z2) (lS qe ke) cells slots sz I X Y 1195 [some (zr 8 0), some (zr 3 0), some (zr 0 0), some (zi (nI i))] [] := by
  have hC := hS.1 z1 z2
  have hL := hS.2.2.2.2.2
  refine z_aload_n hC dL_law_1195 rfl ?_
  refine z_aload_n hC dL_law_1196 rfl ?_
  refine z_iload_n hC dL_law_1197 rfl ?_
  refine z_iconst hC dL_law_1198 (v := nI 1) rfl ?_
  refine z_nadd hC dL_law_1199  ?_
  refine z_sld hC hS.2.1 hS.2.2.1 hS.2.2.2.1 hS.2.2.2.2.1 (by omega) (by omega) dL_law_1200 ?_
  refine z_aload_n hC dL_law_1201 rfl ?_
  refine z_iload_n hC dL_law_1202 rfl ?_
  refine z_iconst hC dL_law_1203 (v := nI 2) rfl ?_
  refine z_nadd hC dL_law_1204  ?_
  refine z_sld hC hS.2.1 hS.2.2.1 hS.2.2.2.1 hS.2.2.2.2.1 (by omega) (by omega) dL_law_1205 ?_
  refine z_lD hC dL_law_1206 zlL_136 rfl rfl rfl rfl rfl ⟨by omega, by omega⟩ hM hke (fun S' h => o_best h hO hD) (fun I3 X3 Y3 hD3 hM3 => ?_)
  refine z_aload_n hC dL_law_1209 rfl ?_
  refine z_aload_n hC dL_law_1210 rfl ?_
  refine z_iload_n hC dL_law_1211 rfl ?_
  refine z_iconst hC dL_law_1212 (v := nI 1) rfl ?_
  refine z_nadd hC dL_law_1213  ?_
  refine z_sld hC hS.2.1 hS.2.2.1 hS.2.2.2.1 hS.2.2.2.2.1 (by omega) (by omega) dL_law_1214 ?_
  refine z_aload_n hC dL_law_1215 rfl ?_
  refine z_iload_n hC dL_law_1216 rfl ?_
  refine z_iconst hC dL_law_1217 (v := nI 2) rfl ?_
  refine z_nadd hC dL_law_1218  ?_
  refine z_sld hC hS.2.1 hS.2.2.1 hS.2.2.2.1 hS.2.2.2.2.1 (by omega) (by omega) dL_law_1219 ?_
  refine z_lM hS.1 dL_law_1220 zlL_139 rfl rfl rfl rfl rfl ⟨by omega, by omega⟩ hM3 hD3 hke rfl rfl (fun z1 z2 I X Y hM hb1 hb2 => mQ.l (mC.q (m_best (S := lM qe D.2.1.isSome) (fun _ => rfl) hO hM)) Q_best) (fun w1 w2 qe4 ke4 I4 X4 Y4 sz4 hk4 hD4 hM4 => ?_)
  have hC := hS.1 w1 w2
  refine z_icmp_eq hC dL_law_1223 (tgt := 1971) (by decide) (fun c1223 => ?_) (fun c1223 => ?_)
  rotate_left
  · exact absurd c1223 (fun z => z rfl)
  refine z_widen (k := cells + 47) (n := slots + 14378) (by omega) (by omega) ?_
  exact K _ w1 w2 qe4 ke4 sz4 I4 X4 Y4 (k_best hO) hk4 hD4 hM4

theorem L_next (hS : lwH C f b L xs) (hi : i + 5 < L) (hO : DOK D) (hke : D.2.1.isSome = true → ke = true) (hD : DMe D I X Y) (hM : MMe qe D I X Y) (hr : cells + 47 ≤ 276180 ∧ slots + 14378 ≤ 8273710) (K : lwK C f (cells + 47) (slots + 14378) i) : zL C 4 (aB f z1 z2) (lS qe ke) cells slots sz I X Y 1228 [some (zr 8 0), some (zr 3 0), some (zr 0 0), some (zi (nI i))] [] := by
  have hC := hS.1 z1 z2
  have hL := hS.2.2.2.2.2
  refine z_aload_n hC dL_law_1228 rfl ?_
  refine z_lD hC dL_law_1229 zlL_140 rfl rfl rfl rfl rfl ⟨by omega, by omega⟩ hM hke (fun S' h => o_next h hO hD) (fun I3 X3 Y3 hD3 hM3 => ?_)
  refine z_aload_n hC dL_law_1232 rfl ?_
  refine z_lM hS.1 dL_law_1233 zlL_143 rfl rfl rfl rfl rfl ⟨by omega, by omega⟩ hM3 hD3 hke rfl rfl (fun z1 z2 I X Y hM hb1 hb2 => mQ.l (mC.q (m_next (S := lM qe D.2.1.isSome) (fun _ => rfl) hO hM)) Q_next) (fun w1 w2 qe4 ke4 I4 X4 Y4 sz4 hk4 hD4 hM4 => ?_)
  have hC := hS.1 w1 w2
  refine z_icmp_eq hC dL_law_1236 (tgt := 1971) (by decide) (fun c1236 => ?_) (fun c1236 => ?_)
  rotate_left
  · exact absurd c1236 (fun z => z rfl)
  refine z_widen (k := cells + 47) (n := slots + 14378) (by omega) (by omega) ?_
  exact K _ w1 w2 qe4 ke4 sz4 I4 X4 Y4 hO hk4 hD4 hM4

theorem L_soonest (hS : lwH C f b L xs) (hi : i + 5 < L) (hO : DOK D) (hke : D.2.1.isSome = true → ke = true) (hD : DMe D I X Y) (hM : MMe qe D I X Y) (hr : cells + 47 ≤ 276180 ∧ slots + 14378 ≤ 8273710) (K : lwK C f (cells + 47) (slots + 14378) i) : zL C 4 (aB f z1 z2) (lS qe ke) cells slots sz I X Y 1241 [some (zr 8 0), some (zr 3 0), some (zr 0 0), some (zi (nI i))] [] := by
  have hC := hS.1 z1 z2
  have hL := hS.2.2.2.2.2
  refine z_aload_n hC dL_law_1241 rfl ?_
  refine z_aload_n hC dL_law_1242 rfl ?_
  refine z_iload_n hC dL_law_1243 rfl ?_
  refine z_iconst hC dL_law_1244 (v := nI 1) rfl ?_
  refine z_nadd hC dL_law_1245  ?_
  refine z_sld hC hS.2.1 hS.2.2.1 hS.2.2.2.1 hS.2.2.2.2.1 (by omega) (by omega) dL_law_1246 ?_
  refine z_lD hC dL_law_1247 zlL_144 rfl rfl rfl rfl rfl ⟨by omega, by omega⟩ hM hke (fun S' h => o_soonest h hO hD) (fun I3 X3 Y3 hD3 hM3 => ?_)
  refine z_aload_n hC dL_law_1250 rfl ?_
  refine z_aload_n hC dL_law_1251 rfl ?_
  refine z_iload_n hC dL_law_1252 rfl ?_
  refine z_iconst hC dL_law_1253 (v := nI 1) rfl ?_
  refine z_nadd hC dL_law_1254  ?_
  refine z_sld hC hS.2.1 hS.2.2.1 hS.2.2.2.1 hS.2.2.2.2.1 (by omega) (by omega) dL_law_1255 ?_
  refine z_lM hS.1 dL_law_1256 zlL_147 rfl rfl rfl rfl rfl ⟨by omega, by omega⟩ hM3 hD3 hke rfl rfl (fun z1 z2 I X Y hM hb1 hb2 => mQ.l (mC.q (m_soonest (S := lM qe D.2.1.isSome) (fun _ => rfl) hO hM)) Q_soonest) (fun w1 w2 qe4 ke4 I4 X4 Y4 sz4 hk4 hD4 hM4 => ?_)
  have hC := hS.1 w1 w2
  refine z_icmp_eq hC dL_law_1259 (tgt := 1971) (by decide) (fun c1259 => ?_) (fun c1259 => ?_)
  rotate_left
  · exact absurd c1259 (fun z => z rfl)
  refine z_widen (k := cells + 47) (n := slots + 14378) (by omega) (by omega) ?_
  exact K _ w1 w2 qe4 ke4 sz4 I4 X4 Y4 (k_soonest hO) hk4 hD4 hM4

theorem L_order (hS : lwH C f b L xs) (hi : i + 5 < L) (hO : DOK D) (hke : D.2.1.isSome = true → ke = true) (hD : DMe D I X Y) (hM : MMe qe D I X Y) (hr : cells + 47 ≤ 276180 ∧ slots + 14378 ≤ 8273710) (K : lwK C f (cells + 47) (slots + 14378) i) : zL C 4 (aB f z1 z2) (lS qe ke) cells slots sz I X Y 1264 [some (zr 8 0), some (zr 3 0), some (zr 0 0), some (zi (nI i))] [] := by
  have hC := hS.1 z1 z2
  have hL := hS.2.2.2.2.2
  refine z_aload_n hC dL_law_1264 rfl ?_
  refine z_aload_n hC dL_law_1265 rfl ?_
  refine z_iload_n hC dL_law_1266 rfl ?_
  refine z_iconst hC dL_law_1267 (v := nI 1) rfl ?_
  refine z_nadd hC dL_law_1268  ?_
  refine z_sld hC hS.2.1 hS.2.2.1 hS.2.2.2.1 hS.2.2.2.2.1 (by omega) (by omega) dL_law_1269 ?_
  refine z_lD hC dL_law_1270 zlL_148 rfl rfl rfl rfl rfl ⟨by omega, by omega⟩ hM hke (fun S' h => o_order h hO hD) (fun I3 X3 Y3 hD3 hM3 => ?_)
  refine z_aload_n hC dL_law_1273 rfl ?_
  refine z_aload_n hC dL_law_1274 rfl ?_
  refine z_iload_n hC dL_law_1275 rfl ?_
  refine z_iconst hC dL_law_1276 (v := nI 1) rfl ?_
  refine z_nadd hC dL_law_1277  ?_
  refine z_sld hC hS.2.1 hS.2.2.1 hS.2.2.2.1 hS.2.2.2.2.1 (by omega) (by omega) dL_law_1278 ?_
  refine z_lM hS.1 dL_law_1279 zlL_151 rfl rfl rfl rfl rfl ⟨by omega, by omega⟩ hM3 hD3 hke rfl rfl (fun z1 z2 I X Y hM hb1 hb2 => mX.l (m_order (S := lM qe D.2.1.isSome) (fun _ => rfl) hO hM hb1) Q_order) (fun w1 w2 qe4 ke4 I4 X4 Y4 sz4 hk4 hD4 hM4 => ?_)
  have hC := hS.1 w1 w2
  refine z_icmp_eq hC dL_law_1282 (tgt := 1971) (by decide) (fun c1282 => ?_) (fun c1282 => ?_)
  rotate_left
  · exact absurd c1282 (fun z => z rfl)
  refine z_widen (k := cells + 47) (n := slots + 14378) (by omega) (by omega) ?_
  exact K _ w1 w2 qe4 ke4 sz4 I4 X4 Y4 (k_order hO) hk4 hD4 hM4

theorem L_vain (hS : lwH C f b L xs) (hi : i + 5 < L) (hO : DOK D) (hke : D.2.1.isSome = true → ke = true) (hD : DMe D I X Y) (hM : MMe qe D I X Y) (hr : cells + 47 ≤ 276180 ∧ slots + 14378 ≤ 8273710) (K : lwK C f (cells + 47) (slots + 14378) i) : zL C 4 (aB f z1 z2) (lS qe ke) cells slots sz I X Y 1287 [some (zr 8 0), some (zr 3 0), some (zr 0 0), some (zi (nI i))] [] := by
  have hC := hS.1 z1 z2
  have hL := hS.2.2.2.2.2
  refine z_aload_n hC dL_law_1287 rfl ?_
  refine z_aload_n hC dL_law_1288 rfl ?_
  refine z_iload_n hC dL_law_1289 rfl ?_
  refine z_iconst hC dL_law_1290 (v := nI 1) rfl ?_
  refine z_nadd hC dL_law_1291  ?_
  refine z_sld hC hS.2.1 hS.2.2.1 hS.2.2.2.1 hS.2.2.2.2.1 (by omega) (by omega) dL_law_1292 ?_
  refine z_lD hC dL_law_1293 zlL_152 rfl rfl rfl rfl rfl ⟨by omega, by omega⟩ hM hke (fun S' h => o_vain h hO hD) (fun I3 X3 Y3 hD3 hM3 => ?_)
  refine z_aload_n hC dL_law_1296 rfl ?_
  refine z_aload_n hC dL_law_1297 rfl ?_
  refine z_iload_n hC dL_law_1298 rfl ?_
  refine z_iconst hC dL_law_1299 (v := nI 1) rfl ?_
  refine z_nadd hC dL_law_1300  ?_
  refine z_sld hC hS.2.1 hS.2.2.1 hS.2.2.2.1 hS.2.2.2.2.1 (by omega) (by omega) dL_law_1301 ?_
  refine z_lM hS.1 dL_law_1302 zlL_155 rfl rfl rfl rfl rfl ⟨by omega, by omega⟩ hM3 hD3 hke rfl rfl (fun z1 z2 I X Y hM hb1 hb2 => mX.l (m_vain (S := lM qe D.2.1.isSome) (fun _ => rfl) hO hM hb1) Q_vain) (fun w1 w2 qe4 ke4 I4 X4 Y4 sz4 hk4 hD4 hM4 => ?_)
  have hC := hS.1 w1 w2
  refine z_icmp_eq hC dL_law_1305 (tgt := 1971) (by decide) (fun c1305 => ?_) (fun c1305 => ?_)
  rotate_left
  · exact absurd c1305 (fun z => z rfl)
  refine z_widen (k := cells + 47) (n := slots + 14378) (by omega) (by omega) ?_
  exact K _ w1 w2 qe4 ke4 sz4 I4 X4 Y4 (k_vain hO) hk4 hD4 hM4

theorem L_others (hS : lwH C f b L xs) (hi : i + 5 < L) (hO : DOK D) (hke : D.2.1.isSome = true → ke = true) (hD : DMe D I X Y) (hM : MMe qe D I X Y) (hr : cells + 47 ≤ 276180 ∧ slots + 14378 ≤ 8273710) (K : lwK C f (cells + 47) (slots + 14378) i) : zL C 4 (aB f z1 z2) (lS qe ke) cells slots sz I X Y 1310 [some (zr 8 0), some (zr 3 0), some (zr 0 0), some (zi (nI i))] [] := by
  have hC := hS.1 z1 z2
  have hL := hS.2.2.2.2.2
  refine z_aload_n hC dL_law_1310 rfl ?_
  refine z_aload_n hC dL_law_1311 rfl ?_
  refine z_iload_n hC dL_law_1312 rfl ?_
  refine z_iconst hC dL_law_1313 (v := nI 1) rfl ?_
  refine z_nadd hC dL_law_1314  ?_
  refine z_sld hC hS.2.1 hS.2.2.1 hS.2.2.2.1 hS.2.2.2.2.1 (by omega) (by omega) dL_law_1315 ?_
  refine z_lD hC dL_law_1316 zlL_156 rfl rfl rfl rfl rfl ⟨by omega, by omega⟩ hM hke (fun S' h => o_others h hO hD) (fun I3 X3 Y3 hD3 hM3 => ?_)
  refine z_aload_n hC dL_law_1319 rfl ?_
  refine z_aload_n hC dL_law_1320 rfl ?_
  refine z_iload_n hC dL_law_1321 rfl ?_
  refine z_iconst hC dL_law_1322 (v := nI 1) rfl ?_
  refine z_nadd hC dL_law_1323  ?_
  refine z_sld hC hS.2.1 hS.2.2.1 hS.2.2.2.1 hS.2.2.2.2.1 (by omega) (by omega) dL_law_1324 ?_
  refine z_lM hS.1 dL_law_1325 zlL_159 rfl rfl rfl rfl rfl ⟨by omega, by omega⟩ hM3 hD3 hke rfl rfl (fun z1 z2 I X Y hM hb1 hb2 => mQ.l (mC.q (m_others (S := lM qe D.2.1.isSome) (fun _ => rfl) hO hM)) Q_others) (fun w1 w2 qe4 ke4 I4 X4 Y4 sz4 hk4 hD4 hM4 => ?_)
  have hC := hS.1 w1 w2
  refine z_icmp_eq hC dL_law_1328 (tgt := 1971) (by decide) (fun c1328 => ?_) (fun c1328 => ?_)
  rotate_left
  · exact absurd c1328 (fun z => z rfl)
  refine z_widen (k := cells + 47) (n := slots + 14378) (by omega) (by omega) ?_
  exact K _ w1 w2 qe4 ke4 sz4 I4 X4 Y4 (k_others hO) hk4 hD4 hM4

theorem L_fast (hS : lwH C f b L xs) (hi : i + 5 < L) (hO : DOK D) (hke : D.2.1.isSome = true → ke = true) (hD : DMe D I X Y) (hM : MMe qe D I X Y) (hr : cells + 47 ≤ 276180 ∧ slots + 14378 ≤ 8273710) (K : lwK C f (cells + 47) (slots + 14378) i) : zL C 4 (aB f z1 z2) (lS qe ke) cells slots sz I X Y 1333 [some (zr 8 0), some (zr 3 0), some (zr 0 0), some (zi (nI i))] [] := by
  have hC := hS.1 z1 z2
  have hL := hS.2.2.2.2.2
  refine z_aload_n hC dL_law_1333 rfl ?_
  refine z_aload_n hC dL_law_1334 rfl ?_
  refine z_iload_n hC dL_law_1335 rfl ?_
  refine z_iconst hC dL_law_1336 (v := nI 1) rfl ?_
  refine z_nadd hC dL_law_1337  ?_
  refine z_sld hC hS.2.1 hS.2.2.1 hS.2.2.2.1 hS.2.2.2.2.1 (by omega) (by omega) dL_law_1338 ?_
  refine z_lD hC dL_law_1339 zlL_160 rfl rfl rfl rfl rfl ⟨by omega, by omega⟩ hM hke (fun S' h => o_fast h hO hD) (fun I3 X3 Y3 hD3 hM3 => ?_)
  refine z_aload_n hC dL_law_1342 rfl ?_
  refine z_aload_n hC dL_law_1343 rfl ?_
  refine z_iload_n hC dL_law_1344 rfl ?_
  refine z_iconst hC dL_law_1345 (v := nI 1) rfl ?_
  refine z_nadd hC dL_law_1346  ?_
  refine z_sld hC hS.2.1 hS.2.2.1 hS.2.2.2.1 hS.2.2.2.2.1 (by omega) (by omega) dL_law_1347 ?_
  refine z_lM hS.1 dL_law_1348 zlL_163 rfl rfl rfl rfl rfl ⟨by omega, by omega⟩ hM3 hD3 hke rfl rfl (fun z1 z2 I X Y hM hb1 hb2 => mQ.l (m_fast (S := lM qe D.2.1.isSome) (fun _ => rfl) hO hM) Q_fast) (fun w1 w2 qe4 ke4 I4 X4 Y4 sz4 hk4 hD4 hM4 => ?_)
  have hC := hS.1 w1 w2
  refine z_icmp_eq hC dL_law_1351 (tgt := 1971) (by decide) (fun c1351 => ?_) (fun c1351 => ?_)
  rotate_left
  · exact absurd c1351 (fun z => z rfl)
  refine z_widen (k := cells + 47) (n := slots + 14378) (by omega) (by omega) ?_
  exact K _ w1 w2 qe4 ke4 sz4 I4 X4 Y4 (k_fast hO) hk4 hD4 hM4

theorem L_drove (hS : lwH C f b L xs) (hi : i + 5 < L) (hO : DOK D) (hke : D.2.1.isSome = true → ke = true) (hD : DMe D I X Y) (hM : MMe qe D I X Y) (hr : cells + 47 ≤ 276180 ∧ slots + 14378 ≤ 8273710) (K : lwK C f (cells + 47) (slots + 14378) i) : zL C 4 (aB f z1 z2) (lS qe ke) cells slots sz I X Y 1356 [some (zr 8 0), some (zr 3 0), some (zr 0 0), some (zi (nI i))] [] := by
  have hC := hS.1 z1 z2
  have hL := hS.2.2.2.2.2
  refine z_aload_n hC dL_law_1356 rfl ?_
  refine z_aload_n hC dL_law_1357 rfl ?_
  refine z_iload_n hC dL_law_1358 rfl ?_
  refine z_iconst hC dL_law_1359 (v := nI 1) rfl ?_
  refine z_nadd hC dL_law_1360  ?_
  refine z_sld hC hS.2.1 hS.2.2.1 hS.2.2.2.1 hS.2.2.2.2.1 (by omega) (by omega) dL_law_1361 ?_
  refine z_lD hC dL_law_1362 zlL_164 rfl rfl rfl rfl rfl ⟨by omega, by omega⟩ hM hke (fun S' h => o_drove h hO hD) (fun I3 X3 Y3 hD3 hM3 => ?_)
  refine z_aload_n hC dL_law_1365 rfl ?_
  refine z_aload_n hC dL_law_1366 rfl ?_
  refine z_iload_n hC dL_law_1367 rfl ?_
  refine z_iconst hC dL_law_1368 (v := nI 1) rfl ?_
  refine z_nadd hC dL_law_1369  ?_
  refine z_sld hC hS.2.1 hS.2.2.1 hS.2.2.2.1 hS.2.2.2.2.1 (by omega) (by omega) dL_law_1370 ?_
  refine z_lM hS.1 dL_law_1371 zlL_167 rfl rfl rfl rfl rfl ⟨by omega, by omega⟩ hM3 hD3 hke rfl rfl (fun z1 z2 I X Y hM hb1 hb2 => mQ.l (m_drove (S := lM qe D.2.1.isSome) (fun _ => rfl) hO hM) Q_drove) (fun w1 w2 qe4 ke4 I4 X4 Y4 sz4 hk4 hD4 hM4 => ?_)
  have hC := hS.1 w1 w2
  refine z_icmp_eq hC dL_law_1374 (tgt := 1971) (by decide) (fun c1374 => ?_) (fun c1374 => ?_)
  rotate_left
  · exact absurd c1374 (fun z => z rfl)
  refine z_widen (k := cells + 47) (n := slots + 14378) (by omega) (by omega) ?_
  exact K _ w1 w2 qe4 ke4 sz4 I4 X4 Y4 (k_drove hO) hk4 hD4 hM4

theorem L_gripFor (hS : lwH C f b L xs) (hi : i + 5 < L) (hO : DOK D) (hke : D.2.1.isSome = true → ke = true) (hD : DMe D I X Y) (hM : MMe qe D I X Y) (hr : cells + 47 ≤ 276180 ∧ slots + 14378 ≤ 8273710) (K : lwK C f (cells + 47) (slots + 14378) i) : zL C 4 (aB f z1 z2) (lS qe ke) cells slots sz I X Y 1379 [some (zr 8 0), some (zr 3 0), some (zr 0 0), some (zi (nI i))] [] := by
  have hC := hS.1 z1 z2
  have hL := hS.2.2.2.2.2
  refine z_aload_n hC dL_law_1379 rfl ?_
  refine z_aload_n hC dL_law_1380 rfl ?_
  refine z_iload_n hC dL_law_1381 rfl ?_
  refine z_iconst hC dL_law_1382 (v := nI 1) rfl ?_
  refine z_nadd hC dL_law_1383  ?_
  refine z_sld hC hS.2.1 hS.2.2.1 hS.2.2.2.1 hS.2.2.2.2.1 (by omega) (by omega) dL_law_1384 ?_
  refine z_lD hC dL_law_1385 zlL_168 rfl rfl rfl rfl rfl ⟨by omega, by omega⟩ hM hke (fun S' h => o_gripFor h hO hD) (fun I3 X3 Y3 hD3 hM3 => ?_)
  refine z_aload_n hC dL_law_1388 rfl ?_
  refine z_aload_n hC dL_law_1389 rfl ?_
  refine z_iload_n hC dL_law_1390 rfl ?_
  refine z_iconst hC dL_law_1391 (v := nI 1) rfl ?_
  refine z_nadd hC dL_law_1392  ?_
  refine z_sld hC hS.2.1 hS.2.2.1 hS.2.2.2.1 hS.2.2.2.2.1 (by omega) (by omega) dL_law_1393 ?_
  refine z_lM hS.1 dL_law_1394 zlL_171 rfl rfl rfl rfl rfl ⟨by omega, by omega⟩ hM3 hD3 hke rfl rfl (fun z1 z2 I X Y hM hb1 hb2 => mX.l (m_gripFor (S := lM qe D.2.1.isSome) (fun _ => rfl) hO hM hb1) Q_gripFor) (fun w1 w2 qe4 ke4 I4 X4 Y4 sz4 hk4 hD4 hM4 => ?_)
  have hC := hS.1 w1 w2
  refine z_icmp_eq hC dL_law_1397 (tgt := 1971) (by decide) (fun c1397 => ?_) (fun c1397 => ?_)
  rotate_left
  · exact absurd c1397 (fun z => z rfl)
  refine z_widen (k := cells + 47) (n := slots + 14378) (by omega) (by omega) ?_
  exact K _ w1 w2 qe4 ke4 sz4 I4 X4 Y4 (k_gripFor hO) hk4 hD4 hM4

theorem L_otherwise (hS : lwH C f b L xs) (hi : i + 5 < L) (hO : DOK D) (hke : D.2.1.isSome = true → ke = true) (hD : DMe D I X Y) (hM : MMe qe D I X Y) (hr : cells + 47 ≤ 276180 ∧ slots + 14378 ≤ 8273710) (K : lwK C f (cells + 47) (slots + 14378) i) : zL C 4 (aB f z1 z2) (lS qe ke) cells slots sz I X Y 1402 [some (zr 8 0), some (zr 3 0), some (zr 0 0), some (zi (nI i))] [] := by
  have hC := hS.1 z1 z2
  have hL := hS.2.2.2.2.2
  refine z_aload_n hC dL_law_1402 rfl ?_
  refine z_lD hC dL_law_1403 zlL_172 rfl rfl rfl rfl rfl ⟨by omega, by omega⟩ hM hke (fun S' h => o_otherwise h hO hD) (fun I3 X3 Y3 hD3 hM3 => ?_)
  refine z_aload_n hC dL_law_1406 rfl ?_
  refine z_lM hS.1 dL_law_1407 zlL_175 rfl rfl rfl rfl rfl ⟨by omega, by omega⟩ hM3 hD3 hke rfl rfl (fun z1 z2 I X Y hM hb1 hb2 => mX.l (m_otherwise (S := lM qe D.2.1.isSome) (fun _ => rfl) hO hM hb1) Q_otherwise) (fun w1 w2 qe4 ke4 I4 X4 Y4 sz4 hk4 hD4 hM4 => ?_)
  have hC := hS.1 w1 w2
  refine z_icmp_eq hC dL_law_1410 (tgt := 1971) (by decide) (fun c1410 => ?_) (fun c1410 => ?_)
  rotate_left
  · exact absurd c1410 (fun z => z rfl)
  refine z_widen (k := cells + 47) (n := slots + 14378) (by omega) (by omega) ?_
  exact K _ w1 w2 qe4 ke4 sz4 I4 X4 Y4 hO hk4 hD4 hM4

theorem L_slows (hS : lwH C f b L xs) (hi : i + 5 < L) (hO : DOK D) (hke : D.2.1.isSome = true → ke = true) (hD : DMe D I X Y) (hM : MMe qe D I X Y) (hr : cells + 47 ≤ 276180 ∧ slots + 14378 ≤ 8273710) (K : lwK C f (cells + 47) (slots + 14378) i) : zL C 4 (aB f z1 z2) (lS qe ke) cells slots sz I X Y 1415 [some (zr 8 0), some (zr 3 0), some (zr 0 0), some (zi (nI i))] [] := by
  have hC := hS.1 z1 z2
  have hL := hS.2.2.2.2.2
  refine z_aload_n hC dL_law_1415 rfl ?_
  refine z_aload_n hC dL_law_1416 rfl ?_
  refine z_iload_n hC dL_law_1417 rfl ?_
  refine z_iconst hC dL_law_1418 (v := nI 1) rfl ?_
  refine z_nadd hC dL_law_1419  ?_
  refine z_sld hC hS.2.1 hS.2.2.1 hS.2.2.2.1 hS.2.2.2.2.1 (by omega) (by omega) dL_law_1420 ?_
  refine z_lD hC dL_law_1421 zlL_176 rfl rfl rfl rfl rfl ⟨by omega, by omega⟩ hM hke (fun S' h => o_slows h hO hD) (fun I3 X3 Y3 hD3 hM3 => ?_)
  refine z_aload_n hC dL_law_1424 rfl ?_
  refine z_aload_n hC dL_law_1425 rfl ?_
  refine z_iload_n hC dL_law_1426 rfl ?_
  refine z_iconst hC dL_law_1427 (v := nI 1) rfl ?_
  refine z_nadd hC dL_law_1428  ?_
  refine z_sld hC hS.2.1 hS.2.2.1 hS.2.2.2.1 hS.2.2.2.2.1 (by omega) (by omega) dL_law_1429 ?_
  refine z_lM hS.1 dL_law_1430 zlL_179 rfl rfl rfl rfl rfl ⟨by omega, by omega⟩ hM3 hD3 hke rfl rfl (fun z1 z2 I X Y hM hb1 hb2 => mQ.l (m_slows (S := lM qe D.2.1.isSome) (fun _ => rfl) hO hM) Q_slows) (fun w1 w2 qe4 ke4 I4 X4 Y4 sz4 hk4 hD4 hM4 => ?_)
  have hC := hS.1 w1 w2
  refine z_icmp_eq hC dL_law_1433 (tgt := 1971) (by decide) (fun c1433 => ?_) (fun c1433 => ?_)
  rotate_left
  · exact absurd c1433 (fun z => z rfl)
  refine z_widen (k := cells + 47) (n := slots + 14378) (by omega) (by omega) ?_
  exact K _ w1 w2 qe4 ke4 sz4 I4 X4 Y4 (k_slows hO) hk4 hD4 hM4

theorem L_without (hS : lwH C f b L xs) (hi : i + 5 < L) (hO : DOK D) (hke : D.2.1.isSome = true → ke = true) (hD : DMe D I X Y) (hM : MMe qe D I X Y) (hr : cells + 47 ≤ 276180 ∧ slots + 14378 ≤ 8273710) (K : lwK C f (cells + 47) (slots + 14378) i) : zL C 4 (aB f z1 z2) (lS qe ke) cells slots sz I X Y 1438 [some (zr 8 0), some (zr 3 0), some (zr 0 0), some (zi (nI i))] [] := by
  have hC := hS.1 z1 z2
  have hL := hS.2.2.2.2.2
  refine z_aload_n hC dL_law_1438 rfl ?_
  refine z_aload_n hC dL_law_1439 rfl ?_
  refine z_iload_n hC dL_law_1440 rfl ?_
  refine z_iconst hC dL_law_1441 (v := nI 1) rfl ?_
  refine z_nadd hC dL_law_1442  ?_
  refine z_sld hC hS.2.1 hS.2.2.1 hS.2.2.2.1 hS.2.2.2.2.1 (by omega) (by omega) dL_law_1443 ?_
  refine z_lD hC dL_law_1444 zlL_180 rfl rfl rfl rfl rfl ⟨by omega, by omega⟩ hM hke (fun S' h => o_without h hO hD) (fun I3 X3 Y3 hD3 hM3 => ?_)
  refine z_aload_n hC dL_law_1447 rfl ?_
  refine z_aload_n hC dL_law_1448 rfl ?_
  refine z_iload_n hC dL_law_1449 rfl ?_
  refine z_iconst hC dL_law_1450 (v := nI 1) rfl ?_
  refine z_nadd hC dL_law_1451  ?_
  refine z_sld hC hS.2.1 hS.2.2.1 hS.2.2.2.1 hS.2.2.2.2.1 (by omega) (by omega) dL_law_1452 ?_
  refine z_lM hS.1 dL_law_1453 zlL_183 rfl rfl rfl rfl rfl ⟨by omega, by omega⟩ hM3 hD3 hke rfl rfl (fun z1 z2 I X Y hM hb1 hb2 => mQ.l (m_without (S := lM qe D.2.1.isSome) (fun _ => rfl) hO hM) Q_without) (fun w1 w2 qe4 ke4 I4 X4 Y4 sz4 hk4 hD4 hM4 => ?_)
  have hC := hS.1 w1 w2
  refine z_icmp_eq hC dL_law_1456 (tgt := 1971) (by decide) (fun c1456 => ?_) (fun c1456 => ?_)
  rotate_left
  · exact absurd c1456 (fun z => z rfl)
  refine z_widen (k := cells + 47) (n := slots + 14378) (by omega) (by omega) ?_
  exact K _ w1 w2 qe4 ke4 sz4 I4 X4 Y4 (k_without hO) hk4 hD4 hM4

theorem L_once (hS : lwH C f b L xs) (hi : i + 5 < L) (hO : DOK D) (hke : D.2.1.isSome = true → ke = true) (hD : DMe D I X Y) (hM : MMe qe D I X Y) (hr : cells + 47 ≤ 276180 ∧ slots + 14378 ≤ 8273710) (K : lwK C f (cells + 47) (slots + 14378) i) : zL C 4 (aB f z1 z2) (lS qe ke) cells slots sz I X Y 1461 [some (zr 8 0), some (zr 3 0), some (zr 0 0), some (zi (nI i))] [] := by
  have hC := hS.1 z1 z2
  have hL := hS.2.2.2.2.2
  refine z_aload_n hC dL_law_1461 rfl ?_
  refine z_aload_n hC dL_law_1462 rfl ?_
  refine z_iload_n hC dL_law_1463 rfl ?_
  refine z_iconst hC dL_law_1464 (v := nI 1) rfl ?_
  refine z_nadd hC dL_law_1465  ?_
  refine z_sld hC hS.2.1 hS.2.2.1 hS.2.2.2.1 hS.2.2.2.2.1 (by omega) (by omega) dL_law_1466 ?_
  refine z_lD hC dL_law_1467 zlL_184 rfl rfl rfl rfl rfl ⟨by omega, by omega⟩ hM hke (fun S' h => o_once h hO hD) (fun I3 X3 Y3 hD3 hM3 => ?_)
  refine z_aload_n hC dL_law_1470 rfl ?_
  refine z_aload_n hC dL_law_1471 rfl ?_
  refine z_iload_n hC dL_law_1472 rfl ?_
  refine z_iconst hC dL_law_1473 (v := nI 1) rfl ?_
  refine z_nadd hC dL_law_1474  ?_
  refine z_sld hC hS.2.1 hS.2.2.1 hS.2.2.2.1 hS.2.2.2.2.1 (by omega) (by omega) dL_law_1475 ?_
  refine z_lM hS.1 dL_law_1476 zlL_187 rfl rfl rfl rfl rfl ⟨by omega, by omega⟩ hM3 hD3 hke rfl rfl (fun z1 z2 I X Y hM hb1 hb2 => mQ.l (mC.q (m_once (S := lM qe D.2.1.isSome) (fun _ => rfl) hO hM)) Q_once) (fun w1 w2 qe4 ke4 I4 X4 Y4 sz4 hk4 hD4 hM4 => ?_)
  have hC := hS.1 w1 w2
  refine z_icmp_eq hC dL_law_1479 (tgt := 1971) (by decide) (fun c1479 => ?_) (fun c1479 => ?_)
  rotate_left
  · exact absurd c1479 (fun z => z rfl)
  refine z_widen (k := cells + 47) (n := slots + 14378) (by omega) (by omega) ?_
  exact K _ w1 w2 qe4 ke4 sz4 I4 X4 Y4 (k_once hO) hk4 hD4 hM4

theorem L_until (hS : lwH C f b L xs) (hi : i + 5 < L) (hO : DOK D) (hke : D.2.1.isSome = true → ke = true) (hD : DMe D I X Y) (hM : MMe qe D I X Y) (hr : cells + 47 ≤ 276180 ∧ slots + 14378 ≤ 8273710) (K : lwK C f (cells + 47) (slots + 14378) i) : zL C 4 (aB f z1 z2) (lS qe ke) cells slots sz I X Y 1484 [some (zr 8 0), some (zr 3 0), some (zr 0 0), some (zi (nI i))] [] := by
  have hC := hS.1 z1 z2
  have hL := hS.2.2.2.2.2
  refine z_aload_n hC dL_law_1484 rfl ?_
  refine z_aload_n hC dL_law_1485 rfl ?_
  refine z_iload_n hC dL_law_1486 rfl ?_
  refine z_iconst hC dL_law_1487 (v := nI 1) rfl ?_
  refine z_nadd hC dL_law_1488  ?_
  refine z_sld hC hS.2.1 hS.2.2.1 hS.2.2.2.1 hS.2.2.2.2.1 (by omega) (by omega) dL_law_1489 ?_
  refine z_lD hC dL_law_1490 zlL_188 rfl rfl rfl rfl rfl ⟨by omega, by omega⟩ hM hke (fun S' h => o_until h hO hD) (fun I3 X3 Y3 hD3 hM3 => ?_)
  refine z_aload_n hC dL_law_1493 rfl ?_
  refine z_aload_n hC dL_law_1494 rfl ?_
  refine z_iload_n hC dL_law_1495 rfl ?_
  refine z_iconst hC dL_law_1496 (v := nI 1) rfl ?_
  refine z_nadd hC dL_law_1497  ?_
  refine z_sld hC hS.2.1 hS.2.2.1 hS.2.2.2.1 hS.2.2.2.2.1 (by omega) (by omega) dL_law_1498 ?_
  refine z_lM hS.1 dL_law_1499 zlL_191 rfl rfl rfl rfl rfl ⟨by omega, by omega⟩ hM3 hD3 hke rfl rfl (fun z1 z2 I X Y hM hb1 hb2 => mQ.l (mC.q (m_until (S := lM qe D.2.1.isSome) (fun _ => rfl) hO hM)) Q_until) (fun w1 w2 qe4 ke4 I4 X4 Y4 sz4 hk4 hD4 hM4 => ?_)
  have hC := hS.1 w1 w2
  refine z_icmp_eq hC dL_law_1502 (tgt := 1971) (by decide) (fun c1502 => ?_) (fun c1502 => ?_)
  rotate_left
  · exact absurd c1502 (fun z => z rfl)
  refine z_widen (k := cells + 47) (n := slots + 14378) (by omega) (by omega) ?_
  exact K _ w1 w2 qe4 ke4 sz4 I4 X4 Y4 (k_until hO) hk4 hD4 hM4

theorem L_worst (hS : lwH C f b L xs) (hi : i + 5 < L) (hO : DOK D) (hke : D.2.1.isSome = true → ke = true) (hD : DMe D I X Y) (hM : MMe qe D I X Y) (hr : cells + 47 ≤ 276180 ∧ slots + 14378 ≤ 8273710) (K : lwK C f (cells + 47) (slots + 14378) i) : zL C 4 (aB f z1 z2) (lS qe ke) cells slots sz I X Y 1507 [some (zr 8 0), some (zr 3 0), some (zr 0 0), some (zi (nI i))] [] := by
  have hC := hS.1 z1 z2
  have hL := hS.2.2.2.2.2
  refine z_aload_n hC dL_law_1507 rfl ?_
  refine z_lD hC dL_law_1508 zlL_192 rfl rfl rfl rfl rfl ⟨by omega, by omega⟩ hM hke (fun S' h => o_worst h hO hD) (fun I3 X3 Y3 hD3 hM3 => ?_)
  refine z_aload_n hC dL_law_1511 rfl ?_
  refine z_lM hS.1 dL_law_1512 zlL_195 rfl rfl rfl rfl rfl ⟨by omega, by omega⟩ hM3 hD3 hke rfl rfl (fun z1 z2 I X Y hM hb1 hb2 => mQ.l (mC.q (m_worst (S := lM qe D.2.1.isSome) (fun _ => rfl) hO hM)) Q_worst) (fun w1 w2 qe4 ke4 I4 X4 Y4 sz4 hk4 hD4 hM4 => ?_)
  have hC := hS.1 w1 w2
  refine z_icmp_eq hC dL_law_1515 (tgt := 1971) (by decide) (fun c1515 => ?_) (fun c1515 => ?_)
  rotate_left
  · exact absurd c1515 (fun z => z rfl)
  refine z_widen (k := cells + 47) (n := slots + 14378) (by omega) (by omega) ?_
  exact K _ w1 w2 qe4 ke4 sz4 I4 X4 Y4 (k_worst hO) hk4 hD4 hM4

theorem L_last (hS : lwH C f b L xs) (hi : i + 5 < L) (hO : DOK D) (hke : D.2.1.isSome = true → ke = true) (hD : DMe D I X Y) (hM : MMe qe D I X Y) (hr : cells + 47 ≤ 276180 ∧ slots + 14378 ≤ 8273710) (K : lwK C f (cells + 47) (slots + 14378) i) : zL C 4 (aB f z1 z2) (lS qe ke) cells slots sz I X Y 1520 [some (zr 8 0), some (zr 3 0), some (zr 0 0), some (zi (nI i))] [] := by
  have hC := hS.1 z1 z2
  have hL := hS.2.2.2.2.2
  refine z_aload_n hC dL_law_1520 rfl ?_
  refine z_lD hC dL_law_1521 zlL_196 rfl rfl rfl rfl rfl ⟨by omega, by omega⟩ hM hke (fun S' h => o_last h hO hD) (fun I3 X3 Y3 hD3 hM3 => ?_)
  refine z_aload_n hC dL_law_1524 rfl ?_
  refine z_lM hS.1 dL_law_1525 zlL_199 rfl rfl rfl rfl rfl ⟨by omega, by omega⟩ hM3 hD3 hke rfl rfl (fun z1 z2 I X Y hM hb1 hb2 => mQ.l (mC.q (m_last (S := lM qe D.2.1.isSome) (fun _ => rfl) hO hM)) Q_last) (fun w1 w2 qe4 ke4 I4 X4 Y4 sz4 hk4 hD4 hM4 => ?_)
  have hC := hS.1 w1 w2
  refine z_icmp_eq hC dL_law_1528 (tgt := 1971) (by decide) (fun c1528 => ?_) (fun c1528 => ?_)
  rotate_left
  · exact absurd c1528 (fun z => z rfl)
  refine z_widen (k := cells + 47) (n := slots + 14378) (by omega) (by omega) ?_
  exact K _ w1 w2 qe4 ke4 sz4 I4 X4 Y4 hO hk4 hD4 hM4

theorem L_call (hS : lwH C f b L xs) (hi : i + 5 < L) (hO : DOK D) (hke : D.2.1.isSome = true → ke = true) (hD : DMe D I X Y) (hM : MMe qe D I X Y) (hr : cells + 47 ≤ 276180 ∧ slots + 14378 ≤ 8273710) (K : lwK C f (cells + 47) (slots + 14378) i) : zL C 4 (aB f z1 z2) (lS qe ke) cells slots sz I X Y 1533 [some (zr 8 0), some (zr 3 0), some (zr 0 0), some (zi (nI i))] [] := by
  have hC := hS.1 z1 z2
  have hL := hS.2.2.2.2.2
  refine z_aload_n hC dL_law_1533 rfl ?_
  refine z_aload_n hC dL_law_1534 rfl ?_
  refine z_iload_n hC dL_law_1535 rfl ?_
  refine z_iconst hC dL_law_1536 (v := nI 1) rfl ?_
  refine z_nadd hC dL_law_1537  ?_
  refine z_sld hC hS.2.1 hS.2.2.1 hS.2.2.2.1 hS.2.2.2.2.1 (by omega) (by omega) dL_law_1538 ?_
  refine z_aload_n hC dL_law_1539 rfl ?_
  refine z_iload_n hC dL_law_1540 rfl ?_
  refine z_iconst hC dL_law_1541 (v := nI 2) rfl ?_
  refine z_nadd hC dL_law_1542  ?_
  refine z_sld hC hS.2.1 hS.2.2.1 hS.2.2.2.1 hS.2.2.2.2.1 (by omega) (by omega) dL_law_1543 ?_
  refine z_aload_n hC dL_law_1544 rfl ?_
  refine z_iload_n hC dL_law_1545 rfl ?_
  refine z_iconst hC dL_law_1546 (v := nI 3) rfl ?_
  refine z_nadd hC dL_law_1547  ?_
  refine z_sld hC hS.2.1 hS.2.2.1 hS.2.2.2.1 hS.2.2.2.2.1 (by omega) (by omega) dL_law_1548 ?_
  refine z_lD hC dL_law_1549 zlL_200 rfl rfl rfl rfl rfl ⟨by omega, by omega⟩ hM hke (fun S' h => o_call h hO hD) (fun I3 X3 Y3 hD3 hM3 => ?_)
  refine z_aload_n hC dL_law_1552 rfl ?_
  refine z_aload_n hC dL_law_1553 rfl ?_
  refine z_iload_n hC dL_law_1554 rfl ?_
  refine z_iconst hC dL_law_1555 (v := nI 1) rfl ?_
  refine z_nadd hC dL_law_1556  ?_
  refine z_sld hC hS.2.1 hS.2.2.1 hS.2.2.2.1 hS.2.2.2.2.1 (by omega) (by omega) dL_law_1557 ?_
  refine z_aload_n hC dL_law_1558 rfl ?_
  refine z_iload_n hC dL_law_1559 rfl ?_
  refine z_iconst hC dL_law_1560 (v := nI 2) rfl ?_
  refine z_nadd hC dL_law_1561  ?_
  refine z_sld hC hS.2.1 hS.2.2.1 hS.2.2.2.1 hS.2.2.2.2.1 (by omega) (by omega) dL_law_1562 ?_
  refine z_aload_n hC dL_law_1563 rfl ?_
  refine z_iload_n hC dL_law_1564 rfl ?_
  refine z_iconst hC dL_law_1565 (v := nI 3) rfl ?_
  refine z_nadd hC dL_law_1566  ?_
  refine z_sld hC hS.2.1 hS.2.2.1 hS.2.2.2.1 hS.2.2.2.2.1 (by omega) (by omega) dL_law_1567 ?_
  refine z_lM hS.1 dL_law_1568 zlL_203 rfl rfl rfl rfl rfl ⟨by omega, by omega⟩ hM3 hD3 hke rfl rfl (fun z1 z2 I X Y hM hb1 hb2 => mQ.l (mC.q (m_call (S := lM qe D.2.1.isSome) (fun _ => rfl) hO hM)) Q_call) (fun w1 w2 qe4 ke4 I4 X4 Y4 sz4 hk4 hD4 hM4 => ?_)
  have hC := hS.1 w1 w2
  refine z_icmp_eq hC dL_law_1571 (tgt := 1971) (by decide) (fun c1571 => ?_) (fun c1571 => ?_)
  rotate_left
  · exact absurd c1571 (fun z => z rfl)
  refine z_widen (k := cells + 47) (n := slots + 14378) (by omega) (by omega) ?_
  exact K _ w1 w2 qe4 ke4 sz4 I4 X4 Y4 (k_call hO) hk4 hD4 hM4

theorem L_callOf (hS : lwH C f b L xs) (hi : i + 5 < L) (hO : DOK D) (hke : D.2.1.isSome = true → ke = true) (hD : DMe D I X Y) (hM : MMe qe D I X Y) (hr : cells + 47 ≤ 276180 ∧ slots + 14378 ≤ 8273710) (K : lwK C f (cells + 47) (slots + 14378) i) : zL C 4 (aB f z1 z2) (lS qe ke) cells slots sz I X Y 1576 [some (zr 8 0), some (zr 3 0), some (zr 0 0), some (zi (nI i))] [] := by
  have hC := hS.1 z1 z2
  have hL := hS.2.2.2.2.2
  refine z_aload_n hC dL_law_1576 rfl ?_
  refine z_aload_n hC dL_law_1577 rfl ?_
  refine z_iload_n hC dL_law_1578 rfl ?_
  refine z_iconst hC dL_law_1579 (v := nI 1) rfl ?_
  refine z_nadd hC dL_law_1580  ?_
  refine z_sld hC hS.2.1 hS.2.2.1 hS.2.2.2.1 hS.2.2.2.2.1 (by omega) (by omega) dL_law_1581 ?_
  refine z_aload_n hC dL_law_1582 rfl ?_
  refine z_iload_n hC dL_law_1583 rfl ?_
  refine z_iconst hC dL_law_1584 (v := nI 2) rfl ?_
  refine z_nadd hC dL_law_1585  ?_
  refine z_sld hC hS.2.1 hS.2.2.1 hS.2.2.2.1 hS.2.2.2.2.1 (by omega) (by omega) dL_law_1586 ?_
  refine z_lD hC dL_law_1587 zlL_204 rfl rfl rfl rfl rfl ⟨by omega, by omega⟩ hM hke (fun S' h => o_callOf h hO hD) (fun I3 X3 Y3 hD3 hM3 => ?_)
  refine z_aload_n hC dL_law_1590 rfl ?_
  refine z_aload_n hC dL_law_1591 rfl ?_
  refine z_iload_n hC dL_law_1592 rfl ?_
  refine z_iconst hC dL_law_1593 (v := nI 1) rfl ?_
  refine z_nadd hC dL_law_1594  ?_
  refine z_sld hC hS.2.1 hS.2.2.1 hS.2.2.2.1 hS.2.2.2.2.1 (by omega) (by omega) dL_law_1595 ?_
  refine z_aload_n hC dL_law_1596 rfl ?_
  refine z_iload_n hC dL_law_1597 rfl ?_
  refine z_iconst hC dL_law_1598 (v := nI 2) rfl ?_
  refine z_nadd hC dL_law_1599  ?_
  refine z_sld hC hS.2.1 hS.2.2.1 hS.2.2.2.1 hS.2.2.2.2.1 (by omega) (by omega) dL_law_1600 ?_
  refine z_lM hS.1 dL_law_1601 zlL_207 rfl rfl rfl rfl rfl ⟨by omega, by omega⟩ hM3 hD3 hke rfl rfl (fun z1 z2 I X Y hM hb1 hb2 => mQ.l (mC.q (m_callOf (S := lM qe D.2.1.isSome) (fun _ => rfl) hO hM)) Q_callOf) (fun w1 w2 qe4 ke4 I4 X4 Y4 sz4 hk4 hD4 hM4 => ?_)
  have hC := hS.1 w1 w2
  refine z_icmp_eq hC dL_law_1604 (tgt := 1971) (by decide) (fun c1604 => ?_) (fun c1604 => ?_)
  rotate_left
  · exact absurd c1604 (fun z => z rfl)
  refine z_widen (k := cells + 47) (n := slots + 14378) (by omega) (by omega) ?_
  exact K _ w1 w2 qe4 ke4 sz4 I4 X4 Y4 (k_callOf hO) hk4 hD4 hM4

theorem L_hears (hS : lwH C f b L xs) (hi : i + 5 < L) (hO : DOK D) (hke : D.2.1.isSome = true → ke = true) (hD : DMe D I X Y) (hM : MMe qe D I X Y) (hr : cells + 47 ≤ 276180 ∧ slots + 14378 ≤ 8273710) (K : lwK C f (cells + 47) (slots + 14378) i) : zL C 4 (aB f z1 z2) (lS qe ke) cells slots sz I X Y 1609 [some (zr 8 0), some (zr 3 0), some (zr 0 0), some (zi (nI i))] [] := by
  have hC := hS.1 z1 z2
  have hL := hS.2.2.2.2.2
  refine z_aload_n hC dL_law_1609 rfl ?_
  refine z_aload_n hC dL_law_1610 rfl ?_
  refine z_iload_n hC dL_law_1611 rfl ?_
  refine z_iconst hC dL_law_1612 (v := nI 1) rfl ?_
  refine z_nadd hC dL_law_1613  ?_
  refine z_sld hC hS.2.1 hS.2.2.1 hS.2.2.2.1 hS.2.2.2.2.1 (by omega) (by omega) dL_law_1614 ?_
  refine z_lD hC dL_law_1615 zlL_208 rfl rfl rfl rfl rfl ⟨by omega, by omega⟩ hM hke (fun S' h => o_hears h hO hD) (fun I3 X3 Y3 hD3 hM3 => ?_)
  refine z_aload_n hC dL_law_1618 rfl ?_
  refine z_aload_n hC dL_law_1619 rfl ?_
  refine z_iload_n hC dL_law_1620 rfl ?_
  refine z_iconst hC dL_law_1621 (v := nI 1) rfl ?_
  refine z_nadd hC dL_law_1622  ?_
  refine z_sld hC hS.2.1 hS.2.2.1 hS.2.2.2.1 hS.2.2.2.2.1 (by omega) (by omega) dL_law_1623 ?_
  refine z_lM hS.1 dL_law_1624 zlL_211 rfl rfl rfl rfl rfl ⟨by omega, by omega⟩ hM3 hD3 hke rfl rfl (fun z1 z2 I X Y hM hb1 hb2 => mQ.l (mC.q (m_hears (S := lM qe D.2.1.isSome) (fun _ => rfl) hO hM)) Q_hears) (fun w1 w2 qe4 ke4 I4 X4 Y4 sz4 hk4 hD4 hM4 => ?_)
  have hC := hS.1 w1 w2
  refine z_icmp_eq hC dL_law_1627 (tgt := 1971) (by decide) (fun c1627 => ?_) (fun c1627 => ?_)
  rotate_left
  · exact absurd c1627 (fun z => z rfl)
  refine z_widen (k := cells + 47) (n := slots + 14378) (by omega) (by omega) ?_
  exact K _ w1 w2 qe4 ke4 sz4 I4 X4 Y4 (k_hears hO) hk4 hD4 hM4

theorem L_rings (hS : lwH C f b L xs) (hi : i + 5 < L) (hO : DOK D) (hke : D.2.1.isSome = true → ke = true) (hD : DMe D I X Y) (hM : MMe qe D I X Y) (hr : cells + 47 ≤ 276180 ∧ slots + 14378 ≤ 8273710) (K : lwK C f (cells + 47) (slots + 14378) i) : zL C 4 (aB f z1 z2) (lS qe ke) cells slots sz I X Y 1632 [some (zr 8 0), some (zr 3 0), some (zr 0 0), some (zi (nI i))] [] := by
  have hC := hS.1 z1 z2
  have hL := hS.2.2.2.2.2
  refine z_aload_n hC dL_law_1632 rfl ?_
  refine z_aload_n hC dL_law_1633 rfl ?_
  refine z_iload_n hC dL_law_1634 rfl ?_
  refine z_iconst hC dL_law_1635 (v := nI 1) rfl ?_
  refine z_nadd hC dL_law_1636  ?_
  refine z_sld hC hS.2.1 hS.2.2.1 hS.2.2.2.1 hS.2.2.2.2.1 (by omega) (by omega) dL_law_1637 ?_
  refine z_lD hC dL_law_1638 zlL_212 rfl rfl rfl rfl rfl ⟨by omega, by omega⟩ hM hke (fun S' h => o_rings h hO hD) (fun I3 X3 Y3 hD3 hM3 => ?_)
  refine z_aload_n hC dL_law_1641 rfl ?_
  refine z_aload_n hC dL_law_1642 rfl ?_
  refine z_iload_n hC dL_law_1643 rfl ?_
  refine z_iconst hC dL_law_1644 (v := nI 1) rfl ?_
  refine z_nadd hC dL_law_1645  ?_
  refine z_sld hC hS.2.1 hS.2.2.1 hS.2.2.2.1 hS.2.2.2.2.1 (by omega) (by omega) dL_law_1646 ?_
  refine z_lM hS.1 dL_law_1647 zlL_215 rfl rfl rfl rfl rfl ⟨by omega, by omega⟩ hM3 hD3 hke rfl rfl (fun z1 z2 I X Y hM hb1 hb2 => mQ.l (mC.q (m_rings (S := lM qe D.2.1.isSome) (fun _ => rfl) hO hM)) Q_rings) (fun w1 w2 qe4 ke4 I4 X4 Y4 sz4 hk4 hD4 hM4 => ?_)
  have hC := hS.1 w1 w2
  refine z_icmp_eq hC dL_law_1650 (tgt := 1971) (by decide) (fun c1650 => ?_) (fun c1650 => ?_)
  rotate_left
  · exact absurd c1650 (fun z => z rfl)
  refine z_widen (k := cells + 47) (n := slots + 14378) (by omega) (by omega) ?_
  exact K _ w1 w2 qe4 ke4 sz4 I4 X4 Y4 (k_rings hO) hk4 hD4 hM4

theorem L_worth (hS : lwH C f b L xs) (hi : i + 5 < L) (hO : DOK D) (hke : D.2.1.isSome = true → ke = true) (hD : DMe D I X Y) (hM : MMe qe D I X Y) (hr : cells + 47 ≤ 276180 ∧ slots + 14378 ≤ 8273710) (K : lwK C f (cells + 47) (slots + 14378) i) : zL C 4 (aB f z1 z2) (lS qe ke) cells slots sz I X Y 1655 [some (zr 8 0), some (zr 3 0), some (zr 0 0), some (zi (nI i))] [] := by
  have hC := hS.1 z1 z2
  have hL := hS.2.2.2.2.2
  refine z_aload_n hC dL_law_1655 rfl ?_
  refine z_aload_n hC dL_law_1656 rfl ?_
  refine z_iload_n hC dL_law_1657 rfl ?_
  refine z_iconst hC dL_law_1658 (v := nI 1) rfl ?_
  refine z_nadd hC dL_law_1659  ?_
  refine z_sld hC hS.2.1 hS.2.2.1 hS.2.2.2.1 hS.2.2.2.2.1 (by omega) (by omega) dL_law_1660 ?_
  refine z_aload_n hC dL_law_1661 rfl ?_
  refine z_iload_n hC dL_law_1662 rfl ?_
  refine z_iconst hC dL_law_1663 (v := nI 2) rfl ?_
  refine z_nadd hC dL_law_1664  ?_
  refine z_sld hC hS.2.1 hS.2.2.1 hS.2.2.2.1 hS.2.2.2.2.1 (by omega) (by omega) dL_law_1665 ?_
  refine z_aload_n hC dL_law_1666 rfl ?_
  refine z_iload_n hC dL_law_1667 rfl ?_
  refine z_iconst hC dL_law_1668 (v := nI 3) rfl ?_
  refine z_nadd hC dL_law_1669  ?_
  refine z_sld hC hS.2.1 hS.2.2.1 hS.2.2.2.1 hS.2.2.2.2.1 (by omega) (by omega) dL_law_1670 ?_
  refine z_lD hC dL_law_1671 zlL_216 rfl rfl rfl rfl rfl ⟨by omega, by omega⟩ hM hke (fun S' h => o_worth h hO hD) (fun I3 X3 Y3 hD3 hM3 => ?_)
  refine z_aload_n hC dL_law_1674 rfl ?_
  refine z_aload_n hC dL_law_1675 rfl ?_
  refine z_iload_n hC dL_law_1676 rfl ?_
  refine z_iconst hC dL_law_1677 (v := nI 1) rfl ?_
  refine z_nadd hC dL_law_1678  ?_
  refine z_sld hC hS.2.1 hS.2.2.1 hS.2.2.2.1 hS.2.2.2.2.1 (by omega) (by omega) dL_law_1679 ?_
  refine z_aload_n hC dL_law_1680 rfl ?_
  refine z_iload_n hC dL_law_1681 rfl ?_
  refine z_iconst hC dL_law_1682 (v := nI 2) rfl ?_
  refine z_nadd hC dL_law_1683  ?_
  refine z_sld hC hS.2.1 hS.2.2.1 hS.2.2.2.1 hS.2.2.2.2.1 (by omega) (by omega) dL_law_1684 ?_
  refine z_aload_n hC dL_law_1685 rfl ?_
  refine z_iload_n hC dL_law_1686 rfl ?_
  refine z_iconst hC dL_law_1687 (v := nI 3) rfl ?_
  refine z_nadd hC dL_law_1688  ?_
  refine z_sld hC hS.2.1 hS.2.2.1 hS.2.2.2.1 hS.2.2.2.2.1 (by omega) (by omega) dL_law_1689 ?_
  refine z_lM hS.1 dL_law_1690 zlL_219 rfl rfl rfl rfl rfl ⟨by omega, by omega⟩ hM3 hD3 hke rfl rfl (fun z1 z2 I X Y hM hb1 hb2 => mQ.l (mC.q (m_worth (S := lM qe D.2.1.isSome) (fun _ => rfl) hO hM)) Q_worth) (fun w1 w2 qe4 ke4 I4 X4 Y4 sz4 hk4 hD4 hM4 => ?_)
  have hC := hS.1 w1 w2
  refine z_icmp_eq hC dL_law_1693 (tgt := 1971) (by decide) (fun c1693 => ?_) (fun c1693 => ?_)
  rotate_left
  · exact absurd c1693 (fun z => z rfl)
  refine z_widen (k := cells + 47) (n := slots + 14378) (by omega) (by omega) ?_
  exact K _ w1 w2 qe4 ke4 sz4 I4 X4 Y4 (k_worth hO) hk4 hD4 hM4

theorem L_judge (hS : lwH C f b L xs) (hi : i + 5 < L) (hO : DOK D) (hke : D.2.1.isSome = true → ke = true) (hD : DMe D I X Y) (hM : MMe qe D I X Y) (hr : cells + 47 ≤ 276180 ∧ slots + 14378 ≤ 8273710) (K : lwK C f (cells + 47) (slots + 14378) i) : zL C 4 (aB f z1 z2) (lS qe ke) cells slots sz I X Y 1698 [some (zr 8 0), some (zr 3 0), some (zr 0 0), some (zi (nI i))] [] := by
  have hC := hS.1 z1 z2
  have hL := hS.2.2.2.2.2
  refine z_aload_n hC dL_law_1698 rfl ?_
  refine z_aload_n hC dL_law_1699 rfl ?_
  refine z_iload_n hC dL_law_1700 rfl ?_
  refine z_iconst hC dL_law_1701 (v := nI 1) rfl ?_
  refine z_nadd hC dL_law_1702  ?_
  refine z_sld hC hS.2.1 hS.2.2.1 hS.2.2.2.1 hS.2.2.2.2.1 (by omega) (by omega) dL_law_1703 ?_
  refine z_aload_n hC dL_law_1704 rfl ?_
  refine z_iload_n hC dL_law_1705 rfl ?_
  refine z_iconst hC dL_law_1706 (v := nI 2) rfl ?_
  refine z_nadd hC dL_law_1707  ?_
  refine z_sld hC hS.2.1 hS.2.2.1 hS.2.2.2.1 hS.2.2.2.2.1 (by omega) (by omega) dL_law_1708 ?_
  refine z_lD hC dL_law_1709 zlL_220 rfl rfl rfl rfl rfl ⟨by omega, by omega⟩ hM hke (fun S' h => o_judge h hO hD) (fun I3 X3 Y3 hD3 hM3 => ?_)
  refine z_aload_n hC dL_law_1712 rfl ?_
  refine z_aload_n hC dL_law_1713 rfl ?_
  refine z_iload_n hC dL_law_1714 rfl ?_
  refine z_iconst hC dL_law_1715 (v := nI 1) rfl ?_
  refine z_nadd hC dL_law_1716  ?_
  refine z_sld hC hS.2.1 hS.2.2.1 hS.2.2.2.1 hS.2.2.2.2.1 (by omega) (by omega) dL_law_1717 ?_
  refine z_aload_n hC dL_law_1718 rfl ?_
  refine z_iload_n hC dL_law_1719 rfl ?_
  refine z_iconst hC dL_law_1720 (v := nI 2) rfl ?_
  refine z_nadd hC dL_law_1721  ?_
  refine z_sld hC hS.2.1 hS.2.2.1 hS.2.2.2.1 hS.2.2.2.2.1 (by omega) (by omega) dL_law_1722 ?_
  refine z_lM hS.1 dL_law_1723 zlL_223 rfl rfl rfl rfl rfl ⟨by omega, by omega⟩ hM3 hD3 hke rfl rfl (fun z1 z2 I X Y hM hb1 hb2 => mQ.l (mC.q (m_judge (S := lM qe D.2.1.isSome) (fun _ => rfl) hO hM)) Q_judge) (fun w1 w2 qe4 ke4 I4 X4 Y4 sz4 hk4 hD4 hM4 => ?_)
  have hC := hS.1 w1 w2
  refine z_icmp_eq hC dL_law_1726 (tgt := 1971) (by decide) (fun c1726 => ?_) (fun c1726 => ?_)
  rotate_left
  · exact absurd c1726 (fun z => z rfl)
  refine z_widen (k := cells + 47) (n := slots + 14378) (by omega) (by omega) ?_
  exact K _ w1 w2 qe4 ke4 sz4 I4 X4 Y4 (k_judge hO) hk4 hD4 hM4

theorem L_apart (hS : lwH C f b L xs) (hi : i + 5 < L) (hO : DOK D) (hke : D.2.1.isSome = true → ke = true) (hD : DMe D I X Y) (hM : MMe qe D I X Y) (hr : cells + 47 ≤ 276180 ∧ slots + 14378 ≤ 8273710) (K : lwK C f (cells + 47) (slots + 14378) i) : zL C 4 (aB f z1 z2) (lS qe ke) cells slots sz I X Y 1731 [some (zr 8 0), some (zr 3 0), some (zr 0 0), some (zi (nI i))] [] := by
  have hC := hS.1 z1 z2
  have hL := hS.2.2.2.2.2
  refine z_aload_n hC dL_law_1731 rfl ?_
  refine z_aload_n hC dL_law_1732 rfl ?_
  refine z_iload_n hC dL_law_1733 rfl ?_
  refine z_iconst hC dL_law_1734 (v := nI 1) rfl ?_
  refine z_nadd hC dL_law_1735  ?_
  refine z_sld hC hS.2.1 hS.2.2.1 hS.2.2.2.1 hS.2.2.2.2.1 (by omega) (by omega) dL_law_1736 ?_
  refine z_aload_n hC dL_law_1737 rfl ?_
  refine z_iload_n hC dL_law_1738 rfl ?_
  refine z_iconst hC dL_law_1739 (v := nI 2) rfl ?_
  refine z_nadd hC dL_law_1740  ?_
  refine z_sld hC hS.2.1 hS.2.2.1 hS.2.2.2.1 hS.2.2.2.2.1 (by omega) (by omega) dL_law_1741 ?_
  refine z_lD hC dL_law_1742 zlL_224 rfl rfl rfl rfl rfl ⟨by omega, by omega⟩ hM hke (fun S' h => o_apart h hO hD) (fun I3 X3 Y3 hD3 hM3 => ?_)
  refine z_aload_n hC dL_law_1745 rfl ?_
  refine z_aload_n hC dL_law_1746 rfl ?_
  refine z_iload_n hC dL_law_1747 rfl ?_
  refine z_iconst hC dL_law_1748 (v := nI 1) rfl ?_
  refine z_nadd hC dL_law_1749  ?_
  refine z_sld hC hS.2.1 hS.2.2.1 hS.2.2.2.1 hS.2.2.2.2.1 (by omega) (by omega) dL_law_1750 ?_
  refine z_aload_n hC dL_law_1751 rfl ?_
  refine z_iload_n hC dL_law_1752 rfl ?_
  refine z_iconst hC dL_law_1753 (v := nI 2) rfl ?_
  refine z_nadd hC dL_law_1754  ?_
  refine z_sld hC hS.2.1 hS.2.2.1 hS.2.2.2.1 hS.2.2.2.2.1 (by omega) (by omega) dL_law_1755 ?_
  refine z_lM hS.1 dL_law_1756 zlL_227 rfl rfl rfl rfl rfl ⟨by omega, by omega⟩ hM3 hD3 hke rfl rfl (fun z1 z2 I X Y hM hb1 hb2 => mQ.l (mC.q (m_apart (S := lM qe D.2.1.isSome) (fun _ => rfl) hO hM)) Q_apart) (fun w1 w2 qe4 ke4 I4 X4 Y4 sz4 hk4 hD4 hM4 => ?_)
  have hC := hS.1 w1 w2
  refine z_icmp_eq hC dL_law_1759 (tgt := 1971) (by decide) (fun c1759 => ?_) (fun c1759 => ?_)
  rotate_left
  · exact absurd c1759 (fun z => z rfl)
  refine z_widen (k := cells + 47) (n := slots + 14378) (by omega) (by omega) ?_
  exact K _ w1 w2 qe4 ke4 sz4 I4 X4 Y4 (k_apart hO) hk4 hD4 hM4

theorem L_search (hS : lwH C f b L xs) (hi : i + 5 < L) (hO : DOK D) (hke : D.2.1.isSome = true → ke = true) (hD : DMe D I X Y) (hM : MMe qe D I X Y) (hr : cells + 47 ≤ 276180 ∧ slots + 14378 ≤ 8273710) (K : lwK C f (cells + 47) (slots + 14378) i) : zL C 4 (aB f z1 z2) (lS qe ke) cells slots sz I X Y 1764 [some (zr 8 0), some (zr 3 0), some (zr 0 0), some (zi (nI i))] [] := by
  have hC := hS.1 z1 z2
  have hL := hS.2.2.2.2.2
  refine z_aload_n hC dL_law_1764 rfl ?_
  refine z_aload_n hC dL_law_1765 rfl ?_
  refine z_iload_n hC dL_law_1766 rfl ?_
  refine z_iconst hC dL_law_1767 (v := nI 1) rfl ?_
  refine z_nadd hC dL_law_1768  ?_
  refine z_sld hC hS.2.1 hS.2.2.1 hS.2.2.2.1 hS.2.2.2.2.1 (by omega) (by omega) dL_law_1769 ?_
  refine z_aload_n hC dL_law_1770 rfl ?_
  refine z_iload_n hC dL_law_1771 rfl ?_
  refine z_iconst hC dL_law_1772 (v := nI 2) rfl ?_
  refine z_nadd hC dL_law_1773  ?_
  refine z_sld hC hS.2.1 hS.2.2.1 hS.2.2.2.1 hS.2.2.2.2.1 (by omega) (by omega) dL_law_1774 ?_
  refine z_aload_n hC dL_law_1775 rfl ?_
  refine z_iload_n hC dL_law_1776 rfl ?_
  refine z_iconst hC dL_law_1777 (v := nI 3) rfl ?_
  refine z_nadd hC dL_law_1778  ?_
  refine z_sld hC hS.2.1 hS.2.2.1 hS.2.2.2.1 hS.2.2.2.2.1 (by omega) (by omega) dL_law_1779 ?_
  refine z_lD hC dL_law_1780 zlL_228 rfl rfl rfl rfl rfl ⟨by omega, by omega⟩ hM hke (fun S' h => o_search h hO hD) (fun I3 X3 Y3 hD3 hM3 => ?_)
  refine z_aload_n hC dL_law_1783 rfl ?_
  refine z_aload_n hC dL_law_1784 rfl ?_
  refine z_iload_n hC dL_law_1785 rfl ?_
  refine z_iconst hC dL_law_1786 (v := nI 1) rfl ?_
  refine z_nadd hC dL_law_1787  ?_
  refine z_sld hC hS.2.1 hS.2.2.1 hS.2.2.2.1 hS.2.2.2.2.1 (by omega) (by omega) dL_law_1788 ?_
  refine z_aload_n hC dL_law_1789 rfl ?_
  refine z_iload_n hC dL_law_1790 rfl ?_
  refine z_iconst hC dL_law_1791 (v := nI 2) rfl ?_
  refine z_nadd hC dL_law_1792  ?_
  refine z_sld hC hS.2.1 hS.2.2.1 hS.2.2.2.1 hS.2.2.2.2.1 (by omega) (by omega) dL_law_1793 ?_
  refine z_aload_n hC dL_law_1794 rfl ?_
  refine z_iload_n hC dL_law_1795 rfl ?_
  refine z_iconst hC dL_law_1796 (v := nI 3) rfl ?_
  refine z_nadd hC dL_law_1797  ?_
  refine z_sld hC hS.2.1 hS.2.2.1 hS.2.2.2.1 hS.2.2.2.2.1 (by omega) (by omega) dL_law_1798 ?_
  refine z_lM hS.1 dL_law_1799 zlL_231 rfl rfl rfl rfl rfl ⟨by omega, by omega⟩ hM3 hD3 hke rfl rfl (fun z1 z2 I X Y hM hb1 hb2 => mX.l (m_search (S := lM qe D.2.1.isSome) (fun _ => rfl) hO hM hb1) Q_search) (fun w1 w2 qe4 ke4 I4 X4 Y4 sz4 hk4 hD4 hM4 => ?_)
  have hC := hS.1 w1 w2
  refine z_icmp_eq hC dL_law_1802 (tgt := 1971) (by decide) (fun c1802 => ?_) (fun c1802 => ?_)
  rotate_left
  · exact absurd c1802 (fun z => z rfl)
  refine z_widen (k := cells + 47) (n := slots + 14378) (by omega) (by omega) ?_
  exact K _ w1 w2 qe4 ke4 sz4 I4 X4 Y4 (k_search hO) hk4 hD4 hM4

theorem L_lies (hS : lwH C f b L xs) (hi : i + 5 < L) (hO : DOK D) (hke : D.2.1.isSome = true → ke = true) (hD : DMe D I X Y) (hM : MMe qe D I X Y) (hr : cells + 47 ≤ 276180 ∧ slots + 14378 ≤ 8273710) (K : lwK C f (cells + 47) (slots + 14378) i) : zL C 4 (aB f z1 z2) (lS qe ke) cells slots sz I X Y 1807 [some (zr 8 0), some (zr 3 0), some (zr 0 0), some (zi (nI i))] [] := by
  have hC := hS.1 z1 z2
  have hL := hS.2.2.2.2.2
  refine z_aload_n hC dL_law_1807 rfl ?_
  refine z_aload_n hC dL_law_1808 rfl ?_
  refine z_iload_n hC dL_law_1809 rfl ?_
  refine z_iconst hC dL_law_1810 (v := nI 1) rfl ?_
  refine z_nadd hC dL_law_1811  ?_
  refine z_sld hC hS.2.1 hS.2.2.1 hS.2.2.2.1 hS.2.2.2.2.1 (by omega) (by omega) dL_law_1812 ?_
  refine z_lD hC dL_law_1813 zlL_232 rfl rfl rfl rfl rfl ⟨by omega, by omega⟩ hM hke (fun S' h => o_lies h hO hD) (fun I3 X3 Y3 hD3 hM3 => ?_)
  refine z_aload_n hC dL_law_1816 rfl ?_
  refine z_aload_n hC dL_law_1817 rfl ?_
  refine z_iload_n hC dL_law_1818 rfl ?_
  refine z_iconst hC dL_law_1819 (v := nI 1) rfl ?_
  refine z_nadd hC dL_law_1820  ?_
  refine z_sld hC hS.2.1 hS.2.2.1 hS.2.2.2.1 hS.2.2.2.2.1 (by omega) (by omega) dL_law_1821 ?_
  refine z_lM hS.1 dL_law_1822 zlL_235 rfl rfl rfl rfl rfl ⟨by omega, by omega⟩ hM3 hD3 hke rfl rfl (fun z1 z2 I X Y hM hb1 hb2 => mQ.l (mC.q (m_lies (S := lM qe D.2.1.isSome) (fun _ => rfl) hO hM)) Q_lies) (fun w1 w2 qe4 ke4 I4 X4 Y4 sz4 hk4 hD4 hM4 => ?_)
  have hC := hS.1 w1 w2
  refine z_icmp_eq hC dL_law_1825 (tgt := 1971) (by decide) (fun c1825 => ?_) (fun c1825 => ?_)
  rotate_left
  · exact absurd c1825 (fun z => z rfl)
  refine z_widen (k := cells + 47) (n := slots + 14378) (by omega) (by omega) ?_
  exact K _ w1 w2 qe4 ke4 sz4 I4 X4 Y4 (k_lies hO) hk4 hD4 hM4

theorem L_drive (hS : lwH C f b L xs) (hi : i + 5 < L) (hO : DOK D) (hke : D.2.1.isSome = true → ke = true) (hD : DMe D I X Y) (hM : MMe qe D I X Y) (hr : cells + 47 ≤ 276180 ∧ slots + 14378 ≤ 8273710) (K : lwK C f (cells + 47) (slots + 14378) i) : zL C 4 (aB f z1 z2) (lS qe ke) cells slots sz I X Y 1830 [some (zr 8 0), some (zr 3 0), some (zr 0 0), some (zi (nI i))] [] := by
  have hC := hS.1 z1 z2
  have hL := hS.2.2.2.2.2
  refine z_aload_n hC dL_law_1830 rfl ?_
  refine z_lD hC dL_law_1831 zlL_236 rfl rfl rfl rfl rfl ⟨by omega, by omega⟩ hM hke (fun S' h => o_drive h hO hD) (fun I3 X3 Y3 hD3 hM3 => ?_)
  refine z_aload_n hC dL_law_1834 rfl ?_
  refine z_lM hS.1 dL_law_1835 zlL_239 rfl rfl rfl rfl rfl ⟨by omega, by omega⟩ hM3 hD3 hke rfl rfl (fun z1 z2 I X Y hM hb1 hb2 => mQ.l (mC.q (m_drive (S := lM qe D.2.1.isSome) (fun _ => rfl) hO hM)) Q_drive) (fun w1 w2 qe4 ke4 I4 X4 Y4 sz4 hk4 hD4 hM4 => ?_)
  have hC := hS.1 w1 w2
  refine z_icmp_eq hC dL_law_1838 (tgt := 1971) (by decide) (fun c1838 => ?_) (fun c1838 => ?_)
  rotate_left
  · exact absurd c1838 (fun z => z rfl)
  refine z_widen (k := cells + 47) (n := slots + 14378) (by omega) (by omega) ?_
  exact K _ w1 w2 qe4 ke4 sz4 I4 X4 Y4 (k_drive hO) hk4 hD4 hM4

theorem L_look (hS : lwH C f b L xs) (hi : i + 5 < L) (hO : DOK D) (hke : D.2.1.isSome = true → ke = true) (hD : DMe D I X Y) (hM : MMe qe D I X Y) (hr : cells + 47 ≤ 276180 ∧ slots + 14378 ≤ 8273710) (K : lwK C f (cells + 47) (slots + 14378) i) : zL C 4 (aB f z1 z2) (lS qe ke) cells slots sz I X Y 1843 [some (zr 8 0), some (zr 3 0), some (zr 0 0), some (zi (nI i))] [] := by
  have hC := hS.1 z1 z2
  have hL := hS.2.2.2.2.2
  refine z_aload_n hC dL_law_1843 rfl ?_
  refine z_aload_n hC dL_law_1844 rfl ?_
  refine z_iload_n hC dL_law_1845 rfl ?_
  refine z_iconst hC dL_law_1846 (v := nI 1) rfl ?_
  refine z_nadd hC dL_law_1847  ?_
  refine z_sld hC hS.2.1 hS.2.2.1 hS.2.2.2.1 hS.2.2.2.2.1 (by omega) (by omega) dL_law_1848 ?_
  refine z_aload_n hC dL_law_1849 rfl ?_
  refine z_iload_n hC dL_law_1850 rfl ?_
  refine z_iconst hC dL_law_1851 (v := nI 2) rfl ?_
  refine z_nadd hC dL_law_1852  ?_
  refine z_sld hC hS.2.1 hS.2.2.1 hS.2.2.2.1 hS.2.2.2.2.1 (by omega) (by omega) dL_law_1853 ?_
  refine z_lD hC dL_law_1854 zlL_240 rfl rfl rfl rfl rfl ⟨by omega, by omega⟩ hM hke (fun S' h => o_look h hO hD) (fun I3 X3 Y3 hD3 hM3 => ?_)
  refine z_aload_n hC dL_law_1857 rfl ?_
  refine z_aload_n hC dL_law_1858 rfl ?_
  refine z_iload_n hC dL_law_1859 rfl ?_
  refine z_iconst hC dL_law_1860 (v := nI 1) rfl ?_
  refine z_nadd hC dL_law_1861  ?_
  refine z_sld hC hS.2.1 hS.2.2.1 hS.2.2.2.1 hS.2.2.2.2.1 (by omega) (by omega) dL_law_1862 ?_
  refine z_aload_n hC dL_law_1863 rfl ?_
  refine z_iload_n hC dL_law_1864 rfl ?_
  refine z_iconst hC dL_law_1865 (v := nI 2) rfl ?_
  refine z_nadd hC dL_law_1866  ?_
  refine z_sld hC hS.2.1 hS.2.2.1 hS.2.2.2.1 hS.2.2.2.2.1 (by omega) (by omega) dL_law_1867 ?_
  refine z_lM hS.1 dL_law_1868 zlL_243 rfl rfl rfl rfl rfl ⟨by omega, by omega⟩ hM3 hD3 hke rfl rfl (fun z1 z2 I X Y hM hb1 hb2 => mQ.l (mC.q (m_look (S := lM qe D.2.1.isSome) (fun _ => rfl) hO hM)) Q_look) (fun w1 w2 qe4 ke4 I4 X4 Y4 sz4 hk4 hD4 hM4 => ?_)
  have hC := hS.1 w1 w2
  refine z_icmp_eq hC dL_law_1871 (tgt := 1971) (by decide) (fun c1871 => ?_) (fun c1871 => ?_)
  rotate_left
  · exact absurd c1871 (fun z => z rfl)
  refine z_widen (k := cells + 47) (n := slots + 14378) (by omega) (by omega) ?_
  exact K _ w1 w2 qe4 ke4 sz4 I4 X4 Y4 (k_look hO) hk4 hD4 hM4

theorem L_trips (hS : lwH C f b L xs) (hi : i + 5 < L) (hO : DOK D) (hke : D.2.1.isSome = true → ke = true) (hD : DMe D I X Y) (hM : MMe qe D I X Y) (hr : cells + 47 ≤ 276180 ∧ slots + 14378 ≤ 8273710) (K : lwK C f (cells + 47) (slots + 14378) i) : zL C 4 (aB f z1 z2) (lS qe ke) cells slots sz I X Y 1876 [some (zr 8 0), some (zr 3 0), some (zr 0 0), some (zi (nI i))] [] := by
  have hC := hS.1 z1 z2
  have hL := hS.2.2.2.2.2
  refine z_aload_n hC dL_law_1876 rfl ?_
  refine z_aload_n hC dL_law_1877 rfl ?_
  refine z_iload_n hC dL_law_1878 rfl ?_
  refine z_iconst hC dL_law_1879 (v := nI 1) rfl ?_
  refine z_nadd hC dL_law_1880  ?_
  refine z_sld hC hS.2.1 hS.2.2.1 hS.2.2.2.1 hS.2.2.2.2.1 (by omega) (by omega) dL_law_1881 ?_
  refine z_lD hC dL_law_1882 zlL_244 rfl rfl rfl rfl rfl ⟨by omega, by omega⟩ hM hke (fun S' h => o_trips h hO hD) (fun I3 X3 Y3 hD3 hM3 => ?_)
  refine z_aload_n hC dL_law_1885 rfl ?_
  refine z_aload_n hC dL_law_1886 rfl ?_
  refine z_iload_n hC dL_law_1887 rfl ?_
  refine z_iconst hC dL_law_1888 (v := nI 1) rfl ?_
  refine z_nadd hC dL_law_1889  ?_
  refine z_sld hC hS.2.1 hS.2.2.1 hS.2.2.2.1 hS.2.2.2.2.1 (by omega) (by omega) dL_law_1890 ?_
  refine z_lM hS.1 dL_law_1891 zlL_247 rfl rfl rfl rfl rfl ⟨by omega, by omega⟩ hM3 hD3 hke rfl rfl (fun z1 z2 I X Y hM hb1 hb2 => mQ.l (m_trips (S := lM qe D.2.1.isSome) (fun _ => rfl) hO hM) Q_trips) (fun w1 w2 qe4 ke4 I4 X4 Y4 sz4 hk4 hD4 hM4 => ?_)
  have hC := hS.1 w1 w2
  refine z_icmp_eq hC dL_law_1894 (tgt := 1971) (by decide) (fun c1894 => ?_) (fun c1894 => ?_)
  rotate_left
  · exact absurd c1894 (fun z => z rfl)
  refine z_widen (k := cells + 47) (n := slots + 14378) (by omega) (by omega) ?_
  exact K _ w1 w2 qe4 ke4 sz4 I4 X4 Y4 (k_trips hO) hk4 hD4 hM4

theorem L_seed (hS : lwH C f b L xs) (hi : i + 5 < L) (hO : DOK D) (hke : D.2.1.isSome = true → ke = true) (hD : DMe D I X Y) (hM : MMe qe D I X Y) (hr : cells + 47 ≤ 276180 ∧ slots + 14378 ≤ 8273710) (K : lwK C f (cells + 47) (slots + 14378) i) : zL C 4 (aB f z1 z2) (lS qe ke) cells slots sz I X Y 1899 [some (zr 8 0), some (zr 3 0), some (zr 0 0), some (zi (nI i))] [] := by
  have hC := hS.1 z1 z2
  have hL := hS.2.2.2.2.2
  refine z_aload_n hC dL_law_1899 rfl ?_
  refine z_aload_n hC dL_law_1900 rfl ?_
  refine z_iload_n hC dL_law_1901 rfl ?_
  refine z_iconst hC dL_law_1902 (v := nI 1) rfl ?_
  refine z_nadd hC dL_law_1903  ?_
  refine z_sld hC hS.2.1 hS.2.2.1 hS.2.2.2.1 hS.2.2.2.2.1 (by omega) (by omega) dL_law_1904 ?_
  refine z_lD hC dL_law_1905 zlL_248 rfl rfl rfl rfl rfl ⟨by omega, by omega⟩ hM hke (fun S' h => o_seed h hO hD) (fun I3 X3 Y3 hD3 hM3 => ?_)
  refine z_aload_n hC dL_law_1908 rfl ?_
  refine z_aload_n hC dL_law_1909 rfl ?_
  refine z_iload_n hC dL_law_1910 rfl ?_
  refine z_iconst hC dL_law_1911 (v := nI 1) rfl ?_
  refine z_nadd hC dL_law_1912  ?_
  refine z_sld hC hS.2.1 hS.2.2.1 hS.2.2.2.1 hS.2.2.2.2.1 (by omega) (by omega) dL_law_1913 ?_
  refine z_lM hS.1 dL_law_1914 zlL_251 rfl rfl rfl rfl rfl ⟨by omega, by omega⟩ hM3 hD3 hke rfl rfl (fun z1 z2 I X Y hM hb1 hb2 => mQ.l (mC.q (m_seed (S := lM qe D.2.1.isSome) (fun _ => rfl) hO hM)) Q_seed) (fun w1 w2 qe4 ke4 I4 X4 Y4 sz4 hk4 hD4 hM4 => ?_)
  have hC := hS.1 w1 w2
  refine z_icmp_eq hC dL_law_1917 (tgt := 1971) (by decide) (fun c1917 => ?_) (fun c1917 => ?_)
  rotate_left
  · exact absurd c1917 (fun z => z rfl)
  refine z_widen (k := cells + 47) (n := slots + 14378) (by omega) (by omega) ?_
  exact K _ w1 w2 qe4 ke4 sz4 I4 X4 Y4 (k_seed hO) hk4 hD4 hM4

theorem L_image (hS : lwH C f b L xs) (hi : i + 5 < L) (hO : DOK D) (hke : D.2.1.isSome = true → ke = true) (hD : DMe D I X Y) (hM : MMe qe D I X Y) (hr : cells + 47 ≤ 276180 ∧ slots + 14378 ≤ 8273710) (K : lwK C f (cells + 47) (slots + 14378) i) : zL C 4 (aB f z1 z2) (lS qe ke) cells slots sz I X Y 1922 [some (zr 8 0), some (zr 3 0), some (zr 0 0), some (zi (nI i))] [] := by
  have hC := hS.1 z1 z2
  have hL := hS.2.2.2.2.2
  refine z_aload_n hC dL_law_1922 rfl ?_
  refine z_lD hC dL_law_1923 zlL_252 rfl rfl rfl rfl rfl ⟨by omega, by omega⟩ hM hke (fun S' h => o_image h hO hD) (fun I3 X3 Y3 hD3 hM3 => ?_)
  refine z_aload_n hC dL_law_1926 rfl ?_
  refine z_lM hS.1 dL_law_1927 zlL_255 rfl rfl rfl rfl rfl ⟨by omega, by omega⟩ hM3 hD3 hke rfl rfl (fun z1 z2 I X Y hM hb1 hb2 => m_imageL hO hM hb2) (fun w1 w2 qe4 ke4 I4 X4 Y4 sz4 hk4 hD4 hM4 => ?_)
  have hC := hS.1 w1 w2
  refine z_icmp_eq hC dL_law_1930 (tgt := 1971) (by decide) (fun c1930 => ?_) (fun c1930 => ?_)
  rotate_left
  · exact absurd c1930 (fun z => z rfl)
  refine z_widen (k := cells + 47) (n := slots + 14378) (by omega) (by omega) ?_
  exact K _ w1 w2 qe4 ke4 sz4 I4 X4 Y4 (k_image hO) hk4 hD4 hM4

theorem L_back (hS : lwH C f b L xs) (hi : i + 5 < L) (hO : DOK D) (hke : D.2.1.isSome = true → ke = true) (hD : DMe D I X Y) (hM : MMe qe D I X Y) (hr : cells + 47 ≤ 276180 ∧ slots + 14378 ≤ 8273710) (K : lwK C f (cells + 47) (slots + 14378) i) : zL C 4 (aB f z1 z2) (lS qe ke) cells slots sz I X Y 1935 [some (zr 8 0), some (zr 3 0), some (zr 0 0), some (zi (nI i))] [] := by
  have hC := hS.1 z1 z2
  have hL := hS.2.2.2.2.2
  refine z_aload_n hC dL_law_1935 rfl ?_
  refine z_lD hC dL_law_1936 zlL_256 rfl rfl rfl rfl rfl ⟨by omega, by omega⟩ hM hke (fun S' h => o_back h hO hD) (fun I3 X3 Y3 hD3 hM3 => ?_)
  refine z_aload_n hC dL_law_1939 rfl ?_
  refine z_lM hS.1 dL_law_1940 zlL_259 rfl rfl rfl rfl rfl ⟨by omega, by omega⟩ hM3 hD3 hke rfl rfl (fun z1 z2 I X Y hM hb1 hb2 => mQ.l (m_back (fun _ => rfl) hO hM (fun q k => if_pos q)) Q_back) (fun w1 w2 qe4 ke4 I4 X4 Y4 sz4 hk4 hD4 hM4 => ?_)
  have hC := hS.1 w1 w2
  refine z_icmp_eq hC dL_law_1943 (tgt := 1971) (by decide) (fun c1943 => ?_) (fun c1943 => ?_)
  rotate_left
  · exact absurd c1943 (fun z => z rfl)
  refine z_widen (k := cells + 47) (n := slots + 14378) (by omega) (by omega) ?_
  exact K _ w1 w2 qe4 ke4 sz4 I4 X4 Y4 (k_back hO) hk4 hD4 hM4

theorem L_status (hS : lwH C f b L xs) (hi : i + 5 < L) (hO : DOK D) (hke : D.2.1.isSome = true → ke = true) (hD : DMe D I X Y) (hM : MMe qe D I X Y) (hr : cells + 47 ≤ 276180 ∧ slots + 14378 ≤ 8273710) (K : lwK C f (cells + 47) (slots + 14378) i) : zL C 4 (aB f z1 z2) (lS qe ke) cells slots sz I X Y 1948 [some (zr 8 0), some (zr 3 0), some (zr 0 0), some (zi (nI i))] [] := by
  have hC := hS.1 z1 z2
  have hL := hS.2.2.2.2.2
  refine z_aload_n hC dL_law_1948 rfl ?_
  refine z_aload_n hC dL_law_1949 rfl ?_
  refine z_iload_n hC dL_law_1950 rfl ?_
  refine z_iconst hC dL_law_1951 (v := nI 1) rfl ?_
  refine z_nadd hC dL_law_1952  ?_
  refine z_sld hC hS.2.1 hS.2.2.1 hS.2.2.2.1 hS.2.2.2.2.1 (by omega) (by omega) dL_law_1953 ?_
  refine z_lD hC dL_law_1954 zlL_260 rfl rfl rfl rfl rfl ⟨by omega, by omega⟩ hM hke (fun S' h => o_status h hO hD) (fun I3 X3 Y3 hD3 hM3 => ?_)
  refine z_aload_n hC dL_law_1957 rfl ?_
  refine z_aload_n hC dL_law_1958 rfl ?_
  refine z_iload_n hC dL_law_1959 rfl ?_
  refine z_iconst hC dL_law_1960 (v := nI 1) rfl ?_
  refine z_nadd hC dL_law_1961  ?_
  refine z_sld hC hS.2.1 hS.2.2.1 hS.2.2.2.1 hS.2.2.2.2.1 (by omega) (by omega) dL_law_1962 ?_
  refine z_lM hS.1 dL_law_1963 zlL_263 rfl rfl rfl rfl rfl ⟨by omega, by omega⟩ hM3 hD3 hke rfl rfl (fun z1 z2 I X Y hM hb1 hb2 => mQ.l (mC.q (m_status (S := lM qe D.2.1.isSome) (fun _ => rfl) hO hM)) (fun q => q)) (fun w1 w2 qe4 ke4 I4 X4 Y4 sz4 hk4 hD4 hM4 => ?_)
  have hC := hS.1 w1 w2
  refine z_icmp_eq hC dL_law_1966 (tgt := 1971) (by decide) (fun c1966 => ?_) (fun c1966 => ?_)
  rotate_left
  · exact absurd c1966 (fun z => z rfl)
  refine z_widen (k := cells + 47) (n := slots + 14378) (by omega) (by omega) ?_
  exact K _ w1 w2 qe4 ke4 sz4 I4 X4 Y4 hO hk4 hD4 hM4

end
