/-! what is kept after each method -/
theorem q_tho {D : DS} {p a : Nat} : (thoS D p a).2.2.1 = D.2.1 := by
  unfold thoS
  split
  all_goals rfl
theorem q_row {D : DS} {x y u : Int32} : (rowS D x y u).2.2.1 = D.2.1 := by
  unfold rowS
  repeat' split
  all_goals rfl
theorem q_set {D : DS} {x y : Int32} {v : Int64} : (setS D x y v).2.2.1 = D.2.1 := by
  unfold setS
  repeat' split
  all_goals rfl
theorem q_copy {D : DS} {x y i j m : Int32} : (copyS D x y i j m).2.2.1 = D.2.1 := by
  unfold copyS
  repeat' split
  all_goals rfl
theorem q_show {D : DS} {x y : Int32} : (showS D x y).2.2.1 = D.2.1 := by
  unfold showS
  repeat' split
  all_goals rfl
theorem q_says {D : DS} {x y : Int32} : (saysS D x y).2.2.1 = D.2.1 := by
  unfold saysS
  repeat' split
  all_goals rfl
theorem q_bend {D : DS} {x y u v : Int32} : (bendS D x y u v).2.2.1 = D.2.1 := by
  unfold bendS
  repeat' split
  all_goals rfl
theorem q_ask {D : DS} {x y : Int32} : (askS D x y).2.2.1 = D.2.1 := by
  unfold askS
  repeat' split
  all_goals rfl
theorem q_sign {D : DS} {x u : Int32} {q : Nat}  : (signS D x q u).2.2.1 = D.2.1 := by
  unfold signS
  repeat' split
  all_goals rfl
theorem q_anew {D : DS}  : (anewS D).2.2.1 = D.2.1 := by
  unfold anewS
  repeat' split
  all_goals rfl
theorem q_feed {D : DS} {x : Int32} : (feedS D x).2.2.1 = D.2.1 := by
  unfold feedS
  repeat' split
  all_goals rfl
theorem q_wipe {D : DS}  : (wipeS D).2.2.1 = D.2.1 := by
  unfold wipeS
  repeat' split
  all_goals rfl
theorem q_way {D : DS}  : (wayS D).2.2.1 = D.2.1 := by
  unfold wayS
  repeat' split
  all_goals rfl
theorem q_bendOf {D : DS} {x y : Int32} : (bendOfS D x y).2.2.1 = D.2.1 := by
  unfold bendOfS
  repeat' split
  all_goals rfl
theorem q_signOf {D : DS} {x y : Int32} : (signOfS D x y).2.2.1 = D.2.1 := by
  unfold signOfS
  repeat' split
  all_goals rfl
theorem q_fall {D : DS} {x y : Int32} : (fallS D x y).2.2.1 = D.2.1 := by
  unfold fallS
  repeat' split
  all_goals rfl
theorem q_fell {D : DS} {x y : Int32} : (fellS D x y).2.2.1 = D.2.1 := by
  unfold fellS
  repeat' split
  all_goals rfl
theorem q_weight {D : DS} {x : Int32} : (weightS D x).2.2.1 = D.2.1 := by
  unfold weightS
  repeat' split
  all_goals rfl
theorem q_likely {D : DS} {x : Int32} : (likelyS D x).2.2.1 = D.2.1 := by
  unfold likelyS
  repeat' split
  all_goals first | rfl | exact q_tho
theorem q_between {D : DS} {x y : Int32} : (betweenS D x y).2.2.1 = D.2.1 := by
  unfold betweenS
  repeat' split
  all_goals first | rfl | exact q_tho
theorem q_half {D : DS}  : (halfS D).2.2.1 = D.2.1 := by
  unfold halfS
  repeat' split
  all_goals rfl
theorem q_few {D : DS} {x : Int32} : (fewS D x).2.2.1 = D.2.1 := by
  unfold fewS
  repeat' split
  all_goals rfl
theorem q_asks {D : DS}  : (asksS D).2.2.1 = D.2.1 := by
  unfold asksS
  repeat' split
  all_goals rfl
theorem q_after {D : DS} {x u : Int32} {q : Nat}  : (afterS D x q u).2.2.1 = D.2.1 := by
  unfold afterS
  repeat' split
  all_goals first | rfl | exact q_tho
theorem q_where {D : DS}  : (whereS D).2.2.1 = D.2.1 := by
  unfold whereS
  repeat' split
  all_goals rfl
theorem q_seconds {D : DS} {x y : Int32} : (secondsS D x y).2.2.1 = D.2.1 := by
  unfold secondsS
  repeat' split
  all_goals rfl
theorem q_found {D : DS} {x y : Int32} : (foundS D x y).2.2.1 = D.2.1 := by
  unfold foundS
  repeat' split
  all_goals rfl
theorem q_best {D : DS} {x y : Int32} : (bestS D x y).2.2.1 = D.2.1 := by
  unfold bestS
  repeat' split
  all_goals rfl
theorem q_next {D : DS}  : (nextS' D).2.2.1 = D.2.1 := by
  unfold nextS'
  repeat' split
  all_goals rfl
theorem q_soonest {D : DS} {x : Int32} : (soonestS D x).2.2.1 = D.2.1 := by
  unfold soonestS
  repeat' split
  all_goals rfl
theorem q_order {D : DS} {x : Int32} : (orderS D x).2.2.1 = D.2.1 := by
  unfold orderS
  repeat' split
  all_goals rfl
theorem q_vain {D : DS} {x : Int32} : (vainS D x).2.2.1 = D.2.1 := by
  unfold vainS
  repeat' split
  all_goals rfl
theorem q_others {D : DS} {x : Int32} : (othersS D x).2.2.1 = D.2.1 := by
  unfold othersS
  repeat' split
  all_goals rfl
theorem q_fast {D : DS} {x : Int32} : (fastS D x).2.2.1 = D.2.1 := by
  unfold fastS
  repeat' split
  all_goals rfl
theorem q_drove {D : DS} {x : Int32} : (droveS D x).2.2.1 = D.2.1 := by
  unfold droveS
  repeat' split
  all_goals rfl
theorem q_gripFor {D : DS} {x : Int32} : (gripForS D x).2.2.1 = D.2.1 := by
  unfold gripForS
  repeat' split
  all_goals rfl
theorem q_otherwise {D : DS}  : (otherwiseS D).2.2.1 = D.2.1 := by
  unfold otherwiseS
  repeat' split
  all_goals rfl
theorem q_slows {D : DS} {x : Int32} : (slowsS D x).2.2.1 = D.2.1 := by
  unfold slowsS
  repeat' split
  all_goals rfl
theorem q_without {D : DS} {x : Int32} : (withoutS D x).2.2.1 = D.2.1 := by
  unfold withoutS
  repeat' split
  all_goals rfl
theorem q_once {D : DS} {x : Int32} : (onceS D x).2.2.1 = D.2.1 := by
  unfold onceS
  repeat' split
  all_goals rfl
theorem q_until {D : DS} {x : Int32} : (untilS D x).2.2.1 = D.2.1 := by
  unfold untilS
  repeat' split
  all_goals rfl
theorem q_worst {D : DS}  : (worstS D).2.2.1 = D.2.1 := by
  unfold worstS
  repeat' split
  all_goals rfl
theorem q_last {D : DS}  : (lastS D).2.2.1 = D.2.1 := by
  unfold lastS
  repeat' split
  all_goals rfl
theorem q_call {D : DS} {x y u : Int32} : (ocallS D x y u).2.2.1 = D.2.1 := by
  unfold ocallS
  repeat' split
  all_goals rfl
theorem q_callOf {D : DS} {x y : Int32} : (callOfS D x y).2.2.1 = D.2.1 := by
  unfold callOfS
  repeat' split
  all_goals rfl
theorem q_hears {D : DS} {x : Int32} : (hearsS D x).2.2.1 = D.2.1 := by
  unfold hearsS
  repeat' split
  all_goals rfl
theorem q_rings {D : DS} {x : Int32} : (ringsS D x).2.2.1 = D.2.1 := by
  unfold ringsS
  repeat' split
  all_goals rfl
theorem q_worth {D : DS} {x y u : Int32} : (worthS D x y u).2.2.1 = D.2.1 := by
  unfold worthS
  repeat' split
  all_goals rfl
theorem q_judge {D : DS} {x y : Int32} : (judgeS D x y).2.2.1 = D.2.1 := by
  unfold judgeS
  repeat' split
  all_goals rfl
theorem q_apart {D : DS} {x y : Int32} : (apartS D x y).2.2.1 = D.2.1 := by
  unfold apartS
  repeat' split
  all_goals rfl
theorem q_search {D : DS} {x y u : Int32} : (searchS D x y u).2.2.1 = D.2.1 := by
  unfold searchS
  repeat' split
  all_goals rfl
theorem q_lies {D : DS} {x : Int32} : (liesS D x).2.2.1 = D.2.1 := by
  unfold liesS
  repeat' split
  all_goals rfl
theorem q_drive {D : DS}  : (driveS D).2.2.1 = D.2.1 := by
  unfold driveS
  repeat' split
  all_goals rfl
theorem q_ite {c : Prop} {h : Decidable c} {a b : Int32 × DS} {D : DS} (ha : a.2.2.1 = D.2.1) (hb : b.2.2.1 = D.2.1) : (@ite _ c h a b).2.2.1 = D.2.1 := by
  cases h with
  | isTrue p => exact ha
  | isFalse p => exact hb
theorem q_pr {D : DS} {v : Int32} {R : RS} : ((v, DR D R) : Int32 × DS).2.2.1 = D.2.1 := rfl
theorem q_look {D : DS} {x y : Int32} : (lookS D x y).2.2.1 = D.2.1 := by
  unfold lookS
  exact q_ite (q_ite (q_ite q_pr q_pr) q_pr) rfl
theorem q_trips {D : DS} {x : Int32} : (tripsS D x).2.2.1 = D.2.1 := by
  unfold tripsS
  repeat' split
  all_goals rfl
theorem q_seed {D : DS} {x : Int32} : (seedS D x).2.2.1 = D.2.1 := by
  unfold seedS
  repeat' split
  all_goals rfl
theorem q_back {D : DS} : (backS D).2.2.1 = D.2.1 := by
  unfold backS
  rcases hk : D.2.1 with _ | K
  · exact hk
  · rfl
