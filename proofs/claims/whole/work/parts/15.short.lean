/-! shorter rows, for methods that make nothing -/
def zb (p : Prop) (h : Decidable p) : Int32 := @ite _ p h 1 0
theorem zb_1 {p : Prop} {h : Decidable p} (hp : p) : zb p h = 1 := if_pos hp
theorem zb_0 {p : Prop} {h : Decidable p} (hp : ¬ p) : zb p h = 0 := if_neg hp
theorem zb_n {p : Prop} {h : Decidable p} : narrow .boolean (.int (zb p h)) = .int (zb p h) := by
  unfold zb
  split <;> rfl
abbrev zi (x : Int32) : zV := .inl x
abbrev zl (x : Int64) : zV := .inr (.inl x)
abbrev zr (b k : Nat) : zV := .inr (.inr (some (b, k)))
abbrev zu : zV := .inr (.inr none)
section ZS
variable {C : zC} {nL : Nat} {ad : zA} {S S' : zSh} {sz sz' : Nat} {I X I' X' : zI} {Y Y' : zY} {pc : Nat} {lo : List (Option zV)} {st : List zV}
variable {bt : ByteArray} {own : String} {ret : Option FieldType} {N : Nat}
abbrev zC0 (y : zM) (n : Nat) (args : List zV) (v : Option zV) (ad : zA) (S : zSh) (I X : zI) (Y : zY) (sz : Nat) (I' X' : zI) (Y' : zY) : Prop := zCall y n 0 0 args v ad S I X Y sz S I' X' Y' sz
theorem zgo {ym : MethodName} {bt : ByteArray} {nL : Nat} {ret : Option FieldType} {own : String} {n mc ms k : Nat} {args : List zV} {v : Option zV} {lo : List (Option zV)} (hp : plainName own = true) (ho : ym.cls = own) (hlen : Nat.ble (zent args 0).length nL = true) (hlo : zent args 0 ++ List.replicate k none = lo)
    (body : ∀ C : zC, zOk bt own nL ret n mc ms C ad → (ch C).name = ym.name → zEnd C ad S' I' X' Y' sz' v mc ms → zL C nL ad S 0 0 sz I X Y 0 lo []) : zCall (ym, bt, nL, ret) n mc ms args v ad S I X Y sz S' I' X' Y' sz' := by
  subst ho
  exact zCall.of (y := (ym, bt, nL, ret)) hp (Nat.le_of_ble_eq_true hlen) hlo body
theorem zSv {y : zM} {np idx n : Nat} {As : List zV} {w : zV} {st0 : List zV} (hC : zOk bt own nL ret N 0 0 C ad) (d : decode bt pc = .ok (.invokestatic idx, 3)) (hy : zSta own idx y np) (hM : zC0 y n As (some w) ad S I X Y sz I' X' Y') (hst : st0 = As.reverse ++ st) (hnp : As.length = np) (hn : Nat.ble (n + 1) N = true) (hw : Nat.ble (st.map (fun v => zcat (some (some v)))).sum 8 = true)
    (kk : zL C nL ad S 0 0 sz I' X' Y' (pc + 3) lo (w :: st)) : zL C nL ad S 0 0 sz I X Y pc lo st0 :=
  z_callS hC d hy hM hst hnp (Nat.le_of_ble_eq_true hn) (Nat.le_of_ble_eq_true hw) ⟨Nat.le_refl _, Nat.le_refl _⟩ kk
theorem zNv {y : zM} {np idx n : Nat} {As : List zV} {w : zV} {st0 : List zV} (hC : zOk bt own nL ret N 0 0 C ad) (d : decode bt pc = .ok (.invokestatic idx, 3)) (hy : zNst own idx y np) (hM : zC0 y n As (some w) ad S I X Y sz I' X' Y') (hst : st0 = As.reverse ++ st) (hnp : As.length = np) (hn : Nat.ble (n + 1) N = true) (hw : Nat.ble (st.map (fun v => zcat (some (some v)))).sum 8 = true)
    (kk : zL C nL ad S 0 0 sz I' X' Y' (pc + 3) lo (w :: st)) : zL C nL ad S 0 0 sz I X Y pc lo st0 :=
  z_callN hC d hy hM hst hnp (Nat.le_of_ble_eq_true hn) (Nat.le_of_ble_eq_true hw) ⟨Nat.le_refl _, Nat.le_refl _⟩ kk
theorem zS0 {y : zM} {np idx n : Nat} {As : List zV} {st0 : List zV} (hC : zOk bt own nL ret N 0 0 C ad) (d : decode bt pc = .ok (.invokestatic idx, 3)) (hy : zSta own idx y np) (hM : zC0 y n As none ad S I X Y sz I' X' Y') (hst : st0 = As.reverse ++ st) (hnp : As.length = np) (hn : Nat.ble (n + 1) N = true) (hw : Nat.ble (st.map (fun v => zcat (some (some v)))).sum 8 = true)
    (kk : zL C nL ad S 0 0 sz I' X' Y' (pc + 3) lo st) : zL C nL ad S 0 0 sz I X Y pc lo st0 :=
  z_callS hC d hy hM hst hnp (Nat.le_of_ble_eq_true hn) (Nat.le_of_ble_eq_true hw) ⟨Nat.le_refl _, Nat.le_refl _⟩ kk
theorem zVv {y : zM} {np idx n : Nat} {As : List zV} {w : zV} {st0 : List zV} {b j ci : Nat} {fl : List zF} {q : vw_C} (hC : zOk bt own nL ret N 0 0 C ad) (d : decode bt pc = .ok (.invokevirtual idx, 3)) (hy : zVir own idx y np) (hM : zC0 y n (.inr (.inr (some (b, j))) :: As) (some w) ad S I X Y sz I' X' Y') (hs : S b j = some (.inr (.inl (ci, fl)))) (hc : vwCl[ci]? = some q) (hq : q.1 = y.1.cls) (hst : st0 = As.reverse ++ .inr (.inr (some (b, j))) :: st) (hnp : As.length = np) (hn : Nat.ble (n + 1) N = true) (hw : Nat.ble (st.map (fun v => zcat (some (some v)))).sum 8 = true)
    (kk : zL C nL ad S 0 0 sz I' X' Y' (pc + 3) lo (w :: st)) : zL C nL ad S 0 0 sz I X Y pc lo st0 :=
  z_callV hC d hy hM hs hc hq hst hnp (Nat.le_of_ble_eq_true hn) (Nat.le_of_ble_eq_true hw) ⟨Nat.le_refl _, Nat.le_refl _⟩ kk
theorem zV0 {y : zM} {np idx n : Nat} {As : List zV} {st0 : List zV} {b j ci : Nat} {fl : List zF} {q : vw_C} (hC : zOk bt own nL ret N 0 0 C ad) (d : decode bt pc = .ok (.invokevirtual idx, 3)) (hy : zVir own idx y np) (hM : zC0 y n (.inr (.inr (some (b, j))) :: As) none ad S I X Y sz I' X' Y') (hs : S b j = some (.inr (.inl (ci, fl)))) (hc : vwCl[ci]? = some q) (hq : q.1 = y.1.cls) (hst : st0 = As.reverse ++ .inr (.inr (some (b, j))) :: st) (hnp : As.length = np) (hn : Nat.ble (n + 1) N = true) (hw : Nat.ble (st.map (fun v => zcat (some (some v)))).sum 8 = true)
    (kk : zL C nL ad S 0 0 sz I' X' Y' (pc + 3) lo st) : zL C nL ad S 0 0 sz I X Y pc lo st0 :=
  z_callV hC d hy hM hs hc hq hst hnp (Nat.le_of_ble_eq_true hn) (Nat.le_of_ble_eq_true hw) ⟨Nat.le_refl _, Nat.le_refl _⟩ kk
theorem zTv {y : zM} {np idx n j : Nat} {As : List zV} {w : zV} {st0 : List zV} (hC : zOk bt own nL ret N 0 0 C ad) (d : decode bt pc = .ok (.invokevirtual idx, 3)) (hy : zVir own idx y np) (hM : zC0 y n (.inr (.inr (some (5, j))) :: As) (some w) ad S I X Y sz I' X' Y') (hj : j < 8) (hq : y.1.cls = "java/lang/String") (hst : st0 = As.reverse ++ .inr (.inr (some (5, j))) :: st) (hnp : As.length = np) (hn : Nat.ble (n + 1) N = true) (hw : Nat.ble (st.map (fun v => zcat (some (some v)))).sum 8 = true)
    (kk : zL C nL ad S 0 0 sz I' X' Y' (pc + 3) lo (w :: st)) : zL C nL ad S 0 0 sz I X Y pc lo st0 :=
  z_callT hC d hy hM hj hq hst hnp (Nat.le_of_ble_eq_true hn) (Nat.le_of_ble_eq_true hw) ⟨Nat.le_refl _, Nat.le_refl _⟩ kk
theorem z_ifb_eq (hC : zOk bt own nL ret N 0 0 C ad) {p : Prop} {hp : Decidable p} {off : Int} {tgt : Nat} (d : decode bt pc = .ok (.ifCond .eq off, 3)) (ht : (pc : Int) + off = (tgt : Int)) (kt : ¬ p → zL C nL ad S 0 0 sz I X Y tgt lo st) (kf : p → zL C nL ad S 0 0 sz I X Y (pc + 3) lo st) : zL C nL ad S 0 0 sz I X Y pc lo (.inl (zb p hp) :: st) :=
  z_if_eq hC d ht (fun h => kt fun hh => by rw [zb_1 hh] at h; cases h) (fun h => kf (Decidable.byContradiction fun hh => h (zb_0 hh)))
theorem z_ifb_ne (hC : zOk bt own nL ret N 0 0 C ad) {p : Prop} {hp : Decidable p} {off : Int} {tgt : Nat} (d : decode bt pc = .ok (.ifCond .ne off, 3)) (ht : (pc : Int) + off = (tgt : Int)) (kt : p → zL C nL ad S 0 0 sz I X Y tgt lo st) (kf : ¬ p → zL C nL ad S 0 0 sz I X Y (pc + 3) lo st) : zL C nL ad S 0 0 sz I X Y pc lo (.inl (zb p hp) :: st) :=
  z_if_ne hC d ht (fun h => kt (Decidable.byContradiction fun hh => h (zb_0 hh))) (fun h => kf fun hh => by rw [zb_1 hh] at h; cases h)
end ZS
