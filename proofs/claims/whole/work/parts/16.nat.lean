/-! rows over natural numbers: an int that is nI of one, a long that is lN of one -/
section ZN
variable {C : zC} {nL : Nat} {ad : zA} {S : zSh} {cells slots sz : Nat} {I X : zI} {Y : zY} {pc : Nat} {lo : List (Option zV)} {st : List zV}
variable {bt : ByteArray} {own : String} {ret : Option FieldType} {N mc ms : Nat}
theorem nI_nlt' {a b : Nat} (ha : a < 2 ^ 31) (hb : b < 2 ^ 31) (h : ¬ nI a < nI b) : b ≤ a := by
  rw [nI_ltI ha hb] at h; omega
theorem nI_nle' {a b : Nat} (ha : a < 2 ^ 31) (hb : b < 2 ^ 31) (h : ¬ nI a ≤ nI b) : b < a := by
  rw [nI_leI ha hb] at h; omega
theorem z_nadd (hC : zOk bt own nL ret N mc ms C ad) {a b : Nat} (d : decode bt pc = .ok (.iadd, 1)) (k : zL C nL ad S cells slots sz I X Y (pc + 1) lo (.inl (nI (a + b)) :: st)) : zL C nL ad S cells slots sz I X Y pc lo (.inl (nI b) :: .inl (nI a) :: st) := by
  exact z_iadd hC d (by rw [nI_add]; exact k)
theorem z_nmul (hC : zOk bt own nL ret N mc ms C ad) {a b : Nat} (d : decode bt pc = .ok (.imul, 1)) (k : zL C nL ad S cells slots sz I X Y (pc + 1) lo (.inl (nI (a * b)) :: st)) : zL C nL ad S cells slots sz I X Y pc lo (.inl (nI b) :: .inl (nI a) :: st) := by
  exact z_imul hC d (by rw [pk_mul]; exact k)
theorem z_nsub (hC : zOk bt own nL ret N mc ms C ad) {a b : Nat} (d : decode bt pc = .ok (.isub, 1)) (hle : b ≤ a) (k : zL C nL ad S cells slots sz I X Y (pc + 1) lo (.inl (nI (a - b)) :: st)) : zL C nL ad S cells slots sz I X Y pc lo (.inl (nI b) :: .inl (nI a) :: st) := by
  exact z_isub hC d (by rw [pk_sub hle]; exact k)
theorem z_ndiv (hC : zOk bt own nL ret N mc ms C ad) {a b : Nat} (d : decode bt pc = .ok (.idiv, 1)) (ha : a < 2 ^ 31) (h0 : 0 < b) (hb : b < 2 ^ 31) (k : zL C nL ad S cells slots sz I X Y (pc + 1) lo (.inl (nI (a / b)) :: st)) : zL C nL ad S cells slots sz I X Y pc lo (.inl (nI b) :: .inl (nI a) :: st) := by
  exact z_idiv hC d (fun h => nI_ne0 h0 hb h) (by rw [pk_div ha h0 hb]; exact k)
theorem z_nrem (hC : zOk bt own nL ret N mc ms C ad) {a b : Nat} (d : decode bt pc = .ok (.irem, 1)) (ha : a < 2 ^ 31) (h0 : 0 < b) (hb : b < 2 ^ 31) (k : zL C nL ad S cells slots sz I X Y (pc + 1) lo (.inl (nI (a % b)) :: st)) : zL C nL ad S cells slots sz I X Y pc lo (.inl (nI b) :: .inl (nI a) :: st) := by
  exact z_irem hC d (fun h => nI_ne0 h0 hb h) (by rw [pk_rem ha h0 hb]; exact k)
theorem z_mmul (hC : zOk bt own nL ret N mc ms C ad) {a b : Nat} (d : decode bt pc = .ok (.lmul, 1)) (k : zL C nL ad S cells slots sz I X Y (pc + 1) lo (.inr (.inl (lN (a * b))) :: st)) : zL C nL ad S cells slots sz I X Y pc lo (.inr (.inl (lN b)) :: .inr (.inl (lN a)) :: st) := by
  exact z_lmul hC d (by rw [lN_mul]; exact k)
theorem z_madd (hC : zOk bt own nL ret N mc ms C ad) {a b : Nat} (d : decode bt pc = .ok (.ladd, 1)) (k : zL C nL ad S cells slots sz I X Y (pc + 1) lo (.inr (.inl (lN (a + b))) :: st)) : zL C nL ad S cells slots sz I X Y pc lo (.inr (.inl (lN b)) :: .inr (.inl (lN a)) :: st) := by
  exact z_ladd hC d (by rw [lN_add]; exact k)
theorem z_msub (hC : zOk bt own nL ret N mc ms C ad) {a b : Nat} (d : decode bt pc = .ok (.lsub, 1)) (hle : b ≤ a) (k : zL C nL ad S cells slots sz I X Y (pc + 1) lo (.inr (.inl (lN (a - b))) :: st)) : zL C nL ad S cells slots sz I X Y pc lo (.inr (.inl (lN b)) :: .inr (.inl (lN a)) :: st) := by
  exact z_lsub hC d (by rw [lN_sub hle]; exact k)
theorem z_mdiv (hC : zOk bt own nL ret N mc ms C ad) {a b : Nat} (d : decode bt pc = .ok (.ldiv, 1)) (ha : a < 2 ^ 63) (h0 : 0 < b) (hb : b < 2 ^ 63) (k : zL C nL ad S cells slots sz I X Y (pc + 1) lo (.inr (.inl (lN (a / b))) :: st)) : zL C nL ad S cells slots sz I X Y pc lo (.inr (.inl (lN b)) :: .inr (.inl (lN a)) :: st) := by
  exact z_ldiv hC d (fun h => by have := (pk_lEQ (b := 0) hb (by decide)).mp h; omega) (by rw [pk_lDiv ha h0 hb]; exact k)
theorem z_mrem (hC : zOk bt own nL ret N mc ms C ad) {a b : Nat} (d : decode bt pc = .ok (.lrem, 1)) (ha : a < 2 ^ 63) (h0 : 0 < b) (hb : b < 2 ^ 63) (k : zL C nL ad S cells slots sz I X Y (pc + 1) lo (.inr (.inl (lN (a % b))) :: st)) : zL C nL ad S cells slots sz I X Y pc lo (.inr (.inl (lN b)) :: .inr (.inl (lN a)) :: st) := by
  exact z_lrem hC d (fun h => by have := (pk_lEQ (b := 0) hb (by decide)).mp h; omega) (by rw [pk_lRem ha h0 hb]; exact k)
theorem z_n2m (hC : zOk bt own nL ret N mc ms C ad) {a : Nat} (d : decode bt pc = .ok (.i2l, 1)) (ha : a < 2 ^ 31) (k : zL C nL ad S cells slots sz I X Y (pc + 1) lo (.inr (.inl (lN a)) :: st)) : zL C nL ad S cells slots sz I X Y pc lo (.inl (nI a) :: st) := by
  exact z_i2l hC d (by rw [nI_l ha]; exact k)
theorem z_m2n (hC : zOk bt own nL ret N mc ms C ad) {a : Nat} (d : decode bt pc = .ok (.l2i, 1)) (k : zL C nL ad S cells slots sz I X Y (pc + 1) lo (.inl (nI a) :: st)) : zL C nL ad S cells slots sz I X Y pc lo (.inr (.inl (lN a)) :: st) := by
  exact z_l2i hC d (by rw [lN_i]; exact k)
theorem z_nicmp_eq (hC : zOk bt own nL ret N mc ms C ad) {a b : Nat} {off : Int} {tgt : Nat} (d : decode bt pc = .ok (.if_icmp .eq off, 3)) (ht : (pc : Int) + off = (tgt : Int)) (ha : a < 2 ^ 31) (hb : b < 2 ^ 31) (kt : a = b → zL C nL ad S cells slots sz I X Y tgt lo st) (kf : a ≠ b → zL C nL ad S cells slots sz I X Y (pc + 3) lo st) : zL C nL ad S cells slots sz I X Y pc lo (.inl (nI b) :: .inl (nI a) :: st) :=
  z_icmp_eq hC d ht (fun h => kt ((nI_eq ha hb).mp h)) (fun h => kf (fun e => h (by rw [e])))
theorem z_nicmp_ne (hC : zOk bt own nL ret N mc ms C ad) {a b : Nat} {off : Int} {tgt : Nat} (d : decode bt pc = .ok (.if_icmp .ne off, 3)) (ht : (pc : Int) + off = (tgt : Int)) (ha : a < 2 ^ 31) (hb : b < 2 ^ 31) (kt : a ≠ b → zL C nL ad S cells slots sz I X Y tgt lo st) (kf : a = b → zL C nL ad S cells slots sz I X Y (pc + 3) lo st) : zL C nL ad S cells slots sz I X Y pc lo (.inl (nI b) :: .inl (nI a) :: st) :=
  z_icmp_ne hC d ht (fun h => kt (fun e => h (by rw [e]))) (fun h => kf ((nI_eq ha hb).mp h))
theorem z_nicmp_lt (hC : zOk bt own nL ret N mc ms C ad) {a b : Nat} {off : Int} {tgt : Nat} (d : decode bt pc = .ok (.if_icmp .lt off, 3)) (ht : (pc : Int) + off = (tgt : Int)) (ha : a < 2 ^ 31) (hb : b < 2 ^ 31) (kt : a < b → zL C nL ad S cells slots sz I X Y tgt lo st) (kf : b ≤ a → zL C nL ad S cells slots sz I X Y (pc + 3) lo st) : zL C nL ad S cells slots sz I X Y pc lo (.inl (nI b) :: .inl (nI a) :: st) :=
  z_icmp_lt hC d ht (fun h => kt ((nI_ltI ha hb).mp h)) (fun h => kf (nI_nlt' ha hb h))
theorem z_nicmp_ge (hC : zOk bt own nL ret N mc ms C ad) {a b : Nat} {off : Int} {tgt : Nat} (d : decode bt pc = .ok (.if_icmp .ge off, 3)) (ht : (pc : Int) + off = (tgt : Int)) (ha : a < 2 ^ 31) (hb : b < 2 ^ 31) (kt : b ≤ a → zL C nL ad S cells slots sz I X Y tgt lo st) (kf : a < b → zL C nL ad S cells slots sz I X Y (pc + 3) lo st) : zL C nL ad S cells slots sz I X Y pc lo (.inl (nI b) :: .inl (nI a) :: st) :=
  z_icmp_ge hC d ht (fun h => kt ((nI_leI hb ha).mp h)) (fun h => kf (nI_nle' hb ha h))
theorem z_nicmp_gt (hC : zOk bt own nL ret N mc ms C ad) {a b : Nat} {off : Int} {tgt : Nat} (d : decode bt pc = .ok (.if_icmp .gt off, 3)) (ht : (pc : Int) + off = (tgt : Int)) (ha : a < 2 ^ 31) (hb : b < 2 ^ 31) (kt : b < a → zL C nL ad S cells slots sz I X Y tgt lo st) (kf : a ≤ b → zL C nL ad S cells slots sz I X Y (pc + 3) lo st) : zL C nL ad S cells slots sz I X Y pc lo (.inl (nI b) :: .inl (nI a) :: st) :=
  z_icmp_gt hC d ht (fun h => kt ((nI_ltI hb ha).mp h)) (fun h => kf (nI_nlt' hb ha h))
theorem z_nicmp_le (hC : zOk bt own nL ret N mc ms C ad) {a b : Nat} {off : Int} {tgt : Nat} (d : decode bt pc = .ok (.if_icmp .le off, 3)) (ht : (pc : Int) + off = (tgt : Int)) (ha : a < 2 ^ 31) (hb : b < 2 ^ 31) (kt : a ≤ b → zL C nL ad S cells slots sz I X Y tgt lo st) (kf : b < a → zL C nL ad S cells slots sz I X Y (pc + 3) lo st) : zL C nL ad S cells slots sz I X Y pc lo (.inl (nI b) :: .inl (nI a) :: st) :=
  z_icmp_le hC d ht (fun h => kt ((nI_leI ha hb).mp h)) (fun h => kf (nI_nle' ha hb h))
theorem z_nif_eq (hC : zOk bt own nL ret N mc ms C ad) {a : Nat} {off : Int} {tgt : Nat} (d : decode bt pc = .ok (.ifCond .eq off, 3)) (ht : (pc : Int) + off = (tgt : Int)) (ha : a < 2 ^ 31) (kt : a = 0 → zL C nL ad S cells slots sz I X Y tgt lo st) (kf : a ≠ 0 → zL C nL ad S cells slots sz I X Y (pc + 3) lo st) : zL C nL ad S cells slots sz I X Y pc lo (.inl (nI a) :: st) :=
  z_if_eq hC d ht (fun h => kt ((nI_eq ha (b := 0) (by decide)).mp h)) (fun h => kf (fun e => h (by rw [e]; rfl)))
theorem z_nif_ne (hC : zOk bt own nL ret N mc ms C ad) {a : Nat} {off : Int} {tgt : Nat} (d : decode bt pc = .ok (.ifCond .ne off, 3)) (ht : (pc : Int) + off = (tgt : Int)) (ha : a < 2 ^ 31) (kt : a ≠ 0 → zL C nL ad S cells slots sz I X Y tgt lo st) (kf : a = 0 → zL C nL ad S cells slots sz I X Y (pc + 3) lo st) : zL C nL ad S cells slots sz I X Y pc lo (.inl (nI a) :: st) :=
  z_if_ne hC d ht (fun h => kt (fun e => h (by rw [e]; rfl))) (fun h => kf ((nI_eq ha (b := 0) (by decide)).mp h))
theorem z_nif_lt (hC : zOk bt own nL ret N mc ms C ad) {a : Nat} {off : Int} (d : decode bt pc = .ok (.ifCond .lt off, 3)) (hj : ∃ tgt : Nat, (pc : Int) + off = (tgt : Int)) (ha : a < 2 ^ 31) (kf : zL C nL ad S cells slots sz I X Y (pc + 3) lo st) : zL C nL ad S cells slots sz I X Y pc lo (.inl (nI a) :: st) := by
  obtain ⟨t, ht⟩ := hj
  exact z_if_lt hC d ht (fun h => absurd h (nI_pos ha)) (fun _ => kf)
theorem z_nif_ge (hC : zOk bt own nL ret N mc ms C ad) {a : Nat} {off : Int} {tgt : Nat} (d : decode bt pc = .ok (.ifCond .ge off, 3)) (ht : (pc : Int) + off = (tgt : Int)) (ha : a < 2 ^ 31) (kt : zL C nL ad S cells slots sz I X Y tgt lo st) : zL C nL ad S cells slots sz I X Y pc lo (.inl (nI a) :: st) :=
  z_if_ge hC d ht (fun _ => kt) (fun h => absurd (nI_pos' ha) h)
theorem z_nif_gt (hC : zOk bt own nL ret N mc ms C ad) {a : Nat} {off : Int} {tgt : Nat} (d : decode bt pc = .ok (.ifCond .gt off, 3)) (ht : (pc : Int) + off = (tgt : Int)) (ha : a < 2 ^ 31) (kt : 0 < a → zL C nL ad S cells slots sz I X Y tgt lo st) (kf : a = 0 → zL C nL ad S cells slots sz I X Y (pc + 3) lo st) : zL C nL ad S cells slots sz I X Y pc lo (.inl (nI a) :: st) :=
  z_if_gt hC d ht (fun h => kt ((nI_ltI (a := 0) (by decide) ha).mp h)) (fun h => kf (Nat.le_zero.mp (nI_nlt' (a := 0) (by decide) ha h)))
theorem z_nif_le (hC : zOk bt own nL ret N mc ms C ad) {a : Nat} {off : Int} {tgt : Nat} (d : decode bt pc = .ok (.ifCond .le off, 3)) (ht : (pc : Int) + off = (tgt : Int)) (ha : a < 2 ^ 31) (kt : a = 0 → zL C nL ad S cells slots sz I X Y tgt lo st) (kf : 0 < a → zL C nL ad S cells slots sz I X Y (pc + 3) lo st) : zL C nL ad S cells slots sz I X Y pc lo (.inl (nI a) :: st) :=
  z_if_le hC d ht (fun h => kt (Nat.le_zero.mp ((nI_leI ha (b := 0) (by decide)).mp h))) (fun h => kf (nI_nle' ha (b := 0) (by decide) h))
theorem z_ninc (hC : zOk bt own nL ret N mc ms C ad) {i a : Nat} {lo2 : List (Option zV)} (d : decode bt pc = .ok (.iinc i 1, 3)) (hx : lo[i]? = some (some (.inl (nI a)))) (hn : Nat.blt i nL = true) (hk : zok lo i = true) (hl : lo.set i (some (.inl (nI (a + 1)))) = lo2) (k : zL C nL ad S cells slots sz I X Y (pc + 3) lo2 st) : zL C nL ad S cells slots sz I X Y pc lo st :=
  z_iinc hC d hx (v := 1) rfl (Nat.le_of_ble_eq_true hn) hk (by rw [nI_1]; exact hl) k
theorem z_getN (hC : zOk bt own nL ret N mc ms C ad) {b j idx ci k n : Nat} {fl : List zF} (d : decode bt pc = .ok (.getfield idx, 3)) (hs : S b j = some (.inr (.inl (ci, fl)))) (hf : zFld own idx ci k) (hk : fl[k]? = some (.inr none)) (hv : I b j k = nI n) (kk : zL C nL ad S cells slots sz I X Y (pc + 3) lo (.inl (nI n) :: st)) : zL C nL ad S cells slots sz I X Y pc lo (.inr (.inr (some (b, j))) :: st) :=
  z_getI hC d hs hf hk (by rw [hv]; exact kk)
theorem z_nald (hC : zOk bt own nL ret N mc ms C ad) {b j n i : Nat} (d : decode bt pc = .ok (.iaload, 1)) (hs : S b j = some (.inl (0, n))) (hi : i < n) (hn : Nat.ble n 1000000 = true) (kk : zL C nL ad S cells slots sz I X Y (pc + 1) lo (.inl (X b j i) :: st)) : zL C nL ad S cells slots sz I X Y pc lo (.inl (nI i) :: .inr (.inr (some (b, j))) :: st) := by
  have h2 := Nat.le_of_ble_eq_true hn
  exact z_iald hC d hs (vp_in_nI hi (by omega)) (by rw [nI_clamp (by omega)]; exact kk)
theorem z_naldN (hC : zOk bt own nL ret N mc ms C ad) {b j n i v : Nat} (d : decode bt pc = .ok (.iaload, 1)) (hs : S b j = some (.inl (0, n))) (hi : i < n) (hn : Nat.ble n 1000000 = true) (hv : X b j i = nI v) (kk : zL C nL ad S cells slots sz I X Y (pc + 1) lo (.inl (nI v) :: st)) : zL C nL ad S cells slots sz I X Y pc lo (.inl (nI i) :: .inr (.inr (some (b, j))) :: st) :=
  z_nald hC d hs hi hn (by rw [hv]; exact kk)
theorem z_nlald (hC : zOk bt own nL ret N mc ms C ad) {b j n i : Nat} (d : decode bt pc = .ok (.laload, 1)) (hs : S b j = some (.inl (1, n))) (hi : i < n) (hn : Nat.ble n 1000000 = true) (kk : zL C nL ad S cells slots sz I X Y (pc + 1) lo (.inr (.inl (Y b j i)) :: st)) : zL C nL ad S cells slots sz I X Y pc lo (.inl (nI i) :: .inr (.inr (some (b, j))) :: st) := by
  have h2 := Nat.le_of_ble_eq_true hn
  exact z_lald hC d hs (vp_in_nI hi (by omega)) (by rw [nI_clamp (by omega)]; exact kk)
theorem z_niast (hC : zOk bt own nL ret N mc ms C ad) {b j n i : Nat} {x : Int32} (d : decode bt pc = .ok (.iastore, 1)) (hs : S b j = some (.inl (0, n))) (hi : i < n) (hn : Nat.ble n 1000000 = true) (kk : zL C nL ad S cells slots sz I (up3 X b j i x) Y (pc + 1) lo st) : zL C nL ad S cells slots sz I X Y pc lo (.inl x :: .inl (nI i) :: .inr (.inr (some (b, j))) :: st) := by
  have h2 := Nat.le_of_ble_eq_true hn
  exact z_iast hC d hs (vp_in_nI hi (by omega)) (by rw [nI_clamp (by omega)]; exact kk)
theorem z_nlast (hC : zOk bt own nL ret N mc ms C ad) {b j n i : Nat} {x : Int64} (d : decode bt pc = .ok (.lastore, 1)) (hs : S b j = some (.inl (1, n))) (hi : i < n) (hn : Nat.ble n 1000000 = true) (kk : zL C nL ad S cells slots sz I X (up3 Y b j i x) (pc + 1) lo st) : zL C nL ad S cells slots sz I X Y pc lo (.inr (.inl x) :: .inl (nI i) :: .inr (.inr (some (b, j))) :: st) := by
  have h2 := Nat.le_of_ble_eq_true hn
  exact z_last hC d hs (vp_in_nI hi (by omega)) (by rw [nI_clamp (by omega)]; exact kk)
def zsub : List (Option zV) → List (Option zV) → Prop
  | [], _ => True
  | none :: t, _ :: t' => zsub t t'
  | none :: t, [] => zsub t []
  | some v :: t, w :: t' => w = some v ∧ zsub t t'
  | some _ :: _, [] => False
theorem zsub_get : ∀ {l l' : List (Option zV)}, zsub l l' → ∀ (i : Nat) (v : zV), l[i]? = some (some v) → l'[i]? = some (some v)
  | [], _, _, i, v, hv => by simp at hv
  | none :: t, w :: t', h, 0, v, hv => by simp at hv
  | none :: t, w :: t', h, i + 1, v, hv => by simpa using zsub_get (l := t) (l' := t') h i v (by simpa using hv)
  | none :: t, [], h, 0, v, hv => by simp at hv
  | none :: t, [], h, i + 1, v, hv => by have := zsub_get (l := t) (l' := []) h i v (by simpa using hv); simp at this
  | some u :: t, w :: t', h, 0, v, hv => by simp at hv; subst hv; simp [h.1]
  | some u :: t, w :: t', h, i + 1, v, hv => by simpa using zsub_get (l := t) (l' := t') h.2 i v (by simpa using hv)
  | some u :: t, [], h, _, v, hv => by cases h
theorem z_sub {lo2 : List (Option zV)} (h : zsub lo2 lo) (k : zL C nL ad S cells slots sz I X Y pc lo2 st) : zL C nL ad S cells slots sz I X Y pc lo st := z_weak (zsub_get h) k
theorem z_I {I2 : zI} (h : I = I2) (k : zL C nL ad S cells slots sz I2 X Y pc lo st) : zL C nL ad S cells slots sz I X Y pc lo st := by subst h; exact k
theorem z_X {X2 : zI} (h : X = X2) (k : zL C nL ad S cells slots sz I X2 Y pc lo st) : zL C nL ad S cells slots sz I X Y pc lo st := by subst h; exact k
theorem z_Y {Y2 : zY} (h : Y = Y2) (k : zL C nL ad S cells slots sz I X Y2 pc lo st) : zL C nL ad S cells slots sz I X Y pc lo st := by subst h; exact k
theorem z_st {st2 : List zV} (h : st = st2) (k : zL C nL ad S cells slots sz I X Y pc lo st2) : zL C nL ad S cells slots sz I X Y pc lo st := by subst h; exact k
theorem zsw_out {x : Int32} {a b : Int} (h : ∀ k : Int, a ≤ k → k ≤ b → x ≠ Int32.ofInt k) : x.toInt < a ∨ b < x.toInt := by
  by_cases h1 : x.toInt < a
  · exact Or.inl h1
  · by_cases h2 : b < x.toInt
    · exact Or.inr h2
    · exact absurd (Int32.ofInt_toInt x).symm (h x.toInt (by omega) (by omega))
theorem z_tabK (hC : zOk bt own nL ret N mc ms C ad) {dflt a b : Int} {offs : Array Int} {len : Nat} {x v : Int32} {off : Int} {tgt : Nat} (d : decode bt pc = .ok (.tableswitch dflt a b offs, len)) (hx : x = v) (g : (decide (v.toInt < a) || decide (b < v.toInt)) = false) (ho : offs[(v.toInt - a).toNat]? = some off) (ht : (pc : Int) + off = (tgt : Int)) (k : zL C nL ad S cells slots sz I X Y tgt lo st) : zL C nL ad S cells slots sz I X Y pc lo (.inl x :: st) := by
  subst hx
  have g1 : ¬ x.toInt < a := fun h => by simp [h] at g
  have g2 : ¬ b < x.toInt := fun h => by simp [h] at g
  exact z_tableIn hC d g1 g2 ho ht k
theorem z_naldA (hC : zOk bt own nL ret N mc ms C ad) {j i : Nat} (hj : j < 3) (hi : i < (zAl j).length) (d : decode bt pc = .ok (.iaload, 1)) (kk : zL C nL ad S cells slots sz I X Y (pc + 1) lo (.inl ((zAl j).getD i 0) :: st)) : zL C nL ad S cells slots sz I X Y pc lo (.inl (nI i) :: .inr (.inr (some (4, j))) :: st) := by
  have h32 : (zAl j).length ≤ 32 := by
    match j, hj with
    | 0, _ => decide
    | 1, _ => decide
    | 2, _ => decide
  exact z_aldA hC hj (vp_in_nI hi (by omega)) d (by rw [nI_clamp (by omega)]; exact kk)
theorem zlk_out {l : List (Int × Int)} {df x : Int} (h : ∀ q ∈ l, q.1 ≠ x) : Op.lookupswitch.offset l df x = df := by
  induction l with
  | nil => rfl
  | cons q l ih =>
    show (if q.1 = x then q.2 else _) = df
    rw [if_neg (h q List.mem_cons_self)]
    exact ih fun q' hq => h q' (List.mem_cons_of_mem _ hq)
theorem z_lkK (hC : zOk bt own nL ret N mc ms C ad) {dflt : Int} {ps : Array (Int × Int)} {len : Nat} {x v : Int32} {off : Int} {tgt : Nat} (d : decode bt pc = .ok (.lookupswitch dflt ps, len)) (hx : x = v) (hp : (ps.toList.zip (ps.toList.drop 1)).all (fun (a, next) => a.1 < next.1) = true) (ho : Op.lookupswitch.offset ps.toList dflt v.toInt = off) (ht : (pc : Int) + off = (tgt : Int)) (k : zL C nL ad S cells slots sz I X Y tgt lo st) : zL C nL ad S cells slots sz I X Y pc lo (.inl x :: st) := by
  subst hx
  exact z_lookup hC d hp ho ht k
end ZN
