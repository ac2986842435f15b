/-! Road: what changes it -/
def nextS (s : Int32) : Int32 := s * nI 1103515245 + nI 12345
def rngN (s : Int32) : Nat := s.toBitVec.toNat / 65536
theorem rngN_lt (s : Int32) : rngN s < 65536 := by
  have := s.toBitVec.isLt
  unfold rngN; omega
theorem zushr16 (x : Int32) : (x.toUInt32 >>> ((nI 16).toUInt32 &&& Int32.toUInt32 31)).toInt32 = nI (rngN x) := by
  have h := pk_ushr x (nI 16) 16 (by decide)
  have h2 : (nI (rngN x)).toBitVec.toNat = rngN x := pk_tn (by have := rngN_lt x; omega)
  apply Int32.toBitVec_inj.mp
  apply BitVec.eq_of_toNat_eq
  rw [h, h2]; rfl
theorem up3_self {α : Type} (f : Nat → Nat → Nat → α) (b k j : Nat) : up3 f b k j (f b k j) = f := by
  funext b' k' j'
  unfold up3
  split
  · next h => obtain ⟨rfl, rfl, rfl⟩ := h; rfl
  · rfl
def rset (R : RS) (j v : Nat) : RS := (fun k => if k = j then v else R.1 k, R.2)
def raddB (R : RS) (k a y q : Nat) : RS := (fun j => if j = 0 then R.1 0 + 1 else R.1 j, fun j i => if i = R.1 0 ∧ j < 5 then (if j = 0 then k else if j = 1 then a else if j = 2 then y else if j = 3 then q else 100) else R.2.1 j i, R.2.2)
def raddS (R : RS) (b is s : Nat) : RS := (fun j => if j = 1 then R.1 1 + 1 else R.1 j, fun j i => if i = R.1 1 ∧ 5 ≤ j ∧ j < 8 then (if j = 5 then b else if j = 6 then is else s) else R.2.1 j i, R.2.2)
def raddC (R : RS) (b m k : Nat) : RS := (fun j => if j = 2 then R.1 2 + 1 else R.1 j, fun j i => if i = R.1 2 ∧ 8 ≤ j ∧ j < 11 then (if j = 8 then b else if j = 9 then m else k) else R.2.1 j i, R.2.2)
def rforget (R : RS) : RS := (fun j => if j = 1 then 0 else R.1 j, fun j i => if j = 4 then 100 else R.2.1 j i, R.2.2)
def missN (m l : Nat) : Nat := m * (100 - seenN l) / 100
def rmiss (R : RS) (b l : Nat) : RS := (R.1, fun j i => if j = 4 ∧ i = b then missN (R.2.1 4 b) l else R.2.1 j i, R.2.2)
def rlies (R : RS) (x : Int32) : RS := (R.1, R.2.1, x, R.2.2.2)
def rseed (R : RS) (x : Int32) : RS := (R.1, R.2.1, R.2.2.1, x)
theorem missN_le {m l : Nat} (h : m ≤ 100) : missN m l ≤ 100 := by
  unfold missN
  have := seenN_le l
  have h2 : m * (100 - seenN l) ≤ 100 * 100 := Nat.mul_le_mul h (by omega)
  omega
def zforg (r n : Nat) (X : zI) : zI := fun b k j => if b = 3 ∧ k = r + 2 ∧ j % 5 = 4 ∧ j / 5 < n then nI 100 else X b k j
theorem zforg_0 (r : Nat) (X : zI) : zforg r 0 X = X := by
  funext b k j
  exact if_neg (by omega)
theorem zforg_s (r i : Nat) (X : zI) : up3 (zforg r i X) 3 (r + 2) (i * 5 + 4) (nI 100) = zforg r (i + 1) X := by
  funext b k j
  unfold up3 zforg
  by_cases h1 : b = 3 ∧ k = r + 2 ∧ j = i * 5 + 4
  · rw [if_pos h1, if_pos (by omega)]
  · rw [if_neg h1]
    by_cases h2 : b = 3 ∧ k = r + 2 ∧ j % 5 = 4 ∧ j / 5 < i
    · rw [if_pos h2, if_pos (by omega)]
    · rw [if_neg h2, if_neg (by omega)]
section
variable {r : Nat} {R : RS} {I X : zI}
theorem zRm_forget (h : zRm r R I X) : zRm r (rforget R) (up3 I 3 (r + 3) 2 (nI 0)) (zforg r (R.1 0) X) := by
  obtain ⟨⟨a1, a2, a3⟩, ⟨b1, b2, b3⟩, ⟨c1, c2, c3⟩, d1, d2, d3, d4, d5⟩ := h
  refine ⟨⟨?_, ?_, fun i j hi hj => ?_⟩, ⟨?_, ?_, fun i j hi hj => ?_⟩, ⟨?_, ?_, fun i j hi hj => ?_⟩, ?_, ?_, ?_, ?_, ?_⟩
  all_goals try first | (rw [up3_eq]; rfl) | (rw [up3_ne (by omega)]; assumption)
  · have hi : i < R.1 0 := hi
    show zforg r (R.1 0) X 3 (r + 2) (i * 5 + j) = nI (if j = 4 then 100 else R.2.1 j i)
    unfold zforg
    by_cases h4 : j = 4
    · rw [if_pos (by omega), if_pos h4]
    · rw [if_neg (by omega), if_neg h4]; exact a3 i j hi hj
  · exact absurd hi (Nat.not_lt_zero i)
  · show zforg r (R.1 0) X 3 (r + 6) (i * 3 + j) = nI (if 8 + j = 4 then 100 else R.2.1 (8 + j) i)
    unfold zforg
    rw [if_neg (by omega), if_neg (by omega)]; exact c3 i j hi hj
theorem zRm_miss (h : zRm r R I X) {b l : Nat} (hb : b < R.1 0) : zRm r (rmiss R b l) I (up3 X 3 (r + 2) (b * 5 + 4) (nI (missN (R.2.1 4 b) l))) := by
  obtain ⟨⟨a1, a2, a3⟩, ⟨b1, b2, b3⟩, ⟨c1, c2, c3⟩, d1, d2, d3, d4, d5⟩ := h
  refine ⟨⟨a1, a2, fun i j hi hj => ?_⟩, ⟨b1, b2, fun i j hi hj => ?_⟩, ⟨c1, c2, fun i j hi hj => ?_⟩, d1, d2, d3, d4, d5⟩
  · show _ = nI (if j = 4 ∧ i = b then missN (R.2.1 4 b) l else R.2.1 j i)
    by_cases h4 : j = 4 ∧ i = b
    · obtain ⟨rfl, rfl⟩ := h4
      rw [up3_eq, if_pos ⟨rfl, rfl⟩]
    · rw [up3_ne (by omega), if_neg h4]; exact a3 i j hi hj
  · show _ = nI (if 5 + j = 4 ∧ i = b then _ else R.2.1 (5 + j) i)
    rw [up3_ne (by omega), if_neg (by omega)]; exact b3 i j hi hj
  · show _ = nI (if 8 + j = 4 ∧ i = b then _ else R.2.1 (8 + j) i)
    rw [up3_ne (by omega), if_neg (by omega)]; exact c3 i j hi hj
theorem zRm_set (h : zRm r R I X) {w v : Nat} (hw : w < 3) : zRm r (rset R (3 + w) v) (up3 I 3 r (3 + w) (nI v)) X := by
  obtain ⟨⟨a1, a2, a3⟩, ⟨b1, b2, b3⟩, ⟨c1, c2, c3⟩, d1, d2, d3, d4, d5⟩ := h
  match w, hw with
  | 0, _ => exact ⟨⟨by rw [up3_ne (by omega)]; exact a1, by rw [up3_ne (by omega)]; exact a2, a3⟩, ⟨by rw [up3_ne (by omega)]; exact b1, by rw [up3_ne (by omega)]; exact b2, b3⟩, ⟨by rw [up3_ne (by omega)]; exact c1, by rw [up3_ne (by omega)]; exact c2, c3⟩, up3_eq _ _ _ _ _, by rw [up3_ne (by omega)]; exact d2, by rw [up3_ne (by omega)]; exact d3, by rw [up3_ne (by omega)]; exact d4, by rw [up3_ne (by omega)]; exact d5⟩
  | 1, _ => exact ⟨⟨by rw [up3_ne (by omega)]; exact a1, by rw [up3_ne (by omega)]; exact a2, a3⟩, ⟨by rw [up3_ne (by omega)]; exact b1, by rw [up3_ne (by omega)]; exact b2, b3⟩, ⟨by rw [up3_ne (by omega)]; exact c1, by rw [up3_ne (by omega)]; exact c2, c3⟩, by rw [up3_ne (by omega)]; exact d1, up3_eq _ _ _ _ _, by rw [up3_ne (by omega)]; exact d3, by rw [up3_ne (by omega)]; exact d4, by rw [up3_ne (by omega)]; exact d5⟩
  | 2, _ => exact ⟨⟨by rw [up3_ne (by omega)]; exact a1, by rw [up3_ne (by omega)]; exact a2, a3⟩, ⟨by rw [up3_ne (by omega)]; exact b1, by rw [up3_ne (by omega)]; exact b2, b3⟩, ⟨by rw [up3_ne (by omega)]; exact c1, by rw [up3_ne (by omega)]; exact c2, c3⟩, by rw [up3_ne (by omega)]; exact d1, by rw [up3_ne (by omega)]; exact d2, up3_eq _ _ _ _ _, by rw [up3_ne (by omega)]; exact d4, by rw [up3_ne (by omega)]; exact d5⟩
theorem zRm_lies (h : zRm r R I X) {x : Int32} : zRm r (rlies R x) (up3 I 3 r 6 x) X := by
  obtain ⟨⟨a1, a2, a3⟩, ⟨b1, b2, b3⟩, ⟨c1, c2, c3⟩, d1, d2, d3, d4, d5⟩ := h
  exact ⟨⟨by rw [up3_ne (by omega)]; exact a1, by rw [up3_ne (by omega)]; exact a2, a3⟩, ⟨by rw [up3_ne (by omega)]; exact b1, by rw [up3_ne (by omega)]; exact b2, b3⟩, ⟨by rw [up3_ne (by omega)]; exact c1, by rw [up3_ne (by omega)]; exact c2, c3⟩, by rw [up3_ne (by omega)]; exact d1, by rw [up3_ne (by omega)]; exact d2, by rw [up3_ne (by omega)]; exact d3, up3_eq _ _ _ _ _, by rw [up3_ne (by omega)]; exact d5⟩
theorem zRm_seed (h : zRm r R I X) {x : Int32} : zRm r (rseed R x) (up3 I 3 r 7 x) X := by
  obtain ⟨⟨a1, a2, a3⟩, ⟨b1, b2, b3⟩, ⟨c1, c2, c3⟩, d1, d2, d3, d4, d5⟩ := h
  exact ⟨⟨by rw [up3_ne (by omega)]; exact a1, by rw [up3_ne (by omega)]; exact a2, a3⟩, ⟨by rw [up3_ne (by omega)]; exact b1, by rw [up3_ne (by omega)]; exact b2, b3⟩, ⟨by rw [up3_ne (by omega)]; exact c1, by rw [up3_ne (by omega)]; exact c2, c3⟩, by rw [up3_ne (by omega)]; exact d1, by rw [up3_ne (by omega)]; exact d2, by rw [up3_ne (by omega)]; exact d3, by rw [up3_ne (by omega)]; exact d4, up3_eq _ _ _ _ _⟩
def zaddB (r n : Nat) (X : zI) (k a y q : Nat) : zI := up3 (up3 (up3 (up3 (up3 X 3 (r + 2) (n * 5 + 0) (nI k)) 3 (r + 2) (n * 5 + 1) (nI a)) 3 (r + 2) (n * 5 + 2) (nI y)) 3 (r + 2) (n * 5 + 3) (nI q)) 3 (r + 2) (n * 5 + 4) (nI 100)
def zadd3 (c n : Nat) (X : zI) (a b d : Nat) : zI := up3 (up3 (up3 X 3 c (n * 3 + 0) (nI a)) 3 c (n * 3 + 1) (nI b)) 3 c (n * 3 + 2) (nI d)
theorem zRm_addB (h : zRm r R I X) {k a y q : Nat} : zRm r (raddB R k a y q) (up3 I 3 (r + 1) 2 (nI (R.1 0 + 1))) (zaddB r (R.1 0) X k a y q) := by
  obtain ⟨⟨a1, a2, a3⟩, ⟨b1, b2, b3⟩, ⟨c1, c2, c3⟩, d1, d2, d3, d4, d5⟩ := h
  refine ⟨⟨?_, ?_, fun i j hi hj => ?_⟩, ⟨?_, ?_, fun i j hi hj => ?_⟩, ⟨?_, ?_, fun i j hi hj => ?_⟩, ?_, ?_, ?_, ?_, ?_⟩
  all_goals try first | (rw [up3_eq]; rfl) | (rw [up3_ne (by omega)]; assumption)
  · have hi : i < R.1 0 + 1 := hi
    show zaddB r (R.1 0) X k a y q 3 (r + 2) (i * 5 + j) = nI (if i = R.1 0 ∧ j < 5 then _ else R.2.1 j i)
    unfold zaddB
    by_cases h1 : i = R.1 0
    · rw [if_pos ⟨h1, hj⟩]
      subst h1
      match j, hj with
      | 0, _ => rw [up3_ne (by omega), up3_ne (by omega), up3_ne (by omega), up3_ne (by omega), up3_eq]; rfl
      | 1, _ => rw [up3_ne (by omega), up3_ne (by omega), up3_ne (by omega), up3_eq]; rfl
      | 2, _ => rw [up3_ne (by omega), up3_ne (by omega), up3_eq]; rfl
      | 3, _ => rw [up3_ne (by omega), up3_eq]; rfl
      | 4, _ => rw [up3_eq]; rfl
    · rw [if_neg (fun z => h1 z.1), up3_ne (by omega), up3_ne (by omega), up3_ne (by omega), up3_ne (by omega), up3_ne (by omega)]
      exact a3 i j (by omega) hj
  · show _ = nI (if i = R.1 0 ∧ 5 + j < 5 then _ else R.2.1 (5 + j) i)
    unfold zaddB
    rw [if_neg (by omega), up3_ne (by omega), up3_ne (by omega), up3_ne (by omega), up3_ne (by omega), up3_ne (by omega)]
    exact b3 i j hi hj
  · show _ = nI (if i = R.1 0 ∧ 8 + j < 5 then _ else R.2.1 (8 + j) i)
    unfold zaddB
    rw [if_neg (by omega), up3_ne (by omega), up3_ne (by omega), up3_ne (by omega), up3_ne (by omega), up3_ne (by omega)]
    exact c3 i j hi hj
theorem zRm_addS (h : zRm r R I X) {a b d : Nat} : zRm r (raddS R a b d) (up3 I 3 (r + 3) 2 (nI (R.1 1 + 1))) (zadd3 (r + 4) (R.1 1) X a b d) := by
  obtain ⟨⟨a1, a2, a3⟩, ⟨b1, b2, b3⟩, ⟨c1, c2, c3⟩, d1, d2, d3, d4, d5⟩ := h
  refine ⟨⟨?_, ?_, fun i j hi hj => ?_⟩, ⟨?_, ?_, fun i j hi hj => ?_⟩, ⟨?_, ?_, fun i j hi hj => ?_⟩, ?_, ?_, ?_, ?_, ?_⟩
  all_goals try first | (rw [up3_eq]; rfl) | (rw [up3_ne (by omega)]; assumption)
  · show _ = nI (if i = R.1 1 ∧ 5 ≤ j ∧ j < 8 then _ else R.2.1 j i)
    unfold zadd3
    rw [if_neg (by omega), up3_ne (by omega), up3_ne (by omega), up3_ne (by omega)]
    exact a3 i j hi hj
  · have hi : i < R.1 1 + 1 := hi
    show zadd3 (r + 4) (R.1 1) X a b d 3 (r + 4) (i * 3 + j) = nI (if i = R.1 1 ∧ 5 ≤ 5 + j ∧ 5 + j < 8 then _ else R.2.1 (5 + j) i)
    unfold zadd3
    by_cases h1 : i = R.1 1
    · rw [if_pos ⟨h1, by omega, by omega⟩]
      subst h1
      match j, hj with
      | 0, _ => rw [up3_ne (by omega), up3_ne (by omega), up3_eq]; rfl
      | 1, _ => rw [up3_ne (by omega), up3_eq]; rfl
      | 2, _ => rw [up3_eq]; rfl
    · rw [if_neg (fun z => h1 z.1), up3_ne (by omega), up3_ne (by omega), up3_ne (by omega)]
      exact b3 i j (by omega) hj
  · show _ = nI (if i = R.1 1 ∧ 5 ≤ 8 + j ∧ 8 + j < 8 then _ else R.2.1 (8 + j) i)
    unfold zadd3
    rw [if_neg (by omega), up3_ne (by omega), up3_ne (by omega), up3_ne (by omega)]
    exact c3 i j hi hj
theorem zRm_addC (h : zRm r R I X) {a b d : Nat} : zRm r (raddC R a b d) (up3 I 3 (r + 5) 2 (nI (R.1 2 + 1))) (zadd3 (r + 6) (R.1 2) X a b d) := by
  obtain ⟨⟨a1, a2, a3⟩, ⟨b1, b2, b3⟩, ⟨c1, c2, c3⟩, d1, d2, d3, d4, d5⟩ := h
  refine ⟨⟨?_, ?_, fun i j hi hj => ?_⟩, ⟨?_, ?_, fun i j hi hj => ?_⟩, ⟨?_, ?_, fun i j hi hj => ?_⟩, ?_, ?_, ?_, ?_, ?_⟩
  all_goals try first | (rw [up3_eq]; rfl) | (rw [up3_ne (by omega)]; assumption)
  · show _ = nI (if i = R.1 2 ∧ 8 ≤ j ∧ j < 11 then _ else R.2.1 j i)
    unfold zadd3
    rw [if_neg (by omega), up3_ne (by omega), up3_ne (by omega), up3_ne (by omega)]
    exact a3 i j hi hj
  · show _ = nI (if i = R.1 2 ∧ 8 ≤ 5 + j ∧ 5 + j < 11 then _ else R.2.1 (5 + j) i)
    unfold zadd3
    rw [if_neg (by omega), up3_ne (by omega), up3_ne (by omega), up3_ne (by omega)]
    exact b3 i j hi hj
  · have hi : i < R.1 2 + 1 := hi
    show zadd3 (r + 6) (R.1 2) X a b d 3 (r + 6) (i * 3 + j) = nI (if i = R.1 2 ∧ 8 ≤ 8 + j ∧ 8 + j < 11 then _ else R.2.1 (8 + j) i)
    unfold zadd3
    by_cases h1 : i = R.1 2
    · rw [if_pos ⟨h1, by omega, by omega⟩]
      subst h1
      match j, hj with
      | 0, _ => rw [up3_ne (by omega), up3_ne (by omega), up3_eq]; rfl
      | 1, _ => rw [up3_ne (by omega), up3_eq]; rfl
      | 2, _ => rw [up3_eq]; rfl
    · rw [if_neg (fun z => h1 z.1), up3_ne (by omega), up3_ne (by omega), up3_ne (by omega)]
      exact c3 i j (by omega) hj
end

