/-! pure: the text, as both sides see it -/
theorem mI_same {u : Mm} {q k : Nat} {x : Int32} (h : u.1 q k = x) : setI u q k x = u := by
  unfold setI
  have : (fun a b => if a = q ∧ b = k then x else u.1 a b) = u.1 := by
    funext a b
    by_cases hc : a = q ∧ b = k
    · rw [if_pos hc, hc.1, hc.2, h]
    · rw [if_neg hc]
  rw [this]
theorem mI_over {u : Mm} {q k : Nat} {x y : Int32} : setI (setI u q k x) q k y = setI u q k y := by
  unfold setI
  have : (fun a b => if a = q ∧ b = k then y else (fun a b => if a = q ∧ b = k then x else u.1 a b) a b) = (fun a b => if a = q ∧ b = k then y else u.1 a b) := by
    funext a b
    by_cases hc : a = q ∧ b = k <;> simp [hc]
  simp only [this]
def bv (T : Nat → Nat) (s i : Nat) : Nat := if i < s then T i else 0
def cb (x : Nat) : Int32 := if x = 0 then -1 else nI x
def mb (x : Nat) : Int32 := if x = 0 then 10 else nI x
def jT (T : Nat → Nat) (s p : Nat) (f : Nat → Int32) : Prop := s ≤ 1300 ∧ ∀ i, p ≤ i → i < s → f i = nI (T i) ∧ 32 ≤ T i ∧ T i ≤ 126
theorem jT.adv {T : Nat → Nat} {s p p' : Nat} {f : Nat → Int32} (h : jT T s p f) (hp : p ≤ p') : jT T s p' f := ⟨h.1, fun i hi hs => h.2 i (Nat.le_trans hp hi) hs⟩
theorem bv_in {T : Nat → Nat} {s i : Nat} (h : i < s) : bv T s i = T i := if_pos h
theorem bv_out {T : Nat → Nat} {s i : Nat} (h : s ≤ i) : bv T s i = 0 := if_neg (Nat.not_lt.mpr h)
theorem jT.bd {T : Nat → Nat} {s p : Nat} {f : Nat → Int32} (h : jT T s p f) (i : Nat) (hi : p ≤ i) : bv T s i ≤ 126 ∧ (i < s → 32 ≤ bv T s i) ∧ (s ≤ i → bv T s i = 0) := by
  by_cases hs : i < s
  · rw [bv_in hs]; exact ⟨(h.2 i hi hs).2.2, fun _ => (h.2 i hi hs).2.1, fun z => absurd hs (Nat.not_lt.mpr z)⟩
  · rw [bv_out (Nat.not_lt.mp hs)]; exact ⟨by omega, fun z => absurd z hs, fun _ => rfl⟩
theorem jT.le {T : Nat → Nat} {s p : Nat} {f : Nat → Int32} (h : jT T s p f) (i : Nat) (hi : p ≤ i) : bv T s i ≤ 126 := (h.bd i hi).1
theorem bv_pos {T : Nat → Nat} {s i : Nat} (h : bv T s i ≠ 0) : i < s := by
  rcases Nat.lt_or_ge i s with h1 | h1
  · exact h1
  · exact absurd (bv_out h1) h
theorem and255 {x : Nat} (h : x < 256) : nI x &&& 255 = nI x := by
  rw [pk_andN (by omega) 8 rfl, Nat.mod_eq_of_lt (by omega)]
/-! the class -/
def pkC (f : Nat → Int32) (s k : Int32) : Int32 := if k < 0 then -1 else if s ≤ k then -1 else if 2400 ≤ k then -1 else f (ix k) &&& 255
theorem vp_in2400 {k : Int32} (h1 : ¬ k < 0) (h2 : ¬ (2400 : Int32) ≤ k) : vp_in k 2400 := by
  obtain ⟨j, hj, rfl⟩ := nI_of h1
  have : j < 2400 := by
    rw [show (2400 : Int32) = nI 2400 from rfl, nI_leI (by omega) hj] at h2
    omega
  exact vp_in_nI this (by omega)
theorem c_peek {n : Nat} {d : Int32} {u : Mm} {Q : Int32 → Mm → Prop} : w_X5_peek n d u Q = Q (pkC (u.1 (u.2.2 1)) (u.1 33 4) (u.1 33 2 + d)) u := by
  unfold w_X5_peek w_X5_peek_41 w_X5_peek_42 ilet pkC
  simp only [br_if]
  by_cases h1 : u.1 33 2 + d < 0
  · simp only [h1, if_true]
  · by_cases h2 : u.1 33 4 ≤ u.1 33 2 + d
    · simp only [h1, h2, if_true, if_false]
    · by_cases h3 : (2400 : Int32) ≤ u.1 33 2 + d
      · simp only [h1, h2, h3, if_true, if_false]
      · simp only [h1, h2, h3, if_false, eq_true (vp_in2400 h1 h3), true_and]
theorem pkC_eq {T : Nat → Nat} {s p : Nat} {f : Nat → Int32} (hT : jT T s p f) {k : Nat} (h : p ≤ k ∧ k < 2147483648) : pkC f (nI s) (nI k) = cb (bv T s k) := by
  have hs := hT.1
  unfold pkC cb
  by_cases hk : k < s
  · obtain ⟨e, b1, b2⟩ := hT.2 k h.1 hk
    rw [bv_in hk]
    simp (disch := omega) only [mlet, ilet, jlet, ↓br_if, ↓br_ifn, ↓reduceIte, nl_lt_t, nl_lt_f, nl_gt_t, nl_gt_f, nl_le_t, nl_le_f, nl_ge_t, nl_ge_f, nl_eq_t, nl_eq_f, nn_lt_t, nn_lt_f, nn_le_t, nn_le_f, nn_eq_t, nn_eq_f, nl_add, nl_sub, nl_mul, nl_mulr, nn_add, nn_ix, nn_in, true_and, and_true, gI_if, gIj, gIr, gJ_if, gJi, gJr, gPr, gPi, gPj, hu_if, hv_if, Nat.reduceEqDiff, eq_self, bIT, bIF, Nat.add_zero, Nat.add_assoc, Nat.reduceAdd, nb0, nb1, i10, i00, Bool.false_eq_true, bI_t, bI_f, if_pos, if_neg, e, and255]
  · rw [bv_out (by omega)]
    simp (disch := omega) only [mlet, ilet, jlet, ↓br_if, ↓br_ifn, ↓reduceIte, nl_lt_t, nl_lt_f, nl_gt_t, nl_gt_f, nl_le_t, nl_le_f, nl_ge_t, nl_ge_f, nl_eq_t, nl_eq_f, nn_lt_t, nn_lt_f, nn_le_t, nn_le_f, nn_eq_t, nn_eq_f, nl_add, nl_sub, nl_mul, nl_mulr, nn_add, nn_ix, nn_in, true_and, and_true, gI_if, gIj, gIr, gJ_if, gJi, gJr, gPr, gPi, gPj, hu_if, hv_if, Nat.reduceEqDiff, eq_self, bIT, bIF, Nat.add_zero, Nat.add_assoc, Nat.reduceAdd, nb0, nb1, i10, i00, Bool.false_eq_true, bI_t, bI_f, if_pos, if_neg]
theorem cb_nz {x : Nat} (h : x ≠ 0) : cb x = nI x := if_neg h
theorem cb_z {x : Nat} (h : x = 0) : cb x = -1 := if_pos h
theorem mb_nz {x : Nat} (h : x ≠ 0) : mb x = nI x := if_neg h
theorem mb_z {x : Nat} (h : x = 0) : mb x = nI 10 := if_pos h
theorem cb_eq_t {x k : Nat} (h : x = (OfNat.ofNat k : Nat) ∧ (OfNat.ofNat k : Nat) ≠ 0) : (cb x = no_index (OfNat.ofNat k : Int32)) = True := by
  rw [cb_nz (by rw [h.1]; exact h.2), nl_eq_t h.1]
theorem cb_ne {x m : Nat} (h : x ≠ m ∧ x < 2147483648 ∧ m < 2147483648) : cb x ≠ nI m := by
  by_cases hx : x = 0
  · rw [cb_z hx]
    intro z
    have := congrArg Int32.toInt z
    rw [nI_toInt h.2.2] at this
    have h2 : (-1 : Int32).toInt = -1 := by decide
    omega
  · rw [cb_nz hx]; exact fun z => h.1 ((nI_eq h.2.1 h.2.2).mp z)
theorem cb_eq_f {x k : Nat} (h : x ≠ (OfNat.ofNat k : Nat) ∧ x < 2147483648 ∧ (OfNat.ofNat k : Nat) < 2147483648) : (cb x = no_index (OfNat.ofNat k : Int32)) = False := eq_false (cb_ne h)
theorem cb_lt0_t {x : Nat} (h : x = 0) : (cb x < 0) = True := by rw [cb_z h]; decide
theorem cb_lt0_f {x : Nat} (h : x ≠ 0 ∧ x < 2147483648) : (cb x < 0) = False := by rw [cb_nz h.1]; exact eq_false (nI_pos h.2)
theorem cb_toInt {x : Nat} (h : x < 2147483648) : (cb x).toInt = if x = 0 then -1 else (x : Int) := by
  by_cases hx : x = 0
  · rw [cb_z hx, if_pos hx]; decide
  · rw [cb_nz hx, if_neg hx, nI_toInt h]
theorem dgI_cb {x : Nat} (h : x < 2147483648) : (if cb x < 48 then (0 : Int32) else if 57 < cb x then 0 else 1) = bI (48 ≤ x ∧ x ≤ 57) := by
  by_cases hx : x = 0
  · rw [cb_z hx, bI_f (by omega), if_pos (by decide)]
  · rw [cb_nz hx]
    by_cases h1 : x < 48
    · rw [bI_f (by omega)]; simp (disch := omega) only [mlet, ilet, jlet, ↓br_if, ↓br_ifn, ↓reduceIte, nl_lt_t, nl_lt_f, nl_gt_t, nl_gt_f, nl_le_t, nl_le_f, nl_ge_t, nl_ge_f, nl_eq_t, nl_eq_f, nn_lt_t, nn_lt_f, nn_le_t, nn_le_f, nn_eq_t, nn_eq_f, nl_add, nl_sub, nl_mul, nl_mulr, nn_add, nn_ix, nn_in, true_and, and_true, gI_if, gIj, gIr, gJ_if, gJi, gJr, gPr, gPi, gPj, hu_if, hv_if, Nat.reduceEqDiff, eq_self, bIT, bIF, Nat.add_zero, Nat.add_assoc, Nat.reduceAdd, nb0, nb1, i10, i00, Bool.false_eq_true, bI_t, bI_f, if_pos, if_neg]
    · by_cases h2 : 57 < x
      · rw [bI_f (by omega)]; simp (disch := omega) only [mlet, ilet, jlet, ↓br_if, ↓br_ifn, ↓reduceIte, nl_lt_t, nl_lt_f, nl_gt_t, nl_gt_f, nl_le_t, nl_le_f, nl_ge_t, nl_ge_f, nl_eq_t, nl_eq_f, nn_lt_t, nn_lt_f, nn_le_t, nn_le_f, nn_eq_t, nn_eq_f, nl_add, nl_sub, nl_mul, nl_mulr, nn_add, nn_ix, nn_in, true_and, and_true, gI_if, gIj, gIr, gJ_if, gJi, gJr, gPr, gPi, gPj, hu_if, hv_if, Nat.reduceEqDiff, eq_self, bIT, bIF, Nat.add_zero, Nat.add_assoc, Nat.reduceAdd, nb0, nb1, i10, i00, Bool.false_eq_true, bI_t, bI_f, if_pos, if_neg]
      · rw [bI_t (by omega)]; simp (disch := omega) only [mlet, ilet, jlet, ↓br_if, ↓br_ifn, ↓reduceIte, nl_lt_t, nl_lt_f, nl_gt_t, nl_gt_f, nl_le_t, nl_le_f, nl_ge_t, nl_ge_f, nl_eq_t, nl_eq_f, nn_lt_t, nn_lt_f, nn_le_t, nn_le_f, nn_eq_t, nn_eq_f, nl_add, nl_sub, nl_mul, nl_mulr, nn_add, nn_ix, nn_in, true_and, and_true, gI_if, gIj, gIr, gJ_if, gJi, gJr, gPr, gPi, gPj, hu_if, hv_if, Nat.reduceEqDiff, eq_self, bIT, bIF, Nat.add_zero, Nat.add_assoc, Nat.reduceAdd, nb0, nb1, i10, i00, Bool.false_eq_true, bI_t, bI_f, if_pos, if_neg]
def dgI (x : Int32) : Int32 := if x < 48 then 0 else if 57 < x then 0 else 1
theorem dgI_eq {x : Nat} (h : x < 2147483648) : dgI (cb x) = bI (48 ≤ x ∧ x ≤ 57) := dgI_cb h
theorem c_digit {n : Nat} {u : Mm} {Q : Int32 → Mm → Prop} : w_X5_digitHere n u Q = Q (dgI (pkC (u.1 (u.2.2 1)) (u.1 33 4) (u.1 33 2 + 0))) u := by
  unfold w_X5_digitHere w_X5_digitHere_22 w_X5_digitHere_23 dgI
  rw [c_peek]
  simp only [br_if, nb0, nb1, true_and]
  by_cases h1 : pkC (u.1 (u.2.2 1)) (u.1 33 4) (u.1 33 2 + 0) < 48
  · simp only [h1, if_true]
  · by_cases h2 : 57 < pkC (u.1 (u.2.2 1)) (u.1 33 4) (u.1 33 2 + 0)
    · simp only [h1, h2, if_true, if_false]
    · simp only [h1, h2, if_false]
def cfl (x a b : Int32) (u : Mm) : Mm := if x = 0 then setI (setI u 33 6 a) 33 7 b else u
theorem cfl_0 {a b : Int32} {u : Mm} : cfl 0 a b u = setI (setI u 33 6 a) 33 7 b := if_pos rfl
theorem cfl_n {x a b : Int32} {u : Mm} (h : x ≠ 0) : cfl x a b u = u := if_neg h
theorem c_fail {n : Nat} {a b : Int32} {u : Mm} {Q : Mm → Prop} : w_X5_fail n a b u Q = Q (cfl (u.1 33 6) a b u) := by
  unfold w_X5_fail w_X5_fail_17 cfl
  by_cases h : u.1 33 6 = 0 <;> simp [h, mlet]
theorem c_mustStop {n : Nat} {u : Mm} {Q : Mm → Prop} : w_X5_mustStop n u Q = if u.1 33 4 ≤ u.1 33 2 then Q u else Q (cfl (u.1 33 6) 1 (u.1 33 2) u) := by
  unfold w_X5_mustStop w_X5_mustStop_20
  simp only [br_if, c_fail]
/-! blanks -/
def blk (T : Nat → Nat) (s : Nat) : Nat → Nat → Nat
  | 0, p => p
  | k + 1, p => if bv T s p = 32 then blk T s k (p + 1) else p
def blkP (T : Nat → Nat) (s p : Nat) : Nat := blk T s (s - p) p
theorem blk_step {T : Nat → Nat} {s p : Nat} (h : bv T s p = 32) : blkP T s p = blkP T s (p + 1) := by
  have hp : p < s := by
    rcases Nat.lt_or_ge p s with h1 | h1
    · exact h1
    · rw [bv_out h1] at h; omega
  unfold blkP
  rw [show s - p = (s - (p + 1)) + 1 from by omega]
  show (if bv T s p = 32 then _ else _) = _
  rw [if_pos h]
theorem blk_stop {T : Nat → Nat} {s p : Nat} (h : bv T s p ≠ 32) : blkP T s p = p := by
  unfold blkP
  cases hd : s - p with
  | zero => rfl
  | succ d => show (if bv T s p = 32 then _ else _) = _; rw [if_neg h]
theorem blk_bd {T : Nat → Nat} {s : Nat} : ∀ (d p : Nat), s - p = d → p ≤ s → p ≤ blkP T s p ∧ blkP T s p ≤ s ∧ bv T s (blkP T s p) ≠ 32 := by
  intro d
  induction d with
  | zero =>
    intro p hd hp
    have h : bv T s p ≠ 32 := by rw [bv_out (by omega)]; omega
    rw [blk_stop h]; exact ⟨Nat.le_refl _, hp, h⟩
  | succ d ih =>
    intro p hd hp
    by_cases h : bv T s p = 32
    · rw [blk_step h]
      have := ih (p + 1) (by omega) (by omega)
      exact ⟨by omega, this.2⟩
    · rw [blk_stop h]; exact ⟨Nat.le_refl _, hp, h⟩
theorem c_skip0 {n : Nat} {Q : Mm → Prop} {T : Nat → Nat} {s p B : Nat} (hB : B ≠ 33) : ∀ (d k q : Nat) (u : Mm), s - q = d → d < k → jT T s p (u.1 B) → u.2.2 1 = B → u.1 33 4 = nI s → u.1 33 2 = nI q → p ≤ q → q ≤ s → w_X5_skipBlanks_0 n Q k u = Q (setI u 33 2 (nI (blkP T s q))) := by
  intro d
  induction d with
  | zero =>
    intro k q u hd hk hT hP h4 h2 hp hq
    obtain ⟨k, rfl⟩ : ∃ j, k = j + 1 := ⟨k - 1, by omega⟩
    have hs := hT.1
    have hb : bv T s q ≠ 32 := by rw [bv_out (by omega)]; omega
    rw [blk_stop hb, mI_same h2]
    simp (disch := omega) only [mlet, ilet, jlet, ↓br_if, ↓br_ifn, ↓reduceIte, nl_lt_t, nl_lt_f, nl_gt_t, nl_gt_f, nl_le_t, nl_le_f, nl_ge_t, nl_ge_f, nl_eq_t, nl_eq_f, nn_lt_t, nn_lt_f, nn_le_t, nn_le_f, nn_eq_t, nn_eq_f, nl_add, nl_sub, nl_mul, nl_mulr, nn_add, nn_ix, nn_in, true_and, and_true, gI_if, gIj, gIr, gJ_if, gJi, gJr, gPr, gPi, gPj, hu_if, hv_if, Nat.reduceEqDiff, eq_self, bIT, bIF, Nat.add_zero, Nat.add_assoc, Nat.reduceAdd, nb0, nb1, i10, i00, Bool.false_eq_true, bI_t, bI_f, if_pos, if_neg, w_X5_skipBlanks_0, w_X5_skipBlanks_34, h4, h2]
  | succ d ih =>
    intro k q u hd hk hT hP h4 h2 hp hq
    obtain ⟨k, rfl⟩ : ∃ j, k = j + 1 := ⟨k - 1, by omega⟩
    have hs := hT.1
    have hb := hT.bd q hp
    by_cases h : bv T s q = 32
    · rw [blk_step h]
      have := ih k (q + 1) (setI u 33 2 (nI (q + 1))) (by omega) (by omega) (by simp (disch := omega) only [mlet, ilet, jlet, ↓br_if, ↓br_ifn, ↓reduceIte, nl_lt_t, nl_lt_f, nl_gt_t, nl_gt_f, nl_le_t, nl_le_f, nl_ge_t, nl_ge_f, nl_eq_t, nl_eq_f, nn_lt_t, nn_lt_f, nn_le_t, nn_le_f, nn_eq_t, nn_eq_f, nl_add, nl_sub, nl_mul, nl_mulr, nn_add, nn_ix, nn_in, true_and, and_true, gI_if, gIj, gIr, gJ_if, gJi, gJr, gPr, gPi, gPj, hu_if, hv_if, Nat.reduceEqDiff, eq_self, bIT, bIF, Nat.add_zero, Nat.add_assoc, Nat.reduceAdd, nb0, nb1, i10, i00, Bool.false_eq_true, bI_t, bI_f, if_pos, if_neg]; exact hT) (by simp (disch := omega) only [mlet, ilet, jlet, ↓br_if, ↓br_ifn, ↓reduceIte, nl_lt_t, nl_lt_f, nl_gt_t, nl_gt_f, nl_le_t, nl_le_f, nl_ge_t, nl_ge_f, nl_eq_t, nl_eq_f, nn_lt_t, nn_lt_f, nn_le_t, nn_le_f, nn_eq_t, nn_eq_f, nl_add, nl_sub, nl_mul, nl_mulr, nn_add, nn_ix, nn_in, true_and, and_true, gI_if, gIj, gIr, gJ_if, gJi, gJr, gPr, gPi, gPj, hu_if, hv_if, Nat.reduceEqDiff, eq_self, bIT, bIF, Nat.add_zero, Nat.add_assoc, Nat.reduceAdd, nb0, nb1, i10, i00, Bool.false_eq_true, bI_t, bI_f, if_pos, if_neg]; exact hP) (by simp (disch := omega) only [mlet, ilet, jlet, ↓br_if, ↓br_ifn, ↓reduceIte, nl_lt_t, nl_lt_f, nl_gt_t, nl_gt_f, nl_le_t, nl_le_f, nl_ge_t, nl_ge_f, nl_eq_t, nl_eq_f, nn_lt_t, nn_lt_f, nn_le_t, nn_le_f, nn_eq_t, nn_eq_f, nl_add, nl_sub, nl_mul, nl_mulr, nn_add, nn_ix, nn_in, true_and, and_true, gI_if, gIj, gIr, gJ_if, gJi, gJr, gPr, gPi, gPj, hu_if, hv_if, Nat.reduceEqDiff, eq_self, bIT, bIF, Nat.add_zero, Nat.add_assoc, Nat.reduceAdd, nb0, nb1, i10, i00, Bool.false_eq_true, bI_t, bI_f, if_pos, if_neg]; exact h4) (by simp (disch := omega) only [mlet, ilet, jlet, ↓br_if, ↓br_ifn, ↓reduceIte, nl_lt_t, nl_lt_f, nl_gt_t, nl_gt_f, nl_le_t, nl_le_f, nl_ge_t, nl_ge_f, nl_eq_t, nl_eq_f, nn_lt_t, nn_lt_f, nn_le_t, nn_le_f, nn_eq_t, nn_eq_f, nl_add, nl_sub, nl_mul, nl_mulr, nn_add, nn_ix, nn_in, true_and, and_true, gI_if, gIj, gIr, gJ_if, gJi, gJr, gPr, gPi, gPj, hu_if, hv_if, Nat.reduceEqDiff, eq_self, bIT, bIF, Nat.add_zero, Nat.add_assoc, Nat.reduceAdd, nb0, nb1, i10, i00, Bool.false_eq_true, bI_t, bI_f, if_pos, if_neg]) (by omega) (by omega)
      rw [mI_over] at this
      rw [← this]
      simp (disch := omega) only [mlet, ilet, jlet, ↓br_if, ↓br_ifn, ↓reduceIte, nl_lt_t, nl_lt_f, nl_gt_t, nl_gt_f, nl_le_t, nl_le_f, nl_ge_t, nl_ge_f, nl_eq_t, nl_eq_f, nn_lt_t, nn_lt_f, nn_le_t, nn_le_f, nn_eq_t, nn_eq_f, nl_add, nl_sub, nl_mul, nl_mulr, nn_add, nn_ix, nn_in, true_and, and_true, gI_if, gIj, gIr, gJ_if, gJi, gJr, gPr, gPi, gPj, hu_if, hv_if, Nat.reduceEqDiff, eq_self, bIT, bIF, Nat.add_zero, Nat.add_assoc, Nat.reduceAdd, nb0, nb1, i10, i00, Bool.false_eq_true, bI_t, bI_f, if_pos, if_neg, w_X5_skipBlanks_0, w_X5_skipBlanks_34, h4, h2, c_peek, hP, pkC_eq hT, cb_eq_t]
    · rw [blk_stop h, mI_same h2]
      simp (disch := omega) only [mlet, ilet, jlet, ↓br_if, ↓br_ifn, ↓reduceIte, nl_lt_t, nl_lt_f, nl_gt_t, nl_gt_f, nl_le_t, nl_le_f, nl_ge_t, nl_ge_f, nl_eq_t, nl_eq_f, nn_lt_t, nn_lt_f, nn_le_t, nn_le_f, nn_eq_t, nn_eq_f, nl_add, nl_sub, nl_mul, nl_mulr, nn_add, nn_ix, nn_in, true_and, and_true, gI_if, gIj, gIr, gJ_if, gJi, gJr, gPr, gPi, gPj, hu_if, hv_if, Nat.reduceEqDiff, eq_self, bIT, bIF, Nat.add_zero, Nat.add_assoc, Nat.reduceAdd, nb0, nb1, i10, i00, Bool.false_eq_true, bI_t, bI_f, if_pos, if_neg, w_X5_skipBlanks_0, w_X5_skipBlanks_34, h4, h2, c_peek, hP, pkC_eq hT, cb_eq_f]
/-- guarded: a call seen through the numbers that it reads -/
def gsk (n B : Nat) (f : Nat → Int32) (s a : Int32) (u : Mm) (Q : Mm → Prop) : Prop := (u.2.2 1 = B ∧ u.1 B = f ∧ u.1 33 4 = s ∧ u.1 33 2 = a → w_X5_skipBlanks n u Q) ∧ (¬ (u.2.2 1 = B ∧ u.1 B = f ∧ u.1 33 4 = s ∧ u.1 33 2 = a) → Q (setI u 33 2 (nI (blkP (fun i => ix (f i)) (ix s) (ix a)))))
theorem c_skip {n : Nat} {u : Mm} {Q : Mm → Prop} : w_X5_skipBlanks n u Q = gsk n (u.2.2 1) (u.1 (u.2.2 1)) (u.1 33 4) (u.1 33 2) u Q := by
  unfold gsk
  exact propext ⟨fun h => ⟨fun _ => h, fun z => absurd ⟨rfl, rfl, rfl, rfl⟩ z⟩, fun h => h.1 ⟨rfl, rfl, rfl, rfl⟩⟩
theorem blk_congr {T T' : Nat → Nat} {s : Nat} : ∀ (d p : Nat), s - p = d → (∀ i, p ≤ i → i < s → T i = T' i) → blkP T s p = blkP T' s p := by
  intro d
  induction d with
  | zero =>
    intro p hd h
    rw [blk_stop (by rw [bv_out (by omega)]; omega), blk_stop (by rw [bv_out (by omega)]; omega)]
  | succ d ih =>
    intro p hd h
    have e : bv T s p = bv T' s p := by rw [bv_in (by omega), bv_in (by omega), h p (Nat.le_refl _) (by omega)]
    by_cases hc : bv T s p = 32
    · rw [blk_step hc, blk_step (T := T') (by rw [← e]; exact hc)]
      exact ih (p + 1) (by omega) (fun i hi => h i (by omega))
    · rw [blk_stop hc, blk_stop (T := T') (by rw [← e]; exact hc)]
theorem gsk_eq {n B : Nat} {T : Nat → Nat} {s p : Nat} {f : Nat → Int32} {u : Mm} {Q : Mm → Prop} (hT : jT T s p f) {q : Nat} (h : B ≠ 33 ∧ 5000 ≤ n ∧ p ≤ q ∧ q ≤ s) : gsk n B f (nI s) (nI q) u Q = Q (setI u 33 2 (nI (blkP T s q))) := by
  have hs := hT.1
  unfold gsk
  by_cases hc : u.2.2 1 = B ∧ u.1 B = f ∧ u.1 33 4 = nI s ∧ u.1 33 2 = nI q
  · rw [br_pos hc]
    obtain ⟨h1, h2, h3, h4⟩ := hc
    unfold w_X5_skipBlanks
    exact propext (by rw [c_skip0 h.1 _ n q u rfl (by omega) (h2 ▸ hT) h1 h3 h4 h.2.2.1 h.2.2.2])
  · rw [br_neg hc]
    rw [nn_ix (by omega), nn_ix (by omega)]
    rw [blk_congr (T := fun i => ix (f i)) (T' := T) _ q rfl (fun i hi hs' => by
      show ix (f i) = T i
      obtain ⟨e, b1, b2⟩ := hT.2 i (by omega) hs'
      rw [e, nn_ix (by omega)])]
/-! numbers -/
def nen (T : Nat → Nat) (s : Nat) : Nat → Nat → Nat
  | 0, p => p
  | k + 1, p => if 48 ≤ bv T s p ∧ bv T s p ≤ 57 then nen T s k (p + 1) else p
def nenP (T : Nat → Nat) (s p : Nat) : Nat := nen T s (s - p) p
def nva (T : Nat → Nat) (s : Nat) : Nat → Nat → Nat → Nat
  | 0, _, a => a
  | k + 1, p, a => if 48 ≤ bv T s p ∧ bv T s p ≤ 57 then nva T s k (p + 1) (10 * a + (bv T s p - 48)) else a
def nvaP (T : Nat → Nat) (s p a : Nat) : Nat := nva T s (s - p) p a
theorem num_step {T : Nat → Nat} {s p a : Nat} (h : 48 ≤ bv T s p ∧ bv T s p ≤ 57) : nenP T s p = nenP T s (p + 1) ∧ nvaP T s p a = nvaP T s (p + 1) (10 * a + (bv T s p - 48)) := by
  have hp : p < s := by
    rcases Nat.lt_or_ge p s with h1 | h1
    · exact h1
    · rw [bv_out h1] at h; omega
  unfold nenP nvaP
  rw [show s - p = (s - (p + 1)) + 1 from by omega]
  constructor
  · show (if 48 ≤ bv T s p ∧ bv T s p ≤ 57 then _ else _) = _
    rw [if_pos h]
  · show (if 48 ≤ bv T s p ∧ bv T s p ≤ 57 then _ else _) = _
    rw [if_pos h]
theorem num_stop {T : Nat → Nat} {s p a : Nat} (h : ¬ (48 ≤ bv T s p ∧ bv T s p ≤ 57)) : nenP T s p = p ∧ nvaP T s p a = a := by
  unfold nenP nvaP
  cases hd : s - p with
  | zero => exact ⟨rfl, rfl⟩
  | succ d =>
    constructor
    · show (if 48 ≤ bv T s p ∧ bv T s p ≤ 57 then _ else _) = _; rw [if_neg h]
    · show (if 48 ≤ bv T s p ∧ bv T s p ≤ 57 then _ else _) = _; rw [if_neg h]
theorem nen_bd {T : Nat → Nat} {s : Nat} : ∀ (d p : Nat), s - p = d → p ≤ s → p ≤ nenP T s p ∧ nenP T s p ≤ s ∧ (48 ≤ bv T s p ∧ bv T s p ≤ 57 → p < nenP T s p) := by
  intro d
  induction d with
  | zero =>
    intro p hd hp
    have h : ¬ (48 ≤ bv T s p ∧ bv T s p ≤ 57) := by rw [bv_out (by omega)]; omega
    rw [(num_stop (a := 0) h).1]; exact ⟨Nat.le_refl _, hp, fun z => absurd z h⟩
  | succ d ih =>
    intro p hd hp
    by_cases h : 48 ≤ bv T s p ∧ bv T s p ≤ 57
    · rw [(num_step (a := 0) h).1]
      have := ih (p + 1) (by omega) (by omega)
      exact ⟨by omega, this.2.1, fun _ => by omega⟩
    · rw [(num_stop (a := 0) h).1]; exact ⟨Nat.le_refl _, hp, fun z => absurd z h⟩
abbrev pw2 (v : Nat) : Prop := (nI v &&& (nI v - 1)) = 0
abbrev nok0 (T : Nat → Nat) (s q g : Nat) : Prop := 1 ≤ nvaP T s q 0 ∧ nvaP T s q 0 ≤ g
abbrev nok1 (T : Nat → Nat) (s q g : Nat) : Prop := nok0 T s q g ∧ pw2 (nvaP T s q 0)
theorem c_num8 {n : Nat} {Q : Int32 → Mm → Prop} {T : Nat → Nat} {s p B : Nat} {x1 x2 x3 : Int32} (hB : B ≠ 33) : ∀ (d k q acc : Nat) (u : Mm), s - q = d → d < k → jT T s p (u.1 B) → u.2.2 1 = B → u.1 33 4 = nI s → u.1 33 2 = nI q → p ≤ q → q ≤ s → w_X5_number_8 n Q k x1 x2 x3 (nI (min 1000000 acc)) u = w_X5_number_97 n x1 x2 x3 (nI (min 1000000 (nvaP T s q acc))) (setI u 33 2 (nI (nenP T s q))) Q := by
  intro d
  induction d with
  | zero =>
    intro k q acc u hd hk hT hP h4 h2 hp hq
    obtain ⟨k, rfl⟩ : ∃ j, k = j + 1 := ⟨k - 1, by omega⟩
    have hs := hT.1
    have hb : ¬ (48 ≤ bv T s q ∧ bv T s q ≤ 57) := by rw [bv_out (by omega)]; omega
    rw [(num_stop (a := acc) hb).1, (num_stop (a := acc) hb).2, mI_same h2]
    simp (disch := omega) only [mlet, ilet, jlet, ↓br_if, ↓br_ifn, ↓reduceIte, nl_lt_t, nl_lt_f, nl_gt_t, nl_gt_f, nl_le_t, nl_le_f, nl_ge_t, nl_ge_f, nl_eq_t, nl_eq_f, nn_lt_t, nn_lt_f, nn_le_t, nn_le_f, nn_eq_t, nn_eq_f, nl_add, nl_sub, nl_mul, nl_mulr, nn_add, nn_ix, nn_in, true_and, and_true, gI_if, gIj, gIr, gJ_if, gJi, gJr, gPr, gPi, gPj, hu_if, hv_if, Nat.reduceEqDiff, eq_self, bIT, bIF, Nat.add_zero, Nat.add_assoc, Nat.reduceAdd, nb0, nb1, i10, i00, Bool.false_eq_true, bI_t, bI_f, if_pos, if_neg, w_X5_number_8, h4, h2]
  | succ d ih =>
    intro k q acc u hd hk hT hP h4 h2 hp hq
    obtain ⟨k, rfl⟩ : ∃ j, k = j + 1 := ⟨k - 1, by omega⟩
    have hs := hT.1
    have hb := hT.bd q hp
    have he : u.1 B q = nI (bv T s q) := by rw [bv_in (by omega)]; exact (hT.2 q hp (by omega)).1
    by_cases h : 48 ≤ bv T s q ∧ bv T s q ≤ 57
    · rw [(num_step (a := acc) h).1, (num_step (a := acc) h).2]
      have := ih k (q + 1) (10 * acc + (bv T s q - 48)) (setI u 33 2 (nI (q + 1))) (by omega) (by omega) (by simp (disch := omega) only [mlet, ilet, jlet, ↓br_if, ↓br_ifn, ↓reduceIte, nl_lt_t, nl_lt_f, nl_gt_t, nl_gt_f, nl_le_t, nl_le_f, nl_ge_t, nl_ge_f, nl_eq_t, nl_eq_f, nn_lt_t, nn_lt_f, nn_le_t, nn_le_f, nn_eq_t, nn_eq_f, nl_add, nl_sub, nl_mul, nl_mulr, nn_add, nn_ix, nn_in, true_and, and_true, gI_if, gIj, gIr, gJ_if, gJi, gJr, gPr, gPi, gPj, hu_if, hv_if, Nat.reduceEqDiff, eq_self, bIT, bIF, Nat.add_zero, Nat.add_assoc, Nat.reduceAdd, nb0, nb1, i10, i00, Bool.false_eq_true, bI_t, bI_f, if_pos, if_neg]; exact hT) (by simp (disch := omega) only [mlet, ilet, jlet, ↓br_if, ↓br_ifn, ↓reduceIte, nl_lt_t, nl_lt_f, nl_gt_t, nl_gt_f, nl_le_t, nl_le_f, nl_ge_t, nl_ge_f, nl_eq_t, nl_eq_f, nn_lt_t, nn_lt_f, nn_le_t, nn_le_f, nn_eq_t, nn_eq_f, nl_add, nl_sub, nl_mul, nl_mulr, nn_add, nn_ix, nn_in, true_and, and_true, gI_if, gIj, gIr, gJ_if, gJi, gJr, gPr, gPi, gPj, hu_if, hv_if, Nat.reduceEqDiff, eq_self, bIT, bIF, Nat.add_zero, Nat.add_assoc, Nat.reduceAdd, nb0, nb1, i10, i00, Bool.false_eq_true, bI_t, bI_f, if_pos, if_neg]; exact hP) (by simp (disch := omega) only [mlet, ilet, jlet, ↓br_if, ↓br_ifn, ↓reduceIte, nl_lt_t, nl_lt_f, nl_gt_t, nl_gt_f, nl_le_t, nl_le_f, nl_ge_t, nl_ge_f, nl_eq_t, nl_eq_f, nn_lt_t, nn_lt_f, nn_le_t, nn_le_f, nn_eq_t, nn_eq_f, nl_add, nl_sub, nl_mul, nl_mulr, nn_add, nn_ix, nn_in, true_and, and_true, gI_if, gIj, gIr, gJ_if, gJi, gJr, gPr, gPi, gPj, hu_if, hv_if, Nat.reduceEqDiff, eq_self, bIT, bIF, Nat.add_zero, Nat.add_assoc, Nat.reduceAdd, nb0, nb1, i10, i00, Bool.false_eq_true, bI_t, bI_f, if_pos, if_neg]; exact h4) (by simp (disch := omega) only [mlet, ilet, jlet, ↓br_if, ↓br_ifn, ↓reduceIte, nl_lt_t, nl_lt_f, nl_gt_t, nl_gt_f, nl_le_t, nl_le_f, nl_ge_t, nl_ge_f, nl_eq_t, nl_eq_f, nn_lt_t, nn_lt_f, nn_le_t, nn_le_f, nn_eq_t, nn_eq_f, nl_add, nl_sub, nl_mul, nl_mulr, nn_add, nn_ix, nn_in, true_and, and_true, gI_if, gIj, gIr, gJ_if, gJi, gJr, gPr, gPi, gPj, hu_if, hv_if, Nat.reduceEqDiff, eq_self, bIT, bIF, Nat.add_zero, Nat.add_assoc, Nat.reduceAdd, nb0, nb1, i10, i00, Bool.false_eq_true, bI_t, bI_f, if_pos, if_neg]) (by omega) (by omega)
      rw [mI_over] at this
      rw [← this]
      have e2 : (if nI (min 1000000 acc * 10 + bv T s q - 48) < 1000000 then nI (min 1000000 acc * 10 + bv T s q - 48) else (1000000 : Int32)) = nI (min 1000000 (10 * acc + (bv T s q - 48))) := by
        by_cases hc : min 1000000 acc * 10 + bv T s q - 48 < 1000000
        · rw [if_pos (by simp (disch := omega) only [mlet, ilet, jlet, ↓br_if, ↓br_ifn, ↓reduceIte, nl_lt_t, nl_lt_f, nl_gt_t, nl_gt_f, nl_le_t, nl_le_f, nl_ge_t, nl_ge_f, nl_eq_t, nl_eq_f, nn_lt_t, nn_lt_f, nn_le_t, nn_le_f, nn_eq_t, nn_eq_f, nl_add, nl_sub, nl_mul, nl_mulr, nn_add, nn_ix, nn_in, true_and, and_true, gI_if, gIj, gIr, gJ_if, gJi, gJr, gPr, gPi, gPj, hu_if, hv_if, Nat.reduceEqDiff, eq_self, bIT, bIF, Nat.add_zero, Nat.add_assoc, Nat.reduceAdd, nb0, nb1, i10, i00, Bool.false_eq_true, bI_t, bI_f, if_pos, if_neg])]
          exact congrArg nI (by omega)
        · rw [if_neg (by simp (disch := omega) only [mlet, ilet, jlet, ↓br_if, ↓br_ifn, ↓reduceIte, nl_lt_t, nl_lt_f, nl_gt_t, nl_gt_f, nl_le_t, nl_le_f, nl_ge_t, nl_ge_f, nl_eq_t, nl_eq_f, nn_lt_t, nn_lt_f, nn_le_t, nn_le_f, nn_eq_t, nn_eq_f, nl_add, nl_sub, nl_mul, nl_mulr, nn_add, nn_ix, nn_in, true_and, and_true, gI_if, gIj, gIr, gJ_if, gJi, gJr, gPr, gPi, gPj, hu_if, hv_if, Nat.reduceEqDiff, eq_self, bIT, bIF, Nat.add_zero, Nat.add_assoc, Nat.reduceAdd, nb0, nb1, i10, i00, Bool.false_eq_true, bI_t, bI_f, if_pos, if_neg]; exact id)]
          exact (show (1000000 : Int32) = nI 1000000 from rfl).trans (congrArg nI (by omega))
      simp (disch := omega) only [mlet, ilet, jlet, ↓br_if, ↓br_ifn, ↓reduceIte, nl_lt_t, nl_lt_f, nl_gt_t, nl_gt_f, nl_le_t, nl_le_f, nl_ge_t, nl_ge_f, nl_eq_t, nl_eq_f, nn_lt_t, nn_lt_f, nn_le_t, nn_le_f, nn_eq_t, nn_eq_f, nl_add, nl_sub, nl_mul, nl_mulr, nn_add, nn_ix, nn_in, true_and, and_true, gI_if, gIj, gIr, gJ_if, gJi, gJr, gPr, gPi, gPj, hu_if, hv_if, Nat.reduceEqDiff, eq_self, bIT, bIF, Nat.add_zero, Nat.add_assoc, Nat.reduceAdd, nb0, nb1, i10, i00, Bool.false_eq_true, bI_t, bI_f, if_pos, if_neg, w_X5_number_8, h4, h2, hP, he, e2]
    · rw [(num_stop (a := acc) h).1, (num_stop (a := acc) h).2, mI_same h2]
      by_cases h1 : bv T s q < 48
      · simp (disch := omega) only [mlet, ilet, jlet, ↓br_if, ↓br_ifn, ↓reduceIte, nl_lt_t, nl_lt_f, nl_gt_t, nl_gt_f, nl_le_t, nl_le_f, nl_ge_t, nl_ge_f, nl_eq_t, nl_eq_f, nn_lt_t, nn_lt_f, nn_le_t, nn_le_f, nn_eq_t, nn_eq_f, nl_add, nl_sub, nl_mul, nl_mulr, nn_add, nn_ix, nn_in, true_and, and_true, gI_if, gIj, gIr, gJ_if, gJi, gJr, gPr, gPi, gPj, hu_if, hv_if, Nat.reduceEqDiff, eq_self, bIT, bIF, Nat.add_zero, Nat.add_assoc, Nat.reduceAdd, nb0, nb1, i10, i00, Bool.false_eq_true, bI_t, bI_f, if_pos, if_neg, w_X5_number_8, h4, h2, hP, he]
      · simp (disch := omega) only [mlet, ilet, jlet, ↓br_if, ↓br_ifn, ↓reduceIte, nl_lt_t, nl_lt_f, nl_gt_t, nl_gt_f, nl_le_t, nl_le_f, nl_ge_t, nl_ge_f, nl_eq_t, nl_eq_f, nn_lt_t, nn_lt_f, nn_le_t, nn_le_f, nn_eq_t, nn_eq_f, nl_add, nl_sub, nl_mul, nl_mulr, nn_add, nn_ix, nn_in, true_and, and_true, gI_if, gIj, gIr, gJ_if, gJi, gJr, gPr, gPi, gPj, hu_if, hv_if, Nat.reduceEqDiff, eq_self, bIT, bIF, Nat.add_zero, Nat.add_assoc, Nat.reduceAdd, nb0, nb1, i10, i00, Bool.false_eq_true, bI_t, bI_f, if_pos, if_neg, w_X5_number_8, h4, h2, hP, he]
theorem c_num97 {n : Nat} {Q : Int32 → Mm → Prop} {x3 : Int32} {v g : Nat} {u : Mm} (hg : g ≤ 9999) (h6 : u.1 33 6 = 0) : w_X5_number_97 n (nI g) 0 x3 (nI (min 1000000 v)) u Q = if 1 ≤ v ∧ v ≤ g then Q (nI v) u else Q 0 (setI (setI u 33 6 1) 33 7 x3) := by
  by_cases h1 : 1 ≤ v ∧ v ≤ g
  · rw [if_pos h1, Nat.min_eq_right (by omega)]
    simp (disch := omega) only [mlet, ilet, jlet, ↓br_if, ↓br_ifn, ↓reduceIte, nl_lt_t, nl_lt_f, nl_gt_t, nl_gt_f, nl_le_t, nl_le_f, nl_ge_t, nl_ge_f, nl_eq_t, nl_eq_f, nn_lt_t, nn_lt_f, nn_le_t, nn_le_f, nn_eq_t, nn_eq_f, nl_add, nl_sub, nl_mul, nl_mulr, nn_add, nn_ix, nn_in, true_and, and_true, gI_if, gIj, gIr, gJ_if, gJi, gJr, gPr, gPi, gPj, hu_if, hv_if, Nat.reduceEqDiff, eq_self, bIT, bIF, Nat.add_zero, Nat.add_assoc, Nat.reduceAdd, nb0, nb1, i10, i00, Bool.false_eq_true, bI_t, bI_f, if_pos, if_neg, w_X5_number_97, w_X5_number_131]
  · rw [if_neg h1]
    by_cases h2 : v < 1
    · simp (disch := omega) only [mlet, ilet, jlet, ↓br_if, ↓br_ifn, ↓reduceIte, nl_lt_t, nl_lt_f, nl_gt_t, nl_gt_f, nl_le_t, nl_le_f, nl_ge_t, nl_ge_f, nl_eq_t, nl_eq_f, nn_lt_t, nn_lt_f, nn_le_t, nn_le_f, nn_eq_t, nn_eq_f, nl_add, nl_sub, nl_mul, nl_mulr, nn_add, nn_ix, nn_in, true_and, and_true, gI_if, gIj, gIr, gJ_if, gJi, gJr, gPr, gPi, gPj, hu_if, hv_if, Nat.reduceEqDiff, eq_self, bIT, bIF, Nat.add_zero, Nat.add_assoc, Nat.reduceAdd, nb0, nb1, i10, i00, Bool.false_eq_true, bI_t, bI_f, if_pos, if_neg, w_X5_number_97, w_X5_number_123, c_fail, h6, cfl_0]
    · simp (disch := omega) only [mlet, ilet, jlet, ↓br_if, ↓br_ifn, ↓reduceIte, nl_lt_t, nl_lt_f, nl_gt_t, nl_gt_f, nl_le_t, nl_le_f, nl_ge_t, nl_ge_f, nl_eq_t, nl_eq_f, nn_lt_t, nn_lt_f, nn_le_t, nn_le_f, nn_eq_t, nn_eq_f, nl_add, nl_sub, nl_mul, nl_mulr, nn_add, nn_ix, nn_in, true_and, and_true, gI_if, gIj, gIr, gJ_if, gJi, gJr, gPr, gPi, gPj, hu_if, hv_if, Nat.reduceEqDiff, eq_self, bIT, bIF, Nat.add_zero, Nat.add_assoc, Nat.reduceAdd, nb0, nb1, i10, i00, Bool.false_eq_true, bI_t, bI_f, if_pos, if_neg, w_X5_number_97, w_X5_number_123, c_fail, h6, cfl_0]
theorem c_num97p {n : Nat} {Q : Int32 → Mm → Prop} {x3 : Int32} {v g : Nat} {u : Mm} (hg : g ≤ 9999) (h6 : u.1 33 6 = 0) [Decidable ((1 ≤ v ∧ v ≤ g) ∧ pw2 v)] : w_X5_number_97 n (nI g) 1 x3 (nI (min 1000000 v)) u Q = if (1 ≤ v ∧ v ≤ g) ∧ pw2 v then Q (nI v) u else Q 0 (setI (setI u 33 6 1) 33 7 x3) := by
  by_cases h1 : 1 ≤ v ∧ v ≤ g
  · rw [Nat.min_eq_right (by omega)]
    by_cases h3 : pw2 v
    · rw [if_pos ⟨h1, h3⟩]
      unfold pw2 at h3
      have h3' : ((nI v &&& (nI v - 1)) = 0) = True := eq_true h3
      simp (disch := omega) only [mlet, ilet, jlet, ↓br_if, ↓br_ifn, ↓reduceIte, nl_lt_t, nl_lt_f, nl_gt_t, nl_gt_f, nl_le_t, nl_le_f, nl_ge_t, nl_ge_f, nl_eq_t, nl_eq_f, nn_lt_t, nn_lt_f, nn_le_t, nn_le_f, nn_eq_t, nn_eq_f, nl_add, nl_mul, nl_mulr, nn_add, nn_ix, nn_in, true_and, and_true, gI_if, gIj, gIr, gJ_if, gJi, gJr, gPr, gPi, gPj, hu_if, hv_if, Nat.reduceEqDiff, eq_self, bIT, bIF, Nat.add_zero, Nat.add_assoc, Nat.reduceAdd, nb0, nb1, i10, i00, Bool.false_eq_true, bI_t, bI_f, if_pos, if_neg, w_X5_number_97, w_X5_number_131, h3', ↓reduceIte]
    · rw [if_neg (fun z => h3 z.2)]
      unfold pw2 at h3
      have h3' : ((nI v &&& (nI v - 1)) = 0) = False := eq_false h3
      simp (disch := omega) only [mlet, ilet, jlet, ↓br_if, ↓br_ifn, ↓reduceIte, nl_lt_t, nl_lt_f, nl_gt_t, nl_gt_f, nl_le_t, nl_le_f, nl_ge_t, nl_ge_f, nl_eq_t, nl_eq_f, nn_lt_t, nn_lt_f, nn_le_t, nn_le_f, nn_eq_t, nn_eq_f, nl_add, nl_mul, nl_mulr, nn_add, nn_ix, nn_in, true_and, and_true, gI_if, gIj, gIr, gJ_if, gJi, gJr, gPr, gPi, gPj, hu_if, hv_if, Nat.reduceEqDiff, eq_self, bIT, bIF, Nat.add_zero, Nat.add_assoc, Nat.reduceAdd, nb0, nb1, i10, i00, Bool.false_eq_true, bI_t, bI_f, if_pos, if_neg, w_X5_number_97, w_X5_number_123, c_fail, h6, cfl_0, h3']
  · rw [if_neg (fun z => h1 z.1)]
    by_cases h2 : v < 1
    · simp (disch := omega) only [mlet, ilet, jlet, ↓br_if, ↓br_ifn, ↓reduceIte, nl_lt_t, nl_lt_f, nl_gt_t, nl_gt_f, nl_le_t, nl_le_f, nl_ge_t, nl_ge_f, nl_eq_t, nl_eq_f, nn_lt_t, nn_lt_f, nn_le_t, nn_le_f, nn_eq_t, nn_eq_f, nl_add, nl_sub, nl_mul, nl_mulr, nn_add, nn_ix, nn_in, true_and, and_true, gI_if, gIj, gIr, gJ_if, gJi, gJr, gPr, gPi, gPj, hu_if, hv_if, Nat.reduceEqDiff, eq_self, bIT, bIF, Nat.add_zero, Nat.add_assoc, Nat.reduceAdd, nb0, nb1, i10, i00, Bool.false_eq_true, bI_t, bI_f, if_pos, if_neg, w_X5_number_97, w_X5_number_123, c_fail, h6, cfl_0]
    · simp (disch := omega) only [mlet, ilet, jlet, ↓br_if, ↓br_ifn, ↓reduceIte, nl_lt_t, nl_lt_f, nl_gt_t, nl_gt_f, nl_le_t, nl_le_f, nl_ge_t, nl_ge_f, nl_eq_t, nl_eq_f, nn_lt_t, nn_lt_f, nn_le_t, nn_le_f, nn_eq_t, nn_eq_f, nl_add, nl_sub, nl_mul, nl_mulr, nn_add, nn_ix, nn_in, true_and, and_true, gI_if, gIj, gIr, gJ_if, gJi, gJr, gPr, gPi, gPj, hu_if, hv_if, Nat.reduceEqDiff, eq_self, bIT, bIF, Nat.add_zero, Nat.add_assoc, Nat.reduceAdd, nb0, nb1, i10, i00, Bool.false_eq_true, bI_t, bI_f, if_pos, if_neg, w_X5_number_97, w_X5_number_123, c_fail, h6, cfl_0]
theorem nva_congr {T T' : Nat → Nat} {s : Nat} : ∀ (d p a : Nat), s - p = d → (∀ i, p ≤ i → i < s → T i = T' i) → nvaP T s p a = nvaP T' s p a ∧ nenP T s p = nenP T' s p := by
  intro d
  induction d with
  | zero =>
    intro p a hd h
    have h1 : ¬ (48 ≤ bv T s p ∧ bv T s p ≤ 57) := by rw [bv_out (by omega)]; omega
    have h2 : ¬ (48 ≤ bv T' s p ∧ bv T' s p ≤ 57) := by rw [bv_out (by omega)]; omega
    rw [(num_stop (a := a) h1).1, (num_stop (a := a) h1).2, (num_stop (a := a) h2).1, (num_stop (a := a) h2).2]; exact ⟨rfl, rfl⟩
  | succ d ih =>
    intro p a hd h
    have e : bv T s p = bv T' s p := by rw [bv_in (by omega), bv_in (by omega), h p (Nat.le_refl _) (by omega)]
    by_cases hc : 48 ≤ bv T s p ∧ bv T s p ≤ 57
    · rw [(num_step (a := a) hc).1, (num_step (a := a) hc).2, (num_step (T := T') (a := a) (by rw [← e]; exact hc)).1, (num_step (T := T') (a := a) (by rw [← e]; exact hc)).2, ← e]
      exact ih (p + 1) _ (by omega) (fun i hi => h i (by omega))
    · rw [(num_stop (a := a) hc).1, (num_stop (a := a) hc).2, (num_stop (T := T') (a := a) (by rw [← e]; exact hc)).1, (num_stop (T := T') (a := a) (by rw [← e]; exact hc)).2]; exact ⟨rfl, rfl⟩
def gnuX (f : Nat → Int32) (s a : Int32) (g pw : Int32) (u : Mm) (Q : Int32 → Mm → Prop) : Prop :=
  (nok0 (fun i => ix (f i)) (ix s) (ix a) (ix g) ∧ (pw = 0 ∨ pw2 (nvaP (fun i => ix (f i)) (ix s) (ix a) 0)) → Q (nI (nvaP (fun i => ix (f i)) (ix s) (ix a) 0)) (setI u 33 2 (nI (nenP (fun i => ix (f i)) (ix s) (ix a))))) ∧
  (¬ (nok0 (fun i => ix (f i)) (ix s) (ix a) (ix g) ∧ (pw = 0 ∨ pw2 (nvaP (fun i => ix (f i)) (ix s) (ix a) 0))) → Q 0 (setI (setI (setI u 33 2 (nI (nenP (fun i => ix (f i)) (ix s) (ix a)))) 33 6 1) 33 7 a))
def gnu (n B : Nat) (f : Nat → Int32) (s a fl : Int32) (g pw : Int32) (u : Mm) (Q : Int32 → Mm → Prop) : Prop := (u.2.2 1 = B ∧ u.1 B = f ∧ u.1 33 4 = s ∧ u.1 33 2 = a ∧ u.1 33 6 = fl → w_X5_number n g pw u Q) ∧ (¬ (u.2.2 1 = B ∧ u.1 B = f ∧ u.1 33 4 = s ∧ u.1 33 2 = a ∧ u.1 33 6 = fl) → gnuX f s a g pw u Q)
theorem c_num {n : Nat} {g pw : Int32} {u : Mm} {Q : Int32 → Mm → Prop} : w_X5_number n g pw u Q = gnu n (u.2.2 1) (u.1 (u.2.2 1)) (u.1 33 4) (u.1 33 2) (u.1 33 6) g pw u Q := by
  unfold gnu
  exact propext ⟨fun h => ⟨fun _ => h, fun z => absurd ⟨rfl, rfl, rfl, rfl, rfl⟩ z⟩, fun h => h.1 ⟨rfl, rfl, rfl, rfl, rfl⟩⟩
theorem gnuX_eq {T : Nat → Nat} {s p : Nat} {f : Nat → Int32} {u : Mm} {Q : Int32 → Mm → Prop} (hT : jT T s p f) {q g : Nat} {pw : Int32} (h : p ≤ q ∧ q ≤ s ∧ g ≤ 9999) : gnuX f (nI s) (nI q) (nI g) pw u Q = ((nok0 T s q g ∧ (pw = 0 ∨ pw2 (nvaP T s q 0)) → Q (nI (nvaP T s q 0)) (setI u 33 2 (nI (nenP T s q)))) ∧ (¬ (nok0 T s q g ∧ (pw = 0 ∨ pw2 (nvaP T s q 0))) → Q 0 (setI (setI (setI u 33 2 (nI (nenP T s q))) 33 6 1) 33 7 (nI q)))) := by
  have hs := hT.1
  unfold gnuX nok0
  rw [nn_ix (show s < 2147483648 by omega), nn_ix (show q < 2147483648 by omega), nn_ix (show g < 2147483648 by omega)]
  have hc := nva_congr (T := fun i => ix (f i)) (T' := T) (s := s) _ q 0 rfl (fun i hi hs' => by
      show ix (f i) = T i
      obtain ⟨e, b1, b2⟩ := hT.2 i (by omega) hs'
      rw [e, nn_ix (by omega)])
  rw [hc.1, hc.2]
theorem gnu_eq0 {n B : Nat} {T : Nat → Nat} {s p : Nat} {f : Nat → Int32} {u : Mm} {Q : Int32 → Mm → Prop} (hT : jT T s p f) {q g : Nat} (h : B ≠ 33 ∧ 5000 ≤ n ∧ p ≤ q ∧ q ≤ s ∧ (OfNat.ofNat g : Nat) ≤ 9999) : gnu n B f (nI s) (nI q) 0 (no_index (OfNat.ofNat g : Int32)) 0 u Q = ((nok0 T s q (OfNat.ofNat g : Nat) → Q (nI (nvaP T s q 0)) (setI u 33 2 (nI (nenP T s q)))) ∧ (¬ nok0 T s q (OfNat.ofNat g : Nat) → Q 0 (setI (setI (setI u 33 2 (nI (nenP T s q))) 33 6 1) 33 7 (nI q)))) := by
  have hs := hT.1
  have e0 : ∀ g : Nat, (nok0 T s q g ∧ ((0 : Int32) = 0 ∨ pw2 (nvaP T s q 0))) = nok0 T s q g := fun g => propext ⟨fun z => z.1, fun z => ⟨z, Or.inl rfl⟩⟩
  unfold gnu
  by_cases hc : u.2.2 1 = B ∧ u.1 B = f ∧ u.1 33 4 = nI s ∧ u.1 33 2 = nI q ∧ u.1 33 6 = 0
  · rw [br_pos hc]
    obtain ⟨h1, h2, h3, h4, h5⟩ := hc
    show w_X5_number_8 n Q n (OfNat.ofNat g) 0 (u.1 33 2) 0 u = _
    have := c_num8 (n := n) (Q := Q) (T := T) (s := s) (p := p) (B := B) (x1 := nI g) (x2 := 0) (x3 := u.1 33 2) h.1 _ n q 0 u rfl (by omega) (h2 ▸ hT) h1 h3 h4 h.2.2.1 h.2.2.2.1
    rw [show nI (min 1000000 0) = 0 from rfl, show (nI g : Int32) = (OfNat.ofNat g : Int32) from rfl] at this
    rw [this, show (OfNat.ofNat g : Int32) = nI g from rfl, c_num97 (g := g) (u := setI u 33 2 (nI (nenP T s q))) h.2.2.2.2 (by simp (disch := omega) only [mlet, ilet, jlet, ↓br_if, ↓br_ifn, ↓reduceIte, nl_lt_t, nl_lt_f, nl_gt_t, nl_gt_f, nl_le_t, nl_le_f, nl_ge_t, nl_ge_f, nl_eq_t, nl_eq_f, nn_lt_t, nn_lt_f, nn_le_t, nn_le_f, nn_eq_t, nn_eq_f, nl_add, nl_sub, nl_mul, nl_mulr, nn_add, nn_ix, nn_in, true_and, and_true, gI_if, gIj, gIr, gJ_if, gJi, gJr, gPr, gPi, gPj, hu_if, hv_if, Nat.reduceEqDiff, eq_self, bIT, bIF, Nat.add_zero, Nat.add_assoc, Nat.reduceAdd, nb0, nb1, i10, i00, Bool.false_eq_true, bI_t, bI_f, if_pos, if_neg]; exact h5), h4]
    unfold nok0
    rw [br_if]
    rfl
  · rw [br_neg hc, show (OfNat.ofNat g : Int32) = nI (OfNat.ofNat g : Nat) from rfl, gnuX_eq hT ⟨h.2.2.1, h.2.2.2.1, h.2.2.2.2⟩, e0]
theorem gnu_eq1 {n B : Nat} {T : Nat → Nat} {s p : Nat} {f : Nat → Int32} {u : Mm} {Q : Int32 → Mm → Prop} (hT : jT T s p f) {q g : Nat} (h : B ≠ 33 ∧ 5000 ≤ n ∧ p ≤ q ∧ q ≤ s ∧ (OfNat.ofNat g : Nat) ≤ 9999) : gnu n B f (nI s) (nI q) 0 (no_index (OfNat.ofNat g : Int32)) 1 u Q = ((nok1 T s q (OfNat.ofNat g : Nat) → Q (nI (nvaP T s q 0)) (setI u 33 2 (nI (nenP T s q)))) ∧ (¬ nok1 T s q (OfNat.ofNat g : Nat) → Q 0 (setI (setI (setI u 33 2 (nI (nenP T s q))) 33 6 1) 33 7 (nI q)))) := by
  have hs := hT.1
  have e0 : ∀ g : Nat, (nok0 T s q g ∧ ((1 : Int32) = 0 ∨ pw2 (nvaP T s q 0))) = nok1 T s q g := fun g => propext ⟨fun z => ⟨z.1, z.2.elim (fun y => absurd y (by decide)) id⟩, fun z => ⟨z.1, Or.inr z.2⟩⟩
  unfold gnu
  by_cases hc : u.2.2 1 = B ∧ u.1 B = f ∧ u.1 33 4 = nI s ∧ u.1 33 2 = nI q ∧ u.1 33 6 = 0
  · rw [br_pos hc]
    obtain ⟨h1, h2, h3, h4, h5⟩ := hc
    show w_X5_number_8 n Q n (OfNat.ofNat g) 1 (u.1 33 2) 0 u = _
    have := c_num8 (n := n) (Q := Q) (T := T) (s := s) (p := p) (B := B) (x1 := nI g) (x2 := 1) (x3 := u.1 33 2) h.1 _ n q 0 u rfl (by omega) (h2 ▸ hT) h1 h3 h4 h.2.2.1 h.2.2.2.1
    rw [show nI (min 1000000 0) = 0 from rfl, show (nI g : Int32) = (OfNat.ofNat g : Int32) from rfl] at this
    have hdec : Decidable ((1 ≤ nvaP T s q 0 ∧ nvaP T s q 0 ≤ g) ∧ pw2 (nvaP T s q 0)) := Classical.propDecidable _
    rw [this, show (OfNat.ofNat g : Int32) = nI g from rfl, c_num97p (g := g) (u := setI u 33 2 (nI (nenP T s q))) h.2.2.2.2 (by simp (disch := omega) only [mlet, ilet, jlet, ↓br_if, ↓br_ifn, ↓reduceIte, nl_lt_t, nl_lt_f, nl_gt_t, nl_gt_f, nl_le_t, nl_le_f, nl_ge_t, nl_ge_f, nl_eq_t, nl_eq_f, nn_lt_t, nn_lt_f, nn_le_t, nn_le_f, nn_eq_t, nn_eq_f, nl_add, nl_sub, nl_mul, nl_mulr, nn_add, nn_ix, nn_in, true_and, and_true, gI_if, gIj, gIr, gJ_if, gJi, gJr, gPr, gPi, gPj, hu_if, hv_if, Nat.reduceEqDiff, eq_self, bIT, bIF, Nat.add_zero, Nat.add_assoc, Nat.reduceAdd, nb0, nb1, i10, i00, Bool.false_eq_true, bI_t, bI_f, if_pos, if_neg]; exact h5), h4]
    unfold nok1 nok0
    by_cases hh : (1 ≤ nvaP T s q 0 ∧ nvaP T s q 0 ≤ g) ∧ pw2 (nvaP T s q 0)
    · rw [if_pos hh]
      exact propext (br_pos hh).symm
    · rw [if_neg hh]
      exact propext (br_neg hh).symm
  · rw [br_neg hc, show (OfNat.ofNat g : Int32) = nI (OfNat.ofNat g : Nat) from rfl, gnuX_eq hT ⟨h.2.2.1, h.2.2.2.1, h.2.2.2.2⟩, e0]
