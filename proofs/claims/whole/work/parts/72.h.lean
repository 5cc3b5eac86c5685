/-! a new thing, on both sides -/
def aT (c : Nat) (sort pl vn mh un : Int32) (now : Int64) (u : Mm) : Mm := setJ (setI (setI (setI (setJ (setJ (setI (setI (clr (setI u 36 3 (nI (c + 1))) 46 (19 * c) (19 * c + 19)) 46 (19 * c) sort) 46 (19 * c + 16) pl) 47 c 0) 48 c 0) 46 (19 * c + 1) vn) 46 (19 * c + 2) mh) 46 (19 * c + 17) un) 48 c now
def mT (c : Nat) (sort pl vn mh un : Int32) (now : Int64) (v : Mm) : Mm := setI (setI (setI (setI (setJ (setJ (setI (setI (setI (setI (clr v 6 (17 * c) (17 * c + 17)) 6 (17 * c) sort) 6 (17 * c + 1) vn) 6 (17 * c + 2) mh) 6 (17 * c + 16) pl) 7 c 0) 8 c now) 9 c un) 10 c 0) 11 c 0) 0 27 (nI (c + 1))
theorem c_add37 {n c : Nat} {sort pl : Int32} {Q : Int32 → Mm → Prop} {u : Mm} (hc : c < 400) : ∀ (d k i : Nat), 19 - i = d → d < k → i ≤ 19 → w_X6_add_37 n Q k sort pl (nI c) (nI i) (clr u 46 (19 * c) (19 * c + i)) = Q (nI c) (setJ (setJ (setI (setI (clr u 46 (19 * c) (19 * c + 19)) 46 (19 * c) sort) 46 (19 * c + 16) pl) 47 c 0) 48 c 0) := by
  intro d
  induction d with
  | zero =>
    intro k i hd hk hi
    obtain ⟨k, rfl⟩ : ∃ j, k = j + 1 := ⟨k - 1, by omega⟩
    obtain rfl : i = 19 := by omega
    rw [w_X6_add_37]
    simp (disch := omega) only [mlet, ilet, jlet, ↓br_if, ↓br_ifn, ↓reduceIte, nl_lt, nl_gt, nl_le, nl_ge, nl_eq, nn_lt, nn_le, nn_eq, nl_add, nl_sub, nl_mul, nl_mulr, nn_add, nn_ix, nn_in, true_and, and_true, false_and, and_false, gI_if, gIj, gIr, gJ_if, gJi, gJr, gPr, gPi, gPj, hu_if, hv_if, Nat.reduceEqDiff, Nat.reduceLT, Nat.reduceLeDiff, eq_self, bIT, bIF, Nat.add_zero, Nat.add_assoc, Nat.reduceAdd, nb0, nb1, i10, i00, Bool.false_eq_true, not_true_eq_false, not_false_eq_true, reduceIte, Nat.mul_comm c 19, Nat.le_refl]
  | succ d ih =>
    intro k i hd hk hi
    obtain ⟨k, rfl⟩ : ∃ j, k = j + 1 := ⟨k - 1, by omega⟩
    have := ih k (i + 1) (by omega) (by omega) (by omega)
    rw [← this, w_X6_add_37]
    have h19 : (19 ≤ i) = False := eq_false (by omega)
    simp (disch := omega) only [mlet, ilet, jlet, ↓br_if, ↓br_ifn, ↓reduceIte, nl_lt, nl_gt, nl_le, nl_ge, nl_eq, nn_lt, nn_le, nn_eq, nl_add, nl_sub, nl_mul, nl_mulr, nn_add, nn_ix, nn_in, true_and, and_true, false_and, and_false, gI_if, gIj, gIr, gJ_if, gJi, gJr, gPr, gPi, gPj, hu_if, hv_if, Nat.reduceEqDiff, Nat.reduceLT, Nat.reduceLeDiff, eq_self, bIT, bIF, Nat.add_zero, Nat.add_assoc, Nat.reduceAdd, nb0, nb1, i10, i00, Bool.false_eq_true, not_true_eq_false, not_false_eq_true, reduceIte, Nat.mul_comm c 19, h19, clr_step]
theorem c_add {n c : Nat} {sort pl : Int32} {Q : Int32 → Mm → Prop} {u : Mm} (hn : 5000 ≤ n) (hc : c < 400) (h3 : u.1 36 3 = nI c) : w_X6_add n sort pl u Q = Q (nI c) (setJ (setJ (setI (setI (clr (setI u 36 3 (nI (c + 1))) 46 (19 * c) (19 * c + 19)) 46 (19 * c) sort) 46 (19 * c + 16) pl) 47 c 0) 48 c 0) := by
  have := c_add37 (n := n) (sort := sort) (pl := pl) (Q := Q) (u := setI u 36 3 (nI (c + 1))) hc 19 n 0 rfl (by omega) (by omega)
  rw [clr_0, nI0] at this
  have hneg : (nI c < 0) = False := eq_false (nI_pos (by omega))
  have hlt : (c < 400) = True := eq_true hc
  simp (disch := omega) only [mlet, ilet, jlet, ↓br_if, ↓br_ifn, ↓reduceIte, nl_lt, nl_gt, nl_le, nl_ge, nl_eq, nn_lt, nn_le, nn_eq, nl_add, nl_sub, nl_mul, nl_mulr, nn_add, nn_ix, nn_in, true_and, and_true, false_and, and_false, gI_if, gIj, gIr, gJ_if, gJi, gJr, gPr, gPi, gPj, hu_if, hv_if, Nat.reduceEqDiff, Nat.reduceLT, Nat.reduceLeDiff, eq_self, bIT, bIF, Nat.add_zero, Nat.add_assoc, Nat.reduceAdd, nb0, nb1, i10, i00, Bool.false_eq_true, not_true_eq_false, not_false_eq_true, reduceIte, w_X6_add, h3, hneg, hlt, this]
theorem c_add_full {n : Nat} {sort pl : Int32} {Q : Int32 → Mm → Prop} {u : Mm} (h3 : u.1 36 3 = nI 400) : w_X6_add n sort pl u Q = Q (-1) u := by
  have hneg : (nI 400 < 0) = False := eq_false (nI_pos (by omega))
  simp (disch := omega) only [mlet, ilet, jlet, ↓br_if, ↓br_ifn, ↓reduceIte, nl_lt, nl_gt, nl_le, nl_ge, nl_eq, nn_lt, nn_le, nn_eq, nl_add, nl_sub, nl_mul, nl_mulr, nn_add, nn_ix, nn_in, true_and, and_true, false_and, and_false, gI_if, gIj, gIr, gJ_if, gJi, gJr, gPr, gPi, gPj, hu_if, hv_if, Nat.reduceEqDiff, Nat.reduceLT, Nat.reduceLeDiff, eq_self, bIT, bIF, Nat.add_zero, Nat.add_assoc, Nat.reduceAdd, nb0, nb1, i10, i00, Bool.false_eq_true, not_true_eq_false, not_false_eq_true, reduceIte, w_X6_add, w_X6_add_17, h3, hneg]
theorem c_addThing {n c w m so : Nat} {sort pl : Int32} {Q : Int32 → Mm → Prop} {u : Mm} (hn : 5000 ≤ n) (hc : c < 400) (hw : w < 3) (hm : m ≤ 300) (hso : so ≤ m) (h1 : so ≤ 1) (h3 : u.1 36 3 = nI c) (hP2 : u.2.2 2 = 50 + w) (h4 : u.1 (50 + w) 4 = nI m) (h5 : u.1 (50 + w) 5 = nI so) : w_X4_addThing n sort pl u Q = Q (nI c) (aT c sort pl (u.1 38 9) (nI (m - so)) (u.1 (50 + w) 10) (u.2.1 (50 + w) 6) u) := by
  have hpos : (0 ≤ nI c) = True := eq_true (nI_pos' (by omega))
  have r1 : ∀ q, q ≠ 36 → q ≠ 46 → ∀ x y, (setJ (setJ (setI (setI (clr (setI u 36 3 (nI (c + 1))) 46 (19 * c) (19 * c + 19)) 46 (19 * c) sort) 46 (19 * c + 16) pl) 47 c x) 48 c y).1 q = u.1 q := fun q h36 h46 x y => by
    rw [gJi, gJi, gIn h46, gIn h46, clr_n h46, gIn h36]
  have r2 : ∀ x y, (setJ (setJ (setI (setI (clr (setI u 36 3 (nI (c + 1))) 46 (19 * c) (19 * c + 19)) 46 (19 * c) sort) 46 (19 * c + 16) pl) 47 c x) 48 c y).1 36 3 = nI (c + 1) := fun x y => by
    rw [gJi, gJi, gIn (by omega), gIn (by omega), clr_n (by omega), gIs, hu_s]
  have r3 : ∀ q, q ≠ 47 → q ≠ 48 → ∀ x y, (setJ (setJ (setI (setI (clr (setI u 36 3 (nI (c + 1))) 46 (19 * c) (19 * c + 19)) 46 (19 * c) sort) 46 (19 * c + 16) pl) 47 c x) 48 c y).2.1 q = u.2.1 q := fun q h47 h48 x y => by
    rw [gJn h48, gJn h47]; rfl
  have r4 : ∀ x y, (setJ (setJ (setI (setI (clr (setI u 36 3 (nI (c + 1))) 46 (19 * c) (19 * c + 19)) 46 (19 * c) sort) 46 (19 * c + 16) pl) 47 c x) 48 c y).2.2 = u.2.2 := fun x y => rfl
  simp only [w_X4_addThing, c_add hn hc h3]
  generalize hU : setJ (setJ (setI (setI (clr (setI u 36 3 (nI (c + 1))) 46 (19 * c) (19 * c + 19)) 46 (19 * c) sort) 46 (19 * c + 16) pl) 47 c 0) 48 c 0 = U
  have s1 : ∀ q, q ≠ 36 → q ≠ 46 → U.1 q = u.1 q := fun q a b => by rw [← hU]; exact r1 q a b 0 0
  have s2 : U.1 36 3 = nI (c + 1) := by rw [← hU]; exact r2 0 0
  have s3 : ∀ q, q ≠ 47 → q ≠ 48 → U.2.1 q = u.2.1 q := fun q a b => by rw [← hU]; exact r3 q a b 0 0
  have s4 : U.2.2 = u.2.2 := by rw [← hU]; rfl
  unfold aT
  rw [hU]
  have t38 := congrFun (s1 38 (by omega) (by omega)) 9
  have t4 := (congrFun (s1 (50 + w) (by omega) (by omega)) 4).trans h4
  have t5 := (congrFun (s1 (50 + w) (by omega) (by omega)) 5).trans h5
  have t10 := congrFun (s1 (50 + w) (by omega) (by omega)) 10
  have t6 := congrFun (s3 (50 + w) (by omega) (by omega)) 6
  have tP : U.2.2 2 = 50 + w := by rw [s4, hP2]
  have w1 : (50 + w = 46) = False := eq_false (by omega)
  rcases Nat.lt_or_ge 0 so with hz | hz
  · obtain rfl : so = 1 := by omega
    simp (disch := omega) only [mlet, ilet, jlet, ↓br_if, ↓br_ifn, ↓reduceIte, nl_lt, nl_gt, nl_le, nl_ge, nl_eq, nn_lt, nn_le, nn_eq, nl_add, nl_sub, nl_mul, nl_mulr, nn_add, nn_ix, nn_in, true_and, and_true, false_and, and_false, gI_if, gIj, gIr, gJ_if, gJi, gJr, gPr, gPi, gPj, hu_if, hv_if, Nat.reduceEqDiff, Nat.reduceLT, Nat.reduceLeDiff, eq_self, bIT, bIF, Nat.add_zero, Nat.add_assoc, Nat.reduceAdd, nb0, nb1, i10, i00, Bool.false_eq_true, not_true_eq_false, not_false_eq_true, reduceIte, hpos, c_put, s2, t38, tP, cput_in, w_X8_measureHere, w_X8_measureHere_20, t4, t5, t10, t6, w1, c_setBegin, cbegin_in, nI1, i10]
  · obtain rfl : so = 0 := by omega
    simp (disch := omega) only [mlet, ilet, jlet, ↓br_if, ↓br_ifn, ↓reduceIte, nl_lt, nl_gt, nl_le, nl_ge, nl_eq, nn_lt, nn_le, nn_eq, nl_add, nl_sub, nl_mul, nl_mulr, nn_add, nn_ix, nn_in, true_and, and_true, false_and, and_false, gI_if, gIj, gIr, gJ_if, gJi, gJr, gPr, gPi, gPj, hu_if, hv_if, Nat.reduceEqDiff, Nat.reduceLT, Nat.reduceLeDiff, eq_self, bIT, bIF, Nat.add_zero, Nat.add_assoc, Nat.reduceAdd, nb0, nb1, i10, i00, Bool.false_eq_true, not_true_eq_false, not_false_eq_true, reduceIte, hpos, c_put, s2, t38, tP, cput_in, w_X8_measureHere, w_X8_measureHere_20, t4, t5, t10, t6, w1, c_setBegin, cbegin_in, nI0, i00, Nat.sub_zero]
theorem r_new24 {n c w m : Nat} {sort pl : Int32} {Q : Int32 → Mm → Prop} {T' : Mm → Prop} {v : Mm} (hc : c < 400) (hw : w < 3) (h27 : v.1 0 27 = nI c) (h28 : v.1 0 28 = nI w) (h17 : v.1 17 w = nI m) : ∀ (d k i : Nat), 17 - i = d → d < k → i ≤ 17 → w_X12_newThing_24 n Q T' k sort pl (nI c) (nI i) (clr v 6 (17 * c) (17 * c + i)) = Q (nI c) (mT c sort pl (nI (w + 1)) (nI m) (v.1 15 w) (v.2.1 16 w) v) := by
  intro d
  have c1 : ∀ q, q ≠ 6 → ∀ hi, (clr v 6 (17 * c) hi).1 q = v.1 q := fun q hq hi => clr_n hq
  have c2 : ∀ hi, (clr v 6 (17 * c) hi).2.1 = v.2.1 := fun hi => rfl
  induction d with
  | zero =>
    intro k i hd hk hi
    obtain ⟨k, rfl⟩ : ∃ j, k = j + 1 := ⟨k - 1, by omega⟩
    obtain rfl : i = 17 := by omega
    rw [w_X12_newThing_24]
    unfold mT
    simp (disch := omega) only [mlet, ilet, jlet, ↓br_if, ↓br_ifn, ↓reduceIte, nl_lt, nl_gt, nl_le, nl_ge, nl_eq, nn_lt, nn_le, nn_eq, nl_add, nl_sub, nl_mul, nl_mulr, nn_add, nn_ix, nn_in, true_and, and_true, false_and, and_false, gI_if, gIj, gIr, gJ_if, gJi, gJr, gPr, gPi, gPj, hu_if, hv_if, Nat.reduceEqDiff, Nat.reduceLT, Nat.reduceLeDiff, eq_self, bIT, bIF, Nat.add_zero, Nat.add_assoc, Nat.reduceAdd, nb0, nb1, i10, i00, Bool.false_eq_true, not_true_eq_false, not_false_eq_true, reduceIte, w_X12_set, c1, c2, h27, h28, h17, vnb0, Nat.le_refl]
  | succ d ih =>
    intro k i hd hk hi
    obtain ⟨k, rfl⟩ : ∃ j, k = j + 1 := ⟨k - 1, by omega⟩
    have := ih k (i + 1) (by omega) (by omega) (by omega)
    rw [← this, w_X12_newThing_24]
    have h19 : (17 ≤ i) = False := eq_false (by omega)
    simp (disch := omega) only [mlet, ilet, jlet, ↓br_if, ↓br_ifn, ↓reduceIte, nl_lt, nl_gt, nl_le, nl_ge, nl_eq, nn_lt, nn_le, nn_eq, nl_add, nl_sub, nl_mul, nl_mulr, nn_add, nn_ix, nn_in, true_and, and_true, false_and, and_false, gI_if, gIj, gIr, gJ_if, gJi, gJr, gPr, gPi, gPj, hu_if, hv_if, Nat.reduceEqDiff, Nat.reduceLT, Nat.reduceLeDiff, eq_self, bIT, bIF, Nat.add_zero, Nat.add_assoc, Nat.reduceAdd, nb0, nb1, i10, i00, Bool.false_eq_true, not_true_eq_false, not_false_eq_true, reduceIte, h19, clr_step]
theorem r_new {n c w m : Nat} {sort pl : Int32} {Q : Int32 → Mm → Prop} {T' : Mm → Prop} {v : Mm} (hn : 5000 ≤ n) (hc : c < 400) (hw : w < 3) (h27 : v.1 0 27 = nI c) (h28 : v.1 0 28 = nI w) (h17 : v.1 17 w = nI m) : w_X12_newThing n sort pl v Q T' = Q (nI c) (mT c sort pl (nI (w + 1)) (nI m) (v.1 15 w) (v.2.1 16 w) v) := by
  have := r_new24 (n := n) (sort := sort) (pl := pl) (Q := Q) (T' := T') hc hw h27 h28 h17 17 n 0 rfl (by omega) (by omega)
  rw [clr_0, nI0] at this
  have hne : (c = 400) = False := eq_false (by omega)
  simp (disch := omega) only [mlet, ilet, jlet, ↓br_if, ↓br_ifn, ↓reduceIte, nl_lt, nl_gt, nl_le, nl_ge, nl_eq, nn_lt, nn_le, nn_eq, nl_add, nl_sub, nl_mul, nl_mulr, nn_add, nn_ix, nn_in, true_and, and_true, false_and, and_false, gI_if, gIj, gIr, gJ_if, gJi, gJr, gPr, gPi, gPj, hu_if, hv_if, Nat.reduceEqDiff, Nat.reduceLT, Nat.reduceLeDiff, eq_self, bIT, bIF, Nat.add_zero, Nat.add_assoc, Nat.reduceAdd, nb0, nb1, i10, i00, Bool.false_eq_true, not_true_eq_false, not_false_eq_true, reduceIte, w_X12_newThing, w_X12_newThing_16, h27, hne, this]
theorem r_new_full {n : Nat} {sort pl : Int32} {Q : Int32 → Mm → Prop} {T' : Mm → Prop} {v : Mm} (h27 : v.1 0 27 = nI 400) : w_X12_newThing n sort pl v Q T' = T' (setI (setI v 1 6 2) 1 7 pl) := by
  simp (disch := omega) only [mlet, ilet, jlet, ↓br_if, ↓br_ifn, ↓reduceIte, nl_lt, nl_gt, nl_le, nl_ge, nl_eq, nn_lt, nn_le, nn_eq, nl_add, nl_sub, nl_mul, nl_mulr, nn_add, nn_ix, nn_in, true_and, and_true, false_and, and_false, gI_if, gIj, gIr, gJ_if, gJi, gJr, gPr, gPi, gPj, hu_if, hv_if, Nat.reduceEqDiff, Nat.reduceLT, Nat.reduceLeDiff, eq_self, bIT, bIF, Nat.add_zero, Nat.add_assoc, Nat.reduceAdd, nb0, nb1, i10, i00, Bool.false_eq_true, not_true_eq_false, not_false_eq_true, reduceIte, w_X12_newThing, h27, ↓r_fail]
