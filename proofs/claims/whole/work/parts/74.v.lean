/-! voices: meters, measures, time -/
theorem eL.cg {T : Nat → Nat} {sz e s p : Nat} {u v u' v' : Mm} (h : eL T sz e s p u v) (h1 : ∀ k, k = 2 ∨ k = 4 ∨ k = 5 → u'.1 33 k = u.1 33 k) (k1 : ∀ k, k = 7 ∨ k = 8 ∨ k = 9 → v'.1 0 k = v.1 0 k) : eL T sz e s p u' v' := by
  unfold eL; rw [h1 2 (by omega), h1 4 (by omega), h1 5 (by omega), k1 7 (by omega), k1 8 (by omega), k1 9 (by omega)]; exact h
def mtv (a b : Nat) : Int64 := lN (1290240 / b * a)
theorem mtv_eq {a b : Nat} (h : 1 ≤ b ∧ b ≤ 32 ∧ a ≤ 32) : ((1290240 : Int64) / (nI b).toInt64) * (nI a).toInt64 = mtv a b := by
  rw [nI_l (show b < 2 ^ 31 by omega), nI_l (show a < 2 ^ 31 by omega), show (1290240 : Int64) = lN 1290240 from rfl, pk_lDiv (by omega) (by omega) (by omega), lN_mul]
  rfl
theorem mtv_pos {a b : Nat} (h : 1 ≤ b ∧ b ≤ 32 ∧ 1 ≤ a ∧ a ≤ 32) : 0 < mtv a b := by
  have h1 : 40320 ≤ 1290240 / b := by
    rw [Nat.le_div_iff_mul_le (by omega)]; omega
  have h2 : 1290240 / b ≤ 1290240 := Nat.div_le_self _ _
  have h3 : 1 ≤ 1290240 / b * a := Nat.mul_pos (by omega) (by omega)
  have h4 : 1290240 / b * a ≤ 1290240 * 32 := Nat.mul_le_mul h2 (by omega)
  exact (pk_lLT (a := 0) (by omega) (by omega)).mpr (by omega)
theorem okMt.cs {a b : Nat} (h : okMt a b) : (a = 0 ∧ b = 0) ∨ (1 ≤ a ∧ a ≤ 32 ∧ 1 ≤ b ∧ b ≤ 32) := by unfold okMt at h; omega
def cmt (a b : Nat) : Int64 := if a = 0 then 0 else mtv a b
def rmt (a b : Nat) : Int64 := if a = 0 then -1 else mtv a b
theorem rl_mt {a b : Nat} (h : okMt a b) : rlW (cmt a b) (rmt a b) := by
  unfold cmt rmt
  rcases h.cs with ⟨h1, h2⟩ | h1
  · rw [if_pos h1, if_pos h1]; exact Or.inl ⟨rfl, rfl⟩
  · rw [if_neg (by omega), if_neg (by omega)]; exact Or.inr ⟨rfl, mtv_pos (by omega)⟩
theorem c_mt {n q a b : Nat} {u : Mm} {Q : Int64 → Mm → Prop} (h : okMt a b) (h8 : u.1 q 8 = nI a) (h9 : u.1 q 9 = nI b) : w_X8_meterTicks n q u Q = Q (cmt a b) u := by
  unfold w_X8_meterTicks w_X8_meterTicks_26 cmt
  rcases h.cs with ⟨rfl, rfl⟩ | h1
  · rw [h9, if_pos rfl]
    simp only [br_if]
    rw [if_pos (by decide)]
  · rw [h9, h8, mtv_eq (by omega), if_neg (show ¬ a = 0 by omega)]
    simp only [br_if]
    rw [if_neg (nI_nle (by omega) (by omega)), eq_true (show ¬ (nI b).toInt64 = 0 from fun z => by
      rw [nI_l (by omega)] at z
      have := (lN_eq (a := b) (b := 0) (by omega) (by omega)).mp z
      omega), true_and]
theorem r_mt {n w a b : Nat} {v : Mm} {Q : Int64 → Mm → Prop} {T' : Mm → Prop} (hw : w < 3) (h : okMt a b) (h28 : v.1 0 28 = nI w) (h8 : v.1 13 w = nI a) (h9 : v.1 14 w = nI b) : w_X12_meterTime n v Q T' = Q (rmt a b) v := by
  unfold w_X12_meterTime w_X12_meterTime_43 rmt
  have i1 : vp_in (nI w) 3 = True := eq_true (vp_in_nI hw (by omega))
  rw [h28, nn_ix (show w < 2147483648 by omega)]
  simp only [br_ifn, i1, true_and, h8, h9]
  rcases h.cs with ⟨rfl, rfl⟩ | h1
  · rw [if_pos (show nI 0 = 0 from rfl), if_pos rfl]
  · rw [if_neg (nI_ne0 (by omega) (by omega)), if_neg (show ¬ a = 0 by omega), mtv_eq (by omega), eq_true (show ¬ (nI b).toInt64 = 0 from fun z => by
      rw [nI_l (by omega)] at z
      have := (lN_eq (a := b) (b := 0) (by omega) (by omega)).mp z
      omega), true_and]
/-- what the measures of a voice are -/
def eMw (w m so : Nat) (u v : Mm) : Prop := m ≤ 300 ∧ so ≤ 1 ∧ so ≤ m ∧ u.1 (50 + w) 4 = nI m ∧ v.1 19 w = nI m ∧ u.1 (50 + w) 5 = nI so ∧ v.1 18 w = nI so ∧ v.1 17 w = nI (m - so) ∧ u.2.1 (50 + w) 6 = v.2.1 16 w ∧ (∀ j, j < m → u.2.1 (53 + w) j = v.2.1 20 (300 * w + j) ∧ rlW (u.2.1 (56 + w) j) (v.2.1 21 (300 * w + j)))
def uEn (w m a b : Nat) (u : Mm) : Mm := setI (setI (setJ (setJ u (53 + w) m 0) (56 + w) m (cmt a b)) (50 + w) 4 (nI (m + 1))) (50 + w) 5 1
def vEn (w m a b : Nat) (v : Mm) : Mm := setJ (setJ (setI (setI v 18 w 1) 19 w (nI (m + 1))) 20 (300 * w + m) 0) 21 (300 * w + m) (rmt a b)
theorem c_addMeas {n w m a b : Nat} {u : Mm} {Q : Int32 → Mm → Prop} (hw : w < 3) (hm : m < 300) (h : okMt a b) (h4 : u.1 (50 + w) 4 = nI m) (h8 : u.1 (50 + w) 8 = nI a) (h9 : u.1 (50 + w) 9 = nI b) : w_X8_addMeasure n (50 + w) u Q = Q 1 (uEn w m a b u) := by
  have e1 : (nI m < 0) = False := eq_false (nI_pos (by omega))
  have e2 : (m < 300) = True := eq_true hm
  unfold uEn
  have h8' : (setJ u (53 + w) m 0).1 (50 + w) 8 = nI a := h8
  have h9' : (setJ u (53 + w) m 0).1 (50 + w) 9 = nI b := h9
  simp (disch := omega) only [mlet, ilet, jlet, ↓br_if, ↓br_ifn, ↓reduceIte, nl_lt, nl_gt, nl_le, nl_ge, nl_eq, nn_lt, nn_le, nn_eq, nl_add, nl_sub, nl_mul, nl_mulr, nn_add, nn_ix, nn_in, true_and, and_true, false_and, and_false, gI_if, gIj, gIr, gJ_if, gJi, gJr, gPr, gPi, gPj, hu_if, hv_if, Nat.reduceEqDiff, Nat.reduceLT, Nat.reduceLeDiff, eq_self, bIT, bIF, Nat.add_zero, Nat.add_assoc, Nat.reduceAdd, nb0, nb1, i10, i00, Bool.false_eq_true, not_true_eq_false, not_false_eq_true, reduceIte, w_X8_addMeasure, h4, e1, e2, Nat.add_comm w 3, show 50 + (w + 3) = 53 + w from by omega, show 50 + (w + 6) = 56 + w from by omega, show 50 + (3 + w) = 53 + w from by omega, c_mt h h8' h9']
theorem c_addMeas_full {n w : Nat} {u : Mm} {Q : Int32 → Mm → Prop} (h4 : u.1 (50 + w) 4 = nI 300) : w_X8_addMeasure n (50 + w) u Q = Q 0 u := by
  have e1 : (nI 300 < 0) = False := eq_false (nI_pos (by omega))
  simp (disch := omega) only [mlet, ilet, jlet, ↓br_if, ↓br_ifn, ↓reduceIte, nl_lt, nl_gt, nl_le, nl_ge, nl_eq, nn_lt, nn_le, nn_eq, nl_add, nl_sub, nl_mul, nl_mulr, nn_add, nn_ix, nn_in, true_and, and_true, false_and, and_false, gI_if, gIj, gIr, gJ_if, gJi, gJr, gPr, gPi, gPj, hu_if, hv_if, Nat.reduceEqDiff, Nat.reduceLT, Nat.reduceLeDiff, eq_self, bIT, bIF, Nat.add_zero, Nat.add_assoc, Nat.reduceAdd, nb0, nb1, i10, i00, Bool.false_eq_true, not_true_eq_false, not_false_eq_true, reduceIte, w_X8_addMeasure, w_X8_addMeasure_17, h4, e1]
theorem c_enter {n w m so a b : Nat} {u : Mm} {Q : Int32 → Mm → Prop} (hw : w < 3) (hm : m ≤ 300) (hso : so ≤ 1) (h : okMt a b) (h4 : u.1 (50 + w) 4 = nI m) (h5 : u.1 (50 + w) 5 = nI so) (h8 : u.1 (50 + w) 8 = nI a) (h9 : u.1 (50 + w) 9 = nI b) : w_X8_enterMeasure n (50 + w) u Q = if so = 1 then Q 1 u else if m = 300 then Q 0 u else Q 1 (uEn w m a b u) := by
  by_cases h1 : so = 1
  · subst h1
    rw [if_pos rfl]
    simp (disch := omega) only [mlet, ilet, jlet, ↓br_if, ↓br_ifn, ↓reduceIte, nl_lt, nl_gt, nl_le, nl_ge, nl_eq, nn_lt, nn_le, nn_eq, nl_add, nl_sub, nl_mul, nl_mulr, nn_add, nn_ix, nn_in, true_and, and_true, false_and, and_false, gI_if, gIj, gIr, gJ_if, gJi, gJr, gPr, gPi, gPj, hu_if, hv_if, Nat.reduceEqDiff, Nat.reduceLT, Nat.reduceLeDiff, eq_self, bIT, bIF, Nat.add_zero, Nat.add_assoc, Nat.reduceAdd, nb0, nb1, i10, i00, Bool.false_eq_true, not_true_eq_false, not_false_eq_true, reduceIte, w_X8_enterMeasure, w_X8_enterMeasure_14, w_X8_enterMeasure_19, h5, nI1]
  · obtain rfl : so = 0 := by omega
    rw [if_neg h1]
    by_cases h3 : m = 300
    · subst h3
      rw [if_pos rfl]
      simp (disch := omega) only [mlet, ilet, jlet, ↓br_if, ↓br_ifn, ↓reduceIte, nl_lt, nl_gt, nl_le, nl_ge, nl_eq, nn_lt, nn_le, nn_eq, nl_add, nl_sub, nl_mul, nl_mulr, nn_add, nn_ix, nn_in, true_and, and_true, false_and, and_false, gI_if, gIj, gIr, gJ_if, gJi, gJr, gPr, gPi, gPj, hu_if, hv_if, Nat.reduceEqDiff, Nat.reduceLT, Nat.reduceLeDiff, eq_self, bIT, bIF, Nat.add_zero, Nat.add_assoc, Nat.reduceAdd, nb0, nb1, i10, i00, Bool.false_eq_true, not_true_eq_false, not_false_eq_true, reduceIte, w_X8_enterMeasure, w_X8_enterMeasure_14, w_X8_enterMeasure_19, h5, nI0, c_addMeas_full h4]
    · rw [if_neg h3]
      simp (disch := omega) only [mlet, ilet, jlet, ↓br_if, ↓br_ifn, ↓reduceIte, nl_lt, nl_gt, nl_le, nl_ge, nl_eq, nn_lt, nn_le, nn_eq, nl_add, nl_sub, nl_mul, nl_mulr, nn_add, nn_ix, nn_in, true_and, and_true, false_and, and_false, gI_if, gIj, gIr, gJ_if, gJi, gJr, gPr, gPi, gPj, hu_if, hv_if, Nat.reduceEqDiff, Nat.reduceLT, Nat.reduceLeDiff, eq_self, bIT, bIF, Nat.add_zero, Nat.add_assoc, Nat.reduceAdd, nb0, nb1, i10, i00, Bool.false_eq_true, not_true_eq_false, not_false_eq_true, reduceIte, w_X8_enterMeasure, w_X8_enterMeasure_14, w_X8_enterMeasure_19, h5, nI0, c_addMeas hw (show m < 300 by omega) h h4 h8 h9]
theorem r_begM {n w m so a b : Nat} {pl : Int32} {v : Mm} {Q T' : Mm → Prop} (hw : w < 3) (hm : m ≤ 300) (hso : so ≤ 1) (h : okMt a b) (h28 : v.1 0 28 = nI w) (h18 : v.1 18 w = nI so) (h17 : v.1 17 w = nI (m - so)) (h8 : v.1 13 w = nI a) (h9 : v.1 14 w = nI b) : w_X12_beginMeasure n pl v Q T' = if so = 1 then Q v else if m = 300 then T' (setI (setI (setI v 18 w 1) 1 6 2) 1 7 pl) else Q (vEn w m a b v) := by
  by_cases h1 : so = 1
  · subst h1
    rw [if_pos rfl]
    simp (disch := omega) only [mlet, ilet, jlet, ↓br_if, ↓br_ifn, ↓reduceIte, nl_lt, nl_gt, nl_le, nl_ge, nl_eq, nn_lt, nn_le, nn_eq, nl_add, nl_sub, nl_mul, nl_mulr, nn_add, nn_ix, nn_in, true_and, and_true, false_and, and_false, gI_if, gIj, gIr, gJ_if, gJi, gJr, gPr, gPi, gPj, hu_if, hv_if, Nat.reduceEqDiff, Nat.reduceLT, Nat.reduceLeDiff, eq_self, bIT, bIF, Nat.add_zero, Nat.add_assoc, Nat.reduceAdd, nb0, nb1, i10, i00, Bool.false_eq_true, not_true_eq_false, not_false_eq_true, reduceIte, w_X12_beginMeasure, w_X12_beginMeasure_92, h28, h18, nI1]
  · obtain rfl : so = 0 := by omega
    rw [if_neg h1]
    rw [Nat.sub_zero] at h17
    by_cases h3 : m = 300
    · subst h3
      rw [if_pos rfl]
      simp (disch := omega) only [mlet, ilet, jlet, ↓br_if, ↓br_ifn, ↓reduceIte, nl_lt, nl_gt, nl_le, nl_ge, nl_eq, nn_lt, nn_le, nn_eq, nl_add, nl_sub, nl_mul, nl_mulr, nn_add, nn_ix, nn_in, true_and, and_true, false_and, and_false, gI_if, gIj, gIr, gJ_if, gJi, gJr, gPr, gPi, gPj, hu_if, hv_if, Nat.reduceEqDiff, Nat.reduceLT, Nat.reduceLeDiff, eq_self, bIT, bIF, Nat.add_zero, Nat.add_assoc, Nat.reduceAdd, nb0, nb1, i10, i00, Bool.false_eq_true, not_true_eq_false, not_false_eq_true, reduceIte, w_X12_beginMeasure, h28, h18, nI0, h17, vnb1, ↓r_fail]
    · rw [if_neg h3]
      have hm' : m < 300 := by omega
      have i1 : 300 * w + m < 900 := by omega
      have e8 : (setJ (setI (setI v 18 w 1) 19 w (nI (m + 1))) 20 (300 * w + m) 0).1 13 w = nI a := by simp (disch := omega) only [mlet, ilet, jlet, ↓br_if, ↓br_ifn, ↓reduceIte, nl_lt, nl_gt, nl_le, nl_ge, nl_eq, nn_lt, nn_le, nn_eq, nl_add, nl_sub, nl_mul, nl_mulr, nn_add, nn_ix, nn_in, true_and, and_true, false_and, and_false, gI_if, gIj, gIr, gJ_if, gJi, gJr, gPr, gPi, gPj, hu_if, hv_if, Nat.reduceEqDiff, Nat.reduceLT, Nat.reduceLeDiff, eq_self, bIT, bIF, Nat.add_zero, Nat.add_assoc, Nat.reduceAdd, nb0, nb1, i10, i00, Bool.false_eq_true, not_true_eq_false, not_false_eq_true, reduceIte]; exact h8
      have e9 : (setJ (setI (setI v 18 w 1) 19 w (nI (m + 1))) 20 (300 * w + m) 0).1 14 w = nI b := by simp (disch := omega) only [mlet, ilet, jlet, ↓br_if, ↓br_ifn, ↓reduceIte, nl_lt, nl_gt, nl_le, nl_ge, nl_eq, nn_lt, nn_le, nn_eq, nl_add, nl_sub, nl_mul, nl_mulr, nn_add, nn_ix, nn_in, true_and, and_true, false_and, and_false, gI_if, gIj, gIr, gJ_if, gJi, gJr, gPr, gPi, gPj, hu_if, hv_if, Nat.reduceEqDiff, Nat.reduceLT, Nat.reduceLeDiff, eq_self, bIT, bIF, Nat.add_zero, Nat.add_assoc, Nat.reduceAdd, nb0, nb1, i10, i00, Bool.false_eq_true, not_true_eq_false, not_false_eq_true, reduceIte]; exact h9
      have e28 : (setJ (setI (setI v 18 w 1) 19 w (nI (m + 1))) 20 (300 * w + m) 0).1 0 28 = nI w := by simp (disch := omega) only [mlet, ilet, jlet, ↓br_if, ↓br_ifn, ↓reduceIte, nl_lt, nl_gt, nl_le, nl_ge, nl_eq, nn_lt, nn_le, nn_eq, nl_add, nl_sub, nl_mul, nl_mulr, nn_add, nn_ix, nn_in, true_and, and_true, false_and, and_false, gI_if, gIj, gIr, gJ_if, gJi, gJr, gPr, gPi, gPj, hu_if, hv_if, Nat.reduceEqDiff, Nat.reduceLT, Nat.reduceLeDiff, eq_self, bIT, bIF, Nat.add_zero, Nat.add_assoc, Nat.reduceAdd, nb0, nb1, i10, i00, Bool.false_eq_true, not_true_eq_false, not_false_eq_true, reduceIte]; exact h28
      unfold vEn
      simp (disch := omega) only [mlet, ilet, jlet, ↓br_if, ↓br_ifn, ↓reduceIte, nl_lt, nl_gt, nl_le, nl_ge, nl_eq, nn_lt, nn_le, nn_eq, nl_add, nl_sub, nl_mul, nl_mulr, nn_add, nn_ix, nn_in, true_and, and_true, false_and, and_false, gI_if, gIj, gIr, gJ_if, gJi, gJr, gPr, gPi, gPj, hu_if, hv_if, Nat.reduceEqDiff, Nat.reduceLT, Nat.reduceLeDiff, eq_self, bIT, bIF, Nat.add_zero, Nat.add_assoc, Nat.reduceAdd, nb0, nb1, i10, i00, Bool.false_eq_true, not_true_eq_false, not_false_eq_true, reduceIte, w_X12_beginMeasure, w_X12_beginMeasure_39, w_X12_beginMeasure_92, h28, h18, nI0, h17, vnb1, h3, r_mt hw h e28 e8 e9]
