/-! the measures as they are played -/
theorem skipS {n A : Nat} {u v : Mm} {x3 x4 x6 : Int32} (hA : A ≤ 300) (hg : ∀ j, j ≤ 300 → gr (u.1 62 j) (v.1 26 j) (v.1 27 j) (v.1 28 j) (v.1 29 j)) : ∀ (d k k' m : Nat), A - m = d → d < k → d < k' → m < A → ∃ m1 m2 : Nat, m < m1 ∧ m1 ≤ 301 ∧ m < m2 ∧ m2 ≤ 301 ∧ (m1 = m2 ∨ (A ≤ m1 ∧ A ≤ m2)) ∧ (∀ Q, w_X3_behindStop_4 n Q k (nI A) (nI (m + 1)) u = Q (nI m1) u) ∧ (∀ (L : Int32 → Int32 → Int32 → Int32 → Int32 → Int32 → Mm → Prop) Q T', w_X12_findPlayed_360 n L Q T' k' (nI A) (nI m) x3 x4 x6 v = L (nI A) (nI m2) x3 x4 0 x6 v) := by
  intro d
  induction d with
  | zero => intro k k' m hd; omega
  | succ d ih =>
    intro k k' m hd hk hk' hm
    obtain ⟨k, rfl⟩ : ∃ k1, k = k1 + 1 := ⟨k - 1, by omega⟩
    obtain ⟨k', rfl⟩ : ∃ k1, k' = k1 + 1 := ⟨k' - 1, by omega⟩
    obtain ⟨s, b, e, o, s1, b1, e1, o4, g1, g2, g3, g4, g5⟩ := hg (m + 1) (by omega)
    obtain ⟨p1, p2, p3, p4⟩ := g_bits s (by omega) b (by omega) e (by omega) o (by omega)
    have hAm : (A ≤ m) = False := eq_false (by omega)
    by_cases hend : A ≤ m + 1
    · have C : ∀ Q, w_X3_behindStop_4 n Q (k + 1) (nI A) (nI (m + 1)) u = Q (nI (m + 1)) u := fun Q => by
        rw [w_X3_behindStop_4]
        simp (disch := omega) only [↓mletE, ↓iletE, ↓jletE, ↓br_if, ↓br_ifn, ↓reduceIte, nl_lt, nl_gt, nl_le, nl_ge, nl_eq, nn_lt, nn_le, nn_eq, nl_add, nl_sub, nl_mul, nl_mulr, nn_add, nn_ix, nn_in, true_and, and_true, false_and, and_false, gI_if, gIj, gIr, gJ_if, gJi, gJr, gPr, gPi, gPj, hu_if, hv_if, Nat.reduceEqDiff, Nat.reduceLT, Nat.reduceLeDiff, eq_self, bIT, bIF, Nat.add_zero, Nat.add_assoc, Nat.reduceAdd, nb0, nb1, i10, i00, Bool.false_eq_true, not_true_eq_false, not_false_eq_true, reduceIte, eq_true hend, w_X3_behindStop_29]
      by_cases he : e = 0
      · obtain ⟨k', rfl⟩ : ∃ k1, k' = k1 + 1 := ⟨k' - 1, by omega⟩
        refine ⟨m + 1, m + 1 + 1, by omega, by omega, by omega, by omega, Or.inr ⟨hend, by omega⟩, C, fun L Q T' => ?_⟩
        rw [w_X12_findPlayed_360]
        simp (disch := omega) only [↓mletE, ↓iletE, ↓jletE, ↓br_if, ↓br_ifn, ↓reduceIte, nl_lt, nl_gt, nl_le, nl_ge, nl_eq, nn_lt, nn_le, nn_eq, nl_add, nl_sub, nl_mul, nl_mulr, nn_add, nn_ix, nn_in, true_and, and_true, false_and, and_false, gI_if, gIj, gIr, gJ_if, gJi, gJr, gPr, gPi, gPj, hu_if, hv_if, Nat.reduceEqDiff, Nat.reduceLT, Nat.reduceLeDiff, eq_self, bIT, bIF, Nat.add_zero, Nat.add_assoc, Nat.reduceAdd, nb0, nb1, i10, i00, Bool.false_eq_true, not_true_eq_false, not_false_eq_true, reduceIte, hAm, g4, eq_true he]
        rw [w_X12_findPlayed_360]
        simp (disch := omega) only [↓mletE, ↓iletE, ↓jletE, ↓br_if, ↓br_ifn, ↓reduceIte, nl_lt, nl_gt, nl_le, nl_ge, nl_eq, nn_lt, nn_le, nn_eq, nl_add, nl_sub, nl_mul, nl_mulr, nn_add, nn_ix, nn_in, true_and, and_true, false_and, and_false, gI_if, gIj, gIr, gJ_if, gJi, gJr, gPr, gPi, gPj, hu_if, hv_if, Nat.reduceEqDiff, Nat.reduceLT, Nat.reduceLeDiff, eq_self, bIT, bIF, Nat.add_zero, Nat.add_assoc, Nat.reduceAdd, nb0, nb1, i10, i00, Bool.false_eq_true, not_true_eq_false, not_false_eq_true, reduceIte, eq_true hend, w_X12_findPlayed_382, w_X12_findPlayed_488]
      · refine ⟨m + 1, m + 1, by omega, by omega, by omega, by omega, Or.inl rfl, C, fun L Q T' => ?_⟩
        rw [w_X12_findPlayed_360]
        simp (disch := omega) only [↓mletE, ↓iletE, ↓jletE, ↓br_if, ↓br_ifn, ↓reduceIte, nl_lt, nl_gt, nl_le, nl_ge, nl_eq, nn_lt, nn_le, nn_eq, nl_add, nl_sub, nl_mul, nl_mulr, nn_add, nn_ix, nn_in, true_and, and_true, false_and, and_false, gI_if, gIj, gIr, gJ_if, gJi, gJr, gPr, gPi, gPj, hu_if, hv_if, Nat.reduceEqDiff, Nat.reduceLT, Nat.reduceLeDiff, eq_self, bIT, bIF, Nat.add_zero, Nat.add_assoc, Nat.reduceAdd, nb0, nb1, i10, i00, Bool.false_eq_true, not_true_eq_false, not_false_eq_true, reduceIte, hAm, g4, eq_false he, w_X12_findPlayed_382, w_X12_findPlayed_488]
    · have h301 : (301 ≤ m + 1) = False := eq_false (by omega)
      by_cases he : e = 0
      · obtain ⟨m1, m2, i1, i2, i3, i4, i5, i6, i7⟩ := ih k k' (m + 1) (by omega) (by omega) (by omega) (by omega)
        refine ⟨m1, m2, by omega, i2, by omega, i4, i5, fun Q => Eq.trans ?_ (i6 Q), fun L Q T' => Eq.trans ?_ (i7 L Q T')⟩
        · rw [w_X3_behindStop_4]
          simp (disch := omega) only [↓mletE, ↓iletE, ↓jletE, ↓br_if, ↓br_ifn, ↓reduceIte, nl_lt, nl_gt, nl_le, nl_ge, nl_eq, nn_lt, nn_le, nn_eq, nl_add, nl_sub, nl_mul, nl_mulr, nn_add, nn_ix, nn_in, true_and, and_true, false_and, and_false, gI_if, gIj, gIr, gJ_if, gJi, gJr, gPr, gPi, gPj, hu_if, hv_if, Nat.reduceEqDiff, Nat.reduceLT, Nat.reduceLeDiff, eq_self, bIT, bIF, Nat.add_zero, Nat.add_assoc, Nat.reduceAdd, nb0, nb1, i10, i00, Bool.false_eq_true, not_true_eq_false, not_false_eq_true, reduceIte, eq_false hend, h301, g1, p3, show (4 * e = 0) = True from eq_true (by omega)]
        · rw [w_X12_findPlayed_360]
          simp (disch := omega) only [↓mletE, ↓iletE, ↓jletE, ↓br_if, ↓br_ifn, ↓reduceIte, nl_lt, nl_gt, nl_le, nl_ge, nl_eq, nn_lt, nn_le, nn_eq, nl_add, nl_sub, nl_mul, nl_mulr, nn_add, nn_ix, nn_in, true_and, and_true, false_and, and_false, gI_if, gIj, gIr, gJ_if, gJi, gJr, gPr, gPi, gPj, hu_if, hv_if, Nat.reduceEqDiff, Nat.reduceLT, Nat.reduceLeDiff, eq_self, bIT, bIF, Nat.add_zero, Nat.add_assoc, Nat.reduceAdd, nb0, nb1, i10, i00, Bool.false_eq_true, not_true_eq_false, not_false_eq_true, reduceIte, hAm, g4, eq_true he]
      · refine ⟨m + 1, m + 1, by omega, by omega, by omega, by omega, Or.inl rfl, fun Q => ?_, fun L Q T' => ?_⟩
        · rw [w_X3_behindStop_4]
          simp (disch := omega) only [↓mletE, ↓iletE, ↓jletE, ↓br_if, ↓br_ifn, ↓reduceIte, nl_lt, nl_gt, nl_le, nl_ge, nl_eq, nn_lt, nn_le, nn_eq, nl_add, nl_sub, nl_mul, nl_mulr, nn_add, nn_ix, nn_in, true_and, and_true, false_and, and_false, gI_if, gIj, gIr, gJ_if, gJi, gJr, gPr, gPi, gPj, hu_if, hv_if, Nat.reduceEqDiff, Nat.reduceLT, Nat.reduceLeDiff, eq_self, bIT, bIF, Nat.add_zero, Nat.add_assoc, Nat.reduceAdd, nb0, nb1, i10, i00, Bool.false_eq_true, not_true_eq_false, not_false_eq_true, reduceIte, eq_false hend, h301, g1, p3, show (4 * e = 0) = False from eq_false (by omega), w_X3_behindStop_29]
        · rw [w_X12_findPlayed_360]
          simp (disch := omega) only [↓mletE, ↓iletE, ↓jletE, ↓br_if, ↓br_ifn, ↓reduceIte, nl_lt, nl_gt, nl_le, nl_ge, nl_eq, nn_lt, nn_le, nn_eq, nl_add, nl_sub, nl_mul, nl_mulr, nn_add, nn_ix, nn_in, true_and, and_true, false_and, and_false, gI_if, gIj, gIr, gJ_if, gJi, gJr, gPr, gPi, gPj, hu_if, hv_if, Nat.reduceEqDiff, Nat.reduceLT, Nat.reduceLeDiff, eq_self, bIT, bIF, Nat.add_zero, Nat.add_assoc, Nat.reduceAdd, nb0, nb1, i10, i00, Bool.false_eq_true, not_true_eq_false, not_false_eq_true, reduceIte, hAm, g4, eq_false he, w_X12_findPlayed_382, w_X12_findPlayed_488]
