/-! measures and titles -/
theorem lgz {x y : Int64} : (lg_cmp x y = 0) = (x = y) := by
  by_cases h : x = y
  · subst h; rw [lg_same]; simp
  · unfold lg_cmp
    by_cases h2 : y < x
    · rw [if_pos h2]; simp [h]
    · rw [if_neg h2, if_neg h]; simp [h]
theorem lgn {x y : Int64} : (lg_cmp x y < 0) = (x < y) := by
  have := lg_cmp_ge x y
  rw [← Int32.not_le, this, ← Int64.not_lt, Classical.not_not]
theorem c_hasV {n : Nat} {a : Int32} {σ : Mm} {Q : Int32 → Mm → Prop} (h7 : σ.1 32 7 = 1) : w_X10_hasVoice n a σ Q = Q (bI (∃ w : Nat, w < 3 ∧ a = nI (w + 1))) σ := by
  unfold w_X10_hasVoice
  by_cases h0 : a < 1
  · rw [bI_f (fun ⟨j, hj, e⟩ => by rw [e, nl_lt (by omega)] at h0; omega)]
    simp (disch := omega) only [↓mletE, ↓iletE, ↓jletE, ↓br_if, ↓br_ifn, ↓reduceIte, nl_lt, nl_gt, nl_le, nl_ge, nl_eq, nn_lt, nn_le, nn_eq, nl_add, nl_sub, nl_mul, nl_mulr, nn_add, nn_ix, nn_in, true_and, and_true, false_and, and_false, gI_if, gIj, gIr, gJ_if, gJi, gJr, gPr, gPi, gPj, hu_if, hv_if, Nat.reduceEqDiff, Nat.reduceLT, Nat.reduceLeDiff, eq_self, bIT, bIF, Nat.add_zero, Nat.add_assoc, Nat.reduceAdd, nb0, nb1, i10, i00, Bool.false_eq_true, not_true_eq_false, not_false_eq_true, reduceIte, h7, eq_true h0, w_X10_hasVoice_21, w_X10_hasVoice_22]
  · have h0' : ¬ a < 0 := fun z => h0 (Int32.lt_trans z (by decide))
    obtain ⟨j, hj, rfl⟩ := nI_of h0'
    rw [nl_lt (by omega)] at h0
    by_cases hl : j ≤ 3
    · rw [bI_t ⟨j - 1, by omega, by rw [Nat.sub_add_cancel (by omega)]⟩]
      simp (disch := omega) only [↓mletE, ↓iletE, ↓jletE, ↓br_if, ↓br_ifn, ↓reduceIte, nl_lt, nl_gt, nl_le, nl_ge, nl_eq, nn_lt, nn_le, nn_eq, nl_add, nl_sub, nl_mul, nl_mulr, nn_add, nn_ix, nn_in, true_and, and_true, false_and, and_false, gI_if, gIj, gIr, gJ_if, gJi, gJr, gPr, gPi, gPj, hu_if, hv_if, Nat.reduceEqDiff, Nat.reduceLT, Nat.reduceLeDiff, eq_self, bIT, bIF, Nat.add_zero, Nat.add_assoc, Nat.reduceAdd, nb0, nb1, i10, i00, Bool.false_eq_true, not_true_eq_false, not_false_eq_true, reduceIte, h7, eq_false h0, show (3 < j) = False from eq_false (by omega), w_X10_hasVoice_22]
    · rw [bI_f (fun ⟨i, hi, e⟩ => by rw [nI_inj' hj (by omega)] at e; omega)]
      simp (disch := omega) only [↓mletE, ↓iletE, ↓jletE, ↓br_if, ↓br_ifn, ↓reduceIte, nl_lt, nl_gt, nl_le, nl_ge, nl_eq, nn_lt, nn_le, nn_eq, nl_add, nl_sub, nl_mul, nl_mulr, nn_add, nn_ix, nn_in, true_and, and_true, false_and, and_false, gI_if, gIj, gIr, gJ_if, gJi, gJr, gPr, gPi, gPj, hu_if, hv_if, Nat.reduceEqDiff, Nat.reduceLT, Nat.reduceLeDiff, eq_self, bIT, bIF, Nat.add_zero, Nat.add_assoc, Nat.reduceAdd, nb0, nb1, i10, i00, Bool.false_eq_true, not_true_eq_false, not_false_eq_true, reduceIte, h7, eq_false h0, show (3 < j) = True from eq_true (by omega), w_X10_hasVoice_21, w_X10_hasVoice_22]
theorem c_hasV0 {n : Nat} {a : Int32} {σ : Mm} {Q : Int32 → Mm → Prop} (h7 : σ.1 32 7 = 0) : w_X10_hasVoice n a σ Q = Q 0 σ := by
  unfold w_X10_hasVoice
  simp (disch := omega) only [↓mletE, ↓iletE, ↓jletE, ↓br_if, ↓br_ifn, ↓reduceIte, nl_lt, nl_gt, nl_le, nl_ge, nl_eq, nn_lt, nn_le, nn_eq, nl_add, nl_sub, nl_mul, nl_mulr, nn_add, nn_ix, nn_in, true_and, and_true, false_and, and_false, gI_if, gIj, gIr, gJ_if, gJi, gJr, gPr, gPi, gPj, hu_if, hv_if, Nat.reduceEqDiff, Nat.reduceLT, Nat.reduceLeDiff, eq_self, bIT, bIF, Nat.add_zero, Nat.add_assoc, Nat.reduceAdd, nb0, nb1, i10, i00, Bool.false_eq_true, not_true_eq_false, not_false_eq_true, reduceIte, h7, w_X10_hasVoice_21, w_X10_hasVoice_22]
theorem r_inV {n : Nat} {a : Int32} {v : Mm} {Q : Int32 → Mm → Prop} {T' : Mm → Prop} : w_X12_in n a.toInt64 1 3 v Q T' = Q (bI (∃ w : Nat, w < 3 ∧ a = nI (w + 1))) v := by
  rw [r_in]
  congr 1
  by_cases h0 : a < 1
  · rw [bI_f (fun z => i_neg1 h0 z.1), bI_f (fun ⟨j, hj, e⟩ => by rw [e, nl_lt (by omega)] at h0; omega)]
  · have h0' : ¬ a < 0 := fun z => h0 (Int32.lt_trans z (by decide))
    obtain ⟨j, hj, rfl⟩ := nI_of h0'
    rw [nl_lt (by omega)] at h0
    have e1 : bI ((1 : Int64) ≤ (nI j).toInt64 ∧ (nI j).toInt64 ≤ (3 : Int64)) = inM (nI j) 1 3 := rfl
    rw [e1, inM_nI (by omega)]
    by_cases hl : j ≤ 3
    · rw [bI_t (show 1 ≤ j ∧ j ≤ 3 by omega), bI_t ⟨j - 1, by omega, by rw [Nat.sub_add_cancel (by omega)]⟩]
    · rw [bI_f (show ¬ (1 ≤ j ∧ j ≤ 3) by omega), bI_f (fun ⟨i, hi, e⟩ => by rw [nI_inj' hj (by omega)] at e; omega)]
theorem c_vof {n w : Nat} {σ : Mm} {Q : Nat → Mm → Prop} (hw : w < 3) : w_X7_voiceOf n (nI (w + 1)) σ Q = Q (50 + w) σ := by
  unfold w_X7_voiceOf
  simp (disch := omega) only [↓mletE, ↓iletE, ↓jletE, ↓br_if, ↓br_ifn, ↓reduceIte, nl_lt, nl_gt, nl_le, nl_ge, nl_eq, nn_lt, nn_le, nn_eq, nl_add, nl_sub, nl_mul, nl_mulr, nn_add, nn_ix, nn_in, true_and, and_true, false_and, and_false, gI_if, gIj, gIr, gJ_if, gJi, gJr, gPr, gPi, gPj, hu_if, hv_if, Nat.reduceEqDiff, Nat.reduceLT, Nat.reduceLeDiff, eq_self, bIT, bIF, Nat.add_zero, Nat.add_assoc, Nat.reduceAdd, nb0, nb1, i10, i00, Bool.false_eq_true, not_true_eq_false, not_false_eq_true, reduceIte, w_X7_voiceOf_21, show (w + 1 < 1) = False from eq_false (by omega), show (3 < w + 1) = False from eq_false (by omega), Nat.add_one_sub_one]
theorem q_measures {n t : Nat} {a : Int32} {σ : Mm} (h : RRr t σ σ) : w_X10_measures n a σ (fun r1 σ1 => w_X12_measures n a σ1 (fun r2 σ2 => r1 = r2 ∧ RRr (t + 1) σ2 σ2) noT) := by
  rcases h.2.2.2.2 with ⟨h7, h10⟩ | ⟨h7, h10, T, sz, c, pn, -, -, -, -, hM, -⟩
  · have H := fun Q => c_hasV0 (n := n) (a := a) (Q := Q) h7
    refine ask (C := fun Q => w_X10_measures n a σ Q) (M := fun σ1 Q => w_X12_measures n a σ1 Q noT) h (-1) (fun Q => ?_) (fun Q => ?_)
    · unfold w_X10_measures
      simp (disch := omega) only [↓mletE, ↓iletE, ↓jletE, ↓br_if, ↓br_ifn, ↓reduceIte, nl_lt, nl_gt, nl_le, nl_ge, nl_eq, nn_lt, nn_le, nn_eq, nl_add, nl_sub, nl_mul, nl_mulr, nn_add, nn_ix, nn_in, true_and, and_true, false_and, and_false, gI_if, gIj, gIr, gJ_if, gJi, gJr, gPr, gPi, gPj, hu_if, hv_if, Nat.reduceEqDiff, Nat.reduceLT, Nat.reduceLeDiff, eq_self, bIT, bIF, Nat.add_zero, Nat.add_assoc, Nat.reduceAdd, nb0, nb1, i10, i00, Bool.false_eq_true, not_true_eq_false, not_false_eq_true, reduceIte, ↓H, w_X10_measures_23]
    · unfold w_X12_measures
      simp (disch := omega) only [↓mletE, ↓iletE, ↓jletE, ↓br_if, ↓br_ifn, ↓reduceIte, nl_lt, nl_gt, nl_le, nl_ge, nl_eq, nn_lt, nn_le, nn_eq, nl_add, nl_sub, nl_mul, nl_mulr, nn_add, nn_ix, nn_in, true_and, and_true, false_and, and_false, gI_if, gIj, gIr, gJ_if, gJi, gJr, gPr, gPi, gPj, hu_if, hv_if, Nat.reduceEqDiff, Nat.reduceLT, Nat.reduceLeDiff, eq_self, bIT, bIF, Nat.add_zero, Nat.add_assoc, Nat.reduceAdd, nb0, nb1, i10, i00, Bool.false_eq_true, not_true_eq_false, not_false_eq_true, reduceIte, h10, w_X12_measures_24, w_X12_measures_36]
  · have H := fun Q => c_hasV (n := n) (a := a) (Q := Q) h7
    have N := fun Q T' => r_inV (n := n) (a := a) (v := setI σ 0 0 0) (Q := Q) (T' := T')
    by_cases hj : ∃ w : Nat, w < 3 ∧ a = nI (w + 1)
    · have H : ∀ Q, w_X10_hasVoice n a σ Q = Q 1 σ := fun Q => by rw [H, bI_t hj]
      have N : ∀ Q T', w_X12_in n a.toInt64 1 3 (setI σ 0 0 0) Q T' = Q 1 (setI σ 0 0 0) := fun Q T' => by rw [N, bI_t hj]
      obtain ⟨w, hw, rfl⟩ := hj
      obtain ⟨m, so, m1, m2, m3, m4, m5, -⟩ := hM w hw
      have V := fun Q => c_vof (n := n) (σ := σ) (Q := Q) hw
      refine ask (C := fun Q => w_X10_measures n (nI (w + 1)) σ Q) (M := fun σ1 Q => w_X12_measures n (nI (w + 1)) σ1 Q noT) h (nI m) (fun Q => ?_) (fun Q => ?_)
      · unfold w_X10_measures
        simp (disch := omega) only [↓mletE, ↓iletE, ↓jletE, ↓br_if, ↓br_ifn, ↓reduceIte, nl_lt, nl_gt, nl_le, nl_ge, nl_eq, nn_lt, nn_le, nn_eq, nl_add, nl_sub, nl_mul, nl_mulr, nn_add, nn_ix, nn_in, true_and, and_true, false_and, and_false, gI_if, gIj, gIr, gJ_if, gJi, gJr, gPr, gPi, gPj, hu_if, hv_if, Nat.reduceEqDiff, Nat.reduceLT, Nat.reduceLeDiff, eq_self, bIT, bIF, Nat.add_zero, Nat.add_assoc, Nat.reduceAdd, nb0, nb1, i10, i00, Bool.false_eq_true, not_true_eq_false, not_false_eq_true, reduceIte, ↓H, ↓V, m4, w_X10_measures_23]
      · unfold w_X12_measures
        simp (disch := omega) only [↓mletE, ↓iletE, ↓jletE, ↓br_if, ↓br_ifn, ↓reduceIte, nl_lt, nl_gt, nl_le, nl_ge, nl_eq, nn_lt, nn_le, nn_eq, nl_add, nl_sub, nl_mul, nl_mulr, nn_add, nn_ix, nn_in, true_and, and_true, false_and, and_false, gI_if, gIj, gIr, gJ_if, gJi, gJr, gPr, gPi, gPj, hu_if, hv_if, Nat.reduceEqDiff, Nat.reduceLT, Nat.reduceLeDiff, eq_self, bIT, bIF, Nat.add_zero, Nat.add_assoc, Nat.reduceAdd, nb0, nb1, i10, i00, Bool.false_eq_true, not_true_eq_false, not_false_eq_true, reduceIte, h10, ↓N, Nat.add_one_sub_one, m5, w_X12_measures_36]
    · have H : ∀ Q, w_X10_hasVoice n a σ Q = Q 0 σ := fun Q => by rw [H, bI_f hj]
      have N : ∀ Q T', w_X12_in n a.toInt64 1 3 (setI σ 0 0 0) Q T' = Q 0 (setI σ 0 0 0) := fun Q T' => by rw [N, bI_f hj]
      refine ask (C := fun Q => w_X10_measures n a σ Q) (M := fun σ1 Q => w_X12_measures n a σ1 Q noT) h (-1) (fun Q => ?_) (fun Q => ?_)
      · unfold w_X10_measures
        simp (disch := omega) only [↓mletE, ↓iletE, ↓jletE, ↓br_if, ↓br_ifn, ↓reduceIte, nl_lt, nl_gt, nl_le, nl_ge, nl_eq, nn_lt, nn_le, nn_eq, nl_add, nl_sub, nl_mul, nl_mulr, nn_add, nn_ix, nn_in, true_and, and_true, false_and, and_false, gI_if, gIj, gIr, gJ_if, gJi, gJr, gPr, gPi, gPj, hu_if, hv_if, Nat.reduceEqDiff, Nat.reduceLT, Nat.reduceLeDiff, eq_self, bIT, bIF, Nat.add_zero, Nat.add_assoc, Nat.reduceAdd, nb0, nb1, i10, i00, Bool.false_eq_true, not_true_eq_false, not_false_eq_true, reduceIte, ↓H, w_X10_measures_23]
      · unfold w_X12_measures
        simp (disch := omega) only [↓mletE, ↓iletE, ↓jletE, ↓br_if, ↓br_ifn, ↓reduceIte, nl_lt, nl_gt, nl_le, nl_ge, nl_eq, nn_lt, nn_le, nn_eq, nl_add, nl_sub, nl_mul, nl_mulr, nn_add, nn_ix, nn_in, true_and, and_true, false_and, and_false, gI_if, gIj, gIr, gJ_if, gJi, gJr, gPr, gPi, gPj, hu_if, hv_if, Nat.reduceEqDiff, Nat.reduceLT, Nat.reduceLeDiff, eq_self, bIT, bIF, Nat.add_zero, Nat.add_assoc, Nat.reduceAdd, nb0, nb1, i10, i00, Bool.false_eq_true, not_true_eq_false, not_false_eq_true, reduceIte, h10, ↓N, w_X12_measures_24, w_X12_measures_36]
/-- whether a voice has a measure, both sides -/
theorem hasM {n t : Nat} {a b : Int32} {σ : Mm} (h : RRr t σ σ) : (∃ w j m : Nat, w < 3 ∧ j < m ∧ m ≤ 300 ∧ a = nI (w + 1) ∧ b = nI j ∧ (σ.2.1 (53 + w) j = σ.2.1 20 (300 * w + j) ∧ rlW (σ.2.1 (56 + w) j) (σ.2.1 21 (300 * w + j))) ∧ (∀ Q, w_X10_hasMeasure n a b σ Q = Q 1 σ) ∧ (∀ Q T', w_X12_noMeasure n a b (setI σ 0 0 0) Q T' = Q 0 (setI σ 0 0 0))) ∨ ((∀ Q, w_X10_hasMeasure n a b σ Q = Q 0 σ) ∧ (∀ Q T', w_X12_noMeasure n a b (setI σ 0 0 0) Q T' = Q 1 (setI σ 0 0 0))) := by
  rcases h.2.2.2.2 with ⟨h7, h10⟩ | ⟨h7, h10, T, sz, c, pn, -, -, -, -, hM, -⟩
  · have H := fun Q => c_hasV0 (n := n) (a := a) (Q := Q) h7
    refine Or.inr ⟨fun Q => ?_, fun Q T' => ?_⟩
    · unfold w_X10_hasMeasure
      simp (disch := omega) only [↓mletE, ↓iletE, ↓jletE, ↓br_if, ↓br_ifn, ↓reduceIte, nl_lt, nl_gt, nl_le, nl_ge, nl_eq, nn_lt, nn_le, nn_eq, nl_add, nl_sub, nl_mul, nl_mulr, nn_add, nn_ix, nn_in, true_and, and_true, false_and, and_false, gI_if, gIj, gIr, gJ_if, gJi, gJr, gPr, gPi, gPj, hu_if, hv_if, Nat.reduceEqDiff, Nat.reduceLT, Nat.reduceLeDiff, eq_self, bIT, bIF, Nat.add_zero, Nat.add_assoc, Nat.reduceAdd, nb0, nb1, i10, i00, Bool.false_eq_true, not_true_eq_false, not_false_eq_true, reduceIte, ↓H, w_X10_hasMeasure_31, w_X10_hasMeasure_32]
    · unfold w_X12_noMeasure
      simp (disch := omega) only [↓mletE, ↓iletE, ↓jletE, ↓br_if, ↓br_ifn, ↓reduceIte, nl_lt, nl_gt, nl_le, nl_ge, nl_eq, nn_lt, nn_le, nn_eq, nl_add, nl_sub, nl_mul, nl_mulr, nn_add, nn_ix, nn_in, true_and, and_true, false_and, and_false, gI_if, gIj, gIr, gJ_if, gJi, gJr, gPr, gPi, gPj, hu_if, hv_if, Nat.reduceEqDiff, Nat.reduceLT, Nat.reduceLeDiff, eq_self, bIT, bIF, Nat.add_zero, Nat.add_assoc, Nat.reduceAdd, nb0, nb1, i10, i00, Bool.false_eq_true, not_true_eq_false, not_false_eq_true, reduceIte, h10, w_X12_noMeasure_39, w_X12_noMeasure_44]
  · have H := fun Q => c_hasV (n := n) (a := a) (Q := Q) h7
    have N := fun Q T' => r_inV (n := n) (a := a) (v := setI σ 0 0 0) (Q := Q) (T' := T')
    by_cases hj : ∃ w : Nat, w < 3 ∧ a = nI (w + 1)
    · have H : ∀ Q, w_X10_hasVoice n a σ Q = Q 1 σ := fun Q => by rw [H, bI_t hj]
      have N : ∀ Q T', w_X12_in n a.toInt64 1 3 (setI σ 0 0 0) Q T' = Q 1 (setI σ 0 0 0) := fun Q T' => by rw [N, bI_t hj]
      obtain ⟨w, hw, rfl⟩ := hj
      obtain ⟨m, so, m1, m2, m3, m4, m5, m6, m7, m8, m9, m10⟩ := hM w hw
      have V := fun Q => c_vof (n := n) (σ := σ) (Q := Q) hw
      by_cases b0 : b < 0
      · have e : bI ((0 : Int64) ≤ b.toInt64 ∧ b.toInt64 ≤ (nI m - 1).toInt64) = 0 := bI_f (fun z => i_neg b0 z.1)
        refine Or.inr ⟨fun Q => ?_, fun Q T' => ?_⟩
        · unfold w_X10_hasMeasure
          simp (disch := omega) only [↓mletE, ↓iletE, ↓jletE, ↓br_if, ↓br_ifn, ↓reduceIte, nl_lt, nl_gt, nl_le, nl_ge, nl_eq, nn_lt, nn_le, nn_eq, nl_add, nl_sub, nl_mul, nl_mulr, nn_add, nn_ix, nn_in, true_and, and_true, false_and, and_false, gI_if, gIj, gIr, gJ_if, gJi, gJr, gPr, gPi, gPj, hu_if, hv_if, Nat.reduceEqDiff, Nat.reduceLT, Nat.reduceLeDiff, eq_self, bIT, bIF, Nat.add_zero, Nat.add_assoc, Nat.reduceAdd, nb0, nb1, i10, i00, Bool.false_eq_true, not_true_eq_false, not_false_eq_true, reduceIte, ↓H, eq_true b0, w_X10_hasMeasure_31, w_X10_hasMeasure_32]
        · unfold w_X12_noMeasure
          rw [br_if, if_neg (by simp (disch := omega) only [gIs, gIn, gIj, gIr, gJs, gJn, gJi, gJr, gPr, gPi, gPj, hu_s, hu_n, hv_s, hv_n]; rw [h10]; decide), N, br_if, if_neg (by decide), show nI (w + 1) - 1 = nI w from pk_sub (show 1 ≤ w + 1 by omega)]
          simp (disch := omega) only [↓mletE, ↓iletE, ↓jletE, ↓br_if, ↓br_ifn, ↓reduceIte, nl_lt, nl_gt, nl_le, nl_ge, nl_eq, nn_lt, nn_le, nn_eq, nl_add, nl_mul, nl_mulr, nn_add, nn_ix, nn_in, true_and, and_true, false_and, and_false, gI_if, gIj, gIr, gJ_if, gJi, gJr, gPr, gPi, gPj, hu_if, hv_if, Nat.reduceEqDiff, Nat.reduceLT, Nat.reduceLeDiff, eq_self, bIT, bIF, Nat.add_zero, Nat.add_assoc, Nat.reduceAdd, nb0, nb1, i10, i00, Bool.false_eq_true, not_true_eq_false, not_false_eq_true, reduceIte, m5, ↓r_in, e, w_X12_noMeasure_39, w_X12_noMeasure_44]
      · obtain ⟨j, hj, rfl⟩ := nI_of b0
        by_cases hl : j < m
        · have e : bI ((0 : Int64) ≤ (nI j).toInt64 ∧ (nI j).toInt64 ≤ (nI m - 1).toInt64) = 1 := bI_t ((i_in0 hj (by omega)).mpr hl)
          refine Or.inl ⟨w, j, m, hw, hl, m1, rfl, rfl, m10 j hl, fun Q => ?_, fun Q T' => ?_⟩
          · unfold w_X10_hasMeasure
            simp (disch := omega) only [↓mletE, ↓iletE, ↓jletE, ↓br_if, ↓br_ifn, ↓reduceIte, nl_lt, nl_gt, nl_le, nl_ge, nl_eq, nn_lt, nn_le, nn_eq, nl_add, nl_sub, nl_mul, nl_mulr, nn_add, nn_ix, nn_in, true_and, and_true, false_and, and_false, gI_if, gIj, gIr, gJ_if, gJi, gJr, gPr, gPi, gPj, hu_if, hv_if, Nat.reduceEqDiff, Nat.reduceLT, Nat.reduceLeDiff, eq_self, bIT, bIF, Nat.add_zero, Nat.add_assoc, Nat.reduceAdd, nb0, nb1, i10, i00, Bool.false_eq_true, not_true_eq_false, not_false_eq_true, reduceIte, ↓H, eq_false b0, ↓V, m4, show (m ≤ j) = False from eq_false (by omega), w_X10_hasMeasure_32]
          · unfold w_X12_noMeasure
            rw [br_if, if_neg (by simp (disch := omega) only [gIs, gIn, gIj, gIr, gJs, gJn, gJi, gJr, gPr, gPi, gPj, hu_s, hu_n, hv_s, hv_n]; rw [h10]; decide), N, br_if, if_neg (by decide), show nI (w + 1) - 1 = nI w from pk_sub (show 1 ≤ w + 1 by omega)]
            simp (disch := omega) only [↓mletE, ↓iletE, ↓jletE, ↓br_if, ↓br_ifn, ↓reduceIte, nl_lt, nl_gt, nl_le, nl_ge, nl_eq, nn_lt, nn_le, nn_eq, nl_add, nl_mul, nl_mulr, nn_add, nn_ix, nn_in, true_and, and_true, false_and, and_false, gI_if, gIj, gIr, gJ_if, gJi, gJr, gPr, gPi, gPj, hu_if, hv_if, Nat.reduceEqDiff, Nat.reduceLT, Nat.reduceLeDiff, eq_self, bIT, bIF, Nat.add_zero, Nat.add_assoc, Nat.reduceAdd, nb0, nb1, i10, i00, Bool.false_eq_true, not_true_eq_false, not_false_eq_true, reduceIte, m5, ↓r_in, e, w_X12_noMeasure_44]
        · have e : bI ((0 : Int64) ≤ (nI j).toInt64 ∧ (nI j).toInt64 ≤ (nI m - 1).toInt64) = 0 := bI_f (fun z => hl ((i_in0 hj (by omega)).mp z))
          refine Or.inr ⟨fun Q => ?_, fun Q T' => ?_⟩
          · unfold w_X10_hasMeasure
            simp (disch := omega) only [↓mletE, ↓iletE, ↓jletE, ↓br_if, ↓br_ifn, ↓reduceIte, nl_lt, nl_gt, nl_le, nl_ge, nl_eq, nn_lt, nn_le, nn_eq, nl_add, nl_sub, nl_mul, nl_mulr, nn_add, nn_ix, nn_in, true_and, and_true, false_and, and_false, gI_if, gIj, gIr, gJ_if, gJi, gJr, gPr, gPi, gPj, hu_if, hv_if, Nat.reduceEqDiff, Nat.reduceLT, Nat.reduceLeDiff, eq_self, bIT, bIF, Nat.add_zero, Nat.add_assoc, Nat.reduceAdd, nb0, nb1, i10, i00, Bool.false_eq_true, not_true_eq_false, not_false_eq_true, reduceIte, ↓H, eq_false b0, ↓V, m4, show (m ≤ j) = True from eq_true (by omega), w_X10_hasMeasure_31, w_X10_hasMeasure_32]
          · unfold w_X12_noMeasure
            rw [br_if, if_neg (by simp (disch := omega) only [gIs, gIn, gIj, gIr, gJs, gJn, gJi, gJr, gPr, gPi, gPj, hu_s, hu_n, hv_s, hv_n]; rw [h10]; decide), N, br_if, if_neg (by decide), show nI (w + 1) - 1 = nI w from pk_sub (show 1 ≤ w + 1 by omega)]
            simp (disch := omega) only [↓mletE, ↓iletE, ↓jletE, ↓br_if, ↓br_ifn, ↓reduceIte, nl_lt, nl_gt, nl_le, nl_ge, nl_eq, nn_lt, nn_le, nn_eq, nl_add, nl_mul, nl_mulr, nn_add, nn_ix, nn_in, true_and, and_true, false_and, and_false, gI_if, gIj, gIr, gJ_if, gJi, gJr, gPr, gPi, gPj, hu_if, hv_if, Nat.reduceEqDiff, Nat.reduceLT, Nat.reduceLeDiff, eq_self, bIT, bIF, Nat.add_zero, Nat.add_assoc, Nat.reduceAdd, nb0, nb1, i10, i00, Bool.false_eq_true, not_true_eq_false, not_false_eq_true, reduceIte, m5, ↓r_in, e, w_X12_noMeasure_39, w_X12_noMeasure_44]
    · have H : ∀ Q, w_X10_hasVoice n a σ Q = Q 0 σ := fun Q => by rw [H, bI_f hj]
      have N : ∀ Q T', w_X12_in n a.toInt64 1 3 (setI σ 0 0 0) Q T' = Q 0 (setI σ 0 0 0) := fun Q T' => by rw [N, bI_f hj]
      refine Or.inr ⟨fun Q => ?_, fun Q T' => ?_⟩
      · unfold w_X10_hasMeasure
        simp (disch := omega) only [↓mletE, ↓iletE, ↓jletE, ↓br_if, ↓br_ifn, ↓reduceIte, nl_lt, nl_gt, nl_le, nl_ge, nl_eq, nn_lt, nn_le, nn_eq, nl_add, nl_sub, nl_mul, nl_mulr, nn_add, nn_ix, nn_in, true_and, and_true, false_and, and_false, gI_if, gIj, gIr, gJ_if, gJi, gJr, gPr, gPi, gPj, hu_if, hv_if, Nat.reduceEqDiff, Nat.reduceLT, Nat.reduceLeDiff, eq_self, bIT, bIF, Nat.add_zero, Nat.add_assoc, Nat.reduceAdd, nb0, nb1, i10, i00, Bool.false_eq_true, not_true_eq_false, not_false_eq_true, reduceIte, ↓H, w_X10_hasMeasure_31, w_X10_hasMeasure_32]
      · unfold w_X12_noMeasure
        simp (disch := omega) only [↓mletE, ↓iletE, ↓jletE, ↓br_if, ↓br_ifn, ↓reduceIte, nl_lt, nl_gt, nl_le, nl_ge, nl_eq, nn_lt, nn_le, nn_eq, nl_add, nl_sub, nl_mul, nl_mulr, nn_add, nn_ix, nn_in, true_and, and_true, false_and, and_false, gI_if, gIj, gIr, gJ_if, gJi, gJr, gPr, gPi, gPj, hu_if, hv_if, Nat.reduceEqDiff, Nat.reduceLT, Nat.reduceLeDiff, eq_self, bIT, bIF, Nat.add_zero, Nat.add_assoc, Nat.reduceAdd, nb0, nb1, i10, i00, Bool.false_eq_true, not_true_eq_false, not_false_eq_true, reduceIte, h10, ↓N, w_X12_noMeasure_39, w_X12_noMeasure_44]
theorem ix300 {w j : Nat} (hw : w < 3) (hj : j < 300) : (300 : Int32) * (nI (w + 1) - 1) + nI j = nI (300 * w + j) := by
  rw [show nI (w + 1) - 1 = nI w from pk_sub (show 1 ≤ w + 1 by omega), nl_mulr, nn_add]
theorem q_length {n t : Nat} {a b : Int32} {σ : Mm} (h : RRr t σ σ) : w_X10_length n a b σ (fun r1 σ1 => w_X12_length n a b σ1 (fun r2 σ2 => r1 = r2 ∧ RRr (t + 1) σ2 σ2) noT) := by
  rcases hasM (n := n) (a := a) (b := b) h with ⟨w, j, m, hw, hj, hm, rfl, rfl, ⟨l1, l2⟩, H, N⟩ | ⟨H, N⟩
  · have V := fun Q => c_vof (n := n) (σ := σ) (Q := Q) hw
    refine ask (C := fun Q => w_X10_length n (nI (w + 1)) (nI j) σ Q) (M := fun σ1 Q => w_X12_length n (nI (w + 1)) (nI j) σ1 Q noT) h (σ.2.1 20 (300 * w + j)) (fun Q => ?_) (fun Q => ?_)
    · unfold w_X10_length
      have e53 : 50 + w + 3 = 53 + w := by omega
      simp (disch := omega) only [↓mletE, ↓iletE, ↓jletE, ↓br_if, ↓br_ifn, ↓reduceIte, nl_lt, nl_gt, nl_le, nl_ge, nl_eq, nn_lt, nn_le, nn_eq, nl_add, nl_sub, nl_mul, nl_mulr, nn_add, nn_ix, nn_in, true_and, and_true, false_and, and_false, gI_if, gIj, gIr, gJ_if, gJi, gJr, gPr, gPi, gPj, hu_if, hv_if, Nat.reduceEqDiff, Nat.reduceLT, Nat.reduceLeDiff, eq_self, bIT, bIF, Nat.add_zero, Nat.reduceAdd, nb0, nb1, i10, i00, Bool.false_eq_true, not_true_eq_false, not_false_eq_true, reduceIte, ↓H, ↓V, w_X8_ticksIn, w_X8_ticksIn_21, w_X10_length_27, show (j < 0) = False from eq_false (by omega), show (300 ≤ j) = False from eq_false (by omega), e53, l1]
    · unfold w_X12_length
      simp (disch := omega) only [↓mletE, ↓iletE, ↓jletE, ↓br_if, ↓br_ifn, ↓reduceIte, nl_lt, nl_gt, nl_le, nl_ge, nl_eq, nn_lt, nn_le, nn_eq, nl_add, nl_mul, nn_add, nn_ix, nn_in, true_and, and_true, false_and, and_false, gI_if, gIj, gIr, gJ_if, gJi, gJr, gPr, gPi, gPj, hu_if, hv_if, Nat.reduceEqDiff, Nat.reduceLT, Nat.reduceLeDiff, eq_self, bIT, bIF, Nat.add_zero, Nat.add_assoc, Nat.reduceAdd, nb0, nb1, i10, i00, Bool.false_eq_true, not_true_eq_false, not_false_eq_true, reduceIte, ↓N, ix300 hw (show j < 300 by omega), w_X12_length_34]
  · refine ask (C := fun Q => w_X10_length n a b σ Q) (M := fun σ1 Q => w_X12_length n a b σ1 Q noT) h (-1) (fun Q => ?_) (fun Q => ?_)
    · unfold w_X10_length
      simp (disch := omega) only [↓mletE, ↓iletE, ↓jletE, ↓br_if, ↓br_ifn, ↓reduceIte, nl_lt, nl_gt, nl_le, nl_ge, nl_eq, nn_lt, nn_le, nn_eq, nl_add, nl_sub, nl_mul, nl_mulr, nn_add, nn_ix, nn_in, true_and, and_true, false_and, and_false, gI_if, gIj, gIr, gJ_if, gJi, gJr, gPr, gPi, gPj, hu_if, hv_if, Nat.reduceEqDiff, Nat.reduceLT, Nat.reduceLeDiff, eq_self, bIT, bIF, Nat.add_zero, Nat.add_assoc, Nat.reduceAdd, nb0, nb1, i10, i00, Bool.false_eq_true, not_true_eq_false, not_false_eq_true, reduceIte, ↓H, w_X10_length_27]
    · unfold w_X12_length
      simp (disch := omega) only [↓mletE, ↓iletE, ↓jletE, ↓br_if, ↓br_ifn, ↓reduceIte, nl_lt, nl_gt, nl_le, nl_ge, nl_eq, nn_lt, nn_le, nn_eq, nl_add, nl_sub, nl_mul, nl_mulr, nn_add, nn_ix, nn_in, true_and, and_true, false_and, and_false, gI_if, gIj, gIr, gJ_if, gJi, gJr, gPr, gPi, gPj, hu_if, hv_if, Nat.reduceEqDiff, Nat.reduceLT, Nat.reduceLeDiff, eq_self, bIT, bIF, Nat.add_zero, Nat.add_assoc, Nat.reduceAdd, nb0, nb1, i10, i00, Bool.false_eq_true, not_true_eq_false, not_false_eq_true, reduceIte, ↓N, w_X12_length_34]
theorem q_full {n t : Nat} {a b : Int32} {σ : Mm} (h : RRr t σ σ) : w_X10_full n a b σ (fun r1 σ1 => w_X12_full n a b σ1 (fun r2 σ2 => r1 = r2 ∧ RRr (t + 1) σ2 σ2) noT) := by
  rcases hasM (n := n) (a := a) (b := b) h with ⟨w, j, m, hw, hj, hm, rfl, rfl, ⟨l1, l2⟩, H, N⟩ | ⟨H, N⟩
  · have V := fun Q => c_vof (n := n) (σ := σ) (Q := Q) hw
    have e53 : 50 + w + 3 = 53 + w := by omega
    have e56 : 50 + w + 6 = 56 + w := by omega
    have j0 : (j < 0) = False := eq_false (by omega)
    have j3 : (j < 300) = True := eq_true (by omega)
    rcases l2 with ⟨r1, r2⟩ | ⟨r1, r2⟩
    · refine ask (C := fun Q => w_X10_full n (nI (w + 1)) (nI j) σ Q) (M := fun σ1 Q => w_X12_full n (nI (w + 1)) (nI j) σ1 Q noT) h 1 (fun Q => ?_) (fun Q => ?_)
      · unfold w_X10_full
        simp (disch := omega) only [↓mletE, ↓iletE, ↓jletE, ↓br_if, ↓br_ifn, ↓reduceIte, nl_lt, nl_gt, nl_le, nl_ge, nl_eq, nn_lt, nn_le, nn_eq, nl_add, nl_sub, nl_mul, nl_mulr, nn_add, nn_ix, nn_in, true_and, and_true, false_and, and_false, gI_if, gIj, gIr, gJ_if, gJi, gJr, gPr, gPi, gPj, hu_if, hv_if, Nat.reduceEqDiff, Nat.reduceLT, Nat.reduceLeDiff, eq_self, bIT, bIF, Nat.add_zero, Nat.reduceAdd, nb0, nb1, i10, i00, Bool.false_eq_true, not_true_eq_false, not_false_eq_true, reduceIte, ↓H, ↓V, w_X8_isFull, w_X8_isFull_40, w_X8_isFull_45, w_X10_full_31, j0, j3, e56, r2, lgz]
      · unfold w_X12_full
        simp (disch := omega) only [↓mletE, ↓iletE, ↓jletE, ↓br_if, ↓br_ifn, ↓reduceIte, nl_lt, nl_gt, nl_le, nl_ge, nl_eq, nn_lt, nn_le, nn_eq, nl_add, nl_mul, nn_add, nn_ix, nn_in, true_and, and_true, false_and, and_false, gI_if, gIj, gIr, gJ_if, gJi, gJr, gPr, gPi, gPj, hu_if, hv_if, Nat.reduceEqDiff, Nat.reduceLT, Nat.reduceLeDiff, eq_self, bIT, bIF, Nat.add_zero, Nat.add_assoc, Nat.reduceAdd, nb0, nb1, i10, i00, Bool.false_eq_true, not_true_eq_false, not_false_eq_true, reduceIte, ↓N, ix300 hw (show j < 300 by omega), r1, lgn, show ((-1 : Int64) < 0) = True from by decide, w_X12_full_53, w_X12_full_58]
    · have p0 : ¬ σ.2.1 (56 + w) j = 0 := fun z => by rw [z] at r2; exact absurd r2 (by decide)
      have p1 : ¬ σ.2.1 (56 + w) j < 0 := fun z => absurd (Int64.lt_trans r2 z) (by decide)
      by_cases he : σ.2.1 (56 + w) j = σ.2.1 20 (300 * w + j)
      · refine ask (C := fun Q => w_X10_full n (nI (w + 1)) (nI j) σ Q) (M := fun σ1 Q => w_X12_full n (nI (w + 1)) (nI j) σ1 Q noT) h 1 (fun Q => ?_) (fun Q => ?_)
        · unfold w_X10_full
          simp (disch := omega) only [↓mletE, ↓iletE, ↓jletE, ↓br_if, ↓br_ifn, ↓reduceIte, nl_lt, nl_gt, nl_le, nl_ge, nl_eq, nn_lt, nn_le, nn_eq, nl_add, nl_sub, nl_mul, nl_mulr, nn_add, nn_ix, nn_in, true_and, and_true, false_and, and_false, gI_if, gIj, gIr, gJ_if, gJi, gJr, gPr, gPi, gPj, hu_if, hv_if, Nat.reduceEqDiff, Nat.reduceLT, Nat.reduceLeDiff, eq_self, bIT, bIF, Nat.add_zero, Nat.reduceAdd, nb0, nb1, i10, i00, Bool.false_eq_true, not_true_eq_false, not_false_eq_true, reduceIte, ↓H, ↓V, w_X8_isFull, w_X8_isFull_40, w_X8_isFull_45, w_X10_full_31, j0, j3, e56, e53, lgz, eq_false p0, l1, eq_true he]
        · unfold w_X12_full
          simp (disch := omega) only [↓mletE, ↓iletE, ↓jletE, ↓br_if, ↓br_ifn, ↓reduceIte, nl_lt, nl_gt, nl_le, nl_ge, nl_eq, nn_lt, nn_le, nn_eq, nl_add, nl_mul, nn_add, nn_ix, nn_in, true_and, and_true, false_and, and_false, gI_if, gIj, gIr, gJ_if, gJi, gJr, gPr, gPi, gPj, hu_if, hv_if, Nat.reduceEqDiff, Nat.reduceLT, Nat.reduceLeDiff, eq_self, bIT, bIF, Nat.add_zero, Nat.add_assoc, Nat.reduceAdd, nb0, nb1, i10, i00, Bool.false_eq_true, not_true_eq_false, not_false_eq_true, reduceIte, ↓N, ix300 hw (show j < 300 by omega), r1, lgn, lgz, eq_false p1, eq_true he, w_X12_full_53, w_X12_full_58]
      · refine ask (C := fun Q => w_X10_full n (nI (w + 1)) (nI j) σ Q) (M := fun σ1 Q => w_X12_full n (nI (w + 1)) (nI j) σ1 Q noT) h 0 (fun Q => ?_) (fun Q => ?_)
        · unfold w_X10_full
          simp (disch := omega) only [↓mletE, ↓iletE, ↓jletE, ↓br_if, ↓br_ifn, ↓reduceIte, nl_lt, nl_gt, nl_le, nl_ge, nl_eq, nn_lt, nn_le, nn_eq, nl_add, nl_sub, nl_mul, nl_mulr, nn_add, nn_ix, nn_in, true_and, and_true, false_and, and_false, gI_if, gIj, gIr, gJ_if, gJi, gJr, gPr, gPi, gPj, hu_if, hv_if, Nat.reduceEqDiff, Nat.reduceLT, Nat.reduceLeDiff, eq_self, bIT, bIF, Nat.add_zero, Nat.reduceAdd, nb0, nb1, i10, i00, Bool.false_eq_true, not_true_eq_false, not_false_eq_true, reduceIte, ↓H, ↓V, w_X8_isFull, w_X8_isFull_40, w_X8_isFull_45, w_X10_full_31, j0, j3, e56, e53, lgz, eq_false p0, l1, eq_false he]
        · unfold w_X12_full
          simp (disch := omega) only [↓mletE, ↓iletE, ↓jletE, ↓br_if, ↓br_ifn, ↓reduceIte, nl_lt, nl_gt, nl_le, nl_ge, nl_eq, nn_lt, nn_le, nn_eq, nl_add, nl_mul, nn_add, nn_ix, nn_in, true_and, and_true, false_and, and_false, gI_if, gIj, gIr, gJ_if, gJi, gJr, gPr, gPi, gPj, hu_if, hv_if, Nat.reduceEqDiff, Nat.reduceLT, Nat.reduceLeDiff, eq_self, bIT, bIF, Nat.add_zero, Nat.add_assoc, Nat.reduceAdd, nb0, nb1, i10, i00, Bool.false_eq_true, not_true_eq_false, not_false_eq_true, reduceIte, ↓N, ix300 hw (show j < 300 by omega), r1, lgn, lgz, eq_false p1, eq_false he, w_X12_full_53, w_X12_full_58]
  · refine ask (C := fun Q => w_X10_full n a b σ Q) (M := fun σ1 Q => w_X12_full n a b σ1 Q noT) h (-1) (fun Q => ?_) (fun Q => ?_)
    · unfold w_X10_full
      simp (disch := omega) only [↓mletE, ↓iletE, ↓jletE, ↓br_if, ↓br_ifn, ↓reduceIte, nl_lt, nl_gt, nl_le, nl_ge, nl_eq, nn_lt, nn_le, nn_eq, nl_add, nl_sub, nl_mul, nl_mulr, nn_add, nn_ix, nn_in, true_and, and_true, false_and, and_false, gI_if, gIj, gIr, gJ_if, gJi, gJr, gPr, gPi, gPj, hu_if, hv_if, Nat.reduceEqDiff, Nat.reduceLT, Nat.reduceLeDiff, eq_self, bIT, bIF, Nat.add_zero, Nat.add_assoc, Nat.reduceAdd, nb0, nb1, i10, i00, Bool.false_eq_true, not_true_eq_false, not_false_eq_true, reduceIte, ↓H]
    · unfold w_X12_full
      simp (disch := omega) only [↓mletE, ↓iletE, ↓jletE, ↓br_if, ↓br_ifn, ↓reduceIte, nl_lt, nl_gt, nl_le, nl_ge, nl_eq, nn_lt, nn_le, nn_eq, nl_add, nl_sub, nl_mul, nl_mulr, nn_add, nn_ix, nn_in, true_and, and_true, false_and, and_false, gI_if, gIj, gIr, gJ_if, gJi, gJr, gPr, gPi, gPj, hu_if, hv_if, Nat.reduceEqDiff, Nat.reduceLT, Nat.reduceLeDiff, eq_self, bIT, bIF, Nat.add_zero, Nat.add_assoc, Nat.reduceAdd, nb0, nb1, i10, i00, Bool.false_eq_true, not_true_eq_false, not_false_eq_true, reduceIte, ↓N]
