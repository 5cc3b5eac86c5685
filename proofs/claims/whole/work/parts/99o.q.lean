/-! titles, the tape's end -/
theorem q_title {n t : Nat} {a b : Int32} {σ : Mm} (h : RRr t σ σ) : w_X10_title n a b σ (fun r1 σ1 => w_X12_title n a b σ1 (fun r2 σ2 => r1 = r2 ∧ RRr (t + 1) σ2 σ2) noT) := by
  rcases h.2.2.2.2 with ⟨h7, h10⟩ | ⟨h7, h10, T, sz, c, pn, ⟨z1, z2, z3⟩, -, -, hH, -⟩
  · refine ask (C := fun Q => w_X10_title n a b σ Q) (M := fun σ1 Q => w_X12_title n a b σ1 Q noT) h (-1) (fun Q => ?_) (fun Q => ?_)
    · unfold w_X10_title
      simp (disch := omega) only [↓mletE, ↓iletE, ↓jletE, ↓br_if, ↓br_ifn, ↓reduceIte, nl_lt, nl_gt, nl_le, nl_ge, nl_eq, nn_lt, nn_le, nn_eq, nl_add, nl_sub, nl_mul, nl_mulr, nn_add, nn_ix, nn_in, true_and, and_true, false_and, and_false, gI_if, gIj, gIr, gJ_if, gJi, gJr, gPr, gPi, gPj, hu_if, hv_if, Nat.reduceEqDiff, Nat.reduceLT, Nat.reduceLeDiff, eq_self, bIT, bIF, Nat.add_zero, Nat.add_assoc, Nat.reduceAdd, nb0, nb1, i10, i00, Bool.false_eq_true, not_true_eq_false, not_false_eq_true, reduceIte, h7, w_X10_title_27]
    · unfold w_X12_title
      simp (disch := omega) only [↓mletE, ↓iletE, ↓jletE, ↓br_if, ↓br_ifn, ↓reduceIte, nl_lt, nl_gt, nl_le, nl_ge, nl_eq, nn_lt, nn_le, nn_eq, nl_add, nl_sub, nl_mul, nl_mulr, nn_add, nn_ix, nn_in, true_and, and_true, false_and, and_false, gI_if, gIj, gIr, gJ_if, gJi, gJr, gPr, gPi, gPj, hu_if, hv_if, Nat.reduceEqDiff, Nat.reduceLT, Nat.reduceLeDiff, eq_self, bIT, bIF, Nat.add_zero, Nat.add_assoc, Nat.reduceAdd, nb0, nb1, i10, i00, Bool.false_eq_true, not_true_eq_false, not_false_eq_true, reduceIte, h10, w_X12_title_48]
  · obtain ⟨-, ⟨tt, x1, x2, x3, x4⟩, -⟩ := hH
    by_cases a0 : a < 0
    · have e : bI ((0 : Int64) ≤ a.toInt64 ∧ a.toInt64 ≤ (nI tt - 1).toInt64) = 0 := bI_f (fun z => i_neg a0 z.1)
      refine ask (C := fun Q => w_X10_title n a b σ Q) (M := fun σ1 Q => w_X12_title n a b σ1 Q noT) h (-1) (fun Q => ?_) (fun Q => ?_)
      · unfold w_X10_title
        simp (disch := omega) only [↓mletE, ↓iletE, ↓jletE, ↓br_if, ↓br_ifn, ↓reduceIte, nl_lt, nl_gt, nl_le, nl_ge, nl_eq, nn_lt, nn_le, nn_eq, nl_add, nl_sub, nl_mul, nl_mulr, nn_add, nn_ix, nn_in, true_and, and_true, false_and, and_false, gI_if, gIj, gIr, gJ_if, gJi, gJr, gPr, gPi, gPj, hu_if, hv_if, Nat.reduceEqDiff, Nat.reduceLT, Nat.reduceLeDiff, eq_self, bIT, bIF, Nat.add_zero, Nat.add_assoc, Nat.reduceAdd, nb0, nb1, i10, i00, Bool.false_eq_true, not_true_eq_false, not_false_eq_true, reduceIte, h7, eq_true a0, w_X10_title_27]
      · unfold w_X12_title
        simp (disch := omega) only [↓mletE, ↓iletE, ↓jletE, ↓br_if, ↓br_ifn, ↓reduceIte, nl_lt, nl_gt, nl_le, nl_ge, nl_eq, nn_lt, nn_le, nn_eq, nl_add, nl_mul, nl_mulr, nn_add, nn_ix, nn_in, true_and, and_true, false_and, and_false, gI_if, gIj, gIr, gJ_if, gJi, gJr, gPr, gPi, gPj, hu_if, hv_if, Nat.reduceEqDiff, Nat.reduceLT, Nat.reduceLeDiff, eq_self, bIT, bIF, Nat.add_zero, Nat.add_assoc, Nat.reduceAdd, nb0, nb1, i10, i00, Bool.false_eq_true, not_true_eq_false, not_false_eq_true, reduceIte, h10, x3, ↓r_in, e, w_X12_title_48]
    obtain ⟨i, hi, rfl⟩ := nI_of a0
    by_cases hl : i < tt
    · have e : bI ((0 : Int64) ≤ (nI i).toInt64 ∧ (nI i).toInt64 ≤ (nI tt - 1).toInt64) = 1 := bI_t ((i_in0 hi (by omega)).mpr hl)
      obtain ⟨A, S, y1, y2, y3, y4, y5⟩ := x4 i hl
      have i3 : (i < 3) = True := eq_true (by omega)
      have it : (tt ≤ i) = False := eq_false (by omega)
      by_cases bm : b = -1
      · have e2 : bI ((-1 : Int64) ≤ b.toInt64 ∧ b.toInt64 ≤ (nI S - 1).toInt64) = 1 := bI_t (by rw [bm]; exact i_m1 (by omega))
        refine ask (C := fun Q => w_X10_title n (nI i) b σ Q) (M := fun σ1 Q => w_X12_title n (nI i) b σ1 Q noT) h (nI S) (fun Q => ?_) (fun Q => ?_)
        · unfold w_X10_title
          simp (disch := omega) only [↓mletE, ↓iletE, ↓jletE, ↓br_if, ↓br_ifn, ↓reduceIte, nl_lt, nl_gt, nl_le, nl_ge, nl_eq, nn_lt, nn_le, nn_eq, nl_add, nl_sub, nl_mul, nl_mulr, nn_add, nn_ix, nn_in, true_and, and_true, false_and, and_false, gI_if, gIj, gIr, gJ_if, gJi, gJr, gPr, gPi, gPj, hu_if, hv_if, Nat.reduceEqDiff, Nat.reduceLT, Nat.reduceLeDiff, eq_self, bIT, bIF, Nat.add_zero, Nat.add_assoc, Nat.reduceAdd, nb0, nb1, i10, i00, Bool.false_eq_true, not_true_eq_false, not_false_eq_true, reduceIte, h7, eq_false a0, x2, it, i3, y3, eq_true bm]
        · unfold w_X12_title
          simp (disch := omega) only [↓mletE, ↓iletE, ↓jletE, ↓br_if, ↓br_ifn, ↓reduceIte, nl_lt, nl_gt, nl_le, nl_ge, nl_eq, nn_lt, nn_le, nn_eq, nl_add, nl_mul, nl_mulr, nn_add, nn_ix, nn_in, true_and, and_true, false_and, and_false, gI_if, gIj, gIr, gJ_if, gJi, gJr, gPr, gPi, gPj, hu_if, hv_if, Nat.reduceEqDiff, Nat.reduceLT, Nat.reduceLeDiff, eq_self, bIT, bIF, Nat.add_zero, Nat.add_assoc, Nat.reduceAdd, nb0, nb1, i10, i00, Bool.false_eq_true, not_true_eq_false, not_false_eq_true, reduceIte, h10, x3, ↓r_in, e, y4, e2, show (0 ≤ b) = False from by rw [bm]; decide, w_X12_title_80]
      by_cases b0 : b < 0
      · have e2 : bI ((-1 : Int64) ≤ b.toInt64 ∧ b.toInt64 ≤ (nI S - 1).toInt64) = 0 := bI_f (fun z => i_negm b0 bm z.1)
        refine ask (C := fun Q => w_X10_title n (nI i) b σ Q) (M := fun σ1 Q => w_X12_title n (nI i) b σ1 Q noT) h (-1) (fun Q => ?_) (fun Q => ?_)
        · unfold w_X10_title
          simp (disch := omega) only [↓mletE, ↓iletE, ↓jletE, ↓br_if, ↓br_ifn, ↓reduceIte, nl_lt, nl_gt, nl_le, nl_ge, nl_eq, nn_lt, nn_le, nn_eq, nl_add, nl_sub, nl_mul, nl_mulr, nn_add, nn_ix, nn_in, true_and, and_true, false_and, and_false, gI_if, gIj, gIr, gJ_if, gJi, gJr, gPr, gPi, gPj, hu_if, hv_if, Nat.reduceEqDiff, Nat.reduceLT, Nat.reduceLeDiff, eq_self, bIT, bIF, Nat.add_zero, Nat.add_assoc, Nat.reduceAdd, nb0, nb1, i10, i00, Bool.false_eq_true, not_true_eq_false, not_false_eq_true, reduceIte, h7, eq_false a0, x2, it, i3, y3, eq_false bm, eq_true b0, w_X10_title_76, w_X10_title_77]
        · unfold w_X12_title
          simp (disch := omega) only [↓mletE, ↓iletE, ↓jletE, ↓br_if, ↓br_ifn, ↓reduceIte, nl_lt, nl_gt, nl_le, nl_ge, nl_eq, nn_lt, nn_le, nn_eq, nl_add, nl_mul, nl_mulr, nn_add, nn_ix, nn_in, true_and, and_true, false_and, and_false, gI_if, gIj, gIr, gJ_if, gJi, gJr, gPr, gPi, gPj, hu_if, hv_if, Nat.reduceEqDiff, Nat.reduceLT, Nat.reduceLeDiff, eq_self, bIT, bIF, Nat.add_zero, Nat.add_assoc, Nat.reduceAdd, nb0, nb1, i10, i00, Bool.false_eq_true, not_true_eq_false, not_false_eq_true, reduceIte, h10, x3, ↓r_in, e, y4, e2, w_X12_title_48]
      obtain ⟨j, hj, rfl⟩ := nI_of b0
      by_cases hk : j < S
      · have e2 : bI ((-1 : Int64) ≤ (nI j).toInt64 ∧ (nI j).toInt64 ≤ (nI S - 1).toInt64) = 1 := bI_t ((i_inm hj (by omega)).mpr hk)
        have Bt := fun Q => c_byteAt (n := n) (T := T) (sz := sz) (B := σ.2.2 1) (i := A + j) (u := σ) (Q := Q) z1 rfl z2 (fun i hi => ⟨(z3 i hi).1, (z3 i hi).2.2⟩) (by omega)
        refine ask (C := fun Q => w_X10_title n (nI i) (nI j) σ Q) (M := fun σ1 Q => w_X12_title n (nI i) (nI j) σ1 Q noT) h (nI (T (A + j))) (fun Q => ?_) (fun Q => ?_)
        · unfold w_X10_title
          simp (disch := omega) only [↓mletE, ↓iletE, ↓jletE, ↓br_if, ↓br_ifn, ↓reduceIte, nl_lt, nl_gt, nl_le, nl_ge, nl_eq, nn_lt, nn_le, nn_eq, nl_add, nl_sub, nl_mul, nl_mulr, nn_add, nn_ix, nn_in, true_and, and_true, false_and, and_false, gI_if, gIj, gIr, gJ_if, gJi, gJr, gPr, gPi, gPj, hu_if, hv_if, Nat.reduceEqDiff, Nat.reduceLT, Nat.reduceLeDiff, eq_self, bIT, bIF, Nat.add_zero, Nat.add_assoc, Nat.reduceAdd, nb0, nb1, i10, i00, Bool.false_eq_true, not_true_eq_false, not_false_eq_true, reduceIte, h7, eq_false a0, x2, it, i3, y3, eq_false bm, eq_false b0, show (S ≤ j) = False from eq_false (by omega), y1, Bt, w_X10_title_77]
        · unfold w_X12_title
          simp (disch := omega) only [↓mletE, ↓iletE, ↓jletE, ↓br_if, ↓br_ifn, ↓reduceIte, nl_lt, nl_gt, nl_le, nl_ge, nl_eq, nn_lt, nn_le, nn_eq, nl_add, nl_mul, nl_mulr, nn_add, nn_ix, nn_in, true_and, and_true, false_and, and_false, gI_if, gIj, gIr, gJ_if, gJi, gJr, gPr, gPi, gPj, hu_if, hv_if, Nat.reduceEqDiff, Nat.reduceLT, Nat.reduceLeDiff, eq_self, bIT, bIF, Nat.add_zero, Nat.add_assoc, Nat.reduceAdd, nb0, nb1, i10, i00, Bool.false_eq_true, not_true_eq_false, not_false_eq_true, reduceIte, h10, x3, ↓r_in, e, y4, e2, show (0 ≤ nI j) = True from eq_true (nI_pos' hj), y2, (z3 (A + j) (by omega)).2.1, sbv_and (z3 (A + j) (by omega)).2.2, w_X12_title_80]
      · have e2 : bI ((-1 : Int64) ≤ (nI j).toInt64 ∧ (nI j).toInt64 ≤ (nI S - 1).toInt64) = 0 := bI_f (fun z => hk ((i_inm hj (by omega)).mp z))
        refine ask (C := fun Q => w_X10_title n (nI i) (nI j) σ Q) (M := fun σ1 Q => w_X12_title n (nI i) (nI j) σ1 Q noT) h (-1) (fun Q => ?_) (fun Q => ?_)
        · unfold w_X10_title
          simp (disch := omega) only [↓mletE, ↓iletE, ↓jletE, ↓br_if, ↓br_ifn, ↓reduceIte, nl_lt, nl_gt, nl_le, nl_ge, nl_eq, nn_lt, nn_le, nn_eq, nl_add, nl_sub, nl_mul, nl_mulr, nn_add, nn_ix, nn_in, true_and, and_true, false_and, and_false, gI_if, gIj, gIr, gJ_if, gJi, gJr, gPr, gPi, gPj, hu_if, hv_if, Nat.reduceEqDiff, Nat.reduceLT, Nat.reduceLeDiff, eq_self, bIT, bIF, Nat.add_zero, Nat.add_assoc, Nat.reduceAdd, nb0, nb1, i10, i00, Bool.false_eq_true, not_true_eq_false, not_false_eq_true, reduceIte, h7, eq_false a0, x2, it, i3, y3, eq_false bm, eq_false b0, show (S ≤ j) = True from eq_true (by omega), w_X10_title_76, w_X10_title_77]
        · unfold w_X12_title
          simp (disch := omega) only [↓mletE, ↓iletE, ↓jletE, ↓br_if, ↓br_ifn, ↓reduceIte, nl_lt, nl_gt, nl_le, nl_ge, nl_eq, nn_lt, nn_le, nn_eq, nl_add, nl_mul, nl_mulr, nn_add, nn_ix, nn_in, true_and, and_true, false_and, and_false, gI_if, gIj, gIr, gJ_if, gJi, gJr, gPr, gPi, gPj, hu_if, hv_if, Nat.reduceEqDiff, Nat.reduceLT, Nat.reduceLeDiff, eq_self, bIT, bIF, Nat.add_zero, Nat.add_assoc, Nat.reduceAdd, nb0, nb1, i10, i00, Bool.false_eq_true, not_true_eq_false, not_false_eq_true, reduceIte, h10, x3, ↓r_in, e, y4, e2, w_X12_title_48]
    · have e : bI ((0 : Int64) ≤ (nI i).toInt64 ∧ (nI i).toInt64 ≤ (nI tt - 1).toInt64) = 0 := bI_f (fun z => hl ((i_in0 hi (by omega)).mp z))
      refine ask (C := fun Q => w_X10_title n (nI i) b σ Q) (M := fun σ1 Q => w_X12_title n (nI i) b σ1 Q noT) h (-1) (fun Q => ?_) (fun Q => ?_)
      · unfold w_X10_title
        simp (disch := omega) only [↓mletE, ↓iletE, ↓jletE, ↓br_if, ↓br_ifn, ↓reduceIte, nl_lt, nl_gt, nl_le, nl_ge, nl_eq, nn_lt, nn_le, nn_eq, nl_add, nl_sub, nl_mul, nl_mulr, nn_add, nn_ix, nn_in, true_and, and_true, false_and, and_false, gI_if, gIj, gIr, gJ_if, gJi, gJr, gPr, gPi, gPj, hu_if, hv_if, Nat.reduceEqDiff, Nat.reduceLT, Nat.reduceLeDiff, eq_self, bIT, bIF, Nat.add_zero, Nat.add_assoc, Nat.reduceAdd, nb0, nb1, i10, i00, Bool.false_eq_true, not_true_eq_false, not_false_eq_true, reduceIte, h7, eq_false a0, x2, show (tt ≤ i) = True from eq_true (by omega), w_X10_title_27]
      · unfold w_X12_title
        simp (disch := omega) only [↓mletE, ↓iletE, ↓jletE, ↓br_if, ↓br_ifn, ↓reduceIte, nl_lt, nl_gt, nl_le, nl_ge, nl_eq, nn_lt, nn_le, nn_eq, nl_add, nl_mul, nl_mulr, nn_add, nn_ix, nn_in, true_and, and_true, false_and, and_false, gI_if, gIj, gIr, gJ_if, gJi, gJr, gPr, gPi, gPj, hu_if, hv_if, Nat.reduceEqDiff, Nat.reduceLT, Nat.reduceLeDiff, eq_self, bIT, bIF, Nat.add_zero, Nat.add_assoc, Nat.reduceAdd, nb0, nb1, i10, i00, Bool.false_eq_true, not_true_eq_false, not_false_eq_true, reduceIte, h10, x3, ↓r_in, e, w_X12_title_48]
/-- the tape changes -/
theorem RRr.tape {t tn : Nat} {σ σ2 : Mm} (h : RRr t σ σ) (ht : tn ≤ 20 * (t + 1) ∧ tn ≤ 2400) (h1 : ∀ q, q ≠ 0 → q ≠ 2 → q ≠ 32 → q ≠ σ.2.2 0 → σ2.1 q = σ.1 q) (h0 : ∀ k, k ≠ 0 → k ≠ 4 → σ2.1 0 k = σ.1 0 k) (h32 : ∀ k, k ≠ 6 → σ2.1 32 k = σ.1 32 k) (e1 : σ2.1 32 6 = nI tn) (e2 : σ2.1 0 4 = nI tn) (hb : ∀ i, i < tn → σ2.1 (σ.2.2 0) i = σ2.1 2 i ∧ ∃ x : Nat, x < 256 ∧ σ2.1 2 i = sbv x) (h2 : σ2.2 = σ.2) : RRr (t + 1) σ2 σ2 := by
  obtain ⟨⟨a1, a2, a3, a4⟩, ⟨b1, b2⟩, -, d1, g1⟩ := h
  refine ⟨⟨by unfold jOk; rw [h2]; exact a1, by rw [h2]; exact a2, by rw [h2]; exact a3, by rw [h2]; exact a4⟩, ⟨by rw [h1 35 (by omega) (by omega) (by omega) (by omega), h0 2 (by omega) (by omega)]; exact b1, by rw [h0 2 (by omega) (by omega)]; exact b2⟩, ⟨tn, ht.1, ht.2, e1, e2, fun i hi => by rw [h2]; exact hb i hi⟩, by rw [h32 8 (by omega), h0 11 (by omega) (by omega)]; exact d1, ?_⟩
  rw [h32 7 (by omega), h0 10 (by omega) (by omega)]
  rcases g1 with h | ⟨k1, k2, k3⟩
  · exact Or.inl h
  · refine Or.inr ⟨k1, k2, k3.cg a1.2.2 (fun q x1 x2 x3 x4 => h1 q (by omega) (by omega) (by omega) (fun z => ?_)) (fun q _ => by rw [h2]) (by rw [h2]) (fun q x1 x2 => h1 q (by omega) (by omega) (by omega) (by omega)) (fun k x1 x2 => h0 k (by omega) (by omega)) (fun q _ => by rw [h2])⟩
    exact a4 (by rw [← z]; exact x4 (by omega))
theorem q_end {n t : Nat} {a : Int32} {σ : Mm} (h : RRr t σ σ) : w_X10_end n a σ (fun r1 σ1 => w_X12_end n a σ1 (fun r2 σ2 => r1 = r2 ∧ RRr (t + 1) σ2 σ2) noT) := by
  obtain ⟨tn, c1, c2, c3, c4, c5⟩ := h.2.2.1
  have e1 : ∀ x : Int32, bI ((0 : Int64) ≤ x.toInt64 ∧ x.toInt64 ≤ (20 : Int64)) = inM x 0 20 := fun x => rfl
  by_cases a0 : a < 0
  · have e : bI ((0 : Int64) ≤ a.toInt64 ∧ a.toInt64 ≤ (20 : Int64)) = 0 := bI_f (fun z => i_neg a0 z.1)
    refine ask (C := fun Q => w_X10_end n a σ Q) (M := fun σ1 Q => w_X12_end n a σ1 Q noT) h (-1) (fun Q => ?_) (fun Q => ?_)
    · unfold w_X10_end
      simp (disch := omega) only [↓mletE, ↓iletE, ↓jletE, ↓br_if, ↓br_ifn, ↓reduceIte, nl_lt, nl_gt, nl_le, nl_ge, nl_eq, nn_lt, nn_le, nn_eq, nl_add, nl_sub, nl_mul, nl_mulr, nn_add, nn_ix, nn_in, true_and, and_true, false_and, and_false, gI_if, gIj, gIr, gJ_if, gJi, gJr, gPr, gPi, gPj, hu_if, hv_if, Nat.reduceEqDiff, Nat.reduceLT, Nat.reduceLeDiff, eq_self, bIT, bIF, Nat.add_zero, Nat.add_assoc, Nat.reduceAdd, nb0, nb1, i10, i00, Bool.false_eq_true, not_true_eq_false, not_false_eq_true, reduceIte, eq_true a0, w_X10_end_19]
    · unfold w_X12_end
      simp (disch := omega) only [↓mletE, ↓iletE, ↓jletE, ↓br_if, ↓br_ifn, ↓reduceIte, nl_lt, nl_gt, nl_le, nl_ge, nl_eq, nn_lt, nn_le, nn_eq, nl_add, nl_sub, nl_mul, nl_mulr, nn_add, nn_ix, nn_in, true_and, and_true, false_and, and_false, gI_if, gIj, gIr, gJ_if, gJi, gJr, gPr, gPi, gPj, hu_if, hv_if, Nat.reduceEqDiff, Nat.reduceLT, Nat.reduceLeDiff, eq_self, bIT, bIF, Nat.add_zero, Nat.add_assoc, Nat.reduceAdd, nb0, nb1, i10, i00, Bool.false_eq_true, not_true_eq_false, not_false_eq_true, reduceIte, ↓r_in, e, w_X12_end_26]
  obtain ⟨j, hj, rfl⟩ := nI_of a0
  by_cases hl : j ≤ 20
  · by_cases ht : 20 ≤ tn
    · have k1 : (20 : Int32) - nI j = nI (20 - j) := pk_sub (a := 20) (b := j) hl
      have k2 : nI tn - nI (20 - j) = nI (tn + j - 20) := by rw [pk_sub (show 20 - j ≤ tn by omega), show tn - (20 - j) = tn + j - 20 from by omega]
      have k3 : nI (tn + j) - (20 : Int32) = nI (tn + j - 20) := pk_sub (a := tn + j) (b := 20) (by omega)
      have C : ∀ Q, w_X10_end n (nI j) σ Q = Q (nI (tn + j - 20)) (setI σ 32 6 (nI (tn + j - 20))) := fun Q => by
        unfold w_X10_end
        simp (disch := omega) only [↓mletE, ↓iletE, ↓jletE, ↓br_if, ↓br_ifn, ↓reduceIte, nl_lt, nl_gt, nl_le, nl_ge, nl_eq, nn_lt, nn_le, nn_eq, nl_add, nl_mul, nl_mulr, nn_add, nn_ix, nn_in, true_and, and_true, false_and, and_false, gI_if, gIj, gIr, gJ_if, gJi, gJr, gPr, gPi, gPj, hu_if, hv_if, Nat.reduceEqDiff, Nat.reduceLT, Nat.reduceLeDiff, eq_self, bIT, bIF, Nat.add_zero, Nat.add_assoc, Nat.reduceAdd, nb0, nb1, i10, i00, Bool.false_eq_true, not_true_eq_false, not_false_eq_true, reduceIte, eq_false a0, show (20 < j) = False from eq_false (by omega), c3, eq_true ht, k1, k2]
      have M : ∀ Q, w_X12_end n (nI j) (setI σ 32 6 (nI (tn + j - 20))) Q noT = Q (nI (tn + j - 20)) (setI (setI (setI σ 32 6 (nI (tn + j - 20))) 0 0 0) 0 4 (nI (tn + j - 20))) := fun Q => by
        unfold w_X12_end
        simp (disch := omega) only [↓mletE, ↓iletE, ↓jletE, ↓br_if, ↓br_ifn, ↓reduceIte, nl_lt, nl_gt, nl_le, nl_ge, nl_eq, nn_lt, nn_le, nn_eq, nl_add, nl_mul, nl_mulr, nn_add, nn_ix, nn_in, true_and, and_true, false_and, and_false, gI_if, gIj, gIr, gJ_if, gJi, gJr, gPr, gPi, gPj, hu_if, hv_if, Nat.reduceEqDiff, Nat.reduceLT, Nat.reduceLeDiff, eq_self, bIT, bIF, Nat.add_zero, Nat.add_assoc, Nat.reduceAdd, nb0, nb1, i10, i00, Bool.false_eq_true, not_true_eq_false, not_false_eq_true, reduceIte, ↓r_in, e1, inM_nI, show (0 ≤ j ∧ j ≤ 20) = True from eq_true (by omega), c4, eq_true ht, k3]
      rw [C, M]
      have hA := h.1
      exact ⟨rfl, h.tape (tn := tn + j - 20) (by omega) (fun q g1 g2 g3 g4 => by simp (disch := omega) only [gIs, gIn, gIj, gIr, gJs, gJn, gJi, gJr, gPr, gPi, gPj, hu_s, hu_n, hv_s, hv_n]) (fun k g1 g2 => by simp (disch := omega) only [gIs, gIn, gIj, gIr, gJs, gJn, gJi, gJr, gPr, gPi, gPj, hu_s, hu_n, hv_s, hv_n]) (fun k g1 => by simp (disch := omega) only [gIs, gIn, gIj, gIr, gJs, gJn, gJi, gJr, gPr, gPi, gPj, hu_s, hu_n, hv_s, hv_n]) (by simp (disch := omega) only [gIs, gIn, gIj, gIr, gJs, gJn, gJi, gJr, gPr, gPi, gPj, hu_s, hu_n, hv_s, hv_n]) (by simp (disch := omega) only [gIs, gIn, gIj, gIr, gJs, gJn, gJi, gJr, gPr, gPi, gPj, hu_s, hu_n, hv_s, hv_n]) (fun i hi => by simp (disch := omega) only [gIs, gIn, gIj, gIr, gJs, gJn, gJi, gJr, gPr, gPi, gPj, hu_s, hu_n, hv_s, hv_n]; exact c5 i (by omega)) rfl⟩
    · refine ask (C := fun Q => w_X10_end n (nI j) σ Q) (M := fun σ1 Q => w_X12_end n (nI j) σ1 Q noT) h (-1) (fun Q => ?_) (fun Q => ?_)
      · unfold w_X10_end
        simp (disch := omega) only [↓mletE, ↓iletE, ↓jletE, ↓br_if, ↓br_ifn, ↓reduceIte, nl_lt, nl_gt, nl_le, nl_ge, nl_eq, nn_lt, nn_le, nn_eq, nl_add, nl_sub, nl_mul, nl_mulr, nn_add, nn_ix, nn_in, true_and, and_true, false_and, and_false, gI_if, gIj, gIr, gJ_if, gJi, gJr, gPr, gPi, gPj, hu_if, hv_if, Nat.reduceEqDiff, Nat.reduceLT, Nat.reduceLeDiff, eq_self, bIT, bIF, Nat.add_zero, Nat.add_assoc, Nat.reduceAdd, nb0, nb1, i10, i00, Bool.false_eq_true, not_true_eq_false, not_false_eq_true, reduceIte, eq_false a0, show (20 < j) = False from eq_false (by omega), c3, eq_false ht, w_X10_end_19]
      · unfold w_X12_end
        simp (disch := omega) only [↓mletE, ↓iletE, ↓jletE, ↓br_if, ↓br_ifn, ↓reduceIte, nl_lt, nl_gt, nl_le, nl_ge, nl_eq, nn_lt, nn_le, nn_eq, nl_add, nl_sub, nl_mul, nl_mulr, nn_add, nn_ix, nn_in, true_and, and_true, false_and, and_false, gI_if, gIj, gIr, gJ_if, gJi, gJr, gPr, gPi, gPj, hu_if, hv_if, Nat.reduceEqDiff, Nat.reduceLT, Nat.reduceLeDiff, eq_self, bIT, bIF, Nat.add_zero, Nat.add_assoc, Nat.reduceAdd, nb0, nb1, i10, i00, Bool.false_eq_true, not_true_eq_false, not_false_eq_true, reduceIte, ↓r_in, e1, inM_nI, show (0 ≤ j ∧ j ≤ 20) = True from eq_true (by omega), c4, eq_false ht, w_X12_end_26]
  · refine ask (C := fun Q => w_X10_end n (nI j) σ Q) (M := fun σ1 Q => w_X12_end n (nI j) σ1 Q noT) h (-1) (fun Q => ?_) (fun Q => ?_)
    · unfold w_X10_end
      simp (disch := omega) only [↓mletE, ↓iletE, ↓jletE, ↓br_if, ↓br_ifn, ↓reduceIte, nl_lt, nl_gt, nl_le, nl_ge, nl_eq, nn_lt, nn_le, nn_eq, nl_add, nl_sub, nl_mul, nl_mulr, nn_add, nn_ix, nn_in, true_and, and_true, false_and, and_false, gI_if, gIj, gIr, gJ_if, gJi, gJr, gPr, gPi, gPj, hu_if, hv_if, Nat.reduceEqDiff, Nat.reduceLT, Nat.reduceLeDiff, eq_self, bIT, bIF, Nat.add_zero, Nat.add_assoc, Nat.reduceAdd, nb0, nb1, i10, i00, Bool.false_eq_true, not_true_eq_false, not_false_eq_true, reduceIte, eq_false a0, show (20 < j) = True from eq_true (by omega), w_X10_end_19]
    · unfold w_X12_end
      simp (disch := omega) only [↓mletE, ↓iletE, ↓jletE, ↓br_if, ↓br_ifn, ↓reduceIte, nl_lt, nl_gt, nl_le, nl_ge, nl_eq, nn_lt, nn_le, nn_eq, nl_add, nl_sub, nl_mul, nl_mulr, nn_add, nn_ix, nn_in, true_and, and_true, false_and, and_false, gI_if, gIj, gIr, gJ_if, gJi, gJr, gPr, gPi, gPj, hu_if, hv_if, Nat.reduceEqDiff, Nat.reduceLT, Nat.reduceLeDiff, eq_self, bIT, bIF, Nat.add_zero, Nat.add_assoc, Nat.reduceAdd, nb0, nb1, i10, i00, Bool.false_eq_true, not_true_eq_false, not_false_eq_true, reduceIte, ↓r_in, e1, inM_nI, show (0 ≤ j ∧ j ≤ 20) = False from eq_false (by omega), w_X12_end_26]
