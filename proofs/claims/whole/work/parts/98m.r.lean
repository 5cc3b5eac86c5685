/-! what begins at a place, in the reference; blanks on both sides -/
theorem c_bl {z : Mm × Mm} {n : Nat} {T : Nat → Nat} {B s p : Nat} {u v : Mm} {Q : Mm → Prop} (hn : 5000 ≤ n) (hx : tx z T s p B u v) : w_X5_skipBlanks n u Q = Q (setI u 33 2 (nI (blkP T s p))) := by
  obtain ⟨hKc, hKm, hTu, hTv, hB, hP1, h33_4, h33_2, h33_6, h0_9, h0_7, hps⟩ := hx
  have hss := hTu.1
  have hBn : ∀ q, q < 41 → (B = q) = False := fun q hq => eq_false (by omega)
  simp (disch := omega) only [↓mletE, ↓iletE, ↓jletE, ↓br_if, ↓br_ifn, ↓reduceIte, nl_lt, nl_gt, nl_le, nl_ge, nl_eq, nn_lt, nn_le, nn_eq, nl_add, nl_sub, nl_mul, nl_mulr, nn_add, nn_ix, nn_in, true_and, and_true, false_and, and_false, gI_if, gIj, gIr, gJ_if, gJi, gJr, gPr, gPi, gPj, hu_if, hv_if, Nat.reduceEqDiff, Nat.reduceLT, Nat.reduceLeDiff, eq_self, bIT, bIF, Nat.add_zero, Nat.add_assoc, Nat.reduceAdd, nb0, nb1, i10, i00, Bool.false_eq_true, not_true_eq_false, not_false_eq_true, reduceIte, ↓c_peek, ↓c_digit, ↓c_fail, cfl_0, ↓d_skip, ↓d_num0, ↓d_num1, ↓d_tw, gdC_t hTu, vblk_eq hTu, vval_eq hTu, vend_eq hTu, vok_eq hTu, vok1_eq hTu, vwm_eq hTu, pkC_eq hTu, dgI_eq, cb_lt, cb_gt, cb_le, cb_ge, cb_eq, cb_neg, ↓r_peek, ↓r_here, ↓r_is, okI_t, pkM_eq hTv, mb_eq, ↓r_isDigit, inM_mb, inM_nI, ↓r_isLetter, ↓r_isNoteLetter, orI_b, ↓d_bl, ↓d_no, ↓d_iw, gdM_t hTv, vblk_eq hTv, vval_eq hTv, vend_eq hTv, vok_eq hTv, vwm_eq hTv, ↓r_isPower, ipI_eq, ↓r_fail, ↓r_in, w_X12_must, w_X12_must_17, hBn, hP1, h33_4, h33_2, h33_6, h0_9, h0_7]
theorem r_bl {z : Mm × Mm} {n : Nat} {T : Nat → Nat} {B s p : Nat} {u v : Mm} {Q T' : Mm → Prop} (hn : 5000 ≤ n) (hx : tx z T s p B u v) : w_X12_blanks n v Q T' = Q (setI v 0 7 (nI (blkP T s p))) := by
  obtain ⟨hKc, hKm, hTu, hTv, hB, hP1, h33_4, h33_2, h33_6, h0_9, h0_7, hps⟩ := hx
  have hss := hTu.1
  have hBn : ∀ q, q < 41 → (B = q) = False := fun q hq => eq_false (by omega)
  simp (disch := omega) only [↓mletE, ↓iletE, ↓jletE, ↓br_if, ↓br_ifn, ↓reduceIte, nl_lt, nl_gt, nl_le, nl_ge, nl_eq, nn_lt, nn_le, nn_eq, nl_add, nl_sub, nl_mul, nl_mulr, nn_add, nn_ix, nn_in, true_and, and_true, false_and, and_false, gI_if, gIj, gIr, gJ_if, gJi, gJr, gPr, gPi, gPj, hu_if, hv_if, Nat.reduceEqDiff, Nat.reduceLT, Nat.reduceLeDiff, eq_self, bIT, bIF, Nat.add_zero, Nat.add_assoc, Nat.reduceAdd, nb0, nb1, i10, i00, Bool.false_eq_true, not_true_eq_false, not_false_eq_true, reduceIte, ↓c_peek, ↓c_digit, ↓c_fail, cfl_0, ↓d_skip, ↓d_num0, ↓d_num1, ↓d_tw, gdC_t hTu, vblk_eq hTu, vval_eq hTu, vend_eq hTu, vok_eq hTu, vok1_eq hTu, vwm_eq hTu, pkC_eq hTu, dgI_eq, cb_lt, cb_gt, cb_le, cb_ge, cb_eq, cb_neg, ↓r_peek, ↓r_here, ↓r_is, okI_t, pkM_eq hTv, mb_eq, ↓r_isDigit, inM_mb, inM_nI, ↓r_isLetter, ↓r_isNoteLetter, orI_b, ↓d_bl, ↓d_no, ↓d_iw, gdM_t hTv, vblk_eq hTv, vval_eq hTv, vend_eq hTv, vok_eq hTv, vwm_eq hTv, ↓r_isPower, ipI_eq, ↓r_fail, ↓r_in, w_X12_must, w_X12_must_17, hBn, hP1, h33_4, h33_2, h33_6, h0_9, h0_7]
abbrev isBr (a b : Nat) : Prop := a = 124 ∨ a = 58 ∨ (a = 91 ∧ (b = 124 ∨ (49 ≤ b ∧ b ≤ 52)))
abbrev isFl (a b d : Nat) : Prop := a = 91 ∧ (b = 86 ∨ b = 77 ∨ b = 76 ∨ b = 75) ∧ d = 58
abbrev isTm (a b d : Nat) : Prop := isNb a ∨ a = 122 ∨ a = 120 ∨ (a = 91 ∧ ¬ isBr a b ∧ ¬ isFl a b d)
theorem r_isBar {z : Mm × Mm} {n : Nat} {T : Nat → Nat} {B s p : Nat} {u v : Mm} {Q : Int32 → Mm → Prop} {T' : Mm → Prop} (hx : tx z T s p B u v) : w_X12_isBarHere n v Q T' = Q (bI (isBr (bv T s p) (bv T s (p + 1)))) v := by
  obtain ⟨hKc, hKm, hTu, hTv, hB, hP1, h33_4, h33_2, h33_6, h0_9, h0_7, hps⟩ := hx
  have hss := hTu.1
  have hBn : ∀ q, q < 41 → (B = q) = False := fun q hq => eq_false (by omega)
  have b0 := hTu.le p (by omega)
  have b1 := hTu.le (p + 1) (by omega)
  have P0 : ∀ (Q : Int32 → Mm → Prop) T', w_X12_peek n (v.1 0 7) v Q T' = Q (mb (bv T s p)) v := fun Q T' => by simp (disch := omega) only [↓mletE, ↓iletE, ↓jletE, ↓br_if, ↓br_ifn, ↓reduceIte, nl_lt, nl_gt, nl_le, nl_ge, nl_eq, nn_lt, nn_le, nn_eq, nl_add, nl_sub, nl_mul, nl_mulr, nn_add, nn_ix, nn_in, true_and, and_true, false_and, and_false, gI_if, gIj, gIr, gJ_if, gJi, gJr, gPr, gPi, gPj, hu_if, hv_if, Nat.reduceEqDiff, Nat.reduceLT, Nat.reduceLeDiff, eq_self, bIT, bIF, Nat.add_zero, Nat.add_assoc, Nat.reduceAdd, nb0, nb1, i10, i00, Bool.false_eq_true, not_true_eq_false, not_false_eq_true, reduceIte, ↓c_peek, ↓c_digit, ↓c_fail, cfl_0, ↓d_skip, ↓d_num0, ↓d_num1, ↓d_tw, gdC_t hTu, vblk_eq hTu, vval_eq hTu, vend_eq hTu, vok_eq hTu, vok1_eq hTu, vwm_eq hTu, pkC_eq hTu, dgI_eq, cb_lt, cb_gt, cb_le, cb_ge, cb_eq, cb_neg, ↓r_peek, ↓r_here, ↓r_is, okI_t, pkM_eq hTv, mb_eq, ↓r_isDigit, inM_mb, inM_nI, ↓r_isLetter, ↓r_isNoteLetter, orI_b, ↓d_bl, ↓d_no, ↓d_iw, gdM_t hTv, vblk_eq hTv, vval_eq hTv, vend_eq hTv, vok_eq hTv, vwm_eq hTv, ↓r_isPower, ipI_eq, ↓r_fail, ↓r_in, w_X12_must, w_X12_must_17, hBn, hP1, h33_4, h33_2, h33_6, h0_9, h0_7]
  have P1 : ∀ (Q : Int32 → Mm → Prop) T', w_X12_peek n (v.1 0 7 + 1) v Q T' = Q (mb (bv T s (p + 1))) v := fun Q T' => by simp (disch := omega) only [↓mletE, ↓iletE, ↓jletE, ↓br_if, ↓br_ifn, ↓reduceIte, nl_lt, nl_gt, nl_le, nl_ge, nl_eq, nn_lt, nn_le, nn_eq, nl_add, nl_sub, nl_mul, nl_mulr, nn_add, nn_ix, nn_in, true_and, and_true, false_and, and_false, gI_if, gIj, gIr, gJ_if, gJi, gJr, gPr, gPi, gPj, hu_if, hv_if, Nat.reduceEqDiff, Nat.reduceLT, Nat.reduceLeDiff, eq_self, bIT, bIF, Nat.add_zero, Nat.add_assoc, Nat.reduceAdd, nb0, nb1, i10, i00, Bool.false_eq_true, not_true_eq_false, not_false_eq_true, reduceIte, ↓c_peek, ↓c_digit, ↓c_fail, cfl_0, ↓d_skip, ↓d_num0, ↓d_num1, ↓d_tw, gdC_t hTu, vblk_eq hTu, vval_eq hTu, vend_eq hTu, vok_eq hTu, vok1_eq hTu, vwm_eq hTu, pkC_eq hTu, dgI_eq, cb_lt, cb_gt, cb_le, cb_ge, cb_eq, cb_neg, ↓r_peek, ↓r_here, ↓r_is, okI_t, pkM_eq hTv, mb_eq, ↓r_isDigit, inM_mb, inM_nI, ↓r_isLetter, ↓r_isNoteLetter, orI_b, ↓d_bl, ↓d_no, ↓d_iw, gdM_t hTv, vblk_eq hTv, vval_eq hTv, vend_eq hTv, vok_eq hTv, vwm_eq hTv, ↓r_isPower, ipI_eq, ↓r_fail, ↓r_in, w_X12_must, w_X12_must_17, hBn, hP1, h33_4, h33_2, h33_6, h0_9, h0_7]
  have e1 : ∀ x : Int32, bI ((49 : Int64) ≤ x.toInt64 ∧ x.toInt64 ≤ (52 : Int64)) = inM x 49 52 := fun x => rfl
  generalize bv T s p = a at *
  generalize bv T s (p + 1) = b at *
  unfold w_X12_isBarHere
  rw [P0, P1]
  by_cases a1 : a = 124
  · rw [bI_t (show isBr a b from Or.inl a1)]
    simp (disch := omega) only [↓mletE, ↓iletE, ↓jletE, ↓br_if, ↓br_ifn, ↓reduceIte, nl_lt, nl_gt, nl_le, nl_ge, nl_eq, nn_lt, nn_le, nn_eq, nl_add, nl_sub, nl_mul, nl_mulr, nn_add, nn_ix, nn_in, true_and, and_true, false_and, and_false, gI_if, gIj, gIr, gJ_if, gJi, gJr, gPr, gPi, gPj, hu_if, hv_if, Nat.reduceEqDiff, Nat.reduceLT, Nat.reduceLeDiff, eq_self, bIT, bIF, Nat.add_zero, Nat.add_assoc, Nat.reduceAdd, nb0, nb1, i10, i00, Bool.false_eq_true, not_true_eq_false, not_false_eq_true, reduceIte, mb_eq, eq_true a1, w_X12_isBarHere_58, w_X12_isBarHere_63, nar1]
  by_cases a2 : a = 58
  · rw [bI_t (show isBr a b from Or.inr (Or.inl a2))]
    simp (disch := omega) only [↓mletE, ↓iletE, ↓jletE, ↓br_if, ↓br_ifn, ↓reduceIte, nl_lt, nl_gt, nl_le, nl_ge, nl_eq, nn_lt, nn_le, nn_eq, nl_add, nl_sub, nl_mul, nl_mulr, nn_add, nn_ix, nn_in, true_and, and_true, false_and, and_false, gI_if, gIj, gIr, gJ_if, gJi, gJr, gPr, gPi, gPj, hu_if, hv_if, Nat.reduceEqDiff, Nat.reduceLT, Nat.reduceLeDiff, eq_self, bIT, bIF, Nat.add_zero, Nat.add_assoc, Nat.reduceAdd, nb0, nb1, i10, i00, Bool.false_eq_true, not_true_eq_false, not_false_eq_true, reduceIte, mb_eq, eq_false a1, eq_true a2, w_X12_isBarHere_58, w_X12_isBarHere_63, nar1]
  by_cases a3 : a = 91
  · by_cases b1' : b = 124
    · rw [bI_t (show isBr a b from Or.inr (Or.inr ⟨a3, Or.inl b1'⟩))]
      simp (disch := omega) only [↓mletE, ↓iletE, ↓jletE, ↓br_if, ↓br_ifn, ↓reduceIte, nl_lt, nl_gt, nl_le, nl_ge, nl_eq, nn_lt, nn_le, nn_eq, nl_add, nl_sub, nl_mul, nl_mulr, nn_add, nn_ix, nn_in, true_and, and_true, false_and, and_false, gI_if, gIj, gIr, gJ_if, gJi, gJr, gPr, gPi, gPj, hu_if, hv_if, Nat.reduceEqDiff, Nat.reduceLT, Nat.reduceLeDiff, eq_self, bIT, bIF, Nat.add_zero, Nat.add_assoc, Nat.reduceAdd, nb0, nb1, i10, i00, Bool.false_eq_true, not_true_eq_false, not_false_eq_true, reduceIte, mb_eq, eq_false a1, eq_false a2, eq_true a3, eq_true b1', w_X12_isBarHere_58, w_X12_isBarHere_63, nar1]
    by_cases b2 : 49 ≤ b ∧ b ≤ 52
    · rw [bI_t (show isBr a b from Or.inr (Or.inr ⟨a3, Or.inr b2⟩))]
      simp (disch := omega) only [↓mletE, ↓iletE, ↓jletE, ↓br_if, ↓br_ifn, ↓reduceIte, nl_lt, nl_gt, nl_le, nl_ge, nl_eq, nn_lt, nn_le, nn_eq, nl_add, nl_sub, nl_mul, nl_mulr, nn_add, nn_ix, nn_in, true_and, and_true, false_and, and_false, gI_if, gIj, gIr, gJ_if, gJi, gJr, gPr, gPi, gPj, hu_if, hv_if, Nat.reduceEqDiff, Nat.reduceLT, Nat.reduceLeDiff, eq_self, bIT, bIF, Nat.add_zero, Nat.add_assoc, Nat.reduceAdd, nb0, nb1, i10, i00, Bool.false_eq_true, not_true_eq_false, not_false_eq_true, reduceIte, mb_eq, eq_false a1, eq_false a2, eq_true a3, eq_false b1', ↓r_in, e1, inM_mb, eq_true b2, w_X12_isBarHere_58, w_X12_isBarHere_63, nar1]
    · rw [bI_f (show ¬ isBr a b from by unfold isBr; omega)]
      simp (disch := omega) only [↓mletE, ↓iletE, ↓jletE, ↓br_if, ↓br_ifn, ↓reduceIte, nl_lt, nl_gt, nl_le, nl_ge, nl_eq, nn_lt, nn_le, nn_eq, nl_add, nl_sub, nl_mul, nl_mulr, nn_add, nn_ix, nn_in, true_and, and_true, false_and, and_false, gI_if, gIj, gIr, gJ_if, gJi, gJr, gPr, gPi, gPj, hu_if, hv_if, Nat.reduceEqDiff, Nat.reduceLT, Nat.reduceLeDiff, eq_self, bIT, bIF, Nat.add_zero, Nat.add_assoc, Nat.reduceAdd, nb0, nb1, i10, i00, Bool.false_eq_true, not_true_eq_false, not_false_eq_true, reduceIte, mb_eq, eq_false a1, eq_false a2, eq_true a3, eq_false b1', ↓r_in, e1, inM_mb, eq_false b2, w_X12_isBarHere_62, w_X12_isBarHere_63, nar0]
  · rw [bI_f (show ¬ isBr a b from by unfold isBr; omega)]
    simp (disch := omega) only [↓mletE, ↓iletE, ↓jletE, ↓br_if, ↓br_ifn, ↓reduceIte, nl_lt, nl_gt, nl_le, nl_ge, nl_eq, nn_lt, nn_le, nn_eq, nl_add, nl_sub, nl_mul, nl_mulr, nn_add, nn_ix, nn_in, true_and, and_true, false_and, and_false, gI_if, gIj, gIr, gJ_if, gJi, gJr, gPr, gPi, gPj, hu_if, hv_if, Nat.reduceEqDiff, Nat.reduceLT, Nat.reduceLeDiff, eq_self, bIT, bIF, Nat.add_zero, Nat.add_assoc, Nat.reduceAdd, nb0, nb1, i10, i00, Bool.false_eq_true, not_true_eq_false, not_false_eq_true, reduceIte, mb_eq, eq_false a1, eq_false a2, eq_false a3, w_X12_isBarHere_62, w_X12_isBarHere_63, nar0]
theorem r_isFld {z : Mm × Mm} {n : Nat} {T : Nat → Nat} {B s p : Nat} {u v : Mm} {Q : Int32 → Mm → Prop} {T' : Mm → Prop} (hx : tx z T s p B u v) : w_X12_isFieldHere n v Q T' = Q (bI (isFl (bv T s p) (bv T s (p + 1)) (bv T s (p + 2)))) v := by
  obtain ⟨hKc, hKm, hTu, hTv, hB, hP1, h33_4, h33_2, h33_6, h0_9, h0_7, hps⟩ := hx
  have hss := hTu.1
  have hBn : ∀ q, q < 41 → (B = q) = False := fun q hq => eq_false (by omega)
  have b0 := hTu.le p (by omega)
  have b1 := hTu.le (p + 1) (by omega)
  have b2 := hTu.le (p + 2) (by omega)
  have P0 : ∀ (Q : Int32 → Mm → Prop) T', w_X12_peek n (v.1 0 7) v Q T' = Q (mb (bv T s p)) v := fun Q T' => by simp (disch := omega) only [↓mletE, ↓iletE, ↓jletE, ↓br_if, ↓br_ifn, ↓reduceIte, nl_lt, nl_gt, nl_le, nl_ge, nl_eq, nn_lt, nn_le, nn_eq, nl_add, nl_sub, nl_mul, nl_mulr, nn_add, nn_ix, nn_in, true_and, and_true, false_and, and_false, gI_if, gIj, gIr, gJ_if, gJi, gJr, gPr, gPi, gPj, hu_if, hv_if, Nat.reduceEqDiff, Nat.reduceLT, Nat.reduceLeDiff, eq_self, bIT, bIF, Nat.add_zero, Nat.add_assoc, Nat.reduceAdd, nb0, nb1, i10, i00, Bool.false_eq_true, not_true_eq_false, not_false_eq_true, reduceIte, ↓c_peek, ↓c_digit, ↓c_fail, cfl_0, ↓d_skip, ↓d_num0, ↓d_num1, ↓d_tw, gdC_t hTu, vblk_eq hTu, vval_eq hTu, vend_eq hTu, vok_eq hTu, vok1_eq hTu, vwm_eq hTu, pkC_eq hTu, dgI_eq, cb_lt, cb_gt, cb_le, cb_ge, cb_eq, cb_neg, ↓r_peek, ↓r_here, ↓r_is, okI_t, pkM_eq hTv, mb_eq, ↓r_isDigit, inM_mb, inM_nI, ↓r_isLetter, ↓r_isNoteLetter, orI_b, ↓d_bl, ↓d_no, ↓d_iw, gdM_t hTv, vblk_eq hTv, vval_eq hTv, vend_eq hTv, vok_eq hTv, vwm_eq hTv, ↓r_isPower, ipI_eq, ↓r_fail, ↓r_in, w_X12_must, w_X12_must_17, hBn, hP1, h33_4, h33_2, h33_6, h0_9, h0_7]
  have P1 : ∀ (Q : Int32 → Mm → Prop) T', w_X12_peek n (v.1 0 7 + 1) v Q T' = Q (mb (bv T s (p + 1))) v := fun Q T' => by simp (disch := omega) only [↓mletE, ↓iletE, ↓jletE, ↓br_if, ↓br_ifn, ↓reduceIte, nl_lt, nl_gt, nl_le, nl_ge, nl_eq, nn_lt, nn_le, nn_eq, nl_add, nl_sub, nl_mul, nl_mulr, nn_add, nn_ix, nn_in, true_and, and_true, false_and, and_false, gI_if, gIj, gIr, gJ_if, gJi, gJr, gPr, gPi, gPj, hu_if, hv_if, Nat.reduceEqDiff, Nat.reduceLT, Nat.reduceLeDiff, eq_self, bIT, bIF, Nat.add_zero, Nat.add_assoc, Nat.reduceAdd, nb0, nb1, i10, i00, Bool.false_eq_true, not_true_eq_false, not_false_eq_true, reduceIte, ↓c_peek, ↓c_digit, ↓c_fail, cfl_0, ↓d_skip, ↓d_num0, ↓d_num1, ↓d_tw, gdC_t hTu, vblk_eq hTu, vval_eq hTu, vend_eq hTu, vok_eq hTu, vok1_eq hTu, vwm_eq hTu, pkC_eq hTu, dgI_eq, cb_lt, cb_gt, cb_le, cb_ge, cb_eq, cb_neg, ↓r_peek, ↓r_here, ↓r_is, okI_t, pkM_eq hTv, mb_eq, ↓r_isDigit, inM_mb, inM_nI, ↓r_isLetter, ↓r_isNoteLetter, orI_b, ↓d_bl, ↓d_no, ↓d_iw, gdM_t hTv, vblk_eq hTv, vval_eq hTv, vend_eq hTv, vok_eq hTv, vwm_eq hTv, ↓r_isPower, ipI_eq, ↓r_fail, ↓r_in, w_X12_must, w_X12_must_17, hBn, hP1, h33_4, h33_2, h33_6, h0_9, h0_7]
  have P2 : ∀ (Q : Int32 → Mm → Prop) T', w_X12_peek n (v.1 0 7 + 2) v Q T' = Q (mb (bv T s (p + 2))) v := fun Q T' => by simp (disch := omega) only [↓mletE, ↓iletE, ↓jletE, ↓br_if, ↓br_ifn, ↓reduceIte, nl_lt, nl_gt, nl_le, nl_ge, nl_eq, nn_lt, nn_le, nn_eq, nl_add, nl_sub, nl_mul, nl_mulr, nn_add, nn_ix, nn_in, true_and, and_true, false_and, and_false, gI_if, gIj, gIr, gJ_if, gJi, gJr, gPr, gPi, gPj, hu_if, hv_if, Nat.reduceEqDiff, Nat.reduceLT, Nat.reduceLeDiff, eq_self, bIT, bIF, Nat.add_zero, Nat.add_assoc, Nat.reduceAdd, nb0, nb1, i10, i00, Bool.false_eq_true, not_true_eq_false, not_false_eq_true, reduceIte, ↓c_peek, ↓c_digit, ↓c_fail, cfl_0, ↓d_skip, ↓d_num0, ↓d_num1, ↓d_tw, gdC_t hTu, vblk_eq hTu, vval_eq hTu, vend_eq hTu, vok_eq hTu, vok1_eq hTu, vwm_eq hTu, pkC_eq hTu, dgI_eq, cb_lt, cb_gt, cb_le, cb_ge, cb_eq, cb_neg, ↓r_peek, ↓r_here, ↓r_is, okI_t, pkM_eq hTv, mb_eq, ↓r_isDigit, inM_mb, inM_nI, ↓r_isLetter, ↓r_isNoteLetter, orI_b, ↓d_bl, ↓d_no, ↓d_iw, gdM_t hTv, vblk_eq hTv, vval_eq hTv, vend_eq hTv, vok_eq hTv, vwm_eq hTv, ↓r_isPower, ipI_eq, ↓r_fail, ↓r_in, w_X12_must, w_X12_must_17, hBn, hP1, h33_4, h33_2, h33_6, h0_9, h0_7]
  generalize bv T s p = a at *
  generalize bv T s (p + 1) = b at *
  generalize bv T s (p + 2) = d at *
  have F : ∀ (Q : Int32 → Mm → Prop) T', (b = 86 ∨ b = 77 ∨ b = 76 ∨ b = 75) → a = 91 → w_X12_isFieldHere_48 n v Q T' = Q (bI (isFl a b d)) v := fun Q T' h1 h2 => by
    unfold w_X12_isFieldHere_48
    rw [P2]
    by_cases hd : d = 58
    · rw [bI_t (show isFl a b d from ⟨h2, h1, hd⟩)]
      simp (disch := omega) only [↓mletE, ↓iletE, ↓jletE, ↓br_if, ↓br_ifn, ↓reduceIte, nl_lt, nl_gt, nl_le, nl_ge, nl_eq, nn_lt, nn_le, nn_eq, nl_add, nl_sub, nl_mul, nl_mulr, nn_add, nn_ix, nn_in, true_and, and_true, false_and, and_false, gI_if, gIj, gIr, gJ_if, gJi, gJr, gPr, gPi, gPj, hu_if, hv_if, Nat.reduceEqDiff, Nat.reduceLT, Nat.reduceLeDiff, eq_self, bIT, bIF, Nat.add_zero, Nat.add_assoc, Nat.reduceAdd, nb0, nb1, i10, i00, Bool.false_eq_true, not_true_eq_false, not_false_eq_true, reduceIte, mb_eq, eq_true hd, w_X12_isFieldHere_68, nar1]
    · rw [bI_f (show ¬ isFl a b d from fun h => hd h.2.2)]
      simp (disch := omega) only [↓mletE, ↓iletE, ↓jletE, ↓br_if, ↓br_ifn, ↓reduceIte, nl_lt, nl_gt, nl_le, nl_ge, nl_eq, nn_lt, nn_le, nn_eq, nl_add, nl_sub, nl_mul, nl_mulr, nn_add, nn_ix, nn_in, true_and, and_true, false_and, and_false, gI_if, gIj, gIr, gJ_if, gJi, gJr, gPr, gPi, gPj, hu_if, hv_if, Nat.reduceEqDiff, Nat.reduceLT, Nat.reduceLeDiff, eq_self, bIT, bIF, Nat.add_zero, Nat.add_assoc, Nat.reduceAdd, nb0, nb1, i10, i00, Bool.false_eq_true, not_true_eq_false, not_false_eq_true, reduceIte, mb_eq, eq_false hd, w_X12_isFieldHere_67, w_X12_isFieldHere_68, nar0]
  unfold w_X12_isFieldHere
  rw [P1, P0]
  by_cases a3 : a = 91
  · by_cases k1 : b = 86
    · simp (disch := omega) only [↓mletE, ↓iletE, ↓jletE, ↓br_if, ↓br_ifn, ↓reduceIte, nl_lt, nl_gt, nl_le, nl_ge, nl_eq, nn_lt, nn_le, nn_eq, nl_add, nl_sub, nl_mul, nl_mulr, nn_add, nn_ix, nn_in, true_and, and_true, false_and, and_false, gI_if, gIj, gIr, gJ_if, gJi, gJr, gPr, gPi, gPj, hu_if, hv_if, Nat.reduceEqDiff, Nat.reduceLT, Nat.reduceLeDiff, eq_self, bIT, bIF, Nat.add_zero, Nat.add_assoc, Nat.reduceAdd, nb0, nb1, i10, i00, Bool.false_eq_true, not_true_eq_false, not_false_eq_true, reduceIte, mb_eq, eq_true a3, eq_true k1]
      exact F _ _ (by omega) a3
    by_cases k2 : b = 77
    · simp (disch := omega) only [↓mletE, ↓iletE, ↓jletE, ↓br_if, ↓br_ifn, ↓reduceIte, nl_lt, nl_gt, nl_le, nl_ge, nl_eq, nn_lt, nn_le, nn_eq, nl_add, nl_sub, nl_mul, nl_mulr, nn_add, nn_ix, nn_in, true_and, and_true, false_and, and_false, gI_if, gIj, gIr, gJ_if, gJi, gJr, gPr, gPi, gPj, hu_if, hv_if, Nat.reduceEqDiff, Nat.reduceLT, Nat.reduceLeDiff, eq_self, bIT, bIF, Nat.add_zero, Nat.add_assoc, Nat.reduceAdd, nb0, nb1, i10, i00, Bool.false_eq_true, not_true_eq_false, not_false_eq_true, reduceIte, mb_eq, eq_true a3, eq_false k1, eq_true k2]
      exact F _ _ (by omega) a3
    by_cases k3 : b = 76
    · simp (disch := omega) only [↓mletE, ↓iletE, ↓jletE, ↓br_if, ↓br_ifn, ↓reduceIte, nl_lt, nl_gt, nl_le, nl_ge, nl_eq, nn_lt, nn_le, nn_eq, nl_add, nl_sub, nl_mul, nl_mulr, nn_add, nn_ix, nn_in, true_and, and_true, false_and, and_false, gI_if, gIj, gIr, gJ_if, gJi, gJr, gPr, gPi, gPj, hu_if, hv_if, Nat.reduceEqDiff, Nat.reduceLT, Nat.reduceLeDiff, eq_self, bIT, bIF, Nat.add_zero, Nat.add_assoc, Nat.reduceAdd, nb0, nb1, i10, i00, Bool.false_eq_true, not_true_eq_false, not_false_eq_true, reduceIte, mb_eq, eq_true a3, eq_false k1, eq_false k2, eq_true k3]
      exact F _ _ (by omega) a3
    by_cases k4 : b = 75
    · simp (disch := omega) only [↓mletE, ↓iletE, ↓jletE, ↓br_if, ↓br_ifn, ↓reduceIte, nl_lt, nl_gt, nl_le, nl_ge, nl_eq, nn_lt, nn_le, nn_eq, nl_add, nl_sub, nl_mul, nl_mulr, nn_add, nn_ix, nn_in, true_and, and_true, false_and, and_false, gI_if, gIj, gIr, gJ_if, gJi, gJr, gPr, gPi, gPj, hu_if, hv_if, Nat.reduceEqDiff, Nat.reduceLT, Nat.reduceLeDiff, eq_self, bIT, bIF, Nat.add_zero, Nat.add_assoc, Nat.reduceAdd, nb0, nb1, i10, i00, Bool.false_eq_true, not_true_eq_false, not_false_eq_true, reduceIte, mb_eq, eq_true a3, eq_false k1, eq_false k2, eq_false k3, eq_true k4]
      exact F _ _ (by omega) a3
    rw [bI_f (show ¬ isFl a b d from by unfold isFl; omega)]
    simp (disch := omega) only [↓mletE, ↓iletE, ↓jletE, ↓br_if, ↓br_ifn, ↓reduceIte, nl_lt, nl_gt, nl_le, nl_ge, nl_eq, nn_lt, nn_le, nn_eq, nl_add, nl_sub, nl_mul, nl_mulr, nn_add, nn_ix, nn_in, true_and, and_true, false_and, and_false, gI_if, gIj, gIr, gJ_if, gJi, gJr, gPr, gPi, gPj, hu_if, hv_if, Nat.reduceEqDiff, Nat.reduceLT, Nat.reduceLeDiff, eq_self, bIT, bIF, Nat.add_zero, Nat.add_assoc, Nat.reduceAdd, nb0, nb1, i10, i00, Bool.false_eq_true, not_true_eq_false, not_false_eq_true, reduceIte, mb_eq, eq_true a3, eq_false k1, eq_false k2, eq_false k3, eq_false k4, w_X12_isFieldHere_67, w_X12_isFieldHere_68, nar0]
  · rw [bI_f (show ¬ isFl a b d from by unfold isFl; omega)]
    simp (disch := omega) only [↓mletE, ↓iletE, ↓jletE, ↓br_if, ↓br_ifn, ↓reduceIte, nl_lt, nl_gt, nl_le, nl_ge, nl_eq, nn_lt, nn_le, nn_eq, nl_add, nl_sub, nl_mul, nl_mulr, nn_add, nn_ix, nn_in, true_and, and_true, false_and, and_false, gI_if, gIj, gIr, gJ_if, gJi, gJr, gPr, gPi, gPj, hu_if, hv_if, Nat.reduceEqDiff, Nat.reduceLT, Nat.reduceLeDiff, eq_self, bIT, bIF, Nat.add_zero, Nat.add_assoc, Nat.reduceAdd, nb0, nb1, i10, i00, Bool.false_eq_true, not_true_eq_false, not_false_eq_true, reduceIte, mb_eq, eq_false a3, w_X12_isFieldHere_67, w_X12_isFieldHere_68, nar0]
theorem r_isTm {z : Mm × Mm} {n : Nat} {T : Nat → Nat} {B s p : Nat} {u v : Mm} {Q : Int32 → Mm → Prop} {T' : Mm → Prop} (hx : tx z T s p B u v) : w_X12_beginsTimed n v Q T' = Q (bI (isTm (bv T s p) (bv T s (p + 1)) (bv T s (p + 2)))) v := by
  have I1 := fun Q T' => r_isBar (n := n) (Q := Q) (T' := T') hx
  have I2 := fun Q T' => r_isFld (n := n) (Q := Q) (T' := T') hx
  have I3 := fun Q T' => r_beginsNote (n := n) (Q := Q) (T' := T') hx
  obtain ⟨hKc, hKm, hTu, hTv, hB, hP1, h33_4, h33_2, h33_6, h0_9, h0_7, hps⟩ := hx
  have hss := hTu.1
  have hBn : ∀ q, q < 41 → (B = q) = False := fun q hq => eq_false (by omega)
  have b0 := hTu.le p (by omega)
  have H : ∀ (Q : Int32 → Mm → Prop) T', w_X12_here n v Q T' = Q (mb (bv T s p)) v := fun Q T' => by simp (disch := omega) only [↓mletE, ↓iletE, ↓jletE, ↓br_if, ↓br_ifn, ↓reduceIte, nl_lt, nl_gt, nl_le, nl_ge, nl_eq, nn_lt, nn_le, nn_eq, nl_add, nl_sub, nl_mul, nl_mulr, nn_add, nn_ix, nn_in, true_and, and_true, false_and, and_false, gI_if, gIj, gIr, gJ_if, gJi, gJr, gPr, gPi, gPj, hu_if, hv_if, Nat.reduceEqDiff, Nat.reduceLT, Nat.reduceLeDiff, eq_self, bIT, bIF, Nat.add_zero, Nat.add_assoc, Nat.reduceAdd, nb0, nb1, i10, i00, Bool.false_eq_true, not_true_eq_false, not_false_eq_true, reduceIte, ↓c_peek, ↓c_digit, ↓c_fail, cfl_0, ↓d_skip, ↓d_num0, ↓d_num1, ↓d_tw, gdC_t hTu, vblk_eq hTu, vval_eq hTu, vend_eq hTu, vok_eq hTu, vok1_eq hTu, vwm_eq hTu, pkC_eq hTu, dgI_eq, cb_lt, cb_gt, cb_le, cb_ge, cb_eq, cb_neg, ↓r_peek, ↓r_here, ↓r_is, okI_t, pkM_eq hTv, mb_eq, ↓r_isDigit, inM_mb, inM_nI, ↓r_isLetter, ↓r_isNoteLetter, orI_b, ↓d_bl, ↓d_no, ↓d_iw, gdM_t hTv, vblk_eq hTv, vval_eq hTv, vend_eq hTv, vok_eq hTv, vwm_eq hTv, ↓r_isPower, ipI_eq, ↓r_fail, ↓r_in, w_X12_must, w_X12_must_17, hBn, hP1, h33_4, h33_2, h33_6, h0_9, h0_7]
  generalize bv T s p = a at *
  generalize bv T s (p + 1) = b at *
  generalize bv T s (p + 2) = d at *
  have F : ∀ (Q : Int32 → Mm → Prop) T' (t : Nat), t ≤ 1 → w_X12_beginsTimed_30 n (mb a) (nI t) v Q T' = Q (bI (isNb a ∨ a = 122 ∨ a = 120 ∨ t = 1)) v := fun Q T' t ht => by
    unfold w_X12_beginsTimed_30
    rw [I3]
    by_cases h1 : isNb a
    · rw [bI_t h1, bI_t (Or.inl h1)]
      simp (disch := omega) only [↓mletE, ↓iletE, ↓jletE, ↓br_if, ↓br_ifn, ↓reduceIte, nl_lt, nl_gt, nl_le, nl_ge, nl_eq, nn_lt, nn_le, nn_eq, nl_add, nl_sub, nl_mul, nl_mulr, nn_add, nn_ix, nn_in, true_and, and_true, false_and, and_false, gI_if, gIj, gIr, gJ_if, gJi, gJr, gPr, gPi, gPj, hu_if, hv_if, Nat.reduceEqDiff, Nat.reduceLT, Nat.reduceLeDiff, eq_self, bIT, bIF, Nat.add_zero, Nat.add_assoc, Nat.reduceAdd, nb0, nb1, i10, i00, Bool.false_eq_true, not_true_eq_false, not_false_eq_true, reduceIte, w_X12_beginsTimed_54, w_X12_beginsTimed_59, nar1]
    rw [bI_f h1]
    by_cases h2 : a = 122
    · rw [bI_t (Or.inr (Or.inl h2))]
      simp (disch := omega) only [↓mletE, ↓iletE, ↓jletE, ↓br_if, ↓br_ifn, ↓reduceIte, nl_lt, nl_gt, nl_le, nl_ge, nl_eq, nn_lt, nn_le, nn_eq, nl_add, nl_sub, nl_mul, nl_mulr, nn_add, nn_ix, nn_in, true_and, and_true, false_and, and_false, gI_if, gIj, gIr, gJ_if, gJi, gJr, gPr, gPi, gPj, hu_if, hv_if, Nat.reduceEqDiff, Nat.reduceLT, Nat.reduceLeDiff, eq_self, bIT, bIF, Nat.add_zero, Nat.add_assoc, Nat.reduceAdd, nb0, nb1, i10, i00, Bool.false_eq_true, not_true_eq_false, not_false_eq_true, reduceIte, mb_eq, eq_true h2, w_X12_beginsTimed_54, w_X12_beginsTimed_59, nar1]
    by_cases h3 : a = 120
    · rw [bI_t (Or.inr (Or.inr (Or.inl h3)))]
      simp (disch := omega) only [↓mletE, ↓iletE, ↓jletE, ↓br_if, ↓br_ifn, ↓reduceIte, nl_lt, nl_gt, nl_le, nl_ge, nl_eq, nn_lt, nn_le, nn_eq, nl_add, nl_sub, nl_mul, nl_mulr, nn_add, nn_ix, nn_in, true_and, and_true, false_and, and_false, gI_if, gIj, gIr, gJ_if, gJi, gJr, gPr, gPi, gPj, hu_if, hv_if, Nat.reduceEqDiff, Nat.reduceLT, Nat.reduceLeDiff, eq_self, bIT, bIF, Nat.add_zero, Nat.add_assoc, Nat.reduceAdd, nb0, nb1, i10, i00, Bool.false_eq_true, not_true_eq_false, not_false_eq_true, reduceIte, mb_eq, eq_false h2, eq_true h3, w_X12_beginsTimed_54, w_X12_beginsTimed_59, nar1]
    by_cases h4 : t = 1
    · rw [bI_t (Or.inr (Or.inr (Or.inr h4)))]
      simp (disch := omega) only [↓mletE, ↓iletE, ↓jletE, ↓br_if, ↓br_ifn, ↓reduceIte, nl_lt, nl_gt, nl_le, nl_ge, nl_eq, nn_lt, nn_le, nn_eq, nl_add, nl_sub, nl_mul, nl_mulr, nn_add, nn_ix, nn_in, true_and, and_true, false_and, and_false, gI_if, gIj, gIr, gJ_if, gJi, gJr, gPr, gPi, gPj, hu_if, hv_if, Nat.reduceEqDiff, Nat.reduceLT, Nat.reduceLeDiff, eq_self, bIT, bIF, Nat.add_zero, Nat.add_assoc, Nat.reduceAdd, nb0, nb1, i10, i00, Bool.false_eq_true, not_true_eq_false, not_false_eq_true, reduceIte, mb_eq, eq_false h2, eq_false h3, show (t = 0) = False from eq_false (by omega), w_X12_beginsTimed_54, w_X12_beginsTimed_59, nar1]
    · rw [bI_f (fun h => by rcases h with h | h | h | h <;> contradiction)]
      simp (disch := omega) only [↓mletE, ↓iletE, ↓jletE, ↓br_if, ↓br_ifn, ↓reduceIte, nl_lt, nl_gt, nl_le, nl_ge, nl_eq, nn_lt, nn_le, nn_eq, nl_add, nl_sub, nl_mul, nl_mulr, nn_add, nn_ix, nn_in, true_and, and_true, false_and, and_false, gI_if, gIj, gIr, gJ_if, gJi, gJr, gPr, gPi, gPj, hu_if, hv_if, Nat.reduceEqDiff, Nat.reduceLT, Nat.reduceLeDiff, eq_self, bIT, bIF, Nat.add_zero, Nat.add_assoc, Nat.reduceAdd, nb0, nb1, i10, i00, Bool.false_eq_true, not_true_eq_false, not_false_eq_true, reduceIte, mb_eq, eq_false h2, eq_false h3, show (t = 0) = True from eq_true (by omega), w_X12_beginsTimed_59, nar0]
  have F1 := fun Q T' => F Q T' 1 (by omega)
  have F0 := fun Q T' => F Q T' 0 (by omega)
  rw [nI1] at F1
  rw [nI0] at F0
  unfold w_X12_beginsTimed
  rw [H]
  by_cases h91 : a = 91
  · have nb : ¬ isNb a := by unfold isNb; omega
    by_cases i1 : isBr a b
    · simp (disch := omega) only [↓mletE, ↓iletE, ↓jletE, ↓br_if, ↓br_ifn, ↓reduceIte, nl_lt, nl_gt, nl_le, nl_ge, nl_eq, nn_lt, nn_le, nn_eq, nl_add, nl_sub, nl_mul, nl_mulr, nn_add, nn_ix, nn_in, true_and, and_true, false_and, and_false, gI_if, gIj, gIr, gJ_if, gJi, gJr, gPr, gPi, gPj, hu_if, hv_if, Nat.reduceEqDiff, Nat.reduceLT, Nat.reduceLeDiff, eq_self, bIT, bIF, Nat.add_zero, Nat.add_assoc, Nat.reduceAdd, nb0, nb1, i10, i00, Bool.false_eq_true, not_true_eq_false, not_false_eq_true, reduceIte, mb_eq, eq_true h91, ↓I1, bI_t i1, w_X12_beginsTimed_29, ↓F0]
      rw [bI_f (show ¬ isTm a b d from by rintro (h | h | h | h); exact nb h; omega; omega; exact h.2.1 i1), bI_f (by rintro (h | h | h | h); exact nb h; omega; omega; omega)]
    by_cases i2 : isFl a b d
    · simp (disch := omega) only [↓mletE, ↓iletE, ↓jletE, ↓br_if, ↓br_ifn, ↓reduceIte, nl_lt, nl_gt, nl_le, nl_ge, nl_eq, nn_lt, nn_le, nn_eq, nl_add, nl_sub, nl_mul, nl_mulr, nn_add, nn_ix, nn_in, true_and, and_true, false_and, and_false, gI_if, gIj, gIr, gJ_if, gJi, gJr, gPr, gPi, gPj, hu_if, hv_if, Nat.reduceEqDiff, Nat.reduceLT, Nat.reduceLeDiff, eq_self, bIT, bIF, Nat.add_zero, Nat.add_assoc, Nat.reduceAdd, nb0, nb1, i10, i00, Bool.false_eq_true, not_true_eq_false, not_false_eq_true, reduceIte, mb_eq, eq_true h91, ↓I1, bI_f i1, ↓I2, bI_t i2, w_X12_beginsTimed_29, ↓F0]
      rw [bI_f (show ¬ isTm a b d from by rintro (h | h | h | h); exact nb h; omega; omega; exact h.2.2 i2), bI_f (by rintro (h | h | h | h); exact nb h; omega; omega; omega)]
    · simp (disch := omega) only [↓mletE, ↓iletE, ↓jletE, ↓br_if, ↓br_ifn, ↓reduceIte, nl_lt, nl_gt, nl_le, nl_ge, nl_eq, nn_lt, nn_le, nn_eq, nl_add, nl_sub, nl_mul, nl_mulr, nn_add, nn_ix, nn_in, true_and, and_true, false_and, and_false, gI_if, gIj, gIr, gJ_if, gJi, gJr, gPr, gPi, gPj, hu_if, hv_if, Nat.reduceEqDiff, Nat.reduceLT, Nat.reduceLeDiff, eq_self, bIT, bIF, Nat.add_zero, Nat.add_assoc, Nat.reduceAdd, nb0, nb1, i10, i00, Bool.false_eq_true, not_true_eq_false, not_false_eq_true, reduceIte, mb_eq, eq_true h91, ↓I1, bI_f i1, ↓I2, bI_f i2, ↓F1]
      rw [bI_t (show isTm a b d from Or.inr (Or.inr (Or.inr ⟨h91, i1, i2⟩))), bI_t (Or.inr (Or.inr (Or.inr trivial)))]
  · simp (disch := omega) only [↓mletE, ↓iletE, ↓jletE, ↓br_if, ↓br_ifn, ↓reduceIte, nl_lt, nl_gt, nl_le, nl_ge, nl_eq, nn_lt, nn_le, nn_eq, nl_add, nl_sub, nl_mul, nl_mulr, nn_add, nn_ix, nn_in, true_and, and_true, false_and, and_false, gI_if, gIj, gIr, gJ_if, gJi, gJr, gPr, gPi, gPj, hu_if, hv_if, Nat.reduceEqDiff, Nat.reduceLT, Nat.reduceLeDiff, eq_self, bIT, bIF, Nat.add_zero, Nat.add_assoc, Nat.reduceAdd, nb0, nb1, i10, i00, Bool.false_eq_true, not_true_eq_false, not_false_eq_true, reduceIte, mb_eq, eq_false h91, w_X12_beginsTimed_29, ↓F0]
    by_cases h1 : isNb a ∨ a = 122 ∨ a = 120
    · rw [bI_t (show isTm a b d from by rcases h1 with h | h | h; exact Or.inl h; exact Or.inr (Or.inl h); exact Or.inr (Or.inr (Or.inl h))), bI_t (by rcases h1 with h | h | h; exact Or.inl h; exact Or.inr (Or.inl h); exact Or.inr (Or.inr (Or.inl h)))]
    · rw [bI_f (show ¬ isTm a b d from by rintro (h | h | h | h); exact h1 (Or.inl h); exact h1 (Or.inr (Or.inl h)); exact h1 (Or.inr (Or.inr h)); exact h91 h.1), bI_f (by rintro (h | h | h | h); exact h1 (Or.inl h); exact h1 (Or.inr (Or.inl h)); exact h1 (Or.inr (Or.inr h)); omega)]
/-- the forms of timeds -/
theorem frm_tm {a b d : Nat} (h : isTm a b d) : (frm a b d = 1 ∧ isNb a ∧ a ≠ 91 ∧ a ≠ 122 ∧ a ≠ 120) ∨ (frm a b d = 2 ∧ a = 91) ∨ (frm a b d = 3 ∧ (a = 122 ∨ a = 120)) := by
  rcases h with h | h | h | ⟨h1, h2, h3⟩
  · refine Or.inl ⟨?_, h, ?_, ?_, ?_⟩
    · unfold frm; rw [if_neg (by unfold isNb at h; omega), if_pos h]
    all_goals unfold isNb at h; omega
  · refine Or.inr (Or.inr ⟨?_, Or.inl h⟩)
    subst h; unfold frm; simp; decide
  · refine Or.inr (Or.inr ⟨?_, Or.inr h⟩)
    subst h; unfold frm; simp; decide
  · refine Or.inr (Or.inl ⟨?_, h1⟩)
    subst h1
    unfold isBr at h2
    unfold isFl at h3
    have e1 : ¬ (b = 124 ∨ (49 ≤ b ∧ b ≤ 52)) := by omega
    have e2 : ¬ ((b = 86 ∨ b = 77 ∨ b = 76 ∨ b = 75) ∧ d = 58) := by omega
    unfold frm
    rw [if_neg e1, if_neg e2]
    simp
    decide
theorem frm_ntm {a b d : Nat} (h : ¬ isTm a b d) : frm a b d ≠ 1 ∧ frm a b d ≠ 2 ∧ frm a b d ≠ 3 := by
  have n1 : ¬ isNb a := fun k => h (Or.inl k)
  have n2 : a ≠ 122 := fun k => h (Or.inr (Or.inl k))
  have n3 : a ≠ 120 := fun k => h (Or.inr (Or.inr (Or.inl k)))
  have n4 : a = 91 → (b = 124 ∨ (49 ≤ b ∧ b ≤ 52)) ∨ ((b = 86 ∨ b = 77 ∨ b = 76 ∨ b = 75) ∧ d = 58) := fun k => by
    have : ¬ (¬ isBr a b ∧ ¬ isFl a b d) := fun x => h (Or.inr (Or.inr (Or.inr ⟨k, x.1, x.2⟩)))
    unfold isBr isFl at this
    omega
  have key : frm a b d = 0 ∨ frm a b d = 11 ∨ frm a b d = 12 ∨ frm a b d = 8 ∨ frm a b d = 9 ∨ frm a b d = 5 ∨ frm a b d = 10 ∨ frm a b d = 4 ∨ frm a b d = 6 ∨ frm a b d = 7 := by
    unfold frm
    rw [if_neg n1, if_neg n2, if_neg n3]
    by_cases h91 : a = 91
    · have e := n4 h91
      subst h91
      by_cases e1 : b = 124 ∨ (49 ≤ b ∧ b ≤ 52)
      · rw [if_pos e1]; simp
      · rw [if_neg e1, if_pos (show (b = 86 ∨ b = 77 ∨ b = 76 ∨ b = 75) ∧ d = 58 from by omega)]; simp
    · rw [if_neg h91]
      repeat' split
      all_goals simp
  rcases key with k | k | k | k | k | k | k | k | k | k <;> rw [k] <;> decide
