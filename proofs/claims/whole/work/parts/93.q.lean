/-! what begins at a place -/
abbrev isNb (a : Nat) : Prop := (65 ≤ a ∧ a ≤ 71) ∨ (97 ≤ a ∧ a ≤ 103) ∨ a = 94 ∨ a = 95 ∨ a = 61
abbrev isOb (a : Nat) : Prop := a = 46 ∨ a = 126 ∨ a = 72 ∨ a = 84 ∨ a = 77 ∨ a = 80 ∨ a = 117 ∨ a = 118
theorem fio16 : ∀ c, c < 128 → (fio 16 c < 0) = ¬ isNb c := fun c hc => propext ((show ∀ c, c < 128 → (fio 16 c < 0 ↔ ¬ isNb c) from by decide +kernel) c hc)
theorem fio17 : ∀ c, c < 128 → (fio 17 c < 0) = ¬ isOb c := fun c hc => propext ((show ∀ c, c < 128 → (fio 17 c < 0 ↔ ¬ isOb c) from by decide +kernel) c hc)
def frm (a b d : Nat) : Int32 := if a = 0 then 0 else if isNb a then 1 else if isOb a then 11 else if a = 33 then 12 else if a = 34 then 12 else if a = 40 then (if 48 ≤ b ∧ b ≤ 57 then 8 else 9) else if a = 41 then 9 else if a = 58 then (if b = 124 ∨ b = 58 then 5 else 0) else if a = 60 then 10 else if a = 62 then 10 else if a = 90 then 4 else if a = 91 then (if b = 124 ∨ (49 ≤ b ∧ b ≤ 52) then 5 else if (b = 86 ∨ b = 77 ∨ b = 76 ∨ b = 75) ∧ d = 58 then 6 else 2) else if a = 120 then 3 else if a = 122 then 3 else if a = 123 then 7 else if a = 124 then 5 else 0
theorem m1neg : ((-1 : Int32) < 0) = True := by decide
theorem c_bar7 {n b : Nat} {u : Mm} {Q : Int32 → Mm → Prop} (hb : b < 128) : w_X4_barSort n 91 (cb b) u Q = Q (if b = 124 then 3 else if 49 ≤ b ∧ b ≤ 52 then 7 else -1) u := by
  have e1 : ((91 : Int32) = 124) = False := by decide
  have e2 : ((91 : Int32) = 58) = False := by decide
  by_cases h1 : b = 124
  · simp (disch := omega) only [↓mletE, ↓iletE, ↓jletE, ↓br_if, ↓br_ifn, ↓reduceIte, nl_lt, nl_gt, nl_le, nl_ge, nl_eq, nn_lt, nn_le, nn_eq, nl_add, nl_sub, nl_mul, nl_mulr, nn_add, nn_ix, nn_in, true_and, and_true, false_and, and_false, gI_if, gIj, gIr, gJ_if, gJi, gJr, gPr, gPi, gPj, hu_if, hv_if, Nat.reduceEqDiff, Nat.reduceLT, Nat.reduceLeDiff, eq_self, bIT, bIF, Nat.add_zero, Nat.add_assoc, Nat.reduceAdd, nb0, nb1, i10, i00, Bool.false_eq_true, not_true_eq_false, not_false_eq_true, reduceIte, w_X4_barSort, w_X4_barSort_95, e1, e2, cb_eq, h1]
  · rw [if_neg h1]
    by_cases h2 : b < 49
    · rw [if_neg (by omega)]
      simp (disch := omega) only [↓mletE, ↓iletE, ↓jletE, ↓br_if, ↓br_ifn, ↓reduceIte, nl_lt, nl_gt, nl_le, nl_ge, nl_eq, nn_lt, nn_le, nn_eq, nl_add, nl_sub, nl_mul, nl_mulr, nn_add, nn_ix, nn_in, true_and, and_true, false_and, and_false, gI_if, gIj, gIr, gJ_if, gJi, gJr, gPr, gPi, gPj, hu_if, hv_if, Nat.reduceEqDiff, Nat.reduceLT, Nat.reduceLeDiff, eq_self, bIT, bIF, Nat.add_zero, Nat.add_assoc, Nat.reduceAdd, nb0, nb1, i10, i00, Bool.false_eq_true, not_true_eq_false, not_false_eq_true, reduceIte, w_X4_barSort, w_X4_barSort_94, w_X4_barSort_95, e1, e2, cb_eq, cb_lt, h1, h2]
    · by_cases h3 : 52 < b
      · rw [if_neg (by omega)]
        simp (disch := omega) only [↓mletE, ↓iletE, ↓jletE, ↓br_if, ↓br_ifn, ↓reduceIte, nl_lt, nl_gt, nl_le, nl_ge, nl_eq, nn_lt, nn_le, nn_eq, nl_add, nl_sub, nl_mul, nl_mulr, nn_add, nn_ix, nn_in, true_and, and_true, false_and, and_false, gI_if, gIj, gIr, gJ_if, gJi, gJr, gPr, gPi, gPj, hu_if, hv_if, Nat.reduceEqDiff, Nat.reduceLT, Nat.reduceLeDiff, eq_self, bIT, bIF, Nat.add_zero, Nat.add_assoc, Nat.reduceAdd, nb0, nb1, i10, i00, Bool.false_eq_true, not_true_eq_false, not_false_eq_true, reduceIte, w_X4_barSort, w_X4_barSort_94, w_X4_barSort_95, e1, e2, cb_eq, cb_lt, cb_gt, h1, h2, h3]
      · rw [if_pos (by omega)]
        simp (disch := omega) only [↓mletE, ↓iletE, ↓jletE, ↓br_if, ↓br_ifn, ↓reduceIte, nl_lt, nl_gt, nl_le, nl_ge, nl_eq, nn_lt, nn_le, nn_eq, nl_add, nl_sub, nl_mul, nl_mulr, nn_add, nn_ix, nn_in, true_and, and_true, false_and, and_false, gI_if, gIj, gIr, gJ_if, gJi, gJr, gPr, gPi, gPj, hu_if, hv_if, Nat.reduceEqDiff, Nat.reduceLT, Nat.reduceLeDiff, eq_self, bIT, bIF, Nat.add_zero, Nat.add_assoc, Nat.reduceAdd, nb0, nb1, i10, i00, Bool.false_eq_true, not_true_eq_false, not_false_eq_true, reduceIte, w_X4_barSort, w_X4_barSort_94, w_X4_barSort_95, e1, e2, cb_eq, cb_lt, cb_gt, h1, h2, h3]
theorem c_bar5 {n b : Nat} {u : Mm} {Q : Int32 → Mm → Prop} (hb : b < 128) : w_X4_barSort n 58 (cb b) u Q = Q (if b = 124 then 5 else if b = 58 then 6 else -1) u := by
  have e1 : ((58 : Int32) = 124) = False := by decide
  by_cases h1 : b = 124
  · simp (disch := omega) only [↓mletE, ↓iletE, ↓jletE, ↓br_if, ↓br_ifn, ↓reduceIte, nl_lt, nl_gt, nl_le, nl_ge, nl_eq, nn_lt, nn_le, nn_eq, nl_add, nl_sub, nl_mul, nl_mulr, nn_add, nn_ix, nn_in, true_and, and_true, false_and, and_false, gI_if, gIj, gIr, gJ_if, gJi, gJr, gPr, gPi, gPj, hu_if, hv_if, Nat.reduceEqDiff, Nat.reduceLT, Nat.reduceLeDiff, eq_self, bIT, bIF, Nat.add_zero, Nat.add_assoc, Nat.reduceAdd, nb0, nb1, i10, i00, Bool.false_eq_true, not_true_eq_false, not_false_eq_true, reduceIte, w_X4_barSort, w_X4_barSort_66, e1, cb_eq, h1]
  · rw [if_neg h1]
    by_cases h2 : b = 58
    · simp (disch := omega) only [↓mletE, ↓iletE, ↓jletE, ↓br_if, ↓br_ifn, ↓reduceIte, nl_lt, nl_gt, nl_le, nl_ge, nl_eq, nn_lt, nn_le, nn_eq, nl_add, nl_sub, nl_mul, nl_mulr, nn_add, nn_ix, nn_in, true_and, and_true, false_and, and_false, gI_if, gIj, gIr, gJ_if, gJi, gJr, gPr, gPi, gPj, hu_if, hv_if, Nat.reduceEqDiff, Nat.reduceLT, Nat.reduceLeDiff, eq_self, bIT, bIF, Nat.add_zero, Nat.add_assoc, Nat.reduceAdd, nb0, nb1, i10, i00, Bool.false_eq_true, not_true_eq_false, not_false_eq_true, reduceIte, w_X4_barSort, w_X4_barSort_66, e1, cb_eq, h2]
    · rw [if_neg h2]
      simp (disch := omega) only [↓mletE, ↓iletE, ↓jletE, ↓br_if, ↓br_ifn, ↓reduceIte, nl_lt, nl_gt, nl_le, nl_ge, nl_eq, nn_lt, nn_le, nn_eq, nl_add, nl_sub, nl_mul, nl_mulr, nn_add, nn_ix, nn_in, true_and, and_true, false_and, and_false, gI_if, gIj, gIr, gJ_if, gJi, gJr, gPr, gPi, gPj, hu_if, hv_if, Nat.reduceEqDiff, Nat.reduceLT, Nat.reduceLeDiff, eq_self, bIT, bIF, Nat.add_zero, Nat.add_assoc, Nat.reduceAdd, nb0, nb1, i10, i00, Bool.false_eq_true, not_true_eq_false, not_false_eq_true, reduceIte, w_X4_barSort, w_X4_barSort_66, e1, cb_eq, h1, h2]
theorem c_bar0 {n b : Nat} {u : Mm} {Q : Int32 → Mm → Prop} (hb : b < 128) : w_X4_barSort n 124 (cb b) u Q = Q (if b = 124 then 1 else if b = 93 then 2 else if b = 58 then 4 else 0) u := by
  by_cases h1 : b = 124
  · simp (disch := omega) only [↓mletE, ↓iletE, ↓jletE, ↓br_if, ↓br_ifn, ↓reduceIte, nl_lt, nl_gt, nl_le, nl_ge, nl_eq, nn_lt, nn_le, nn_eq, nl_add, nl_sub, nl_mul, nl_mulr, nn_add, nn_ix, nn_in, true_and, and_true, false_and, and_false, gI_if, gIj, gIr, gJ_if, gJi, gJr, gPr, gPi, gPj, hu_if, hv_if, Nat.reduceEqDiff, Nat.reduceLT, Nat.reduceLeDiff, eq_self, bIT, bIF, Nat.add_zero, Nat.add_assoc, Nat.reduceAdd, nb0, nb1, i10, i00, Bool.false_eq_true, not_true_eq_false, not_false_eq_true, reduceIte, w_X4_barSort, w_X4_barSort_37, cb_eq, h1]
  · by_cases h2 : b = 93
    · simp (disch := omega) only [↓mletE, ↓iletE, ↓jletE, ↓br_if, ↓br_ifn, ↓reduceIte, nl_lt, nl_gt, nl_le, nl_ge, nl_eq, nn_lt, nn_le, nn_eq, nl_add, nl_sub, nl_mul, nl_mulr, nn_add, nn_ix, nn_in, true_and, and_true, false_and, and_false, gI_if, gIj, gIr, gJ_if, gJi, gJr, gPr, gPi, gPj, hu_if, hv_if, Nat.reduceEqDiff, Nat.reduceLT, Nat.reduceLeDiff, eq_self, bIT, bIF, Nat.add_zero, Nat.add_assoc, Nat.reduceAdd, nb0, nb1, i10, i00, Bool.false_eq_true, not_true_eq_false, not_false_eq_true, reduceIte, w_X4_barSort, w_X4_barSort_37, cb_eq, h2]
    · by_cases h3 : b = 58
      · simp (disch := omega) only [↓mletE, ↓iletE, ↓jletE, ↓br_if, ↓br_ifn, ↓reduceIte, nl_lt, nl_gt, nl_le, nl_ge, nl_eq, nn_lt, nn_le, nn_eq, nl_add, nl_sub, nl_mul, nl_mulr, nn_add, nn_ix, nn_in, true_and, and_true, false_and, and_false, gI_if, gIj, gIr, gJ_if, gJi, gJr, gPr, gPi, gPj, hu_if, hv_if, Nat.reduceEqDiff, Nat.reduceLT, Nat.reduceLeDiff, eq_self, bIT, bIF, Nat.add_zero, Nat.add_assoc, Nat.reduceAdd, nb0, nb1, i10, i00, Bool.false_eq_true, not_true_eq_false, not_false_eq_true, reduceIte, w_X4_barSort, w_X4_barSort_37, cb_eq, h3]
      · rw [if_neg h1, if_neg h2, if_neg h3]
        simp (disch := omega) only [↓mletE, ↓iletE, ↓jletE, ↓br_if, ↓br_ifn, ↓reduceIte, nl_lt, nl_gt, nl_le, nl_ge, nl_eq, nn_lt, nn_le, nn_eq, nl_add, nl_sub, nl_mul, nl_mulr, nn_add, nn_ix, nn_in, true_and, and_true, false_and, and_false, gI_if, gIj, gIr, gJ_if, gJi, gJr, gPr, gPi, gPj, hu_if, hv_if, Nat.reduceEqDiff, Nat.reduceLT, Nat.reduceLeDiff, eq_self, bIT, bIF, Nat.add_zero, Nat.add_assoc, Nat.reduceAdd, nb0, nb1, i10, i00, Bool.false_eq_true, not_true_eq_false, not_false_eq_true, reduceIte, w_X4_barSort, w_X4_barSort_37, cb_eq, h1, h2, h3]
theorem c_form {n : Nat} {T : Nat → Nat} {s p B : Nat} {z : Mm × Mm} {u v : Mm} {Q : Int32 → Mm → Prop} (hn : 5000 ≤ n) (hx : tx z T s p B u v) : w_X4_formHere n u Q = Q (frm (bv T s p) (bv T s (p + 1)) (bv T s (p + 2))) u := by
  obtain ⟨hKc, hKm, hTu, hTv, hB, hP1, h33_4, h33_2, h33_6, h0_9, h0_7, hps⟩ := hx
  have hs := hTu.1
  have hBn : ∀ q, q < 41 → (B = q) = False := fun q hq => eq_false (by omega)
  have b0 := hTu.le p (by omega)
  have b1 := hTu.le (p + 1) (by omega)
  have b2 := hTu.le (p + 2) (by omega)
  have P0 : ∀ Q : Int32 → Mm → Prop, w_X5_peek n 0 u Q = Q (cb (bv T s p)) u := fun Q => by simp (disch := omega) only [↓mletE, ↓iletE, ↓jletE, ↓br_if, ↓br_ifn, ↓reduceIte, nl_lt, nl_gt, nl_le, nl_ge, nl_eq, nn_lt, nn_le, nn_eq, nl_add, nl_sub, nl_mul, nl_mulr, nn_add, nn_ix, nn_in, true_and, and_true, false_and, and_false, gI_if, gIj, gIr, gJ_if, gJi, gJr, gPr, gPi, gPj, hu_if, hv_if, Nat.reduceEqDiff, Nat.reduceLT, Nat.reduceLeDiff, eq_self, bIT, bIF, Nat.add_zero, Nat.add_assoc, Nat.reduceAdd, nb0, nb1, i10, i00, Bool.false_eq_true, not_true_eq_false, not_false_eq_true, reduceIte, ↓c_peek, ↓c_digit, ↓c_fail, cfl_0, ↓d_skip, ↓d_num0, ↓d_num1, ↓d_tw, gdC_t hTu, vblk_eq hTu, vval_eq hTu, vend_eq hTu, vok_eq hTu, vok1_eq hTu, vwm_eq hTu, pkC_eq hTu, dgI_eq, cb_lt, cb_gt, cb_le, cb_ge, cb_eq, cb_neg, ↓r_peek, ↓r_here, ↓r_is, okI_t, pkM_eq hTv, mb_eq, ↓r_isDigit, inM_mb, inM_nI, ↓r_isLetter, ↓r_isNoteLetter, orI_b, ↓d_bl, ↓d_no, ↓d_iw, gdM_t hTv, vblk_eq hTv, vval_eq hTv, vend_eq hTv, vok_eq hTv, vwm_eq hTv, ↓r_isPower, ipI_eq, ↓r_fail, ↓r_in, w_X12_must, w_X12_must_17, hBn, hP1, h33_4, h33_2, h33_6, h0_9, h0_7]
  have P1 : ∀ Q : Int32 → Mm → Prop, w_X5_peek n 1 u Q = Q (cb (bv T s (p + 1))) u := fun Q => by simp (disch := omega) only [↓mletE, ↓iletE, ↓jletE, ↓br_if, ↓br_ifn, ↓reduceIte, nl_lt, nl_gt, nl_le, nl_ge, nl_eq, nn_lt, nn_le, nn_eq, nl_add, nl_sub, nl_mul, nl_mulr, nn_add, nn_ix, nn_in, true_and, and_true, false_and, and_false, gI_if, gIj, gIr, gJ_if, gJi, gJr, gPr, gPi, gPj, hu_if, hv_if, Nat.reduceEqDiff, Nat.reduceLT, Nat.reduceLeDiff, eq_self, bIT, bIF, Nat.add_zero, Nat.add_assoc, Nat.reduceAdd, nb0, nb1, i10, i00, Bool.false_eq_true, not_true_eq_false, not_false_eq_true, reduceIte, ↓c_peek, ↓c_digit, ↓c_fail, cfl_0, ↓d_skip, ↓d_num0, ↓d_num1, ↓d_tw, gdC_t hTu, vblk_eq hTu, vval_eq hTu, vend_eq hTu, vok_eq hTu, vok1_eq hTu, vwm_eq hTu, pkC_eq hTu, dgI_eq, cb_lt, cb_gt, cb_le, cb_ge, cb_eq, cb_neg, ↓r_peek, ↓r_here, ↓r_is, okI_t, pkM_eq hTv, mb_eq, ↓r_isDigit, inM_mb, inM_nI, ↓r_isLetter, ↓r_isNoteLetter, orI_b, ↓d_bl, ↓d_no, ↓d_iw, gdM_t hTv, vblk_eq hTv, vval_eq hTv, vend_eq hTv, vok_eq hTv, vwm_eq hTv, ↓r_isPower, ipI_eq, ↓r_fail, ↓r_in, w_X12_must, w_X12_must_17, hBn, hP1, h33_4, h33_2, h33_6, h0_9, h0_7]
  have P2 : ∀ Q : Int32 → Mm → Prop, w_X5_peek n 2 u Q = Q (cb (bv T s (p + 2))) u := fun Q => by simp (disch := omega) only [↓mletE, ↓iletE, ↓jletE, ↓br_if, ↓br_ifn, ↓reduceIte, nl_lt, nl_gt, nl_le, nl_ge, nl_eq, nn_lt, nn_le, nn_eq, nl_add, nl_sub, nl_mul, nl_mulr, nn_add, nn_ix, nn_in, true_and, and_true, false_and, and_false, gI_if, gIj, gIr, gJ_if, gJi, gJr, gPr, gPi, gPj, hu_if, hv_if, Nat.reduceEqDiff, Nat.reduceLT, Nat.reduceLeDiff, eq_self, bIT, bIF, Nat.add_zero, Nat.add_assoc, Nat.reduceAdd, nb0, nb1, i10, i00, Bool.false_eq_true, not_true_eq_false, not_false_eq_true, reduceIte, ↓c_peek, ↓c_digit, ↓c_fail, cfl_0, ↓d_skip, ↓d_num0, ↓d_num1, ↓d_tw, gdC_t hTu, vblk_eq hTu, vval_eq hTu, vend_eq hTu, vok_eq hTu, vok1_eq hTu, vwm_eq hTu, pkC_eq hTu, dgI_eq, cb_lt, cb_gt, cb_le, cb_ge, cb_eq, cb_neg, ↓r_peek, ↓r_here, ↓r_is, okI_t, pkM_eq hTv, mb_eq, ↓r_isDigit, inM_mb, inM_nI, ↓r_isLetter, ↓r_isNoteLetter, orI_b, ↓d_bl, ↓d_no, ↓d_iw, gdM_t hTv, vblk_eq hTv, vval_eq hTv, vend_eq hTv, vok_eq hTv, vwm_eq hTv, ↓r_isPower, ipI_eq, ↓r_fail, ↓r_in, w_X12_must, w_X12_must_17, hBn, hP1, h33_4, h33_2, h33_6, h0_9, h0_7]
  generalize bv T s p = a at *
  generalize bv T s (p + 1) = b at *
  generalize bv T s (p + 2) = d at *
  unfold w_X4_formHere
  rw [P0, P1]
  by_cases a0 : a = 0
  · have h0 : (0 ≤ cb a) = False := by rw [cb_z a0]; decide
    rw [show frm a b d = 0 from by unfold frm; rw [if_pos a0]]
    simp only [↓br_if, h0, ↓reduceIte]
  have e16 : ∀ (Q : Int32 → Mm → Prop), w_J0_indexOf_0f7a4 n 16 ((cb a).toUInt32 % 65536).toInt32 u Q = Q (fio 16 a) u := fun Q => by
    rw [cb_nz a0, uch (by omega), j_index ⟨by omega, by omega, by rw [wn_16]; omega, by omega⟩]
  have e17 : ∀ (Q : Int32 → Mm → Prop), w_J0_indexOf_0f7a4 n 17 ((cb a).toUInt32 % 65536).toInt32 u Q = Q (fio 17 a) u := fun Q => by
    rw [cb_nz a0, uch (by omega), j_index ⟨by omega, by omega, by rw [wn_17]; omega, by omega⟩]
  have p0 : (0 ≤ cb a) = True := by rw [cb_nz a0]; exact eq_true (nI_pos' (by omega))
  have f16 := fio16 a (by omega)
  have f17 := fio17 a (by omega)
  unfold frm
  rw [if_neg a0]
  by_cases a1 : isNb a
  · rw [if_pos a1]
    rw [eq_false (fun h => h a1 : ¬ ¬ isNb a)] at f16
    simp only [↓br_if, ↓br_ifn, ↓reduceIte, p0, ↓e16, f16]
  rw [eq_true a1] at f16
  rw [if_neg a1]
  by_cases a2 : isOb a
  · rw [if_pos a2]
    rw [eq_false (fun h => h a2 : ¬ ¬ isOb a)] at f17
    simp only [↓br_if, ↓br_ifn, ↓reduceIte, p0, ↓e16, ↓e17, f16, f17]
  rw [eq_true a2] at f17
  rw [if_neg a2]
  by_cases h33 : a = 33
  · simp (disch := omega) only [↓br_if, ↓br_ifn, ↓reduceIte, p0, ↓e16, ↓e17, f16, f17, cb_eq, eq_true h33]
  by_cases h34 : a = 34
  · simp (disch := omega) only [↓br_if, ↓br_ifn, ↓reduceIte, p0, ↓e16, ↓e17, f16, f17, cb_eq, eq_false h33, eq_true h34]
  by_cases h40 : a = 40
  · by_cases g1 : b < 48
    · simp (disch := omega) only [↓br_if, ↓br_ifn, ↓reduceIte, p0, ↓e16, ↓e17, f16, f17, cb_eq, eq_false h33, eq_false h34, eq_true h40, cb_lt, cb_gt, eq_true g1, w_X4_formHere_205, w_X4_formHere_207, show (48 ≤ b ∧ b ≤ 57) = False from eq_false (by omega)]
    · by_cases g2 : 57 < b
      · simp (disch := omega) only [↓br_if, ↓br_ifn, ↓reduceIte, p0, ↓e16, ↓e17, f16, f17, cb_eq, eq_false h33, eq_false h34, eq_true h40, cb_lt, cb_gt, eq_false g1, eq_true g2, w_X4_formHere_205, w_X4_formHere_207, show (48 ≤ b ∧ b ≤ 57) = False from eq_false (by omega)]
      · simp (disch := omega) only [↓br_if, ↓br_ifn, ↓reduceIte, p0, ↓e16, ↓e17, f16, f17, cb_eq, eq_false h33, eq_false h34, eq_true h40, cb_lt, cb_gt, eq_false g1, eq_false g2, w_X4_formHere_205, w_X4_formHere_207, show (48 ≤ b ∧ b ≤ 57) = True from eq_true (by omega)]
  by_cases h41 : a = 41
  · simp (disch := omega) only [↓br_if, ↓br_ifn, ↓reduceIte, p0, ↓e16, ↓e17, f16, f17, cb_eq, eq_false h33, eq_false h34, eq_false h40, eq_true h41]
  by_cases h58 : a = 58
  · have e : ∀ Q : Int32 → Mm → Prop, w_X4_barSort n (cb a) (cb b) u Q = Q (if b = 124 then 5 else if b = 58 then 6 else -1) u := fun Q => by rw [h58]; exact c_bar5 (by omega)
    by_cases g1 : b = 124
    · simp (disch := omega) only [↓br_if, ↓br_ifn, ↓reduceIte, p0, ↓e16, ↓e17, f16, f17, cb_eq, eq_false h33, eq_false h34, eq_false h40, eq_false h41, eq_true h58, ↓e, eq_true g1, true_or, w_X4_formHere_183, show ((5 : Int32) < 0) = False from by decide]
    · by_cases g2 : b = 58
      · simp (disch := omega) only [↓br_if, ↓br_ifn, ↓reduceIte, p0, ↓e16, ↓e17, f16, f17, cb_eq, eq_false h33, eq_false h34, eq_false h40, eq_false h41, eq_true h58, ↓e, eq_false g1, eq_true g2, or_true, w_X4_formHere_183, show ((6 : Int32) < 0) = False from by decide]
      · simp (disch := omega) only [↓br_if, ↓br_ifn, ↓reduceIte, p0, ↓e16, ↓e17, f16, f17, cb_eq, eq_false h33, eq_false h34, eq_false h40, eq_false h41, eq_true h58, ↓e, eq_false g1, eq_false g2, or_self, w_X4_formHere_183, m1neg]
  by_cases h60 : a = 60
  · simp (disch := omega) only [↓br_if, ↓br_ifn, ↓reduceIte, p0, ↓e16, ↓e17, f16, f17, cb_eq, eq_false h33, eq_false h34, eq_false h40, eq_false h41, eq_false h58, eq_true h60]
  by_cases h62 : a = 62
  · simp (disch := omega) only [↓br_if, ↓br_ifn, ↓reduceIte, p0, ↓e16, ↓e17, f16, f17, cb_eq, eq_false h33, eq_false h34, eq_false h40, eq_false h41, eq_false h58, eq_false h60, eq_true h62]
  by_cases h90 : a = 90
  · simp (disch := omega) only [↓br_if, ↓br_ifn, ↓reduceIte, p0, ↓e16, ↓e17, f16, f17, cb_eq, eq_false h33, eq_false h34, eq_false h40, eq_false h41, eq_false h58, eq_false h60, eq_false h62, eq_true h90]
  by_cases h91 : a = 91
  · simp (disch := omega) only [↓br_if, ↓br_ifn, ↓reduceIte, p0, ↓e16, ↓e17, f16, f17, cb_eq, eq_false h33, eq_false h34, eq_false h40, eq_false h41, eq_false h58, eq_false h60, eq_false h62, eq_false h90, eq_true h91]
    unfold w_X4_formOfBracket
    rw [c_bar7 (by omega)]
    by_cases g1 : b = 124
    · simp only [eq_true g1, true_or, ↓reduceIte, show ((3 : Int32) < 0) = False from by decide, ↓br_if]
    by_cases g2 : 49 ≤ b ∧ b ≤ 52
    · simp only [g1, g2, and_self, or_true, ↓reduceIte, show ((7 : Int32) < 0) = False from by decide, ↓br_if]
    simp only [g1, g2, or_self, ↓reduceIte, m1neg, ↓br_if]
    by_cases g3 : d = 58
    · by_cases k1 : b = 86
      · simp (disch := omega) only [↓br_if, ↓br_ifn, ↓reduceIte, cb_eq, w_X4_formOfBracket_35, w_X4_formOfBracket_40, w_X4_formOfBracket_63, w_X4_formOfBracket_64, ↓P2, i10, i00, eq_true g3, eq_true k1, true_or, and_true]
      by_cases k2 : b = 77
      · simp (disch := omega) only [↓br_if, ↓br_ifn, ↓reduceIte, cb_eq, w_X4_formOfBracket_35, w_X4_formOfBracket_40, w_X4_formOfBracket_63, w_X4_formOfBracket_64, ↓P2, i10, i00, eq_true g3, eq_false k1, eq_true k2, true_or, or_true, and_true]
      by_cases k3 : b = 76
      · simp (disch := omega) only [↓br_if, ↓br_ifn, ↓reduceIte, cb_eq, w_X4_formOfBracket_35, w_X4_formOfBracket_40, w_X4_formOfBracket_63, w_X4_formOfBracket_64, ↓P2, i10, i00, eq_true g3, eq_false k1, eq_false k2, eq_true k3, true_or, or_true, and_true]
      by_cases k4 : b = 75
      · simp (disch := omega) only [↓br_if, ↓br_ifn, ↓reduceIte, cb_eq, w_X4_formOfBracket_35, w_X4_formOfBracket_40, w_X4_formOfBracket_63, w_X4_formOfBracket_64, ↓P2, i10, i00, eq_true g3, eq_false k1, eq_false k2, eq_false k3, eq_true k4, true_or, or_true, and_true]
      · simp (disch := omega) only [↓br_if, ↓br_ifn, ↓reduceIte, cb_eq, w_X4_formOfBracket_35, w_X4_formOfBracket_40, w_X4_formOfBracket_63, w_X4_formOfBracket_64, ↓P2, i10, i00, eq_true g3, eq_false k1, eq_false k2, eq_false k3, eq_false k4, or_self, and_true]
    · simp (disch := omega) only [↓br_if, ↓br_ifn, ↓reduceIte, cb_eq, w_X4_formOfBracket_35, w_X4_formOfBracket_40, w_X4_formOfBracket_63, w_X4_formOfBracket_64, ↓P2, i10, i00, eq_false g3, and_false, ite_self]
  by_cases h120 : a = 120
  · simp (disch := omega) only [↓br_if, ↓br_ifn, ↓reduceIte, p0, ↓e16, ↓e17, f16, f17, cb_eq, eq_false h33, eq_false h34, eq_false h40, eq_false h41, eq_false h58, eq_false h60, eq_false h62, eq_false h90, eq_false h91, eq_true h120]
  by_cases h122 : a = 122
  · simp (disch := omega) only [↓br_if, ↓br_ifn, ↓reduceIte, p0, ↓e16, ↓e17, f16, f17, cb_eq, eq_false h33, eq_false h34, eq_false h40, eq_false h41, eq_false h58, eq_false h60, eq_false h62, eq_false h90, eq_false h91, eq_false h120, eq_true h122]
  by_cases h123 : a = 123
  · simp (disch := omega) only [↓br_if, ↓br_ifn, ↓reduceIte, p0, ↓e16, ↓e17, f16, f17, cb_eq, eq_false h33, eq_false h34, eq_false h40, eq_false h41, eq_false h58, eq_false h60, eq_false h62, eq_false h90, eq_false h91, eq_false h120, eq_false h122, eq_true h123]
  by_cases h124 : a = 124
  · have e : ∀ Q : Int32 → Mm → Prop, w_X4_barSort n (cb a) (cb b) u Q = Q (if b = 124 then 1 else if b = 93 then 2 else if b = 58 then 4 else 0) u := fun Q => by rw [h124]; exact c_bar0 (by omega)
    have this : ((if b = 124 then 1 else if b = 93 then 2 else if b = 58 then 4 else (0 : Int32)) < 0) = False := eq_false (by
      split
      · decide
      · split
        · decide
        · split <;> decide)
    generalize (if b = 124 then 1 else if b = 93 then 2 else if b = 58 then 4 else (0 : Int32)) = y at e this
    simp (disch := omega) only [↓br_if, ↓br_ifn, ↓reduceIte, p0, ↓e16, ↓e17, f16, f17, cb_eq, eq_false h33, eq_false h34, eq_false h40, eq_false h41, eq_false h58, eq_false h60, eq_false h62, eq_false h90, eq_false h91, eq_false h120, eq_false h122, eq_false h123, eq_true h124, ↓e, this, w_X4_formHere_183]
  simp (disch := omega) only [↓br_if, ↓br_ifn, ↓reduceIte, p0, ↓e16, ↓e17, f16, f17, cb_eq, eq_false h33, eq_false h34, eq_false h40, eq_false h41, eq_false h58, eq_false h60, eq_false h62, eq_false h90, eq_false h91, eq_false h120, eq_false h122, eq_false h123, eq_false h124]
