/-! heads: the relation, letters -/
/-- what stands while the heads are read -/
def eX (z : Mm × Mm) (T : Nat → Nat) (sz B : Nat) (u v : Mm) : Prop := jKc z.1 u ∧ jKm z.2 v ∧ u.1 33 6 = 0 ∧ eT T sz B u v ∧ u.1 36 3 = 0 ∧ v.1 0 27 = 0 ∧ (∀ k, k ≤ 300 → u.1 62 k = 0) ∧ u.1 43 8 = 0 ∧ u.1 35 0 = v.1 0 2 ∧ (v.1 0 2 = 0 ∨ v.1 0 2 = 1) ∧ cln T sz
theorem eX.cg {z : Mm × Mm} {T : Nat → Nat} {sz B : Nat} {u v u' v' : Mm} (h : eX z T sz B u v) (k1 : jKc z.1 u') (k2 : jKm z.2 v') (h1 : u'.1 33 6 = u.1 33 6) (h2 : u'.1 33 1 = u.1 33 1) (h3 : u'.2.2 1 = u.2.2 1) (h4 : u'.1 41 = u.1 41) (h5 : u'.1 42 = u.1 42) (h6 : u'.1 36 3 = u.1 36 3) (h7 : u'.1 62 = u.1 62) (h8 : u'.1 43 8 = u.1 43 8) (h9 : u'.1 35 0 = u.1 35 0) (j1 : v'.1 0 6 = v.1 0 6) (j2 : v'.1 3 = v.1 3) (j3 : v'.1 0 27 = v.1 0 27) (j4 : v'.1 0 2 = v.1 0 2) : eX z T sz B u' v' := by
  obtain ⟨a1, a2, a3, a4, a5, a6, a7, a8, a9, a10, a11⟩ := h
  exact ⟨k1, k2, h1.trans a3, a4.cg h3 h2 h4 h5 j1 j2, h6.trans a5, j3.trans a6, by rw [h7]; exact a7, h8.trans a8, by rw [h9, j4]; exact a9, by rw [j4]; exact a10, a11⟩
theorem eX_tx {z : Mm × Mm} {T : Nat → Nat} {sz B e s p : Nat} {u v : Mm} (h : eX z T sz B u v) (hL : eL T sz e s p u v) : tx z T s p B u v := by
  obtain ⟨hKc, hKm, h33_6, hT, -⟩ := h
  obtain ⟨t1, t2, t3, t4, t5, t6⟩ := hT
  obtain ⟨l1, l2, l3, l4, l5, l6, l7, l8, l9, l10⟩ := hL
  have hb : ∀ i, p ≤ i → i < s → sbv (T i) = nI (T i) ∧ 32 ≤ T i ∧ T i ≤ 126 := fun i h1 h2 => ⟨sbv_lo _ (by have := l10 i h1 h2; omega), l10 i h1 h2⟩
  refine ⟨hKc, hKm, ⟨by omega, fun i h1 h2 => ?_⟩, ⟨by omega, fun i h1 h2 => ?_⟩, by omega, t3, l2, l1, h33_6, l5, l4, l7⟩
  · rw [(t6 i (by omega)).1]; exact hb i h1 h2
  · rw [(t6 i (by omega)).2.1]; exact hb i h1 h2
abbrev isLt (a : Nat) : Prop := (65 ≤ a ∧ a ≤ 90) ∨ (97 ≤ a ∧ a ≤ 122)
/-- the letter of a field -/
theorem c_fl {z : Mm × Mm} {n : Nat} {T : Nat → Nat} {B s p : Nat} {u v : Mm} {Q : Int32 → Mm → Prop} (hx : tx z T s p B u v) : w_X5_fieldLetter n u Q = Q (if isLt (bv T s p) ∧ bv T s (p + 1) = 58 then nI (bv T s p) else -1) u := by
  obtain ⟨hKc, hKm, hTu, hTv, hB, hP1, h33_4, h33_2, h33_6, h0_9, h0_7, hps⟩ := hx
  have hss := hTu.1
  have hBn : ∀ q, q < 41 → (B = q) = False := fun q hq => eq_false (by omega)
  have b0 := hTu.le p (by omega)
  have b1 := hTu.le (p + 1) (by omega)
  have P0 : ∀ Q : Int32 → Mm → Prop, w_X5_peek n 0 u Q = Q (cb (bv T s p)) u := fun Q => by simp (disch := omega) only [↓mletE, ↓iletE, ↓jletE, ↓br_if, ↓br_ifn, ↓reduceIte, nl_lt, nl_gt, nl_le, nl_ge, nl_eq, nn_lt, nn_le, nn_eq, nl_add, nl_sub, nl_mul, nl_mulr, nn_add, nn_ix, nn_in, true_and, and_true, false_and, and_false, gI_if, gIj, gIr, gJ_if, gJi, gJr, gPr, gPi, gPj, hu_if, hv_if, Nat.reduceEqDiff, Nat.reduceLT, Nat.reduceLeDiff, eq_self, bIT, bIF, Nat.add_zero, Nat.add_assoc, Nat.reduceAdd, nb0, nb1, i10, i00, Bool.false_eq_true, not_true_eq_false, not_false_eq_true, reduceIte, ↓c_peek, ↓c_digit, ↓c_fail, cfl_0, ↓d_skip, ↓d_num0, ↓d_num1, ↓d_tw, gdC_t hTu, vblk_eq hTu, vval_eq hTu, vend_eq hTu, vok_eq hTu, vok1_eq hTu, vwm_eq hTu, pkC_eq hTu, dgI_eq, cb_lt, cb_gt, cb_le, cb_ge, cb_eq, cb_neg, ↓r_peek, ↓r_here, ↓r_is, okI_t, pkM_eq hTv, mb_eq, ↓r_isDigit, inM_mb, inM_nI, ↓r_isLetter, ↓r_isNoteLetter, orI_b, ↓d_bl, ↓d_no, ↓d_iw, gdM_t hTv, vblk_eq hTv, vval_eq hTv, vend_eq hTv, vok_eq hTv, vwm_eq hTv, ↓r_isPower, ipI_eq, ↓r_fail, ↓r_in, w_X12_must, w_X12_must_17, hBn, hP1, h33_4, h33_2, h33_6, h0_9, h0_7]
  have P1 : ∀ Q : Int32 → Mm → Prop, w_X5_peek n 1 u Q = Q (cb (bv T s (p + 1))) u := fun Q => by simp (disch := omega) only [↓mletE, ↓iletE, ↓jletE, ↓br_if, ↓br_ifn, ↓reduceIte, nl_lt, nl_gt, nl_le, nl_ge, nl_eq, nn_lt, nn_le, nn_eq, nl_add, nl_sub, nl_mul, nl_mulr, nn_add, nn_ix, nn_in, true_and, and_true, false_and, and_false, gI_if, gIj, gIr, gJ_if, gJi, gJr, gPr, gPi, gPj, hu_if, hv_if, Nat.reduceEqDiff, Nat.reduceLT, Nat.reduceLeDiff, eq_self, bIT, bIF, Nat.add_zero, Nat.add_assoc, Nat.reduceAdd, nb0, nb1, i10, i00, Bool.false_eq_true, not_true_eq_false, not_false_eq_true, reduceIte, ↓c_peek, ↓c_digit, ↓c_fail, cfl_0, ↓d_skip, ↓d_num0, ↓d_num1, ↓d_tw, gdC_t hTu, vblk_eq hTu, vval_eq hTu, vend_eq hTu, vok_eq hTu, vok1_eq hTu, vwm_eq hTu, pkC_eq hTu, dgI_eq, cb_lt, cb_gt, cb_le, cb_ge, cb_eq, cb_neg, ↓r_peek, ↓r_here, ↓r_is, okI_t, pkM_eq hTv, mb_eq, ↓r_isDigit, inM_mb, inM_nI, ↓r_isLetter, ↓r_isNoteLetter, orI_b, ↓d_bl, ↓d_no, ↓d_iw, gdM_t hTv, vblk_eq hTv, vval_eq hTv, vend_eq hTv, vok_eq hTv, vwm_eq hTv, ↓r_isPower, ipI_eq, ↓r_fail, ↓r_in, w_X12_must, w_X12_must_17, hBn, hP1, h33_4, h33_2, h33_6, h0_9, h0_7]
  generalize bv T s p = a at *
  generalize bv T s (p + 1) = b at *
  have F1 : isLt a → w_X5_fieldLetter_35 n (cb a) 1 u Q = Q (if isLt a ∧ b = 58 then nI a else -1) u := fun h => by
    unfold w_X5_fieldLetter_35
    by_cases hb : b = 58
    · rw [if_pos ⟨h, hb⟩]
      simp (disch := omega) only [↓mletE, ↓iletE, ↓jletE, ↓br_if, ↓br_ifn, ↓reduceIte, nl_lt, nl_gt, nl_le, nl_ge, nl_eq, nn_lt, nn_le, nn_eq, nl_add, nl_sub, nl_mul, nl_mulr, nn_add, nn_ix, nn_in, true_and, and_true, false_and, and_false, gI_if, gIj, gIr, gJ_if, gJi, gJr, gPr, gPi, gPj, hu_if, hv_if, Nat.reduceEqDiff, Nat.reduceLT, Nat.reduceLeDiff, eq_self, bIT, bIF, Nat.add_zero, Nat.add_assoc, Nat.reduceAdd, nb0, nb1, i10, i00, Bool.false_eq_true, not_true_eq_false, not_false_eq_true, reduceIte, ↓P1, cb_eq, eq_true hb, w_X5_fieldLetter_55]
      rw [cb_nz (by unfold isLt at h; omega)]
    · rw [if_neg (fun z => hb z.2)]
      simp (disch := omega) only [↓mletE, ↓iletE, ↓jletE, ↓br_if, ↓br_ifn, ↓reduceIte, nl_lt, nl_gt, nl_le, nl_ge, nl_eq, nn_lt, nn_le, nn_eq, nl_add, nl_sub, nl_mul, nl_mulr, nn_add, nn_ix, nn_in, true_and, and_true, false_and, and_false, gI_if, gIj, gIr, gJ_if, gJi, gJr, gPr, gPi, gPj, hu_if, hv_if, Nat.reduceEqDiff, Nat.reduceLT, Nat.reduceLeDiff, eq_self, bIT, bIF, Nat.add_zero, Nat.add_assoc, Nat.reduceAdd, nb0, nb1, i10, i00, Bool.false_eq_true, not_true_eq_false, not_false_eq_true, reduceIte, ↓P1, cb_eq, eq_false hb, w_X5_fieldLetter_54, w_X5_fieldLetter_55]
  have F0 : ¬ isLt a → w_X5_fieldLetter_35 n (cb a) 0 u Q = Q (if isLt a ∧ b = 58 then nI a else -1) u := fun h => by
    unfold w_X5_fieldLetter_35
    rw [if_neg (fun z => h z.1)]
    simp (disch := omega) only [↓mletE, ↓iletE, ↓jletE, ↓br_if, ↓br_ifn, ↓reduceIte, nl_lt, nl_gt, nl_le, nl_ge, nl_eq, nn_lt, nn_le, nn_eq, nl_add, nl_sub, nl_mul, nl_mulr, nn_add, nn_ix, nn_in, true_and, and_true, false_and, and_false, gI_if, gIj, gIr, gJ_if, gJi, gJr, gPr, gPi, gPj, hu_if, hv_if, Nat.reduceEqDiff, Nat.reduceLT, Nat.reduceLeDiff, eq_self, bIT, bIF, Nat.add_zero, Nat.add_assoc, Nat.reduceAdd, nb0, nb1, i10, i00, Bool.false_eq_true, not_true_eq_false, not_false_eq_true, reduceIte, w_X5_fieldLetter_54, w_X5_fieldLetter_55]
  unfold w_X5_fieldLetter
  rw [P0]
  by_cases a1 : a < 65
  · simp (disch := omega) only [↓mletE, ↓iletE, ↓jletE, ↓br_if, ↓br_ifn, ↓reduceIte, nl_lt, nl_gt, nl_le, nl_ge, nl_eq, nn_lt, nn_le, nn_eq, nl_add, nl_sub, nl_mul, nl_mulr, nn_add, nn_ix, nn_in, true_and, and_true, false_and, and_false, gI_if, gIj, gIr, gJ_if, gJi, gJr, gPr, gPi, gPj, hu_if, hv_if, Nat.reduceEqDiff, Nat.reduceLT, Nat.reduceLeDiff, eq_self, bIT, bIF, Nat.add_zero, Nat.add_assoc, Nat.reduceAdd, nb0, nb1, i10, i00, Bool.false_eq_true, not_true_eq_false, not_false_eq_true, reduceIte, cb_lt, cb_le, eq_true a1, w_X5_fieldLetter_18, show (a < 97) = True from eq_true (by omega), w_X5_fieldLetter_34, F0 (by unfold isLt; omega)]
  by_cases a2 : a ≤ 90
  · simp (disch := omega) only [↓mletE, ↓iletE, ↓jletE, ↓br_if, ↓br_ifn, ↓reduceIte, nl_lt, nl_gt, nl_le, nl_ge, nl_eq, nn_lt, nn_le, nn_eq, nl_add, nl_sub, nl_mul, nl_mulr, nn_add, nn_ix, nn_in, true_and, and_true, false_and, and_false, gI_if, gIj, gIr, gJ_if, gJi, gJr, gPr, gPi, gPj, hu_if, hv_if, Nat.reduceEqDiff, Nat.reduceLT, Nat.reduceLeDiff, eq_self, bIT, bIF, Nat.add_zero, Nat.add_assoc, Nat.reduceAdd, nb0, nb1, i10, i00, Bool.false_eq_true, not_true_eq_false, not_false_eq_true, reduceIte, cb_lt, cb_le, eq_false a1, eq_true a2, w_X5_fieldLetter_30, F1 (by unfold isLt; omega)]
  by_cases a3 : a < 97
  · simp (disch := omega) only [↓mletE, ↓iletE, ↓jletE, ↓br_if, ↓br_ifn, ↓reduceIte, nl_lt, nl_gt, nl_le, nl_ge, nl_eq, nn_lt, nn_le, nn_eq, nl_add, nl_sub, nl_mul, nl_mulr, nn_add, nn_ix, nn_in, true_and, and_true, false_and, and_false, gI_if, gIj, gIr, gJ_if, gJi, gJr, gPr, gPi, gPj, hu_if, hv_if, Nat.reduceEqDiff, Nat.reduceLT, Nat.reduceLeDiff, eq_self, bIT, bIF, Nat.add_zero, Nat.add_assoc, Nat.reduceAdd, nb0, nb1, i10, i00, Bool.false_eq_true, not_true_eq_false, not_false_eq_true, reduceIte, cb_lt, cb_le, eq_false a1, eq_false a2, w_X5_fieldLetter_18, eq_true a3, w_X5_fieldLetter_34, F0 (by unfold isLt; omega)]
  by_cases a4 : 122 < a
  · simp (disch := omega) only [↓mletE, ↓iletE, ↓jletE, ↓br_if, ↓br_ifn, ↓reduceIte, nl_lt, nl_gt, nl_le, nl_ge, nl_eq, nn_lt, nn_le, nn_eq, nl_add, nl_sub, nl_mul, nl_mulr, nn_add, nn_ix, nn_in, true_and, and_true, false_and, and_false, gI_if, gIj, gIr, gJ_if, gJi, gJr, gPr, gPi, gPj, hu_if, hv_if, Nat.reduceEqDiff, Nat.reduceLT, Nat.reduceLeDiff, eq_self, bIT, bIF, Nat.add_zero, Nat.add_assoc, Nat.reduceAdd, nb0, nb1, i10, i00, Bool.false_eq_true, not_true_eq_false, not_false_eq_true, reduceIte, cb_lt, cb_le, cb_gt, eq_false a1, eq_false a2, w_X5_fieldLetter_18, eq_false a3, eq_true a4, w_X5_fieldLetter_34, F0 (by unfold isLt; omega)]
  · simp (disch := omega) only [↓mletE, ↓iletE, ↓jletE, ↓br_if, ↓br_ifn, ↓reduceIte, nl_lt, nl_gt, nl_le, nl_ge, nl_eq, nn_lt, nn_le, nn_eq, nl_add, nl_sub, nl_mul, nl_mulr, nn_add, nn_ix, nn_in, true_and, and_true, false_and, and_false, gI_if, gIj, gIr, gJ_if, gJi, gJr, gPr, gPi, gPj, hu_if, hv_if, Nat.reduceEqDiff, Nat.reduceLT, Nat.reduceLeDiff, eq_self, bIT, bIF, Nat.add_zero, Nat.add_assoc, Nat.reduceAdd, nb0, nb1, i10, i00, Bool.false_eq_true, not_true_eq_false, not_false_eq_true, reduceIte, cb_lt, cb_le, cb_gt, eq_false a1, eq_false a2, w_X5_fieldLetter_18, eq_false a3, eq_false a4, w_X5_fieldLetter_30, F1 (by unfold isLt; omega)]
theorem r_isHd {z : Mm × Mm} {n : Nat} {T : Nat → Nat} {B s p c : Nat} {u v : Mm} {Q : Int32 → Mm → Prop} {T' : Mm → Prop} (hx : tx z T s p B u v) (hc : 32 < c ∧ c < 128) : w_X12_isHead n (nI c) v Q T' = Q (bI (bv T s p = c ∧ bv T s (p + 1) = 58)) v := by
  obtain ⟨hKc, hKm, hTu, hTv, hB, hP1, h33_4, h33_2, h33_6, h0_9, h0_7, hps⟩ := hx
  have hss := hTu.1
  have hBn : ∀ q, q < 41 → (B = q) = False := fun q hq => eq_false (by omega)
  have b0 := hTu.le p (by omega)
  have b1 := hTu.le (p + 1) (by omega)
  have I : ∀ (Q : Int32 → Mm → Prop) T', w_X12_is n (nI c) v Q T' = Q (bI (bv T s p = c)) v := fun Q T' => by
    simp (disch := omega) only [↓mletE, ↓iletE, ↓jletE, ↓br_if, ↓br_ifn, ↓reduceIte, nl_lt, nl_gt, nl_le, nl_ge, nl_eq, nn_lt, nn_le, nn_eq, nl_add, nl_sub, nl_mul, nl_mulr, nn_add, nn_ix, nn_in, true_and, and_true, false_and, and_false, gI_if, gIj, gIr, gJ_if, gJi, gJr, gPr, gPi, gPj, hu_if, hv_if, Nat.reduceEqDiff, Nat.reduceLT, Nat.reduceLeDiff, eq_self, bIT, bIF, Nat.add_zero, Nat.add_assoc, Nat.reduceAdd, nb0, nb1, i10, i00, Bool.false_eq_true, not_true_eq_false, not_false_eq_true, reduceIte, ↓c_peek, ↓c_digit, ↓c_fail, cfl_0, ↓d_skip, ↓d_num0, ↓d_num1, ↓d_tw, gdC_t hTu, vblk_eq hTu, vval_eq hTu, vend_eq hTu, vok_eq hTu, vok1_eq hTu, vwm_eq hTu, pkC_eq hTu, dgI_eq, cb_lt, cb_gt, cb_le, cb_ge, cb_eq, cb_neg, ↓r_peek, ↓r_here, ↓r_is, okI_t, pkM_eq hTv, mb_eq, ↓r_isDigit, inM_mb, inM_nI, ↓r_isLetter, ↓r_isNoteLetter, orI_b, ↓d_bl, ↓d_no, ↓d_iw, gdM_t hTv, vblk_eq hTv, vval_eq hTv, vend_eq hTv, vok_eq hTv, vwm_eq hTv, ↓r_isPower, ipI_eq, ↓r_fail, ↓r_in, w_X12_must, w_X12_must_17, hBn, hP1, h33_4, h33_2, h33_6, h0_9, h0_7]
    by_cases h : bv T s p = c
    · rw [bI_t h, bI_t (by rw [h]; exact mb_nz (by omega))]
    · rw [bI_f h, bI_f (fun z => h ?_)]
      by_cases h0 : bv T s p = 0
      · rw [h0] at z
        have : nI 10 = nI c := z
        rw [nI_inj' (by omega) (by omega)] at this
        omega
      · rw [mb_nz h0, nI_inj' (by omega) (by omega)] at z
        exact z
  have P1 : ∀ (Q : Int32 → Mm → Prop) T', w_X12_peek n (v.1 0 7 + 1) v Q T' = Q (mb (bv T s (p + 1))) v := fun Q T' => by simp (disch := omega) only [↓mletE, ↓iletE, ↓jletE, ↓br_if, ↓br_ifn, ↓reduceIte, nl_lt, nl_gt, nl_le, nl_ge, nl_eq, nn_lt, nn_le, nn_eq, nl_add, nl_sub, nl_mul, nl_mulr, nn_add, nn_ix, nn_in, true_and, and_true, false_and, and_false, gI_if, gIj, gIr, gJ_if, gJi, gJr, gPr, gPi, gPj, hu_if, hv_if, Nat.reduceEqDiff, Nat.reduceLT, Nat.reduceLeDiff, eq_self, bIT, bIF, Nat.add_zero, Nat.add_assoc, Nat.reduceAdd, nb0, nb1, i10, i00, Bool.false_eq_true, not_true_eq_false, not_false_eq_true, reduceIte, ↓c_peek, ↓c_digit, ↓c_fail, cfl_0, ↓d_skip, ↓d_num0, ↓d_num1, ↓d_tw, gdC_t hTu, vblk_eq hTu, vval_eq hTu, vend_eq hTu, vok_eq hTu, vok1_eq hTu, vwm_eq hTu, pkC_eq hTu, dgI_eq, cb_lt, cb_gt, cb_le, cb_ge, cb_eq, cb_neg, ↓r_peek, ↓r_here, ↓r_is, okI_t, pkM_eq hTv, mb_eq, ↓r_isDigit, inM_mb, inM_nI, ↓r_isLetter, ↓r_isNoteLetter, orI_b, ↓d_bl, ↓d_no, ↓d_iw, gdM_t hTv, vblk_eq hTv, vval_eq hTv, vend_eq hTv, vok_eq hTv, vwm_eq hTv, ↓r_isPower, ipI_eq, ↓r_fail, ↓r_in, w_X12_must, w_X12_must_17, hBn, hP1, h33_4, h33_2, h33_6, h0_9, h0_7]
  unfold w_X12_isHead
  rw [I]
  by_cases h : bv T s p = c
  · rw [bI_t h]
    by_cases g : bv T s (p + 1) = 58
    · rw [bI_t (show bv T s p = c ∧ bv T s (p + 1) = 58 from ⟨h, g⟩)]
      simp (disch := omega) only [↓mletE, ↓iletE, ↓jletE, ↓br_if, ↓br_ifn, ↓reduceIte, nl_lt, nl_gt, nl_le, nl_ge, nl_eq, nn_lt, nn_le, nn_eq, nl_add, nl_sub, nl_mul, nl_mulr, nn_add, nn_ix, nn_in, true_and, and_true, false_and, and_false, gI_if, gIj, gIr, gJ_if, gJi, gJr, gPr, gPi, gPj, hu_if, hv_if, Nat.reduceEqDiff, Nat.reduceLT, Nat.reduceLeDiff, eq_self, bIT, bIF, Nat.add_zero, Nat.add_assoc, Nat.reduceAdd, nb0, nb1, i10, i00, Bool.false_eq_true, not_true_eq_false, not_false_eq_true, reduceIte, ↓P1, mb_eq, eq_true g, w_X12_isHead_28]
    · rw [bI_f (fun z : bv T s p = c ∧ bv T s (p + 1) = 58 => g z.2)]
      simp (disch := omega) only [↓mletE, ↓iletE, ↓jletE, ↓br_if, ↓br_ifn, ↓reduceIte, nl_lt, nl_gt, nl_le, nl_ge, nl_eq, nn_lt, nn_le, nn_eq, nl_add, nl_sub, nl_mul, nl_mulr, nn_add, nn_ix, nn_in, true_and, and_true, false_and, and_false, gI_if, gIj, gIr, gJ_if, gJi, gJr, gPr, gPi, gPj, hu_if, hv_if, Nat.reduceEqDiff, Nat.reduceLT, Nat.reduceLeDiff, eq_self, bIT, bIF, Nat.add_zero, Nat.add_assoc, Nat.reduceAdd, nb0, nb1, i10, i00, Bool.false_eq_true, not_true_eq_false, not_false_eq_true, reduceIte, ↓P1, mb_eq, eq_false g, w_X12_isHead_27, w_X12_isHead_28]
  · rw [bI_f h, bI_f (fun z : bv T s p = c ∧ bv T s (p + 1) = 58 => h z.1)]
    simp (disch := omega) only [↓mletE, ↓iletE, ↓jletE, ↓br_if, ↓br_ifn, ↓reduceIte, nl_lt, nl_gt, nl_le, nl_ge, nl_eq, nn_lt, nn_le, nn_eq, nl_add, nl_sub, nl_mul, nl_mulr, nn_add, nn_ix, nn_in, true_and, and_true, false_and, and_false, gI_if, gIj, gIr, gJ_if, gJi, gJr, gPr, gPi, gPj, hu_if, hv_if, Nat.reduceEqDiff, Nat.reduceLT, Nat.reduceLeDiff, eq_self, bIT, bIF, Nat.add_zero, Nat.add_assoc, Nat.reduceAdd, nb0, nb1, i10, i00, Bool.false_eq_true, not_true_eq_false, not_false_eq_true, reduceIte, w_X12_isHead_27, w_X12_isHead_28]
/-- behind the loop of heads -/
theorem c_120 {n : Nat} {u : Mm} : ∃ u', (∀ Q, w_X1_readHeads_120 n u Q = Q u') ∧ (u' = u ∨ ∃ x, u' = setI u 43 4 x) := by
  have i4 : vp_in (4 : Int32) 10 = True := nn_in (a := 4) (by omega)
  have x4 : ix (4 : Int32) = 4 := rfl
  have E8 : ∀ Q, w_X1_readHeads_169 n 0 u Q = Q (setI u 43 4 8) := fun Q => by simp (disch := omega) only [↓mletE, ↓iletE, ↓jletE, ↓br_if, ↓br_ifn, ↓reduceIte, nl_lt, nl_gt, nl_le, nl_ge, nl_eq, nn_lt, nn_le, nn_eq, nl_add, nl_sub, nl_mul, nl_mulr, nn_add, nn_ix, nn_in, true_and, and_true, false_and, and_false, gI_if, gIj, gIr, gJ_if, gJi, gJr, gPr, gPi, gPj, hu_if, hv_if, Nat.reduceEqDiff, Nat.reduceLT, Nat.reduceLeDiff, eq_self, bIT, bIF, Nat.add_zero, Nat.add_assoc, Nat.reduceAdd, nb0, nb1, i10, i00, Bool.false_eq_true, not_true_eq_false, not_false_eq_true, reduceIte, w_X1_readHeads_169, w_X1_readHeads_189, w_X1_readHeads_190, i4, x4]
  have E16 : ∀ Q, w_X1_readHeads_169 n 1 u Q = Q (setI u 43 4 16) := fun Q => by simp (disch := omega) only [↓mletE, ↓iletE, ↓jletE, ↓br_if, ↓br_ifn, ↓reduceIte, nl_lt, nl_gt, nl_le, nl_ge, nl_eq, nn_lt, nn_le, nn_eq, nl_add, nl_sub, nl_mul, nl_mulr, nn_add, nn_ix, nn_in, true_and, and_true, false_and, and_false, gI_if, gIj, gIr, gJ_if, gJi, gJr, gPr, gPi, gPj, hu_if, hv_if, Nat.reduceEqDiff, Nat.reduceLT, Nat.reduceLeDiff, eq_self, bIT, bIF, Nat.add_zero, Nat.add_assoc, Nat.reduceAdd, nb0, nb1, i10, i00, Bool.false_eq_true, not_true_eq_false, not_false_eq_true, reduceIte, w_X1_readHeads_169, w_X1_readHeads_189, w_X1_readHeads_190, i4, x4]
  by_cases h1 : u.1 37 4 = 0
  · by_cases h2 : u.1 43 (ix 2) ≤ 0
    · exact ⟨_, fun Q => by unfold w_X1_readHeads_120 w_X1_readHeads_168; simp only [br_if, br_ifn, eq_true h1, eq_true h2, if_true]; exact E8 Q, Or.inr ⟨_, rfl⟩⟩
    · by_cases h3 : (3 : Int32) * u.1 43 (ix 3) ≤ 4 * u.1 43 (ix 2)
      · exact ⟨_, fun Q => by unfold w_X1_readHeads_120 w_X1_readHeads_168; simp only [br_if, br_ifn, eq_true h1, eq_false h2, eq_true h3, if_true, if_false]; exact E8 Q, Or.inr ⟨_, rfl⟩⟩
      · exact ⟨_, fun Q => by unfold w_X1_readHeads_120; simp only [br_if, br_ifn, eq_true h1, eq_false h2, eq_false h3, if_true, if_false]; exact E16 Q, Or.inr ⟨_, rfl⟩⟩
  · exact ⟨u, fun Q => by unfold w_X1_readHeads_120; simp only [br_ifn, eq_false h1, if_false, w_X1_readHeads_190], Or.inl rfl⟩
theorem h19_f {n k : Nat} {x1 x2 : Int32} {u : Mm} (hok : jOk u) (hf : u.1 33 6 ≠ 0) : jSv u (fun Q => w_X1_readHeads_19 n Q (k + 1) x1 x2 u) := by
  obtain ⟨u', e1, e2⟩ := c_120 (n := n) (u := u)
  have E : ∀ Q, w_X1_readHeads_19 n Q (k + 1) x1 x2 u = Q u' := fun Q => by
    rw [w_X1_readHeads_19]
    by_cases h1 : (2000 : Int32) < x2
    · rw [br_if, if_pos h1, e1]
    · rw [br_if, if_neg h1, br_ifn, if_neg hf, e1]
  refine ⟨u', fun Q => Iff.of_eq (E Q), ?_, ?_, ?_⟩
  · rcases e2 with h | ⟨x, h⟩
    · rw [h]; exact jKc.refl hok
    · rw [h]; exact (jKc.refl hok).set (by omega) (by omega)
  · rcases e2 with h | ⟨x, h⟩ <;> rw [h]
    simp (disch := omega) only [gIs, gIn, gIj, gIr, gJs, gJn, gJi, gJr, gPr, gPi, gPj, hu_s, hu_n, hv_s, hv_n]
  · rcases e2 with h | ⟨x, h⟩ <;> rw [h]
    simp (disch := omega) only [gIs, gIn, gIj, gIr, gJs, gJn, gJi, gJr, gPr, gPi, gPj, hu_s, hu_n, hv_s, hv_n]
theorem ms_f {n : Nat} {u : Mm} {Q : Mm → Prop} (hf : u.1 33 6 ≠ 0) : w_X5_mustStop n u Q = Q u := by
  unfold w_X5_mustStop
  by_cases h1 : u.1 33 4 ≤ u.1 33 2
  · simp only [br_if, eq_true h1, if_true, w_X5_mustStop_20]
  · simp only [br_if, eq_false h1, if_false, ↓c_fail, cfl_n hf, w_X5_mustStop_20]
theorem msh_f {n k : Nat} {x1 x2 : Int32} {u : Mm} (hok : jOk u) (hf : u.1 33 6 ≠ 0) : jSv u (fun Q => w_X5_mustStop n u (fun u7 => w_X1_readHeads_19 n Q (k + 1) x1 x2 u7)) := by
  obtain ⟨u', e1, e2⟩ := h19_f (n := n) (k := k) (x1 := x1) (x2 := x2) hok hf
  exact ⟨u', fun Q => (Iff.of_eq (ms_f hf)).trans (e1 Q), e2⟩
