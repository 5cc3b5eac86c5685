/-! a thing is added on both sides -/
def adP (c w m so : Nat) (sort pl : Int32) (u v u1 v1 : Mm) : Prop := ((∀ q, q ≠ 36 → q ≠ 46 → u1.1 q = u.1 q) ∧ (∀ k, k ≠ 3 → u1.1 36 k = u.1 36 k) ∧ (∀ q, q ≠ 47 → q ≠ 48 → u1.2.1 q = u.2.1 q) ∧ u1.2.2 = u.2.2) ∧ ((∀ k, k ≠ 27 → v1.1 0 k = v.1 0 k) ∧ (∀ q, q ≠ 0 → q ≠ 6 → q ≠ 9 → q ≠ 10 → q ≠ 11 → v1.1 q = v.1 q) ∧ (∀ q, q ≠ 7 → q ≠ 8 → v1.2.1 q = v.2.1 q)) ∧ ((∀ i, i < 17 * c → v1.1 6 i = v.1 6 i) ∧ (∀ i, i < c → v1.2.1 7 i = v.2.1 7 i) ∧ (∀ i, i ≠ c → v1.1 9 i = v.1 9 i)) ∧ (v1.1 6 (17 * c) = sort ∧ v1.1 6 (17 * c + 1) = nI (w + 1) ∧ v1.1 6 (17 * c + 2) = nI (m - so) ∧ v1.1 6 (17 * c + 16) = pl ∧ (∀ k, 3 ≤ k → k < 16 → v1.1 6 (17 * c + k) = 0)) ∧ (∃ k : Nat, v1.1 9 c = nI k ∧ okUn k) ∧ (∀ i, v1.1 10 i = if i = c then 0 else v.1 10 i) ∧ (∀ i, v1.1 11 i = if i = c then 0 else v.1 11 i)
theorem S_add {z : Mm × Mm} {n : Nat} {T : Nat → Nat} {sz B e s p c c0 w m so : Nat} {sort pl : Int32} {u v : Mm} (hn : 5000 ≤ n) (hR : Rm z T sz B e s p c c0 w u v) (hmw : eMw w m so u v) : (∃ u1 v1, c < 400 ∧ (∀ Q, w_X4_addThing n sort pl u Q = Q (nI c) u1) ∧ (∀ Q T', w_X12_newThing n sort pl v Q T' = Q (nI c) v1) ∧ Rm z T sz B e s p (c + 1) c0 w u1 v1 ∧ eMw w m so u1 v1 ∧ adP c w m so sort pl u v u1 v1) ∨ (∃ u' v', (∀ Q, w_X4_addThing n sort pl u Q = Q (-1) u') ∧ (∀ Q T', w_X12_newThing n sort pl v Q T' = T' v') ∧ jFl z u' v' ∧ u' = setI (setI u 33 6 2) 33 7 pl) := by
  have hC := hR.2.2.2.1
  have hc := hC.2.2.1
  have hW := hR.2.2.2.2.2.2.2.2.1
  have hw := hW.1
  have hKc := hR.1.1
  have hKm := hR.1.2.1
  have h33_6 := hR.1.2.2
  rcases Nat.lt_or_ge c 400 with hc4 | hc4
  · obtain ⟨-, -, kU, ku1, ku2, ku3⟩ := hR.2.2.2.2.2.1 w hw
    have A1 : ∀ Q, w_X4_addThing n sort pl u Q = Q (nI c) (aT c sort pl (nI (w + 1)) (nI (m - so)) (nI kU) (v.2.1 16 w) u) := fun Q => by
      rw [c_addThing hn hc4 hw hmw.1 hmw.2.2.1 hmw.2.1 hC.1 hW.2.2.2.1 hmw.2.2.2.1 hmw.2.2.2.2.2.1]
      rw [hW.2.1, ku1, hmw.2.2.2.2.2.2.2.2.1]
    have A2 : ∀ Q T', w_X12_newThing n sort pl v Q T' = Q (nI c) (mT c sort pl (nI (w + 1)) (nI (m - so)) (nI kU) (v.2.1 16 w) v) := fun Q T' => by
      rw [r_new hn hc4 hw hC.2.1 hW.2.2.1 hmw.2.2.2.2.2.2.2.1, ku2]
    refine Or.inl ⟨_, _, hc4, A1, A2, hR.new (m := m) (so := so) (sort := sort) (pl := pl) (un := nI kU) (now := v.2.1 16 w) hc4, ?_, ⟨fun q h1 h2 => aT_1 h1 h2, fun k hk => by rw [aT_36, if_neg hk], fun q h1 h2 => aT_J h1 h2, rfl⟩, ⟨fun k hk => by rw [mT_0, if_neg hk], fun q g0 g1 g2 g3 g4 => mT_1 g0 g1 g2 g3 g4, fun q h1 h2 => mT_J h1 h2⟩, ⟨fun i hi => mT_lo hi, fun i hi => by rw [mT_7, if_neg (by omega)], fun i hi => by rw [mT_9, if_neg hi]⟩, ⟨by rw [mT_6, if_neg (by omega), if_neg (by omega), if_neg (by omega), if_pos rfl], by rw [mT_6, if_neg (by omega), if_neg (by omega), if_pos rfl], by rw [mT_6, if_neg (by omega), if_pos rfl], by rw [mT_6, if_pos rfl], fun k h1 h2 => by rw [mT_6, if_neg (by omega), if_neg (by omega), if_neg (by omega), if_neg (by omega), if_pos (by omega)]⟩, ⟨kU, by rw [mT_9, if_pos rfl], ku3⟩, fun i => mT_10, fun i => mT_11⟩
    refine hmw.cg ?_ ?_ ?_ ?_ ?_ ?_ ?_ ?_ ?_ (fun j _ => ?_) (fun j _ => ?_)
    · rw [aT_1 (by omega) (by omega)]
    · rw [aT_1 (by omega) (by omega)]
    · rw [aT_J (by omega) (by omega)]
    · rw [aT_J (by omega) (by omega)]
    · rw [aT_J (by omega) (by omega)]
    · rw [mT_1 (by omega) (by omega) (by omega) (by omega) (by omega)]
    · rw [mT_1 (by omega) (by omega) (by omega) (by omega) (by omega)]
    · rw [mT_1 (by omega) (by omega) (by omega) (by omega) (by omega)]
    · rw [mT_J (by omega) (by omega)]
    · rw [mT_J (by omega) (by omega)]
    · rw [mT_J (by omega) (by omega)]
  · obtain rfl : c = 400 := by omega
    have m1 : ¬ (0 : Int32) ≤ -1 := by decide
    refine Or.inr ⟨setI (setI u 33 6 2) 33 7 pl, _, fun Q => ?_, fun Q T' => r_new_full hC.2.1, jFl_mk (by repeat (first | exact hKc | refine jKc.set ?_ (by omega) (by omega) | refine jKc.setJ ?_ (by omega))) (by repeat (first | exact hKm | refine jKm.set ?_ (by omega) (by omega) | refine jKm.setJ ?_ (by omega))) (w := 2) (pl := pl) (by simp (disch := omega) only [↓mletE, ↓iletE, ↓jletE, ↓br_if, ↓br_ifn, ↓reduceIte, nl_lt, nl_gt, nl_le, nl_ge, nl_eq, nn_lt, nn_le, nn_eq, nl_add, nl_sub, nl_mul, nl_mulr, nn_add, nn_ix, nn_in, true_and, and_true, false_and, and_false, gI_if, gIj, gIr, gJ_if, gJi, gJr, gPr, gPi, gPj, hu_if, hv_if, Nat.reduceEqDiff, Nat.reduceLT, Nat.reduceLeDiff, eq_self, bIT, bIF, Nat.add_zero, Nat.add_assoc, Nat.reduceAdd, nb0, nb1, i10, i00, Bool.false_eq_true, not_true_eq_false, not_false_eq_true, reduceIte]) (by simp (disch := omega) only [↓mletE, ↓iletE, ↓jletE, ↓br_if, ↓br_ifn, ↓reduceIte, nl_lt, nl_gt, nl_le, nl_ge, nl_eq, nn_lt, nn_le, nn_eq, nl_add, nl_sub, nl_mul, nl_mulr, nn_add, nn_ix, nn_in, true_and, and_true, false_and, and_false, gI_if, gIj, gIr, gJ_if, gJi, gJr, gPr, gPi, gPj, hu_if, hv_if, Nat.reduceEqDiff, Nat.reduceLT, Nat.reduceLeDiff, eq_self, bIT, bIF, Nat.add_zero, Nat.add_assoc, Nat.reduceAdd, nb0, nb1, i10, i00, Bool.false_eq_true, not_true_eq_false, not_false_eq_true, reduceIte]) (by simp (disch := omega) only [↓mletE, ↓iletE, ↓jletE, ↓br_if, ↓br_ifn, ↓reduceIte, nl_lt, nl_gt, nl_le, nl_ge, nl_eq, nn_lt, nn_le, nn_eq, nl_add, nl_sub, nl_mul, nl_mulr, nn_add, nn_ix, nn_in, true_and, and_true, false_and, and_false, gI_if, gIj, gIr, gJ_if, gJi, gJr, gPr, gPi, gPj, hu_if, hv_if, Nat.reduceEqDiff, Nat.reduceLT, Nat.reduceLeDiff, eq_self, bIT, bIF, Nat.add_zero, Nat.add_assoc, Nat.reduceAdd, nb0, nb1, i10, i00, Bool.false_eq_true, not_true_eq_false, not_false_eq_true, reduceIte]) (by simp (disch := omega) only [↓mletE, ↓iletE, ↓jletE, ↓br_if, ↓br_ifn, ↓reduceIte, nl_lt, nl_gt, nl_le, nl_ge, nl_eq, nn_lt, nn_le, nn_eq, nl_add, nl_sub, nl_mul, nl_mulr, nn_add, nn_ix, nn_in, true_and, and_true, false_and, and_false, gI_if, gIj, gIr, gJ_if, gJi, gJr, gPr, gPi, gPj, hu_if, hv_if, Nat.reduceEqDiff, Nat.reduceLT, Nat.reduceLeDiff, eq_self, bIT, bIF, Nat.add_zero, Nat.add_assoc, Nat.reduceAdd, nb0, nb1, i10, i00, Bool.false_eq_true, not_true_eq_false, not_false_eq_true, reduceIte]) (by decide), rfl⟩
    unfold w_X4_addThing
    rw [c_add_full hC.1]
    simp (disch := omega) only [↓mletE, ↓iletE, ↓jletE, ↓br_if, ↓br_ifn, ↓reduceIte, nl_lt, nl_gt, nl_le, nl_ge, nl_eq, nn_lt, nn_le, nn_eq, nl_add, nl_sub, nl_mul, nl_mulr, nn_add, nn_ix, nn_in, true_and, and_true, false_and, and_false, gI_if, gIj, gIr, gJ_if, gJi, gJr, gPr, gPi, gPj, hu_if, hv_if, Nat.reduceEqDiff, Nat.reduceLT, Nat.reduceLeDiff, eq_self, bIT, bIF, Nat.add_zero, Nat.add_assoc, Nat.reduceAdd, nb0, nb1, i10, i00, Bool.false_eq_true, not_true_eq_false, not_false_eq_true, reduceIte, m1, ↓c_fail, h33_6, cfl_0]
/-- what a timed leaves -/
def timP (z : Mm × Mm) (T : Nat → Nat) (sz B e s p c w : Nat) (u' v' : Mm) : Prop := ∃ q cnt m srt, p < q ∧ 1 ≤ cnt ∧ cnt ≤ 12 ∧ finP z T sz B e s q c cnt w m srt u' v' ∧ (srt = 0 ∨ cnt = 1)
theorem S_single {z : Mm × Mm} {n : Nat} {T : Nat → Nat} {sz B e s p c w : Nat} {u v : Mm} (hn : 5000 ≤ n) (hR : Rm z T sz B e s p c c w u v) (hb1 : bv T s p ≠ 91) (hb2 : bv T s p ≠ 122) (hb3 : bv T s p ≠ 120) : jV z (fun Q => w_X4_readSingle n u Q) (fun Q T' => w_X12_readTimed n v Q T') (timP z T sz B e s p c w) := by
  have hx := hR.tx
  have h27 := hR.2.2.2.1.2.1
  obtain ⟨hKc, hKm, hTu, hTv, hB, hP1, h33_4, h33_2, h33_6, h0_9, h0_7, hps⟩ := hx
  rcases S_ent (n := n) (pl := nI p) hR with ⟨u1, v1, m, E1, E2, hR1, hm1, k1, k2, k3, k4⟩ | ⟨v1, E1, E2, K, f6, f7⟩
  · clear hKc hKm hTu hTv hP1 h33_4 h33_2 h33_6 h0_9
    have h36 := hR1.2.2.2.1.1
    obtain ⟨hKc, hKm, hTu, hTv, hB, hP1, h33_4, h33_2, h33_6, h0_9, h0_7', hps⟩ := hR1.tx
    have hss := hTu.1
    have b0 := hTu.le p (by omega)
    have hBn : ∀ q, q < 41 → (B = q) = False := fun q hq => eq_false (by omega)
    refine jV_cong (fun Q => ?_) (fun Q T' => ?_) (jV_mono (S_one hn hR1 hm1) (fun u' v' h => ?_))
    · simp (disch := omega) only [↓mletE, ↓iletE, ↓jletE, ↓br_if, ↓br_ifn, ↓reduceIte, nl_lt, nl_gt, nl_le, nl_ge, nl_eq, nn_lt, nn_le, nn_eq, nl_add, nl_sub, nl_mul, nl_mulr, nn_add, nn_ix, nn_in, true_and, and_true, false_and, and_false, gI_if, gIj, gIr, gJ_if, gJi, gJr, gPr, gPi, gPj, hu_if, hv_if, Nat.reduceEqDiff, Nat.reduceLT, Nat.reduceLeDiff, eq_self, bIT, bIF, Nat.add_zero, Nat.add_assoc, Nat.reduceAdd, nb0, nb1, i10, i00, Bool.false_eq_true, not_true_eq_false, not_false_eq_true, reduceIte, w_X4_readSingle, E1, h36]
    · unfold w_X12_readTimed
      rw [h0_7, h27]
      simp (disch := omega) only [↓mletE, ↓iletE, ↓jletE, ↓br_if, ↓br_ifn, ↓reduceIte, nl_lt, nl_gt, nl_le, nl_ge, nl_eq, nn_lt, nn_le, nn_eq, nl_add, nl_sub, nl_mul, nl_mulr, nn_add, nn_ix, nn_in, true_and, and_true, false_and, and_false, gI_if, gIj, gIr, gJ_if, gJi, gJr, gPr, gPi, gPj, hu_if, hv_if, Nat.reduceEqDiff, Nat.reduceLT, Nat.reduceLeDiff, eq_self, bIT, bIF, Nat.add_zero, Nat.add_assoc, Nat.reduceAdd, nb0, nb1, i10, i00, Bool.false_eq_true, not_true_eq_false, not_false_eq_true, reduceIte, ↓c_peek, ↓c_digit, ↓c_fail, cfl_0, ↓d_skip, ↓d_num0, ↓d_num1, ↓d_tw, gdC_t hTu, vblk_eq hTu, vval_eq hTu, vend_eq hTu, vok_eq hTu, vok1_eq hTu, vwm_eq hTu, pkC_eq hTu, dgI_eq, cb_lt, cb_gt, cb_le, cb_ge, cb_eq, cb_neg, ↓r_peek, ↓r_here, ↓r_is, okI_t, pkM_eq hTv, mb_eq, ↓r_isDigit, inM_mb, inM_nI, ↓r_isLetter, ↓r_isNoteLetter, orI_b, ↓d_bl, ↓d_no, ↓d_iw, gdM_t hTv, vblk_eq hTv, vval_eq hTv, vend_eq hTv, vok_eq hTv, vwm_eq hTv, ↓r_isPower, ipI_eq, ↓r_fail, ↓r_in, w_X12_must, w_X12_must_17, hBn, hP1, h33_4, h33_2, h33_6, h0_9, h0_7, ↓E2, eq_false hb1, eq_false hb2, eq_false hb3, h0_7']
    · obtain ⟨q, q1, q2, q3⟩ := h
      exact ⟨q, 1, m, 0, q1, by omega, by omega, q2, Or.inr rfl⟩
  · refine jV_eqT (u := setI (setI u 33 6 2) 33 7 (nI p)) (fun Q => ?_) (fun Q T' => ?_) (jFl_mk (by repeat (first | exact hKc | refine jKc.set ?_ (by omega) (by omega) | refine jKc.setJ ?_ (by omega))) K (w := 2) (pl := nI p) (by simp (disch := omega) only [↓mletE, ↓iletE, ↓jletE, ↓br_if, ↓br_ifn, ↓reduceIte, nl_lt, nl_gt, nl_le, nl_ge, nl_eq, nn_lt, nn_le, nn_eq, nl_add, nl_sub, nl_mul, nl_mulr, nn_add, nn_ix, nn_in, true_and, and_true, false_and, and_false, gI_if, gIj, gIr, gJ_if, gJi, gJr, gPr, gPi, gPj, hu_if, hv_if, Nat.reduceEqDiff, Nat.reduceLT, Nat.reduceLeDiff, eq_self, bIT, bIF, Nat.add_zero, Nat.add_assoc, Nat.reduceAdd, nb0, nb1, i10, i00, Bool.false_eq_true, not_true_eq_false, not_false_eq_true, reduceIte]) (by simp (disch := omega) only [↓mletE, ↓iletE, ↓jletE, ↓br_if, ↓br_ifn, ↓reduceIte, nl_lt, nl_gt, nl_le, nl_ge, nl_eq, nn_lt, nn_le, nn_eq, nl_add, nl_sub, nl_mul, nl_mulr, nn_add, nn_ix, nn_in, true_and, and_true, false_and, and_false, gI_if, gIj, gIr, gJ_if, gJi, gJr, gPr, gPi, gPj, hu_if, hv_if, Nat.reduceEqDiff, Nat.reduceLT, Nat.reduceLeDiff, eq_self, bIT, bIF, Nat.add_zero, Nat.add_assoc, Nat.reduceAdd, nb0, nb1, i10, i00, Bool.false_eq_true, not_true_eq_false, not_false_eq_true, reduceIte]) f6 f7 (by decide))
    · simp (disch := omega) only [↓mletE, ↓iletE, ↓jletE, ↓br_if, ↓br_ifn, ↓reduceIte, nl_lt, nl_gt, nl_le, nl_ge, nl_eq, nn_lt, nn_le, nn_eq, nl_add, nl_sub, nl_mul, nl_mulr, nn_add, nn_ix, nn_in, true_and, and_true, false_and, and_false, gI_if, gIj, gIr, gJ_if, gJi, gJr, gPr, gPi, gPj, hu_if, hv_if, Nat.reduceEqDiff, Nat.reduceLT, Nat.reduceLeDiff, eq_self, bIT, bIF, Nat.add_zero, Nat.add_assoc, Nat.reduceAdd, nb0, nb1, i10, i00, Bool.false_eq_true, not_true_eq_false, not_false_eq_true, reduceIte, w_X4_readSingle, E1, ↓c_fail, h33_6, cfl_0, h33_2]
    · unfold w_X12_readTimed
      rw [h0_7, h27, iletE, iletE, E2]
