/-! the key -/
theorem wl20 : wl 20 = wl 0 := by rw [wl_20, wl_0]
theorem wl21 : wl 21 = wl 6 := by rw [wl_21, wl_6]
theorem wl22 : wl 22 = wl 7 := by rw [wl_22, wl_7]
theorem wl23 : wl 23 = wl 13 := by rw [wl_23, wl_13]
theorem wl24 : wl 24 = wl 14 := by rw [wl_24, wl_14]
theorem wl25 : wl 25 = wl 8 := by rw [wl_25, wl_8]
theorem wl26 : wl 26 = wl 9 := by rw [wl_26, wl_9]
theorem wl27 : wl 27 = wl 10 := by rw [wl_27, wl_10]
theorem wl28 : wl 28 = wl 11 := by rw [wl_28, wl_11]
theorem wl29 : wl 29 = wl 12 := by rw [wl_29, wl_12]
theorem wl30 : wl 30 = wl 15 := by rw [wl_30, wl_15]
theorem wd_13 {T : Nat → Nat} {s p : Nat} (h : wm T s p (wl 13) = true) : bv T s p = 109 ∧ bv T s (p + 1) = 105 ∧ bv T s (p + 2) = 110 := by
  rw [wl_13] at h; simpa [wm, Nat.add_assoc] using h
theorem wd_14 {T : Nat → Nat} {s p : Nat} (h : wm T s p (wl 14) = true) : bv T s p = 97 ∧ bv T s (p + 1) = 101 ∧ bv T s (p + 2) = 111 := by
  rw [wl_14] at h; simpa [wm, Nat.add_assoc] using h
/-- a word that is there ends in the line -/
theorem wm_end {T : Nat → Nat} {s a p : Nat} (ha : a < 31) (h0 : 0 < wn a) (h : wm T s p (wl a) = true) (hp : p ≤ s) : p + wn a ≤ s := by
  rcases Nat.lt_or_ge s (p + wn a) with h1 | h1
  · have := wm_out (T := T) (s := s) ha (wn a) 0 p (by omega) h0 h1 hp
    rw [List.drop_zero, h] at this
    exact absurd this (by decide)
  · exact h1
def mdD (T : Nat → Nat) (s p : Nat) : Int32 := if wm T s p (wl 6) = true then 0 else if wm T s p (wl 7) = true then 0 else if wm T s p (wl 8) = true then -2 else if wm T s p (wl 9) = true then -4 else if wm T s p (wl 10) = true then 1 else if wm T s p (wl 11) = true then -1 else if wm T s p (wl 12) = true then -5 else if wm T s p (wl 13) = true then -3 else if wm T s p (wl 14) = true then -3 else if wm T s p (wl 15) = true then -3 else 0
def mdW (T : Nat → Nat) (s p : Nat) : Nat := if wm T s p (wl 6) = true then 3 else if wm T s p (wl 7) = true then 3 else if wm T s p (wl 8) = true then 3 else if wm T s p (wl 9) = true then 3 else if wm T s p (wl 10) = true then 3 else if wm T s p (wl 11) = true then 3 else if wm T s p (wl 12) = true then 3 else if wm T s p (wl 13) = true then 3 else if wm T s p (wl 14) = true then 3 else if wm T s p (wl 15) = true then 1 else 0
theorem mdW_le {T : Nat → Nat} {s p : Nat} (hp : p ≤ s) : p + mdW T s p ≤ s := by
  unfold mdW
  by_cases h6 : wm T s p (wl 6) = true
  · rw [if_pos h6]; have := wm_end (by omega) (by rw [wn_6]; omega) h6 hp; rwa [wn_6] at this
  · rw [if_neg h6]
    by_cases h7 : wm T s p (wl 7) = true
    · rw [if_pos h7]; have := wm_end (by omega) (by rw [wn_7]; omega) h7 hp; rwa [wn_7] at this
    · rw [if_neg h7]
      by_cases h8 : wm T s p (wl 8) = true
      · rw [if_pos h8]; have := wm_end (by omega) (by rw [wn_8]; omega) h8 hp; rwa [wn_8] at this
      · rw [if_neg h8]
        by_cases h9 : wm T s p (wl 9) = true
        · rw [if_pos h9]; have := wm_end (by omega) (by rw [wn_9]; omega) h9 hp; rwa [wn_9] at this
        · rw [if_neg h9]
          by_cases h10 : wm T s p (wl 10) = true
          · rw [if_pos h10]; have := wm_end (by omega) (by rw [wn_10]; omega) h10 hp; rwa [wn_10] at this
          · rw [if_neg h10]
            by_cases h11 : wm T s p (wl 11) = true
            · rw [if_pos h11]; have := wm_end (by omega) (by rw [wn_11]; omega) h11 hp; rwa [wn_11] at this
            · rw [if_neg h11]
              by_cases h12 : wm T s p (wl 12) = true
              · rw [if_pos h12]; have := wm_end (by omega) (by rw [wn_12]; omega) h12 hp; rwa [wn_12] at this
              · rw [if_neg h12]
                by_cases h13 : wm T s p (wl 13) = true
                · rw [if_pos h13]; have := wm_end (by omega) (by rw [wn_13]; omega) h13 hp; rwa [wn_13] at this
                · rw [if_neg h13]
                  by_cases h14 : wm T s p (wl 14) = true
                  · rw [if_pos h14]; have := wm_end (by omega) (by rw [wn_14]; omega) h14 hp; rwa [wn_14] at this
                  · rw [if_neg h14]
                    by_cases h15 : wm T s p (wl 15) = true
                    · rw [if_pos h15]; have := wm_end (by omega) (by rw [wn_15]; omega) h15 hp; rwa [wn_15] at this
                    · rw [if_neg h15]; omega
theorem mdD_bd {T : Nat → Nat} {s p : Nat} : -5 ≤ (mdD T s p).toInt ∧ (mdD T s p).toInt ≤ 1 := by
  unfold mdD
  repeat' split
  all_goals decide
def gmo (n B : Nat) (f : Nat → Int32) (s a : Int32) (u : Mm) (Q : Int32 → Mm → Prop) : Prop := (u.2.2 1 = B ∧ u.1 B = f ∧ u.1 33 4 = s ∧ u.1 33 2 = a → w_X0_readMode n u Q) ∧ (¬ (u.2.2 1 = B ∧ u.1 B = f ∧ u.1 33 4 = s ∧ u.1 33 2 = a) → Q (mdD (fun i => ix (f i)) (ix s) (ix a)) (setI u 33 2 (nI (ix a + mdW (fun i => ix (f i)) (ix s) (ix a)))))
theorem c_mode {n : Nat} {u : Mm} {Q : Int32 → Mm → Prop} : w_X0_readMode n u Q = gmo n (u.2.2 1) (u.1 (u.2.2 1)) (u.1 33 4) (u.1 33 2) u Q := by
  unfold gmo
  exact propext ⟨fun h => ⟨fun _ => h, fun z => absurd ⟨rfl, rfl, rfl, rfl⟩ z⟩, fun h => h.1 ⟨rfl, rfl, rfl, rfl⟩⟩
theorem gmo_eq {n B : Nat} {T : Nat → Nat} {s p : Nat} {f : Nat → Int32} {u : Mm} {Q : Int32 → Mm → Prop} (hT : jT T s p f) {q : Nat} (h : B ≠ 33 ∧ 5000 ≤ n ∧ p ≤ q ∧ q ≤ s) : gmo n B f (nI s) (nI q) u Q = Q (mdD T s q) (setI u 33 2 (nI (q + mdW T s q))) := by
  have hs := hT.1
  obtain ⟨hB, hn, hpq, hqs⟩ := h
  unfold gmo
  by_cases hc : u.2.2 1 = B ∧ u.1 B = f ∧ u.1 33 4 = nI s ∧ u.1 33 2 = nI q
  · rw [br_pos hc]
    obtain ⟨h1, h2, h3, h4⟩ := hc
    have e : ∀ a, a < 31 → ∀ Q, w_X5_takeWord n a u Q = if wm T s q (wl a) = true then Q 1 (setI u 33 2 (nI (q + wn a))) else Q 0 u := fun a ha Q => by
      rw [c_tw, h1, h2, h3, h4, gtw_eq hT ⟨ha, hn, hpq, hqs⟩]
    unfold mdD mdW w_X0_readMode w_X0_readMode_24 w_X0_readMode_135 w_X0_readMode_141
    rw [e 6 (by omega)]
    by_cases h6 : wm T s q (wl 6) = true
    · rw [if_pos h6, if_pos h6, if_pos h6]; simp (disch := omega) only [mlet, ilet, jlet, ↓br_if, ↓br_ifn, ↓reduceIte, nl_lt, nl_gt, nl_le, nl_ge, nl_eq, nn_lt, nn_le, nn_eq, nl_add, nl_sub, nl_mul, nl_mulr, nn_add, nn_ix, nn_in, true_and, and_true, false_and, and_false, gI_if, gIj, gIr, gJ_if, gJi, gJr, gPr, gPi, gPj, hu_if, hv_if, Nat.reduceEqDiff, Nat.reduceLT, Nat.reduceLeDiff, eq_self, bIT, bIF, Nat.add_zero, Nat.add_assoc, Nat.reduceAdd, nb0, nb1, i10, i00, Bool.false_eq_true, not_true_eq_false, not_false_eq_true, reduceIte, wn_6]
    · rw [if_neg h6, if_neg h6, if_neg h6]
      simp (disch := omega) only [mlet, ilet, jlet, ↓br_if, ↓br_ifn, ↓reduceIte, nl_lt, nl_gt, nl_le, nl_ge, nl_eq, nn_lt, nn_le, nn_eq, nl_add, nl_sub, nl_mul, nl_mulr, nn_add, nn_ix, nn_in, true_and, and_true, false_and, and_false, gI_if, gIj, gIr, gJ_if, gJi, gJr, gPr, gPi, gPj, hu_if, hv_if, Nat.reduceEqDiff, Nat.reduceLT, Nat.reduceLeDiff, eq_self, bIT, bIF, Nat.add_zero, Nat.add_assoc, Nat.reduceAdd, nb0, nb1, i10, i00, Bool.false_eq_true, not_true_eq_false, not_false_eq_true, reduceIte]
      rw [e 7 (by omega)]
      by_cases h7 : wm T s q (wl 7) = true
      · rw [if_pos h7, if_pos h7, if_pos h7]; simp (disch := omega) only [mlet, ilet, jlet, ↓br_if, ↓br_ifn, ↓reduceIte, nl_lt, nl_gt, nl_le, nl_ge, nl_eq, nn_lt, nn_le, nn_eq, nl_add, nl_sub, nl_mul, nl_mulr, nn_add, nn_ix, nn_in, true_and, and_true, false_and, and_false, gI_if, gIj, gIr, gJ_if, gJi, gJr, gPr, gPi, gPj, hu_if, hv_if, Nat.reduceEqDiff, Nat.reduceLT, Nat.reduceLeDiff, eq_self, bIT, bIF, Nat.add_zero, Nat.add_assoc, Nat.reduceAdd, nb0, nb1, i10, i00, Bool.false_eq_true, not_true_eq_false, not_false_eq_true, reduceIte, wn_7]
      · rw [if_neg h7, if_neg h7, if_neg h7]
        simp (disch := omega) only [mlet, ilet, jlet, ↓br_if, ↓br_ifn, ↓reduceIte, nl_lt, nl_gt, nl_le, nl_ge, nl_eq, nn_lt, nn_le, nn_eq, nl_add, nl_sub, nl_mul, nl_mulr, nn_add, nn_ix, nn_in, true_and, and_true, false_and, and_false, gI_if, gIj, gIr, gJ_if, gJi, gJr, gPr, gPi, gPj, hu_if, hv_if, Nat.reduceEqDiff, Nat.reduceLT, Nat.reduceLeDiff, eq_self, bIT, bIF, Nat.add_zero, Nat.add_assoc, Nat.reduceAdd, nb0, nb1, i10, i00, Bool.false_eq_true, not_true_eq_false, not_false_eq_true, reduceIte]
        rw [e 8 (by omega)]
        by_cases h8 : wm T s q (wl 8) = true
        · rw [if_pos h8, if_pos h8, if_pos h8]; simp (disch := omega) only [mlet, ilet, jlet, ↓br_if, ↓br_ifn, ↓reduceIte, nl_lt, nl_gt, nl_le, nl_ge, nl_eq, nn_lt, nn_le, nn_eq, nl_add, nl_sub, nl_mul, nl_mulr, nn_add, nn_ix, nn_in, true_and, and_true, false_and, and_false, gI_if, gIj, gIr, gJ_if, gJi, gJr, gPr, gPi, gPj, hu_if, hv_if, Nat.reduceEqDiff, Nat.reduceLT, Nat.reduceLeDiff, eq_self, bIT, bIF, Nat.add_zero, Nat.add_assoc, Nat.reduceAdd, nb0, nb1, i10, i00, Bool.false_eq_true, not_true_eq_false, not_false_eq_true, reduceIte, wn_8]
        · rw [if_neg h8, if_neg h8, if_neg h8]
          simp (disch := omega) only [mlet, ilet, jlet, ↓br_if, ↓br_ifn, ↓reduceIte, nl_lt, nl_gt, nl_le, nl_ge, nl_eq, nn_lt, nn_le, nn_eq, nl_add, nl_sub, nl_mul, nl_mulr, nn_add, nn_ix, nn_in, true_and, and_true, false_and, and_false, gI_if, gIj, gIr, gJ_if, gJi, gJr, gPr, gPi, gPj, hu_if, hv_if, Nat.reduceEqDiff, Nat.reduceLT, Nat.reduceLeDiff, eq_self, bIT, bIF, Nat.add_zero, Nat.add_assoc, Nat.reduceAdd, nb0, nb1, i10, i00, Bool.false_eq_true, not_true_eq_false, not_false_eq_true, reduceIte]
          rw [e 9 (by omega)]
          by_cases h9 : wm T s q (wl 9) = true
          · rw [if_pos h9, if_pos h9, if_pos h9]; simp (disch := omega) only [mlet, ilet, jlet, ↓br_if, ↓br_ifn, ↓reduceIte, nl_lt, nl_gt, nl_le, nl_ge, nl_eq, nn_lt, nn_le, nn_eq, nl_add, nl_sub, nl_mul, nl_mulr, nn_add, nn_ix, nn_in, true_and, and_true, false_and, and_false, gI_if, gIj, gIr, gJ_if, gJi, gJr, gPr, gPi, gPj, hu_if, hv_if, Nat.reduceEqDiff, Nat.reduceLT, Nat.reduceLeDiff, eq_self, bIT, bIF, Nat.add_zero, Nat.add_assoc, Nat.reduceAdd, nb0, nb1, i10, i00, Bool.false_eq_true, not_true_eq_false, not_false_eq_true, reduceIte, wn_9]
          · rw [if_neg h9, if_neg h9, if_neg h9]
            simp (disch := omega) only [mlet, ilet, jlet, ↓br_if, ↓br_ifn, ↓reduceIte, nl_lt, nl_gt, nl_le, nl_ge, nl_eq, nn_lt, nn_le, nn_eq, nl_add, nl_sub, nl_mul, nl_mulr, nn_add, nn_ix, nn_in, true_and, and_true, false_and, and_false, gI_if, gIj, gIr, gJ_if, gJi, gJr, gPr, gPi, gPj, hu_if, hv_if, Nat.reduceEqDiff, Nat.reduceLT, Nat.reduceLeDiff, eq_self, bIT, bIF, Nat.add_zero, Nat.add_assoc, Nat.reduceAdd, nb0, nb1, i10, i00, Bool.false_eq_true, not_true_eq_false, not_false_eq_true, reduceIte]
            rw [e 10 (by omega)]
            by_cases h10 : wm T s q (wl 10) = true
            · rw [if_pos h10, if_pos h10, if_pos h10]; simp (disch := omega) only [mlet, ilet, jlet, ↓br_if, ↓br_ifn, ↓reduceIte, nl_lt, nl_gt, nl_le, nl_ge, nl_eq, nn_lt, nn_le, nn_eq, nl_add, nl_sub, nl_mul, nl_mulr, nn_add, nn_ix, nn_in, true_and, and_true, false_and, and_false, gI_if, gIj, gIr, gJ_if, gJi, gJr, gPr, gPi, gPj, hu_if, hv_if, Nat.reduceEqDiff, Nat.reduceLT, Nat.reduceLeDiff, eq_self, bIT, bIF, Nat.add_zero, Nat.add_assoc, Nat.reduceAdd, nb0, nb1, i10, i00, Bool.false_eq_true, not_true_eq_false, not_false_eq_true, reduceIte, wn_10]
            · rw [if_neg h10, if_neg h10, if_neg h10]
              simp (disch := omega) only [mlet, ilet, jlet, ↓br_if, ↓br_ifn, ↓reduceIte, nl_lt, nl_gt, nl_le, nl_ge, nl_eq, nn_lt, nn_le, nn_eq, nl_add, nl_sub, nl_mul, nl_mulr, nn_add, nn_ix, nn_in, true_and, and_true, false_and, and_false, gI_if, gIj, gIr, gJ_if, gJi, gJr, gPr, gPi, gPj, hu_if, hv_if, Nat.reduceEqDiff, Nat.reduceLT, Nat.reduceLeDiff, eq_self, bIT, bIF, Nat.add_zero, Nat.add_assoc, Nat.reduceAdd, nb0, nb1, i10, i00, Bool.false_eq_true, not_true_eq_false, not_false_eq_true, reduceIte]
              rw [e 11 (by omega)]
              by_cases h11 : wm T s q (wl 11) = true
              · rw [if_pos h11, if_pos h11, if_pos h11]; simp (disch := omega) only [mlet, ilet, jlet, ↓br_if, ↓br_ifn, ↓reduceIte, nl_lt, nl_gt, nl_le, nl_ge, nl_eq, nn_lt, nn_le, nn_eq, nl_add, nl_sub, nl_mul, nl_mulr, nn_add, nn_ix, nn_in, true_and, and_true, false_and, and_false, gI_if, gIj, gIr, gJ_if, gJi, gJr, gPr, gPi, gPj, hu_if, hv_if, Nat.reduceEqDiff, Nat.reduceLT, Nat.reduceLeDiff, eq_self, bIT, bIF, Nat.add_zero, Nat.add_assoc, Nat.reduceAdd, nb0, nb1, i10, i00, Bool.false_eq_true, not_true_eq_false, not_false_eq_true, reduceIte, wn_11]
              · rw [if_neg h11, if_neg h11, if_neg h11]
                simp (disch := omega) only [mlet, ilet, jlet, ↓br_if, ↓br_ifn, ↓reduceIte, nl_lt, nl_gt, nl_le, nl_ge, nl_eq, nn_lt, nn_le, nn_eq, nl_add, nl_sub, nl_mul, nl_mulr, nn_add, nn_ix, nn_in, true_and, and_true, false_and, and_false, gI_if, gIj, gIr, gJ_if, gJi, gJr, gPr, gPi, gPj, hu_if, hv_if, Nat.reduceEqDiff, Nat.reduceLT, Nat.reduceLeDiff, eq_self, bIT, bIF, Nat.add_zero, Nat.add_assoc, Nat.reduceAdd, nb0, nb1, i10, i00, Bool.false_eq_true, not_true_eq_false, not_false_eq_true, reduceIte]
                rw [e 12 (by omega)]
                by_cases h12 : wm T s q (wl 12) = true
                · rw [if_pos h12, if_pos h12, if_pos h12]; simp (disch := omega) only [mlet, ilet, jlet, ↓br_if, ↓br_ifn, ↓reduceIte, nl_lt, nl_gt, nl_le, nl_ge, nl_eq, nn_lt, nn_le, nn_eq, nl_add, nl_sub, nl_mul, nl_mulr, nn_add, nn_ix, nn_in, true_and, and_true, false_and, and_false, gI_if, gIj, gIr, gJ_if, gJi, gJr, gPr, gPi, gPj, hu_if, hv_if, Nat.reduceEqDiff, Nat.reduceLT, Nat.reduceLeDiff, eq_self, bIT, bIF, Nat.add_zero, Nat.add_assoc, Nat.reduceAdd, nb0, nb1, i10, i00, Bool.false_eq_true, not_true_eq_false, not_false_eq_true, reduceIte, wn_12]
                · rw [if_neg h12, if_neg h12, if_neg h12]
                  simp (disch := omega) only [mlet, ilet, jlet, ↓br_if, ↓br_ifn, ↓reduceIte, nl_lt, nl_gt, nl_le, nl_ge, nl_eq, nn_lt, nn_le, nn_eq, nl_add, nl_sub, nl_mul, nl_mulr, nn_add, nn_ix, nn_in, true_and, and_true, false_and, and_false, gI_if, gIj, gIr, gJ_if, gJi, gJr, gPr, gPi, gPj, hu_if, hv_if, Nat.reduceEqDiff, Nat.reduceLT, Nat.reduceLeDiff, eq_self, bIT, bIF, Nat.add_zero, Nat.add_assoc, Nat.reduceAdd, nb0, nb1, i10, i00, Bool.false_eq_true, not_true_eq_false, not_false_eq_true, reduceIte]
                  rw [e 13 (by omega)]
                  by_cases h13 : wm T s q (wl 13) = true
                  · rw [if_pos h13, if_pos h13, if_pos h13]; simp (disch := omega) only [mlet, ilet, jlet, ↓br_if, ↓br_ifn, ↓reduceIte, nl_lt, nl_gt, nl_le, nl_ge, nl_eq, nn_lt, nn_le, nn_eq, nl_add, nl_sub, nl_mul, nl_mulr, nn_add, nn_ix, nn_in, true_and, and_true, false_and, and_false, gI_if, gIj, gIr, gJ_if, gJi, gJr, gPr, gPi, gPj, hu_if, hv_if, Nat.reduceEqDiff, Nat.reduceLT, Nat.reduceLeDiff, eq_self, bIT, bIF, Nat.add_zero, Nat.add_assoc, Nat.reduceAdd, nb0, nb1, i10, i00, Bool.false_eq_true, not_true_eq_false, not_false_eq_true, reduceIte, wn_13]
                  · rw [if_neg h13, if_neg h13, if_neg h13]
                    simp (disch := omega) only [mlet, ilet, jlet, ↓br_if, ↓br_ifn, ↓reduceIte, nl_lt, nl_gt, nl_le, nl_ge, nl_eq, nn_lt, nn_le, nn_eq, nl_add, nl_sub, nl_mul, nl_mulr, nn_add, nn_ix, nn_in, true_and, and_true, false_and, and_false, gI_if, gIj, gIr, gJ_if, gJi, gJr, gPr, gPi, gPj, hu_if, hv_if, Nat.reduceEqDiff, Nat.reduceLT, Nat.reduceLeDiff, eq_self, bIT, bIF, Nat.add_zero, Nat.add_assoc, Nat.reduceAdd, nb0, nb1, i10, i00, Bool.false_eq_true, not_true_eq_false, not_false_eq_true, reduceIte]
                    rw [e 14 (by omega)]
                    by_cases h14 : wm T s q (wl 14) = true
                    · rw [if_pos h14, if_pos h14, if_pos h14]; simp (disch := omega) only [mlet, ilet, jlet, ↓br_if, ↓br_ifn, ↓reduceIte, nl_lt, nl_gt, nl_le, nl_ge, nl_eq, nn_lt, nn_le, nn_eq, nl_add, nl_sub, nl_mul, nl_mulr, nn_add, nn_ix, nn_in, true_and, and_true, false_and, and_false, gI_if, gIj, gIr, gJ_if, gJi, gJr, gPr, gPi, gPj, hu_if, hv_if, Nat.reduceEqDiff, Nat.reduceLT, Nat.reduceLeDiff, eq_self, bIT, bIF, Nat.add_zero, Nat.add_assoc, Nat.reduceAdd, nb0, nb1, i10, i00, Bool.false_eq_true, not_true_eq_false, not_false_eq_true, reduceIte, wn_14]
                    · rw [if_neg h14, if_neg h14, if_neg h14]
                      simp (disch := omega) only [mlet, ilet, jlet, ↓br_if, ↓br_ifn, ↓reduceIte, nl_lt, nl_gt, nl_le, nl_ge, nl_eq, nn_lt, nn_le, nn_eq, nl_add, nl_sub, nl_mul, nl_mulr, nn_add, nn_ix, nn_in, true_and, and_true, false_and, and_false, gI_if, gIj, gIr, gJ_if, gJi, gJr, gPr, gPi, gPj, hu_if, hv_if, Nat.reduceEqDiff, Nat.reduceLT, Nat.reduceLeDiff, eq_self, bIT, bIF, Nat.add_zero, Nat.add_assoc, Nat.reduceAdd, nb0, nb1, i10, i00, Bool.false_eq_true, not_true_eq_false, not_false_eq_true, reduceIte]
                      rw [e 15 (by omega)]
                      by_cases h15 : wm T s q (wl 15) = true
                      · rw [if_pos h15, if_pos h15, if_pos h15]; simp (disch := omega) only [mlet, ilet, jlet, ↓br_if, ↓br_ifn, ↓reduceIte, nl_lt, nl_gt, nl_le, nl_ge, nl_eq, nn_lt, nn_le, nn_eq, nl_add, nl_sub, nl_mul, nl_mulr, nn_add, nn_ix, nn_in, true_and, and_true, false_and, and_false, gI_if, gIj, gIr, gJ_if, gJi, gJr, gPr, gPi, gPj, hu_if, hv_if, Nat.reduceEqDiff, Nat.reduceLT, Nat.reduceLeDiff, eq_self, bIT, bIF, Nat.add_zero, Nat.add_assoc, Nat.reduceAdd, nb0, nb1, i10, i00, Bool.false_eq_true, not_true_eq_false, not_false_eq_true, reduceIte, wn_15]
                      · rw [if_neg h15, if_neg h15, if_neg h15]
                        simp (disch := omega) only [mlet, ilet, jlet, ↓br_if, ↓br_ifn, ↓reduceIte, nl_lt, nl_gt, nl_le, nl_ge, nl_eq, nn_lt, nn_le, nn_eq, nl_add, nl_sub, nl_mul, nl_mulr, nn_add, nn_ix, nn_in, true_and, and_true, false_and, and_false, gI_if, gIj, gIr, gJ_if, gJi, gJr, gPr, gPi, gPj, hu_if, hv_if, Nat.reduceEqDiff, Nat.reduceLT, Nat.reduceLeDiff, eq_self, bIT, bIF, Nat.add_zero, Nat.add_assoc, Nat.reduceAdd, nb0, nb1, i10, i00, Bool.false_eq_true, not_true_eq_false, not_false_eq_true, reduceIte]
                        rw [mI_same h4]
  · rw [br_neg hc, nn_ix (by omega), nn_ix (by omega)]
    have e := fun l => wm_congr (T := fun i => ix (f i)) (T' := T) (s := s) l q (hT.ixc hpq)
    unfold mdD mdW
    simp only [e]

theorem i31 : (3 : Int32) * 1 = 3 := rfl
theorem i30 : (3 : Int32) * 0 = 0 := rfl
theorem in0 : (-(0 : Int32)) = 0 := rfl
theorem nI3 : nI 3 = 3 := rfl
theorem nI1 : nI 1 = 1 := rfl
theorem nI0 : nI 0 = 0 := rfl
theorem r_mode {n : Nat} {T : Nat → Nat} {s p q : Nat} {v : Mm} {x1 x3 : Int32} {Q : Int32 → Mm → Prop} {T' : Mm → Prop} (hn : 5000 ≤ n) (hT : jT T s p (v.1 3)) (h9 : v.1 0 9 = nI s) (h7 : v.1 0 7 = nI q) (hpq : p ≤ q) (hqs : q ≤ s) : w_X12_readKey_172 n x1 x3 v Q T' = w_X12_readKey_328 n x1 (x3 + mdD T s q) (nI (mdW T s q)) v Q T' := by
  have e : ∀ a, a < 31 → ∀ Q, w_X12_isWord n a v Q T' = Q (bI (wm T s q (wl a) = true)) v := fun a ha Q => by
    rw [r_isWord, h9, h7, giw_eq hT ⟨ha, hn, hpq, hqs⟩]
  unfold w_X12_readKey_172 w_X12_readKey_193 w_X12_readKey_218 w_X12_readKey_319 mdD mdW
  simp only [e 21 (by omega), e 22 (by omega), e 23 (by omega), e 24 (by omega), e 25 (by omega), e 26 (by omega), e 27 (by omega), e 28 (by omega), e 29 (by omega), e 30 (by omega), wl21, wl22, wl23, wl24, wl25, wl26, wl27, wl28, wl29, wl30, br_if, br_ifn, bI_0, ilet]
  by_cases h6 : wm T s q (wl 6) = true
  · simp only [h6, if_true, not_true_eq_false, if_false, nI3]
  · by_cases h7' : wm T s q (wl 7) = true
    · simp only [h6, h7', if_true, not_true_eq_false, if_false, not_false_eq_true, Bool.false_eq_true, Int32.sub_eq_add_neg, i31, i30, in0, nI3, nI1, nI0]
    · by_cases h13 : wm T s q (wl 13) = true
      · obtain ⟨d1, d2, d3⟩ := wd_13 h13
        simp only [h6, h7', h13, wf_8 (T := T) (s := s) (p := q) (by omega), wf_9 (T := T) (s := s) (p := q) (by omega), wf_10 (T := T) (s := s) (p := q) (by omega), wf_11 (T := T) (s := s) (p := q) (by omega), wf_12 (T := T) (s := s) (p := q) (by omega), if_true, not_true_eq_false, if_false, not_false_eq_true, Bool.false_eq_true, Int32.sub_eq_add_neg, nI3]
      · by_cases h14 : wm T s q (wl 14) = true
        · obtain ⟨d1, d2, d3⟩ := wd_14 h14
          simp only [h6, h7', h13, h14, wf_8 (T := T) (s := s) (p := q) (by omega), wf_9 (T := T) (s := s) (p := q) (by omega), wf_10 (T := T) (s := s) (p := q) (by omega), wf_11 (T := T) (s := s) (p := q) (by omega), wf_12 (T := T) (s := s) (p := q) (by omega), if_true, not_true_eq_false, if_false, not_false_eq_true, Bool.false_eq_true, Int32.sub_eq_add_neg, nI3]
        · by_cases h8 : wm T s q (wl 8) = true
          · simp only [h6, h7', h13, h14, h8, if_true, not_true_eq_false, if_false, not_false_eq_true, Bool.false_eq_true, Int32.sub_eq_add_neg, i31, i30, in0, nI3, nI1, nI0]
          · by_cases h9' : wm T s q (wl 9) = true
            · simp only [h6, h7', h13, h14, h8, h9', if_true, not_true_eq_false, if_false, not_false_eq_true, Bool.false_eq_true, Int32.sub_eq_add_neg, i31, i30, in0, nI3, nI1, nI0]
            · by_cases h10 : wm T s q (wl 10) = true
              · simp only [h6, h7', h13, h14, h8, h9', h10, if_true, not_true_eq_false, if_false, not_false_eq_true, Bool.false_eq_true, Int32.sub_eq_add_neg, i31, i30, in0, nI3, nI1, nI0]
              · by_cases h11 : wm T s q (wl 11) = true
                · simp only [h6, h7', h13, h14, h8, h9', h10, h11, if_true, not_true_eq_false, if_false, not_false_eq_true, Bool.false_eq_true, Int32.sub_eq_add_neg, i31, i30, in0, nI3, nI1, nI0]
                · by_cases h12 : wm T s q (wl 12) = true
                  · simp only [h6, h7', h13, h14, h8, h9', h10, h11, h12, if_true, not_true_eq_false, if_false, not_false_eq_true, Bool.false_eq_true, Int32.sub_eq_add_neg, i31, i30, in0, nI3, nI1, nI0]
                  · by_cases h15 : wm T s q (wl 15) = true
                    · simp only [h6, h7', h13, h14, h8, h9', h10, h11, h12, h15, if_true, not_true_eq_false, if_false, not_false_eq_true, Bool.false_eq_true, Int32.sub_eq_add_neg, i31, i30, in0, nI3, nI1, nI0]
                    · simp only [h6, h7', h13, h14, h8, h9', h10, h11, h12, h15, if_true, not_true_eq_false, if_false, not_false_eq_true, Bool.false_eq_true, Int32.sub_eq_add_neg, i31, i30, in0, nI3, nI1, nI0]
