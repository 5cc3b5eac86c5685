/-! a reading, from call to call -/
theorem c_clr10 {n : Nat} {u : Mm} {Q : Mm → Prop} : ∀ (d k i : Nat), 10 - i = d → d < k → i ≤ 10 → w_X7_clear_2 n Q k (nI i) (fil u 43 0 (0 + i) 0) = w_X7_clear_23 n Q n 0 (fil u 43 0 (0 + 10) 0) := by
  intro d
  induction d with
  | zero =>
    intro k i hd hk hi
    obtain ⟨k, rfl⟩ : ∃ k1, k = k1 + 1 := ⟨k - 1, by omega⟩
    obtain rfl : i = 10 := by omega
    rw [w_X7_clear_2]
    simp (disch := omega) only [↓mletE, ↓iletE, ↓jletE, ↓br_if, ↓br_ifn, ↓reduceIte, nl_lt, nl_gt, nl_le, nl_ge, nl_eq, nn_lt, nn_le, nn_eq, nl_add, nl_sub, nl_mul, nl_mulr, nn_add, nn_ix, nn_in, true_and, and_true, false_and, and_false, gI_if, gIj, gIr, gJ_if, gJi, gJr, gPr, gPi, gPj, hu_if, hv_if, Nat.reduceEqDiff, Nat.reduceLT, Nat.reduceLeDiff, eq_self, bIT, bIF, Nat.add_zero, Nat.add_assoc, Nat.reduceAdd, nb0, nb1, i10, i00, Bool.false_eq_true, not_true_eq_false, not_false_eq_true, reduceIte, Nat.le_refl]
  | succ d ih =>
    intro k i hd hk hi
    obtain ⟨k, rfl⟩ : ∃ k1, k = k1 + 1 := ⟨k - 1, by omega⟩
    have IH := ih k (i + 1) (by omega) (by omega) (by omega)
    rw [← fil_step] at IH
    rw [← IH, w_X7_clear_2, Nat.zero_add]
    simp (disch := omega) only [↓mletE, ↓iletE, ↓jletE, ↓br_if, ↓br_ifn, ↓reduceIte, nl_lt, nl_gt, nl_le, nl_ge, nl_eq, nn_lt, nn_le, nn_eq, nl_add, nl_sub, nl_mul, nl_mulr, nn_add, nn_ix, nn_in, true_and, and_true, false_and, and_false, gI_if, gIj, gIr, gJ_if, gJi, gJr, gPr, gPi, gPj, hu_if, hv_if, Nat.reduceEqDiff, Nat.reduceLT, Nat.reduceLeDiff, eq_self, bIT, bIF, Nat.add_zero, Nat.add_assoc, Nat.reduceAdd, nb0, nb1, i10, i00, Bool.false_eq_true, not_true_eq_false, not_false_eq_true, reduceIte, show (10 ≤ i) = False from eq_false (by omega)]
theorem c_clr301 {n : Nat} {u : Mm} {Q : Mm → Prop} : ∀ (d k i : Nat), 301 - i = d → d < k → i ≤ 301 → w_X7_clear_23 n Q k (nI i) (fil u 62 0 (0 + i) 0) = Q (setI (setI (setI (fil u 62 0 (0 + 301) 0) 35 8 0) 35 9 0) 36 3 0) := by
  intro d
  induction d with
  | zero =>
    intro k i hd hk hi
    obtain ⟨k, rfl⟩ : ∃ k1, k = k1 + 1 := ⟨k - 1, by omega⟩
    obtain rfl : i = 301 := by omega
    rw [w_X7_clear_23]
    simp (disch := omega) only [↓mletE, ↓iletE, ↓jletE, ↓br_if, ↓br_ifn, ↓reduceIte, nl_lt, nl_gt, nl_le, nl_ge, nl_eq, nn_lt, nn_le, nn_eq, nl_add, nl_sub, nl_mul, nl_mulr, nn_add, nn_ix, nn_in, true_and, and_true, false_and, and_false, gI_if, gIj, gIr, gJ_if, gJi, gJr, gPr, gPi, gPj, hu_if, hv_if, Nat.reduceEqDiff, Nat.reduceLT, Nat.reduceLeDiff, eq_self, bIT, bIF, Nat.add_zero, Nat.add_assoc, Nat.reduceAdd, nb0, nb1, i10, i00, Bool.false_eq_true, not_true_eq_false, not_false_eq_true, reduceIte, Nat.le_refl]
  | succ d ih =>
    intro k i hd hk hi
    obtain ⟨k, rfl⟩ : ∃ k1, k = k1 + 1 := ⟨k - 1, by omega⟩
    have IH := ih k (i + 1) (by omega) (by omega) (by omega)
    rw [← fil_step] at IH
    rw [← IH, w_X7_clear_23, Nat.zero_add]
    simp (disch := omega) only [↓mletE, ↓iletE, ↓jletE, ↓br_if, ↓br_ifn, ↓reduceIte, nl_lt, nl_gt, nl_le, nl_ge, nl_eq, nn_lt, nn_le, nn_eq, nl_add, nl_sub, nl_mul, nl_mulr, nn_add, nn_ix, nn_in, true_and, and_true, false_and, and_false, gI_if, gIj, gIr, gJ_if, gJi, gJr, gPr, gPi, gPj, hu_if, hv_if, Nat.reduceEqDiff, Nat.reduceLT, Nat.reduceLeDiff, eq_self, bIT, bIF, Nat.add_zero, Nat.add_assoc, Nat.reduceAdd, nb0, nb1, i10, i00, Bool.false_eq_true, not_true_eq_false, not_false_eq_true, reduceIte, show (301 ≤ i) = False from eq_false (by omega)]
theorem c_clear0 {n : Nat} {u : Mm} {Q : Mm → Prop} (hn : 5000 ≤ n) : w_X7_clear n u Q = Q (setI (setI (setI (fil (fil u 43 0 (0 + 10) 0) 62 0 (0 + 301) 0) 35 8 0) 35 9 0) 36 3 0) := by
  have h1 := c_clr10 (n := n) (u := u) (Q := Q) 10 n 0 rfl (by omega) (by omega)
  have h2 := c_clr301 (n := n) (u := fil u 43 0 (0 + 10) 0) (Q := Q) 301 n 0 rfl (by omega) (by omega)
  rw [fil_0, nI0] at h1
  rw [fil_0, nI0] at h2
  unfold w_X7_clear
  rw [h1, h2]
/-- what the class does behind the body -/
def cE (n : Nat) (u7 : Mm) (Q : Int32 → Mm → Prop) : Prop := (¬ u7.1 33 6 = 0 → w_X10_read_77 n 0 u7 Q) ∧ (u7.1 33 6 = 0 → w_X10_read_77 n 1 u7 Q)
theorem c_rd {n tn : Nat} {σ : Mm} (hn : 5000 ≤ n) (h6 : σ.1 32 6 = nI tn) (ht : tn ≤ 2400) : ∃ uS, (∀ Q, w_X10_read n σ Q = w_X5_checkBytes n uS (fun u5 => w_X1_readHeads n u5 (fun u6 => w_X4_readBody n u6 (fun u7 => cE n u7 Q)))) ∧ (uS.2.2 0 = σ.2.2 1 ∧ uS.2.2 1 = σ.2.2 0 ∧ uS.2.2 2 = σ.2.2 2 ∧ uS.2.1 = σ.2.1) ∧ (uS.1 33 1 = nI tn ∧ uS.1 33 5 = 0 ∧ uS.1 33 6 = 0 ∧ uS.1 36 3 = 0 ∧ uS.1 35 8 = 0 ∧ uS.1 35 0 = σ.1 35 0 ∧ uS.1 32 6 = 0) ∧ (∀ k, k ≤ 300 → uS.1 62 k = 0) ∧ (∀ k, k < 10 → uS.1 43 k = 0) ∧ (∀ q, q ≠ 32 → q ≠ 33 → q ≠ 35 → q ≠ 36 → q ≠ 43 → q ≠ 62 → uS.1 q = σ.1 q) := by
  have hmx : (if (0 : Int32) < (if (2400 : Int32) < nI tn then (2400 : Int32) else nI tn) then (if (2400 : Int32) < nI tn then (2400 : Int32) else nI tn) else 0) = nI tn := by
    rw [if_neg (show ¬ (2400 : Int32) < nI tn by rw [nl_gt (by omega)]; omega)]
    rcases Nat.eq_zero_or_pos tn with h | h
    · subst h; rfl
    · exact if_pos (by rw [nl_gt (by omega)]; omega)
  obtain ⟨U, hU⟩ : ∃ U, U = setI (setP (setI (setI (setI (setI (setI (setI (setI (setP σ 1 (σ.2.2 0)) 33 1 (nI tn)) 33 2 0) 33 3 0) 33 4 0) 33 5 0) 33 6 0) 33 7 0) 0 (σ.2.2 1)) 32 6 0 := ⟨_, rfl⟩
  refine ⟨setI (setI (setI (fil (fil U 43 0 (0 + 10) 0) 62 0 (0 + 301) 0) 35 8 0) 35 9 0) 36 3 0, fun Q => ?_, ⟨?_, ?_, ?_, ?_⟩, ⟨?_, ?_, ?_, ?_, ?_, ?_, ?_⟩, fun k hk => ?_, fun k hk => ?_, fun q g1 g2 g3 g4 g5 g6 => ?_⟩
  · unfold w_X10_read w_X5_take
    rw [h6, hmx, mletE, mletE, mletE, mletE, mletE, mletE, mletE, mletE]
    simp only [mletE]
    rw [c_clear0 hn, hU]
    rfl
  · show U.2.2 0 = _; rw [hU, gIr, gPr, if_pos rfl]
  · show U.2.2 1 = _; rw [hU, gIr, gPr, if_neg (by omega), gIr, gIr, gIr, gIr, gIr, gIr, gIr, gPr, if_pos rfl]
  · show U.2.2 2 = _; rw [hU, gIr, gPr, if_neg (by omega), gIr, gIr, gIr, gIr, gIr, gIr, gIr, gPr, if_neg (by omega)]
  · show U.2.1 = _; rw [hU]; rfl
  · rw [gIn (by omega), gIn (by omega), gIn (by omega), fil_n (by omega), fil_n (by omega), hU]; simp (disch := omega) only [gIs, gIn, gIj, gIr, gJs, gJn, gJi, gJr, gPr, gPi, gPj, hu_s, hu_n, hv_s, hv_n]
  · rw [gIn (by omega), gIn (by omega), gIn (by omega), fil_n (by omega), fil_n (by omega), hU]; simp (disch := omega) only [gIs, gIn, gIj, gIr, gJs, gJn, gJi, gJr, gPr, gPi, gPj, hu_s, hu_n, hv_s, hv_n]
  · rw [gIn (by omega), gIn (by omega), gIn (by omega), fil_n (by omega), fil_n (by omega), hU]; simp (disch := omega) only [gIs, gIn, gIj, gIr, gJs, gJn, gJi, gJr, gPr, gPi, gPj, hu_s, hu_n, hv_s, hv_n]
  · simp (disch := omega) only [gIs, gIn, gIj, gIr, gJs, gJn, gJi, gJr, gPr, gPi, gPj, hu_s, hu_n, hv_s, hv_n]
  · simp (disch := omega) only [gIs, gIn, gIj, gIr, gJs, gJn, gJi, gJr, gPr, gPi, gPj, hu_s, hu_n, hv_s, hv_n]
  · rw [gIn (by omega), gIs, hu_n (by omega), gIs, hu_n (by omega), fil_n (by omega), fil_n (by omega), hU]; simp (disch := omega) only [gIs, gIn, gIj, gIr, gJs, gJn, gJi, gJr, gPr, gPi, gPj, hu_s, hu_n, hv_s, hv_n]
  · rw [gIn (by omega), gIn (by omega), gIn (by omega), fil_n (by omega), fil_n (by omega), hU]; simp (disch := omega) only [gIs, gIn, gIj, gIr, gJs, gJn, gJi, gJr, gPr, gPi, gPj, hu_s, hu_n, hv_s, hv_n]
  · rw [gIn (by omega), gIn (by omega), gIn (by omega), fil_s, if_pos (by omega)]
  · rw [gIn (by omega), gIn (by omega), gIn (by omega), fil_n (by omega), fil_s, if_pos (by omega)]
  · rw [gIn (by omega), gIn (by omega), gIn (by omega), fil_n (by omega), fil_n (by omega), hU, gIn (by omega), gPi, gIn (by omega), gIn (by omega), gIn (by omega), gIn (by omega), gIn (by omega), gIn (by omega), gIn (by omega), gPi]
/-- what the reference does with its reading's end -/
def rQ (n : Nat) (Q : Int32 → Mm → Prop) (u5 : Mm) : Prop := w_X12_findPlayed n (setI u5 0 10 1) (fun u7 => Q (u7.1 0 27) u7) (fun u8 => w_X12_read_80 n u8 Q)
theorem nar_sb : ∀ x, x < 256 → vp_nar .byte (sbv x) = sbv x := by decide +kernel
theorem r_15 {n tn : Nat} {v0 : Mm} (ht : tn ≤ 2400) (hb : ∀ i, i < tn → ∃ x : Nat, x < 256 ∧ v0.1 2 i = sbv x) : ∀ (d k i : Nat) (v : Mm), tn - i = d → d < k → i ≤ tn → v.1 0 6 = nI tn → (∀ q, q ≠ 0 → q ≠ 3 → v.1 q = v0.1 q) → (∀ j, j ≠ 0 → j ≠ 6 → v.1 0 j = v0.1 0 j) → v.2 = v0.2 → (∀ j, j < i → v.1 3 j = v0.1 2 j) → ∃ v', (∀ Q, w_X12_read_15 n Q k (nI i) v = w_X12_readTune n v' (rQ n Q) (fun u9 => w_X12_read_80 n u9 Q)) ∧ (v'.1 0 6 = nI tn ∧ v'.1 0 4 = 0 ∧ v'.1 0 10 = 0 ∧ v'.1 0 11 = -2) ∧ (∀ q, q ≠ 0 → q ≠ 3 → v'.1 q = v0.1 q) ∧ (∀ j, j ≠ 0 → j ≠ 4 → j ≠ 6 → j ≠ 7 → j ≠ 10 → j ≠ 11 → v'.1 0 j = v0.1 0 j) ∧ v'.2 = v0.2 ∧ ∀ j, j < tn → v'.1 3 j = v0.1 2 j := by
  intro d
  induction d with
  | zero =>
    intro k i v hd hk hi h6 h1 h0 h2 h3
    obtain ⟨k, rfl⟩ : ∃ k1, k = k1 + 1 := ⟨k - 1, by omega⟩
    refine ⟨setI (setI (setI (setI v 0 4 0) 0 7 0) 0 10 0) 0 11 (-2), fun Q => ?_, ⟨by simp (disch := omega) only [gIs, gIn, gIj, gIr, gJs, gJn, gJi, gJr, gPr, gPi, gPj, hu_s, hu_n, hv_s, hv_n]; exact h6, by simp (disch := omega) only [gIs, gIn, gIj, gIr, gJs, gJn, gJi, gJr, gPr, gPi, gPj, hu_s, hu_n, hv_s, hv_n], by simp (disch := omega) only [gIs, gIn, gIj, gIr, gJs, gJn, gJi, gJr, gPr, gPi, gPj, hu_s, hu_n, hv_s, hv_n], by simp (disch := omega) only [gIs, gIn, gIj, gIr, gJs, gJn, gJi, gJr, gPr, gPi, gPj, hu_s, hu_n, hv_s, hv_n]⟩, fun q g1 g2 => by rw [gIn g1, gIn g1, gIn g1, gIn g1]; exact h1 q g1 g2, fun j g1 g2 g3 g4 g5 g6 => by rw [gIs, hu_n g6, gIs, hu_n g5, gIs, hu_n g4, gIs, hu_n g2]; exact h0 j g1 g3, h2, fun j hj => by simp (disch := omega) only [gIs, gIn, gIj, gIr, gJs, gJn, gJi, gJr, gPr, gPi, gPj, hu_s, hu_n, hv_s, hv_n]; exact h3 j (by omega)⟩
    rw [w_X12_read_15, br_if, if_pos (by rw [h6, nn_le (by omega)]; omega), mletE, mletE, mletE, mletE]
    rfl
  | succ d ih =>
    intro k i v hd hk hi h6 h1 h0 h2 h3
    obtain ⟨k, rfl⟩ : ∃ k1, k = k1 + 1 := ⟨k - 1, by omega⟩
    obtain ⟨x, x1, x2⟩ := hb i (by omega)
    have e2 : v.1 2 i = sbv x := by rw [h1 2 (by omega) (by omega)]; exact x2
    obtain ⟨v', a1, a2⟩ := ih k (i + 1) (setI v 3 i (sbv x)) (by omega) (by omega) (by omega) (by simp (disch := omega) only [gIs, gIn, gIj, gIr, gJs, gJn, gJi, gJr, gPr, gPi, gPj, hu_s, hu_n, hv_s, hv_n]; exact h6) (fun q g1 g2 => by rw [gIn g2]; exact h1 q g1 g2) (fun j g1 g2 => by rw [gIn (by omega)]; exact h0 j g1 g2) h2 (fun j hj => by
      rw [gIs, hu_if]
      by_cases hh : j = i
      · rw [if_pos hh, hh]; exact x2.symm
      · rw [if_neg hh]; exact h3 j (by omega))
    refine ⟨v', fun Q => ?_, a2⟩
    rw [← a1 Q, w_X12_read_15, br_if, if_neg (by rw [h6, nn_le (by omega)]; omega), nn_in (by omega), nn_ix (by omega), e2, nar_sb x x1, mletE, nl_add, true_and, true_and]
