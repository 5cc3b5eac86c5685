/-! the body's beginning -/
def bgU (w : Nat) (u : Mm) : Mm := setI (setI (setI (uCl w (setI (setI (setI (setI (setI (setJ (setI (setI u (50 + w) 4 0) (50 + w) 5 0) (50 + w) 6 0) (50 + w) 7 (u.1 43 6)) (50 + w) 8 (u.1 43 2)) (50 + w) 9 (u.1 43 3)) (50 + w) 10 (u.1 43 4)) (50 + w) 3 1)) (50 + w) 11 0) (50 + w) 12 0) (50 + w) 13 0
theorem bgU_o {w q : Nat} {u : Mm} (h1 : q ≠ 50 + w) (h2 : q ≠ 59 + w) : (bgU w u).1 q = u.1 q := by
  unfold bgU
  rw [gIn h1, gIn h1, gIn h1, uCl_1 h2 h1, gIn h1, gIn h1, gIn h1, gIn h1, gIn h1, gJi, gIn h1, gIn h1]
theorem bgU_m {w j : Nat} {u : Mm} (hj : j < 84) : (bgU w u).1 (59 + w) j = 0 := by
  unfold bgU
  rw [gIn (by omega), gIn (by omega), gIn (by omega), uCl_m hj]
theorem uCl_3 {w : Nat} {u : Mm} : (uCl w u).1 (50 + w) 3 = 0 := by unfold uCl; rw [gIs, hu_s]
theorem bgU_3 {w : Nat} {u : Mm} : (bgU w u).1 (50 + w) 3 = 0 := by
  unfold bgU
  rw [gIs, hu_n (by omega), gIs, hu_n (by omega), gIs, hu_n (by omega), uCl_3]
theorem bgU_v {w : Nat} {u : Mm} : (bgU w u).1 (50 + w) 4 = 0 ∧ (bgU w u).1 (50 + w) 5 = 0 ∧ (bgU w u).1 (50 + w) 7 = u.1 43 6 ∧ (bgU w u).1 (50 + w) 8 = u.1 43 2 ∧ (bgU w u).1 (50 + w) 9 = u.1 43 3 ∧ (bgU w u).1 (50 + w) 10 = u.1 43 4 ∧ (bgU w u).1 (50 + w) 11 = 0 := by
  have e : ∀ k, k ≠ 3 → k ≠ 11 → k ≠ 12 → k ≠ 13 → (bgU w u).1 (50 + w) k = (setI (setI (setI (setI (setJ (setI (setI u (50 + w) 4 0) (50 + w) 5 0) (50 + w) 6 0) (50 + w) 7 (u.1 43 6)) (50 + w) 8 (u.1 43 2)) (50 + w) 9 (u.1 43 3)) (50 + w) 10 (u.1 43 4)).1 (50 + w) k := fun k h1 h2 h3 h4 => by
    unfold bgU
    rw [gIs, hu_n h4, gIs, hu_n h3, gIs, hu_n h2, uCl_f h1, gIs, hu_n h1]
  refine ⟨?_, ?_, ?_, ?_, ?_, ?_, ?_⟩
  · rw [e 4 (by omega) (by omega) (by omega) (by omega)]; simp (disch := omega) only [gIs, gIn, gIj, gIr, gJs, gJn, gJi, gJr, gPr, gPi, gPj, hu_s, hu_n, hv_s, hv_n]
  · rw [e 5 (by omega) (by omega) (by omega) (by omega)]; simp (disch := omega) only [gIs, gIn, gIj, gIr, gJs, gJn, gJi, gJr, gPr, gPi, gPj, hu_s, hu_n, hv_s, hv_n]
  · rw [e 7 (by omega) (by omega) (by omega) (by omega)]; simp (disch := omega) only [gIs, gIn, gIj, gIr, gJs, gJn, gJi, gJr, gPr, gPi, gPj, hu_s, hu_n, hv_s, hv_n]
  · rw [e 8 (by omega) (by omega) (by omega) (by omega)]; simp (disch := omega) only [gIs, gIn, gIj, gIr, gJs, gJn, gJi, gJr, gPr, gPi, gPj, hu_s, hu_n, hv_s, hv_n]
  · rw [e 9 (by omega) (by omega) (by omega) (by omega)]; simp (disch := omega) only [gIs, gIn, gIj, gIr, gJs, gJn, gJi, gJr, gPr, gPi, gPj, hu_s, hu_n, hv_s, hv_n]
  · rw [e 10 (by omega) (by omega) (by omega) (by omega)]; simp (disch := omega) only [gIs, gIn, gIj, gIr, gJs, gJn, gJi, gJr, gPr, gPi, gPj, hu_s, hu_n, hv_s, hv_n]
  · unfold bgU
    rw [gIs, hu_n (by omega), gIs, hu_n (by omega), gIs, hu_s]
theorem bgU_J {w : Nat} {u : Mm} : (bgU w u).2.1 (50 + w) 6 = 0 ∧ (∀ q, q ≠ 50 + w → (bgU w u).2.1 q = u.2.1 q) ∧ (bgU w u).2.2 = u.2.2 := by
  have e : (bgU w u).2.1 = (setJ u (50 + w) 6 0).2.1 := rfl
  rw [e]
  exact ⟨by rw [gJs, hv_s], fun q hq => gJn hq, rfl⟩
theorem bgU_K {a u : Mm} {w : Nat} (hw : w < 3) (hKc : jKc a u) : jKc a (bgU w u) := by
  unfold bgU
  exact (((uCl_K hw (by exact (by repeat (first | exact hKc | refine jKc.set ?_ (by omega) (by omega) | refine jKc.setJ ?_ (by omega))))).set (by omega) (by omega)).set (by omega) (by omega)).set (by omega) (by omega)
theorem c_begin {n w : Nat} {u : Mm} {Q : Mm → Prop} (hn : 5000 ≤ n) (hw : w < 3) : w_X8_begin n (50 + w) u Q = Q (bgU w u) := by
  have x2 : ix (2 : Int32) = 2 := rfl
  have x3 : ix (3 : Int32) = 3 := rfl
  have x4 : ix (4 : Int32) = 4 := rfl
  have x6 : ix (6 : Int32) = 6 := rfl
  have n43 : (43 = 50 + w) = False := eq_false (by omega)
  have d1 : ((10 : Int32) ≤ 6) = False := by decide
  have d2 : ((10 : Int32) ≤ 2) = False := by decide
  have d3 : ((10 : Int32) ≤ 3) = False := by decide
  have d4 : ((10 : Int32) ≤ 4) = False := by decide
  have cl := fun (u : Mm) (Q : Mm → Prop) (h : u.1 (50 + w) 3 = 0 → ∀ j, j < 84 → u.1 (59 + w) j = 0) => c_clear (n := n) (w := w) (Q := Q) (u := u) hn hw h
  unfold w_X8_begin bgU
  simp (disch := omega) only [↓mletE, ↓iletE, ↓jletE, ↓br_if, ↓br_ifn, ↓reduceIte, nl_lt, nl_gt, nl_le, nl_ge, nl_eq, nn_lt, nn_le, nn_eq, nl_add, nl_sub, nl_mul, nl_mulr, nn_add, nn_ix, nn_in, true_and, and_true, false_and, and_false, gI_if, gIj, gIr, gJ_if, gJi, gJr, gPr, gPi, gPj, hu_if, hv_if, Nat.reduceEqDiff, Nat.reduceLT, Nat.reduceLeDiff, eq_self, bIT, bIF, Nat.add_zero, Nat.add_assoc, Nat.reduceAdd, nb0, nb1, i10, i00, Bool.false_eq_true, not_true_eq_false, not_false_eq_true, reduceIte, w_X8_begin_31, w_X8_begin_48, w_X8_begin_65, w_X8_begin_82, d1, d2, d3, d4, x2, x3, x4, x6, n43]
  rw [cl _ _ (fun h => by rw [gIs, hu_s] at h; exact absurd h (by decide))]
  simp (disch := omega) only [↓mletE, ↓iletE, ↓jletE, ↓br_if, ↓br_ifn, ↓reduceIte, nl_lt, nl_gt, nl_le, nl_ge, nl_eq, nn_lt, nn_le, nn_eq, nl_add, nl_sub, nl_mul, nl_mulr, nn_add, nn_ix, nn_in, true_and, and_true, false_and, and_false, gI_if, gIj, gIr, gJ_if, gJi, gJr, gPr, gPi, gPj, hu_if, hv_if, Nat.reduceEqDiff, Nat.reduceLT, Nat.reduceLeDiff, eq_self, bIT, bIF, Nat.add_zero, Nat.add_assoc, Nat.reduceAdd, nb0, nb1, i10, i00, Bool.false_eq_true, not_true_eq_false, not_false_eq_true, reduceIte, w_X8_forgetLast]
theorem c_body2 {n w k : Nat} {u : Mm} {Q : Mm → Prop} (hn : 5000 ≤ n) (hw : w < 3) : w_X4_readBody_2 n Q (k + 1) (nI (w + 1)) u = w_X4_readBody_2 n Q k (nI (w + 1 + 1)) (bgU w u) := by
  have B := fun Q => c_begin (n := n) (w := w) (u := u) (Q := Q) hn hw
  rw [w_X4_readBody_2]
  simp (disch := omega) only [↓mletE, ↓iletE, ↓jletE, ↓br_if, ↓br_ifn, ↓reduceIte, nl_lt, nl_gt, nl_le, nl_ge, nl_eq, nn_lt, nn_le, nn_eq, nl_add, nl_sub, nl_mul, nl_mulr, nn_add, nn_ix, nn_in, true_and, and_true, false_and, and_false, gI_if, gIj, gIr, gJ_if, gJi, gJr, gPr, gPi, gPj, hu_if, hv_if, Nat.reduceEqDiff, Nat.reduceLT, Nat.reduceLeDiff, eq_self, bIT, bIF, Nat.add_zero, Nat.add_assoc, Nat.reduceAdd, nb0, nb1, i10, i00, Bool.false_eq_true, not_true_eq_false, not_false_eq_true, reduceIte, show (3 < w + 1) = False from eq_false (by omega), w_X7_voiceOf, w_X7_voiceOf_21, show (w + 1 < 1) = False from eq_false (by omega), Nat.add_one_sub_one, B]
def bgV (w : Nat) (v : Mm) : Mm := vCl w (setI (setI (setI (setI (setI (setJ (setI (setI (setI (setI v 12 w (v.1 0 20)) 13 w (v.1 0 16)) 14 w (v.1 0 17)) 15 w (v.1 0 18)) 16 w 0) 17 w 0) 18 w 0) 19 w 0) 23 w (-1)) 0 28 (nI w))
theorem bgV_o {w q : Nat} {v : Mm} (h : q ≠ 0 ∧ q ≠ 12 ∧ q ≠ 13 ∧ q ≠ 14 ∧ q ≠ 15 ∧ q ≠ 17 ∧ q ≠ 18 ∧ q ≠ 19 ∧ q ≠ 22 ∧ q ≠ 23) : (bgV w v).1 q = v.1 q := by
  unfold bgV
  rw [vCl_1 (by omega)]
  simp (disch := omega) only [gIs, gIn, gIj, gIr, gJs, gJn, gJi, gJr, gPr, gPi, gPj, hu_s, hu_n, hv_s, hv_n]
theorem bgV_0 {w k : Nat} {v : Mm} (h : k ≠ 28) : (bgV w v).1 0 k = v.1 0 k := by
  unfold bgV
  rw [vCl_1 (by omega)]
  simp (disch := omega) only [gIs, gIn, gIj, gIr, gJs, gJn, gJi, gJr, gPr, gPi, gPj, hu_s, hu_n, hv_s, hv_n]
theorem bgV_v {w w' : Nat} {v : Mm} : (bgV w v).1 12 w' = (if w' = w then v.1 0 20 else v.1 12 w') ∧ (bgV w v).1 13 w' = (if w' = w then v.1 0 16 else v.1 13 w') ∧ (bgV w v).1 14 w' = (if w' = w then v.1 0 17 else v.1 14 w') ∧ (bgV w v).1 15 w' = (if w' = w then v.1 0 18 else v.1 15 w') ∧ (bgV w v).1 17 w' = (if w' = w then 0 else v.1 17 w') ∧ (bgV w v).1 18 w' = (if w' = w then 0 else v.1 18 w') ∧ (bgV w v).1 19 w' = (if w' = w then 0 else v.1 19 w') ∧ (bgV w v).1 23 w' = (if w' = w then -1 else v.1 23 w') := by
  unfold bgV
  refine ⟨?_, ?_, ?_, ?_, ?_, ?_, ?_, ?_⟩
  all_goals
    rw [vCl_1 (by omega)]
    by_cases h : w' = w
    · subst h
      rw [if_pos rfl]
      simp (disch := omega) only [gIs, gIn, gIj, gIr, gJs, gJn, gJi, gJr, gPr, gPi, gPj, hu_s, hu_n, hv_s, hv_n]
    · rw [if_neg h]
      simp (disch := omega) only [gIs, gIn, gIj, gIr, gJs, gJn, gJi, gJr, gPr, gPi, gPj, hu_s, hu_n, hv_s, hv_n]
theorem bgV_J {w : Nat} {v : Mm} : (∀ w', (bgV w v).2.1 16 w' = if w' = w then 0 else v.2.1 16 w') ∧ (∀ q, q ≠ 16 → (bgV w v).2.1 q = v.2.1 q) ∧ (bgV w v).2.2 = v.2.2 := by
  have e : (bgV w v).2.1 = (setJ v 16 w 0).2.1 := rfl
  rw [e]
  exact ⟨fun w' => by rw [gJs, hv_if], fun q hq => gJn hq, rfl⟩
theorem bgV_22 {w k : Nat} {v : Mm} : (bgV w v).1 22 k = if 448 * w ≤ k ∧ k < 448 * w + 448 then 100 else v.1 22 k := by
  unfold bgV vCl
  rw [fil_s]
  by_cases h : 448 * w ≤ k ∧ k < 448 * w + 448
  · rw [if_pos h, if_pos h]
  · rw [if_neg h, if_neg h]; simp (disch := omega) only [gIs, gIn, gIj, gIr, gJs, gJn, gJi, gJr, gPr, gPi, gPj, hu_s, hu_n, hv_s, hv_n]
theorem bgV_K {a v : Mm} {w : Nat} (hKm : jKm a v) : jKm a (bgV w v) := by
  unfold bgV
  exact vCl_K (by exact (by repeat (first | exact hKm | refine jKm.set ?_ (by omega) (by omega) | refine jKm.setJ ?_ (by omega))))
theorem r_tune25 {n w k : Nat} {v : Mm} {Q T' : Mm → Prop} (hn : 5000 ≤ n) (hw : w < 3) : w_X12_readTune_25 n Q T' (k + 1) (nI w) v = w_X12_readTune_25 n Q T' k (nI (w + 1)) (bgV w v) := by
  have cl := fun (v : Mm) (Q T' : Mm → Prop) (h : v.1 0 28 = nI w) => r_clear (n := n) (w := w) (Q := Q) (T' := T') (v := v) hn hw h
  rw [w_X12_readTune_25]
  unfold bgV
  simp (disch := omega) only [↓mletE, ↓iletE, ↓jletE, ↓br_if, ↓br_ifn, ↓reduceIte, nl_lt, nl_gt, nl_le, nl_ge, nl_eq, nn_lt, nn_le, nn_eq, nl_add, nl_sub, nl_mul, nl_mulr, nn_add, nn_ix, nn_in, true_and, and_true, false_and, and_false, gI_if, gIj, gIr, gJ_if, gJi, gJr, gPr, gPi, gPj, hu_if, hv_if, Nat.reduceEqDiff, Nat.reduceLT, Nat.reduceLeDiff, eq_self, bIT, bIF, Nat.add_zero, Nat.add_assoc, Nat.reduceAdd, nb0, nb1, i10, i00, Bool.false_eq_true, not_true_eq_false, not_false_eq_true, reduceIte, show (3 ≤ w) = False from eq_false (by omega), nar0]
  rw [cl _ _ _ (by simp (disch := omega) only [gIs, gIn, gIj, gIr, gJs, gJn, gJi, gJr, gPr, gPi, gPj, hu_s, hu_n, hv_s, hv_n])]
/-- the whole beginning in the class -/
theorem c_body0 {n : Nat} {u : Mm} (hn : 5000 ≤ n) (h8 : u.1 43 8 = 0) : ∃ uI, (∀ Q, w_X4_readBody n u Q = w_X4_readBody_62 n Q n 0 0 uI) ∧ (∀ a, jKc a u → jKc a uI) ∧ (∀ w, w < 3 → uI.1 (50 + w) 3 = 0 ∧ uI.1 (50 + w) 4 = 0 ∧ uI.1 (50 + w) 5 = 0 ∧ uI.1 (50 + w) 7 = u.1 43 6 ∧ uI.1 (50 + w) 8 = u.1 43 2 ∧ uI.1 (50 + w) 9 = u.1 43 3 ∧ uI.1 (50 + w) 10 = u.1 43 4 ∧ uI.1 (50 + w) 11 = 0 ∧ uI.2.1 (50 + w) 6 = 0 ∧ ∀ j, j < 84 → uI.1 (59 + w) j = 0) ∧ (∀ q, q ≠ 38 → q ≠ 39 → q ≠ 43 → (q < 50 ∨ 62 ≤ q) → uI.1 q = u.1 q) ∧ (∀ k, k ≠ 8 → uI.1 43 k = u.1 43 k) ∧ uI.1 43 8 = 1 ∧ (uI.1 38 9 = 1 ∧ uI.1 38 11 = 0 ∧ uI.1 38 12 = -1) ∧ (uI.1 39 0 = 0 ∧ uI.1 39 1 = 0 ∧ uI.1 39 2 = 0 ∧ uI.1 39 3 = 0 ∧ uI.1 39 6 = 1 ∧ uI.1 39 7 = 1) ∧ uI.2.2 2 = 50 ∧ uI.2.2 1 = u.2.2 1 := by
  obtain ⟨U, hU⟩ : ∃ U, U = bgU 2 (bgU 1 (bgU 0 u)) := ⟨_, rfl⟩
  have o : ∀ q, q < 50 ∨ 62 ≤ q → U.1 q = u.1 q := fun q hq => by
    rw [hU, bgU_o (by omega) (by omega), bgU_o (by omega) (by omega), bgU_o (by omega) (by omega)]
  have C3 : ∀ Q, w_X4_readBody n u Q = w_X4_readBody_2 n Q (n - 3) (nI 4) U := fun Q => by
    unfold w_X4_readBody
    obtain ⟨k, rfl⟩ : ∃ k, n = k + 1 + 1 + 1 := ⟨n - 3, by omega⟩
    rw [show (1 : Int32) = nI (0 + 1) from rfl, c_body2 hn (by omega), c_body2 (w := 1) hn (by omega), c_body2 (w := 2) hn (by omega), hU]
    rfl
  have x8 : ix (8 : Int32) = 8 := rfl
  have i0 : vp_in ((1 : Int32) - 1) 3 = True := nn_in (a := 0) (by omega)
  have xx : ix ((1 : Int32) - 1) = 0 := rfl
  have U8 : U.1 43 8 = 0 := by rw [o 43 (by omega)]; exact h8
  refine ⟨setI (setI (setI (setI (setI (setI (setI (setI (setI (setI (setP (setI U 38 9 1) 2 50) 43 8 1) 39 3 0) 39 6 1) 39 7 1) 39 0 0) 39 1 0) 39 2 0) 38 11 0) 38 12 (-1)) 38 13 0, fun Q => ?_, fun a hKc => ?_, fun w hw => ?_, fun q h1 h2 h3 h4 => ?_, fun k hk => ?_, by simp (disch := omega) only [gIs, gIn, gIj, gIr, gJs, gJn, gJi, gJr, gPr, gPi, gPj, hu_s, hu_n, hv_s, hv_n], ⟨by simp (disch := omega) only [gIs, gIn, gIj, gIr, gJs, gJn, gJi, gJr, gPr, gPi, gPj, hu_s, hu_n, hv_s, hv_n], by simp (disch := omega) only [gIs, gIn, gIj, gIr, gJs, gJn, gJi, gJr, gPr, gPi, gPj, hu_s, hu_n, hv_s, hv_n], by simp (disch := omega) only [gIs, gIn, gIj, gIr, gJs, gJn, gJi, gJr, gPr, gPi, gPj, hu_s, hu_n, hv_s, hv_n]⟩, ⟨by simp (disch := omega) only [gIs, gIn, gIj, gIr, gJs, gJn, gJi, gJr, gPr, gPi, gPj, hu_s, hu_n, hv_s, hv_n], by simp (disch := omega) only [gIs, gIn, gIj, gIr, gJs, gJn, gJi, gJr, gPr, gPi, gPj, hu_s, hu_n, hv_s, hv_n], by simp (disch := omega) only [gIs, gIn, gIj, gIr, gJs, gJn, gJi, gJr, gPr, gPi, gPj, hu_s, hu_n, hv_s, hv_n], by simp (disch := omega) only [gIs, gIn, gIj, gIr, gJs, gJn, gJi, gJr, gPr, gPi, gPj, hu_s, hu_n, hv_s, hv_n], by simp (disch := omega) only [gIs, gIn, gIj, gIr, gJs, gJn, gJi, gJr, gPr, gPi, gPj, hu_s, hu_n, hv_s, hv_n], by simp (disch := omega) only [gIs, gIn, gIj, gIr, gJs, gJn, gJi, gJr, gPr, gPi, gPj, hu_s, hu_n, hv_s, hv_n]⟩, ?_, ?_⟩
  · rw [C3]
    obtain ⟨k, hk⟩ : ∃ k, n - 3 = k + 1 := ⟨n - 4, by omega⟩
    rw [hk, w_X4_readBody_2]
    simp (disch := omega) only [↓mletE, ↓iletE, ↓jletE, ↓br_if, ↓br_ifn, ↓reduceIte, nl_lt, nl_gt, nl_le, nl_ge, nl_eq, nn_lt, nn_le, nn_eq, nl_add, nl_sub, nl_mul, nl_mulr, nn_add, nn_ix, nn_in, true_and, and_true, false_and, and_false, gI_if, gIj, gIr, gJ_if, gJi, gJr, gPr, gPi, gPj, hu_if, hv_if, Nat.reduceEqDiff, Nat.reduceLT, Nat.reduceLeDiff, eq_self, bIT, bIF, Nat.add_zero, Nat.add_assoc, Nat.reduceAdd, nb0, nb1, i10, i00, Bool.false_eq_true, not_true_eq_false, not_false_eq_true, reduceIte, w_X4_takeVoice, w_X7_voiceOf, w_X7_voiceOf_21, show ((1 : Int32) < 1) = False from by decide, show ((3 : Int32) < 1) = False from by decide, i0, xx, x8, U8, show ((0 : Int32) < 1) = True from by decide, w_X2_clear, w_X2_clearBroken, w_X2_clearSigns]
  · have : jKc a U := by rw [hU]; exact bgU_K (by omega) (bgU_K (by omega) (bgU_K (by omega) hKc))
    exact ((((((((((((this.set (by omega) (by omega)).setP2 (by omega)).set (by omega) (by omega)).set (by omega) (by omega)).set (by omega) (by omega)).set (by omega) (by omega)).set (by omega) (by omega)).set (by omega) (by omega)).set (by omega) (by omega)).set (by omega) (by omega)).set (by omega) (by omega)).set (by omega) (by omega))
  · have key : U.1 (50 + w) 3 = 0 ∧ U.1 (50 + w) 4 = 0 ∧ U.1 (50 + w) 5 = 0 ∧ U.1 (50 + w) 7 = u.1 43 6 ∧ U.1 (50 + w) 8 = u.1 43 2 ∧ U.1 (50 + w) 9 = u.1 43 3 ∧ U.1 (50 + w) 10 = u.1 43 4 ∧ U.1 (50 + w) 11 = 0 ∧ U.2.1 (50 + w) 6 = 0 ∧ ∀ j, j < 84 → U.1 (59 + w) j = 0 := by
      have : w = 0 ∨ w = 1 ∨ w = 2 := by omega
      rw [hU]
      rcases this with rfl | rfl | rfl
      · rw [bgU_o (q := 50 + 0) (by omega) (by omega), bgU_o (q := 50 + 0) (by omega) (by omega), bgU_o (q := 59 + 0) (by omega) (by omega), bgU_o (q := 59 + 0) (by omega) (by omega), bgU_J.2.1 (50 + 0) (by omega), bgU_J.2.1 (50 + 0) (by omega)]
        obtain ⟨a1, a2, a3, a4, a5, a6, a7⟩ := bgU_v (w := 0) (u := u)
        exact ⟨bgU_3, a1, a2, a3, a4, a5, a6, a7, bgU_J.1, fun j hj => bgU_m hj⟩
      · rw [bgU_o (q := 50 + 1) (by omega) (by omega), bgU_o (q := 59 + 1) (by omega) (by omega), bgU_J.2.1 (50 + 1) (by omega)]
        obtain ⟨a1, a2, a3, a4, a5, a6, a7⟩ := bgU_v (w := 1) (u := bgU 0 u)
        rw [bgU_o (q := 43) (by omega) (by omega)] at a3 a4 a5 a6
        exact ⟨bgU_3, a1, a2, a3, a4, a5, a6, a7, bgU_J.1, fun j hj => bgU_m hj⟩
      · obtain ⟨a1, a2, a3, a4, a5, a6, a7⟩ := bgU_v (w := 2) (u := bgU 1 (bgU 0 u))
        rw [bgU_o (q := 43) (by omega) (by omega), bgU_o (q := 43) (by omega) (by omega)] at a3 a4 a5 a6
        exact ⟨bgU_3, a1, a2, a3, a4, a5, a6, a7, bgU_J.1, fun j hj => bgU_m hj⟩
    simp (disch := omega) only [gIs, gIn, gIj, gIr, gJs, gJn, gJi, gJr, gPr, gPi, gPj, hu_s, hu_n, hv_s, hv_n]
    exact key
  · simp (disch := omega) only [gIs, gIn, gIj, gIr, gJs, gJn, gJi, gJr, gPr, gPi, gPj, hu_s, hu_n, hv_s, hv_n]; exact o q h4
  · simp (disch := omega) only [gIs, gIn, gIj, gIr, gJs, gJn, gJi, gJr, gPr, gPi, gPj, hu_s, hu_n, hv_s, hv_n]; rw [o 43 (by omega)]
  · exact (show (setP (setI U 38 9 1) 2 50).2.2 2 = 50 from by rw [gPr]; exact if_pos rfl)
  · have : U.2.2 = u.2.2 := by rw [hU]; rfl
    exact (show (setP (setI U 38 9 1) 2 50).2.2 1 = u.2.2 1 from by rw [gPr, if_neg (by omega), gIr, this])
/-- and in the reference -/
theorem r_tune0 {n : Nat} {v : Mm} (hn : 5000 ≤ n) : ∃ vI, (∀ Q T', w_X12_readTune_25 n Q T' n 0 v = w_X12_readMusic n vI Q T') ∧ (∀ a, jKm a v → jKm a vI) ∧ (∀ w, w < 3 → vI.1 12 w = v.1 0 20 ∧ vI.1 13 w = v.1 0 16 ∧ vI.1 14 w = v.1 0 17 ∧ vI.1 15 w = v.1 0 18 ∧ vI.2.1 16 w = 0 ∧ vI.1 17 w = 0 ∧ vI.1 18 w = 0 ∧ vI.1 19 w = 0 ∧ vI.1 23 w = -1 ∧ ∀ k, k < 448 → vI.1 22 (448 * w + k) = 100) ∧ (∀ q, (q ≠ 0 ∧ q ≠ 12 ∧ q ≠ 13 ∧ q ≠ 14 ∧ q ≠ 15 ∧ q ≠ 17 ∧ q ≠ 18 ∧ q ≠ 19 ∧ q ≠ 22 ∧ q ≠ 23) → vI.1 q = v.1 q) ∧ (∀ k, k < 28 ∨ (28 < k ∧ k < 42) → vI.1 0 k = v.1 0 k) ∧ (vI.1 0 28 = 0 ∧ vI.1 0 42 = 0 ∧ vI.1 0 43 = 0 ∧ vI.1 0 44 = 0 ∧ vI.1 0 45 = 0 ∧ vI.1 0 46 = 0 ∧ vI.1 0 49 = -1 ∧ vI.1 0 63 = -1 ∧ vI.1 0 59 = 1 ∧ vI.1 0 60 = 1) := by
  obtain ⟨V, hV⟩ : ∃ V, V = bgV 2 (bgV 1 (bgV 0 v)) := ⟨_, rfl⟩
  have C3 : ∀ Q T', w_X12_readTune_25 n Q T' n 0 v = w_X12_readTune_25 n Q T' (n - 3) (nI 3) V := fun Q T' => by
    obtain ⟨k, rfl⟩ : ∃ k, n = k + 1 + 1 + 1 := ⟨n - 3, by omega⟩
    rw [show (0 : Int32) = nI 0 from rfl, r_tune25 hn (by omega), r_tune25 (w := 0 + 1) hn (by omega), r_tune25 (w := 0 + 1 + 1) hn (by omega), hV]
    rfl
  refine ⟨setI (setI (setI (setI (setI (setI (setI (setI (setI (setI V 0 28 0) 0 42 0) 0 43 0) 0 44 0) 0 45 0) 0 46 0) 0 49 (-1)) 0 63 (-1)) 0 59 1) 0 60 1, fun Q T' => ?_, fun a hK => ?_, fun w hw => ?_, fun q hq => ?_, fun k hk => ?_, by simp (disch := omega) only [gIs, gIn, gIj, gIr, gJs, gJn, gJi, gJr, gPr, gPi, gPj, hu_s, hu_n, hv_s, hv_n], by simp (disch := omega) only [gIs, gIn, gIj, gIr, gJs, gJn, gJi, gJr, gPr, gPi, gPj, hu_s, hu_n, hv_s, hv_n], by simp (disch := omega) only [gIs, gIn, gIj, gIr, gJs, gJn, gJi, gJr, gPr, gPi, gPj, hu_s, hu_n, hv_s, hv_n], by simp (disch := omega) only [gIs, gIn, gIj, gIr, gJs, gJn, gJi, gJr, gPr, gPi, gPj, hu_s, hu_n, hv_s, hv_n], by simp (disch := omega) only [gIs, gIn, gIj, gIr, gJs, gJn, gJi, gJr, gPr, gPi, gPj, hu_s, hu_n, hv_s, hv_n], by simp (disch := omega) only [gIs, gIn, gIj, gIr, gJs, gJn, gJi, gJr, gPr, gPi, gPj, hu_s, hu_n, hv_s, hv_n], by simp (disch := omega) only [gIs, gIn, gIj, gIr, gJs, gJn, gJi, gJr, gPr, gPi, gPj, hu_s, hu_n, hv_s, hv_n], by simp (disch := omega) only [gIs, gIn, gIj, gIr, gJs, gJn, gJi, gJr, gPr, gPi, gPj, hu_s, hu_n, hv_s, hv_n], by simp (disch := omega) only [gIs, gIn, gIj, gIr, gJs, gJn, gJi, gJr, gPr, gPi, gPj, hu_s, hu_n, hv_s, hv_n], by simp (disch := omega) only [gIs, gIn, gIj, gIr, gJs, gJn, gJi, gJr, gPr, gPi, gPj, hu_s, hu_n, hv_s, hv_n]⟩
  · rw [C3]
    obtain ⟨k, hk⟩ : ∃ k, n - 3 = k + 1 := ⟨n - 4, by omega⟩
    rw [hk, w_X12_readTune_25]
    simp (disch := omega) only [↓mletE, ↓iletE, ↓jletE, ↓br_if, ↓br_ifn, ↓reduceIte, nl_lt, nl_gt, nl_le, nl_ge, nl_eq, nn_lt, nn_le, nn_eq, nl_add, nl_sub, nl_mul, nl_mulr, nn_add, nn_ix, nn_in, true_and, and_true, false_and, and_false, gI_if, gIj, gIr, gJ_if, gJi, gJr, gPr, gPi, gPj, hu_if, hv_if, Nat.reduceEqDiff, Nat.reduceLT, Nat.reduceLeDiff, eq_self, bIT, bIF, Nat.add_zero, Nat.add_assoc, Nat.reduceAdd, nb0, nb1, i10, i00, Bool.false_eq_true, not_true_eq_false, not_false_eq_true, reduceIte, Nat.le_refl]
  · have hKm : jKm a V := by rw [hV]; exact bgV_K (bgV_K (bgV_K hK))
    exact (by repeat (first | exact hKm | refine jKm.set ?_ (by omega) (by omega) | refine jKm.setJ ?_ (by omega)))
  · have key : V.1 12 w = v.1 0 20 ∧ V.1 13 w = v.1 0 16 ∧ V.1 14 w = v.1 0 17 ∧ V.1 15 w = v.1 0 18 ∧ V.2.1 16 w = 0 ∧ V.1 17 w = 0 ∧ V.1 18 w = 0 ∧ V.1 19 w = 0 ∧ V.1 23 w = -1 ∧ ∀ k, k < 448 → V.1 22 (448 * w + k) = 100 := by
      have : w = 0 ∨ w = 1 ∨ w = 2 := by omega
      rw [hV]
      obtain ⟨a1, a2, a3, a4, a5, a6, a7, a8⟩ := bgV_v (w := 2) (w' := w) (v := bgV 1 (bgV 0 v))
      obtain ⟨b1, b2, b3, b4, b5, b6, b7, b8⟩ := bgV_v (w := 1) (w' := w) (v := bgV 0 v)
      obtain ⟨c1, c2, c3, c4, c5, c6, c7, c8⟩ := bgV_v (w := 0) (w' := w) (v := v)
      have aJ := (bgV_J (w := 2) (v := bgV 1 (bgV 0 v))).1 w
      have bJ := (bgV_J (w := 1) (v := bgV 0 v)).1 w
      have cJ := (bgV_J (w := 0) (v := v)).1 w
      have e2 : ∀ k, k ≠ 28 → (bgV 1 (bgV 0 v)).1 0 k = v.1 0 k := fun k hk => by rw [bgV_0 hk, bgV_0 hk]
      have e1 : ∀ k, k ≠ 28 → (bgV 0 v).1 0 k = v.1 0 k := fun k hk => bgV_0 hk
      rw [e2 20 (by omega)] at a1
      rw [e2 16 (by omega)] at a2
      rw [e2 17 (by omega)] at a3
      rw [e2 18 (by omega)] at a4
      rw [e1 20 (by omega)] at b1
      rw [e1 16 (by omega)] at b2
      rw [e1 17 (by omega)] at b3
      rw [e1 18 (by omega)] at b4
      rw [a1, a2, a3, a4, a5, a6, a7, a8, aJ, b1, b2, b3, b4, b5, b6, b7, b8, bJ, c1, c2, c3, c4, c5, c6, c7, c8, cJ]
      have k22 : ∀ k, k < 448 → (bgV 2 (bgV 1 (bgV 0 v))).1 22 (448 * w + k) = 100 := fun k hk => by
        rw [bgV_22]
        by_cases h2 : w = 2
        · rw [if_pos (by omega)]
        rw [if_neg (by omega), bgV_22]
        by_cases h1 : w = 1
        · rw [if_pos (by omega)]
        rw [if_neg (by omega), bgV_22, if_pos (by omega)]
      rcases this with rfl | rfl | rfl <;> exact ⟨rfl, rfl, rfl, rfl, rfl, rfl, rfl, rfl, rfl, k22⟩
    simp (disch := omega) only [gIs, gIn, gIj, gIr, gJs, gJn, gJi, gJr, gPr, gPi, gPj, hu_s, hu_n, hv_s, hv_n]
    exact key
  · simp (disch := omega) only [gIs, gIn, gIj, gIr, gJs, gJn, gJi, gJr, gPr, gPi, gPj, hu_s, hu_n, hv_s, hv_n]
    rw [hV, bgV_o hq, bgV_o hq, bgV_o hq]
  · simp (disch := omega) only [gIs, gIn, gIj, gIr, gJs, gJn, gJi, gJr, gPr, gPi, gPj, hu_s, hu_n, hv_s, hv_n]
    rw [hV, bgV_0 (by omega), bgV_0 (by omega), bgV_0 (by omega)]
