/-! signs, letters, lengths written -/
theorem sgnS {n : Nat} {s : Int32} {u v : Mm} (hn : 5000 ≤ n) (hs : s = -2 ∨ s = -1 ∨ s = 0 ∨ s = 1 ∨ s = 2) (hW : WR 0 u v) : ∃ m' u' v', m' ≤ 2 ∧ (∀ Q, w_X9_writeSign n s u Q = Q u') ∧ (∀ (x1 x2 : Int32) (N M : Int64) Q T', ((¬ s = 0 → w_X12_written_154 n x1 x2 N M s v Q T') ∧ (s = 0 → w_X12_show n 61 v (fun u4 => w_X12_written_154 n x1 x2 N M s u4 Q T') T')) = w_X12_written_196 n x1 x2 N M v' Q T') ∧ WP m' u v u' v' := by
  obtain ⟨k, rfl⟩ : ∃ k, n = k + 1 + 1 + 1 := ⟨n - 3, by omega⟩
  have t94 : (94 : Int32) = nI 94 := rfl
  have t95 : (95 : Int32) = nI 95 := rfl
  have t61 : (61 : Int32) = nI 61 := rfl
  rcases hs with rfl | rfl | rfl | rfl | rfl
  · obtain ⟨u1, v1, a1, a2, a3⟩ := putS (n := k + 1 + 1 + 1) (x := 95) hW (by omega) (by omega)
    obtain ⟨u2, v2, b1, b2, b3⟩ := putS (n := k + 1 + 1 + 1) (x := 95) a3.1 (by omega) (by omega)
    refine ⟨2, u2, v2, by omega, fun Q => ?_, fun x1 x2 N M Q T' => ?_, a3.trans b3⟩
    · unfold w_X9_writeSign w_X9_writeSign_10
      rw [br_ifn, if_neg (by decide), w_X9_writeSign_12, br_if, if_neg (by decide), br_if, if_pos (by decide), w_X9_writeSign_32, t95, a1, w_X9_writeSign_12, br_if, if_neg (by decide), br_if, if_pos (by decide), w_X9_writeSign_32, t95, b1, w_X9_writeSign_12, br_if, if_pos (by decide)]
    · unfold w_X12_written_154
      rw [br_ifn, if_neg (by decide), w_X12_written_158, br_if, if_pos (by decide), w_X12_written_179, br_if, if_neg (by decide), t95, a2, w_X12_written_179, br_if, if_neg (by decide), t95, b2, w_X12_written_179, br_if, if_pos (by decide)]
  · obtain ⟨u1, v1, a1, a2, a3⟩ := putS (n := k + 1 + 1 + 1) (x := 95) hW (by omega) (by omega)
    refine ⟨1, u1, v1, by omega, fun Q => ?_, fun x1 x2 N M Q T' => ?_, a3⟩
    · unfold w_X9_writeSign w_X9_writeSign_10
      rw [br_ifn, if_neg (by decide), w_X9_writeSign_12, br_if, if_neg (by decide), br_if, if_pos (by decide), w_X9_writeSign_32, t95, a1, w_X9_writeSign_12, br_if, if_pos (by decide)]
    · unfold w_X12_written_154
      rw [br_ifn, if_neg (by decide), w_X12_written_158, br_if, if_pos (by decide), w_X12_written_179, br_if, if_neg (by decide), t95, a2, w_X12_written_179, br_if, if_pos (by decide)]
  · obtain ⟨u1, v1, a1, a2, a3⟩ := putS (n := k + 1 + 1 + 1) (x := 61) hW (by omega) (by omega)
    refine ⟨1, u1, v1, by omega, fun Q => ?_, fun x1 x2 N M Q T' => ?_, a3⟩
    · unfold w_X9_writeSign w_X9_writeSign_10
      rw [br_ifn, if_pos rfl, t61, a1, w_X9_writeSign_12, br_if, if_pos (by decide)]
    · rw [br_ifn, if_pos rfl, t61, a2]
      unfold w_X12_written_154
      rw [w_X12_written_158, br_if, if_pos (by decide), w_X12_written_179, br_if, if_pos (by decide)]
  · obtain ⟨u1, v1, a1, a2, a3⟩ := putS (n := k + 1 + 1 + 1) (x := 94) hW (by omega) (by omega)
    refine ⟨1, u1, v1, by omega, fun Q => ?_, fun x1 x2 N M Q T' => ?_, a3⟩
    · unfold w_X9_writeSign w_X9_writeSign_10
      rw [br_ifn, if_neg (by decide), w_X9_writeSign_12, br_if, if_neg (by decide), br_if, if_neg (by decide), w_X9_writeSign_32, t94, a1, w_X9_writeSign_12, br_if, if_pos (by decide)]
    · unfold w_X12_written_154
      rw [br_ifn, if_neg (by decide), w_X12_written_158, br_if, if_neg (by decide), t94, a2, w_X12_written_158, br_if, if_pos (by decide), w_X12_written_179, br_if, if_pos (by decide)]
  · obtain ⟨u1, v1, a1, a2, a3⟩ := putS (n := k + 1 + 1 + 1) (x := 94) hW (by omega) (by omega)
    obtain ⟨u2, v2, b1, b2, b3⟩ := putS (n := k + 1 + 1 + 1) (x := 94) a3.1 (by omega) (by omega)
    refine ⟨2, u2, v2, by omega, fun Q => ?_, fun x1 x2 N M Q T' => ?_, a3.trans b3⟩
    · unfold w_X9_writeSign w_X9_writeSign_10
      rw [br_ifn, if_neg (by decide), w_X9_writeSign_12, br_if, if_neg (by decide), br_if, if_neg (by decide), w_X9_writeSign_32, t94, a1, w_X9_writeSign_12, br_if, if_neg (by decide), br_if, if_neg (by decide), w_X9_writeSign_32, t94, b1, w_X9_writeSign_12, br_if, if_pos (by decide)]
    · unfold w_X12_written_154
      rw [br_ifn, if_neg (by decide), w_X12_written_158, br_if, if_neg (by decide), t94, a2, w_X12_written_158, br_if, if_neg (by decide), t94, b2, w_X12_written_158, br_if, if_pos (by decide), w_X12_written_179, br_if, if_pos (by decide)]
/-- what the reference does behind the octaves -/
def tl (n : Nat) (b : Int32) (N M : Int64) (v : Mm) (Q : Int32 → Mm → Prop) (T' : Mm → Prop) : Prop := (lg_cmp N 1 ≤ 0 → w_X12_written_315 n b M v Q T') ∧ (¬ lg_cmp N 1 ≤ 0 → w_X12_showNumber n N.toInt32 v (fun u1 => w_X12_written_315 n b M u1 Q T') T')
theorem octS {n m : Nat} {b oct : Int32} {N M : Int64} {z : Int} {u v : Mm} (hn : 5000 ≤ n) (hz : -2 ≤ z ∧ z ≤ 9) (ho : oct.toInt = z) (hm : m ≤ 3) (hW : WR m u v) : ∃ m' u' v', m' ≤ m + 6 ∧ (∀ Q, w_X9_writeLetter_37 n oct u Q = Q u') ∧ (∀ Q T', w_X12_written_263 n Q T' n b N M oct oct v = tl n b N M v' Q T') ∧ WP m' u v u' v' := by
  have e4 : (4 : Int32).toInt = 4 := rfl
  have e5 : (5 : Int32).toInt = 5 := rfl
  obtain ⟨k, hk⟩ : ∃ k, n = k + 1 := ⟨n - 1, by clear ho e4 e5; omega⟩
  have E61 : ∀ (u : Mm) Q, z ≥ 4 → w_X9_writeLetter_61 n Q n oct 4 u = Q u := fun u Q h => by
    rw [hk, w_X9_writeLetter_61, br_if, if_pos ((le_i e4 ho).mpr h)]
  have E285 : ∀ (v : Mm) Q T' (x : Int32) (k : Nat), 0 < k → (4 : Int32) ≤ x → w_X12_written_285 n Q T' k b N M x v = tl n b N M v Q T' := fun v Q T' x k h0 h => by
    obtain ⟨k, rfl⟩ : ∃ k1, k = k1 + 1 := ⟨k - 1, by clear ho e4 e5; omega⟩
    rw [w_X12_written_285, br_if, if_pos h]
    rfl
  by_cases h5 : 5 < z
  · obtain ⟨u1, v1, a1, a2, a3⟩ := apoS (n := n) (b := b) (N := N) (M := M) hz ho (z - 5).toNat n n m 5 oct u v (by clear ho e4 e5; omega) (by clear ho e4 e5; omega) (by clear ho e4 e5; omega) (by clear ho e4 e5; omega) (e5.trans (by clear ho e4 e5; omega)) (ho.trans (by clear ho e4 e5; omega)) hW
    refine ⟨m + (z - 5).toNat, u1, v1, by clear ho e4 e5; omega, fun Q => ?_, fun Q T' => ?_, a3⟩
    · unfold w_X9_writeLetter_37
      rw [a1, E61 _ _ (by clear ho e4 e5; omega)]
    · rw [a2, E285 _ _ _ _ _ (by clear ho e4 e5; omega) ((le_i e4 ho).mpr (by clear ho e4 e5; omega))]
  · have C40 : ∀ Q, w_X9_writeLetter_37 n oct u Q = w_X9_writeLetter_61 n Q n oct 4 u := fun Q => by
      unfold w_X9_writeLetter_37
      conv => lhs; rw [hk]
      rw [w_X9_writeLetter_40, br_if, if_pos ((le_i ho e5).mpr (by clear ho e4 e5; omega)), ← hk]
    have M263 : ∀ Q T', w_X12_written_263 n Q T' n b N M oct oct v = w_X12_written_285 n Q T' n b N M oct v := fun Q T' => by
      have : ∀ k', 0 < k' → w_X12_written_263 n Q T' k' b N M oct oct v = w_X12_written_285 n Q T' n b N M oct v := fun k' h0 => by
        obtain ⟨k', rfl⟩ : ∃ k1, k' = k1 + 1 := ⟨k' - 1, by clear ho e4 e5; omega⟩
        rw [w_X12_written_263, br_if, if_pos ((le_i ho e5).mpr (by clear ho e4 e5; omega))]
      exact this n (by clear ho e4 e5; omega)
    by_cases h4 : z ≤ 4
    · obtain ⟨u1, v1, a1, a2, a3⟩ := comS (n := n) (b := b) (N := N) (M := M) hz ho (4 - z).toNat n n m 4 oct u v (by clear ho e4 e5; omega) (by clear ho e4 e5; omega) (by clear ho e4 e5; omega) (by clear ho e4 e5; omega) (e4.trans (by clear ho e4 e5; omega)) (ho.trans (by clear ho e4 e5; omega)) hW
      refine ⟨m + (4 - z).toNat, u1, v1, by clear ho e4 e5; omega, fun Q => ?_, fun Q T' => ?_, a3⟩
      · rw [C40, a1]
      · rw [M263, a2, E285 _ _ _ _ _ (by clear ho e4 e5; omega) (by decide)]
    · refine ⟨m, u, v, by clear ho e4 e5; omega, fun Q => ?_, fun Q T' => ?_, hW, wF.refl, vF.refl⟩
      · rw [C40, E61 _ _ (by clear ho e4 e5; omega)]
      · rw [M263, E285 _ _ _ _ _ (by clear ho e4 e5; omega) ((le_i e4 ho).mpr (by clear ho e4 e5; omega))]
theorem wc19 : ∀ l, l < 7 → wn 19 = 14 ∧ wc 19 l = (if l < 5 then 67 + l else 60 + l) ∧ wc 19 (l + 7) = (if l < 5 then 67 + l else 60 + l) + 32 := by decide +kernel
theorem letS {n m l j : Nat} {b oct : Int32} {N M : Int64} {z : Int} {u v : Mm} (hn : 5000 ≤ n) (hj : j < 400) (hl : l < 7) (hz : -2 ≤ z ∧ z ≤ 9) (ho : oct.toInt = z) (hm : m ≤ 2) (hW : WR m u v) (h4 : v.1 6 (17 * j + 4) = nI l) (h5 : v.1 6 (17 * j + 5) = oct) : ∃ m' u' v', m' ≤ m + 7 ∧ (∀ Q, w_X9_writeLetter n (nI l) oct u Q = Q u') ∧ (∀ Q T', w_X12_written_196 n (nI j) b N M v Q T' = tl n b N M v' Q T') ∧ WP m' u v u' v' := by
  have e4 : (4 : Int32).toInt = 4 := rfl
  obtain ⟨w14, w1, w2⟩ := wc19 l hl
  obtain ⟨ch, hch, hchv⟩ : ∃ ch : Nat, ch < 128 ∧ ch = (if l < 5 then 67 + l else 60 + l) + (if oct ≤ 4 then 0 else 32) := ⟨_, by split <;> split <;> omega, rfl⟩
  obtain ⟨u1, v1, a1, a2, a3⟩ := putS (n := n) (x := ch) hW (by omega) hch
  obtain ⟨m', u2, v2, b0, b1, b2, b3⟩ := octS (n := n) (b := b) (N := N) (M := M) hn hz ho (show m + 1 ≤ 3 by omega) a3.1
  refine ⟨m', u2, v2, by omega, fun Q => ?_, fun Q T' => ?_, a3.trans b3⟩
  · have P : ∀ p : Nat, p < 14 → wc 19 p = ch → w_X9_writeLetter_13 n oct (nI p) u Q = Q u2 := fun p hp hc => by
      unfold w_X9_writeLetter_13
      rw [br_if, if_neg (nI_pos (by omega)), j_len (by omega), br_if, if_neg (by rw [w14, nn_le (by omega)]; omega), j_char ⟨by omega, by rw [w14]; exact hp⟩, hc, a1, b1]
    unfold w_X9_writeLetter
    by_cases h : oct ≤ 4
    · rw [br_if, if_pos h]
      exact P l (by omega) (by rw [w1, hchv, if_pos h]; rfl)
    · rw [br_if, if_neg h, show nI l + 7 = nI (l + 7) from nl_add]
      exact P (l + 7) (by omega) (by rw [w2, hchv, if_neg h])
  · have G : ∀ (k : Nat) (x : Int32) Q T', v.1 6 (17 * j + k) = x → k < 17 → w_X12_get n (nI j) (nI k) v Q T' = Q x v := fun k x Q T' hx hk => by
      simp (disch := omega) only [↓mletE, ↓iletE, ↓jletE, ↓br_if, ↓br_ifn, ↓reduceIte, nl_lt, nl_gt, nl_le, nl_ge, nl_eq, nn_lt, nn_le, nn_eq, nl_add, nl_sub, nl_mul, nl_mulr, nn_add, nn_ix, nn_in, true_and, and_true, false_and, and_false, gI_if, gIj, gIr, gJ_if, gJi, gJr, gPr, gPi, gPj, hu_if, hv_if, Nat.reduceEqDiff, Nat.reduceLT, Nat.reduceLeDiff, eq_self, bIT, bIF, Nat.add_zero, Nat.add_assoc, Nat.reduceAdd, nb0, nb1, i10, i00, Bool.false_eq_true, not_true_eq_false, not_false_eq_true, reduceIte, w_X12_get, hx]
    have P : ∀ c0 : Nat, ch = c0 + (if oct ≤ 4 then 0 else 32) → w_X12_written_229 n (nI j) b N M (nI c0) v Q T' = tl n b N M v2 Q T' := fun c0 hc => by
      unfold w_X12_written_229
      rw [show (5 : Int32) = nI 5 from rfl, G 5 oct _ _ h5 (by omega)]
      by_cases h : oct ≤ 4
      · rw [br_if, if_pos h]
        unfold w_X12_written_256
        rw [if_pos h, Nat.add_zero] at hc
        rw [← hc, a2, b2]
      · rw [br_if, if_neg h, show nI c0 + 32 = nI (c0 + 32) from nl_add]
        unfold w_X12_written_256
        rw [if_neg h] at hc
        rw [← hc, a2, b2]
    unfold w_X12_written_196
    rw [show (4 : Int32) = nI 4 from rfl, G 4 (nI l) _ _ h4 (by omega)]
    by_cases hl5 : 5 ≤ l
    · rw [br_if, if_pos (by rw [nl_ge (by omega)]; exact hl5), G 4 (nI l) _ _ h4 (by omega), show (65 : Int32) + nI l - 5 = nI (60 + l) from by rw [show (65 : Int32) + nI l = nI (65 + l) from nI_add 65 l, show nI (65 + l) - 5 = nI (65 + l - 5) from pk_sub (show 5 ≤ 65 + l by omega), show 65 + l - 5 = 60 + l from by omega]]
      exact P (60 + l) (by rw [hchv, if_neg (by omega)])
    · rw [br_if, if_neg (by rw [nl_ge (by omega)]; exact hl5), G 4 (nI l) _ _ h4 (by omega), show (67 : Int32) + nI l = nI (67 + l) from nI_add 67 l]
      exact P (67 + l) (by rw [hchv, if_pos (by omega)])
theorem lN_32 {x : Nat} (h : x ≤ 64) : (lN x).toInt32 = nI x := (show ∀ x, x ≤ 64 → (lN x).toInt32 = nI x from by decide +kernel) x h
theorem lenS {n m N M : Nat} {b : Int32} {u v : Mm} (hN : 1 ≤ N ∧ N ≤ 64) (hM : 1 ≤ M ∧ M ≤ 64) (hm : m ≤ 12) (hW : WR m u v) : ∃ m' u' v', (∀ Q, w_X9_writeLength_45 n (lN N) (lN M) 1 u Q = Q 1 u') ∧ (∀ Q T', tl n b (lN N) (lN M) v Q T' = w_X12_written_344 n b v' Q T') ∧ WP m' u v u' v' := by
  have t47 : (47 : Int32) = nI 47 := rfl
  have q1 : (lg_cmp (lN N) 1 < 0) = (N < 1) := by rw [show (1 : Int64) = lN 1 from rfl, lc_lt (by omega)]
  have q2 : (0 < lg_cmp (lN N) 64) = (64 < N) := by rw [show (64 : Int64) = lN 64 from rfl, lc_gt (by omega)]
  have q3 : (0 < lg_cmp (lN M) 64) = (64 < M) := by rw [show (64 : Int64) = lN 64 from rfl, lc_gt (by omega)]
  have q4 : (lg_cmp (lN N) 1 ≤ 0) = (N ≤ 1) := by rw [show (1 : Int64) = lN 1 from rfl, lc_le (by omega)]
  have q5 : (lg_cmp (lN M) 1 ≤ 0) = (M ≤ 1) := by rw [show (1 : Int64) = lN 1 from rfl, lc_le (by omega)]
  have q6 : (lg_cmp (lN M) 2 ≤ 0) = (M ≤ 2) := by rw [show (2 : Int64) = lN 2 from rfl, lc_le (by omega)]
  obtain ⟨m1, u1, v1, a0, a1, a2, a3⟩ : ∃ m1 u1 v1, m1 ≤ m + 2 ∧ (∀ Q, w_X9_writeLength_45 n (lN N) (lN M) 1 u Q = w_X9_writeLength_93 n (lN M) u1 Q) ∧ (∀ Q T', tl n b (lN N) (lN M) v Q T' = w_X12_written_315 n b (lN M) v1 Q T') ∧ WP m1 u v u1 v1 := by
    by_cases h1 : N ≤ 1
    · refine ⟨m, u, v, by omega, fun Q => ?_, fun Q T' => ?_, hW, wF.refl, vF.refl⟩
      · unfold w_X9_writeLength_45
        rw [br_if, if_neg (by rw [q1]; omega), br_if, if_neg (by rw [q2]; omega), br_if, if_neg (by rw [q3]; omega), br_ifn, if_neg (by decide), br_if, if_pos (by rw [q4]; exact h1)]
      · unfold tl
        rw [br_if, if_pos (by rw [q4]; exact h1)]
    · obtain ⟨m1, u1, v1, d0, d1, d2, d3⟩ := decS (n := n) (x := N) hW (by omega) hN.2
      refine ⟨m1, u1, v1, d0, fun Q => ?_, fun Q T' => ?_, d3⟩
      · unfold w_X9_writeLength_45
        rw [br_if, if_neg (by rw [q1]; omega), br_if, if_neg (by rw [q2]; omega), br_if, if_neg (by rw [q3]; omega), br_ifn, if_neg (by decide), br_if, if_neg (by rw [q4]; exact h1), lN_32 hN.2, d1]
      · unfold tl
        rw [br_if, if_neg (by rw [q4]; exact h1), lN_32 hN.2, d2]
  by_cases h1 : M ≤ 1
  · refine ⟨m1, u1, v1, fun Q => ?_, fun Q T' => ?_, a3⟩
    · rw [a1]
      unfold w_X9_writeLength_93 w_X9_writeLength_106 w_X9_writeLength_122
      rw [br_if, if_pos (by rw [q5]; exact h1), br_if, if_pos (by rw [q6]; omega)]
    · rw [a2]
      unfold w_X12_written_315
      rw [br_if, if_pos (by rw [q5]; exact h1)]
  · obtain ⟨u2, v2, b1, b2, b3⟩ := putS (n := n) (x := 47) a3.1 (by omega) (by omega)
    by_cases h2 : M ≤ 2
    · refine ⟨m1 + 1, u2, v2, fun Q => ?_, fun Q T' => ?_, a3.trans b3⟩
      · rw [a1]
        unfold w_X9_writeLength_93 w_X9_writeLength_106 w_X9_writeLength_122
        rw [br_if, if_neg (by rw [q5]; exact h1), t47, b1, br_if, if_pos (by rw [q6]; exact h2)]
      · rw [a2]
        unfold w_X12_written_315
        rw [br_if, if_neg (by rw [q5]; exact h1), t47, b2, br_if, if_pos (by rw [q6]; exact h2)]
    · obtain ⟨m3, u3, v3, d0, d1, d2, d3⟩ := decS (n := n) (x := M) b3.1 (by omega) hM.2
      refine ⟨m3, u3, v3, fun Q => ?_, fun Q T' => ?_, (a3.trans b3).trans d3⟩
      · rw [a1]
        unfold w_X9_writeLength_93 w_X9_writeLength_106 w_X9_writeLength_122
        rw [br_if, if_neg (by rw [q5]; exact h1), t47, b1, br_if, if_neg (by rw [q6]; exact h2), lN_32 hM.2, d1]
      · rw [a2]
        unfold w_X12_written_315
        rw [br_if, if_neg (by rw [q5]; exact h1), t47, b2, br_if, if_neg (by rw [q6]; exact h2), lN_32 hM.2, d2]
