/-! feeding -/
def stp (A m : Nat) (y : Int32) (u : Mm) : Mm := setI (setI u A m y) 32 6 (nI (m + 1))
def stN (A tn : Nat) (f : Nat → Int32) : Nat → Mm → Mm
  | 0, u => u
  | k + 1, u => stp A (tn + k) (f k) (stN A tn f k u)
theorem stN_f {A tn : Nat} {f : Nat → Int32} {u : Mm} (hA : 41 ≤ A) (h6 : u.1 32 6 = nI tn) : ∀ k, (stN A tn f k u).1 32 6 = nI (tn + k) ∧ (∀ i, (stN A tn f k u).1 A i = if tn ≤ i ∧ i < tn + k then f (i - tn) else u.1 A i) ∧ (∀ q, q ≠ A → q ≠ 32 → (stN A tn f k u).1 q = u.1 q) ∧ (∀ j, j ≠ 6 → (stN A tn f k u).1 32 j = u.1 32 j) ∧ (stN A tn f k u).2 = u.2 := by
  intro k
  induction k with
  | zero =>
    refine ⟨h6, fun i => ?_, fun _ _ _ => rfl, fun _ _ => rfl, rfl⟩
    rw [if_neg (by omega)]; rfl
  | succ k ih =>
    obtain ⟨i1, i2, i3, i4, i5⟩ := ih
    unfold stN stp
    refine ⟨by rw [gIs, hu_s]; rfl, fun i => ?_, fun q h1 h2 => ?_, fun j hj => ?_, i5⟩
    · rw [gIn (by omega), gIs, hu_if]
      by_cases h : i = tn + k
      · rw [if_pos h, if_pos (by omega), show i - tn = k from by omega]
      · rw [if_neg h, i2 i]
        by_cases h2 : tn ≤ i ∧ i < tn + k
        · rw [if_pos h2, if_pos (by omega)]
        · rw [if_neg h2, if_neg (by omega)]
    · rw [gIn h2, gIn h1]; exact i3 q h1 h2
    · rw [gIs, hu_n hj, gIn (by omega)]; exact i4 j hj
theorem c_put1 {n A m r s k : Nat} {x : Int32} {u : Mm} {Q : Mm → Prop} (hP : u.2.2 0 = A) (h6 : u.1 32 6 = nI m) (hm : m < 2400) (hA : 41 ≤ A) (hs : s = 24 - 8 * r) : w_X10_putNumber_3 n Q (k + 1) x (nI s) u = w_X10_putNumber_3 n Q k x (nI s + -8) (stp A m (bt x r) u) := by
  have hb : vp_nar .byte (x >>> (nI s &&& 31)).toInt8.toInt32 = bt x r := by rw [nar_b, i8_back, hs]; rfl
  have nA : (32 = A) = False := eq_false (by omega)
  rw [w_X10_putNumber_3]
  unfold stp
  simp (disch := omega) only [↓mletE, ↓iletE, ↓jletE, ↓br_if, ↓br_ifn, ↓reduceIte, nl_lt, nl_gt, nl_le, nl_ge, nl_eq, nn_lt, nn_le, nn_eq, nl_add, nl_sub, nl_mul, nl_mulr, nn_add, nn_ix, nn_in, true_and, and_true, false_and, and_false, gI_if, gIj, gIr, gJ_if, gJi, gJr, gPr, gPi, gPj, hu_if, hv_if, Nat.reduceEqDiff, Nat.reduceLT, Nat.reduceLeDiff, eq_self, bIT, bIF, Nat.add_zero, Nat.add_assoc, Nat.reduceAdd, nb0, nb1, i10, i00, Bool.false_eq_true, not_true_eq_false, not_false_eq_true, reduceIte, show (s < 0) = False from eq_false (by omega), h6, show (m < 0) = False from eq_false (by omega), show (2400 ≤ m) = False from eq_false (by omega), hP, hb, nA, w_X10_putNumber_49]
theorem stp_P {A m : Nat} {y : Int32} {u : Mm} : (stp A m y u).2.2 = u.2.2 ∧ (stp A m y u).1 32 6 = nI (m + 1) := by
  unfold stp
  exact ⟨rfl, by rw [gIs, hu_s]⟩
def st4 (A m : Nat) (x : Int32) (u : Mm) : Mm := stp A (m + 3) (bt x 3) (stp A (m + 2) (bt x 2) (stp A (m + 1) (bt x 1) (stp A m (bt x 0) u)))
theorem st4_P {A m : Nat} {x : Int32} {u : Mm} : (st4 A m x u).2.2 = u.2.2 ∧ (st4 A m x u).1 32 6 = nI (m + 4) := by
  unfold st4
  exact ⟨rfl, stp_P.2⟩
theorem c_put4 {n A m : Nat} {x : Int32} {u : Mm} {Q : Mm → Prop} (hn : 5000 ≤ n) (hP : u.2.2 0 = A) (h6 : u.1 32 6 = nI m) (hm : m + 4 ≤ 2400) (hA : 41 ≤ A) : w_X10_putNumber n x u Q = Q (st4 A m x u) := by
  obtain ⟨k, rfl⟩ : ∃ k, n = k + 1 + 1 + 1 + 1 + 1 := ⟨n - 5, by omega⟩
  unfold w_X10_putNumber st4
  have e1 := c_put1 (n := k + 1 + 1 + 1 + 1 + 1) (A := A) (m := m) (r := 0) (s := 24) (k := k + 1 + 1 + 1 + 1) (x := x) (u := u) (Q := Q) hP h6 (by omega) hA (by omega)
  have e2 := c_put1 (n := k + 1 + 1 + 1 + 1 + 1) (A := A) (m := m + 1) (r := 1) (s := 16) (k := k + 1 + 1 + 1) (x := x) (u := stp A m (bt x 0) u) (Q := Q) hP stp_P.2 (by omega) hA (by omega)
  have e3 := c_put1 (n := k + 1 + 1 + 1 + 1 + 1) (A := A) (m := m + 2) (r := 2) (s := 8) (k := k + 1 + 1) (x := x) (u := stp A (m + 1) (bt x 1) (stp A m (bt x 0) u)) (Q := Q) hP stp_P.2 (by omega) hA (by omega)
  have e4 := c_put1 (n := k + 1 + 1 + 1 + 1 + 1) (A := A) (m := m + 3) (r := 3) (s := 0) (k := k + 1) (x := x) (u := stp A (m + 2) (bt x 2) (stp A (m + 1) (bt x 1) (stp A m (bt x 0) u))) (Q := Q) hP stp_P.2 (by omega) hA (by omega)
  rw [show nI 24 + -8 = nI 16 from by decide] at e1
  rw [show nI 16 + -8 = nI 8 from by decide] at e2
  rw [show nI 8 + -8 = nI 0 from by decide] at e3
  rw [show nI 0 + -8 = (-8 : Int32) from by decide] at e4
  rw [show (24 : Int32) = nI 24 from rfl, e1, e2, e3, e4, w_X10_putNumber_3, br_if, if_pos (by decide)]
def sel (a b c d e : Int32) (k : Nat) : Int32 := if k < 4 then a else if k < 8 then b else if k < 12 then c else if k < 16 then d else e
def fbt (a b c d e : Int32) (k : Nat) : Int32 := bt (sel a b c d e k) (k % 4)
theorem c_feed {n A tn : Nat} {a b c d e : Int32} {u : Mm} {Q : Int32 → Mm → Prop} (hn : 5000 ≤ n) (hP : u.2.2 0 = A) (h6 : u.1 32 6 = nI tn) (ht : tn + 20 ≤ 2400) (hA : 41 ≤ A) : w_X10_feed n a b c d e u Q = Q (nI (tn + 20)) (stN A tn (fbt a b c d e) 20 u) := by
  unfold w_X10_feed
  have f1 := fun Q => c_put4 (n := n) (A := A) (m := tn) (x := a) (u := u) (Q := Q) hn hP h6 (by omega) hA
  have f2 := fun Q => c_put4 (n := n) (A := A) (m := tn + 4) (x := b) (u := st4 A tn a u) (Q := Q) hn (by rw [st4_P.1]; exact hP) st4_P.2 (by omega) hA
  have f3 := fun Q => c_put4 (n := n) (A := A) (m := tn + 8) (x := c) (u := st4 A (tn + 4) b (st4 A tn a u)) (Q := Q) hn (by rw [st4_P.1, st4_P.1]; exact hP) st4_P.2 (by omega) hA
  have f4 := fun Q => c_put4 (n := n) (A := A) (m := tn + 12) (x := d) (u := st4 A (tn + 8) c (st4 A (tn + 4) b (st4 A tn a u))) (Q := Q) hn (by rw [st4_P.1, st4_P.1, st4_P.1]; exact hP) st4_P.2 (by omega) hA
  have f5 := fun Q => c_put4 (n := n) (A := A) (m := tn + 16) (x := e) (u := st4 A (tn + 12) d (st4 A (tn + 8) c (st4 A (tn + 4) b (st4 A tn a u)))) (Q := Q) hn (by rw [st4_P.1, st4_P.1, st4_P.1, st4_P.1]; exact hP) st4_P.2 (by omega) hA
  rw [br_if, if_pos (by rw [h6, nl_add, nl_le (by omega)]; exact ht), f1, f2, f3, f4, f5, st4_P.2]
  have e : st4 A (tn + 16) e (st4 A (tn + 12) d (st4 A (tn + 8) c (st4 A (tn + 4) b (st4 A tn a u)))) = stN A tn (fbt a b c d e) 20 u := by
    have e0 : ∀ k, stN A tn (fbt a b c d e) (k + 1) u = stp A (tn + k) (fbt a b c d e k) (stN A tn (fbt a b c d e) k u) := fun k => rfl
    rw [e0 19, e0 18, e0 17, e0 16, e0 15, e0 14, e0 13, e0 12, e0 11, e0 10, e0 9, e0 8, e0 7, e0 6, e0 5, e0 4, e0 3, e0 2, e0 1, e0 0]
    rfl
  rw [e]
def stV (tn : Nat) (f : Nat → Int32) : Nat → Mm → Mm
  | 0, v => v
  | k + 1, v => setI (stV tn f k v) 2 (tn + k) (f k)
theorem stV_f {tn : Nat} {f : Nat → Int32} {v : Mm} : ∀ k, (∀ i, (stV tn f k v).1 2 i = if tn ≤ i ∧ i < tn + k then f (i - tn) else v.1 2 i) ∧ (∀ q, q ≠ 2 → (stV tn f k v).1 q = v.1 q) ∧ (stV tn f k v).2 = v.2 := by
  intro k
  induction k with
  | zero =>
    refine ⟨fun i => ?_, fun _ _ => rfl, rfl⟩
    rw [if_neg (by omega)]; rfl
  | succ k ih =>
    obtain ⟨i2, i3, i5⟩ := ih
    unfold stV
    refine ⟨fun i => ?_, fun q h1 => ?_, i5⟩
    · rw [gIs, hu_if]
      by_cases h : i = tn + k
      · rw [if_pos h, if_pos (by omega), show i - tn = k from by omega]
      · rw [if_neg h, i2 i]
        by_cases h2 : tn ≤ i ∧ i < tn + k
        · rw [if_pos h2, if_pos (by omega)]
        · rw [if_neg h2, if_neg (by omega)]
    · rw [gIn h1]; exact i3 q h1
theorem r_feed {n tn : Nat} {a b c d e : Int32} {v : Mm} {Q : Int32 → Mm → Prop} {T' : Mm → Prop} (h4 : v.1 0 4 = nI tn) (ht : tn + 20 ≤ 2400) : ∀ (dd k kk : Nat), 20 - kk = dd → dd < k → kk ≤ 20 → w_X12_feed_24 n Q T' k a b c d e (nI kk) (stV tn (fbt a b c d e) kk v) = Q (nI (tn + 20)) (setI (stV tn (fbt a b c d e) 20 v) 0 4 (nI (tn + 20))) := by
  intro dd
  induction dd with
  | zero =>
    intro k kk hd hk hkk
    obtain ⟨k, rfl⟩ : ∃ k1, k = k1 + 1 := ⟨k - 1, by omega⟩
    obtain rfl : kk = 20 := by omega
    have e4 : (stV tn (fbt a b c d e) 20 v).1 0 4 = nI tn := by rw [(stV_f 20).2.1 0 (by omega)]; exact h4
    rw [w_X12_feed_24]
    simp (disch := omega) only [↓mletE, ↓iletE, ↓jletE, ↓br_if, ↓br_ifn, ↓reduceIte, nl_lt, nl_gt, nl_le, nl_ge, nl_eq, nn_lt, nn_le, nn_eq, nl_add, nl_sub, nl_mul, nl_mulr, nn_add, nn_ix, nn_in, true_and, and_true, false_and, and_false, gI_if, gIj, gIr, gJ_if, gJi, gJr, gPr, gPi, gPj, hu_if, hv_if, Nat.reduceEqDiff, Nat.reduceLT, Nat.reduceLeDiff, eq_self, bIT, bIF, Nat.add_zero, Nat.add_assoc, Nat.reduceAdd, nb0, nb1, i10, i00, Bool.false_eq_true, not_true_eq_false, not_false_eq_true, reduceIte, Nat.le_refl, e4]
  | succ dd ih =>
    intro k kk hd hk hkk
    obtain ⟨k, rfl⟩ : ∃ k1, k = k1 + 1 := ⟨k - 1, by omega⟩
    have e4 : (stV tn (fbt a b c d e) kk v).1 0 4 = nI tn := by rw [(stV_f kk).2.1 0 (by omega)]; exact h4
    have IH := ih k (kk + 1) (by omega) (by omega) (by omega)
    have S : w_X12_feed_77 n (w_X12_feed_24 n Q T' k) a b c d e (nI kk) (sel a b c d e kk) (stV tn (fbt a b c d e) kk v) Q T' = w_X12_feed_24 n Q T' k a b c d e (nI (kk + 1)) (stV tn (fbt a b c d e) (kk + 1) v) := by
      unfold w_X12_feed_77
      rw [e4, nn_add, nn_in (by omega), true_and, mletE, bt_ref (by omega), nn_ix (by omega), nl_add]
      rfl
    rw [← IH, ← S, w_X12_feed_24]
    unfold sel
    have n20 : (20 ≤ kk) = False := eq_false (by omega)
    by_cases k4 : kk < 4
    · simp (disch := omega) only [↓mletE, ↓iletE, ↓jletE, ↓br_if, ↓br_ifn, ↓reduceIte, nl_lt, nl_gt, nl_le, nl_ge, nl_eq, nn_lt, nn_le, nn_eq, nl_add, nl_sub, nl_mul, nl_mulr, nn_add, nn_ix, nn_in, true_and, and_true, false_and, and_false, gI_if, gIj, gIr, gJ_if, gJi, gJr, gPr, gPi, gPj, hu_if, hv_if, Nat.reduceEqDiff, Nat.reduceLT, Nat.reduceLeDiff, eq_self, bIT, bIF, Nat.add_zero, Nat.add_assoc, Nat.reduceAdd, nb0, nb1, i10, i00, Bool.false_eq_true, not_true_eq_false, not_false_eq_true, reduceIte, n20, show (4 ≤ kk) = False from eq_false (by omega), eq_true k4]
    by_cases k8 : kk < 8
    · simp (disch := omega) only [↓mletE, ↓iletE, ↓jletE, ↓br_if, ↓br_ifn, ↓reduceIte, nl_lt, nl_gt, nl_le, nl_ge, nl_eq, nn_lt, nn_le, nn_eq, nl_add, nl_sub, nl_mul, nl_mulr, nn_add, nn_ix, nn_in, true_and, and_true, false_and, and_false, gI_if, gIj, gIr, gJ_if, gJi, gJr, gPr, gPi, gPj, hu_if, hv_if, Nat.reduceEqDiff, Nat.reduceLT, Nat.reduceLeDiff, eq_self, bIT, bIF, Nat.add_zero, Nat.add_assoc, Nat.reduceAdd, nb0, nb1, i10, i00, Bool.false_eq_true, not_true_eq_false, not_false_eq_true, reduceIte, n20, show (4 ≤ kk) = True from eq_true (by omega), show (8 ≤ kk) = False from eq_false (by omega), eq_false k4, eq_true k8]
    by_cases k12 : kk < 12
    · simp (disch := omega) only [↓mletE, ↓iletE, ↓jletE, ↓br_if, ↓br_ifn, ↓reduceIte, nl_lt, nl_gt, nl_le, nl_ge, nl_eq, nn_lt, nn_le, nn_eq, nl_add, nl_sub, nl_mul, nl_mulr, nn_add, nn_ix, nn_in, true_and, and_true, false_and, and_false, gI_if, gIj, gIr, gJ_if, gJi, gJr, gPr, gPi, gPj, hu_if, hv_if, Nat.reduceEqDiff, Nat.reduceLT, Nat.reduceLeDiff, eq_self, bIT, bIF, Nat.add_zero, Nat.add_assoc, Nat.reduceAdd, nb0, nb1, i10, i00, Bool.false_eq_true, not_true_eq_false, not_false_eq_true, reduceIte, n20, show (4 ≤ kk) = True from eq_true (by omega), show (8 ≤ kk) = True from eq_true (by omega), show (12 ≤ kk) = False from eq_false (by omega), eq_false k4, eq_false k8, eq_true k12]
    by_cases k16 : kk < 16
    · simp (disch := omega) only [↓mletE, ↓iletE, ↓jletE, ↓br_if, ↓br_ifn, ↓reduceIte, nl_lt, nl_gt, nl_le, nl_ge, nl_eq, nn_lt, nn_le, nn_eq, nl_add, nl_sub, nl_mul, nl_mulr, nn_add, nn_ix, nn_in, true_and, and_true, false_and, and_false, gI_if, gIj, gIr, gJ_if, gJi, gJr, gPr, gPi, gPj, hu_if, hv_if, Nat.reduceEqDiff, Nat.reduceLT, Nat.reduceLeDiff, eq_self, bIT, bIF, Nat.add_zero, Nat.add_assoc, Nat.reduceAdd, nb0, nb1, i10, i00, Bool.false_eq_true, not_true_eq_false, not_false_eq_true, reduceIte, n20, show (4 ≤ kk) = True from eq_true (by omega), show (8 ≤ kk) = True from eq_true (by omega), show (12 ≤ kk) = True from eq_true (by omega), show (16 ≤ kk) = False from eq_false (by omega), eq_false k4, eq_false k8, eq_false k12, eq_true k16]
    · simp (disch := omega) only [↓mletE, ↓iletE, ↓jletE, ↓br_if, ↓br_ifn, ↓reduceIte, nl_lt, nl_gt, nl_le, nl_ge, nl_eq, nn_lt, nn_le, nn_eq, nl_add, nl_sub, nl_mul, nl_mulr, nn_add, nn_ix, nn_in, true_and, and_true, false_and, and_false, gI_if, gIj, gIr, gJ_if, gJi, gJr, gPr, gPi, gPj, hu_if, hv_if, Nat.reduceEqDiff, Nat.reduceLT, Nat.reduceLeDiff, eq_self, bIT, bIF, Nat.add_zero, Nat.add_assoc, Nat.reduceAdd, nb0, nb1, i10, i00, Bool.false_eq_true, not_true_eq_false, not_false_eq_true, reduceIte, n20, show (4 ≤ kk) = True from eq_true (by omega), show (8 ≤ kk) = True from eq_true (by omega), show (12 ≤ kk) = True from eq_true (by omega), show (16 ≤ kk) = True from eq_true (by omega), eq_false k4, eq_false k8, eq_false k12, eq_false k16]
theorem c_feedE {n A tn : Nat} {a b c d e : Int32} {u : Mm} (hn : 5000 ≤ n) (hP : u.2.2 0 = A) (h6 : u.1 32 6 = nI tn) (ht : tn + 20 ≤ 2400) (hA : 41 ≤ A) : ∃ u', (∀ Q, w_X10_feed n a b c d e u Q = Q (nI (tn + 20)) u') ∧ u'.1 32 6 = nI (tn + 20) ∧ (∀ i, u'.1 A i = if tn ≤ i ∧ i < tn + 20 then fbt a b c d e (i - tn) else u.1 A i) ∧ (∀ q, q ≠ A → q ≠ 32 → u'.1 q = u.1 q) ∧ (∀ j, j ≠ 6 → u'.1 32 j = u.1 32 j) ∧ u'.2 = u.2 :=
  ⟨stN A tn (fbt a b c d e) 20 u, fun Q => c_feed hn hP h6 ht hA, stN_f hA h6 20⟩
theorem r_feedE {n tn : Nat} {a b c d e : Int32} {v : Mm} (hn : 5000 ≤ n) (h4 : v.1 0 4 = nI tn) (ht : tn + 20 ≤ 2400) : ∃ v', (∀ Q T', w_X12_feed n a b c d e v Q T' = Q (nI (tn + 20)) (setI v' 0 4 (nI (tn + 20)))) ∧ (∀ i, v'.1 2 i = if tn ≤ i ∧ i < tn + 20 then fbt a b c d e (i - tn) else (setI v 0 0 0).1 2 i) ∧ (∀ q, q ≠ 2 → v'.1 q = (setI v 0 0 0).1 q) ∧ v'.2 = (setI v 0 0 0).2 := by
  have e4 : (setI v 0 0 0).1 0 4 = nI tn := by simp (disch := omega) only [gIs, gIn, gIj, gIr, gJs, gJn, gJi, gJr, gPr, gPi, gPj, hu_s, hu_n, hv_s, hv_n]; exact h4
  refine ⟨stV tn (fbt a b c d e) 20 (setI v 0 0 0), fun Q T' => ?_, stV_f 20⟩
  have R := r_feed (n := n) (a := a) (b := b) (c := c) (d := d) (e := e) (v := setI v 0 0 0) (Q := Q) (T' := T') e4 ht 20 n 0 rfl (by omega) (by omega)
  rw [← R]
  unfold w_X12_feed
  rw [mletE, br_if, if_pos (by rw [e4, nl_add, nl_le (by omega)]; omega), nI0]
  rfl
theorem q_feed {n t : Nat} {a b c d e : Int32} {σ : Mm} (hn : 5000 ≤ n) (ht : t < 64) (h : RRr t σ σ) : w_X10_feed n a b c d e σ (fun r1 σ1 => w_X12_feed n a b c d e σ1 (fun r2 σ2 => r1 = r2 ∧ RRr (t + 1) σ2 σ2) noT) := by
  obtain ⟨tn, c1, c2, c3, c4, c5⟩ := h.2.2.1
  obtain ⟨a1, a2, a3, a4⟩ := h.1
  obtain ⟨σ1, C, s1, s2, s3, s4, s5⟩ := c_feedE (n := n) (a := a) (b := b) (c := c) (d := d) (e := e) (tn := tn) (A := σ.2.2 0) (u := σ) hn rfl c3 (by omega) a2
  obtain ⟨σ2, R, t1, t2, t3⟩ := r_feedE (n := n) (a := a) (b := b) (c := c) (d := d) (e := e) (tn := tn) (v := σ1) hn (by rw [s3 0 (by omega) (by omega)]; exact c4) (by omega)
  rw [C, R]
  refine ⟨rfl, h.tape (tn := tn + 20) (by omega) (fun q g1 g2 g3 g4 => ?_) (fun k g1 g2 => ?_) (fun k g1 => ?_) ?_ ?_ (fun i hi => ?_) ?_⟩
  · rw [gIn g1, t2 q g2, gIn g1]; exact s3 q g4 g3
  · rw [gIs, hu_n g2, t2 0 (by omega), gIs, hu_n g1, s3 0 (by omega) (by omega)]
  · rw [gIn (by omega), t2 32 (by omega), gIn (by omega)]; exact s4 k g1
  · rw [gIn (by omega), t2 32 (by omega), gIn (by omega)]; exact s1
  · rw [gIs, hu_s]
  · rw [gIn (by omega), gIn (by omega), t2 _ (by omega), gIn (by omega), s2 i, t1 i, gIn (by omega), s3 2 (by omega) (by omega)]
    by_cases hh : tn ≤ i ∧ i < tn + 20
    · rw [if_pos hh, if_pos hh]
      refine ⟨rfl, ?_⟩
      unfold fbt bt
      exact i8_sbv _
    · rw [if_neg hh, if_neg hh]
      exact c5 i (by omega)
  · exact t3.trans s5
