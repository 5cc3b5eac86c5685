/-! the greatest common part; a note written again -/
def w51 (n : Nat) (x1 x2 : Int32) (x3 x5 x7 : Int64) (u0 : Mm) (Q : Int32 → Mm → Prop) (T : Mm → Prop) : Prop := ¬ x7 = 0 ∧ (jlet (x3 / x7) fun y1 =>
  ¬ x7 = 0 ∧ (jlet (x5 / x7) fun y2 =>
  (0 < (lg_cmp y1 (64 : Int64)) → w_X12_written_116 n u0 Q T) ∧
  (¬ 0 < (lg_cmp y1 (64 : Int64)) → (0 < (lg_cmp y2 (64 : Int64)) → w_X12_written_116 n u0 Q T) ∧
  (¬ 0 < (lg_cmp y2 (64 : Int64)) → w_X12_isPower n (y2.toInt32) (64 : Int32) u0 (fun r1 u1 =>
  (¬ r1 = 0 → mlet (setI u1 0 71 (0 : Int32)) fun u2 =>
  w_X12_get n x1 (6 : Int32) u2 (fun r2 u3 =>
  vp_in x1 400 ∧ ((r2 = (u3.1 10 (ix x1)) → w_X12_written_196 n x1 x2 y1 y2 u3 Q T) ∧
  (¬ r2 = (u3.1 10 (ix x1)) → (¬ r2 = 0 → w_X12_written_154 n x1 x2 y1 y2 r2 u3 Q T) ∧
  (r2 = 0 → w_X12_show n (61 : Int32) u3 (fun u4 =>
  w_X12_written_154 n x1 x2 y1 y2 r2 u4 Q T) T)))) T) ∧
  (r1 = 0 → w_X12_written_116 n u1 Q T)) T))))
theorem gcd_e {n a x8 k k' : Nat} {u v : Mm} (hx : x8 < 100) : (∀ Q, w_X9_greatestCommon_9 n Q (k + 1) (lN a) (lN 0) (nI x8) u = Q (lN a) u) ∧ (∀ Q T' x1 x2 x3 x5, w_X12_written_51 n Q T' (k' + 1) x1 x2 x3 x5 (lN a) (lN 0) v = w51 n x1 x2 x3 x5 (lN a) v Q T') := by
  have e0 : lg_cmp (lN 0) 0 = 0 := lg_same _
  refine ⟨fun Q => ?_, fun Q T' x1 x2 x3 x5 => ?_⟩
  · rw [w_X9_greatestCommon_9, br_if, if_neg (by rw [nl_ge (by omega)]; omega), e0, br_if, if_pos (by decide)]
    rfl
  · rw [w_X12_written_51, e0, br_if, if_pos rfl]
    rfl
theorem gcd_s {n a b x8 k k' : Nat} {u v : Mm} (hx : x8 < 100) (ha : a < 2 ^ 40) (hb : 0 < b) (hb2 : b < 2 ^ 30) : (∀ Q, w_X9_greatestCommon_9 n Q (k + 1) (lN a) (lN b) (nI x8) u = w_X9_greatestCommon_9 n Q k (lN b) (lN (a % b)) (nI (x8 + 1)) u) ∧ (∀ Q T' x1 x2 x3 x5, w_X12_written_51 n Q T' (k' + 1) x1 x2 x3 x5 (lN a) (lN b) v = w_X12_written_51 n Q T' k' x1 x2 x3 x5 (lN b) (lN (a % b)) v) := by
  have hne : ¬ lN b = 0 := fun z => by have := (pk_lEQ (a := b) (b := 0) (by omega) (by omega)).mp z; omega
  have e4 : lN a / lN b = lN (a / b) := pk_lDiv (by omega) (by omega) (by omega)
  have e3 : lN a - lN (a / b) * lN b = lN (a % b) := by rw [← e4]; exact pk_lRem (by omega) (by omega) (by omega)
  have l1 : ¬ lg_cmp (lN b) 0 ≤ 0 := by rw [show (0 : Int64) = lN 0 from rfl, lc_le (by omega)]; omega
  have l2 : ¬ lg_cmp (lN b) 0 = 0 := by rw [show (0 : Int64) = lN 0 from rfl, lc_eq (by omega)]; omega
  refine ⟨fun Q => ?_, fun Q T' x1 x2 x3 x5 => ?_⟩
  · rw [w_X9_greatestCommon_9, br_if, if_neg (by rw [nl_ge (by omega)]; omega), br_if, if_neg l1, e4, e3, jletE, nl_add, eq_true hne, true_and]
  · rw [w_X12_written_51, br_if, if_neg l2, e4, e3, jletE, eq_true hne, true_and]
theorem gcdS {n : Nat} {u v : Mm} : ∀ (d a b x8 k k' : Nat), b < 2 ^ d → d ≤ 22 → 2 * d < k → 2 * d < k' → x8 + 2 * d < 100 → a < 2 ^ 40 → b < 2 ^ 30 → (∀ Q, w_X9_greatestCommon_9 n Q k (lN a) (lN b) (nI x8) u = Q (lN (Nat.gcd a b)) u) ∧ (∀ Q T' x1 x2 x3 x5, w_X12_written_51 n Q T' k' x1 x2 x3 x5 (lN a) (lN b) v = w51 n x1 x2 x3 x5 (lN (Nat.gcd a b)) v Q T') := by
  intro d
  induction d with
  | zero =>
    intro a b x8 k k' hb _ hk hk' hx _ _
    obtain rfl : b = 0 := by have : (2 : Nat) ^ 0 = 1 := rfl; omega
    obtain ⟨k, rfl⟩ : ∃ k1, k = k1 + 1 := ⟨k - 1, by omega⟩
    obtain ⟨k', rfl⟩ : ∃ k1, k' = k1 + 1 := ⟨k' - 1, by omega⟩
    rw [Nat.gcd_zero_right]
    exact gcd_e (by omega)
  | succ d ih =>
    intro a b x8 k k' hb hd hk hk' hx ha hb2
    obtain ⟨k, rfl⟩ : ∃ k1, k = k1 + 1 + 1 := ⟨k - 2, by omega⟩
    obtain ⟨k', rfl⟩ : ∃ k1, k' = k1 + 1 + 1 := ⟨k' - 2, by omega⟩
    rcases Nat.eq_zero_or_pos b with h0 | h0
    · subst h0
      rw [Nat.gcd_zero_right]
      exact gcd_e (by omega)
    have r1 : a % b < b := Nat.mod_lt _ h0
    have g1 : Nat.gcd a b = Nat.gcd b (a % b) := by rw [Nat.gcd_comm a b, Nat.gcd_rec b a, Nat.gcd_comm]
    obtain ⟨s1, s2⟩ := gcd_s (n := n) (u := u) (v := v) (k := k + 1) (k' := k' + 1) (x8 := x8) (by omega) ha h0 hb2
    rcases Nat.eq_zero_or_pos (a % b) with h1 | h1
    · rw [h1] at s1 s2 g1
      rw [Nat.gcd_zero_right] at g1
      obtain ⟨e1, e2⟩ := gcd_e (n := n) (a := b) (k := k) (k' := k') (u := u) (v := v) (show x8 + 1 < 100 by omega)
      rw [g1]
      exact ⟨fun Q => (s1 Q).trans (e1 Q), fun Q T' x1 x2 x3 x5 => (s2 Q T' x1 x2 x3 x5).trans (e2 Q T' x1 x2 x3 x5)⟩
    · have r2 : b % (a % b) < a % b := Nat.mod_lt _ h1
      have r3 : 2 * (b % (a % b)) < b := by
        have := Nat.mod_add_div b (a % b)
        have h2 : 1 ≤ b / (a % b) := (Nat.le_div_iff_mul_le h1).mpr (by omega)
        have h3 : a % b ≤ (a % b) * (b / (a % b)) := Nat.le_mul_of_pos_right _ h2
        omega
      have g2 : Nat.gcd b (a % b) = Nat.gcd (a % b) (b % (a % b)) := by rw [Nat.gcd_comm b (a % b), Nat.gcd_rec (a % b) b, Nat.gcd_comm]
      obtain ⟨t1, t2⟩ := gcd_s (n := n) (u := u) (v := v) (a := b) (b := a % b) (k := k) (k' := k') (x8 := x8 + 1) (by omega) (Nat.lt_of_lt_of_le hb2 (by decide)) h1 (by omega)
      obtain ⟨i1, i2⟩ := ih (a % b) (b % (a % b)) (x8 + 1 + 1) k k' (by rw [Nat.pow_succ] at hb; omega) (by omega) (by omega) (by omega) (by omega) (by omega) (by omega)
      rw [g1, g2]
      exact ⟨fun Q => (s1 Q).trans ((t1 Q).trans (i1 Q)), fun Q T' x1 x2 x3 x5 => (s2 Q T' x1 x2 x3 x5).trans ((t2 Q T' x1 x2 x3 x5).trans (i2 Q T' x1 x2 x3 x5))⟩
theorem pw_l : ∀ M, M ≤ 64 → 1 ≤ M → ((lN M &&& (lN M - 1)) = 0 ↔ pw2 M) := by decide +kernel
theorem sgn5 {s : Int32} (h1 : -2 ≤ s.toInt) (h2 : s.toInt ≤ 2) : s = -2 ∨ s = -1 ∨ s = 0 ∨ s = 1 ∨ s = 2 := by
  have : s.toInt = -2 ∨ s.toInt = -1 ∨ s.toInt = 0 ∨ s.toInt = 1 ∨ s.toInt = 2 := by omega
  rcases this with h | h | h | h | h
  · exact Or.inl (Int32.toInt_inj.mp h)
  · exact Or.inr (Or.inl (Int32.toInt_inj.mp h))
  · exact Or.inr (Or.inr (Or.inl (Int32.toInt_inj.mp h)))
  · exact Or.inr (Or.inr (Or.inr (Or.inl (Int32.toInt_inj.mp h))))
  · exact Or.inr (Or.inr (Or.inr (Or.inr (Int32.toInt_inj.mp h))))
