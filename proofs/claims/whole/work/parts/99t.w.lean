/-! a note written again -/
def WR (m : Nat) (u v : Mm) : Prop := m ≤ 24 ∧ u.1 40 1 = nI m ∧ v.1 0 71 = nI m ∧ ∀ i, i < m → ∃ x : Nat, x < 128 ∧ u.1 66 i = nI x ∧ v.1 31 i = nI x
def wF (u u' : Mm) : Prop := (∀ q, q ≠ 40 → q ≠ 66 → u'.1 q = u.1 q) ∧ u'.2 = u.2
def vF (v v' : Mm) : Prop := (∀ q, q ≠ 0 → q ≠ 31 → v'.1 q = v.1 q) ∧ (∀ k, k ≠ 71 → v'.1 0 k = v.1 0 k) ∧ v'.2 = v.2
theorem wF.refl {u : Mm} : wF u u := ⟨fun _ _ _ => rfl, rfl⟩
theorem vF.refl {v : Mm} : vF v v := ⟨fun _ _ _ => rfl, fun _ _ => rfl, rfl⟩
theorem wF.trans {a b c : Mm} (h : wF a b) (k : wF b c) : wF a c := ⟨fun q g1 g2 => (k.1 q g1 g2).trans (h.1 q g1 g2), k.2.trans h.2⟩
theorem vF.trans {a b c : Mm} (h : vF a b) (k : vF b c) : vF a c := ⟨fun q g1 g2 => (k.1 q g1 g2).trans (h.1 q g1 g2), fun j g => (k.2.1 j g).trans (h.2.1 j g), k.2.2.trans h.2.2⟩
theorem nar_c : ∀ x, x < 128 → vp_nar .byte (nI x).toInt8.toInt32 = nI x := by decide +kernel
/-- the result of a piece on both sides -/
def WP (m' : Nat) (u v u' v' : Mm) : Prop := WR m' u' v' ∧ wF u u' ∧ vF v v'
theorem WP.trans {m m' : Nat} {u v u1 v1 u2 v2 : Mm} (h : WP m u v u1 v1) (k : WP m' u1 v1 u2 v2) : WP m' u v u2 v2 := ⟨k.1, h.2.1.trans k.2.1, h.2.2.trans k.2.2⟩
theorem putS {n m x : Nat} {u v : Mm} (h : WR m u v) (hm : m < 24) (hx : x < 128) : ∃ u' v', (∀ Q, w_X9_put n (nI x) u Q = Q u') ∧ (∀ Q T', w_X12_show n (nI x) v Q T' = Q v') ∧ WP (m + 1) u v u' v' := by
  obtain ⟨h1, h2, h3, h4⟩ := h
  refine ⟨setI (setI u 66 m (nI x)) 40 1 (nI (m + 1)), setI (setI v 31 m (nI x)) 0 71 (nI (m + 1)), fun Q => ?_, fun Q T' => ?_, ⟨by omega, by simp (disch := omega) only [gIs, gIn, gIj, gIr, gJs, gJn, gJi, gJr, gPr, gPi, gPj, hu_s, hu_n, hv_s, hv_n], by simp (disch := omega) only [gIs, gIn, gIj, gIr, gJs, gJn, gJi, gJr, gPr, gPi, gPj, hu_s, hu_n, hv_s, hv_n], fun i hi => ?_⟩, ⟨fun q g1 g2 => by rw [gIn g1, gIn g2], rfl⟩, ⟨fun q g1 g2 => by rw [gIn g1, gIn g2], fun k g => by rw [gIs, hu_n g, gIn (by omega)], rfl⟩⟩
  · simp (disch := omega) only [↓mletE, ↓iletE, ↓jletE, ↓br_if, ↓br_ifn, ↓reduceIte, nl_lt, nl_gt, nl_le, nl_ge, nl_eq, nn_lt, nn_le, nn_eq, nl_add, nl_sub, nl_mul, nl_mulr, nn_add, nn_ix, nn_in, true_and, and_true, false_and, and_false, gI_if, gIj, gIr, gJ_if, gJi, gJr, gPr, gPi, gPj, hu_if, hv_if, Nat.reduceEqDiff, Nat.reduceLT, Nat.reduceLeDiff, eq_self, bIT, bIF, Nat.add_zero, Nat.add_assoc, Nat.reduceAdd, nb0, nb1, i10, i00, Bool.false_eq_true, not_true_eq_false, not_false_eq_true, reduceIte, w_X9_put, w_X9_put_40, h2, show (m < 0) = False from eq_false (by omega), show (24 ≤ m) = False from eq_false (by omega), nar_c x hx]
  · simp (disch := omega) only [↓mletE, ↓iletE, ↓jletE, ↓br_if, ↓br_ifn, ↓reduceIte, nl_lt, nl_gt, nl_le, nl_ge, nl_eq, nn_lt, nn_le, nn_eq, nl_add, nl_sub, nl_mul, nl_mulr, nn_add, nn_ix, nn_in, true_and, and_true, false_and, and_false, gI_if, gIj, gIr, gJ_if, gJi, gJr, gPr, gPi, gPj, hu_if, hv_if, Nat.reduceEqDiff, Nat.reduceLT, Nat.reduceLeDiff, eq_self, bIT, bIF, Nat.add_zero, Nat.add_assoc, Nat.reduceAdd, nb0, nb1, i10, i00, Bool.false_eq_true, not_true_eq_false, not_false_eq_true, reduceIte, w_X12_show, w_X12_show_21, h3, show (200 ≤ m) = False from eq_false (by omega), nar_c x hx]
  · rw [gIn (by omega), gIs, hu_if, gIn (by omega), gIs, hu_if]
    by_cases hh : i = m
    · rw [if_pos hh, if_pos hh]; exact ⟨x, hx, rfl, rfl⟩
    · rw [if_neg hh, if_neg hh]; exact h4 i (by omega)
