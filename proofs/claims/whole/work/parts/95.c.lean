/-! a chord's notes -/
def chI (j : Nat) (u v : Mm) : Prop := ∀ i, i < j → ∃ a b : Nat, 1 ≤ a ∧ a ≤ 64 ∧ okUn b ∧ u.1 64 i = nI a ∧ u.1 65 i = nI b ∧ v.1 24 i = nI a ∧ v.1 25 i = nI b
theorem nI_mul' {a b : Nat} : nI a * nI b = nI (a * b) := pk_mul a b
theorem r_147 {z : Mm × Mm} {n : Nat} {T : Nat → Nat} {sz B e s p c c' c0 w j A D : Nat} {u : Mm} {Nf Mf : Nat → Nat} (hj : j ≤ 12) : ∀ (d k i : Nat) (v : Mm), j - i = d → d < k → i ≤ j → Rm z T sz B e s p c' c0 w u v → (∀ x, x < i → v.1 24 x = nI (Nf x * A) ∧ v.1 25 x = nI (Mf x * D)) → (∀ x, i ≤ x → x < j → v.1 24 x = nI (Nf x) ∧ v.1 25 x = nI (Mf x)) → ∃ v', (∀ Q T', w_X12_readTimed_147 n Q T' k (nI c) (nI j) (nI A) (nI D) (nI i) v = w_X12_readTimed_311 n (nI c) (nI j) v' Q T') ∧ Rm z T sz B e s p c' c0 w u v' ∧ (∀ q, q ≠ 24 → q ≠ 25 → v'.1 q = v.1 q) ∧ v'.2 = v.2 ∧ (∀ x, x < j → v'.1 24 x = nI (Nf x * A) ∧ v'.1 25 x = nI (Mf x * D)) := by
  intro d
  induction d with
  | zero =>
    intro k i v hd hk hi hR h1 h2
    obtain ⟨k, rfl⟩ : ∃ k', k = k' + 1 := ⟨k - 1, by omega⟩
    have hle : (j ≤ i) = True := eq_true (by omega)
    refine ⟨v, fun Q T' => ?_, hR, fun _ _ _ => rfl, rfl, fun x hx => h1 x (by omega)⟩
    unfold w_X12_readTimed_147
    simp (disch := omega) only [↓mletE, ↓iletE, ↓jletE, ↓br_if, ↓br_ifn, ↓reduceIte, nl_lt, nl_gt, nl_le, nl_ge, nl_eq, nn_lt, nn_le, nn_eq, nl_add, nl_sub, nl_mul, nl_mulr, nn_add, nn_ix, nn_in, true_and, and_true, false_and, and_false, gI_if, gIj, gIr, gJ_if, gJi, gJr, gPr, gPi, gPj, hu_if, hv_if, Nat.reduceEqDiff, Nat.reduceLT, Nat.reduceLeDiff, eq_self, bIT, bIF, Nat.add_zero, Nat.add_assoc, Nat.reduceAdd, nb0, nb1, i10, i00, Bool.false_eq_true, not_true_eq_false, not_false_eq_true, reduceIte, hle]
  | succ d ih =>
    intro k i v hd hk hi hR h1 h2
    obtain ⟨k, rfl⟩ : ∃ k', k = k' + 1 := ⟨k - 1, by omega⟩
    have hle : (j ≤ i) = False := eq_false (by omega)
    obtain ⟨g1, g2⟩ := h2 i (by omega) (by omega)
    obtain ⟨v', a1, a2, a3, a4, a5⟩ := ih k (i + 1) (setI (setI v 24 i (nI (Nf i * A))) 25 i (nI (Mf i * D))) (by omega) (by omega) (by omega) ((hR.vq (q := 24) (by omega)).vq (q := 25) (by omega)) (fun x hx => by
        by_cases hxi : x = i
        · subst hxi; exact ⟨by simp (disch := omega) only [gIs, gIn, gIj, gIr, gJs, gJn, gJi, gJr, gPr, gPi, gPj, hu_s, hu_n, hv_s, hv_n], by simp (disch := omega) only [gIs, gIn, gIj, gIr, gJs, gJn, gJi, gJr, gPr, gPi, gPj, hu_s, hu_n, hv_s, hv_n]⟩
        · obtain ⟨y1, y2⟩ := h1 x (by omega)
          exact ⟨by simp (disch := omega) only [gIs, gIn, gIj, gIr, gJs, gJn, gJi, gJr, gPr, gPi, gPj, hu_s, hu_n, hv_s, hv_n]; exact y1, by simp (disch := omega) only [gIs, gIn, gIj, gIr, gJs, gJn, gJi, gJr, gPr, gPi, gPj, hu_s, hu_n, hv_s, hv_n]; exact y2⟩) (fun x hx1 hx2 => by
        obtain ⟨y1, y2⟩ := h2 x (by omega) (by omega)
        exact ⟨by simp (disch := omega) only [gIs, gIn, gIj, gIr, gJs, gJn, gJi, gJr, gPr, gPi, gPj, hu_s, hu_n, hv_s, hv_n]; exact y1, by simp (disch := omega) only [gIs, gIn, gIj, gIr, gJs, gJn, gJi, gJr, gPr, gPi, gPj, hu_s, hu_n, hv_s, hv_n]; exact y2⟩)
    refine ⟨v', fun Q T' => ?_, a2, fun q q1 q2 => by rw [a3 q q1 q2]; simp (disch := omega) only [gIs, gIn, gIj, gIr, gJs, gJn, gJi, gJr, gPr, gPi, gPj, hu_s, hu_n, hv_s, hv_n], a4, a5⟩
    rw [← a1]
    conv => lhs; unfold w_X12_readTimed_147
    simp (disch := omega) only [↓mletE, ↓iletE, ↓jletE, ↓br_if, ↓br_ifn, ↓reduceIte, nl_lt, nl_gt, nl_le, nl_ge, nl_eq, nn_lt, nn_le, nn_eq, nl_add, nl_sub, nl_mul, nl_mulr, nn_add, nn_ix, nn_in, true_and, and_true, false_and, and_false, gI_if, gIj, gIr, gJ_if, gJi, gJr, gPr, gPi, gPj, hu_if, hv_if, Nat.reduceEqDiff, Nat.reduceLT, Nat.reduceLeDiff, eq_self, bIT, bIF, Nat.add_zero, Nat.add_assoc, Nat.reduceAdd, nb0, nb1, i10, i00, Bool.false_eq_true, not_true_eq_false, not_false_eq_true, reduceIte, hle, g1, g2, nI_mul']
theorem g79_f {n : Nat} {k : Nat} {x2 x5 : Int32} {u : Mm} {Q : Mm → Prop} (h : u.1 33 6 ≠ 0) : w_X4_readGroup_79 n Q (k + 1) 1 x2 12 93 x5 u = Q (setI u 33 2 (u.1 33 2 + 1)) := by
  unfold w_X4_readGroup_79
  by_cases h1 : (12 : Int32) < x5
  · simp (disch := omega) only [↓mletE, ↓iletE, ↓jletE, ↓br_if, ↓br_ifn, ↓reduceIte, nl_lt, nl_gt, nl_le, nl_ge, nl_eq, nn_lt, nn_le, nn_eq, nl_add, nl_sub, nl_mul, nl_mulr, nn_add, nn_ix, nn_in, true_and, and_true, false_and, and_false, gI_if, gIj, gIr, gJ_if, gJi, gJr, gPr, gPi, gPj, hu_if, hv_if, Nat.reduceEqDiff, Nat.reduceLT, Nat.reduceLeDiff, eq_self, bIT, bIF, Nat.add_zero, Nat.add_assoc, Nat.reduceAdd, nb0, nb1, i10, i00, Bool.false_eq_true, not_true_eq_false, not_false_eq_true, reduceIte, eq_true h1, w_X4_readGroup_164, w_X4_readGroup_210, eq_false h]
  · simp (disch := omega) only [↓mletE, ↓iletE, ↓jletE, ↓br_if, ↓br_ifn, ↓reduceIte, nl_lt, nl_gt, nl_le, nl_ge, nl_eq, nn_lt, nn_le, nn_eq, nl_add, nl_sub, nl_mul, nl_mulr, nn_add, nn_ix, nn_in, true_and, and_true, false_and, and_false, gI_if, gIj, gIr, gJ_if, gJi, gJr, gPr, gPi, gPj, hu_if, hv_if, Nat.reduceEqDiff, Nat.reduceLT, Nat.reduceLeDiff, eq_self, bIT, bIF, Nat.add_zero, Nat.add_assoc, Nat.reduceAdd, nb0, nb1, i10, i00, Bool.false_eq_true, not_true_eq_false, not_false_eq_true, reduceIte, eq_false h1, w_X4_readGroup_164, w_X4_readGroup_210, eq_false h]
