/-! what the bars between measures tell, in the reference -/
def gN (s b e o : Nat) : Nat := s + 2 * b + 4 * e + 8 * o
/-- a gap's number and the reference's four rows -/
def gr (g st bk en eo : Int32) : Prop := ∃ s b e o : Nat, s ≤ 1 ∧ b ≤ 1 ∧ e ≤ 1 ∧ o ≤ 4 ∧ g = nI (gN s b e o) ∧ st = nI s ∧ bk = nI b ∧ en = nI e ∧ eo = nI o
theorem g_bits : ∀ s, s < 2 → ∀ b, b < 2 → ∀ e, e < 2 → ∀ o, o < 5 → (nI (gN s b e o) &&& 1) = nI s ∧ (nI (gN s b e o) &&& 2) = nI (2 * b) ∧ (nI (gN s b e o) &&& 4) = nI (4 * e) ∧ (nI (gN s b e o) >>> ((3 : Int32) &&& 31)) = nI o := by decide +kernel
theorem g_wbr : ∀ s, s < 2 → ∀ b, b < 2 → ∀ e, e < 2 → ∀ o, o < 5 → ∀ K, K < 8 → ∀ E, E < 5 → wbr (nI (gN s b e o)) (nI K) (nI E) = nI (gN (if K = 4 ∨ K = 6 then 1 else s) (if K = 5 ∨ K = 6 then 1 else b) (if K = 0 ∧ E = 0 then e else 1) (if E = 0 then o else E)) := by decide +kernel
theorem nar_n {s : Nat} (h : s ≤ 1) : vp_nar .boolean (nI s) = nI s := by
  have : s = 0 ∨ s = 1 := by omega
  rcases this with rfl | rfl <;> decide
def up4 (k s b e o : Nat) (v : Mm) : Mm := setI (setI (setI (setI v 26 k (nI s)) 27 k (nI b)) 28 k (nI e)) 29 k (nI o)
theorem r_93 {n t k em ms s b e o K E : Nat} {L : Int32 → Mm → Prop} {v : Mm} {Q T' : Mm → Prop} (ht : t < 400) (hk : ms + em = k) (hk3 : k ≤ 300) (hs : s ≤ 1) (hb : b ≤ 1) (he : e ≤ 1) (ho : o ≤ 4) (hK : K ≤ 7) (hE : E ≤ 4) (h26 : v.1 26 k = nI s) (h27 : v.1 27 k = nI b) (h28 : v.1 28 k = nI e) (h29 : v.1 29 k = nI o) (h3 : v.1 6 (17 * t + 3) = nI K) (h15 : v.1 6 (17 * t + 15) = nI E) : w_X12_findPlayed_93 n L (nI t) (nI em) (nI ms) v Q T' = L (nI (t + 1)) (up4 k (if K = 4 ∨ K = 6 then 1 else s) (if K = 5 ∨ K = 6 then 1 else b) (if K = 0 ∧ E = 0 then e else 1) (if E = 0 then o else E) v) := by
  have A1 : w_X12_findPlayed_93 n L (nI t) (nI em) (nI ms) v Q T' = w_X12_findPlayed_132 n L (nI t) (nI k) (nI K) (nI (if K = 4 ∨ K = 6 then 1 else s)) (nI k) v Q T' := by
    unfold w_X12_findPlayed_93
    rw [nn_add, hk]
    by_cases h0 : s = 0
    · by_cases k4 : K = 4
      · simp (disch := omega) only [↓mletE, ↓iletE, ↓jletE, ↓br_if, ↓br_ifn, ↓reduceIte, nl_lt, nl_gt, nl_le, nl_ge, nl_eq, nn_lt, nn_le, nn_eq, nl_add, nl_sub, nl_mul, nl_mulr, nn_add, nn_ix, nn_in, true_and, and_true, false_and, and_false, gI_if, gIj, gIr, gJ_if, gJi, gJr, gPr, gPi, gPj, hu_if, hv_if, Nat.reduceEqDiff, Nat.reduceLT, Nat.reduceLeDiff, eq_self, bIT, bIF, Nat.add_zero, Nat.add_assoc, Nat.reduceAdd, nb0, nb1, i10, i00, Bool.false_eq_true, not_true_eq_false, not_false_eq_true, reduceIte, w_X12_get, h3, h26, eq_true h0, eq_true k4, true_or, w_X12_findPlayed_127, nI1]
      by_cases k6 : K = 6
      · simp (disch := omega) only [↓mletE, ↓iletE, ↓jletE, ↓br_if, ↓br_ifn, ↓reduceIte, nl_lt, nl_gt, nl_le, nl_ge, nl_eq, nn_lt, nn_le, nn_eq, nl_add, nl_sub, nl_mul, nl_mulr, nn_add, nn_ix, nn_in, true_and, and_true, false_and, and_false, gI_if, gIj, gIr, gJ_if, gJi, gJr, gPr, gPi, gPj, hu_if, hv_if, Nat.reduceEqDiff, Nat.reduceLT, Nat.reduceLeDiff, eq_self, bIT, bIF, Nat.add_zero, Nat.add_assoc, Nat.reduceAdd, nb0, nb1, i10, i00, Bool.false_eq_true, not_true_eq_false, not_false_eq_true, reduceIte, w_X12_get, h3, h26, eq_true h0, eq_false k4, eq_true k6, or_true, w_X12_findPlayed_127, nI1]
      · simp (disch := omega) only [↓mletE, ↓iletE, ↓jletE, ↓br_if, ↓br_ifn, ↓reduceIte, nl_lt, nl_gt, nl_le, nl_ge, nl_eq, nn_lt, nn_le, nn_eq, nl_add, nl_sub, nl_mul, nl_mulr, nn_add, nn_ix, nn_in, true_and, and_true, false_and, and_false, gI_if, gIj, gIr, gJ_if, gJi, gJr, gPr, gPi, gPj, hu_if, hv_if, Nat.reduceEqDiff, Nat.reduceLT, Nat.reduceLeDiff, eq_self, bIT, bIF, Nat.add_zero, Nat.add_assoc, Nat.reduceAdd, nb0, nb1, i10, i00, Bool.false_eq_true, not_true_eq_false, not_false_eq_true, reduceIte, w_X12_get, h3, h26, eq_true h0, eq_false k4, eq_false k6, or_self, h0, nI0]
    · have : s = 1 := by omega
      subst this
      simp (disch := omega) only [↓mletE, ↓iletE, ↓jletE, ↓br_if, ↓br_ifn, ↓reduceIte, nl_lt, nl_gt, nl_le, nl_ge, nl_eq, nn_lt, nn_le, nn_eq, nl_add, nl_sub, nl_mul, nl_mulr, nn_add, nn_ix, nn_in, true_and, and_true, false_and, and_false, gI_if, gIj, gIr, gJ_if, gJi, gJr, gPr, gPi, gPj, hu_if, hv_if, Nat.reduceEqDiff, Nat.reduceLT, Nat.reduceLeDiff, eq_self, bIT, bIF, Nat.add_zero, Nat.add_assoc, Nat.reduceAdd, nb0, nb1, i10, i00, Bool.false_eq_true, not_true_eq_false, not_false_eq_true, reduceIte, w_X12_get, h3, h26, w_X12_findPlayed_127, nI1, ite_self]
  have A2 : ∀ s' : Nat, s' ≤ 1 → w_X12_findPlayed_132 n L (nI t) (nI k) (nI K) (nI s') (nI k) v Q T' = w_X12_findPlayed_163 n L (nI t) (nI k) (nI K) (nI (if K = 5 ∨ K = 6 then 1 else b)) (nI k) (setI v 26 k (nI s')) Q T' := fun s' hs' => by
    unfold w_X12_findPlayed_132
    by_cases h0 : b = 0
    · by_cases k4 : K = 5
      · simp (disch := omega) only [↓mletE, ↓iletE, ↓jletE, ↓br_if, ↓br_ifn, ↓reduceIte, nl_lt, nl_gt, nl_le, nl_ge, nl_eq, nn_lt, nn_le, nn_eq, nl_add, nl_sub, nl_mul, nl_mulr, nn_add, nn_ix, nn_in, true_and, and_true, false_and, and_false, gI_if, gIj, gIr, gJ_if, gJi, gJr, gPr, gPi, gPj, hu_if, hv_if, Nat.reduceEqDiff, Nat.reduceLT, Nat.reduceLeDiff, eq_self, bIT, bIF, Nat.add_zero, Nat.add_assoc, Nat.reduceAdd, nb0, nb1, i10, i00, Bool.false_eq_true, not_true_eq_false, not_false_eq_true, reduceIte, nar_n hs', h27, eq_true h0, eq_true k4, true_or, w_X12_findPlayed_158, nI1]
      by_cases k6 : K = 6
      · simp (disch := omega) only [↓mletE, ↓iletE, ↓jletE, ↓br_if, ↓br_ifn, ↓reduceIte, nl_lt, nl_gt, nl_le, nl_ge, nl_eq, nn_lt, nn_le, nn_eq, nl_add, nl_sub, nl_mul, nl_mulr, nn_add, nn_ix, nn_in, true_and, and_true, false_and, and_false, gI_if, gIj, gIr, gJ_if, gJi, gJr, gPr, gPi, gPj, hu_if, hv_if, Nat.reduceEqDiff, Nat.reduceLT, Nat.reduceLeDiff, eq_self, bIT, bIF, Nat.add_zero, Nat.add_assoc, Nat.reduceAdd, nb0, nb1, i10, i00, Bool.false_eq_true, not_true_eq_false, not_false_eq_true, reduceIte, nar_n hs', h27, eq_true h0, eq_false k4, eq_true k6, or_true, w_X12_findPlayed_158, nI1]
      · simp (disch := omega) only [↓mletE, ↓iletE, ↓jletE, ↓br_if, ↓br_ifn, ↓reduceIte, nl_lt, nl_gt, nl_le, nl_ge, nl_eq, nn_lt, nn_le, nn_eq, nl_add, nl_sub, nl_mul, nl_mulr, nn_add, nn_ix, nn_in, true_and, and_true, false_and, and_false, gI_if, gIj, gIr, gJ_if, gJi, gJr, gPr, gPi, gPj, hu_if, hv_if, Nat.reduceEqDiff, Nat.reduceLT, Nat.reduceLeDiff, eq_self, bIT, bIF, Nat.add_zero, Nat.add_assoc, Nat.reduceAdd, nb0, nb1, i10, i00, Bool.false_eq_true, not_true_eq_false, not_false_eq_true, reduceIte, nar_n hs', h27, eq_true h0, eq_false k4, eq_false k6, or_self, h0, nI0]
    · have : b = 1 := by omega
      subst this
      simp (disch := omega) only [↓mletE, ↓iletE, ↓jletE, ↓br_if, ↓br_ifn, ↓reduceIte, nl_lt, nl_gt, nl_le, nl_ge, nl_eq, nn_lt, nn_le, nn_eq, nl_add, nl_sub, nl_mul, nl_mulr, nn_add, nn_ix, nn_in, true_and, and_true, false_and, and_false, gI_if, gIj, gIr, gJ_if, gJi, gJr, gPr, gPi, gPj, hu_if, hv_if, Nat.reduceEqDiff, Nat.reduceLT, Nat.reduceLeDiff, eq_self, bIT, bIF, Nat.add_zero, Nat.add_assoc, Nat.reduceAdd, nb0, nb1, i10, i00, Bool.false_eq_true, not_true_eq_false, not_false_eq_true, reduceIte, nar_n hs', h27, w_X12_findPlayed_158, nI1, ite_self]
  have A3 : ∀ s' b' : Nat, s' ≤ 1 → b' ≤ 1 → w_X12_findPlayed_163 n L (nI t) (nI k) (nI K) (nI b') (nI k) (setI v 26 k (nI s')) Q T' = w_X12_findPlayed_197 n L (nI t) (nI k) (nI (if K = 0 ∧ E = 0 then e else 1)) (nI k) (setI (setI v 26 k (nI s')) 27 k (nI b')) Q T' := fun s' b' hs' hb' => by
    unfold w_X12_findPlayed_163
    by_cases h0 : e = 0
    · by_cases k4 : K = 0
      · by_cases k6 : E = 0
        · simp (disch := omega) only [↓mletE, ↓iletE, ↓jletE, ↓br_if, ↓br_ifn, ↓reduceIte, nl_lt, nl_gt, nl_le, nl_ge, nl_eq, nn_lt, nn_le, nn_eq, nl_add, nl_sub, nl_mul, nl_mulr, nn_add, nn_ix, nn_in, true_and, and_true, false_and, and_false, gI_if, gIj, gIr, gJ_if, gJi, gJr, gPr, gPi, gPj, hu_if, hv_if, Nat.reduceEqDiff, Nat.reduceLT, Nat.reduceLeDiff, eq_self, bIT, bIF, Nat.add_zero, Nat.add_assoc, Nat.reduceAdd, nb0, nb1, i10, i00, Bool.false_eq_true, not_true_eq_false, not_false_eq_true, reduceIte, nar_n hb', h28, w_X12_get, h15, eq_true h0, eq_true k4, show (E ≤ 0) = True from eq_true (by omega), eq_true k6, and_self, h0, nI0]
        · simp (disch := omega) only [↓mletE, ↓iletE, ↓jletE, ↓br_if, ↓br_ifn, ↓reduceIte, nl_lt, nl_gt, nl_le, nl_ge, nl_eq, nn_lt, nn_le, nn_eq, nl_add, nl_sub, nl_mul, nl_mulr, nn_add, nn_ix, nn_in, true_and, and_true, false_and, and_false, gI_if, gIj, gIr, gJ_if, gJi, gJr, gPr, gPi, gPj, hu_if, hv_if, Nat.reduceEqDiff, Nat.reduceLT, Nat.reduceLeDiff, eq_self, bIT, bIF, Nat.add_zero, Nat.add_assoc, Nat.reduceAdd, nb0, nb1, i10, i00, Bool.false_eq_true, not_true_eq_false, not_false_eq_true, reduceIte, nar_n hb', h28, w_X12_get, h15, eq_true h0, eq_true k4, show (E ≤ 0) = False from eq_false (by omega), eq_false k6, and_false, w_X12_findPlayed_192, nI1]
      · simp (disch := omega) only [↓mletE, ↓iletE, ↓jletE, ↓br_if, ↓br_ifn, ↓reduceIte, nl_lt, nl_gt, nl_le, nl_ge, nl_eq, nn_lt, nn_le, nn_eq, nl_add, nl_sub, nl_mul, nl_mulr, nn_add, nn_ix, nn_in, true_and, and_true, false_and, and_false, gI_if, gIj, gIr, gJ_if, gJi, gJr, gPr, gPi, gPj, hu_if, hv_if, Nat.reduceEqDiff, Nat.reduceLT, Nat.reduceLeDiff, eq_self, bIT, bIF, Nat.add_zero, Nat.add_assoc, Nat.reduceAdd, nb0, nb1, i10, i00, Bool.false_eq_true, not_true_eq_false, not_false_eq_true, reduceIte, nar_n hb', h28, eq_true h0, eq_false k4, false_and, w_X12_findPlayed_192, nI1]
    · have : e = 1 := by omega
      subst this
      simp (disch := omega) only [↓mletE, ↓iletE, ↓jletE, ↓br_if, ↓br_ifn, ↓reduceIte, nl_lt, nl_gt, nl_le, nl_ge, nl_eq, nn_lt, nn_le, nn_eq, nl_add, nl_sub, nl_mul, nl_mulr, nn_add, nn_ix, nn_in, true_and, and_true, false_and, and_false, gI_if, gIj, gIr, gJ_if, gJi, gJr, gPr, gPi, gPj, hu_if, hv_if, Nat.reduceEqDiff, Nat.reduceLT, Nat.reduceLeDiff, eq_self, bIT, bIF, Nat.add_zero, Nat.add_assoc, Nat.reduceAdd, nb0, nb1, i10, i00, Bool.false_eq_true, not_true_eq_false, not_false_eq_true, reduceIte, nar_n hb', h28, w_X12_findPlayed_192, nI1, ite_self]
  have A4 : ∀ s' b' e' : Nat, e' ≤ 1 → w_X12_findPlayed_197 n L (nI t) (nI k) (nI e') (nI k) (setI (setI v 26 k (nI s')) 27 k (nI b')) Q T' = L (nI (t + 1)) (up4 k s' b' e' (if E = 0 then o else E) v) := fun s' b' e' he' => by
    unfold w_X12_findPlayed_197 up4
    by_cases k6 : E = 0
    · simp (disch := omega) only [↓mletE, ↓iletE, ↓jletE, ↓br_if, ↓br_ifn, ↓reduceIte, nl_lt, nl_gt, nl_le, nl_ge, nl_eq, nn_lt, nn_le, nn_eq, nl_add, nl_sub, nl_mul, nl_mulr, nn_add, nn_ix, nn_in, true_and, and_true, false_and, and_false, gI_if, gIj, gIr, gJ_if, gJi, gJr, gPr, gPi, gPj, hu_if, hv_if, Nat.reduceEqDiff, Nat.reduceLT, Nat.reduceLeDiff, eq_self, bIT, bIF, Nat.add_zero, Nat.add_assoc, Nat.reduceAdd, nb0, nb1, i10, i00, Bool.false_eq_true, not_true_eq_false, not_false_eq_true, reduceIte, nar_n he', w_X12_get, h15, show (E ≤ 0) = True from eq_true (by omega), eq_true k6, h29, w_X12_findPlayed_229, w_X12_findPlayed_230]
    · simp (disch := omega) only [↓mletE, ↓iletE, ↓jletE, ↓br_if, ↓br_ifn, ↓reduceIte, nl_lt, nl_gt, nl_le, nl_ge, nl_eq, nn_lt, nn_le, nn_eq, nl_add, nl_sub, nl_mul, nl_mulr, nn_add, nn_ix, nn_in, true_and, and_true, false_and, and_false, gI_if, gIj, gIr, gJ_if, gJi, gJr, gPr, gPi, gPj, hu_if, hv_if, Nat.reduceEqDiff, Nat.reduceLT, Nat.reduceLeDiff, eq_self, bIT, bIF, Nat.add_zero, Nat.add_assoc, Nat.reduceAdd, nb0, nb1, i10, i00, Bool.false_eq_true, not_true_eq_false, not_false_eq_true, reduceIte, nar_n he', w_X12_get, h15, show (E ≤ 0) = False from eq_false (by omega), eq_false k6, w_X12_findPlayed_229, w_X12_findPlayed_230]
  rw [A1, A2 _ (by split <;> omega), A3 _ _ (by split <;> omega) (by split <;> omega), A4 _ _ _ (by split <;> omega)]
/-- only the four rows differ -/
def sm4 (v v' : Mm) : Prop := (∀ q, q ≠ 26 → q ≠ 27 → q ≠ 28 → q ≠ 29 → v'.1 q = v.1 q) ∧ v'.2 = v.2
theorem sm4.up {v v' : Mm} {k s b e o : Nat} (h : sm4 v v') : sm4 v (up4 k s b e o v') := by
  unfold up4
  exact ⟨fun q h1 h2 h3 h4 => by rw [gIn h4, gIn h3, gIn h2, gIn h1]; exact h.1 q h1 h2 h3 h4, h.2⟩
theorem up4_26 {v : Mm} {k s b e o j : Nat} : (up4 k s b e o v).1 26 j = (if j = k then nI s else v.1 26 j) ∧ (up4 k s b e o v).1 27 j = (if j = k then nI b else v.1 27 j) ∧ (up4 k s b e o v).1 28 j = (if j = k then nI e else v.1 28 j) ∧ (up4 k s b e o v).1 29 j = (if j = k then nI o else v.1 29 j) := by
  unfold up4
  refine ⟨?_, ?_, ?_, ?_⟩
  · rw [gIn (by omega), gIn (by omega), gIn (by omega), gIs, hu_if]
  · rw [gIn (by omega), gIn (by omega), gIs, hu_if, gIn (by omega)]
  · rw [gIn (by omega), gIs, hu_if, gIn (by omega), gIn (by omega)]
  · rw [gIs, hu_if, gIn (by omega), gIn (by omega), gIn (by omega)]
theorem r_45 {n c : Nat} {u v0 : Mm} (hc : c ≤ 400) (h27 : v0.1 0 27 = nI c) (hG : eG c u v0) : ∀ (d k t : Nat) (v : Mm), c - t = d → d < k → t ≤ c → sm4 v0 v → (∀ j, j ≤ 300 → gr (gapOf (v0.1 6) (v0.1 11) t j) (v.1 26 j) (v.1 27 j) (v.1 28 j) (v.1 29 j)) → ∃ v', sm4 v0 v' ∧ (∀ j, j ≤ 300 → gr (gapOf (v0.1 6) (v0.1 11) c j) (v'.1 26 j) (v'.1 27 j) (v'.1 28 j) (v'.1 29 j)) ∧ ∀ Q T', w_X12_findPlayed_45 n Q T' k (nI t) v = w_X12_findPlayed_261 n Q T' n (v0.1 19 0) 0 0 0 0 0 (setI v' 0 69 0) := by
  intro d
  induction d with
  | zero =>
    intro k t v hd hk ht hv hg
    obtain ⟨k, rfl⟩ : ∃ k1, k = k1 + 1 := ⟨k - 1, by omega⟩
    obtain rfl : t = c := by omega
    have e27 : v.1 0 27 = nI t := by rw [hv.1 0 (by omega) (by omega) (by omega) (by omega)]; exact h27
    have e19 : v.1 19 = v0.1 19 := hv.1 19 (by omega) (by omega) (by omega) (by omega)
    refine ⟨v, hv, hg, fun Q T' => ?_⟩
    rw [w_X12_findPlayed_45]
    have x0 : ix (0 : Int32) = 0 := rfl
    simp (disch := omega) only [↓mletE, ↓iletE, ↓jletE, ↓br_if, ↓br_ifn, ↓reduceIte, nl_lt, nl_gt, nl_le, nl_ge, nl_eq, nn_lt, nn_le, nn_eq, nl_add, nl_sub, nl_mul, nl_mulr, nn_add, nn_ix, nn_in, true_and, and_true, false_and, and_false, gI_if, gIj, gIr, gJ_if, gJi, gJr, gPr, gPi, gPj, hu_if, hv_if, Nat.reduceEqDiff, Nat.reduceLT, Nat.reduceLeDiff, eq_self, bIT, bIF, Nat.add_zero, Nat.add_assoc, Nat.reduceAdd, nb0, nb1, i10, i00, Bool.false_eq_true, not_true_eq_false, not_false_eq_true, reduceIte, e27, Nat.le_refl, x0, e19]
  | succ d ih =>
    intro k t v hd hk ht hv hg
    obtain ⟨k, rfl⟩ : ∃ k1, k = k1 + 1 := ⟨k - 1, by omega⟩
    have e27 : v.1 0 27 = nI c := by rw [hv.1 0 (by omega) (by omega) (by omega) (by omega)]; exact h27
    have e6 : v.1 6 = v0.1 6 := hv.1 6 (by omega) (by omega) (by omega) (by omega)
    have e11 : v.1 11 = v0.1 11 := hv.1 11 (by omega) (by omega) (by omega) (by omega)
    have hct : (c ≤ t) = False := eq_false (by omega)
    by_cases hb : v0.1 6 (17 * t) = 4 ∧ v0.1 6 (17 * t + 1) = 1
    · obtain ⟨⟨kk, kk3, hkk⟩, hem, ⟨ms, ms3, hms⟩, ⟨K, K7, hK⟩, ⟨E, E4, hE⟩⟩ := hG.2 t (by omega) hb.1 hb.2
      obtain ⟨s, b, e, o, s1, b1, e1, o4, g1, g2, g3, g4, g5⟩ := hg kk kk3
      obtain ⟨em, em1, hem'⟩ : ∃ em : Nat, em ≤ 1 ∧ v0.1 11 t = nI em := by
        rcases hem with h | h
        · exact ⟨0, by omega, h⟩
        · exact ⟨1, by omega, h⟩
      have hsum : ms + em = kk := by
        rw [hms, hem', nn_add, nI_inj' (by omega) (by omega)] at hkk
        exact hkk
      have S := fun Q T' => r_93 (n := n) (t := t) (k := kk) (em := em) (ms := ms) (L := w_X12_findPlayed_45 n Q T' k) (v := v) (Q := Q) (T' := T') (by omega) hsum kk3 s1 b1 e1 o4 K7 E4 g2 g3 g4 g5 (by rw [e6]; exact hK) (by rw [e6]; exact hE)
      have step : ∀ Q T', w_X12_findPlayed_45 n Q T' (k + 1) (nI t) v = w_X12_findPlayed_45 n Q T' k (nI (t + 1)) (up4 kk (if K = 4 ∨ K = 6 then 1 else s) (if K = 5 ∨ K = 6 then 1 else b) (if K = 0 ∧ E = 0 then e else 1) (if E = 0 then o else E) v) := fun Q T' => by
        rw [← S Q T', w_X12_findPlayed_45]
        have hem2 : em = 0 ∨ em = 1 := by omega
        rcases hem2 with rfl | rfl
        · simp (disch := omega) only [↓mletE, ↓iletE, ↓jletE, ↓br_if, ↓br_ifn, ↓reduceIte, nl_lt, nl_gt, nl_le, nl_ge, nl_eq, nn_lt, nn_le, nn_eq, nl_add, nl_sub, nl_mul, nl_mulr, nn_add, nn_ix, nn_in, true_and, and_true, false_and, and_false, gI_if, gIj, gIr, gJ_if, gJi, gJr, gPr, gPi, gPj, hu_if, hv_if, Nat.reduceEqDiff, Nat.reduceLT, Nat.reduceLeDiff, eq_self, bIT, bIF, Nat.add_zero, Nat.add_assoc, Nat.reduceAdd, nb0, nb1, i10, i00, Bool.false_eq_true, not_true_eq_false, not_false_eq_true, reduceIte, e27, hct, w_X12_get, e6, hb.1, hb.2, hms, e11, hem', nI0]
        · simp (disch := omega) only [↓mletE, ↓iletE, ↓jletE, ↓br_if, ↓br_ifn, ↓reduceIte, nl_lt, nl_gt, nl_le, nl_ge, nl_eq, nn_lt, nn_le, nn_eq, nl_add, nl_sub, nl_mul, nl_mulr, nn_add, nn_ix, nn_in, true_and, and_true, false_and, and_false, gI_if, gIj, gIr, gJ_if, gJi, gJr, gPr, gPi, gPj, hu_if, hv_if, Nat.reduceEqDiff, Nat.reduceLT, Nat.reduceLeDiff, eq_self, bIT, bIF, Nat.add_zero, Nat.add_assoc, Nat.reduceAdd, nb0, nb1, i10, i00, Bool.false_eq_true, not_true_eq_false, not_false_eq_true, reduceIte, e27, hct, w_X12_get, e6, hb.1, hb.2, hms, e11, hem', nI1]
      obtain ⟨v', a1, a2, a3⟩ := ih k (t + 1) _ (by omega) (by omega) (by omega) (hv.up (k := kk) (s := if K = 4 ∨ K = 6 then 1 else s) (b := if K = 5 ∨ K = 6 then 1 else b) (e := if K = 0 ∧ E = 0 then e else 1) (o := if E = 0 then o else E)) (fun j hj => by
        obtain ⟨p1, p2, p3, p4⟩ := up4_26 (v := v) (k := kk) (s := if K = 4 ∨ K = 6 then 1 else s) (b := if K = 5 ∨ K = 6 then 1 else b) (e := if K = 0 ∧ E = 0 then e else 1) (o := if E = 0 then o else E) (j := j)
        rw [p1, p2, p3, p4, gapOf]
        by_cases hj' : j = kk
        · subst hj'
          rw [if_pos rfl, if_pos rfl, if_pos rfl, if_pos rfl, if_pos ⟨hb.1, hb.2, hkk⟩, g1, hK, hE, g_wbr s (by omega) b (by omega) e (by omega) o (by omega) K (by omega) E (by omega)]
          exact ⟨_, _, _, _, by split <;> omega, by split <;> omega, by split <;> omega, by split <;> omega, rfl, rfl, rfl, rfl, rfl⟩
        · rw [if_neg hj', if_neg hj', if_neg hj', if_neg hj', if_neg (fun z => hj' (by
            have := hkk.symm.trans z.2.2
            rw [nI_inj' (by omega) (by omega)] at this
            exact this.symm))]
          exact hg j hj)
      exact ⟨v', a1, a2, fun Q T' => (step Q T').trans (a3 Q T')⟩
    · obtain ⟨v', a1, a2, a3⟩ := ih k (t + 1) v (by omega) (by omega) (by omega) hv (fun j hj => by
        rw [gapOf, if_neg (fun z => hb ⟨z.1, z.2.1⟩)]
        exact hg j hj)
      refine ⟨v', a1, a2, fun Q T' => Eq.trans ?_ (a3 Q T')⟩
      rw [w_X12_findPlayed_45]
      by_cases h4 : v0.1 6 (17 * t) = 4
      · have h1 : (v0.1 6 (17 * t + 1) = 1) = False := eq_false (fun h => hb ⟨h4, h⟩)
        simp (disch := omega) only [↓mletE, ↓iletE, ↓jletE, ↓br_if, ↓br_ifn, ↓reduceIte, nl_lt, nl_gt, nl_le, nl_ge, nl_eq, nn_lt, nn_le, nn_eq, nl_add, nl_sub, nl_mul, nl_mulr, nn_add, nn_ix, nn_in, true_and, and_true, false_and, and_false, gI_if, gIj, gIr, gJ_if, gJi, gJr, gPr, gPi, gPj, hu_if, hv_if, Nat.reduceEqDiff, Nat.reduceLT, Nat.reduceLeDiff, eq_self, bIT, bIF, Nat.add_zero, Nat.add_assoc, Nat.reduceAdd, nb0, nb1, i10, i00, Bool.false_eq_true, not_true_eq_false, not_false_eq_true, reduceIte, e27, hct, w_X12_get, e6, eq_true h4, h1, w_X12_findPlayed_230]
      · simp (disch := omega) only [↓mletE, ↓iletE, ↓jletE, ↓br_if, ↓br_ifn, ↓reduceIte, nl_lt, nl_gt, nl_le, nl_ge, nl_eq, nn_lt, nn_le, nn_eq, nl_add, nl_sub, nl_mul, nl_mulr, nn_add, nn_ix, nn_in, true_and, and_true, false_and, and_false, gI_if, gIj, gIr, gJ_if, gJi, gJr, gPr, gPi, gPj, hu_if, hv_if, Nat.reduceEqDiff, Nat.reduceLT, Nat.reduceLeDiff, eq_self, bIT, bIF, Nat.add_zero, Nat.add_assoc, Nat.reduceAdd, nb0, nb1, i10, i00, Bool.false_eq_true, not_true_eq_false, not_false_eq_true, reduceIte, e27, hct, w_X12_get, e6, eq_false h4, w_X12_findPlayed_230]
theorem r_2 {n : Nat} {v0 : Mm} : ∀ (d k i : Nat) (v : Mm), 301 - i = d → d < k → i ≤ 301 → sm4 v0 v → (∀ j, j < i → v.1 26 j = 0 ∧ v.1 27 j = 0 ∧ v.1 28 j = 0 ∧ v.1 29 j = 0) → ∃ v', sm4 v0 v' ∧ (∀ j, j ≤ 300 → v'.1 26 j = 0 ∧ v'.1 27 j = 0 ∧ v'.1 28 j = 0 ∧ v'.1 29 j = 0) ∧ ∀ Q T', w_X12_findPlayed_2 n Q T' k (nI i) v = w_X12_findPlayed_45 n Q T' n 0 v' := by
  intro d
  induction d with
  | zero =>
    intro k i v hd hk hi hv hz
    obtain ⟨k, rfl⟩ : ∃ k1, k = k1 + 1 := ⟨k - 1, by omega⟩
    refine ⟨v, hv, fun j hj => hz j (by omega), fun Q T' => ?_⟩
    rw [w_X12_findPlayed_2]
    simp (disch := omega) only [↓mletE, ↓iletE, ↓jletE, ↓br_if, ↓br_ifn, ↓reduceIte, nl_lt, nl_gt, nl_le, nl_ge, nl_eq, nn_lt, nn_le, nn_eq, nl_add, nl_sub, nl_mul, nl_mulr, nn_add, nn_ix, nn_in, true_and, and_true, false_and, and_false, gI_if, gIj, gIr, gJ_if, gJi, gJr, gPr, gPi, gPj, hu_if, hv_if, Nat.reduceEqDiff, Nat.reduceLT, Nat.reduceLeDiff, eq_self, bIT, bIF, Nat.add_zero, Nat.add_assoc, Nat.reduceAdd, nb0, nb1, i10, i00, Bool.false_eq_true, not_true_eq_false, not_false_eq_true, reduceIte, show (300 < i) = True from eq_true (by omega)]
  | succ d ih =>
    intro k i v hd hk hi hv hz
    obtain ⟨k, rfl⟩ : ∃ k1, k = k1 + 1 := ⟨k - 1, by omega⟩
    obtain ⟨v', a1, a2, a3⟩ := ih k (i + 1) (up4 i 0 0 0 0 v) (by omega) (by omega) (by omega) hv.up (fun j hj => by
      obtain ⟨p1, p2, p3, p4⟩ := up4_26 (v := v) (k := i) (s := 0) (b := 0) (e := 0) (o := 0) (j := j)
      rw [p1, p2, p3, p4]
      by_cases h : j = i
      · rw [if_pos h, if_pos h, if_pos h, if_pos h]; exact ⟨rfl, rfl, rfl, rfl⟩
      · rw [if_neg h, if_neg h, if_neg h, if_neg h]; exact hz j (by omega))
    refine ⟨v', a1, a2, fun Q T' => Eq.trans ?_ (a3 Q T')⟩
    rw [w_X12_findPlayed_2]
    unfold up4
    simp (disch := omega) only [↓mletE, ↓iletE, ↓jletE, ↓br_if, ↓br_ifn, ↓reduceIte, nl_lt, nl_gt, nl_le, nl_ge, nl_eq, nn_lt, nn_le, nn_eq, nl_add, nl_sub, nl_mul, nl_mulr, nn_add, nn_ix, nn_in, true_and, and_true, false_and, and_false, gI_if, gIj, gIr, gJ_if, gJi, gJr, gPr, gPi, gPj, hu_if, hv_if, Nat.reduceEqDiff, Nat.reduceLT, Nat.reduceLeDiff, eq_self, bIT, bIF, Nat.add_zero, Nat.add_assoc, Nat.reduceAdd, nb0, nb1, i10, i00, Bool.false_eq_true, not_true_eq_false, not_false_eq_true, reduceIte, show (300 < i) = False from eq_false (by omega), nar0, nI0]
