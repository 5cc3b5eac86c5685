/-! lines in the reference -/
section RL
variable {n : Nat} {T : Nat → Nat} {sz a : Nat}
theorem r_8 {v : Mm} {Q T' : Mm → Prop} (hsz : sz ≤ 1300) (h6 : v.1 0 6 = nI sz) (hT : ∀ i, i < sz → v.1 3 i = sbv (T i) ∧ T i < 256) : ∀ (d k i : Nat), sz - i = d → d < k → i ≤ sz → w_X12_beginLine_8 n Q T' k (setI v 0 8 (nI i)) = w_X12_beginLine_46 n (setI v 0 8 (nI (lE T 10 sz i))) Q T' := by
  intro d
  induction d with
  | zero =>
    intro k i hd hk hi
    obtain ⟨k, rfl⟩ : ∃ k1, k = k1 + 1 := ⟨k - 1, by omega⟩
    rw [lE_stop (by omega), w_X12_beginLine_8]
    simp (disch := omega) only [↓mletE, ↓iletE, ↓jletE, ↓br_if, ↓br_ifn, ↓reduceIte, nl_lt, nl_gt, nl_le, nl_ge, nl_eq, nn_lt, nn_le, nn_eq, nl_add, nl_sub, nl_mul, nl_mulr, nn_add, nn_ix, nn_in, true_and, and_true, false_and, and_false, gI_if, gIj, gIr, gJ_if, gJi, gJr, gPr, gPi, gPj, hu_if, hv_if, Nat.reduceEqDiff, Nat.reduceLT, Nat.reduceLeDiff, eq_self, bIT, bIF, Nat.add_zero, Nat.add_assoc, Nat.reduceAdd, nb0, nb1, i10, i00, Bool.false_eq_true, not_true_eq_false, not_false_eq_true, reduceIte, h6, show (sz ≤ i) = True from eq_true (by omega)]
  | succ d ih =>
    intro k i hd hk hi
    obtain ⟨k, rfl⟩ : ∃ k1, k = k1 + 1 := ⟨k - 1, by omega⟩
    obtain ⟨t1, t2⟩ := hT i (by omega)
    have sb := (sbv_e t2).1
    rw [w_X12_beginLine_8]
    by_cases h : T i = 10
    · rw [lE_stop (by omega)]
      simp (disch := omega) only [↓mletE, ↓iletE, ↓jletE, ↓br_if, ↓br_ifn, ↓reduceIte, nl_lt, nl_gt, nl_le, nl_ge, nl_eq, nn_lt, nn_le, nn_eq, nl_add, nl_sub, nl_mul, nl_mulr, nn_add, nn_ix, nn_in, true_and, and_true, false_and, and_false, gI_if, gIj, gIr, gJ_if, gJi, gJr, gPr, gPi, gPj, hu_if, hv_if, Nat.reduceEqDiff, Nat.reduceLT, Nat.reduceLeDiff, eq_self, bIT, bIF, Nat.add_zero, Nat.add_assoc, Nat.reduceAdd, nb0, nb1, i10, i00, Bool.false_eq_true, not_true_eq_false, not_false_eq_true, reduceIte, h6, show (sz ≤ i) = False from eq_false (by omega), t1, sb, eq_true h]
    · rw [lE_step (by omega) h]
      have := ih k (i + 1) (by omega) (by omega) (by omega)
      simp (disch := omega) only [↓mletE, ↓iletE, ↓jletE, ↓br_if, ↓br_ifn, ↓reduceIte, nl_lt, nl_gt, nl_le, nl_ge, nl_eq, nn_lt, nn_le, nn_eq, nl_add, nl_sub, nl_mul, nl_mulr, nn_add, nn_ix, nn_in, true_and, and_true, false_and, and_false, gI_if, gIj, gIr, gJ_if, gJi, gJr, gPr, gPi, gPj, hu_if, hv_if, Nat.reduceEqDiff, Nat.reduceLT, Nat.reduceLeDiff, eq_self, bIT, bIF, Nat.add_zero, Nat.add_assoc, Nat.reduceAdd, nb0, nb1, i10, i00, Bool.false_eq_true, not_true_eq_false, not_false_eq_true, reduceIte, h6, show (sz ≤ i) = False from eq_false (by omega), t1, sb, eq_false h, mI_over, this]
theorem r_54 {v : Mm} {Q T' : Mm → Prop} {e : Nat} (hsz : sz ≤ 1300) (he : e ≤ sz) (h8 : v.1 0 8 = nI e) (hT : ∀ i, i < sz → v.1 3 i = sbv (T i) ∧ T i < 256) : ∀ (d k i : Nat), e - i = d → d < k → i ≤ e → w_X12_beginLine_54 n Q T' k (setI v 0 9 (nI i)) = w_X12_beginLine_92 n Q T' n (setI v 0 9 (nI (lE T 37 e i))) := by
  intro d
  induction d with
  | zero =>
    intro k i hd hk hi
    obtain ⟨k, rfl⟩ : ∃ k1, k = k1 + 1 := ⟨k - 1, by omega⟩
    rw [lE_stop (by omega), w_X12_beginLine_54]
    simp (disch := omega) only [↓mletE, ↓iletE, ↓jletE, ↓br_if, ↓br_ifn, ↓reduceIte, nl_lt, nl_gt, nl_le, nl_ge, nl_eq, nn_lt, nn_le, nn_eq, nl_add, nl_sub, nl_mul, nl_mulr, nn_add, nn_ix, nn_in, true_and, and_true, false_and, and_false, gI_if, gIj, gIr, gJ_if, gJi, gJr, gPr, gPi, gPj, hu_if, hv_if, Nat.reduceEqDiff, Nat.reduceLT, Nat.reduceLeDiff, eq_self, bIT, bIF, Nat.add_zero, Nat.add_assoc, Nat.reduceAdd, nb0, nb1, i10, i00, Bool.false_eq_true, not_true_eq_false, not_false_eq_true, reduceIte, h8, show (e ≤ i) = True from eq_true (by omega)]
  | succ d ih =>
    intro k i hd hk hi
    obtain ⟨k, rfl⟩ : ∃ k1, k = k1 + 1 := ⟨k - 1, by omega⟩
    obtain ⟨t1, t2⟩ := hT i (by omega)
    have sb := (sbv_e t2).2.1
    rw [w_X12_beginLine_54]
    by_cases h : T i = 37
    · rw [lE_stop (by omega)]
      simp (disch := omega) only [↓mletE, ↓iletE, ↓jletE, ↓br_if, ↓br_ifn, ↓reduceIte, nl_lt, nl_gt, nl_le, nl_ge, nl_eq, nn_lt, nn_le, nn_eq, nl_add, nl_sub, nl_mul, nl_mulr, nn_add, nn_ix, nn_in, true_and, and_true, false_and, and_false, gI_if, gIj, gIr, gJ_if, gJi, gJr, gPr, gPi, gPj, hu_if, hv_if, Nat.reduceEqDiff, Nat.reduceLT, Nat.reduceLeDiff, eq_self, bIT, bIF, Nat.add_zero, Nat.add_assoc, Nat.reduceAdd, nb0, nb1, i10, i00, Bool.false_eq_true, not_true_eq_false, not_false_eq_true, reduceIte, h8, show (e ≤ i) = False from eq_false (by omega), t1, sb, eq_true h]
    · rw [lE_step (by omega) h]
      have := ih k (i + 1) (by omega) (by omega) (by omega)
      simp (disch := omega) only [↓mletE, ↓iletE, ↓jletE, ↓br_if, ↓br_ifn, ↓reduceIte, nl_lt, nl_gt, nl_le, nl_ge, nl_eq, nn_lt, nn_le, nn_eq, nl_add, nl_sub, nl_mul, nl_mulr, nn_add, nn_ix, nn_in, true_and, and_true, false_and, and_false, gI_if, gIj, gIr, gJ_if, gJi, gJr, gPr, gPi, gPj, hu_if, hv_if, Nat.reduceEqDiff, Nat.reduceLT, Nat.reduceLeDiff, eq_self, bIT, bIF, Nat.add_zero, Nat.add_assoc, Nat.reduceAdd, nb0, nb1, i10, i00, Bool.false_eq_true, not_true_eq_false, not_false_eq_true, reduceIte, h8, show (e ≤ i) = False from eq_false (by omega), t1, sb, eq_false h, mI_over, this]
theorem r_92 {v : Mm} {Q T' : Mm → Prop} (hsz : sz ≤ 1300) (h7 : v.1 0 7 = nI a) (ha : a ≤ sz) (hT : ∀ i, i < sz → v.1 3 i = sbv (T i) ∧ T i < 256) : ∀ (c k : Nat), c < k → a ≤ c → c ≤ sz → w_X12_beginLine_92 n Q T' k (setI v 0 9 (nI c)) = w_X12_beginLine_132 n (setI v 0 9 (nI (bkS T a c))) Q T' := by
  intro c
  induction c with
  | zero =>
    intro k hk hac hc
    obtain ⟨k, rfl⟩ : ∃ k1, k = k1 + 1 := ⟨k - 1, by omega⟩
    rw [w_X12_beginLine_92]
    simp (disch := omega) only [↓mletE, ↓iletE, ↓jletE, ↓br_if, ↓br_ifn, ↓reduceIte, nl_lt, nl_gt, nl_le, nl_ge, nl_eq, nn_lt, nn_le, nn_eq, nl_add, nl_sub, nl_mul, nl_mulr, nn_add, nn_ix, nn_in, true_and, and_true, false_and, and_false, gI_if, gIj, gIr, gJ_if, gJi, gJr, gPr, gPi, gPj, hu_if, hv_if, Nat.reduceEqDiff, Nat.reduceLT, Nat.reduceLeDiff, eq_self, bIT, bIF, Nat.add_zero, Nat.add_assoc, Nat.reduceAdd, nb0, nb1, i10, i00, Bool.false_eq_true, not_true_eq_false, not_false_eq_true, reduceIte, h7, show ((0 : Nat) ≤ a) = True from eq_true (by omega), bkS]
  | succ c ih =>
    intro k hk hac hc
    obtain ⟨k, rfl⟩ : ∃ k1, k = k1 + 1 := ⟨k - 1, by omega⟩
    obtain ⟨t1, t2⟩ := hT c (by omega)
    have sb := (sbv_e t2).2.2.1
    rw [w_X12_beginLine_92, bkS]
    by_cases h0 : a < c + 1
    · by_cases h : T c = 32
      · have := ih k (by omega) (by omega) (by omega)
        rw [if_pos ⟨h0, h⟩]
        simp (disch := omega) only [↓mletE, ↓iletE, ↓jletE, ↓br_if, ↓br_ifn, ↓reduceIte, nl_lt, nl_gt, nl_le, nl_ge, nl_eq, nn_lt, nn_le, nn_eq, nl_add, nl_sub, nl_mul, nl_mulr, nn_add, nn_ix, nn_in, true_and, and_true, false_and, and_false, gI_if, gIj, gIr, gJ_if, gJi, gJr, gPr, gPi, gPj, hu_if, hv_if, Nat.reduceEqDiff, Nat.reduceLT, Nat.reduceLeDiff, eq_self, bIT, bIF, Nat.add_zero, Nat.add_assoc, Nat.reduceAdd, nb0, nb1, i10, i00, Bool.false_eq_true, not_true_eq_false, not_false_eq_true, reduceIte, h7, show (c + 1 ≤ a) = False from eq_false (by omega), Nat.add_one_sub_one, t1, sb, eq_true h, mI_over, this]
      · rw [if_neg (fun z => h z.2)]
        simp (disch := omega) only [↓mletE, ↓iletE, ↓jletE, ↓br_if, ↓br_ifn, ↓reduceIte, nl_lt, nl_gt, nl_le, nl_ge, nl_eq, nn_lt, nn_le, nn_eq, nl_add, nl_sub, nl_mul, nl_mulr, nn_add, nn_ix, nn_in, true_and, and_true, false_and, and_false, gI_if, gIj, gIr, gJ_if, gJi, gJr, gPr, gPi, gPj, hu_if, hv_if, Nat.reduceEqDiff, Nat.reduceLT, Nat.reduceLeDiff, eq_self, bIT, bIF, Nat.add_zero, Nat.add_assoc, Nat.reduceAdd, nb0, nb1, i10, i00, Bool.false_eq_true, not_true_eq_false, not_false_eq_true, reduceIte, h7, show (c + 1 ≤ a) = False from eq_false (by omega), Nat.add_one_sub_one, t1, sb, eq_false h]
    · rw [if_neg (fun z => h0 z.1)]
      simp (disch := omega) only [↓mletE, ↓iletE, ↓jletE, ↓br_if, ↓br_ifn, ↓reduceIte, nl_lt, nl_gt, nl_le, nl_ge, nl_eq, nn_lt, nn_le, nn_eq, nl_add, nl_sub, nl_mul, nl_mulr, nn_add, nn_ix, nn_in, true_and, and_true, false_and, and_false, gI_if, gIj, gIr, gJ_if, gJi, gJr, gPr, gPi, gPj, hu_if, hv_if, Nat.reduceEqDiff, Nat.reduceLT, Nat.reduceLeDiff, eq_self, bIT, bIF, Nat.add_zero, Nat.add_assoc, Nat.reduceAdd, nb0, nb1, i10, i00, Bool.false_eq_true, not_true_eq_false, not_false_eq_true, reduceIte, h7, show (c + 1 ≤ a) = True from eq_true (by omega)]
theorem r_132 {v : Mm} {Q T' : Mm → Prop} {c : Nat} (hsz : sz ≤ 1300) (h7 : v.1 0 7 = nI a) (ha : a ≤ c) (hc : c ≤ sz) (hT : ∀ i, i < sz → v.1 3 i = sbv (T i) ∧ T i < 256) : w_X12_beginLine_132 n (setI v 0 9 (nI c)) Q T' = Q (setI v 0 9 (nI (lS T a c))) := by
  unfold w_X12_beginLine_132 lS
  by_cases h0 : a < c
  · obtain ⟨t1, t2⟩ := hT (c - 1) (by omega)
    have sb := (sbv_e t2).2.2.2
    by_cases h : T (c - 1) = 92
    · rw [if_pos ⟨h0, h⟩]
      simp (disch := omega) only [↓mletE, ↓iletE, ↓jletE, ↓br_if, ↓br_ifn, ↓reduceIte, nl_lt, nl_gt, nl_le, nl_ge, nl_eq, nn_lt, nn_le, nn_eq, nl_add, nl_sub, nl_mul, nl_mulr, nn_add, nn_ix, nn_in, true_and, and_true, false_and, and_false, gI_if, gIj, gIr, gJ_if, gJi, gJr, gPr, gPi, gPj, hu_if, hv_if, Nat.reduceEqDiff, Nat.reduceLT, Nat.reduceLeDiff, eq_self, bIT, bIF, Nat.add_zero, Nat.add_assoc, Nat.reduceAdd, nb0, nb1, i10, i00, Bool.false_eq_true, not_true_eq_false, not_false_eq_true, reduceIte, h7, show (c ≤ a) = False from eq_false (by omega), t1, sb, eq_true h, mI_over, w_X12_beginLine_169]
    · rw [if_neg (fun z => h z.2)]
      simp (disch := omega) only [↓mletE, ↓iletE, ↓jletE, ↓br_if, ↓br_ifn, ↓reduceIte, nl_lt, nl_gt, nl_le, nl_ge, nl_eq, nn_lt, nn_le, nn_eq, nl_add, nl_sub, nl_mul, nl_mulr, nn_add, nn_ix, nn_in, true_and, and_true, false_and, and_false, gI_if, gIj, gIr, gJ_if, gJi, gJr, gPr, gPi, gPj, hu_if, hv_if, Nat.reduceEqDiff, Nat.reduceLT, Nat.reduceLeDiff, eq_self, bIT, bIF, Nat.add_zero, Nat.add_assoc, Nat.reduceAdd, nb0, nb1, i10, i00, Bool.false_eq_true, not_true_eq_false, not_false_eq_true, reduceIte, h7, show (c ≤ a) = False from eq_false (by omega), t1, sb, eq_false h, w_X12_beginLine_169]
  · rw [if_neg (fun z => h0 z.1)]
    simp (disch := omega) only [↓mletE, ↓iletE, ↓jletE, ↓br_if, ↓br_ifn, ↓reduceIte, nl_lt, nl_gt, nl_le, nl_ge, nl_eq, nn_lt, nn_le, nn_eq, nl_add, nl_sub, nl_mul, nl_mulr, nn_add, nn_ix, nn_in, true_and, and_true, false_and, and_false, gI_if, gIj, gIr, gJ_if, gJi, gJr, gPr, gPi, gPj, hu_if, hv_if, Nat.reduceEqDiff, Nat.reduceLT, Nat.reduceLeDiff, eq_self, bIT, bIF, Nat.add_zero, Nat.add_assoc, Nat.reduceAdd, nb0, nb1, i10, i00, Bool.false_eq_true, not_true_eq_false, not_false_eq_true, reduceIte, h7, show (c ≤ a) = True from eq_true (by omega), w_X12_beginLine_169]
/-- the reference begins a line -/
theorem r_begin {v : Mm} {Q T' : Mm → Prop} (hn : 5000 ≤ n) (hsz : sz ≤ 1300) (h6 : v.1 0 6 = nI sz) (h7 : v.1 0 7 = nI a) (ha : a ≤ sz) (hT : ∀ i, i < sz → v.1 3 i = sbv (T i) ∧ T i < 256) : w_X12_beginLine n v Q T' = Q (setI (setI v 0 8 (nI (lineE T sz a))) 0 9 (nI (lineS T sz a))) := by
  obtain ⟨e1, e2, e3, e4⟩ := lE_bd (T := T) (k := 10) (sz := sz) _ a rfl ha
  obtain ⟨c1, c2, c3, c4⟩ := lE_bd (T := T) (k := 37) (sz := lE T 10 sz a) _ a rfl e1
  obtain ⟨b1, b2⟩ := bkS_bd (T := T) (a := a) _ c1
  unfold w_X12_beginLine
  rw [h7, mletE, r_8 hsz h6 hT _ n a rfl (by omega) ha]
  unfold w_X12_beginLine_46
  have k7 : (setI v 0 8 (nI (lE T 10 sz a))).1 0 7 = nI a := by simp (disch := omega) only [gIs, gIn, gIj, gIr, gJs, gJn, gJi, gJr, gPr, gPi, gPj, hu_s, hu_n, hv_s, hv_n]; exact h7
  have k8 : (setI v 0 8 (nI (lE T 10 sz a))).1 0 8 = nI (lE T 10 sz a) := by simp (disch := omega) only [gIs, gIn, gIj, gIr, gJs, gJn, gJi, gJr, gPr, gPi, gPj, hu_s, hu_n, hv_s, hv_n]
  have kT : ∀ i, i < sz → (setI v 0 8 (nI (lE T 10 sz a))).1 3 i = sbv (T i) ∧ T i < 256 := fun i hi => by simp (disch := omega) only [gIs, gIn, gIj, gIr, gJs, gJn, gJi, gJr, gPr, gPi, gPj, hu_s, hu_n, hv_s, hv_n]; exact hT i hi
  rw [k7, mletE, r_54 hsz e2 k8 kT _ n a rfl (by omega) e1, r_92 hsz k7 ha kT _ n (by omega) c1 (by omega), r_132 hsz k7 b1 (by omega) kT]
  rfl
end RL
theorem ps_line {T : Nat → Nat} {a : Nat} (h0 : ps T a = false) : ∀ (d : Nat), (∀ j, a ≤ j → j < a + d → T j ≠ 37) → ps T (a + d) = false := by
  intro d
  induction d with
  | zero => intro _; exact h0
  | succ d ih =>
    intro h
    rw [show a + (d + 1) = (a + d) + 1 from rfl, ps, ih (fun j h1 h2 => h j h1 (by omega))]
    by_cases h1 : T (a + d) = 10
    · rw [if_pos h1]
    · rw [if_neg h1, if_neg (h (a + d) (by omega) (by omega))]
/-- the bytes of a clean text's line -/
theorem cln_line {T : Nat → Nat} {sz a : Nat} (hc : cln T sz) (ha : a ≤ sz) (h0 : ps T a = false) : ∀ i, a ≤ i → i < lineS T sz a → 32 ≤ T i ∧ T i ≤ 126 := by
  intro i h1 h2
  obtain ⟨b1, b2, b3, b4, b5, b6⟩ := line_bd (T := T) ha
  have hp := ps_line h0 (i - a) (fun j g1 g2 => b5 j g1 (by omega))
  rw [show a + (i - a) = i from by omega] at hp
  have := hc i (by omega) hp
  have g1 := b4 i h1 (by omega)
  have g2 := b5 i h1 h2
  omega
/-- the next line's first place -/
theorem ps_next {T : Nat → Nat} {sz e : Nat} (h : e < sz → T e = 10) (hl : e < sz) : ps T (e + 1) = false := by
  rw [ps, if_pos (h hl)]
