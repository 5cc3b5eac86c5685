/-! lines -/
def lnE (T : Nat → Nat) (k sz : Nat) : Nat → Nat → Nat
  | 0, i => i
  | f + 1, i => if i < sz ∧ T i ≠ k then lnE T k sz f (i + 1) else i
def lE (T : Nat → Nat) (k sz a : Nat) : Nat := lnE T k sz (sz - a) a
theorem lE_step {T : Nat → Nat} {k sz i : Nat} (h1 : i < sz) (h2 : T i ≠ k) : lE T k sz i = lE T k sz (i + 1) := by
  unfold lE
  rw [show sz - i = (sz - (i + 1)) + 1 from by omega, lnE, if_pos ⟨h1, h2⟩]
theorem lE_stop {T : Nat → Nat} {k sz i : Nat} (h : ¬ (i < sz ∧ T i ≠ k)) : lE T k sz i = i := by
  unfold lE
  rcases Nat.eq_zero_or_pos (sz - i) with h0 | h0
  · rw [h0]; rfl
  · rw [show sz - i = (sz - i - 1) + 1 from by omega, lnE, if_neg h]
theorem lE_bd {T : Nat → Nat} {k sz : Nat} : ∀ (d a : Nat), sz - a = d → a ≤ sz → a ≤ lE T k sz a ∧ lE T k sz a ≤ sz ∧ (∀ j, a ≤ j → j < lE T k sz a → T j ≠ k) ∧ (lE T k sz a < sz → T (lE T k sz a) = k) := by
  intro d
  induction d with
  | zero =>
    intro a hd ha
    rw [lE_stop (by omega)]
    exact ⟨Nat.le_refl _, ha, fun j h1 h2 => by omega, fun h => by omega⟩
  | succ d ih =>
    intro a hd ha
    by_cases h : a < sz ∧ T a ≠ k
    · rw [lE_step h.1 h.2]
      obtain ⟨i1, i2, i3, i4⟩ := ih (a + 1) (by omega) (by omega)
      refine ⟨by omega, i2, fun j h1 h2 => ?_, i4⟩
      by_cases hj : j = a
      · subst hj; exact h.2
      · exact i3 j (by omega) h2
    · rw [lE_stop h]
      exact ⟨Nat.le_refl _, ha, fun j h1 h2 => by omega, fun h1 => Classical.byContradiction fun h2 => h ⟨h1, h2⟩⟩
def bkS (T : Nat → Nat) (a : Nat) : Nat → Nat
  | 0 => 0
  | c + 1 => if a < c + 1 ∧ T c = 32 then bkS T a c else c + 1
theorem bkS_bd {T : Nat → Nat} {a : Nat} : ∀ c, a ≤ c → a ≤ bkS T a c ∧ bkS T a c ≤ c := by
  intro c
  induction c with
  | zero => intro h; exact ⟨h, Nat.le_refl _⟩
  | succ c ih =>
    intro h
    unfold bkS
    by_cases h1 : a < c + 1 ∧ T c = 32
    · rw [if_pos h1]
      have := ih (by omega)
      omega
    · rw [if_neg h1]; omega
def lS (T : Nat → Nat) (a c : Nat) : Nat := if a < c ∧ T (c - 1) = 92 then c - 1 else c
def lineE (T : Nat → Nat) (sz a : Nat) : Nat := lE T 10 sz a
def lineS (T : Nat → Nat) (sz a : Nat) : Nat := lS T a (bkS T a (lE T 37 (lE T 10 sz a) a))
theorem line_bd {T : Nat → Nat} {sz a : Nat} (h : a ≤ sz) : a ≤ lineS T sz a ∧ lineS T sz a ≤ lineE T sz a ∧ lineE T sz a ≤ sz ∧ (∀ j, a ≤ j → j < lineE T sz a → T j ≠ 10) ∧ (∀ j, a ≤ j → j < lineS T sz a → T j ≠ 37) ∧ (lineE T sz a < sz → T (lineE T sz a) = 10) := by
  obtain ⟨e1, e2, e3, e4⟩ := lE_bd (T := T) (k := 10) (sz := sz) _ a rfl h
  obtain ⟨c1, c2, c3, c4⟩ := lE_bd (T := T) (k := 37) (sz := lE T 10 sz a) _ a rfl e1
  obtain ⟨b1, b2⟩ := bkS_bd (T := T) (a := a) _ c1
  have hs : a ≤ lS T a (bkS T a (lE T 37 (lE T 10 sz a) a)) ∧ lS T a (bkS T a (lE T 37 (lE T 10 sz a) a)) ≤ bkS T a (lE T 37 (lE T 10 sz a) a) := by
    unfold lS
    split <;> omega
  unfold lineS lineE
  exact ⟨hs.1, by omega, e2, e3, fun j h1 h2 => c3 j h1 (by omega), e4⟩
/-- a text's bytes in the class -/
theorem c_byteAt {n : Nat} {T : Nat → Nat} {sz B i : Nat} {u : Mm} {Q : Int32 → Mm → Prop} (hsz : sz ≤ 1300) (hP : u.2.2 1 = B) (h1 : u.1 33 1 = nI sz) (hT : ∀ i, i < sz → u.1 B i = sbv (T i) ∧ T i < 256) (hi : i < sz) : w_X5_byteAt n (nI i) u Q = Q (nI (T i)) u := by
  unfold w_X5_byteAt
  simp (disch := omega) only [↓mletE, ↓iletE, ↓jletE, ↓br_if, ↓br_ifn, ↓reduceIte, nl_lt, nl_gt, nl_le, nl_ge, nl_eq, nn_lt, nn_le, nn_eq, nl_add, nl_sub, nl_mul, nl_mulr, nn_add, nn_ix, nn_in, true_and, and_true, false_and, and_false, gI_if, gIj, gIr, gJ_if, gJi, gJr, gPr, gPi, gPj, hu_if, hv_if, Nat.reduceEqDiff, Nat.reduceLT, Nat.reduceLeDiff, eq_self, bIT, bIF, Nat.add_zero, Nat.add_assoc, Nat.reduceAdd, nb0, nb1, i10, i00, Bool.false_eq_true, not_true_eq_false, not_false_eq_true, reduceIte, h1, w_X5_byteAt_35, hP, (hT i hi).1, sbv_and (hT i hi).2, show (i < 0) = False from eq_false (by omega), show (sz ≤ i) = False from eq_false (by omega), show (2400 ≤ i) = False from eq_false (by omega)]
theorem sbv_e {x : Nat} (hx : x < 256) : (sbv x = 10) = (x = 10) ∧ (sbv x = 37) = (x = 37) ∧ (sbv x = 32) = (x = 32) ∧ (sbv x = 92) = (x = 92) := by
  have := (show ∀ x, x < 256 → (sbv x = 10 ↔ x = 10) ∧ (sbv x = 37 ↔ x = 37) ∧ (sbv x = 32 ↔ x = 32) ∧ (sbv x = 92 ↔ x = 92) from by decide +kernel) x hx
  exact ⟨propext this.1, propext this.2.1, propext this.2.2.1, propext this.2.2.2⟩
theorem nI_m1 {c : Nat} (h : 1 ≤ c) : nI c + -1 = nI (c - 1) := by
  obtain ⟨d, rfl⟩ : ∃ d, c = d + 1 := ⟨c - 1, by omega⟩
  rw [← nn_add (a := d) (b := 1), Int32.add_assoc, show nI 1 + (-1 : Int32) = 0 from by decide, Int32.add_zero, Nat.add_sub_cancel]
section CL
variable {n : Nat} {T : Nat → Nat} {sz B a : Nat}
theorem c_28 {u : Mm} {Q : Int32 → Mm → Prop} (hsz : sz ≤ 1300) (hP : u.2.2 1 = B) (h1 : u.1 33 1 = nI sz) (hT : ∀ i, i < sz → u.1 B i = sbv (T i) ∧ T i < 256) : ∀ (d k i : Nat), sz - i = d → d < k → i ≤ sz → w_X5_openLine_28 n Q k (nI i) u = w_X5_openLine_52 n (nI (lE T 10 sz i)) u Q := by
  intro d
  induction d with
  | zero =>
    intro k i hd hk hi
    obtain ⟨k, rfl⟩ : ∃ k1, k = k1 + 1 := ⟨k - 1, by omega⟩
    rw [lE_stop (by omega), w_X5_openLine_28]
    simp (disch := omega) only [↓mletE, ↓iletE, ↓jletE, ↓br_if, ↓br_ifn, ↓reduceIte, nl_lt, nl_gt, nl_le, nl_ge, nl_eq, nn_lt, nn_le, nn_eq, nl_add, nl_sub, nl_mul, nl_mulr, nn_add, nn_ix, nn_in, true_and, and_true, false_and, and_false, gI_if, gIj, gIr, gJ_if, gJi, gJr, gPr, gPi, gPj, hu_if, hv_if, Nat.reduceEqDiff, Nat.reduceLT, Nat.reduceLeDiff, eq_self, bIT, bIF, Nat.add_zero, Nat.add_assoc, Nat.reduceAdd, nb0, nb1, i10, i00, Bool.false_eq_true, not_true_eq_false, not_false_eq_true, reduceIte, h1, show (sz ≤ i) = True from eq_true (by omega)]
  | succ d ih =>
    intro k i hd hk hi
    obtain ⟨k, rfl⟩ : ∃ k1, k = k1 + 1 := ⟨k - 1, by omega⟩
    have Bt := fun Q => c_byteAt (n := n) (Q := Q) hsz hP h1 hT (show i < sz by omega)
    have ht := (hT i (by omega)).2
    rw [w_X5_openLine_28]
    by_cases h : T i = 10
    · rw [lE_stop (by omega)]
      simp (disch := omega) only [↓mletE, ↓iletE, ↓jletE, ↓br_if, ↓br_ifn, ↓reduceIte, nl_lt, nl_gt, nl_le, nl_ge, nl_eq, nn_lt, nn_le, nn_eq, nl_add, nl_sub, nl_mul, nl_mulr, nn_add, nn_ix, nn_in, true_and, and_true, false_and, and_false, gI_if, gIj, gIr, gJ_if, gJi, gJr, gPr, gPi, gPj, hu_if, hv_if, Nat.reduceEqDiff, Nat.reduceLT, Nat.reduceLeDiff, eq_self, bIT, bIF, Nat.add_zero, Nat.add_assoc, Nat.reduceAdd, nb0, nb1, i10, i00, Bool.false_eq_true, not_true_eq_false, not_false_eq_true, reduceIte, h1, show (sz ≤ i) = False from eq_false (by omega), ↓Bt, eq_true h]
    · rw [lE_step (by omega) h]
      have := ih k (i + 1) (by omega) (by omega) (by omega)
      simp (disch := omega) only [↓mletE, ↓iletE, ↓jletE, ↓br_if, ↓br_ifn, ↓reduceIte, nl_lt, nl_gt, nl_le, nl_ge, nl_eq, nn_lt, nn_le, nn_eq, nl_add, nl_sub, nl_mul, nl_mulr, nn_add, nn_ix, nn_in, true_and, and_true, false_and, and_false, gI_if, gIj, gIr, gJ_if, gJi, gJr, gPr, gPi, gPj, hu_if, hv_if, Nat.reduceEqDiff, Nat.reduceLT, Nat.reduceLeDiff, eq_self, bIT, bIF, Nat.add_zero, Nat.add_assoc, Nat.reduceAdd, nb0, nb1, i10, i00, Bool.false_eq_true, not_true_eq_false, not_false_eq_true, reduceIte, h1, show (sz ≤ i) = False from eq_false (by omega), ↓Bt, eq_false h, this]
theorem c_81 {u : Mm} {Q : Int32 → Mm → Prop} {e : Nat} {x2 : Int32} (hsz : sz ≤ 1300) (he : e ≤ sz) (hP : u.2.2 1 = B) (h1 : u.1 33 1 = nI sz) (hT : ∀ i, i < sz → u.1 B i = sbv (T i) ∧ T i < 256) : ∀ (d k i : Nat), e - i = d → d < k → i ≤ e → w_X5_openLine_81 n Q k (nI e) x2 (nI i) u = w_X5_openLine_102 n Q n x2 (nI (lE T 37 e i)) u := by
  intro d
  induction d with
  | zero =>
    intro k i hd hk hi
    obtain ⟨k, rfl⟩ : ∃ k1, k = k1 + 1 := ⟨k - 1, by omega⟩
    rw [lE_stop (by omega), w_X5_openLine_81]
    simp (disch := omega) only [↓mletE, ↓iletE, ↓jletE, ↓br_if, ↓br_ifn, ↓reduceIte, nl_lt, nl_gt, nl_le, nl_ge, nl_eq, nn_lt, nn_le, nn_eq, nl_add, nl_sub, nl_mul, nl_mulr, nn_add, nn_ix, nn_in, true_and, and_true, false_and, and_false, gI_if, gIj, gIr, gJ_if, gJi, gJr, gPr, gPi, gPj, hu_if, hv_if, Nat.reduceEqDiff, Nat.reduceLT, Nat.reduceLeDiff, eq_self, bIT, bIF, Nat.add_zero, Nat.add_assoc, Nat.reduceAdd, nb0, nb1, i10, i00, Bool.false_eq_true, not_true_eq_false, not_false_eq_true, reduceIte, show (e ≤ i) = True from eq_true (by omega)]
  | succ d ih =>
    intro k i hd hk hi
    obtain ⟨k, rfl⟩ : ∃ k1, k = k1 + 1 := ⟨k - 1, by omega⟩
    have Bt := fun Q => c_byteAt (n := n) (Q := Q) hsz hP h1 hT (show i < sz by omega)
    have ht := (hT i (by omega)).2
    rw [w_X5_openLine_81]
    by_cases h : T i = 37
    · rw [lE_stop (by omega)]
      simp (disch := omega) only [↓mletE, ↓iletE, ↓jletE, ↓br_if, ↓br_ifn, ↓reduceIte, nl_lt, nl_gt, nl_le, nl_ge, nl_eq, nn_lt, nn_le, nn_eq, nl_add, nl_sub, nl_mul, nl_mulr, nn_add, nn_ix, nn_in, true_and, and_true, false_and, and_false, gI_if, gIj, gIr, gJ_if, gJi, gJr, gPr, gPi, gPj, hu_if, hv_if, Nat.reduceEqDiff, Nat.reduceLT, Nat.reduceLeDiff, eq_self, bIT, bIF, Nat.add_zero, Nat.add_assoc, Nat.reduceAdd, nb0, nb1, i10, i00, Bool.false_eq_true, not_true_eq_false, not_false_eq_true, reduceIte, show (e ≤ i) = False from eq_false (by omega), ↓Bt, eq_true h]
    · rw [lE_step (by omega) h]
      have := ih k (i + 1) (by omega) (by omega) (by omega)
      simp (disch := omega) only [↓mletE, ↓iletE, ↓jletE, ↓br_if, ↓br_ifn, ↓reduceIte, nl_lt, nl_gt, nl_le, nl_ge, nl_eq, nn_lt, nn_le, nn_eq, nl_add, nl_sub, nl_mul, nl_mulr, nn_add, nn_ix, nn_in, true_and, and_true, false_and, and_false, gI_if, gIj, gIr, gJ_if, gJi, gJr, gPr, gPi, gPj, hu_if, hv_if, Nat.reduceEqDiff, Nat.reduceLT, Nat.reduceLeDiff, eq_self, bIT, bIF, Nat.add_zero, Nat.add_assoc, Nat.reduceAdd, nb0, nb1, i10, i00, Bool.false_eq_true, not_true_eq_false, not_false_eq_true, reduceIte, show (e ≤ i) = False from eq_false (by omega), ↓Bt, eq_false h, this]
theorem c_102 {u : Mm} {Q : Int32 → Mm → Prop} {x2 : Int32} (hsz : sz ≤ 1300) (ha : a ≤ sz) (hP : u.2.2 1 = B) (h1 : u.1 33 1 = nI sz) (h3 : u.1 33 3 = nI a) (hT : ∀ i, i < sz → u.1 B i = sbv (T i) ∧ T i < 256) : ∀ (c k : Nat), c < k → a ≤ c → c ≤ sz → w_X5_openLine_102 n Q k x2 (nI c) u = w_X5_openLine_128 n x2 (nI (bkS T a c)) u Q := by
  intro c
  induction c with
  | zero =>
    intro k hk hac hc
    obtain ⟨k, rfl⟩ : ∃ k1, k = k1 + 1 := ⟨k - 1, by omega⟩
    rw [w_X5_openLine_102]
    simp (disch := omega) only [↓mletE, ↓iletE, ↓jletE, ↓br_if, ↓br_ifn, ↓reduceIte, nl_lt, nl_gt, nl_le, nl_ge, nl_eq, nn_lt, nn_le, nn_eq, nl_add, nl_sub, nl_mul, nl_mulr, nn_add, nn_ix, nn_in, true_and, and_true, false_and, and_false, gI_if, gIj, gIr, gJ_if, gJi, gJr, gPr, gPi, gPj, hu_if, hv_if, Nat.reduceEqDiff, Nat.reduceLT, Nat.reduceLeDiff, eq_self, bIT, bIF, Nat.add_zero, Nat.add_assoc, Nat.reduceAdd, nb0, nb1, i10, i00, Bool.false_eq_true, not_true_eq_false, not_false_eq_true, reduceIte, h3, show ((0 : Nat) ≤ a) = True from eq_true (by omega), bkS]
  | succ c ih =>
    intro k hk hac hc
    obtain ⟨k, rfl⟩ : ∃ k1, k = k1 + 1 := ⟨k - 1, by omega⟩
    have Bt := fun Q => c_byteAt (n := n) (Q := Q) hsz hP h1 hT (show c < sz by omega)
    have ht := (hT c (by omega)).2
    rw [w_X5_openLine_102, bkS]
    by_cases h0 : a < c + 1
    · by_cases h : T c = 32
      · have := ih k (by omega) (by omega) (by omega)
        have em : nI (c + 1) + -1 = nI c := nI_m1 (by omega)
        rw [if_pos ⟨h0, h⟩]
        simp (disch := omega) only [↓mletE, ↓iletE, ↓jletE, ↓br_if, ↓br_ifn, ↓reduceIte, nl_lt, nl_gt, nl_le, nl_ge, nl_eq, nn_lt, nn_le, nn_eq, nl_add, nl_sub, nl_mul, nl_mulr, nn_add, nn_ix, nn_in, true_and, and_true, false_and, and_false, gI_if, gIj, gIr, gJ_if, gJi, gJr, gPr, gPi, gPj, hu_if, hv_if, Nat.reduceEqDiff, Nat.reduceLT, Nat.reduceLeDiff, eq_self, bIT, bIF, Nat.add_zero, Nat.add_assoc, Nat.reduceAdd, nb0, nb1, i10, i00, Bool.false_eq_true, not_true_eq_false, not_false_eq_true, reduceIte, h3, show (c + 1 ≤ a) = False from eq_false (by omega), Nat.add_one_sub_one, ↓Bt, eq_true h, em, this]
      · rw [if_neg (fun z => h z.2)]
        simp (disch := omega) only [↓mletE, ↓iletE, ↓jletE, ↓br_if, ↓br_ifn, ↓reduceIte, nl_lt, nl_gt, nl_le, nl_ge, nl_eq, nn_lt, nn_le, nn_eq, nl_add, nl_sub, nl_mul, nl_mulr, nn_add, nn_ix, nn_in, true_and, and_true, false_and, and_false, gI_if, gIj, gIr, gJ_if, gJi, gJr, gPr, gPi, gPj, hu_if, hv_if, Nat.reduceEqDiff, Nat.reduceLT, Nat.reduceLeDiff, eq_self, bIT, bIF, Nat.add_zero, Nat.add_assoc, Nat.reduceAdd, nb0, nb1, i10, i00, Bool.false_eq_true, not_true_eq_false, not_false_eq_true, reduceIte, h3, show (c + 1 ≤ a) = False from eq_false (by omega), Nat.add_one_sub_one, ↓Bt, eq_false h]
    · rw [if_neg (fun z => h0 z.1)]
      simp (disch := omega) only [↓mletE, ↓iletE, ↓jletE, ↓br_if, ↓br_ifn, ↓reduceIte, nl_lt, nl_gt, nl_le, nl_ge, nl_eq, nn_lt, nn_le, nn_eq, nl_add, nl_sub, nl_mul, nl_mulr, nn_add, nn_ix, nn_in, true_and, and_true, false_and, and_false, gI_if, gIj, gIr, gJ_if, gJi, gJr, gPr, gPi, gPj, hu_if, hv_if, Nat.reduceEqDiff, Nat.reduceLT, Nat.reduceLeDiff, eq_self, bIT, bIF, Nat.add_zero, Nat.add_assoc, Nat.reduceAdd, nb0, nb1, i10, i00, Bool.false_eq_true, not_true_eq_false, not_false_eq_true, reduceIte, h3, show (c + 1 ≤ a) = True from eq_true (by omega)]
theorem c_128 {u : Mm} {Q : Int32 → Mm → Prop} {c : Nat} {x2 : Int32} (hsz : sz ≤ 1300) (hx : x2 = 0 ∨ x2 = 1) (ha : a ≤ c) (hc : c ≤ sz) (hP : u.2.2 1 = B) (h1 : u.1 33 1 = nI sz) (h3 : u.1 33 3 = nI a) (hT : ∀ i, i < sz → u.1 B i = sbv (T i) ∧ T i < 256) : w_X5_openLine_128 n x2 (nI c) u Q = Q x2 (setI u 33 4 (nI (lS T a c))) := by
  have e151 : ∀ x3, w_X5_openLine_151 n x2 x3 u Q = Q x2 (setI u 33 4 x3) := fun x3 => by
    unfold w_X5_openLine_151
    rcases hx with rfl | rfl
    · simp (disch := omega) only [↓mletE, ↓iletE, ↓jletE, ↓br_if, ↓br_ifn, ↓reduceIte, nl_lt, nl_gt, nl_le, nl_ge, nl_eq, nn_lt, nn_le, nn_eq, nl_add, nl_sub, nl_mul, nl_mulr, nn_add, nn_ix, nn_in, true_and, and_true, false_and, and_false, gI_if, gIj, gIr, gJ_if, gJi, gJr, gPr, gPi, gPj, hu_if, hv_if, Nat.reduceEqDiff, Nat.reduceLT, Nat.reduceLeDiff, eq_self, bIT, bIF, Nat.add_zero, Nat.add_assoc, Nat.reduceAdd, nb0, nb1, i10, i00, Bool.false_eq_true, not_true_eq_false, not_false_eq_true, reduceIte]
    · simp (disch := omega) only [↓mletE, ↓iletE, ↓jletE, ↓br_if, ↓br_ifn, ↓reduceIte, nl_lt, nl_gt, nl_le, nl_ge, nl_eq, nn_lt, nn_le, nn_eq, nl_add, nl_sub, nl_mul, nl_mulr, nn_add, nn_ix, nn_in, true_and, and_true, false_and, and_false, gI_if, gIj, gIr, gJ_if, gJi, gJr, gPr, gPi, gPj, hu_if, hv_if, Nat.reduceEqDiff, Nat.reduceLT, Nat.reduceLeDiff, eq_self, bIT, bIF, Nat.add_zero, Nat.add_assoc, Nat.reduceAdd, nb0, nb1, i10, i00, Bool.false_eq_true, not_true_eq_false, not_false_eq_true, reduceIte]
  unfold w_X5_openLine_128 lS
  by_cases h0 : a < c
  · have Bt := fun Q => c_byteAt (n := n) (i := c - 1) (Q := Q) hsz hP h1 hT (by omega)
    have ht := (hT (c - 1) (by omega)).2
    have em : nI c + -1 = nI (c - 1) := nI_m1 (by omega)
    by_cases h : T (c - 1) = 92
    · rw [if_pos ⟨h0, h⟩]
      simp (disch := omega) only [↓mletE, ↓iletE, ↓jletE, ↓br_if, ↓br_ifn, ↓reduceIte, nl_lt, nl_gt, nl_le, nl_ge, nl_eq, nn_lt, nn_le, nn_eq, nl_add, nl_sub, nl_mul, nl_mulr, nn_add, nn_ix, nn_in, true_and, and_true, false_and, and_false, gI_if, gIj, gIr, gJ_if, gJi, gJr, gPr, gPi, gPj, hu_if, hv_if, Nat.reduceEqDiff, Nat.reduceLT, Nat.reduceLeDiff, eq_self, bIT, bIF, Nat.add_zero, Nat.add_assoc, Nat.reduceAdd, nb0, nb1, i10, i00, Bool.false_eq_true, not_true_eq_false, not_false_eq_true, reduceIte, h3, show (c ≤ a) = False from eq_false (by omega), ↓Bt, eq_true h, em, e151]
    · rw [if_neg (fun z => h z.2)]
      simp (disch := omega) only [↓mletE, ↓iletE, ↓jletE, ↓br_if, ↓br_ifn, ↓reduceIte, nl_lt, nl_gt, nl_le, nl_ge, nl_eq, nn_lt, nn_le, nn_eq, nl_add, nl_sub, nl_mul, nl_mulr, nn_add, nn_ix, nn_in, true_and, and_true, false_and, and_false, gI_if, gIj, gIr, gJ_if, gJi, gJr, gPr, gPi, gPj, hu_if, hv_if, Nat.reduceEqDiff, Nat.reduceLT, Nat.reduceLeDiff, eq_self, bIT, bIF, Nat.add_zero, Nat.add_assoc, Nat.reduceAdd, nb0, nb1, i10, i00, Bool.false_eq_true, not_true_eq_false, not_false_eq_true, reduceIte, h3, show (c ≤ a) = False from eq_false (by omega), ↓Bt, eq_false h, em, e151]
  · rw [if_neg (fun z => h0 z.1)]
    simp (disch := omega) only [↓mletE, ↓iletE, ↓jletE, ↓br_if, ↓br_ifn, ↓reduceIte, nl_lt, nl_gt, nl_le, nl_ge, nl_eq, nn_lt, nn_le, nn_eq, nl_add, nl_sub, nl_mul, nl_mulr, nn_add, nn_ix, nn_in, true_and, and_true, false_and, and_false, gI_if, gIj, gIr, gJ_if, gJi, gJr, gPr, gPi, gPj, hu_if, hv_if, Nat.reduceEqDiff, Nat.reduceLT, Nat.reduceLeDiff, eq_self, bIT, bIF, Nat.add_zero, Nat.add_assoc, Nat.reduceAdd, nb0, nb1, i10, i00, Bool.false_eq_true, not_true_eq_false, not_false_eq_true, reduceIte, h3, show (c ≤ a) = True from eq_true (by omega), e151]
/-- the class opens a line -/
theorem c_open {u : Mm} {Q : Int32 → Mm → Prop} {a0 : Nat} (hn : 5000 ≤ n) (hB : 41 ≤ B) (hsz : sz ≤ 1300) (hP : u.2.2 1 = B) (h1 : u.1 33 1 = nI sz) (h5 : u.1 33 5 = nI a0) (ha0 : a0 ≤ sz + 1) (ha : a = if a0 ≤ sz then a0 else sz) (hT : ∀ i, i < sz → u.1 B i = sbv (T i) ∧ T i < 256) : w_X5_openLine n u Q = Q (nI (if a < sz then 1 else 0)) (setI (setI (setI (setI u 33 3 (nI a)) 33 2 (nI a)) 33 5 (nI (lineE T sz a + 1))) 33 4 (nI (lineS T sz a))) := by
  have hle : a ≤ sz := by rw [ha]; split <;> omega
  have ea : (if nI sz < nI a0 then nI sz else nI a0) = nI a := by
    rw [ha]
    by_cases h : a0 ≤ sz
    · rw [if_pos h, if_neg (by rw [nn_lt (by omega)]; omega)]
    · rw [if_neg h, if_pos (by rw [nn_lt (by omega)]; omega)]
  have bd := line_bd (T := T) hle
  obtain ⟨e1, e2, e3, e4⟩ := lE_bd (T := T) (k := 10) (sz := sz) _ a rfl hle
  obtain ⟨c1, c2, c3, c4⟩ := lE_bd (T := T) (k := 37) (sz := lE T 10 sz a) _ a rfl e1
  obtain ⟨b1, b2⟩ := bkS_bd (T := T) (a := a) _ c1
  unfold w_X5_openLine
  rw [h1, h5, ea, mletE, gIs, hu_s, mletE, iletE]
  have g3 : (setI (setI u 33 3 (nI a)) 33 2 (nI a)).1 33 3 = nI a := by simp (disch := omega) only [gIs, gIn, gIj, gIr, gJs, gJn, gJi, gJr, gPr, gPi, gPj, hu_s, hu_n, hv_s, hv_n]
  have g1 : (setI (setI u 33 3 (nI a)) 33 2 (nI a)).1 33 1 = nI sz := by simp (disch := omega) only [gIs, gIn, gIj, gIr, gJs, gJn, gJi, gJr, gPr, gPi, gPj, hu_s, hu_n, hv_s, hv_n]; exact h1
  have gP : (setI (setI u 33 3 (nI a)) 33 2 (nI a)).2.2 1 = B := hP
  have gT : ∀ i, i < sz → (setI (setI u 33 3 (nI a)) 33 2 (nI a)).1 B i = sbv (T i) ∧ T i < 256 := fun i hi => by simp (disch := omega) only [gIs, gIn, gIj, gIr, gJs, gJn, gJi, gJr, gPr, gPi, gPj, hu_s, hu_n, hv_s, hv_n]; exact hT i hi
  rw [g3, c_28 hsz gP g1 gT _ n a rfl (by omega) hle]
  unfold w_X5_openLine_52
  rw [g1, g3]
  have key : ∀ x2 : Int32, (x2 = 0 ∨ x2 = 1) → w_X5_openLine_68 n (nI (lE T 10 sz a)) x2 (setI (setI u 33 3 (nI a)) 33 2 (nI a)) Q = Q x2 (setI (setI (setI (setI u 33 3 (nI a)) 33 2 (nI a)) 33 5 (nI (lineE T sz a + 1))) 33 4 (nI (lineS T sz a))) := fun x2 hx => by
    unfold w_X5_openLine_68
    rw [nl_add, mletE, iletE]
    have k3 : (setI (setI (setI u 33 3 (nI a)) 33 2 (nI a)) 33 5 (nI (lE T 10 sz a + 1))).1 33 3 = nI a := by simp (disch := omega) only [gIs, gIn, gIj, gIr, gJs, gJn, gJi, gJr, gPr, gPi, gPj, hu_s, hu_n, hv_s, hv_n]
    have k1 : (setI (setI (setI u 33 3 (nI a)) 33 2 (nI a)) 33 5 (nI (lE T 10 sz a + 1))).1 33 1 = nI sz := by simp (disch := omega) only [gIs, gIn, gIj, gIr, gJs, gJn, gJi, gJr, gPr, gPi, gPj, hu_s, hu_n, hv_s, hv_n]; exact h1
    have kP : (setI (setI (setI u 33 3 (nI a)) 33 2 (nI a)) 33 5 (nI (lE T 10 sz a + 1))).2.2 1 = B := hP
    have kT : ∀ i, i < sz → (setI (setI (setI u 33 3 (nI a)) 33 2 (nI a)) 33 5 (nI (lE T 10 sz a + 1))).1 B i = sbv (T i) ∧ T i < 256 := fun i hi => by simp (disch := omega) only [gIs, gIn, gIj, gIr, gJs, gJn, gJi, gJr, gPr, gPi, gPj, hu_s, hu_n, hv_s, hv_n]; exact hT i hi
    rw [k3, c_81 hsz e2 kP k1 kT _ n a rfl (by omega) e1, c_102 hsz hle kP k1 k3 kT _ n (by omega) c1 (by omega), c_128 hsz hx b1 (by omega) kP k1 k3 kT]
    rfl
  by_cases h : a < sz
  · rw [br_if, if_neg (by rw [nn_le (by omega)]; omega), key 1 (Or.inr rfl), if_pos h]
    rfl
  · rw [br_if, if_pos (by rw [nn_le (by omega)]; omega), key 0 (Or.inl rfl), if_neg h]
    rfl
end CL
