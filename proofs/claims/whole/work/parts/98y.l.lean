/-! the bytes of a text -/
abbrev badB (T : Nat → Nat) (i : Nat) : Prop := ps T i = false ∧ T i ≠ 10 ∧ T i ≠ 37 ∧ (T i < 32 ∨ 126 < T i)
theorem bad_first (T : Nat → Nat) : ∀ sz, ∃ b, b ≤ sz ∧ (∀ j, j < b → ¬ badB T j) ∧ (b = sz ∨ badB T b) := by
  intro sz
  induction sz with
  | zero => exact ⟨0, Nat.le_refl _, fun j h => absurd h (by omega), Or.inl rfl⟩
  | succ sz ih =>
    obtain ⟨b, b1, b2, b3⟩ := ih
    by_cases h : badB T b
    · exact ⟨b, by omega, b2, Or.inr h⟩
    · have : b = sz := by rcases b3 with h1 | h1; exact h1; exact absurd h1 h
      subst this
      refine ⟨b + 1, Nat.le_refl _, fun j hj => ?_, Or.inl rfl⟩
      by_cases hj' : j = b
      · subst hj'; exact h
      · exact b2 j (by omega)
theorem bad_cln {T : Nat → Nat} {sz : Nat} (h : ∀ j, j < sz → ¬ badB T j) : cln T sz := by
  intro i hi hp
  have := h i hi
  by_cases h1 : T i = 10
  · exact Or.inl h1
  by_cases h2 : T i = 37
  · exact Or.inr (Or.inl h2)
  refine Or.inr (Or.inr ?_)
  by_cases h3 : T i < 32 ∨ 126 < T i
  · exact absurd ⟨hp, h1, h2, h3⟩ this
  · omega
theorem c_chk {n : Nat} {T : Nat → Nat} {sz B b : Nat} {u : Mm} {Q : Mm → Prop} (hsz : sz ≤ 1300) (hP : u.2.2 1 = B) (h1 : u.1 33 1 = nI sz) (h6 : u.1 33 6 = 0) (hT : ∀ i, i < sz → u.1 B i = sbv (T i) ∧ T i < 256) (hb : b ≤ sz) (hb2 : ∀ j, j < b → ¬ badB T j) (hb3 : b = sz ∨ badB T b) : ∀ (d k i : Nat), b - i = d → d < k → i ≤ b → w_X5_checkBytes_23 n Q k (nI (if ps T i = true then 1 else 0)) (nI i) u = if b = sz then Q u else Q (setI (setI u 33 6 1) 33 7 (nI b)) := by
  intro d
  induction d with
  | zero =>
    intro k i hd hk hi
    obtain ⟨k, rfl⟩ : ∃ k1, k = k1 + 1 := ⟨k - 1, by omega⟩
    obtain rfl : i = b := by omega
    rw [w_X5_checkBytes_23]
    by_cases hs : i = sz
    · rw [if_pos hs]
      simp (disch := omega) only [↓mletE, ↓iletE, ↓jletE, ↓br_if, ↓br_ifn, ↓reduceIte, nl_lt, nl_gt, nl_le, nl_ge, nl_eq, nn_lt, nn_le, nn_eq, nl_add, nl_sub, nl_mul, nl_mulr, nn_add, nn_ix, nn_in, true_and, and_true, false_and, and_false, gI_if, gIj, gIr, gJ_if, gJi, gJr, gPr, gPi, gPj, hu_if, hv_if, Nat.reduceEqDiff, Nat.reduceLT, Nat.reduceLeDiff, eq_self, bIT, bIF, Nat.add_zero, Nat.add_assoc, Nat.reduceAdd, nb0, nb1, i10, i00, Bool.false_eq_true, not_true_eq_false, not_false_eq_true, reduceIte, h1, show (sz ≤ i) = True from eq_true (by omega)]
    · rw [if_neg hs]
      have bd : badB T i := by rcases hb3 with h | h; exact absurd h hs; exact h
      obtain ⟨p1, p2, p3, p4⟩ := bd
      have Bt := fun Q => c_byteAt (n := n) (Q := Q) hsz hP h1 hT (show i < sz by omega)
      have ht := (hT i (by omega)).2
      rw [p1, if_neg (by decide)]
      by_cases h32 : T i < 32
      · simp (disch := omega) only [↓mletE, ↓iletE, ↓jletE, ↓br_if, ↓br_ifn, ↓reduceIte, nl_lt, nl_gt, nl_le, nl_ge, nl_eq, nn_lt, nn_le, nn_eq, nl_add, nl_sub, nl_mul, nl_mulr, nn_add, nn_ix, nn_in, true_and, and_true, false_and, and_false, gI_if, gIj, gIr, gJ_if, gJi, gJr, gPr, gPi, gPj, hu_if, hv_if, Nat.reduceEqDiff, Nat.reduceLT, Nat.reduceLeDiff, eq_self, bIT, bIF, Nat.add_zero, Nat.add_assoc, Nat.reduceAdd, nb0, nb1, i10, i00, Bool.false_eq_true, not_true_eq_false, not_false_eq_true, reduceIte, h1, show (sz ≤ i) = False from eq_false (by omega), ↓Bt, eq_false p2, eq_false p3, eq_true h32, w_X5_checkBytes_75, ↓c_fail, h6, cfl_0]
      · simp (disch := omega) only [↓mletE, ↓iletE, ↓jletE, ↓br_if, ↓br_ifn, ↓reduceIte, nl_lt, nl_gt, nl_le, nl_ge, nl_eq, nn_lt, nn_le, nn_eq, nl_add, nl_sub, nl_mul, nl_mulr, nn_add, nn_ix, nn_in, true_and, and_true, false_and, and_false, gI_if, gIj, gIr, gJ_if, gJi, gJr, gPr, gPi, gPj, hu_if, hv_if, Nat.reduceEqDiff, Nat.reduceLT, Nat.reduceLeDiff, eq_self, bIT, bIF, Nat.add_zero, Nat.add_assoc, Nat.reduceAdd, nb0, nb1, i10, i00, Bool.false_eq_true, not_true_eq_false, not_false_eq_true, reduceIte, h1, show (sz ≤ i) = False from eq_false (by omega), ↓Bt, eq_false p2, eq_false p3, eq_false h32, show (T i ≤ 126) = False from eq_false (by omega), w_X5_checkBytes_75, ↓c_fail, h6, cfl_0]
  | succ d ih =>
    intro k i hd hk hi
    obtain ⟨k, rfl⟩ : ∃ k1, k = k1 + 1 := ⟨k - 1, by omega⟩
    have Bt := fun Q => c_byteAt (n := n) (Q := Q) hsz hP h1 hT (show i < sz by omega)
    have ht := (hT i (by omega)).2
    have nb := hb2 i (by omega)
    have IH := ih k (i + 1) (by omega) (by omega) (by omega)
    rw [← IH, w_X5_checkBytes_23]
    rw [show ps T (i + 1) = (if T i = 10 then false else if T i = 37 then true else ps T i) from rfl]
    by_cases t10 : T i = 10
    · rw [if_pos t10, if_neg (show ¬ (false = true) by decide)]
      simp (disch := omega) only [↓mletE, ↓iletE, ↓jletE, ↓br_if, ↓br_ifn, ↓reduceIte, nl_lt, nl_gt, nl_le, nl_ge, nl_eq, nn_lt, nn_le, nn_eq, nl_add, nl_sub, nl_mul, nl_mulr, nn_add, nn_ix, nn_in, true_and, and_true, false_and, and_false, gI_if, gIj, gIr, gJ_if, gJi, gJr, gPr, gPi, gPj, hu_if, hv_if, Nat.reduceEqDiff, Nat.reduceLT, Nat.reduceLeDiff, eq_self, bIT, bIF, Nat.add_zero, Nat.add_assoc, Nat.reduceAdd, nb0, nb1, i10, i00, Bool.false_eq_true, not_true_eq_false, not_false_eq_true, reduceIte, h1, show (sz ≤ i) = False from eq_false (by omega), ↓Bt, eq_true t10, w_X5_checkBytes_82, nI0]
    rw [if_neg t10]
    by_cases t37 : T i = 37
    · rw [if_pos t37, if_pos rfl]
      simp (disch := omega) only [↓mletE, ↓iletE, ↓jletE, ↓br_if, ↓br_ifn, ↓reduceIte, nl_lt, nl_gt, nl_le, nl_ge, nl_eq, nn_lt, nn_le, nn_eq, nl_add, nl_sub, nl_mul, nl_mulr, nn_add, nn_ix, nn_in, true_and, and_true, false_and, and_false, gI_if, gIj, gIr, gJ_if, gJi, gJr, gPr, gPi, gPj, hu_if, hv_if, Nat.reduceEqDiff, Nat.reduceLT, Nat.reduceLeDiff, eq_self, bIT, bIF, Nat.add_zero, Nat.add_assoc, Nat.reduceAdd, nb0, nb1, i10, i00, Bool.false_eq_true, not_true_eq_false, not_false_eq_true, reduceIte, h1, show (sz ≤ i) = False from eq_false (by omega), ↓Bt, eq_false t10, eq_true t37, w_X5_checkBytes_82, nI1]
    rw [if_neg t37]
    by_cases hp : ps T i = true
    · rw [if_pos hp]
      simp (disch := omega) only [↓mletE, ↓iletE, ↓jletE, ↓br_if, ↓br_ifn, ↓reduceIte, nl_lt, nl_gt, nl_le, nl_ge, nl_eq, nn_lt, nn_le, nn_eq, nl_add, nl_sub, nl_mul, nl_mulr, nn_add, nn_ix, nn_in, true_and, and_true, false_and, and_false, gI_if, gIj, gIr, gJ_if, gJi, gJr, gPr, gPi, gPj, hu_if, hv_if, Nat.reduceEqDiff, Nat.reduceLT, Nat.reduceLeDiff, eq_self, bIT, bIF, Nat.add_zero, Nat.add_assoc, Nat.reduceAdd, nb0, nb1, i10, i00, Bool.false_eq_true, not_true_eq_false, not_false_eq_true, reduceIte, h1, show (sz ≤ i) = False from eq_false (by omega), ↓Bt, eq_false t10, eq_false t37, w_X5_checkBytes_82]
    · have hp' : ps T i = false := by cases h : ps T i <;> simp_all
      have hr : 32 ≤ T i ∧ T i ≤ 126 := by
        by_cases h3 : T i < 32 ∨ 126 < T i
        · exact absurd ⟨hp', t10, t37, h3⟩ nb
        · omega
      rw [if_neg hp]
      simp (disch := omega) only [↓mletE, ↓iletE, ↓jletE, ↓br_if, ↓br_ifn, ↓reduceIte, nl_lt, nl_gt, nl_le, nl_ge, nl_eq, nn_lt, nn_le, nn_eq, nl_add, nl_sub, nl_mul, nl_mulr, nn_add, nn_ix, nn_in, true_and, and_true, false_and, and_false, gI_if, gIj, gIr, gJ_if, gJi, gJr, gPr, gPi, gPj, hu_if, hv_if, Nat.reduceEqDiff, Nat.reduceLT, Nat.reduceLeDiff, eq_self, bIT, bIF, Nat.add_zero, Nat.add_assoc, Nat.reduceAdd, nb0, nb1, i10, i00, Bool.false_eq_true, not_true_eq_false, not_false_eq_true, reduceIte, h1, show (sz ≤ i) = False from eq_false (by omega), ↓Bt, eq_false t10, eq_false t37, show (T i < 32) = False from eq_false (by omega), show (T i ≤ 126) = True from eq_true hr.2, w_X5_checkBytes_82]
theorem bkS_sp {T : Nat → Nat} {a : Nat} : ∀ c, ∀ j, bkS T a c ≤ j → j < c → T j = 32 := by
  intro c
  induction c with
  | zero => intro j _ h; omega
  | succ c ih =>
    intro j h1 h2
    unfold bkS at h1
    by_cases h : a < c + 1 ∧ T c = 32
    · rw [if_pos h] at h1
      by_cases hj : j = c
      · subst hj; exact h.2
      · exact ih j h1 (by omega)
    · rw [if_neg h] at h1; omega
/-- behind a line's stop nothing is bad -/
theorem line_nb {T : Nat → Nat} {sz a : Nat} (ha : a ≤ sz) : ∀ j, lineS T sz a ≤ j → j ≤ lineE T sz a → j < sz → ¬ badB T j := by
  obtain ⟨e1, e2, e3, e4⟩ := lE_bd (T := T) (k := 10) (sz := sz) _ a rfl ha
  obtain ⟨c1, c2, c3, c4⟩ := lE_bd (T := T) (k := 37) (sz := lE T 10 sz a) _ a rfl e1
  obtain ⟨b1, b2⟩ := bkS_bd (T := T) (a := a) _ c1
  have sp := bkS_sp (T := T) (a := a) (lE T 37 (lE T 10 sz a) a)
  intro j h1 h2 h3 hb
  obtain ⟨p1, p2, p3, p4⟩ := hb
  unfold lineS at h1
  unfold lineE at h2
  by_cases hj : j < lE T 37 (lE T 10 sz a) a
  · by_cases hk : bkS T a (lE T 37 (lE T 10 sz a) a) ≤ j
    · have := sp j hk hj
      omega
    · unfold lS at h1
      by_cases hh : a < bkS T a (lE T 37 (lE T 10 sz a) a) ∧ T (bkS T a (lE T 37 (lE T 10 sz a) a) - 1) = 92
      · rw [if_pos hh] at h1
        have : j = bkS T a (lE T 37 (lE T 10 sz a) a) - 1 := by omega
        rw [← this] at hh
        omega
      · rw [if_neg hh] at h1; omega
  · by_cases he : j = lE T 10 sz a
    · exact p2 (by rw [he]; exact e4 (by omega))
    · by_cases hc : j = lE T 37 (lE T 10 sz a) a
      · exact p3 (by rw [hc]; exact c4 (by omega))
      · have t37 := c4 (by omega)
        have n10 : T (lE T 37 (lE T 10 sz a) a) ≠ 10 := by omega
        have pt : ∀ d, lE T 37 (lE T 10 sz a) a + 1 + d ≤ lE T 10 sz a → ps T (lE T 37 (lE T 10 sz a) a + 1 + d) = true := by
          intro d
          induction d with
          | zero => intro _; rw [Nat.add_zero, ps, if_neg n10, if_pos t37]
          | succ d ih =>
            intro hd
            rw [show lE T 37 (lE T 10 sz a) a + 1 + (d + 1) = (lE T 37 (lE T 10 sz a) a + 1 + d) + 1 from rfl, ps, ih (by omega), if_neg (e3 _ (by omega) (by omega))]
            split <;> rfl
        have := pt (j - (lE T 37 (lE T 10 sz a) a + 1)) (by omega)
        rw [show lE T 37 (lE T 10 sz a) a + 1 + (j - (lE T 37 (lE T 10 sz a) a + 1)) = j from by omega, p1] at this
        exact absurd this (by decide)
theorem inM_sb : ∀ x, x < 256 → inM (sbv x) 32 126 = bI (32 ≤ x ∧ x ≤ 126) := by decide +kernel
theorem r_43 {n : Nat} {T : Nat → Nat} {sz s e : Nat} {L : Mm → Prop} {v : Mm} {Q T' : Mm → Prop} (hsz : sz ≤ 1300) (hs : s ≤ sz) (h9 : v.1 0 9 = nI s) (h8 : v.1 0 8 = nI e) (hT : ∀ i, i < sz → v.1 3 i = sbv (T i) ∧ T i < 256) : ∀ (d k i : Nat), s - i = d → d < k → i ≤ s → (∀ j, i ≤ j → j < s → 32 ≤ T j ∧ T j ≤ 126) → w_X12_lookAtBytes_43 n L Q T' k (nI i) v = L (setI v 0 7 (nI (e + 1))) := by
  have e1 : ∀ x : Int32, bI ((32 : Int64) ≤ x.toInt64 ∧ x.toInt64 ≤ (126 : Int64)) = inM x 32 126 := fun x => rfl
  intro d
  induction d with
  | zero =>
    intro k i hd hk hi hr
    obtain ⟨k, rfl⟩ : ∃ k1, k = k1 + 1 := ⟨k - 1, by omega⟩
    rw [w_X12_lookAtBytes_43]
    simp (disch := omega) only [↓mletE, ↓iletE, ↓jletE, ↓br_if, ↓br_ifn, ↓reduceIte, nl_lt, nl_gt, nl_le, nl_ge, nl_eq, nn_lt, nn_le, nn_eq, nl_add, nl_sub, nl_mul, nl_mulr, nn_add, nn_ix, nn_in, true_and, and_true, false_and, and_false, gI_if, gIj, gIr, gJ_if, gJi, gJr, gPr, gPi, gPj, hu_if, hv_if, Nat.reduceEqDiff, Nat.reduceLT, Nat.reduceLeDiff, eq_self, bIT, bIF, Nat.add_zero, Nat.add_assoc, Nat.reduceAdd, nb0, nb1, i10, i00, Bool.false_eq_true, not_true_eq_false, not_false_eq_true, reduceIte, h9, h8, show (s ≤ i) = True from eq_true (by omega)]
  | succ d ih =>
    intro k i hd hk hi hr
    obtain ⟨k, rfl⟩ : ∃ k1, k = k1 + 1 := ⟨k - 1, by omega⟩
    obtain ⟨t1, t2⟩ := hT i (by omega)
    have sb := (inM_sb _ t2).trans (bI_t (hr i (Nat.le_refl _) (by omega)))
    rw [w_X12_lookAtBytes_43]
    have := ih k (i + 1) (by omega) (by omega) (by omega) (fun j g1 g2 => hr j (by omega) g2)
    simp (disch := omega) only [↓mletE, ↓iletE, ↓jletE, ↓br_if, ↓br_ifn, ↓reduceIte, nl_lt, nl_gt, nl_le, nl_ge, nl_eq, nn_lt, nn_le, nn_eq, nl_add, nl_sub, nl_mul, nl_mulr, nn_add, nn_ix, nn_in, true_and, and_true, false_and, and_false, gI_if, gIj, gIr, gJ_if, gJi, gJr, gPr, gPi, gPj, hu_if, hv_if, Nat.reduceEqDiff, Nat.reduceLT, Nat.reduceLeDiff, eq_self, bIT, bIF, Nat.add_zero, Nat.add_assoc, Nat.reduceAdd, nb0, nb1, i10, i00, Bool.false_eq_true, not_true_eq_false, not_false_eq_true, reduceIte, h9, h8, show (s ≤ i) = False from eq_false (by omega), t1, ↓r_in, e1, sb, w_X12_lookAtBytes_76, this]
theorem r_43f {n : Nat} {T : Nat → Nat} {sz s b : Nat} {L : Mm → Prop} {v : Mm} {Q T' : Mm → Prop} (hsz : sz ≤ 1300) (hs : s ≤ sz) (h9 : v.1 0 9 = nI s) (hT : ∀ i, i < sz → v.1 3 i = sbv (T i) ∧ T i < 256) (hb : b < s) (hb2 : ¬ (32 ≤ T b ∧ T b ≤ 126)) : ∀ (d k i : Nat), b - i = d → d < k → i ≤ b → (∀ j, i ≤ j → j < b → 32 ≤ T j ∧ T j ≤ 126) → w_X12_lookAtBytes_43 n L Q T' k (nI i) v = T' (setI (setI v 1 6 1) 1 7 (nI b)) := by
  have e1 : ∀ x : Int32, bI ((32 : Int64) ≤ x.toInt64 ∧ x.toInt64 ≤ (126 : Int64)) = inM x 32 126 := fun x => rfl
  intro d
  induction d with
  | zero =>
    intro k i hd hk hi hr
    obtain ⟨k, rfl⟩ : ∃ k1, k = k1 + 1 := ⟨k - 1, by omega⟩
    obtain rfl : i = b := by omega
    obtain ⟨t1, t2⟩ := hT i (by omega)
    have sb := (inM_sb _ t2).trans (bI_f hb2)
    rw [w_X12_lookAtBytes_43]
    simp (disch := omega) only [↓mletE, ↓iletE, ↓jletE, ↓br_if, ↓br_ifn, ↓reduceIte, nl_lt, nl_gt, nl_le, nl_ge, nl_eq, nn_lt, nn_le, nn_eq, nl_add, nl_sub, nl_mul, nl_mulr, nn_add, nn_ix, nn_in, true_and, and_true, false_and, and_false, gI_if, gIj, gIr, gJ_if, gJi, gJr, gPr, gPi, gPj, hu_if, hv_if, Nat.reduceEqDiff, Nat.reduceLT, Nat.reduceLeDiff, eq_self, bIT, bIF, Nat.add_zero, Nat.add_assoc, Nat.reduceAdd, nb0, nb1, i10, i00, Bool.false_eq_true, not_true_eq_false, not_false_eq_true, reduceIte, h9, show (s ≤ i) = False from eq_false (by omega), t1, ↓r_in, e1, sb, ↓r_fail]
  | succ d ih =>
    intro k i hd hk hi hr
    obtain ⟨k, rfl⟩ : ∃ k1, k = k1 + 1 := ⟨k - 1, by omega⟩
    obtain ⟨t1, t2⟩ := hT i (by omega)
    have sb := (inM_sb _ t2).trans (bI_t (hr i (Nat.le_refl _) (by omega)))
    rw [w_X12_lookAtBytes_43]
    have := ih k (i + 1) (by omega) (by omega) (by omega) (fun j g1 g2 => hr j (by omega) g2)
    simp (disch := omega) only [↓mletE, ↓iletE, ↓jletE, ↓br_if, ↓br_ifn, ↓reduceIte, nl_lt, nl_gt, nl_le, nl_ge, nl_eq, nn_lt, nn_le, nn_eq, nl_add, nl_sub, nl_mul, nl_mulr, nn_add, nn_ix, nn_in, true_and, and_true, false_and, and_false, gI_if, gIj, gIr, gJ_if, gJi, gJr, gPr, gPi, gPj, hu_if, hv_if, Nat.reduceEqDiff, Nat.reduceLT, Nat.reduceLeDiff, eq_self, bIT, bIF, Nat.add_zero, Nat.add_assoc, Nat.reduceAdd, nb0, nb1, i10, i00, Bool.false_eq_true, not_true_eq_false, not_false_eq_true, reduceIte, h9, show (s ≤ i) = False from eq_false (by omega), t1, ↓r_in, e1, sb, w_X12_lookAtBytes_76, this]
/-- a memory with other line bounds -/
def smL (v v' : Mm) : Prop := (∀ q, q ≠ 0 → v'.1 q = v.1 q) ∧ (∀ k, k ≠ 7 → k ≠ 8 → k ≠ 9 → v'.1 0 k = v.1 0 k) ∧ v'.2 = v.2
theorem smL.set {v v' : Mm} {k : Nat} {x : Int32} (h : smL v v') (hk : k = 7 ∨ k = 8 ∨ k = 9) : smL v (setI v' 0 k x) :=
  ⟨fun q hq => (gIn hq).trans (h.1 q hq), fun j h1 h2 h3 => by rw [gIs, hu_n (by omega)]; exact h.2.1 j h1 h2 h3, h.2.2⟩
theorem r_23 {n : Nat} {T : Nat → Nat} {sz b : Nat} {v0 : Mm} (hn : 5000 ≤ n) (hsz : sz ≤ 1300) (h6 : v0.1 0 6 = nI sz) (hT : ∀ i, i < sz → v0.1 3 i = sbv (T i) ∧ T i < 256) (hb : b ≤ sz) (hb2 : ∀ j, j < b → ¬ badB T j) (hb3 : b = sz ∨ badB T b) : ∀ (d k a : Nat) (v : Mm), sz + 1 - a = d → d < k → a ≤ sz + 1 → smL v0 v → v.1 0 7 = nI a → (a ≤ sz → ps T a = false ∧ a ≤ b) → (b < sz → a ≤ b) → (b = sz → ∃ v', smL v0 v' ∧ v'.1 0 7 = 0 ∧ ∀ Q T', w_X12_lookAtBytes_23 n Q T' k v = Q v') ∧ (b < sz → ∃ v', smL v0 v' ∧ ∀ Q T', w_X12_lookAtBytes_23 n Q T' k v = T' (setI (setI v' 1 6 1) 1 7 (nI b))) := by
  intro d
  induction d using Nat.strongRecOn with
  | ind d ih =>
  intro k a v hd hk ha hv h7 hps hba
  obtain ⟨k, rfl⟩ : ∃ k1, k = k1 + 1 := ⟨k - 1, by omega⟩
  have k6 : v.1 0 6 = nI sz := (hv.2.1 6 (by omega) (by omega) (by omega)).trans h6
  have kT : ∀ i, i < sz → v.1 3 i = sbv (T i) ∧ T i < 256 := fun i hi => by rw [hv.1 3 (by omega)]; exact hT i hi
  by_cases he : sz ≤ a
  · refine ⟨fun _ => ⟨setI v 0 7 0, hv.set (by omega), by simp (disch := omega) only [gIs, gIn, gIj, gIr, gJs, gJn, gJi, gJr, gPr, gPi, gPj, hu_s, hu_n, hv_s, hv_n], fun Q T' => ?_⟩, fun h => absurd (hba h) (by omega)⟩
    rw [w_X12_lookAtBytes_23]
    simp (disch := omega) only [↓mletE, ↓iletE, ↓jletE, ↓br_if, ↓br_ifn, ↓reduceIte, nl_lt, nl_gt, nl_le, nl_ge, nl_eq, nn_lt, nn_le, nn_eq, nl_add, nl_sub, nl_mul, nl_mulr, nn_add, nn_ix, nn_in, true_and, and_true, false_and, and_false, gI_if, gIj, gIr, gJ_if, gJi, gJr, gPr, gPi, gPj, hu_if, hv_if, Nat.reduceEqDiff, Nat.reduceLT, Nat.reduceLeDiff, eq_self, bIT, bIF, Nat.add_zero, Nat.add_assoc, Nat.reduceAdd, nb0, nb1, i10, i00, Bool.false_eq_true, not_true_eq_false, not_false_eq_true, reduceIte, k6, h7, eq_true he]
  · obtain ⟨hp0, hab⟩ := hps (by omega)
    have L := fun Q T' => r_begin (n := n) (Q := Q) (T' := T') hn hsz k6 h7 (by omega) kT
    obtain ⟨l1, l2, l3, l4, l5, l6⟩ := line_bd (T := T) (sz := sz) (a := a) (by omega)
    have lb := line_nb (T := T) (sz := sz) (a := a) (by omega)
    have okj : ∀ j, a ≤ j → j < lineS T sz a → j < b → 32 ≤ T j ∧ T j ≤ 126 := fun j g1 g2 g3 => by
      have hp := ps_line hp0 (j - a) (fun i x1 x2 => l5 i x1 (by omega))
      rw [show a + (j - a) = j from by omega] at hp
      have nb := hb2 j g3
      have n1 := l4 j g1 (by omega)
      have n2 := l5 j g1 g2
      by_cases h3 : T j < 32 ∨ 126 < T j
      · exact absurd ⟨hp, n1, n2, h3⟩ nb
      · omega
    generalize lineS T sz a = s at *
    generalize lineE T sz a = e at *
    have hv1 : smL v0 (setI (setI v 0 8 (nI e)) 0 9 (nI s)) := (hv.set (by omega)).set (by omega)
    have g9 : (setI (setI v 0 8 (nI e)) 0 9 (nI s)).1 0 9 = nI s := by simp (disch := omega) only [gIs, gIn, gIj, gIr, gJs, gJn, gJi, gJr, gPr, gPi, gPj, hu_s, hu_n, hv_s, hv_n]
    have g8 : (setI (setI v 0 8 (nI e)) 0 9 (nI s)).1 0 8 = nI e := by simp (disch := omega) only [gIs, gIn, gIj, gIr, gJs, gJn, gJi, gJr, gPr, gPi, gPj, hu_s, hu_n, hv_s, hv_n]
    have g7 : (setI (setI v 0 8 (nI e)) 0 9 (nI s)).1 0 7 = nI a := by simp (disch := omega) only [gIs, gIn, gIj, gIr, gJs, gJn, gJi, gJr, gPr, gPi, gPj, hu_s, hu_n, hv_s, hv_n]; exact h7
    have gT : ∀ i, i < sz → (setI (setI v 0 8 (nI e)) 0 9 (nI s)).1 3 i = sbv (T i) ∧ T i < 256 := fun i hi => by simp (disch := omega) only [gIs, gIn, gIj, gIr, gJs, gJn, gJi, gJr, gPr, gPi, gPj, hu_s, hu_n, hv_s, hv_n]; exact kT i hi
    by_cases hbs : b < s
    · have bd : badB T b := by rcases hb3 with h | h; omega; exact h
      refine ⟨fun h => by omega, fun _ => ⟨setI (setI v 0 8 (nI e)) 0 9 (nI s), hv1, fun Q T' => ?_⟩⟩
      have := r_43f (n := n) (L := w_X12_lookAtBytes_23 n Q T' k) (Q := Q) (T' := T') hsz (by omega) g9 gT hbs (by have := bd.2.2.2; omega) _ n a rfl (by omega) (by omega) (fun j x1 x2 => okj j x1 (by omega) x2)
      rw [w_X12_lookAtBytes_23]
      simp (disch := omega) only [↓mletE, ↓iletE, ↓jletE, ↓br_if, ↓br_ifn, ↓reduceIte, nl_lt, nl_gt, nl_le, nl_ge, nl_eq, nn_lt, nn_le, nn_eq, nl_add, nl_sub, nl_mul, nl_mulr, nn_add, nn_ix, nn_in, true_and, and_true, false_and, and_false, gI_if, gIj, gIr, gJ_if, gJi, gJr, gPr, gPi, gPj, hu_if, hv_if, Nat.reduceEqDiff, Nat.reduceLT, Nat.reduceLeDiff, eq_self, bIT, bIF, Nat.add_zero, Nat.add_assoc, Nat.reduceAdd, nb0, nb1, i10, i00, Bool.false_eq_true, not_true_eq_false, not_false_eq_true, reduceIte, k6, h7, eq_false he, ↓L]
      exact this
    · have F : ∀ Q T', w_X12_lookAtBytes_23 n Q T' (k + 1) v = w_X12_lookAtBytes_23 n Q T' k (setI (setI (setI v 0 8 (nI e)) 0 9 (nI s)) 0 7 (nI (e + 1))) := fun Q T' => by
        have := r_43 (n := n) (L := w_X12_lookAtBytes_23 n Q T' k) (Q := Q) (T' := T') hsz (by omega) g9 g8 gT _ n a rfl (by omega) (by omega) (fun j x1 x2 => okj j x1 x2 (by omega))
        rw [w_X12_lookAtBytes_23]
        simp (disch := omega) only [↓mletE, ↓iletE, ↓jletE, ↓br_if, ↓br_ifn, ↓reduceIte, nl_lt, nl_gt, nl_le, nl_ge, nl_eq, nn_lt, nn_le, nn_eq, nl_add, nl_sub, nl_mul, nl_mulr, nn_add, nn_ix, nn_in, true_and, and_true, false_and, and_false, gI_if, gIj, gIr, gJ_if, gJi, gJr, gPr, gPi, gPj, hu_if, hv_if, Nat.reduceEqDiff, Nat.reduceLT, Nat.reduceLeDiff, eq_self, bIT, bIF, Nat.add_zero, Nat.add_assoc, Nat.reduceAdd, nb0, nb1, i10, i00, Bool.false_eq_true, not_true_eq_false, not_false_eq_true, reduceIte, k6, h7, eq_false he, ↓L]
        exact this
      have hbe : b < sz → e + 1 ≤ b := fun hlt => by
        have bd : badB T b := by rcases hb3 with h | h; omega; exact h
        by_cases h : b ≤ e
        · exact absurd bd (lb b (by omega) h hlt)
        · omega
      have := ih (sz + 1 - (e + 1)) (by omega) k (e + 1) (setI (setI (setI v 0 8 (nI e)) 0 9 (nI s)) 0 7 (nI (e + 1))) rfl (by omega) (by omega) (hv1.set (by omega)) (by simp (disch := omega) only [gIs, gIn, gIj, gIr, gJs, gJn, gJi, gJr, gPr, gPi, gPj, hu_s, hu_n, hv_s, hv_n]) (fun h => ⟨ps_next l6 (by omega), by rcases Nat.lt_or_ge b sz with h1 | h1; exact hbe h1; omega⟩) hbe
      obtain ⟨i1, i2⟩ := this
      refine ⟨fun h => ?_, fun h => ?_⟩
      · obtain ⟨v', x1, x2, x3⟩ := i1 h
        exact ⟨v', x1, x2, fun Q T' => (F Q T').trans (x3 Q T')⟩
      · obtain ⟨v', x1, x2⟩ := i2 h
        exact ⟨v', x1, fun Q T' => (F Q T').trans (x2 Q T')⟩
