/-! the reference's text -/
def pkM (g : Nat → Int32) (s k : Int32) : Int32 := if s ≤ k then 10 else g (ix k) &&& 255
def okI (s k : Int32) : Bool := decide (s ≤ k) || (decide (0 ≤ k) && decide (k < 2420))
theorem okI_t {s k : Nat} (h : k < 2420) : okI (nI s) (nI k) = true := by
  unfold okI
  have h1 : (0 : Int32) ≤ nI k := nI_pos' (show k < 2 ^ 31 by omega)
  have h2 : nI k < (2420 : Int32) := nI_lt (b := 2420) h (by omega)
  simp [h1, h2]
def zz_peek (n : Nat) (k : Int32) (v : Mm) (Q : Int32 → Mm → Prop) (T : Mm → Prop) : Prop := w_X12_peek n k v Q T
theorem r_peek {n : Nat} {k : Int32} {v : Mm} {Q : Int32 → Mm → Prop} {T : Mm → Prop} : w_X12_peek n k v Q T = if okI (v.1 0 9) k = true then Q (pkM (v.1 3) (v.1 0 9) k) v else zz_peek n k v Q T := by
  by_cases h : okI (v.1 0 9) k = true
  · rw [if_pos h]
    unfold w_X12_peek w_X12_peek_23 pkM
    by_cases h1 : v.1 0 9 ≤ k
    · rw [if_pos h1]; exact propext (br_pos h1)
    · rw [if_neg h1]
      refine propext ((br_neg h1).trans (and_pos ?_))
      unfold okI at h
      simp only [Bool.or_eq_true, Bool.and_eq_true, decide_eq_true_eq] at h
      rcases h with h | h
      · exact absurd h h1
      · obtain ⟨j, hj, rfl⟩ := nI_of (Int32.not_lt.mpr h.1)
        have : j < 2420 := (nI_ltI (b := 2420) hj (by omega)).mp h.2
        exact vp_in_nI this (by omega)
  · rw [if_neg h]; rfl
theorem pkM_eq {T : Nat → Nat} {s p : Nat} {g : Nat → Int32} (hT : jT T s p g) {k : Nat} (h : p ≤ k ∧ k < 2147483648) : pkM g (nI s) (nI k) = mb (bv T s k) := by
  have hs := hT.1
  unfold pkM mb
  by_cases hk : k < s
  · obtain ⟨e, b1, b2⟩ := hT.2 k h.1 hk
    rw [bv_in hk]
    simp (disch := omega) only [mlet, ilet, jlet, ↓br_if, ↓br_ifn, ↓reduceIte, nl_lt_t, nl_lt_f, nl_gt_t, nl_gt_f, nl_le_t, nl_le_f, nl_ge_t, nl_ge_f, nl_eq_t, nl_eq_f, nn_lt_t, nn_lt_f, nn_le_t, nn_le_f, nn_eq_t, nn_eq_f, nl_add, nl_sub, nl_mul, nl_mulr, nn_add, nn_ix, nn_in, true_and, and_true, gI_if, gIj, gIr, gJ_if, gJi, gJr, gPr, gPi, gPj, hu_if, hv_if, Nat.reduceEqDiff, eq_self, bIT, bIF, Nat.add_zero, Nat.add_assoc, Nat.reduceAdd, nb0, nb1, i10, i00, Bool.false_eq_true, bI_t, bI_f, if_pos, if_neg, e, and255]
  · rw [bv_out (by omega)]
    simp (disch := omega) only [mlet, ilet, jlet, ↓br_if, ↓br_ifn, ↓reduceIte, nl_lt_t, nl_lt_f, nl_gt_t, nl_gt_f, nl_le_t, nl_le_f, nl_ge_t, nl_ge_f, nl_eq_t, nl_eq_f, nn_lt_t, nn_lt_f, nn_le_t, nn_le_f, nn_eq_t, nn_eq_f, nl_add, nl_sub, nl_mul, nl_mulr, nn_add, nn_ix, nn_in, true_and, and_true, gI_if, gIj, gIr, gJ_if, gJi, gJr, gPr, gPi, gPj, hu_if, hv_if, Nat.reduceEqDiff, eq_self, bIT, bIF, Nat.add_zero, Nat.add_assoc, Nat.reduceAdd, nb0, nb1, i10, i00, Bool.false_eq_true, bI_t, bI_f, if_pos, if_neg]
theorem mb_eq {x k : Nat} (h : (OfNat.ofNat k : Nat) ≠ 0 ∧ (OfNat.ofNat k : Nat) ≠ 10 ∧ x < 2147483648 ∧ (OfNat.ofNat k : Nat) < 2147483648) : (mb x = no_index (OfNat.ofNat k : Int32)) = (x = (OfNat.ofNat k : Nat)) := by
  by_cases hx : x = 0
  · rw [mb_z hx, nl_eq_f ⟨by omega, by omega, by omega⟩, hx]; exact (eq_false (by omega)).symm
  · rw [mb_nz hx]; exact propext (nI_eq h.2.2.1 h.2.2.2)
def zz_here (n : Nat) (v : Mm) (Q : Int32 → Mm → Prop) (T : Mm → Prop) : Prop := w_X12_here n v Q T
theorem r_here {n : Nat} {v : Mm} {Q : Int32 → Mm → Prop} {T : Mm → Prop} : w_X12_here n v Q T = if okI (v.1 0 9) (v.1 0 7) = true then Q (pkM (v.1 3) (v.1 0 9) (v.1 0 7)) v else zz_here n v Q T := by
  by_cases h : okI (v.1 0 9) (v.1 0 7) = true
  · rw [if_pos h]
    unfold w_X12_here
    rw [r_peek, if_pos h]
  · rw [if_neg h]; rfl
def zz_is (n : Nat) (c : Int32) (v : Mm) (Q : Int32 → Mm → Prop) (T : Mm → Prop) : Prop := w_X12_is n c v Q T
theorem r_is {n : Nat} {c : Int32} {v : Mm} {Q : Int32 → Mm → Prop} {T : Mm → Prop} : w_X12_is n c v Q T = if okI (v.1 0 9) (v.1 0 7) = true then Q (bI (pkM (v.1 3) (v.1 0 9) (v.1 0 7) = c)) v else zz_is n c v Q T := by
  by_cases h : okI (v.1 0 9) (v.1 0 7) = true
  · rw [if_pos h]
    unfold w_X12_is w_X12_is_13 bI
    rw [r_here, if_pos h]
    by_cases h1 : pkM (v.1 3) (v.1 0 9) (v.1 0 7) = c <;> simp [h1, nb0, nb1]
  · rw [if_neg h]; rfl
theorem r_in {n : Nat} {x lo hi : Int64} {v : Mm} {Q : Int32 → Mm → Prop} {T : Mm → Prop} : w_X12_in n x lo hi v Q T = Q (bI (lo ≤ x ∧ x ≤ hi)) v := propext q_in
theorem nbI {c : Prop} [Decidable c] : (narrow .boolean (.int (bI c)) = .int (bI c)) = True := by
  by_cases h : c
  · rw [bI_t h]; exact eq_true rfl
  · rw [bI_f h]; exact eq_true rfl
theorem bI_0 {c : Prop} [Decidable c] : (bI c = 0) = ¬ c := by
  by_cases h : c
  · rw [bI_t h]; simp [h]
  · rw [bI_f h]; simp [h]
def inM (c : Int32) (lo hi : Nat) : Int32 := bI (lN lo ≤ c.toInt64 ∧ c.toInt64 ≤ lN hi)
theorem inM_nI {x lo hi : Nat} (h : x < 2147483648 ∧ lo < 2147483648 ∧ hi < 2147483648) : inM (nI x) lo hi = bI (lo ≤ x ∧ x ≤ hi) := by
  unfold inM
  rw [nI_l h.1]
  simp only [lN_le h.2.1 h.1, lN_le h.1 h.2.2]
theorem inM_mb {x lo hi : Nat} (h : x < 2147483648 ∧ 10 < lo ∧ lo < 2147483648 ∧ hi < 2147483648) : inM (mb x) lo hi = bI (lo ≤ x ∧ x ≤ hi) := by
  by_cases hx : x = 0
  · rw [mb_z hx, inM_nI (by omega), bI_f (by omega), bI_f (by omega)]
  · rw [mb_nz hx, inM_nI (by omega)]
theorem r_isDigit {n : Nat} {c : Int32} {v : Mm} {Q : Int32 → Mm → Prop} {T : Mm → Prop} : w_X12_isDigit n c v Q T = Q (inM c 48 57) v := by
  unfold w_X12_isDigit inM
  rw [r_in]
  simp only [nbI, true_and]
  rfl
def orI (a b : Int32) : Int32 := if a = 0 then (if b = 0 then 0 else 1) else 1
theorem orI_b {c d : Prop} [Decidable c] [Decidable d] : orI (bI c) (bI d) = bI (c ∨ d) := by
  unfold orI
  by_cases h : c <;> by_cases h2 : d <;> simp [bI, h, h2]
theorem r_isLetter {n : Nat} {c : Int32} {v : Mm} {Q : Int32 → Mm → Prop} {T : Mm → Prop} : w_X12_isLetter n c v Q T = Q (orI (inM c 65 90) (inM c 97 122)) v := by
  unfold w_X12_isLetter w_X12_isLetter_28 w_X12_isLetter_33 inM orI
  rw [r_in, r_in]
  show _ = Q (if bI ((65 : Int64) ≤ c.toInt64 ∧ c.toInt64 ≤ 90) = 0 then (if bI ((97 : Int64) ≤ c.toInt64 ∧ c.toInt64 ≤ 122) = 0 then 0 else 1) else 1) v
  by_cases h1 : bI ((65 : Int64) ≤ c.toInt64 ∧ c.toInt64 ≤ 90) = 0 <;> by_cases h2 : bI ((97 : Int64) ≤ c.toInt64 ∧ c.toInt64 ≤ 122) = 0 <;> simp only [h1, h2, br_if, br_ifn, if_true, if_false, nb0, nb1, true_and]
theorem r_isNoteLetter {n : Nat} {c : Int32} {v : Mm} {Q : Int32 → Mm → Prop} {T : Mm → Prop} : w_X12_isNoteLetter n c v Q T = Q (orI (inM c 65 71) (inM c 97 103)) v := by
  unfold w_X12_isNoteLetter w_X12_isNoteLetter_28 w_X12_isNoteLetter_33 inM orI
  rw [r_in, r_in]
  show _ = Q (if bI ((65 : Int64) ≤ c.toInt64 ∧ c.toInt64 ≤ 71) = 0 then (if bI ((97 : Int64) ≤ c.toInt64 ∧ c.toInt64 ≤ 103) = 0 then 0 else 1) else 1) v
  by_cases h1 : bI ((65 : Int64) ≤ c.toInt64 ∧ c.toInt64 ≤ 71) = 0 <;> by_cases h2 : bI ((97 : Int64) ≤ c.toInt64 ∧ c.toInt64 ≤ 103) = 0 <;> simp only [h1, h2, br_if, br_ifn, if_true, if_false, nb0, nb1, true_and]
theorem r_fail {n : Nat} {a b : Int32} {v : Mm} {Q T : Mm → Prop} : w_X12_fail n a b v Q T = T (setI (setI v 1 6 a) 1 7 b) := rfl
theorem r_bl0 {n : Nat} {Q T' : Mm → Prop} {T : Nat → Nat} {s p : Nat} : ∀ (d k q : Nat) (v : Mm), s - q = d → d < k → jT T s p (v.1 3) → v.1 0 9 = nI s → v.1 0 7 = nI q → p ≤ q → q ≤ s → w_X12_blanks_0 n Q T' k v = Q (setI v 0 7 (nI (blkP T s q))) := by
  intro d
  induction d with
  | zero =>
    intro k q v hd hk hT h4 h2 hp hq
    obtain ⟨k, rfl⟩ : ∃ j, k = j + 1 := ⟨k - 1, by omega⟩
    have hs := hT.1
    have hb : bv T s q = 0 := by rw [bv_out (by omega)]
    rw [blk_stop (by omega), mI_same h2]
    simp (disch := omega) only [mlet, ilet, jlet, ↓br_if, ↓br_ifn, ↓reduceIte, nl_lt_t, nl_lt_f, nl_gt_t, nl_gt_f, nl_le_t, nl_le_f, nl_ge_t, nl_ge_f, nl_eq_t, nl_eq_f, nn_lt_t, nn_lt_f, nn_le_t, nn_le_f, nn_eq_t, nn_eq_f, nl_add, nl_sub, nl_mul, nl_mulr, nn_add, nn_ix, nn_in, true_and, and_true, gI_if, gIj, gIr, gJ_if, gJi, gJr, gPr, gPi, gPj, hu_if, hv_if, Nat.reduceEqDiff, eq_self, bIT, bIF, Nat.add_zero, Nat.add_assoc, Nat.reduceAdd, nb0, nb1, i10, i00, Bool.false_eq_true, bI_t, bI_f, if_pos, if_neg, w_X12_blanks_0, r_is, h4, h2, okI_t, pkM_eq hT, mb_eq]
  | succ d ih =>
    intro k q v hd hk hT h4 h2 hp hq
    obtain ⟨k, rfl⟩ : ∃ j, k = j + 1 := ⟨k - 1, by omega⟩
    have hs := hT.1
    have hb := hT.bd q hp
    by_cases h : bv T s q = 32
    · rw [blk_step h]
      have := ih k (q + 1) (setI v 0 7 (nI (q + 1))) (by omega) (by omega) (by simp (disch := omega) only [mlet, ilet, jlet, ↓br_if, ↓br_ifn, ↓reduceIte, nl_lt_t, nl_lt_f, nl_gt_t, nl_gt_f, nl_le_t, nl_le_f, nl_ge_t, nl_ge_f, nl_eq_t, nl_eq_f, nn_lt_t, nn_lt_f, nn_le_t, nn_le_f, nn_eq_t, nn_eq_f, nl_add, nl_sub, nl_mul, nl_mulr, nn_add, nn_ix, nn_in, true_and, and_true, gI_if, gIj, gIr, gJ_if, gJi, gJr, gPr, gPi, gPj, hu_if, hv_if, Nat.reduceEqDiff, eq_self, bIT, bIF, Nat.add_zero, Nat.add_assoc, Nat.reduceAdd, nb0, nb1, i10, i00, Bool.false_eq_true, bI_t, bI_f, if_pos, if_neg]; exact hT) (by simp (disch := omega) only [mlet, ilet, jlet, ↓br_if, ↓br_ifn, ↓reduceIte, nl_lt_t, nl_lt_f, nl_gt_t, nl_gt_f, nl_le_t, nl_le_f, nl_ge_t, nl_ge_f, nl_eq_t, nl_eq_f, nn_lt_t, nn_lt_f, nn_le_t, nn_le_f, nn_eq_t, nn_eq_f, nl_add, nl_sub, nl_mul, nl_mulr, nn_add, nn_ix, nn_in, true_and, and_true, gI_if, gIj, gIr, gJ_if, gJi, gJr, gPr, gPi, gPj, hu_if, hv_if, Nat.reduceEqDiff, eq_self, bIT, bIF, Nat.add_zero, Nat.add_assoc, Nat.reduceAdd, nb0, nb1, i10, i00, Bool.false_eq_true, bI_t, bI_f, if_pos, if_neg]; exact h4) (by simp (disch := omega) only [mlet, ilet, jlet, ↓br_if, ↓br_ifn, ↓reduceIte, nl_lt_t, nl_lt_f, nl_gt_t, nl_gt_f, nl_le_t, nl_le_f, nl_ge_t, nl_ge_f, nl_eq_t, nl_eq_f, nn_lt_t, nn_lt_f, nn_le_t, nn_le_f, nn_eq_t, nn_eq_f, nl_add, nl_sub, nl_mul, nl_mulr, nn_add, nn_ix, nn_in, true_and, and_true, gI_if, gIj, gIr, gJ_if, gJi, gJr, gPr, gPi, gPj, hu_if, hv_if, Nat.reduceEqDiff, eq_self, bIT, bIF, Nat.add_zero, Nat.add_assoc, Nat.reduceAdd, nb0, nb1, i10, i00, Bool.false_eq_true, bI_t, bI_f, if_pos, if_neg]) (by omega) (by omega)
      rw [mI_over] at this
      rw [← this]
      simp (disch := omega) only [mlet, ilet, jlet, ↓br_if, ↓br_ifn, ↓reduceIte, nl_lt_t, nl_lt_f, nl_gt_t, nl_gt_f, nl_le_t, nl_le_f, nl_ge_t, nl_ge_f, nl_eq_t, nl_eq_f, nn_lt_t, nn_lt_f, nn_le_t, nn_le_f, nn_eq_t, nn_eq_f, nl_add, nl_sub, nl_mul, nl_mulr, nn_add, nn_ix, nn_in, true_and, and_true, gI_if, gIj, gIr, gJ_if, gJi, gJr, gPr, gPi, gPj, hu_if, hv_if, Nat.reduceEqDiff, eq_self, bIT, bIF, Nat.add_zero, Nat.add_assoc, Nat.reduceAdd, nb0, nb1, i10, i00, Bool.false_eq_true, bI_t, bI_f, if_pos, if_neg, w_X12_blanks_0, r_is, h4, h2, okI_t, pkM_eq hT, mb_eq]
    · rw [blk_stop h, mI_same h2]
      simp (disch := omega) only [mlet, ilet, jlet, ↓br_if, ↓br_ifn, ↓reduceIte, nl_lt_t, nl_lt_f, nl_gt_t, nl_gt_f, nl_le_t, nl_le_f, nl_ge_t, nl_ge_f, nl_eq_t, nl_eq_f, nn_lt_t, nn_lt_f, nn_le_t, nn_le_f, nn_eq_t, nn_eq_f, nl_add, nl_sub, nl_mul, nl_mulr, nn_add, nn_ix, nn_in, true_and, and_true, gI_if, gIj, gIr, gJ_if, gJi, gJr, gPr, gPi, gPj, hu_if, hv_if, Nat.reduceEqDiff, eq_self, bIT, bIF, Nat.add_zero, Nat.add_assoc, Nat.reduceAdd, nb0, nb1, i10, i00, Bool.false_eq_true, bI_t, bI_f, if_pos, if_neg, w_X12_blanks_0, r_is, h4, h2, okI_t, pkM_eq hT, mb_eq]
def gbl (n : Nat) (g : Nat → Int32) (s a : Int32) (v : Mm) (Q T : Mm → Prop) : Prop := (v.1 3 = g ∧ v.1 0 9 = s ∧ v.1 0 7 = a → w_X12_blanks n v Q T) ∧ (¬ (v.1 3 = g ∧ v.1 0 9 = s ∧ v.1 0 7 = a) → Q (setI v 0 7 (nI (blkP (fun i => ix (g i)) (ix s) (ix a)))))
theorem r_blanks {n : Nat} {v : Mm} {Q T : Mm → Prop} : w_X12_blanks n v Q T = gbl n (v.1 3) (v.1 0 9) (v.1 0 7) v Q T := by
  unfold gbl
  exact propext ⟨fun h => ⟨fun _ => h, fun z => absurd ⟨rfl, rfl, rfl⟩ z⟩, fun h => h.1 ⟨rfl, rfl, rfl⟩⟩
theorem jT.ixc {T : Nat → Nat} {s p : Nat} {f : Nat → Int32} (hT : jT T s p f) {q : Nat} (hq : p ≤ q) : ∀ i, q ≤ i → i < s → (fun i => ix (f i)) i = T i := fun i hi hs => by
  show ix (f i) = T i
  obtain ⟨e, b1, b2⟩ := hT.2 i (by omega) hs
  rw [e, nn_ix (by omega)]
theorem gbl_eq {n : Nat} {T : Nat → Nat} {s p : Nat} {g : Nat → Int32} {v : Mm} {Q T' : Mm → Prop} (hT : jT T s p g) {q : Nat} (h : 5000 ≤ n ∧ p ≤ q ∧ q ≤ s) : gbl n g (nI s) (nI q) v Q T' = Q (setI v 0 7 (nI (blkP T s q))) := by
  have hs := hT.1
  unfold gbl
  by_cases hc : v.1 3 = g ∧ v.1 0 9 = nI s ∧ v.1 0 7 = nI q
  · rw [br_pos hc]
    obtain ⟨h1, h2, h3⟩ := hc
    unfold w_X12_blanks
    rw [r_bl0 _ n q v rfl (by omega) (h1 ▸ hT) h2 h3 h.2.1 h.2.2]
  · rw [br_neg hc, nn_ix (by omega), nn_ix (by omega), blk_congr _ q rfl (hT.ixc h.2.1)]
theorem r_num9 {n : Nat} {Q : Int32 → Mm → Prop} {T' : Mm → Prop} {T : Nat → Nat} {s p q0 g : Nat} {bl : Int32} (hg : g ≤ 9999) (hq0 : q0 ≤ s) : ∀ (d k q acc m : Nat) (v : Mm), s - q = d → d < k → jT T s p (v.1 3) → v.1 0 9 = nI s → v.1 0 7 = nI q → p ≤ q → q ≤ s → (q = q0 → acc = 0) ∧ q0 ≤ q → (m = acc ∨ (100000 < m ∧ 100000 < acc)) → m < 2000000 → w_X12_numberOf_9 n Q T' k 1 (nI g) bl (nI m) (nI q0) v = if 1 ≤ nvaP T s q acc ∧ nvaP T s q acc ≤ g then Q (nI (nvaP T s q acc)) (setI v 0 7 (nI (nenP T s q))) else T' (setI (setI (setI v 0 7 (nI (nenP T s q))) 1 6 1) 1 7 bl) := by
  intro d
  induction d with
  | zero =>
    intro k q acc m v hd hk hT h4 h2 hp hq hz hm hb
    obtain ⟨k, rfl⟩ : ∃ j, k = j + 1 := ⟨k - 1, by omega⟩
    have hs := hT.1
    have hb0 : bv T s q = 0 := by rw [bv_out (by omega)]
    have hnd : ¬ (48 ≤ bv T s q ∧ bv T s q ≤ 57) := by omega
    rw [(num_stop (a := acc) hnd).1, (num_stop (a := acc) hnd).2, mI_same h2]
    by_cases hqq : q = q0
    · have := hz.1 hqq
      simp (disch := omega) only [mlet, ilet, jlet, ↓br_if, ↓br_ifn, ↓reduceIte, nl_lt_t, nl_lt_f, nl_gt_t, nl_gt_f, nl_le_t, nl_le_f, nl_ge_t, nl_ge_f, nl_eq_t, nl_eq_f, nn_lt_t, nn_lt_f, nn_le_t, nn_le_f, nn_eq_t, nn_eq_f, nl_add, nl_sub, nl_mul, nl_mulr, nn_add, nn_ix, nn_in, true_and, and_true, gI_if, gIj, gIr, gJ_if, gJi, gJr, gPr, gPi, gPj, hu_if, hv_if, Nat.reduceEqDiff, eq_self, bIT, bIF, Nat.add_zero, Nat.add_assoc, Nat.reduceAdd, nb0, nb1, i10, i00, Bool.false_eq_true, bI_t, bI_f, if_pos, if_neg, w_X12_numberOf_9, w_X12_numberOf_81, w_X12_numberOf_87, r_here, r_isDigit, r_fail, h4, h2, okI_t, pkM_eq hT, inM_mb]
    · rcases hm with rfl | hm
      · by_cases hok : 1 ≤ m ∧ m ≤ g
        · simp (disch := omega) only [mlet, ilet, jlet, ↓br_if, ↓br_ifn, ↓reduceIte, nl_lt_t, nl_lt_f, nl_gt_t, nl_gt_f, nl_le_t, nl_le_f, nl_ge_t, nl_ge_f, nl_eq_t, nl_eq_f, nn_lt_t, nn_lt_f, nn_le_t, nn_le_f, nn_eq_t, nn_eq_f, nl_add, nl_sub, nl_mul, nl_mulr, nn_add, nn_ix, nn_in, true_and, and_true, gI_if, gIj, gIr, gJ_if, gJi, gJr, gPr, gPi, gPj, hu_if, hv_if, Nat.reduceEqDiff, eq_self, bIT, bIF, Nat.add_zero, Nat.add_assoc, Nat.reduceAdd, nb0, nb1, i10, i00, Bool.false_eq_true, bI_t, bI_f, if_pos, if_neg, w_X12_numberOf_9, w_X12_numberOf_81, w_X12_numberOf_87, r_here, r_isDigit, r_fail, h4, h2, okI_t, pkM_eq hT, inM_mb, r_in, show (1 : Int32).toInt64 = lN 1 from rfl, nI_l, lN_le]
        · simp (disch := omega) only [mlet, ilet, jlet, ↓br_if, ↓br_ifn, ↓reduceIte, nl_lt_t, nl_lt_f, nl_gt_t, nl_gt_f, nl_le_t, nl_le_f, nl_ge_t, nl_ge_f, nl_eq_t, nl_eq_f, nn_lt_t, nn_lt_f, nn_le_t, nn_le_f, nn_eq_t, nn_eq_f, nl_add, nl_sub, nl_mul, nl_mulr, nn_add, nn_ix, nn_in, true_and, and_true, gI_if, gIj, gIr, gJ_if, gJi, gJr, gPr, gPi, gPj, hu_if, hv_if, Nat.reduceEqDiff, eq_self, bIT, bIF, Nat.add_zero, Nat.add_assoc, Nat.reduceAdd, nb0, nb1, i10, i00, Bool.false_eq_true, bI_t, bI_f, if_pos, if_neg, w_X12_numberOf_9, w_X12_numberOf_81, w_X12_numberOf_87, r_here, r_isDigit, r_fail, h4, h2, okI_t, pkM_eq hT, inM_mb, r_in, show (1 : Int32).toInt64 = lN 1 from rfl, nI_l, lN_le]
      · simp (disch := omega) only [mlet, ilet, jlet, ↓br_if, ↓br_ifn, ↓reduceIte, nl_lt_t, nl_lt_f, nl_gt_t, nl_gt_f, nl_le_t, nl_le_f, nl_ge_t, nl_ge_f, nl_eq_t, nl_eq_f, nn_lt_t, nn_lt_f, nn_le_t, nn_le_f, nn_eq_t, nn_eq_f, nl_add, nl_sub, nl_mul, nl_mulr, nn_add, nn_ix, nn_in, true_and, and_true, gI_if, gIj, gIr, gJ_if, gJi, gJr, gPr, gPi, gPj, hu_if, hv_if, Nat.reduceEqDiff, eq_self, bIT, bIF, Nat.add_zero, Nat.add_assoc, Nat.reduceAdd, nb0, nb1, i10, i00, Bool.false_eq_true, bI_t, bI_f, if_pos, if_neg, w_X12_numberOf_9, w_X12_numberOf_81, w_X12_numberOf_87, r_here, r_isDigit, r_fail, h4, h2, okI_t, pkM_eq hT, inM_mb, r_in, show (1 : Int32).toInt64 = lN 1 from rfl, nI_l, lN_le]
  | succ d ih =>
    intro k q acc m v hd hk hT h4 h2 hp hq hz hm hb
    obtain ⟨k, rfl⟩ : ∃ j, k = j + 1 := ⟨k - 1, by omega⟩
    have hs := hT.1
    have hbd := hT.bd q hp
    by_cases h : 48 ≤ bv T s q ∧ bv T s q ≤ 57
    · rw [(num_step (a := acc) h).1, (num_step (a := acc) h).2]
      by_cases hbig : m ≤ 100000
      · have := ih k (q + 1) (10 * acc + (bv T s q - 48)) (10 * m + bv T s q - 48) (setI v 0 7 (nI (q + 1))) (by omega) (by omega) (by simp (disch := omega) only [mlet, ilet, jlet, ↓br_if, ↓br_ifn, ↓reduceIte, nl_lt_t, nl_lt_f, nl_gt_t, nl_gt_f, nl_le_t, nl_le_f, nl_ge_t, nl_ge_f, nl_eq_t, nl_eq_f, nn_lt_t, nn_lt_f, nn_le_t, nn_le_f, nn_eq_t, nn_eq_f, nl_add, nl_sub, nl_mul, nl_mulr, nn_add, nn_ix, nn_in, true_and, and_true, gI_if, gIj, gIr, gJ_if, gJi, gJr, gPr, gPi, gPj, hu_if, hv_if, Nat.reduceEqDiff, eq_self, bIT, bIF, Nat.add_zero, Nat.add_assoc, Nat.reduceAdd, nb0, nb1, i10, i00, Bool.false_eq_true, bI_t, bI_f, if_pos, if_neg]; exact hT) (by simp (disch := omega) only [mlet, ilet, jlet, ↓br_if, ↓br_ifn, ↓reduceIte, nl_lt_t, nl_lt_f, nl_gt_t, nl_gt_f, nl_le_t, nl_le_f, nl_ge_t, nl_ge_f, nl_eq_t, nl_eq_f, nn_lt_t, nn_lt_f, nn_le_t, nn_le_f, nn_eq_t, nn_eq_f, nl_add, nl_sub, nl_mul, nl_mulr, nn_add, nn_ix, nn_in, true_and, and_true, gI_if, gIj, gIr, gJ_if, gJi, gJr, gPr, gPi, gPj, hu_if, hv_if, Nat.reduceEqDiff, eq_self, bIT, bIF, Nat.add_zero, Nat.add_assoc, Nat.reduceAdd, nb0, nb1, i10, i00, Bool.false_eq_true, bI_t, bI_f, if_pos, if_neg]; exact h4) (by simp (disch := omega) only [mlet, ilet, jlet, ↓br_if, ↓br_ifn, ↓reduceIte, nl_lt_t, nl_lt_f, nl_gt_t, nl_gt_f, nl_le_t, nl_le_f, nl_ge_t, nl_ge_f, nl_eq_t, nl_eq_f, nn_lt_t, nn_lt_f, nn_le_t, nn_le_f, nn_eq_t, nn_eq_f, nl_add, nl_sub, nl_mul, nl_mulr, nn_add, nn_ix, nn_in, true_and, and_true, gI_if, gIj, gIr, gJ_if, gJi, gJr, gPr, gPi, gPj, hu_if, hv_if, Nat.reduceEqDiff, eq_self, bIT, bIF, Nat.add_zero, Nat.add_assoc, Nat.reduceAdd, nb0, nb1, i10, i00, Bool.false_eq_true, bI_t, bI_f, if_pos, if_neg]) (by omega) (by omega) ⟨fun z => absurd z (by omega), by omega⟩ (by omega) (by omega)
        rw [mI_over] at this
        rw [← this]
        simp (disch := omega) only [mlet, ilet, jlet, ↓br_if, ↓br_ifn, ↓reduceIte, nl_lt_t, nl_lt_f, nl_gt_t, nl_gt_f, nl_le_t, nl_le_f, nl_ge_t, nl_ge_f, nl_eq_t, nl_eq_f, nn_lt_t, nn_lt_f, nn_le_t, nn_le_f, nn_eq_t, nn_eq_f, nl_add, nl_sub, nl_mul, nl_mulr, nn_add, nn_ix, nn_in, true_and, and_true, gI_if, gIj, gIr, gJ_if, gJi, gJr, gPr, gPi, gPj, hu_if, hv_if, Nat.reduceEqDiff, eq_self, bIT, bIF, Nat.add_zero, Nat.add_assoc, Nat.reduceAdd, nb0, nb1, i10, i00, Bool.false_eq_true, bI_t, bI_f, if_pos, if_neg, w_X12_numberOf_9, w_X12_numberOf_44, r_here, r_isDigit, h4, h2, okI_t, pkM_eq hT, inM_mb, inM_nI, mb_nz]
      · have := ih k (q + 1) (10 * acc + (bv T s q - 48)) m (setI v 0 7 (nI (q + 1))) (by omega) (by omega) (by simp (disch := omega) only [mlet, ilet, jlet, ↓br_if, ↓br_ifn, ↓reduceIte, nl_lt_t, nl_lt_f, nl_gt_t, nl_gt_f, nl_le_t, nl_le_f, nl_ge_t, nl_ge_f, nl_eq_t, nl_eq_f, nn_lt_t, nn_lt_f, nn_le_t, nn_le_f, nn_eq_t, nn_eq_f, nl_add, nl_sub, nl_mul, nl_mulr, nn_add, nn_ix, nn_in, true_and, and_true, gI_if, gIj, gIr, gJ_if, gJi, gJr, gPr, gPi, gPj, hu_if, hv_if, Nat.reduceEqDiff, eq_self, bIT, bIF, Nat.add_zero, Nat.add_assoc, Nat.reduceAdd, nb0, nb1, i10, i00, Bool.false_eq_true, bI_t, bI_f, if_pos, if_neg]; exact hT) (by simp (disch := omega) only [mlet, ilet, jlet, ↓br_if, ↓br_ifn, ↓reduceIte, nl_lt_t, nl_lt_f, nl_gt_t, nl_gt_f, nl_le_t, nl_le_f, nl_ge_t, nl_ge_f, nl_eq_t, nl_eq_f, nn_lt_t, nn_lt_f, nn_le_t, nn_le_f, nn_eq_t, nn_eq_f, nl_add, nl_sub, nl_mul, nl_mulr, nn_add, nn_ix, nn_in, true_and, and_true, gI_if, gIj, gIr, gJ_if, gJi, gJr, gPr, gPi, gPj, hu_if, hv_if, Nat.reduceEqDiff, eq_self, bIT, bIF, Nat.add_zero, Nat.add_assoc, Nat.reduceAdd, nb0, nb1, i10, i00, Bool.false_eq_true, bI_t, bI_f, if_pos, if_neg]; exact h4) (by simp (disch := omega) only [mlet, ilet, jlet, ↓br_if, ↓br_ifn, ↓reduceIte, nl_lt_t, nl_lt_f, nl_gt_t, nl_gt_f, nl_le_t, nl_le_f, nl_ge_t, nl_ge_f, nl_eq_t, nl_eq_f, nn_lt_t, nn_lt_f, nn_le_t, nn_le_f, nn_eq_t, nn_eq_f, nl_add, nl_sub, nl_mul, nl_mulr, nn_add, nn_ix, nn_in, true_and, and_true, gI_if, gIj, gIr, gJ_if, gJi, gJr, gPr, gPi, gPj, hu_if, hv_if, Nat.reduceEqDiff, eq_self, bIT, bIF, Nat.add_zero, Nat.add_assoc, Nat.reduceAdd, nb0, nb1, i10, i00, Bool.false_eq_true, bI_t, bI_f, if_pos, if_neg]) (by omega) (by omega) ⟨fun z => absurd z (by omega), by omega⟩ (by omega) (by omega)
        rw [mI_over] at this
        rw [← this]
        simp (disch := omega) only [mlet, ilet, jlet, ↓br_if, ↓br_ifn, ↓reduceIte, nl_lt_t, nl_lt_f, nl_gt_t, nl_gt_f, nl_le_t, nl_le_f, nl_ge_t, nl_ge_f, nl_eq_t, nl_eq_f, nn_lt_t, nn_lt_f, nn_le_t, nn_le_f, nn_eq_t, nn_eq_f, nl_add, nl_sub, nl_mul, nl_mulr, nn_add, nn_ix, nn_in, true_and, and_true, gI_if, gIj, gIr, gJ_if, gJi, gJr, gPr, gPi, gPj, hu_if, hv_if, Nat.reduceEqDiff, eq_self, bIT, bIF, Nat.add_zero, Nat.add_assoc, Nat.reduceAdd, nb0, nb1, i10, i00, Bool.false_eq_true, bI_t, bI_f, if_pos, if_neg, w_X12_numberOf_9, w_X12_numberOf_44, r_here, r_isDigit, h4, h2, okI_t, pkM_eq hT, inM_mb]
    · rw [(num_stop (a := acc) h).1, (num_stop (a := acc) h).2, mI_same h2]
      by_cases hqq : q = q0
      · have := hz.1 hqq
        simp (disch := omega) only [mlet, ilet, jlet, ↓br_if, ↓br_ifn, ↓reduceIte, nl_lt_t, nl_lt_f, nl_gt_t, nl_gt_f, nl_le_t, nl_le_f, nl_ge_t, nl_ge_f, nl_eq_t, nl_eq_f, nn_lt_t, nn_lt_f, nn_le_t, nn_le_f, nn_eq_t, nn_eq_f, nl_add, nl_sub, nl_mul, nl_mulr, nn_add, nn_ix, nn_in, true_and, and_true, gI_if, gIj, gIr, gJ_if, gJi, gJr, gPr, gPi, gPj, hu_if, hv_if, Nat.reduceEqDiff, eq_self, bIT, bIF, Nat.add_zero, Nat.add_assoc, Nat.reduceAdd, nb0, nb1, i10, i00, Bool.false_eq_true, bI_t, bI_f, if_pos, if_neg, w_X12_numberOf_9, w_X12_numberOf_81, w_X12_numberOf_87, r_here, r_isDigit, r_fail, h4, h2, okI_t, pkM_eq hT, inM_mb]
      · rcases hm with rfl | hm
        · by_cases hok : 1 ≤ m ∧ m ≤ g
          · simp (disch := omega) only [mlet, ilet, jlet, ↓br_if, ↓br_ifn, ↓reduceIte, nl_lt_t, nl_lt_f, nl_gt_t, nl_gt_f, nl_le_t, nl_le_f, nl_ge_t, nl_ge_f, nl_eq_t, nl_eq_f, nn_lt_t, nn_lt_f, nn_le_t, nn_le_f, nn_eq_t, nn_eq_f, nl_add, nl_sub, nl_mul, nl_mulr, nn_add, nn_ix, nn_in, true_and, and_true, gI_if, gIj, gIr, gJ_if, gJi, gJr, gPr, gPi, gPj, hu_if, hv_if, Nat.reduceEqDiff, eq_self, bIT, bIF, Nat.add_zero, Nat.add_assoc, Nat.reduceAdd, nb0, nb1, i10, i00, Bool.false_eq_true, bI_t, bI_f, if_pos, if_neg, w_X12_numberOf_9, w_X12_numberOf_81, w_X12_numberOf_87, r_here, r_isDigit, r_fail, h4, h2, okI_t, pkM_eq hT, inM_mb, r_in, show (1 : Int32).toInt64 = lN 1 from rfl, nI_l, lN_le]
          · simp (disch := omega) only [mlet, ilet, jlet, ↓br_if, ↓br_ifn, ↓reduceIte, nl_lt_t, nl_lt_f, nl_gt_t, nl_gt_f, nl_le_t, nl_le_f, nl_ge_t, nl_ge_f, nl_eq_t, nl_eq_f, nn_lt_t, nn_lt_f, nn_le_t, nn_le_f, nn_eq_t, nn_eq_f, nl_add, nl_sub, nl_mul, nl_mulr, nn_add, nn_ix, nn_in, true_and, and_true, gI_if, gIj, gIr, gJ_if, gJi, gJr, gPr, gPi, gPj, hu_if, hv_if, Nat.reduceEqDiff, eq_self, bIT, bIF, Nat.add_zero, Nat.add_assoc, Nat.reduceAdd, nb0, nb1, i10, i00, Bool.false_eq_true, bI_t, bI_f, if_pos, if_neg, w_X12_numberOf_9, w_X12_numberOf_81, w_X12_numberOf_87, r_here, r_isDigit, r_fail, h4, h2, okI_t, pkM_eq hT, inM_mb, r_in, show (1 : Int32).toInt64 = lN 1 from rfl, nI_l, lN_le]
        · simp (disch := omega) only [mlet, ilet, jlet, ↓br_if, ↓br_ifn, ↓reduceIte, nl_lt_t, nl_lt_f, nl_gt_t, nl_gt_f, nl_le_t, nl_le_f, nl_ge_t, nl_ge_f, nl_eq_t, nl_eq_f, nn_lt_t, nn_lt_f, nn_le_t, nn_le_f, nn_eq_t, nn_eq_f, nl_add, nl_sub, nl_mul, nl_mulr, nn_add, nn_ix, nn_in, true_and, and_true, gI_if, gIj, gIr, gJ_if, gJi, gJr, gPr, gPi, gPj, hu_if, hv_if, Nat.reduceEqDiff, eq_self, bIT, bIF, Nat.add_zero, Nat.add_assoc, Nat.reduceAdd, nb0, nb1, i10, i00, Bool.false_eq_true, bI_t, bI_f, if_pos, if_neg, w_X12_numberOf_9, w_X12_numberOf_81, w_X12_numberOf_87, r_here, r_isDigit, r_fail, h4, h2, okI_t, pkM_eq hT, inM_mb, r_in, show (1 : Int32).toInt64 = lN 1 from rfl, nI_l, lN_le]
def gno (n : Nat) (f : Nat → Int32) (s a : Int32) (g bl : Int32) (v : Mm) (Q : Int32 → Mm → Prop) (T : Mm → Prop) : Prop := (v.1 3 = f ∧ v.1 0 9 = s ∧ v.1 0 7 = a → w_X12_numberOf n 1 g bl v Q T) ∧ (¬ (v.1 3 = f ∧ v.1 0 9 = s ∧ v.1 0 7 = a) → if nok0 (fun i => ix (f i)) (ix s) (ix a) (ix g) then Q (nI (nvaP (fun i => ix (f i)) (ix s) (ix a) 0)) (setI v 0 7 (nI (nenP (fun i => ix (f i)) (ix s) (ix a)))) else T (setI (setI (setI v 0 7 (nI (nenP (fun i => ix (f i)) (ix s) (ix a)))) 1 6 1) 1 7 bl))
theorem r_numberOf {n : Nat} {g bl : Int32} {v : Mm} {Q : Int32 → Mm → Prop} {T : Mm → Prop} : w_X12_numberOf n 1 g bl v Q T = gno n (v.1 3) (v.1 0 9) (v.1 0 7) g bl v Q T := by
  unfold gno
  exact propext ⟨fun h => ⟨fun _ => h, fun z => absurd ⟨rfl, rfl, rfl⟩ z⟩, fun h => h.1 ⟨rfl, rfl, rfl⟩⟩
theorem gno_eq {n : Nat} {T : Nat → Nat} {s p : Nat} {f : Nat → Int32} {bl : Int32} {v : Mm} {Q : Int32 → Mm → Prop} {T' : Mm → Prop} (hT : jT T s p f) {q g : Nat} (h : 5000 ≤ n ∧ p ≤ q ∧ q ≤ s ∧ (OfNat.ofNat g : Nat) ≤ 9999) : gno n f (nI s) (nI q) (no_index (OfNat.ofNat g : Int32)) bl v Q T' = if nok0 T s q (OfNat.ofNat g : Nat) then Q (nI (nvaP T s q 0)) (setI v 0 7 (nI (nenP T s q))) else T' (setI (setI (setI v 0 7 (nI (nenP T s q))) 1 6 1) 1 7 bl) := by
  have hs := hT.1
  unfold gno
  by_cases hc : v.1 3 = f ∧ v.1 0 9 = nI s ∧ v.1 0 7 = nI q
  · rw [br_pos hc]
    obtain ⟨h1, h2, h3⟩ := hc
    unfold w_X12_numberOf ilet
    have := r_num9 (n := n) (Q := Q) (T' := T') (T := T) (s := s) (p := p) (q0 := q) (g := g) (bl := bl) h.2.2.2 h.2.2.1 _ n q 0 0 v rfl (by omega) (h1 ▸ hT) h2 h3 h.2.1 h.2.2.1 ⟨fun _ => rfl, Nat.le_refl _⟩ (Or.inl rfl) (by omega)
    rw [h3]
    exact this
  · rw [br_neg hc, show (OfNat.ofNat g : Int32) = nI (OfNat.ofNat g : Nat) from rfl, nn_ix (show s < 2147483648 by omega), nn_ix (show q < 2147483648 by omega), nn_ix (show (OfNat.ofNat g : Nat) < 2147483648 by omega)]
    have hc := nva_congr (T := fun i => ix (f i)) (T' := T) (s := s) _ q 0 rfl (hT.ixc h.2.1)
    unfold nok0
    rw [hc.1, hc.2]
def ipI (a m : Int32) : Int32 := if a < 1 then 0 else if m < a then 0 else if (a &&& (a - 1)) = 0 then 1 else 0
theorem r_isPower {n : Nat} {a m : Int32} {v : Mm} {Q : Int32 → Mm → Prop} {T : Mm → Prop} : w_X12_isPower n a m v Q T = Q (ipI a m) v := by
  unfold w_X12_isPower w_X12_isPower_22 w_X12_isPower_23 ipI
  by_cases h1 : a < 1 <;> by_cases h2 : m < a <;> by_cases h3 : (a &&& (a - 1)) = 0 <;> simp only [h1, h2, h3, br_if, br_ifn, if_true, if_false, nb0, nb1, true_and]
theorem ipI_eq {x k : Nat} (h : 1 ≤ x ∧ x ≤ (OfNat.ofNat k : Nat) ∧ (OfNat.ofNat k : Nat) < 2147483648) : ipI (nI x) (no_index (OfNat.ofNat k : Int32)) = bI (pw2 x) := by
  unfold ipI bI pw2
  rw [if_neg, if_neg]
  · exact fun z => absurd ((nI_ltI h.2.2 (show x < 2 ^ 31 by omega)).mp z) (by omega)
  · exact fun z => absurd ((nI_ltI (b := 1) (show x < 2 ^ 31 by omega) (by omega)).mp z) (by omega)
/-! words in the reference -/
theorem r_iw4 {n a : Nat} {Q : Int32 → Mm → Prop} {T' : Mm → Prop} {T : Nat → Nat} {s p q : Nat} (ha : a < 31) {v : Mm} (hT : jT T s p (v.1 3)) (h4 : v.1 0 9 = nI s) (h2 : v.1 0 7 = nI q) (hp : p ≤ q) (hq : q ≤ s) : ∀ (d k i : Nat), wn a - i = d → d + 1 < k → i ≤ wn a → w_X12_isWord_4 n a Q T' k 1 (nI i) v = Q (bI (wm T s (q + i) ((wl a).drop i) = true)) v := by
  intro d
  have hs := hT.1
  have hl := (xt_ok a ha).1
  induction d with
  | zero =>
    intro k i hd hk hi
    obtain ⟨k, rfl⟩ : ∃ j, k = j + 1 := ⟨k - 1, by omega⟩
    rw [wl_end (by omega), bI_t (by rw [wm_nil]; trivial)]
    simp (disch := omega) only [mlet, ilet, jlet, ↓br_if, ↓br_ifn, ↓reduceIte, nl_lt_t, nl_lt_f, nl_gt_t, nl_gt_f, nl_le_t, nl_le_f, nl_ge_t, nl_ge_f, nl_eq_t, nl_eq_f, nn_lt_t, nn_lt_f, nn_le_t, nn_le_f, nn_eq_t, nn_eq_f, nl_add, nl_sub, nl_mul, nl_mulr, nn_add, nn_ix, nn_in, true_and, and_true, gI_if, gIj, gIr, gJ_if, gJi, gJr, gPr, gPi, gPj, hu_if, hv_if, Nat.reduceEqDiff, eq_self, bIT, bIF, Nat.add_zero, Nat.add_assoc, Nat.reduceAdd, nb0, nb1, i10, i00, Bool.false_eq_true, bI_t, bI_f, if_pos, if_neg, w_X12_isWord_4, w_X12_isWord_46, j_len]
  | succ d ih =>
    intro k i hd hk hi
    obtain ⟨k, rfl⟩ : ∃ j, k = j + 2 := ⟨k - 2, by omega⟩
    have hi' : i < wn a := by omega
    obtain ⟨-, b1, b2⟩ := (xt_ok a ha).2 i hi'
    have hb := hT.bd (q + i) (by omega)
    have hk2 : q + i < 2420 := by omega
    rw [wl_drop hi']
    by_cases hc : bv T s (q + i) = wc a i
    · have := ih (k + 1) (i + 1) (by omega) (by omega) (by omega)
      have e : (wm T s (q + i) (wc a i :: (wl a).drop (i + 1)) = true) = (wm T s (q + (i + 1)) ((wl a).drop (i + 1)) = true) := by
        rw [wm_cons]; exact propext ⟨fun z => z.2, fun z => ⟨hc, z⟩⟩
      simp only [e]
      rw [← this]
      rw [w_X12_isWord_4]
      simp (disch := omega) only [mlet, ilet, jlet, ↓br_if, ↓br_ifn, ↓reduceIte, nl_lt_t, nl_lt_f, nl_gt_t, nl_gt_f, nl_le_t, nl_le_f, nl_ge_t, nl_ge_f, nl_eq_t, nl_eq_f, nn_lt_t, nn_lt_f, nn_le_t, nn_le_f, nn_eq_t, nn_eq_f, nl_add, nl_sub, nl_mul, nl_mulr, nn_add, nn_ix, nn_in, true_and, and_true, gI_if, gIj, gIr, gJ_if, gJi, gJr, gPr, gPi, gPj, hu_if, hv_if, Nat.reduceEqDiff, eq_self, bIT, bIF, Nat.add_zero, Nat.add_assoc, Nat.reduceAdd, nb0, nb1, i10, i00, Bool.false_eq_true, bI_t, bI_f, if_pos, if_neg, w_X12_isWord_39, j_len, j_char, r_peek, h4, h2, okI_t, pkM_eq hT, mb_nz, hc]
    · rw [bI_f (by rw [wm_cons]; exact fun z => hc z.1)]
      rw [w_X12_isWord_4]
      by_cases h0 : bv T s (q + i) = 0
      · simp (disch := omega) only [mlet, ilet, jlet, ↓br_if, ↓br_ifn, ↓reduceIte, nl_lt_t, nl_lt_f, nl_gt_t, nl_gt_f, nl_le_t, nl_le_f, nl_ge_t, nl_ge_f, nl_eq_t, nl_eq_f, nn_lt_t, nn_lt_f, nn_le_t, nn_le_f, nn_eq_t, nn_eq_f, nl_add, nl_sub, nl_mul, nl_mulr, nn_add, nn_ix, nn_in, true_and, and_true, gI_if, gIj, gIr, gJ_if, gJi, gJr, gPr, gPi, gPj, hu_if, hv_if, Nat.reduceEqDiff, eq_self, bIT, bIF, Nat.add_zero, Nat.add_assoc, Nat.reduceAdd, nb0, nb1, i10, i00, Bool.false_eq_true, bI_t, bI_f, if_pos, if_neg, w_X12_isWord_39, w_X12_isWord_4, w_X12_isWord_46, j_len, j_char, r_peek, h4, h2, okI_t, pkM_eq hT, mb_z]
        by_cases hx : wn a ≤ i + 1
        · simp (disch := omega) only [mlet, ilet, jlet, ↓br_if, ↓br_ifn, ↓reduceIte, nl_lt_t, nl_lt_f, nl_gt_t, nl_gt_f, nl_le_t, nl_le_f, nl_ge_t, nl_ge_f, nl_eq_t, nl_eq_f, nn_lt_t, nn_lt_f, nn_le_t, nn_le_f, nn_eq_t, nn_eq_f, nl_add, nl_sub, nl_mul, nl_mulr, nn_add, nn_ix, nn_in, true_and, and_true, gI_if, gIj, gIr, gJ_if, gJi, gJr, gPr, gPi, gPj, hu_if, hv_if, Nat.reduceEqDiff, eq_self, bIT, bIF, Nat.add_zero, Nat.add_assoc, Nat.reduceAdd, nb0, nb1, i10, i00, Bool.false_eq_true, bI_t, bI_f, if_pos, if_neg]
        · simp (disch := omega) only [mlet, ilet, jlet, ↓br_if, ↓br_ifn, ↓reduceIte, nl_lt_t, nl_lt_f, nl_gt_t, nl_gt_f, nl_le_t, nl_le_f, nl_ge_t, nl_ge_f, nl_eq_t, nl_eq_f, nn_lt_t, nn_lt_f, nn_le_t, nn_le_f, nn_eq_t, nn_eq_f, nl_add, nl_sub, nl_mul, nl_mulr, nn_add, nn_ix, nn_in, true_and, and_true, gI_if, gIj, gIr, gJ_if, gJi, gJr, gPr, gPi, gPj, hu_if, hv_if, Nat.reduceEqDiff, eq_self, bIT, bIF, Nat.add_zero, Nat.add_assoc, Nat.reduceAdd, nb0, nb1, i10, i00, Bool.false_eq_true, bI_t, bI_f, if_pos, if_neg]
      · simp (disch := omega) only [mlet, ilet, jlet, ↓br_if, ↓br_ifn, ↓reduceIte, nl_lt_t, nl_lt_f, nl_gt_t, nl_gt_f, nl_le_t, nl_le_f, nl_ge_t, nl_ge_f, nl_eq_t, nl_eq_f, nn_lt_t, nn_lt_f, nn_le_t, nn_le_f, nn_eq_t, nn_eq_f, nl_add, nl_sub, nl_mul, nl_mulr, nn_add, nn_ix, nn_in, true_and, and_true, gI_if, gIj, gIr, gJ_if, gJi, gJr, gPr, gPi, gPj, hu_if, hv_if, Nat.reduceEqDiff, eq_self, bIT, bIF, Nat.add_zero, Nat.add_assoc, Nat.reduceAdd, nb0, nb1, i10, i00, Bool.false_eq_true, bI_t, bI_f, if_pos, if_neg, w_X12_isWord_39, w_X12_isWord_4, w_X12_isWord_46, j_len, j_char, r_peek, h4, h2, okI_t, pkM_eq hT, mb_nz]
        by_cases hx : wn a ≤ i + 1
        · simp (disch := omega) only [mlet, ilet, jlet, ↓br_if, ↓br_ifn, ↓reduceIte, nl_lt_t, nl_lt_f, nl_gt_t, nl_gt_f, nl_le_t, nl_le_f, nl_ge_t, nl_ge_f, nl_eq_t, nl_eq_f, nn_lt_t, nn_lt_f, nn_le_t, nn_le_f, nn_eq_t, nn_eq_f, nl_add, nl_sub, nl_mul, nl_mulr, nn_add, nn_ix, nn_in, true_and, and_true, gI_if, gIj, gIr, gJ_if, gJi, gJr, gPr, gPi, gPj, hu_if, hv_if, Nat.reduceEqDiff, eq_self, bIT, bIF, Nat.add_zero, Nat.add_assoc, Nat.reduceAdd, nb0, nb1, i10, i00, Bool.false_eq_true, bI_t, bI_f, if_pos, if_neg]
        · simp (disch := omega) only [mlet, ilet, jlet, ↓br_if, ↓br_ifn, ↓reduceIte, nl_lt_t, nl_lt_f, nl_gt_t, nl_gt_f, nl_le_t, nl_le_f, nl_ge_t, nl_ge_f, nl_eq_t, nl_eq_f, nn_lt_t, nn_lt_f, nn_le_t, nn_le_f, nn_eq_t, nn_eq_f, nl_add, nl_sub, nl_mul, nl_mulr, nn_add, nn_ix, nn_in, true_and, and_true, gI_if, gIj, gIr, gJ_if, gJi, gJr, gPr, gPi, gPj, hu_if, hv_if, Nat.reduceEqDiff, eq_self, bIT, bIF, Nat.add_zero, Nat.add_assoc, Nat.reduceAdd, nb0, nb1, i10, i00, Bool.false_eq_true, bI_t, bI_f, if_pos, if_neg]
def giw (n a : Nat) (f : Nat → Int32) (s x : Int32) (v : Mm) (Q : Int32 → Mm → Prop) (T : Mm → Prop) : Prop := (v.1 3 = f ∧ v.1 0 9 = s ∧ v.1 0 7 = x → w_X12_isWord n a v Q T) ∧ (¬ (v.1 3 = f ∧ v.1 0 9 = s ∧ v.1 0 7 = x) → Q (bI (wm (fun i => ix (f i)) (ix s) (ix x) (wl a) = true)) v)
theorem r_isWord {n a : Nat} {v : Mm} {Q : Int32 → Mm → Prop} {T : Mm → Prop} : w_X12_isWord n a v Q T = giw n a (v.1 3) (v.1 0 9) (v.1 0 7) v Q T := by
  unfold giw
  exact propext ⟨fun h => ⟨fun _ => h, fun z => absurd ⟨rfl, rfl, rfl⟩ z⟩, fun h => h.1 ⟨rfl, rfl, rfl⟩⟩
theorem giw_eq {n a : Nat} {T : Nat → Nat} {s p : Nat} {f : Nat → Int32} {v : Mm} {Q : Int32 → Mm → Prop} {T' : Mm → Prop} (hT : jT T s p f) {q : Nat} (h : a < 31 ∧ 5000 ≤ n ∧ p ≤ q ∧ q ≤ s) : giw n a f (nI s) (nI q) v Q T' = Q (bI (wm T s q (wl a) = true)) v := by
  have hs := hT.1
  have hl := (xt_ok a h.1).1
  unfold giw
  by_cases hc : v.1 3 = f ∧ v.1 0 9 = nI s ∧ v.1 0 7 = nI q
  · rw [br_pos hc]
    obtain ⟨h1, h2, h3⟩ := hc
    unfold w_X12_isWord
    have := r_iw4 (n := n) (Q := Q) (T' := T') h.1 (v := v) (h1 ▸ hT) h2 h3 h.2.2.1 h.2.2.2 _ n 0 rfl (by omega) (by omega)
    rw [Nat.add_zero, List.drop_zero] at this
    exact this
  · rw [br_neg hc, nn_ix (by omega), nn_ix (by omega)]
    have e := wm_congr (T := fun i => ix (f i)) (T' := T) (s := s) (wl a) q (hT.ixc h.2.2.1)
    simp only [e]
