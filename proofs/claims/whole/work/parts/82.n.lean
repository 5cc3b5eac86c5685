/-! a note's pitch -/
theorem i64_add {a b : Int64} (h1 : -9223372036854775808 ≤ a.toInt + b.toInt) (h2 : a.toInt + b.toInt < 9223372036854775808) : (a + b).toInt = a.toInt + b.toInt := by
  rw [Int64.toInt_add]; exact Int.bmod_eq_of_le (by omega) (by omega)
theorem i64_mul {a b : Int64} (h1 : -9223372036854775808 ≤ a.toInt * b.toInt) (h2 : a.toInt * b.toInt < 9223372036854775808) : (a * b).toInt = a.toInt * b.toInt := by
  rw [Int64.toInt_mul]; exact Int.bmod_eq_of_le (by omega) (by omega)
theorem xf2_ok : ∀ l, l < 7 → 0 ≤ (xf2 l).toInt ∧ (xf2 l).toInt ≤ 11 := by decide +kernel
def pit (l : Nat) (o x : Int32) : Int32 := xf2 l + 12 * (o + 1) + x
def pit6 (l : Nat) (o x : Int32) : Int64 := 12 * (o + 1).toInt64 + (xf2 l).toInt64 + x.toInt64
theorem pit_int {l : Nat} {o x : Int32} (hl : l < 7) (ho : -3000 ≤ o.toInt ∧ o.toInt ≤ 3000) (hx : sgB x) : (pit l o x).toInt = (xf2 l).toInt + 12 * (o.toInt + 1) + x.toInt ∧ (pit6 l o x).toInt = (xf2 l).toInt + 12 * (o.toInt + 1) + x.toInt := by
  have hf := xf2_ok l hl
  unfold sgB at hx
  have e1 : (1 : Int32).toInt = 1 := by decide
  have e12 : (12 : Int32).toInt = 12 := by decide
  have e12' : (12 : Int64).toInt = 12 := by decide
  have s1 : (o + 1).toInt = o.toInt + 1 := by rw [i32_add (by omega) (by omega), e1]
  have s2 : (12 * (o + 1)).toInt = 12 * (o.toInt + 1) := by rw [i32_mul (by rw [e12, s1]; omega) (by rw [e12, s1]; omega), e12, s1]
  have s3 : (xf2 l + 12 * (o + 1)).toInt = (xf2 l).toInt + 12 * (o.toInt + 1) := by rw [i32_add (by rw [s2]; omega) (by rw [s2]; omega), s2]
  have t1 : ((o + 1).toInt64).toInt = o.toInt + 1 := by rw [Int32.toInt_toInt64, s1]
  have t2 : (12 * (o + 1).toInt64).toInt = 12 * (o.toInt + 1) := by rw [i64_mul (by rw [e12', t1]; omega) (by rw [e12', t1]; omega), e12', t1]
  have t3 : (12 * (o + 1).toInt64 + (xf2 l).toInt64).toInt = 12 * (o.toInt + 1) + (xf2 l).toInt := by
    rw [i64_add (by rw [t2, Int32.toInt_toInt64]; omega) (by rw [t2, Int32.toInt_toInt64]; omega), t2, Int32.toInt_toInt64]
  constructor
  · unfold pit; rw [i32_add (by rw [s3]; omega) (by rw [s3]; omega), s3]
  · unfold pit6; rw [i64_add (by rw [t3, Int32.toInt_toInt64]; omega) (by rw [t3, Int32.toInt_toInt64]; omega), t3, Int32.toInt_toInt64]; omega
theorem pit_eq {l : Nat} {o x : Int32} (hl : l < 7) (ho : -3000 ≤ o.toInt ∧ o.toInt ≤ 3000) (hx : sgB x) : (pit6 l o x).toInt32 = pit l o x := by
  have h := pit_int hl ho hx
  have hf := xf2_ok l hl
  unfold sgB at hx
  rw [← Int32.toInt_inj, Int64.toInt_toInt32, h.1, h.2]
  exact Int.bmod_eq_of_le (by omega) (by omega)
def pOk (l : Nat) (o x : Int32) : Prop := 0 ≤ (xf2 l).toInt + 12 * (o.toInt + 1) + x.toInt ∧ (xf2 l).toInt + 12 * (o.toInt + 1) + x.toInt ≤ 127
theorem pOk_in {l : Nat} {o x : Int32} (hl : l < 7) (hx : sgB x) (h : pOk l o x) : inr' o := by
  have hf := xf2_ok l hl
  unfold pOk at h
  unfold sgB at hx
  unfold inr'
  omega
theorem pit_c {l : Nat} {o x : Int32} (hl : l < 7) (ho : -3000 ≤ o.toInt ∧ o.toInt ≤ 3000) (hx : sgB x) : pOk l o x ↔ (¬ pit l o x < 0 ∧ pit l o x ≤ 127) := by
  have h := pit_int hl ho hx
  have e0 : (0 : Int32).toInt = 0 := by decide
  have e127 : (127 : Int32).toInt = 127 := by decide
  unfold pOk
  rw [Int32.lt_iff_toInt_lt, Int32.le_iff_toInt_le, h.1, e0, e127]
  omega
theorem pit_m {l : Nat} {o x : Int32} (hl : l < 7) (ho : -3000 ≤ o.toInt ∧ o.toInt ≤ 3000) (hx : sgB x) : pOk l o x ↔ ((0 : Int64) ≤ pit6 l o x ∧ pit6 l o x ≤ 127) := by
  have h := pit_int hl ho hx
  have e0 : (0 : Int64).toInt = 0 := by decide
  have e127 : (127 : Int64).toInt = 127 := by decide
  unfold pOk
  rw [Int64.le_iff_toInt_le, Int64.le_iff_toInt_le, h.2, e0, e127]
theorem r_semi {n l : Nat} {v : Mm} {Q : Int32 → Mm → Prop} {T' : Mm → Prop} (hl : l < 7) : w_X12_semitone n (nI l) v Q T' = Q (xf2 l) v := by
  unfold w_X12_semitone w_X12_semitone_57
  simp only [br_if, br_ifn]
  have hcs : l = 0 ∨ l = 1 ∨ l = 2 ∨ l = 3 ∨ l = 4 ∨ l = 5 ∨ l = 6 := by omega
  rcases hcs with rfl | rfl | rfl | rfl | rfl | rfl | rfl <;> simp (disch := omega) only [↓mletE, ↓iletE, ↓jletE, ↓br_if, ↓br_ifn, ↓reduceIte, nl_lt, nl_gt, nl_le, nl_ge, nl_eq, nn_lt, nn_le, nn_eq, nl_add, nl_sub, nl_mul, nl_mulr, nn_add, nn_ix, nn_in, true_and, and_true, false_and, and_false, gI_if, gIj, gIr, gJ_if, gJi, gJr, gPr, gPi, gPj, hu_if, hv_if, Nat.reduceEqDiff, Nat.reduceLT, Nat.reduceLeDiff, eq_self, bIT, bIF, Nat.add_zero, Nat.add_assoc, Nat.reduceAdd, nb0, nb1, i10, i00, Bool.false_eq_true, not_true_eq_false, not_false_eq_true, reduceIte] <;> rfl
/-- the class's rest of a note, up to its length -/
def cOwn (n : Nat) (idx : Int32) (Q : Mm → Prop) (u4 : Mm) : Prop :=
  (idx < 0 → w_X4_readNote_311 n u4 Q) ∧
  (¬ idx < 0 → ((12 : Int32) ≤ idx → w_X4_readNote_311 n u4 Q) ∧
  (¬ (12 : Int32) ≤ idx → vp_in idx 12 ∧ (mlet (setI u4 64 (ix idx) (u4.1 38 7)) fun u5 =>
  vp_in idx 12 ∧ (mlet (setI u5 65 (ix idx) (u5.1 38 8)) fun u6 =>
  w_X4_readNote_311 n u6 Q))))
def ndf (x pl : Int32) : Int32 := if x = pl then 0 else 1
def uNoF (c : Nat) (l : Nat) (o x fl nd pt pl : Int32) (u : Mm) : Mm := setI (setI (setI (setI (setI (setI (setI (setI (setI u 46 (19 * c + 4) (nI l)) 46 (19 * c + 5) o) 46 (19 * c + 6) x) 46 (19 * c + 7) fl) 46 (19 * c + 18) nd) 46 (19 * c + 9) 1) 33 6 4) 33 7 pl) 46 (19 * c + 3) pt
theorem c_pitch {n c l : Nat} {x o : Int32} {u : Mm} {Q : Mm → Prop} (hc : c < 400) (hl : l < 7) (h36 : u.1 36 3 = nI (c + 1)) (h6 : u.1 33 6 = 0) (h4 : u.1 46 (19 * c + 4) = nI l) (h5 : u.1 46 (19 * c + 5) = o) (hx : u.1 46 (19 * c + 6) = x) : w_X4_putPitch n (nI c) u Q = if (¬ pit l o x < 0 ∧ pit l o x ≤ 127) then Q (setI u 46 (19 * c + 3) (pit l o x)) else Q (setI (setI (setI u 33 6 4) 33 7 (u.1 46 (19 * c + 16))) 46 (19 * c + 3) (pit l o x)) := by
  have e1 : (nI l < 0) = False := eq_false (nI_pos (by omega))
  have e2 : (7 ≤ l) = False := eq_false (by omega)
  have hp : xf2 l + 12 * (o + 1) + x = pit l o x := rfl
  by_cases hy1 : pit l o x < 0
  · rw [if_neg (fun z => z.1 hy1)]
    simp (disch := omega) only [↓mletE, ↓iletE, ↓jletE, ↓br_if, ↓br_ifn, ↓reduceIte, nl_lt, nl_gt, nl_le, nl_ge, nl_eq, nn_lt, nn_le, nn_eq, nl_add, nl_sub, nl_mul, nl_mulr, nn_add, nn_ix, nn_in, true_and, and_true, false_and, and_false, gI_if, gIj, gIr, gJ_if, gJi, gJr, gPr, gPi, gPj, hu_if, hv_if, Nat.reduceEqDiff, Nat.reduceLT, Nat.reduceLeDiff, eq_self, bIT, bIF, Nat.add_zero, Nat.add_assoc, Nat.reduceAdd, nb0, nb1, i10, i00, Bool.false_eq_true, not_true_eq_false, not_false_eq_true, reduceIte, w_X4_putPitch, w_X4_putPitch_28, w_X4_putPitch_29, w_X4_putPitch_71, w_X4_putPitch_89, ↓c_put, ↓c_cel, ↓c_fail, h36, h6, h4, h5, hx, cput_in, ccell_in, cfl_0, e1, e2, hp, hy1]
  · by_cases hy2 : pit l o x ≤ 127
    · rw [if_pos ⟨hy1, hy2⟩]
      simp (disch := omega) only [↓mletE, ↓iletE, ↓jletE, ↓br_if, ↓br_ifn, ↓reduceIte, nl_lt, nl_gt, nl_le, nl_ge, nl_eq, nn_lt, nn_le, nn_eq, nl_add, nl_sub, nl_mul, nl_mulr, nn_add, nn_ix, nn_in, true_and, and_true, false_and, and_false, gI_if, gIj, gIr, gJ_if, gJi, gJr, gPr, gPi, gPj, hu_if, hv_if, Nat.reduceEqDiff, Nat.reduceLT, Nat.reduceLeDiff, eq_self, bIT, bIF, Nat.add_zero, Nat.add_assoc, Nat.reduceAdd, nb0, nb1, i10, i00, Bool.false_eq_true, not_true_eq_false, not_false_eq_true, reduceIte, w_X4_putPitch, w_X4_putPitch_28, w_X4_putPitch_29, w_X4_putPitch_71, w_X4_putPitch_89, ↓c_put, ↓c_cel, ↓c_fail, h36, h6, h4, h5, hx, cput_in, ccell_in, cfl_0, e1, e2, hp, hy1, hy2]
    · rw [if_neg (fun z => hy2 z.2)]
      simp (disch := omega) only [↓mletE, ↓iletE, ↓jletE, ↓br_if, ↓br_ifn, ↓reduceIte, nl_lt, nl_gt, nl_le, nl_ge, nl_eq, nn_lt, nn_le, nn_eq, nl_add, nl_sub, nl_mul, nl_mulr, nn_add, nn_ix, nn_in, true_and, and_true, false_and, and_false, gI_if, gIj, gIr, gJ_if, gJi, gJr, gPr, gPi, gPj, hu_if, hv_if, Nat.reduceEqDiff, Nat.reduceLT, Nat.reduceLeDiff, eq_self, bIT, bIF, Nat.add_zero, Nat.add_assoc, Nat.reduceAdd, nb0, nb1, i10, i00, Bool.false_eq_true, not_true_eq_false, not_false_eq_true, reduceIte, w_X4_putPitch, w_X4_putPitch_28, w_X4_putPitch_29, w_X4_putPitch_71, w_X4_putPitch_89, ↓c_put, ↓c_cel, ↓c_fail, h36, h6, h4, h5, hx, cput_in, ccell_in, cfl_0, e1, e2, hp, hy1, hy2]
theorem c_n178 {n c l : Nat} {idx x fl o pl : Int32} {u : Mm} {Q : Mm → Prop} (hc : c < 400) (hl : l < 7) (h36 : u.1 36 3 = nI (c + 1)) (h6 : u.1 33 6 = 0) (hfl : fl = 0 ∨ fl = 1) : w_X4_readNote_178 n idx x fl (nI l) o (nI c) pl u Q = if (¬ pit l o x < 0 ∧ pit l o x ≤ 127) then w_X4_readLength n (uNo c l o x fl (ndf x pl) (pit l o x) u) (cOwn n idx Q) else w_X4_readLength n (uNoF c l o x fl (ndf x pl) (pit l o x) (u.1 46 (19 * c + 16)) u) (cOwn n idx Q) := by
  have e1 : (nI l < 0) = False := eq_false (nI_pos (by omega))
  have e2 : (7 ≤ l) = False := eq_false (by omega)
  unfold uNo uNoF
  have key : ∀ nd : Int32, nd = ndf x pl → w_X4_readNote_256 n idx (nI c) nd 18 (nI c) (setI (setI (setI (setI u 46 (19 * c + 4) (nI l)) 46 (19 * c + 5) o) 46 (19 * c + 6) x) 46 (19 * c + 7) fl) Q = if (¬ pit l o x < 0 ∧ pit l o x ≤ 127) then w_X4_readLength n (setI (setI (setI (setI (setI (setI (setI u 46 (19 * c + 4) (nI l)) 46 (19 * c + 5) o) 46 (19 * c + 6) x) 46 (19 * c + 7) fl) 46 (19 * c + 18) (ndf x pl)) 46 (19 * c + 9) 1) 46 (19 * c + 3) (pit l o x)) (cOwn n idx Q) else w_X4_readLength n (setI (setI (setI (setI (setI (setI (setI (setI (setI u 46 (19 * c + 4) (nI l)) 46 (19 * c + 5) o) 46 (19 * c + 6) x) 46 (19 * c + 7) fl) 46 (19 * c + 18) (ndf x pl)) 46 (19 * c + 9) 1) 33 6 4) 33 7 (u.1 46 (19 * c + 16))) 46 (19 * c + 3) (pit l o x)) (cOwn n idx Q) := by
    intro nd hnd
    subst hnd
    have hpi := c_pitch (n := n) (l := l) (x := x) (o := o) (u := setI (setI (setI (setI (setI (setI u 46 (19 * c + 4) (nI l)) 46 (19 * c + 5) o) 46 (19 * c + 6) x) 46 (19 * c + 7) fl) 46 (19 * c + 18) (ndf x pl)) 46 (19 * c + 9) 1) (Q := fun u3 => w_X4_readLength n u3 (cOwn n idx Q)) hc hl (by simp (disch := omega) only [gI_if, gIj, gIr, gJ_if, gJi, gJr, gPr, gPi, gPj, hu_if, hv_if, Nat.reduceEqDiff, eq_self, reduceIte, if_neg, if_pos]; exact h36) (by simp (disch := omega) only [gI_if, gIj, gIr, gJ_if, gJi, gJr, gPr, gPi, gPj, hu_if, hv_if, Nat.reduceEqDiff, eq_self, reduceIte, if_neg, if_pos]; exact h6) (by simp (disch := omega) only [gI_if, gIj, gIr, gJ_if, gJi, gJr, gPr, gPi, gPj, hu_if, hv_if, Nat.reduceEqDiff, eq_self, reduceIte, if_neg, if_pos]) (by simp (disch := omega) only [gI_if, gIj, gIr, gJ_if, gJi, gJr, gPr, gPi, gPj, hu_if, hv_if, Nat.reduceEqDiff, eq_self, reduceIte, if_neg, if_pos]) (by simp (disch := omega) only [gI_if, gIj, gIr, gJ_if, gJi, gJr, gPr, gPi, gPj, hu_if, hv_if, Nat.reduceEqDiff, eq_self, reduceIte, if_neg, if_pos])
    have h16 : (setI (setI (setI (setI (setI (setI u 46 (19 * c + 4) (nI l)) 46 (19 * c + 5) o) 46 (19 * c + 6) x) 46 (19 * c + 7) fl) 46 (19 * c + 18) (ndf x pl)) 46 (19 * c + 9) 1).1 46 (19 * c + 16) = u.1 46 (19 * c + 16) := by simp (disch := omega) only [gI_if, gIj, gIr, gJ_if, gJi, gJr, gPr, gPi, gPj, hu_if, hv_if, Nat.reduceEqDiff, eq_self, reduceIte, if_neg, if_pos]
    rw [h16] at hpi
    rw [← hpi]
    unfold w_X4_readNote_256
    rw [c_put, c_put]
    have g1 : cput ((setI (setI (setI (setI u 46 (19 * c + 4) (nI l)) 46 (19 * c + 5) o) 46 (19 * c + 6) x) 46 (19 * c + 7) fl).1 36 3) (nI c) 18 (ndf x pl) (setI (setI (setI (setI u 46 (19 * c + 4) (nI l)) 46 (19 * c + 5) o) 46 (19 * c + 6) x) 46 (19 * c + 7) fl) = setI (setI (setI (setI (setI u 46 (19 * c + 4) (nI l)) 46 (19 * c + 5) o) 46 (19 * c + 6) x) 46 (19 * c + 7) fl) 46 (19 * c + 18) (ndf x pl) := by
      rw [show (setI (setI (setI (setI u 46 (19 * c + 4) (nI l)) 46 (19 * c + 5) o) 46 (19 * c + 6) x) 46 (19 * c + 7) fl).1 36 3 = nI (c + 1) from by simp (disch := omega) only [↓mletE, ↓iletE, ↓jletE, ↓br_if, ↓br_ifn, ↓reduceIte, nl_lt, nl_gt, nl_le, nl_ge, nl_eq, nn_lt, nn_le, nn_eq, nl_add, nl_sub, nl_mul, nl_mulr, nn_add, nn_ix, nn_in, true_and, and_true, false_and, and_false, gI_if, gIj, gIr, gJ_if, gJi, gJr, gPr, gPi, gPj, hu_if, hv_if, Nat.reduceEqDiff, Nat.reduceLT, Nat.reduceLeDiff, eq_self, bIT, bIF, Nat.add_zero, Nat.add_assoc, Nat.reduceAdd, nb0, nb1, i10, i00, Bool.false_eq_true, not_true_eq_false, not_false_eq_true, reduceIte]; exact h36]
      exact cput_in ⟨by omega, by omega, by decide⟩
    rw [g1]
    have g2 : cput ((setI (setI (setI (setI (setI u 46 (19 * c + 4) (nI l)) 46 (19 * c + 5) o) 46 (19 * c + 6) x) 46 (19 * c + 7) fl) 46 (19 * c + 18) (ndf x pl)).1 36 3) (nI c) 9 1 (setI (setI (setI (setI (setI u 46 (19 * c + 4) (nI l)) 46 (19 * c + 5) o) 46 (19 * c + 6) x) 46 (19 * c + 7) fl) 46 (19 * c + 18) (ndf x pl)) = setI (setI (setI (setI (setI (setI u 46 (19 * c + 4) (nI l)) 46 (19 * c + 5) o) 46 (19 * c + 6) x) 46 (19 * c + 7) fl) 46 (19 * c + 18) (ndf x pl)) 46 (19 * c + 9) 1 := by
      rw [show (setI (setI (setI (setI (setI u 46 (19 * c + 4) (nI l)) 46 (19 * c + 5) o) 46 (19 * c + 6) x) 46 (19 * c + 7) fl) 46 (19 * c + 18) (ndf x pl)).1 36 3 = nI (c + 1) from by simp (disch := omega) only [↓mletE, ↓iletE, ↓jletE, ↓br_if, ↓br_ifn, ↓reduceIte, nl_lt, nl_gt, nl_le, nl_ge, nl_eq, nn_lt, nn_le, nn_eq, nl_add, nl_sub, nl_mul, nl_mulr, nn_add, nn_ix, nn_in, true_and, and_true, false_and, and_false, gI_if, gIj, gIr, gJ_if, gJi, gJr, gPr, gPi, gPj, hu_if, hv_if, Nat.reduceEqDiff, Nat.reduceLT, Nat.reduceLeDiff, eq_self, bIT, bIF, Nat.add_zero, Nat.add_assoc, Nat.reduceAdd, nb0, nb1, i10, i00, Bool.false_eq_true, not_true_eq_false, not_false_eq_true, reduceIte]; exact h36]
      exact cput_in ⟨by omega, by omega, by decide⟩
    rw [g2]
    rfl
  by_cases hxp : x = pl
  · rw [← key 0 (by unfold ndf; rw [if_pos hxp])]
    rcases hfl with rfl | rfl
    · simp (disch := omega) only [↓mletE, ↓iletE, ↓jletE, ↓br_if, ↓br_ifn, ↓reduceIte, nl_lt, nl_gt, nl_le, nl_ge, nl_eq, nn_lt, nn_le, nn_eq, nl_add, nl_sub, nl_mul, nl_mulr, nn_add, nn_ix, nn_in, true_and, and_true, false_and, and_false, gI_if, gIj, gIr, gJ_if, gJi, gJr, gPr, gPi, gPj, hu_if, hv_if, Nat.reduceEqDiff, Nat.reduceLT, Nat.reduceLeDiff, eq_self, bIT, bIF, Nat.add_zero, Nat.add_assoc, Nat.reduceAdd, nb0, nb1, i10, i00, Bool.false_eq_true, not_true_eq_false, not_false_eq_true, reduceIte, w_X4_readNote_178, w_X4_readNote_233, ↓c_put, h36, cput_in, hxp]
    · simp (disch := omega) only [↓mletE, ↓iletE, ↓jletE, ↓br_if, ↓br_ifn, ↓reduceIte, nl_lt, nl_gt, nl_le, nl_ge, nl_eq, nn_lt, nn_le, nn_eq, nl_add, nl_sub, nl_mul, nl_mulr, nn_add, nn_ix, nn_in, true_and, and_true, false_and, and_false, gI_if, gIj, gIr, gJ_if, gJi, gJr, gPr, gPi, gPj, hu_if, hv_if, Nat.reduceEqDiff, Nat.reduceLT, Nat.reduceLeDiff, eq_self, bIT, bIF, Nat.add_zero, Nat.add_assoc, Nat.reduceAdd, nb0, nb1, i10, i00, Bool.false_eq_true, not_true_eq_false, not_false_eq_true, reduceIte, w_X4_readNote_178, w_X4_readNote_233, ↓c_put, h36, cput_in, hxp]
  · rw [← key 1 (by unfold ndf; rw [if_neg hxp])]
    rcases hfl with rfl | rfl
    · simp (disch := omega) only [↓mletE, ↓iletE, ↓jletE, ↓br_if, ↓br_ifn, ↓reduceIte, nl_lt, nl_gt, nl_le, nl_ge, nl_eq, nn_lt, nn_le, nn_eq, nl_add, nl_sub, nl_mul, nl_mulr, nn_add, nn_ix, nn_in, true_and, and_true, false_and, and_false, gI_if, gIj, gIr, gJ_if, gJi, gJr, gPr, gPi, gPj, hu_if, hv_if, Nat.reduceEqDiff, Nat.reduceLT, Nat.reduceLeDiff, eq_self, bIT, bIF, Nat.add_zero, Nat.add_assoc, Nat.reduceAdd, nb0, nb1, i10, i00, Bool.false_eq_true, not_true_eq_false, not_false_eq_true, reduceIte, w_X4_readNote_178, w_X4_readNote_233, ↓c_put, h36, cput_in, hxp]
    · simp (disch := omega) only [↓mletE, ↓iletE, ↓jletE, ↓br_if, ↓br_ifn, ↓reduceIte, nl_lt, nl_gt, nl_le, nl_ge, nl_eq, nn_lt, nn_le, nn_eq, nl_add, nl_sub, nl_mul, nl_mulr, nn_add, nn_ix, nn_in, true_and, and_true, false_and, and_false, gI_if, gIj, gIr, gJ_if, gJi, gJr, gPr, gPi, gPj, hu_if, hv_if, Nat.reduceEqDiff, Nat.reduceLT, Nat.reduceLeDiff, eq_self, bIT, bIF, Nat.add_zero, Nat.add_assoc, Nat.reduceAdd, nb0, nb1, i10, i00, Bool.false_eq_true, not_true_eq_false, not_false_eq_true, reduceIte, w_X4_readNote_178, w_X4_readNote_233, ↓c_put, h36, cput_in, hxp]
theorem r_a47 {n c l : Nat} {x fl o pl pp : Int32} {v : Mm} {Q : Int32 → Mm → Prop} {T' : Mm → Prop} (hc : c < 400) (hl : l < 7) (ho : -3000 ≤ o.toInt ∧ o.toInt ≤ 3000) (hx : sgB x) (h56 : v.1 0 56 = nI l) (h57 : v.1 0 57 = o) (h55 : v.1 0 55 = fl) (h58 : v.1 0 58 = pp) (hfl : fl = 0 ∨ fl = 1) [Decidable (pOk l o x)] : w_X12_addNote_47 n (nI c) pl x v Q T' = if pOk l o x then Q (nI c) (vNo c l o x fl pl (pit l o x) v) else T' (setI (setI (setI (setI (setI (setI (setI (setI v 6 (17 * c + 4) (nI l)) 6 (17 * c + 5) o) 6 (17 * c + 6) x) 6 (17 * c + 7) fl) 6 (17 * c + 9) 1) 10 c pl) 1 6 4) 1 7 pp) := by
  have hpe := pit_eq hl ho hx
  have hpm := pit_m hl ho hx
  have hp : (12 : Int64) * (o + 1).toInt64 + (xf2 l).toInt64 + x.toInt64 = pit6 l o x := rfl
  unfold vNo
  by_cases hy : pOk l o x
  · rw [if_pos hy]
    have hy' : ((0 : Int64) ≤ pit6 l o x ∧ pit6 l o x ≤ 127) = True := eq_true (hpm.mp hy)
    rcases hfl with rfl | rfl
    · simp (disch := omega) only [↓mletE, ↓iletE, ↓jletE, ↓br_if, ↓br_ifn, ↓reduceIte, nl_lt, nl_gt, nl_le, nl_ge, nl_eq, nn_lt, nn_le, nn_eq, nl_add, nl_sub, nl_mul, nl_mulr, nn_add, nn_ix, nn_in, true_and, and_true, false_and, and_false, gI_if, gIj, gIr, gJ_if, gJi, gJr, gPr, gPi, gPj, hu_if, hv_if, Nat.reduceEqDiff, Nat.reduceLT, Nat.reduceLeDiff, eq_self, bIT, bIF, Nat.add_zero, Nat.add_assoc, Nat.reduceAdd, nb0, nb1, i10, i00, Bool.false_eq_true, not_true_eq_false, not_false_eq_true, reduceIte, w_X12_addNote_47, w_X12_addNote_94, w_X12_addNote_159, w_X12_set, h56, h57, h55, h58, r_semi hl, hp, ↓r_in, hy', hpe]
    · simp (disch := omega) only [↓mletE, ↓iletE, ↓jletE, ↓br_if, ↓br_ifn, ↓reduceIte, nl_lt, nl_gt, nl_le, nl_ge, nl_eq, nn_lt, nn_le, nn_eq, nl_add, nl_sub, nl_mul, nl_mulr, nn_add, nn_ix, nn_in, true_and, and_true, false_and, and_false, gI_if, gIj, gIr, gJ_if, gJi, gJr, gPr, gPi, gPj, hu_if, hv_if, Nat.reduceEqDiff, Nat.reduceLT, Nat.reduceLeDiff, eq_self, bIT, bIF, Nat.add_zero, Nat.add_assoc, Nat.reduceAdd, nb0, nb1, i10, i00, Bool.false_eq_true, not_true_eq_false, not_false_eq_true, reduceIte, w_X12_addNote_47, w_X12_addNote_94, w_X12_addNote_159, w_X12_set, h56, h57, h55, h58, r_semi hl, hp, ↓r_in, hy', hpe]
  · rw [if_neg hy]
    have hy' : ((0 : Int64) ≤ pit6 l o x ∧ pit6 l o x ≤ 127) = False := eq_false (fun z => hy (hpm.mpr z))
    rcases hfl with rfl | rfl
    · simp (disch := omega) only [↓mletE, ↓iletE, ↓jletE, ↓br_if, ↓br_ifn, ↓reduceIte, nl_lt, nl_gt, nl_le, nl_ge, nl_eq, nn_lt, nn_le, nn_eq, nl_add, nl_sub, nl_mul, nl_mulr, nn_add, nn_ix, nn_in, true_and, and_true, false_and, and_false, gI_if, gIj, gIr, gJ_if, gJi, gJr, gPr, gPi, gPj, hu_if, hv_if, Nat.reduceEqDiff, Nat.reduceLT, Nat.reduceLeDiff, eq_self, bIT, bIF, Nat.add_zero, Nat.add_assoc, Nat.reduceAdd, nb0, nb1, i10, i00, Bool.false_eq_true, not_true_eq_false, not_false_eq_true, reduceIte, w_X12_addNote_47, w_X12_addNote_94, w_X12_addNote_159, w_X12_set, h56, h57, h55, h58, r_semi hl, hp, ↓r_in, hy', ↓r_fail]
    · simp (disch := omega) only [↓mletE, ↓iletE, ↓jletE, ↓br_if, ↓br_ifn, ↓reduceIte, nl_lt, nl_gt, nl_le, nl_ge, nl_eq, nn_lt, nn_le, nn_eq, nl_add, nl_sub, nl_mul, nl_mulr, nn_add, nn_ix, nn_in, true_and, and_true, false_and, and_false, gI_if, gIj, gIr, gJ_if, gJi, gJr, gPr, gPi, gPj, hu_if, hv_if, Nat.reduceEqDiff, Nat.reduceLT, Nat.reduceLeDiff, eq_self, bIT, bIF, Nat.add_zero, Nat.add_assoc, Nat.reduceAdd, nb0, nb1, i10, i00, Bool.false_eq_true, not_true_eq_false, not_false_eq_true, reduceIte, w_X12_addNote_47, w_X12_addNote_94, w_X12_addNote_159, w_X12_set, h56, h57, h55, h58, r_semi hl, hp, ↓r_in, hy', ↓r_fail]
