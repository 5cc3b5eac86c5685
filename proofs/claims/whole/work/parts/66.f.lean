/-! words, one by one (by program); places in strings; keeping -/
theorem wl_0 : wl 0 = [110, 111, 110, 101] := by decide +kernel
theorem wn_0 : wn 0 = 4 := by decide +kernel
theorem wt_0 {T : Nat → Nat} {s p : Nat} (h : bv T s p = 110 ∧ bv T s (p + 1) = 111 ∧ bv T s (p + 2) = 110 ∧ bv T s (p + 3) = 101) : wm T s p (wl 0) = true := by
  rw [wl_0]; simp only [wm, Bool.and_eq_true, beq_iff_eq, Nat.add_assoc, Nat.reduceAdd]; simp [h]
theorem wf_0 {T : Nat → Nat} {s p : Nat} (h : ¬ (bv T s p = 110 ∧ bv T s (p + 1) = 111 ∧ bv T s (p + 2) = 110 ∧ bv T s (p + 3) = 101)) : wm T s p (wl 0) = false := by
  rw [← Bool.not_eq_true, wl_0]; simp only [wm, Bool.and_eq_true, beq_iff_eq, Nat.add_assoc, Nat.reduceAdd, and_true]; exact h
theorem wl_1 : wl 1 = [67, 124] := by decide +kernel
theorem wn_1 : wn 1 = 2 := by decide +kernel
theorem wt_1 {T : Nat → Nat} {s p : Nat} (h : bv T s p = 67 ∧ bv T s (p + 1) = 124) : wm T s p (wl 1) = true := by
  rw [wl_1]; simp only [wm, Bool.and_eq_true, beq_iff_eq, Nat.add_assoc, Nat.reduceAdd]; simp [h]
theorem wf_1 {T : Nat → Nat} {s p : Nat} (h : ¬ (bv T s p = 67 ∧ bv T s (p + 1) = 124)) : wm T s p (wl 1) = false := by
  rw [← Bool.not_eq_true, wl_1]; simp only [wm, Bool.and_eq_true, beq_iff_eq, Nat.add_assoc, Nat.reduceAdd, and_true]; exact h
theorem wl_2 : wl 2 = [67] := by decide +kernel
theorem wn_2 : wn 2 = 1 := by decide +kernel
theorem wt_2 {T : Nat → Nat} {s p : Nat} (h : bv T s p = 67) : wm T s p (wl 2) = true := by
  rw [wl_2]; simp only [wm, Bool.and_eq_true, beq_iff_eq, Nat.add_assoc, Nat.reduceAdd]; simp [h]
theorem wf_2 {T : Nat → Nat} {s p : Nat} (h : ¬ (bv T s p = 67)) : wm T s p (wl 2) = false := by
  rw [← Bool.not_eq_true, wl_2]; simp only [wm, Bool.and_eq_true, beq_iff_eq, Nat.add_assoc, Nat.reduceAdd, and_true]; exact h
theorem wl_4 : wl 4 = [35] := by decide +kernel
theorem wn_4 : wn 4 = 1 := by decide +kernel
theorem wt_4 {T : Nat → Nat} {s p : Nat} (h : bv T s p = 35) : wm T s p (wl 4) = true := by
  rw [wl_4]; simp only [wm, Bool.and_eq_true, beq_iff_eq, Nat.add_assoc, Nat.reduceAdd]; simp [h]
theorem wf_4 {T : Nat → Nat} {s p : Nat} (h : ¬ (bv T s p = 35)) : wm T s p (wl 4) = false := by
  rw [← Bool.not_eq_true, wl_4]; simp only [wm, Bool.and_eq_true, beq_iff_eq, Nat.add_assoc, Nat.reduceAdd, and_true]; exact h
theorem wl_5 : wl 5 = [98] := by decide +kernel
theorem wn_5 : wn 5 = 1 := by decide +kernel
theorem wt_5 {T : Nat → Nat} {s p : Nat} (h : bv T s p = 98) : wm T s p (wl 5) = true := by
  rw [wl_5]; simp only [wm, Bool.and_eq_true, beq_iff_eq, Nat.add_assoc, Nat.reduceAdd]; simp [h]
theorem wf_5 {T : Nat → Nat} {s p : Nat} (h : ¬ (bv T s p = 98)) : wm T s p (wl 5) = false := by
  rw [← Bool.not_eq_true, wl_5]; simp only [wm, Bool.and_eq_true, beq_iff_eq, Nat.add_assoc, Nat.reduceAdd, and_true]; exact h
theorem wl_6 : wl 6 = [109, 97, 106] := by decide +kernel
theorem wn_6 : wn 6 = 3 := by decide +kernel
theorem wt_6 {T : Nat → Nat} {s p : Nat} (h : bv T s p = 109 ∧ bv T s (p + 1) = 97 ∧ bv T s (p + 2) = 106) : wm T s p (wl 6) = true := by
  rw [wl_6]; simp only [wm, Bool.and_eq_true, beq_iff_eq, Nat.add_assoc, Nat.reduceAdd]; simp [h]
theorem wf_6 {T : Nat → Nat} {s p : Nat} (h : ¬ (bv T s p = 109 ∧ bv T s (p + 1) = 97 ∧ bv T s (p + 2) = 106)) : wm T s p (wl 6) = false := by
  rw [← Bool.not_eq_true, wl_6]; simp only [wm, Bool.and_eq_true, beq_iff_eq, Nat.add_assoc, Nat.reduceAdd, and_true]; exact h
theorem wl_7 : wl 7 = [105, 111, 110] := by decide +kernel
theorem wn_7 : wn 7 = 3 := by decide +kernel
theorem wt_7 {T : Nat → Nat} {s p : Nat} (h : bv T s p = 105 ∧ bv T s (p + 1) = 111 ∧ bv T s (p + 2) = 110) : wm T s p (wl 7) = true := by
  rw [wl_7]; simp only [wm, Bool.and_eq_true, beq_iff_eq, Nat.add_assoc, Nat.reduceAdd]; simp [h]
theorem wf_7 {T : Nat → Nat} {s p : Nat} (h : ¬ (bv T s p = 105 ∧ bv T s (p + 1) = 111 ∧ bv T s (p + 2) = 110)) : wm T s p (wl 7) = false := by
  rw [← Bool.not_eq_true, wl_7]; simp only [wm, Bool.and_eq_true, beq_iff_eq, Nat.add_assoc, Nat.reduceAdd, and_true]; exact h
theorem wl_8 : wl 8 = [100, 111, 114] := by decide +kernel
theorem wn_8 : wn 8 = 3 := by decide +kernel
theorem wt_8 {T : Nat → Nat} {s p : Nat} (h : bv T s p = 100 ∧ bv T s (p + 1) = 111 ∧ bv T s (p + 2) = 114) : wm T s p (wl 8) = true := by
  rw [wl_8]; simp only [wm, Bool.and_eq_true, beq_iff_eq, Nat.add_assoc, Nat.reduceAdd]; simp [h]
theorem wf_8 {T : Nat → Nat} {s p : Nat} (h : ¬ (bv T s p = 100 ∧ bv T s (p + 1) = 111 ∧ bv T s (p + 2) = 114)) : wm T s p (wl 8) = false := by
  rw [← Bool.not_eq_true, wl_8]; simp only [wm, Bool.and_eq_true, beq_iff_eq, Nat.add_assoc, Nat.reduceAdd, and_true]; exact h
theorem wl_9 : wl 9 = [112, 104, 114] := by decide +kernel
theorem wn_9 : wn 9 = 3 := by decide +kernel
theorem wt_9 {T : Nat → Nat} {s p : Nat} (h : bv T s p = 112 ∧ bv T s (p + 1) = 104 ∧ bv T s (p + 2) = 114) : wm T s p (wl 9) = true := by
  rw [wl_9]; simp only [wm, Bool.and_eq_true, beq_iff_eq, Nat.add_assoc, Nat.reduceAdd]; simp [h]
theorem wf_9 {T : Nat → Nat} {s p : Nat} (h : ¬ (bv T s p = 112 ∧ bv T s (p + 1) = 104 ∧ bv T s (p + 2) = 114)) : wm T s p (wl 9) = false := by
  rw [← Bool.not_eq_true, wl_9]; simp only [wm, Bool.and_eq_true, beq_iff_eq, Nat.add_assoc, Nat.reduceAdd, and_true]; exact h
theorem wl_10 : wl 10 = [108, 121, 100] := by decide +kernel
theorem wn_10 : wn 10 = 3 := by decide +kernel
theorem wt_10 {T : Nat → Nat} {s p : Nat} (h : bv T s p = 108 ∧ bv T s (p + 1) = 121 ∧ bv T s (p + 2) = 100) : wm T s p (wl 10) = true := by
  rw [wl_10]; simp only [wm, Bool.and_eq_true, beq_iff_eq, Nat.add_assoc, Nat.reduceAdd]; simp [h]
theorem wf_10 {T : Nat → Nat} {s p : Nat} (h : ¬ (bv T s p = 108 ∧ bv T s (p + 1) = 121 ∧ bv T s (p + 2) = 100)) : wm T s p (wl 10) = false := by
  rw [← Bool.not_eq_true, wl_10]; simp only [wm, Bool.and_eq_true, beq_iff_eq, Nat.add_assoc, Nat.reduceAdd, and_true]; exact h
theorem wl_11 : wl 11 = [109, 105, 120] := by decide +kernel
theorem wn_11 : wn 11 = 3 := by decide +kernel
theorem wt_11 {T : Nat → Nat} {s p : Nat} (h : bv T s p = 109 ∧ bv T s (p + 1) = 105 ∧ bv T s (p + 2) = 120) : wm T s p (wl 11) = true := by
  rw [wl_11]; simp only [wm, Bool.and_eq_true, beq_iff_eq, Nat.add_assoc, Nat.reduceAdd]; simp [h]
theorem wf_11 {T : Nat → Nat} {s p : Nat} (h : ¬ (bv T s p = 109 ∧ bv T s (p + 1) = 105 ∧ bv T s (p + 2) = 120)) : wm T s p (wl 11) = false := by
  rw [← Bool.not_eq_true, wl_11]; simp only [wm, Bool.and_eq_true, beq_iff_eq, Nat.add_assoc, Nat.reduceAdd, and_true]; exact h
theorem wl_12 : wl 12 = [108, 111, 99] := by decide +kernel
theorem wn_12 : wn 12 = 3 := by decide +kernel
theorem wt_12 {T : Nat → Nat} {s p : Nat} (h : bv T s p = 108 ∧ bv T s (p + 1) = 111 ∧ bv T s (p + 2) = 99) : wm T s p (wl 12) = true := by
  rw [wl_12]; simp only [wm, Bool.and_eq_true, beq_iff_eq, Nat.add_assoc, Nat.reduceAdd]; simp [h]
theorem wf_12 {T : Nat → Nat} {s p : Nat} (h : ¬ (bv T s p = 108 ∧ bv T s (p + 1) = 111 ∧ bv T s (p + 2) = 99)) : wm T s p (wl 12) = false := by
  rw [← Bool.not_eq_true, wl_12]; simp only [wm, Bool.and_eq_true, beq_iff_eq, Nat.add_assoc, Nat.reduceAdd, and_true]; exact h
theorem wl_13 : wl 13 = [109, 105, 110] := by decide +kernel
theorem wn_13 : wn 13 = 3 := by decide +kernel
theorem wt_13 {T : Nat → Nat} {s p : Nat} (h : bv T s p = 109 ∧ bv T s (p + 1) = 105 ∧ bv T s (p + 2) = 110) : wm T s p (wl 13) = true := by
  rw [wl_13]; simp only [wm, Bool.and_eq_true, beq_iff_eq, Nat.add_assoc, Nat.reduceAdd]; simp [h]
theorem wf_13 {T : Nat → Nat} {s p : Nat} (h : ¬ (bv T s p = 109 ∧ bv T s (p + 1) = 105 ∧ bv T s (p + 2) = 110)) : wm T s p (wl 13) = false := by
  rw [← Bool.not_eq_true, wl_13]; simp only [wm, Bool.and_eq_true, beq_iff_eq, Nat.add_assoc, Nat.reduceAdd, and_true]; exact h
theorem wl_14 : wl 14 = [97, 101, 111] := by decide +kernel
theorem wn_14 : wn 14 = 3 := by decide +kernel
theorem wt_14 {T : Nat → Nat} {s p : Nat} (h : bv T s p = 97 ∧ bv T s (p + 1) = 101 ∧ bv T s (p + 2) = 111) : wm T s p (wl 14) = true := by
  rw [wl_14]; simp only [wm, Bool.and_eq_true, beq_iff_eq, Nat.add_assoc, Nat.reduceAdd]; simp [h]
theorem wf_14 {T : Nat → Nat} {s p : Nat} (h : ¬ (bv T s p = 97 ∧ bv T s (p + 1) = 101 ∧ bv T s (p + 2) = 111)) : wm T s p (wl 14) = false := by
  rw [← Bool.not_eq_true, wl_14]; simp only [wm, Bool.and_eq_true, beq_iff_eq, Nat.add_assoc, Nat.reduceAdd, and_true]; exact h
theorem wl_15 : wl 15 = [109] := by decide +kernel
theorem wn_15 : wn 15 = 1 := by decide +kernel
theorem wt_15 {T : Nat → Nat} {s p : Nat} (h : bv T s p = 109) : wm T s p (wl 15) = true := by
  rw [wl_15]; simp only [wm, Bool.and_eq_true, beq_iff_eq, Nat.add_assoc, Nat.reduceAdd]; simp [h]
theorem wf_15 {T : Nat → Nat} {s p : Nat} (h : ¬ (bv T s p = 109)) : wm T s p (wl 15) = false := by
  rw [← Bool.not_eq_true, wl_15]; simp only [wm, Bool.and_eq_true, beq_iff_eq, Nat.add_assoc, Nat.reduceAdd, and_true]; exact h
theorem wl_20 : wl 20 = [110, 111, 110, 101] := by decide +kernel
theorem wn_20 : wn 20 = 4 := by decide +kernel
theorem wt_20 {T : Nat → Nat} {s p : Nat} (h : bv T s p = 110 ∧ bv T s (p + 1) = 111 ∧ bv T s (p + 2) = 110 ∧ bv T s (p + 3) = 101) : wm T s p (wl 20) = true := by
  rw [wl_20]; simp only [wm, Bool.and_eq_true, beq_iff_eq, Nat.add_assoc, Nat.reduceAdd]; simp [h]
theorem wf_20 {T : Nat → Nat} {s p : Nat} (h : ¬ (bv T s p = 110 ∧ bv T s (p + 1) = 111 ∧ bv T s (p + 2) = 110 ∧ bv T s (p + 3) = 101)) : wm T s p (wl 20) = false := by
  rw [← Bool.not_eq_true, wl_20]; simp only [wm, Bool.and_eq_true, beq_iff_eq, Nat.add_assoc, Nat.reduceAdd, and_true]; exact h
theorem wl_21 : wl 21 = [109, 97, 106] := by decide +kernel
theorem wn_21 : wn 21 = 3 := by decide +kernel
theorem wt_21 {T : Nat → Nat} {s p : Nat} (h : bv T s p = 109 ∧ bv T s (p + 1) = 97 ∧ bv T s (p + 2) = 106) : wm T s p (wl 21) = true := by
  rw [wl_21]; simp only [wm, Bool.and_eq_true, beq_iff_eq, Nat.add_assoc, Nat.reduceAdd]; simp [h]
theorem wf_21 {T : Nat → Nat} {s p : Nat} (h : ¬ (bv T s p = 109 ∧ bv T s (p + 1) = 97 ∧ bv T s (p + 2) = 106)) : wm T s p (wl 21) = false := by
  rw [← Bool.not_eq_true, wl_21]; simp only [wm, Bool.and_eq_true, beq_iff_eq, Nat.add_assoc, Nat.reduceAdd, and_true]; exact h
theorem wl_22 : wl 22 = [105, 111, 110] := by decide +kernel
theorem wn_22 : wn 22 = 3 := by decide +kernel
theorem wt_22 {T : Nat → Nat} {s p : Nat} (h : bv T s p = 105 ∧ bv T s (p + 1) = 111 ∧ bv T s (p + 2) = 110) : wm T s p (wl 22) = true := by
  rw [wl_22]; simp only [wm, Bool.and_eq_true, beq_iff_eq, Nat.add_assoc, Nat.reduceAdd]; simp [h]
theorem wf_22 {T : Nat → Nat} {s p : Nat} (h : ¬ (bv T s p = 105 ∧ bv T s (p + 1) = 111 ∧ bv T s (p + 2) = 110)) : wm T s p (wl 22) = false := by
  rw [← Bool.not_eq_true, wl_22]; simp only [wm, Bool.and_eq_true, beq_iff_eq, Nat.add_assoc, Nat.reduceAdd, and_true]; exact h
theorem wl_23 : wl 23 = [109, 105, 110] := by decide +kernel
theorem wn_23 : wn 23 = 3 := by decide +kernel
theorem wt_23 {T : Nat → Nat} {s p : Nat} (h : bv T s p = 109 ∧ bv T s (p + 1) = 105 ∧ bv T s (p + 2) = 110) : wm T s p (wl 23) = true := by
  rw [wl_23]; simp only [wm, Bool.and_eq_true, beq_iff_eq, Nat.add_assoc, Nat.reduceAdd]; simp [h]
theorem wf_23 {T : Nat → Nat} {s p : Nat} (h : ¬ (bv T s p = 109 ∧ bv T s (p + 1) = 105 ∧ bv T s (p + 2) = 110)) : wm T s p (wl 23) = false := by
  rw [← Bool.not_eq_true, wl_23]; simp only [wm, Bool.and_eq_true, beq_iff_eq, Nat.add_assoc, Nat.reduceAdd, and_true]; exact h
theorem wl_24 : wl 24 = [97, 101, 111] := by decide +kernel
theorem wn_24 : wn 24 = 3 := by decide +kernel
theorem wt_24 {T : Nat → Nat} {s p : Nat} (h : bv T s p = 97 ∧ bv T s (p + 1) = 101 ∧ bv T s (p + 2) = 111) : wm T s p (wl 24) = true := by
  rw [wl_24]; simp only [wm, Bool.and_eq_true, beq_iff_eq, Nat.add_assoc, Nat.reduceAdd]; simp [h]
theorem wf_24 {T : Nat → Nat} {s p : Nat} (h : ¬ (bv T s p = 97 ∧ bv T s (p + 1) = 101 ∧ bv T s (p + 2) = 111)) : wm T s p (wl 24) = false := by
  rw [← Bool.not_eq_true, wl_24]; simp only [wm, Bool.and_eq_true, beq_iff_eq, Nat.add_assoc, Nat.reduceAdd, and_true]; exact h
theorem wl_25 : wl 25 = [100, 111, 114] := by decide +kernel
theorem wn_25 : wn 25 = 3 := by decide +kernel
theorem wt_25 {T : Nat → Nat} {s p : Nat} (h : bv T s p = 100 ∧ bv T s (p + 1) = 111 ∧ bv T s (p + 2) = 114) : wm T s p (wl 25) = true := by
  rw [wl_25]; simp only [wm, Bool.and_eq_true, beq_iff_eq, Nat.add_assoc, Nat.reduceAdd]; simp [h]
theorem wf_25 {T : Nat → Nat} {s p : Nat} (h : ¬ (bv T s p = 100 ∧ bv T s (p + 1) = 111 ∧ bv T s (p + 2) = 114)) : wm T s p (wl 25) = false := by
  rw [← Bool.not_eq_true, wl_25]; simp only [wm, Bool.and_eq_true, beq_iff_eq, Nat.add_assoc, Nat.reduceAdd, and_true]; exact h
theorem wl_26 : wl 26 = [112, 104, 114] := by decide +kernel
theorem wn_26 : wn 26 = 3 := by decide +kernel
theorem wt_26 {T : Nat → Nat} {s p : Nat} (h : bv T s p = 112 ∧ bv T s (p + 1) = 104 ∧ bv T s (p + 2) = 114) : wm T s p (wl 26) = true := by
  rw [wl_26]; simp only [wm, Bool.and_eq_true, beq_iff_eq, Nat.add_assoc, Nat.reduceAdd]; simp [h]
theorem wf_26 {T : Nat → Nat} {s p : Nat} (h : ¬ (bv T s p = 112 ∧ bv T s (p + 1) = 104 ∧ bv T s (p + 2) = 114)) : wm T s p (wl 26) = false := by
  rw [← Bool.not_eq_true, wl_26]; simp only [wm, Bool.and_eq_true, beq_iff_eq, Nat.add_assoc, Nat.reduceAdd, and_true]; exact h
theorem wl_27 : wl 27 = [108, 121, 100] := by decide +kernel
theorem wn_27 : wn 27 = 3 := by decide +kernel
theorem wt_27 {T : Nat → Nat} {s p : Nat} (h : bv T s p = 108 ∧ bv T s (p + 1) = 121 ∧ bv T s (p + 2) = 100) : wm T s p (wl 27) = true := by
  rw [wl_27]; simp only [wm, Bool.and_eq_true, beq_iff_eq, Nat.add_assoc, Nat.reduceAdd]; simp [h]
theorem wf_27 {T : Nat → Nat} {s p : Nat} (h : ¬ (bv T s p = 108 ∧ bv T s (p + 1) = 121 ∧ bv T s (p + 2) = 100)) : wm T s p (wl 27) = false := by
  rw [← Bool.not_eq_true, wl_27]; simp only [wm, Bool.and_eq_true, beq_iff_eq, Nat.add_assoc, Nat.reduceAdd, and_true]; exact h
theorem wl_28 : wl 28 = [109, 105, 120] := by decide +kernel
theorem wn_28 : wn 28 = 3 := by decide +kernel
theorem wt_28 {T : Nat → Nat} {s p : Nat} (h : bv T s p = 109 ∧ bv T s (p + 1) = 105 ∧ bv T s (p + 2) = 120) : wm T s p (wl 28) = true := by
  rw [wl_28]; simp only [wm, Bool.and_eq_true, beq_iff_eq, Nat.add_assoc, Nat.reduceAdd]; simp [h]
theorem wf_28 {T : Nat → Nat} {s p : Nat} (h : ¬ (bv T s p = 109 ∧ bv T s (p + 1) = 105 ∧ bv T s (p + 2) = 120)) : wm T s p (wl 28) = false := by
  rw [← Bool.not_eq_true, wl_28]; simp only [wm, Bool.and_eq_true, beq_iff_eq, Nat.add_assoc, Nat.reduceAdd, and_true]; exact h
theorem wl_29 : wl 29 = [108, 111, 99] := by decide +kernel
theorem wn_29 : wn 29 = 3 := by decide +kernel
theorem wt_29 {T : Nat → Nat} {s p : Nat} (h : bv T s p = 108 ∧ bv T s (p + 1) = 111 ∧ bv T s (p + 2) = 99) : wm T s p (wl 29) = true := by
  rw [wl_29]; simp only [wm, Bool.and_eq_true, beq_iff_eq, Nat.add_assoc, Nat.reduceAdd]; simp [h]
theorem wf_29 {T : Nat → Nat} {s p : Nat} (h : ¬ (bv T s p = 108 ∧ bv T s (p + 1) = 111 ∧ bv T s (p + 2) = 99)) : wm T s p (wl 29) = false := by
  rw [← Bool.not_eq_true, wl_29]; simp only [wm, Bool.and_eq_true, beq_iff_eq, Nat.add_assoc, Nat.reduceAdd, and_true]; exact h
theorem wl_30 : wl 30 = [109] := by decide +kernel
theorem wn_30 : wn 30 = 1 := by decide +kernel
theorem wt_30 {T : Nat → Nat} {s p : Nat} (h : bv T s p = 109) : wm T s p (wl 30) = true := by
  rw [wl_30]; simp only [wm, Bool.and_eq_true, beq_iff_eq, Nat.add_assoc, Nat.reduceAdd]; simp [h]
theorem wf_30 {T : Nat → Nat} {s p : Nat} (h : ¬ (bv T s p = 109)) : wm T s p (wl 30) = false := by
  rw [← Bool.not_eq_true, wl_30]; simp only [wm, Bool.and_eq_true, beq_iff_eq, Nat.add_assoc, Nat.reduceAdd, and_true]; exact h
def fio (a c : Nat) : Int32 := match (List.range (wn a)).find? (fun i => wc a i == c) with
  | some i => nI i
  | none => -1
theorem j_find {n a c : Nat} {Q : Int32 → Mm → Prop} {u : Mm} (ha : a < 31) (hc : c < 128) : ∀ (d k i : Nat), wn a - i = d → d < k → i ≤ wn a → (∀ j, j < i → wc a j ≠ c) → w_J1_indexOfChar_4cfef_7 n a Q k (nI (wn a)) (nI c) (nI i) u = Q (fio a c) u := by
  intro d
  have hl := (xt_ok a ha).1
  induction d with
  | zero =>
    intro k i hd hk hi hn
    obtain ⟨k, rfl⟩ : ∃ j, k = j + 1 := ⟨k - 1, by omega⟩
    have e : fio a c = -1 := by
      unfold fio
      rw [List.find?_eq_none.mpr]
      intro x hx
      rw [List.mem_range] at hx
      simp only [beq_iff_eq]
      exact hn x (by omega)
    rw [e]
    simp (disch := omega) only [mlet, ilet, jlet, ↓br_if, ↓br_ifn, ↓reduceIte, nl_lt_t, nl_lt_f, nl_gt_t, nl_gt_f, nl_le_t, nl_le_f, nl_ge_t, nl_ge_f, nl_eq_t, nl_eq_f, nn_lt_t, nn_lt_f, nn_le_t, nn_le_f, nn_eq_t, nn_eq_f, nl_add, nl_sub, nl_mul, nl_mulr, nn_add, nn_ix, nn_in, true_and, and_true, gI_if, gIj, gIr, gJ_if, gJi, gJr, gPr, gPi, gPj, hu_if, hv_if, Nat.reduceEqDiff, eq_self, bIT, bIF, Nat.add_zero, Nat.add_assoc, Nat.reduceAdd, nb0, nb1, i10, i00, Bool.false_eq_true, bI_t, bI_f, if_pos, if_neg, w_J1_indexOfChar_4cfef_7]
  | succ d ih =>
    intro k i hd hk hi hn
    obtain ⟨k, rfl⟩ : ∃ j, k = j + 1 := ⟨k - 1, by omega⟩
    have hi' : i < wn a := by omega
    obtain ⟨e0, b1, b2⟩ := (xt_ok a ha).2 i hi'
    have e3 : vp_in (nI i) (xtx.getD a []).length = True := eq_true (vp_in_nI hi' (show wn a < 2 ^ 31 by omega))
    by_cases h : wc a i = c
    · have e : fio a c = nI i := by
        unfold fio
        have : (List.range (wn a)).find? (fun i => wc a i == c) = some i := by
          rw [List.find?_range_eq_some]
          refine ⟨by simp [h], List.mem_range.mpr hi', fun j hj => ?_⟩
          simp [hn j hj]
        rw [this]
      rw [e]
      simp (disch := omega) only [mlet, ilet, jlet, ↓br_if, ↓br_ifn, ↓reduceIte, nl_lt_t, nl_lt_f, nl_gt_t, nl_gt_f, nl_le_t, nl_le_f, nl_ge_t, nl_ge_f, nl_eq_t, nl_eq_f, nn_lt_t, nn_lt_f, nn_le_t, nn_le_f, nn_eq_t, nn_eq_f, nl_add, nl_sub, nl_mul, nl_mulr, nn_add, nn_ix, nn_in, true_and, and_true, gI_if, gIj, gIr, gJ_if, gJi, gJr, gPr, gPi, gPj, hu_if, hv_if, Nat.reduceEqDiff, eq_self, bIT, bIF, Nat.add_zero, Nat.add_assoc, Nat.reduceAdd, nb0, nb1, i10, i00, Bool.false_eq_true, bI_t, bI_f, if_pos, if_neg, w_J1_indexOfChar_4cfef_7, e3, e0, h]
    · have := ih k (i + 1) (by omega) (by omega) (by omega) (fun j hj => by
        rcases Nat.lt_or_ge j i with h1 | h1
        · exact hn j h1
        · rw [show j = i from by omega]; exact h)
      simp (disch := omega) only [mlet, ilet, jlet, ↓br_if, ↓br_ifn, ↓reduceIte, nl_lt_t, nl_lt_f, nl_gt_t, nl_gt_f, nl_le_t, nl_le_f, nl_ge_t, nl_ge_f, nl_eq_t, nl_eq_f, nn_lt_t, nn_lt_f, nn_le_t, nn_le_f, nn_eq_t, nn_eq_f, nl_add, nl_sub, nl_mul, nl_mulr, nn_add, nn_ix, nn_in, true_and, and_true, gI_if, gIj, gIr, gJ_if, gJi, gJr, gPr, gPi, gPj, hu_if, hv_if, Nat.reduceEqDiff, eq_self, bIT, bIF, Nat.add_zero, Nat.add_assoc, Nat.reduceAdd, nb0, nb1, i10, i00, Bool.false_eq_true, bI_t, bI_f, if_pos, if_neg, w_J1_indexOfChar_4cfef_7, e3, e0, this]
theorem i8c : ∀ c, c < 128 → (nI c).toInt8.toInt32 = nI c := sbv_lo
theorem j_index {n a c : Nat} {u : Mm} {Q : Int32 → Mm → Prop} (h : a < 31 ∧ c < 128 ∧ 0 < wn a ∧ 100 ≤ n) : w_J0_indexOf_0f7a4 n a (nI c) u Q = Q (fio a c) u := by
  obtain ⟨ha, hc, hw, hn⟩ := h
  have hl := (xt_ok a ha).1
  have := j_find (n := n) (Q := Q) (u := u) ha hc _ n 0 rfl (by omega) (by omega) (fun j hj => absurd hj (by omega))
  rw [show nI 0 = 0 from rfl] at this
  have e : Int32.ofNat (xtx.getD a []).length = nI (wn a) := rfl
  unfold w_J0_indexOf_0f7a4 w_J0_indexOf_7cf53 w_J0_indexOf_7cf53_36 w_J0_isLatin1_aae02 w_J0_isLatin1_aae02_17 w_J0_isLatin1_aae02_18 w_J1_indexOf_4cfef w_J1_canEncode_9a6ad w_J1_canEncode_9a6ad_15 w_J1_canEncode_9a6ad_16 w_J1_indexOfChar_4cfef
  simp (disch := omega) only [mlet, ilet, jlet, ↓br_if, ↓br_ifn, ↓reduceIte, nl_lt_t, nl_lt_f, nl_gt_t, nl_gt_f, nl_le_t, nl_le_f, nl_ge_t, nl_ge_f, nl_eq_t, nl_eq_f, nn_lt_t, nn_lt_f, nn_le_t, nn_le_f, nn_eq_t, nn_eq_f, nl_add, nl_sub, nl_mul, nl_mulr, nn_add, nn_ix, nn_in, true_and, and_true, gI_if, gIj, gIr, gJ_if, gJi, gJr, gPr, gPi, gPj, hu_if, hv_if, Nat.reduceEqDiff, eq_self, bIT, bIF, Nat.add_zero, Nat.add_assoc, Nat.reduceAdd, nb0, nb1, i10, i00, Bool.false_eq_true, bI_t, bI_f, if_pos, if_neg, j_len, e, i8c, show ((0 : Int32) < 0) = False from by decide, show ((0 : Int32) < nI (wn a)) = True from eq_true (nI_lt (a := 0) (by omega) (by omega)), this]
theorem uch {c : Nat} (h : c < 128) : ((nI c).toUInt32 % 65536).toInt32 = nI c := by
  rw [pk_char, pk_tn (by omega), Nat.mod_eq_of_lt (by omega)]
theorem wn_3 : wn 3 = 7 := by decide +kernel
theorem wn_16 : wn 16 = 17 := by decide +kernel
theorem wn_17 : wn 17 = 8 := by decide +kernel
theorem wn_18 : wn 18 = 14 := by decide +kernel
/-! towers of writes in order -/
theorem mI_sort {u : Mm} {q k q' k' : Nat} {x y : Int32} (h : q' < q ∨ (q' = q ∧ k' < k)) : setI (setI u q k x) q' k' y = setI (setI u q' k' y) q k x := by
  unfold setI
  have : (fun a b => if a = q' ∧ b = k' then y else (fun a b => if a = q ∧ b = k then x else u.1 a b) a b) = (fun a b => if a = q ∧ b = k then x else (fun a b => if a = q' ∧ b = k' then y else u.1 a b) a b) := by
    funext a b
    by_cases h1 : a = q ∧ b = k
    · have h2 : ¬ (a = q' ∧ b = k') := by omega
      simp only [h1, h2, if_true, if_false]
      rw [if_neg (by omega)]
      simp
    · simp only [h1, if_false]
  simp only [this]
theorem jKc.set {a u : Mm} {q k : Nat} {x : Int32} (h : jKc a u) (hq : 33 ≤ q) (hk : ¬ (q = 35 ∧ k = 0)) : jKc a (setI u q k x) := by
  obtain ⟨h1, h2, h3, h4, h5, h6⟩ := h
  refine ⟨fun p hp => ?_, ?_, ?_, h4, h5, h6⟩
  · rw [gIn (by omega)]; exact h1 p hp
  · rw [gIn (by omega)]; exact h2
  · by_cases hq' : q = 35
    · subst hq'; rw [gIs, hu_n (by omega)]; exact h3
    · rw [gIn (by omega)]; exact h3
theorem jKc.setJ {a u : Mm} {q k : Nat} {x : Int64} (h : jKc a u) (hq : 33 ≤ q) : jKc a (setJ u q k x) := by
  obtain ⟨h1, h2, h3, h4, h5, h6⟩ := h
  exact ⟨fun p hp => ⟨(h1 p hp).1, by rw [gJn (by omega)]; exact (h1 p hp).2⟩, h2, h3, h4, h5, h6⟩
theorem jKm.set {a v : Mm} {q k : Nat} {x : Int32} (h : jKm a v) (hq : q < 32) (hk : ¬ (q = 0 ∧ (k = 2 ∨ k = 4 ∨ k = 10 ∨ k = 11))) : jKm a (setI v q k x) := by
  obtain ⟨h1, h2, h3, h4, h5, h6⟩ := h
  refine ⟨fun p hp => ?_, h2, ?_, ?_, ?_, ?_⟩
  · rw [gIn (by omega)]; exact h1 p hp
  all_goals
    by_cases hq' : q = 0
    · subst hq'; rw [gIs, hu_n (by omega)]; assumption
    · rw [gIn (by omega)]; assumption
theorem jKm.setJ {a v : Mm} {q k : Nat} {x : Int64} (h : jKm a v) (hq : q < 32) : jKm a (setJ v q k x) := by
  obtain ⟨h1, h2, h3, h4, h5, h6⟩ := h
  exact ⟨fun p hp => ⟨(h1 p hp).1, by rw [gJn (by omega)]; exact (h1 p hp).2⟩, h2, h3, h4, h5, h6⟩
theorem jFl_mk {z : Mm × Mm} {u v : Mm} {w pl : Int32} (kc : jKc z.1 u) (km : jKm z.2 v) (h1 : u.1 33 6 = w) (h2 : u.1 33 7 = pl) (h3 : v.1 1 6 = w) (h4 : v.1 1 7 = pl) (h5 : w ≠ 0) : jFl z u v :=
  ⟨kc, km, by rw [h1]; exact h5, h1.trans h3.symm, h2.trans h4.symm⟩
/-! tests as tests of plain numbers -/
theorem nl_lt {a k : Nat} (h : a < 2147483648 ∧ (OfNat.ofNat k : Nat) < 2147483648) : (nI a < no_index (OfNat.ofNat k : Int32)) = (a < (OfNat.ofNat k : Nat)) := propext (nI_ltI h.1 h.2)
theorem nl_gt {a k : Nat} (h : a < 2147483648 ∧ (OfNat.ofNat k : Nat) < 2147483648) : (no_index (OfNat.ofNat k : Int32) < nI a) = ((OfNat.ofNat k : Nat) < a) := propext (nI_ltI h.2 h.1)
theorem nl_le {a k : Nat} (h : a < 2147483648 ∧ (OfNat.ofNat k : Nat) < 2147483648) : (nI a ≤ no_index (OfNat.ofNat k : Int32)) = (a ≤ (OfNat.ofNat k : Nat)) := propext (nI_leI h.1 h.2)
theorem nl_ge {a k : Nat} (h : a < 2147483648 ∧ (OfNat.ofNat k : Nat) < 2147483648) : (no_index (OfNat.ofNat k : Int32) ≤ nI a) = ((OfNat.ofNat k : Nat) ≤ a) := propext (nI_leI h.2 h.1)
theorem nl_eq {a k : Nat} (h : a < 2147483648 ∧ (OfNat.ofNat k : Nat) < 2147483648) : (nI a = no_index (OfNat.ofNat k : Int32)) = (a = (OfNat.ofNat k : Nat)) := propext (nI_eq h.1 h.2)
theorem nn_lt {a k : Nat} (h : a < 2147483648 ∧ k < 2147483648) : (nI a < nI k) = (a < k) := propext (nI_ltI h.1 h.2)
theorem nn_le {a k : Nat} (h : a < 2147483648 ∧ k < 2147483648) : (nI a ≤ nI k) = (a ≤ k) := propext (nI_leI h.1 h.2)
theorem nn_eq {a k : Nat} (h : a < 2147483648 ∧ k < 2147483648) : (nI a = nI k) = (a = k) := propext (nI_eq h.1 h.2)
theorem cb_ltN {x m : Nat} (h : x < 2147483648 ∧ m < 2147483648 ∧ 0 < m) : (cb x < nI m) = (x < m) := by
  by_cases hx : x = 0
  · rw [cb_z hx]; exact propext ⟨fun _ => by omega, fun _ => by
      rw [Int32.lt_iff_toInt_lt, nI_toInt h.2.1]
      have h2 : (-1 : Int32).toInt = -1 := by decide
      omega⟩
  · rw [cb_nz hx, nn_lt ⟨h.1, h.2.1⟩]
theorem cb_gtN {x m : Nat} (h : x < 2147483648 ∧ m < 2147483648) : (nI m < cb x) = (m < x) := by
  by_cases hx : x = 0
  · rw [cb_z hx]; exact propext ⟨fun z => by
      rw [Int32.lt_iff_toInt_lt, nI_toInt h.2] at z
      have h2 : (-1 : Int32).toInt = -1 := by decide
      omega, fun z => absurd z (by omega)⟩
  · rw [cb_nz hx, nn_lt ⟨h.2, h.1⟩]
theorem cb_leN {x m : Nat} (h : x < 2147483648 ∧ m < 2147483648) : (cb x ≤ nI m) = (x ≤ m) := by
  rw [← Int32.not_lt, cb_gtN h]; exact propext ⟨fun z => by omega, fun z => by omega⟩
theorem cb_geN {x m : Nat} (h : x < 2147483648 ∧ m < 2147483648 ∧ 0 < m) : (nI m ≤ cb x) = (m ≤ x) := by
  rw [← Int32.not_lt, cb_ltN h]; exact propext ⟨fun z => by omega, fun z => by omega⟩
theorem cb_eqN {x m : Nat} (h : x < 2147483648 ∧ m < 2147483648 ∧ 0 < m) : (cb x = nI m) = (x = m) := by
  by_cases hx : x = m
  · rw [hx, cb_nz (by omega)]; simp
  · exact propext ⟨fun z => absurd z (cb_ne ⟨hx, h.1, h.2.1⟩), fun z => absurd z hx⟩
theorem cb_lt {x k : Nat} (h : x < 2147483648 ∧ (OfNat.ofNat k : Nat) < 2147483648 ∧ 0 < (OfNat.ofNat k : Nat)) : (cb x < no_index (OfNat.ofNat k : Int32)) = (x < (OfNat.ofNat k : Nat)) := cb_ltN h
theorem cb_gt {x k : Nat} (h : x < 2147483648 ∧ (OfNat.ofNat k : Nat) < 2147483648) : (no_index (OfNat.ofNat k : Int32) < cb x) = ((OfNat.ofNat k : Nat) < x) := cb_gtN h
theorem cb_le {x k : Nat} (h : x < 2147483648 ∧ (OfNat.ofNat k : Nat) < 2147483648) : (cb x ≤ no_index (OfNat.ofNat k : Int32)) = (x ≤ (OfNat.ofNat k : Nat)) := cb_leN h
theorem cb_ge {x k : Nat} (h : x < 2147483648 ∧ (OfNat.ofNat k : Nat) < 2147483648 ∧ 0 < (OfNat.ofNat k : Nat)) : (no_index (OfNat.ofNat k : Int32) ≤ cb x) = ((OfNat.ofNat k : Nat) ≤ x) := cb_geN h
theorem cb_eq {x k : Nat} (h : x < 2147483648 ∧ (OfNat.ofNat k : Nat) < 2147483648 ∧ 0 < (OfNat.ofNat k : Nat)) : (cb x = no_index (OfNat.ofNat k : Int32)) = (x = (OfNat.ofNat k : Nat)) := cb_eqN h
theorem cb_neg {x : Nat} (h : x < 2147483648) : (cb x < 0) = (x = 0) := by
  by_cases hx : x = 0
  · rw [cb_z hx, hx]; decide
  · rw [cb_nz hx]; exact propext ⟨fun z => absurd z (nI_pos h), fun z => absurd z hx⟩
