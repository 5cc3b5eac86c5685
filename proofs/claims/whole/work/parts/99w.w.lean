/-! a note written again, both sides -/
theorem wCore {n j c k l tt : Nat} {b s oct : Int32} {u v : Mm} (hn : 5000 ≤ n) (hj : j < c) (hc : c ≤ 400) (h36 : u.1 36 3 = nI c) (hk : okUn k) (ht : 1 ≤ tt ∧ tt ≤ 10321920) (hl : l < 7) (ho : -2 ≤ oct.toInt ∧ oct.toInt ≤ 9) (hs : s = -2 ∨ s = -1 ∨ s = 0 ∨ s = 1 ∨ s = 2) (u4 : u.1 46 (19 * j + 4) = nI l) (u5 : u.1 46 (19 * j + 5) = oct) (u6 : u.1 46 (19 * j + 6) = s) (u17 : u.1 46 (19 * j + 17) = nI k) (u18 : u.1 46 (19 * j + 18) = (if s = v.1 10 j then 0 else 1)) (u47 : u.2.1 47 j = lN tt) (v4 : v.1 6 (17 * j + 4) = nI l) (v5 : v.1 6 (17 * j + 5) = oct) (v6 : v.1 6 (17 * j + 6) = s) :
  (∃ m u' v', (∀ Q, w_X9_write n (nI j) u Q = Q 1 u') ∧ (∀ Q T', w_X12_written_51 n Q T' n (nI j) b (lN tt) (lN (1290240 / k)) (lN tt) (lN (1290240 / k)) v = w_X12_written_344 n b v' Q T') ∧ WR m u' v' ∧ wF u u' ∧ vF v v') ∨ (∃ u', (∀ Q, w_X9_write n (nI j) u Q = Q 0 u') ∧ (∀ Q T', w_X12_written_51 n Q T' n (nI j) b (lN tt) (lN (1290240 / k)) (lN tt) (lN (1290240 / k)) v = Q (-1) v) ∧ wF u u') := by
  have hkl := hk.le
  obtain ⟨kd1, kd2⟩ := okUn_div hk
  have hW1 : 1 ≤ 1290240 / k := by
    rcases Nat.eq_zero_or_pos (1290240 / k) with h | h
    · rw [h] at kd1; omega
    · exact h
  generalize hWd : 1290240 / k = W at *
  have g1 : Nat.gcd tt W ∣ tt := Nat.gcd_dvd_left _ _
  have g2 : Nat.gcd tt W ∣ W := Nat.gcd_dvd_right _ _
  have g0 : 0 < Nat.gcd tt W := Nat.gcd_pos_of_pos_left _ (by omega)
  obtain ⟨C51, M51⟩ := gcdS (n := n) (u := u) (v := v) 21 tt W 0 n n (by have : (2 : Nat) ^ 21 = 2097152 := by decide
                                                                         omega) (by omega) (by omega) (by omega) (by omega) (by omega) (by omega)
  have C51 : ∀ (u : Mm) Q, w_X9_greatestCommon n (lN tt) (lN W) u Q = Q (lN (Nat.gcd tt W)) u := fun u Q => by
    have := (gcdS (n := n) (u := u) (v := v) 21 tt W 0 n n (by have : (2 : Nat) ^ 21 = 2097152 := by decide
                                                               omega) (by omega) (by omega) (by omega) (by omega) (by omega) (by omega)).1 Q
    rw [nI0] at this
    exact this
  have n1 : 1 ≤ tt / Nat.gcd tt W := Nat.div_pos (Nat.le_of_dvd (by omega) g1) g0
  have n2 : 1 ≤ W / Nat.gcd tt W := Nat.div_pos (Nat.le_of_dvd (by omega) g2) g0
  have n3 : tt / Nat.gcd tt W ≤ tt := Nat.div_le_self _ _
  have n4 : W / Nat.gcd tt W ≤ W := Nat.div_le_self _ _
  have n5 : Nat.gcd tt W ≤ tt := Nat.le_of_dvd (by omega) g1
  generalize Nat.gcd tt W = g at *
  have gne : (¬ lN g = 0) = True := eq_true (fun z => by have := (pk_lEQ (a := g) (b := 0) (by omega) (by omega)).mp z; omega)
  have d1 : lN tt / lN g = lN (tt / g) := pk_lDiv (by omega) (by omega) (by omega)
  have d2 : lN W / lN g = lN (W / g) := pk_lDiv (by omega) (by omega) (by omega)
  generalize tt / g = N at *
  generalize W / g = M at *
  have q2 : (0 < lg_cmp (lN N) 64) = (64 < N) := by rw [show (64 : Int64) = lN 64 from rfl, lc_gt (by omega)]
  have q3 : (0 < lg_cmp (lN M) 64) = (64 < M) := by rw [show (64 : Int64) = lN 64 from rfl, lc_gt (by omega)]
  have q1 : (lg_cmp (lN N) 1 < 0) = (N < 1) := by rw [show (1 : Int64) = lN 1 from rfl, lc_lt (by omega)]
  -- sign and letter, both sides
  have cc : ∀ (x : Nat), x < 19 → ∀ (u' : Mm), u'.1 36 3 = nI c → ∀ Q, w_X6_cell n (nI j) (nI x) u' Q = Q (u'.1 46 (19 * j + x)) u' := fun x hx u' h Q => by
    rw [c_cel, h]
    have : ccell (nI c) (u'.1 46) (nI j) (nI x) = u'.1 46 (19 * j + x) := ccell_in (c := c) (j := j) (k := x) (f := u'.1 46) ⟨hj, hc, hx⟩
    rw [this]
  have gg : ∀ (v' : Mm) (x : Nat) Q T', x < 17 → w_X12_get n (nI j) (nI x) v' Q T' = Q (v'.1 6 (17 * j + x)) v' := fun v' x Q T' hx => by
    simp (disch := omega) only [↓mletE, ↓iletE, ↓jletE, ↓br_if, ↓br_ifn, ↓reduceIte, nl_lt, nl_gt, nl_le, nl_ge, nl_eq, nn_lt, nn_le, nn_eq, nl_add, nl_sub, nl_mul, nl_mulr, nn_add, nn_ix, nn_in, true_and, and_true, false_and, and_false, gI_if, gIj, gIr, gJ_if, gJi, gJr, gPr, gPi, gPj, hu_if, hv_if, Nat.reduceEqDiff, Nat.reduceLT, Nat.reduceLeDiff, eq_self, bIT, bIF, Nat.add_zero, Nat.add_assoc, Nat.reduceAdd, nb0, nb1, i10, i00, Bool.false_eq_true, not_true_eq_false, not_false_eq_true, reduceIte, w_X12_get]
  have hW0 : WR 0 (setI u 40 1 0) (setI v 0 71 0) := ⟨by omega, by simp (disch := omega) only [gIs, gIn, gIj, gIr, gJs, gJn, gJi, gJr, gPr, gPi, gPj, hu_s, hu_n, hv_s, hv_n]; rfl, by simp (disch := omega) only [gIs, gIn, gIj, gIr, gJs, gJn, gJi, gJr, gPr, gPi, gPj, hu_s, hu_n, hv_s, hv_n]; rfl, fun i hi => absurd hi (by omega)⟩
  have f0 : wF u (setI u 40 1 0) := ⟨fun q h1 h2 => gIn h1, rfl⟩
  have f1 : vF v (setI v 0 71 0) := ⟨fun q h1 h2 => gIn h1, fun x hx => by rw [gIs, hu_n hx], rfl⟩
  have e18 : (18 : Int32) = nI 18 := rfl
  have e6 : (6 : Int32) = nI 6 := rfl
  have e4 : (4 : Int32) = nI 4 := rfl
  have e5 : (5 : Int32) = nI 5 := rfl
  have e17 : (17 : Int32) = nI 17 := rfl
  obtain ⟨mB, uA, vA, a0, aC, aM, aP⟩ : ∃ mB uA vA, mB ≤ 2 ∧ (∀ Q, w_X9_write n (nI j) u Q = w_X9_write_26 n (nI j) uA Q) ∧ (∀ (x2 : Int32) (y1 y2 : Int64) Q T', w_X12_get n (nI j) (6 : Int32) (setI v 0 71 0) (fun r2 u3 => vp_in (nI j) 400 ∧ ((r2 = (u3.1 10 (ix (nI j))) → w_X12_written_196 n (nI j) x2 y1 y2 u3 Q T') ∧ (¬ r2 = (u3.1 10 (ix (nI j))) → (¬ r2 = 0 → w_X12_written_154 n (nI j) x2 y1 y2 r2 u3 Q T') ∧ (r2 = 0 → w_X12_show n (61 : Int32) u3 (fun u4 => w_X12_written_154 n (nI j) x2 y1 y2 r2 u4 Q T') T')))) T' = w_X12_written_196 n (nI j) x2 y1 y2 vA Q T') ∧ WP mB (setI u 40 1 0) (setI v 0 71 0) uA vA := by
    have hin : vp_in (nI j) 400 = True := nn_in (by omega)
    have hix : ix (nI j) = j := nn_ix (by omega)
    have v6' : (setI v 0 71 0).1 6 (17 * j + 6) = s := by simp (disch := omega) only [gIs, gIn, gIj, gIr, gJs, gJn, gJi, gJr, gPr, gPi, gPj, hu_s, hu_n, hv_s, hv_n]; exact v6
    have v10' : (setI v 0 71 0).1 10 j = v.1 10 j := by simp (disch := omega) only [gIs, gIn, gIj, gIr, gJs, gJn, gJi, gJr, gPr, gPi, gPj, hu_s, hu_n, hv_s, hv_n]
    by_cases hsw : s = v.1 10 j
    · refine ⟨0, setI u 40 1 0, setI v 0 71 0, by omega, fun Q => ?_, fun x2 y1 y2 Q T' => ?_, hW0, wF.refl, vF.refl⟩
      · unfold w_X9_write
        rw [mletE, e18, cc 18 (by omega) _ (by simp (disch := omega) only [gIs, gIn, gIj, gIr, gJs, gJn, gJi, gJr, gPr, gPi, gPj, hu_s, hu_n, hv_s, hv_n]; exact h36), show (setI u 40 1 0).1 46 (19 * j + 18) = 0 from by rw [gIn (by omega), u18, if_pos hsw], br_if, if_pos rfl]
      · rw [e6, gg _ 6 _ _ (by omega), v6', hin, true_and, hix, v10', br_if, if_pos hsw]
    · obtain ⟨m', u', v', z0, z1, z2, z3⟩ := sgnS (n := n) hn hs hW0
      refine ⟨m', u', v', z0, fun Q => ?_, fun x2 y1 y2 Q T' => ?_, z3⟩
      · unfold w_X9_write
        rw [mletE, e18, cc 18 (by omega) _ (by simp (disch := omega) only [gIs, gIn, gIj, gIr, gJs, gJn, gJi, gJr, gPr, gPi, gPj, hu_s, hu_n, hv_s, hv_n]; exact h36), show (setI u 40 1 0).1 46 (19 * j + 18) = 1 from by rw [gIn (by omega), u18, if_neg hsw], br_if, if_neg (by decide), e6, cc 6 (by omega) _ (by simp (disch := omega) only [gIs, gIn, gIj, gIr, gJs, gJn, gJi, gJr, gPr, gPi, gPj, hu_s, hu_n, hv_s, hv_n]; exact h36), show (setI u 40 1 0).1 46 (19 * j + 6) = s from by rw [gIn (by omega)]; exact u6, z1]
      · rw [e6, gg _ 6 _ _ (by omega), v6', hin, true_and, hix, v10', br_if, if_neg hsw]
        exact z2 (nI j) x2 y1 y2 Q T'
  obtain ⟨mC, uB, vB, b0, bC, bM, bP⟩ := letS (n := n) (j := j) (b := b) (N := lN N) (M := lN M) hn (by omega) hl ho rfl a0 aP.1 (by rw [aP.2.2.1 6 (by omega) (by omega)]; simp (disch := omega) only [gIs, gIn, gIj, gIr, gJs, gJn, gJi, gJr, gPr, gPi, gPj, hu_s, hu_n, hv_s, hv_n]; exact v4) (by rw [aP.2.2.1 6 (by omega) (by omega)]; simp (disch := omega) only [gIs, gIn, gIj, gIr, gJs, gJn, gJi, gJr, gPr, gPi, gPj, hu_s, hu_n, hv_s, hv_n]; exact v5)
  have hAB := aP.trans bP
  have uBf : wF u uB := f0.trans hAB.2.1
  have vBf : vF v vB := f1.trans hAB.2.2
  have uA36 : uA.1 36 3 = nI c := by rw [aP.2.1.1 36 (by omega) (by omega)]; simp (disch := omega) only [gIs, gIn, gIj, gIr, gJs, gJn, gJi, gJr, gPr, gPi, gPj, hu_s, hu_n, hv_s, hv_n]; exact h36
  have uA46 : uA.1 46 = u.1 46 := by rw [aP.2.1.1 46 (by omega) (by omega)]; simp (disch := omega) only [gIs, gIn, gIj, gIr, gJs, gJn, gJi, gJr, gPr, gPi, gPj, hu_s, hu_n, hv_s, hv_n]
  have uB36 : uB.1 36 3 = nI c := by rw [uBf.1 36 (by omega) (by omega)]; exact h36
  have uB46 : uB.1 46 = u.1 46 := uBf.1 46 (by omega) (by omega)
  have uBt : uB.2.1 47 j = lN tt := by rw [uBf.2]; exact u47
  have kl : (nI k).toInt64 = lN k := nI_l (by omega)
  have kne : (¬ lN k = 0) = True := eq_true (fun z => by have := (pk_lEQ (a := k) (b := 0) (by omega) (by omega)).mp z; omega)
  have kd : (1290240 : Int64) / lN k = lN W := by rw [show (1290240 : Int64) = lN 1290240 from rfl, pk_lDiv (by omega) (by omega) (by omega), hWd]
  -- the class down to the length
  have CL : ∀ Q, w_X9_write n (nI j) u Q = ((¬ lg_cmp (lN M &&& (lN M - 1)) 0 = 0 → w_X9_writeLength_45 n (lN N) (lN M) 0 uB (fun r5 u6 => (r5 = 0 → w_X9_write_76 n u6 Q) ∧ (¬ r5 = 0 → w_X9_write_77 n 1 u6 Q))) ∧ (lg_cmp (lN M &&& (lN M - 1)) 0 = 0 → w_X9_writeLength_45 n (lN N) (lN M) 1 uB (fun r5 u6 => (r5 = 0 → w_X9_write_76 n u6 Q) ∧ (¬ r5 = 0 → w_X9_write_77 n 1 u6 Q)))) := fun Q => by
    rw [aC]
    unfold w_X9_write_26
    rw [e4, cc 4 (by omega) _ uA36, uA46, u4, e5, cc 5 (by omega) _ uA36, uA46, u5, bC, e17, cc 17 (by omega) _ uB36, uB46, u17, br_if, if_neg (nI_nle (by omega) (by omega)), c_ticksOf, uB36, cto_in ⟨hj, hc⟩, uBt, kl, kne, true_and, kd]
    unfold w_X9_writeLength
    rw [C51, br_if, if_pos (by rw [show (1 : Int64) = lN 1 from rfl, lc_ge (by omega)]; omega), gne, true_and, d1, jletE, true_and, d2, jletE]
  have R0 : ∀ (u6 : Mm) Q, ((((0 : Int32) = 0 → w_X9_write_76 n u6 Q) ∧ (¬ (0 : Int32) = 0 → w_X9_write_77 n 1 u6 Q)) : Prop) = Q 0 u6 := fun u6 Q => by
    rw [br_if, if_pos rfl]
    simp (disch := omega) only [↓mletE, ↓iletE, ↓jletE, ↓br_if, ↓br_ifn, ↓reduceIte, nl_lt, nl_gt, nl_le, nl_ge, nl_eq, nn_lt, nn_le, nn_eq, nl_add, nl_sub, nl_mul, nl_mulr, nn_add, nn_ix, nn_in, true_and, and_true, false_and, and_false, gI_if, gIj, gIr, gJ_if, gJi, gJr, gPr, gPi, gPj, hu_if, hv_if, Nat.reduceEqDiff, Nat.reduceLT, Nat.reduceLeDiff, eq_self, bIT, bIF, Nat.add_zero, Nat.add_assoc, Nat.reduceAdd, nb0, nb1, i10, i00, Bool.false_eq_true, not_true_eq_false, not_false_eq_true, reduceIte, w_X9_write_76, w_X9_write_77]
  have R1 : ∀ (u6 : Mm) Q, ((((1 : Int32) = 0 → w_X9_write_76 n u6 Q) ∧ (¬ (1 : Int32) = 0 → w_X9_write_77 n 1 u6 Q)) : Prop) = Q 1 u6 := fun u6 Q => by
    rw [br_if, if_neg (by decide)]
    simp (disch := omega) only [↓mletE, ↓iletE, ↓jletE, ↓br_if, ↓br_ifn, ↓reduceIte, nl_lt, nl_gt, nl_le, nl_ge, nl_eq, nn_lt, nn_le, nn_eq, nl_add, nl_sub, nl_mul, nl_mulr, nn_add, nn_ix, nn_in, true_and, and_true, false_and, and_false, gI_if, gIj, gIr, gJ_if, gJi, gJr, gPr, gPi, gPj, hu_if, hv_if, Nat.reduceEqDiff, Nat.reduceLT, Nat.reduceLeDiff, eq_self, bIT, bIF, Nat.add_zero, Nat.add_assoc, Nat.reduceAdd, nb0, nb1, i10, i00, Bool.false_eq_true, not_true_eq_false, not_false_eq_true, reduceIte, w_X9_write_77]
  -- the reference down to the power
  have ML : ∀ Q T', w_X12_written_51 n Q T' n (nI j) b (lN tt) (lN W) (lN tt) (lN W) v = ((64 < N → Q (-1) v) ∧ (¬ 64 < N → (64 < M → Q (-1) v) ∧ (¬ 64 < M → w_X12_isPower n (lN M).toInt32 64 v (fun r1 u1 => (¬ r1 = 0 → w_X12_get n (nI j) (6 : Int32) (setI u1 0 71 0) (fun r2 u3 => vp_in (nI j) 400 ∧ ((r2 = (u3.1 10 (ix (nI j))) → w_X12_written_196 n (nI j) b (lN N) (lN M) u3 Q T') ∧ (¬ r2 = (u3.1 10 (ix (nI j))) → (¬ r2 = 0 → w_X12_written_154 n (nI j) b (lN N) (lN M) r2 u3 Q T') ∧ (r2 = 0 → w_X12_show n (61 : Int32) u3 (fun u4 => w_X12_written_154 n (nI j) b (lN N) (lN M) r2 u4 Q T') T')))) T') ∧ (r1 = 0 → Q (-1) u1)) T'))) := fun Q T' => by
    rw [M51 Q T' (nI j) b (lN tt) (lN W)]
    unfold w51
    rw [gne, true_and, d1, jletE, true_and, d2, jletE, q2, q3]
    rfl
  have fail : (64 < N ∨ 64 < M ∨ ¬ pw2 M) → ∃ u', (∀ Q, w_X9_write n (nI j) u Q = Q 0 u') ∧ (∀ Q T', w_X12_written_51 n Q T' n (nI j) b (lN tt) (lN W) (lN tt) (lN W) v = Q (-1) v) ∧ wF u u' := by
    intro hf
    refine ⟨uB, fun Q => ?_, fun Q T' => ?_, uBf⟩
    · have F : ∀ t0 : Int32, (64 < N ∨ 64 < M ∨ t0 = 0) → w_X9_writeLength_45 n (lN N) (lN M) t0 uB (fun r5 u6 => (r5 = 0 → w_X9_write_76 n u6 Q) ∧ (¬ r5 = 0 → w_X9_write_77 n 1 u6 Q)) = Q 0 uB := fun t0 h0 => by
        unfold w_X9_writeLength_45 w_X9_writeLength_77
        rw [br_if, if_neg (by rw [q1]; omega), br_if]
        by_cases c1 : 64 < N
        · rw [if_pos (by rw [q2]; exact c1)]
          exact R0 uB Q
        rw [if_neg (by rw [q2]; exact c1), br_if]
        by_cases c2 : 64 < M
        · rw [if_pos (by rw [q3]; exact c2)]
          exact R0 uB Q
        rw [if_neg (by rw [q3]; exact c2), br_ifn, if_pos (by rcases h0 with h | h | h; omega; omega; exact h)]
        exact R0 uB Q
      rw [CL]
      by_cases hp : lg_cmp (lN M &&& (lN M - 1)) 0 = 0
      · rw [br_ifn, if_pos hp]
        refine F 1 ?_
        rcases hf with h | h | h
        · exact Or.inl h
        · exact Or.inr (Or.inl h)
        · rcases Nat.lt_or_ge 64 M with h2 | h2
          · exact Or.inr (Or.inl h2)
          · rw [lgz] at hp
            exact absurd ((pw_l M h2 n2).mp hp) h
      · rw [br_ifn, if_neg hp]
        exact F 0 (Or.inr (Or.inr rfl))
    · rw [ML, br_if]
      by_cases c1 : 64 < N
      · rw [if_pos c1]
      rw [if_neg c1, br_if]
      by_cases c2 : 64 < M
      · rw [if_pos c2]
      rw [if_neg c2, lN_32 (by omega)]
      have hp : ¬ pw2 M := by rcases hf with h | h | h; omega; omega; exact h
      rw [r_isPower, ipI_eq (k := 64) ⟨n2, (show M ≤ 64 by omega), (show 64 < 2147483648 by omega)⟩, bI_f hp, br_ifn, if_pos rfl]
  by_cases c1 : 64 < N
  · exact Or.inr (fail (Or.inl c1))
  by_cases c2 : 64 < M
  · exact Or.inr (fail (Or.inr (Or.inl c2)))
  by_cases c3 : pw2 M
  · obtain ⟨m', u', v', z1, z2, z3⟩ := lenS (n := n) (b := b) (N := N) (M := M) ⟨n1, by omega⟩ ⟨n2, by omega⟩ (show mC ≤ 12 by omega) bP.1
    refine Or.inl ⟨m', u', v', fun Q => ?_, fun Q T' => ?_, z3.1, uBf.trans z3.2.1, vBf.trans z3.2.2⟩
    · rw [CL, br_ifn, if_pos (by rw [lgz]; exact (pw_l M (by omega) n2).mpr c3), z1, R1]
    · rw [ML, br_if, if_neg c1, br_if, if_neg c2, lN_32 (by omega)]
      rw [r_isPower, ipI_eq (k := 64) ⟨n2, (show M ≤ 64 by omega), (show 64 < 2147483648 by omega)⟩, bI_t c3, br_ifn, if_neg (by decide), aM, bM, z2]
  · exact Or.inr (fail (Or.inr (Or.inr c3)))
