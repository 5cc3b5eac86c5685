/-! the times of a timed's notes -/
def uSt (i : Nat) (t : Nat) (ti nn j : Nat) (u : Mm) : Mm := setI (setI (setI (setJ u 47 i (lN t)) 46 (19 * i + 8) (nI ti)) 46 (19 * i + 9) (nI nn)) 46 (19 * i + 10) (nI j)
def vSt (i : Nat) (t : Nat) (ti nn j : Nat) (v : Mm) : Mm := setI (setI (setI (setJ v 7 i (lN t)) 6 (17 * i + 8) (nI ti)) 6 (17 * i + 9) (nI nn)) 6 (17 * i + 10) (nI j)
theorem uSt_1 {i t ti nn j q : Nat} {u : Mm} (h : q ≠ 46) : (uSt i t ti nn j u).1 q = u.1 q := by
  unfold uSt; rw [gIn h, gIn h, gIn h]; rfl
theorem uSt_46 {i t ti nn j x : Nat} {u : Mm} : (uSt i t ti nn j u).1 46 x = if x = 19 * i + 10 then nI j else if x = 19 * i + 9 then nI nn else if x = 19 * i + 8 then nI ti else u.1 46 x := by
  unfold uSt; rw [gIs, hu_if, gIs, hu_if, gIs, hu_if]; rfl
theorem uSt_47 {i t ti nn j x : Nat} {u : Mm} : (uSt i t ti nn j u).2.1 47 x = if x = i then lN t else u.2.1 47 x := by
  unfold uSt; rw [gIj, gIj, gIj, gJs, hv_if]
theorem uSt_J {i t ti nn j q : Nat} {u : Mm} (h : q ≠ 47) : (uSt i t ti nn j u).2.1 q = u.2.1 q := by
  unfold uSt; rw [gIj, gIj, gIj, gJn h]
theorem vSt_1 {i t ti nn j q : Nat} {v : Mm} (h : q ≠ 6) : (vSt i t ti nn j v).1 q = v.1 q := by
  unfold vSt; rw [gIn h, gIn h, gIn h]; rfl
theorem vSt_6 {i t ti nn j x : Nat} {v : Mm} : (vSt i t ti nn j v).1 6 x = if x = 17 * i + 10 then nI j else if x = 17 * i + 9 then nI nn else if x = 17 * i + 8 then nI ti else v.1 6 x := by
  unfold vSt; rw [gIs, hu_if, gIs, hu_if, gIs, hu_if]; rfl
theorem vSt_7 {i t ti nn j x : Nat} {v : Mm} : (vSt i t ti nn j v).2.1 7 x = if x = i then lN t else v.2.1 7 x := by
  unfold vSt; rw [gIj, gIj, gIj, gJs, hv_if]
theorem vSt_J {i t ti nn j q : Nat} {v : Mm} (h : q ≠ 7) : (vSt i t ti nn j v).2.1 q = v.2.1 q := by
  unfold vSt; rw [gIj, gIj, gIj, gJn h]
theorem Rm.step {z : Mm × Mm} {T : Nat → Nat} {sz B e s p c c0 w i t ti nn j : Nat} {u v : Mm} (hR : Rm z T sz B e s p c c0 w u v) (hi : c0 ≤ i) (hic : i < c) : Rm z T sz B e s p c c0 w (uSt i t ti nn j u) (vSt i t ti nn j v) := by
  have hC := hR.2.2.2.1
  refine hR.chg (fun q hq => uSt_1 hq) (fun x hx => ?_) (fun q hq => uSt_J hq) (fun x hx => uSt_47.trans (if_neg (by omega))) rfl (fun q h1 h2 => vSt_1 h1) (fun x hx => ?_) (fun x hx => by rw [vSt_1 (by omega)]) (fun q hq => vSt_J hq) (fun x hx => vSt_7.trans (if_neg (by omega))) rfl (fun x h1 h2 => ?_)
  · rw [uSt_46, if_neg (by omega), if_neg (by omega), if_neg (by omega)]
  · rw [vSt_6, if_neg (by omega), if_neg (by omega), if_neg (by omega)]
  · obtain ⟨d1, d2, d3, d4, d5⟩ := hC.2.2.2 x h2
    refine ⟨fun k hk => ?_, ?_, ?_, ?_, ?_⟩
    · rw [uSt_46, vSt_6]
      by_cases hx : x = i
      · subst hx
        by_cases k10 : k = 10
        · rw [if_pos (by omega), if_pos (by omega)]
        · rw [if_neg (by omega), if_neg (show ¬ 17 * x + k = 17 * x + 10 by omega)]
          by_cases k9 : k = 9
          · rw [if_pos (by omega), if_pos (by omega)]
          · rw [if_neg (by omega), if_neg (show ¬ 17 * x + k = 17 * x + 9 by omega)]
            by_cases k8 : k = 8
            · rw [if_pos (by omega), if_pos (by omega)]
            · rw [if_neg (by omega), if_neg (show ¬ 17 * x + k = 17 * x + 8 by omega)]; exact d1 k hk
      · rw [if_neg (by omega), if_neg (by omega), if_neg (by omega), if_neg (by omega), if_neg (by omega), if_neg (by omega)]; exact d1 k hk
    · rw [uSt_47, vSt_7]
      by_cases hx : x = i
      · rw [if_pos hx, if_pos hx]
      · rw [if_neg hx, if_neg hx]; exact d2
    · rw [uSt_J (by omega), vSt_J (by omega)]; exact d3
    · rw [uSt_46, if_neg (by omega), if_neg (by omega), if_neg (by omega), vSt_1 (by omega)]; exact d4
    · rw [vSt_1 (q := 10) (by omega), vSt_6.trans ((if_neg (by omega)).trans ((if_neg (by omega)).trans (if_neg (by omega)))), uSt_46, if_neg (by omega), if_neg (by omega), if_neg (by omega)]; exact d5
/-- what the finishing of times leaves as it is -/
def frF (c0 c : Nat) (u v u' v' : Mm) : Prop := (∀ q, q ≠ 46 → u'.1 q = u.1 q) ∧ (∀ q, q ≠ 47 → u'.2.1 q = u.2.1 q) ∧ u'.2.2 = u.2.2 ∧ (∀ q, q ≠ 6 → v'.1 q = v.1 q) ∧ (∀ q, q ≠ 7 → v'.2.1 q = v.2.1 q) ∧ (∀ i k, i < c → k < 17 → k ≠ 8 ∧ k ≠ 9 ∧ k ≠ 10 → v'.1 6 (17 * i + k) = v.1 6 (17 * i + k)) ∧ (∀ i, i < 17 * c0 → v'.1 6 i = v.1 6 i) ∧ (∀ i, i < c0 → v'.2.1 7 i = v.2.1 7 i)
theorem frF.refl {c0 c : Nat} {u v : Mm} : frF c0 c u v u v := ⟨fun _ _ => rfl, fun _ _ => rfl, rfl, fun _ _ => rfl, fun _ _ => rfl, fun _ _ _ _ _ => rfl, fun _ _ => rfl, fun _ _ => rfl⟩
theorem frF.trans {c0 c : Nat} {u v u1 v1 u2 v2 : Mm} (h : frF c0 c u v u1 v1) (k : frF c0 c u1 v1 u2 v2) : frF c0 c u v u2 v2 := by
  obtain ⟨h1, h2, h3, h4, h5, h6, h7, h8⟩ := h
  obtain ⟨k1, k2, k3, k4, k5, k6, k7, k8⟩ := k
  exact ⟨fun q hq => (k1 q hq).trans (h1 q hq), fun q hq => (k2 q hq).trans (h2 q hq), k3.trans h3, fun q hq => (k4 q hq).trans (h4 q hq), fun q hq => (k5 q hq).trans (h5 q hq), fun i j a b d => (k6 i j a b d).trans (h6 i j a b d), fun i hi => (k7 i hi).trans (h7 i hi), fun i hi => (k8 i hi).trans (h8 i hi)⟩
theorem frF.step {c0 c i t ti nn j : Nat} {u v : Mm} (hi : c0 ≤ i) (hic : i < c) : frF c0 c u v (uSt i t ti nn j u) (vSt i t ti nn j v) :=
  ⟨fun q hq => uSt_1 hq, fun q hq => uSt_J hq, rfl, fun q hq => vSt_1 hq, fun q hq => vSt_J hq, fun x k hx hk hn => by rw [vSt_6, if_neg (by omega), if_neg (by omega), if_neg (by omega)], fun x hx => by rw [vSt_6, if_neg (by omega), if_neg (by omega), if_neg (by omega)], fun x hx => vSt_7.trans (if_neg (by omega))⟩
def rTail (n : Nat) (x2 : Int32) (u0 : Mm) (Q T : Mm → Prop) : Prop :=
  w_X12_set n x2 (11 : Int32) (u0.1 0 42) u0 (fun u1 =>
  w_X12_set n x2 (12 : Int32) (u1.1 0 43) u1 (fun u2 =>
  w_X12_set n x2 (13 : Int32) (u2.1 0 44) u2 (fun u3 =>
  mlet (setI u3 0 42 (0 : Int32)) fun u4 =>
  mlet (setI u4 0 43 (0 : Int32)) fun u5 =>
  mlet (setI u5 0 44 (0 : Int32)) fun u6 =>
  vp_in x2 400 ∧ (w_X12_addTime n (u6.2.1 7 (ix x2)) u6 (fun u7 =>
  vp_in (u7.1 0 28) 3 ∧ (mlet (setI u7 23 (ix (u7.1 0 28)) x2) fun u8 =>
  mlet (setI u8 0 49 x2) fun u9 =>
  ((u9.1 0 46) ≤ 0 → w_X12_readTimed_542 n (0 : Int32) u9 Q T) ∧
  (¬ (u9.1 0 46) ≤ 0 → w_X12_readTimed_542 n ((u9.1 0 46) - (1 : Int32)) u9 Q T))) T)) T) T) T
/-- lengths of a timed's notes, on both sides -/
def own (cnt A D : Nat) (N M : Nat → Nat) (u v : Mm) : Prop := (1 ≤ A ∧ A ≤ 64 ∧ okUn D) ∧ ∀ i, i < cnt → 1 ≤ N i ∧ N i ≤ 64 ∧ okUn (M i) ∧ u.1 64 i = nI (N i) ∧ u.1 65 i = nI (M i) ∧ v.1 24 i = nI (N i * A) ∧ v.1 25 i = nI (M i * D)
def tmI (c0 j ti nn : Nat) (v : Mm) : Prop := ∀ i, i < j → (∃ t : Nat, v.2.1 7 (c0 + i) = lN t ∧ 1 ≤ t ∧ t ≤ 10321920) ∧ v.1 6 (17 * (c0 + i) + 8) = nI ti ∧ v.1 6 (17 * (c0 + i) + 9) = nI nn ∧ v.1 6 (17 * (c0 + i) + 10) = nI i
theorem S_times {z : Mm × Mm} {n : Nat} {T : Nat → Nat} {sz B e s p c0 w cnt A D nt ti U tl tq tp a b : Nat} {N M : Nat → Nat} (hcn : cnt ≤ 12) (hnt : nt ≤ 1) (hti : ti ≤ 1) (hU : okUn U) : ∀ (d k k' j : Nat) (u v : Mm), cnt - j = d → d < k → d < k' → j ≤ cnt → Rm z T sz B e s p (c0 + cnt) c0 w u v → own cnt A D N M u v → pnd tl tq tp a b u v → u.1 (50 + w) 10 = nI U → v.1 15 w = nI U → tmI c0 j ti (if nt = 1 then cnt else 0) v → (∃ u' v', (∀ Q, w_X4_finishTimed_76 n Q k (nI c0) (nI cnt) (nI A) (nI D) (nI nt) (nI ti) (nI j) u = w_X4_finishTimed_235 n (nI c0) (nI cnt) (nI ti) u' Q) ∧ (∀ Q T', w_X12_readTimed_362 n Q T' k' (nI c0) (nI cnt) (nI nt) (nI ti) (nI j) v = rTail n (nI c0) v' Q T') ∧ Rm z T sz B e s p (c0 + cnt) c0 w u' v' ∧ frF c0 (c0 + cnt) u v u' v' ∧ tmI c0 cnt ti (if nt = 1 then cnt else 0) v') ∨ (∃ u' v', (∀ Q, w_X4_finishTimed_76 n Q k (nI c0) (nI cnt) (nI A) (nI D) (nI nt) (nI ti) (nI j) u = Q u') ∧ (∀ Q T', w_X12_readTimed_362 n Q T' k' (nI c0) (nI cnt) (nI nt) (nI ti) (nI j) v = T' v') ∧ jFl z u' v') := by
  intro d
  induction d with
  | zero =>
    intro k k' j u v hd hk hk' hj hR hO hp hu hv hI
    obtain ⟨k, rfl⟩ : ∃ x, k = x + 1 := ⟨k - 1, by omega⟩
    obtain ⟨k', rfl⟩ : ∃ x, k' = x + 1 := ⟨k' - 1, by omega⟩
    obtain rfl : j = cnt := by omega
    refine Or.inl ⟨u, v, fun Q => ?_, fun Q T' => ?_, hR, frF.refl, hI⟩
    · rw [w_X4_finishTimed_76]
      simp (disch := omega) only [↓mletE, ↓iletE, ↓jletE, ↓br_if, ↓br_ifn, ↓reduceIte, nl_lt, nl_gt, nl_le, nl_ge, nl_eq, nn_lt, nn_le, nn_eq, nl_add, nl_sub, nl_mul, nl_mulr, nn_add, nn_ix, nn_in, true_and, and_true, false_and, and_false, gI_if, gIj, gIr, gJ_if, gJi, gJr, gPr, gPi, gPj, hu_if, hv_if, Nat.reduceEqDiff, Nat.reduceLT, Nat.reduceLeDiff, eq_self, bIT, bIF, Nat.add_zero, Nat.add_assoc, Nat.reduceAdd, nb0, nb1, i10, i00, Bool.false_eq_true, not_true_eq_false, not_false_eq_true, reduceIte, Nat.le_refl]
    · rw [w_X12_readTimed_362]
      have e : (nI j ≤ nI j) = True := eq_true (Int32.le_refl _)
      rw [show ∀ A B : Prop, ((nI j ≤ nI j → A) ∧ (¬ nI j ≤ nI j → B)) = A from fun A B => by rw [br_if, if_pos (Int32.le_refl _)]]
      rfl
  | succ d ih =>
    intro k k' j u v hd hk hk' hj hR hO hp hu hv hI
    obtain ⟨k, rfl⟩ : ∃ x, k = x + 1 := ⟨k - 1, by omega⟩
    obtain ⟨k', rfl⟩ : ∃ x, k' = x + 1 := ⟨k' - 1, by omega⟩
    have hjc : j < cnt := by omega
    have hC := hR.2.2.2.1
    have hW := hR.2.2.2.2.2.2.2.2.1
    have hw := hW.1
    have hKc := hR.1.1
    have hKm := hR.1.2.1
    have h36 := hC.1
    have h400 := hC.2.2.1
    have h6 := hR.1.2.2
    have hP2 := hW.2.2.2.1
    have h28 := hW.2.2.1
    obtain ⟨⟨A1, A2, D1⟩, hOj⟩ := id hO
    obtain ⟨n1, n2, m1, o1, o2, o3, o4⟩ := hOj j hjc
    have Dl := D1.le
    have Ml := m1.le
    have hNA : 1 ≤ N j * A ∧ N j * A ≤ 4096 := ⟨Nat.mul_pos (by omega) (by omega), Nat.le_trans (Nat.mul_le_mul n2 A2) (by omega)⟩
    have hMD : 1 ≤ M j * D ∧ M j * D ≤ 4096 := ⟨Nat.mul_pos (by omega) (by omega), Nat.le_trans (Nat.mul_le_mul Ml.2 Dl.2) (by omega)⟩
    have hUl := hU.le
    have g1 : (cnt ≤ j) = False := eq_false (by omega)
    have g2 : (12 ≤ j) = False := eq_false (by omega)
    have t1 : (nI (N j)).toInt64 * (nI A).toInt64 = lN (N j * A) := by rw [nI_l (by omega), nI_l (by omega), lN_mul]
    have t2 : (nI (M j)).toInt64 * (nI D).toInt64 * (nI U).toInt64 = lN (M j * D * U) := by rw [nI_l (by omega), nI_l (by omega), nI_l (by omega), lN_mul, lN_mul]
    have ct := fun (Q : Int64 → Mm → Prop) => c_ticks (n := n) (Q := Q) hp hU hNA hMD
    have rt := fun (pl : Int32) (Q : Int64 → Mm → Prop) (T' : Mm → Prop) => r_time (n := n) (pl := pl) (Q := Q) (T' := T') hw h28 hv hp hU hNA hMD
    have htk := tks_le (tl := tl) (tq := tq) (tp := tp) (a := a) (b := b) (U := U) (N := N j * A) (M := M j * D)
    generalize htd : tks tl tq tp a b U (N j * A) (M j * D) = t at ct rt htk
    have h16 : v.1 6 (17 * (c0 + j) + 16) = u.1 46 (19 * (c0 + j) + 16) := ((hC.2.2.2 (c0 + j) (by omega)).1 16 (by omega)).symm
    have lc : (0 ≤ lg_cmp (lN t) 1) = (1 ≤ t) := by rw [show (1 : Int64) = lN 1 from rfl, lc_ge (by omega)]
    by_cases ht : t = 0
    · have lc' : (0 ≤ lg_cmp (lN t) 1) = False := lc.trans (eq_false (by omega))
      refine Or.inr ⟨setI (setI u 33 6 4) 33 7 (u.1 46 (19 * (c0 + j) + 16)), setI (setI v 1 6 4) 1 7 (u.1 46 (19 * (c0 + j) + 16)), fun Q => ?_, fun Q T' => ?_, jFl_mk (by repeat (first | exact hKc | refine jKc.set ?_ (by omega) (by omega) | refine jKc.setJ ?_ (by omega))) (by repeat (first | exact hKm | refine jKm.set ?_ (by omega) (by omega) | refine jKm.setJ ?_ (by omega))) (w := 4) (pl := u.1 46 (19 * (c0 + j) + 16)) (by simp (disch := omega) only [gI_if, gIj, gIr, gJ_if, gJi, gJr, gPr, gPi, gPj, hu_if, hv_if, Nat.reduceEqDiff, eq_self, reduceIte, if_neg, if_pos]) (by simp (disch := omega) only [gI_if, gIj, gIr, gJ_if, gJi, gJr, gPr, gPi, gPj, hu_if, hv_if, Nat.reduceEqDiff, eq_self, reduceIte, if_neg, if_pos]) (by simp (disch := omega) only [gI_if, gIj, gIr, gJ_if, gJi, gJr, gPr, gPi, gPj, hu_if, hv_if, Nat.reduceEqDiff, eq_self, reduceIte, if_neg, if_pos]) (by simp (disch := omega) only [gI_if, gIj, gIr, gJ_if, gJi, gJr, gPr, gPi, gPj, hu_if, hv_if, Nat.reduceEqDiff, eq_self, reduceIte, if_neg, if_pos]) (by decide)⟩
      · rw [w_X4_finishTimed_76]
        simp (disch := omega) only [↓mletE, ↓iletE, ↓jletE, ↓br_if, ↓br_ifn, ↓reduceIte, nl_lt, nl_gt, nl_le, nl_ge, nl_eq, nn_lt, nn_le, nn_eq, nl_add, nl_sub, nl_mul, nl_mulr, nn_add, nn_ix, nn_in, true_and, and_true, false_and, and_false, gI_if, gIj, gIr, gJ_if, gJi, gJr, gPr, gPi, gPj, hu_if, hv_if, Nat.reduceEqDiff, Nat.reduceLT, Nat.reduceLeDiff, eq_self, bIT, bIF, Nat.add_zero, Nat.add_assoc, Nat.reduceAdd, nb0, nb1, i10, i00, Bool.false_eq_true, not_true_eq_false, not_false_eq_true, reduceIte, g1, g2, o1, o2, hP2, hu, t1, t2, ct, lc', ↓c_cel, h36, ccell_in, ↓c_fail, h6, cfl_0]
      · rw [w_X12_readTimed_362]
        have ht' : (t = 0) = True := eq_true ht
        simp (disch := omega) only [↓mletE, ↓iletE, ↓jletE, ↓br_if, ↓br_ifn, ↓reduceIte, nl_lt, nl_gt, nl_le, nl_ge, nl_eq, nn_lt, nn_le, nn_eq, nl_add, nl_sub, nl_mul, nl_mulr, nn_add, nn_ix, nn_in, true_and, and_true, false_and, and_false, gI_if, gIj, gIr, gJ_if, gJi, gJr, gPr, gPi, gPj, hu_if, hv_if, Nat.reduceEqDiff, Nat.reduceLT, Nat.reduceLeDiff, eq_self, bIT, bIF, Nat.add_zero, Nat.add_assoc, Nat.reduceAdd, nb0, nb1, i10, i00, Bool.false_eq_true, not_true_eq_false, not_false_eq_true, reduceIte, g1, g2, w_X12_get, o3, o4, h16, rt, ht']
    · have lc' : (0 ≤ lg_cmp (lN t) 1) = True := lc.trans (eq_true (by omega))
      have hR' := hR.step (t := t) (ti := ti) (nn := if nt = 1 then cnt else 0) (j := j) (i := c0 + j) (by omega) (by omega)
      have hF := frF.step (c0 := c0) (c := c0 + cnt) (i := c0 + j) (t := t) (ti := ti) (nn := if nt = 1 then cnt else 0) (j := j) (u := u) (v := v) (by omega) (by omega)
      have hI' : tmI c0 (j + 1) ti (if nt = 1 then cnt else 0) (vSt (c0 + j) t ti (if nt = 1 then cnt else 0) j v) := by
        intro i hi
        by_cases hij : i = j
        · subst hij
          refine ⟨⟨t, vSt_7.trans (if_pos rfl), by omega, htk⟩, ?_, ?_, ?_⟩
          · rw [vSt_6, if_neg (by omega), if_neg (by omega), if_pos rfl]
          · rw [vSt_6, if_neg (by omega), if_pos rfl]
          · rw [vSt_6, if_pos rfl]
        · obtain ⟨⟨t', a1, a2, a3⟩, b1, b2, b3⟩ := hI i (by omega)
          refine ⟨⟨t', (vSt_7.trans (if_neg (by omega))).trans a1, a2, a3⟩, ?_, ?_, ?_⟩
          · rw [vSt_6, if_neg (by omega), if_neg (by omega), if_neg (by omega)]; exact b1
          · rw [vSt_6, if_neg (by omega), if_neg (by omega), if_neg (by omega)]; exact b2
          · rw [vSt_6, if_neg (by omega), if_neg (by omega), if_neg (by omega)]; exact b3
      have hO' : own cnt A D N M (uSt (c0 + j) t ti (if nt = 1 then cnt else 0) j u) (vSt (c0 + j) t ti (if nt = 1 then cnt else 0) j v) := by
        unfold own
        rw [uSt_1 (by omega), uSt_1 (by omega), vSt_1 (by omega), vSt_1 (by omega)]; exact hO
      have hp' : pnd tl tq tp a b (uSt (c0 + j) t ti (if nt = 1 then cnt else 0) j u) (vSt (c0 + j) t ti (if nt = 1 then cnt else 0) j v) := by
        unfold pnd
        rw [uSt_1 (by omega), vSt_1 (by omega)]; exact hp
      have key := ih k k' (j + 1) _ _ (by omega) (by omega) (by omega) (by omega) hR' hO' hp' (by rw [uSt_1 (by omega)]; exact hu) (by rw [vSt_1 (by omega)]; exact hv) hI'
      have eC : ∀ Q, w_X4_finishTimed_76 n Q (k + 1) (nI c0) (nI cnt) (nI A) (nI D) (nI nt) (nI ti) (nI j) u = w_X4_finishTimed_76 n Q k (nI c0) (nI cnt) (nI A) (nI D) (nI nt) (nI ti) (nI (j + 1)) (uSt (c0 + j) t ti (if nt = 1 then cnt else 0) j u) := by
        intro Q
        unfold uSt
        rw [w_X4_finishTimed_76]
        have hn' : nt = 0 ∨ nt = 1 := by omega
        have ht' : ti = 0 ∨ ti = 1 := by omega
        rcases hn' with rfl | rfl <;> rcases ht' with rfl | rfl <;> simp (disch := omega) only [↓mletE, ↓iletE, ↓jletE, ↓br_if, ↓br_ifn, ↓reduceIte, nl_lt, nl_gt, nl_le, nl_ge, nl_eq, nn_lt, nn_le, nn_eq, nl_add, nl_sub, nl_mul, nl_mulr, nn_add, nn_ix, nn_in, true_and, and_true, false_and, and_false, gI_if, gIj, gIr, gJ_if, gJi, gJr, gPr, gPi, gPj, hu_if, hv_if, Nat.reduceEqDiff, Nat.reduceLT, Nat.reduceLeDiff, eq_self, bIT, bIF, Nat.add_zero, Nat.add_assoc, Nat.reduceAdd, nb0, nb1, i10, i00, Bool.false_eq_true, not_true_eq_false, not_false_eq_true, reduceIte, w_X4_finishTimed_192, w_X4_finishTimed_213, g1, g2, o1, o2, hP2, hu, t1, t2, ct, lc', ↓c_setTicks, ↓c_put, h36, cticks_in, cput_in, nI0, nI1]
      have eM : ∀ Q T', w_X12_readTimed_362 n Q T' (k' + 1) (nI c0) (nI cnt) (nI nt) (nI ti) (nI j) v = w_X12_readTimed_362 n Q T' k' (nI c0) (nI cnt) (nI nt) (nI ti) (nI (j + 1)) (vSt (c0 + j) t ti (if nt = 1 then cnt else 0) j v) := by
        intro Q T'
        unfold vSt
        rw [w_X12_readTimed_362]
        have hn' : nt = 0 ∨ nt = 1 := by omega
        have ht0 : (t = 0) = False := eq_false ht
        rcases hn' with rfl | rfl <;> simp (disch := omega) only [↓mletE, ↓iletE, ↓jletE, ↓br_if, ↓br_ifn, ↓reduceIte, nl_lt, nl_gt, nl_le, nl_ge, nl_eq, nn_lt, nn_le, nn_eq, nl_add, nl_sub, nl_mul, nl_mulr, nn_add, nn_ix, nn_in, true_and, and_true, false_and, and_false, gI_if, gIj, gIr, gJ_if, gJi, gJr, gPr, gPi, gPj, hu_if, hv_if, Nat.reduceEqDiff, Nat.reduceLT, Nat.reduceLeDiff, eq_self, bIT, bIF, Nat.add_zero, Nat.add_assoc, Nat.reduceAdd, nb0, nb1, i10, i00, Bool.false_eq_true, not_true_eq_false, not_false_eq_true, reduceIte, w_X12_readTimed_432, w_X12_get, w_X12_set, g1, g2, o3, o4, rt, ht0, nI0, nI1]
      rcases key with ⟨u', v', c1, c2, c3, c4, c5⟩ | ⟨u', v', c1, c2, c3⟩
      · exact Or.inl ⟨u', v', fun Q => (eC Q).trans (c1 Q), fun Q T' => (eM Q T').trans (c2 Q T'), c3, hF.trans c4, c5⟩
      · exact Or.inr ⟨u', v', fun Q => (eC Q).trans (c1 Q), fun Q T' => (eM Q T').trans (c2 Q T'), c3⟩
