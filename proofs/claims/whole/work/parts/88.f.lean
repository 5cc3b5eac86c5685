/-! the end of a timed, on both sides -/
def p3u (c0 : Nat) (u : Mm) : Mm := setI (setI (setI u 46 (19 * c0 + 11) (u.1 39 0)) 46 (19 * c0 + 12) (u.1 39 1)) 46 (19 * c0 + 13) (u.1 39 2)
def p3v (c0 : Nat) (v : Mm) : Mm := setI (setI (setI v 6 (17 * c0 + 11) (v.1 0 42)) 6 (17 * c0 + 12) (v.1 0 43)) 6 (17 * c0 + 13) (v.1 0 44)
theorem c_235 {n c c0 cnt w ti tl m t : Nat} {u : Mm} {Q : Mm → Prop} (hw : w < 3) (hc : c0 < c) (hc4 : c ≤ 400) (hti : ti ≤ 1) (htl : tl ≤ 9) (hm : 1 ≤ m ∧ m ≤ 300) (h36 : u.1 36 3 = nI c) (hP2 : u.2.2 2 = 50 + w) (h3 : u.1 39 3 = nI tl) (h4 : u.1 (50 + w) 4 = nI m) (ht : u.2.1 47 c0 = lN t) : w_X4_finishTimed_235 n (nI c0) (nI cnt) (nI ti) u Q = Q (uFi c0 cnt w ti tl (uSp w m (lN t) (p3u c0 u))) := by
  have hxb : xbz (nI ti) = True := by
    have : ti = 0 ∨ ti = 1 := by omega
    rcases this with rfl | rfl <;> exact eq_true (by unfold xbz; decide)
  have e39 : ∀ x : Mm, x.1 (50 + w) 4 = nI m → ∀ Q, w_X8_spend n (50 + w) (lN t) x Q = Q (uSp w m (lN t) x) := fun x hx Q => c_spend hw hm hx
  have key : ∀ X : Mm, X.1 36 3 = nI c → X.2.2 2 = 50 + w → X.2.1 47 c0 = lN t → X.1 (50 + w) 4 = nI m → w_X6_ticksOf n (nI c0) X (fun r1 u2 => w_X8_spend n (X.2.2 2) r1 u2 (fun u3 => w_X8_keepLast n (u3.2.2 2) (nI ti) (nI c0) (nI cnt) u3 (fun u4 => mlet (setI u4 38 12 (nI c0)) fun u5 => mlet (setI u5 38 13 (nI cnt)) fun u6 => mlet (setI u6 38 14 (1 : Int32)) fun u7 => Q u7))) = Q (setI (setI (setI (setI (setI (setI (uSp w m (lN t) X) (50 + w) 11 (nI ti)) (50 + w) 12 (nI c0)) (50 + w) 13 (nI cnt)) 38 12 (nI c0)) 38 13 (nI cnt)) 38 14 1) := by
    intro X x1 x2 x3 x4
    rw [c_ticksOf, x1, cto_in ⟨hc, hc4⟩, x3, x2, e39 X x4]
    have x5 : (uSp w m (lN t) X).2.2 2 = 50 + w := x2
    rw [x5]
    unfold w_X8_keepLast
    rw [hxb, true_and]
    rfl
  unfold w_X4_finishTimed_235 w_X2_giveTo w_X2_clearSigns w_X2_clearBroken w_X2_giveTo_58
  rw [c_put, h36, cput_in ⟨hc, hc4, by decide⟩, c_put, show (setI u 46 (19 * c0 + 11) (u.1 39 0)).1 36 3 = nI c from by simp (disch := omega) only [gIs, gIn, gIj, gIr, gJs, gJn, gJi, gJr, gPr, gPi, gPj, hu_s, hu_n, hv_s, hv_n]; exact h36, cput_in ⟨hc, hc4, by decide⟩, c_put, show (setI (setI u 46 (19 * c0 + 11) (u.1 39 0)) 46 (19 * c0 + 12) ((setI u 46 (19 * c0 + 11) (u.1 39 0)).1 39 1)).1 36 3 = nI c from by simp (disch := omega) only [gIs, gIn, gIj, gIr, gJs, gJn, gJi, gJr, gPr, gPi, gPj, hu_s, hu_n, hv_s, hv_n]; exact h36, cput_in ⟨hc, hc4, by decide⟩]
  have eP : setI (setI (setI u 46 (19 * c0 + 11) (u.1 39 0)) 46 (19 * c0 + 12) ((setI u 46 (19 * c0 + 11) (u.1 39 0)).1 39 1)) 46 (19 * c0 + 13) ((setI (setI u 46 (19 * c0 + 11) (u.1 39 0)) 46 (19 * c0 + 12) ((setI u 46 (19 * c0 + 11) (u.1 39 0)).1 39 1)).1 39 2) = p3u c0 u := by
    unfold p3u; simp (disch := omega) only [gIs, gIn, gIj, gIr, gJs, gJn, gJi, gJr, gPr, gPi, gPj, hu_s, hu_n, hv_s, hv_n]
  rw [eP]
  have q39 : ∀ k, (p3u c0 u).1 39 k = u.1 39 k := fun k => by unfold p3u; simp (disch := omega) only [gIs, gIn, gIj, gIr, gJs, gJn, gJi, gJr, gPr, gPi, gPj, hu_s, hu_n, hv_s, hv_n]
  have q36 : (p3u c0 u).1 36 3 = nI c := by unfold p3u; simp (disch := omega) only [gIs, gIn, gIj, gIr, gJs, gJn, gJi, gJr, gPr, gPi, gPj, hu_s, hu_n, hv_s, hv_n]; exact h36
  have qv : (p3u c0 u).1 (50 + w) 4 = nI m := by unfold p3u; simp (disch := omega) only [gIs, gIn, gIj, gIr, gJs, gJn, gJi, gJr, gPr, gPi, gPj, hu_s, hu_n, hv_s, hv_n]; exact h4
  have qJ : (p3u c0 u).2.1 = u.2.1 := rfl
  have qP : (p3u c0 u).2.2 = u.2.2 := rfl
  generalize hX : p3u c0 u = X at *
  simp only [mletE]
  have r3 : (setI (setI (setI (setI (setI X 39 0 0) 39 1 0) 39 2 0) 39 6 1) 39 7 1).1 39 3 = nI tl := by simp (disch := omega) only [gIs, gIn, gIj, gIr, gJs, gJn, gJi, gJr, gPr, gPi, gPj, hu_s, hu_n, hv_s, hv_n]; rw [q39]; exact h3
  rw [r3]
  by_cases htz : tl = 0
  · subst htz
    rw [show ∀ A B : Prop, ((nI 0 ≤ 0 → A) ∧ (¬ nI 0 ≤ 0 → B)) = A from fun A B => by rw [br_if, if_pos (by decide)]]
    have := key (setI (setI (setI (setI (setI X 39 0 0) 39 1 0) 39 2 0) 39 6 1) 39 7 1) (by simp (disch := omega) only [gIs, gIn, gIj, gIr, gJs, gJn, gJi, gJr, gPr, gPi, gPj, hu_s, hu_n, hv_s, hv_n]; exact q36) (by simp (disch := omega) only [gIs, gIn, gIj, gIr, gJs, gJn, gJi, gJr, gPr, gPi, gPj, hu_s, hu_n, hv_s, hv_n]; rw [qP]; exact hP2) (by simp (disch := omega) only [gIs, gIn, gIj, gIr, gJs, gJn, gJi, gJr, gPr, gPi, gPj, hu_s, hu_n, hv_s, hv_n]; rw [qJ]; exact ht) (by simp (disch := omega) only [gIs, gIn, gIj, gIr, gJs, gJn, gJi, gJr, gPr, gPi, gPj, hu_s, hu_n, hv_s, hv_n]; exact qv)
    have e7 : setI (setI (setI (setI (setI (setI X 39 0 0) 39 1 0) 39 2 0) 39 6 1) 39 7 1) 39 3 (nI (0 - 1)) = setI (setI (setI (setI (setI X 39 0 0) 39 1 0) 39 2 0) 39 6 1) 39 7 1 := mI_same r3
    have e8 : uFi c0 cnt w ti 0 (uSp w m (lN t) X) = setI (setI (setI (setI (setI (setI (uSp w m (lN t) (setI (setI (setI (setI (setI X 39 0 0) 39 1 0) 39 2 0) 39 6 1) 39 7 1)) (50 + w) 11 (nI ti)) (50 + w) 12 (nI c0)) (50 + w) 13 (nI cnt)) 38 12 (nI c0)) 38 13 (nI cnt)) 38 14 1 := by
      rw [← e7]; rfl
    rw [e8, ← this]
    rfl
  · have h1 : ¬ nI tl ≤ 0 := nI_nle (by omega) (by omega)
    rw [show ∀ A B : Prop, ((nI tl ≤ 0 → A) ∧ (¬ nI tl ≤ 0 → B)) = B from fun A B => by rw [br_if, if_neg h1]]
    rw [show nI tl - 1 = nI (tl - 1) from nl_sub (k := 1) (show 1 ≤ tl by omega)]
    have := key (setI (setI (setI (setI (setI (setI X 39 0 0) 39 1 0) 39 2 0) 39 6 1) 39 7 1) 39 3 (nI (tl - 1))) (by simp (disch := omega) only [gIs, gIn, gIj, gIr, gJs, gJn, gJi, gJr, gPr, gPi, gPj, hu_s, hu_n, hv_s, hv_n]; exact q36) (by simp (disch := omega) only [gIs, gIn, gIj, gIr, gJs, gJn, gJi, gJr, gPr, gPi, gPj, hu_s, hu_n, hv_s, hv_n]; rw [qP]; exact hP2) (by simp (disch := omega) only [gIs, gIn, gIj, gIr, gJs, gJn, gJi, gJr, gPr, gPi, gPj, hu_s, hu_n, hv_s, hv_n]; rw [qJ]; exact ht) (by simp (disch := omega) only [gIs, gIn, gIj, gIr, gJs, gJn, gJi, gJr, gPr, gPi, gPj, hu_s, hu_n, hv_s, hv_n]; exact qv)
    rw [show uFi c0 cnt w ti tl (uSp w m (lN t) X) = setI (setI (setI (setI (setI (setI (uSp w m (lN t) (setI (setI (setI (setI (setI (setI X 39 0 0) 39 1 0) 39 2 0) 39 6 1) 39 7 1) 39 3 (nI (tl - 1)))) (50 + w) 11 (nI ti)) (50 + w) 12 (nI c0)) (50 + w) 13 (nI cnt)) 38 12 (nI c0)) 38 13 (nI cnt)) 38 14 1 from rfl, ← this]
    rfl
theorem r_tail {n c c0 w tl m t : Nat} {v : Mm} {Q T' : Mm → Prop} (hw : w < 3) (hc : c0 < c) (hc4 : c ≤ 400) (htl : tl ≤ 9) (hm : 1 ≤ m ∧ m ≤ 300) (h28 : v.1 0 28 = nI w) (h17 : v.1 17 w = nI (m - 1)) (h46 : v.1 0 46 = nI tl) (ht : v.2.1 7 c0 = lN t) : ∃ v', (∀ Q T', rTail n (nI c0) v Q T' = Q v') ∧ setI v' 0 63 (nI c0) = vFi c0 w tl (vSp w m (lN t) (p3v c0 v)) ∧ v'.1 0 49 = nI c0 := by
  have q0 : ∀ k, (p3v c0 v).1 0 k = v.1 0 k := fun k => by unfold p3v; simp (disch := omega) only [gIs, gIn, gIj, gIr, gJs, gJn, gJi, gJr, gPr, gPi, gPj, hu_s, hu_n, hv_s, hv_n]
  have q17 : (p3v c0 v).1 17 w = nI (m - 1) := by unfold p3v; simp (disch := omega) only [gIs, gIn, gIj, gIr, gJs, gJn, gJi, gJr, gPr, gPi, gPj, hu_s, hu_n, hv_s, hv_n]; exact h17
  have eP : setI (setI (setI v 6 (17 * c0 + 11) (v.1 0 42)) 6 (17 * c0 + 12) ((setI v 6 (17 * c0 + 11) (v.1 0 42)).1 0 43)) 6 (17 * c0 + 13) ((setI (setI v 6 (17 * c0 + 11) (v.1 0 42)) 6 (17 * c0 + 12) ((setI v 6 (17 * c0 + 11) (v.1 0 42)).1 0 43)).1 0 44) = p3v c0 v := by
    unfold p3v; simp (disch := omega) only [gIs, gIn, gIj, gIr, gJs, gJn, gJi, gJr, gPr, gPi, gPj, hu_s, hu_n, hv_s, hv_n]
  have st : ∀ (k : Nat) (x : Int32) (y : Mm) (Q T' : Mm → Prop), k < 17 → w_X12_set n (nI c0) (nI k) x y Q T' = Q (setI y 6 (17 * c0 + k) x) := fun k x y Q T' hk => by
    unfold w_X12_set
    rw [nl_mulr, nn_add, eq_true (vp_in_nI (N := 6800) (n := 17 * c0 + k) (by omega) (by omega)), true_and, nn_ix (by omega)]
    rfl
  have go : ∀ Q T', rTail n (nI c0) v Q T' = (fun X : Mm => vp_in (nI c0) 400 ∧ (w_X12_addTime n (X.2.1 7 (ix (nI c0))) X (fun u7 => vp_in (u7.1 0 28) 3 ∧ (mlet (setI u7 23 (ix (u7.1 0 28)) (nI c0)) fun u8 => mlet (setI u8 0 49 (nI c0)) fun u9 => ((u9.1 0 46) ≤ 0 → w_X12_readTimed_542 n (0 : Int32) u9 Q T') ∧ (¬ (u9.1 0 46) ≤ 0 → w_X12_readTimed_542 n ((u9.1 0 46) - (1 : Int32)) u9 Q T'))) T')) (setI (setI (setI (p3v c0 v) 0 42 0) 0 43 0) 0 44 0) := by
    intro Q T'
    unfold rTail
    rw [show (11 : Int32) = nI 11 from rfl, show (12 : Int32) = nI 12 from rfl, show (13 : Int32) = nI 13 from rfl, st 11 _ _ _ _ (by omega), st 12 _ _ _ _ (by omega), st 13 _ _ _ _ (by omega), eP]
    rfl
  have hX28 : (setI (setI (setI (p3v c0 v) 0 42 0) 0 43 0) 0 44 0).1 0 28 = nI w := by simp (disch := omega) only [gIs, gIn, gIj, gIr, gJs, gJn, gJi, gJr, gPr, gPi, gPj, hu_s, hu_n, hv_s, hv_n]; rw [q0]; exact h28
  have hX17 : (setI (setI (setI (p3v c0 v) 0 42 0) 0 43 0) 0 44 0).1 17 w = nI (m - 1) := by simp (disch := omega) only [gIs, gIn, gIj, gIr, gJs, gJn, gJi, gJr, gPr, gPi, gPj, hu_s, hu_n, hv_s, hv_n]; exact q17
  have hXt : (setI (setI (setI (p3v c0 v) 0 42 0) 0 43 0) 0 44 0).2.1 7 (ix (nI c0)) = lN t := by rw [nn_ix (by omega)]; exact ht
  have h46' : (setI (setI (vSp w m (lN t) (setI (setI (setI (p3v c0 v) 0 42 0) 0 43 0) 0 44 0)) 23 w (nI c0)) 0 49 (nI c0)).1 0 46 = nI tl := by
    unfold vSp; simp (disch := omega) only [gIs, gIn, gIj, gIr, gJs, gJn, gJi, gJr, gPr, gPi, gPj, hu_s, hu_n, hv_s, hv_n]; rw [q0]; exact h46
  have h28' : (vSp w m (lN t) (setI (setI (setI (p3v c0 v) 0 42 0) 0 43 0) 0 44 0)).1 0 28 = nI w := hX28
  refine ⟨setI (setI (setI (setI (setI (vSp w m (lN t) (setI (setI (setI (p3v c0 v) 0 42 0) 0 43 0) 0 44 0)) 23 w (nI c0)) 0 49 (nI c0)) 0 46 (nI (tl - 1))) 0 59 1) 0 60 1, fun Q T' => ?_, rfl, by simp (disch := omega) only [gIs, gIn, gIj, gIr, gJs, gJn, gJi, gJr, gPr, gPi, gPj, hu_s, hu_n, hv_s, hv_n]⟩
  rw [go]
  show (vp_in (nI c0) 400 ∧ _) = _
  rw [eq_true (vp_in_nI (N := 400) (n := c0) (by omega) (by omega)), true_and, hXt, r_addTime hw hm hX28 hX17, h28', eq_true (vp_in_nI (N := 3) (n := w) hw (by omega)), true_and, nn_ix (by omega), mletE, mletE, h46']
  unfold w_X12_readTimed_542
  by_cases htz : tl = 0
  · subst htz
    rw [show ∀ A B : Prop, ((nI 0 ≤ 0 → A) ∧ (¬ nI 0 ≤ 0 → B)) = A from fun A B => by rw [br_if, if_pos (by decide)]]
    rfl
  · have h1 : ¬ nI tl ≤ 0 := nI_nle (by omega) (by omega)
    rw [show ∀ A B : Prop, ((nI tl ≤ 0 → A) ∧ (¬ nI tl ≤ 0 → B)) = B from fun A B => by rw [br_if, if_neg h1], show nI tl - 1 = nI (tl - 1) from nl_sub (k := 1) (show 1 ≤ tl by omega)]
    rfl
