/-! a field: what is told behind its colon and blanks -/
def cCh (n : Nat) (x2 x3 : Int32) (u2 : Mm) (K : Mm → Prop) : Prop :=
  (x3 = (75 : Int32) → w_X0_readKey n u2 (fun u3 =>
  mlet (setI u3 (u3.2.2 2) 7 (u3.1 34 4)) fun u4 =>
  w_X4_addChange n (6 : Int32) x2 (u4.1 34 4) (0 : Int32) u4 (fun u5 =>
  K u5))) ∧
  (¬ x3 = (75 : Int32) → (x3 = (76 : Int32) → w_X0_readUnit n u2 (fun u6 =>
  mlet (setI u6 (u6.2.2 2) 10 (u6.1 34 3)) fun u7 =>
  w_X4_addChange n (8 : Int32) x2 (u7.1 34 3) (0 : Int32) u7 (fun u8 =>
  K u8))) ∧
  (¬ x3 = (76 : Int32) → (x3 = (77 : Int32) → w_X0_readMeter n u2 (fun u9 =>
  mlet (setI u9 (u9.2.2 2) 8 (u9.1 34 1)) fun u10 =>
  mlet (setI u10 (u10.2.2 2) 9 (u10.1 34 2)) fun u11 =>
  w_X4_addChange n (7 : Int32) x2 (u11.1 34 1) (u11.1 34 2) u11 (fun u12 =>
  K u12))) ∧
  (¬ x3 = (77 : Int32) → (x3 = (86 : Int32) → w_X5_number n (3 : Int32) (0 : Int32) u2 (fun r1 u13 =>
  w_X4_takeVoice n r1 u13 (fun u14 =>
  K u14))) ∧
  (¬ x3 = (86 : Int32) → w_X5_fail n (1 : Int32) x2 u2 (fun u15 =>
  K u15)))))
theorem ch42 {n : Nat} {x1 x2 x3 t0 t1 : Int32} {u : Mm} {Q : Mm → Prop} : w_X4_readChange_42 n x1 x2 x3 t0 t1 u Q = w_X5_skipBlanks n (setI u 33 2 (t1 + t0)) (fun u2 => cCh n x2 x3 u2 (fun u => w_X4_readChange_258 n x1 u Q)) := rfl
def rFd (n : Nat) (x1 x2 : Int32) (u3 : Mm) (Q T : Mm → Prop) : Prop :=
  (¬ x2 = (86 : Int32) → (¬ x2 = (77 : Int32) → (¬ x2 = (76 : Int32) → w_X12_readKey n u3 (fun r1 u4 =>
  vp_in (u3.1 0 28) 3 ∧ (mlet (setI u4 12 (ix (u3.1 0 28)) r1) fun u5 =>
  w_X12_newThing n (6 : Int32) x1 u5 (fun r2 u6 =>
  vp_in (u6.1 0 28) 3 ∧ (w_X12_set n r2 (3 : Int32) (u6.1 12 (ix (u6.1 0 28))) u6 (fun u7 =>
  Q u7) T)) T)) T) ∧
  (x2 = (76 : Int32) → w_X12_readUnit n u3 (fun r3 u8 =>
  vp_in (u3.1 0 28) 3 ∧ (mlet (setI u8 15 (ix (u3.1 0 28)) r3) fun u9 =>
  w_X12_newThing n (8 : Int32) x1 u9 (fun r4 u10 =>
  vp_in (u10.1 0 28) 3 ∧ (w_X12_set n r4 (3 : Int32) (u10.1 15 (ix (u10.1 0 28))) u10 (fun u11 =>
  Q u11) T)) T)) T)) ∧
  (x2 = (77 : Int32) → w_X12_readMeter n u3 (fun u12 =>
  vp_in (u12.1 0 28) 3 ∧ (mlet (setI u12 13 (ix (u12.1 0 28)) (u12.1 0 50)) fun u13 =>
  vp_in (u13.1 0 28) 3 ∧ (mlet (setI u13 14 (ix (u13.1 0 28)) (u13.1 0 51)) fun u14 =>
  w_X12_newThing n (7 : Int32) x1 u14 (fun r5 u15 =>
  w_X12_set n r5 (3 : Int32) (u15.1 0 50) u15 (fun u16 =>
  w_X12_set n r5 (4 : Int32) (u16.1 0 51) u16 (fun u17 =>
  Q u17) T) T) T))) T)) ∧
  (x2 = (86 : Int32) → w_X12_numberOf n (1 : Int32) (3 : Int32) (u3.1 0 7) u3 (fun r6 u18 =>
  mlet (setI u18 0 28 (r6 - (1 : Int32))) fun u19 =>
  (((u19.1 0 28) + (1 : Int32)) ≤ (u19.1 0 29) → w_X12_readField_107 n (u19.1 0 29) u19 Q T) ∧
  (¬ ((u19.1 0 28) + (1 : Int32)) ≤ (u19.1 0 29) → w_X12_readField_107 n ((u19.1 0 28) + (1 : Int32)) u19 Q T)) T)
theorem fd38 {n : Nat} {x1 x2 : Int32} {v : Mm} {Q T : Mm → Prop} : w_X12_readField_38 n x1 x2 v Q T = w_X12_must n 58 (setI v 0 7 (v.1 0 7 + 1)) (fun u2 => w_X12_blanks n u2 (fun u3 => rFd n x1 x2 u3 Q T) T) T := rfl
theorem cput_m1 {c : Nat} {k x : Int32} {u : Mm} : cput (nI c) (-1) k x u = u := by
  unfold cput
  exact if_neg (fun h => absurd h.1 (by decide))
/-- the thing of a change -/
theorem addC {z : Mm × Mm} {n : Nat} {T : Nat → Nat} {sz B e s p c w : Nat} {sort pl x y : Int32} {u v : Mm} (hn : 5000 ≤ n) (hs : sort ≠ 4 ∧ sort ≠ 0) (hR : Rm z T sz B e s p c c w u v) :
  (∃ u' v1, c < 400 ∧ (∀ K, w_X4_addChange n sort pl x y u K = K u') ∧ (∀ Q T', w_X12_newThing n sort pl v Q T' = Q (nI c) v1) ∧ (∀ k, k ≠ 27 → v1.1 0 k = v.1 0 k) ∧ v1.1 12 = v.1 12 ∧ v1.1 15 = v.1 15 ∧ v1.1 6 (17 * c + 4) = 0 ∧ Rm z T sz B e s p (c + 1) (c + 1) w u' (setI (setI v1 6 (17 * c + 3) x) 6 (17 * c + 4) y) ∧ u'.1 38 14 = u.1 38 14) ∨ (∃ u' v', (∀ K, w_X4_addChange n sort pl x y u K = K u') ∧ (∀ Q T', w_X12_newThing n sort pl v Q T' = T' v') ∧ jFl z u' v') := by
  have hw := hR.2.2.2.2.2.2.2.2.1.1
  have h36 := hR.2.2.2.1.1
  have h33_6 := hR.1.2.2
  obtain ⟨m, so, hm⟩ := hR.2.2.2.2.1 w hw
  rcases S_add (n := n) (sort := sort) (pl := pl) (m := m) (so := so) hn hR hm with ⟨u1, v1, c4, E1, E2, hR1, hm1, hA⟩ | ⟨u', v', E1, E2, hF, hu'⟩
  · obtain ⟨⟨a1, a2, a3, a4⟩, ⟨b1, b2, b3⟩, ⟨d1, d2, d3⟩, ⟨s0, s1, s2, s3, s4⟩, hun, -, -⟩ := hA
    have h36' := hR1.2.2.2.1.1
    have hR2 := ((hR1.put (i := c) (k := 3) (x := x) (by omega) (by omega) (by omega) (by omega)).put (i := c) (k := 4) (x := y) (by omega) (by omega) (by omega) (by omega)).up (j := 1) (fun i h1 h2 => by
      obtain rfl : i = c := by omega
      refine ⟨?_, ?_, ?_⟩
      · simp (disch := omega) only [gIs, gIn, gIj, gIr, gJs, gJn, gJi, gJr, gPr, gPi, gPj, hu_s, hu_n, hv_s, hv_n]; rw [s0]; exact hs.1
      · simp (disch := omega) only [gIs, gIn, gIj, gIr, gJs, gJn, gJi, gJr, gPr, gPi, gPj, hu_s, hu_n, hv_s, hv_n]; rw [s0]; exact hs.2
      · simp (disch := omega) only [gIs, gIn, gIj, gIr, gJs, gJn, gJi, gJr, gPr, gPi, gPj, hu_s, hu_n, hv_s, hv_n]; exact hun)
    refine Or.inl ⟨setI (setI u1 46 (19 * c + 3) x) 46 (19 * c + 4) y, v1, c4, fun K => ?_, E2, b1, b2 12 (by omega) (by omega) (by omega) (by omega) (by omega), b2 15 (by omega) (by omega) (by omega) (by omega) (by omega), s4 4 (by omega) (by omega), hR2, ?_⟩
    · unfold w_X4_addChange
      simp (disch := omega) only [↓mletE, ↓iletE, ↓jletE, ↓br_if, ↓br_ifn, ↓reduceIte, nl_lt, nl_gt, nl_le, nl_ge, nl_eq, nn_lt, nn_le, nn_eq, nl_add, nl_sub, nl_mul, nl_mulr, nn_add, nn_ix, nn_in, true_and, and_true, false_and, and_false, gI_if, gIj, gIr, gJ_if, gJi, gJr, gPr, gPi, gPj, hu_if, hv_if, Nat.reduceEqDiff, Nat.reduceLT, Nat.reduceLeDiff, eq_self, bIT, bIF, Nat.add_zero, Nat.add_assoc, Nat.reduceAdd, nb0, nb1, i10, i00, Bool.false_eq_true, not_true_eq_false, not_false_eq_true, reduceIte, h33_6, ↓E1, ↓c_put, h36', cput_in]
    · simp (disch := omega) only [gIs, gIn, gIj, gIr, gJs, gJn, gJi, gJr, gPr, gPi, gPj, hu_s, hu_n, hv_s, hv_n]; rw [a1 38 (by omega) (by omega)]
  · refine Or.inr ⟨u', v', fun K => ?_, E2, hF⟩
    have h36' : u'.1 36 3 = nI c := by rw [hu']; simp (disch := omega) only [gIs, gIn, gIj, gIr, gJs, gJn, gJi, gJr, gPr, gPi, gPj, hu_s, hu_n, hv_s, hv_n]; exact h36
    unfold w_X4_addChange
    simp (disch := omega) only [↓mletE, ↓iletE, ↓jletE, ↓br_if, ↓br_ifn, ↓reduceIte, nl_lt, nl_gt, nl_le, nl_ge, nl_eq, nn_lt, nn_le, nn_eq, nl_add, nl_sub, nl_mul, nl_mulr, nn_add, nn_ix, nn_in, true_and, and_true, false_and, and_false, gI_if, gIj, gIr, gJ_if, gJi, gJr, gPr, gPi, gPj, hu_if, hv_if, Nat.reduceEqDiff, Nat.reduceLT, Nat.reduceLeDiff, eq_self, bIT, bIF, Nat.add_zero, Nat.add_assoc, Nat.reduceAdd, nb0, nb1, i10, i00, Bool.false_eq_true, not_true_eq_false, not_false_eq_true, reduceIte, h33_6, ↓E1, ↓c_put, h36', cput_m1]
/-- what a field leaves -/
def fldP (z : Mm × Mm) (T : Nat → Nat) (sz B e s p : Nat) (x y : Int32) (u' v' : Mm) : Prop := ∃ q c' w', p ≤ q ∧ q ≤ s ∧ Rm z T sz B e s q c' c' w' u' v' ∧ u'.1 38 14 = x ∧ v'.1 0 49 = y
theorem adC_f {n : Nat} {q k : Nat} {sort pl x y : Int32} {u : Mm} {f : Mm → Int32} (hok : jOk u) (hf : u.1 33 6 ≠ 0) (hq : 50 ≤ q ∧ q ≤ 52) (K : Mm → Prop) : w_X4_addChange n sort pl x y (setI u q k (f u)) K = K (setI u q k (f u)) := by
  unfold w_X4_addChange
  have h6 : (setI u q k (f u)).1 33 6 ≠ 0 := by rw [gIn (by omega)]; exact hf
  simp only [br_if, eq_false h6, if_false]
