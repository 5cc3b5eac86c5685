/-! a whole note -/
def frN (c w : Nat) (u v u' v' : Mm) : Prop := (∀ i, i < 17 * c → v'.1 6 i = v.1 6 i) ∧ (∀ i, i < c → v'.2.1 7 i = v.2.1 7 i) ∧ (∀ i, i < c → v'.1 9 i = v.1 9 i) ∧ (∀ m so, eMw w m so u v → eMw w m so u' v') ∧ (∀ k, k ≠ 7 → k ≠ 8 → u'.1 38 k = u.1 38 k) ∧ v'.1 0 49 = v.1 0 49
def nfac (c : Nat) (v : Mm) : Prop := (∃ k : Nat, v.1 9 c = nI k ∧ okUn k) ∧ (∃ l : Nat, v.1 6 (17 * c + 4) = nI l ∧ l < 7) ∧ (-2 ≤ (v.1 6 (17 * c + 5)).toInt ∧ (v.1 6 (17 * c + 5)).toInt ≤ 9) ∧ (-2 ≤ (v.1 6 (17 * c + 6)).toInt ∧ (v.1 6 (17 * c + 6)).toInt ≤ 2)
def noP (z : Mm × Mm) (T : Nat → Nat) (sz B e s p c c0 w k : Nat) (srt : Int32) (u v u' v' : Mm) : Prop := ∃ q a b : Nat, p < q ∧ q ≤ s ∧ c < 400 ∧ 1 ≤ a ∧ a ≤ 64 ∧ okUn b ∧ Rm z T sz B e s q (c + 1) c0 w u' v' ∧ u'.1 64 = upd (u.1 64) k (nI a) ∧ u'.1 65 = upd (u.1 65) k (nI b) ∧ v'.1 0 52 = nI a ∧ v'.1 0 53 = nI b ∧ v'.1 24 = v.1 24 ∧ v'.1 25 = v.1 25 ∧ v'.1 6 (17 * c) = srt ∧ v'.1 6 (17 * c + 16) = nI p ∧ nfac c v' ∧ frN c w u v u' v'
theorem c_own {n k : Nat} {u : Mm} {Q : Mm → Prop} (hk : k < 12) : cOwn n (nI k) Q u = Q (setI (setI u 64 k (u.1 38 7)) 65 k (u.1 38 8)) := by
  have e1 : (nI k < 0) = False := eq_false (nI_pos (by omega))
  have e2 : (12 ≤ k) = False := eq_false (by omega)
  simp (disch := omega) only [↓mletE, ↓iletE, ↓jletE, ↓br_if, ↓br_ifn, ↓reduceIte, nl_lt, nl_gt, nl_le, nl_ge, nl_eq, nn_lt, nn_le, nn_eq, nl_add, nl_sub, nl_mul, nl_mulr, nn_add, nn_ix, nn_in, true_and, and_true, false_and, and_false, gI_if, gIj, gIr, gJ_if, gJi, gJr, gPr, gPi, gPj, hu_if, hv_if, Nat.reduceEqDiff, Nat.reduceLT, Nat.reduceLeDiff, eq_self, bIT, bIF, Nat.add_zero, Nat.add_assoc, Nat.reduceAdd, nb0, nb1, i10, i00, Bool.false_eq_true, not_true_eq_false, not_false_eq_true, reduceIte, cOwn, w_X4_readNote_311, e1, e2]
theorem jV_cong {z : Mm × Mm} {C C' : (Mm → Prop) → Prop} {M M' : (Mm → Prop) → (Mm → Prop) → Prop} {P : Mm → Mm → Prop} (h1 : ∀ Q, C Q = C' Q) (h2 : ∀ Q T', M Q T' = M' Q T') (h : jV z C' M' P) : jV z C M P := by
  have e1 : C = C' := funext h1
  have e2 : M = M' := funext fun Q => funext fun T' => h2 Q T'
  rw [e1, e2]; exact h
theorem jV_eqT {z : Mm × Mm} {C : (Mm → Prop) → Prop} {M : (Mm → Prop) → (Mm → Prop) → Prop} {P : Mm → Mm → Prop} {u v : Mm} (h1 : ∀ Q, C Q = Q u) (h2 : ∀ Q T', M Q T' = T' v) (h : jFl z u v) : jV z C M P := jV_cong (C' := fun Q => Q u) (M' := fun _ T' => T' v) h1 h2 (jV_thr h)
theorem jV_eqR {z : Mm × Mm} {C : (Mm → Prop) → Prop} {M : (Mm → Prop) → (Mm → Prop) → Prop} {P : Mm → Mm → Prop} {u v : Mm} (h1 : ∀ Q, C Q = Q u) (h2 : ∀ Q T', M Q T' = Q v) (h : P u v) : jV z C M P := jV_cong (C' := fun Q => Q u) (M' := fun Q _ => Q v) h1 h2 (jV_ret h)
theorem frN.len {c w p a b : Nat} {u v U V : Mm} (hw : w < 3) (h : frN c w u v U V) (k : Nat) (x y : Int32) : frN c w u v (setI (setI (setI (setI (setI U 33 2 (nI p)) 38 7 (nI a)) 38 8 (nI b)) 64 k x) 65 k y) (setI (setI (setI V 0 7 (nI p)) 0 52 (nI a)) 0 53 (nI b)) := by
  obtain ⟨h1, h2, h3, h4, h5, h6⟩ := h
  refine ⟨fun i hi => by simp (disch := omega) only [gI_if, gIj, gIr, gJ_if, gJi, gJr, gPr, gPi, gPj, hu_if, hv_if, Nat.reduceEqDiff, eq_self, reduceIte, if_neg, if_pos]; exact h1 i hi, h2, fun i hi => by simp (disch := omega) only [gI_if, gIj, gIr, gJ_if, gJi, gJr, gPr, gPi, gPj, hu_if, hv_if, Nat.reduceEqDiff, eq_self, reduceIte, if_neg, if_pos]; exact h3 i hi, fun m so hm => (h4 m so hm).cg (by intros; first | rfl | (simp (disch := omega) only [gI_if, gIj, gIr, gJ_if, gJi, gJr, gPr, gPi, gPj, hu_if, hv_if, Nat.reduceEqDiff, eq_self, reduceIte, if_neg, if_pos, and_self]; done) | (simp (disch := omega) only [gI_if, gIj, gIr, gJ_if, gJi, gJr, gPr, gPi, gPj, hu_if, hv_if, Nat.reduceEqDiff, eq_self, reduceIte, if_neg, if_pos, and_self]; split <;> first | rfl | (simp (disch := omega) only [gI_if, gIj, gIr, gJ_if, gJi, gJr, gPr, gPi, gPj, hu_if, hv_if, Nat.reduceEqDiff, eq_self, reduceIte, if_neg, if_pos, and_self]; done))) (by intros; first | rfl | (simp (disch := omega) only [gI_if, gIj, gIr, gJ_if, gJi, gJr, gPr, gPi, gPj, hu_if, hv_if, Nat.reduceEqDiff, eq_self, reduceIte, if_neg, if_pos, and_self]; done) | (simp (disch := omega) only [gI_if, gIj, gIr, gJ_if, gJi, gJr, gPr, gPi, gPj, hu_if, hv_if, Nat.reduceEqDiff, eq_self, reduceIte, if_neg, if_pos, and_self]; split <;> first | rfl | (simp (disch := omega) only [gI_if, gIj, gIr, gJ_if, gJi, gJr, gPr, gPi, gPj, hu_if, hv_if, Nat.reduceEqDiff, eq_self, reduceIte, if_neg, if_pos, and_self]; done))) (by intros; first | rfl | (simp (disch := omega) only [gI_if, gIj, gIr, gJ_if, gJi, gJr, gPr, gPi, gPj, hu_if, hv_if, Nat.reduceEqDiff, eq_self, reduceIte, if_neg, if_pos, and_self]; done) | (simp (disch := omega) only [gI_if, gIj, gIr, gJ_if, gJi, gJr, gPr, gPi, gPj, hu_if, hv_if, Nat.reduceEqDiff, eq_self, reduceIte, if_neg, if_pos, and_self]; split <;> first | rfl | (simp (disch := omega) only [gI_if, gIj, gIr, gJ_if, gJi, gJr, gPr, gPi, gPj, hu_if, hv_if, Nat.reduceEqDiff, eq_self, reduceIte, if_neg, if_pos, and_self]; done))) (by intros; first | rfl | (simp (disch := omega) only [gI_if, gIj, gIr, gJ_if, gJi, gJr, gPr, gPi, gPj, hu_if, hv_if, Nat.reduceEqDiff, eq_self, reduceIte, if_neg, if_pos, and_self]; done) | (simp (disch := omega) only [gI_if, gIj, gIr, gJ_if, gJi, gJr, gPr, gPi, gPj, hu_if, hv_if, Nat.reduceEqDiff, eq_self, reduceIte, if_neg, if_pos, and_self]; split <;> first | rfl | (simp (disch := omega) only [gI_if, gIj, gIr, gJ_if, gJi, gJr, gPr, gPi, gPj, hu_if, hv_if, Nat.reduceEqDiff, eq_self, reduceIte, if_neg, if_pos, and_self]; done))) (by intros; first | rfl | (simp (disch := omega) only [gI_if, gIj, gIr, gJ_if, gJi, gJr, gPr, gPi, gPj, hu_if, hv_if, Nat.reduceEqDiff, eq_self, reduceIte, if_neg, if_pos, and_self]; done) | (simp (disch := omega) only [gI_if, gIj, gIr, gJ_if, gJi, gJr, gPr, gPi, gPj, hu_if, hv_if, Nat.reduceEqDiff, eq_self, reduceIte, if_neg, if_pos, and_self]; split <;> first | rfl | (simp (disch := omega) only [gI_if, gIj, gIr, gJ_if, gJi, gJr, gPr, gPi, gPj, hu_if, hv_if, Nat.reduceEqDiff, eq_self, reduceIte, if_neg, if_pos, and_self]; done))) (by intros; first | rfl | (simp (disch := omega) only [gI_if, gIj, gIr, gJ_if, gJi, gJr, gPr, gPi, gPj, hu_if, hv_if, Nat.reduceEqDiff, eq_self, reduceIte, if_neg, if_pos, and_self]; done) | (simp (disch := omega) only [gI_if, gIj, gIr, gJ_if, gJi, gJr, gPr, gPi, gPj, hu_if, hv_if, Nat.reduceEqDiff, eq_self, reduceIte, if_neg, if_pos, and_self]; split <;> first | rfl | (simp (disch := omega) only [gI_if, gIj, gIr, gJ_if, gJi, gJr, gPr, gPi, gPj, hu_if, hv_if, Nat.reduceEqDiff, eq_self, reduceIte, if_neg, if_pos, and_self]; done))) (by intros; first | rfl | (simp (disch := omega) only [gI_if, gIj, gIr, gJ_if, gJi, gJr, gPr, gPi, gPj, hu_if, hv_if, Nat.reduceEqDiff, eq_self, reduceIte, if_neg, if_pos, and_self]; done) | (simp (disch := omega) only [gI_if, gIj, gIr, gJ_if, gJi, gJr, gPr, gPi, gPj, hu_if, hv_if, Nat.reduceEqDiff, eq_self, reduceIte, if_neg, if_pos, and_self]; split <;> first | rfl | (simp (disch := omega) only [gI_if, gIj, gIr, gJ_if, gJi, gJr, gPr, gPi, gPj, hu_if, hv_if, Nat.reduceEqDiff, eq_self, reduceIte, if_neg, if_pos, and_self]; done))) (by intros; first | rfl | (simp (disch := omega) only [gI_if, gIj, gIr, gJ_if, gJi, gJr, gPr, gPi, gPj, hu_if, hv_if, Nat.reduceEqDiff, eq_self, reduceIte, if_neg, if_pos, and_self]; done) | (simp (disch := omega) only [gI_if, gIj, gIr, gJ_if, gJi, gJr, gPr, gPi, gPj, hu_if, hv_if, Nat.reduceEqDiff, eq_self, reduceIte, if_neg, if_pos, and_self]; split <;> first | rfl | (simp (disch := omega) only [gI_if, gIj, gIr, gJ_if, gJi, gJr, gPr, gPi, gPj, hu_if, hv_if, Nat.reduceEqDiff, eq_self, reduceIte, if_neg, if_pos, and_self]; done))) (by intros; first | rfl | (simp (disch := omega) only [gI_if, gIj, gIr, gJ_if, gJi, gJr, gPr, gPi, gPj, hu_if, hv_if, Nat.reduceEqDiff, eq_self, reduceIte, if_neg, if_pos, and_self]; done) | (simp (disch := omega) only [gI_if, gIj, gIr, gJ_if, gJi, gJr, gPr, gPi, gPj, hu_if, hv_if, Nat.reduceEqDiff, eq_self, reduceIte, if_neg, if_pos, and_self]; split <;> first | rfl | (simp (disch := omega) only [gI_if, gIj, gIr, gJ_if, gJi, gJr, gPr, gPi, gPj, hu_if, hv_if, Nat.reduceEqDiff, eq_self, reduceIte, if_neg, if_pos, and_self]; done))) (by intros; first | rfl | (simp (disch := omega) only [gI_if, gIj, gIr, gJ_if, gJi, gJr, gPr, gPi, gPj, hu_if, hv_if, Nat.reduceEqDiff, eq_self, reduceIte, if_neg, if_pos, and_self]; done) | (simp (disch := omega) only [gI_if, gIj, gIr, gJ_if, gJi, gJr, gPr, gPi, gPj, hu_if, hv_if, Nat.reduceEqDiff, eq_self, reduceIte, if_neg, if_pos, and_self]; split <;> first | rfl | (simp (disch := omega) only [gI_if, gIj, gIr, gJ_if, gJi, gJr, gPr, gPi, gPj, hu_if, hv_if, Nat.reduceEqDiff, eq_self, reduceIte, if_neg, if_pos, and_self]; done))) (by intros; first | rfl | (simp (disch := omega) only [gI_if, gIj, gIr, gJ_if, gJi, gJr, gPr, gPi, gPj, hu_if, hv_if, Nat.reduceEqDiff, eq_self, reduceIte, if_neg, if_pos, and_self]; done) | (simp (disch := omega) only [gI_if, gIj, gIr, gJ_if, gJi, gJr, gPr, gPi, gPj, hu_if, hv_if, Nat.reduceEqDiff, eq_self, reduceIte, if_neg, if_pos, and_self]; split <;> first | rfl | (simp (disch := omega) only [gI_if, gIj, gIr, gJ_if, gJi, gJr, gPr, gPi, gPj, hu_if, hv_if, Nat.reduceEqDiff, eq_self, reduceIte, if_neg, if_pos, and_self]; done))), fun j j1 j2 => by simp (disch := omega) only [gI_if, gIj, gIr, gJ_if, gJi, gJr, gPr, gPi, gPj, hu_if, hv_if, Nat.reduceEqDiff, eq_self, reduceIte, if_neg, if_pos]; exact h5 j j1 j2, by simp (disch := omega) only [gI_if, gIj, gIr, gJ_if, gJi, gJr, gPr, gPi, gPj, hu_if, hv_if, Nat.reduceEqDiff, eq_self, reduceIte, if_neg, if_pos]; exact h6⟩
theorem noteEnd {z : Mm × Mm} {n : Nat} {T : Nat → Nat} {sz B e s p q c c0 w k : Nat} {srt : Int32} {u v U V : Mm} (hn : 5000 ≤ n) (hR : Rm z T sz B e s q (c + 1) c0 w U V) (hpq : p < q) (hc : c < 400) (hk : k < 12) (a1 : U.1 64 = u.1 64) (a2 : U.1 65 = u.1 65) (a3 : V.1 24 = v.1 24) (a4 : V.1 25 = v.1 25) (a5 : V.1 6 (17 * c) = srt) (a6 : V.1 6 (17 * c + 16) = nI p) (a7 : nfac c V) (a8 : frN c w u v U V) : jV z (fun Q => w_X4_readLength n U (cOwn n (nI k) Q)) (fun Q T' => w_X12_readLength n V Q T') (noP z T sz B e s p c c0 w k srt u v) := by
  have hw := hR.2.2.2.2.2.2.2.2.1.1
  refine jB_VV (C2 := fun u4 Q => cOwn n (nI k) Q u4) (M2 := fun v4 Q _ => Q v4) (S_len hn hR.tx) (fun u4 v4 h => ?_) (fun u4 hok hf => ?_)
  · obtain ⟨q', a, b, b1, b2, b3, b4, b5, rfl, rfl⟩ := h
    refine jV_eqR (fun Q => c_own hk) (fun Q T' => rfl) ⟨q', a, b, by omega, b2, hc, b3, b4, b5, ?_, ?_, ?_, by simp (disch := omega) only [↓mletE, ↓iletE, ↓jletE, ↓br_if, ↓br_ifn, ↓reduceIte, nl_lt, nl_gt, nl_le, nl_ge, nl_eq, nn_lt, nn_le, nn_eq, nl_add, nl_sub, nl_mul, nl_mulr, nn_add, nn_ix, nn_in, true_and, and_true, false_and, and_false, gI_if, gIj, gIr, gJ_if, gJi, gJr, gPr, gPi, gPj, hu_if, hv_if, Nat.reduceEqDiff, Nat.reduceLT, Nat.reduceLeDiff, eq_self, bIT, bIF, Nat.add_zero, Nat.add_assoc, Nat.reduceAdd, nb0, nb1, i10, i00, Bool.false_eq_true, not_true_eq_false, not_false_eq_true, reduceIte], by simp (disch := omega) only [↓mletE, ↓iletE, ↓jletE, ↓br_if, ↓br_ifn, ↓reduceIte, nl_lt, nl_gt, nl_le, nl_ge, nl_eq, nn_lt, nn_le, nn_eq, nl_add, nl_sub, nl_mul, nl_mulr, nn_add, nn_ix, nn_in, true_and, and_true, false_and, and_false, gI_if, gIj, gIr, gJ_if, gJi, gJr, gPr, gPi, gPj, hu_if, hv_if, Nat.reduceEqDiff, Nat.reduceLT, Nat.reduceLeDiff, eq_self, bIT, bIF, Nat.add_zero, Nat.add_assoc, Nat.reduceAdd, nb0, nb1, i10, i00, Bool.false_eq_true, not_true_eq_false, not_false_eq_true, reduceIte], by simp (disch := omega) only [gI_if, gIj, gIr, gJ_if, gJi, gJr, gPr, gPi, gPj, hu_if, hv_if, Nat.reduceEqDiff, eq_self, reduceIte, if_neg, if_pos]; exact a3, by simp (disch := omega) only [gI_if, gIj, gIr, gJ_if, gJi, gJr, gPr, gPi, gPj, hu_if, hv_if, Nat.reduceEqDiff, eq_self, reduceIte, if_neg, if_pos]; exact a4, by simp (disch := omega) only [gI_if, gIj, gIr, gJ_if, gJi, gJr, gPr, gPi, gPj, hu_if, hv_if, Nat.reduceEqDiff, eq_self, reduceIte, if_neg, if_pos]; exact a5, by simp (disch := omega) only [gI_if, gIj, gIr, gJ_if, gJi, gJr, gPr, gPi, gPj, hu_if, hv_if, Nat.reduceEqDiff, eq_self, reduceIte, if_neg, if_pos]; exact a6, ?_, ?_⟩
    · have r1 := (((hR.at b1 b2).u38 (k := 7) (x := nI a) (by omega)).u38 (k := 8) (x := nI b) (by omega))
      have r2 := (r1.v0 (k := 52) (x := nI a) (by omega)).v0 (k := 53) (x := nI b) (by omega)
      exact (r2.uq (q := 64) (by omega)).uq (q := 65) (by omega)
    · simp (disch := omega) only [gI_if, gIj, gIr, gJ_if, gJi, gJr, gPr, gPi, gPj, hu_if, hv_if, Nat.reduceEqDiff, eq_self, reduceIte, if_neg, if_pos]; rw [a1]
    · simp (disch := omega) only [gI_if, gIj, gIr, gJ_if, gJi, gJr, gPr, gPi, gPj, hu_if, hv_if, Nat.reduceEqDiff, eq_self, reduceIte, if_neg, if_pos]; rw [a2]
    · obtain ⟨⟨k1, c1, c2⟩, ⟨l1, d1, d2⟩, e1, e2⟩ := a7
      exact ⟨⟨k1, by simp (disch := omega) only [gI_if, gIj, gIr, gJ_if, gJi, gJr, gPr, gPi, gPj, hu_if, hv_if, Nat.reduceEqDiff, eq_self, reduceIte, if_neg, if_pos]; exact c1, c2⟩, ⟨l1, by simp (disch := omega) only [gI_if, gIj, gIr, gJ_if, gJi, gJr, gPr, gPi, gPj, hu_if, hv_if, Nat.reduceEqDiff, eq_self, reduceIte, if_neg, if_pos]; exact d1, d2⟩, by simp (disch := omega) only [gI_if, gIj, gIr, gJ_if, gJi, gJr, gPr, gPi, gPj, hu_if, hv_if, Nat.reduceEqDiff, eq_self, reduceIte, if_neg, if_pos]; exact e1, by simp (disch := omega) only [gI_if, gIj, gIr, gJ_if, gJi, gJr, gPr, gPi, gPj, hu_if, hv_if, Nat.reduceEqDiff, eq_self, reduceIte, if_neg, if_pos]; exact e2⟩
    · exact frN.len hw a8 k _ _
  · refine ⟨_, fun Q => Iff.of_eq (c_own hk), ?_, by simp (disch := omega) only [gI_if, gIj, gIr, gJ_if, gJi, gJr, gPr, gPi, gPj, hu_if, hv_if, Nat.reduceEqDiff, eq_self, reduceIte, if_neg, if_pos], by simp (disch := omega) only [gI_if, gIj, gIr, gJ_if, gJi, gJr, gPr, gPi, gPj, hu_if, hv_if, Nat.reduceEqDiff, eq_self, reduceIte, if_neg, if_pos]⟩
    exact ((jKc.refl hok).set (by omega) (by omega)).set (by omega) (by omega)
theorem cMk_1 {w q : Nat} {p x : Int32} {U : Mm} (h1 : q ≠ 59 + w) (h2 : q ≠ 50 + w) : (cMk p w x U).1 q = U.1 q := by
  unfold cMk
  split
  · rw [gIn h2, gIn h1]
  · rfl
theorem cMk_P {w : Nat} {p x : Int32} {U : Mm} : (cMk p w x U).2.2 = U.2.2 := by
  unfold cMk
  split <;> rfl
theorem cMk_K {a U : Mm} {w : Nat} {p x : Int32} (hKc : jKc a U) : jKc a (cMk p w x U) := by
  unfold cMk
  split
  · exact (by repeat (first | exact hKc | refine jKc.set ?_ (by omega) (by omega) | refine jKc.setJ ?_ (by omega)))
  · exact hKc
theorem noteBad {a U : Mm} {n : Nat} {T : Nat → Nat} {s q c l k B : Nat} {o x fl nd pt pl : Int32} (hn : 5000 ≤ n) (hk : k < 12) (hTu : jT T s q (U.1 B)) (hB : 41 ≤ B ∧ B ≤ 42) (hP1 : U.2.2 1 = B) (h4 : U.1 33 4 = nI s) (h2 : U.1 33 2 = nI q) (hq : q ≤ s) (hKc : jKc a U) : ∃ u', (∀ Q, w_X4_readLength n (uNoF c l o x fl nd pt pl U) (cOwn n (nI k) Q) = Q u') ∧ jKc a u' ∧ u'.1 33 6 = 4 ∧ u'.1 33 7 = pl := by
  have hBn : ∀ q, q < 41 → (B = q) = False := fun q hq => eq_false (by omega)
  have h46 : (B = 46) = False := eq_false (by omega)
  obtain ⟨u', e1, e2, e3, e4⟩ := Sf_len (n := n) (T := T) (s := s) (p := q) (q := q) (B := B) (a := a) (u := uNoF c l o x fl nd pt pl U) hn (by unfold uNoF; simp (disch := omega) only [↓mletE, ↓iletE, ↓jletE, ↓br_if, ↓br_ifn, ↓reduceIte, nl_lt, nl_gt, nl_le, nl_ge, nl_eq, nn_lt, nn_le, nn_eq, nl_add, nl_sub, nl_mul, nl_mulr, nn_add, nn_ix, nn_in, true_and, and_true, false_and, and_false, gI_if, gIj, gIr, gJ_if, gJi, gJr, gPr, gPi, gPj, hu_if, hv_if, Nat.reduceEqDiff, Nat.reduceLT, Nat.reduceLeDiff, eq_self, bIT, bIF, Nat.add_zero, Nat.add_assoc, Nat.reduceAdd, nb0, nb1, i10, i00, Bool.false_eq_true, not_true_eq_false, not_false_eq_true, reduceIte, hBn, h46]; exact hTu) hB (by unfold uNoF; simp (disch := omega) only [↓mletE, ↓iletE, ↓jletE, ↓br_if, ↓br_ifn, ↓reduceIte, nl_lt, nl_gt, nl_le, nl_ge, nl_eq, nn_lt, nn_le, nn_eq, nl_add, nl_sub, nl_mul, nl_mulr, nn_add, nn_ix, nn_in, true_and, and_true, false_and, and_false, gI_if, gIj, gIr, gJ_if, gJi, gJr, gPr, gPi, gPj, hu_if, hv_if, Nat.reduceEqDiff, Nat.reduceLT, Nat.reduceLeDiff, eq_self, bIT, bIF, Nat.add_zero, Nat.add_assoc, Nat.reduceAdd, nb0, nb1, i10, i00, Bool.false_eq_true, not_true_eq_false, not_false_eq_true, reduceIte]; exact hP1) (by unfold uNoF; simp (disch := omega) only [gI_if, gIj, gIr, gJ_if, gJi, gJr, gPr, gPi, gPj, hu_if, hv_if, Nat.reduceEqDiff, eq_self, reduceIte, if_neg, if_pos]; exact h4) (by unfold uNoF; simp (disch := omega) only [gI_if, gIj, gIr, gJ_if, gJi, gJr, gPr, gPi, gPj, hu_if, hv_if, Nat.reduceEqDiff, eq_self, reduceIte, if_neg, if_pos]; exact h2) (Nat.le_refl _) hq (by unfold uNoF; simp (disch := omega) only [gI_if, gIj, gIr, gJ_if, gJi, gJr, gPr, gPi, gPj, hu_if, hv_if, Nat.reduceEqDiff, eq_self, reduceIte, if_neg, if_pos]; decide) (by unfold uNoF; exact (by repeat (first | exact hKc | refine jKc.set ?_ (by omega) (by omega) | refine jKc.setJ ?_ (by omega))))
  refine ⟨_, fun Q => (e1 _).trans (c_own hk), ?_, ?_, ?_⟩
  · exact (e2.set (by omega) (by omega)).set (by omega) (by omega)
  · simp (disch := omega) only [gI_if, gIj, gIr, gJ_if, gJi, gJr, gPr, gPi, gPj, hu_if, hv_if, Nat.reduceEqDiff, eq_self, reduceIte, if_neg, if_pos]; rw [e3]; unfold uNoF; simp (disch := omega) only [gI_if, gIj, gIr, gJ_if, gJi, gJr, gPr, gPi, gPj, hu_if, hv_if, Nat.reduceEqDiff, eq_self, reduceIte, if_neg, if_pos]
  · simp (disch := omega) only [gI_if, gIj, gIr, gJ_if, gJi, gJr, gPr, gPi, gPj, hu_if, hv_if, Nat.reduceEqDiff, eq_self, reduceIte, if_neg, if_pos]; rw [e4]; unfold uNoF; simp (disch := omega) only [gI_if, gIj, gIr, gJ_if, gJi, gJr, gPr, gPi, gPj, hu_if, hv_if, Nat.reduceEqDiff, eq_self, reduceIte, if_neg, if_pos]
theorem S_note {z : Mm × Mm} {n : Nat} {T : Nat → Nat} {sz B e s p c c0 w k : Nat} {srt : Int32} {u v : Mm} (hn : 5000 ≤ n) (hR : Rm z T sz B e s p c c0 w u v) (hst : srt = 0 ∨ srt = 5) (hk : k < 12) : jV z (fun Q => w_X4_readNote n srt (nI k) u Q) (fun Q T' => w_X12_readNote n v (fun v1 => w_X12_addNote n srt v1 (fun _ v2 => w_X12_rememberSign n v2 (fun v3 => w_X12_readLength n v3 Q T') T') T') T') (noP z T sz B e s p c c0 w k srt u v) := by
  have hx := hR.tx
  rcases S_nt (srt := srt) (idx := nI k) hn hx with ⟨q, sg, fl, l, o, q1, q2, q3, q4, q5, q6, q7, q8, q9⟩ | ⟨u', v', h1, h2, h3⟩
  · have hC := hR.2.2.2.1
    have hc := hC.2.2.1
    have h0c : c0 ≤ c := hR.2.2.2.2.2.2.2.2.2.2.2.2.2.2
    have hW := hR.2.2.2.2.2.2.2.2.1
    have hw := hW.1
    obtain ⟨m, so, hmw⟩ := hR.2.2.2.2.1 w hw
    have hmw : eMw w m so u v := hmw
    have hR1 : Rm z T sz B e s q c c0 w (setI u 33 2 (nI q)) (mNt p sg fl l o q v) := (((((hR.v0 (k := 58) (x := nI p) (by omega)).v0 (k := 55) (x := fl) (by omega)).v0 (k := 54) (x := sg) (by omega)).v0 (k := 56) (x := nI l) (by omega)).v0 (k := 57) (x := o) (by omega)).at (q := q) (by omega) q2
    have m54 : (mNt p sg fl l o q v).1 0 54 = sg := by unfold mNt; simp (disch := omega) only [↓mletE, ↓iletE, ↓jletE, ↓br_if, ↓br_ifn, ↓reduceIte, nl_lt, nl_gt, nl_le, nl_ge, nl_eq, nn_lt, nn_le, nn_eq, nl_add, nl_sub, nl_mul, nl_mulr, nn_add, nn_ix, nn_in, true_and, and_true, false_and, and_false, gI_if, gIj, gIr, gJ_if, gJi, gJr, gPr, gPi, gPj, hu_if, hv_if, Nat.reduceEqDiff, Nat.reduceLT, Nat.reduceLeDiff, eq_self, bIT, bIF, Nat.add_zero, Nat.add_assoc, Nat.reduceAdd, nb0, nb1, i10, i00, Bool.false_eq_true, not_true_eq_false, not_false_eq_true, reduceIte]
    have m55 : (mNt p sg fl l o q v).1 0 55 = fl := by unfold mNt; simp (disch := omega) only [↓mletE, ↓iletE, ↓jletE, ↓br_if, ↓br_ifn, ↓reduceIte, nl_lt, nl_gt, nl_le, nl_ge, nl_eq, nn_lt, nn_le, nn_eq, nl_add, nl_sub, nl_mul, nl_mulr, nn_add, nn_ix, nn_in, true_and, and_true, false_and, and_false, gI_if, gIj, gIr, gJ_if, gJi, gJr, gPr, gPi, gPj, hu_if, hv_if, Nat.reduceEqDiff, Nat.reduceLT, Nat.reduceLeDiff, eq_self, bIT, bIF, Nat.add_zero, Nat.add_assoc, Nat.reduceAdd, nb0, nb1, i10, i00, Bool.false_eq_true, not_true_eq_false, not_false_eq_true, reduceIte]
    have m56 : (mNt p sg fl l o q v).1 0 56 = nI l := by unfold mNt; simp (disch := omega) only [↓mletE, ↓iletE, ↓jletE, ↓br_if, ↓br_ifn, ↓reduceIte, nl_lt, nl_gt, nl_le, nl_ge, nl_eq, nn_lt, nn_le, nn_eq, nl_add, nl_sub, nl_mul, nl_mulr, nn_add, nn_ix, nn_in, true_and, and_true, false_and, and_false, gI_if, gIj, gIr, gJ_if, gJi, gJr, gPr, gPi, gPj, hu_if, hv_if, Nat.reduceEqDiff, Nat.reduceLT, Nat.reduceLeDiff, eq_self, bIT, bIF, Nat.add_zero, Nat.add_assoc, Nat.reduceAdd, nb0, nb1, i10, i00, Bool.false_eq_true, not_true_eq_false, not_false_eq_true, reduceIte]
    have m57 : (mNt p sg fl l o q v).1 0 57 = o := by unfold mNt; simp (disch := omega) only [↓mletE, ↓iletE, ↓jletE, ↓br_if, ↓br_ifn, ↓reduceIte, nl_lt, nl_gt, nl_le, nl_ge, nl_eq, nn_lt, nn_le, nn_eq, nl_add, nl_sub, nl_mul, nl_mulr, nn_add, nn_ix, nn_in, true_and, and_true, false_and, and_false, gI_if, gIj, gIr, gJ_if, gJi, gJr, gPr, gPi, gPj, hu_if, hv_if, Nat.reduceEqDiff, Nat.reduceLT, Nat.reduceLeDiff, eq_self, bIT, bIF, Nat.add_zero, Nat.add_assoc, Nat.reduceAdd, nb0, nb1, i10, i00, Bool.false_eq_true, not_true_eq_false, not_false_eq_true, reduceIte]
    have m58 : (mNt p sg fl l o q v).1 0 58 = nI p := by unfold mNt; simp (disch := omega) only [↓mletE, ↓iletE, ↓jletE, ↓br_if, ↓br_ifn, ↓reduceIte, nl_lt, nl_gt, nl_le, nl_ge, nl_eq, nn_lt, nn_le, nn_eq, nl_add, nl_sub, nl_mul, nl_mulr, nn_add, nn_ix, nn_in, true_and, and_true, false_and, and_false, gI_if, gIj, gIr, gJ_if, gJi, gJr, gPr, gPi, gPj, hu_if, hv_if, Nat.reduceEqDiff, Nat.reduceLT, Nat.reduceLeDiff, eq_self, bIT, bIF, Nat.add_zero, Nat.add_assoc, Nat.reduceAdd, nb0, nb1, i10, i00, Bool.false_eq_true, not_true_eq_false, not_false_eq_true, reduceIte]
    have m49 : (mNt p sg fl l o q v).1 0 49 = v.1 0 49 := by unfold mNt; simp (disch := omega) only [↓mletE, ↓iletE, ↓jletE, ↓br_if, ↓br_ifn, ↓reduceIte, nl_lt, nl_gt, nl_le, nl_ge, nl_eq, nn_lt, nn_le, nn_eq, nl_add, nl_sub, nl_mul, nl_mulr, nn_add, nn_ix, nn_in, true_and, and_true, false_and, and_false, gI_if, gIj, gIr, gJ_if, gJi, gJr, gPr, gPi, gPj, hu_if, hv_if, Nat.reduceEqDiff, Nat.reduceLT, Nat.reduceLeDiff, eq_self, bIT, bIF, Nat.add_zero, Nat.add_assoc, Nat.reduceAdd, nb0, nb1, i10, i00, Bool.false_eq_true, not_true_eq_false, not_false_eq_true, reduceIte]
    have mq : ∀ q', q' ≠ 0 → (mNt p sg fl l o q v).1 q' = v.1 q' := fun q' hq' => by unfold mNt; rw [gIn hq', gIn hq', gIn hq', gIn hq', gIn hq', gIn hq']
    obtain ⟨hKc, hKm, hTu, hTv, hB, hP1, h33_4, h33_2, h33_6, h0_9, h0_7, hps⟩ := hx
    rcases Nat.lt_or_ge c 400 with hc4 | hc4
    · obtain ⟨-, -, kU, ku1, ku2, ku3⟩ := hR.2.2.2.2.2.1 w hw
      have A1 : ∀ Q, w_X4_addThing n srt (nI p) (setI u 33 2 (nI q)) Q = Q (nI c) (aT c srt (nI p) (nI (w + 1)) (nI (m - so)) (nI kU) (v.2.1 16 w) (setI u 33 2 (nI q))) := fun Q => by
        rw [c_addThing (u := setI u 33 2 (nI q)) hn hc4 hw hmw.1 hmw.2.2.1 hmw.2.1 (by simp (disch := omega) only [gI_if, gIj, gIr, gJ_if, gJi, gJr, gPr, gPi, gPj, hu_if, hv_if, Nat.reduceEqDiff, eq_self, reduceIte, if_neg, if_pos]; exact hC.1) hW.2.2.2.1 (by simp (disch := omega) only [gI_if, gIj, gIr, gJ_if, gJi, gJr, gPr, gPi, gPj, hu_if, hv_if, Nat.reduceEqDiff, eq_self, reduceIte, if_neg, if_pos]; exact hmw.2.2.2.1) (by simp (disch := omega) only [gI_if, gIj, gIr, gJ_if, gJi, gJr, gPr, gPi, gPj, hu_if, hv_if, Nat.reduceEqDiff, eq_self, reduceIte, if_neg, if_pos]; exact hmw.2.2.2.2.2.1)]
        rw [show (setI u 33 2 (nI q)).1 38 9 = nI (w + 1) from by simp (disch := omega) only [gI_if, gIj, gIr, gJ_if, gJi, gJr, gPr, gPi, gPj, hu_if, hv_if, Nat.reduceEqDiff, eq_self, reduceIte, if_neg, if_pos]; exact hW.2.1, show (setI u 33 2 (nI q)).1 (50 + w) 10 = nI kU from by simp (disch := omega) only [gI_if, gIj, gIr, gJ_if, gJi, gJr, gPr, gPi, gPj, hu_if, hv_if, Nat.reduceEqDiff, eq_self, reduceIte, if_neg, if_pos]; exact ku1, show (setI u 33 2 (nI q)).2.1 (50 + w) 6 = v.2.1 16 w from hmw.2.2.2.2.2.2.2.2.1]
      have A2 : ∀ Q T', w_X12_newThing n srt (nI p) (mNt p sg fl l o q v) Q T' = Q (nI c) (mT c srt (nI p) (nI (w + 1)) (nI (m - so)) (nI kU) (v.2.1 16 w) (mNt p sg fl l o q v)) := fun Q T' => by
        rw [r_new hn hc4 hw hR1.2.2.2.1.2.1 hR1.2.2.2.2.2.2.2.2.1.2.2.1 (by rw [mq 17 (by omega)]; exact hmw.2.2.2.2.2.2.2.1), mq 15 (by omega), ku2]
        rfl
      have hR2 := hR1.new (m := m) (so := so) (sort := srt) (pl := nI p) (un := nI kU) (now := v.2.1 16 w) hc4
      generalize hUd : aT c srt (nI p) (nI (w + 1)) (nI (m - so)) (nI kU) (v.2.1 16 w) (setI u 33 2 (nI q)) = U at A1 hR2
      generalize hVd : mT c srt (nI p) (nI (w + 1)) (nI (m - so)) (nI kU) (v.2.1 16 w) (mNt p sg fl l o q v) = V at A2 hR2
      have U1 : ∀ q', q' ≠ 33 → q' ≠ 36 → q' ≠ 46 → U.1 q' = u.1 q' := fun q' g1 g2 g3 => by rw [← hUd, aT_1 g2 g3, gIn g1]
      have UJ : ∀ q', q' ≠ 47 → q' ≠ 48 → U.2.1 q' = u.2.1 q' := fun q' g1 g2 => by rw [← hUd, aT_J g1 g2]; rfl
      have U16 : U.1 46 (19 * c + 16) = nI p := by rw [← hUd, aT_46, if_neg (by omega), if_neg (by omega), if_neg (by omega), if_pos rfl]
      have V0 : ∀ k', k' ≠ 27 → V.1 0 k' = (mNt p sg fl l o q v).1 0 k' := fun k' g => by rw [← hVd, mT_0, if_neg g]
      have V1 : ∀ q', q' ≠ 0 → q' ≠ 6 → q' ≠ 9 → q' ≠ 10 → q' ≠ 11 → V.1 q' = v.1 q' := fun q' g0 g1 g2 g3 g4 => by rw [← hVd, mT_1 g0 g1 g2 g3 g4, mq q' g0]
      have VJ : ∀ q', q' ≠ 7 → q' ≠ 8 → V.2.1 q' = v.2.1 q' := fun q' g1 g2 => by rw [← hVd, mT_J g1 g2]; rfl
      have Vlo : ∀ i, i < 17 * c → V.1 6 i = v.1 6 i := fun i hi => by rw [← hVd, mT_lo hi, mq 6 (by omega)]
      have V6 : V.1 6 (17 * c) = srt := by rw [← hVd, mT_6, if_neg (by omega), if_neg (by omega), if_neg (by omega), if_pos rfl]
      have V16 : V.1 6 (17 * c + 16) = nI p := by rw [← hVd, mT_6, if_pos rfl]
      have V7 : ∀ i, i < c → V.2.1 7 i = v.2.1 7 i := fun i hi => by rw [← hVd, mT_7, if_neg (by omega)]; rfl
      have V9 : ∀ i, i < c → V.1 9 i = v.1 9 i := fun i hi => by rw [← hVd, mT_9, if_neg (by omega), mq 9 (by omega)]
      have V9c : V.1 9 c = nI kU := by rw [← hVd, mT_9, if_pos rfl]
      have hti : ∃ ti : Int32, ((srt = 0 ∧ ti = 1) ∨ (srt = 5 ∧ ti = 0)) ∧ ∀ Q T', w_X12_addNote n srt (mNt p sg fl l o q v) Q T' = w_X12_addNote_28 n (nI c) ti o (nI l) V Q T' := by
        rcases hst with rfl | rfl
        · refine ⟨1, Or.inl ⟨rfl, rfl⟩, fun Q T' => ?_⟩
          unfold w_X12_addNote
          rw [m58, A2, V0 57 (by omega), V0 56 (by omega), m57, m56]
          simp only [br_ifn, if_true]
        · refine ⟨0, Or.inr ⟨rfl, rfl⟩, fun Q T' => ?_⟩
          unfold w_X12_addNote
          rw [m58, A2, V0 57 (by omega), V0 56 (by omega), m57, m56]
          simp only [br_ifn, show ((5 : Int32) = 0) = False from by decide, if_false]
      obtain ⟨ti, hti1, hti2⟩ := hti
      obtain ⟨sc, sr, b1, b2, b3, b4, b5⟩ := S_plain (o := o) (srt := srt) (ti := ti) hn hR2 q5 (by omega) hti1
      have v55 : V.1 0 55 = fl := (V0 55 (by omega)).trans m55
      have v54 : V.1 0 54 = sg := (V0 54 (by omega)).trans m54
      have v56 : V.1 0 56 = nI l := (V0 56 (by omega)).trans m56
      have v57 : V.1 0 57 = o := (V0 57 (by omega)).trans m57
      have v58 : V.1 0 58 = nI p := (V0 58 (by omega)).trans m58
      have u36 : U.1 36 3 = nI (c + 1) := hR2.2.2.2.1.1
      have u6 : U.1 33 6 = 0 := hR2.1.2.2
      have uP2 : U.2.2 2 = 50 + w := hR2.2.2.2.2.2.2.2.2.1.2.2.2.1
      have hpos : (0 ≤ nI c) = True := eq_true (nI_pos' (by omega))
      have frU : ∀ (l' : Nat) (o' x' f' n' t' : Int32) (U' : Mm), (∀ q', q' ≠ 33 → q' ≠ 36 → q' ≠ 46 → q' < 50 ∨ 61 < q' → U'.1 q' = u.1 q') → (∀ k', k' ≠ 3 → U'.1 (50 + w) k' = u.1 (50 + w) k') → U'.2.1 = U.2.1 → ∀ (V' : Mm), (∀ q', q' ≠ 22 → V'.1 q' = V.1 q') → V'.2.1 = V.2.1 → ∀ (y' : Int32), frN c w u v (uNo c l' o' x' f' n' t' U') (vNo c l' o' x' f' y' t' V') := by
        intro l' o' x' f' n' t' U' hU1 hU2 hU3 V' hV1 hV2 y'
        refine ⟨fun i hi => ?_, fun i hi => ?_, fun i hi => ?_, fun m' so' hm' => ?_, fun j j1 j2 => ?_, ?_⟩
        · rw [vNo_6, if_neg (by omega), if_neg (by omega), if_neg (by omega), if_neg (by omega), if_neg (by omega), if_neg (by omega), hV1 6 (by omega)]; exact Vlo i hi
        · show V'.2.1 7 i = _
          rw [hV2]; exact V7 i hi
        · rw [vNo_1 (by omega) (by omega), hV1 9 (by omega)]; exact V9 i hi
        · refine hm'.cg ?_ ?_ ?_ ?_ ?_ ?_ ?_ ?_ ?_ ?_ ?_
          · rw [uNo_1 (by omega)]; exact hU2 4 (by omega)
          · rw [uNo_1 (by omega)]; exact hU2 5 (by omega)
          · show U'.2.1 (50 + w) 6 = _
            rw [hU3, UJ _ (by omega) (by omega)]
          · show U'.2.1 (53 + w) = _
            rw [hU3, UJ _ (by omega) (by omega)]
          · show U'.2.1 (56 + w) = _
            rw [hU3, UJ _ (by omega) (by omega)]
          · rw [vNo_1 (by omega) (by omega), hV1 19 (by omega), V1 19 (by omega) (by omega) (by omega) (by omega) (by omega)]
          · rw [vNo_1 (by omega) (by omega), hV1 18 (by omega), V1 18 (by omega) (by omega) (by omega) (by omega) (by omega)]
          · rw [vNo_1 (by omega) (by omega), hV1 17 (by omega), V1 17 (by omega) (by omega) (by omega) (by omega) (by omega)]
          · show V'.2.1 16 w = _
            rw [hV2, VJ 16 (by omega) (by omega)]
          · intro j hj
            show V'.2.1 20 _ = _
            rw [hV2, VJ 20 (by omega) (by omega)]
          · intro j hj
            show V'.2.1 21 _ = _
            rw [hV2, VJ 21 (by omega) (by omega)]
        · rw [uNo_1 (by omega), hU1 38 (by omega) (by omega) (by omega) (by omega)]
        · rw [vNo_1 (by omega) (by omega), hV1 0 (by omega), V0 49 (by omega), m49]
      have fin : ∀ (x' n' t' y' : Int32) (U' V' : Mm), inr' o → sgB x' → Rm z T sz B e s q (c + 1) c0 w (uNo c l o x' fl n' t' U') (vNo c l o x' fl y' t' V') → (∀ q', q' ≠ 33 → q' ≠ 36 → q' ≠ 46 → q' < 50 ∨ 61 < q' → U'.1 q' = u.1 q') → (∀ k', k' ≠ 3 → U'.1 (50 + w) k' = u.1 (50 + w) k') → U'.2.1 = U.2.1 → (∀ q', q' ≠ 22 → V'.1 q' = V.1 q') → V'.2.1 = V.2.1 → jV z (fun Q => w_X4_readLength n (uNo c l o x' fl n' t' U') (cOwn n (nI k) Q)) (fun Q T' => w_X12_readLength n (vNo c l o x' fl y' t' V') Q T') (noP z T sz B e s p c c0 w k srt u v) := by
        intro x' n' t' y' U' V' hin hsx hRn hU1 hU2 hU3 hV1 hV2
        refine noteEnd hn hRn q1 hc4 hk ?_ ?_ ?_ ?_ ?_ ?_ ?_ (frU l o x' fl n' t' U' hU1 hU2 hU3 V' hV1 hV2 y')
        · rw [uNo_1 (by omega), hU1 64 (by omega) (by omega) (by omega) (by omega)]
        · rw [uNo_1 (by omega), hU1 65 (by omega) (by omega) (by omega) (by omega)]
        · rw [vNo_1 (by omega) (by omega), hV1 24 (by omega), V1 24 (by omega) (by omega) (by omega) (by omega) (by omega)]
        · rw [vNo_1 (by omega) (by omega), hV1 25 (by omega), V1 25 (by omega) (by omega) (by omega) (by omega) (by omega)]
        · rw [vNo_6, if_neg (by omega), if_neg (by omega), if_neg (by omega), if_neg (by omega), if_neg (by omega), if_neg (by omega), hV1 6 (by omega)]; exact V6
        · rw [vNo_6, if_neg (by omega), if_neg (by omega), if_neg (by omega), if_neg (by omega), if_neg (by omega), if_neg (by omega), hV1 6 (by omega)]; exact V16
        · refine ⟨⟨kU, ?_, ku3⟩, ⟨l, ?_, q5⟩, ?_, ?_⟩
          · rw [vNo_1 (by omega) (by omega), hV1 9 (by omega)]; exact V9c
          · rw [vNo_6, if_neg (by omega), if_neg (by omega), if_neg (by omega), if_neg (by omega), if_neg (by omega), if_pos rfl]
          · rw [vNo_6, if_neg (by omega), if_neg (by omega), if_neg (by omega), if_neg (by omega), if_pos rfl]; exact hin
          · rw [vNo_6, if_neg (by omega), if_neg (by omega), if_neg (by omega), if_pos rfl]; exact hsx
      have kU2 := hR2.1.1
      have kV2 := hR2.1.2.1
      have tU := hR2.tx
      rcases q4 with rfl | rfl
      · have CL : ∀ Q, w_X4_readNote n srt (nI k) u Q = w_X4_readNote_178 n (nI k) sc 0 (nI l) o (nI c) sc U Q := fun Q => by
          rw [q8]; unfold cNt; rw [A1]; simp only [br_if, hpos, if_true, b1]
        have RF : ∀ Q T', w_X12_addNote n srt (mNt p sg 0 l o q v) Q T' = w_X12_addNote_47 n (nI c) sr sr V Q T' := fun Q T' => by
          rw [hti2]; unfold w_X12_addNote_28; rw [b2]; simp only [br_if, v55, if_true]
        have hdec : Decidable (pOk l o sr) := Classical.propDecidable _
        by_cases hp : pOk l o sr
        · have hin := pOk_in q5 b4 hp
          obtain rfl := b5 hin
          refine jV_cong (fun Q => ?_) (fun Q T' => ?_) (fin sc (ndf sc sc) (pit l o sc) sc U V hin b3 (hR2.note h0c rfl) (fun q' g1 g2 g3 _ => U1 q' g1 g2 g3) (fun k' _ => by rw [U1 (50 + w) (by omega) (by omega) (by omega)]) rfl (fun q' _ => rfl) rfl)
          · rw [CL, c_n178 hc4 q5 u36 u6 (Or.inl rfl), if_pos ((pit_c q5 (by omega) b3).mp hp)]
          · rw [q9, RF, r_a47 hc4 q5 (by omega) b4 v56 v57 v55 v58 (Or.inl rfl), if_pos hp]
            unfold w_X12_rememberSign w_X12_rememberSign_28
            rw [show (vNo c l o sc 0 sc (pit l o sc) V).1 0 55 = 0 from by rw [vNo_1 (by omega) (by omega)]; exact v55]
            simp only [br_if, if_true]
        · have hp' : ¬ pOk l o sc := fun h => hp (b5 (pOk_in q5 b3 h) ▸ h)
          obtain ⟨u', e1, e2, e3, e4⟩ := noteBad (a := z.1) (c := c) (l := l) (o := o) (x := sc) (fl := 0) (nd := ndf sc sc) (pt := pit l o sc) (pl := U.1 46 (19 * c + 16)) hn hk tU.2.2.1 tU.2.2.2.2.1 tU.2.2.2.2.2.1 tU.2.2.2.2.2.2.1 tU.2.2.2.2.2.2.2.1 q2 kU2
          refine jV_eqT (u := u') (v := setI (setI (setI (setI (setI (setI (setI (setI V 6 (17 * c + 4) (nI l)) 6 (17 * c + 5) o) 6 (17 * c + 6) sr) 6 (17 * c + 7) 0) 6 (17 * c + 9) 1) 10 c sr) 1 6 4) 1 7 (nI p)) (fun Q => ?_) (fun Q T' => ?_) (jFl_mk e2 ?_ (w := 4) (pl := nI p) e3 (e4.trans U16) ?_ ?_ (by decide))
          · rw [CL, c_n178 hc4 q5 u36 u6 (Or.inl rfl), if_neg (fun h => hp' ((pit_c q5 (by omega) b3).mpr h)), e1]
          · rw [q9, RF, r_a47 hc4 q5 (by omega) b4 v56 v57 v55 v58 (Or.inl rfl), if_neg hp]
          · have hKm := kV2
            exact (by repeat (first | exact hKm | refine jKm.set ?_ (by omega) (by omega) | refine jKm.setJ ?_ (by omega)))
          · simp (disch := omega) only [gI_if, gIj, gIr, gJ_if, gJi, gJr, gPr, gPi, gPj, hu_if, hv_if, Nat.reduceEqDiff, eq_self, reduceIte, if_neg, if_pos]
          · simp (disch := omega) only [gI_if, gIj, gIr, gJ_if, gJi, gJr, gPr, gPi, gPj, hu_if, hv_if, Nat.reduceEqDiff, eq_self, reduceIte, if_neg, if_pos]
      · have h10 : ¬ (1 : Int32) = 0 := by decide
        have CL : ∀ Q, w_X4_readNote n srt (nI k) u Q = w_X4_readNote_178 n (nI k) sg 1 (nI l) o (nI c) sc (cMk (mkP (U.1 35 0) (nI l) o) w (sg + 3) U) Q := fun Q => by
          rw [q8]; unfold cNt; rw [A1]; simp only [br_if, hpos, if_true, b1, h10, if_false, uP2, c_mark]
        have RF : ∀ Q T', w_X12_addNote n srt (mNt p sg 1 l o q v) Q T' = w_X12_addNote_47 n (nI c) sr sg V Q T' := fun Q T' => by
          rw [hti2]; unfold w_X12_addNote_28; rw [b2]; simp only [br_if, v55, h10, if_false, v54]
        have hdec : Decidable (pOk l o sg) := Classical.propDecidable _
        by_cases hp : pOk l o sg
        · have hin := pOk_in q5 q3 hp
          obtain rfl := b5 hin
          obtain ⟨pl, g1, g2, hR3⟩ := hR2.mark q5 hin q3
          have eU : cMk (mkP (U.1 35 0) (nI l) o) w (sg + 3) U = uMk w pl sg U := by
            rw [g2]; unfold cMk uMk
            rw [if_pos ⟨nI_pos' (by omega), nI_lt (b := 84) g1 (by omega)⟩, nn_ix (by omega)]
          have mk1 : ∀ q', q' < 50 ∨ 61 < q' → (uMk w pl sg U).1 q' = U.1 q' := fun q' g => by unfold uMk; rw [gIn (by omega), gIn (by omega)]
          have v28 : V.1 0 28 = nI w := hR2.2.2.2.2.2.2.2.2.1.2.2.1
          refine jV_cong (fun Q => ?_) (fun Q T' => ?_) (fin sg (ndf sg sc) (pit l o sg) sc (uMk w pl sg U) (setI V 22 (mPl (V.1 0 2) w l o) sg) hin q3 (hR3.note h0c rfl) (fun q' g1 g2 g3 g4 => (mk1 q' g4).trans (U1 q' g1 g2 g3)) (fun k' hk' => by unfold uMk; rw [gIs, hu_n hk', gIn (by omega), U1 (50 + w) (by omega) (by omega) (by omega)]) rfl (fun q' hq' => gIn hq') rfl)
          · rw [CL, eU, c_n178 hc4 q5 (by rw [mk1 36 (by omega)]; exact u36) (by rw [mk1 33 (by omega)]; exact u6) (Or.inr rfl), if_pos ((pit_c q5 (by omega) q3).mp hp)]
          · rw [q9, RF, r_a47 hc4 q5 (by omega) q3 v56 v57 v55 v58 (Or.inr rfl), if_pos hp]
            have n0 : ∀ k', (vNo c l o sg 1 sc (pit l o sg) V).1 0 k' = V.1 0 k' := fun k' => by rw [vNo_1 (by omega) (by omega)]
            obtain ⟨kk, hkk, ekk⟩ := mPl_lt (r := V.1 0 2) (o := o) (w := w) q5
            unfold w_X12_rememberSign w_X12_rememberSign_28
            rw [n0, v55, n0, n0, v56, v57]
            simp only [br_if, h10, if_false]
            rw [r_place hw q5 (by rw [n0]; exact v28), n0, eq_true (vp_in_nI (N := 1344) (n := mPl (V.1 0 2) w l o) (by omega) (by omega)), true_and, nn_ix (by omega), mletE, n0, v54]
            congr 1
            unfold vNo
            simp (disch := omega) only [mI_sort, mI_over]
        · have hp' := fun h => hp ((pit_c q5 (by omega) q3).mpr h)
          obtain ⟨u', e1, e2, e3, e4⟩ := noteBad (a := z.1) (c := c) (l := l) (o := o) (x := sg) (fl := 1) (nd := ndf sg sc) (pt := pit l o sg) (pl := (cMk (mkP (U.1 35 0) (nI l) o) w (sg + 3) U).1 46 (19 * c + 16)) (U := cMk (mkP (U.1 35 0) (nI l) o) w (sg + 3) U) hn hk (by rw [cMk_1 (by omega) (by omega)]; exact tU.2.2.1) tU.2.2.2.2.1 (by rw [cMk_P]; exact tU.2.2.2.2.2.1) (by rw [cMk_1 (by omega) (by omega)]; exact tU.2.2.2.2.2.2.1) (by rw [cMk_1 (by omega) (by omega)]; exact tU.2.2.2.2.2.2.2.1) q2 (cMk_K kU2)
          refine jV_eqT (u := u') (v := setI (setI (setI (setI (setI (setI (setI (setI V 6 (17 * c + 4) (nI l)) 6 (17 * c + 5) o) 6 (17 * c + 6) sg) 6 (17 * c + 7) 1) 6 (17 * c + 9) 1) 10 c sr) 1 6 4) 1 7 (nI p)) (fun Q => ?_) (fun Q T' => ?_) (jFl_mk e2 ?_ (w := 4) (pl := nI p) e3 (e4.trans (by rw [cMk_1 (by omega) (by omega)]; exact U16)) ?_ ?_ (by decide))
          · rw [CL, c_n178 hc4 q5 (by rw [cMk_1 (by omega) (by omega)]; exact u36) (by rw [cMk_1 (by omega) (by omega)]; exact u6) (Or.inr rfl), if_neg hp', e1]
          · rw [q9, RF, r_a47 hc4 q5 (by omega) q3 v56 v57 v55 v58 (Or.inr rfl), if_neg hp]
          · have hKm := kV2
            exact (by repeat (first | exact hKm | refine jKm.set ?_ (by omega) (by omega) | refine jKm.setJ ?_ (by omega)))
          · simp (disch := omega) only [gI_if, gIj, gIr, gJ_if, gJi, gJr, gPr, gPi, gPj, hu_if, hv_if, Nat.reduceEqDiff, eq_self, reduceIte, if_neg, if_pos]
          · simp (disch := omega) only [gI_if, gIj, gIr, gJ_if, gJi, gJr, gPr, gPi, gPj, hu_if, hv_if, Nat.reduceEqDiff, eq_self, reduceIte, if_neg, if_pos]
    · obtain rfl : c = 400 := by omega
      have a1 := fun Q => c_add_full (n := n) (sort := srt) (pl := nI p) (Q := Q) (u := setI u 33 2 (nI q)) (by simp (disch := omega) only [gI_if, gIj, gIr, gJ_if, gJi, gJr, gPr, gPi, gPj, hu_if, hv_if, Nat.reduceEqDiff, eq_self, reduceIte, if_neg, if_pos]; exact hC.1)
      have a2 := fun Q T' => r_new_full (n := n) (sort := srt) (pl := nI p) (Q := Q) (T' := T') hR1.2.2.2.1.2.1
      have m1 : ¬ (0 : Int32) ≤ -1 := by decide
      refine jV_eqT (u := setI (setI (setI u 33 2 (nI q)) 33 6 2) 33 7 (nI p)) (v := setI (setI (mNt p sg fl l o q v) 1 6 2) 1 7 (nI p)) (fun Q => ?_) (fun Q T' => ?_) (jFl_mk (by repeat (first | exact hKc | refine jKc.set ?_ (by omega) (by omega) | refine jKc.setJ ?_ (by omega))) (by unfold mNt; exact (by repeat (first | exact hKm | refine jKm.set ?_ (by omega) (by omega) | refine jKm.setJ ?_ (by omega)))) (w := 2) (pl := nI p) (by simp (disch := omega) only [↓mletE, ↓iletE, ↓jletE, ↓br_if, ↓br_ifn, ↓reduceIte, nl_lt, nl_gt, nl_le, nl_ge, nl_eq, nn_lt, nn_le, nn_eq, nl_add, nl_sub, nl_mul, nl_mulr, nn_add, nn_ix, nn_in, true_and, and_true, false_and, and_false, gI_if, gIj, gIr, gJ_if, gJi, gJr, gPr, gPi, gPj, hu_if, hv_if, Nat.reduceEqDiff, Nat.reduceLT, Nat.reduceLeDiff, eq_self, bIT, bIF, Nat.add_zero, Nat.add_assoc, Nat.reduceAdd, nb0, nb1, i10, i00, Bool.false_eq_true, not_true_eq_false, not_false_eq_true, reduceIte]) (by simp (disch := omega) only [↓mletE, ↓iletE, ↓jletE, ↓br_if, ↓br_ifn, ↓reduceIte, nl_lt, nl_gt, nl_le, nl_ge, nl_eq, nn_lt, nn_le, nn_eq, nl_add, nl_sub, nl_mul, nl_mulr, nn_add, nn_ix, nn_in, true_and, and_true, false_and, and_false, gI_if, gIj, gIr, gJ_if, gJi, gJr, gPr, gPi, gPj, hu_if, hv_if, Nat.reduceEqDiff, Nat.reduceLT, Nat.reduceLeDiff, eq_self, bIT, bIF, Nat.add_zero, Nat.add_assoc, Nat.reduceAdd, nb0, nb1, i10, i00, Bool.false_eq_true, not_true_eq_false, not_false_eq_true, reduceIte]) (by simp (disch := omega) only [↓mletE, ↓iletE, ↓jletE, ↓br_if, ↓br_ifn, ↓reduceIte, nl_lt, nl_gt, nl_le, nl_ge, nl_eq, nn_lt, nn_le, nn_eq, nl_add, nl_sub, nl_mul, nl_mulr, nn_add, nn_ix, nn_in, true_and, and_true, false_and, and_false, gI_if, gIj, gIr, gJ_if, gJi, gJr, gPr, gPi, gPj, hu_if, hv_if, Nat.reduceEqDiff, Nat.reduceLT, Nat.reduceLeDiff, eq_self, bIT, bIF, Nat.add_zero, Nat.add_assoc, Nat.reduceAdd, nb0, nb1, i10, i00, Bool.false_eq_true, not_true_eq_false, not_false_eq_true, reduceIte]) (by simp (disch := omega) only [↓mletE, ↓iletE, ↓jletE, ↓br_if, ↓br_ifn, ↓reduceIte, nl_lt, nl_gt, nl_le, nl_ge, nl_eq, nn_lt, nn_le, nn_eq, nl_add, nl_sub, nl_mul, nl_mulr, nn_add, nn_ix, nn_in, true_and, and_true, false_and, and_false, gI_if, gIj, gIr, gJ_if, gJi, gJr, gPr, gPi, gPj, hu_if, hv_if, Nat.reduceEqDiff, Nat.reduceLT, Nat.reduceLeDiff, eq_self, bIT, bIF, Nat.add_zero, Nat.add_assoc, Nat.reduceAdd, nb0, nb1, i10, i00, Bool.false_eq_true, not_true_eq_false, not_false_eq_true, reduceIte]) (by decide))
      · rw [q8]
        unfold cNt w_X4_addThing
        rw [a1]
        simp (disch := omega) only [↓mletE, ↓iletE, ↓jletE, ↓br_if, ↓br_ifn, ↓reduceIte, nl_lt, nl_gt, nl_le, nl_ge, nl_eq, nn_lt, nn_le, nn_eq, nl_add, nl_sub, nl_mul, nl_mulr, nn_add, nn_ix, nn_in, true_and, and_true, false_and, and_false, gI_if, gIj, gIr, gJ_if, gJi, gJr, gPr, gPi, gPj, hu_if, hv_if, Nat.reduceEqDiff, Nat.reduceLT, Nat.reduceLeDiff, eq_self, bIT, bIF, Nat.add_zero, Nat.add_assoc, Nat.reduceAdd, nb0, nb1, i10, i00, Bool.false_eq_true, not_true_eq_false, not_false_eq_true, reduceIte, m1, ↓c_fail, h33_6, cfl_0]
      · rw [q9]
        unfold w_X12_addNote
        rw [m58, a2]
  · exact jV_eqT h1 (fun Q T' => h2 _ T') h3
