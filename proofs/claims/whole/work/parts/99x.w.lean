/-! the call that writes -/
theorem WD {n t : Nat} {a b : Int32} {σ v : Mm} (hn : 5000 ≤ n) (h : RRr t σ σ) (hv1 : ∀ q, q < 32 → v.1 q = σ.1 q) (hv2 : ∀ q, q < 32 → v.2.1 q = σ.2.1 q) : ∃ r σ1 v2, (∀ Q, w_X10_written n a b σ Q = Q r σ1) ∧ (∀ Q T', w_X12_written n a b v Q T' = Q r v2) ∧ wF σ σ1 ∧ ((∀ q, q ≠ 0 → q ≠ 31 → v2.1 q = v.1 q) ∧ (∀ k, k ≠ 0 → k ≠ 71 → v2.1 0 k = v.1 0 k) ∧ v2.2 = v.2) := by
  have f1 : (∀ q, q ≠ 0 → q ≠ 31 → (setI v 0 0 0).1 q = v.1 q) ∧ (∀ k, k ≠ 0 → k ≠ 71 → (setI v 0 0 0).1 0 k = v.1 0 k) ∧ (setI v 0 0 0).2 = v.2 := ⟨fun q h1 h2 => gIn h1, fun k h1 h2 => by rw [gIs, hu_n h1], rfl⟩
  have w10 : (setI v 0 0 0).1 0 10 = σ.1 0 10 := by simp (disch := omega) only [gIs, gIn, gIj, gIr, gJs, gJn, gJi, gJr, gPr, gPi, gPj, hu_s, hu_n, hv_s, hv_n]; rw [hv1 0 (by omega)]
  have w27 : (setI v 0 0 0).1 0 27 = σ.1 0 27 := by simp (disch := omega) only [gIs, gIn, gIj, gIr, gJs, gJn, gJi, gJr, gPr, gPi, gPj, hu_s, hu_n, hv_s, hv_n]; rw [hv1 0 (by omega)]
  rcases h.2.2.2.2 with ⟨h7, h10⟩ | ⟨h7, h10, T, sz, c, pn, -, hC, hD, -⟩
  · have H := fun Q => c_has0 (n := n) (a := a) (Q := Q) h7
    have N := fun Q T' => r_no0 (n := n) (a := a) (v := setI v 0 0 0) (Q := Q) (T' := T') (by rw [w10]; exact h10)
    refine ⟨-1, σ, setI v 0 0 0, fun Q => ?_, fun Q T' => ?_, wF.refl, f1⟩
    · unfold w_X10_written
      simp (disch := omega) only [↓mletE, ↓iletE, ↓jletE, ↓br_if, ↓br_ifn, ↓reduceIte, nl_lt, nl_gt, nl_le, nl_ge, nl_eq, nn_lt, nn_le, nn_eq, nl_add, nl_sub, nl_mul, nl_mulr, nn_add, nn_ix, nn_in, true_and, and_true, false_and, and_false, gI_if, gIj, gIr, gJ_if, gJi, gJr, gPr, gPi, gPj, hu_if, hv_if, Nat.reduceEqDiff, Nat.reduceLT, Nat.reduceLeDiff, eq_self, bIT, bIF, Nat.add_zero, Nat.add_assoc, Nat.reduceAdd, nb0, nb1, i10, i00, Bool.false_eq_true, not_true_eq_false, not_false_eq_true, reduceIte, ↓H, w_X10_written_28]
    · unfold w_X12_written
      simp (disch := omega) only [↓mletE, ↓iletE, ↓jletE, ↓br_if, ↓br_ifn, ↓reduceIte, nl_lt, nl_gt, nl_le, nl_ge, nl_eq, nn_lt, nn_le, nn_eq, nl_add, nl_sub, nl_mul, nl_mulr, nn_add, nn_ix, nn_in, true_and, and_true, false_and, and_false, gI_if, gIj, gIr, gJ_if, gJi, gJr, gPr, gPi, gPj, hu_if, hv_if, Nat.reduceEqDiff, Nat.reduceLT, Nat.reduceLeDiff, eq_self, bIT, bIF, Nat.add_zero, Nat.add_assoc, Nat.reduceAdd, nb0, nb1, i10, i00, Bool.false_eq_true, not_true_eq_false, not_false_eq_true, reduceIte, ↓N, w_X12_written_22]
  have hc4 := hC.2.2.1
  have H := fun Q => c_has (n := n) (a := a) (Q := Q) h7 hC.1 hc4
  have N := fun Q T' => r_no (n := n) (a := a) (v := setI v 0 0 0) (Q := Q) (T' := T') (by rw [w10]; exact h10) (by rw [w27]; exact hC.2.1) hc4
  by_cases hj : ∃ j : Nat, j < c ∧ a = nI j
  · have H : ∀ Q, w_X10_hasThing n a σ Q = Q 1 σ := fun Q => by rw [H, bI_t hj]
    have N : ∀ Q T', w_X12_noThing n a (setI v 0 0 0) Q T' = Q 0 (setI v 0 0 0) := fun Q T' => by rw [N, bI_f (fun z => z hj)]
    obtain ⟨j, hj, rfl⟩ := hj
    obtain ⟨c1, c2, c3, c4, c5⟩ := hC.2.2.2 j hj
    have w6 : ∀ x, (setI v 0 0 0).1 6 x = σ.1 6 x := fun x => by rw [gIn (by omega), hv1 6 (by omega)]
    have c0 : σ.1 46 (19 * j + 0) = σ.1 6 (17 * j + 0) := c1 0 (by omega)
    have cell0 : ∀ Q, w_X6_cell n (nI j) 0 σ Q = Q (σ.1 6 (17 * j)) σ := fun Q => by
      rw [c_cel, hC.1, show ccell (nI c) (σ.1 46) (nI j) 0 = σ.1 46 (19 * j + 0) from ccell_in (c := c) (j := j) (k := 0) (f := σ.1 46) ⟨hj, hc4, (show 0 < 19 by omega)⟩, c0]
      rfl
    have get0 : ∀ Q T', w_X12_get n (nI j) 0 (setI v 0 0 0) Q T' = Q (σ.1 6 (17 * j)) (setI v 0 0 0) := fun Q T' => by
      rw [← w6]
      simp (disch := omega) only [↓mletE, ↓iletE, ↓jletE, ↓br_if, ↓br_ifn, ↓reduceIte, nl_lt, nl_gt, nl_le, nl_ge, nl_eq, nn_lt, nn_le, nn_eq, nl_add, nl_sub, nl_mul, nl_mulr, nn_add, nn_ix, nn_in, true_and, and_true, false_and, and_false, gI_if, gIj, gIr, gJ_if, gJi, gJr, gPr, gPi, gPj, hu_if, hv_if, Nat.reduceEqDiff, Nat.reduceLT, Nat.reduceLeDiff, eq_self, bIT, bIF, Nat.add_zero, Nat.add_assoc, Nat.reduceAdd, nb0, nb1, i10, i00, Bool.false_eq_true, not_true_eq_false, not_false_eq_true, reduceIte, w_X12_get]
    by_cases hs0 : σ.1 6 (17 * j) = 0
    · obtain ⟨⟨k, k1, k2⟩, hnote⟩ := hD j hj
      obtain ⟨⟨tt, t1, t2, t3⟩, ⟨l, l1, l2⟩, ho, hs1, hs2⟩ := hnote hs0
      have kl := k2.le
      have C0 : ∀ Q, w_X10_written n (nI j) b σ Q = (((-1 : Int32) ≤ b → w_X9_write n (nI j) σ (fun r3 u3 => (¬ r3 = 0 → (¬ b = -1 → w_X9_byteAt n b u3 (fun r4 u4 => w_X10_written_73 n r4 u4 Q)) ∧ (b = -1 → w_X10_written_73 n (u3.1 40 1) u3 Q)) ∧ (r3 = 0 → Q (-1) u3))) ∧ (¬ (-1 : Int32) ≤ b → Q (-1) σ)) := fun Q => by
        unfold w_X10_written
        rw [H, br_if, if_neg (by decide), cell0, hs0, br_ifn, if_pos rfl]
        rfl
      have kdv : (1290240 : Int32) / nI k = nI (1290240 / k) := pk_div (a := 1290240) (d := k) (by omega) (by omega) (by omega)
      have kd2 : 1290240 / k ≤ 1290240 := Nat.div_le_self _ _
      have M0 : ∀ Q T', w_X12_written n (nI j) b v Q T' = w_X12_written_51 n Q T' n (nI j) b (lN tt) (lN (1290240 / k)) (lN tt) (lN (1290240 / k)) (setI v 0 0 0) := fun Q T' => by
        unfold w_X12_written
        have e7 : (setI v 0 0 0).2.1 7 j = lN tt := by rw [gIj, hv2 7 (by omega)]; exact t1
        have e9 : (setI v 0 0 0).1 9 j = nI k := by rw [gIn (by omega), hv1 9 (by omega)]; exact k1
        rw [mletE, N, br_ifn, if_pos rfl, get0, hs0, br_if, if_pos rfl, nn_in (by omega), true_and, nn_ix (by omega), e7, jletE, true_and, e9, show (¬ nI k = 0) = True from eq_true (nI_ne0 (by omega) (by omega)), true_and, kdv, nI_l (by omega), jletE]
      have E344 : ∀ (m : Nat) (v' : Mm) Q T', m ≤ 24 → v'.1 0 71 = nI m → w_X12_written_344 n b v' Q T' = if b = -1 then Q (nI m) v' else if (∃ i : Nat, i < m ∧ b = nI i) then Q (v'.1 31 (ix b) &&& 255) v' else Q (-1) v' := fun m v' Q T' hm h71 => by
        unfold w_X12_written_344
        rw [h71, r_in]
        by_cases bm : b = -1
        · rw [if_pos bm, bI_t (by rw [bm]; exact i_m1 (by omega)), br_ifn, if_neg (by decide), br_if, if_neg (by rw [bm]; decide), h71]
          rfl
        rw [if_neg bm]
        by_cases b0 : b < 0
        · rw [if_neg (fun ⟨i, hi, e⟩ => by rw [e] at b0; exact absurd b0 (nI_pos (by omega))), bI_f (fun z => i_negm b0 bm z.1), br_ifn, if_pos rfl]
        obtain ⟨i, hi, rfl⟩ := nI_of b0
        by_cases hl : i < m
        · rw [if_pos ⟨i, hl, rfl⟩, bI_t ((i_inm hi (by omega)).mpr hl), br_ifn, if_neg (by decide), br_if, if_pos (nI_pos' hi), nn_in (by omega), true_and]
          rfl
        · rw [if_neg (fun ⟨i', hi', e⟩ => by rw [nI_inj' hi (by omega)] at e; omega), bI_f (fun z => hl ((i_inm hi (by omega)).mp z)), br_ifn, if_pos rfl]
      have EB : ∀ (m : Nat) (u' : Mm) Q, m ≤ 24 → u'.1 40 1 = nI m → ¬ b < 0 → w_X9_byteAt n b u' Q = if (∃ i : Nat, i < m ∧ b = nI i) then Q (u'.1 66 (ix b)) u' else Q (-1) u' := fun m u' Q hm h40 b0 => by
        obtain ⟨i, hi, rfl⟩ := nI_of b0
        unfold w_X9_byteAt
        by_cases hl : i < m
        · rw [if_pos ⟨i, hl, rfl⟩, br_if, if_neg b0, h40, br_if, if_neg (by rw [nn_le (by omega)]; omega), br_if, if_neg (by rw [nl_ge (by omega)]; omega), nn_in (by omega), true_and]
          rfl
        · rw [if_neg (fun ⟨i', hi', e⟩ => by rw [nI_inj' hi (by omega)] at e; omega), br_if, if_neg b0, h40, br_if, if_pos (by rw [nn_le (by omega)]; omega)]
          rfl
      have core := wCore (n := n) (j := j) (c := c) (k := k) (l := l) (tt := tt) (b := b) (s := σ.1 6 (17 * j + 6)) (oct := σ.1 6 (17 * j + 5)) (u := σ) (v := setI v 0 0 0) hn hj hc4 hC.1 k2 ⟨t2, t3⟩ l2 ho (sgn5 hs1 hs2) ((c1 4 (by omega)).trans l1) (c1 5 (by omega)) (c1 6 (by omega)) (c4.trans k1) (by rw [c5, gIn (by omega), hv1 10 (by omega)]) (c2.trans t1) (by rw [w6]; exact l1) (w6 _) (w6 _)
      rcases core with ⟨m, u', v', x1, x2, ⟨y1, y2, y3, y4⟩, z1, z2, z3, z4⟩ | ⟨u', x1, x2, z1⟩
      · have f2 : (∀ q, q ≠ 0 → q ≠ 31 → v'.1 q = v.1 q) ∧ (∀ k, k ≠ 0 → k ≠ 71 → v'.1 0 k = v.1 0 k) ∧ v'.2 = v.2 := ⟨fun q g1 g2 => (z2 q g1 g2).trans (f1.1 q g1 g2), fun k g1 g2 => (z3 k g2).trans (f1.2.1 k g1 g2), z4.trans f1.2.2⟩
        by_cases bm : b = -1
        · refine ⟨nI m, u', v', fun Q => ?_, fun Q T' => ?_, z1, f2⟩
          · rw [C0, br_if, if_pos (by rw [bm]; decide), x1, br_ifn, if_neg (by decide), br_ifn, if_pos bm, y2]
            rfl
          · rw [M0, x2, E344 m v' Q T' y1 y3, if_pos bm]
        by_cases b0 : b < 0
        · have hnb : ¬ (-1 : Int32) ≤ b := fun z => by
            have e1 := Int32.le_iff_toInt_le.mp z
            have e2 := Int32.lt_iff_toInt_lt.mp b0
            have e3 : (-1 : Int32).toInt = -1 := rfl
            have e4 : (0 : Int32).toInt = 0 := rfl
            have e5 : b.toInt = -1 := by rw [e3] at e1; rw [e4] at e2; omega
            exact bm (Int32.toInt_inj.mp (e5.trans e3.symm))
          refine ⟨-1, σ, v', fun Q => ?_, fun Q T' => ?_, wF.refl, f2⟩
          · rw [C0, br_if, if_neg hnb]
          · rw [M0, x2, E344 m v' Q T' y1 y3, if_neg bm, if_neg (fun ⟨i, hi, e⟩ => by rw [e] at b0; exact absurd b0 (nI_pos (by omega)))]
        · have hpb : (-1 : Int32) ≤ b := by
            obtain ⟨i, hi, rfl⟩ := nI_of b0
            exact Int32.le_trans (show (-1 : Int32) ≤ 0 by decide) (nI_pos' hi)
          by_cases hi : ∃ i : Nat, i < m ∧ b = nI i
          · obtain ⟨i, hi1, hi2⟩ := id hi
            obtain ⟨ch, q1, q2, q3⟩ := y4 i hi1
            have hix : ix b = i := by rw [hi2]; exact nn_ix (by omega)
            have hand : nI ch &&& 255 = nI ch := (show ∀ x, x < 128 → nI x &&& 255 = nI x from by decide +kernel) ch q1
            refine ⟨nI ch, u', v', fun Q => ?_, fun Q T' => ?_, z1, f2⟩
            · rw [C0, br_if, if_pos hpb, x1, br_ifn, if_neg (by decide), br_ifn, if_neg bm, EB m u' _ y1 y2 b0, if_pos hi, hix, q2]
              rfl
            · rw [M0, x2, E344 m v' Q T' y1 y3, if_neg bm, if_pos hi, hix, q3, hand]
          · refine ⟨-1, u', v', fun Q => ?_, fun Q T' => ?_, z1, f2⟩
            · rw [C0, br_if, if_pos hpb, x1, br_ifn, if_neg (by decide), br_ifn, if_neg bm, EB m u' _ y1 y2 b0, if_neg hi]
              rfl
            · rw [M0, x2, E344 m v' Q T' y1 y3, if_neg bm, if_neg hi]
      · by_cases hb : (-1 : Int32) ≤ b
        · refine ⟨-1, u', setI v 0 0 0, fun Q => ?_, fun Q T' => ?_, z1, f1⟩
          · rw [C0, br_if, if_pos hb, x1, br_ifn, if_pos rfl]
          · rw [M0, x2]
        · refine ⟨-1, σ, setI v 0 0 0, fun Q => ?_, fun Q T' => ?_, wF.refl, f1⟩
          · rw [C0, br_if, if_neg hb]
          · rw [M0, x2]
    · refine ⟨-1, σ, setI v 0 0 0, fun Q => ?_, fun Q T' => ?_, wF.refl, f1⟩
      · unfold w_X10_written
        rw [H, br_if, if_neg (by decide), cell0, br_ifn, if_neg hs0]
        rfl
      · unfold w_X12_written
        rw [mletE, N, br_ifn, if_pos rfl, get0, br_if, if_neg hs0]
        rfl
  · have H : ∀ Q, w_X10_hasThing n a σ Q = Q 0 σ := fun Q => by rw [H, bI_f hj]
    have N : ∀ Q T', w_X12_noThing n a (setI v 0 0 0) Q T' = Q 1 (setI v 0 0 0) := fun Q T' => by rw [N, bI_t hj]
    refine ⟨-1, σ, setI v 0 0 0, fun Q => ?_, fun Q T' => ?_, wF.refl, f1⟩
    · unfold w_X10_written
      simp (disch := omega) only [↓mletE, ↓iletE, ↓jletE, ↓br_if, ↓br_ifn, ↓reduceIte, nl_lt, nl_gt, nl_le, nl_ge, nl_eq, nn_lt, nn_le, nn_eq, nl_add, nl_sub, nl_mul, nl_mulr, nn_add, nn_ix, nn_in, true_and, and_true, false_and, and_false, gI_if, gIj, gIr, gJ_if, gJi, gJr, gPr, gPi, gPj, hu_if, hv_if, Nat.reduceEqDiff, Nat.reduceLT, Nat.reduceLeDiff, eq_self, bIT, bIF, Nat.add_zero, Nat.add_assoc, Nat.reduceAdd, nb0, nb1, i10, i00, Bool.false_eq_true, not_true_eq_false, not_false_eq_true, reduceIte, ↓H, w_X10_written_28]
    · unfold w_X12_written
      simp (disch := omega) only [↓mletE, ↓iletE, ↓jletE, ↓br_if, ↓br_ifn, ↓reduceIte, nl_lt, nl_gt, nl_le, nl_ge, nl_eq, nn_lt, nn_le, nn_eq, nl_add, nl_sub, nl_mul, nl_mulr, nn_add, nn_ix, nn_in, true_and, and_true, false_and, and_false, gI_if, gIj, gIr, gJ_if, gJi, gJr, gPr, gPi, gPj, hu_if, hv_if, Nat.reduceEqDiff, Nat.reduceLT, Nat.reduceLeDiff, eq_self, bIT, bIF, Nat.add_zero, Nat.add_assoc, Nat.reduceAdd, nb0, nb1, i10, i00, Bool.false_eq_true, not_true_eq_false, not_false_eq_true, reduceIte, ↓N, w_X12_written_22]
theorem q_written {n t : Nat} {a b : Int32} {σ : Mm} (hn : 5000 ≤ n) (h : RRr t σ σ) : w_X10_written n a b σ (fun r1 σ1 => w_X12_written n a b σ1 (fun r2 σ2 => r1 = r2 ∧ RRr (t + 1) σ2 σ2) noT) := by
  obtain ⟨r, σ1, -, C, -, F, -⟩ := WD (v := σ) (a := a) (b := b) hn h (fun _ _ => rfl) (fun _ _ => rfl)
  obtain ⟨r', σ1', v2, C', M, -, k1, k2, k3⟩ := WD (v := σ1) (a := a) (b := b) hn h (fun q hq => F.1 q (by omega) (by omega)) (fun q hq => by rw [F.2])
  obtain ⟨rfl, rfl⟩ := uniq2 C C'
  rw [C, M]
  refine ⟨rfl, h.cg (fun q g1 g2 g3 => ?_) (fun q g => by rw [k3, F.2]) (by rw [k3, F.2]) (fun q g1 g2 => ?_) (fun k g1 g2 => ?_) (fun q g => by rw [k3, F.2])⟩
  · rw [k1 q (by omega) (by omega), F.1 q g2 g3]
  · rw [k1 q (by omega) (by omega), F.1 q (by omega) (by omega)]
  · rw [k2 k g1 g2, F.1 0 (by omega) (by omega)]
