/-! a whole reading -/
theorem heads_f {n : Nat} {u : Mm} (hn : 5000 ≤ n) (hok : jOk u) (hf : u.1 33 6 ≠ 0) : jSv u (fun Q => w_X1_readHeads n u Q) := by
  obtain ⟨k, rfl⟩ : ∃ k, n = k + 1 := ⟨n - 1, by omega⟩
  have := h19_f (n := k + 1) (k := k) (x1 := 0) (x2 := 0) (u := setI (setI (setI u 37 3 0) 37 4 0) 37 5 0) hok (by simp (disch := omega) only [gIs, gIn, gIj, gIr, gJs, gJn, gJi, gJr, gPr, gPi, gPj, hu_s, hu_n, hv_s, hv_n]; exact hf)
  refine jSv.pre (u1 := setI (setI (setI u 37 3 0) 37 4 0) 37 5 0) ?_ ((((jKc.refl hok).set (by omega) (by omega)).set (by omega) (by omega)).set (by omega) (by omega)) (by simp (disch := omega) only [gIs, gIn, gIj, gIr, gJs, gJn, gJi, gJr, gPr, gPi, gPj, hu_s, hu_n, hv_s, hv_n]) (by simp (disch := omega) only [gIs, gIn, gIj, gIr, gJs, gJn, gJi, gJr, gPr, gPi, gPj, hu_s, hu_n, hv_s, hv_n])
  obtain ⟨u', e1, e2⟩ := this
  refine ⟨u', fun Q => ?_, e2⟩
  have e1 := e1 Q
  unfold w_X1_readHeads
  simp (disch := omega) only [↓mletE, ↓iletE, ↓jletE, ↓br_if, ↓br_ifn, ↓reduceIte, nl_lt, nl_gt, nl_le, nl_ge, nl_eq, nn_lt, nn_le, nn_eq, nl_add, nl_sub, nl_mul, nl_mulr, nn_add, nn_ix, nn_in, true_and, and_true, false_and, and_false, gI_if, gIj, gIr, gJ_if, gJi, gJr, gPr, gPi, gPj, hu_if, hv_if, Nat.reduceEqDiff, Nat.reduceLT, Nat.reduceLeDiff, eq_self, bIT, bIF, Nat.add_zero, Nat.add_assoc, Nat.reduceAdd, nb0, nb1, i10, i00, Bool.false_eq_true, not_true_eq_false, not_false_eq_true, reduceIte]
  exact e1
theorem body_f {n : Nat} {u : Mm} (hn : 5000 ≤ n) (hok : jOk u) (hf : u.1 33 6 ≠ 0) : jSv u (fun Q => w_X4_readBody n u Q) := by
  obtain ⟨U, hU⟩ : ∃ U, U = bgU 2 (bgU 1 (bgU 0 u)) := ⟨_, rfl⟩
  have o : ∀ q, q < 50 ∨ 62 ≤ q → U.1 q = u.1 q := fun q hq => by
    rw [hU, bgU_o (by omega) (by omega), bgU_o (by omega) (by omega), bgU_o (by omega) (by omega)]
  have C3 : ∀ Q, w_X4_readBody n u Q = w_X4_readBody_2 n Q (n - 3) (nI 4) U := fun Q => by
    unfold w_X4_readBody
    obtain ⟨k, rfl⟩ : ∃ k, n = k + 1 + 1 + 1 := ⟨n - 3, by omega⟩
    rw [show (1 : Int32) = nI (0 + 1) from rfl, c_body2 hn (by omega), c_body2 (w := 1) hn (by omega), c_body2 (w := 2) hn (by omega), hU]
    rfl
  have x8 : ix (8 : Int32) = 8 := rfl
  have i0 : vp_in ((1 : Int32) - 1) 3 = True := nn_in (a := 0) (by omega)
  have xx : ix ((1 : Int32) - 1) = 0 := rfl
  have hK : jKc u U := by rw [hU]; exact bgU_K (by omega) (bgU_K (by omega) (bgU_K (by omega) (jKc.refl hok)))
  have h33 : U.1 33 = u.1 33 := o 33 (by omega)
  refine ⟨setI (setI (setI (setI (setI (setI (setI (setI (setI (setI (setP (setI U 38 9 1) 2 50) 43 8 (if U.1 43 8 < 1 then 1 else U.1 43 8)) 39 3 0) 39 6 1) 39 7 1) 39 0 0) 39 1 0) 39 2 0) 38 11 0) 38 12 (-1)) 38 13 0, fun Q => Iff.of_eq ?_, ?_, by simp (disch := omega) only [gIs, gIn, gIj, gIr, gJs, gJn, gJi, gJr, gPr, gPi, gPj, hu_s, hu_n, hv_s, hv_n]; rw [h33], by simp (disch := omega) only [gIs, gIn, gIj, gIr, gJs, gJn, gJi, gJr, gPr, gPi, gPj, hu_s, hu_n, hv_s, hv_n]; rw [h33]⟩
  · show w_X4_readBody n u Q = _
    rw [C3]
    obtain ⟨k, hk⟩ : ∃ k, n - 3 = k + 1 := ⟨n - 4, by omega⟩
    rw [hk, w_X4_readBody_2]
    simp (disch := omega) only [↓mletE, ↓iletE, ↓jletE, ↓br_if, ↓br_ifn, ↓reduceIte, nl_lt, nl_gt, nl_le, nl_ge, nl_eq, nn_lt, nn_le, nn_eq, nl_add, nl_sub, nl_mul, nl_mulr, nn_add, nn_ix, nn_in, true_and, and_true, false_and, and_false, gI_if, gIj, gIr, gJ_if, gJi, gJr, gPr, gPi, gPj, hu_if, hv_if, Nat.reduceEqDiff, Nat.reduceLT, Nat.reduceLeDiff, eq_self, bIT, bIF, Nat.add_zero, Nat.add_assoc, Nat.reduceAdd, nb0, nb1, i10, i00, Bool.false_eq_true, not_true_eq_false, not_false_eq_true, reduceIte, w_X4_takeVoice, w_X7_voiceOf, w_X7_voiceOf_21, show ((1 : Int32) < 1) = False from by decide, show ((3 : Int32) < 1) = False from by decide, i0, xx, x8, w_X2_clear, w_X2_clearBroken, w_X2_clearSigns]
    obtain ⟨k, rfl⟩ : ∃ k, n = k + 1 := ⟨n - 1, by omega⟩
    rw [b62_f (by simp (disch := omega) only [gIs, gIn, gIj, gIr, gJs, gJn, gJi, gJr, gPr, gPi, gPj, hu_s, hu_n, hv_s, hv_n]; rw [h33]; exact hf)]
  · exact ((((((((((((hK.set (by omega) (by omega)).setP2 (by omega)).set (by omega) (by omega)).set (by omega) (by omega)).set (by omega) (by omega)).set (by omega) (by omega)).set (by omega) (by omega)).set (by omega) (by omega)).set (by omega) (by omega)).set (by omega) (by omega)).set (by omega) (by omega)).set (by omega) (by omega))
/-- the memories at a reading's start -/
def rdS (T : Nat → Nat) (sz B : Nat) (u v : Mm) : Prop := jOk u ∧ eT T sz B u v ∧ u.1 33 5 = 0 ∧ u.1 33 6 = 0 ∧ u.1 36 3 = 0 ∧ (∀ k, k ≤ 300 → u.1 62 k = 0) ∧ (∀ k, k < 10 → u.1 43 k = 0) ∧ u.1 35 8 = 0 ∧ u.1 35 0 = v.1 0 2 ∧ (v.1 0 2 = 0 ∨ v.1 0 2 = 1)
theorem S_read {n : Nat} {T : Nat → Nat} {sz B : Nat} {u v : Mm} (hn : 5000 ≤ n) (h : rdS T sz B u v) : jV (u, v) (fun Q => w_X5_checkBytes n u (fun u5 => w_X1_readHeads n u5 (fun u6 => w_X4_readBody n u6 Q))) (fun Q T' => w_X12_readTune n v Q T') (bdP (u, v) T sz B) := by
  obtain ⟨hok, hT, h5, h6, h36, h62, h43, h8, h35, hr⟩ := h
  obtain ⟨t1, t2, t3, t4, t5, t6⟩ := id hT
  obtain ⟨b, b1, b2, b3⟩ := bad_first T sz
  have hKc : jKc u u := jKc.refl hok
  have hKm : jKm v v := ⟨fun q _ => ⟨rfl, rfl⟩, rfl, rfl, rfl, rfl, rfl⟩
  have C0 : ∀ Q, w_X5_checkBytes n u Q = if b = sz then Q u else Q (setI (setI u 33 6 1) 33 7 (nI b)) := fun Q => by
    have := c_chk (n := n) (Q := Q) t1 t3 t4 h6 (fun i hi => ⟨(t6 i hi).1, (t6 i hi).2.2⟩) b1 b2 b3 _ n 0 rfl (by omega) (by omega)
    rw [← this]
    unfold w_X5_checkBytes
    simp (disch := omega) only [↓mletE, ↓iletE, ↓jletE, ↓br_if, ↓br_ifn, ↓reduceIte, nl_lt, nl_gt, nl_le, nl_ge, nl_eq, nn_lt, nn_le, nn_eq, nl_add, nl_sub, nl_mul, nl_mulr, nn_add, nn_ix, nn_in, true_and, and_true, false_and, and_false, gI_if, gIj, gIr, gJ_if, gJi, gJr, gPr, gPi, gPj, hu_if, hv_if, Nat.reduceEqDiff, Nat.reduceLT, Nat.reduceLeDiff, eq_self, bIT, bIF, Nat.add_zero, Nat.add_assoc, Nat.reduceAdd, nb0, nb1, i10, i00, Bool.false_eq_true, not_true_eq_false, not_false_eq_true, reduceIte, t4, show (sz ≤ 2000) = True from eq_true (by omega), ps]
    rfl
  have L := r_23 (n := n) (T := T) (sz := sz) (b := b) (v0 := setI v 0 27 0) hn t1 (by simp (disch := omega) only [gIs, gIn, gIj, gIr, gJs, gJn, gJi, gJr, gPr, gPi, gPj, hu_s, hu_n, hv_s, hv_n]; exact t5) (fun i hi => by simp (disch := omega) only [gIs, gIn, gIj, gIr, gJs, gJn, gJi, gJr, gPr, gPi, gPj, hu_s, hu_n, hv_s, hv_n]; exact ⟨(t6 i hi).2.1, (t6 i hi).2.2⟩) b1 b2 b3 (sz + 1) n 0 (setI (setI v 0 27 0) 0 7 0) rfl (by omega) (by omega) ⟨fun q hq => by simp (disch := omega) only [gIs, gIn, gIj, gIr, gJs, gJn, gJi, gJr, gPr, gPi, gPj, hu_s, hu_n, hv_s, hv_n], fun k g1 g2 g3 => by simp (disch := omega) only [gIs, gIn, gIj, gIr, gJs, gJn, gJi, gJr, gPr, gPi, gPj, hu_s, hu_n, hv_s, hv_n], rfl⟩ (by simp (disch := omega) only [gIs, gIn, gIj, gIr, gJs, gJn, gJi, gJr, gPr, gPi, gPj, hu_s, hu_n, hv_s, hv_n]; rfl) (fun _ => ⟨rfl, by omega⟩) (fun _ => by omega)
  have M0 : ∀ Q T', w_X12_readTune n v Q T' = w_X12_lookAtBytes_23 n (fun u2 => w_X12_readHeads n u2 (fun u3 => w_X12_readTune_25 n Q T' n 0 (setI (setI u3 0 28 0) 0 29 1)) T') T' n (setI (setI v 0 27 0) 0 7 0) := fun Q T' => by
    unfold w_X12_readTune w_X12_lookAtBytes w_X12_lookAtBytes_18
    simp (disch := omega) only [↓mletE, ↓iletE, ↓jletE, ↓br_if, ↓br_ifn, ↓reduceIte, nl_lt, nl_gt, nl_le, nl_ge, nl_eq, nn_lt, nn_le, nn_eq, nl_add, nl_sub, nl_mul, nl_mulr, nn_add, nn_ix, nn_in, true_and, and_true, false_and, and_false, gI_if, gIj, gIr, gJ_if, gJi, gJr, gPr, gPi, gPj, hu_if, hv_if, Nat.reduceEqDiff, Nat.reduceLT, Nat.reduceLeDiff, eq_self, bIT, bIF, Nat.add_zero, Nat.add_assoc, Nat.reduceAdd, nb0, nb1, i10, i00, Bool.false_eq_true, not_true_eq_false, not_false_eq_true, reduceIte, t5, show (sz ≤ 2000) = True from eq_true (by omega)]
  have smK : ∀ v', smL (setI v 0 27 0) v' → jKm v v' := fun v' hs => by
    refine ⟨fun q hq => ⟨?_, ?_⟩, ?_, ?_, ?_, ?_, ?_⟩
    · rw [hs.1 q (by omega)]; simp (disch := omega) only [gIs, gIn, gIj, gIr, gJs, gJn, gJi, gJr, gPr, gPi, gPj, hu_s, hu_n, hv_s, hv_n]
    · rw [hs.2.2]; rfl
    · rw [hs.2.2]; rfl
    · rw [hs.2.1 2 (by omega) (by omega) (by omega)]; simp (disch := omega) only [gIs, gIn, gIj, gIr, gJs, gJn, gJi, gJr, gPr, gPi, gPj, hu_s, hu_n, hv_s, hv_n]
    · rw [hs.2.1 4 (by omega) (by omega) (by omega)]; simp (disch := omega) only [gIs, gIn, gIj, gIr, gJs, gJn, gJi, gJr, gPr, gPi, gPj, hu_s, hu_n, hv_s, hv_n]
    · rw [hs.2.1 10 (by omega) (by omega) (by omega)]; simp (disch := omega) only [gIs, gIn, gIj, gIr, gJs, gJn, gJi, gJr, gPr, gPi, gPj, hu_s, hu_n, hv_s, hv_n]
    · rw [hs.2.1 11 (by omega) (by omega) (by omega)]; simp (disch := omega) only [gIs, gIn, gIj, gIr, gJs, gJn, gJi, gJr, gPr, gPi, gPj, hu_s, hu_n, hv_s, hv_n]
  by_cases hb : b = sz
  · obtain ⟨v1, s1, s2, s3⟩ := L.1 hb
    have C0 : ∀ Q, w_X5_checkBytes n u Q = Q u := fun Q => (C0 Q).trans (if_pos hb)
    have hcl : cln T sz := bad_cln (fun j hj => b2 j (by omega))
    have hKm1 := smK v1 s1
    have w0 : ∀ k, k ≠ 7 → k ≠ 8 → k ≠ 9 → k ≠ 27 → v1.1 0 k = v.1 0 k := fun k g1 g2 g3 g4 => by rw [s1.2.1 k g1 g2 g3]; simp (disch := omega) only [gIs, gIn, gIj, gIr, gJs, gJn, gJi, gJr, gPr, gPi, gPj, hu_s, hu_n, hv_s, hv_n]
    have w3 : v1.1 3 = v.1 3 := by rw [s1.1 3 (by omega)]; simp (disch := omega) only [gIs, gIn, gIj, gIr, gJs, gJn, gJi, gJr, gPr, gPi, gPj, hu_s, hu_n, hv_s, hv_n]
    have hX : eX (u, v) T sz B (setI (setI (setI u 37 3 0) 37 4 0) 37 5 0) v1 := ⟨by exact (by repeat (first | exact hKc | refine jKc.set ?_ (by omega) (by omega) | refine jKc.setJ ?_ (by omega))), hKm1, by simp (disch := omega) only [gIs, gIn, gIj, gIr, gJs, gJn, gJi, gJr, gPr, gPi, gPj, hu_s, hu_n, hv_s, hv_n]; exact h6, hT.cg rfl (by simp (disch := omega) only [gIs, gIn, gIj, gIr, gJs, gJn, gJi, gJr, gPr, gPi, gPj, hu_s, hu_n, hv_s, hv_n]) (by simp (disch := omega) only [gIs, gIn, gIj, gIr, gJs, gJn, gJi, gJr, gPr, gPi, gPj, hu_s, hu_n, hv_s, hv_n]) (by simp (disch := omega) only [gIs, gIn, gIj, gIr, gJs, gJn, gJi, gJr, gPr, gPi, gPj, hu_s, hu_n, hv_s, hv_n]) (w0 6 (by omega) (by omega) (by omega) (by omega)) w3, by simp (disch := omega) only [gIs, gIn, gIj, gIr, gJs, gJn, gJi, gJr, gPr, gPi, gPj, hu_s, hu_n, hv_s, hv_n]; exact h36, by rw [s1.2.1 27 (by omega) (by omega) (by omega)]; simp (disch := omega) only [gIs, gIn, gIj, gIr, gJs, gJn, gJi, gJr, gPr, gPi, gPj, hu_s, hu_n, hv_s, hv_n], fun k hk => by simp (disch := omega) only [gIs, gIn, gIj, gIr, gJs, gJn, gJi, gJr, gPr, gPi, gPj, hu_s, hu_n, hv_s, hv_n]; exact h62 k hk, by simp (disch := omega) only [gIs, gIn, gIj, gIr, gJs, gJn, gJi, gJr, gPr, gPi, gPj, hu_s, hu_n, hv_s, hv_n]; exact h43 8 (by omega), by simp (disch := omega) only [gIs, gIn, gIj, gIr, gJs, gJn, gJi, gJr, gPr, gPi, gPj, hu_s, hu_n, hv_s, hv_n]; rw [w0 2 (by omega) (by omega) (by omega) (by omega)]; exact h35, by rw [w0 2 (by omega) (by omega) (by omega) (by omega)]; exact hr, hcl⟩
    obtain ⟨o1, o2, o3⟩ := op_L (u := setI (setI (setI u 37 3 0) 37 4 0) 37 5 0) (v := v1) (a := 0) (sz := sz) (by omega) hcl (fun _ => rfl)
    have hh := S_hX (n := n) (k := n - 1) hn (by omega) (op_X (a := 0) hX) o1 o3 o2 (by rw [opU_o (by omega)]; simp (disch := omega) only [gIs, gIn, gIj, gIr, gJs, gJn, gJi, gJr, gPr, gPi, gPj, hu_s, hu_n, hv_s, hv_n]) (by rw [opU_o (by omega)]; simp (disch := omega) only [gIs, gIn, gIj, gIr, gJs, gJn, gJi, gJr, gPr, gPi, gPj, hu_s, hu_n, hv_s, hv_n]) (by rw [opU_o (by omega)]; simp (disch := omega) only [gIs, gIn, gIj, gIr, gJs, gJn, gJi, gJr, gPr, gPi, gPj, hu_s, hu_n, hv_s, hv_n]) (by rw [opU_o (by omega)]; simp (disch := omega) only [gIs, gIn, gIj, gIr, gJs, gJn, gJi, gJr, gPr, gPi, gPj, hu_s, hu_n, hv_s, hv_n]; exact h8) (fun i hi => by rw [opU_o (by omega)]; simp (disch := omega) only [gIs, gIn, gIj, gIr, gJs, gJn, gJi, gJr, gPr, gPi, gPj, hu_s, hu_n, hv_s, hv_n]; exact h43 i (by omega))
    have hH : jV (u, v) (fun Q => w_X1_readHeads n u Q) (fun Q T' => w_X12_readHeads n v1 Q T') (hdP (u, v) T sz B) := by
      refine jV_cong (fun Q => ?_) (fun Q T' => ?_) hh
      · unfold w_X1_readHeads
        rw [mletE, mletE, mletE]
        obtain ⟨k, rfl⟩ : ∃ k, n = k + 1 := ⟨n - 1, by omega⟩
        rw [h19_o (by decide) (by simp (disch := omega) only [gIs, gIn, gIj, gIr, gJs, gJn, gJi, gJr, gPr, gPi, gPj, hu_s, hu_n, hv_s, hv_n]; exact h6) (by decide), c_op (T := T) (a := 0) (a0 := 0) hn hX.2.2.2.1 (by simp (disch := omega) only [gIs, gIn, gIj, gIr, gJs, gJn, gJi, gJr, gPr, gPi, gPj, hu_s, hu_n, hv_s, hv_n]; exact h5) (by omega) (by rw [if_pos (by omega)])]
        rfl
      · unfold w_X12_readHeads
        have := r_op (n := n) (T := T) (a := 0) (Q := fun u1 => w_X12_isHead n 88 u1 (fun r1 u2 => (¬ r1 = 0 → w_X12_readHeads_22 n u2 Q T') ∧ (r1 = 0 → w_X12_fail n 1 (u2.1 0 7) u2 (fun u3 => w_X12_readHeads_22 n u3 Q T') T')) T') (T' := T') hn hX.2.2.2.1 (by omega)
        rw [mI_same (show v1.1 0 7 = nI 0 from s2)] at this
        exact this
    refine jV_cong (fun Q => C0 _) (fun Q T' => (M0 Q T').trans (s3 _ _)) (jB_VV (C2 := fun u6 Q => w_X4_readBody n u6 Q) (M2 := fun u3 Q T' => w_X12_readTune_25 n Q T' n 0 (setI (setI u3 0 28 0) 0 29 1)) hH (fun u' v' hp => ?_) (fun u' hok hf => body_f hn hok hf))
    obtain ⟨uI, vI, e, C1, M1, hRg, -, he, he10, g5, g7⟩ := Rg_begin (n := n) hn hp
    refine jV_cong (fun Q => C1 Q) (fun Q T' => M1 Q T') ?_
    have hB := S_body (n := n) hn hcl (sz - (if e < sz then e + 1 else sz)) n n e (if e < sz then e + 1 else sz) 0 0 0 0 uI vI rfl rfl (by split <;> omega) (by split <;> omega) (by omega) (by omega) hRg he he10 g5 g7
    exact hB
  · obtain ⟨v1, s1, s2⟩ := L.2 (by omega)
    have C0 : ∀ Q, w_X5_checkBytes n u Q = Q (setI (setI u 33 6 1) 33 7 (nI b)) := fun Q => (C0 Q).trans (if_neg hb)
    have hKm1 := smK v1 s1
    obtain ⟨u1, a1, a2, a3, a4⟩ := jS_vv (C2 := fun u6 Q => w_X4_readBody n u6 Q) (heads_f (n := n) (u := setI (setI u 33 6 1) 33 7 (nI b)) hn hok (by simp (disch := omega) only [gIs, gIn, gIj, gIr, gJs, gJn, gJi, gJr, gPr, gPi, gPj, hu_s, hu_n, hv_s, hv_n]; decide)) (by simp (disch := omega) only [gIs, gIn, gIj, gIr, gJs, gJn, gJi, gJr, gPr, gPi, gPj, hu_s, hu_n, hv_s, hv_n]; decide) (fun u1 g1 g2 => body_f hn g1 g2)
    refine jV_eqT (u := u1) (v := setI (setI v1 1 6 1) 1 7 (nI b)) (fun Q => (C0 _).trans (propext (a1 Q))) (fun Q T' => (M0 Q T').trans (s2 _ _)) (jFl_mk (jKc.trans (by exact (by repeat (first | exact hKc | refine jKc.set ?_ (by omega) (by omega) | refine jKc.setJ ?_ (by omega)))) a2) ((hKm1.set (by omega) (by omega)).set (by omega) (by omega)) (w := 1) (pl := nI b) (by rw [a3]; simp (disch := omega) only [gIs, gIn, gIj, gIr, gJs, gJn, gJi, gJr, gPr, gPi, gPj, hu_s, hu_n, hv_s, hv_n]) (by rw [a4]; simp (disch := omega) only [gIs, gIn, gIj, gIr, gJs, gJn, gJi, gJr, gPr, gPi, gPj, hu_s, hu_n, hv_s, hv_n]) (by simp (disch := omega) only [gIs, gIn, gIj, gIr, gJs, gJn, gJi, gJr, gPr, gPi, gPj, hu_s, hu_n, hv_s, hv_n]) (by simp (disch := omega) only [gIs, gIn, gIj, gIr, gJs, gJn, gJi, gJr, gPr, gPi, gPj, hu_s, hu_n, hv_s, hv_n]) (by decide))
