/-! the body's lines -/
def bdP (z : Mm × Mm) (T : Nat → Nat) (sz B : Nat) (u v : Mm) : Prop := ∃ c w, Rg z T sz B c w u v
theorem r_eol {z : Mm × Mm} {n : Nat} {T : Nat → Nat} {sz B e s c w : Nat} {u v : Mm} {K T' : Mm → Prop} (hR : Rm z T sz B e s s c c w u v) : w_X12_endLine n v K T' = K (setI v 0 7 (nI (if e < sz then e + 1 else sz))) := by
  obtain ⟨hKc, hKm, hTu, hTv, hB, hP1, h33_4, h33_2, h33_6, h0_9, h0_7, hps⟩ := hR.tx
  have hss := hTu.1
  obtain ⟨-, -, -, -, -, h08, -, -, he, -⟩ := hR.2.2.1
  obtain ⟨hsz, -, -, -, h06, -⟩ := hR.2.1
  by_cases h1 : e < sz
  · simp (disch := omega) only [↓mletE, ↓iletE, ↓jletE, ↓br_if, ↓br_ifn, ↓reduceIte, nl_lt, nl_gt, nl_le, nl_ge, nl_eq, nn_lt, nn_le, nn_eq, nl_add, nl_sub, nl_mul, nl_mulr, nn_add, nn_ix, nn_in, true_and, and_true, false_and, and_false, gI_if, gIj, gIr, gJ_if, gJi, gJr, gPr, gPi, gPj, hu_if, hv_if, Nat.reduceEqDiff, Nat.reduceLT, Nat.reduceLeDiff, eq_self, bIT, bIF, Nat.add_zero, Nat.add_assoc, Nat.reduceAdd, nb0, nb1, i10, i00, Bool.false_eq_true, not_true_eq_false, not_false_eq_true, reduceIte, w_X12_endLine, w_X12_endLine_20, w_X12_endLine_45, h0_9, h0_7, h06, h08, Nat.le_refl, show (sz ≤ e) = False from eq_false (by omega), eq_true h1]
  · simp (disch := omega) only [↓mletE, ↓iletE, ↓jletE, ↓br_if, ↓br_ifn, ↓reduceIte, nl_lt, nl_gt, nl_le, nl_ge, nl_eq, nn_lt, nn_le, nn_eq, nl_add, nl_sub, nl_mul, nl_mulr, nn_add, nn_ix, nn_in, true_and, and_true, false_and, and_false, gI_if, gIj, gIr, gJ_if, gJi, gJr, gPr, gPi, gPj, hu_if, hv_if, Nat.reduceEqDiff, Nat.reduceLT, Nat.reduceLeDiff, eq_self, bIT, bIF, Nat.add_zero, Nat.add_assoc, Nat.reduceAdd, nb0, nb1, i10, i00, Bool.false_eq_true, not_true_eq_false, not_false_eq_true, reduceIte, w_X12_endLine, w_X12_endLine_20, w_X12_endLine_45, h0_9, h0_7, h06, h08, Nat.le_refl, show (sz ≤ e) = True from eq_true (by omega), eq_false h1]
theorem S_body {z : Mm × Mm} {n : Nat} {T : Nat → Nat} {sz B : Nat} (hn : 5000 ≤ n) (hcl : cln T sz) : ∀ (d k k' e a x ov c w : Nat) (u v : Mm), a = (if e < sz then e + 1 else sz) → sz - a = d → d + 1 < k → d + 1 < k' → x ≤ e + 1 → ov ≤ 1 → Rg z T sz B c w u v → e ≤ sz → (e < sz → T e = 10) → u.1 33 5 = nI (e + 1) → v.1 0 7 = nI a → jV z (fun Q => w_X4_readBody_62 n Q k (nI ov) (nI x) u) (fun Q T' => w_X12_readMusic_2 n Q T' k' (nI ov) v) (bdP z T sz B) := by
  intro d
  induction d using Nat.strongRecOn with
  | ind d ih =>
  intro k k' e a x ov c w u v hae hd hk hk' hx hov hR he he10 h5 h7
  obtain ⟨k, rfl⟩ : ∃ k1, k = k1 + 1 := ⟨k - 1, by omega⟩
  obtain ⟨k', rfl⟩ : ∃ k1, k' = k1 + 1 := ⟨k' - 1, by omega⟩
  have hT := hR.2.1
  have hsz := hT.1
  have h06 := hT.2.2.2.2.1
  have hKc := hR.1.1
  have hKm := hR.1.2.1
  have h33_6 := hR.1.2.2
  have ha : a ≤ sz := by rw [hae]; split <;> omega
  have hea : e < sz → a = e + 1 := fun h => by rw [hae, if_pos h]
  have hea2 : ¬ e < sz → a = sz := fun h => by rw [hae, if_neg h]
  have haeq : a = if e + 1 ≤ sz then e + 1 else sz := by
    rw [hae]
    by_cases h1 : e < sz
    · rw [if_pos h1, if_pos (by omega)]
    · rw [if_neg h1, if_neg (by omega)]
  have Op := fun Q => c_op (n := n) (T := T) (a := a) (Q := Q) hn hT h5 (by omega) haeq
  have x20 : (2000 < x) = False := eq_false (by omega)
  have hps : a < sz → ps T a = false := fun h => by
    by_cases h1 : e < sz
    · rw [hea h1]; exact ps_next he10 h1
    · rw [hea2 h1] at h; omega
  by_cases hend : a < sz
  · have hb : ∀ Q T', w_X12_beginLine n v Q T' = Q (opV T sz a v) := fun Q T' => by
      have := r_op (n := n) (T := T) (a := a) (Q := Q) (T' := T') hn hT ha
      rw [mI_same h7] at this
      exact this
    obtain ⟨o1, o2, o3⟩ := op_L (u := u) (v := v) ha hcl hps
    have hRg : Rg z T sz B c w (opU T sz a u) (setI (opV T sz a v) 0 49 (-1)) := hR.cg (by unfold opU; exact (by repeat (first | exact hKc | refine jKc.set ?_ (by omega) (by omega) | refine jKc.setJ ?_ (by omega)))) (by unfold opV; exact (by repeat (first | exact hKm | refine jKm.set ?_ (by omega) (by omega) | refine jKm.setJ ?_ (by omega)))) (fun q hq => opU_o hq) (fun k hk => opU_33 hk) rfl (fun q hq => by rw [gIn hq]; exact opV_o hq) (fun k h1 h2 h3 h4 => by rw [gIs, hu_n h4]; exact opV_0 (by omega)) rfl
    have hR1 : Rm z T sz B (lineE T sz a) (lineS T sz a) a c c w (opU T sz a u) (setI (opV T sz a v) 0 49 (-1)) := hRg.m (o1.cg (fun k hk => rfl) (by intros; first | rfl | (simp (disch := omega) only [gIs, gIn, gIj, gIr, gJs, gJn, gJi, gJr, gPr, gPi, gPj, hu_s, hu_n, hv_s, hv_n]; done) | (constructor <;> (simp (disch := omega) only [gIs, gIn, gIj, gIr, gJs, gJn, gJi, gJr, gPr, gPi, gPj, hu_s, hu_n, hv_s, hv_n]; done)) | (simp (disch := omega) only [gI_if, gIj, gIr, gJ_if, gJi, gJr, gPr, gPi, gPj, hu_if, hv_if, Nat.reduceEqDiff, eq_self, reduceIte, if_neg, if_pos, and_self]; done) | (simp (disch := omega) only [gI_if, gIj, gIr, gJ_if, gJi, gJr, gPr, gPi, gPj, hu_if, hv_if, Nat.reduceEqDiff, eq_self, reduceIte, if_neg, if_pos, and_self]; split <;> first | rfl | (simp (disch := omega) only [gI_if, gIj, gIr, gJ_if, gJi, gJr, gPr, gPi, gPj, hu_if, hv_if, Nat.reduceEqDiff, eq_self, reduceIte, if_neg, if_pos, and_self]; done))))
    have htx := hR1.tx
    have hlb := line_bd (T := T) (sz := sz) ha
    generalize opU T sz a u = u1 at *
    generalize hv2 : setI (opV T sz a v) 0 49 (-1) = v2 at *
    generalize lineE T sz a = e1 at *
    generalize lineS T sz a = s1 at *
    obtain ⟨hKc1, hKm1, hTu, hTv, hB1, hP1, h33_4, h33_2, h33_61, h0_9, h0_7, hps1⟩ := id htx
    have hss := hTu.1
    have hBn : ∀ q, q < 41 → (B = q) = False := fun q hq => eq_false (by omega)
    have b0 := hTu.le a (by omega)
    have b1 := hTu.le (a + 1) (by omega)
    -- the loop goes on behind this line
    have nxt : ∀ (x' ov' c' w' : Nat) (u' v1 : Mm), x' ≤ e1 + 1 → ov' ≤ 1 → Rm z T sz B e1 s1 s1 c' c' w' u' v1 → jV z (fun Q => w_X4_readBody_62 n Q k (nI ov') (nI x') u') (fun Q T' => w_X12_readMusic_2 n Q T' k' (nI ov') (setI v1 0 7 (nI (if e1 < sz then e1 + 1 else sz)))) (bdP z T sz B) := by
      intro x' ov' c' w' u' v1 hx' hov' hR'
      have hKm := hR'.1.2.1
      refine ih (sz - (if e1 < sz then e1 + 1 else sz)) (by split <;> omega) k k' e1 (if e1 < sz then e1 + 1 else sz) x' ov' c' w' u' _ rfl rfl (by split <;> omega) (by split <;> omega) hx' hov' (hR'.g.cg hR'.1.1 (by repeat (first | exact hKm | refine jKm.set ?_ (by omega) (by omega) | refine jKm.setJ ?_ (by omega))) (fun _ _ => rfl) (fun _ _ => rfl) rfl (fun q hq => by rw [gIn hq]) (fun k h1 h2 h3 h4 => by rw [gIs, hu_n h1]) rfl) hlb.2.2.1 hlb.2.2.2.2.2 hR'.2.2.1.2.2.1 (by simp (disch := omega) only [gIs, gIn, gIj, gIr, gJs, gJn, gJi, gJr, gPr, gPi, gPj, hu_s, hu_n, hv_s, hv_n])
    have C0 : ∀ Q, w_X4_readBody_62 n Q (k + 1) (nI ov) (nI x) u = ((¬ u1.1 33 4 = u1.1 33 3 → (nI ov = 0 → w_X5_fieldLetter n u1 (fun r2 u2 => (r2 ≤ 0 → w_X4_musicLine n u2 (fun u3 => w_X4_readBody_62 n Q k (nI ov) (nI (x + 1)) u3)) ∧ (¬ r2 ≤ 0 → w_X4_readChange n 1 u2 (fun u4 => w_X4_readBody_62 n Q k (nI ov) (nI (x + 1)) u4)))) ∧ (¬ nI ov = 0 → w_X5_fail n 1 (u1.1 33 3) u1 (fun u5 => w_X4_readBody_62 n Q k (nI ov) (nI (x + 1)) u5))) ∧ (u1.1 33 4 = u1.1 33 3 → w_X4_readBody_62 n Q k 1 (nI (x + 1)) u1)) := fun Q => by
      rw [w_X4_readBody_62, br_if, if_neg (by rw [nl_gt (by omega)]; omega), br_ifn, if_pos h33_6, Op, if_pos hend, br_if, if_neg (by decide), show nI (x + 1) = nI x + 1 from nl_add.symm]
      rfl
    have M0 : ∀ Q T', w_X12_readMusic_2 n Q T' (k' + 1) (nI ov) v = ((¬ v2.1 0 9 = v2.1 0 7 → (nI ov = 0 → w_X12_here n v2 (fun r1 u3 => w_X12_isLetter n r1 u3 (fun r2 u4 => (r2 = 0 → w_X12_readMusic_98 n (w_X12_readMusic_2 n Q T' k') (nI ov) u4 Q T') ∧ (¬ r2 = 0 → w_X12_peek n (u4.1 0 7 + 1) u4 (fun r3 u5 => (¬ r3 = 58 → w_X12_readMusic_98 n (w_X12_readMusic_2 n Q T' k') (nI ov) u5 Q T') ∧ (r3 = 58 → w_X12_readField n (u5.1 0 7) u5 (fun u6 => w_X12_endLine n u6 (fun u7 => w_X12_readMusic_2 n Q T' k' (nI ov) u7) T') T')) T')) T') T') ∧ (¬ nI ov = 0 → w_X12_fail n 1 (v2.1 0 7) v2 (fun u8 => w_X12_readMusic_2 n Q T' k' (nI ov) u8) T')) ∧ (v2.1 0 9 = v2.1 0 7 → w_X12_endLine n v2 (fun u9 => w_X12_readMusic_2 n Q T' k' 1 u9) T')) := fun Q T' => by
      rw [w_X12_readMusic_2, br_if, if_neg (by rw [h06, h7, nn_le (by omega)]; omega), hb, mletE, hv2]
    by_cases hs : s1 = a
    · subst hs
      refine jV_cong (fun Q => ?_) (fun Q T' => ?_) (nxt (x + 1) 1 c w u1 v2 (by omega) (by omega) hR1)
      · rw [C0, br_ifn, if_pos (by rw [h33_4, o2]), nI1]
      · rw [M0, br_ifn, if_pos (by rw [h0_9, h0_7]), r_eol hR1, nI1]
    · have n1 : ¬ u1.1 33 4 = u1.1 33 3 := by rw [h33_4, o2, nn_eq (by omega)]; exact hs
      have n2 : ¬ v2.1 0 9 = v2.1 0 7 := by rw [h0_9, h0_7, nn_eq (by omega)]; exact hs
      by_cases h0 : ov = 0
      · subst h0
        have F := fun Q => c_fl (n := n) (Q := Q) htx
        by_cases hlt : isLt (bv T s1 a) ∧ bv T s1 (a + 1) = 58
        · refine jV_cong (fun Q => ?_) (fun Q T' => ?_) (jB_VV (C2 := fun u4 Q => w_X4_readBody_62 n Q k 0 (nI (x + 1)) u4) (M2 := fun v4 Q T' => w_X12_readMusic_2 n Q T' k' 0 v4) (S_chL hn hR1 hlt.1 hlt.2) (fun u' v' h => ?_) (fun u' hok hf => ?_))
          · rw [C0, br_ifn, if_neg n1, br_if, if_pos (by decide), F, if_pos hlt, br_if, if_neg (by rw [nl_le (by omega)]; have := hlt.1; unfold isLt at this; omega)]
            rfl
          · rw [M0, br_ifn, if_neg n2, br_if, if_pos (by decide)]
            simp (disch := omega) only [↓mletE, ↓iletE, ↓jletE, ↓br_if, ↓br_ifn, ↓reduceIte, nl_lt, nl_gt, nl_le, nl_ge, nl_eq, nn_lt, nn_le, nn_eq, nl_add, nl_sub, nl_mul, nl_mulr, nn_add, nn_ix, nn_in, true_and, and_true, false_and, and_false, gI_if, gIj, gIr, gJ_if, gJi, gJr, gPr, gPi, gPj, hu_if, hv_if, Nat.reduceEqDiff, Nat.reduceLT, Nat.reduceLeDiff, eq_self, bIT, bIF, Nat.add_zero, Nat.add_assoc, Nat.reduceAdd, nb0, nb1, i10, i00, Bool.false_eq_true, not_true_eq_false, not_false_eq_true, reduceIte, ↓c_peek, ↓c_digit, ↓c_fail, cfl_0, ↓d_skip, ↓d_num0, ↓d_num1, ↓d_tw, gdC_t hTu, vblk_eq hTu, vval_eq hTu, vend_eq hTu, vok_eq hTu, vok1_eq hTu, vwm_eq hTu, pkC_eq hTu, dgI_eq, cb_lt, cb_gt, cb_le, cb_ge, cb_eq, cb_neg, ↓r_peek, ↓r_here, ↓r_is, okI_t, pkM_eq hTv, mb_eq, ↓r_isDigit, inM_mb, inM_nI, ↓r_isLetter, ↓r_isNoteLetter, orI_b, ↓d_bl, ↓d_no, ↓d_iw, gdM_t hTv, vblk_eq hTv, vval_eq hTv, vend_eq hTv, vok_eq hTv, vwm_eq hTv, ↓r_isPower, ipI_eq, ↓r_fail, ↓r_in, w_X12_must, w_X12_must_17, hBn, hP1, h33_4, h33_2, h33_6, h0_9, h0_7, eq_true hlt.1, hlt.2, nI0]
          · obtain ⟨c', w', v3, hR3, rfl⟩ := h
            exact nxt (x + 1) 0 c' w' u' v3 (by omega) (by omega) hR3
          · obtain ⟨k, rfl⟩ : ∃ k1, k = k1 + 1 := ⟨k - 1, by omega⟩
            exact ⟨u', fun Q => Iff.of_eq (b62_f hf), jKc.refl hok, rfl, rfl⟩
        · have bd := blk_bd (T := T) (s := s1) _ a rfl (by omega)
          have hR2 := (hR1.u38 (k := 14) (x := 0) (by omega)).at bd.1 bd.2.1
          have hL := S_loop (n := n) (x1 := 0) (L2 := fun _ _ => True) hn (s1 - blkP T s1 a) n n (blkP T s1 a) 0 c w _ _ rfl (by omega) (by omega) (by omega) bd.2.2 hR2 (Or.inl ⟨by simp (disch := omega) only [gIs, gIn, gIj, gIr, gJs, gJn, gJi, gJr, gPr, gPi, gPj, hu_s, hu_n, hv_s, hv_n], by rw [← hv2]; simp (disch := omega) only [gIs, gIn, gIj, gIr, gJs, gJn, gJi, gJr, gPr, gPi, gPj, hu_s, hu_n, hv_s, hv_n]⟩)
          refine jV_cong (fun Q => ?_) (fun Q T' => ?_) (jB_VV (C2 := fun u4 Q => w_X4_readBody_62 n Q k 0 (nI (x + 1)) u4) (M2 := fun v4 Q T' => w_X12_readMusic_2 n Q T' k' 0 v4) hL (fun u' v' h => ?_) (fun u' hok hf => ?_))
          · rw [C0, br_ifn, if_neg n1, br_if, if_pos (by decide), F, if_neg hlt, br_if, if_pos (by decide)]
            unfold w_X4_musicLine
            rw [mletE, c_bl hn (hR1.u38 (k := 14) (x := 0) (by omega)).tx]
            rfl
          · have E : w_X12_readMusic_98 n (w_X12_readMusic_2 n Q T' k') 0 v2 Q T' = w_X12_readMusic_102 n (fun _ v => w_X12_readMusic_2 n Q T' k' 0 v) (fun v => w_X12_readMusic_2 n Q T' k' 0 v) T' n 0 (setI v2 0 7 (nI (blkP T s1 a))) := by
              unfold w_X12_readMusic_98
              rw [r_bl hn htx]
              exact m102 (Q' := fun v => w_X12_readMusic_2 n Q T' k' 0 v) n _
            refine Eq.trans ?_ E
            rw [M0, br_ifn, if_neg n2, br_if, if_pos (by decide)]
            by_cases hl : isLt (bv T s1 a)
            · simp (disch := omega) only [↓mletE, ↓iletE, ↓jletE, ↓br_if, ↓br_ifn, ↓reduceIte, nl_lt, nl_gt, nl_le, nl_ge, nl_eq, nn_lt, nn_le, nn_eq, nl_add, nl_sub, nl_mul, nl_mulr, nn_add, nn_ix, nn_in, true_and, and_true, false_and, and_false, gI_if, gIj, gIr, gJ_if, gJi, gJr, gPr, gPi, gPj, hu_if, hv_if, Nat.reduceEqDiff, Nat.reduceLT, Nat.reduceLeDiff, eq_self, bIT, bIF, Nat.add_zero, Nat.add_assoc, Nat.reduceAdd, nb0, nb1, i10, i00, Bool.false_eq_true, not_true_eq_false, not_false_eq_true, reduceIte, ↓c_peek, ↓c_digit, ↓c_fail, cfl_0, ↓d_skip, ↓d_num0, ↓d_num1, ↓d_tw, gdC_t hTu, vblk_eq hTu, vval_eq hTu, vend_eq hTu, vok_eq hTu, vok1_eq hTu, vwm_eq hTu, pkC_eq hTu, dgI_eq, cb_lt, cb_gt, cb_le, cb_ge, cb_eq, cb_neg, ↓r_peek, ↓r_here, ↓r_is, okI_t, pkM_eq hTv, mb_eq, ↓r_isDigit, inM_mb, inM_nI, ↓r_isLetter, ↓r_isNoteLetter, orI_b, ↓d_bl, ↓d_no, ↓d_iw, gdM_t hTv, vblk_eq hTv, vval_eq hTv, vend_eq hTv, vok_eq hTv, vwm_eq hTv, ↓r_isPower, ipI_eq, ↓r_fail, ↓r_in, w_X12_must, w_X12_must_17, hBn, hP1, h33_4, h33_2, h33_6, h0_9, h0_7, eq_true hl, show (bv T s1 (a + 1) = 58) = False from eq_false (fun h => hlt ⟨hl, h⟩), nI0]
            · simp (disch := omega) only [↓mletE, ↓iletE, ↓jletE, ↓br_if, ↓br_ifn, ↓reduceIte, nl_lt, nl_gt, nl_le, nl_ge, nl_eq, nn_lt, nn_le, nn_eq, nl_add, nl_sub, nl_mul, nl_mulr, nn_add, nn_ix, nn_in, true_and, and_true, false_and, and_false, gI_if, gIj, gIr, gJ_if, gJi, gJr, gPr, gPi, gPj, hu_if, hv_if, Nat.reduceEqDiff, Nat.reduceLT, Nat.reduceLeDiff, eq_self, bIT, bIF, Nat.add_zero, Nat.add_assoc, Nat.reduceAdd, nb0, nb1, i10, i00, Bool.false_eq_true, not_true_eq_false, not_false_eq_true, reduceIte, ↓c_peek, ↓c_digit, ↓c_fail, cfl_0, ↓d_skip, ↓d_num0, ↓d_num1, ↓d_tw, gdC_t hTu, vblk_eq hTu, vval_eq hTu, vend_eq hTu, vok_eq hTu, vok1_eq hTu, vwm_eq hTu, pkC_eq hTu, dgI_eq, cb_lt, cb_gt, cb_le, cb_ge, cb_eq, cb_neg, ↓r_peek, ↓r_here, ↓r_is, okI_t, pkM_eq hTv, mb_eq, ↓r_isDigit, inM_mb, inM_nI, ↓r_isLetter, ↓r_isNoteLetter, orI_b, ↓d_bl, ↓d_no, ↓d_iw, gdM_t hTv, vblk_eq hTv, vval_eq hTv, vend_eq hTv, vok_eq hTv, vwm_eq hTv, ↓r_isPower, ipI_eq, ↓r_fail, ↓r_in, w_X12_must, w_X12_must_17, hBn, hP1, h33_4, h33_2, h33_6, h0_9, h0_7, eq_false hl, nI0]
          · obtain ⟨v3, ⟨c', w', hR3⟩, rfl⟩ := h
            exact nxt (x + 1) 0 c' w' u' v3 (by omega) (by omega) hR3
          · obtain ⟨k, rfl⟩ : ∃ k1, k = k1 + 1 := ⟨k - 1, by omega⟩
            exact ⟨u', fun Q => Iff.of_eq (b62_f hf), jKc.refl hok, rfl, rfl⟩
      · have hov1 : ¬ nI ov = 0 := by rw [nl_eq (by omega)]; exact h0
        obtain ⟨k, rfl⟩ : ∃ k1, k = k1 + 1 := ⟨k - 1, by omega⟩
        refine jV_eqT (u := setI (setI u1 33 6 1) 33 7 (nI a)) (v := setI (setI v2 1 6 1) 1 7 (nI a)) (fun Q => ?_) (fun Q T' => ?_) (jFl_mk ((hKc1.set (by omega) (by omega)).set (by omega) (by omega)) ((hKm1.set (by omega) (by omega)).set (by omega) (by omega)) (w := 1) (pl := nI a) (by simp (disch := omega) only [gIs, gIn, gIj, gIr, gJs, gJn, gJi, gJr, gPr, gPi, gPj, hu_s, hu_n, hv_s, hv_n]) (by simp (disch := omega) only [gIs, gIn, gIj, gIr, gJs, gJn, gJi, gJr, gPr, gPi, gPj, hu_s, hu_n, hv_s, hv_n]) (by simp (disch := omega) only [gIs, gIn, gIj, gIr, gJs, gJn, gJi, gJr, gPr, gPi, gPj, hu_s, hu_n, hv_s, hv_n]) (by simp (disch := omega) only [gIs, gIn, gIj, gIr, gJs, gJn, gJi, gJr, gPr, gPi, gPj, hu_s, hu_n, hv_s, hv_n]) (by decide))
        · rw [C0, br_ifn, if_neg n1, br_if, if_neg hov1, c_fail, h33_61, cfl_0, o2, b62_f (by simp (disch := omega) only [gIs, gIn, gIj, gIr, gJs, gJn, gJi, gJr, gPr, gPi, gPj, hu_s, hu_n, hv_s, hv_n]; decide)]
        · rw [M0, br_ifn, if_neg n2, br_if, if_neg hov1, r_fail, h0_7]
  · have haz : a = sz := by omega
    have C0 : ∀ Q, w_X4_readBody_62 n Q (k + 1) (nI ov) (nI x) u = w_X4_readBody_161 n (opU T sz a u) Q := fun Q => by
      rw [w_X4_readBody_62, br_if, if_neg (by rw [nl_gt (by omega)]; omega), br_ifn, if_pos h33_6, Op, if_neg hend, br_if, if_pos (by decide)]
    have M0 : ∀ Q T', w_X12_readMusic_2 n Q T' (k' + 1) (nI ov) v = ((0 < v.1 0 46 → w_X12_readMusic_145 n v Q T') ∧ (¬ 0 < v.1 0 46 → (v.1 0 45 ≤ 0 → w_X12_readMusic_155 n v Q T') ∧ (¬ v.1 0 45 ≤ 0 → w_X12_readMusic_145 n v Q T'))) := fun Q T' => by
      rw [w_X12_readMusic_2, br_if, if_pos (by rw [h06, h7, haz]; exact Int32.le_refl _)]
    have hRg : Rg z T sz B c w (opU T sz a u) v := hR.cg (by unfold opU; exact (by repeat (first | exact hKc | refine jKc.set ?_ (by omega) (by omega) | refine jKc.setJ ?_ (by omega)))) hKm (fun q hq => opU_o hq) (fun k hk => opU_33 hk) rfl (fun q hq => rfl) (fun k h1 h2 h3 h4 => rfl) rfl
    obtain ⟨n1, n2, n3, ⟨so, s1, s2, s3⟩, ⟨tl, tq, tp, t1, t2, t3, t4⟩, n6⟩ := hRg.2.2.2.2.2.2.2.2.1
    have q1 := hRg.2.1.2.2.2.1
    have q6 := hRg.1.2.2
    have hKc1 := hRg.1.1
    generalize opU T sz a u = u1 at *
    by_cases ht : 0 < tl
    · refine jV_eqT (u := setI (setI u1 33 6 6) 33 7 (nI sz)) (v := setI (setI v 1 6 6) 1 7 (nI sz)) (fun Q => ?_) (fun Q T' => ?_) (jFl_mk ((hKc1.set (by omega) (by omega)).set (by omega) (by omega)) (by repeat (first | exact hKm | refine jKm.set ?_ (by omega) (by omega) | refine jKm.setJ ?_ (by omega))) (w := 6) (pl := nI sz) (by simp (disch := omega) only [gIs, gIn, gIj, gIr, gJs, gJn, gJi, gJr, gPr, gPi, gPj, hu_s, hu_n, hv_s, hv_n]) (by simp (disch := omega) only [gIs, gIn, gIj, gIr, gJs, gJn, gJi, gJr, gPr, gPi, gPj, hu_s, hu_n, hv_s, hv_n]) (by simp (disch := omega) only [gIs, gIn, gIj, gIr, gJs, gJn, gJi, gJr, gPr, gPi, gPj, hu_s, hu_n, hv_s, hv_n]) (by simp (disch := omega) only [gIs, gIn, gIj, gIr, gJs, gJn, gJi, gJr, gPr, gPi, gPj, hu_s, hu_n, hv_s, hv_n]) (by decide))
      · rw [C0]
        simp (disch := omega) only [↓mletE, ↓iletE, ↓jletE, ↓br_if, ↓br_ifn, ↓reduceIte, nl_lt, nl_gt, nl_le, nl_ge, nl_eq, nn_lt, nn_le, nn_eq, nl_add, nl_sub, nl_mul, nl_mulr, nn_add, nn_ix, nn_in, true_and, and_true, false_and, and_false, gI_if, gIj, gIr, gJ_if, gJi, gJr, gPr, gPi, gPj, hu_if, hv_if, Nat.reduceEqDiff, Nat.reduceLT, Nat.reduceLeDiff, eq_self, bIT, bIF, Nat.add_zero, Nat.add_assoc, Nat.reduceAdd, nb0, nb1, i10, i00, Bool.false_eq_true, not_true_eq_false, not_false_eq_true, reduceIte, w_X4_readBody_161, w_X4_readBody_178, w_X4_readBody_194, t2, eq_true ht, ↓c_fail, q6, cfl_0, q1]
      · rw [M0]
        simp (disch := omega) only [↓mletE, ↓iletE, ↓jletE, ↓br_if, ↓br_ifn, ↓reduceIte, nl_lt, nl_gt, nl_le, nl_ge, nl_eq, nn_lt, nn_le, nn_eq, nl_add, nl_sub, nl_mul, nl_mulr, nn_add, nn_ix, nn_in, true_and, and_true, false_and, and_false, gI_if, gIj, gIr, gJ_if, gJi, gJr, gPr, gPi, gPj, hu_if, hv_if, Nat.reduceEqDiff, Nat.reduceLT, Nat.reduceLeDiff, eq_self, bIT, bIF, Nat.add_zero, Nat.add_assoc, Nat.reduceAdd, nb0, nb1, i10, i00, Bool.false_eq_true, not_true_eq_false, not_false_eq_true, reduceIte, t3, eq_true ht, w_X12_readMusic_145, ↓r_fail, h06]
    · by_cases hso : so ≤ 0
      · refine jV_eqR (u := u1) (v := v) (fun Q => ?_) (fun Q T' => ?_) ⟨c, w, hRg⟩
        · rw [C0]
          simp (disch := omega) only [↓mletE, ↓iletE, ↓jletE, ↓br_if, ↓br_ifn, ↓reduceIte, nl_lt, nl_gt, nl_le, nl_ge, nl_eq, nn_lt, nn_le, nn_eq, nl_add, nl_sub, nl_mul, nl_mulr, nn_add, nn_ix, nn_in, true_and, and_true, false_and, and_false, gI_if, gIj, gIr, gJ_if, gJi, gJr, gPr, gPi, gPj, hu_if, hv_if, Nat.reduceEqDiff, Nat.reduceLT, Nat.reduceLeDiff, eq_self, bIT, bIF, Nat.add_zero, Nat.add_assoc, Nat.reduceAdd, nb0, nb1, i10, i00, Bool.false_eq_true, not_true_eq_false, not_false_eq_true, reduceIte, w_X4_readBody_161, w_X4_readBody_194, t2, eq_false ht, s2, eq_true hso]
        · rw [M0]
          simp (disch := omega) only [↓mletE, ↓iletE, ↓jletE, ↓br_if, ↓br_ifn, ↓reduceIte, nl_lt, nl_gt, nl_le, nl_ge, nl_eq, nn_lt, nn_le, nn_eq, nl_add, nl_sub, nl_mul, nl_mulr, nn_add, nn_ix, nn_in, true_and, and_true, false_and, and_false, gI_if, gIj, gIr, gJ_if, gJi, gJr, gPr, gPi, gPj, hu_if, hv_if, Nat.reduceEqDiff, Nat.reduceLT, Nat.reduceLeDiff, eq_self, bIT, bIF, Nat.add_zero, Nat.add_assoc, Nat.reduceAdd, nb0, nb1, i10, i00, Bool.false_eq_true, not_true_eq_false, not_false_eq_true, reduceIte, t3, eq_false ht, s3, eq_true hso, w_X12_readMusic_155]
      · refine jV_eqT (u := setI (setI u1 33 6 6) 33 7 (nI sz)) (v := setI (setI v 1 6 6) 1 7 (nI sz)) (fun Q => ?_) (fun Q T' => ?_) (jFl_mk ((hKc1.set (by omega) (by omega)).set (by omega) (by omega)) (by repeat (first | exact hKm | refine jKm.set ?_ (by omega) (by omega) | refine jKm.setJ ?_ (by omega))) (w := 6) (pl := nI sz) (by simp (disch := omega) only [gIs, gIn, gIj, gIr, gJs, gJn, gJi, gJr, gPr, gPi, gPj, hu_s, hu_n, hv_s, hv_n]) (by simp (disch := omega) only [gIs, gIn, gIj, gIr, gJs, gJn, gJi, gJr, gPr, gPi, gPj, hu_s, hu_n, hv_s, hv_n]) (by simp (disch := omega) only [gIs, gIn, gIj, gIr, gJs, gJn, gJi, gJr, gPr, gPi, gPj, hu_s, hu_n, hv_s, hv_n]) (by simp (disch := omega) only [gIs, gIn, gIj, gIr, gJs, gJn, gJi, gJr, gPr, gPi, gPj, hu_s, hu_n, hv_s, hv_n]) (by decide))
        · rw [C0]
          simp (disch := omega) only [↓mletE, ↓iletE, ↓jletE, ↓br_if, ↓br_ifn, ↓reduceIte, nl_lt, nl_gt, nl_le, nl_ge, nl_eq, nn_lt, nn_le, nn_eq, nl_add, nl_sub, nl_mul, nl_mulr, nn_add, nn_ix, nn_in, true_and, and_true, false_and, and_false, gI_if, gIj, gIr, gJ_if, gJi, gJr, gPr, gPi, gPj, hu_if, hv_if, Nat.reduceEqDiff, Nat.reduceLT, Nat.reduceLeDiff, eq_self, bIT, bIF, Nat.add_zero, Nat.add_assoc, Nat.reduceAdd, nb0, nb1, i10, i00, Bool.false_eq_true, not_true_eq_false, not_false_eq_true, reduceIte, w_X4_readBody_161, w_X4_readBody_178, w_X4_readBody_194, t2, eq_false ht, s2, eq_false hso, ↓c_fail, q6, cfl_0, q1]
        · rw [M0]
          simp (disch := omega) only [↓mletE, ↓iletE, ↓jletE, ↓br_if, ↓br_ifn, ↓reduceIte, nl_lt, nl_gt, nl_le, nl_ge, nl_eq, nn_lt, nn_le, nn_eq, nl_add, nl_sub, nl_mul, nl_mulr, nn_add, nn_ix, nn_in, true_and, and_true, false_and, and_false, gI_if, gIj, gIr, gJ_if, gJi, gJr, gPr, gPi, gPj, hu_if, hv_if, Nat.reduceEqDiff, Nat.reduceLT, Nat.reduceLeDiff, eq_self, bIT, bIF, Nat.add_zero, Nat.add_assoc, Nat.reduceAdd, nb0, nb1, i10, i00, Bool.false_eq_true, not_true_eq_false, not_false_eq_true, reduceIte, t3, eq_false ht, s3, eq_false hso, w_X12_readMusic_145, ↓r_fail, h06]
