/-! a reading, both sides -/
theorem RD {n t : Nat} {σ v : Mm} (hn : 400000 ≤ n) (ht : t < 64) (h : RRr t σ σ) (hv1 : ∀ q, q < 32 → v.1 q = σ.1 q) (hv2 : ∀ q, q < 32 → v.2.1 q = σ.2.1 q) : ∃ r σ1 v2, (∀ Q, w_X10_read n σ Q = Q r σ1) ∧ (∀ Q, w_X12_read n v Q = Q r v2) ∧ ((∀ q, 32 ≤ q → v2.1 q = v.1 q) ∧ (∀ q, 32 ≤ q → v2.2.1 q = v.2.1 q) ∧ v2.2.2 = v.2.2) ∧ (∀ q, q < 32 → σ1.1 q = σ.1 q ∧ σ1.2.1 q = σ.2.1 q) ∧ RRr t σ1 v2 := by
  obtain ⟨⟨a1, a2, a3, a4⟩, ⟨b1, b2⟩, ⟨tn, c1, c2, c3, c4, c5⟩, d1, e1⟩ := id h
  obtain ⟨uS, C0, ⟨p0, p1, p2, pJ⟩, ⟨s1, s5, s6, s36, s8, s35, s32⟩, s62, s43, sq⟩ := c_rd (n := n) (σ := σ) (tn := tn) (by omega) c3 c2
  obtain ⟨vS, M0, ⟨m6, m4, m10, m11⟩, mq, m0, mJ, m3⟩ := r_15 (n := n) (tn := tn) (v0 := v) c2 (fun i hi => by rw [hv1 2 (by omega)]; exact (c5 i hi).2) tn n 0 (setI (setI v 0 0 0) 0 6 (nI tn)) rfl (by omega) (by omega) (by simp (disch := omega) only [gIs, gIn, gIj, gIr, gJs, gJn, gJi, gJr, gPr, gPi, gPj, hu_s, hu_n, hv_s, hv_n]) (fun q g1 g2 => by rw [gIn g1, gIn g1]) (fun j g1 g2 => by rw [gIs, hu_n g2, gIs, hu_n g1]) rfl (fun j hj => absurd hj (by omega))
  have M1 : ∀ Q, w_X12_read n v Q = w_X12_readTune n vS (rQ n Q) (fun u9 => w_X12_read_80 n u9 Q) := fun Q => by
    rw [← M0 Q, nI0]
    unfold w_X12_read
    rw [mletE, show (setI v 0 0 0).1 0 4 = nI tn from by simp (disch := omega) only [gIs, gIn, gIj, gIr, gJs, gJn, gJi, gJr, gPr, gPi, gPj, hu_s, hu_n, hv_s, hv_n]; rw [hv1 0 (by omega)]; exact c4, mletE]
  have hTx : ∀ i, i < tn → σ.1 2 i = sbv (ix (σ.1 2 i &&& 255)) ∧ ix (σ.1 2 i &&& 255) < 256 := fun i hi => by
    obtain ⟨x, x1, x2⟩ := (c5 i hi).2
    rw [x2, sbv_and x1, nn_ix (by omega)]
    exact ⟨rfl, x1⟩
  have hS : rdS (fun i => ix (σ.1 2 i &&& 255)) tn (σ.2.2 0) uS vS := by
    refine ⟨⟨by rw [p2]; exact a1.1, by rw [p2]; exact a1.2.1, by rw [p1]; exact a2, by rw [p1]; exact a3⟩, ⟨by omega, by omega, p1, s1, m6, fun i hi => ?_⟩, s5, s6, s36, s62, s43, s8, by rw [s35, m0 2 (by omega) (by omega) (by omega) (by omega) (by omega) (by omega), hv1 0 (by omega)]; exact b1, by rw [m0 2 (by omega) (by omega) (by omega) (by omega) (by omega) (by omega), hv1 0 (by omega)]; exact b2⟩
    obtain ⟨x1, x2⟩ := hTx i hi
    refine ⟨?_, ?_, x2⟩
    · rw [sq _ (by omega) (by omega) (by omega) (by omega) (by omega) (by omega), (c5 i hi).1]; exact x1
    · rw [m3 i hi, hv1 2 (by omega)]; exact x1
  rcases S_read (n := n) (by omega) hS with ⟨u7, v7, hC, hM, c, w, hRg⟩ | ⟨u7, v7, hC, hM, hF⟩
  · have hC' : ∀ Q, w_X5_checkBytes n uS (fun u5 => w_X1_readHeads n u5 (fun u6 => w_X4_readBody n u6 Q)) = Q u7 := fun Q => propext (hC Q)
    have hM' : ∀ Q T', w_X12_readTune n vS Q T' = Q v7 := fun Q T' => propext (hM Q T')
    obtain ⟨⟨hKc, hKm, h6⟩, hT, hCc, hMm, hU, hSs, hI, hW, hN, hY, hH, hD, hG⟩ := hRg
    obtain ⟨m, so, mm1, mm2, mm3, mm4, mm5, -⟩ := hMm 0 (by omega)
    obtain ⟨pn, u', v', f1, f2, f3, ⟨f4, f5⟩, ⟨f6, f7, f8, f9⟩, f10, f11⟩ := S_found (n := n) (c := c) (A := m) (u := setI (setI u7 32 7 1) 32 8 (-2)) (v := setI v7 0 10 1) hn hCc.2.2.1 mm1 (by simp (disch := omega) only [gIs, gIn, gIj, gIr, gJs, gJn, gJi, gJr, gPr, gPi, gPj, hu_s, hu_n, hv_s, hv_n]; exact hCc.2.1) (hG.cg (by simp (disch := omega) only [gIs, gIn, gIj, gIr, gJs, gJn, gJi, gJr, gPr, gPi, gPj, hu_s, hu_n, hv_s, hv_n]) (by simp (disch := omega) only [gIs, gIn, gIj, gIr, gJs, gJn, gJi, gJr, gPr, gPi, gPj, hu_s, hu_n, hv_s, hv_n]) (by simp (disch := omega) only [gIs, gIn, gIj, gIr, gJs, gJn, gJi, gJr, gPr, gPi, gPj, hu_s, hu_n, hv_s, hv_n])) (by simp (disch := omega) only [gIs, gIn, gIj, gIr, gJs, gJn, gJi, gJr, gPr, gPi, gPj, hu_s, hu_n, hv_s, hv_n]; exact mm4) (by simp (disch := omega) only [gIs, gIn, gIj, gIr, gJs, gJn, gJi, gJr, gPr, gPi, gPj, hu_s, hu_n, hv_s, hv_n]; exact mm5)
    have u1 : ∀ q, q ≠ 63 → q ≠ 32 → q ≠ 35 → (setI u' 35 9 (nI pn)).1 q = u7.1 q := fun q g1 g2 g3 => by rw [gIn g3, f4 q g1, gIn g2, gIn g2]
    have u35 : ∀ k, k ≠ 9 → (setI u' 35 9 (nI pn)).1 35 k = u7.1 35 k := fun k g => by rw [gIs, hu_n g, f4 35 (by omega), gIn (by omega), gIn (by omega)]
    have uJ : (setI u' 35 9 (nI pn)).2 = u7.2 := f5
    have u32 : ∀ k, k ≠ 7 → k ≠ 8 → (setI u' 35 9 (nI pn)).1 32 k = u7.1 32 k := fun k g1 g2 => by rw [gIn (by omega), f4 32 (by omega), gIs, hu_n g2, gIs, hu_n g1]
    have w1 : ∀ q, q ≠ 0 → q < 26 → v'.1 q = v7.1 q := fun q g1 g2 => by rw [f6 q g1 g2, gIn g1]
    have w2 : ∀ q, 32 ≤ q → v'.1 q = v7.1 q := fun q g => by rw [f7 q (by omega), gIn (by omega)]
    have w0 : ∀ k, k ≠ 69 → k ≠ 10 → v'.1 0 k = v7.1 0 k := fun k g1 g2 => by rw [f8 k g1, gIs, hu_n g2]
    have wJ : v'.2 = v7.2 := f9
    have v10 : v'.1 0 10 = 1 := by rw [f8 10 (by omega)]; simp (disch := omega) only [gIs, gIn, gIj, gIr, gJs, gJn, gJi, gJr, gPr, gPi, gPj, hu_s, hu_n, hv_s, hv_n]
    refine ⟨nI c, setI u' 35 9 (nI pn), v', fun Q => ?_, fun Q => ?_, ⟨fun q hq => ?_, fun q hq => ?_, ?_⟩, fun q hq => ⟨?_, ?_⟩, ⟨⟨⟨?_, ?_, ?_, ?_⟩, ?_, ?_, ?_⟩, ⟨?_, ?_⟩, ⟨0, by omega, by omega, ?_, ?_, fun i hi => absurd hi (by omega)⟩, ?_, Or.inr ⟨?_, v10, ?_⟩⟩⟩
    · rw [C0, hC']
      unfold cE w_X10_read_77
      have e36 : (setI u' 35 9 (nI pn)).1 36 3 = nI c := by rw [u1 36 (by omega) (by omega) (by omega)]; exact hCc.1
      rw [br_ifn, if_pos h6, show xbz 1 = True from eq_true (Or.inr rfl), true_and, mletE, show (setI u7 32 7 1).1 32 7 = 1 from by simp (disch := omega) only [gIs, gIn, gIj, gIr, gJs, gJn, gJi, gJr, gPr, gPi, gPj, hu_s, hu_n, hv_s, hv_n], br_ifn, if_neg (by decide), mletE, f2, e36]
    · rw [M1, hM']
      unfold rQ
      rw [f3, show v'.1 0 27 = nI c from by rw [w0 27 (by omega) (by omega)]; exact hCc.2.1]
    · rw [w2 q hq, (hKm.1 q hq).1, mq q (by omega) (by omega)]
    · rw [wJ, (hKm.1 q hq).2, mJ]
    · rw [wJ, hKm.2.1, mJ]
    · rw [u1 q (by omega) (by omega) (by omega), (hKc.1 q hq).1, sq q (by omega) (by omega) (by omega) (by omega) (by omega) (by omega)]
    · rw [uJ, (hKc.1 q hq).2, pJ]
    · rw [uJ]; exact hKc.2.2.2.2.2.1
    · rw [uJ]; exact hKc.2.2.2.2.2.2.1
    · rw [uJ]; exact hKc.2.2.2.2.2.2.2.1
    · rw [uJ]; exact hKc.2.2.2.2.2.2.2.2
    · rw [uJ, hKc.2.2.2.1, p0]; exact a1.2.2.1
    · rw [uJ, hKc.2.2.2.1, p0]; exact a1.2.2.2
    · rw [uJ, hKc.2.2.2.1, hKc.2.2.2.2.1, p0, p1]; exact fun z => a4 z.symm
    · rw [u35 0 (by omega), hKc.2.2.1, s35, b1, w0 2 (by omega) (by omega), hKm.2.2.1, m0 2 (by omega) (by omega) (by omega) (by omega) (by omega) (by omega), hv1 0 (by omega)]
    · rw [w0 2 (by omega) (by omega), hKm.2.2.1, m0 2 (by omega) (by omega) (by omega) (by omega) (by omega) (by omega), hv1 0 (by omega)]; exact b2
    · rw [u32 6 (by omega) (by omega), hKc.2.1, s32]; rfl
    · rw [w0 4 (by omega) (by omega), hKm.2.2.2.1, m4]; rfl
    · rw [w0 11 (by omega) (by omega), hKm.2.2.2.2.2, m11, gIn (by omega), f4 32 (by omega)]; simp (disch := omega) only [gIs, gIn, gIj, gIr, gJs, gJn, gJi, gJr, gPr, gPi, gPj, hu_s, hu_n, hv_s, hv_n]
    · rw [gIn (by omega), f4 32 (by omega)]; simp (disch := omega) only [gIs, gIn, gIj, gIr, gJs, gJn, gJi, gJr, gPr, gPi, gPj, hu_s, hu_n, hv_s, hv_n]
    · refine ⟨fun i => ix (σ.1 2 i &&& 255), tn, c, pn, ⟨by omega, by rw [u1 33 (by omega) (by omega) (by omega)]; exact hT.2.2.2.1, fun i hi => ?_⟩, hCc.cg (by rw [u1 36 (by omega) (by omega) (by omega)]) (u1 46 (by omega) (by omega) (by omega)) (by rw [uJ]) (by rw [uJ]) (w0 27 (by omega) (by omega)) (w1 6 (by omega) (by omega)) (by rw [wJ]) (by rw [wJ]) (w1 9 (by omega) (by omega)) (w1 10 (by omega) (by omega)), hD.cg (w1 6 (by omega) (by omega)) (by rw [wJ]) (w1 9 (by omega) (by omega)), hH.cg (fun k _ => by rw [u1 43 (by omega) (by omega) (by omega)]) (u35 8 (by omega)) (u1 44 (by omega) (by omega) (by omega)) (u1 45 (by omega) (by omega) (by omega)) (fun k g1 g2 => w0 k (by omega) (by omega)) (w1 4 (by omega) (by omega)) (w1 5 (by omega) (by omega)), hMm.cg (fun q g1 g2 => by rw [u1 q (by omega) (by omega) (by omega)]; exact ⟨rfl, rfl⟩) (fun q g1 g2 => by rw [uJ]) (w1 19 (by omega) (by omega)) (w1 18 (by omega) (by omega)) (w1 17 (by omega) (by omega)) (by rw [wJ]) (by rw [wJ]) (by rw [wJ]), ?_, f1, by simp (disch := omega) only [gIs, gIn, gIj, gIr, gJs, gJn, gJi, gJr, gPr, gPi, gPj, hu_s, hu_n, hv_s, hv_n], f10, fun i hi => ?_⟩
      · obtain ⟨-, -, tP, -, -, t6⟩ := hT
        rw [uJ, tP, u1 _ (by omega) (by omega) (by omega), w1 3 (by omega) (by omega)]
        exact t6 i hi
      · obtain ⟨mv, k1, k2, -⟩ := hW.2.2.2.2.1
        rw [u1 43 (by omega) (by omega) (by omega), w0 29 (by omega) (by omega), k1, k2]
      · rw [gIn (by omega)]; exact f11 i hi
  · have hC' : ∀ Q, w_X5_checkBytes n uS (fun u5 => w_X1_readHeads n u5 (fun u6 => w_X4_readBody n u6 Q)) = Q u7 := fun Q => propext (hC Q)
    have hM' : ∀ Q T', w_X12_readTune n vS Q T' = T' v7 := fun Q T' => propext (hM Q T')
    obtain ⟨hKc, hKm, g6, g7, g8⟩ := hF
    refine ⟨-10 - u7.1 33 6, setI (setI u7 32 7 0) 32 8 (u7.1 33 7), setI v7 0 11 (v7.1 1 7), fun Q => ?_, fun Q => ?_, ⟨fun q hq => ?_, fun q hq => ?_, ?_⟩, fun q hq => ⟨?_, ?_⟩, ⟨⟨hKc.2.2.2.2.2, ?_, ?_, ?_⟩, ⟨?_, ?_⟩, ⟨0, by omega, by omega, ?_, ?_, fun i hi => absurd hi (by omega)⟩, ?_, Or.inl ⟨?_, ?_⟩⟩⟩
    · rw [C0, hC']
      unfold cE w_X10_read_77
      rw [br_ifn, if_neg g6, show xbz 0 = True from eq_true (Or.inl rfl), true_and, mletE, show (setI u7 32 7 0).1 32 7 = 0 from by simp (disch := omega) only [gIs, gIn, gIj, gIr, gJs, gJn, gJi, gJr, gPr, gPi, gPj, hu_s, hu_n, hv_s, hv_n], br_ifn, if_pos rfl, mletE, show (setI u7 32 7 0).1 33 7 = u7.1 33 7 from by simp (disch := omega) only [gIs, gIn, gIj, gIr, gJs, gJn, gJi, gJr, gPr, gPi, gPj, hu_s, hu_n, hv_s, hv_n], show (setI (setI u7 32 7 0) 32 8 (u7.1 33 7)).1 33 6 = u7.1 33 6 from by simp (disch := omega) only [gIs, gIn, gIj, gIr, gJs, gJn, gJi, gJr, gPr, gPi, gPj, hu_s, hu_n, hv_s, hv_n]]
    · rw [M1, hM']
      unfold w_X12_read_80
      rw [mletE, show (setI v7 0 11 (v7.1 1 7)).1 1 6 = v7.1 1 6 from by simp (disch := omega) only [gIs, gIn, gIj, gIr, gJs, gJn, gJi, gJr, gPr, gPi, gPj, hu_s, hu_n, hv_s, hv_n], g7]
    · rw [gIn (by omega), (hKm.1 q hq).1, mq q (by omega) (by omega)]
    · show v7.2.1 q = _; rw [(hKm.1 q hq).2, mJ]
    · show v7.2.2 = _; rw [hKm.2.1, mJ]
    · rw [gIn (by omega), gIn (by omega), (hKc.1 q hq).1, sq q (by omega) (by omega) (by omega) (by omega) (by omega) (by omega)]
    · show u7.2.1 q = _; rw [(hKc.1 q hq).2, pJ]
    · show 41 ≤ u7.2.2 0; rw [hKc.2.2.2.1, p0]; exact a1.2.2.1
    · show u7.2.2 0 ≤ 42; rw [hKc.2.2.2.1, p0]; exact a1.2.2.2
    · show u7.2.2 0 ≠ u7.2.2 1; rw [hKc.2.2.2.1, hKc.2.2.2.2.1, p0, p1]; exact fun z => a4 z.symm
    · rw [gIn (by omega), gIn (by omega), hKc.2.2.1, gIs, hu_n (by omega), hKm.2.2.1]
      show uS.1 35 0 = vS.1 0 2
      rw [s35, b1, m0 2 (by omega) (by omega) (by omega) (by omega) (by omega) (by omega), hv1 0 (by omega)]
    · rw [gIs, hu_n (by omega), hKm.2.2.1]
      show vS.1 0 2 = 0 ∨ vS.1 0 2 = 1
      rw [m0 2 (by omega) (by omega) (by omega) (by omega) (by omega) (by omega), hv1 0 (by omega)]; exact b2
    · rw [gIs, hu_n (by omega), gIs, hu_n (by omega), hKc.2.1]; exact s32
    · rw [gIs, hu_n (by omega), hKm.2.2.2.1]; exact m4
    · simp (disch := omega) only [gIs, gIn, gIj, gIr, gJs, gJn, gJi, gJr, gPr, gPi, gPj, hu_s, hu_n, hv_s, hv_n]; exact g8
    · simp (disch := omega) only [gIs, gIn, gIj, gIr, gJs, gJn, gJi, gJr, gPr, gPi, gPj, hu_s, hu_n, hv_s, hv_n]
    · rw [gIs, hu_n (by omega), hKm.2.2.2.2.1]; exact m10
theorem uniq2 {α : Type} {C : (α → Mm → Prop) → Prop} {r r' : α} {σ σ' : Mm} (h : ∀ Q, C Q = Q r σ) (h' : ∀ Q, C Q = Q r' σ') : r = r' ∧ σ = σ' := by
  have h1 := h (fun a b => a = r' ∧ b = σ')
  have h2 := h' (fun a b => a = r' ∧ b = σ')
  have : C (fun a b => a = r' ∧ b = σ') := by rw [h2]; exact ⟨rfl, rfl⟩
  rw [h1] at this
  exact this
theorem q_read {n t : Nat} {σ : Mm} (hn : 400000 ≤ n) (ht : t < 64) (h : RRr t σ σ) : w_X10_read n σ (fun r1 σ1 => w_X12_read n σ1 (fun r2 σ2 => r1 = r2 ∧ RRr (t + 1) σ2 σ2)) := by
  obtain ⟨r, σ1, -, C, -, -, F, -⟩ := RD (v := σ) hn ht h (fun _ _ => rfl) (fun _ _ => rfl)
  obtain ⟨r', σ1', v2, C', M, ⟨k1, k2, k3⟩, -, hR⟩ := RD (v := σ1) hn ht h (fun q hq => (F q hq).1) (fun q hq => (F q hq).2)
  obtain ⟨rfl, rfl⟩ := uniq2 C C'
  rw [C, M]
  exact ⟨rfl, hR.cg (fun q g1 _ _ => k1 q g1) (fun q g => k2 q g) k3 (fun _ _ _ => rfl) (fun _ _ _ => rfl) (fun _ _ => rfl)⟩
