/-! the body -/
def Rg (z : Mm × Mm) (T : Nat → Nat) (sz B c w : Nat) (u v : Mm) : Prop := eK z u v ∧ eT T sz B u v ∧ eC c u v ∧ eM u v ∧ eU u v ∧ eS u v ∧ eI c u v ∧ eW w u v ∧ eN u v ∧ eB c u v ∧ eH sz u v ∧ eD c v ∧ eG c u v
theorem Rm.g {z : Mm × Mm} {T : Nat → Nat} {sz B e s p c w : Nat} {u v : Mm} (hR : Rm z T sz B e s p c c w u v) : Rg z T sz B c w u v := by
  obtain ⟨⟨hKc, hKm, h33_6⟩, hT, hL, hC, hM, hU, hS, hI, hW, hN, hY, hH, hD, hG, h0⟩ := hR
  exact ⟨⟨hKc, hKm, h33_6⟩, hT, hC, hM, hU, hS, hI, hW, hN, hY, hH, hD, hG⟩
theorem Rg.m {z : Mm × Mm} {T : Nat → Nat} {sz B e s p c w : Nat} {u v : Mm} (hR : Rg z T sz B c w u v) (hL : eL T sz e s p u v) : Rm z T sz B e s p c c w u v := by
  obtain ⟨hK, hT, hC, hM, hU, hS, hI, hW, hN, hY, hH, hD, hG⟩ := hR
  exact ⟨hK, hT, hL, hC, hM, hU, hS, hI, hW, hN, hY, hH, hD, hG, Nat.le_refl _⟩
/-- lines change nothing else -/
theorem Rg.cg {z : Mm × Mm} {T : Nat → Nat} {sz B c w : Nat} {u v u' v' : Mm} (hR : Rg z T sz B c w u v) (k1 : jKc z.1 u') (k2 : jKm z.2 v') (h1 : ∀ q, q ≠ 33 → u'.1 q = u.1 q) (h2 : ∀ k, k < 2 ∨ 5 < k → u'.1 33 k = u.1 33 k) (h3 : u'.2 = u.2) (j1 : ∀ q, q ≠ 0 → v'.1 q = v.1 q) (j2 : ∀ k, k ≠ 7 → k ≠ 8 → k ≠ 9 → k ≠ 49 → v'.1 0 k = v.1 0 k) (j3 : v'.2 = v.2) : Rg z T sz B c w u' v' := by
  obtain ⟨⟨hKc, hKm, h6⟩, hT, hC, hM, hU, hS, hI, hW, hN, hY, hH, hD, hG⟩ := hR
  refine ⟨⟨k1, k2, by rw [h2 6 (by omega)]; exact h6⟩, hT.cg (by rw [h3]) (h2 1 (by omega)) (h1 41 (by omega)) (h1 42 (by omega)) (j2 6 (by omega) (by omega) (by omega) (by omega)) (j1 3 (by omega)), hC.cg (by rw [h1 36 (by omega)]) (h1 46 (by omega)) (by rw [h3]) (by rw [h3]) (j2 27 (by omega) (by omega) (by omega) (by omega)) (j1 6 (by omega)) (by rw [j3]) (by rw [j3]) (j1 9 (by omega)) (j1 10 (by omega)), hM.cg (fun q g1 g2 => by rw [h1 q (by omega)]; exact ⟨rfl, rfl⟩) (fun q g1 g2 => by rw [h3]) (j1 19 (by omega)) (j1 18 (by omega)) (j1 17 (by omega)) (by rw [j3]) (by rw [j3]) (by rw [j3]), hU.cg (fun q k g1 g2 g3 g4 => by rw [h1 q (by omega)]) (j1 12 (by omega)) (j1 13 (by omega)) (j1 14 (by omega)) (j1 15 (by omega)), hS.cg (fun q g1 g2 => by rw [h1 q (by omega)]) (fun q g1 g2 => h1 q (by omega)) (j2 2 (by omega) (by omega) (by omega) (by omega)) (j1 22 (by omega)), hI.cg (fun q k g1 g2 g3 g4 => by rw [h1 q (by omega)]) (j1 23 (by omega)) (j1 6 (by omega)), hW.cg (by rw [h1 38 (by omega)]) (by rw [h3]) (by rw [h1 43 (by omega)]) (by rw [h1 35 (by omega)]) (j2 28 (by omega) (by omega) (by omega) (by omega)) (j2 29 (by omega) (by omega) (by omega) (by omega)) (j2 2 (by omega) (by omega) (by omega) (by omega)), hN.cg (h1 39 (by omega)) (by rw [h1 38 (by omega)]) (fun k hk => j2 k (by omega) (by omega) (by omega) (by omega)), hY.cg (by rw [h1 38 (by omega)]) (j2 63 (by omega) (by omega) (by omega) (by omega)) (j1 6 (by omega)), hH.cg (fun k _ => by rw [h1 43 (by omega)]) (by rw [h1 35 (by omega)]) (h1 44 (by omega)) (h1 45 (by omega)) (fun k g1 g2 => j2 k (by omega) (by omega) (by omega) (by omega)) (j1 4 (by omega)) (j1 5 (by omega)), hD.cg (j1 6 (by omega)) (by rw [j3]) (j1 9 (by omega)), hG.cg (h1 62 (by omega)) (j1 6 (by omega)) (j1 11 (by omega))⟩
/-- the body's first memories are related -/
theorem Rg_begin {z : Mm × Mm} {n : Nat} {T : Nat → Nat} {sz B : Nat} {u v : Mm} (hn : 5000 ≤ n) (h : hdP z T sz B u v) : ∃ uI vI e, (∀ Q, w_X4_readBody n u Q = w_X4_readBody_62 n Q n 0 0 uI) ∧ (∀ Q T', w_X12_readTune_25 n Q T' n 0 (setI (setI v 0 28 0) 0 29 1) = w_X12_readMusic n vI Q T') ∧ Rg z T sz B 0 0 uI vI ∧ cln T sz ∧ e ≤ sz ∧ (e < sz → T e = 10) ∧ uI.1 33 5 = nI (e + 1) ∧ vI.1 0 7 = nI (if e < sz then e + 1 else sz) := by
  obtain ⟨hX, hH, ⟨e, he, he10, h5, h7⟩, ⟨A, Bb, ok1, c2, c3⟩, ⟨Un, ok2, c4⟩, c6⟩ := h
  obtain ⟨hKc, hKm, x6, hT, x36, x27, x62, x43, x35, xr, hcl⟩ := hX
  obtain ⟨uI, C1, C2, C3, C4, C5, C6, C7, C8, C9, C10⟩ := c_body0 (n := n) (u := u) hn x43
  obtain ⟨vI, M1, M2, M3, M4, M5, M6⟩ := r_tune0 (n := n) (v := setI (setI v 0 28 0) 0 29 1) hn
  have v0 : ∀ k, k < 28 → vI.1 0 k = v.1 0 k := fun k hk => by rw [M5 k (by omega)]; simp (disch := omega) only [gIs, gIn, gIj, gIr, gJs, gJn, gJi, gJr, gPr, gPi, gPj, hu_s, hu_n, hv_s, hv_n]
  have v29 : vI.1 0 29 = 1 := by rw [M5 29 (by omega)]; simp (disch := omega) only [gIs, gIn, gIj, gIr, gJs, gJn, gJi, gJr, gPr, gPi, gPj, hu_s, hu_n, hv_s, hv_n]
  have vq : ∀ q, (q ≠ 0 ∧ q ≠ 12 ∧ q ≠ 13 ∧ q ≠ 14 ∧ q ≠ 15 ∧ q ≠ 17 ∧ q ≠ 18 ∧ q ≠ 19 ∧ q ≠ 22 ∧ q ≠ 23) → vI.1 q = v.1 q := fun q hq => by rw [M4 q hq]; simp (disch := omega) only [gIs, gIn, gIj, gIr, gJs, gJn, gJi, gJr, gPr, gPi, gPj, hu_s, hu_n, hv_s, hv_n]
  have hv : ∀ k, k ≠ 28 → k ≠ 29 → (setI (setI v 0 28 0) 0 29 1).1 0 k = v.1 0 k := fun k h1 h2 => by simp (disch := omega) only [gIs, gIn, gIj, gIr, gJs, gJn, gJi, gJr, gPr, gPi, gPj, hu_s, hu_n, hv_s, hv_n]
  have hH' := hH
  obtain ⟨e0, etl, e2, e3, e4, e5, e6⟩ := hH'
  refine ⟨uI, vI, e, C1, M1, ⟨⟨C2 _ hKc, M2 _ (by exact (by repeat (first | exact hKm | refine jKm.set ?_ (by omega) (by omega) | refine jKm.setJ ?_ (by omega)))), by rw [C4 33 (by omega) (by omega) (by omega) (by omega)]; exact x6⟩, hT.cg C10 (by rw [C4 33 (by omega) (by omega) (by omega) (by omega)]) (C4 41 (by omega) (by omega) (by omega) (by omega)) (C4 42 (by omega) (by omega) (by omega) (by omega)) (v0 6 (by omega)) (vq 3 (by omega)), ⟨by rw [C4 36 (by omega) (by omega) (by omega) (by omega)]; exact x36, by rw [v0 27 (by omega)]; exact x27, by omega, fun i hi => absurd hi (by omega)⟩, fun w hw => ?_, fun w hw => ?_, fun w hw => ?_, fun w hw => ?_, ?_, ?_, ?_, ?_, fun i hi => absurd hi (by omega), ⟨fun k hk => ?_, fun t ht => absurd ht (by omega)⟩⟩, hcl, he, he10, by rw [C4 33 (by omega) (by omega) (by omega) (by omega)]; exact h5, by rw [v0 7 (by omega)]; exact h7⟩
  · obtain ⟨a3, a4, a5, a7, a8, a9, a10, a11, aJ, am⟩ := C3 w hw
    obtain ⟨b12, b13, b14, b15, bJ, b17, b18, b19, b23, b22⟩ := M3 w hw
    exact ⟨0, 0, by omega, by omega, by omega, a4, b19, a5, b18, b17, by rw [aJ, bJ], fun j hj => absurd hj (by omega)⟩
  · obtain ⟨a3, a4, a5, a7, a8, a9, a10, a11, aJ, am⟩ := C3 w hw
    obtain ⟨b12, b13, b14, b15, bJ, b17, b18, b19, b23, b22⟩ := M3 w hw
    rw [hv 20 (by omega) (by omega)] at b12
    rw [hv 16 (by omega) (by omega)] at b13
    rw [hv 17 (by omega) (by omega)] at b14
    rw [hv 18 (by omega) (by omega)] at b15
    rw [a7, a8, a9, a10, b12, b13, b14, b15, ← e2, ← e3, ← e4, ← e6]
    exact ⟨⟨rfl, c6⟩, ⟨A, Bb, c2, c2, c3, c3, ok1⟩, ⟨Un, c4, c4, ok2⟩⟩
  · obtain ⟨a3, a4, a5, a7, a8, a9, a10, a11, aJ, am⟩ := C3 w hw
    obtain ⟨b12, b13, b14, b15, bJ, b17, b18, b19, b23, b22⟩ := M3 w hw
    refine ⟨fun _ l hl => Or.inl ⟨am l (by omega), b22 (64 * l) (by omega)⟩, fun _ l o hl ho => Or.inl ⟨am (7 * o + l) (by omega), ?_⟩, fun _ j hj => am j hj, fun k hk => Or.inl (b22 k hk)⟩
    have := b22 (64 * l + o + 18) (by omega)
    rw [show 448 * w + 64 * l + o + 18 = 448 * w + (64 * l + o + 18) from by omega]
    exact this
  · obtain ⟨a3, a4, a5, a7, a8, a9, a10, a11, aJ, am⟩ := C3 w hw
    obtain ⟨b12, b13, b14, b15, bJ, b17, b18, b19, b23, b22⟩ := M3 w hw
    exact Or.inr ⟨a11, Or.inl b23⟩
  · exact ⟨by omega, C7.1, M6.1, C9, ⟨1, C6, v29, by omega, by omega⟩, by rw [C4 35 (by omega) (by omega) (by omega) (by omega), v0 2 (by omega)]; exact x35, by rw [v0 2 (by omega)]; exact xr⟩
  · exact ⟨by rw [C8.1, M6.2.1], by rw [C8.2.1, M6.2.2.1], by rw [C8.2.2.1, M6.2.2.2.1], ⟨0, by omega, C7.2.1, M6.2.2.2.2.1⟩, ⟨0, 0, 0, by omega, C8.2.2.2.1, M6.2.2.2.2.2.1, fun h => absurd h (by omega)⟩, ⟨1, 1, by omega, by omega, Or.inl rfl, C8.2.2.2.2.1, M6.2.2.2.2.2.2.2.2.1, C8.2.2.2.2.2, M6.2.2.2.2.2.2.2.2.2⟩⟩
  · exact ⟨by rw [C7.2.2, M6.2.2.2.2.2.2.2.1], Or.inl M6.2.2.2.2.2.2.2.1⟩
  · exact hH.cg (fun k hk => C5 k (by omega)) (by rw [C4 35 (by omega) (by omega) (by omega) (by omega)]) (C4 44 (by omega) (by omega) (by omega) (by omega)) (C4 45 (by omega) (by omega) (by omega) (by omega)) (fun k g1 g2 => v0 k (by omega)) (vq 4 (by omega)) (vq 5 (by omega))
  · rw [C4 62 (by omega) (by omega) (by omega) (by omega), x62 k hk]
    rfl
/-- a reference's line loop does not look at what follows -/
theorem m102 {n : Nat} {L2 : Int32 → Mm → Prop} {Q Q' T' : Mm → Prop} {x1 : Int32} : ∀ (k : Nat) (v : Mm), w_X12_readMusic_102 n L2 Q T' k x1 v = w_X12_readMusic_102 n (fun _ v => L2 x1 v) Q' T' k x1 v := by
  intro k
  induction k with
  | zero => intro v; rfl
  | succ k ih =>
    intro v
    rw [w_X12_readMusic_102, w_X12_readMusic_102]
    have : w_X12_readMusic_102 n L2 Q T' k x1 = w_X12_readMusic_102 n (fun _ v => L2 x1 v) Q' T' k x1 := funext ih
    rw [this]
theorem b161_f {n : Nat} {u : Mm} {Q : Mm → Prop} (hf : u.1 33 6 ≠ 0) : w_X4_readBody_161 n u Q = Q u := by
  unfold w_X4_readBody_161 w_X4_readBody_178 w_X4_readBody_194
  simp only [↓c_fail, cfl_n hf, br_if, ite_self]
theorem b62_f {n k : Nat} {x1 x2 : Int32} {u : Mm} {Q : Mm → Prop} (hf : u.1 33 6 ≠ 0) : w_X4_readBody_62 n Q (k + 1) x1 x2 u = Q u := by
  rw [w_X4_readBody_62]
  by_cases h1 : (2000 : Int32) < x2
  · rw [br_if, if_pos h1, b161_f hf]
  · rw [br_if, if_neg h1, br_ifn, if_neg hf, b161_f hf]
