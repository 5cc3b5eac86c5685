/-! a timed is finished -/
theorem Rm.put {z : Mm × Mm} {T : Nat → Nat} {sz B e s p c c0 w i k : Nat} {x : Int32} {u v : Mm} (hR : Rm z T sz B e s p c c0 w u v) (hi : c0 ≤ i) (hic : i < c) (hk : k < 17) (hk6 : k ≠ 6) : Rm z T sz B e s p c c0 w (setI u 46 (19 * i + k) x) (setI v 6 (17 * i + k) x) := by
  have hC := hR.2.2.2.1
  refine hR.chg (fun q hq => gIn hq) (fun y hy => by rw [gIs, hu_n (by omega)]) (fun q hq => rfl) (fun y hy => rfl) rfl (fun q h1 h2 => gIn h1) (fun y hy => by rw [gIs, hu_n (by omega)]) (fun y hy => by rw [gIn (by omega)]) (fun q hq => rfl) (fun y hy => rfl) rfl (fun y h1 h2 => ?_)
  obtain ⟨d1, d2, d3, d4, d5⟩ := hC.2.2.2 y h2
  refine ⟨fun j hj => ?_, d2, d3, ?_, ?_⟩
  · rw [gIs, gIs, hu_if, hu_if]
    by_cases hh : y = i ∧ j = k
    · rw [if_pos (by omega), if_pos (by omega)]
    · rw [if_neg (by omega), if_neg (by omega)]; exact d1 j hj
  · rw [gIs, hu_n (by omega), gIn (by omega)]; exact d4
  · rw [gIs, hu_n (by omega), gIs, hu_n (show 17 * y + 6 ≠ 17 * i + k by omega), gIn (by omega)]; exact d5
/-- the notes of a timed that is finished now -/
def grp (c0 cnt : Nat) (srt : Int32) (v : Mm) : Prop := ∀ i, c0 ≤ i → i < c0 + cnt → v.1 6 (17 * i) = srt ∧ (∃ k : Nat, v.1 9 i = nI k ∧ okUn k) ∧ (srt = 0 → nfac i v)
theorem eG.growN {c0 : Nat} {u v : Mm} (h : eG c0 u v) : ∀ (k : Nat), (∀ i, c0 ≤ i → i < c0 + k → v.1 6 (17 * i) ≠ 4) → eG (c0 + k) u v := by
  intro k
  induction k with
  | zero => intro _; exact h
  | succ k ih => intro hs; exact (ih (fun i h1 h2 => hs i h1 (by omega))).grow (hs (c0 + k) (by omega) (by omega))
def uFi (c0 cnt w ti tl : Nat) (u : Mm) : Mm := setI (setI (setI (setI (setI (setI (setI (setI (setI (setI (setI (setI u 39 0 0) 39 1 0) 39 2 0) 39 6 1) 39 7 1) 39 3 (nI (tl - 1))) (50 + w) 11 (nI ti)) (50 + w) 12 (nI c0)) (50 + w) 13 (nI cnt)) 38 12 (nI c0)) 38 13 (nI cnt)) 38 14 1
def vFi (c0 w tl : Nat) (v : Mm) : Mm := setI (setI (setI (setI (setI (setI (setI (setI (setI v 0 42 0) 0 43 0) 0 44 0) 23 w (nI c0)) 0 49 (nI c0)) 0 46 (nI (tl - 1))) 0 59 1) 0 60 1) 0 63 (nI c0)
theorem uFi_o {c0 cnt w ti tl q : Nat} {u : Mm} (h1 : q ≠ 38) (h2 : q ≠ 39) (h3 : q ≠ 50 + w) : (uFi c0 cnt w ti tl u).1 q = u.1 q := by
  unfold uFi; rw [gIn h1, gIn h1, gIn h1, gIn h3, gIn h3, gIn h3, gIn h2, gIn h2, gIn h2, gIn h2, gIn h2, gIn h2]
theorem uFi_50 {c0 cnt w ti tl k : Nat} {u : Mm} (h1 : k ≠ 11) (h2 : k ≠ 12) (h3 : k ≠ 13) : (uFi c0 cnt w ti tl u).1 (50 + w) k = u.1 (50 + w) k := by
  unfold uFi; rw [gIn (by omega), gIn (by omega), gIn (by omega), gIs, hu_n h3, gIs, hu_n h2, gIs, hu_n h1, gIn (by omega), gIn (by omega), gIn (by omega), gIn (by omega), gIn (by omega), gIn (by omega)]
theorem uFi_v {c0 cnt w ti tl q k : Nat} {u : Mm} (hq : 50 ≤ q) (h1 : k ≠ 11) (h2 : k ≠ 12) (h3 : k ≠ 13) : (uFi c0 cnt w ti tl u).1 q k = u.1 q k := by
  by_cases h : q = 50 + w
  · rw [h]; exact uFi_50 h1 h2 h3
  · rw [uFi_o (by omega) (by omega) h]
theorem uFi_38 {c0 cnt w ti tl k : Nat} {u : Mm} (h1 : k ≠ 12) (h2 : k ≠ 13) (h3 : k ≠ 14) : (uFi c0 cnt w ti tl u).1 38 k = u.1 38 k := by
  unfold uFi; rw [gIs, hu_n h3, gIs, hu_n h2, gIs, hu_n h1, gIn (by omega), gIn (by omega), gIn (by omega), gIn (by omega), gIn (by omega), gIn (by omega), gIn (by omega), gIn (by omega), gIn (by omega)]
theorem vFi_o {c0 w tl q : Nat} {v : Mm} (h1 : q ≠ 0) (h2 : q ≠ 23) : (vFi c0 w tl v).1 q = v.1 q := by
  unfold vFi; rw [gIn h1, gIn h1, gIn h1, gIn h1, gIn h1, gIn h2, gIn h1, gIn h1, gIn h1]
theorem vFi_0 {c0 w tl k : Nat} {v : Mm} (h : k < 42 ∨ k = 45 ∨ k = 47 ∨ k = 48 ∨ (50 ≤ k ∧ k < 59) ∨ k = 61 ∨ k = 62) : (vFi c0 w tl v).1 0 k = v.1 0 k := by
  unfold vFi; rw [gIs, hu_n (by omega), gIs, hu_n (by omega), gIs, hu_n (by omega), gIs, hu_n (by omega), gIs, hu_n (by omega), gIn (by omega), gIs, hu_n (by omega), gIs, hu_n (by omega), gIs, hu_n (by omega)]
theorem Rm.fin {z : Mm × Mm} {T : Nat → Nat} {sz B e s p c0 cnt w ti tl tq tp a b : Nat} {srt : Int32} {u v : Mm} (hR : Rm z T sz B e s p (c0 + cnt) c0 w u v) (hcn : 1 ≤ cnt) (hti : ti ≤ 1) (hp : pnd tl tq tp a b u v) (hs : srt = 0 ∨ srt = 1 ∨ srt = 2) (hst : ti = 1 → srt = 0) (hg : grp c0 cnt srt v) (hI : tmI c0 cnt ti (if srt = 0 then cnt else 0) v) : Rm z T sz B e s p (c0 + cnt) (c0 + cnt) w (uFi c0 cnt w ti tl u) (vFi c0 w tl v) := by
  obtain ⟨p1, p2, p3, p4, p5⟩ := hp
  have hI0 := hR.2.2.2.2.2.2.2.1
  have hTm := hI
  clear hI
  obtain ⟨⟨hKc, hKm, h33_6⟩, hT, hL, hC, hM, hU, hS, hI, hW, hN, hY, hH, hD, hG, h0⟩ := hR
  have hw := hW.1
  have ne4 : srt ≠ 4 := by rcases hs with rfl | rfl | rfl <;> decide
  have v6 : (vFi c0 w tl v).1 6 = v.1 6 := vFi_o (by omega) (by omega)
  have hN' : eN (uFi c0 cnt w ti tl u) (vFi c0 w tl v) := by
    obtain ⟨n1, n2, n3, ⟨so, s1, s2, s3⟩, -, -⟩ := hN
    unfold uFi vFi
    refine ⟨by simp (disch := omega) only [gIs, gIn, gIj, gIr, gJs, gJn, gJi, gJr, gPr, gPi, gPj, hu_s, hu_n, hv_s, hv_n], by simp (disch := omega) only [gIs, gIn, gIj, gIr, gJs, gJn, gJi, gJr, gPr, gPi, gPj, hu_s, hu_n, hv_s, hv_n], by simp (disch := omega) only [gIs, gIn, gIj, gIr, gJs, gJn, gJi, gJr, gPr, gPi, gPj, hu_s, hu_n, hv_s, hv_n], ⟨so, s1, by simp (disch := omega) only [gIs, gIn, gIj, gIr, gJs, gJn, gJi, gJr, gPr, gPi, gPj, hu_s, hu_n, hv_s, hv_n]; exact s2, by simp (disch := omega) only [gIs, gIn, gIj, gIr, gJs, gJn, gJi, gJr, gPr, gPi, gPj, hu_s, hu_n, hv_s, hv_n]; exact s3⟩, ⟨tl - 1, tq, tp, by omega, by simp (disch := omega) only [gIs, gIn, gIj, gIr, gJs, gJn, gJi, gJr, gPr, gPi, gPj, hu_s, hu_n, hv_s, hv_n], by simp (disch := omega) only [gIs, gIn, gIj, gIr, gJs, gJn, gJi, gJr, gPr, gPi, gPj, hu_s, hu_n, hv_s, hv_n], fun h => ?_⟩, ⟨1, 1, by omega, by omega, by omega, by simp (disch := omega) only [gIs, gIn, gIj, gIr, gJs, gJn, gJi, gJr, gPr, gPi, gPj, hu_s, hu_n, hv_s, hv_n]; rfl, by simp (disch := omega) only [gIs, gIn, gIj, gIr, gJs, gJn, gJi, gJr, gPr, gPi, gPj, hu_s, hu_n, hv_s, hv_n]; rfl, by simp (disch := omega) only [gIs, gIn, gIj, gIr, gJs, gJn, gJi, gJr, gPr, gPi, gPj, hu_s, hu_n, hv_s, hv_n]; rfl, by simp (disch := omega) only [gIs, gIn, gIj, gIr, gJs, gJn, gJi, gJr, gPr, gPi, gPj, hu_s, hu_n, hv_s, hv_n]; rfl⟩⟩
    obtain ⟨q1, q2, q3, q4, q5, q6, q7, q8⟩ := p4 (by omega)
    exact ⟨q1, q2, q3, q4, by simp (disch := omega) only [gIs, gIn, gIj, gIr, gJs, gJn, gJi, gJr, gPr, gPi, gPj, hu_s, hu_n, hv_s, hv_n]; exact q5, by simp (disch := omega) only [gIs, gIn, gIj, gIr, gJs, gJn, gJi, gJr, gPr, gPi, gPj, hu_s, hu_n, hv_s, hv_n]; exact q6, by simp (disch := omega) only [gIs, gIn, gIj, gIr, gJs, gJn, gJi, gJr, gPr, gPi, gPj, hu_s, hu_n, hv_s, hv_n]; exact q7, by simp (disch := omega) only [gIs, gIn, gIj, gIr, gJs, gJn, gJi, gJr, gPr, gPi, gPj, hu_s, hu_n, hv_s, hv_n]; exact q8⟩
  have hI' : eI (c0 + cnt) (uFi c0 cnt w ti tl u) (vFi c0 w tl v) := by
    intro w' hw'
    rw [v6]
    by_cases hww : w' = w
    · subst hww
      have x1 : (uFi c0 cnt w' ti tl u).1 (50 + w') 11 = nI ti := by unfold uFi; simp (disch := omega) only [gIs, gIn, gIj, gIr, gJs, gJn, gJi, gJr, gPr, gPi, gPj, hu_s, hu_n, hv_s, hv_n]
      have x2 : (uFi c0 cnt w' ti tl u).1 (50 + w') 12 = nI c0 := by unfold uFi; simp (disch := omega) only [gIs, gIn, gIj, gIr, gJs, gJn, gJi, gJr, gPr, gPi, gPj, hu_s, hu_n, hv_s, hv_n]
      have x3 : (uFi c0 cnt w' ti tl u).1 (50 + w') 13 = nI cnt := by unfold uFi; simp (disch := omega) only [gIs, gIn, gIj, gIr, gJs, gJn, gJi, gJr, gPr, gPi, gPj, hu_s, hu_n, hv_s, hv_n]
      have x4 : (vFi c0 w' tl v).1 23 w' = nI c0 := by unfold vFi; simp (disch := omega) only [gIs, gIn, gIj, gIr, gJs, gJn, gJi, gJr, gPr, gPi, gPj, hu_s, hu_n, hv_s, hv_n]
      rw [x1, x2, x3, x4]
      have ht := hTm 0 (by omega)
      rw [Nat.add_zero] at ht
      by_cases h1 : ti = 1
      · subst h1
        have hz := hst rfl
        subst hz
        exact Or.inl ⟨rfl, c0, cnt, rfl, rfl, rfl, Nat.le_refl _, hcn, fun i h1 h2 => (hg i h1 h2).1, ht.2.1, by rw [ht.2.2.1, if_pos rfl]⟩
      · obtain rfl : ti = 0 := by omega
        exact Or.inr ⟨rfl, Or.inr ⟨c0, by omega, rfl, Or.inr (by rw [ht.2.1]; decide)⟩⟩
    · have x1 : ∀ k, (uFi c0 cnt w ti tl u).1 (50 + w') k = u.1 (50 + w') k := fun k => by rw [uFi_o (by omega) (by omega) (by omega)]
      have x4 : (vFi c0 w tl v).1 23 w' = v.1 23 w' := by unfold vFi; simp (disch := omega) only [gIs, gIn, gIj, gIr, gJs, gJn, gJi, gJr, gPr, gPi, gPj, hu_s, hu_n, hv_s, hv_n]
      rw [x1, x1, x1, x4]
      have hI0 : eI c0 u v := hI0
      rcases hI0 w' hw' with ⟨a0, f, k, a1, a2, a3, a4, a5, a6, a7, a8⟩ | ⟨a0, h⟩
      · exact Or.inl ⟨a0, f, k, a1, a2, a3, by omega, a5, a6, a7, a8⟩
      · refine Or.inr ⟨a0, ?_⟩
        rcases h with h | ⟨f, b1, b2, b3⟩
        · exact Or.inl h
        · exact Or.inr ⟨f, by omega, b2, b3⟩
  have hY' : eB (c0 + cnt) (uFi c0 cnt w ti tl u) (vFi c0 w tl v) := by
    unfold eB
    rw [v6, show (uFi c0 cnt w ti tl u).1 38 12 = nI c0 from by unfold uFi; simp (disch := omega) only [gIs, gIn, gIj, gIr, gJs, gJn, gJi, gJr, gPr, gPi, gPj, hu_s, hu_n, hv_s, hv_n], show (vFi c0 w tl v).1 0 63 = nI c0 from by unfold vFi; simp (disch := omega) only [gIs, gIn, gIj, gIr, gJs, gJn, gJi, gJr, gPr, gPi, gPj, hu_s, hu_n, hv_s, hv_n]]
    exact ⟨rfl, Or.inr ⟨c0, by omega, rfl, by rw [(hg c0 (by omega) (by omega)).1]; exact ne4⟩⟩
  have hD' : eD (c0 + cnt) (vFi c0 w tl v) := by
    intro i hi
    rw [v6, show (vFi c0 w tl v).1 9 = v.1 9 from vFi_o (by omega) (by omega), show (vFi c0 w tl v).2.1 = v.2.1 from rfl]
    rcases Nat.lt_or_ge i c0 with h1 | h1
    · exact hD i h1
    · obtain ⟨g1, g2, g3⟩ := hg i h1 hi
      refine ⟨g2, fun h0 => ?_⟩
      obtain ⟨-, f2, f3, f4⟩ := g3 (g1.symm.trans h0)
      have ht := (hTm (i - c0) (by omega)).1
      rw [show c0 + (i - c0) = i from by omega] at ht
      exact ⟨ht, f2, f3, f4⟩
  have hG' : eG (c0 + cnt) (uFi c0 cnt w ti tl u) (vFi c0 w tl v) := by
    have h1 := hG.growN cnt (fun i h1 h2 => by rw [(hg i h1 h2).1]; exact ne4)
    exact h1.cg (uFi_o (by omega) (by omega) (by omega)) v6 (vFi_o (by omega) (by omega))
  have vo : ∀ q, q ≠ 0 → q ≠ 23 → (vFi c0 w tl v).1 q = v.1 q := fun q h1 h2 => vFi_o h1 h2
  refine ⟨⟨by unfold uFi; exact (by repeat (first | exact hKc | refine jKc.set ?_ (by omega) (by omega) | refine jKc.setJ ?_ (by omega))), by unfold vFi; exact (by repeat (first | exact hKm | refine jKm.set ?_ (by omega) (by omega) | refine jKm.setJ ?_ (by omega))), by rw [uFi_o (by omega) (by omega) (by omega)]; exact h33_6⟩, hT.cg rfl (by rw [uFi_o (by omega) (by omega) (by omega)]) (uFi_o (by omega) (by omega) (by omega)) (uFi_o (by omega) (by omega) (by omega)) (vFi_0 (by omega)) (vo 3 (by omega) (by omega)), hL.cg (fun k _ => by rw [uFi_o (by omega) (by omega) (by omega)]) (fun k hk => vFi_0 (by omega)), hC.cg (by rw [uFi_o (by omega) (by omega) (by omega)]) (uFi_o (by omega) (by omega) (by omega)) rfl rfl (vFi_0 (by omega)) v6 rfl rfl (vo 9 (by omega) (by omega)) (vo 10 (by omega) (by omega)), hM.cg (fun q h1 h2 => ⟨uFi_v h1 (by omega) (by omega) (by omega), uFi_v h1 (by omega) (by omega) (by omega)⟩) (fun q h1 h2 => rfl) (vo 19 (by omega) (by omega)) (vo 18 (by omega) (by omega)) (vo 17 (by omega) (by omega)) rfl rfl rfl, hU.cg (fun q k h1 h2 h3 h4 => uFi_v h1 (by omega) (by omega) (by omega)) (vo 12 (by omega) (by omega)) (vo 13 (by omega) (by omega)) (vo 14 (by omega) (by omega)) (vo 15 (by omega) (by omega)), hS.cg (fun q h1 h2 => uFi_v h1 (by omega) (by omega) (by omega)) (fun q h1 h2 => uFi_o (by omega) (by omega) (by omega)) (vFi_0 (by omega)) (vo 22 (by omega) (by omega)), hI', hW.cg (uFi_38 (by omega) (by omega) (by omega)) rfl (by rw [uFi_o (by omega) (by omega) (by omega)]) (by rw [uFi_o (by omega) (by omega) (by omega)]) (vFi_0 (by omega)) (vFi_0 (by omega)) (vFi_0 (by omega)), hN', hY', hH.cg (fun k _ => by rw [uFi_o (by omega) (by omega) (by omega)]) (by rw [uFi_o (by omega) (by omega) (by omega)]) (uFi_o (by omega) (by omega) (by omega)) (uFi_o (by omega) (by omega) (by omega)) (fun k _ _ => vFi_0 (by omega)) (vo 4 (by omega) (by omega)) (vo 5 (by omega) (by omega)), hD', hG', Nat.le_refl _⟩
