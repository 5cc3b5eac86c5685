/-! marks of a bar -/
def fil (v : Mm) (q lo hi : Nat) (x : Int32) : Mm := (fun a b => if a = q ∧ lo ≤ b ∧ b < hi then x else v.1 a b, v.2.1, v.2.2)
theorem fil_step {v : Mm} {q lo i : Nat} {x : Int32} : setI (fil v q lo (lo + i) x) q (lo + i) x = fil v q lo (lo + (i + 1)) x := by
  unfold setI fil
  have : (fun a b => if a = q ∧ b = lo + i then x else (fun a b => if a = q ∧ lo ≤ b ∧ b < lo + i then x else v.1 a b) a b) = (fun a b => if a = q ∧ lo ≤ b ∧ b < lo + (i + 1) then x else v.1 a b) := by
    funext a b
    by_cases h1 : a = q ∧ b = lo + i
    · rw [if_pos h1, if_pos (by omega)]
    · rw [if_neg h1]
      by_cases h2 : a = q ∧ lo ≤ b ∧ b < lo + i
      · show (if a = q ∧ lo ≤ b ∧ b < lo + i then x else v.1 a b) = _
        rw [if_pos h2, if_pos (by omega)]
      · show (if a = q ∧ lo ≤ b ∧ b < lo + i then x else v.1 a b) = _
        rw [if_neg h2, if_neg (by omega)]
  simp only [this]
theorem fil_0 {v : Mm} {q lo : Nat} {x : Int32} : fil v q lo (lo + 0) x = v := by
  unfold fil
  have : (fun a b => if a = q ∧ lo ≤ b ∧ b < lo + 0 then x else v.1 a b) = v.1 := by
    funext a b
    rw [if_neg (by omega)]
  rw [this]
theorem fil_n {v : Mm} {q lo hi a : Nat} {x : Int32} (h : a ≠ q) : (fil v q lo hi x).1 a = v.1 a := by
  funext b
  show (if a = q ∧ _ then _ else _) = _
  rw [if_neg (fun z => h z.1)]
theorem fil_s {v : Mm} {q lo hi b : Nat} {x : Int32} : (fil v q lo hi x).1 q b = if lo ≤ b ∧ b < hi then x else v.1 q b := by
  show (if q = q ∧ _ then _ else _) = _
  by_cases h : lo ≤ b ∧ b < hi
  · rw [if_pos ⟨rfl, h⟩, if_pos h]
  · rw [if_neg (fun z => h z.2), if_neg h]
theorem fil_c {v : Mm} {q lo hi : Nat} : clr v q lo hi = fil v q lo hi 0 := rfl
theorem c_clr2 {n w : Nat} {Q : Mm → Prop} {u : Mm} (hw : w < 3) (h3 : ¬ u.1 (50 + w) 3 = 0) : ∀ (d k i : Nat), 84 - i = d → d < k → i ≤ 84 → w_X8_clearMarks_2 n (50 + w) Q k (nI i) (fil u (59 + w) 0 (0 + i) 0) = Q (setI (fil u (59 + w) 0 (0 + 84) 0) (50 + w) 3 0) := by
  intro d
  have e3 : ∀ hi, (fil u (59 + w) 0 hi 0).1 (50 + w) = u.1 (50 + w) := fun hi => fil_n (by omega)
  induction d with
  | zero =>
    intro k i hd hk hi
    obtain ⟨k, rfl⟩ : ∃ j, k = j + 1 := ⟨k - 1, by omega⟩
    obtain rfl : i = 84 := by omega
    rw [w_X8_clearMarks_2]
    simp (disch := omega) only [mlet, ilet, jlet, ↓br_if, ↓br_ifn, ↓reduceIte, nl_lt, nl_gt, nl_le, nl_ge, nl_eq, nn_lt, nn_le, nn_eq, nl_add, nl_sub, nl_mul, nl_mulr, nn_add, nn_ix, nn_in, true_and, and_true, false_and, and_false, gI_if, gIj, gIr, gJ_if, gJi, gJr, gPr, gPi, gPj, hu_if, hv_if, Nat.reduceEqDiff, Nat.reduceLT, Nat.reduceLeDiff, eq_self, bIT, bIF, Nat.add_zero, Nat.add_assoc, Nat.reduceAdd, nb0, nb1, i10, i00, Bool.false_eq_true, not_true_eq_false, not_false_eq_true, reduceIte, w_X8_clearMarks_28, Nat.le_refl]
  | succ d ih =>
    intro k i hd hk hi
    obtain ⟨k, rfl⟩ : ∃ j, k = j + 1 := ⟨k - 1, by omega⟩
    have := ih k (i + 1) (by omega) (by omega) (by omega)
    have h84 : (84 ≤ i) = False := eq_false (by omega)
    rw [← this, w_X8_clearMarks_2, e3]
    have hst : setI (fil u (59 + w) 0 (0 + i) 0) (59 + w) (0 + i) 0 = fil u (59 + w) 0 (0 + (i + 1)) 0 := fil_step
    rw [Nat.zero_add] at hst
    simp (disch := omega) only [mlet, ilet, jlet, ↓br_if, ↓br_ifn, ↓reduceIte, nl_lt, nl_gt, nl_le, nl_ge, nl_eq, nn_lt, nn_le, nn_eq, nl_add, nl_sub, nl_mul, nl_mulr, nn_add, nn_ix, nn_in, true_and, and_true, false_and, and_false, gI_if, gIj, gIr, gJ_if, gJi, gJr, gPr, gPi, gPj, hu_if, hv_if, Nat.reduceEqDiff, Nat.reduceLT, Nat.reduceLeDiff, eq_self, bIT, bIF, Nat.add_zero, Nat.add_assoc, Nat.reduceAdd, nb0, nb1, i10, i00, Bool.false_eq_true, not_true_eq_false, not_false_eq_true, reduceIte, h84, h3, show 50 + (w + 9) = 59 + w from by omega, Nat.zero_add]
    rw [Nat.zero_add] at hst
    rw [hst]
def uCl (w : Nat) (u : Mm) : Mm := setI (fil u (59 + w) 0 84 0) (50 + w) 3 0
theorem c_clear {n w : Nat} {Q : Mm → Prop} {u : Mm} (hn : 5000 ≤ n) (hw : w < 3) (hz : u.1 (50 + w) 3 = 0 → ∀ j, j < 84 → u.1 (59 + w) j = 0) : w_X8_clearMarks n (50 + w) u Q = Q (uCl w u) := by
  unfold w_X8_clearMarks uCl
  by_cases h3 : u.1 (50 + w) 3 = 0
  · have hf : fil u (59 + w) 0 84 0 = u := by
      unfold fil
      have : (fun a b => if a = 59 + w ∧ 0 ≤ b ∧ b < 84 then (0 : Int32) else u.1 a b) = u.1 := by
        funext a b
        by_cases hc : a = 59 + w ∧ 0 ≤ b ∧ b < 84
        · rw [if_pos hc, hc.1, hz h3 b hc.2.2]
        · rw [if_neg hc]
      rw [this]
    rw [hf]
    obtain ⟨k, rfl⟩ : ∃ j, n = j + 1 := ⟨n - 1, by omega⟩
    rw [w_X8_clearMarks_2]
    have e0 : ((84 : Int32) ≤ 0) = False := by decide
    simp (disch := omega) only [mlet, ilet, jlet, ↓br_if, ↓br_ifn, ↓reduceIte, nl_lt, nl_gt, nl_le, nl_ge, nl_eq, nn_lt, nn_le, nn_eq, nl_add, nl_sub, nl_mul, nl_mulr, nn_add, nn_ix, nn_in, true_and, and_true, false_and, and_false, gI_if, gIj, gIr, gJ_if, gJi, gJr, gPr, gPi, gPj, hu_if, hv_if, Nat.reduceEqDiff, Nat.reduceLT, Nat.reduceLeDiff, eq_self, bIT, bIF, Nat.add_zero, Nat.add_assoc, Nat.reduceAdd, nb0, nb1, i10, i00, Bool.false_eq_true, not_true_eq_false, not_false_eq_true, reduceIte, w_X8_clearMarks_28, e0, h3]
  · have := c_clr2 (n := n) (Q := Q) hw h3 84 n 0 rfl (by omega) (by omega)
    rw [fil_0, nI0] at this
    exact this
theorem r_clr2 {n w : Nat} {Q T' : Mm → Prop} {v : Mm} (hw : w < 3) (h28 : v.1 0 28 = nI w) : ∀ (d k i : Nat), 448 - i = d → d < k → i ≤ 448 → w_X12_clearBar_2 n Q T' k (nI i) (fil v 22 (448 * w) (448 * w + i) 100) = Q (fil v 22 (448 * w) (448 * w + 448) 100) := by
  intro d
  have e3 : ∀ hi, (fil v 22 (448 * w) hi 100).1 0 = v.1 0 := fun hi => fil_n (by omega)
  induction d with
  | zero =>
    intro k i hd hk hi
    obtain ⟨k, rfl⟩ : ∃ j, k = j + 1 := ⟨k - 1, by omega⟩
    obtain rfl : i = 448 := by omega
    rw [w_X12_clearBar_2]
    simp (disch := omega) only [mlet, ilet, jlet, ↓br_if, ↓br_ifn, ↓reduceIte, nl_lt, nl_gt, nl_le, nl_ge, nl_eq, nn_lt, nn_le, nn_eq, nl_add, nl_sub, nl_mul, nl_mulr, nn_add, nn_ix, nn_in, true_and, and_true, false_and, and_false, gI_if, gIj, gIr, gJ_if, gJi, gJr, gPr, gPi, gPj, hu_if, hv_if, Nat.reduceEqDiff, Nat.reduceLT, Nat.reduceLeDiff, eq_self, bIT, bIF, Nat.add_zero, Nat.add_assoc, Nat.reduceAdd, nb0, nb1, i10, i00, Bool.false_eq_true, not_true_eq_false, not_false_eq_true, reduceIte, Nat.le_refl]
  | succ d ih =>
    intro k i hd hk hi
    obtain ⟨k, rfl⟩ : ∃ j, k = j + 1 := ⟨k - 1, by omega⟩
    have := ih k (i + 1) (by omega) (by omega) (by omega)
    have h84 : (448 ≤ i) = False := eq_false (by omega)
    rw [← this, w_X12_clearBar_2, e3]
    simp (disch := omega) only [mlet, ilet, jlet, ↓br_if, ↓br_ifn, ↓reduceIte, nl_lt, nl_gt, nl_le, nl_ge, nl_eq, nn_lt, nn_le, nn_eq, nl_add, nl_sub, nl_mul, nl_mulr, nn_add, nn_ix, nn_in, true_and, and_true, false_and, and_false, gI_if, gIj, gIr, gJ_if, gJi, gJr, gPr, gPi, gPj, hu_if, hv_if, Nat.reduceEqDiff, Nat.reduceLT, Nat.reduceLeDiff, eq_self, bIT, bIF, Nat.add_zero, Nat.add_assoc, Nat.reduceAdd, nb0, nb1, i10, i00, Bool.false_eq_true, not_true_eq_false, not_false_eq_true, reduceIte, h84, h28, fil_step]
def vCl (w : Nat) (v : Mm) : Mm := fil v 22 (448 * w) (448 * w + 448) 100
theorem r_clear {n w : Nat} {Q T' : Mm → Prop} {v : Mm} (hn : 5000 ≤ n) (hw : w < 3) (h28 : v.1 0 28 = nI w) : w_X12_clearBar n v Q T' = Q (vCl w v) := by
  have := r_clr2 (n := n) (Q := Q) (T' := T') hw h28 448 n 0 rfl (by omega) (by omega)
  rw [fil_0, nI0] at this
  exact this
theorem uCl_1 {w q : Nat} {u : Mm} (h1 : q ≠ 59 + w) (h2 : q ≠ 50 + w) : (uCl w u).1 q = u.1 q := by
  unfold uCl; rw [gIn h2, fil_n h1]
theorem uCl_f {w k : Nat} {u : Mm} (h : k ≠ 3) : (uCl w u).1 (50 + w) k = u.1 (50 + w) k := by
  unfold uCl; rw [gIs, hu_n h, fil_n (by omega)]
theorem uCl_m {w j : Nat} {u : Mm} (h : j < 84) : (uCl w u).1 (59 + w) j = 0 := by
  unfold uCl; rw [gIn (by omega), fil_s, if_pos (by omega)]
theorem uCl_a {w q k : Nat} {u : Mm} (hw : w < 3) (h1 : q ≤ 58) (h : k ≠ 3) : (uCl w u).1 q k = u.1 q k := by
  by_cases hq : q = 50 + w
  · rw [hq]; exact uCl_f h
  · rw [uCl_1 (by omega) hq]
theorem vCl_1 {w q : Nat} {v : Mm} (h1 : q ≠ 22) : (vCl w v).1 q = v.1 q := fil_n h1
theorem uCl_K {a u : Mm} {w : Nat} (hw : w < 3) (h : jKc a u) : jKc a (uCl w u) := by
  obtain ⟨h1, h2, h3, h4, h5, h6⟩ := h
  refine ⟨fun q hq => ⟨?_, (h1 q hq).2⟩, ?_, ?_, h4, h5, h6⟩
  · rw [uCl_1 (by omega) (by omega)]; exact (h1 q hq).1
  · rw [uCl_1 (by omega) (by omega)]; exact h2
  · rw [uCl_1 (by omega) (by omega)]; exact h3
theorem vCl_K {a v : Mm} {w : Nat} (h : jKm a v) : jKm a (vCl w v) := by
  obtain ⟨h1, h2, h3, h4, h5, h6⟩ := h
  refine ⟨fun q hq => ⟨?_, (h1 q hq).2⟩, h2, ?_, ?_, ?_, ?_⟩
  · rw [vCl_1 (by omega)]; exact (h1 q hq).1
  all_goals rw [vCl_1 (by omega)]; assumption
theorem Rm.clear {z : Mm × Mm} {T : Nat → Nat} {sz B e s p c c0 w : Nat} {u v : Mm} (hR : Rm z T sz B e s p c c0 w u v) : Rm z T sz B e s p c c0 w (uCl w u) (vCl w v) := by
  obtain ⟨⟨hKc, hKm, h33_6⟩, hT, hL, hC, hM, hU, hS, hI, hW, hN, hY, hH, hD, hG, h0⟩ := hR
  have hw := hW.1
  refine ⟨⟨uCl_K hw hKc, vCl_K hKm, by rw [uCl_1 (by omega) (by omega)]; exact h33_6⟩, hT.cg rfl (by rw [uCl_1 (by omega) (by omega)]) (uCl_1 (by omega) (by omega)) (uCl_1 (by omega) (by omega)) (by rw [vCl_1 (by omega)]) (vCl_1 (by omega)), hL.cg (fun k _ => by rw [uCl_1 (by omega) (by omega)]) (fun k _ => by rw [vCl_1 (by omega)]), hC.cg (by rw [uCl_1 (by omega) (by omega)]) (uCl_1 (by omega) (by omega)) rfl rfl (by rw [vCl_1 (by omega)]) (vCl_1 (by omega)) rfl rfl (vCl_1 (by omega)) (vCl_1 (by omega)), hM.cg (fun q h1 h2 => ⟨uCl_a hw (by omega) (by omega), uCl_a hw (by omega) (by omega)⟩) (fun q h1 h2 => rfl) (vCl_1 (by omega)) (vCl_1 (by omega)) (vCl_1 (by omega)) rfl rfl rfl, hU.cg (fun q k h1 h2 h3 h4 => uCl_a hw (by omega) (by omega)) (vCl_1 (by omega)) (vCl_1 (by omega)) (vCl_1 (by omega)) (vCl_1 (by omega)), ?_, hI.cg (fun q k h1 h2 h3 h4 => uCl_a hw (by omega) (by omega)) (vCl_1 (by omega)) (vCl_1 (by omega)), hW.cg (by rw [uCl_1 (by omega) (by omega)]) rfl (by rw [uCl_1 (by omega) (by omega)]) (by rw [uCl_1 (by omega) (by omega)]) (by rw [vCl_1 (by omega)]) (by rw [vCl_1 (by omega)]) (by rw [vCl_1 (by omega)]), hN.cg (uCl_1 (by omega) (by omega)) (by rw [uCl_1 (by omega) (by omega)]) (fun k _ => by rw [vCl_1 (by omega)]), hY.cg (by rw [uCl_1 (by omega) (by omega)]) (by rw [vCl_1 (by omega)]) (vCl_1 (by omega)), hH.cg (fun k _ => by rw [uCl_1 (by omega) (by omega)]) (by rw [uCl_1 (by omega) (by omega)]) (uCl_1 (by omega) (by omega)) (uCl_1 (by omega) (by omega)) (fun k _ _ => by rw [vCl_1 (by omega)]) (vCl_1 (by omega)) (vCl_1 (by omega)), hD.cg (vCl_1 (by omega)) rfl (vCl_1 (by omega)), hG.cg (uCl_1 (by omega) (by omega)) (vCl_1 (by omega)) (vCl_1 (by omega)), h0⟩
  intro w' hw'
  have e2 : (vCl w v).1 0 2 = v.1 0 2 := by rw [vCl_1 (by omega)]
  rw [e2]
  by_cases hww : w' = w
  · subst hww
    have hb : ∀ k, k < 448 → (vCl w' v).1 22 (448 * w' + k) = 100 := fun k hk => by unfold vCl; rw [fil_s, if_pos (by omega)]
    refine ⟨fun _ l hl => Or.inl ⟨uCl_m (by omega), ?_⟩, fun _ l o hl ho => Or.inl ⟨uCl_m (by omega), ?_⟩, fun _ j hj => uCl_m hj, fun k hk => Or.inl (hb k hk)⟩
    · exact hb (64 * l) (by omega)
    · have := hb (64 * l + o + 18) (by omega)
      rw [← Nat.add_assoc, ← Nat.add_assoc] at this; exact this
  · have hb : ∀ k, k < 448 → (vCl w v).1 22 (448 * w' + k) = v.1 22 (448 * w' + k) := fun k hk => by unfold vCl; rw [fil_s, if_neg (by omega)]
    obtain ⟨a1, a2, a3, a4⟩ := hS w' hw'
    rw [uCl_1 (by omega) (by omega), uCl_1 (by omega) (by omega)]
    refine ⟨fun h l hl => ?_, fun h l o hl ho => ?_, a3, fun k hk => ?_⟩
    · rw [hb (64 * l) (by omega)]; exact a1 h l hl
    · have := hb (64 * l + o + 18) (by omega)
      rw [← Nat.add_assoc, ← Nat.add_assoc] at this; rw [this]; exact a2 h l o hl ho
    · rw [hb k hk]; exact a4 k hk
