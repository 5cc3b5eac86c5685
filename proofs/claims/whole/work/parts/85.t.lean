/-! times -/
theorem lc_lt {a b : Nat} (h : a < 2 ^ 63 ∧ b < 2 ^ 63) : (lg_cmp (lN a) (lN b) < 0) = (a < b) := by
  have := lg_cmp_ge (lN a) (lN b)
  rw [← Int32.not_le, this, ← Int64.not_lt, Classical.not_not, pk_lLT h.1 h.2]
theorem lc_gt {a b : Nat} (h : a < 2 ^ 63 ∧ b < 2 ^ 63) : (0 < lg_cmp (lN a) (lN b)) = (b < a) := by
  have := lg_cmp_le (lN a) (lN b)
  rw [← Int32.not_le, this, ← Int64.not_lt, Classical.not_not, pk_lLT h.2 h.1]
theorem lc_le {a b : Nat} (h : a < 2 ^ 63 ∧ b < 2 ^ 63) : (lg_cmp (lN a) (lN b) ≤ 0) = (a ≤ b) := by
  rw [propext (lg_cmp_le (lN a) (lN b)), pk_lLE h.1 h.2]
theorem lc_ge {a b : Nat} (h : a < 2 ^ 63 ∧ b < 2 ^ 63) : (0 ≤ lg_cmp (lN a) (lN b)) = (b ≤ a) := by
  rw [propext (lg_cmp_ge (lN a) (lN b)), pk_lLE h.2 h.1]
theorem lc_eq {a b : Nat} (h : a < 2 ^ 63 ∧ b < 2 ^ 63) : (lg_cmp (lN a) (lN b) = 0) = (a = b) := by
  by_cases he : a = b
  · subst he; rw [lg_same]; simp
  · have h1 : ¬ lN a = lN b := fun z => he ((pk_lEQ h.1 h.2).mp z)
    unfold lg_cmp
    by_cases h2 : lN b < lN a
    · rw [if_pos h2]; simp [he]
    · rw [if_neg h2, if_neg h1]; simp [he]
def tkv (X Y : Nat) : Nat := if X % Y = 0 ∧ X / Y ≤ 10321920 then X / Y else 0
theorem tkv_mul {U X Y : Nat} (hU : 0 < U) (hY : 0 < Y) : tkv (U * X) (U * Y) = tkv X Y := by
  unfold tkv
  rw [Nat.mul_mod_mul_left, Nat.mul_div_mul_left _ _ hU]
  by_cases h : X % Y = 0 ∧ X / Y ≤ 10321920
  · rw [if_pos h, if_pos ⟨by rw [h.1]; omega, h.2⟩]
  · rw [if_neg h, if_neg]
    intro z
    refine h ⟨?_, z.2⟩
    rcases Nat.mul_eq_zero.mp z.1 with h1 | h1
    · omega
    · exact h1
theorem tkv_le {X Y : Nat} : tkv X Y ≤ 10321920 := by
  unfold tkv; split <;> omega
/-- the class's quotient -/
theorem c_tk {n X : Nat} {Y t0 t1 : Nat} {u : Mm} {Q : Int64 → Mm → Prop} (hX : X < 2 ^ 63) (hY : t1 * t0 = Y) (h0 : 0 < Y) (hY2 : Y < 2 ^ 31) (ht0 : t0 < 2 ^ 31) : w_X2_ticksFor_52 n (lN X) (nI t0) (lN t1) u Q = Q (lN (tkv X Y)) u := by
  have hm : X % Y < Y := Nat.mod_lt _ h0
  have hd : X / Y ≤ X := Nat.div_le_self _ _
  have hne : ¬ lN Y = 0 := fun z => by have := (pk_lEQ (a := Y) (b := 0) (by omega) (by omega)).mp z; omega
  have e1 : lN t1 * (nI t0).toInt64 = lN Y := by rw [nI_l ht0, lN_mul, hY]
  have e2 : (lg_cmp (lN Y) 1 < 0) = False := by
    rw [show (1 : Int64) = lN 1 from rfl, lc_lt (by omega)]; exact eq_false (by omega)
  have e4 : lN X / lN Y = lN (X / Y) := pk_lDiv hX h0 (by omega)
  have e3 : lN X - lN (X / Y) * lN Y = lN (X % Y) := by rw [← e4]; exact pk_lRem hX h0 (by omega)
  have e5 : (lg_cmp (lN (X % Y)) 0 = 0) = (X % Y = 0) := by
    rw [show (0 : Int64) = lN 0 from rfl, lc_eq (by omega)]
  have e6 : (0 < lg_cmp (lN (X / Y)) 10321920) = (10321920 < X / Y) := by
    rw [show (10321920 : Int64) = lN 10321920 from rfl, lc_gt (by omega)]
  unfold w_X2_ticksFor_52 w_X2_ticksFor_73 w_X2_ticksFor_97 jlet tkv
  rw [e1]
  simp only [↓br_if, e2, if_false, e3, e4, e5, e6, hne, not_false_eq_true, true_and]
  by_cases c1 : X % Y = 0
  · by_cases c2 : 10321920 < X / Y
    · rw [if_pos c1, if_pos c2, if_neg (by omega)]; rfl
    · rw [if_pos c1, if_neg c2, if_pos (by omega)]
  · rw [if_neg c1, if_neg (fun z => c1 z.1)]; rfl
theorem r_ex {n X Y : Nat} {pl : Int32} {v : Mm} {Q : Int64 → Mm → Prop} {T' : Mm → Prop} (hX : X < 2 ^ 63) (h0 : 0 < Y) (hY2 : Y < 2 ^ 31) : w_X12_exact n (lN X) (lN Y) pl v Q T' = if tkv X Y = 0 then T' (setI (setI v 1 6 4) 1 7 pl) else Q (lN (tkv X Y)) v := by
  have hm : X % Y < Y := Nat.mod_lt _ h0
  have hd : X / Y ≤ X := Nat.div_le_self _ _
  have hne : ¬ lN Y = 0 := fun z => by have := (pk_lEQ (a := Y) (b := 0) (by omega) (by omega)).mp z; omega
  have e4 : lN X / lN Y = lN (X / Y) := pk_lDiv hX h0 (by omega)
  have e3 : lN X - lN (X / Y) * lN Y = lN (X % Y) := by rw [← e4]; exact pk_lRem hX h0 (by omega)
  have e5 : (lg_cmp (lN (X % Y)) 0 = 0) = (X % Y = 0) := by
    rw [show (0 : Int64) = lN 0 from rfl, lc_eq (by omega)]
  have e6 : (lg_cmp (lN (X / Y)) 10321920 ≤ 0) = (X / Y ≤ 10321920) := by
    rw [show (10321920 : Int64) = lN 10321920 from rfl, lc_le (by omega)]
  have e7 : (lg_cmp (lN (X / Y)) 1 < 0) = (X / Y < 1) := by
    rw [show (1 : Int64) = lN 1 from rfl, lc_lt (by omega)]
  unfold w_X12_exact w_X12_exact_26 w_X12_exact_33
  simp only [↓br_if, ↓br_ifn, e3, e4, e5, e6, e7, hne, not_false_eq_true, true_and, ↓r_fail]
  unfold tkv
  by_cases c1 : X % Y = 0
  · rw [if_pos c1]
    by_cases c2 : X / Y < 1
    · rw [if_pos c2]
      by_cases c3 : X / Y ≤ 10321920
      · rw [if_pos (show (if X % Y = 0 ∧ X / Y ≤ 10321920 then X / Y else 0) = 0 from by rw [if_pos ⟨c1, c3⟩]; exact Nat.lt_one_iff.mp c2)]
      · omega
    · rw [if_neg c2]
      by_cases c3 : X / Y ≤ 10321920
      · have : (if X % Y = 0 ∧ X / Y ≤ 10321920 then X / Y else 0) = X / Y := if_pos ⟨c1, c3⟩
        rw [if_pos c3, this, if_neg (by omega)]
      · have : (if X % Y = 0 ∧ X / Y ≤ 10321920 then X / Y else 0) = 0 := if_neg (fun z => c3 z.2)
        rw [if_neg c3, this, if_pos rfl]
  · have : (if X % Y = 0 ∧ X / Y ≤ 10321920 then X / Y else 0) = 0 := if_neg (fun z => c1 z.1)
    rw [if_neg c1, this, if_pos rfl]
/-- the pending numbers -/
def pnd (tl tq tp a b : Nat) (u v : Mm) : Prop := tl ≤ 9 ∧ u.1 39 3 = nI tl ∧ v.1 0 46 = nI tl ∧ (0 < tl → 1 ≤ tq ∧ tq ≤ 9 ∧ 2 ≤ tp ∧ tp ≤ 9 ∧ u.1 39 4 = nI tq ∧ v.1 0 48 = nI tq ∧ u.1 39 5 = nI tp ∧ v.1 0 47 = nI tp) ∧ 1 ≤ a ∧ a ≤ 15 ∧ (b = 1 ∨ b = 2 ∨ b = 4 ∨ b = 8) ∧ u.1 39 6 = nI a ∧ v.1 0 59 = nI a ∧ u.1 39 7 = nI b ∧ v.1 0 60 = nI b
theorem eN.pnd {u v : Mm} (h : eN u v) : ∃ tl tq tp a b, pnd tl tq tp a b u v := by
  obtain ⟨-, -, -, -, ⟨tl, tq, tp, t1, t2, t3, t4⟩, ⟨a, b, b1, b2, b3, b4, b5, b6, b7⟩⟩ := h
  exact ⟨tl, tq, tp, a, b, t1, t2, t3, t4, b1, b2, b3, b4, b5, b6, b7⟩
/-- the time of a length N/M by the unit U -/
def tks (tl tq tp a b U N M : Nat) : Nat := if tl = 0 then tkv (1290240 / U * N * a) (M * b) else tkv (1290240 / U * N * tq * a) (M * tp * b)
theorem okUn_div {U : Nat} (h : okUn U) : U * (1290240 / U) = 1290240 ∧ 1290240 / U ≤ 1290240 := by
  refine ⟨?_, Nat.div_le_self _ _⟩
  unfold okUn at h
  rcases h with rfl | rfl | rfl | rfl | rfl | rfl | rfl <;> decide
theorem c_ticks {n tl tq tp a b U N M : Nat} {u v : Mm} {Q : Int64 → Mm → Prop} (hp : pnd tl tq tp a b u v) (hU : okUn U) (hN : 1 ≤ N ∧ N ≤ 4096) (hM : 1 ≤ M ∧ M ≤ 4096) : w_X2_ticksFor n (lN N) (lN (M * U)) u Q = Q (lN (tks tl tq tp a b U N M)) u := by
  obtain ⟨h1, h2, h3, h4, h5, h6, h7, h8, h9, h10, h11⟩ := hp
  have hUl := hU.le
  obtain ⟨d1, d2⟩ := okUn_div hU
  have hb : 1 ≤ b ∧ b ≤ 8 := by omega
  have y1 : M * U ≤ 4096 * 64 := Nat.mul_le_mul (by omega) (by omega)
  have y2 : M * U * b ≤ 4096 * 64 * 8 := Nat.mul_le_mul y1 (by omega)
  have y0 : 0 < M * U * b := Nat.mul_pos (Nat.mul_pos (by omega) (by omega)) (by omega)
  have x1 : 1290240 * N ≤ 1290240 * 4096 := Nat.mul_le_mul (by omega) (by omega)
  have x2 : 1290240 * N * a ≤ 1290240 * 4096 * 15 := Nat.mul_le_mul x1 (by omega)
  unfold w_X2_ticksFor w_X2_ticksFor_26 jlet tks
  rw [h2, h8, h10, show (1290240 : Int64) = lN 1290240 from rfl, lN_mul, nI_l (show a < 2 ^ 31 by omega), lN_mul, nI_l (show b < 2 ^ 31 by omega), lN_mul]
  simp only [br_if]
  by_cases ht : tl = 0
  · subst ht
    have e1 : nI 0 ≤ 0 := by decide
    simp only [e1, if_true]
    rw [show (1 : Int32).toInt64 = lN 1 from rfl, lN_mul, Nat.mul_one, show (1 : Int32) = nI 1 from rfl, c_tk (Y := M * U * b) (by omega) (by omega) y0 (by omega) (by omega)]
    have e2 : 1290240 * N * a = U * (1290240 / U * N * a) := by rw [← Nat.mul_assoc, ← Nat.mul_assoc, d1]
    have e3 : M * U * b = U * (M * b) := by rw [Nat.mul_comm M U, Nat.mul_assoc]
    rw [e2, e3, tkv_mul (by omega) (Nat.mul_pos (by omega) (by omega))]
  · obtain ⟨g1, g2, g3, g4, g5, g6, g7, g8⟩ := h4 (by omega)
    have e1 : ¬ nI tl ≤ 0 := nI_nle (by omega) (by omega)
    have y3 : M * U * b * tp ≤ 4096 * 64 * 8 * 9 := Nat.mul_le_mul y2 (by omega)
    have x3 : 1290240 * N * a * tq ≤ 1290240 * 4096 * 15 * 9 := Nat.mul_le_mul x2 (by omega)
    simp only [e1, if_false, ht]
    rw [g5, g7, nI_l (show tq < 2 ^ 31 by omega), lN_mul, c_tk (Y := M * U * b * tp) (by omega) rfl (Nat.mul_pos y0 (by omega)) (by omega) (by omega)]
    have e2 : 1290240 * N * a * tq = U * (1290240 / U * N * tq * a) := by rw [← Nat.mul_assoc, ← Nat.mul_assoc, ← Nat.mul_assoc, d1, Nat.mul_assoc, Nat.mul_comm a tq, ← Nat.mul_assoc]
    have e3 : M * U * b * tp = U * (M * tp * b) := by rw [Nat.mul_comm M U, Nat.mul_assoc, Nat.mul_assoc, Nat.mul_comm b tp, ← Nat.mul_assoc M tp b]
    rw [e2, e3, tkv_mul (by omega) (Nat.mul_pos (Nat.mul_pos (by omega) (by omega)) (by omega))]
theorem r_time {n tl tq tp a b U N M w : Nat} {pl : Int32} {u v : Mm} {Q : Int64 → Mm → Prop} {T' : Mm → Prop} (hw : w < 3) (h28 : v.1 0 28 = nI w) (h15 : v.1 15 w = nI U) (hp : pnd tl tq tp a b u v) (hU : okUn U) (hN : 1 ≤ N ∧ N ≤ 4096) (hM : 1 ≤ M ∧ M ≤ 4096) : w_X12_timeOf n (nI N) (nI M) pl v Q T' = if tks tl tq tp a b U N M = 0 then T' (setI (setI v 1 6 4) 1 7 pl) else Q (lN (tks tl tq tp a b U N M)) v := by
  obtain ⟨h1, h2, h3, h4, h5, h6, h7, h8, h9, h10, h11⟩ := hp
  have hUl := hU.le
  obtain ⟨d1, d2⟩ := okUn_div hU
  have hb : 1 ≤ b ∧ b ≤ 8 := by omega
  have i1 : vp_in (nI w) 3 = True := eq_true (vp_in_nI hw (by omega))
  have hne : (¬ nI U = 0) = True := eq_true (nI_ne0 (by omega) (by omega))
  have x1 : 1290240 / U * N ≤ 1290240 * 4096 := Nat.mul_le_mul d2 (by omega)
  unfold w_X12_timeOf w_X12_timeOf_50 jlet tks
  rw [h28, i1, nn_ix (show w < 2147483648 by omega), h15, h3, h9, h11]
  rw [show (1290240 : Int32) = nI 1290240 from rfl, pk_div (by omega) (by omega) (by omega), nI_l (show 1290240 / U < 2 ^ 31 by omega), nI_l (show N < 2 ^ 31 by omega), lN_mul, nI_l (show M < 2 ^ 31 by omega), nI_l (show a < 2 ^ 31 by omega), nI_l (show b < 2 ^ 31 by omega)]
  simp only [br_if, hne, true_and]
  by_cases ht : tl = 0
  · subst ht
    have e1 : nI 0 ≤ 0 := by decide
    have x2 : 1290240 / U * N * a ≤ 1290240 * 4096 * 15 := Nat.mul_le_mul x1 (by omega)
    have y2 : M * b ≤ 4096 * 8 := Nat.mul_le_mul (by omega) (by omega)
    simp only [e1, if_true]
    rw [lN_mul, lN_mul, r_ex (by omega) (Nat.mul_pos (by omega) (by omega)) (by omega)]
  · obtain ⟨g1, g2, g3, g4, g5, g6, g7, g8⟩ := h4 (by omega)
    have e1 : ¬ nI tl ≤ 0 := nI_nle (by omega) (by omega)
    have x2 : 1290240 / U * N * tq ≤ 1290240 * 4096 * 9 := Nat.mul_le_mul x1 (by omega)
    have x3 : 1290240 / U * N * tq * a ≤ 1290240 * 4096 * 9 * 15 := Nat.mul_le_mul x2 (by omega)
    have y2 : M * tp ≤ 4096 * 9 := Nat.mul_le_mul (by omega) (by omega)
    have y3 : M * tp * b ≤ 4096 * 9 * 8 := Nat.mul_le_mul y2 (by omega)
    simp only [e1, if_false, ht]
    rw [g6, g8, nI_l (show tq < 2 ^ 31 by omega), nI_l (show tp < 2 ^ 31 by omega), lN_mul, lN_mul, lN_mul, lN_mul, r_ex (by omega) (Nat.mul_pos (Nat.mul_pos (by omega) (by omega)) (by omega)) (by omega)]
theorem tks_le {tl tq tp a b U N M : Nat} : tks tl tq tp a b U N M ≤ 10321920 := by
  unfold tks; split <;> exact tkv_le
