/-! signs: of the key, of the bar, of a tie -/
def sgB (x : Int32) : Prop := -2 ≤ x.toInt ∧ x.toInt ≤ 2
def inr' (o : Int32) : Prop := -2 ≤ o.toInt ∧ o.toInt ≤ 9
theorem i32_mul {a b : Int32} (h1 : -2147483648 ≤ a.toInt * b.toInt) (h2 : a.toInt * b.toInt < 2147483648) : (a * b).toInt = a.toInt * b.toInt := by
  rw [Int32.toInt_mul]; exact Int.bmod_eq_of_le (by omega) (by omega)
def ksC (sg : Int32) (l : Nat) : Int32 := if sg ≤ xf1 l then (if -sg ≤ 6 - xf1 l then 0 else -1) else 1
def ksM (sg : Int32) (l : Nat) : Int32 := if sg ≤ 0 then (if -sg ≤ 6 - xf1 l then 0 else -1) else if sg ≤ xf1 l then 0 else 1
theorem ks_ok : ∀ j, j < 15 → ∀ l, l < 7 → ksC (nI j - 7) l = ksM (nI j - 7) l ∧ -1 ≤ (ksC (nI j - 7) l).toInt ∧ (ksC (nI j - 7) l).toInt ≤ 1 := by decide +kernel
theorem off7 {x : Int32} (h : -7 ≤ x.toInt ∧ x.toInt ≤ 7) : ∃ j : Nat, j < 15 ∧ x = nI j - 7 := by
  refine ⟨(x.toInt + 7).toNat, by omega, ?_⟩
  rw [← Int32.toInt_inj]
  have e7 : (7 : Int32).toInt = 7 := by decide
  rw [i32_sub (by rw [nI_toInt (by omega), e7]; omega) (by rw [nI_toInt (by omega), e7]; omega), nI_toInt (by omega), e7]
  omega
theorem off2 {x : Int32} (h : inr' x) : ∃ j : Nat, j < 12 ∧ x = nI j - 2 := by
  unfold inr' at h
  refine ⟨(x.toInt + 2).toNat, by omega, ?_⟩
  rw [← Int32.toInt_inj]
  have e7 : (2 : Int32).toInt = 2 := by decide
  rw [i32_sub (by rw [nI_toInt (by omega), e7]; omega) (by rw [nI_toInt (by omega), e7]; omega), nI_toInt (by omega), e7]
  omega
theorem ks_eq {sg : Int32} {l : Nat} (h : -7 ≤ sg.toInt ∧ sg.toInt ≤ 7) (hl : l < 7) : ksC sg l = ksM sg l ∧ sgB (ksC sg l) := by
  obtain ⟨j, hj, rfl⟩ := off7 h
  have := ks_ok j hj l hl
  exact ⟨this.1, by unfold sgB; omega⟩
theorem l7 {P : Nat → Prop} (h0 : P 0) (h1 : P 1) (h2 : P 2) (h3 : P 3) (h4 : P 4) (h5 : P 5) (h6 : P 6) : ∀ l, l < 7 → P l := by
  intro l hl
  match l, hl with
  | 0, _ => exact h0
  | 1, _ => exact h1
  | 2, _ => exact h2
  | 3, _ => exact h3
  | 4, _ => exact h4
  | 5, _ => exact h5
  | 6, _ => exact h6
theorem c_key41 {n q l : Nat} {u : Mm} {Q : Int32 → Mm → Prop} (hl : l < 7) : w_X8_signOf_41 n q (nI l) u Q = Q (ksC (u.1 q 7) l) u := by
  have e1 : (nI l < 0) = False := eq_false (nI_pos (by omega))
  have e2 : (7 ≤ l) = False := eq_false (by omega)
  unfold ksC
  simp (disch := omega) only [mlet, ilet, jlet, ↓br_if, ↓br_ifn, ↓reduceIte, nl_lt, nl_gt, nl_le, nl_ge, nl_eq, nn_lt, nn_le, nn_eq, nl_add, nl_sub, nl_mul, nl_mulr, nn_add, nn_ix, nn_in, true_and, and_true, false_and, and_false, gI_if, gIj, gIr, gJ_if, gJi, gJr, gPr, gPi, gPj, hu_if, hv_if, Nat.reduceEqDiff, Nat.reduceLT, Nat.reduceLeDiff, eq_self, bIT, bIF, Nat.add_zero, Nat.add_assoc, Nat.reduceAdd, nb0, nb1, i10, i00, Bool.false_eq_true, not_true_eq_false, not_false_eq_true, reduceIte, w_X8_signOf_41, w_X8_signOf_60, w_X8_signOf_91, e1, e2]
  by_cases h1 : u.1 q 7 ≤ xf1 l <;> by_cases h2 : -u.1 q 7 ≤ 6 - xf1 l <;> simp only [h1, h2, if_true, if_false]
theorem r_key {n w l : Nat} {v : Mm} {Q : Int32 → Mm → Prop} {T' : Mm → Prop} (hw : w < 3) (hl : l < 7) (h28 : v.1 0 28 = nI w) : w_X12_keySign n (nI l) v Q T' = Q (ksM (v.1 12 w) l) v := by
  have i1 : vp_in (nI w) 3 = True := eq_true (vp_in_nI hw (by omega))
  unfold w_X12_keySign w_X12_keySign_65 w_X12_keySign_97 ilet ksM
  rw [h28, nn_ix (show w < 2147483648 by omega), i1, true_and]
  simp only [br_if, br_ifn]
  generalize v.1 12 w = x
  have hcs : l = 0 ∨ l = 1 ∨ l = 2 ∨ l = 3 ∨ l = 4 ∨ l = 5 ∨ l = 6 := by omega
  rcases hcs with rfl | rfl | rfl | rfl | rfl | rfl | rfl
  all_goals
    simp only [show (nI 0 = 0) = True from by decide, show (nI 0 = 1) = False from by decide, show (nI 0 = 2) = False from by decide, show (nI 0 = 3) = False from by decide, show (nI 0 = 4) = False from by decide, show (nI 0 = 5) = False from by decide,
      show (nI 1 = 0) = False from by decide, show (nI 1 = 1) = True from by decide, show (nI 1 = 2) = False from by decide, show (nI 1 = 3) = False from by decide, show (nI 1 = 4) = False from by decide, show (nI 1 = 5) = False from by decide,
      show (nI 2 = 0) = False from by decide, show (nI 2 = 1) = False from by decide, show (nI 2 = 2) = True from by decide, show (nI 2 = 3) = False from by decide, show (nI 2 = 4) = False from by decide, show (nI 2 = 5) = False from by decide,
      show (nI 3 = 0) = False from by decide, show (nI 3 = 1) = False from by decide, show (nI 3 = 2) = False from by decide, show (nI 3 = 3) = True from by decide, show (nI 3 = 4) = False from by decide, show (nI 3 = 5) = False from by decide,
      show (nI 4 = 0) = False from by decide, show (nI 4 = 1) = False from by decide, show (nI 4 = 2) = False from by decide, show (nI 4 = 3) = False from by decide, show (nI 4 = 4) = True from by decide, show (nI 4 = 5) = False from by decide,
      show (nI 5 = 0) = False from by decide, show (nI 5 = 1) = False from by decide, show (nI 5 = 2) = False from by decide, show (nI 5 = 3) = False from by decide, show (nI 5 = 4) = False from by decide, show (nI 5 = 5) = True from by decide,
      show (nI 6 = 0) = False from by decide, show (nI 6 = 1) = False from by decide, show (nI 6 = 2) = False from by decide, show (nI 6 = 3) = False from by decide, show (nI 6 = 4) = False from by decide, show (nI 6 = 5) = False from by decide,
      if_true, if_false, show xf1 0 = 1 from rfl, show xf1 1 = 3 from rfl, show xf1 2 = 5 from rfl, show xf1 3 = 0 from rfl, show xf1 4 = 2 from rfl, show xf1 5 = 4 from rfl, show xf1 6 = 6 from rfl]
    intros
    repeat' split
    all_goals rfl
def mkP (rule : Int32) (l o : Int32) : Int32 :=
  if rule = 0 then (if l < 0 then -1 else if 84 ≤ l then -1 else l) else (if (o - (-2)) * 7 + l < 0 then -1 else if 84 ≤ (o - (-2)) * 7 + l then -1 else (o - (-2)) * 7 + l)
theorem c_mkP {n q : Nat} {r l o : Int32} {u : Mm} {Q : Int32 → Mm → Prop} : w_X8_markPlace n q r l o u Q = Q (mkP r l o) u := by
  unfold w_X8_markPlace w_X8_markPlace_17 w_X8_markPlace_36 w_X8_markPlace_37 mkP
  simp only [br_if, br_ifn]
  by_cases h : r = 0
  · simp only [h, if_true]
    by_cases h1 : l < 0 <;> by_cases h2 : (84 : Int32) ≤ l <;> simp only [h1, h2, if_true, if_false]
  · simp only [h, if_false]
    by_cases h1 : (o - (-2)) * 7 + l < 0 <;> by_cases h2 : (84 : Int32) ≤ (o - (-2)) * 7 + l <;> simp only [h1, h2, if_true, if_false]
theorem mk_in : ∀ oN, oN < 12 → ∀ l, l < 7 → (nI oN - 2 - (-2)) * 7 + nI l = nI (7 * oN + l) ∧ (nI oN - 2 + 20) &&& 63 = nI (oN + 18) := by decide +kernel
theorem mkP_r0 {l : Nat} {o : Int32} (hl : l < 7) : mkP 0 (nI l) o = nI l := by
  unfold mkP
  rw [if_pos rfl, if_neg (nI_pos (by omega)), if_neg (show ¬ (84 : Int32) ≤ _ from nI_ge (b := 84) (by omega) (by omega))]
theorem mkP_in {l oN : Nat} {r : Int32} (hr : r ≠ 0) (hl : l < 7) (ho : oN < 12) : mkP r (nI l) (nI oN - 2) = nI (7 * oN + l) := by
  unfold mkP
  rw [if_neg hr, (mk_in oN ho l hl).1, if_neg (nI_pos (by omega)), if_neg (show ¬ (84 : Int32) ≤ _ from nI_ge (b := 84) (by omega) (by omega))]
theorem mkP_out {l : Nat} {r o : Int32} (hr : r ≠ 0) (hl : l < 7) (hb : -3000 ≤ o.toInt ∧ o.toInt ≤ 3000) (ho : ¬ inr' o) : mkP r (nI l) o = -1 := by
  unfold mkP inr' at *
  have e2 : (-2 : Int32).toInt = -2 := by decide
  have e7 : (7 : Int32).toInt = 7 := by decide
  have e84 : (84 : Int32).toInt = 84 := by decide
  have e0 : (0 : Int32).toInt = 0 := by decide
  have s1 : (o - (-2)).toInt = o.toInt + 2 := by rw [i32_sub (by omega) (by omega)]; omega
  have s2 : ((o - (-2)) * 7).toInt = (o.toInt + 2) * 7 := by rw [i32_mul (by rw [s1, e7]; omega) (by rw [s1, e7]; omega), s1, e7]
  have s3 : ((o - (-2)) * 7 + nI l).toInt = (o.toInt + 2) * 7 + l := by
    rw [i32_add (by rw [s2, nI_toInt (by omega)]; omega) (by rw [s2, nI_toInt (by omega)]; omega), s2, nI_toInt (by omega)]
  rw [if_neg hr]
  by_cases h1 : (o - (-2)) * 7 + nI l < 0
  · rw [if_pos h1]
  · rw [if_neg h1, if_pos]
    rw [Int32.lt_iff_toInt_lt, s3, e0] at h1
    rw [Int32.le_iff_toInt_le, s3, e84]
    omega
def cSg (p : Int32) (mk : Nat → Int32) (sg : Int32) (l : Nat) : Int32 := if 0 ≤ p ∧ p < 84 ∧ mk (ix p) ≠ 0 then mk (ix p) - 3 else ksC sg l
theorem c_signOf {n w l : Nat} {r o : Int32} {u : Mm} {Q : Int32 → Mm → Prop} (hl : l < 7) : w_X8_signOf n (50 + w) r (nI l) o u Q = Q (cSg (mkP r (nI l) o) (u.1 (59 + w)) (u.1 (50 + w) 7) l) u := by
  unfold w_X8_signOf cSg
  rw [c_mkP]
  simp only [br_if, br_ifn, c_key41 hl, show 50 + w + 9 = 59 + w from by omega]
  generalize mkP r (nI l) o = p
  by_cases h1 : p < 0
  · rw [if_pos h1, if_neg (fun z => absurd h1 (Int32.not_lt.mpr z.1))]
  · rw [if_neg h1]
    by_cases h2 : (84 : Int32) ≤ p
    · rw [if_pos h2, if_neg (fun z => absurd z.2.1 (Int32.not_lt.mpr h2))]
    · rw [if_neg h2]
      have hin : vp_in p 84 := by
        obtain ⟨j, hj, rfl⟩ := nI_of h1
        have : j < 84 := (nI_ltI (b := 84) hj (by omega)).mp (Int32.not_le.mp h2)
        exact vp_in_nI this (by omega)
      rw [eq_true hin, true_and]
      by_cases h3 : u.1 (59 + w) (ix p) = 0
      · rw [if_pos h3, if_neg (fun z => z.2.2 h3)]
      · rw [if_neg h3, if_pos ⟨Int32.not_lt.mp h1, Int32.not_le.mp h2, h3⟩, true_and]
def cMk (p : Int32) (w : Nat) (x : Int32) (u : Mm) : Mm := if 0 ≤ p ∧ p < 84 then setI (setI u (59 + w) (ix p) x) (50 + w) 3 1 else u
theorem c_mark {n w : Nat} {r l o x : Int32} {u : Mm} {Q : Mm → Prop} : w_X8_mark n (50 + w) r l o x u Q = Q (cMk (mkP r l o) w (x + 3) u) := by
  unfold w_X8_mark w_X8_mark_37 cMk mlet
  rw [c_mkP]
  simp only [br_if, br_ifn, show 50 + w + 9 = 59 + w from by omega]
  generalize mkP r l o = p
  by_cases h1 : p < 0
  · rw [if_pos h1, if_neg (fun z => absurd h1 (Int32.not_lt.mpr z.1))]
  · rw [if_neg h1]
    by_cases h2 : (84 : Int32) ≤ p
    · rw [if_pos h2, if_neg (fun z => absurd z.2 (Int32.not_lt.mpr h2))]
    · rw [if_neg h2]
      have hin : vp_in p 84 := by
        obtain ⟨j, hj, rfl⟩ := nI_of h1
        have : j < 84 := (nI_ltI (b := 84) hj (by omega)).mp (Int32.not_le.mp h2)
        exact vp_in_nI this (by omega)
      rw [eq_true hin, true_and, if_pos ⟨Int32.not_lt.mp h1, Int32.not_le.mp h2⟩]
/-- the reference's place -/
def mPl (rule : Int32) (w l : Nat) (o : Int32) : Nat := 448 * w + 64 * l + (if rule = 0 then 0 else ((o + 20) &&& 63).toBitVec.toNat % 64)
theorem r_place {n w l : Nat} {o : Int32} {v : Mm} {Q : Int32 → Mm → Prop} {T' : Mm → Prop} (hw : w < 3) (hl : l < 7) (h28 : v.1 0 28 = nI w) : w_X12_signPlace n (nI l) o v Q T' = Q (nI (mPl (v.1 0 2) w l o)) v := by
  unfold w_X12_signPlace w_X12_signPlace_30 mPl
  rw [h28]
  simp only [br_ifn]
  by_cases h : v.1 0 2 = 0
  · rw [if_pos h, if_pos h]
    rw [nl_mulr, nn_add, nl_mul, show (0 : Int32) = nI 0 from rfl, nn_add]
    rw [show (7 * w + l) * 64 + 0 = 448 * w + 64 * l + 0 from by omega]
  · rw [if_neg h, if_neg h]
    obtain ⟨j, hj, ej⟩ := pk_andE (o + 20) (m := 63) 6 rfl
    rw [ej, pk_tn (by omega), Nat.mod_eq_of_lt (show j < 64 by omega), nl_mulr, nn_add, nl_mul, nn_add]
    rw [show (7 * w + l) * 64 + j = 448 * w + 64 * l + j from by omega]
theorem mPl_lt {r o : Int32} {w l : Nat} (hl : l < 7) : ∃ k, k < 448 ∧ mPl r w l o = 448 * w + k := by
  unfold mPl
  by_cases h : r = 0
  · rw [if_pos h]; exact ⟨64 * l, by omega, by omega⟩
  · rw [if_neg h]
    have := Nat.mod_lt ((o + 20) &&& 63).toBitVec.toNat (show 0 < 64 by omega)
    exact ⟨64 * l + ((o + 20) &&& 63).toBitVec.toNat % 64, by omega, by omega⟩
theorem mPl_in {r : Int32} {w l oN : Nat} (hr : r ≠ 0) (hl : l < 7) (ho : oN < 12) : mPl r w l (nI oN - 2) = 448 * w + 64 * l + oN + 18 := by
  unfold mPl
  rw [if_neg hr, (mk_in oN ho l hl).2, pk_tn (by omega), Nat.mod_eq_of_lt (by omega)]
  omega
def mSg (b : Int32) (sg : Int32) (l : Nat) : Int32 := if b = 100 then ksM sg l else b
theorem r_ps99 {n w l : Nat} {o : Int32} {v : Mm} {Q : Int32 → Mm → Prop} {T' : Mm → Prop} (hw : w < 3) (hl : l < 7) (h28 : v.1 0 28 = nI w) : w_X12_plainSign_99 n (nI l) o v Q T' = Q (mSg (v.1 22 (mPl (v.1 0 2) w l o)) (v.1 12 w) l) v := by
  obtain ⟨k, hk, ek⟩ := mPl_lt (r := v.1 0 2) (o := o) (w := w) hl
  unfold w_X12_plainSign_99 w_X12_plainSign_129 ilet mSg
  rw [r_place hw hl h28, eq_true (vp_in_nI (N := 1344) (n := mPl (v.1 0 2) w l o) (by omega) (by omega)), true_and, nn_ix (by omega)]
  simp only [br_if, r_key hw hl h28]
  by_cases h : v.1 22 (mPl (v.1 0 2) w l o) = 100
  · rw [if_pos h, if_pos h]
  · rw [if_neg h, if_neg h]
theorem okS_b : ∀ j, j < 6 → 1 ≤ j → -2 ≤ (nI j - 3).toInt ∧ (nI j - 3).toInt ≤ 2 ∧ nI j - 3 ≠ 100 ∧ nI j ≠ 0 := by decide +kernel
theorem S_sgn {z : Mm × Mm} {T : Nat → Nat} {sz B e s p c c0 w n l : Nat} {o : Int32} {u v : Mm} (hR : Rm z T sz B e s p c c0 w u v) (hl : l < 7) (ho : -3000 ≤ o.toInt ∧ o.toInt ≤ 3000) : ∃ sc sr : Int32, (∀ Q, w_X8_signOf n (50 + w) (u.1 35 0) (nI l) o u Q = Q sc u) ∧ (∀ Q T', w_X12_plainSign_99 n (nI l) o v Q T' = Q sr v) ∧ sgB sc ∧ sgB sr ∧ (inr' o → sc = sr) := by
  obtain ⟨⟨hKc, hKm, h33_6⟩, hT, hL, hC, hM, hU, hS, hI, hW, hN, hY, hH, hD, hG, h0⟩ := hR
  obtain ⟨hw, w1, w2, w3, w4, w5, w6⟩ := hW
  obtain ⟨⟨u1, u2, u3⟩, -, -⟩ := hU w hw
  obtain ⟨s1, s2, s3, s4⟩ := hS w hw
  have hk := ks_eq ⟨u2, u3⟩ hl
  refine ⟨_, _, fun Q => c_signOf hl, fun Q T' => r_ps99 hw hl w2, ?_⟩
  rw [w5, u1]
  have fin : ∀ (pl : Nat) (pm : Nat), pl < 84 → rlS (u.1 (59 + w) pl) (v.1 22 pm) → cSg (nI pl) (u.1 (59 + w)) (v.1 12 w) l = mSg (v.1 22 pm) (v.1 12 w) l ∧ sgB (mSg (v.1 22 pm) (v.1 12 w) l) := by
    intro pl pm hpl hrl
    unfold cSg mSg
    rw [nn_ix (by omega)]
    rcases hrl with ⟨e1, e2⟩ | ⟨j, j1, j2, e1, e2⟩
    · rw [if_neg (fun z => z.2.2 e1), if_pos e2]; exact ⟨hk.1, hk.1 ▸ hk.2⟩
    · have hj := okS_b j (by omega) j1
      rw [if_pos ⟨nI_pos' (by omega), nI_lt (b := 84) hpl (by omega), by rw [e1]; exact hj.2.2.2⟩, if_neg (by rw [e2]; exact hj.2.2.1), e1, e2]
      exact ⟨rfl, hj.1, hj.2.1⟩
  by_cases hr : v.1 0 2 = 0
  · have hf := fin l (448 * w + 64 * l) (by omega) (s1 hr l hl)
    have e : mPl (v.1 0 2) w l o = 448 * w + 64 * l := by unfold mPl; rw [if_pos hr]; omega
    rw [e, hr, mkP_r0 hl, hf.1]
    exact ⟨hf.2, hf.2, fun _ => rfl⟩
  · by_cases hi : inr' o
    · obtain ⟨oN, hoN, rfl⟩ := off2 hi
      have hf := fin (7 * oN + l) (448 * w + 64 * l + oN + 18) (by omega) (s2 hr l oN hl hoN)
      rw [mPl_in hr hl hoN, mkP_in hr hl hoN, hf.1]
      exact ⟨hf.2, hf.2, fun _ => rfl⟩
    · rw [mkP_out hr hl ho hi]
      obtain ⟨k, hk', ek⟩ := mPl_lt (r := v.1 0 2) (o := o) (w := w) hl
      refine ⟨?_, ?_, fun z => absurd z hi⟩
      · unfold cSg
        rw [if_neg (fun z => absurd z.1 (by decide))]; exact hk.2
      · rw [ek]
        unfold mSg
        rcases s4 k hk' with e1 | ⟨j, j1, j2, e1⟩
        · rw [if_pos e1, ← hk.1]; exact hk.2
        · have hj := okS_b j (by omega) j1
          rw [if_neg (by rw [e1]; exact hj.2.2.1), e1]; exact ⟨hj.1, hj.2.1⟩
