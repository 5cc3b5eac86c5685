/-! words -/
def wc (a i : Nat) : Nat := ix ((xtx.getD a []).getD i 0)
def wn (a : Nat) : Nat := (xtx.getD a []).length
set_option maxRecDepth 20000 in
theorem xt_ok : ∀ a, a < 31 → wn a ≤ 17 ∧ ∀ i, i < wn a → (xtx.getD a []).getD i 0 = nI (wc a i) ∧ 32 < wc a i ∧ wc a i < 127 := by decide +kernel
def wl (a : Nat) : List Nat := (List.range (wn a)).map (wc a)
def wm (T : Nat → Nat) (s : Nat) : Nat → List Nat → Bool
  | _, [] => true
  | p, c :: cs => (bv T s p == c) && wm T s (p + 1) cs
theorem wm_cons {T : Nat → Nat} {s p c : Nat} {cs : List Nat} : (wm T s p (c :: cs) = true) = (bv T s p = c ∧ wm T s (p + 1) cs = true) := by
  simp [wm]
theorem wm_nil {T : Nat → Nat} {s p : Nat} : (wm T s p [] = true) = True := by simp [wm]
theorem wl_len {a : Nat} : (wl a).length = wn a := by simp [wl]
theorem wl_drop {a i : Nat} (h : i < wn a) : (wl a).drop i = wc a i :: (wl a).drop (i + 1) := by
  rw [List.drop_eq_getElem_cons (by rw [wl_len]; exact h)]
  simp [wl]
theorem wl_end {a i : Nat} (h : wn a ≤ i) : (wl a).drop i = [] := List.drop_eq_nil_of_le (by rw [wl_len]; exact h)
/-- a word that goes beyond the line's end is not there -/
theorem wm_out {T : Nat → Nat} {s a : Nat} (ha : a < 31) : ∀ (d i p : Nat), wn a - i = d → i < wn a → s < p + d → p ≤ s → wm T s p ((wl a).drop i) = false := by
  intro d
  induction d with
  | zero => intro i p hd hi; omega
  | succ d ih =>
    intro i p hd hi hs hp
    rw [wl_drop hi]
    have hc := ((xt_ok a ha).2 i hi).2
    rw [wm]
    by_cases h1 : p < s
    · by_cases h2 : i + 1 < wn a
      · rw [ih (i + 1) (p + 1) (by omega) h2 (by omega) (by omega), Bool.and_false]
      · omega
    · have : bv T s p = 0 := bv_out (by omega)
      rw [this]
      have : (0 == wc a i) = false := by
        rw [beq_eq_false_iff_ne]; omega
      rw [this, Bool.false_and]
theorem j_len {n a : Nat} {u : Mm} {Q : Int32 → Mm → Prop} (ha : a < 31) : w_J0_length_8abf5 n a u Q = Q (nI (wn a)) u := by
  have h := (xt_ok a ha).1
  have hz : narrow .byte (.int 0) = .int 0 := rfl
  have e : Int32.ofNat (xtx.getD a []).length >>> ((0 : Int32) &&& 31) = nI (wn a) := sc_shr0 (show wn a < 2 ^ 31 by omega)
  unfold w_J0_length_8abf5 w_J0_coder_7d493 w_J0_coder_7d493_14
  simp only [br_if, i10, if_false, hz, true_and, e]
theorem j_char {n a i : Nat} {u : Mm} {Q : Int32 → Mm → Prop} (h : a < 31 ∧ i < wn a) : w_J0_charAt_5068e n a (nI i) u Q = Q (nI (wc a i)) u := by
  obtain ⟨hl, hx⟩ := xt_ok a h.1
  obtain ⟨e, b1, b2⟩ := hx i h.2
  have e1 : ((nI (wc a i) &&& 255).toUInt32 % 65536).toInt32 = nI (wc a i) := by
    rw [and255 (by omega), pk_char, pk_tn (by omega), Nat.mod_eq_of_lt (by omega)]
  have e2 : (nI i < Int32.ofNat (xtx.getD a []).length) = True := eq_true (nI_lt h.2 (show wn a < 2 ^ 31 by omega))
  have e3 : vp_in (nI i) (xtx.getD a []).length = True := eq_true (vp_in_nI h.2 (show wn a < 2 ^ 31 by omega))
  have e4 : (nI i < 0) = False := eq_false (nI_pos (show i < 2 ^ 31 by omega))
  have e5 : narrow .char (.int (nI (wc a i))) = .int (nI (wc a i)) := (pk_charN (show wc a i < 65536 by omega)).1
  have e6 : ix (nI i) = i := nI_clamp (show i < 2 ^ 31 by omega)
  unfold w_J0_charAt_5068e w_J0_isLatin1_aae02 w_J0_isLatin1_aae02_17 w_J0_isLatin1_aae02_18 w_J1_charAt_3b067 w_J0_checkIndex_df160 w_J3_checkIndex_8e157
  simp only [↓br_if, ↓br_ifn, i10, i00, if_false, if_true, nb1, true_and, e2, e3, e4, not_false_eq_true, e6, e, e1, e5]
theorem c_tw41 {n a : Nat} {Q : Int32 → Mm → Prop} {T : Nat → Nat} {s p q B : Nat} (ha : a < 31) {u : Mm} (hT : jT T s p (u.1 B)) (hP : u.2.2 1 = B) (h2 : u.1 33 2 = nI q) (hp : p ≤ q) (hq : q + wn a ≤ s) : ∀ (d k i : Nat), wn a - i = d → d < k → i ≤ wn a → w_X5_takeWord_41 n a Q k (nI (wn a)) (nI i) u = if wm T s (q + i) ((wl a).drop i) = true then Q 1 (setI u 33 2 (nI (q + wn a))) else Q 0 u := by
  intro d
  have hs := hT.1
  have hl := (xt_ok a ha).1
  induction d with
  | zero =>
    intro k i hd hk hi
    obtain ⟨k, rfl⟩ : ∃ j, k = j + 1 := ⟨k - 1, by omega⟩
    rw [wl_end (by omega), if_pos (show wm T s (q + i) [] = true from rfl)]
    simp (disch := omega) only [mlet, ilet, jlet, ↓br_if, ↓br_ifn, ↓reduceIte, nl_lt_t, nl_lt_f, nl_gt_t, nl_gt_f, nl_le_t, nl_le_f, nl_ge_t, nl_ge_f, nl_eq_t, nl_eq_f, nn_lt_t, nn_lt_f, nn_le_t, nn_le_f, nn_eq_t, nn_eq_f, nl_add, nl_sub, nl_mul, nl_mulr, nn_add, nn_ix, nn_in, true_and, and_true, gI_if, gIj, gIr, gJ_if, gJi, gJr, gPr, gPi, gPj, hu_if, hv_if, Nat.reduceEqDiff, eq_self, bIT, bIF, Nat.add_zero, Nat.add_assoc, Nat.reduceAdd, nb0, nb1, i10, i00, Bool.false_eq_true, bI_t, bI_f, if_pos, if_neg, w_X5_takeWord_41, h2]
  | succ d ih =>
    intro k i hd hk hi
    obtain ⟨k, rfl⟩ : ∃ j, k = j + 1 := ⟨k - 1, by omega⟩
    have hi' : i < wn a := by omega
    obtain ⟨-, b1, b2⟩ := (xt_ok a ha).2 i hi'
    have he : u.1 B (q + i) = nI (bv T s (q + i)) := by rw [bv_in (by omega)]; exact (hT.2 (q + i) (by omega) (by omega)).1
    have hb := hT.bd (q + i) (by omega)
    rw [wl_drop hi']
    by_cases hc : bv T s (q + i) = wc a i
    · have := ih k (i + 1) (by omega) (by omega) (by omega)
      have e : wm T s (q + i) (wc a i :: (wl a).drop (i + 1)) = wm T s (q + (i + 1)) ((wl a).drop (i + 1)) := by
        rw [wm, hc]; simp [Nat.add_assoc]
      rw [e, ← this]
      simp (disch := omega) only [mlet, ilet, jlet, ↓br_if, ↓br_ifn, ↓reduceIte, nl_lt_t, nl_lt_f, nl_gt_t, nl_gt_f, nl_le_t, nl_le_f, nl_ge_t, nl_ge_f, nl_eq_t, nl_eq_f, nn_lt_t, nn_lt_f, nn_le_t, nn_le_f, nn_eq_t, nn_eq_f, nl_add, nl_sub, nl_mul, nl_mulr, nn_add, nn_ix, nn_in, true_and, and_true, gI_if, gIj, gIr, gJ_if, gJi, gJr, gPr, gPi, gPj, hu_if, hv_if, Nat.reduceEqDiff, eq_self, bIT, bIF, Nat.add_zero, Nat.add_assoc, Nat.reduceAdd, nb0, nb1, i10, i00, Bool.false_eq_true, bI_t, bI_f, if_pos, if_neg, w_X5_takeWord_41, h2, hP, he, j_char, hc]
    · have e : wm T s (q + i) (wc a i :: (wl a).drop (i + 1)) = false := by
        rw [wm, beq_eq_false_iff_ne.mpr hc, Bool.false_and]
      rw [e]
      simp (disch := omega) only [mlet, ilet, jlet, ↓br_if, ↓br_ifn, ↓reduceIte, nl_lt_t, nl_lt_f, nl_gt_t, nl_gt_f, nl_le_t, nl_le_f, nl_ge_t, nl_ge_f, nl_eq_t, nl_eq_f, nn_lt_t, nn_lt_f, nn_le_t, nn_le_f, nn_eq_t, nn_eq_f, nl_add, nl_sub, nl_mul, nl_mulr, nn_add, nn_ix, nn_in, true_and, and_true, gI_if, gIj, gIr, gJ_if, gJi, gJr, gPr, gPi, gPj, hu_if, hv_if, Nat.reduceEqDiff, eq_self, bIT, bIF, Nat.add_zero, Nat.add_assoc, Nat.reduceAdd, nb0, nb1, i10, i00, Bool.false_eq_true, bI_t, bI_f, if_pos, if_neg, w_X5_takeWord_41, h2, hP, he, j_char]
def gtw (n a B : Nat) (f : Nat → Int32) (s x : Int32) (u : Mm) (Q : Int32 → Mm → Prop) : Prop := (u.2.2 1 = B ∧ u.1 B = f ∧ u.1 33 4 = s ∧ u.1 33 2 = x → w_X5_takeWord n a u Q) ∧ (¬ (u.2.2 1 = B ∧ u.1 B = f ∧ u.1 33 4 = s ∧ u.1 33 2 = x) → if wm (fun i => ix (f i)) (ix s) (ix x) (wl a) = true then Q 1 (setI u 33 2 (nI (ix x + wn a))) else Q 0 u)
theorem c_tw {n a : Nat} {u : Mm} {Q : Int32 → Mm → Prop} : w_X5_takeWord n a u Q = gtw n a (u.2.2 1) (u.1 (u.2.2 1)) (u.1 33 4) (u.1 33 2) u Q := by
  unfold gtw
  exact propext ⟨fun h => ⟨fun _ => h, fun z => absurd ⟨rfl, rfl, rfl, rfl⟩ z⟩, fun h => h.1 ⟨rfl, rfl, rfl, rfl⟩⟩
theorem wm_congr {T T' : Nat → Nat} {s : Nat} : ∀ (l : List Nat) (p : Nat), (∀ i, p ≤ i → i < s → T i = T' i) → wm T s p l = wm T' s p l := by
  intro l
  induction l with
  | nil => intro p h; rfl
  | cons c cs ih =>
    intro p h
    have e : bv T s p = bv T' s p := by
      by_cases hs : p < s
      · rw [bv_in hs, bv_in hs, h p (Nat.le_refl _) hs]
      · rw [bv_out (by omega), bv_out (by omega)]
    rw [wm, wm, e, ih (p + 1) (fun i hi => h i (by omega))]
theorem gtw_eq {n a B : Nat} {T : Nat → Nat} {s p : Nat} {f : Nat → Int32} {u : Mm} {Q : Int32 → Mm → Prop} (hT : jT T s p f) {q : Nat} (h : a < 31 ∧ 5000 ≤ n ∧ p ≤ q ∧ q ≤ s) : gtw n a B f (nI s) (nI q) u Q = if wm T s q (wl a) = true then Q 1 (setI u 33 2 (nI (q + wn a))) else Q 0 u := by
  have hs := hT.1
  have hl := (xt_ok a h.1).1
  unfold gtw
  by_cases hc : u.2.2 1 = B ∧ u.1 B = f ∧ u.1 33 4 = nI s ∧ u.1 33 2 = nI q
  · rw [br_pos hc]
    obtain ⟨h1, h2, h3, h4⟩ := hc
    by_cases hf : q + wn a ≤ s
    · have := c_tw41 (n := n) (Q := Q) h.1 (u := u) (h2 ▸ hT) h1 h4 h.2.2.1 hf _ n 0 rfl (by omega) (by omega)
      rw [Nat.add_zero, List.drop_zero, show nI 0 = 0 from rfl] at this
      simp (disch := omega) only [mlet, ilet, jlet, ↓br_if, ↓br_ifn, ↓reduceIte, nl_lt_t, nl_lt_f, nl_gt_t, nl_gt_f, nl_le_t, nl_le_f, nl_ge_t, nl_ge_f, nl_eq_t, nl_eq_f, nn_lt_t, nn_lt_f, nn_le_t, nn_le_f, nn_eq_t, nn_eq_f, nl_add, nl_sub, nl_mul, nl_mulr, nn_add, nn_ix, nn_in, true_and, and_true, gI_if, gIj, gIr, gJ_if, gJi, gJr, gPr, gPi, gPj, hu_if, hv_if, Nat.reduceEqDiff, eq_self, bIT, bIF, Nat.add_zero, Nat.add_assoc, Nat.reduceAdd, nb0, nb1, i10, i00, Bool.false_eq_true, bI_t, bI_f, if_pos, if_neg, w_X5_takeWord, w_X5_takeWord_37, j_len, h3, h4, pk_sub, this]
    · have hw : wm T s q (wl a) = false := by
        have := wm_out (T := T) (s := s) h.1 _ 0 q rfl (by omega) (by omega) h.2.2.2
        rwa [List.drop_zero] at this
      rw [hw]
      simp (disch := omega) only [mlet, ilet, jlet, ↓br_if, ↓br_ifn, ↓reduceIte, nl_lt_t, nl_lt_f, nl_gt_t, nl_gt_f, nl_le_t, nl_le_f, nl_ge_t, nl_ge_f, nl_eq_t, nl_eq_f, nn_lt_t, nn_lt_f, nn_le_t, nn_le_f, nn_eq_t, nn_eq_f, nl_add, nl_sub, nl_mul, nl_mulr, nn_add, nn_ix, nn_in, true_and, and_true, gI_if, gIj, gIr, gJ_if, gJi, gJr, gPr, gPi, gPj, hu_if, hv_if, Nat.reduceEqDiff, eq_self, bIT, bIF, Nat.add_zero, Nat.add_assoc, Nat.reduceAdd, nb0, nb1, i10, i00, Bool.false_eq_true, bI_t, bI_f, if_pos, if_neg, w_X5_takeWord, w_X5_takeWord_37, j_len, h3, h4, pk_sub]
  · rw [br_neg hc, nn_ix (by omega), nn_ix (by omega), wm_congr (T := fun i => ix (f i)) (T' := T) _ q (fun i hi hs' => by
      show ix (f i) = T i
      obtain ⟨e, b1, b2⟩ := hT.2 i (by omega) hs'
      rw [e, nn_ix (by omega)])]
