/-! the text's calls as values: what is read ahead of what follows it -/
def jTg (f : Nat → Int32) (s a : Int32) : Prop := ∃ (T : Nat → Nat) (s' q : Nat), jT T s' q f ∧ s = nI s' ∧ a = nI q ∧ q ≤ s'
def gdC (n B : Nat) (f : Nat → Int32) (s a fl : Int32) : Prop := 5000 ≤ n ∧ B ≠ 33 ∧ fl = 0 ∧ jTg f s a
def gdM (n : Nat) (f : Nat → Int32) (s a : Int32) : Prop := 5000 ≤ n ∧ jTg f s a
theorem jTg_t {T : Nat → Nat} {s p q : Nat} {f : Nat → Int32} (hT : jT T s p f) (h : p ≤ q ∧ q ≤ s) : jTg f (nI s) (nI q) := ⟨T, s, q, hT.adv h.1, rfl, rfl, h.2⟩
theorem gdC_t {n B : Nat} {T : Nat → Nat} {s p q : Nat} {f : Nat → Int32} (hT : jT T s p f) (h : 5000 ≤ n ∧ 33 < B ∧ p ≤ q ∧ q ≤ s) : gdC n B f (nI s) (nI q) 0 = True := eq_true ⟨h.1, by omega, rfl, jTg_t hT h.2.2⟩
theorem gdM_t {n : Nat} {T : Nat → Nat} {s p q : Nat} {f : Nat → Int32} (hT : jT T s p f) (h : 5000 ≤ n ∧ p ≤ q ∧ q ≤ s) : gdM n f (nI s) (nI q) = True := eq_true ⟨h.1, jTg_t hT h.2⟩
def fI (f : Nat → Int32) : Nat → Nat := fun i => ix (f i)
def vblk (f : Nat → Int32) (s a : Int32) : Nat := blkP (fI f) (ix s) (ix a)
def vval (f : Nat → Int32) (s a : Int32) : Nat := nvaP (fI f) (ix s) (ix a) 0
def vend (f : Nat → Int32) (s a : Int32) : Nat := nenP (fI f) (ix s) (ix a)
def vok (f : Nat → Int32) (s a g : Int32) : Prop := nok0 (fI f) (ix s) (ix a) (ix g)
def vok1 (f : Nat → Int32) (s a g : Int32) : Prop := nok1 (fI f) (ix s) (ix a) (ix g)
def vwm (f : Nat → Int32) (s a : Int32) (k : Nat) : Prop := wm (fI f) (ix s) (ix a) (wl k) = true
section VV
variable {T : Nat → Nat} {s p q : Nat} {f : Nat → Int32}
theorem vblk_eq (hT : jT T s p f) (h : p ≤ q ∧ q ≤ s) : vblk f (nI s) (nI q) = blkP T s q := by
  have hs := hT.1
  unfold vblk fI
  rw [nn_ix (by omega), nn_ix (by omega), blk_congr _ q rfl (hT.ixc h.1)]
theorem vval_eq (hT : jT T s p f) (h : p ≤ q ∧ q ≤ s) : vval f (nI s) (nI q) = nvaP T s q 0 := by
  have hs := hT.1
  unfold vval fI
  rw [nn_ix (by omega), nn_ix (by omega), (nva_congr _ q 0 rfl (hT.ixc h.1)).1]
theorem vend_eq (hT : jT T s p f) (h : p ≤ q ∧ q ≤ s) : vend f (nI s) (nI q) = nenP T s q := by
  have hs := hT.1
  unfold vend fI
  rw [nn_ix (by omega), nn_ix (by omega), (nva_congr _ q 0 rfl (hT.ixc h.1)).2]
theorem vok_eq (hT : jT T s p f) {g : Nat} (h : p ≤ q ∧ q ≤ s ∧ (OfNat.ofNat g : Nat) < 2147483648) : vok f (nI s) (nI q) (no_index (OfNat.ofNat g : Int32)) = nok0 T s q (OfNat.ofNat g : Nat) := by
  have hs := hT.1
  unfold vok fI nok0
  rw [nn_ix (by omega), nn_ix (by omega), (nva_congr _ q 0 rfl (hT.ixc h.1)).1, show (OfNat.ofNat g : Int32) = nI (OfNat.ofNat g : Nat) from rfl, nn_ix h.2.2]
theorem vok1_eq (hT : jT T s p f) {g : Nat} (h : p ≤ q ∧ q ≤ s ∧ (OfNat.ofNat g : Nat) < 2147483648) : vok1 f (nI s) (nI q) (no_index (OfNat.ofNat g : Int32)) = nok1 T s q (OfNat.ofNat g : Nat) := by
  have hs := hT.1
  unfold vok1 fI nok1 nok0
  rw [nn_ix (by omega), nn_ix (by omega), (nva_congr _ q 0 rfl (hT.ixc h.1)).1, show (OfNat.ofNat g : Int32) = nI (OfNat.ofNat g : Nat) from rfl, nn_ix h.2.2]
theorem vwm_eq (hT : jT T s p f) {k : Nat} (h : p ≤ q ∧ q ≤ s) : vwm f (nI s) (nI q) k = (wm T s q (wl k) = true) := by
  have hs := hT.1
  unfold vwm fI
  rw [nn_ix (by omega), nn_ix (by omega), wm_congr (T := fun i => ix (f i)) (T' := T) _ q (hT.ixc h.1)]
end VV
def za_skip (n : Nat) (u : Mm) (Q : Mm → Prop) : Prop := w_X5_skipBlanks n u Q
def za_num (n : Nat) (g pw : Int32) (u : Mm) (Q : Int32 → Mm → Prop) : Prop := w_X5_number n g pw u Q
def za_tw (n a : Nat) (u : Mm) (Q : Int32 → Mm → Prop) : Prop := w_X5_takeWord n a u Q
def za_bl (n : Nat) (v : Mm) (Q T : Mm → Prop) : Prop := w_X12_blanks n v Q T
def za_no (n : Nat) (g bl : Int32) (v : Mm) (Q : Int32 → Mm → Prop) (T : Mm → Prop) : Prop := w_X12_numberOf n 1 g bl v Q T
def za_iw (n a : Nat) (v : Mm) (Q : Int32 → Mm → Prop) (T : Mm → Prop) : Prop := w_X12_isWord n a v Q T
theorem d_skip {n : Nat} {u : Mm} {Q : Mm → Prop} : w_X5_skipBlanks n u Q = @ite _ (gdC n (u.2.2 1) (u.1 (u.2.2 1)) (u.1 33 4) (u.1 33 2) 0) (Classical.propDecidable _) (Q (setI u 33 2 (nI (vblk (u.1 (u.2.2 1)) (u.1 33 4) (u.1 33 2))))) (za_skip n u Q) := by
  by_cases h : gdC n (u.2.2 1) (u.1 (u.2.2 1)) (u.1 33 4) (u.1 33 2) 0
  · rw [if_pos h]
    obtain ⟨hn, hB, -, T, s', q, hT, h4, h2, hq⟩ := h
    rw [c_skip, h4, h2, gsk_eq hT ⟨hB, hn, Nat.le_refl _, hq⟩, vblk_eq hT ⟨Nat.le_refl _, hq⟩]
  · rw [if_neg h]; rfl
theorem d_num0 {n g : Nat} {u : Mm} {Q : Int32 → Mm → Prop} (hg : (OfNat.ofNat g : Nat) ≤ 9999) : w_X5_number n (no_index (OfNat.ofNat g : Int32)) 0 u Q = @ite _ (gdC n (u.2.2 1) (u.1 (u.2.2 1)) (u.1 33 4) (u.1 33 2) (u.1 33 6)) (Classical.propDecidable _) (@ite _ (vok (u.1 (u.2.2 1)) (u.1 33 4) (u.1 33 2) (OfNat.ofNat g : Int32)) (Classical.propDecidable _) (Q (nI (vval (u.1 (u.2.2 1)) (u.1 33 4) (u.1 33 2))) (setI u 33 2 (nI (vend (u.1 (u.2.2 1)) (u.1 33 4) (u.1 33 2))))) (Q 0 (setI (setI (setI u 33 2 (nI (vend (u.1 (u.2.2 1)) (u.1 33 4) (u.1 33 2)))) 33 6 1) 33 7 (u.1 33 2)))) (za_num n (OfNat.ofNat g : Int32) 0 u Q) := by
  by_cases h : gdC n (u.2.2 1) (u.1 (u.2.2 1)) (u.1 33 4) (u.1 33 2) (u.1 33 6)
  · rw [if_pos h]
    obtain ⟨hn, hB, h6, T, s', q, hT, h4, h2, hq⟩ := h
    have hs := hT.1
    rw [c_num, h4, h2, h6, gnu_eq0 hT ⟨hB, hn, Nat.le_refl _, hq, hg⟩, vval_eq hT ⟨Nat.le_refl _, hq⟩, vend_eq hT ⟨Nat.le_refl _, hq⟩]
    have e := vok_eq hT (q := q) (g := g) ⟨Nat.le_refl _, hq, Nat.lt_of_le_of_lt hg (by omega)⟩
    by_cases hk : nok0 T s' q (OfNat.ofNat g : Nat)
    · rw [if_pos (e ▸ hk)]; exact propext (br_pos hk)
    · rw [if_neg (e ▸ hk)]; exact propext (br_neg hk)
  · rw [if_neg h]; rfl
theorem d_num1 {n g : Nat} {u : Mm} {Q : Int32 → Mm → Prop} (hg : (OfNat.ofNat g : Nat) ≤ 9999) : w_X5_number n (no_index (OfNat.ofNat g : Int32)) 1 u Q = @ite _ (gdC n (u.2.2 1) (u.1 (u.2.2 1)) (u.1 33 4) (u.1 33 2) (u.1 33 6)) (Classical.propDecidable _) (@ite _ (vok1 (u.1 (u.2.2 1)) (u.1 33 4) (u.1 33 2) (OfNat.ofNat g : Int32)) (Classical.propDecidable _) (Q (nI (vval (u.1 (u.2.2 1)) (u.1 33 4) (u.1 33 2))) (setI u 33 2 (nI (vend (u.1 (u.2.2 1)) (u.1 33 4) (u.1 33 2))))) (Q 0 (setI (setI (setI u 33 2 (nI (vend (u.1 (u.2.2 1)) (u.1 33 4) (u.1 33 2)))) 33 6 1) 33 7 (u.1 33 2)))) (za_num n (OfNat.ofNat g : Int32) 1 u Q) := by
  by_cases h : gdC n (u.2.2 1) (u.1 (u.2.2 1)) (u.1 33 4) (u.1 33 2) (u.1 33 6)
  · rw [if_pos h]
    obtain ⟨hn, hB, h6, T, s', q, hT, h4, h2, hq⟩ := h
    have hs := hT.1
    rw [c_num, h4, h2, h6, gnu_eq1 hT ⟨hB, hn, Nat.le_refl _, hq, hg⟩, vval_eq hT ⟨Nat.le_refl _, hq⟩, vend_eq hT ⟨Nat.le_refl _, hq⟩]
    have e := vok1_eq hT (q := q) (g := g) ⟨Nat.le_refl _, hq, Nat.lt_of_le_of_lt hg (by omega)⟩
    by_cases hk : nok1 T s' q (OfNat.ofNat g : Nat)
    · rw [if_pos (e ▸ hk)]; exact propext (br_pos hk)
    · rw [if_neg (e ▸ hk)]; exact propext (br_neg hk)
  · rw [if_neg h]; rfl
theorem d_tw {n a : Nat} {u : Mm} {Q : Int32 → Mm → Prop} (ha : a < 31) : w_X5_takeWord n a u Q = @ite _ (gdC n (u.2.2 1) (u.1 (u.2.2 1)) (u.1 33 4) (u.1 33 2) 0) (Classical.propDecidable _) (@ite _ (vwm (u.1 (u.2.2 1)) (u.1 33 4) (u.1 33 2) a) (Classical.propDecidable _) (Q 1 (setI u 33 2 (u.1 33 2 + nI (wn a)))) (Q 0 u)) (za_tw n a u Q) := by
  by_cases h : gdC n (u.2.2 1) (u.1 (u.2.2 1)) (u.1 33 4) (u.1 33 2) 0
  · rw [if_pos h]
    obtain ⟨hn, hB, -, T, s', q, hT, h4, h2, hq⟩ := h
    rw [c_tw, h4, h2, gtw_eq hT ⟨ha, hn, Nat.le_refl _, hq⟩, nI_add]
    have e := vwm_eq hT (q := q) (k := a) ⟨Nat.le_refl _, hq⟩
    by_cases hk : wm T s' q (wl a) = true
    · rw [if_pos hk, if_pos (by rw [e]; exact hk)]
    · rw [if_neg hk, if_neg (by rw [e]; exact hk)]
  · rw [if_neg h]; rfl
theorem d_bl {n : Nat} {v : Mm} {Q T' : Mm → Prop} : w_X12_blanks n v Q T' = @ite _ (gdM n (v.1 3) (v.1 0 9) (v.1 0 7)) (Classical.propDecidable _) (Q (setI v 0 7 (nI (vblk (v.1 3) (v.1 0 9) (v.1 0 7))))) (za_bl n v Q T') := by
  by_cases h : gdM n (v.1 3) (v.1 0 9) (v.1 0 7)
  · rw [if_pos h]
    obtain ⟨hn, T, s', q, hT, h4, h2, hq⟩ := h
    rw [r_blanks, h4, h2, gbl_eq hT ⟨hn, Nat.le_refl _, hq⟩, vblk_eq hT ⟨Nat.le_refl _, hq⟩]
  · rw [if_neg h]; rfl
theorem d_no {n g : Nat} {bl : Int32} {v : Mm} {Q : Int32 → Mm → Prop} {T' : Mm → Prop} (hg : (OfNat.ofNat g : Nat) ≤ 9999) : w_X12_numberOf n 1 (no_index (OfNat.ofNat g : Int32)) bl v Q T' = @ite _ (gdM n (v.1 3) (v.1 0 9) (v.1 0 7)) (Classical.propDecidable _) (@ite _ (vok (v.1 3) (v.1 0 9) (v.1 0 7) (OfNat.ofNat g : Int32)) (Classical.propDecidable _) (Q (nI (vval (v.1 3) (v.1 0 9) (v.1 0 7))) (setI v 0 7 (nI (vend (v.1 3) (v.1 0 9) (v.1 0 7))))) (T' (setI (setI (setI v 0 7 (nI (vend (v.1 3) (v.1 0 9) (v.1 0 7)))) 1 6 1) 1 7 bl))) (za_no n (OfNat.ofNat g : Int32) bl v Q T') := by
  by_cases h : gdM n (v.1 3) (v.1 0 9) (v.1 0 7)
  · rw [if_pos h]
    obtain ⟨hn, T, s', q, hT, h4, h2, hq⟩ := h
    have hs := hT.1
    rw [r_numberOf, h4, h2, gno_eq hT ⟨hn, Nat.le_refl _, hq, hg⟩, vval_eq hT ⟨Nat.le_refl _, hq⟩, vend_eq hT ⟨Nat.le_refl _, hq⟩]
    have e := vok_eq hT (q := q) (g := g) ⟨Nat.le_refl _, hq, Nat.lt_of_le_of_lt hg (by omega)⟩
    by_cases hk : nok0 T s' q (OfNat.ofNat g : Nat)
    · rw [if_pos hk, if_pos (show vok (v.1 3) (nI s') (nI q) (OfNat.ofNat g : Int32) from by rw [e]; exact hk)]
    · rw [if_neg hk, if_neg (show ¬ vok (v.1 3) (nI s') (nI q) (OfNat.ofNat g : Int32) from by rw [e]; exact hk)]
  · rw [if_neg h]; rfl
theorem d_iw {n a : Nat} {v : Mm} {Q : Int32 → Mm → Prop} {T' : Mm → Prop} (ha : a < 31) : w_X12_isWord n a v Q T' = @ite _ (gdM n (v.1 3) (v.1 0 9) (v.1 0 7)) (Classical.propDecidable _) (Q (@bI (vwm (v.1 3) (v.1 0 9) (v.1 0 7) a) (Classical.propDecidable _)) v) (za_iw n a v Q T') := by
  by_cases h : gdM n (v.1 3) (v.1 0 9) (v.1 0 7)
  · rw [if_pos h]
    obtain ⟨hn, T, s', q, hT, h4, h2, hq⟩ := h
    rw [r_isWord, h4, h2, giw_eq hT ⟨ha, hn, Nat.le_refl _, hq⟩]
    have e := vwm_eq hT (q := q) (k := a) ⟨Nat.le_refl _, hq⟩
    by_cases hk : wm T s' q (wl a) = true
    · rw [bI_t hk]; exact congrArg (fun r => Q r v) (@bI_t _ (Classical.propDecidable _) (by rw [e]; exact hk)).symm
    · rw [bI_f hk]; exact congrArg (fun r => Q r v) (@bI_f _ (Classical.propDecidable _) (by rw [e]; exact hk)).symm
  · rw [if_neg h]; rfl
