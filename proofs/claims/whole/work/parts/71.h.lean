/-! things: a new one -/
theorem vnb1 : vp_nar .boolean 1 = 1 := rfl
theorem vnb0 : vp_nar .boolean 0 = 0 := rfl
def clr (u : Mm) (q lo hi : Nat) : Mm := (fun a b => if a = q ∧ lo ≤ b ∧ b < hi then 0 else u.1 a b, u.2.1, u.2.2)
theorem clr_step {u : Mm} {q lo i : Nat} : setI (clr u q lo (lo + i)) q (lo + i) 0 = clr u q lo (lo + (i + 1)) := by
  unfold setI clr
  have : (fun a b => if a = q ∧ b = lo + i then (0 : Int32) else (fun a b => if a = q ∧ lo ≤ b ∧ b < lo + i then 0 else u.1 a b) a b) = (fun a b => if a = q ∧ lo ≤ b ∧ b < lo + (i + 1) then 0 else u.1 a b) := by
    funext a b
    by_cases h1 : a = q ∧ b = lo + i
    · rw [if_pos h1, if_pos (by omega)]
    · rw [if_neg h1]
      by_cases h2 : a = q ∧ lo ≤ b ∧ b < lo + i
      · show (if a = q ∧ lo ≤ b ∧ b < lo + i then (0 : Int32) else u.1 a b) = _
        rw [if_pos h2, if_pos (by omega)]
      · show (if a = q ∧ lo ≤ b ∧ b < lo + i then (0 : Int32) else u.1 a b) = _
        rw [if_neg h2, if_neg (by omega)]
  simp only [this]
theorem clr_0 {u : Mm} {q lo : Nat} : clr u q lo (lo + 0) = u := by
  unfold clr
  have : (fun a b => if a = q ∧ lo ≤ b ∧ b < lo + 0 then (0 : Int32) else u.1 a b) = u.1 := by
    funext a b
    rw [if_neg (by omega)]
  rw [this]
theorem clr_n {u : Mm} {q lo hi a : Nat} (h : a ≠ q) : (clr u q lo hi).1 a = u.1 a := by
  funext b
  show (if a = q ∧ _ then _ else _) = _
  rw [if_neg (fun z => h z.1)]
theorem clr_s {u : Mm} {q lo hi b : Nat} : (clr u q lo hi).1 q b = if lo ≤ b ∧ b < hi then 0 else u.1 q b := by
  show (if q = q ∧ _ then _ else _) = _
  by_cases h : lo ≤ b ∧ b < hi
  · rw [if_pos ⟨rfl, h⟩, if_pos h]
  · rw [if_neg (fun z => h z.2), if_neg h]
def cput (ct i w x : Int32) (u : Mm) : Mm := if 0 ≤ i ∧ i < ct ∧ i < 400 ∧ 0 ≤ w ∧ w < 19 then setI u 46 (ix (i * 19 + w)) x else u
theorem in7600 {i w : Int32} (h : 0 ≤ i ∧ i < 400 ∧ 0 ≤ w ∧ w < 19) : vp_in (i * 19 + w) 7600 := by
  obtain ⟨a, ha, rfl⟩ := nI_of (Int32.not_lt.mpr h.1)
  obtain ⟨b, hb, rfl⟩ := nI_of (Int32.not_lt.mpr h.2.2.1)
  have h1 : a < 400 := (nI_ltI (b := 400) ha (by omega)).mp h.2.1
  have h2 : b < 19 := (nI_ltI (b := 19) hb (by omega)).mp h.2.2.2
  rw [nl_mul, nI_add]
  exact vp_in_nI (by omega) (by omega)
theorem c_put {n : Nat} {i w x : Int32} {u : Mm} {Q : Mm → Prop} : w_X6_put n i w x u Q = Q (cput (u.1 36 3) i w x u) := by
  unfold w_X6_put w_X6_put_41 cput
  simp only [br_if]
  by_cases h1 : i < 0
  · rw [if_pos h1, if_neg (fun z => absurd h1 (Int32.not_lt.mpr z.1))]
  · rw [if_neg h1]
    by_cases h2 : u.1 36 3 ≤ i
    · rw [if_pos h2, if_neg (fun z => absurd z.2.1 (Int32.not_lt.mpr h2))]
    · rw [if_neg h2]
      by_cases h3 : (400 : Int32) ≤ i
      · rw [if_pos h3, if_neg (fun z => absurd z.2.2.1 (Int32.not_lt.mpr h3))]
      · rw [if_neg h3]
        by_cases h4 : w < 0
        · rw [if_pos h4, if_neg (fun z => absurd h4 (Int32.not_lt.mpr z.2.2.2.1))]
        · rw [if_neg h4]
          by_cases h5 : (19 : Int32) ≤ w
          · rw [if_pos h5, if_neg (fun z => absurd z.2.2.2.2 (Int32.not_lt.mpr h5))]
          · have hh := And.intro (Int32.not_lt.mp h1) (And.intro (Int32.not_le.mp h2) (And.intro (Int32.not_le.mp h3) (And.intro (Int32.not_lt.mp h4) (Int32.not_le.mp h5))))
            rw [if_neg h5, if_pos hh, eq_true (in7600 ⟨hh.1, hh.2.2.1, hh.2.2.2⟩), true_and]
            rfl
theorem cput_in {c j k : Nat} {x : Int32} {u : Mm} (h : j < c ∧ c ≤ 400 ∧ (OfNat.ofNat k : Nat) < 19) : cput (nI c) (nI j) (no_index (OfNat.ofNat k : Int32)) x u = setI u 46 (19 * j + (OfNat.ofNat k : Nat)) x := by
  unfold cput
  rw [show (OfNat.ofNat k : Int32) = nI (OfNat.ofNat k : Nat) from rfl, if_pos ⟨nI_pos' (by omega), nI_lt h.1 (by omega), nI_lt (b := 400) (by omega) (by omega), nI_pos' (Nat.lt_trans h.2.2 (by omega)), nI_lt (b := 19) h.2.2 (by omega)⟩, nl_mul, nI_add]
  rw [show j * (19 : Nat) = 19 * j from Nat.mul_comm _ _, nn_ix]
  have := h.2.2
  generalize (OfNat.ofNat k : Nat) = m at *
  omega
theorem cput_neg {ct w x : Int32} {u : Mm} : cput ct (-1) w x u = u := by
  unfold cput; rw [if_neg (fun z => absurd z.1 (by decide))]
def ccell (ct : Int32) (f : Nat → Int32) (i w : Int32) : Int32 := if 0 ≤ i ∧ i < ct ∧ i < 400 ∧ 0 ≤ w ∧ w < 19 then f (ix (i * 19 + w)) else 0
theorem c_cel {n : Nat} {i w : Int32} {u : Mm} {Q : Int32 → Mm → Prop} : w_X6_cell n i w u Q = Q (ccell (u.1 36 3) (u.1 46) i w) u := by
  unfold w_X6_cell w_X6_cell_43 w_X6_cell_44 ccell
  simp only [br_if]
  by_cases h1 : i < 0
  · rw [if_pos h1, if_neg (fun z => absurd h1 (Int32.not_lt.mpr z.1))]
  · rw [if_neg h1]
    by_cases h2 : u.1 36 3 ≤ i
    · rw [if_pos h2, if_neg (fun z => absurd z.2.1 (Int32.not_lt.mpr h2))]
    · rw [if_neg h2]
      by_cases h3 : (400 : Int32) ≤ i
      · rw [if_pos h3, if_neg (fun z => absurd z.2.2.1 (Int32.not_lt.mpr h3))]
      · rw [if_neg h3]
        by_cases h4 : w < 0
        · rw [if_pos h4, if_neg (fun z => absurd h4 (Int32.not_lt.mpr z.2.2.2.1))]
        · rw [if_neg h4]
          by_cases h5 : (19 : Int32) ≤ w
          · rw [if_pos h5, if_neg (fun z => absurd z.2.2.2.2 (Int32.not_lt.mpr h5))]
          · have hh := And.intro (Int32.not_lt.mp h1) (And.intro (Int32.not_le.mp h2) (And.intro (Int32.not_le.mp h3) (And.intro (Int32.not_lt.mp h4) (Int32.not_le.mp h5))))
            rw [if_neg h5, if_pos hh, eq_true (in7600 ⟨hh.1, hh.2.2.1, hh.2.2.2⟩), true_and]
theorem ccell_in {c j k : Nat} {f : Nat → Int32} (h : j < c ∧ c ≤ 400 ∧ (OfNat.ofNat k : Nat) < 19) : ccell (nI c) f (nI j) (no_index (OfNat.ofNat k : Int32)) = f (19 * j + (OfNat.ofNat k : Nat)) := by
  unfold ccell
  rw [show (OfNat.ofNat k : Int32) = nI (OfNat.ofNat k : Nat) from rfl, if_pos ⟨nI_pos' (by omega), nI_lt h.1 (by omega), nI_lt (b := 400) (by omega) (by omega), nI_pos' (Nat.lt_trans h.2.2 (by omega)), nI_lt (b := 19) h.2.2 (by omega)⟩, nl_mul, nI_add]
  rw [show j * (19 : Nat) = 19 * j from Nat.mul_comm _ _, nn_ix]
  have := h.2.2
  generalize (OfNat.ofNat k : Nat) = m at *
  omega
def cticks (ct i : Int32) (x : Int64) (u : Mm) : Mm := if 0 ≤ i ∧ i < ct ∧ i < 400 then setJ u 47 (ix i) x else u
def cbegin (ct i : Int32) (x : Int64) (u : Mm) : Mm := if 0 ≤ i ∧ i < ct ∧ i < 400 then setJ u 48 (ix i) x else u
theorem in400 {i : Int32} (h : 0 ≤ i ∧ i < 400) : vp_in i 400 := by
  obtain ⟨a, ha, rfl⟩ := nI_of (Int32.not_lt.mpr h.1)
  exact vp_in_nI ((nI_ltI (b := 400) ha (by omega)).mp h.2) (by omega)
theorem c_setTicks {n : Nat} {i : Int32} {x : Int64} {u : Mm} {Q : Mm → Prop} : w_X6_setTicks n i x u Q = Q (cticks (u.1 36 3) i x u) := by
  unfold w_X6_setTicks w_X6_setTicks_26 cticks
  simp only [br_if]
  by_cases h1 : i < 0
  · rw [if_pos h1, if_neg (fun z => absurd h1 (Int32.not_lt.mpr z.1))]
  · rw [if_neg h1]
    by_cases h2 : u.1 36 3 ≤ i
    · rw [if_pos h2, if_neg (fun z => absurd z.2.1 (Int32.not_lt.mpr h2))]
    · rw [if_neg h2]
      by_cases h3 : (400 : Int32) ≤ i
      · rw [if_pos h3, if_neg (fun z => absurd z.2.2 (Int32.not_lt.mpr h3))]
      · rw [if_neg h3, if_pos ⟨Int32.not_lt.mp h1, Int32.not_le.mp h2, Int32.not_le.mp h3⟩, eq_true (in400 ⟨Int32.not_lt.mp h1, Int32.not_le.mp h3⟩), true_and]
        rfl
theorem c_setBegin {n : Nat} {i : Int32} {x : Int64} {u : Mm} {Q : Mm → Prop} : w_X6_setBegin n i x u Q = Q (cbegin (u.1 36 3) i x u) := by
  unfold w_X6_setBegin w_X6_setBegin_26 cbegin
  simp only [br_if]
  by_cases h1 : i < 0
  · rw [if_pos h1, if_neg (fun z => absurd h1 (Int32.not_lt.mpr z.1))]
  · rw [if_neg h1]
    by_cases h2 : u.1 36 3 ≤ i
    · rw [if_pos h2, if_neg (fun z => absurd z.2.1 (Int32.not_lt.mpr h2))]
    · rw [if_neg h2]
      by_cases h3 : (400 : Int32) ≤ i
      · rw [if_pos h3, if_neg (fun z => absurd z.2.2 (Int32.not_lt.mpr h3))]
      · rw [if_neg h3, if_pos ⟨Int32.not_lt.mp h1, Int32.not_le.mp h2, Int32.not_le.mp h3⟩, eq_true (in400 ⟨Int32.not_lt.mp h1, Int32.not_le.mp h3⟩), true_and]
        rfl
theorem cticks_in {c j : Nat} {x : Int64} {u : Mm} (h : j < c ∧ c ≤ 400) : cticks (nI c) (nI j) x u = setJ u 47 j x := by
  unfold cticks
  rw [if_pos ⟨nI_pos' (by omega), nI_lt h.1 (by omega), nI_lt (b := 400) (by omega) (by omega)⟩, nn_ix (by omega)]
theorem cbegin_in {c j : Nat} {x : Int64} {u : Mm} (h : j < c ∧ c ≤ 400) : cbegin (nI c) (nI j) x u = setJ u 48 j x := by
  unfold cbegin
  rw [if_pos ⟨nI_pos' (by omega), nI_lt h.1 (by omega), nI_lt (b := 400) (by omega) (by omega)⟩, nn_ix (by omega)]
def cto (ct : Int32) (f : Nat → Int64) (i : Int32) : Int64 := if 0 ≤ i ∧ i < ct ∧ i < 400 then f (ix i) else 0
theorem c_ticksOf {n : Nat} {i : Int32} {u : Mm} {Q : Int64 → Mm → Prop} : w_X6_ticksOf n i u Q = Q (cto (u.1 36 3) (u.2.1 47) i) u := by
  unfold w_X6_ticksOf w_X6_ticksOf_28 w_X6_ticksOf_29 cto
  simp only [br_if]
  by_cases h1 : i < 0
  · rw [if_pos h1, if_neg (fun z => absurd h1 (Int32.not_lt.mpr z.1))]
  · rw [if_neg h1]
    by_cases h2 : u.1 36 3 ≤ i
    · rw [if_pos h2, if_neg (fun z => absurd z.2.1 (Int32.not_lt.mpr h2))]
    · rw [if_neg h2]
      by_cases h3 : (400 : Int32) ≤ i
      · rw [if_pos h3, if_neg (fun z => absurd z.2.2 (Int32.not_lt.mpr h3))]
      · rw [if_neg h3, if_pos ⟨Int32.not_lt.mp h1, Int32.not_le.mp h2, Int32.not_le.mp h3⟩, eq_true (in400 ⟨Int32.not_lt.mp h1, Int32.not_le.mp h3⟩), true_and]
theorem c_beginOf {n : Nat} {i : Int32} {u : Mm} {Q : Int64 → Mm → Prop} : w_X6_beginOf n i u Q = Q (cto (u.1 36 3) (u.2.1 48) i) u := by
  unfold w_X6_beginOf w_X6_beginOf_28 w_X6_beginOf_29 cto
  simp only [br_if]
  by_cases h1 : i < 0
  · rw [if_pos h1, if_neg (fun z => absurd h1 (Int32.not_lt.mpr z.1))]
  · rw [if_neg h1]
    by_cases h2 : u.1 36 3 ≤ i
    · rw [if_pos h2, if_neg (fun z => absurd z.2.1 (Int32.not_lt.mpr h2))]
    · rw [if_neg h2]
      by_cases h3 : (400 : Int32) ≤ i
      · rw [if_pos h3, if_neg (fun z => absurd z.2.2 (Int32.not_lt.mpr h3))]
      · rw [if_neg h3, if_pos ⟨Int32.not_lt.mp h1, Int32.not_le.mp h2, Int32.not_le.mp h3⟩, eq_true (in400 ⟨Int32.not_lt.mp h1, Int32.not_le.mp h3⟩), true_and]
theorem cto_in {c j : Nat} {f : Nat → Int64} (h : j < c ∧ c ≤ 400) : cto (nI c) f (nI j) = f j := by
  unfold cto
  rw [if_pos ⟨nI_pos' (by omega), nI_lt h.1 (by omega), nI_lt (b := 400) (by omega) (by omega)⟩, nn_ix (by omega)]
