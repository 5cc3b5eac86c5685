/-! between calls -/
def tuR (u v : Mm) : Prop := ∃ (T : Nat → Nat) (sz c pn : Nat), (sz ≤ 1300 ∧ u.1 33 1 = nI sz ∧ ∀ i, i < sz → u.1 (u.2.2 1) i = sbv (T i) ∧ v.1 3 i = sbv (T i) ∧ T i < 256) ∧ eC c u v ∧ eD c v ∧ eH sz u v ∧ eM u v ∧ u.1 43 8 = v.1 0 29 ∧ pn ≤ 1000 ∧ u.1 35 9 = nI pn ∧ v.1 0 69 = nI pn ∧ ∀ i, i < pn → u.1 63 i = v.1 30 i
def RRr (t : Nat) (u v : Mm) : Prop := (jOk u ∧ 41 ≤ u.2.2 0 ∧ u.2.2 0 ≤ 42 ∧ u.2.2 0 ≠ u.2.2 1) ∧ (u.1 35 0 = v.1 0 2 ∧ (v.1 0 2 = 0 ∨ v.1 0 2 = 1)) ∧ (∃ tn : Nat, tn ≤ 20 * t ∧ tn ≤ 2400 ∧ u.1 32 6 = nI tn ∧ v.1 0 4 = nI tn ∧ ∀ i, i < tn → u.1 (u.2.2 0) i = v.1 2 i ∧ ∃ x : Nat, x < 256 ∧ v.1 2 i = sbv x) ∧ u.1 32 8 = v.1 0 11 ∧ ((u.1 32 7 = 0 ∧ v.1 0 10 = 0) ∨ (u.1 32 7 = 1 ∧ v.1 0 10 = 1 ∧ tuR u v))
theorem tuR.cg {u v u' v' : Mm} (h : tuR u v) (hok : 41 ≤ u.2.2 1 ∧ u.2.2 1 ≤ 42) (h1 : ∀ q, 33 ≤ q → q ≠ 40 → q ≠ 66 → (q = 41 ∨ q = 42 → q = u.2.2 1) → u'.1 q = u.1 q) (h2 : ∀ q, 32 ≤ q → u'.2.1 q = u.2.1 q) (h3 : u'.2.2 = u.2.2) (k1 : ∀ q, 2 < q → q < 31 → v'.1 q = v.1 q) (k0 : ∀ k, 4 < k → k ≠ 71 → v'.1 0 k = v.1 0 k) (k2 : ∀ q, q < 32 → v'.2.1 q = v.2.1 q) : tuR u' v' := by
  obtain ⟨T, sz, c, pn, ⟨t1, t2, t3⟩, hC, hD, hH, hM, h43, p1, p2, p3, p4⟩ := h
  refine ⟨T, sz, c, pn, ⟨t1, by rw [h1 33 (by omega) (by omega) (by omega) (by omega)]; exact t2, fun i hi => ?_⟩, hC.cg (by rw [h1 36 (by omega) (by omega) (by omega) (by omega)]) (h1 46 (by omega) (by omega) (by omega) (by omega)) (h2 47 (by omega)) (h2 48 (by omega)) (k0 27 (by omega) (by omega)) (k1 6 (by omega) (by omega)) (k2 7 (by omega)) (k2 8 (by omega)) (k1 9 (by omega) (by omega)) (k1 10 (by omega) (by omega)), hD.cg (k1 6 (by omega) (by omega)) (k2 7 (by omega)) (k1 9 (by omega) (by omega)), hH.cg (fun k _ => by rw [h1 43 (by omega) (by omega) (by omega) (by omega)]) (by rw [h1 35 (by omega) (by omega) (by omega) (by omega)]) (h1 44 (by omega) (by omega) (by omega) (by omega)) (h1 45 (by omega) (by omega) (by omega) (by omega)) (fun k _ _ => k0 k (by omega) (by omega)) (k1 4 (by omega) (by omega)) (k1 5 (by omega) (by omega)), hM.cg (fun q g1 g2 => by rw [h1 q (by omega) (by omega) (by omega) (by omega)]; exact ⟨rfl, rfl⟩) (fun q g1 g2 => h2 q (by omega)) (k1 19 (by omega) (by omega)) (k1 18 (by omega) (by omega)) (k1 17 (by omega) (by omega)) (k2 16 (by omega)) (k2 20 (by omega)) (k2 21 (by omega)), by rw [h1 43 (by omega) (by omega) (by omega) (by omega), k0 29 (by omega) (by omega)]; exact h43, p1, by rw [h1 35 (by omega) (by omega) (by omega) (by omega)]; exact p2, by rw [k0 69 (by omega) (by omega)]; exact p3, fun i hi => by rw [h1 63 (by omega) (by omega) (by omega) (by omega), k1 30 (by omega) (by omega)]; exact p4 i hi⟩
  rw [h3, h1 (u.2.2 1) (by omega) (by omega) (by omega) (fun _ => rfl), k1 3 (by omega) (by omega)]
  exact t3 i hi
theorem RRr.cg {t : Nat} {u v u' v' : Mm} (h : RRr t u v) (h1 : ∀ q, 32 ≤ q → q ≠ 40 → q ≠ 66 → u'.1 q = u.1 q) (h2 : ∀ q, 32 ≤ q → u'.2.1 q = u.2.1 q) (h3 : u'.2.2 = u.2.2) (k1 : ∀ q, 0 < q → q < 31 → v'.1 q = v.1 q) (k0 : ∀ k, k ≠ 0 → k ≠ 71 → v'.1 0 k = v.1 0 k) (k2 : ∀ q, q < 32 → v'.2.1 q = v.2.1 q) : RRr (t + 1) u' v' := by
  obtain ⟨⟨a1, a2, a3, a4⟩, ⟨b1, b2⟩, ⟨tn, c1, c2, c3, c4, c5⟩, d1, e1⟩ := h
  refine ⟨⟨by unfold jOk; rw [h3]; exact a1, by rw [h3]; exact a2, by rw [h3]; exact a3, by rw [h3]; exact a4⟩, ⟨by rw [h1 35 (by omega) (by omega) (by omega), k0 2 (by omega) (by omega)]; exact b1, by rw [k0 2 (by omega) (by omega)]; exact b2⟩, ⟨tn, by omega, c2, by rw [h1 32 (by omega) (by omega) (by omega)]; exact c3, by rw [k0 4 (by omega) (by omega)]; exact c4, fun i hi => ?_⟩, by rw [h1 32 (by omega) (by omega) (by omega), k0 11 (by omega) (by omega)]; exact d1, ?_⟩
  · rw [h3, h1 _ (by omega) (by omega) (by omega), k1 2 (by omega) (by omega)]
    exact c5 i hi
  · rw [h1 32 (by omega) (by omega) (by omega), k0 10 (by omega) (by omega)]
    rcases e1 with h | ⟨g1, g2, g3⟩
    · exact Or.inl h
    · exact Or.inr ⟨g1, g2, g3.cg a1.2.2 (fun q x1 x2 x3 x4 => h1 q (by omega) x2 x3) h2 h3 (fun q x1 x2 => k1 q (by omega) x2) (fun k x1 x2 => k0 k (by omega) x2) k2⟩
/-- a call that only asks -/
theorem ask {α : Type} {t : Nat} {σ : Mm} {C : (α → Mm → Prop) → Prop} {M : Mm → (α → Mm → Prop) → Prop} (h : RRr t σ σ) (r : α) (hC : ∀ Q, C Q = Q r σ) (hM : ∀ Q, M σ Q = Q r (setI σ 0 0 0)) : C (fun r1 σ1 => M σ1 (fun r2 σ2 => r1 = r2 ∧ RRr (t + 1) σ2 σ2)) := by
  rw [hC, hM]
  exact ⟨rfl, h.cg (fun q g1 g2 g3 => by rw [gIn (by omega)]) (fun q g1 => rfl) rfl (fun q g1 g2 => by rw [gIn (by omega)]) (fun k g1 g2 => by rw [gIs, hu_n g1]) (fun q g1 => rfl)⟩
/-! numbers of a range -/
theorem i_neg {a : Int32} (h : a < 0) : ¬ ((0 : Int64) ≤ a.toInt64) := fun z => by
  have h1 := Int32.lt_iff_toInt_lt.mp h
  have h2 := Int64.le_iff_toInt_le.mp z
  rw [Int32.toInt_toInt64] at h2
  have e1 : (0 : Int32).toInt = 0 := rfl
  have e2 : (0 : Int64).toInt = 0 := rfl
  omega
theorem i_neg1 {a : Int32} (h : a < 1) : ¬ ((1 : Int64) ≤ a.toInt64) := fun z => by
  have h1 := Int32.lt_iff_toInt_lt.mp h
  have h2 := Int64.le_iff_toInt_le.mp z
  rw [Int32.toInt_toInt64] at h2
  have e1 : (1 : Int32).toInt = 1 := rfl
  have e2 : (1 : Int64).toInt = 1 := rfl
  omega
theorem i_negm {a : Int32} (h : a < 0) (h2 : ¬ a = -1) : ¬ ((-1 : Int64) ≤ a.toInt64) := fun z => by
  have h1 := Int32.lt_iff_toInt_lt.mp h
  have h3 := Int64.le_iff_toInt_le.mp z
  rw [Int32.toInt_toInt64] at h3
  have e1 : (0 : Int32).toInt = 0 := rfl
  have e2 : (-1 : Int64).toInt = -1 := rfl
  have e3 : (-1 : Int32).toInt = -1 := rfl
  exact h2 (Int32.toInt_inj.mp (by omega))
theorem i_in0 {j c : Nat} (hj : j < 2147483648) (hc : c ≤ 10000) : ((0 : Int64) ≤ (nI j).toInt64 ∧ (nI j).toInt64 ≤ (nI c - 1).toInt64) ↔ j < c := by
  rw [nI_l (by omega), show (0 : Int64) = lN 0 from rfl, pk_lLE (by omega) (by omega)]
  rcases Nat.eq_zero_or_pos c with h | h
  · subst h
    rw [show (nI 0 - 1).toInt64 = (-1 : Int64) from by decide, Int64.le_iff_toInt_le]
    have : (lN j).toInt = j := lN_toInt (by omega)
    have e2 : (-1 : Int64).toInt = -1 := rfl
    omega
  · rw [show nI c - 1 = nI (c - 1) from pk_sub (show 1 ≤ c from h), nI_l (by omega), pk_lLE (by omega) (by omega)]
    omega
theorem i_inm {j c : Nat} (hj : j < 2147483648) (hc : c ≤ 10000) : ((-1 : Int64) ≤ (nI j).toInt64 ∧ (nI j).toInt64 ≤ (nI c - 1).toInt64) ↔ j < c := by
  rw [← i_in0 hj hc]
  have h1 : (-1 : Int64) ≤ (nI j).toInt64 := by
    rw [nI_l (by omega), Int64.le_iff_toInt_le, lN_toInt (by omega)]
    have e2 : (-1 : Int64).toInt = -1 := rfl
    omega
  have h2 : (0 : Int64) ≤ (nI j).toInt64 := by
    rw [nI_l (by omega), Int64.le_iff_toInt_le, lN_toInt (by omega)]
    have e2 : (0 : Int64).toInt = 0 := rfl
    omega
  exact ⟨fun h => ⟨h2, h.2⟩, fun h => ⟨h1, h.2⟩⟩
theorem i_m1 {c : Nat} (hc : c ≤ 10000) : (-1 : Int64) ≤ (-1 : Int32).toInt64 ∧ (-1 : Int32).toInt64 ≤ (nI c - 1).toInt64 := by
  refine ⟨by decide, ?_⟩
  rcases Nat.eq_zero_or_pos c with h | h
  · subst h; decide
  · rw [show nI c - 1 = nI (c - 1) from pk_sub (show 1 ≤ c from h), nI_l (by omega), Int64.le_iff_toInt_le, lN_toInt (by omega)]
    have e2 : ((-1 : Int32).toInt64).toInt = -1 := rfl
    omega
