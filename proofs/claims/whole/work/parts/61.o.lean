/-! pure: numbers and memory for the executor (simp with omega), and two runs in step -/
theorem br_if {c A B : Prop} [Decidable c] : ((c → A) ∧ (¬ c → B)) = (if c then A else B) := by
  by_cases h : c <;> simp [h]
theorem br_ifn {c A B : Prop} [Decidable c] : ((¬ c → B) ∧ (c → A)) = (if c then A else B) := by
  by_cases h : c <;> simp [h]
theorem nl_lt_t {a k : Nat} (h : a < (OfNat.ofNat k : Nat) ∧ (OfNat.ofNat k : Nat) < 2147483648) : (nI a < no_index (OfNat.ofNat k : Int32)) = True := eq_true ((nI_ltI (Nat.lt_trans h.1 h.2) h.2).mpr h.1)
theorem nl_lt_f {a k : Nat} (h : (OfNat.ofNat k : Nat) ≤ a ∧ a < 2147483648) : (nI a < no_index (OfNat.ofNat k : Int32)) = False := eq_false (fun z => absurd ((nI_ltI h.2 (Nat.lt_of_le_of_lt h.1 h.2)).mp z) (Nat.not_lt.mpr h.1))
theorem nl_gt_t {a k : Nat} (h : (OfNat.ofNat k : Nat) < a ∧ a < 2147483648) : (no_index (OfNat.ofNat k : Int32) < nI a) = True := eq_true ((nI_ltI (Nat.lt_trans h.1 h.2) h.2).mpr h.1)
theorem nl_gt_f {a k : Nat} (h : a ≤ (OfNat.ofNat k : Nat) ∧ (OfNat.ofNat k : Nat) < 2147483648) : (no_index (OfNat.ofNat k : Int32) < nI a) = False := eq_false (fun z => absurd ((nI_ltI h.2 (Nat.lt_of_le_of_lt h.1 h.2)).mp z) (Nat.not_lt.mpr h.1))
theorem nl_le_t {a k : Nat} (h : a ≤ (OfNat.ofNat k : Nat) ∧ (OfNat.ofNat k : Nat) < 2147483648) : (nI a ≤ no_index (OfNat.ofNat k : Int32)) = True := eq_true ((nI_leI (Nat.lt_of_le_of_lt h.1 h.2) h.2).mpr h.1)
theorem nl_le_f {a k : Nat} (h : (OfNat.ofNat k : Nat) < a ∧ a < 2147483648) : (nI a ≤ no_index (OfNat.ofNat k : Int32)) = False := eq_false (fun z => absurd ((nI_leI h.2 (Nat.lt_trans h.1 h.2)).mp z) (Nat.not_le.mpr h.1))
theorem nl_ge_t {a k : Nat} (h : (OfNat.ofNat k : Nat) ≤ a ∧ a < 2147483648) : (no_index (OfNat.ofNat k : Int32) ≤ nI a) = True := eq_true ((nI_leI (Nat.lt_of_le_of_lt h.1 h.2) h.2).mpr h.1)
theorem nl_ge_f {a k : Nat} (h : a < (OfNat.ofNat k : Nat) ∧ (OfNat.ofNat k : Nat) < 2147483648) : (no_index (OfNat.ofNat k : Int32) ≤ nI a) = False := eq_false (fun z => absurd ((nI_leI h.2 (Nat.lt_trans h.1 h.2)).mp z) (Nat.not_le.mpr h.1))
theorem nl_eq_t {a k : Nat} (h : a = (OfNat.ofNat k : Nat)) : (nI a = no_index (OfNat.ofNat k : Int32)) = True := by subst h; exact eq_true rfl
theorem nl_eq_f {a k : Nat} (h : a ≠ (OfNat.ofNat k : Nat) ∧ a < 2147483648 ∧ (OfNat.ofNat k : Nat) < 2147483648) : (nI a = no_index (OfNat.ofNat k : Int32)) = False := eq_false (fun z => h.1 ((nI_eq h.2.1 h.2.2).mp z))
theorem nn_lt_t {a k : Nat} (h : a < k ∧ k < 2147483648) : (nI a < nI k) = True := eq_true ((nI_ltI (Nat.lt_trans h.1 h.2) h.2).mpr h.1)
theorem nn_lt_f {a k : Nat} (h : k ≤ a ∧ a < 2147483648) : (nI a < nI k) = False := eq_false (fun z => absurd ((nI_ltI h.2 (Nat.lt_of_le_of_lt h.1 h.2)).mp z) (Nat.not_lt.mpr h.1))
theorem nn_le_t {a k : Nat} (h : a ≤ k ∧ k < 2147483648) : (nI a ≤ nI k) = True := eq_true ((nI_leI (Nat.lt_of_le_of_lt h.1 h.2) h.2).mpr h.1)
theorem nn_le_f {a k : Nat} (h : k < a ∧ a < 2147483648) : (nI a ≤ nI k) = False := eq_false (fun z => absurd ((nI_leI h.2 (Nat.lt_trans h.1 h.2)).mp z) (Nat.not_le.mpr h.1))
theorem nn_eq_t {a k : Nat} (h : a = k) : (nI a = nI k) = True := by subst h; exact eq_true rfl
theorem nn_eq_f {a k : Nat} (h : a ≠ k ∧ a < 2147483648 ∧ k < 2147483648) : (nI a = nI k) = False := eq_false (fun z => h.1 ((nI_eq h.2.1 h.2.2).mp z))
theorem nl_add {a k : Nat} : nI a + no_index (OfNat.ofNat k : Int32) = nI (a + (OfNat.ofNat k : Nat)) := nI_add a k
theorem nl_sub {a k : Nat} (h : (OfNat.ofNat k : Nat) ≤ a) : nI a - no_index (OfNat.ofNat k : Int32) = nI (a - (OfNat.ofNat k : Nat)) := pk_sub h
theorem nl_mul {a k : Nat} : nI a * no_index (OfNat.ofNat k : Int32) = nI (a * (OfNat.ofNat k : Nat)) := pk_mul a k
theorem nl_mulr {a k : Nat} : no_index (OfNat.ofNat k : Int32) * nI a = nI ((OfNat.ofNat k : Nat) * a) := pk_mul k a
theorem nn_add {a b : Nat} : nI a + nI b = nI (a + b) := nI_add a b
theorem i10 : ((1 : Int32) = 0) = False := by decide
theorem i00 : ((0 : Int32) = 0) = True := by decide
theorem bI_t {c : Prop} [Decidable c] (h : c) : bI c = 1 := if_pos h
theorem bI_f {c : Prop} [Decidable c] (h : ¬ c) : bI c = 0 := if_neg h
theorem nn_ix {a : Nat} (ha : a < 2147483648) : ix (nI a) = a := nI_clamp ha
theorem nn_in {a N : Nat} (h : a < N ∧ N < 2147483648) : vp_in (nI a) N = True := eq_true (vp_in_nI h.1 h.2)
/-! memory -/
theorem gIs {σ : Mm} {q k : Nat} {x : Int32} : (setI σ q k x).1 q = upd (σ.1 q) k x := by funext j; simp [setI, upd]
theorem gIn {σ : Mm} {q k a : Nat} {x : Int32} (h : a ≠ q) : (setI σ q k x).1 a = σ.1 a := by funext j; simp [setI, h]
theorem gIj {σ : Mm} {q k : Nat} {x : Int32} : (setI σ q k x).2.1 = σ.2.1 := rfl
theorem gIr {σ : Mm} {q k : Nat} {x : Int32} : (setI σ q k x).2.2 = σ.2.2 := rfl
theorem gJs {σ : Mm} {q k : Nat} {x : Int64} : (setJ σ q k x).2.1 q = vp_updL (σ.2.1 q) k x := by funext j; simp [setJ, vp_updL]
theorem gJn {σ : Mm} {q k a : Nat} {x : Int64} (h : a ≠ q) : (setJ σ q k x).2.1 a = σ.2.1 a := by funext j; simp [setJ, h]
theorem gJi {σ : Mm} {q k : Nat} {x : Int64} : (setJ σ q k x).1 = σ.1 := rfl
theorem gJr {σ : Mm} {q k : Nat} {x : Int64} : (setJ σ q k x).2.2 = σ.2.2 := rfl
theorem gPr {σ : Mm} {k x a : Nat} : (setP σ k x).2.2 a = if a = k then x else σ.2.2 a := rfl
theorem gPi {σ : Mm} {k x : Nat} : (setP σ k x).1 = σ.1 := rfl
theorem gPj {σ : Mm} {k x : Nat} : (setP σ k x).2.1 = σ.2.1 := rfl
theorem hu_s {f : Nat → Int32} {k : Nat} {x : Int32} : upd f k x k = x := pk_us
theorem hu_n {f : Nat → Int32} {k j : Nat} {x : Int32} (h : j ≠ k) : upd f k x j = f j := pk_un h
theorem hv_s {f : Nat → Int64} {k : Nat} {x : Int64} : vp_updL f k x k = x := pk_uLs
theorem hv_n {f : Nat → Int64} {k j : Nat} {x : Int64} (h : j ≠ k) : vp_updL f k x j = f j := pk_uLn h
theorem gI_if {σ : Mm} {q k a : Nat} {x : Int32} : (setI σ q k x).1 a = if a = q then upd (σ.1 a) k x else σ.1 a := by
  by_cases h : a = q
  · subst h; rw [gIs, if_pos rfl]
  · rw [gIn h, if_neg h]
theorem gJ_if {σ : Mm} {q k a : Nat} {x : Int64} : (setJ σ q k x).2.1 a = if a = q then vp_updL (σ.2.1 a) k x else σ.2.1 a := by
  by_cases h : a = q
  · subst h; rw [gJs, if_pos rfl]
  · rw [gJn h, if_neg h]
theorem hu_if {f : Nat → Int32} {k j : Nat} {x : Int32} : upd f k x j = if j = k then x else f j := rfl
theorem hv_if {f : Nat → Int64} {k j : Nat} {x : Int64} : vp_updL f k x j = if j = k then x else f j := rfl
theorem bIT {i : Decidable True} : @bI True i = 1 := if_pos trivial
theorem bIF {i : Decidable False} : @bI False i = 0 := if_neg id
/-! two runs -/
def jFr (a u : Mm) : Prop := ∀ q, q < 32 → u.1 q = a.1 q ∧ u.2.1 q = a.2.1 q
/-- the changing references name what they may -/
def jOk (u : Mm) : Prop := 50 ≤ u.2.2 2 ∧ u.2.2 2 ≤ 52 ∧ 41 ≤ u.2.2 1 ∧ u.2.2 1 ≤ 42
/-- what a reading never changes, in the class -/
def jKc (a u : Mm) : Prop := jFr a u ∧ u.1 32 = a.1 32 ∧ u.1 35 0 = a.1 35 0 ∧ u.2.2 0 = a.2.2 0 ∧ u.2.2 1 = a.2.2 1 ∧ jOk u
/-- and in the reference -/
def jKm (a v : Mm) : Prop := (∀ q, 32 ≤ q → v.1 q = a.1 q ∧ v.2.1 q = a.2.1 q) ∧ v.2.2 = a.2.2 ∧ v.1 0 2 = a.1 0 2 ∧ v.1 0 4 = a.1 0 4 ∧ v.1 0 10 = a.1 0 10 ∧ v.1 0 11 = a.1 0 11
theorem jKc.trans {a b c : Mm} (h : jKc a b) (k : jKc b c) : jKc a c :=
  ⟨fun q hq => ⟨((k.1 q hq).1).trans (h.1 q hq).1, ((k.1 q hq).2).trans (h.1 q hq).2⟩, k.2.1.trans h.2.1, k.2.2.1.trans h.2.2.1, k.2.2.2.1.trans h.2.2.2.1, k.2.2.2.2.1.trans h.2.2.2.2.1, k.2.2.2.2.2⟩
theorem jKc.refl {a : Mm} (h : jOk a) : jKc a a := ⟨fun _ _ => ⟨rfl, rfl⟩, rfl, rfl, rfl, rfl, h⟩
/-- the same fault on both sides -/
def jFl (z : Mm × Mm) (u v : Mm) : Prop := jKc z.1 u ∧ jKm z.2 v ∧ u.1 33 6 ≠ 0 ∧ u.1 33 6 = v.1 1 6 ∧ u.1 33 7 = v.1 1 7
/-- the class behind a fault: it returns and keeps it -/
def jSv (u : Mm) (C : (Mm → Prop) → Prop) : Prop := ∃ u', (∀ Q, C Q ↔ Q u') ∧ jKc u u' ∧ u'.1 33 6 = u.1 33 6 ∧ u'.1 33 7 = u.1 33 7
/-- the class behind a fault: it returns and keeps it -/
def jSi {α : Type} (u : Mm) (C : (α → Mm → Prop) → Prop) : Prop := ∃ r u', (∀ Q, C Q ↔ Q r u') ∧ jKc u u' ∧ u'.1 33 6 = u.1 33 6 ∧ u'.1 33 7 = u.1 33 7
def jV (z : Mm × Mm) (C : (Mm → Prop) → Prop) (M : (Mm → Prop) → (Mm → Prop) → Prop) (P : Mm → Mm → Prop) : Prop :=
  (∃ u v, (∀ Q, C Q ↔ Q u) ∧ (∀ Q T, M Q T ↔ Q v) ∧ P u v) ∨ (∃ u v, (∀ Q, C Q ↔ Q u) ∧ (∀ Q T, M Q T ↔ T v) ∧ jFl z u v)
theorem jV_ret {z : Mm × Mm} {u v : Mm} {P : Mm → Mm → Prop} (h : P u v) : jV z (fun Q => Q u) (fun Q _ => Q v) P := Or.inl ⟨_, _, fun _ => Iff.rfl, fun _ _ => Iff.rfl, h⟩
theorem jV_thr {z : Mm × Mm} {u v : Mm} {P : Mm → Mm → Prop} (h : jFl z u v) : jV z (fun Q => Q u) (fun _ T => T v) P := Or.inr ⟨_, _, fun _ => Iff.rfl, fun _ _ => Iff.rfl, h⟩
theorem jV_mono {z : Mm × Mm} {C : (Mm → Prop) → Prop} {M : (Mm → Prop) → (Mm → Prop) → Prop} {P P' : Mm → Mm → Prop} (h : jV z C M P) (k : ∀ u v, P u v → P' u v) : jV z C M P' := by
  rcases h with ⟨u, v, h1, h2, h3⟩ | h
  · exact Or.inl ⟨_, _, h1, h2, k _ _ h3⟩
  · exact Or.inr h
def jI {α : Type} {β : Type} (z : Mm × Mm) (C : (α → Mm → Prop) → Prop) (M : (β → Mm → Prop) → (Mm → Prop) → Prop) (P : α → β → Mm → Mm → Prop) : Prop :=
  (∃ r u r2 v, (∀ Q, C Q ↔ Q r u) ∧ (∀ Q T, M Q T ↔ Q r2 v) ∧ P r r2 u v) ∨ (∃ r u v, (∀ Q, C Q ↔ Q r u) ∧ (∀ Q T, M Q T ↔ T v) ∧ jFl z u v)
theorem jI_ret {α : Type} {β : Type} {z : Mm × Mm} {r : α} {r2 : β} {u v : Mm} {P : α → β → Mm → Mm → Prop} (h : P r r2 u v) : jI z (fun Q => Q r u) (fun Q _ => Q r2 v) P := Or.inl ⟨_, _, _, _, fun _ => Iff.rfl, fun _ _ => Iff.rfl, h⟩
theorem jI_thr {α : Type} {β : Type} {z : Mm × Mm} {r : α} {u v : Mm} {P : α → β → Mm → Mm → Prop} (h : jFl z u v) : jI z (fun Q => Q r u) (fun _ T => T v) P := Or.inr ⟨_, _, _, fun _ => Iff.rfl, fun _ _ => Iff.rfl, h⟩
theorem jI_mono {α : Type} {β : Type} {z : Mm × Mm} {C : (α → Mm → Prop) → Prop} {M : (β → Mm → Prop) → (Mm → Prop) → Prop} {P P' : α → β → Mm → Mm → Prop} (h : jI z C M P) (k : ∀ r r2 u v, P r r2 u v → P' r r2 u v) : jI z C M P' := by
  rcases h with ⟨r, u, r2, v, h1, h2, h3⟩ | h
  · exact Or.inl ⟨_, _, _, _, h1, h2, k _ _ _ _ h3⟩
  · exact Or.inr h
def jW {β : Type} (z : Mm × Mm) (C : (Mm → Prop) → Prop) (M : (β → Mm → Prop) → (Mm → Prop) → Prop) (P : β → Mm → Mm → Prop) : Prop :=
  (∃ u r2 v, (∀ Q, C Q ↔ Q u) ∧ (∀ Q T, M Q T ↔ Q r2 v) ∧ P r2 u v) ∨ (∃ u v, (∀ Q, C Q ↔ Q u) ∧ (∀ Q T, M Q T ↔ T v) ∧ jFl z u v)
theorem jW_ret {β : Type} {z : Mm × Mm} {r2 : β} {u v : Mm} {P : β → Mm → Mm → Prop} (h : P r2 u v) : jW z (fun Q => Q u) (fun Q _ => Q r2 v) P := Or.inl ⟨_, _, _, fun _ => Iff.rfl, fun _ _ => Iff.rfl, h⟩
theorem jW_thr {β : Type} {z : Mm × Mm} {u v : Mm} {P : β → Mm → Mm → Prop} (h : jFl z u v) : jW z (fun Q => Q u) (fun _ T => T v) P := Or.inr ⟨_, _, fun _ => Iff.rfl, fun _ _ => Iff.rfl, h⟩
theorem jW_mono {β : Type} {z : Mm × Mm} {C : (Mm → Prop) → Prop} {M : (β → Mm → Prop) → (Mm → Prop) → Prop} {P P' : β → Mm → Mm → Prop} (h : jW z C M P) (k : ∀ r2 u v, P r2 u v → P' r2 u v) : jW z C M P' := by
  rcases h with ⟨u, r2, v, h1, h2, h3⟩ | h
  · exact Or.inl ⟨_, _, _, h1, h2, k _ _ _ h3⟩
  · exact Or.inr h
def jX {α : Type} (z : Mm × Mm) (C : (α → Mm → Prop) → Prop) (M : (Mm → Prop) → (Mm → Prop) → Prop) (P : α → Mm → Mm → Prop) : Prop :=
  (∃ r u v, (∀ Q, C Q ↔ Q r u) ∧ (∀ Q T, M Q T ↔ Q v) ∧ P r u v) ∨ (∃ r u v, (∀ Q, C Q ↔ Q r u) ∧ (∀ Q T, M Q T ↔ T v) ∧ jFl z u v)
theorem jX_ret {α : Type} {z : Mm × Mm} {r : α} {u v : Mm} {P : α → Mm → Mm → Prop} (h : P r u v) : jX z (fun Q => Q r u) (fun Q _ => Q v) P := Or.inl ⟨_, _, _, fun _ => Iff.rfl, fun _ _ => Iff.rfl, h⟩
theorem jX_thr {α : Type} {z : Mm × Mm} {r : α} {u v : Mm} {P : α → Mm → Mm → Prop} (h : jFl z u v) : jX z (fun Q => Q r u) (fun _ T => T v) P := Or.inr ⟨_, _, _, fun _ => Iff.rfl, fun _ _ => Iff.rfl, h⟩
theorem jX_mono {α : Type} {z : Mm × Mm} {C : (α → Mm → Prop) → Prop} {M : (Mm → Prop) → (Mm → Prop) → Prop} {P P' : α → Mm → Mm → Prop} (h : jX z C M P) (k : ∀ r u v, P r u v → P' r u v) : jX z C M P' := by
  rcases h with ⟨r, u, v, h1, h2, h3⟩ | h
  · exact Or.inl ⟨_, _, _, h1, h2, k _ _ _ h3⟩
  · exact Or.inr h
theorem jB_VV {z : Mm × Mm} {C1 : (Mm → Prop) → Prop} {M1 : (Mm → Prop) → (Mm → Prop) → Prop} {P1 : Mm → Mm → Prop} {C2 : Mm → (Mm → Prop) → Prop} {M2 : Mm → (Mm → Prop) → (Mm → Prop) → Prop} {P : Mm → Mm → Prop} (h : jV z C1 M1 P1) (k : ∀ u v, P1 u v → jV z (C2 u) (M2 v) P) (s : ∀ u, jOk u → u.1 33 6 ≠ 0 → jSv u (C2 u)) : jV z (fun Q => C1 (fun u => C2 u Q)) (fun Q T => M1 (fun v => M2 v Q T) T) P := by
  rcases h with ⟨u, v, hc, hm, hp⟩ | ⟨u, v, hc, hm, hf⟩
  · rcases k u v hp with ⟨b, b2, h1, h2, h3⟩ | ⟨b, b2, h1, h2, h3⟩
    · exact Or.inl ⟨b, b2, fun Q => (hc _).trans (h1 Q), fun Q T => (hm _ _).trans (h2 Q T), h3⟩
    · exact Or.inr ⟨b, b2, fun Q => (hc _).trans (h1 Q), fun Q T => (hm _ _).trans (h2 Q T), h3⟩
  · obtain ⟨b, h1, h2, h3, h4⟩ := s u hf.1.2.2.2.2.2 hf.2.2.1
    exact Or.inr ⟨b, v, fun Q => (hc _).trans (h1 Q), fun Q T => hm _ _, hf.1.trans h2, hf.2.1, by rw [h3]; exact hf.2.2.1, h3.trans hf.2.2.2.1, h4.trans hf.2.2.2.2⟩
theorem jB_VI {α : Type} {β : Type} {z : Mm × Mm} {C1 : (Mm → Prop) → Prop} {M1 : (Mm → Prop) → (Mm → Prop) → Prop} {P1 : Mm → Mm → Prop} {C2 : Mm → (α → Mm → Prop) → Prop} {M2 : Mm → (β → Mm → Prop) → (Mm → Prop) → Prop} {P : α → β → Mm → Mm → Prop} (h : jV z C1 M1 P1) (k : ∀ u v, P1 u v → jI z (C2 u) (M2 v) P) (s : ∀ u, jOk u → u.1 33 6 ≠ 0 → jSi u (C2 u)) : jI z (fun Q => C1 (fun u => C2 u Q)) (fun Q T => M1 (fun v => M2 v Q T) T) P := by
  rcases h with ⟨u, v, hc, hm, hp⟩ | ⟨u, v, hc, hm, hf⟩
  · rcases k u v hp with ⟨a, b, a2, b2, h1, h2, h3⟩ | ⟨a, b, b2, h1, h2, h3⟩
    · exact Or.inl ⟨a, b, a2, b2, fun Q => (hc _).trans (h1 Q), fun Q T => (hm _ _).trans (h2 Q T), h3⟩
    · exact Or.inr ⟨a, b, b2, fun Q => (hc _).trans (h1 Q), fun Q T => (hm _ _).trans (h2 Q T), h3⟩
  · obtain ⟨a, b, h1, h2, h3, h4⟩ := s u hf.1.2.2.2.2.2 hf.2.2.1
    exact Or.inr ⟨a, b, v, fun Q => (hc _).trans (h1 Q), fun Q T => hm _ _, hf.1.trans h2, hf.2.1, by rw [h3]; exact hf.2.2.1, h3.trans hf.2.2.2.1, h4.trans hf.2.2.2.2⟩
theorem jB_VW {β : Type} {z : Mm × Mm} {C1 : (Mm → Prop) → Prop} {M1 : (Mm → Prop) → (Mm → Prop) → Prop} {P1 : Mm → Mm → Prop} {C2 : Mm → (Mm → Prop) → Prop} {M2 : Mm → (β → Mm → Prop) → (Mm → Prop) → Prop} {P : β → Mm → Mm → Prop} (h : jV z C1 M1 P1) (k : ∀ u v, P1 u v → jW z (C2 u) (M2 v) P) (s : ∀ u, jOk u → u.1 33 6 ≠ 0 → jSv u (C2 u)) : jW z (fun Q => C1 (fun u => C2 u Q)) (fun Q T => M1 (fun v => M2 v Q T) T) P := by
  rcases h with ⟨u, v, hc, hm, hp⟩ | ⟨u, v, hc, hm, hf⟩
  · rcases k u v hp with ⟨b, a2, b2, h1, h2, h3⟩ | ⟨b, b2, h1, h2, h3⟩
    · exact Or.inl ⟨b, a2, b2, fun Q => (hc _).trans (h1 Q), fun Q T => (hm _ _).trans (h2 Q T), h3⟩
    · exact Or.inr ⟨b, b2, fun Q => (hc _).trans (h1 Q), fun Q T => (hm _ _).trans (h2 Q T), h3⟩
  · obtain ⟨b, h1, h2, h3, h4⟩ := s u hf.1.2.2.2.2.2 hf.2.2.1
    exact Or.inr ⟨b, v, fun Q => (hc _).trans (h1 Q), fun Q T => hm _ _, hf.1.trans h2, hf.2.1, by rw [h3]; exact hf.2.2.1, h3.trans hf.2.2.2.1, h4.trans hf.2.2.2.2⟩
theorem jB_VX {α : Type} {z : Mm × Mm} {C1 : (Mm → Prop) → Prop} {M1 : (Mm → Prop) → (Mm → Prop) → Prop} {P1 : Mm → Mm → Prop} {C2 : Mm → (α → Mm → Prop) → Prop} {M2 : Mm → (Mm → Prop) → (Mm → Prop) → Prop} {P : α → Mm → Mm → Prop} (h : jV z C1 M1 P1) (k : ∀ u v, P1 u v → jX z (C2 u) (M2 v) P) (s : ∀ u, jOk u → u.1 33 6 ≠ 0 → jSi u (C2 u)) : jX z (fun Q => C1 (fun u => C2 u Q)) (fun Q T => M1 (fun v => M2 v Q T) T) P := by
  rcases h with ⟨u, v, hc, hm, hp⟩ | ⟨u, v, hc, hm, hf⟩
  · rcases k u v hp with ⟨a, b, b2, h1, h2, h3⟩ | ⟨a, b, b2, h1, h2, h3⟩
    · exact Or.inl ⟨a, b, b2, fun Q => (hc _).trans (h1 Q), fun Q T => (hm _ _).trans (h2 Q T), h3⟩
    · exact Or.inr ⟨a, b, b2, fun Q => (hc _).trans (h1 Q), fun Q T => (hm _ _).trans (h2 Q T), h3⟩
  · obtain ⟨a, b, h1, h2, h3, h4⟩ := s u hf.1.2.2.2.2.2 hf.2.2.1
    exact Or.inr ⟨a, b, v, fun Q => (hc _).trans (h1 Q), fun Q T => hm _ _, hf.1.trans h2, hf.2.1, by rw [h3]; exact hf.2.2.1, h3.trans hf.2.2.2.1, h4.trans hf.2.2.2.2⟩
theorem jB_IV {γ : Type} {δ : Type} {z : Mm × Mm} {C1 : (γ → Mm → Prop) → Prop} {M1 : (δ → Mm → Prop) → (Mm → Prop) → Prop} {P1 : γ → δ → Mm → Mm → Prop} {C2 : γ → Mm → (Mm → Prop) → Prop} {M2 : δ → Mm → (Mm → Prop) → (Mm → Prop) → Prop} {P : Mm → Mm → Prop} (h : jI z C1 M1 P1) (k : ∀ r r2 u v, P1 r r2 u v → jV z (C2 r u) (M2 r2 v) P) (s : ∀ r u, jOk u → u.1 33 6 ≠ 0 → jSv u (C2 r u)) : jV z (fun Q => C1 (fun r u => C2 r u Q)) (fun Q T => M1 (fun r2 v => M2 r2 v Q T) T) P := by
  rcases h with ⟨r, u, r2, v, hc, hm, hp⟩ | ⟨r, u, v, hc, hm, hf⟩
  · rcases k r r2 u v hp with ⟨b, b2, h1, h2, h3⟩ | ⟨b, b2, h1, h2, h3⟩
    · exact Or.inl ⟨b, b2, fun Q => (hc _).trans (h1 Q), fun Q T => (hm _ _).trans (h2 Q T), h3⟩
    · exact Or.inr ⟨b, b2, fun Q => (hc _).trans (h1 Q), fun Q T => (hm _ _).trans (h2 Q T), h3⟩
  · obtain ⟨b, h1, h2, h3, h4⟩ := s r u hf.1.2.2.2.2.2 hf.2.2.1
    exact Or.inr ⟨b, v, fun Q => (hc _).trans (h1 Q), fun Q T => hm _ _, hf.1.trans h2, hf.2.1, by rw [h3]; exact hf.2.2.1, h3.trans hf.2.2.2.1, h4.trans hf.2.2.2.2⟩
theorem jB_II {γ : Type} {δ : Type} {α : Type} {β : Type} {z : Mm × Mm} {C1 : (γ → Mm → Prop) → Prop} {M1 : (δ → Mm → Prop) → (Mm → Prop) → Prop} {P1 : γ → δ → Mm → Mm → Prop} {C2 : γ → Mm → (α → Mm → Prop) → Prop} {M2 : δ → Mm → (β → Mm → Prop) → (Mm → Prop) → Prop} {P : α → β → Mm → Mm → Prop} (h : jI z C1 M1 P1) (k : ∀ r r2 u v, P1 r r2 u v → jI z (C2 r u) (M2 r2 v) P) (s : ∀ r u, jOk u → u.1 33 6 ≠ 0 → jSi u (C2 r u)) : jI z (fun Q => C1 (fun r u => C2 r u Q)) (fun Q T => M1 (fun r2 v => M2 r2 v Q T) T) P := by
  rcases h with ⟨r, u, r2, v, hc, hm, hp⟩ | ⟨r, u, v, hc, hm, hf⟩
  · rcases k r r2 u v hp with ⟨a, b, a2, b2, h1, h2, h3⟩ | ⟨a, b, b2, h1, h2, h3⟩
    · exact Or.inl ⟨a, b, a2, b2, fun Q => (hc _).trans (h1 Q), fun Q T => (hm _ _).trans (h2 Q T), h3⟩
    · exact Or.inr ⟨a, b, b2, fun Q => (hc _).trans (h1 Q), fun Q T => (hm _ _).trans (h2 Q T), h3⟩
  · obtain ⟨a, b, h1, h2, h3, h4⟩ := s r u hf.1.2.2.2.2.2 hf.2.2.1
    exact Or.inr ⟨a, b, v, fun Q => (hc _).trans (h1 Q), fun Q T => hm _ _, hf.1.trans h2, hf.2.1, by rw [h3]; exact hf.2.2.1, h3.trans hf.2.2.2.1, h4.trans hf.2.2.2.2⟩
theorem jB_IW {γ : Type} {δ : Type} {β : Type} {z : Mm × Mm} {C1 : (γ → Mm → Prop) → Prop} {M1 : (δ → Mm → Prop) → (Mm → Prop) → Prop} {P1 : γ → δ → Mm → Mm → Prop} {C2 : γ → Mm → (Mm → Prop) → Prop} {M2 : δ → Mm → (β → Mm → Prop) → (Mm → Prop) → Prop} {P : β → Mm → Mm → Prop} (h : jI z C1 M1 P1) (k : ∀ r r2 u v, P1 r r2 u v → jW z (C2 r u) (M2 r2 v) P) (s : ∀ r u, jOk u → u.1 33 6 ≠ 0 → jSv u (C2 r u)) : jW z (fun Q => C1 (fun r u => C2 r u Q)) (fun Q T => M1 (fun r2 v => M2 r2 v Q T) T) P := by
  rcases h with ⟨r, u, r2, v, hc, hm, hp⟩ | ⟨r, u, v, hc, hm, hf⟩
  · rcases k r r2 u v hp with ⟨b, a2, b2, h1, h2, h3⟩ | ⟨b, b2, h1, h2, h3⟩
    · exact Or.inl ⟨b, a2, b2, fun Q => (hc _).trans (h1 Q), fun Q T => (hm _ _).trans (h2 Q T), h3⟩
    · exact Or.inr ⟨b, b2, fun Q => (hc _).trans (h1 Q), fun Q T => (hm _ _).trans (h2 Q T), h3⟩
  · obtain ⟨b, h1, h2, h3, h4⟩ := s r u hf.1.2.2.2.2.2 hf.2.2.1
    exact Or.inr ⟨b, v, fun Q => (hc _).trans (h1 Q), fun Q T => hm _ _, hf.1.trans h2, hf.2.1, by rw [h3]; exact hf.2.2.1, h3.trans hf.2.2.2.1, h4.trans hf.2.2.2.2⟩
theorem jB_IX {γ : Type} {δ : Type} {α : Type} {z : Mm × Mm} {C1 : (γ → Mm → Prop) → Prop} {M1 : (δ → Mm → Prop) → (Mm → Prop) → Prop} {P1 : γ → δ → Mm → Mm → Prop} {C2 : γ → Mm → (α → Mm → Prop) → Prop} {M2 : δ → Mm → (Mm → Prop) → (Mm → Prop) → Prop} {P : α → Mm → Mm → Prop} (h : jI z C1 M1 P1) (k : ∀ r r2 u v, P1 r r2 u v → jX z (C2 r u) (M2 r2 v) P) (s : ∀ r u, jOk u → u.1 33 6 ≠ 0 → jSi u (C2 r u)) : jX z (fun Q => C1 (fun r u => C2 r u Q)) (fun Q T => M1 (fun r2 v => M2 r2 v Q T) T) P := by
  rcases h with ⟨r, u, r2, v, hc, hm, hp⟩ | ⟨r, u, v, hc, hm, hf⟩
  · rcases k r r2 u v hp with ⟨a, b, b2, h1, h2, h3⟩ | ⟨a, b, b2, h1, h2, h3⟩
    · exact Or.inl ⟨a, b, b2, fun Q => (hc _).trans (h1 Q), fun Q T => (hm _ _).trans (h2 Q T), h3⟩
    · exact Or.inr ⟨a, b, b2, fun Q => (hc _).trans (h1 Q), fun Q T => (hm _ _).trans (h2 Q T), h3⟩
  · obtain ⟨a, b, h1, h2, h3, h4⟩ := s r u hf.1.2.2.2.2.2 hf.2.2.1
    exact Or.inr ⟨a, b, v, fun Q => (hc _).trans (h1 Q), fun Q T => hm _ _, hf.1.trans h2, hf.2.1, by rw [h3]; exact hf.2.2.1, h3.trans hf.2.2.2.1, h4.trans hf.2.2.2.2⟩
theorem jB_WV {δ : Type} {z : Mm × Mm} {C1 : (Mm → Prop) → Prop} {M1 : (δ → Mm → Prop) → (Mm → Prop) → Prop} {P1 : δ → Mm → Mm → Prop} {C2 : Mm → (Mm → Prop) → Prop} {M2 : δ → Mm → (Mm → Prop) → (Mm → Prop) → Prop} {P : Mm → Mm → Prop} (h : jW z C1 M1 P1) (k : ∀ r2 u v, P1 r2 u v → jV z (C2 u) (M2 r2 v) P) (s : ∀ u, jOk u → u.1 33 6 ≠ 0 → jSv u (C2 u)) : jV z (fun Q => C1 (fun u => C2 u Q)) (fun Q T => M1 (fun r2 v => M2 r2 v Q T) T) P := by
  rcases h with ⟨u, r2, v, hc, hm, hp⟩ | ⟨u, v, hc, hm, hf⟩
  · rcases k r2 u v hp with ⟨b, b2, h1, h2, h3⟩ | ⟨b, b2, h1, h2, h3⟩
    · exact Or.inl ⟨b, b2, fun Q => (hc _).trans (h1 Q), fun Q T => (hm _ _).trans (h2 Q T), h3⟩
    · exact Or.inr ⟨b, b2, fun Q => (hc _).trans (h1 Q), fun Q T => (hm _ _).trans (h2 Q T), h3⟩
  · obtain ⟨b, h1, h2, h3, h4⟩ := s u hf.1.2.2.2.2.2 hf.2.2.1
    exact Or.inr ⟨b, v, fun Q => (hc _).trans (h1 Q), fun Q T => hm _ _, hf.1.trans h2, hf.2.1, by rw [h3]; exact hf.2.2.1, h3.trans hf.2.2.2.1, h4.trans hf.2.2.2.2⟩
theorem jB_WI {δ : Type} {α : Type} {β : Type} {z : Mm × Mm} {C1 : (Mm → Prop) → Prop} {M1 : (δ → Mm → Prop) → (Mm → Prop) → Prop} {P1 : δ → Mm → Mm → Prop} {C2 : Mm → (α → Mm → Prop) → Prop} {M2 : δ → Mm → (β → Mm → Prop) → (Mm → Prop) → Prop} {P : α → β → Mm → Mm → Prop} (h : jW z C1 M1 P1) (k : ∀ r2 u v, P1 r2 u v → jI z (C2 u) (M2 r2 v) P) (s : ∀ u, jOk u → u.1 33 6 ≠ 0 → jSi u (C2 u)) : jI z (fun Q => C1 (fun u => C2 u Q)) (fun Q T => M1 (fun r2 v => M2 r2 v Q T) T) P := by
  rcases h with ⟨u, r2, v, hc, hm, hp⟩ | ⟨u, v, hc, hm, hf⟩
  · rcases k r2 u v hp with ⟨a, b, a2, b2, h1, h2, h3⟩ | ⟨a, b, b2, h1, h2, h3⟩
    · exact Or.inl ⟨a, b, a2, b2, fun Q => (hc _).trans (h1 Q), fun Q T => (hm _ _).trans (h2 Q T), h3⟩
    · exact Or.inr ⟨a, b, b2, fun Q => (hc _).trans (h1 Q), fun Q T => (hm _ _).trans (h2 Q T), h3⟩
  · obtain ⟨a, b, h1, h2, h3, h4⟩ := s u hf.1.2.2.2.2.2 hf.2.2.1
    exact Or.inr ⟨a, b, v, fun Q => (hc _).trans (h1 Q), fun Q T => hm _ _, hf.1.trans h2, hf.2.1, by rw [h3]; exact hf.2.2.1, h3.trans hf.2.2.2.1, h4.trans hf.2.2.2.2⟩
theorem jB_WW {δ : Type} {β : Type} {z : Mm × Mm} {C1 : (Mm → Prop) → Prop} {M1 : (δ → Mm → Prop) → (Mm → Prop) → Prop} {P1 : δ → Mm → Mm → Prop} {C2 : Mm → (Mm → Prop) → Prop} {M2 : δ → Mm → (β → Mm → Prop) → (Mm → Prop) → Prop} {P : β → Mm → Mm → Prop} (h : jW z C1 M1 P1) (k : ∀ r2 u v, P1 r2 u v → jW z (C2 u) (M2 r2 v) P) (s : ∀ u, jOk u → u.1 33 6 ≠ 0 → jSv u (C2 u)) : jW z (fun Q => C1 (fun u => C2 u Q)) (fun Q T => M1 (fun r2 v => M2 r2 v Q T) T) P := by
  rcases h with ⟨u, r2, v, hc, hm, hp⟩ | ⟨u, v, hc, hm, hf⟩
  · rcases k r2 u v hp with ⟨b, a2, b2, h1, h2, h3⟩ | ⟨b, b2, h1, h2, h3⟩
    · exact Or.inl ⟨b, a2, b2, fun Q => (hc _).trans (h1 Q), fun Q T => (hm _ _).trans (h2 Q T), h3⟩
    · exact Or.inr ⟨b, b2, fun Q => (hc _).trans (h1 Q), fun Q T => (hm _ _).trans (h2 Q T), h3⟩
  · obtain ⟨b, h1, h2, h3, h4⟩ := s u hf.1.2.2.2.2.2 hf.2.2.1
    exact Or.inr ⟨b, v, fun Q => (hc _).trans (h1 Q), fun Q T => hm _ _, hf.1.trans h2, hf.2.1, by rw [h3]; exact hf.2.2.1, h3.trans hf.2.2.2.1, h4.trans hf.2.2.2.2⟩
theorem jB_WX {δ : Type} {α : Type} {z : Mm × Mm} {C1 : (Mm → Prop) → Prop} {M1 : (δ → Mm → Prop) → (Mm → Prop) → Prop} {P1 : δ → Mm → Mm → Prop} {C2 : Mm → (α → Mm → Prop) → Prop} {M2 : δ → Mm → (Mm → Prop) → (Mm → Prop) → Prop} {P : α → Mm → Mm → Prop} (h : jW z C1 M1 P1) (k : ∀ r2 u v, P1 r2 u v → jX z (C2 u) (M2 r2 v) P) (s : ∀ u, jOk u → u.1 33 6 ≠ 0 → jSi u (C2 u)) : jX z (fun Q => C1 (fun u => C2 u Q)) (fun Q T => M1 (fun r2 v => M2 r2 v Q T) T) P := by
  rcases h with ⟨u, r2, v, hc, hm, hp⟩ | ⟨u, v, hc, hm, hf⟩
  · rcases k r2 u v hp with ⟨a, b, b2, h1, h2, h3⟩ | ⟨a, b, b2, h1, h2, h3⟩
    · exact Or.inl ⟨a, b, b2, fun Q => (hc _).trans (h1 Q), fun Q T => (hm _ _).trans (h2 Q T), h3⟩
    · exact Or.inr ⟨a, b, b2, fun Q => (hc _).trans (h1 Q), fun Q T => (hm _ _).trans (h2 Q T), h3⟩
  · obtain ⟨a, b, h1, h2, h3, h4⟩ := s u hf.1.2.2.2.2.2 hf.2.2.1
    exact Or.inr ⟨a, b, v, fun Q => (hc _).trans (h1 Q), fun Q T => hm _ _, hf.1.trans h2, hf.2.1, by rw [h3]; exact hf.2.2.1, h3.trans hf.2.2.2.1, h4.trans hf.2.2.2.2⟩
theorem jB_XV {γ : Type} {z : Mm × Mm} {C1 : (γ → Mm → Prop) → Prop} {M1 : (Mm → Prop) → (Mm → Prop) → Prop} {P1 : γ → Mm → Mm → Prop} {C2 : γ → Mm → (Mm → Prop) → Prop} {M2 : Mm → (Mm → Prop) → (Mm → Prop) → Prop} {P : Mm → Mm → Prop} (h : jX z C1 M1 P1) (k : ∀ r u v, P1 r u v → jV z (C2 r u) (M2 v) P) (s : ∀ r u, jOk u → u.1 33 6 ≠ 0 → jSv u (C2 r u)) : jV z (fun Q => C1 (fun r u => C2 r u Q)) (fun Q T => M1 (fun v => M2 v Q T) T) P := by
  rcases h with ⟨r, u, v, hc, hm, hp⟩ | ⟨r, u, v, hc, hm, hf⟩
  · rcases k r u v hp with ⟨b, b2, h1, h2, h3⟩ | ⟨b, b2, h1, h2, h3⟩
    · exact Or.inl ⟨b, b2, fun Q => (hc _).trans (h1 Q), fun Q T => (hm _ _).trans (h2 Q T), h3⟩
    · exact Or.inr ⟨b, b2, fun Q => (hc _).trans (h1 Q), fun Q T => (hm _ _).trans (h2 Q T), h3⟩
  · obtain ⟨b, h1, h2, h3, h4⟩ := s r u hf.1.2.2.2.2.2 hf.2.2.1
    exact Or.inr ⟨b, v, fun Q => (hc _).trans (h1 Q), fun Q T => hm _ _, hf.1.trans h2, hf.2.1, by rw [h3]; exact hf.2.2.1, h3.trans hf.2.2.2.1, h4.trans hf.2.2.2.2⟩
theorem jB_XI {γ : Type} {α : Type} {β : Type} {z : Mm × Mm} {C1 : (γ → Mm → Prop) → Prop} {M1 : (Mm → Prop) → (Mm → Prop) → Prop} {P1 : γ → Mm → Mm → Prop} {C2 : γ → Mm → (α → Mm → Prop) → Prop} {M2 : Mm → (β → Mm → Prop) → (Mm → Prop) → Prop} {P : α → β → Mm → Mm → Prop} (h : jX z C1 M1 P1) (k : ∀ r u v, P1 r u v → jI z (C2 r u) (M2 v) P) (s : ∀ r u, jOk u → u.1 33 6 ≠ 0 → jSi u (C2 r u)) : jI z (fun Q => C1 (fun r u => C2 r u Q)) (fun Q T => M1 (fun v => M2 v Q T) T) P := by
  rcases h with ⟨r, u, v, hc, hm, hp⟩ | ⟨r, u, v, hc, hm, hf⟩
  · rcases k r u v hp with ⟨a, b, a2, b2, h1, h2, h3⟩ | ⟨a, b, b2, h1, h2, h3⟩
    · exact Or.inl ⟨a, b, a2, b2, fun Q => (hc _).trans (h1 Q), fun Q T => (hm _ _).trans (h2 Q T), h3⟩
    · exact Or.inr ⟨a, b, b2, fun Q => (hc _).trans (h1 Q), fun Q T => (hm _ _).trans (h2 Q T), h3⟩
  · obtain ⟨a, b, h1, h2, h3, h4⟩ := s r u hf.1.2.2.2.2.2 hf.2.2.1
    exact Or.inr ⟨a, b, v, fun Q => (hc _).trans (h1 Q), fun Q T => hm _ _, hf.1.trans h2, hf.2.1, by rw [h3]; exact hf.2.2.1, h3.trans hf.2.2.2.1, h4.trans hf.2.2.2.2⟩
theorem jB_XW {γ : Type} {β : Type} {z : Mm × Mm} {C1 : (γ → Mm → Prop) → Prop} {M1 : (Mm → Prop) → (Mm → Prop) → Prop} {P1 : γ → Mm → Mm → Prop} {C2 : γ → Mm → (Mm → Prop) → Prop} {M2 : Mm → (β → Mm → Prop) → (Mm → Prop) → Prop} {P : β → Mm → Mm → Prop} (h : jX z C1 M1 P1) (k : ∀ r u v, P1 r u v → jW z (C2 r u) (M2 v) P) (s : ∀ r u, jOk u → u.1 33 6 ≠ 0 → jSv u (C2 r u)) : jW z (fun Q => C1 (fun r u => C2 r u Q)) (fun Q T => M1 (fun v => M2 v Q T) T) P := by
  rcases h with ⟨r, u, v, hc, hm, hp⟩ | ⟨r, u, v, hc, hm, hf⟩
  · rcases k r u v hp with ⟨b, a2, b2, h1, h2, h3⟩ | ⟨b, b2, h1, h2, h3⟩
    · exact Or.inl ⟨b, a2, b2, fun Q => (hc _).trans (h1 Q), fun Q T => (hm _ _).trans (h2 Q T), h3⟩
    · exact Or.inr ⟨b, b2, fun Q => (hc _).trans (h1 Q), fun Q T => (hm _ _).trans (h2 Q T), h3⟩
  · obtain ⟨b, h1, h2, h3, h4⟩ := s r u hf.1.2.2.2.2.2 hf.2.2.1
    exact Or.inr ⟨b, v, fun Q => (hc _).trans (h1 Q), fun Q T => hm _ _, hf.1.trans h2, hf.2.1, by rw [h3]; exact hf.2.2.1, h3.trans hf.2.2.2.1, h4.trans hf.2.2.2.2⟩
theorem jB_XX {γ : Type} {α : Type} {z : Mm × Mm} {C1 : (γ → Mm → Prop) → Prop} {M1 : (Mm → Prop) → (Mm → Prop) → Prop} {P1 : γ → Mm → Mm → Prop} {C2 : γ → Mm → (α → Mm → Prop) → Prop} {M2 : Mm → (Mm → Prop) → (Mm → Prop) → Prop} {P : α → Mm → Mm → Prop} (h : jX z C1 M1 P1) (k : ∀ r u v, P1 r u v → jX z (C2 r u) (M2 v) P) (s : ∀ r u, jOk u → u.1 33 6 ≠ 0 → jSi u (C2 r u)) : jX z (fun Q => C1 (fun r u => C2 r u Q)) (fun Q T => M1 (fun v => M2 v Q T) T) P := by
  rcases h with ⟨r, u, v, hc, hm, hp⟩ | ⟨r, u, v, hc, hm, hf⟩
  · rcases k r u v hp with ⟨a, b, b2, h1, h2, h3⟩ | ⟨a, b, b2, h1, h2, h3⟩
    · exact Or.inl ⟨a, b, b2, fun Q => (hc _).trans (h1 Q), fun Q T => (hm _ _).trans (h2 Q T), h3⟩
    · exact Or.inr ⟨a, b, b2, fun Q => (hc _).trans (h1 Q), fun Q T => (hm _ _).trans (h2 Q T), h3⟩
  · obtain ⟨a, b, h1, h2, h3, h4⟩ := s r u hf.1.2.2.2.2.2 hf.2.2.1
    exact Or.inr ⟨a, b, v, fun Q => (hc _).trans (h1 Q), fun Q T => hm _ _, hf.1.trans h2, hf.2.1, by rw [h3]; exact hf.2.2.1, h3.trans hf.2.2.2.1, h4.trans hf.2.2.2.2⟩
theorem jS_vv {u : Mm} {C1 : (Mm → Prop) → Prop} {C2 : Mm → (Mm → Prop) → Prop} (h : jSv u C1) (hu : u.1 33 6 ≠ 0) (k : ∀ u1, jOk u1 → u1.1 33 6 ≠ 0 → jSv u1 (C2 u1)) : jSv u (fun Q => C1 (fun u1 => C2 u1 Q)) := by
  obtain ⟨u1, h1, h2, h3, h4⟩ := h
  obtain ⟨b, g1, g2, g3, g4⟩ := k u1 h2.2.2.2.2.2 (by rw [h3]; exact hu)
  exact ⟨b, fun Q => (h1 _).trans (g1 Q), h2.trans g2, g3.trans h3, g4.trans h4⟩
theorem jS_vi {α : Type} {u : Mm} {C1 : (Mm → Prop) → Prop} {C2 : Mm → (α → Mm → Prop) → Prop} (h : jSv u C1) (hu : u.1 33 6 ≠ 0) (k : ∀ u1, jOk u1 → u1.1 33 6 ≠ 0 → jSi u1 (C2 u1)) : jSi u (fun Q => C1 (fun u1 => C2 u1 Q)) := by
  obtain ⟨u1, h1, h2, h3, h4⟩ := h
  obtain ⟨a, b, g1, g2, g3, g4⟩ := k u1 h2.2.2.2.2.2 (by rw [h3]; exact hu)
  exact ⟨a, b, fun Q => (h1 _).trans (g1 Q), h2.trans g2, g3.trans h3, g4.trans h4⟩
theorem jS_iv {γ : Type} {u : Mm} {C1 : (γ → Mm → Prop) → Prop} {C2 : γ → Mm → (Mm → Prop) → Prop} (h : jSi u C1) (hu : u.1 33 6 ≠ 0) (k : ∀ r u1, jOk u1 → u1.1 33 6 ≠ 0 → jSv u1 (C2 r u1)) : jSv u (fun Q => C1 (fun r u1 => C2 r u1 Q)) := by
  obtain ⟨r, u1, h1, h2, h3, h4⟩ := h
  obtain ⟨b, g1, g2, g3, g4⟩ := k r u1 h2.2.2.2.2.2 (by rw [h3]; exact hu)
  exact ⟨b, fun Q => (h1 _).trans (g1 Q), h2.trans g2, g3.trans h3, g4.trans h4⟩
theorem jS_ii {γ : Type} {α : Type} {u : Mm} {C1 : (γ → Mm → Prop) → Prop} {C2 : γ → Mm → (α → Mm → Prop) → Prop} (h : jSi u C1) (hu : u.1 33 6 ≠ 0) (k : ∀ r u1, jOk u1 → u1.1 33 6 ≠ 0 → jSi u1 (C2 r u1)) : jSi u (fun Q => C1 (fun r u1 => C2 r u1 Q)) := by
  obtain ⟨r, u1, h1, h2, h3, h4⟩ := h
  obtain ⟨a, b, g1, g2, g3, g4⟩ := k r u1 h2.2.2.2.2.2 (by rw [h3]; exact hu)
  exact ⟨a, b, fun Q => (h1 _).trans (g1 Q), h2.trans g2, g3.trans h3, g4.trans h4⟩
