/-! memory, world, the judgement xE -/
abbrev Mm : Type := (Nat → Nat → Int32) × (Nat → Nat → Int64) × (Nat → Nat)
abbrev Gb : Type := va_G × (Nat → ClassId) × (Nat → Nat) × Launch × (Nat → Nat) × (Nat → Nat)
abbrev Me : Type := String × List (Nat × Instr × Nat) × Nat × Option FieldType × Room × List ExceptionTableEntry
abbrev gD (g : Gb) : va_G := g.1
abbrev gA (g : Gb) : Nat → ClassId := g.2.1
abbrev gR (g : Gb) : Nat → Nat := g.2.2.1
abbrev gL (g : Gb) : Launch := g.2.2.2.1
abbrev gK (g : Gb) : Nat → Nat := g.2.2.2.2.1
abbrev gV (g : Gb) : Nat → Nat := g.2.2.2.2.2
def setI (σ : Mm) (q k : Nat) (v : Int32) : Mm := (fun a b => if a = q ∧ b = k then v else σ.1 a b, σ.2.1, σ.2.2)
def setJ (σ : Mm) (q k : Nat) (v : Int64) : Mm := (σ.1, fun a b => if a = q ∧ b = k then v else σ.2.1 a b, σ.2.2)
def setP (σ : Mm) (k v : Nat) : Mm := (σ.1, σ.2.1, fun a => if a = k then v else σ.2.2 a)
def xfv (r : Nat → Nat) (σ : Mm) (q ci k : Nat) : Value := match xfk ci k with
  | (0, _) => .int (σ.1 q k)
  | (1, _) => .long (σ.2.1 q k)
  | (2, x) => .ref (r x)
  | (3, x) => .ref (r (σ.2.2 x))
  | (4, x) => .ref (r (q + x))
  | _ => .null
def xfs (g : Gb) (σ : Mm) (q ci : Nat) : List Value := (List.range (xnF ci)).map (xfv (gR g) σ q ci)
def xent (g : Gb) (σ : Mm) (q : Nat) : va_E := match xlay q with
  | (0, ci, _) => .inr (ci, xfs g σ q ci)
  | (1, 3, n) => .inl (gA g 3, n, .inr (.inl (σ.2.1 q)))
  | (1, t, n) => .inl (gA g t, n, .inl (σ.1 q))
  | (2, b, n) => .inl (gA g 4, n, .inr (.inr (.inr (.inr (fun j => some (gR g (b + j)))))))
  | _ => .inl (0, 0, .inl (fun _ => 0))
def xw (g : Gb) (σ : Mm) : va_W := (List.range 67).map (fun q => (gR g q, xent g σ q))
def xt (g : Gb) : List (ClassId × FieldType) := [(gA g 0, .int), (gA g 1, .byte), (gA g 2, .boolean), (gA g 3, .long), (gA g 4, .object "AbcForms$Voice")]
def xTy (σ : Mm) : Prop := xlay (σ.2.2 0) = (1, 1, 2400) ∧ xlay (σ.2.2 1) = (1, 1, 2400) ∧ xlay (σ.2.2 2) = (0, 7, 0)
def xP (g : Gb) (σ : Mm) (H : Heap) : Prop := va_P (gD g) xCl (xw g σ) H ∧ xTy σ
def xA (g : Gb) : Nat → Prop := fun a => ∃ q, q < 67 ∧ gR g q = a
def xInj (g : Gb) : Prop := ∀ i j, i < 67 → j < 67 → gR g i = gR g j → i = j
theorem xw_len (g : Gb) (σ : Mm) : (xw g σ).length = 67 := by simp [xw]
theorem xw_get {g : Gb} {σ : Mm} {q : Nat} (h : q < 67) : (xw g σ)[q]? = some (gR g q, xent g σ q) := by
  simp [xw, h]
theorem xw_get' {g : Gb} {σ : Mm} {k : Nat} {p : Nat × va_E} (h : (xw g σ)[k]? = some p) : k < 67 ∧ p = (gR g k, xent g σ k) := by
  have hlt : k < 67 := by have := (List.getElem?_eq_some_iff.mp h).1; rwa [xw_len] at this
  rw [xw_get hlt] at h
  exact ⟨hlt, (Option.some.inj h).symm⟩
theorem xw_set {g : Gb} {σ σ' : Mm} {q : Nat} {e' : va_E} (h : q < 67) (he : xent g σ' q = e') (ho : ∀ j, j ≠ q → xent g σ' j = xent g σ j) : (xw g σ).set q (gR g q, e') = xw g σ' := by
  apply List.ext_getElem?
  intro i
  rcases Nat.lt_or_ge i 67 with hi | hi
  · rw [List.getElem?_set, xw_get hi]
    by_cases hq : q = i
    · subst hq
      rw [if_pos rfl, if_pos (by rw [xw_len]; exact h), xw_get h, he]
    · rw [if_neg hq, xw_get hi, ho i (fun z => hq z.symm)]
  · rw [List.getElem?_eq_none (by rw [List.length_set, xw_len]; exact hi), List.getElem?_eq_none (by rw [xw_len]; exact hi)]
theorem xD {g : Gb} {σ : Mm} (h : xInj g) : va_D (xA g) (xw g σ) := by
  refine ⟨fun i j p q hp hq he => ?_, fun k q hk => ?_⟩
  · obtain ⟨hi, rfl⟩ := xw_get' hp
    obtain ⟨hj, rfl⟩ := xw_get' hq
    exact h i j hi hj he
  · obtain ⟨hi, rfl⟩ := xw_get' hk
    exact ⟨k, hi, rfl⟩
/-- string constants (N of them, by number), and static arrays of ints: what never changes -/
def xStr (tx : List (List Int32)) (g : Gb) (U : State) (H : Heap) : Prop := ∀ i : Nat, i < tx.length → va_O "java/lang/String" (gK g i) (xA g) U H ∧ va_OF "java/lang/String" "coder" "B" (.int 0) (gK g i) (xA g) U H ∧ va_OF "java/lang/String" "value" "[B" (.ref (gV g i)) (gK g i) (xA g) U H ∧ va_T .byte (gV g i) (tx.getD i []).length (fun j => .int ((tx.getD i []).getD j 0)) (xA g) U H
theorem xStr.moved {tx : List (List Int32)} {g : Gb} {u U : State} {H : Heap} (hvm : u.vm.Alike U.vm) (h : xStr tx g u H) : xStr tx g U H :=
  fun i hi => ⟨va_O.moved hvm (h i hi).1, va_OF.moved hvm (h i hi).2.1, va_OF.moved hvm (h i hi).2.2.1, va_T.moved hvm (h i hi).2.2.2⟩
theorem xStr.kept {tx : List (List Int32)} {g : Gb} {U : State} {H H1 : Heap} (h : xStr tx g U H) (hq : ∀ a : Nat, a < H.size → ¬ xA g a → H1[a]? = H[a]?) : xStr tx g U H1 :=
  fun i hi => ⟨(h i hi).1.kept hq, (h i hi).2.1.kept hq, (h i hi).2.2.1.kept hq, (h i hi).2.2.2.kept hq⟩
