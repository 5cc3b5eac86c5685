/-! what making needs of the start beside the tables -/
def nA (B : Nat) : Nat → Prop := fun a => B ≤ a
def nX (B : Nat) (s : State) : Prop := va_AO "AbcForms$Voice" s ∧ va_Nw (.methodLinkNest RX4 32 yX2_init "AbcForms") s ∧ va_Zq "java/lang/Throwable" "UNASSIGNED_STACK" "[Ljava/lang/StackTraceElement;" (nA B) s s.heap ∧ va_Zq "java/lang/Throwable" "SUPPRESSED_SENTINEL" "Ljava/util/List;" (nA B) s s.heap
theorem nX.to {B : Nat} {s U : State} (h : nX B s) (hW : s.WarmedH U.vm) (hq : ∀ a : Nat, a < s.heap.size → ¬ nA B a → U.heap[a]? = s.heap[a]?) : nX B U :=
  ⟨va_AO.moved hW.alike h.1, h.2.1.warmM hW, va_Zq.moved hW.alike (h.2.2.1.kept hq), va_Zq.moved hW.alike (h.2.2.2.kept hq)⟩
