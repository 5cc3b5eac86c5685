/-! what a new thing leaves, and the relation with it -/
section AT
variable {c : Nat} {sort pl vn mh un : Int32} {now : Int64} {u : Mm}
theorem aT_1 {q : Nat} (h1 : q ≠ 36) (h2 : q ≠ 46) : (aT c sort pl vn mh un now u).1 q = u.1 q := by
  unfold aT; rw [gJi, gIn h2, gIn h2, gIn h2, gJi, gJi, gIn h2, gIn h2, clr_n h2, gIn h1]
theorem aT_36 {k : Nat} : (aT c sort pl vn mh un now u).1 36 k = if k = 3 then nI (c + 1) else u.1 36 k := by
  unfold aT; rw [gJi, gIn (by omega), gIn (by omega), gIn (by omega), gJi, gJi, gIn (by omega), gIn (by omega), clr_n (by omega), gIs, hu_if]
theorem aT_46 {i : Nat} : (aT c sort pl vn mh un now u).1 46 i = if i = 19 * c + 17 then un else if i = 19 * c + 2 then mh else if i = 19 * c + 1 then vn else if i = 19 * c + 16 then pl else if i = 19 * c then sort else if 19 * c ≤ i ∧ i < 19 * c + 19 then 0 else u.1 46 i := by
  unfold aT; rw [gJi, gIs, hu_if, gIs, hu_if, gIs, hu_if, gJi, gJi, gIs, hu_if, gIs, hu_if, clr_s, gIn (by omega)]
theorem aT_lo {i : Nat} (h : i < 19 * c) : (aT c sort pl vn mh un now u).1 46 i = u.1 46 i := by
  rw [aT_46, if_neg (by omega), if_neg (by omega), if_neg (by omega), if_neg (by omega), if_neg (by omega), if_neg (by omega)]
theorem aT_J {q : Nat} (h1 : q ≠ 47) (h2 : q ≠ 48) : (aT c sort pl vn mh un now u).2.1 q = u.2.1 q := by
  unfold aT; rw [gJn h2, gIj, gIj, gIj, gJn h2, gJn h1]; rfl
theorem aT_47 {i : Nat} : (aT c sort pl vn mh un now u).2.1 47 i = if i = c then 0 else u.2.1 47 i := by
  unfold aT; rw [gJn (by omega), gIj, gIj, gIj, gJn (by omega), gJs, hv_if]; rfl
theorem aT_48 {i : Nat} : (aT c sort pl vn mh un now u).2.1 48 i = if i = c then now else u.2.1 48 i := by
  unfold aT; rw [gJs, hv_if, gIj, gIj, gIj, gJs, hv_if, gJn (by omega)]
  by_cases h : i = c
  · rw [if_pos h, if_pos h]
  · rw [if_neg h, if_neg h, if_neg h]; rfl
theorem aT_P : (aT c sort pl vn mh un now u).2.2 = u.2.2 := rfl
theorem aT_K {a : Mm} (h : jKc a u) : jKc a (aT c sort pl vn mh un now u) := by
  obtain ⟨h1, h2, h3, h4, h5, h6⟩ := h
  refine ⟨fun q hq => ⟨?_, ?_⟩, ?_, ?_, h4, h5, h6⟩
  · rw [aT_1 (by omega) (by omega)]; exact (h1 q hq).1
  · rw [aT_J (by omega) (by omega)]; exact (h1 q hq).2
  · rw [aT_1 (by omega) (by omega)]; exact h2
  · rw [aT_1 (by omega) (by omega)]; exact h3
theorem mT_1 {q : Nat} (h1 : q ≠ 0) (h2 : q ≠ 6) (h3 : q ≠ 9) (h4 : q ≠ 10) (h5 : q ≠ 11) : (mT c sort pl vn mh un now u).1 q = u.1 q := by
  unfold mT; rw [gIn h1, gIn h5, gIn h4, gIn h3, gJi, gJi, gIn h2, gIn h2, gIn h2, gIn h2, clr_n h2]
theorem mT_0 {k : Nat} : (mT c sort pl vn mh un now u).1 0 k = if k = 27 then nI (c + 1) else u.1 0 k := by
  unfold mT; rw [gIs, hu_if, gIn (by omega), gIn (by omega), gIn (by omega), gJi, gJi, gIn (by omega), gIn (by omega), gIn (by omega), gIn (by omega), clr_n (by omega)]
theorem mT_6 {i : Nat} : (mT c sort pl vn mh un now u).1 6 i = if i = 17 * c + 16 then pl else if i = 17 * c + 2 then mh else if i = 17 * c + 1 then vn else if i = 17 * c then sort else if 17 * c ≤ i ∧ i < 17 * c + 17 then 0 else u.1 6 i := by
  unfold mT; rw [gIn (by omega), gIn (by omega), gIn (by omega), gIn (by omega), gJi, gJi, gIs, hu_if, gIs, hu_if, gIs, hu_if, gIs, hu_if, clr_s]
theorem mT_lo {i : Nat} (h : i < 17 * c) : (mT c sort pl vn mh un now u).1 6 i = u.1 6 i := by
  rw [mT_6, if_neg (by omega), if_neg (by omega), if_neg (by omega), if_neg (by omega), if_neg (by omega)]
theorem mT_9 {i : Nat} : (mT c sort pl vn mh un now u).1 9 i = if i = c then un else u.1 9 i := by
  unfold mT; rw [gIn (by omega), gIn (by omega), gIn (by omega), gIs, hu_if, gJi, gJi, gIn (by omega), gIn (by omega), gIn (by omega), gIn (by omega), clr_n (by omega)]
theorem mT_10 {i : Nat} : (mT c sort pl vn mh un now u).1 10 i = if i = c then 0 else u.1 10 i := by
  unfold mT; rw [gIn (by omega), gIn (by omega), gIs, hu_if, gIn (by omega), gJi, gJi, gIn (by omega), gIn (by omega), gIn (by omega), gIn (by omega), clr_n (by omega)]
theorem mT_11 {i : Nat} : (mT c sort pl vn mh un now u).1 11 i = if i = c then 0 else u.1 11 i := by
  unfold mT; rw [gIn (by omega), gIs, hu_if, gIn (by omega), gIn (by omega), gJi, gJi, gIn (by omega), gIn (by omega), gIn (by omega), gIn (by omega), clr_n (by omega)]
theorem mT_J {q : Nat} (h1 : q ≠ 7) (h2 : q ≠ 8) : (mT c sort pl vn mh un now u).2.1 q = u.2.1 q := by
  unfold mT; rw [gIj, gIj, gIj, gIj, gJn h2, gJn h1]; rfl
theorem mT_7 {i : Nat} : (mT c sort pl vn mh un now u).2.1 7 i = if i = c then 0 else u.2.1 7 i := by
  unfold mT; rw [gIj, gIj, gIj, gIj, gJn (by omega), gJs, hv_if]; rfl
theorem mT_8 {i : Nat} : (mT c sort pl vn mh un now u).2.1 8 i = if i = c then now else u.2.1 8 i := by
  unfold mT; rw [gIj, gIj, gIj, gIj, gJs, hv_if, gJn (by omega)]; rfl
theorem mT_P : (mT c sort pl vn mh un now u).2.2 = u.2.2 := rfl
theorem mT_K {a : Mm} (h : jKm a u) : jKm a (mT c sort pl vn mh un now u) := by
  obtain ⟨h1, h2, h3, h4, h5, h6⟩ := h
  refine ⟨fun q hq => ⟨?_, ?_⟩, h2, ?_, ?_, ?_, ?_⟩
  · rw [mT_1 (by omega) (by omega) (by omega) (by omega) (by omega)]; exact (h1 q hq).1
  · rw [mT_J (by omega) (by omega)]; exact (h1 q hq).2
  all_goals rw [mT_0, if_neg (by omega)]; assumption
end AT
theorem eI.up {c c' : Nat} {u v u' v' : Mm} (h : eI c u v) (hc : c ≤ c') (h1 : ∀ q k, 50 ≤ q → q ≤ 52 → 11 ≤ k → k ≤ 13 → u'.1 q k = u.1 q k) (k1 : v'.1 23 = v.1 23) (k2 : ∀ i, i < 17 * c → v'.1 6 i = v.1 6 i) : eI c' u' v' := by
  intro w hw
  rw [h1 (50 + w) 11 (by omega) (by omega) (by omega) (by omega), h1 (50 + w) 12 (by omega) (by omega) (by omega) (by omega), h1 (50 + w) 13 (by omega) (by omega) (by omega) (by omega), k1]
  rcases h w hw with ⟨h0, f, k, a1, a2, a3, a4, a5, a6, a7, a8⟩ | ⟨h0, h⟩
  · exact Or.inl ⟨h0, f, k, a1, a2, a3, by omega, a5, fun i g1 g2 => by rw [k2 _ (by omega)]; exact a6 i g1 g2, by rw [k2 _ (by omega)]; exact a7, by rw [k2 _ (by omega)]; exact a8⟩
  · refine Or.inr ⟨h0, ?_⟩
    rcases h with h | ⟨f, a1, a2, a3⟩
    · exact Or.inl h
    · exact Or.inr ⟨f, by omega, a2, by rw [k2 _ (by omega), k2 _ (by omega)]; exact a3⟩
theorem eB.up {c c' : Nat} {u v u' v' : Mm} (h : eB c u v) (hc : c ≤ c') (h1 : u'.1 38 12 = u.1 38 12) (k1 : v'.1 0 63 = v.1 0 63) (k2 : ∀ i, i < 17 * c → v'.1 6 i = v.1 6 i) : eB c' u' v' := by
  unfold eB
  rw [h1, k1]
  refine ⟨h.1, ?_⟩
  rcases h.2 with h | ⟨f, a1, a2, a3⟩
  · exact Or.inl h
  · exact Or.inr ⟨f, by omega, a2, by rw [k2 _ (by omega)]; exact a3⟩
theorem gapOf_up {th th' em em' : Nat → Int32} : ∀ (c k : Nat), (∀ i, i < 17 * c → th' i = th i) → (∀ i, i < c → em' i = em i) → gapOf th' em' c k = gapOf th em c k := by
  intro c
  induction c with
  | zero => intros; rfl
  | succ c ih =>
    intro k h1 h2
    rw [gapOf, gapOf, h1 _ (by omega), h1 _ (by omega), h1 _ (by omega), h1 _ (by omega), h1 _ (by omega), h2 _ (by omega), ih k (fun i hi => h1 i (by omega)) (fun i hi => h2 i (by omega))]
theorem eG.up {c : Nat} {u v u' v' : Mm} (h : eG c u v) (h1 : u'.1 62 = u.1 62) (k1 : ∀ i, i < 17 * c → v'.1 6 i = v.1 6 i) (k2 : ∀ i, i < c → v'.1 11 i = v.1 11 i) : eG c u' v' := by
  refine ⟨fun k hk => ?_, fun t ht => ?_⟩
  · rw [h1, gapOf_up c k k1 k2]; exact h.1 k hk
  · rw [k1 _ (by omega), k1 _ (by omega), k1 _ (by omega), k1 _ (by omega), k1 _ (by omega), k2 t ht]; exact h.2 t ht
/-- one more thing that is no bar of the first voice -/
theorem eG.grow {c : Nat} {u v : Mm} (h : eG c u v) (hs : v.1 6 (17 * c) ≠ 4) : eG (c + 1) u v := by
  refine ⟨fun k hk => ?_, fun t ht => ?_⟩
  · rw [gapOf, if_neg (fun z => hs z.1)]; exact h.1 k hk
  · intro h4
    rcases Nat.lt_or_ge t c with h1 | h1
    · exact h.2 t h1 h4
    · rw [show t = c from by omega] at h4; exact absurd h4 hs
theorem eD.up {c : Nat} {v v' : Mm} (h : eD c v) (k1 : ∀ i, i < 17 * c → v'.1 6 i = v.1 6 i) (k2 : ∀ i, i < c → v'.2.1 7 i = v.2.1 7 i) (k3 : ∀ i, i < c → v'.1 9 i = v.1 9 i) : eD c v' := by
  intro i hi
  rw [k1 _ (by omega), k1 _ (by omega), k1 _ (by omega), k1 _ (by omega), k2 i hi, k3 i hi]
  exact h i hi
/-- c things, c0 of them finished -/
def Rm (z : Mm × Mm) (T : Nat → Nat) (sz B e s p c c0 w : Nat) (u v : Mm) : Prop := eK z u v ∧ eT T sz B u v ∧ eL T sz e s p u v ∧ eC c u v ∧ eM u v ∧ eU u v ∧ eS u v ∧ eI c0 u v ∧ eW w u v ∧ eN u v ∧ eB c0 u v ∧ eH sz u v ∧ eD c0 v ∧ eG c0 u v ∧ c0 ≤ c
theorem Rm.new {z : Mm × Mm} {T : Nat → Nat} {sz B e s p c c0 w m so : Nat} {sort pl un : Int32} {now : Int64} {u v : Mm} (h : Rm z T sz B e s p c c0 w u v) (hc : c < 400) : Rm z T sz B e s p (c + 1) c0 w (aT c sort pl (nI (w + 1)) (nI (m - so)) un now u) (mT c sort pl (nI (w + 1)) (nI (m - so)) un now v) := by
  obtain ⟨hK, hT, hL, hC, hM, hU, hS, hI, hW, hN, hB, hH, hD, hG, h0⟩ := h
  refine ⟨⟨aT_K hK.1, mT_K hK.2.1, by rw [aT_1 (by omega) (by omega)]; exact hK.2.2⟩, hT.cg rfl (by rw [aT_1 (by omega) (by omega)]) (aT_1 (by omega) (by omega)) (aT_1 (by omega) (by omega)) (by rw [mT_0, if_neg (by omega)]) (mT_1 (by omega) (by omega) (by omega) (by omega) (by omega)), ?_, ?_, hM.cg ?_ ?_ ?_ ?_ ?_ ?_ ?_ ?_, hU.cg ?_ ?_ ?_ ?_ ?_, hS.cg ?_ ?_ ?_ ?_, hI.up (Nat.le_refl _) ?_ ?_ ?_, hW.cg ?_ ?_ ?_ ?_ ?_ ?_ ?_, hN.cg ?_ ?_ ?_, hB.up (Nat.le_refl _) ?_ ?_ ?_, hH.cg ?_ ?_ ?_ ?_ ?_ ?_ ?_, hD.up (fun i hi => mT_lo (by omega)) (fun i hi => mT_7.trans (if_neg (by omega))) (fun i hi => mT_9.trans (if_neg (by omega))), hG.up (aT_1 (by omega) (by omega)) (fun i hi => mT_lo (by omega)) (fun i hi => mT_11.trans (if_neg (by omega))), by omega⟩
  · unfold eL
    rw [aT_1 (by omega) (by omega), mT_0, mT_0, mT_0, if_neg (by omega), if_neg (by omega), if_neg (by omega)]; exact hL
  · obtain ⟨c1, c2, c3, c4⟩ := hC
    refine ⟨by rw [aT_36, if_pos rfl], by rw [mT_0, if_pos rfl], by omega, fun i hi => ?_⟩
    rcases Nat.lt_or_ge i c with h1 | h1
    · obtain ⟨d1, d2, d3, d4, d5⟩ := c4 i h1
      refine ⟨fun k hk => ?_, ?_, ?_, ?_, ?_⟩
      · rw [aT_lo (by omega), mT_lo (by omega)]; exact d1 k hk
      · rw [aT_47, mT_7, if_neg (by omega), if_neg (by omega)]; exact d2
      · rw [aT_48, mT_8, if_neg (by omega), if_neg (by omega)]; exact d3
      · rw [aT_lo (by omega), mT_9, if_neg (by omega)]; exact d4
      · rw [aT_lo (by omega), mT_lo (by omega), mT_10.trans (if_neg (show ¬ i = c by omega))]; exact d5
    · obtain rfl : i = c := by omega
      refine ⟨fun k hk => ?_, ?_, ?_, ?_, ?_⟩
      · rw [aT_46, mT_6, if_neg (by omega)]
        by_cases h2 : k = 2
        · rw [if_pos (by omega), if_neg (by omega), if_pos (by omega)]
        · rw [if_neg (by omega)]
          by_cases h3 : k = 1
          · rw [if_pos (by omega), if_neg (by omega), if_neg (by omega), if_pos (by omega)]
          · rw [if_neg (by omega)]
            by_cases h4 : k = 16
            · rw [if_pos (by omega), if_pos (by omega)]
            · rw [if_neg (by omega), if_neg (show ¬ 17 * i + k = 17 * i + 16 by omega), if_neg (show ¬ 17 * i + k = 17 * i + 2 by omega), if_neg (show ¬ 17 * i + k = 17 * i + 1 by omega)]
              by_cases h5 : k = 0
              · rw [if_pos (by omega), if_pos (by omega)]
              · rw [if_neg (by omega), if_pos (by omega), if_neg (by omega), if_pos (by omega)]
      · rw [aT_47, mT_7, if_pos rfl, if_pos rfl]
      · rw [aT_48, mT_8, if_pos rfl, if_pos rfl]
      · rw [aT_46, mT_9, if_pos rfl, if_pos rfl]
      · rw [aT_46, if_neg (by omega), if_neg (by omega), if_neg (by omega), if_neg (by omega), if_neg (by omega), if_pos (by omega), mT_10.trans (if_pos rfl), mT_6.trans ((if_neg (show ¬ 17 * i + 6 = 17 * i + 16 by omega)).trans ((if_neg (show ¬ 17 * i + 6 = 17 * i + 2 by omega)).trans ((if_neg (show ¬ 17 * i + 6 = 17 * i + 1 by omega)).trans ((if_neg (show ¬ 17 * i + 6 = 17 * i by omega)).trans (if_pos (show 17 * i ≤ 17 * i + 6 ∧ 17 * i + 6 < 17 * i + 17 by omega)))))), if_pos rfl]
  · intro q h1 h2; rw [aT_1 (by omega) (by omega)]; exact ⟨rfl, rfl⟩
  · intro q h1 h2; exact aT_J (by omega) (by omega)
  · exact mT_1 (by omega) (by omega) (by omega) (by omega) (by omega)
  · exact mT_1 (by omega) (by omega) (by omega) (by omega) (by omega)
  · exact mT_1 (by omega) (by omega) (by omega) (by omega) (by omega)
  · exact mT_J (by omega) (by omega)
  · exact mT_J (by omega) (by omega)
  · exact mT_J (by omega) (by omega)
  · intro q k h1 h2 h3 h4; rw [aT_1 (by omega) (by omega)]
  · exact mT_1 (by omega) (by omega) (by omega) (by omega) (by omega)
  · exact mT_1 (by omega) (by omega) (by omega) (by omega) (by omega)
  · exact mT_1 (by omega) (by omega) (by omega) (by omega) (by omega)
  · exact mT_1 (by omega) (by omega) (by omega) (by omega) (by omega)
  · intro q h1 h2; rw [aT_1 (by omega) (by omega)]
  · intro q h1 h2; exact aT_1 (by omega) (by omega)
  · rw [mT_0, if_neg (by omega)]
  · exact mT_1 (by omega) (by omega) (by omega) (by omega) (by omega)
  · intro q k h1 h2 h3 h4; rw [aT_1 (by omega) (by omega)]
  · exact mT_1 (by omega) (by omega) (by omega) (by omega) (by omega)
  · intro i hi; exact mT_lo (by omega)
  · rw [aT_1 (by omega) (by omega)]
  · rfl
  · rw [aT_1 (by omega) (by omega)]
  · rw [aT_1 (by omega) (by omega)]
  · rw [mT_0, if_neg (by omega)]
  · rw [mT_0, if_neg (by omega)]
  · rw [mT_0, if_neg (by omega)]
  · exact aT_1 (by omega) (by omega)
  · rw [aT_1 (by omega) (by omega)]
  · intro k hk; rw [mT_0, if_neg (by omega)]
  · rw [aT_1 (by omega) (by omega)]
  · rw [mT_0, if_neg (by omega)]
  · intro i hi; exact mT_lo (by omega)
  · intro k hk; rw [aT_1 (by omega) (by omega)]
  · rw [aT_1 (by omega) (by omega)]
  · exact aT_1 (by omega) (by omega)
  · exact aT_1 (by omega) (by omega)
  · intro k h1 h2; rw [mT_0, if_neg (by omega)]
  · exact mT_1 (by omega) (by omega) (by omega) (by omega) (by omega)
  · exact mT_1 (by omega) (by omega) (by omega) (by omega) (by omega)
