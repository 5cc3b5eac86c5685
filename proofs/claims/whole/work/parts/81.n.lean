/-! things that aren't finished may change -/
def thR (i : Nat) (u v : Mm) : Prop := (∀ w, w < 17 → u.1 46 (19 * i + w) = v.1 6 (17 * i + w)) ∧ u.2.1 47 i = v.2.1 7 i ∧ u.2.1 48 i = v.2.1 8 i ∧ u.1 46 (19 * i + 17) = v.1 9 i ∧ u.1 46 (19 * i + 18) = (if v.1 6 (17 * i + 6) = v.1 10 i then 0 else 1)
theorem Rm.chg {z : Mm × Mm} {T : Nat → Nat} {sz B e s p c c0 w : Nat} {u v u' v' : Mm} (hR : Rm z T sz B e s p c c0 w u v) (f1 : ∀ q, q ≠ 46 → u'.1 q = u.1 q) (f2 : ∀ i, i < 19 * c0 → u'.1 46 i = u.1 46 i) (f3 : ∀ q, q ≠ 47 → u'.2.1 q = u.2.1 q) (f4 : ∀ i, i < c0 → u'.2.1 47 i = u.2.1 47 i) (f5 : u'.2.2 = u.2.2) (g1 : ∀ q, q ≠ 6 → q ≠ 10 → v'.1 q = v.1 q) (g2 : ∀ i, i < 17 * c0 → v'.1 6 i = v.1 6 i) (g3 : ∀ i, i < c0 → v'.1 10 i = v.1 10 i) (g4 : ∀ q, q ≠ 7 → v'.2.1 q = v.2.1 q) (g5 : ∀ i, i < c0 → v'.2.1 7 i = v.2.1 7 i) (g6 : v'.2.2 = v.2.2) (hth : ∀ i, c0 ≤ i → i < c → thR i u' v') : Rm z T sz B e s p c c0 w u' v' := by
  obtain ⟨⟨hKc, hKm, h33_6⟩, hT, hL, hC, hM, hU, hS, hI, hW, hN, hY, hH, hD, hG, h0⟩ := hR
  obtain ⟨k1, k2, k3, k4, k5, k6⟩ := hKc
  obtain ⟨m1, m2, m3, m4, m5, m6⟩ := hKm
  have z0 := g1 0 (by omega) (by omega)
  refine ⟨⟨⟨fun q hq => ⟨by rw [f1 q (by omega)]; exact (k1 q hq).1, by rw [f3 q (by omega)]; exact (k1 q hq).2⟩, by rw [f1 32 (by omega)]; exact k2, by rw [f1 35 (by omega)]; exact k3, by rw [f5]; exact k4, by rw [f5]; exact k5, by unfold jOk; rw [f5]; exact k6⟩, ⟨fun q hq => ⟨by rw [g1 q (by omega) (by omega)]; exact (m1 q hq).1, by rw [g4 q (by omega)]; exact (m1 q hq).2⟩, by rw [g6]; exact m2, by rw [z0]; exact m3, by rw [z0]; exact m4, by rw [z0]; exact ⟨m5, m6⟩⟩, by rw [f1 33 (by omega)]; exact h33_6⟩, hT.cg (by rw [f5]) (by rw [f1 33 (by omega)]) (f1 41 (by omega)) (f1 42 (by omega)) (by rw [z0]) (g1 3 (by omega) (by omega)), hL.cg (fun k _ => by rw [f1 33 (by omega)]) (fun k _ => by rw [z0]), ?_, hM.cg (fun q h1 h2 => by rw [f1 q (by omega)]; exact ⟨rfl, rfl⟩) (fun q h1 h2 => f3 q (by omega)) (g1 19 (by omega) (by omega)) (g1 18 (by omega) (by omega)) (g1 17 (by omega) (by omega)) (g4 16 (by omega)) (g4 20 (by omega)) (g4 21 (by omega)), hU.cg (fun q k h1 h2 h3 h4 => by rw [f1 q (by omega)]) (g1 12 (by omega) (by omega)) (g1 13 (by omega) (by omega)) (g1 14 (by omega) (by omega)) (g1 15 (by omega) (by omega)), hS.cg (fun q h1 h2 => by rw [f1 q (by omega)]) (fun q h1 h2 => f1 q (by omega)) (by rw [z0]) (g1 22 (by omega) (by omega)), hI.up (Nat.le_refl _) (fun q k h1 h2 h3 h4 => by rw [f1 q (by omega)]) (g1 23 (by omega) (by omega)) g2, hW.cg (by rw [f1 38 (by omega)]) (by rw [f5]) (by rw [f1 43 (by omega)]) (by rw [f1 35 (by omega)]) (by rw [z0]) (by rw [z0]) (by rw [z0]), hN.cg (f1 39 (by omega)) (by rw [f1 38 (by omega)]) (fun k _ => by rw [z0]), hY.up (Nat.le_refl _) (by rw [f1 38 (by omega)]) (by rw [z0]) g2, hH.cg (fun k _ => by rw [f1 43 (by omega)]) (by rw [f1 35 (by omega)]) (f1 44 (by omega)) (f1 45 (by omega)) (fun k _ _ => by rw [z0]) (g1 4 (by omega) (by omega)) (g1 5 (by omega) (by omega)), hD.up g2 g5 (fun i _ => by rw [g1 9 (by omega) (by omega)]), hG.up (f1 62 (by omega)) g2 (fun i _ => by rw [g1 11 (by omega) (by omega)]), h0⟩
  obtain ⟨c1, c2, c3, c4⟩ := hC
  refine ⟨by rw [f1 36 (by omega)]; exact c1, by rw [z0]; exact c2, c3, fun i hi => ?_⟩
  rcases Nat.lt_or_ge i c0 with h1 | h1
  · obtain ⟨d1, d2, d3, d4, d5⟩ := c4 i hi
    refine ⟨fun k hk => ?_, ?_, ?_, ?_, ?_⟩
    · rw [f2 _ (by omega), g2 _ (by omega)]; exact d1 k hk
    · rw [f4 i h1, g5 i h1]; exact d2
    · rw [f3 48 (by omega), g4 8 (by omega)]; exact d3
    · rw [f2 _ (by omega), g1 9 (by omega) (by omega)]; exact d4
    · rw [f2 _ (by omega), g2 _ (by omega), g3 i h1]; exact d5
  · exact hth i h1 hi
/-- the parts of a note that are told with it -/
def uNo (c : Nat) (l : Nat) (o x fl nd pt : Int32) (u : Mm) : Mm := setI (setI (setI (setI (setI (setI (setI u 46 (19 * c + 4) (nI l)) 46 (19 * c + 5) o) 46 (19 * c + 6) x) 46 (19 * c + 7) fl) 46 (19 * c + 18) nd) 46 (19 * c + 9) 1) 46 (19 * c + 3) pt
def vNo (c : Nat) (l : Nat) (o x fl pl pt : Int32) (v : Mm) : Mm := setI (setI (setI (setI (setI (setI (setI v 6 (17 * c + 4) (nI l)) 6 (17 * c + 5) o) 6 (17 * c + 6) x) 6 (17 * c + 7) fl) 6 (17 * c + 9) 1) 10 c pl) 6 (17 * c + 3) pt
theorem uNo_1 {c l : Nat} {o x fl nd pt : Int32} {u : Mm} {q : Nat} (h : q ≠ 46) : (uNo c l o x fl nd pt u).1 q = u.1 q := by
  unfold uNo; rw [gIn h, gIn h, gIn h, gIn h, gIn h, gIn h, gIn h]
theorem uNo_46 {c l : Nat} {o x fl nd pt : Int32} {u : Mm} {i : Nat} : (uNo c l o x fl nd pt u).1 46 i = if i = 19 * c + 3 then pt else if i = 19 * c + 9 then 1 else if i = 19 * c + 18 then nd else if i = 19 * c + 7 then fl else if i = 19 * c + 6 then x else if i = 19 * c + 5 then o else if i = 19 * c + 4 then nI l else u.1 46 i := by
  unfold uNo; rw [gIs, hu_if, gIs, hu_if, gIs, hu_if, gIs, hu_if, gIs, hu_if, gIs, hu_if, gIs, hu_if]
theorem vNo_1 {c l : Nat} {o x fl pl pt : Int32} {v : Mm} {q : Nat} (h : q ≠ 6) (h2 : q ≠ 10) : (vNo c l o x fl pl pt v).1 q = v.1 q := by
  unfold vNo; rw [gIn h, gIn h2, gIn h, gIn h, gIn h, gIn h, gIn h]
theorem vNo_6 {c l : Nat} {o x fl pl pt : Int32} {v : Mm} {i : Nat} : (vNo c l o x fl pl pt v).1 6 i = if i = 17 * c + 3 then pt else if i = 17 * c + 9 then 1 else if i = 17 * c + 7 then fl else if i = 17 * c + 6 then x else if i = 17 * c + 5 then o else if i = 17 * c + 4 then nI l else v.1 6 i := by
  unfold vNo; rw [gIs, hu_if, gIn (by omega), gIs, hu_if, gIs, hu_if, gIs, hu_if, gIs, hu_if, gIs, hu_if]
theorem vNo_10 {c l : Nat} {o x fl pl pt : Int32} {v : Mm} {i : Nat} : (vNo c l o x fl pl pt v).1 10 i = if i = c then pl else v.1 10 i := by
  unfold vNo; rw [gIn (by omega), gIs, hu_if, gIn (by omega), gIn (by omega), gIn (by omega), gIn (by omega), gIn (by omega)]
theorem Rm.note {z : Mm × Mm} {T : Nat → Nat} {sz B e s p c c0 w l : Nat} {o x fl nd pl pt : Int32} {u v : Mm} (hR : Rm z T sz B e s p (c + 1) c0 w u v) (h0c : c0 ≤ c) (hnd : nd = if x = pl then 0 else 1) : Rm z T sz B e s p (c + 1) c0 w (uNo c l o x fl nd pt u) (vNo c l o x fl pl pt v) := by
  have hC := hR.2.2.2.1
  refine hR.chg (fun q hq => uNo_1 hq) (fun i hi => ?_) (fun q hq => rfl) (fun i hi => rfl) rfl (fun q h1 h2 => vNo_1 h1 h2) (fun i hi => ?_) (fun i hi => vNo_10.trans (if_neg (by omega))) (fun q hq => rfl) (fun i hi => rfl) rfl (fun i h1 h2 => ?_)
  · rw [uNo_46, if_neg (by omega), if_neg (by omega), if_neg (by omega), if_neg (by omega), if_neg (by omega), if_neg (by omega), if_neg (by omega)]
  · rw [vNo_6, if_neg (by omega), if_neg (by omega), if_neg (by omega), if_neg (by omega), if_neg (by omega), if_neg (by omega)]
  · obtain ⟨d1, d2, d3, d4, d5⟩ := hC.2.2.2 i h2
    rcases Nat.lt_or_ge i c with h3 | h3
    · refine ⟨fun k hk => ?_, d2, d3, ?_, ?_⟩
      · rw [uNo_46, if_neg (by omega), if_neg (by omega), if_neg (by omega), if_neg (by omega), if_neg (by omega), if_neg (by omega), if_neg (by omega), vNo_6, if_neg (by omega), if_neg (by omega), if_neg (by omega), if_neg (by omega), if_neg (by omega), if_neg (by omega)]; exact d1 k hk
      · rw [uNo_46, if_neg (by omega), if_neg (by omega), if_neg (by omega), if_neg (by omega), if_neg (by omega), if_neg (by omega), if_neg (by omega), vNo_1 (by omega) (by omega)]; exact d4
      · rw [vNo_10.trans (if_neg (show ¬ i = c by omega)), vNo_6.trans ((if_neg (by omega)).trans ((if_neg (by omega)).trans ((if_neg (by omega)).trans ((if_neg (by omega)).trans ((if_neg (by omega)).trans (if_neg (by omega))))))), uNo_46, if_neg (by omega), if_neg (by omega), if_neg (by omega), if_neg (by omega), if_neg (by omega), if_neg (by omega), if_neg (by omega)]; exact d5
    · obtain rfl : i = c := by omega
      refine ⟨fun k hk => ?_, d2, d3, ?_, ?_⟩
      · rw [uNo_46, vNo_6]
        by_cases k3 : k = 3
        · rw [if_pos (by omega), if_pos (by omega)]
        · rw [if_neg (by omega), if_neg (show ¬ 17 * i + k = 17 * i + 3 by omega)]
          by_cases k9 : k = 9
          · rw [if_pos (by omega), if_pos (by omega)]
          · rw [if_neg (by omega), if_neg (show ¬ 17 * i + k = 17 * i + 9 by omega), if_neg (by omega)]
            by_cases k7 : k = 7
            · rw [if_pos (by omega), if_pos (by omega)]
            · rw [if_neg (by omega), if_neg (show ¬ 17 * i + k = 17 * i + 7 by omega)]
              by_cases k6 : k = 6
              · rw [if_pos (by omega), if_pos (by omega)]
              · rw [if_neg (by omega), if_neg (show ¬ 17 * i + k = 17 * i + 6 by omega)]
                by_cases k5 : k = 5
                · rw [if_pos (by omega), if_pos (by omega)]
                · rw [if_neg (by omega), if_neg (show ¬ 17 * i + k = 17 * i + 5 by omega)]
                  by_cases k4 : k = 4
                  · rw [if_pos (by omega), if_pos (by omega)]
                  · rw [if_neg (by omega), if_neg (show ¬ 17 * i + k = 17 * i + 4 by omega)]; exact d1 k hk
      · rw [uNo_46, if_neg (by omega), if_neg (by omega), if_neg (by omega), if_neg (by omega), if_neg (by omega), if_neg (by omega), if_neg (by omega), vNo_1 (by omega) (by omega)]; exact d4
      · rw [vNo_10.trans (if_pos rfl), vNo_6.trans ((if_neg (by omega)).trans ((if_neg (by omega)).trans ((if_neg (by omega)).trans (if_pos (by omega))))), uNo_46, if_neg (by omega), if_neg (by omega), if_pos rfl]; exact hnd
