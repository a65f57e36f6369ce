/-! ===== History's constructor: its loop ===== -/
def HI (M N : Mm) (h i : Nat) : Prop := gZ N = h + 2 + 32 * i ∧ (∀ q, q < h → gK N q = gK M q ∧ gI N q = gI M q ∧ gJ N q = gJ M q ∧ gP N q = gP M q) ∧ gK N h = kO 4 ∧ gP N h 0 = h + 1 ∧ gK N (h + 1) = kA (.object "IrrigationTurns$State") 8 ∧ gI N h = z32 ∧ gI N (h + 1) = z32 ∧
  ∀ j, j < i → gP N (h + 1) j = h + 2 + 32 * j ∧ Ls N (h + 2 + 32 * j) ∧ DF N (h + 2 + 32 * j)
theorem HI.s {M N N1 : Mm} {h i : Nat} (g : HI M N h i) (o : OK2 N N1 (h + 1) (h + 2 + 32 * i) 32 i) (hL : Ls N1 (h + 2 + 32 * i)) (hD : DF N1 (h + 2 + 32 * i)) : HI M N1 h (i + 1) := by
  obtain ⟨g1, g2, g3, g4, g5, g6, g7, g8⟩ := g
  obtain ⟨o1, o2, o3⟩ := o
  refine ⟨by rw [o1]; omega, fun q hq => ⟨(o2 q (by omega)).1.trans (g2 q hq).1, (o2 q (by omega)).2.1.trans (g2 q hq).2.1, (o2 q (by omega)).2.2.1.trans (g2 q hq).2.2.1, ((o2 q (by omega)).2.2.2 (by omega)).trans (g2 q hq).2.2.2⟩, (o2 h (by omega)).1.trans g3, ?_, (o2 (h + 1) (by omega)).1.trans g5, (o2 h (by omega)).2.1.trans g6, (o2 (h + 1) (by omega)).2.1.trans g7, fun j hj => ?_⟩
  · rw [(o2 h (by omega)).2.2.2 (by omega)]
    exact g4
  · rw [o3]
    by_cases e : j = i
    · subst e
      exact ⟨up_s _ _ _, hL, hD⟩
    · rw [up_f _ _ e]
      have := g8 j (by omega)
      exact ⟨this.1, this.2.1.ag o2 (by omega) (by omega), DF.ag o2 (by omega) this.2.2⟩
