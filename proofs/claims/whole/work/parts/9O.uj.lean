/-! ===== a draft that was read shows its row ===== -/
theorem DZ.fq {M N : Mm} {r : Nat} (h : DZ M (r + 3)) (g : fq r N M) : DZ N (r + 3) := by
  obtain ⟨g1, g2, g3⟩ := g
  have e : ∀ k, (k = 7 ∨ k = 9 ∨ k = 18 ∨ k = 19 ∨ k = 20 ∨ k = 21 ∨ k = 31 ∨ k = 0) → gI N (r + 3 + k) = gI M (r + 3 + k) := fun k hk => g3 _ (by unfold wRd; omega) (by omega)
  have e0 : gI N (r + 3) = gI M (r + 3) := e 0 (by omega)
  have e2 : gI N (r + 3 + 25) 2 = gI M (r + 3 + 25) 2 := g2
  unfold DZ
  rw [e 7 (by omega), e 9 (by omega), e 18 (by omega), e 19 (by omega), e 20 (by omega), e 21 (by omega), e 31 (by omega), e0, e2, g1]
  exact h
theorem sumP_z {E : Nat → Int32} : ∀ l : List Nat, (∀ j ∈ l, E j = 0) → sumP E l = 0
  | [], _ => rfl
  | j :: l, h => by
    unfold sumP
    rw [h j List.mem_cons_self, sumP_z l (fun i hi => h i (List.mem_cons_of_mem _ hi))]
    rfl
theorem nB.b {x : Int32} {lo hi : Nat} (h : nB x lo hi) (hh : hi < 2 ^ 30) : (lo : Int) ≤ x.toInt ∧ x.toInt ≤ hi := by
  obtain ⟨k, h1, h2, rfl⟩ := h
  rw [t_nI (by omega)]
  omega
theorem dd_xr {P : Mm} {r : Nat} {E : Nat → Int32} (hD : DD P r E) (hZ : DZ P (r + 3)) : PX P (r + 3) E := by
  obtain ⟨⟨n, f, t, w, ⟨b1, b2, b3, b4⟩, ⟨c1, c2, c3, c4⟩, ⟨e0, e1, e2, e3⟩, hC, hF, hT, hcy, hG, h12, h4, h0⟩, hI⟩ := hD
  obtain ⟨z1, z2, z3, z4, z5, z6, z7⟩ := hZ
  have ns : ∀ j, j < 393 → ¬ stI j → j ≠ 12 → E j = 0 := h0
  have z5' : E 5 = 0 := ns 5 (by decide) (by unfold stI; omega) (by decide)
  have z8 : E 8 = 0 := ns 8 (by decide) (by unfold stI; omega) (by decide)
  have cy : cyD E = iS (fun i => E (353 + 2 * i + 1)) 0 t := by
    unfold cyD
    rw [e2, nI_clamp (show t < 2 ^ 31 by omega), it_s, Int32.zero_add]
  have cq : ∀ k q, k < 16 → q < 7 → E (13 + 13 * k + 6 + q) = 0 := fun k q hk hq => ns _ (by omega) (by unfold stI; omega) (by omega)
  refine ⟨n, f, t, w, 0, 0, by decide, ⟨⟨b1, b2, b3, b4, by decide⟩, ⟨e0, e1, e2, e3, h4⟩, ?_, fun c hc => ?_, fun k hk => ?_, fun k hk => ?_⟩, ⟨fun c hc => ?_, fun k hk => ?_⟩, ⟨⟨c1, c2, c3, c4⟩, fun k hk => ?_, fun k hk => ?_, fun k hk => ?_, ?_, fun k hk => hG k hk⟩, ⟨fun k hk => ?_, fun k q hk hq => ?_, fun k hk => ?_, fun v hv => ?_, ?_, ?_, ?_, ?_⟩, fun k hk => ?_, ⟨?_, z5', by decide⟩, ⟨z6, fun _ => rfl⟩, ⟨⟨fun j hj => ?_, ?_, ?_⟩, ?_⟩, fun k d hk hd hd6 => ?_, ?_, fun k hk => ?_⟩
  · rcases h12 with ⟨-, e⟩ | ⟨-, e⟩
    · exact Or.inl e
    · exact Or.inr e
  · obtain ⟨-, d1, ⟨d, g1, g2, g3⟩, -⟩ := hC c hc
    exact ⟨⟨d, g1, g2, g3⟩, d1⟩
  · obtain ⟨-, d1, d2, -, -, -, -, d3⟩ := hF k hk
    exact ⟨d1, d2, d3⟩
  · obtain ⟨-, -, ⟨d, g1, g2, g3⟩⟩ := hT k hk
    exact ⟨d, g1, g2, g3⟩
  · obtain ⟨-, -, -, d2, d3, d4⟩ := hC c hc
    exact ⟨d2.b (by decide), d3.b (by decide), d4.b (by decide)⟩
  · obtain ⟨-, -, -, d2, d3, d4, d5, -⟩ := hF k hk
    exact ⟨d2.b (by decide), d3.b (by decide), d4.b (by decide), d5.b (by decide)⟩
  · exact (hC k hk).1
  · exact (hF k hk).1
  · exact (hT k hk).1
  · rw [cy]
    exact hcy
  · rw [z1 k (by omega), ns _ (by omega) (by unfold stI; omega) (by omega)]
  · rw [z2 _ (by have := Nat.mod_lt (0 + q) (show 7 > 0 by decide); omega), cq k q (by omega) hq]
  · obtain ⟨a1, a2, a3, a4⟩ := z3 k (by omega)
    rw [a1, a2, a3, a4, ns (221 + 11 * k + 7) (by omega) (by unfold stI; omega) (by omega), ns (221 + 11 * k + 8) (by omega) (by unfold stI; omega) (by omega), ns (221 + 11 * k + 9) (by omega) (by unfold stI; omega) (by omega), ns (221 + 11 * k + 10) (by omega) (by unfold stI; omega) (by omega)]
    exact ⟨rfl, rfl, rfl, rfl⟩
  · rw [z4 v hv, ns (387 + v) (by omega) (by unfold stI; omega) (by omega)]
  · rw [z5 1 (by decide) (by decide), z8]
    rfl
  · rw [z5 2 (by decide) (by decide), ns 9 (by decide) (by unfold stI; omega) (by decide)]
    rfl
  · rw [z5 3 (by decide) (by decide), ns 10 (by decide) (by unfold stI; omega) (by decide)]
    rfl
  · rw [z5 4 (by decide) (by decide), ns 11 (by decide) (by unfold stI; omega) (by decide)]
    rfl
  · exact Or.inl (ns _ (by omega) (by unfold stI; omega) (by omega))
  · exact z7
  · have : E j = 0 := by
      rcases PL_n hj with e | e | e | ⟨c, q, hc, hq, e⟩ | ⟨y, hy, e⟩ <;> subst e <;> exact ns _ (by omega) (by unfold stI; omega) (by omega)
    rw [this]
    decide
  · rw [z8, sumP_z PL (fun j hj => by
      rcases PL_n hj with e | e | e | ⟨c, q, hc, hq, e⟩ | ⟨y, hy, e⟩ <;> subst e <;> exact ns _ (by omega) (by unfold stI; omega) (by omega))]
    rfl
  · rw [z8]
    decide
  · rw [z8]
    decide
  · refine ⟨fun i hi => ?_, fun i _ hi => cq k i (by omega) (by omega), fun _ => cq k d (by omega) (by omega)⟩
    rw [cq k i (by omega) (by omega)]
    decide
  · rcases hI with ⟨i1, i2, i3, i4, i5⟩ | ⟨i1, i2, l, i3, i4, i5, i6⟩
    · exact Or.inl ⟨i1, i3, i4⟩
    · refine Or.inr ⟨by rw [i1]; decide, l, i3, i4, i5, i6⟩
  · obtain ⟨-, ⟨v, hv, ev⟩, -⟩ := hT k hk
    exact ⟨v, hv, ev⟩
