/-! ===== the water of a row: taking, draining, dividing ===== -/
theorem ps_ne {f : Nat} (hf : f < 12) {j : Nat} (hj : j = 8 ∨ j = 9 ∨ j = 10) : 221 + 11 * f + j ∉ PL := fun h => by
  rcases PL_n h with e | e | e | ⟨c, k, hc, hk, e⟩ | ⟨g, hg, e⟩ <;> omega
/-- a field takes water -/
theorem ir_w {O : Nat → Int32} {c v : Int32} {k : Nat} {z : Int32 × (Nat → Int32)} (hk : k < 12) (h : WL z.2 z.1.toInt) (h0 : 0 ≤ z.1.toInt) (hi : 1 ≤ (z.2 (221 + 11 * k + 2)).toInt) :
    WL (irA O c v k z).2 (irA O c v k z).1.toInt ∧ 0 ≤ (irA O c v k z).1.toInt ∧ (irA O c v k z).1.toInt ≤ z.1.toInt := by
  unfold irA
  split
  · have e1 := mn_t (z.2 (221 + 11 * k + 2)) z.1
    generalize mnM (z.2 (221 + 11 * k + 2)) z.1 = x at e1
    have rz := t_rng z.1
    have e2 : (z.1 - x).toInt = z.1.toInt - x.toInt := t_sub (by omega) (by omega)
    have w1 := h.a (v := x) (PL_f hk) (by omega) (by omega)
    have w2 := w1.1.n (j := 221 + 11 * k + 8) (z.2 (221 + 11 * k + 8) + x) (ps_ne hk (Or.inl rfl)) (by omega)
    have w3 := w2.n (j := 221 + 11 * k + 9) (z.2 (221 + 11 * k + 9) + x) (ps_ne hk (Or.inr (Or.inl rfl))) (by omega)
    dsimp only
    rw [e2]
    refine ⟨?_, by omega, by omega⟩
    split
    · exact w2
    · exact w3
  · exact ⟨h, h0, Int.le_refl _⟩
theorem irR_w {D : Nat → Int32} {n f r w g : Nat} (hD : WD D n f r w g) (hB : NB D n f) (O : Nat → Int32) (c a v : Int32) (h : WL D a.toInt) (h0 : 0 ≤ a.toInt) : WL (irR D O c a v).2 (irR D O c a v).1.toInt ∧ 0 ≤ (irR D O c a v).1.toInt ∧ (irR D O c a v).1.toInt ≤ a.toInt := by
  have hf : f ≤ 12 := hD.1.2.1
  unfold irR
  rw [hD.2.1.2.1, nI_clamp (by omega)]
  have key : ∀ r i (z : Int32 × (Nat → Int32)), i + r ≤ f → SD D z.2 → WL z.2 z.1.toInt → 0 ≤ z.1.toInt → z.1.toInt ≤ a.toInt → WL (itr (irA O c v) r i z).2 (itr (irA O c v) r i z).1.toInt ∧ 0 ≤ (itr (irA O c v) r i z).1.toInt ∧ (itr (irA O c v) r i z).1.toInt ≤ a.toInt := by
    intro r
    induction r with
    | zero => exact fun i z _ _ h1 h2 h3 => ⟨h1, h2, h3⟩
    | succ r ih =>
      intro i z hir hs h1 h2 h3
      have h4 := ir_w (O := O) (c := c) (v := v) (k := i) (z := z) (by omega) h1 h2 (by rw [hs _ (st_f (by omega) (by decide))]; exact (hB.2 i (by omega)).1.1)
      exact ih (i + 1) _ (by omega) (sd_irA O c v i z (by omega) hs) h4.1 h4.2.1 (by omega)
  exact key f 0 (a, D) (by omega) (SD.r D) h h0 (Int.le_refl _)
/-- a field drains -/
theorem dr_w {D : Nat → Int32} {k : Nat} (hk : k < 12) (h : WL D 0) (hb : 1 ≤ (D (221 + 11 * k + 4)).toInt) (hs : 0 ≤ (D (221 + 11 * k + 5)).toInt) (ho : D (221 + 11 * k + 6) = -1 ∨ ∃ j, j < k ∧ D (221 + 11 * k + 6) = nI j) :
    WL (drD D k) 0 ∧ (D 11 + drS D k).toInt64 = (D 11).toInt64 + (drS D k).toInt64 ∧ (0 < drA D k → (D 9 + drA D k).toInt64 = (D 9).toInt64 + (drA D k).toInt64) := by
  have e1 := mn_t (D (221 + 11 * k + 5)) (D (221 + 11 * k + 7))
  have hw := h.le (PL_f hk)
  have h9 := h.le (PL_3 (j := 9) (Or.inl rfl))
  have h11 := h.le (PL_3 (j := 11) (Or.inr (Or.inr rfl)))
  have w1 := h.s (v := drS D k) (PL_f hk) (by unfold drS; omega) (by unfold drS; omega)
  have q1 : upd D (221 + 11 * k + 7) (D (221 + 11 * k + 7) - drS D k) 11 = D 11 := upd_n _ _ (by omega)
  have w2 := w1.1.a (v := drS D k) (PL_3 (j := 11) (Or.inr (Or.inr rfl))) (by unfold drS; omega) (by unfold drS; omega)
  rw [q1] at w2
  have w2' : WL (dr2 D k) 0 := by
    have e : (0 : Int) + (drS D k).toInt - (drS D k).toInt = 0 := by omega
    rw [e] at w2
    exact w2.1
  have rb := t_rng (D (221 + 11 * k + 4))
  have e2 : (drA D k).toInt = (D (221 + 11 * k + 7)).toInt - (drS D k).toInt - (D (221 + 11 * k + 4)).toInt := by
    unfold drA
    rw [t_sub (by rw [w1.2]; unfold drS; omega) (by rw [w1.2]; unfold drS; omega), w1.2]
  have eS : (drS D k).toInt = min (D (221 + 11 * k + 5)).toInt (D (221 + 11 * k + 7)).toInt := e1
  have g7 : dr2 D k (221 + 11 * k + 7) = D (221 + 11 * k + 7) - drS D k := by
    unfold dr2
    rw [upd_n _ _ (by omega), upd_s]
  have w3 : 0 < drA D k → WL (dr3 D k) (drA D k).toInt ∧ dr3 D k 9 = D 9 ∧ (0 : Int) < (drA D k).toInt := by
    intro hp
    have hp3 : (0 : Int) < (drA D k).toInt := t_lt.mp hp
    have w3 := w2'.s (j := 221 + 11 * k + 7) (v := drA D k) (PL_f hk) (by omega) (by rw [g7, w1.2]; omega)
    rw [g7] at w3
    have e : (0 : Int) + (drA D k).toInt = (drA D k).toInt := by omega
    rw [e] at w3
    refine ⟨w3.1, ?_, hp3⟩
    unfold dr3 dr2
    rw [upd_n _ _ (by omega), upd_n _ _ (by omega), upd_n _ _ (by omega)]
  have r11 := t_rng (D 11 + drS D k)
  refine ⟨?_, t_64a (by omega) (by omega), fun hp => ?_⟩
  · unfold drD
    by_cases hp : 0 < drA D k
    · rw [if_neg (fun z => z hp)]
      obtain ⟨w3', g9, hp3⟩ := w3 hp
      split
      · have w4 := w3'.a (j := 9) (v := drA D k) (PL_3 (Or.inl rfl)) (by omega) (Int.le_refl _)
        rw [g9, Int.sub_self] at w4
        exact w4.1
      · rename_i q
        rcases ho with e | ⟨j, hj, e⟩
        · rw [e] at q
          exact absurd (show (-1 : Int32) < 0 by decide) q
        · rw [e, nI_clamp (by omega)]
          have w4 := w3'.a (j := 221 + 11 * j + 7) (v := drA D k) (PL_f (by omega)) (by omega) (Int.le_refl _)
          rw [Int.sub_self] at w4
          exact w4.1
    · rw [if_pos hp]
      exact w2'
  · obtain ⟨w3', g9, hp3⟩ := w3 hp
    have l9 := w3'.le (PL_3 (j := 9) (Or.inl rfl))
    rw [g9] at l9
    exact t_64a (by omega) (by omega)
