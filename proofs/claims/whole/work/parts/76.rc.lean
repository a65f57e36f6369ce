/-! ===== dividing: shares and the first child ===== -/
theorem RSs.ss {M N : Mm} {b : Nat} {D : Nat → Int32} {n f r w : Nat} (h : RSs M b D n f r w) (s : SS M N b) : RSs N b D n f r w := by
  have g : ∀ k, k < 32 → dyn k = false → gI N (b + k) = gI M (b + k) := s.2.2.2.2.1
  obtain ⟨⟨c1, c2, c3, c4⟩, h1, h2, h3, h4, h5⟩ := h
  refine ⟨⟨by rw [g 1 (by decide) rfl]; exact c1, by rw [g 10 (by decide) rfl]; exact c2, by rw [g 22 (by decide) rfl]; exact c3, by rw [g 25 (by decide) rfl]; exact c4⟩, fun i hi => ?_, fun i hi => ?_, fun i hi => ?_, ?_, fun i hi => ?_⟩
  · rw [g 2 (by decide) rfl, g 3 (by decide) rfl, g 4 (by decide) rfl, g 5 (by decide) rfl, g 6 (by decide) rfl]
    exact h1 i hi
  · rw [g 11 (by decide) rfl, g 12 (by decide) rfl, g 13 (by decide) rfl, g 14 (by decide) rfl, g 15 (by decide) rfl, g 16 (by decide) rfl, g 17 (by decide) rfl]
    exact h2 i hi
  · rw [g 23 (by decide) rfl, g 24 (by decide) rfl]
    exact h3 i hi
  · rw [g 22 (by decide) rfl]
    exact h4
  · rw [g 26 (by decide) rfl]
    exact h5 i hi
theorem RSs.sd {M : Mm} {b : Nat} {D E : Nat → Int32} {n f r w : Nat} (h : RSs M b D n f r w) (hn : n ≤ 16) (hf : f ≤ 12) (hr : r ≤ 12) (hw : w ≤ 10) (h2 : D 2 = nI r) (s : SD D E) : RSs M b E n f r w := by
  obtain ⟨c0, h1, h2', h3, h4, h5⟩ := h
  refine ⟨c0, fun i hi => ?_, fun i hi => ?_, fun i hi => ?_, ?_, fun i hi => ?_⟩
  · rw [s (13 + 13 * i) (st_c (c := i) (j := 0) (by omega) (by decide)), s _ (st_c (by omega) (by decide)), s _ (st_c (by omega) (by decide)), s _ (st_c (by omega) (by decide)), s _ (st_c (by omega) (by decide))]
    exact h1 i hi
  · rw [s (221 + 11 * i) (st_f (c := i) (j := 0) (by omega) (by decide)), s _ (st_f (by omega) (by decide)), s _ (st_f (by omega) (by decide)), s _ (st_f (by omega) (by decide)), s _ (st_f (by omega) (by decide)), s _ (st_f (by omega) (by decide)), s _ (st_f (by omega) (by decide))]
    exact h2' i hi
  · rw [s _ (by unfold stI; omega), s _ (by unfold stI; omega)]
    exact h3 i hi
  · rw [h4]
    unfold cyD
    rw [s 2 (by unfold stI; omega), h2, nI_clamp (by omega)]
    have key : ∀ q k (z : Int32), k + q ≤ r → itr (fun k s => s + D (353 + 2 * k + 1)) q k z = itr (fun k s => s + E (353 + 2 * k + 1)) q k z := by
      intro q
      induction q with
      | zero => exact fun _ _ _ => rfl
      | succ q ih =>
        intro k z hk
        show itr _ q (k + 1) (z + D (353 + 2 * k + 1)) = itr _ q (k + 1) (z + E (353 + 2 * k + 1))
        rw [s (353 + 2 * k + 1) (by unfold stI; omega)]
        exact ih (k + 1) _ (by omega)
    exact key r 0 0 (by omega)
  · rw [s _ (by unfold stI; omega)]
    exact h5 i hi
/-- the open rows of the two sides -/
def OL (M : Mm) (b : Nat) (L : Nat → Int32) (n : Nat) : Prop := ∀ k, k < n → (gI M (b + 8) k = 0 ↔ L k = 0)
theorem ch_x {M : Mm} {b : Nat} {D L : Nat → Int32} {n f r w c k : Nat} (hs : RSs M b D n f r w) (ho : OL M b L n) (hk : k < n) : (gI M (b + 2) k = nI c ∧ ¬ gI M (b + 8) k = 0) ↔ chD D L (nI c) k := by
  have h1 := (hs.2.1 k hk).1
  have h2 := ho k hk
  unfold chD
  rw [h1, h2]
theorem xS_s {M : Mm} {b : Nat} {D L : Nat → Int32} {n f r w c : Nat} (hs : RSs M b D n f r w) (ho : OL M b L n) : ∀ q k (z : Int32), k + q ≤ n → (∀ i, i < n → 0 ≤ shI D L c i ∧ shI D L c i ≤ 99) → 0 ≤ z.toInt → z.toInt + 99 * q < 100000 → (itr (shA M (b + 1) (nI c)) q k z).toInt = z.toInt + uS (shI D L c) k q
  | 0, k, z, _, _, _, _ => by
    show z.toInt = z.toInt + 0
    omega
  | q + 1, k, z, hk, hh, h0, h1 => by
    have hb := hh k (by omega)
    have e : (shA M (b + 1) (nI c) k z).toInt = z.toInt + shI D L c k := by
      have hx := ch_x (c := c) hs ho (show k < n by omega)
      have h6 := (hs.2.1 k (by omega)).2.2.2.2
      unfold shI at hb ⊢
      unfold shA
      by_cases p : chD D L (nI c) k
      · rw [if_pos p] at hb ⊢
        rw [if_pos (hx.mpr p)]
        show (z + gI M (b + 6) k).toInt = _
        rw [h6]
        exact t_add (by omega) (by omega)
      · rw [if_neg p, if_neg (fun y => p (hx.mp y))]
        omega
    show (itr (shA M (b + 1) (nI c)) q (k + 1) (shA M (b + 1) (nI c) k z)).toInt = z.toInt + (shI D L c k + uS (shI D L c) (k + 1) q)
    rw [xS_s hs ho q (k + 1) _ (by omega) hh (by omega) (by omega), e]
    omega
theorem xF_s {M : Mm} {b : Nat} {D L : Nat → Int32} {n f r w c : Nat} (hs : RSs M b D n f r w) (ho : OL M b L n) : ∀ q k, k + q ≤ n → (foA M (b + 1) (nI c) q k = -1 ∧ ∀ i, k ≤ i → i < k + q → shI D L c i ≤ 0) ∨ ∃ j, k ≤ j ∧ j < k + q ∧ foA M (b + 1) (nI c) q k = nI j ∧ 0 < shI D L c j ∧ ∀ i, k ≤ i → i < j → shI D L c i ≤ 0
  | 0, k, _ => Or.inl ⟨rfl, fun i a1 a2 => by omega⟩
  | q + 1, k, hk => by
    have hx := ch_x (c := c) hs ho (show k < n by omega)
    have h6 := (hs.2.1 k (by omega)).2.2.2.2
    by_cases p : 0 < shI D L c k
    · refine Or.inr ⟨k, Nat.le_refl _, by omega, ?_, p, fun i a1 a2 => by omega⟩
      unfold shI at p
      split at p
      · rename_i g
        show (if (gI M (b + 2) k = nI c ∧ ¬ gI M (b + 8) k = 0) ∧ 0 < gI M (b + 6) k then nI k else _) = _
        exact if_pos ⟨hx.mpr g, by rw [h6]; exact t_0lt.mpr p⟩
      · omega
    · have e : foA M (b + 1) (nI c) (q + 1) k = foA M (b + 1) (nI c) q (k + 1) := by
        show (if (gI M (b + 2) k = nI c ∧ ¬ gI M (b + 8) k = 0) ∧ 0 < gI M (b + 6) k then nI k else _) = _
        refine if_neg (fun y => p ?_)
        unfold shI
        rw [if_pos (hx.mp y.1), ← h6]
        exact t_0lt.mp y.2
      rw [e]
      rcases xF_s hs ho q (k + 1) (by omega) with ⟨h1, h2⟩ | ⟨j, j1, j2, j3, j4, j5⟩
      · refine Or.inl ⟨h1, fun i a1 a2 => ?_⟩
        rcases Nat.lt_or_ge k i with y | y
        · exact h2 i (by omega) (by omega)
        · have : i = k := by omega
          subst this
          omega
      · refine Or.inr ⟨j, by omega, by omega, j3, j4, fun i a1 a2 => ?_⟩
        rcases Nat.lt_or_ge k i with y | y
        · exact j5 i (by omega) a2
        · have : i = k := by omega
          subst this
          omega
