/-! ===== the shift of the pipes ===== -/
theorem sh_k (P j : Nat) : ∀ q k (z : Nat → Int32), k + q = 6 → itr (fun k (z : Nat → Int32) => upd z (P + k) (z (P + (k + 1)))) q k z (P + j) = if k ≤ j ∧ j < 6 then z (P + (j + 1)) else z (P + j)
  | 0, k, z, h => by
    rw [if_neg (by omega)]
    rfl
  | q + 1, k, z, h => by
    show itr (fun k (z : Nat → Int32) => upd z (P + k) (z (P + (k + 1)))) q (k + 1) (upd z (P + k) (z (P + (k + 1)))) (P + j) = _
    rw [sh_k P j q (k + 1) _ (by omega)]
    by_cases e : k = j
    · subst e
      rw [if_neg (by omega), if_pos (by omega), upd_s]
    · by_cases p : k + 1 ≤ j ∧ j < 6
      · rw [if_pos p, if_pos (by omega), upd_n _ _ (by omega)]
      · rw [if_neg p, if_neg (by omega), upd_n _ _ (by omega)]
theorem sh_n (P j : Nat) (hj : ∀ k, k ≤ 6 → j ≠ P + k) : ∀ q k (z : Nat → Int32), k + q = 6 → itr (fun k (z : Nat → Int32) => upd z (P + k) (z (P + (k + 1)))) q k z j = z j
  | 0, _, _, _ => rfl
  | q + 1, k, z, h => by
    show itr (fun k (z : Nat → Int32) => upd z (P + k) (z (P + (k + 1)))) q (k + 1) (upd z (P + k) (z (P + (k + 1)))) j = _
    rw [sh_n P j hj q (k + 1) _ (by omega), upd_n _ _ (hj k (by omega))]
theorem sh_i (D : Nat → Int32) (c : Nat) {j : Nat} (hj : j ≤ 6) : shD c D (13 + 13 * c + 6 + j) = if j < 6 then D (13 + 13 * c + 6 + (j + 1)) else 0 := by
  unfold shD
  by_cases e : j = 6
  · subst e
    rw [upd_s, if_neg (by decide)]
  · rw [upd_n _ _ (by omega), sh_k _ _ 6 0 D rfl, if_pos (by omega), if_pos (by omega)]
theorem sh_o (D : Nat → Int32) (c : Nat) {j : Nat} (hj : ∀ k, k ≤ 6 → j ≠ 13 + 13 * c + 6 + k) : shD c D j = D j := by
  unfold shD
  rw [upd_n _ _ (hj 6 (by decide)), sh_n _ _ hj 6 0 D rfl]
theorem sh_s {P : Nat} (hP : ∀ k, k ≤ 6 → P + k ∈ PL) : ∀ q k (z : Nat → Int32), k + q = 6 → sumP (itr (fun k (z : Nat → Int32) => upd z (P + k) (z (P + (k + 1)))) q k z) PL = sumP z PL - (z (P + k)).toInt + (z (P + 6)).toInt
  | 0, k, z, h => by
    have e : k = 6 := h
    subst e
    show sumP z PL = _
    omega
  | q + 1, k, z, h => by
    show sumP (itr (fun k (z : Nat → Int32) => upd z (P + k) (z (P + (k + 1)))) q (k + 1) (upd z (P + k) (z (P + (k + 1))))) PL = _
    rw [sh_s hP q (k + 1) _ (by omega), sumP_u _ _ _ _ PL_nd (hP k (by omega)), upd_n _ _ (by omega), upd_n _ _ (by omega)]
    omega
theorem sh_w {D : Nat → Int32} {c : Nat} {q : Int} (hc : c < 16) (h : WL D q) (h0 : D (13 + 13 * c + 6) = 0) : WL (shD c D) q := by
  obtain ⟨h1, h2, h3⟩ := h
  have e8 : shD c D 8 = D 8 := sh_o D c (fun k hk => by omega)
  refine ⟨fun j hj => ?_, ?_, by rw [e8]; exact h3⟩
  · by_cases p : ∃ k, k ≤ 6 ∧ j = 13 + 13 * c + 6 + k
    · obtain ⟨k, hk, rfl⟩ := p
      rw [sh_i D c hk]
      split
      · exact h1 _ (PL_c hc (by omega))
      · decide
    · rw [sh_o D c (fun k hk e => p ⟨k, hk, e⟩)]
      exact h1 j hj
  · rw [e8, ← h2]
    unfold shD
    rw [sumP_u _ _ _ _ PL_nd (PL_c hc (k := 6) (by decide)), sh_s (fun k hk => PL_c hc (by omega)) 6 0 D rfl, sh_k _ _ 6 0 D rfl, if_neg (by decide)]
    have e : (D (13 + 13 * c + 6 + 0)).toInt = 0 := by
      rw [Nat.add_zero, h0]
      rfl
    have e2 : ((0 : Int32)).toInt = 0 := rfl
    rw [e, e2]
    omega
/-- all canals' pipes shifted: from canal k on -/
theorem shL_i (i : Nat) {j : Nat} (hj : j ≤ 6) : ∀ q k (D : Nat → Int32), itr shD q k D (13 + 13 * i + 6 + j) = if k ≤ i ∧ i < k + q then (if j < 6 then D (13 + 13 * i + 6 + (j + 1)) else 0) else D (13 + 13 * i + 6 + j)
  | 0, k, D => by
    rw [if_neg (by omega)]
    rfl
  | q + 1, k, D => by
    show itr shD q (k + 1) (shD k D) (13 + 13 * i + 6 + j) = _
    rw [shL_i i hj q (k + 1)]
    by_cases e : k = i
    · subst e
      rw [if_neg (by omega), if_pos (by omega), sh_i D k hj]
    · by_cases p : k + 1 ≤ i ∧ i < k + 1 + q
      · rw [if_pos p, if_pos (show k ≤ i ∧ i < k + (q + 1) by omega)]
        by_cases u : j < 6
        · rw [if_pos u, if_pos u, sh_o D k (fun x hx => by omega)]
        · rw [if_neg u, if_neg u]
      · rw [if_neg p, if_neg (by omega), sh_o D k (fun x hx => by omega)]
theorem shL_o {j : Nat} : ∀ q k (D : Nat → Int32), (∀ i x, k ≤ i → i < k + q → x ≤ 6 → j ≠ 13 + 13 * i + 6 + x) → itr shD q k D j = D j
  | 0, _, _, _ => rfl
  | q + 1, k, D, h => by
    show itr shD q (k + 1) (shD k D) j = _
    rw [shL_o q (k + 1) _ (fun i x a1 a2 a3 => h i x (by omega) (by omega) a3), sh_o D k (fun x hx => h k x (by omega) (by omega) hx)]
theorem shL_w {q0 : Int} : ∀ q k (D : Nat → Int32), k + q ≤ 16 → WL D q0 → (∀ i, k ≤ i → i < k + q → D (13 + 13 * i + 6) = 0) → WL (itr shD q k D) q0
  | 0, _, _, _, h, _ => h
  | q + 1, k, D, hk, h, h0 => shL_w q (k + 1) (shD k D) (by omega) (sh_w (by omega) h (h0 k (by omega) (by omega))) (fun i a1 a2 => by
      rw [sh_o D k (fun x hx => by omega)]
      exact h0 i (by omega) (by omega))
/-! ===== what steps leave alone ===== -/
theorem enJ_p {D : Nat → Int32} {n f r w g : Nat} (hD : WD D n f r w g) {c : Nat} (hc : c < n) (a : Int32) {j : Nat} (hj : j = 5 ∨ j = 8 ∨ ∃ i, j = 13 + 13 * i + 6) : enJ D c a j = 0 := by
  have hn : n ≤ 16 := hD.1.1
  obtain ⟨d, d1, d2, d3⟩ := (hD.2.2.2.1 c hc).1
  unfold enJ
  rw [d3, nI_clamp (by omega), if_neg (by omega), if_neg (by omega), if_neg (by omega)]
theorem dv_p {D : Nat → Int32} {n f r w g : Nat} (hD : WD D n f r w g) (L : Nat → Int32) {c : Nat} (hc : c < n) (a : Int32) {j : Nat} (hj : j = 5 ∨ j = 8 ∨ ∃ i, j = 13 + 13 * i + 6) : dvD D L c a j = D j := by
  have hn : n ≤ 16 := hD.1.1
  unfold dvD
  try dsimp only
  rw [hD.2.1.1, nI_clamp (by omega)]
  split
  · exact upd_n _ _ (by omega)
  · rw [ddE_j hD L c a _ _ _ j _ _ D (by omega) (SD.r D), iS_0, Int32.add_zero]
    intro i a1 a2
    split
    · exact enJ_p hD (by omega) _ hj
    · rfl
theorem ir_o {O : Nat → Int32} {c v : Int32} {j : Nat} (hj : ∀ i, j ≠ 221 + 11 * i + 7 ∧ j ≠ 221 + 11 * i + 8 ∧ j ≠ 221 + 11 * i + 9) : ∀ q k (z : Int32 × (Nat → Int32)), (itr (irA O c v) q k z).2 j = z.2 j
  | 0, _, _ => rfl
  | q + 1, k, z => by
    show (itr (irA O c v) q (k + 1) (irA O c v k z)).2 j = _
    rw [ir_o hj q (k + 1)]
    obtain ⟨h7, h8, h9⟩ := hj k
    unfold irA
    split
    · dsimp only
      split
      · rw [upd_n _ _ h8, upd_n _ _ h7]
      · rw [upd_n _ _ h9, upd_n _ _ h8, upd_n _ _ h7]
    · rfl
theorem cv_o {D O L : Nat → Int32} {v : Int32} {n f r w g c : Nat} (hD : WD D n f r w g) (hc : c < n) {j : Nat} (hj : j = 5 ∨ j = 8 ∨ (∃ i, i < 16 ∧ j = 13 + 13 * i + 6) ∨ (∃ i, i < f ∧ j = 221 + 11 * i + 10)) : caV O L v c D j = if j = 13 + 13 * c + 6 then 0 else D j := by
  have hn : n ≤ 16 := hD.1.1
  have hf : f ≤ 12 := hD.1.2.1
  have e1 : (cvZ O v c D).2 j = arV D c j := by
    unfold cvZ irR
    exact ir_o (fun i => by rcases hj with h | h | ⟨k, hk, h⟩ | ⟨k, hk, h⟩ <;> omega) _ _ _
  have s1 : SD D (cvZ O v c D).2 := (sd_ar D (show c < 16 by omega)).t (sd_ir (hD.sd (sd_ar D (by omega))) O _ _ _)
  have e2 : caV O L v c D j = (cvZ O v c D).2 j := by
    unfold caV
    rcases hj with h | h | ⟨i, -, h⟩ | ⟨i, hi, h⟩
    · exact dv_p (hD.sd s1) L hc _ (Or.inl h)
    · exact dv_p (hD.sd s1) L hc _ (Or.inr (Or.inl h))
    · exact dv_p (hD.sd s1) L hc _ (Or.inr (Or.inr ⟨i, h⟩))
    · exact dv_o (hD.sd s1) L hc _ (by omega)
  rw [e2, e1]
  split
  · rename_i e
    rw [e]
    exact ar_6 D c
  · rename_i e
    exact ar_o D (by omega) e
theorem drL_o {D : Nat → Int32} {n f r w g : Nat} (hD : WD D n f r w g) {j : Nat} (h9 : j ≠ 9) (h11 : j ≠ 11) (hj : ∀ i, j ≠ 221 + 11 * i + 7) : ∀ k E, k ≤ f → SD D E → drL k E j = E j
  | 0, _, _, _ => rfl
  | k + 1, E, hk, hE => by
    show drL k (drD E k) j = _
    rw [drL_o hD h9 h11 hj k (drD E k) (by omega) (hE.t (sd_dr (hD.sd hE) (by omega))), dr_o (hD.sd hE) (show k < f by omega) h9 h11 hj]
