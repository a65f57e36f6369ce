/-! ===== taking: a State and a row ===== -/
def TK (q : T3) (z : Int32 × (Nat → Int32)) (D : Nat → Int32) (f : Nat) : Prop :=
  q.1 = z.1 ∧ (∀ i, i < f → q.2.1 i = z.2 (221 + 11 * i + 7) ∧ q.2.2.1 i = z.2 (221 + 11 * i + 8) ∧ q.2.2.2 i = z.2 (221 + 11 * i + 9)) ∧ ∀ j, (∀ i, i < f → j ≠ 221 + 11 * i + 7 ∧ j ≠ 221 + 11 * i + 8 ∧ j ≠ 221 + 11 * i + 9) → z.2 j = D j
theorem tk_s {M : Mm} {b : Nat} {D O : Nat → Int32} {n f r w c k : Nat} {v : Int32} {q : T3} {z : Int32 × (Nat → Int32)} (hs : RSs M b D n f r w) (hO : ¬ bG M (b + 10) k v = 0 ↔ ¬ O k = 0) (hk : k < f) (h : TK q z D f) : TK (tkA M (b + 10) (nI c) v k q) (irA O (nI c) v k z) D f := by
  obtain ⟨h1, h2, h3⟩ := h
  obtain ⟨p0, p1, p2, -⟩ := hs.2.2.1 k hk
  have z0 : z.2 (221 + 11 * k) = D (221 + 11 * k) := h3 _ (fun i hi => by omega)
  have z1 : z.2 (221 + 11 * k + 1) = D (221 + 11 * k + 1) := h3 _ (fun i hi => by omega)
  have z2 : z.2 (221 + 11 * k + 2) = D (221 + 11 * k + 2) := h3 _ (fun i hi => by omega)
  have g0 : gI M (b + 10 + 1) k = z.2 (221 + 11 * k) := by rw [z0]; exact p0
  have g1 : gI M (b + 10 + 2) k = z.2 (221 + 11 * k + 1) := by rw [z1]; exact p1
  have g2 : gI M (b + 10 + 3) k = z.2 (221 + 11 * k + 2) := by rw [z2]; exact p2
  obtain ⟨k1, k2, k3⟩ := h2 k hk
  unfold tkA irA
  rw [g0, g1, g2, mn_e, h1, k1, k2, k3]
  by_cases p : z.2 (221 + 11 * k) = nI c ∧ ¬ O k = 0
  · rw [if_pos p, if_pos ⟨p.1, hO.mpr p.2⟩]
    refine ⟨rfl, fun i hi => ?_, fun j hj => ?_⟩
    · obtain ⟨i1, i2, i3⟩ := h2 i hi
      by_cases e : i = k
      · subst e
        by_cases pv : z.2 (221 + 11 * i + 1) = v
        · rw [if_pos pv]
          dsimp only
          rw [if_pos pv, upd_s, upd_s, upd_s, upd_n _ _ (show 221 + 11 * i + 7 ≠ 221 + 11 * i + 8 by omega), upd_s, upd_s, upd_n _ _ (show 221 + 11 * i + 9 ≠ 221 + 11 * i + 8 by omega), upd_n _ _ (show 221 + 11 * i + 9 ≠ 221 + 11 * i + 7 by omega), Int32.add_zero]
          exact ⟨rfl, rfl, rfl⟩
        · rw [if_neg pv]
          dsimp only
          rw [if_neg pv, upd_s, upd_s, upd_s, upd_n _ _ (show 221 + 11 * i + 7 ≠ 221 + 11 * i + 9 by omega), upd_n _ _ (show 221 + 11 * i + 7 ≠ 221 + 11 * i + 8 by omega), upd_s, upd_n _ _ (show 221 + 11 * i + 8 ≠ 221 + 11 * i + 9 by omega), upd_s, upd_s]
          exact ⟨rfl, rfl, rfl⟩
      · dsimp only
        rw [upd_n _ _ e, upd_n _ _ e, upd_n _ _ e, i1, i2, i3]
        split
        · rw [upd_n _ _ (by omega), upd_n _ _ (by omega), upd_n _ _ (by omega), upd_n _ _ (by omega), upd_n _ _ (by omega), upd_n _ _ (by omega)]
          exact ⟨rfl, rfl, rfl⟩
        · rw [upd_n _ _ (by omega), upd_n _ _ (by omega), upd_n _ _ (by omega), upd_n _ _ (by omega), upd_n _ _ (by omega), upd_n _ _ (by omega), upd_n _ _ (by omega), upd_n _ _ (by omega), upd_n _ _ (by omega)]
          exact ⟨rfl, rfl, rfl⟩
    · have hk3 := hj k hk
      dsimp only
      split
      · rw [upd_n _ _ hk3.2.1, upd_n _ _ hk3.1]
        exact h3 j hj
      · rw [upd_n _ _ hk3.2.2, upd_n _ _ hk3.2.1, upd_n _ _ hk3.1]
        exact h3 j hj
  · rw [if_neg p, if_neg (fun y => p ⟨y.1, hO.mp y.2⟩)]
    exact ⟨h1, h2, h3⟩
theorem tk_l {M : Mm} {b : Nat} {D O : Nat → Int32} {n f r w c : Nat} {v : Int32} (hs : RSs M b D n f r w) (hO : ∀ k, k < f → (¬ bG M (b + 10) k v = 0 ↔ ¬ O k = 0)) : ∀ q k (u : T3) (z : Int32 × (Nat → Int32)), k + q ≤ f → TK u z D f → TK (itr (tkA M (b + 10) (nI c) v) q k u) (itr (irA O (nI c) v) q k z) D f
  | 0, _, _, _, _, h => h
  | q + 1, k, u, z, hk, h => tk_l hs hO q (k + 1) _ _ (by omega) (tk_s hs (hO k (by omega)) (by omega) h)
/-- what the fields of a canal take -/
theorem tk_r {M : Mm} {b : Nat} {D O : Nat → Int32} {n f r w c h : Nat} {a v : Int32} (hs : RSs M b D n f r w) (hr : RSd M b D n f h) (hf : f ≤ 12) (h1 : D 1 = nI f) (hO : ∀ k, k < f → (¬ bG M (b + 10) k v = 0 ↔ ¬ O k = 0)) : TK (tkR M (b + 10) (nI c) a v) (irR D O (nI c) a v) D f := by
  unfold tkR irR
  rw [hs.1.2.1, h1, nI_clamp (by omega)]
  refine tk_l hs hO f 0 _ _ (by omega) ⟨rfl, fun i hi => ?_, fun _ _ => rfl⟩
  obtain ⟨a1, a2, a3, -⟩ := hr.2.2.1 i hi
  exact ⟨a1, a2, a3⟩
