/-! ===== the two readers: words, signs, numbers ===== -/
/-- a word that both may take -/
theorem ty_tw {P N : Mm} {r m w : Nat} (h : TY P r N m) (hw : w < 10) : (iwI P (r + 1) w = 0 ∧ (twN N m w).1 = 0 ∧ TY P r (twN N m w).2 m) ∨ (¬ iwI P (r + 1) w = 0 ∧ (twN N m w).1 = 1 ∧ TY (nxM P (r + 1)) r (twN N m w).2 m) := by
  obtain ⟨L, s, hL, hs, e1, e2, h1, h2, hB, hT, -⟩ := h.f
  obtain ⟨a1, a2, a3⟩ := ty_w hB hL hs hT hw
  have t3 : (gI P (r + 1) 3).toNatClampNeg = s := by rw [hT.2.1, nI_clamp (by omega)]
  have l100 := (sNB w hw).2
  unfold twN
  rw [if_neg (fun z => z h2), e1, e2]
  rcases a1 with z | z
  · left
    rw [if_pos z]
    refine ⟨?_, rfl, h.nx⟩
    unfold iwI
    rw [t3]
    split
    · rfl
    · rename_i q
      rcases mtc_01 (gI P (r + 1 + 1)) (sB.getD w []) s with y | y
      · exact y
      · have := a2.mp ⟨q, y⟩
        rw [z] at this
        exact absurd this (by decide)
  · right
    rw [if_neg (by rw [z]; decide)]
    have a4 := a2.mpr z
    refine ⟨?_, rfl, h.ad (a3 z) (by omega)⟩
    unfold iwI
    rw [t3, if_neg a4.1, show mtc (gI P (r + 1 + 1)) (sB.getD w []) s = 1 from a4.2]
    decide
theorem ty_sg {P N : Mm} {r m : Nat} (h : TY P r N m) {c : Int32} (hc : c = 40 ∨ c = 41 ∨ c = 42 ∨ c = 43 ∨ c = 45 ∨ c = 47 ∨ c = 59) : (gI P (r + 1) 2 = c ↔ nxc N m = c) ∧ (nxc N m = c → TY (nxM P (r + 1)) r (psM N m (nxp N m + 1)) m) := by
  obtain ⟨L, s, hL, hs, e1, e2, h1, h2, hB, hT, e3⟩ := h.f
  obtain ⟨a1, a2⟩ := ty_c hB hL hs hT hc
  rw [e3]
  refine ⟨a1, fun z => ?_⟩
  rw [e2]
  exact h.ad (a2 (a1.mpr z)) (by omega)
theorem ty_di {P N : Mm} {r m : Nat} (h : TY P r N m) : (gI P (r + 1) 2 = -2 ↔ inI (nxc N m) 48 57) ∧ (gI P (r + 1) 2 = -1 ↔ nxc N m = -1) := by
  obtain ⟨L, s, hL, hs, e1, e2, h1, h2, hB, hT, e3⟩ := h.f
  rw [e3]
  exact ⟨(ty_d hB hL hs hT).1, (ty_d hB hL hs hT).2.1⟩
theorem xp_g {N : Mm} {m : Nat} (c : Int32) (h : gI N m 5 = 0) : xpN N m c = if nxc N m = c then psM N m (nxp N m + 1) else reN (nxN N m) m (-2) (nI (nxp N m)) := if_neg (fun z => z h)
theorem nu_y {N : Mm} {m : Nat} (lo hi : Int32) (h : gI N m 5 = 0) (q : inI (nxc N m) 48 57) : nuN N m lo hi = ((nmV N m).1, if inI (nmV N m).1 lo hi then nm2 N m else reN (nm2 N m) m (-3) (nI (nxp N m))) := (if_neg (fun z => z h)).trans (if_neg (fun z => z q))
theorem nu_n {N : Mm} {m : Nat} (lo hi : Int32) (h : gI N m 5 = 0) (q : ¬ inI (nxc N m) 48 57) : nuN N m lo hi = (0, reN (nxN N m) m (-2) (nI (nxp N m))) := (if_neg (fun z => z h)).trans (if_pos q)
theorem rb_n {P : Mm} {r : Nat} (lo hi : Int32) (q : ¬ gI P (r + 1) 2 = -2) : rbM P r lo hi = flM P r (-2) := if_pos q
theorem rb_b {P : Mm} {r : Nat} {lo hi : Int32} (q : gI P (r + 1) 2 = -2) (g : gI P (r + 1) 4 < lo ∨ hi < gI P (r + 1) 4) : rbM P r lo hi = flM P r (-3) := (if_neg (fun z => z q)).trans (if_pos g)
theorem rb_y {P : Mm} {r : Nat} {lo hi : Int32} (q : gI P (r + 1) 2 = -2) (g : ¬ (gI P (r + 1) 4 < lo ∨ hi < gI P (r + 1) 4)) : rbM P r lo hi = P := (if_neg (fun z => z q)).trans (if_neg g)
theorem rn_y {P Q : Mm} {r : Nat} {lo hi : Int32} (e : rbM P r lo hi = Q) (h : gI Q r 3 = 0) : rnM P r lo hi = (gI P (r + 1) 4, nxM Q (r + 1)) := by
  unfold rnM
  rw [e, if_pos h]
theorem rn_n {P Q : Mm} {r : Nat} {lo hi : Int32} (e : rbM P r lo hi = Q) (h : ¬ gI Q r 3 = 0) : rnM P r lo hi = (-1, Q) := by
  unfold rnM
  rw [e, if_neg h]
theorem ty_sk {P N : Mm} {r m : Nat} (h : TY P r N m) {c : Int32} (hc : c = 40 ∨ c = 41 ∨ c = 42 ∨ c = 43 ∨ c = 45 ∨ c = 47 ∨ c = 59) : TY (skM P r c) r (xpN N m c) m ∨ ER (skM P r c) r (xpN N m c) m := by
  obtain ⟨a1, a2⟩ := ty_sg h hc
  obtain ⟨L, s, -, -, -, -, h1, h2, -⟩ := h.f
  rw [xp_g c h2]
  unfold skM
  by_cases q : nxc N m = c
  · rw [if_pos (a1.mpr q), if_pos q]
    exact Or.inl (a2 q)
  · rw [if_neg (fun z => q (a1.mp z)), if_neg q]
    exact Or.inr (er_fl h (by decide) (by unfold nxN; rw [ps_n _ _ _ (by decide)]; exact h2))
theorem fl_ne {P : Mm} {r : Nat} {c : Int32} (hc : ¬ c = 0) (h : gI P r 3 = 0) : ¬ gI (flM P r c) r 3 = 0 := by
  unfold flM
  rw [if_pos h, gI_s, upd_n _ _ (show (3 : Nat) ≠ 2 by decide), upd_s]
  exact hc
/-- a number that both read -/
theorem ty_nu {P N : Mm} {r m : Nat} (h : TY P r N m) (lo hi : Int32) :
    (∃ k, k ≤ 1000000 ∧ ¬ nI k < lo ∧ ¬ hi < nI k ∧ rnM P r lo hi = (nI k, nxM P (r + 1)) ∧ (nuN N m lo hi).1 = nI k ∧ gI P (r + 1) 4 = nI k ∧ TY (nxM P (r + 1)) r (nuN N m lo hi).2 m) ∨ ER (rnM P r lo hi).2 r (nuN N m lo hi).2 m := by
  obtain ⟨L, s, hL, hs, e1, e2, h1, h2, hB, hT, e3⟩ := h.f
  obtain ⟨d1, -, d3⟩ := ty_d hB hL hs hT
  have n5 : gI (nxN N m) m 5 = 0 := by unfold nxN; rw [ps_n _ _ _ (by decide)]; exact h2
  by_cases q : inI (nxc N m) 48 57
  · rw [nu_y lo hi h2 q]
    rw [e3] at q
    obtain ⟨q1, q2⟩ := d3 q
    have qk := d1.mpr q
    have eV : nmV N m = nmL (gI N (m + 1)) L (L - s) s 0 := by
      unfold nmV
      rw [e1, e2]
    obtain ⟨b1, b2⟩ := nme hB hL (L - s) s 0 (by omega)
    have x4 : gI P (r + 1) 4 = (nmV N m).1 := by
      rw [eV, b1]
      exact hT.2.2.2.1 q1 q2
    have x6 : gI P (r + 1) 6 = nI (nmV N m).2 := by
      rw [eV, b2, hT.2.2.2.2]
      unfold tkE
      rw [if_neg (show ¬ L ≤ s by omega), if_pos q2]
    obtain ⟨k, hk, ek⟩ := nm_c hB hL (L - s) s 0 (by omega) ⟨0, by decide, rfl⟩
    rw [← eV] at ek
    have eb : (nmV N m).2 < 2 ^ 31 := by
      have := (nmL_b (gI N (m + 1)) L (L - s) s 0).2
      rw [eV]
      omega
    have hA := h.ad x6 eb
    have m2 : ∀ j, j ≠ 13 → gI (nm2 N m) m j = gI (psM N m (nmV N m).2) m j := by
      intro j hj
      unfold nm2 nm1 psM
      rw [gI_s, gI_s, gI_s]
      by_cases e : j = 4
      · subst e
        rw [upd_s, upd_s]
      · rw [upd_n _ _ e, upd_n _ _ hj, upd_n _ _ e, upd_n _ _ e]
    have m21 : gI (nm2 N m) (m + 1) = gI (psM N m (nmV N m).2) (m + 1) := by
      unfold nm2 nm1
      rw [ps_1, gI_f _ _ (by omega), ps_1]
    have hA2 : TY (nxM P (r + 1)) r (nm2 N m) m := hA.cN (m2 3 (by decide)) (m2 4 (by decide)) (m2 5 (by decide)) m21
    have m25 : gI (nm2 N m) m 5 = 0 := by
      rw [m2 5 (by decide), ps_n _ _ _ (by decide)]
      exact h2
    dsimp only
    rw [ek] at x4 ⊢
    by_cases g : inI (nI k) lo hi
    · left
      rw [rn_y (rb_y qk (by rw [x4]; exact fun z => z.elim g.1 g.2)) h1, if_pos g, x4]
      exact ⟨k, hk, g.1, g.2, rfl, rfl, rfl, hA2⟩
    · right
      have gx : nI k < lo ∨ hi < nI k := by
        by_cases a : nI k < lo
        · exact Or.inl a
        · exact Or.inr (Decidable.not_not.mp (fun z => g ⟨a, z⟩))
      rw [rn_n (rb_b qk (by rw [x4]; exact gx)) (fl_ne (by decide) h1), if_neg g]
      exact er_fl h (by decide) m25
  · rw [nu_n lo hi h2 q]
    rw [e3] at q
    right
    rw [rn_n (rb_n lo hi (fun z => q (d1.mp z))) (fl_ne (by decide) h1)]
    exact er_fl h (by decide) n5
theorem nu_13 {P N : Mm} {r m : Nat} {lo hi : Int32} (h : TY P r N m) (q : gI (nuN N m lo hi).2 m 5 = 0) : gI (nuN N m lo hi).2 m 13 = nI (nxp N m) := by
  obtain ⟨L, s, hL, hs, e1, e2, h1, h2, hB, hT, e3⟩ := h.f
  have n5 : gI (nxN N m) m 5 = 0 := by unfold nxN; rw [ps_n _ _ _ (by decide)]; exact h2
  by_cases g : inI (nxc N m) 48 57
  · rw [nu_y lo hi h2 g]
    have m13 : gI (nm2 N m) m 13 = nI (nxp N m) := by
      unfold nm2 nm1
      rw [ps_n _ _ _ (by decide), gI_s, upd_s]
    dsimp only
    split
    · exact m13
    · rw [re_n _ _ _ _ (by decide) (by decide)]
      exact m13
  · rw [nu_n lo hi h2 g] at q
    exact absurd q (re_5 (by decide))
/-- an optional number behind a word -/
theorem ty_ro {P N : Mm} {r m w : Nat} (h : TY P r N m) (hw : w < 10) (hi ms : Int32) :
    ((twN N m w).1 = 0 ∧ roM P r w hi ms = (ms, P) ∧ TY P r (twN N m w).2 m) ∨
    ((twN N m w).1 = 1 ∧ ((∃ k, k ≤ 1000000 ∧ ¬ nI k < 0 ∧ ¬ hi < nI k ∧ roM P r w hi ms = (nI k, nxM (nxM P (r + 1)) (r + 1)) ∧ (nuN (twN N m w).2 m 0 hi).1 = nI k ∧ TY (nxM (nxM P (r + 1)) (r + 1)) r (nuN (twN N m w).2 m 0 hi).2 m) ∨ ER (roM P r w hi ms).2 r (nuN (twN N m w).2 m 0 hi).2 m)) := by
  obtain ⟨L, s, -, -, -, -, h1, -⟩ := h.f
  unfold roM
  rcases ty_tw h hw with ⟨a1, a2, a3⟩ | ⟨a1, a2, a3⟩
  · left
    rw [if_pos (Or.inr a1)]
    exact ⟨a2, rfl, a3⟩
  · right
    rw [if_neg (fun z => z.elim (fun z => z h1) a1)]
    refine ⟨a2, ?_⟩
    rcases ty_nu a3 0 hi with ⟨k, k1, k2, k3, k4, k5, -, k7⟩ | e
    · exact Or.inl ⟨k, k1, k2, k3, k4, k5, k7⟩
    · exact Or.inr e
