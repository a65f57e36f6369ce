/-! ===== whose turn it is: a State and a row ===== -/
theorem iS_t {F : Nat → Int32} : ∀ q k, q ≤ 1000 → (∀ i, k ≤ i → i < k + q → 0 ≤ (F i).toInt ∧ (F i).toInt ≤ 9999) → (iS F k q).toInt = uS (fun i => (F i).toInt) k q ∧ 0 ≤ uS (fun i => (F i).toInt) k q ∧ uS (fun i => (F i).toInt) k q ≤ 9999 * q
  | 0, _, _, _ => ⟨rfl, Int.le_refl _, Int.le_refl _⟩
  | q + 1, k, hq, h => by
    have h0 := h k (Nat.le_refl _) (by omega)
    obtain ⟨h1, h2, h3⟩ := iS_t (F := F) q (k + 1) (by omega) (fun i a b => h i (by omega) (by omega))
    have e : (F k + iS F (k + 1) q).toInt = (F k).toInt + uS (fun i => (F i).toInt) (k + 1) q := by rw [t_add (by omega) (by omega), h1]
    have e2 : uS (fun i => (F i).toInt) k (q + 1) = (F k).toInt + uS (fun i => (F i).toInt) (k + 1) q := rfl
    refine ⟨e.trans e2.symm, ?_, ?_⟩ <;> omega
theorem cy_t {D : Nat → Int32} {n f r w g : Nat} (hD : WD D n f r w g) : (cyD D).toInt = uS (fun i => (D (353 + 2 * i + 1)).toInt) 0 r ∧ (r = 0 ∨ 0 < (cyD D).toInt) ∧ (cyD D).toInt ≤ 9999 * r ∧ 0 ≤ (cyD D).toInt := by
  have hr : r ≤ 12 := hD.1.2.2.1
  have hb : ∀ i, 0 ≤ i → i < 0 + r → 0 ≤ (D (353 + 2 * i + 1)).toInt ∧ (D (353 + 2 * i + 1)).toInt ≤ 9999 := by
    intro i _ hi
    obtain ⟨h, h1, h2, h3⟩ := hD.2.2.2.2.2 i (by omega)
    rw [h3, t_nI (by omega)]
    omega
  obtain ⟨e1, e2, e3⟩ := iS_t (F := fun i => D (353 + 2 * i + 1)) r 0 (by omega) hb
  have e0 : cyD D = iS (fun i => D (353 + 2 * i + 1)) 0 r := by
    unfold cyD
    rw [hD.2.1.2.2.1, nI_clamp (by omega), it_s, Int32.zero_add]
  rw [e0]
  refine ⟨e1, ?_, by omega, by omega⟩
  rcases Nat.eq_zero_or_pos r with z | z
  · exact Or.inl z
  · right
    obtain ⟨q, rfl⟩ : ∃ q, r = q + 1 := ⟨r - 1, by omega⟩
    obtain ⟨h, h1, h2, h3⟩ := hD.2.2.2.2.2 0 (by omega)
    obtain ⟨-, u2, -⟩ := iS_t (F := fun i => D (353 + 2 * i + 1)) q 1 (by omega) (fun i a b => hb i (by omega) (by omega))
    have e4 : uS (fun i => (D (353 + 2 * i + 1)).toInt) 0 (q + 1) = (D (353 + 2 * 0 + 1)).toInt + uS (fun i => (D (353 + 2 * i + 1)).toInt) 1 q := rfl
    rw [h3, t_nI (by omega)] at e4
    omega
theorem md_t {h c : Int32} (h0 : 0 ≤ h.toInt) (hc : 0 < c.toInt) : (h - h / c * c).toInt = h.toInt % c.toInt := by
  have e1 : (h / c).toInt = h.toInt / c.toInt := t_div h0 hc
  have rh := t_rng h
  have m1 : h.toInt / c.toInt * c.toInt ≤ h.toInt := Int.ediv_mul_le _ (by omega)
  have m0 : 0 ≤ h.toInt / c.toInt * c.toInt := Int.mul_nonneg (Int.ediv_nonneg h0 (by omega)) (by omega)
  have e2 : (h / c * c).toInt = h.toInt / c.toInt * c.toInt := by rw [t_mul (by rw [e1]; omega) (by rw [e1]; omega), e1]
  rw [t_sub (by rw [e2]; omega) (by rw [e2]; omega), e2, Int.emod_def, Int.mul_comm c.toInt]
theorem tu_k {D : Nat → Int32} {n f r w g : Nat} (hD : WD D n f r w g) {M : Mm} {b : Nat} (hM : ∀ i, i < r → gI M (b + 23) i = D (353 + 2 * i) ∧ gI M (b + 24) i = D (353 + 2 * i + 1)) : ∀ q k s (x : Int32), k + q = r → q ≤ s → 0 ≤ x.toInt → x.toInt < uS (fun i => (D (353 + 2 * i + 1)).toInt) k q → tuP D s k x ∧ vilR M (b + 22) q k x = tuF D s k x
  | 0, k, s, x, _, _, h0, h1 => by
    have h1 : x.toInt < 0 := h1
    omega
  | q + 1, k, s, x, hk, hs, h0, h1 => by
    obtain ⟨s, rfl⟩ : ∃ s', s = s' + 1 := ⟨s - 1, by omega⟩
    have h1 : x.toInt < (D (353 + 2 * k + 1)).toInt + uS (fun i => (D (353 + 2 * i + 1)).toInt) (k + 1) q := h1
    obtain ⟨h, g1, g2, g3⟩ := hD.2.2.2.2.2 k (by omega)
    have g4 : (D (353 + 2 * k + 1)).toInt = h := by rw [g3, t_nI (by omega)]
    obtain ⟨m1, m2⟩ := hM k (by omega)
    have v : vilR M (b + 22) (q + 1) k x = if x < D (353 + 2 * k + 1) then D (353 + 2 * k) else vilR M (b + 22) q (k + 1) (x - D (353 + 2 * k + 1)) := by
      show (if x < gI M (b + 24) k then gI M (b + 23) k else vilR M (b + 22) q (k + 1) (x - gI M (b + 24) k)) = _
      rw [m1, m2]
    rw [v]
    by_cases p : x < D (353 + 2 * k + 1)
    · refine ⟨fun y => absurd p y, ?_⟩
      show _ = if x < D (353 + 2 * k + 1) then D (353 + 2 * k) else _
      rw [if_pos p, if_pos p]
    · have p1 : ¬ x.toInt < (D (353 + 2 * k + 1)).toInt := fun y => p (t_lt.mpr y)
      have e : (x - D (353 + 2 * k + 1)).toInt = x.toInt - (D (353 + 2 * k + 1)).toInt := by
        have := t_rng x
        exact t_sub (by omega) (by omega)
      obtain ⟨i1, i2⟩ := tu_k hD hM q (k + 1) s (x - D (353 + 2 * k + 1)) (by omega) (by omega) (by omega) (by omega)
      refine ⟨fun _ => i1, ?_⟩
      show _ = if x < D (353 + 2 * k + 1) then D (353 + 2 * k) else tuF D s (k + 1) (x - D (353 + 2 * k + 1))
      rw [if_neg p, if_neg p]
      exact i2
/-- the turn's village, for the two sides -/
theorem tu_m {D : Nat → Int32} {n f r w g : Nat} (hD : WD D n f r w g) {M : Mm} {b : Nat} (hs : RSs M b D n f r w) {h : Int32} (h0 : 0 ≤ h.toInt) : tuW D h ∧ villV M (b + 22) h = tuD D h := by
  have hr : r ≤ 12 := hD.1.2.2.1
  obtain ⟨c1, c2, c3, c4⟩ := cy_t hD
  have e2 : D 2 = nI r := hD.2.1.2.2.1
  have e3 : gI M (b + 22) 3 = cyD D := hs.2.2.2.2.1
  unfold tuW villV tuD
  rw [e3, hs.1.2.2.1, nI_clamp (show r < 2 ^ 31 by omega)]
  rcases Nat.eq_zero_or_pos r with z | z
  · subst z
    have q0 : D 2 = 0 := e2
    have q1 : cyD D ≤ 0 := t_le.mpr (by show (cyD D).toInt ≤ 0; omega)
    rw [if_pos q0, if_pos q1]
    exact ⟨⟨⟨0, by decide, q0⟩, fun y => absurd q0 y⟩, rfl⟩
  · have q0 : ¬ D 2 = 0 := fun e => by
      have := (nI_eq (show r < 2 ^ 31 by omega) (show 0 < 2 ^ 31 by decide)).mp (e2.symm.trans e)
      omega
    have cp : 0 < (cyD D).toInt := c2.resolve_left (by omega)
    have q1 : ¬ cyD D ≤ 0 := fun y => by
      have : (cyD D).toInt ≤ 0 := t_le.mp y
      omega
    have q2 : ¬ cyD D = 0 := fun y => by
      rw [y] at cp
      exact absurd cp (by decide)
    rw [if_neg q0, if_neg q1]
    have ew := md_t h0 cp
    have w0 := Int.emod_nonneg h.toInt (show (cyD D).toInt ≠ 0 by omega)
    have w1 := Int.emod_lt_of_pos h.toInt cp
    obtain ⟨k1, k2⟩ := tu_k hD hs.2.2.2.1 r 0 12 (h - h / cyD D * cyD D) (by omega) hr (by omega) (by omega)
    exact ⟨⟨⟨r, hr, e2⟩, fun _ => ⟨q2, k1⟩⟩, k2⟩
