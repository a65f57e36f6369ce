/-! ===== a State shows a row ===== -/
def RSs (M : Mm) (b : Nat) (D : Nat → Int32) (n f r w : Nat) : Prop :=
  (gI M (b + 1) 8 = nI n ∧ gI M (b + 10) 11 = nI f ∧ gI M (b + 22) 2 = nI r ∧ gI M (b + 25) 1 = nI w) ∧
  (∀ i, i < n → gI M (b + 2) i = D (13 + 13 * i) ∧ gI M (b + 3) i = D (13 + 13 * i + 1) ∧ gI M (b + 4) i = D (13 + 13 * i + 2) ∧ gI M (b + 5) i = D (13 + 13 * i + 3) ∧ gI M (b + 6) i = D (13 + 13 * i + 4)) ∧
  (∀ i, i < f → gI M (b + 11) i = D (221 + 11 * i) ∧ gI M (b + 12) i = D (221 + 11 * i + 1) ∧ gI M (b + 13) i = D (221 + 11 * i + 2) ∧ gI M (b + 14) i = D (221 + 11 * i + 3) ∧ gI M (b + 15) i = D (221 + 11 * i + 4) ∧ gI M (b + 16) i = D (221 + 11 * i + 5) ∧ gI M (b + 17) i = D (221 + 11 * i + 6)) ∧
  (∀ i, i < r → gI M (b + 23) i = D (353 + 2 * i) ∧ gI M (b + 24) i = D (353 + 2 * i + 1)) ∧ gI M (b + 22) 3 = cyD D ∧
  ∀ i, i < w → gI M (b + 26) i = D (377 + i)
/-- what an hour writes, the guard's place and the hour aside -/
def RSd (M : Mm) (b : Nat) (D : Nat → Int32) (n f h : Nat) : Prop :=
  (∀ i, i < n → gI M (b + 7) i = D (13 + 13 * i + 5)) ∧
  (∀ i k, i < n → k < 7 → gI M (b + 9) (7 * i + (h + k) % 7) = D (13 + 13 * i + 6 + k)) ∧
  (∀ i, i < f → gI M (b + 18) i = D (221 + 11 * i + 7) ∧ gI M (b + 19) i = D (221 + 11 * i + 8) ∧ gI M (b + 20) i = D (221 + 11 * i + 9) ∧ gI M (b + 21) i = D (221 + 11 * i + 10)) ∧
  (∀ v, v < 6 → gI M (b + 31) v = D (387 + v)) ∧
  gJ M (b + 30) 1 = (D 8).toInt64 ∧ gJ M (b + 30) 2 = (D 9).toInt64 ∧ gJ M (b + 30) 3 = (D 10).toInt64 ∧ gJ M (b + 30) 4 = (D 11).toInt64
theorem mn_e (x y : Int32) : mnI x y = mnM x y := by
  unfold mnI mnM
  by_cases h : x < y
  · rw [if_pos h, if_neg (fun g => absurd (t_lt.mp g) (by have := t_lt.mp h; omega))]
  · rw [if_neg h]
    split
    · rfl
    · rename_i g
      apply Int32.toInt_inj.mp
      have a := t_rng x
      have h1 : ¬ x.toInt < y.toInt := fun z => h (t_lt.mpr z)
      have h2 : ¬ y.toInt < x.toInt := fun z => g (t_lt.mpr z)
      omega
theorem sl_n {i t : Nat} (hi : i < 16) (ht : t < 2 ^ 20) : slotv (nI i) (nI t) = nI (7 * i + t % 7) := by
  apply Int32.toInt_inj.mp
  have e1 : (nI t).toInt = t := t_nI (by omega)
  have e2 : (nI i).toInt = i := t_nI (by omega)
  have e7 : (7 : Int32).toInt = 7 := rfl
  have q1 : (nI t / 7).toInt = (t : Int) / 7 := by rw [t_div (by omega) (by decide), e1]; rfl
  have q2 : (nI t / 7 * 7).toInt = (t : Int) / 7 * 7 := by rw [t_mul (by rw [q1, e7]; omega) (by rw [q1, e7]; omega), q1, e7]
  have q3 : (nI t - nI t / 7 * 7).toInt = (t : Int) - (t : Int) / 7 * 7 := by rw [t_sub (by rw [q2, e1]; omega) (by rw [q2, e1]; omega), q2, e1]
  have q4 : (nI i * 7).toInt = (i : Int) * 7 := by rw [t_mul (by rw [e2, e7]; omega) (by rw [e2, e7]; omega), e2, e7]
  unfold slotv
  rw [t_add (by rw [q3, q4]; omega) (by rw [q3, q4]; omega), q3, q4, t_nI (by omega)]
  omega
theorem rs_en {M : Mm} {b : Nat} {D : Nat → Int32} {n f r w h c d : Nat} {a : Int32} (hs : RSs M b D n f r w) (hr : RSd M b D n f h) (h6 : gI M b 6 = nI h) (hh : h < 200000) (hc : c < n) (hn : n ≤ 16) (hd : D (13 + 13 * c + 1) = nI d) (hd6 : d ≤ 6) (hz : D (13 + 13 * c + 6 + d) = 0)
    (e9 : (D 9 + (a - enH D c a)).toInt64 = (D 9).toInt64 + (a - enH D c a).toInt64) (e10 : (D 10 + enT D c a).toInt64 = (D 10).toInt64 + (enT D c a).toInt64) : RSd (enM M b (nI c) a) b (enD D c a) n f h := by
  have cc : (nI c).toNatClampNeg = c := nI_clamp (by omega)
  obtain ⟨s0, s1, -⟩ := hs
  obtain ⟨p0, p1, p2, p3, p4⟩ := s1 c hc
  have nle : ¬ gI M (b + 1) 8 ≤ nI c := by
    rw [s0.1]
    exact fun z => absurd ((nI_leI (by omega) (by omega)).mp z) (by omega)
  have eA : enA M b (nI c) a = enH D c a := by unfold enA enH; rw [cc, p3, mn_e]
  have eL : enL M b (nI c) a = enT D c a := by unfold enL enT; rw [eA, cc, p2]
  have eS : enS M b (nI c) = 7 * c + (h + d) % 7 := by
    unfold enS
    rw [cc, p1, hd, h6, nI_add, sl_n (by omega) (by omega), nI_clamp (by omega)]
  have eM : enM M b (nI c) a = sI (enK M b (nI c) a) (b + 9) (upd (gI (enK M b (nI c) a) (b + 9)) (7 * c + (h + d) % 7) (enH D c a - enT D c a)) := by
    unfold enM
    rw [if_neg nle, eA, eL, eS]
    rfl
  have gO : ∀ j, j ≠ 9 → gI (enM M b (nI c) a) (b + j) = gI M (b + j) := fun j hj => by
    rw [eM, gI_f _ _ (by omega)]
    rfl
  have g9 : gI (enM M b (nI c) a) (b + 9) = upd (gI M (b + 9)) (7 * c + (h + d) % 7) (enH D c a - enT D c a) := by
    rw [eM, gI_s]
    rfl
  have gL : gJ (enM M b (nI c) a) (b + 30) = vp_updL (vp_updL (gJ M (b + 30)) 2 (gJ M (b + 30) 2 + (a - enH D c a).toInt64)) 3 (gJ M (b + 30) 3 + (enT D c a).toInt64) := by
    rw [eM]
    show gJ (enK M b (nI c) a) (b + 30) = _
    unfold enK
    rw [eA, eL]
    exact gJ_s _ _ _
  have o := fun j h9 h10 hj => en_o (D := D) (c := c) (d := d) a hd hd6 (j := j) h9 h10 hj
  obtain ⟨r1, r2, r3, r4, r5, r6, r7, r8⟩ := hr
  refine ⟨fun i hi => ?_, fun i k hi hk => ?_, fun i hi => ?_, fun v hv => ?_, ?_, ?_, ?_, ?_⟩
  · rw [gO 7 (by decide), o _ (by omega) (by omega) (by omega)]
    exact r1 i hi
  · rw [g9]
    by_cases e : i = c ∧ k = d
    · obtain ⟨rfl, rfl⟩ := e
      rw [upd_s, en_v a hd hd6, hz, Int32.zero_add]
    · rw [upd_n _ _ (by omega), o _ (by omega) (by omega) (by omega)]
      exact r2 i k hi hk
  · rw [gO 18 (by decide), gO 19 (by decide), gO 20 (by decide), gO 21 (by decide), o _ (by omega) (by omega) (by omega), o _ (by omega) (by omega) (by omega), o _ (by omega) (by omega) (by omega), o _ (by omega) (by omega) (by omega)]
    exact r3 i hi
  · rw [gO 31 (by decide), o _ (by omega) (by omega) (by omega)]
    exact r4 v hv
  · rw [gL, o _ (by omega) (by omega) (by omega)]
    exact r5
  · rw [gL]
    show gJ M (b + 30) 2 + (a - enH D c a).toInt64 = _
    unfold enD
    rw [hd, nI_clamp (by omega), upd_n _ _ (by omega), upd_n _ _ (by omega), upd_s, e9, r6]
  · rw [gL]
    show gJ M (b + 30) 3 + (enT D c a).toInt64 = _
    unfold enD
    rw [hd, nI_clamp (by omega), upd_n _ _ (by omega), upd_s, e10, r7]
  · rw [gL, o _ (by omega) (by omega) (by omega)]
    exact r8
