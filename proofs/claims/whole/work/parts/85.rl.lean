/-! ===== draining: a State and a row ===== -/
theorem dr_o {D : Nat → Int32} {n f r w g k : Nat} (hD : WD D n f r w g) (hk : k < f) {j : Nat} (h9 : j ≠ 9) (h11 : j ≠ 11) (hj : ∀ i, j ≠ 221 + 11 * i + 7) : drD D k j = D j := by
  have e2 : dr2 D k j = D j := by
    unfold dr2
    rw [upd_n _ _ h11, upd_n _ _ (hj k)]
  have e3 : dr3 D k j = D j := by
    unfold dr3
    rw [upd_n _ _ (hj k), e2]
  unfold drD
  split
  · exact e2
  · split
    · rw [upd_n _ _ h9, e3]
    · rw [upd_n _ _ (hj _), e3]
theorem mx_0 (x : Int32) : mxI 0 x = if 0 < x then x else 0 := rfl
theorem un_z (u : Nat → Int32) (k : Nat) : upd u k (u k - 0) = u := by
  funext i
  by_cases e : i = k
  · subst e
    rw [upd_s, Int32.sub_zero]
  · rw [upd_n _ _ e]
theorem un_a (u : Nat → Int32) (k : Nat) : upd u k (u k + 0) = u := by
  funext i
  by_cases e : i = k
  · subst e
    rw [upd_s, Int32.add_zero]
  · rw [upd_n _ _ e]
theorem sp_2 (b k : Nat) (M : Mm) : (∀ j, j ≠ 18 → gI (sp2 b k M) (b + j) = gI M (b + j)) ∧ gI (sp2 b k M) (b + 18) = upd (gI M (b + 18)) k (gI M (b + 18) k - spM M (b + 10) k) ∧ gJ (sp2 b k M) (b + 30) = vp_updL (gJ M (b + 30)) 4 (gJ M (b + 30) 4 + (spM M (b + 10) k).toInt64) :=
  ⟨fun j hj => gI_f M _ (by omega), gI_s M _ _, gJ_s _ _ _⟩
theorem ov_2 (b k : Nat) (N : Mm) : (∀ j, j ≠ 18 → gI (ov2 b k N) (b + j) = gI N (b + j)) ∧ gI (ov2 b k N) (b + 18) = (if blw N (b + 10) (nI k) then ovW N (b + 10) k else upd (ovW N (b + 10) k) (gI N (b + 17) k).toNatClampNeg (ovW N (b + 10) k (gI N (b + 17) k).toNatClampNeg + exM N (b + 10) k)) ∧ gJ (ov2 b k N) (b + 30) = vp_updL (gJ N (b + 30)) 2 (gJ N (b + 30) 2 + (ovV b k N).toInt64) :=
  ⟨fun j hj => gI_f N _ (by omega), gI_s N _ _, gJ_s _ _ _⟩
theorem i64_0 (x : Int64) : x + (0 : Int32).toInt64 = x := by
  rw [show (0 : Int32).toInt64 = 0 from rfl, Int64.add_zero]
theorem dr_m {M : Mm} {b : Nat} {D0 D L : Nat → Int32} {n f r w g h k : Nat} {Z : Nat → Prop} (hD : WD D0 n f r w g) (hB : NB D0 n f) (hM : RM M b D0 D L n f r w h 0 Z) (hk : k < f) : RM (phC b k M) b D0 (drD D k) L n f r w h 0 Z := by
  obtain ⟨m1, m2, m3, m4, m5, m6, m7⟩ := hM
  have hn : n ≤ 16 := hD.1.1
  have hf : f ≤ 12 := hD.1.2.1
  have hD2 := hD.sd m1
  have hB2 := (hB.sd hn hf m1).2 k hk
  have ho := (hD2.2.2.2.2.1 k hk).2.2
  obtain ⟨w1, w11, w9⟩ := dr_w (k := k) (by omega) m6 hB2.2.2.1.1 hB2.2.2.2.1 ho
  have s1 := sd_dr hD2 hk
  obtain ⟨r1, r2, r3, r4, r5, r6, r7, r8⟩ := m3
  obtain ⟨f0, f1, f2, f3, f4, f5, f6⟩ := m2.2.2.1 k hk
  obtain ⟨f7, -, -, -⟩ := r3 k hk
  obtain ⟨p1, p2, p3⟩ := sp_2 b k M
  have eS : spM M (b + 10) k = drS D k := by
    show mnI (gI M (b + 16) k) (gI M (b + 18) k) = _
    rw [f5, f7, mn_e]
    rfl
  rw [eS] at p2 p3
  rw [f7] at p2
  obtain ⟨q1, q2, q3⟩ := ov_2 b k (sp2 b k M)
  have g18 : gI (sp2 b k M) (b + 18) k = D (221 + 11 * k + 7) - drS D k := by rw [p2, upd_s]
  have g17 : gI (sp2 b k M) (b + 17) k = D (221 + 11 * k + 6) := by rw [p1 17 (by decide)]; exact f6
  have eX : exM (sp2 b k M) (b + 10) k = if 0 < drA D k then drA D k else 0 := by
    show mxI 0 (gI (sp2 b k M) (b + 18) k - gI (sp2 b k M) (b + 15) k) = _
    rw [g18, p1 15 (by decide), f4, mx_0]
    rfl
  have eW : ovW (sp2 b k M) (b + 10) k = upd (gI (sp2 b k M) (b + 18)) k (gI (sp2 b k M) (b + 18) k - if 0 < drA D k then drA D k else 0) := by
    show upd (gI (sp2 b k M) (b + 18)) k (gI (sp2 b k M) (b + 18) k - exM (sp2 b k M) (b + 10) k) = _
    rw [eX]
  have eP : phC b k M = ov2 b k (sp2 b k M) := rfl
  rw [eX, eW, g17] at q2
  have ss : SS M (phC b k M) b := ss_pC k M (SS.r M b)
  have gO : ∀ j, j ≠ 18 → gI (phC b k M) (b + j) = gI M (b + j) := fun j hj => (q1 j hj).trans (p1 j hj)
  have oD := fun j h9 h11 hj => dr_o (j := j) hD2 hk h9 h11 hj
  have bl : blw (sp2 b k M) (b + 10) (nI k) ↔ D (221 + 11 * k + 6) = -1 := by
    show (gI (sp2 b k M) (b + 17) (nI k).toNatClampNeg < 0 ∨ nI k ≤ gI (sp2 b k M) (b + 17) (nI k).toNatClampNeg) ↔ _
    rw [nI_clamp (show k < 2 ^ 31 by omega), g17]
    rcases ho with e | ⟨j, hj, e⟩
    · rw [e]
      exact ⟨fun _ => rfl, fun _ => Or.inl (by decide)⟩
    · rw [e]
      refine ⟨fun y => ?_, fun y => ?_⟩
      · rcases y with y | y
        · exact absurd y (nI_pos (by omega))
        · have := (nI_leI (by omega) (by omega)).mp y
          omega
      · exfalso
        have h1 : (nI j).toInt = -1 := by rw [y]; rfl
        rw [t_nI (by omega)] at h1
        omega
  have eV : ovV b k (sp2 b k M) = if D (221 + 11 * k + 6) = -1 then (if 0 < drA D k then drA D k else 0) else 0 := by
    unfold ovV
    by_cases p : D (221 + 11 * k + 6) = -1
    · rw [if_pos (bl.mpr p), if_pos p, eX]
    · rw [if_neg (fun y => p (bl.mp y)), if_neg p]
  have wrow : ∀ i, i < f → gI (phC b k M) (b + 18) i = drD D k (221 + 11 * i + 7) := by
    intro i hi
    obtain ⟨i7, -, -, -⟩ := r3 i hi
    rw [eP, q2]
    have d2 : ∀ i, i < f → upd (gI M (b + 18)) k (D (221 + 11 * k + 7) - drS D k) i = dr2 D k (221 + 11 * i + 7) := by
      intro i hi
      unfold dr2
      rw [upd_n (upd D _ _) _ (show 221 + 11 * i + 7 ≠ 11 by omega)]
      by_cases e : i = k
      · subst e
        rw [upd_s, upd_s]
      · rw [upd_n _ _ e, upd_n D _ (show 221 + 11 * i + 7 ≠ 221 + 11 * k + 7 by omega)]
        exact (r3 i hi).1
    by_cases hp : 0 < drA D k
    · rw [if_pos hp]
      have d3 : ∀ i, i < f → upd (gI (sp2 b k M) (b + 18)) k (gI (sp2 b k M) (b + 18) k - drA D k) i = dr3 D k (221 + 11 * i + 7) := by
        intro i hi
        rw [g18, p2]
        unfold dr3
        by_cases e : i = k
        · subst e
          rw [upd_s, upd_s]
        · rw [upd_n _ _ e, upd_n (dr2 D k) _ (show 221 + 11 * i + 7 ≠ 221 + 11 * k + 7 by omega)]
          exact d2 i hi
      unfold drD
      rw [if_neg (show ¬ ¬ 0 < drA D k from fun z => z hp)]
      rcases ho with e | ⟨j, hj, e⟩
      · rw [if_pos (bl.mpr e), e, if_pos (show (-1 : Int32) < 0 by decide), upd_n (dr3 D k) _ (show 221 + 11 * i + 7 ≠ 9 by omega)]
        exact d3 i hi
      · have ne : ¬ D (221 + 11 * k + 6) = -1 := fun y => by
          have h1 : (nI j).toInt = -1 := by rw [← e, y]; rfl
          rw [t_nI (by omega)] at h1
          omega
        rw [if_neg (fun y => ne (bl.mp y)), e, nI_clamp (show j < 2 ^ 31 by omega), if_neg (nI_pos (by omega))]
        by_cases ij : i = j
        · subst ij
          rw [upd_s, upd_s, d3 i hi]
        · rw [upd_n _ _ ij, upd_n (dr3 D k) _ (show 221 + 11 * i + 7 ≠ 221 + 11 * j + 7 by omega)]
          exact d3 i hi
    · rw [if_neg hp, un_z]
      unfold drD
      rw [if_pos hp, un_a]
      rw [p2]
      split
      · exact d2 i hi
      · exact d2 i hi
  have hw : drD D k 9 = D 9 + ovV b k (sp2 b k M) ∧ drD D k 11 = D 11 + drS D k := by
    have a9 : dr2 D k 9 = D 9 := by unfold dr2; rw [upd_n _ _ (by omega), upd_n _ _ (by omega)]
    have a11 : dr2 D k 11 = D 11 + drS D k := by unfold dr2; rw [upd_s]
    have c9 : dr3 D k 9 = D 9 := by unfold dr3; rw [upd_n _ _ (by omega), a9]
    have c11 : dr3 D k 11 = D 11 + drS D k := by unfold dr3; rw [upd_n _ _ (by omega), a11]
    rw [eV]
    unfold drD
    by_cases hp : 0 < drA D k
    · rw [if_neg (fun z => z hp), if_pos hp]
      rcases ho with e | ⟨j, hj, e⟩
      · rw [e, if_pos (show (-1 : Int32) < 0 by decide), if_pos rfl, upd_s, upd_n _ _ (by omega)]
        exact ⟨rfl, c11⟩
      · have ne : ¬ D (221 + 11 * k + 6) = -1 := fun y => by
          have h1 : (nI j).toInt = -1 := by rw [← e, y]; rfl
          rw [t_nI (by omega)] at h1
          omega
        rw [if_neg ne, e, if_neg (nI_pos (by omega)), upd_n _ _ (by omega), upd_n _ _ (by omega), Int32.add_zero]
        exact ⟨c9, c11⟩
    · rw [if_pos hp, if_neg hp]
      refine ⟨?_, a11⟩
      rw [a9]
      split <;> rw [Int32.add_zero]
  have h64 : (drD D k 9).toInt64 = (D 9).toInt64 + (ovV b k (sp2 b k M)).toInt64 := by
    rw [hw.1, eV]
    by_cases hp : 0 < drA D k
    · rw [if_pos hp]
      split
      · exact w9 hp
      · rw [Int32.add_zero, i64_0]
    · rw [if_neg hp]
      split <;> rw [Int32.add_zero, i64_0]
  refine ⟨m1.t s1, (m2.ss ss).sd hn hD.1.2.1 hD.1.2.2.1 hD.1.2.2.2.1 hD2.2.1.2.2.1 s1, ⟨fun i hi => ?_, fun i j hi hj => ?_, fun i hi => ?_, fun v hv => ?_, ?_, ?_, ?_, ?_⟩, fun j hj => by rw [gO 8 (by decide)]; exact m4 j hj, by rw [show gI (phC b k M) b = gI M b from gO 0 (by decide)]; exact m5, w1, m7.e (fun j hj => ⟨oD _ (by omega) (by omega) (fun i => by omega), fun i hi => oD _ (by omega) (by omega) (fun i => by omega)⟩)⟩
  · rw [gO 7 (by decide), oD _ (by omega) (by omega) (fun i => by omega)]
    exact r1 i hi
  · rw [gO 9 (by decide), oD _ (by omega) (by omega) (fun i => by omega)]
    exact r2 i j hi hj
  · obtain ⟨-, i8, i9, i10⟩ := r3 i hi
    rw [gO 19 (by decide), gO 20 (by decide), gO 21 (by decide), oD (221 + 11 * i + 8) (by omega) (by omega) (fun i => by omega), oD (221 + 11 * i + 9) (by omega) (by omega) (fun i => by omega), oD (221 + 11 * i + 10) (by omega) (by omega) (fun i => by omega)]
    exact ⟨wrow i hi, i8, i9, i10⟩
  · rw [gO 31 (by decide), oD _ (by omega) (by omega) (fun i => by omega)]
    exact r4 v hv
  · rw [eP, q3, p3, oD _ (by omega) (by omega) (fun i => by omega)]
    exact r5
  · rw [eP, q3, p3, h64, ← r6]
    rfl
  · rw [eP, q3, p3, oD _ (by omega) (by omega) (fun i => by omega)]
    exact r7
  · rw [eP, q3, p3, hw.2, w11, ← r8]
    rfl
theorem dr_l {b : Nat} {D0 L : Nat → Int32} {n f r w g h : Nat} {Z : Nat → Prop} (hD : WD D0 n f r w g) (hB : NB D0 n f) : ∀ k (M : Mm) D, k ≤ f → RM M b D0 D L n f r w h 0 Z → RM (phD b k M) b D0 (drL k D) L n f r w h 0 Z
  | 0, _, _, _, hM => hM
  | k + 1, _, _, hk, hM => dr_l hD hB k _ _ (by omega) (dr_m hD hB hM (by omega))
