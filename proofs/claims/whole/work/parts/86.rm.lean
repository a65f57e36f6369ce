/-! ===== the guard: a State and a row ===== -/
def PAr (u : (Nat → Int32) × (Nat → Int32)) (E D : Nat → Int32) (f : Nat) : Prop :=
  (∀ i, i < f → u.1 i = E (221 + 11 * i + 10)) ∧ (∀ v, v < 6 → u.2 v = E (387 + v)) ∧ ∀ j, (∀ i, i < f → j ≠ 221 + 11 * i + 10) → (∀ v, v < 6 → j ≠ 387 + v) → E j = D j
theorem gu_e {D E : Nat → Int32} {n f r w g : Nat} (hD : WD D n f r w g) (h3 : E 3 = D 3) (h4 : E 4 = D 4) (h : ∀ i, i < 10 → E (377 + i) = D (377 + i)) : guD E = guD D := by
  have hg : g ≤ 9 := hD.1.2.2.2.2
  unfold guD
  rw [h3, h4, hD.2.1.2.2.2.2, nI_clamp (show g < 2 ^ 31 by omega), h g (by omega)]
theorem cg_s {N : Mm} {b : Nat} {D : Nat → Int32} {n f r w g : Nat} (hD : WD D n f r w g) (hs : ∀ i, i < f → gI N (b + 11) i = D (221 + 11 * i) ∧ gI N (b + 12) i = D (221 + 11 * i + 1)) {k : Nat} (hk : k < f) {u : (Nat → Int32) × (Nat → Int32)} {E : Nat → Int32} (h : PAr u E D f) : PAr (cgA N b (guD D) k u) (paA k E) D f := by
  obtain ⟨h1, h2, h3⟩ := h
  have hf : f ≤ 12 := hD.1.2.1
  obtain ⟨g1, g2⟩ := hs k hk
  have e0 : E (221 + 11 * k) = D (221 + 11 * k) := h3 _ (fun i hi => by omega) (fun v hv => by omega)
  have e1 : E (221 + 11 * k + 1) = D (221 + 11 * k + 1) := h3 _ (fun i hi => by omega) (fun v hv => by omega)
  have eg : guD E = guD D := gu_e hD (h3 _ (fun i hi => by omega) (fun v hv => by omega)) (h3 _ (fun i hi => by omega) (fun v hv => by omega)) (fun i hi => h3 _ (fun i hi => by omega) (fun v hv => by omega))
  obtain ⟨v, hv, ev⟩ := (hD.2.2.2.2.1 k hk).2.1
  unfold cgA paA
  rw [g1, g2, e0, e1, eg, h1 k hk, ev, nI_clamp (show v < 2 ^ 31 by omega)]
  by_cases p : D (221 + 11 * k) = guD D ∧ ¬ E (221 + 11 * k + 10) = 0
  · rw [if_pos p, if_pos p, if_pos (show ¬ nI v < 0 ∧ nI v < 6 from ⟨nI_pos (by omega), (nI_ltI (a := v) (b := 6) (by omega) (by decide)).mpr hv⟩)]
    refine ⟨fun i hi => ?_, fun x hx => ?_, fun j hj1 hj2 => ?_⟩
    · dsimp only
      rw [upd_n (upd E _ _) _ (show 221 + 11 * i + 10 ≠ 387 + v by omega)]
      by_cases e : i = k
      · subst e
        rw [upd_s, upd_s]
      · rw [upd_n _ _ e, upd_n E _ (show 221 + 11 * i + 10 ≠ 221 + 11 * k + 10 by omega)]
        exact h1 i hi
    · dsimp only
      rw [upd_n E _ (show 387 + v ≠ 221 + 11 * k + 10 by omega)]
      by_cases e : x = v
      · subst e
        rw [upd_s, upd_s, h2 x hx]
      · rw [upd_n _ _ e, upd_n _ _ (by omega), upd_n _ _ (by omega)]
        exact h2 x hx
    · rw [upd_n _ _ (hj2 v hv), upd_n _ _ (hj1 k hk)]
      exact h3 j hj1 hj2
  · rw [if_neg p, if_neg p]
    exact ⟨h1, h2, h3⟩
theorem cg_l {N : Mm} {b : Nat} {D : Nat → Int32} {n f r w g : Nat} (hD : WD D n f r w g) (hs : ∀ i, i < f → gI N (b + 11) i = D (221 + 11 * i) ∧ gI N (b + 12) i = D (221 + 11 * i + 1)) : ∀ q k u E, k + q = f → PAr u E D f → PAr (itr (cgA N b (guD D)) q k u) (itr paA q k E) D f
  | 0, _, _, _, _, h => h
  | q + 1, k, u, E, hk, h => cg_l hD hs q (k + 1) _ _ (by omega) (cg_s hD hs (by omega) h)
theorem cg_n {N : Mm} {b : Nat} {x : Int32} : ∀ q k (u : (Nat → Int32) × (Nat → Int32)), (∀ i, k ≤ i → i < k + q → ¬ gI N (b + 11) i = x) → itr (cgA N b x) q k u = u
  | 0, _, _, _ => rfl
  | q + 1, k, u, h => by
    have e : cgA N b x k u = u := if_neg (fun y => h k (Nat.le_refl _) (by omega) y.1)
    show itr (cgA N b x) q (k + 1) (cgA N b x k u) = u
    rw [e]
    exact cg_n q (k + 1) u (fun i a1 a2 => h i (by omega) (by omega))
theorem pa_f1 {D : Nat → Int32} {f : Nat} (hf : f ≤ 12) {E : Nat → Int32} (hv : ∀ i, i < f → (E (221 + 11 * i + 1)).toNatClampNeg < 6) (h : FO1 E f) (k : Nat) (hk : k < f) : FO1 (paA k E) f := by
  intro i hi
  unfold paA
  have h1 := hv k hk
  split
  · rw [upd_n _ _ (by omega)]
    by_cases e : i = k
    · subst e
      rw [upd_s]
      exact Or.inl rfl
    · rw [upd_n _ _ (by omega)]
      exact h i hi
  · exact h i hi
theorem nI_sI {w : Nat} (h : w < 2 ^ 31) : nI w = 0 ↔ w = 0 := ⟨fun e => (nI_eq h (by decide)).mp e, fun e => by rw [e]; rfl⟩
/-- where the guard goes -/
theorem wk_m {M : Mm} {b : Nat} {D : Nat → Int32} {n f r w g : Nat} (hD : WD D n f r w g) (hs : RSs M b D n f r w) (h2 : gI M (b + 25) 2 = nI g) (h0 : w = 0 → g = 0) :
    ∃ g', WD (if D 3 = 0 then D else paG D) n f r w g' ∧ (w = 0 → g' = 0) ∧ gI (wkM M (b + 25)) (b + 25) 2 = nI g' ∧ plM (wkM M (b + 25)) (b + 25) = guD (if D 3 = 0 then D else paG D) ∧ (∀ j, j ≠ 25 → gI (wkM M (b + 25)) (b + j) = gI M (b + j)) ∧ (∀ k, k ≠ 2 → gI (wkM M (b + 25)) (b + 25) k = gI M (b + 25) k) ∧ gJ (wkM M (b + 25)) = gJ M := by
  have hw : w ≤ 10 := hD.1.2.2.2.1
  have hg : g ≤ 9 := hD.1.2.2.2.2
  have e3 : D 3 = nI w := hD.2.1.2.2.2.1
  have e1 : gI M (b + 25) 1 = nI w := hs.1.2.2.2
  have gW : gI (wkM M (b + 25)) (b + 25) = upd (gI M (b + 25)) 2 (if nI g + 1 < nI w then nI g + 1 else 0) := by
    unfold wkM
    rw [gI_s, h2, e1]
  have n1 : nI g + 1 = nI (g + 1) := nI_add g 1
  have gO : ∀ j, j ≠ 25 → gI (wkM M (b + 25)) (b + j) = gI M (b + j) := fun j hj => gI_f _ _ (by omega)
  have gk : ∀ k, k ≠ 2 → gI (wkM M (b + 25)) (b + 25) k = gI M (b + 25) k := fun k hk => by rw [gW, upd_n _ _ hk]
  have c1 : gI (wkM M (b + 25)) (b + 25) 1 = nI w := by rw [gk 1 (by decide)]; exact e1
  rcases Nat.eq_zero_or_pos w with z | z
  · subst z
    have g0 : g = 0 := h0 rfl
    subst g0
    have q : D 3 = 0 := e3
    rw [if_pos q]
    have p2 : gI (wkM M (b + 25)) (b + 25) 2 = nI 0 := by
      rw [gW, upd_s, if_neg (by decide)]
      rfl
    refine ⟨0, hD, fun _ => rfl, p2, ?_, gO, gk, rfl⟩
    unfold plM guD
    rw [p2, c1, if_neg (by decide), if_pos q]
  · have q : ¬ D 3 = 0 := fun e => by
      have := (nI_sI (show w < 2 ^ 31 by omega)).mp (e3.symm.trans e)
      omega
    rw [if_neg q]
    have hW := pa_wd hD q
    have gw : g < w := hD.2.2.1.resolve_left (by omega)
    have p2 : gI (wkM M (b + 25)) (b + 25) 2 = nI ((g + 1) % w) := by
      rw [gW, upd_s, n1]
      rcases Nat.lt_or_ge (g + 1) w with y | y
      · rw [if_pos ((nI_ltI (by omega) (by omega)).mpr y), Nat.mod_eq_of_lt y]
      · have : g + 1 = w := by omega
        rw [if_neg (fun u => by have := (nI_ltI (by omega) (by omega)).mp u; omega), this, Nat.mod_self]
        rfl
    have lt := Nat.mod_lt (g + 1) z
    refine ⟨(g + 1) % w, hW, fun e => by omega, p2, ?_, gO, gk, rfl⟩
    unfold plM guD
    have eg : paG D 4 = nI ((g + 1) % w) := hW.2.1.2.2.2.2
    have e3' : paG D 3 = nI w := hW.2.1.2.2.2.1
    have ep : paG D (377 + (g + 1) % w) = D (377 + (g + 1) % w) := by
      unfold paG
      exact upd_n _ _ (by omega)
    rw [p2, c1, if_pos ((nI_ltI (by omega) (by omega)).mpr lt), eg, nI_clamp (show (g + 1) % w < 2 ^ 31 by omega), if_neg (fun e => q (by rw [← e]; rfl)), ep]
    rw [show b + 25 + 1 = b + 26 from rfl, gO 26 (by decide)]
    exact hs.2.2.2.2.2 _ lt
/-- the guard's step -/
theorem pa_m {M : Mm} {b : Nat} {D : Nat → Int32} {n f r w g h : Nat} {L : Nat → Int32} {Z : Nat → Prop} (hD : WD D n f r w g) (hM : RM M b D D L n f r w h 0 Z) (hF : FO1 D f) (h2 : gI M (b + 25) 2 = nI g) (h0 : w = 0 → g = 0) :
    ∃ g' N, N = w2 (wkM M (b + 25)) b (cgR (wkM M (b + 25)) b (plM (wkM M (b + 25)) (b + 25))).1 (cgR (wkM M (b + 25)) b (plM (wkM M (b + 25)) (b + 25))).2 ∧
      WD (paD D) n f r w g' ∧ (w = 0 → g' = 0) ∧ gI N (b + 25) 2 = nI g' ∧ RSs N b (paD D) n f r w ∧ RSd N b (paD D) n f h ∧ FO1 (paD D) f ∧ gI N b 6 = nI h ∧ WL (paD D) 0 ∧ PI (paD D) n Z ∧ ∀ j, j ≠ 4 → (∀ i, i < f → j ≠ 221 + 11 * i + 10) → (∀ v, v < 6 → j ≠ 387 + v) → paD D j = D j := by
  obtain ⟨m1, m2, m3, m4, m5, m6, m7⟩ := hM
  have hn : n ≤ 16 := hD.1.1
  have hf : f ≤ 12 := hD.1.2.1
  have hr : r ≤ 12 := hD.1.2.2.1
  obtain ⟨g', hW, w0, p2, pl, gO, gk, gJe⟩ := wk_m hD m2 h2 h0
  obtain ⟨r1, r2, r3, r4, r5, r6, r7, r8⟩ := m3
  generalize wkM M (b + 25) = K at p2 pl gO gk gJe
  have pa : PAr (cgR K b (plM K (b + 25))) (paD D) (if D 3 = 0 then D else paG D) f ∧ FO1 (paD D) f := by
    have i0 : ∀ E : Nat → Int32, (∀ j, j ≠ 4 → E j = D j) → PAr (gI K (b + 21), gI K (b + 31)) E E f := by
      intro E hE
      refine ⟨fun i hi => ?_, fun v hv => ?_, fun _ _ _ => rfl⟩
      · show gI K (b + 21) i = _
        rw [gO 21 (by decide), hE _ (by omega)]
        exact (r3 i hi).2.2.2
      · show gI K (b + 31) v = _
        rw [gO 31 (by decide), hE _ (by omega)]
        exact r4 v hv
    unfold cgR paD
    rw [pl, gO 10 (by decide), show gI M (b + 10) 11 = nI f from m2.1.2.1, hD.2.1.2.1, nI_clamp (show f < 2 ^ 31 by omega)]
    by_cases q : D 3 = 0
    · rw [if_pos q, if_pos q, cg_n f 0 _ (fun i _ hi => ?_)]
      · exact ⟨i0 D (fun _ _ => rfl), hF⟩
      · obtain ⟨c, hc, ec⟩ := (hD.2.2.2.2.1 i (by omega)).1
        rw [gO 11 (by decide), (m2.2.2.1 i (by omega)).1, ec]
        unfold guD
        rw [if_pos q]
        intro y
        have h1 : (nI c).toInt = -1 := by rw [y]; rfl
        rw [t_nI (by omega)] at h1
        omega
    · rw [if_neg q] at hW
      rw [if_neg q, if_neg q]
      have gE : ∀ j, j ≠ 4 → paG D j = D j := fun j hj => upd_n _ _ hj
      refine ⟨cg_l hW (fun i hi => ?_) f 0 _ _ (by omega) (i0 (paG D) gE), ?_⟩
      · rw [gO 11 (by decide), gO 12 (by decide), gE _ (by omega), gE _ (by omega)]
        exact ⟨(m2.2.2.1 i hi).1, (m2.2.2.1 i hi).2.1⟩
      · have key : ∀ q k E, k + q = f → SD (paG D) E → FO1 E f → FO1 (itr paA q k E) f := by
          intro q
          induction q with
          | zero => exact fun _ _ _ _ h => h
          | succ q ih =>
            intro k E hk hE h
            refine ih (k + 1) _ (by omega) (sd_paA hW (show k < f by omega) hE) (pa_f1 (D := D) hf (fun i hi => ?_) h k (by omega))
            obtain ⟨v, hv, ev⟩ := ((hW.sd hE).2.2.2.2.1 i hi).2.1
            rw [ev, nI_clamp (by omega)]
            exact hv
        refine key f 0 _ (by omega) (SD.r _) (fun i hi => ?_)
        rw [gE _ (by omega)]
        exact hF i hi
  obtain ⟨⟨a1, a2, a3⟩, a4⟩ := pa
  have dE : ∀ j, j ≠ 4 → (∀ i, i < f → j ≠ 221 + 11 * i + 10) → (∀ v, v < 6 → j ≠ 387 + v) → paD D j = D j := by
    intro j h4 hj1 hj2
    rw [a3 j hj1 hj2]
    split
    · rfl
    · exact upd_n _ _ h4
  have sW : SD (if D 3 = 0 then D else paG D) (paD D) := by
    intro j hj
    refine a3 j (fun i hi e => ?_) (fun v hv e => ?_)
    · unfold stI at hj
      omega
    · unfold stI at hj
      omega
  generalize cgR K b (plM K (b + 25)) = u at a1 a2
  have hN : ∀ j, j ≠ 21 → j ≠ 31 → gI (w2 K b u.1 u.2) (b + j) = gI K (b + j) := fun j h1 h2 => by rw [gI_w2, if_neg h2, if_neg h1]
  have hN21 : gI (w2 K b u.1 u.2) (b + 21) = u.1 := by rw [gI_w2, if_neg (by decide), if_pos rfl]
  have hN31 : gI (w2 K b u.1 u.2) (b + 31) = u.2 := by rw [gI_w2, if_pos rfl]
  have gN : ∀ j, j ≠ 21 → j ≠ 31 → j ≠ 25 → gI (w2 K b u.1 u.2) (b + j) = gI M (b + j) := fun j h1 h2 h3 => (hN j h1 h2).trans (gO j h3)
  have gN25 : ∀ k, k ≠ 2 → gI (w2 K b u.1 u.2) (b + 25) k = gI M (b + 25) k := fun k hk => by rw [hN 25 (by decide) (by decide)]; exact gk k hk
  have gJN : gJ (w2 K b u.1 u.2) = gJ M := gJe
  have cyE : cyD (paD D) = cyD D := by
    unfold cyD
    rw [dE 2 (by omega) (fun i hi => by omega) (fun v hv => by omega), hD.2.1.2.2.1, nI_clamp (show r < 2 ^ 31 by omega), it_s, it_s]
    congr 1
    exact iS_e _ _ (fun i x1 x2 => dE _ (by omega) (fun i hi => by omega) (fun v hv => by omega))
  obtain ⟨⟨c1, c2, c3, c4⟩, s1, s2, s3, s4, s5⟩ := m2
  refine ⟨g', w2 K b u.1 u.2, rfl, hW.sd sW, w0, by rw [hN 25 (by decide) (by decide)]; exact p2, ⟨⟨?_, ?_, ?_, ?_⟩, fun i hi => ?_, fun i hi => ?_, fun i hi => ?_, ?_, fun i hi => ?_⟩, ⟨fun i hi => ?_, fun i k hi hk => ?_, fun i hi => ?_, fun v hv => ?_, ?_, ?_, ?_, ?_⟩, a4, ?_, ?_, m7.e (fun k hk => ⟨dE _ (by omega) (fun i hi => by omega) (fun v hv => by omega), fun i hi => dE _ (by omega) (fun i hi => by omega) (fun v hv => by omega)⟩), dE⟩
  · rw [gN 1 (by decide) (by decide) (by decide)]; exact c1
  · rw [gN 10 (by decide) (by decide) (by decide)]; exact c2
  · rw [gN 22 (by decide) (by decide) (by decide)]; exact c3
  · rw [gN25 1 (by decide)]; exact c4
  · rw [gN 2 (by decide) (by decide) (by decide), gN 3 (by decide) (by decide) (by decide), gN 4 (by decide) (by decide) (by decide), gN 5 (by decide) (by decide) (by decide), gN 6 (by decide) (by decide) (by decide), dE _ (by omega) (fun i hi => by omega) (fun v hv => by omega), dE _ (by omega) (fun i hi => by omega) (fun v hv => by omega), dE _ (by omega) (fun i hi => by omega) (fun v hv => by omega), dE _ (by omega) (fun i hi => by omega) (fun v hv => by omega), dE _ (by omega) (fun i hi => by omega) (fun v hv => by omega)]
    exact s1 i hi
  · rw [gN 11 (by decide) (by decide) (by decide), gN 12 (by decide) (by decide) (by decide), gN 13 (by decide) (by decide) (by decide), gN 14 (by decide) (by decide) (by decide), gN 15 (by decide) (by decide) (by decide), gN 16 (by decide) (by decide) (by decide), gN 17 (by decide) (by decide) (by decide), dE _ (by omega) (fun i hi => by omega) (fun v hv => by omega), dE _ (by omega) (fun i hi => by omega) (fun v hv => by omega), dE _ (by omega) (fun i hi => by omega) (fun v hv => by omega), dE _ (by omega) (fun i hi => by omega) (fun v hv => by omega), dE _ (by omega) (fun i hi => by omega) (fun v hv => by omega), dE _ (by omega) (fun i hi => by omega) (fun v hv => by omega), dE _ (by omega) (fun i hi => by omega) (fun v hv => by omega)]
    exact s2 i hi
  · rw [gN 23 (by decide) (by decide) (by decide), gN 24 (by decide) (by decide) (by decide), dE _ (by omega) (fun i hi => by omega) (fun v hv => by omega), dE _ (by omega) (fun i hi => by omega) (fun v hv => by omega)]
    exact s3 i hi
  · rw [gN 22 (by decide) (by decide) (by decide), cyE]
    exact s4
  · have hw : w ≤ 10 := hD.1.2.2.2.1
    rw [gN 26 (by decide) (by decide) (by decide), dE _ (by omega) (fun i hi => by omega) (fun v hv => by omega)]
    exact s5 i hi
  · rw [gN 7 (by decide) (by decide) (by decide), dE _ (by omega) (fun i hi => by omega) (fun v hv => by omega)]
    exact r1 i hi
  · rw [gN 9 (by decide) (by decide) (by decide), dE _ (by omega) (fun i hi => by omega) (fun v hv => by omega)]
    exact r2 i k hi hk
  · rw [gN 18 (by decide) (by decide) (by decide), gN 19 (by decide) (by decide) (by decide), gN 20 (by decide) (by decide) (by decide), hN21, dE (221 + 11 * i + 7) (by omega) (fun i hi => by omega) (fun v hv => by omega), dE (221 + 11 * i + 8) (by omega) (fun i hi => by omega) (fun v hv => by omega), dE (221 + 11 * i + 9) (by omega) (fun i hi => by omega) (fun v hv => by omega)]
    obtain ⟨x1, x2, x3, -⟩ := r3 i hi
    exact ⟨x1, x2, x3, a1 i hi⟩
  · rw [hN31]
    exact a2 v hv
  · rw [gJN, dE _ (by omega) (fun i hi => by omega) (fun v hv => by omega)]; exact r5
  · rw [gJN, dE _ (by omega) (fun i hi => by omega) (fun v hv => by omega)]; exact r6
  · rw [gJN, dE _ (by omega) (fun i hi => by omega) (fun v hv => by omega)]; exact r7
  · rw [gJN, dE _ (by omega) (fun i hi => by omega) (fun v hv => by omega)]; exact r8
  · rw [show gI (w2 K b u.1 u.2) b = gI M b from gN 0 (by decide) (by decide) (by decide)]; exact m5
  · have eP : ∀ j ∈ PL, paD D j = D j := by
      intro j hj
      rcases PL_n hj with e | e | e | ⟨c, k, hc, hk, e⟩ | ⟨x, hx, e⟩
      · exact dE _ (by omega) (fun i hi => by omega) (fun v hv => by omega)
      · exact dE _ (by omega) (fun i hi => by omega) (fun v hv => by omega)
      · exact dE _ (by omega) (fun i hi => by omega) (fun v hv => by omega)
      · exact dE _ (by omega) (fun i hi => by omega) (fun v hv => by omega)
      · exact dE _ (by omega) (fun i hi => by omega) (fun v hv => by omega)
    have e8 : paD D 8 = D 8 := dE _ (by omega) (fun i hi => by omega) (fun v hv => by omega)
    refine ⟨fun j hj => by rw [eP j hj]; exact m6.1 j hj, ?_, by rw [e8]; exact m6.2.2⟩
    rw [e8, ← m6.2.1]
    congr 1
    have key : ∀ l : List Nat, (∀ j ∈ l, paD D j = D j) → sumP (paD D) l = sumP D l := by
      intro l
      induction l with
      | nil => exact fun _ => rfl
      | cons i l ih =>
        intro hl
        unfold sumP
        rw [hl i List.mem_cons_self, ih (fun j hj => hl j (List.mem_cons_of_mem _ hj))]
    exact key PL eP
