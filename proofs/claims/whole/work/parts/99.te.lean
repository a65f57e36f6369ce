/-! ===== a canal and a field, read by both ===== -/
theorem ty_pv {P N : Mm} {r m i : Nat} {v : Int32} (h : TY P r N m) : TY P r (puV m N i v) m :=
  h.cN (by unfold puV; rw [gI_f _ _ (by omega)]) (by unfold puV; rw [gI_f _ _ (by omega)]) (by unfold puV; rw [gI_f _ _ (by omega)]) (gI_f _ _ (by omega))
theorem me_pv (N : Mm) (m i : Nat) (v : Int32) : me (puV m N i v) N m := me_i _ _ (by omega)
/-- an optional number, put by both -/
def opN (N : Mm) (m w : Nat) (hi ms : Int32) (i : Nat) : Mm := if (twN N m w).1 = 0 then puV m (twN N m w).2 i ms else puN m (nuN (twN N m w).2 m 0 hi) i
theorem me_op (N : Mm) (m w : Nat) (hi ms : Int32) (i : Nat) : me (opN N m w hi ms i) N m := by
  unfold opN
  split
  · exact (me_pv _ _ _ _).t (me_tw _ _ _)
  · exact (me_st _ _ _).t (me_tw _ _ _)
theorem xe_op (P : Mm) {r w a k : Nat} (hi ms : Int32) (ha : r + 2 < a) : xe (pu (roM P r w hi ms) a k) P r := xe_pu (xe_ro P r w hi ms) (by omega) k
theorem w1_2 (P : Mm) {r a : Nat} (k : Nat) (v : Int32) (ha : r + 2 < a) : W1 (pu (v, nxM (nxM P (r + 1)) (r + 1)) a k) P r a k v := by
  obtain ⟨h1, h2, h3⟩ := w1_nx (nxM P (r + 1)) (r := r) (a := a) k v ha
  refine ⟨by rw [h1, gI_nx _ (by omega)], by rw [h2, gI_nx _ (by omega)], fun q a b => by rw [h3 q a b, gI_nx _ a]⟩
theorem st_op {P N : Mm} {r m w a k i : Nat} (h : TY P r N m) (hw : w < 10) (hi ms : Int32) (ha : r + 2 < a) :
    (∃ v : Int32, (v = ms ∨ ∃ q, ¬ nI q < 0 ∧ ¬ hi < nI q ∧ q ≤ 1000000 ∧ v = nI q) ∧ TY (pu (roM P r w hi ms) a k) r (opN N m w hi ms i) m ∧ W1 (pu (roM P r w hi ms) a k) P r a k v ∧ gI (opN N m w hi ms i) (m + 3) = upd (gI N (m + 3)) i v) ∨ ER (pu (roM P r w hi ms) a k) r (opN N m w hi ms i) m := by
  unfold opN
  rcases ty_ro h hw hi ms with ⟨a1, a2, a3⟩ | ⟨a1, ⟨q, k1, k2, k3, k4, k5, k7⟩ | e⟩
  · left
    rw [if_pos a1, a2]
    refine ⟨ms, Or.inl rfl, ?_, ⟨?_, ?_, fun q h1 h2 => ?_⟩, ?_⟩
    · exact ty_pv (a3.cP (by show gI (sI P a _) r 3 = _; rw [gI_f _ _ (by omega)]) (gI_f _ _ (by omega)) (gI_f _ _ (by omega)))
    · exact gI_f _ _ (by omega)
    · exact gI_s _ _ _
    · exact gI_f _ _ h2
    · rw [pv_3, tw_d]
  · left
    rw [if_neg (by rw [a1]; decide), k4]
    refine ⟨nI q, Or.inr ⟨q, k2, k3, k1, rfl⟩, ty_pu k7 ha, w1_2 P k (nI q) ha, ?_⟩
    rw [pu_d, nu_d, tw_d, k5]
  · right
    rw [if_neg (by rw [a1]; decide)]
    exact er_pu e ha
/-- a canal's parent -/
theorem st_pa {P N : Mm} {r m n : Nat} (h : TY (nxM P (r + 1)) r N m) (hn : n < 16) (h8 : gI P (r + 4) 8 = nI n) :
    (∃ v : Int32, (0 < n → ∃ p, p < n ∧ v = nI p) ∧ TY (rc1 P r n) r (mc2 N m n) m ∧ W1 (rc1 P r n) (nxM P (r + 1)) r (r + 5) n v ∧ gI (mc2 N m n) (m + 3) = upd (gI N (m + 3)) (13 + 13 * n) v) ∨ ER (rc1 P r n) r (mc2 N m n) m := by
  unfold rc1 mc2
  rw [h8]
  by_cases z : n = 0
  · subst z
    left
    rw [if_pos rfl, if_pos (show nI 0 = 0 from rfl)]
    refine ⟨-1, fun q => absurd q (by decide), ?_, ⟨?_, ?_, fun q h1 h2 => ?_⟩, pv_3 _ _ _ _⟩
    · exact ty_pv (h.cP (by show gI (sI _ _ _) r 3 = _; rw [gI_f _ _ (by omega)]) (gI_f _ _ (by omega)) (gI_f _ _ (by omega)))
    · exact gI_f _ _ (by omega)
    · exact gI_s _ _ _
    · exact gI_f _ _ h2
  · rw [if_neg z, if_neg (fun e => z ((nI_sI (show n < 2 ^ 31 by omega)).mp e))]
    have h1 : TY (nxM P (r + 1)) r (puV m N (13 + 13 * n) (-1)) m := ty_pv h
    unfold rpM rpA xfN
    rcases ty_tw h1 (w := 1) (by decide) with ⟨a1, a2, a3⟩ | ⟨a1, a2, a3⟩
    · right
      rw [if_pos a1, if_pos a2]
      have n5 : gI (twN (puV m N (13 + 13 * n) (-1)) m 1).2 m 5 = 0 := a3.z.2
      have e4 : gI (twN (puV m N (13 + 13 * n) (-1)) m 1).2 m 4 = nI (nxp (puV m N (13 + 13 * n) (-1)) m) := by
        have q5 : gI (puV m N (13 + 13 * n) (-1)) m 5 = 0 := h1.z.2
        unfold twN at a2 ⊢
        rw [if_neg (fun y => y q5)] at a2 ⊢
        split at a2
        · rename_i y
          rw [if_pos y]
          exact ps_4 _ _ _
        · exact absurd a2 (show ¬ (1 : Int32) = 0 by decide)
      rw [e4]
      have e := er_fl (N' := (twN (puV m N (13 + 13 * n) (-1)) m 1).2) h1 (c := -2) (by decide) n5
      have e2 : roM (flM (nxM P (r + 1)) r (-2)) r 1 (nI n - 1) (-1) = (-1, flM (nxM P (r + 1)) r (-2)) := if_pos (Or.inl (fl_ne (by decide) h1.z.1))
      rw [e2]
      refine ER.k e (xe_i _ _ (by omega)) (me_st _ _ _)
    · rw [if_neg a1, if_neg (by rw [a2]; decide)]
      rcases ty_ro h1 (w := 1) (by decide) (nI n - 1) (-1) with ⟨b1, -, -⟩ | ⟨b1, ⟨q, k1, k2, k3, k4, k5, k7⟩ | e⟩
      · rw [a2] at b1
        exact absurd b1 (by decide)
      · left
        rw [k4]
        refine ⟨nI q, fun _ => ⟨q, rg1 k3 k1 (by omega), rfl⟩, ty_pu k7 (by omega), w1_2 _ n (nI q) (by omega), ?_⟩
        rw [pu_d, nu_d, tw_d, k5, pv_3, upd_upd]
      · exact Or.inr (er_pu e (by omega))
theorem dS.ca {P Q : Mm} {r n f t w : Nat} {E F : Nat → Int32} {v0 v1 v2 v3 v4 : Int32} (h : dS P r E n f t w) (hn : n < 16) (h0 : 0 < n → ∃ p, p < n ∧ v0 = nI p) (h1 : nB v1 1 6) (h2 : nB v2 0 50) (h3 : nB v3 1 9999) (h4 : nB v4 0 99)
    (q4 : gI Q (r + 4) = upd (gI P (r + 4)) 8 (gI P (r + 4) 8 + 1)) (q5 : gI Q (r + 5) = upd (gI P (r + 5)) n v0) (q6 : gI Q (r + 6) = upd (gI P (r + 6)) n v1) (q7 : gI Q (r + 7) = upd (gI P (r + 7)) n v2) (q8 : gI Q (r + 8) = upd (gI P (r + 8)) n v3) (q9 : gI Q (r + 9) = upd (gI P (r + 9)) n v4) (qo : ∀ q, r + 13 ≤ q → q ≤ r + 29 → gI Q q = gI P q)
    (hF : F = upd (upd (upd (upd (upd (upd E (13 + 13 * n) v0) (13 + 13 * n + 1) v1) (13 + 13 * n + 2) v2) (13 + 13 * n + 3) v3) (13 + 13 * n + 4) v4) 0 (E 0 + 1)) : dS Q r F (n + 1) f t w := by
  obtain ⟨⟨b1, b2, b3, b4⟩, ⟨c1, c2, c3, c4⟩, ⟨e0, e1, e2, e3⟩, hC, hFi, hT, hcy, hG, h12, hz4, hZ⟩ := h
  have uF : ∀ j, (j < 13 + 13 * n ∨ 13 + 13 * n + 4 < j) → j ≠ 0 → F j = E j := fun j g1 g2 => by rw [hF, upd_n _ _ g2, upd_n _ _ (by omega), upd_n _ _ (by omega), upd_n _ _ (by omega), upd_n _ _ (by omega), upd_n _ _ (by omega)]
  have g0 : F (13 + 13 * n) = v0 := by rw [hF, upd_n _ _ (by omega), upd_n _ _ (by omega), upd_n _ _ (by omega), upd_n _ _ (by omega), upd_n _ _ (by omega), upd_s]
  have g1 : F (13 + 13 * n + 1) = v1 := by rw [hF, upd_n _ _ (by omega), upd_n _ _ (by omega), upd_n _ _ (by omega), upd_n _ _ (by omega), upd_s]
  have g2 : F (13 + 13 * n + 2) = v2 := by rw [hF, upd_n _ _ (by omega), upd_n _ _ (by omega), upd_n _ _ (by omega), upd_s]
  have g3 : F (13 + 13 * n + 3) = v3 := by rw [hF, upd_n _ _ (by omega), upd_n _ _ (by omega), upd_s]
  have g4 : F (13 + 13 * n + 4) = v4 := by rw [hF, upd_n _ _ (by omega), upd_s]
  have f0 : F 0 = nI (n + 1) := by rw [hF, upd_s, e0]; exact nI_add n 1
  refine ⟨⟨hn, b2, b3, b4⟩, ⟨by rw [q4, upd_s, c1]; exact nI_add n 1, by rw [qo _ (by omega) (by omega)]; exact c2, by rw [qo _ (by omega) (by omega)]; exact c3, by rw [qo _ (by omega) (by omega)]; exact c4⟩, ⟨f0, by rw [uF 1 (by omega) (by omega)]; exact e1, by rw [uF 2 (by omega) (by omega)]; exact e2, by rw [uF 3 (by omega) (by omega)]; exact e3⟩, fun i hi => ?_, fun i hi => ((hFi i hi).e (fun j a1 a2 => uF j (by omega) (by omega)) (fun q a1 a2 => by rw [qo q (by omega) (by omega)])).n (Nat.le_succ n), fun i hi => (hT i hi).e (fun j a1 a2 => uF j (by omega) (by omega)) (fun q a1 a2 => by rw [qo q (by omega) (by omega)]), ?_, fun i hi => by rw [qo _ (by omega) (by omega), uF _ (by omega) (by omega)]; exact hG i hi, by rw [uF 12 (by omega) (by omega)]; exact h12, by rw [uF 4 (by omega) (by omega)]; exact hz4, fun j a1 a2 a3 => ?_⟩
  · by_cases e : i = n
    · subst e
      unfold dC
      rw [q5, q6, q7, q8, q9, upd_s, upd_s, upd_s, upd_s, upd_s, g0, g1, g2, g3, g4]
      exact ⟨⟨rfl, rfl, rfl, rfl, rfl⟩, h0, h1, h2, h3, h4⟩
    · refine (hC i (by omega)).e (fun j a1 a2 => uF j (by omega) (by omega)) (fun q a1 a2 => ?_)
      rcases (show q = r + 5 ∨ q = r + 6 ∨ q = r + 7 ∨ q = r + 8 ∨ q = r + 9 by omega) with g | g | g | g | g
      · rw [g, q5, upd_n _ _ e]
      · rw [g, q6, upd_n _ _ e]
      · rw [g, q7, upd_n _ _ e]
      · rw [g, q8, upd_n _ _ e]
      · rw [g, q9, upd_n _ _ e]
  · rw [qo _ (by omega) (by omega), hcy]
    exact iS_e _ _ (fun i _ hi => (uF _ (by omega) (by omega)).symm)
  · rw [uF j (by
      rcases Nat.lt_or_ge j (13 + 13 * n) with y | y
      · exact Or.inl y
      · rcases Nat.lt_or_ge (13 + 13 * n + 4) j with y2 | y2
        · exact Or.inr y2
        · exact absurd (show stI j by unfold stI; omega) a2) (fun e => a2 (by unfold stI; omega))]
    exact hZ j a1 a2 a3
/-- a canal, read by both -/
theorem sd_ca2 {P N : Mm} {r m : Nat} {s : Int32} (hT : TY (nxM P (r + 1)) r N m) (hD : DD P r (gI N (m + 3))) (hs : gI P (r + 1) 3 = s) : (TY (rcM P r) r (mcM N m s) m ∧ DD (rcM P r) r (gI (mcM N m s) (m + 3))) ∨ ER (rcM P r) r (mcM N m s) m := by
  obtain ⟨⟨n, f, t, w, hd⟩, hi⟩ := hD
  obtain ⟨p0, n0⟩ := hT.z
  have p0 : gI P r 3 = 0 := by rw [← p0, gI_nx _ (by omega)]
  have hn : n ≤ 16 := hd.1.1
  have e0 : gI N (m + 3) 0 = nI n := hd.2.2.1.1
  have c0 : gI P (r + 4) 8 = nI n := hd.2.1.1
  have cn : (nI n).toNatClampNeg = n := nI_clamp (by omega)
  unfold rcM mcM
  rw [c0, e0, cn]
  rcases Nat.lt_or_ge n 16 with q | q
  · rw [if_pos (show nI n < 16 from (nI_ltI (a := n) (b := 16) (by omega) (by decide)).mpr q)]
    have eS : st1N N m 0 16 s = N := if_neg (by show ¬ gI N (m + 3) 0 = 16; rw [e0]; exact ne_12 (n := n) (N := 16) q (by decide))
    rw [eS, if_neg (fun z => z n0)]
    dsimp only
    unfold mcT
    have x2 : xe (rc2 P r n) (rc1 P r n) r := xe_st _ _ _ (by omega)
    have x3 : xe (rc3 P r n) (rc2 P r n) r := xe_st _ _ _ (by omega)
    have x4 : xe (rc4 P r n) (rc3 P r n) r := xe_st _ _ _ (by omega)
    have x5 : xe (rc5 P r n) (rc4 P r n) r := xe_op _ _ _ (by omega)
    have m3 := fun Z : Mm => (me_st Z _ _ : me (mc3 Z m n) Z m)
    have m4 := fun Z : Mm => (me_st Z _ _ : me (mc4 Z m n) Z m)
    have m5 := fun Z : Mm => (me_st Z _ _ : me (mc5 Z m n) Z m)
    have m6 := fun Z : Mm => (me_op Z m 2 99 1 _ : me (mc6 Z m n) Z m)
    have xf : ∀ Z : Mm, ∀ g, xe (sI Z (r + 4) g) Z r := fun Z g => xe_i _ _ (by omega)
    rcases st_pa hT q c0 with ⟨v0, h0, t1, w1, g1⟩ | e
    · generalize mc2 N m n = N1 at t1 g1
      rcases st_nu (a := r + 6) (k := n) (i := 13 + 13 * n + 1) t1 1 6 (by omega) with ⟨v1, a1, a2, a3, t2, w2, g2⟩ | e
      · have f2 : pu (rnM (rc1 P r n) r 1 6) (r + 6) n = rc2 P r n := rfl
        have k2 : puN m (nuN N1 m 1 6) (13 + 13 * n + 1) = mc3 N1 m n := rfl
        rw [f2, k2] at t2
        rw [f2] at w2
        rw [k2] at g2
        generalize mc3 N1 m n = N2 at t2 g2
        rcases st_nu (a := r + 7) (k := n) (i := 13 + 13 * n + 2) t2 0 50 (by omega) with ⟨v2, b1, b2, b3, t3, w3, g3⟩ | e
        · have f3 : pu (rnM (rc2 P r n) r 0 50) (r + 7) n = rc3 P r n := rfl
          have k3 : puN m (nuN N2 m 0 50) (13 + 13 * n + 2) = mc4 N2 m n := rfl
          rw [f3, k3] at t3
          rw [f3] at w3
          rw [k3] at g3
          generalize mc4 N2 m n = N3 at t3 g3
          rcases st_nu (a := r + 8) (k := n) (i := 13 + 13 * n + 3) t3 1 9999 (by omega) with ⟨v3, d1, d2, d3, t4, w4, g4⟩ | e
          · have f4 : pu (rnM (rc3 P r n) r 1 9999) (r + 8) n = rc4 P r n := rfl
            have k4 : puN m (nuN N3 m 1 9999) (13 + 13 * n + 3) = mc5 N3 m n := rfl
            rw [f4, k4] at t4
            rw [f4] at w4
            rw [k4] at g4
            generalize mc5 N3 m n = N4 at t4 g4
            rcases st_op (a := r + 9) (k := n) (i := 13 + 13 * n + 4) t4 (w := 2) (by decide) 99 1 (by omega) with ⟨v4, hv4, t5, w5, g5⟩ | e
            · left
              have f5 : pu (roM (rc4 P r n) r 2 99 1) (r + 9) n = rc5 P r n := rfl
              have k5 : opN N4 m 2 99 1 (13 + 13 * n + 4) = mc6 N4 m n := rfl
              rw [f5, k5] at t5
              rw [f5] at w5
              rw [k5] at g5
              generalize mc6 N4 m n = N5 at t5 g5
              have hq : ∀ q, q ≠ r → q ≠ r + 1 → q < r + 5 ∨ r + 9 < q → gI (rc5 P r n) q = gI P q := fun q h0 h1 h2 => by rw [w5.2.2 q h1 (by omega), w4.2.2 q h1 (by omega), w3.2.2 q h1 (by omega), w2.2.2 q h1 (by omega), w1.2.2 q h1 (by omega), gI_nx _ h1]
              have qr : gI (rc5 P r n) r = gI P r := by rw [w5.1, w4.1, w3.1, w2.1, w1.1, gI_nx _ (by omega)]
              have r5 : gI (rc5 P r n) (r + 5) = upd (gI P (r + 5)) n v0 := by rw [w5.2.2 _ (by omega) (by omega), w4.2.2 _ (by omega) (by omega), w3.2.2 _ (by omega) (by omega), w2.2.2 _ (by omega) (by omega), w1.2.1, gI_nx _ (by omega)]
              have r6 : gI (rc5 P r n) (r + 6) = upd (gI P (r + 6)) n (nI v1) := by rw [w5.2.2 _ (by omega) (by omega), w4.2.2 _ (by omega) (by omega), w3.2.2 _ (by omega) (by omega), w2.2.1, w1.2.2 _ (by omega) (by omega), gI_nx _ (by omega)]
              have r7 : gI (rc5 P r n) (r + 7) = upd (gI P (r + 7)) n (nI v2) := by rw [w5.2.2 _ (by omega) (by omega), w4.2.2 _ (by omega) (by omega), w3.2.1, w2.2.2 _ (by omega) (by omega), w1.2.2 _ (by omega) (by omega), gI_nx _ (by omega)]
              have r8 : gI (rc5 P r n) (r + 8) = upd (gI P (r + 8)) n (nI v3) := by rw [w5.2.2 _ (by omega) (by omega), w4.2.1, w3.2.2 _ (by omega) (by omega), w2.2.2 _ (by omega) (by omega), w1.2.2 _ (by omega) (by omega), gI_nx _ (by omega)]
              have r9 : gI (rc5 P r n) (r + 9) = upd (gI P (r + 9)) n v4 := by rw [w5.2.1, w4.2.2 _ (by omega) (by omega), w3.2.2 _ (by omega) (by omega), w2.2.2 _ (by omega) (by omega), w1.2.2 _ (by omega) (by omega), gI_nx _ (by omega)]
              have r4 : gI (rc5 P r n) (r + 4) = gI P (r + 4) := hq _ (by omega) (by omega) (by omega)
              have eN : gI N5 (m + 3) = upd (upd (upd (upd (upd (gI N (m + 3)) (13 + 13 * n) v0) (13 + 13 * n + 1) (nI v1)) (13 + 13 * n + 2) (nI v2)) (13 + 13 * n + 3) (nI v3)) (13 + 13 * n + 4) v4 := by rw [g5, g4, g3, g2, g1]
              have eN0 : gI N5 (m + 3) 0 = gI N (m + 3) 0 := by rw [eN, upd_n _ _ (by omega), upd_n _ _ (by omega), upd_n _ _ (by omega), upd_n _ _ (by omega), upd_n _ _ (by omega)]
              have eE : gI (up1 m N5 0) (m + 3) = upd (upd (upd (upd (upd (upd (gI N (m + 3)) (13 + 13 * n) v0) (13 + 13 * n + 1) (nI v1)) (13 + 13 * n + 2) (nI v2)) (13 + 13 * n + 3) (nI v3)) (13 + 13 * n + 4) v4) 0 (gI N (m + 3) 0 + 1) := by
                unfold up1
                rw [gI_s, eN0, eN]
              have hv4' : nB v4 0 99 := by
                rcases hv4 with y | ⟨y, y1, y2, y3, y4⟩
                · exact ⟨1, by decide, by decide, y⟩
                · rw [y4]
                  exact rg (lo := 0) (hi := 99) y1 y2 y3 (by decide) (by decide)
              rw [r4]
              refine ⟨(t5.cP ?_ ?_ ?_).cN ?_ ?_ ?_ ?_, ⟨n + 1, f, t, w, hd.ca (Q := sI (rc5 P r n) (r + 4) _) q h0 (rg (lo := 1) (hi := 6) a1 a2 a3 (by decide) (by decide)) (rg (lo := 0) (hi := 50) b1 b2 b3 (by decide) (by decide)) (rg (lo := 1) (hi := 9999) d1 d2 d3 (by decide) (by decide)) hv4' (gI_s _ _ _) (by rw [gI_f _ _ (by omega)]; exact r5) (by rw [gI_f _ _ (by omega)]; exact r6) (by rw [gI_f _ _ (by omega)]; exact r7) (by rw [gI_f _ _ (by omega)]; exact r8) (by rw [gI_f _ _ (by omega)]; exact r9) (fun q h1 h2 => by rw [gI_f _ _ (by omega)]; exact hq q (by omega) (by omega) (by omega)) eE⟩, ?_⟩
              · rw [gI_f _ _ (by omega)]
              · rw [gI_f _ _ (by omega)]
              · rw [gI_f _ _ (by omega)]
              · unfold up1; rw [gI_f _ _ (by omega)]
              · unfold up1; rw [gI_f _ _ (by omega)]
              · unfold up1; rw [gI_f _ _ (by omega)]
              · unfold up1; rw [gI_f _ _ (by omega)]
              · refine (hi.e (Q := sI (rc5 P r n) (r + 4) _) ?_ ?_ ?_).E (fun j hj => ?_)
                · rw [gI_f _ _ (by omega), qr]
                · rw [gI_f _ _ (by omega)]; exact hq _ (by omega) (by omega) (by omega)
                · rw [gI_f _ _ (by omega)]; exact hq _ (by omega) (by omega) (by omega)
                · rw [eE, upd_n _ _ (by omega), upd_n _ _ (by omega), upd_n _ _ (by omega), upd_n _ _ (by omega), upd_n _ _ (by omega), upd_n _ _ (by omega)]
            · exact Or.inr (e.k (xf _ _) (me_up _ _ _))
          · exact Or.inr (e.k ((xf _ _).t x5) ((me_up _ _ _).t (m6 _)))
        · exact Or.inr (e.k ((xf _ _).t (x5.t x4)) ((me_up _ _ _).t ((m6 _).t (m5 _))))
      · exact Or.inr (e.k ((xf _ _).t (x5.t (x4.t x3))) ((me_up _ _ _).t ((m6 _).t ((m5 _).t (m4 _)))))
    · exact Or.inr (e.k ((xf _ _).t (x5.t (x4.t (x3.t x2)))) ((me_up _ _ _).t ((m6 _).t ((m5 _).t ((m4 _).t (m3 _))))))
  · have t16 : n = 16 := by omega
    subst t16
    rw [if_neg (show ¬ nI 16 < 16 by decide)]
    have eS : st1N N m 0 16 s = reN N m (-4) s := if_pos e0
    rw [eS, if_pos (re_5 (by decide))]
    exact Or.inr (er_f2 p0 n0 hs (by decide))
