/-! ===== a field, read by both ===== -/
theorem dS.fi {P Q : Mm} {r n f t w : Nat} {E F : Nat → Int32} {v0 v1 v2 v3 v4 v5 v6 : Int32} (h : dS P r E n f t w) (hf : f < 12) (h0 : ∃ c, c < n ∧ v0 = nI c) (h1 : ∃ v, v < 6 ∧ v1 = nI v) (h2 : nB v2 1 999) (h3 : nB v3 0 9999) (h4 : nB v4 1 9999) (h5 : nB v5 0 99) (h6 : v6 = -1 ∨ ∃ j, j < f ∧ v6 = nI j)
    (q13 : gI Q (r + 13) = upd (gI P (r + 13)) 11 (gI P (r + 13) 11 + 1)) (q14 : gI Q (r + 14) = upd (gI P (r + 14)) f v0) (q15 : gI Q (r + 15) = upd (gI P (r + 15)) f v1) (q16 : gI Q (r + 16) = upd (gI P (r + 16)) f v2) (q17 : gI Q (r + 17) = upd (gI P (r + 17)) f v3) (q18 : gI Q (r + 18) = upd (gI P (r + 18)) f v4) (q19 : gI Q (r + 19) = upd (gI P (r + 19)) f v5) (q20 : gI Q (r + 20) = upd (gI P (r + 20)) f v6) (qo : ∀ q, r + 4 ≤ q → q ≤ r + 29 → (q < r + 13 ∨ r + 20 < q) → gI Q q = gI P q)
    (hF : F = upd (upd (upd (upd (upd (upd (upd (upd E (221 + 11 * f) v0) (221 + 11 * f + 1) v1) (221 + 11 * f + 2) v2) (221 + 11 * f + 3) v3) (221 + 11 * f + 4) v4) (221 + 11 * f + 5) v5) (221 + 11 * f + 6) v6) 1 (E 1 + 1)) : dS Q r F n (f + 1) t w := by
  obtain ⟨⟨b1, b2, b3, b4⟩, ⟨c1, c2, c3, c4⟩, ⟨e0, e1, e2, e3⟩, hC, hFi, hT, hcy, hG, h12, hz4, hZ⟩ := h
  have uF : ∀ j, (j < 221 + 11 * f ∨ 221 + 11 * f + 6 < j) → j ≠ 1 → F j = E j := fun j g1 g2 => by rw [hF, upd_n _ _ g2, upd_n _ _ (by omega), upd_n _ _ (by omega), upd_n _ _ (by omega), upd_n _ _ (by omega), upd_n _ _ (by omega), upd_n _ _ (by omega), upd_n _ _ (by omega)]
  have g0 : F (221 + 11 * f) = v0 := by rw [hF, upd_n _ _ (by omega), upd_n _ _ (by omega), upd_n _ _ (by omega), upd_n _ _ (by omega), upd_n _ _ (by omega), upd_n _ _ (by omega), upd_n _ _ (by omega), upd_s]
  have g1 : F (221 + 11 * f + 1) = v1 := by rw [hF, upd_n _ _ (by omega), upd_n _ _ (by omega), upd_n _ _ (by omega), upd_n _ _ (by omega), upd_n _ _ (by omega), upd_n _ _ (by omega), upd_s]
  have g2 : F (221 + 11 * f + 2) = v2 := by rw [hF, upd_n _ _ (by omega), upd_n _ _ (by omega), upd_n _ _ (by omega), upd_n _ _ (by omega), upd_n _ _ (by omega), upd_s]
  have g3 : F (221 + 11 * f + 3) = v3 := by rw [hF, upd_n _ _ (by omega), upd_n _ _ (by omega), upd_n _ _ (by omega), upd_n _ _ (by omega), upd_s]
  have g4 : F (221 + 11 * f + 4) = v4 := by rw [hF, upd_n _ _ (by omega), upd_n _ _ (by omega), upd_n _ _ (by omega), upd_s]
  have g5 : F (221 + 11 * f + 5) = v5 := by rw [hF, upd_n _ _ (by omega), upd_n _ _ (by omega), upd_s]
  have g6 : F (221 + 11 * f + 6) = v6 := by rw [hF, upd_n _ _ (by omega), upd_s]
  have f1 : F 1 = nI (f + 1) := by rw [hF, upd_s, e1]; exact nI_add f 1
  refine ⟨⟨b1, hf, b3, b4⟩, ⟨by rw [qo _ (by omega) (by omega) (by omega)]; exact c1, by rw [q13, upd_s, c2]; exact nI_add f 1, by rw [qo _ (by omega) (by omega) (by omega)]; exact c3, by rw [qo _ (by omega) (by omega) (by omega)]; exact c4⟩, ⟨by rw [uF 0 (by omega) (by omega)]; exact e0, f1, by rw [uF 2 (by omega) (by omega)]; exact e2, by rw [uF 3 (by omega) (by omega)]; exact e3⟩, fun i hi => (hC i hi).e (fun j a1 a2 => uF j (by omega) (by omega)) (fun q a1 a2 => by rw [qo q (by omega) (by omega) (by omega)]), fun i hi => ?_, fun i hi => (hT i hi).e (fun j a1 a2 => uF j (by omega) (by omega)) (fun q a1 a2 => by rw [qo q (by omega) (by omega) (by omega)]), ?_, fun i hi => by rw [qo _ (by omega) (by omega) (by omega), uF _ (by omega) (by omega)]; exact hG i hi, by rw [uF 12 (by omega) (by omega)]; exact h12, by rw [uF 4 (by omega) (by omega)]; exact hz4, fun j a1 a2 a3 => ?_⟩
  · by_cases e : i = f
    · subst e
      unfold dF
      rw [q14, q15, q16, q17, q18, q19, q20, upd_s, upd_s, upd_s, upd_s, upd_s, upd_s, upd_s, g0, g1, g2, g3, g4, g5, g6]
      exact ⟨⟨rfl, rfl, rfl, rfl, rfl, rfl, rfl⟩, h0, h1, h2, h3, h4, h5, h6⟩
    · refine (hFi i (by omega)).e (fun j a1 a2 => uF j (by omega) (by omega)) (fun q a1 a2 => ?_)
      rcases (show q = r + 14 ∨ q = r + 15 ∨ q = r + 16 ∨ q = r + 17 ∨ q = r + 18 ∨ q = r + 19 ∨ q = r + 20 by omega) with g | g | g | g | g | g | g
      · rw [g, q14, upd_n _ _ e]
      · rw [g, q15, upd_n _ _ e]
      · rw [g, q16, upd_n _ _ e]
      · rw [g, q17, upd_n _ _ e]
      · rw [g, q18, upd_n _ _ e]
      · rw [g, q19, upd_n _ _ e]
      · rw [g, q20, upd_n _ _ e]
  · rw [qo _ (by omega) (by omega) (by omega), hcy]
    exact iS_e _ _ (fun i _ hi => (uF _ (by omega) (by omega)).symm)
  · rw [uF j (by
      rcases Nat.lt_or_ge j (221 + 11 * f) with y | y
      · exact Or.inl y
      · rcases Nat.lt_or_ge (221 + 11 * f + 6) j with y2 | y2
        · exact Or.inr y2
        · exact absurd (show stI j by unfold stI; omega) a2) (fun e => a2 (by unfold stI; omega))]
    exact hZ j a1 a2 a3
/-- a field, read by both -/
theorem sd_fi {P N : Mm} {r m : Nat} {s : Int32} (hT : TY (nxM P (r + 1)) r N m) (hD : DD P r (gI N (m + 3))) (hs : gI P (r + 1) 3 = s) : (TY (rfM P r) r (mgM N m s) m ∧ DD (rfM P r) r (gI (mgM N m s) (m + 3))) ∨ ER (rfM P r) r (mgM N m s) m := by
  obtain ⟨⟨n, f, t, w, hd⟩, hi⟩ := hD
  obtain ⟨p0, n0⟩ := hT.z
  have p0 : gI P r 3 = 0 := by rw [← p0, gI_nx _ (by omega)]
  have hn : n ≤ 16 := hd.1.1
  have hf : f ≤ 12 := hd.1.2.1
  have e0 : gI N (m + 3) 0 = nI n := hd.2.2.1.1
  have e1 : gI N (m + 3) 1 = nI f := hd.2.2.1.2.1
  have c0 : gI P (r + 4) 8 = nI n := hd.2.1.1
  have c1 : gI P (r + 13) 11 = nI f := hd.2.1.2.1
  have cf : (nI f).toNatClampNeg = f := nI_clamp (by omega)
  unfold rfM mgM
  rw [c1, e1, cf]
  rcases Nat.lt_or_ge f 12 with q | q
  · rw [if_pos (show nI f < 12 from (nI_ltI (a := f) (b := 12) (by omega) (by decide)).mpr q)]
    have eS : st1N N m 1 12 s = N := if_neg (by show ¬ gI N (m + 3) 1 = 12; rw [e1]; exact ne_12 (n := f) (N := 12) q (by decide))
    rw [eS, if_neg (fun z => z n0)]
    dsimp only
    unfold mgT
    have x2 : xe (rf2 P r f) (rf1 P r f) r := xe_st _ _ _ (by omega)
    have x3 : xe (rf3 P r f) (rf2 P r f) r := xe_st _ _ _ (by omega)
    have x4 : xe (rf4 P r f) (rf3 P r f) r := xe_st _ _ _ (by omega)
    have x5 : xe (rf5 P r f) (rf4 P r f) r := xe_st _ _ _ (by omega)
    have x6 : xe (rf6 P r f) (rf5 P r f) r := xe_st _ _ _ (by omega)
    have x7 : xe (rf7 P r f) (rf6 P r f) r := xe_op _ _ _ (by omega)
    have m2 := fun Z : Mm => (me_st Z _ _ : me (mg2 Z m f) Z m)
    have m3 := fun Z : Mm => (me_st Z _ _ : me (mg3 Z m f) Z m)
    have m4 := fun Z : Mm => (me_st Z _ _ : me (mg4 Z m f) Z m)
    have m5 := fun Z : Mm => (me_st Z _ _ : me (mg5 Z m f) Z m)
    have m6 := fun Z : Mm => (me_st Z _ _ : me (mg6 Z m f) Z m)
    have m7 := fun Z : Mm => (me_op Z m 4 (nI f - 1) (-1) _ : me (mg7 Z m f) Z m)
    have xf : ∀ Z : Mm, ∀ g, xe (sI Z (r + 13) g) Z r := fun Z g => xe_i _ _ (by omega)
    rcases st_nu (a := r + 14) (k := f) (i := 221 + 11 * f) hT 0 (nI n - 1) (by omega) with ⟨v0, a1, b1, d1, t1, w1, g1⟩ | e1
    · have f1 : pu (rnM (nxM P (r + 1)) r 0 (nI n - 1)) (r + 14) f = rf1 P r f := by unfold rf1; rw [c0]
      have k1 : puN m (nuN N m 0 (nI n - 1)) (221 + 11 * f) = mg1 N m f := by unfold mg1; rw [e0]
      rw [f1, k1] at t1
      rw [f1] at w1
      rw [k1] at g1
      generalize mg1 N m f = N1 at t1 g1
      rcases st_nu (a := r + 15) (k := f) (i := 221 + 11 * f + 1) t1 0 (5) (by omega) with ⟨v1, a2, b2, d2, t2, w2, g2⟩ | e2
      · have f2 : pu (rnM (rf1 P r f) r 0 (5)) (r + 15) f = rf2 P r f := rfl
        have k2 : puN m (nuN N1 m 0 (5)) (221 + 11 * f + 1) = mg2 N1 m f := rfl
        rw [f2, k2] at t2
        rw [f2] at w2
        rw [k2] at g2
        generalize mg2 N1 m f = N2 at t2 g2
        rcases st_nu (a := r + 16) (k := f) (i := 221 + 11 * f + 2) t2 1 (999) (by omega) with ⟨v2, a3, b3, d3, t3, w3, g3⟩ | e3
        · have f3 : pu (rnM (rf2 P r f) r 1 (999)) (r + 16) f = rf3 P r f := rfl
          have k3 : puN m (nuN N2 m 1 (999)) (221 + 11 * f + 2) = mg3 N2 m f := rfl
          rw [f3, k3] at t3
          rw [f3] at w3
          rw [k3] at g3
          generalize mg3 N2 m f = N3 at t3 g3
          rcases st_nu (a := r + 17) (k := f) (i := 221 + 11 * f + 3) t3 0 (9999) (by omega) with ⟨v3, a4, b4, d4, t4, w4, g4⟩ | e4
          · have f4 : pu (rnM (rf3 P r f) r 0 (9999)) (r + 17) f = rf4 P r f := rfl
            have k4 : puN m (nuN N3 m 0 (9999)) (221 + 11 * f + 3) = mg4 N3 m f := rfl
            rw [f4, k4] at t4
            rw [f4] at w4
            rw [k4] at g4
            generalize mg4 N3 m f = N4 at t4 g4
            rcases st_nu (a := r + 18) (k := f) (i := 221 + 11 * f + 4) t4 1 (9999) (by omega) with ⟨v4, a5, b5, d5, t5, w5, g5⟩ | e5
            · have f5 : pu (rnM (rf4 P r f) r 1 (9999)) (r + 18) f = rf5 P r f := rfl
              have k5 : puN m (nuN N4 m 1 (9999)) (221 + 11 * f + 4) = mg5 N4 m f := rfl
              rw [f5, k5] at t5
              rw [f5] at w5
              rw [k5] at g5
              generalize mg5 N4 m f = N5 at t5 g5
              rcases st_nu (a := r + 19) (k := f) (i := 221 + 11 * f + 5) t5 0 (99) (by omega) with ⟨v5, a6, b6, d6, t6, w6, g6⟩ | e6
              · have f6 : pu (rnM (rf5 P r f) r 0 (99)) (r + 19) f = rf6 P r f := rfl
                have k6 : puN m (nuN N5 m 0 (99)) (221 + 11 * f + 5) = mg6 N5 m f := rfl
                rw [f6, k6] at t6
                rw [f6] at w6
                rw [k6] at g6
                generalize mg6 N5 m f = N6 at t6 g6
                rcases st_op (a := r + 20) (k := f) (i := 221 + 11 * f + 6) t6 (w := 4) (by decide) (nI f - 1) (-1) (by omega) with ⟨v6, hv6, t7, w7, g7⟩ | e7
                · left
                  have f7 : pu (roM (rf6 P r f) r 4 (nI f - 1) (-1)) (r + 20) f = rf7 P r f := by unfold rf7; rw [c1]
                  have k7 : opN N6 m 4 (nI f - 1) (-1) (221 + 11 * f + 6) = mg7 N6 m f := rfl
                  rw [f7, k7] at t7
                  rw [f7] at w7
                  rw [k7] at g7
                  generalize mg7 N6 m f = N7 at t7 g7
                  have hq : ∀ q, q ≠ r → q ≠ r + 1 → q < r + 14 ∨ r + 20 < q → gI (rf7 P r f) q = gI P q := fun q h0 h1 h2 => by rw [w7.2.2 q h1 (by omega), w6.2.2 q h1 (by omega), w5.2.2 q h1 (by omega), w4.2.2 q h1 (by omega), w3.2.2 q h1 (by omega), w2.2.2 q h1 (by omega), w1.2.2 q h1 (by omega), gI_nx _ h1]
                  have qr : gI (rf7 P r f) r = gI P r := by rw [w7.1, w6.1, w5.1, w4.1, w3.1, w2.1, w1.1, gI_nx _ (by omega)]
                  have r1 : gI (rf7 P r f) (r + 14) = upd (gI P (r + 14)) f (nI v0) := by rw [w7.2.2 _ (by omega) (by omega), w6.2.2 _ (by omega) (by omega), w5.2.2 _ (by omega) (by omega), w4.2.2 _ (by omega) (by omega), w3.2.2 _ (by omega) (by omega), w2.2.2 _ (by omega) (by omega), w1.2.1, gI_nx _ (by omega)]
                  have r2 : gI (rf7 P r f) (r + 15) = upd (gI P (r + 15)) f (nI v1) := by rw [w7.2.2 _ (by omega) (by omega), w6.2.2 _ (by omega) (by omega), w5.2.2 _ (by omega) (by omega), w4.2.2 _ (by omega) (by omega), w3.2.2 _ (by omega) (by omega), w2.2.1, w1.2.2 _ (by omega) (by omega), gI_nx _ (by omega)]
                  have r3 : gI (rf7 P r f) (r + 16) = upd (gI P (r + 16)) f (nI v2) := by rw [w7.2.2 _ (by omega) (by omega), w6.2.2 _ (by omega) (by omega), w5.2.2 _ (by omega) (by omega), w4.2.2 _ (by omega) (by omega), w3.2.1, w2.2.2 _ (by omega) (by omega), w1.2.2 _ (by omega) (by omega), gI_nx _ (by omega)]
                  have r4 : gI (rf7 P r f) (r + 17) = upd (gI P (r + 17)) f (nI v3) := by rw [w7.2.2 _ (by omega) (by omega), w6.2.2 _ (by omega) (by omega), w5.2.2 _ (by omega) (by omega), w4.2.1, w3.2.2 _ (by omega) (by omega), w2.2.2 _ (by omega) (by omega), w1.2.2 _ (by omega) (by omega), gI_nx _ (by omega)]
                  have r5 : gI (rf7 P r f) (r + 18) = upd (gI P (r + 18)) f (nI v4) := by rw [w7.2.2 _ (by omega) (by omega), w6.2.2 _ (by omega) (by omega), w5.2.1, w4.2.2 _ (by omega) (by omega), w3.2.2 _ (by omega) (by omega), w2.2.2 _ (by omega) (by omega), w1.2.2 _ (by omega) (by omega), gI_nx _ (by omega)]
                  have r6 : gI (rf7 P r f) (r + 19) = upd (gI P (r + 19)) f (nI v5) := by rw [w7.2.2 _ (by omega) (by omega), w6.2.1, w5.2.2 _ (by omega) (by omega), w4.2.2 _ (by omega) (by omega), w3.2.2 _ (by omega) (by omega), w2.2.2 _ (by omega) (by omega), w1.2.2 _ (by omega) (by omega), gI_nx _ (by omega)]
                  have r7 : gI (rf7 P r f) (r + 20) = upd (gI P (r + 20)) f (v6) := by rw [w7.2.1, w6.2.2 _ (by omega) (by omega), w5.2.2 _ (by omega) (by omega), w4.2.2 _ (by omega) (by omega), w3.2.2 _ (by omega) (by omega), w2.2.2 _ (by omega) (by omega), w1.2.2 _ (by omega) (by omega), gI_nx _ (by omega)]
                  have r13 : gI (rf7 P r f) (r + 13) = gI P (r + 13) := hq _ (by omega) (by omega) (by omega)
                  have eN : gI N7 (m + 3) = upd (upd (upd (upd (upd (upd (upd (gI N (m + 3)) (221 + 11 * f) (nI v0)) (221 + 11 * f + 1) (nI v1)) (221 + 11 * f + 2) (nI v2)) (221 + 11 * f + 3) (nI v3)) (221 + 11 * f + 4) (nI v4)) (221 + 11 * f + 5) (nI v5)) (221 + 11 * f + 6) (v6) := by rw [g7, g6, g5, g4, g3, g2, g1]
                  have eN1 : gI N7 (m + 3) 1 = gI N (m + 3) 1 := by rw [eN, upd_n _ _ (by omega), upd_n _ _ (by omega), upd_n _ _ (by omega), upd_n _ _ (by omega), upd_n _ _ (by omega), upd_n _ _ (by omega), upd_n _ _ (by omega)]
                  have eE : gI (up1 m N7 1) (m + 3) = upd (upd (upd (upd (upd (upd (upd (upd (gI N (m + 3)) (221 + 11 * f) (nI v0)) (221 + 11 * f + 1) (nI v1)) (221 + 11 * f + 2) (nI v2)) (221 + 11 * f + 3) (nI v3)) (221 + 11 * f + 4) (nI v4)) (221 + 11 * f + 5) (nI v5)) (221 + 11 * f + 6) (v6)) 1 (gI N (m + 3) 1 + 1) := by
                    unfold up1
                    rw [gI_s, eN1, eN]
                  have hv6' : v6 = -1 ∨ ∃ j, j < f ∧ v6 = nI j := by
                    rcases hv6 with y | ⟨y, y1, y2, y3, y4⟩
                    · exact Or.inl y
                    · exact Or.inr ⟨y, rg1 y2 y3 (by omega), y4⟩
                  have hv0 : ∃ c, c < n ∧ nI v0 = nI c := ⟨v0, rg1 b1 d1 (by omega), rfl⟩
                  have hv1 : ∃ v, v < 6 ∧ nI v1 = nI v := by
                    obtain ⟨x1, x2, x3, x4⟩ := rg (lo := 0) (hi := 5) a2 b2 d2 (by decide) (by decide)
                    exact ⟨x1, by omega, x4⟩
                  rw [r13]
                  refine ⟨(t7.cP ?_ ?_ ?_).cN ?_ ?_ ?_ ?_, ⟨n, f + 1, t, w, hd.fi (Q := sI (rf7 P r f) (r + 13) _) q hv0 hv1 (rg (lo := 1) (hi := 999) a3 b3 d3 (by decide) (by decide)) (rg (lo := 0) (hi := 9999) a4 b4 d4 (by decide) (by decide)) (rg (lo := 1) (hi := 9999) a5 b5 d5 (by decide) (by decide)) (rg (lo := 0) (hi := 99) a6 b6 d6 (by decide) (by decide)) hv6' (gI_s _ _ _) (by rw [gI_f _ _ (by omega)]; exact r1) (by rw [gI_f _ _ (by omega)]; exact r2) (by rw [gI_f _ _ (by omega)]; exact r3) (by rw [gI_f _ _ (by omega)]; exact r4) (by rw [gI_f _ _ (by omega)]; exact r5) (by rw [gI_f _ _ (by omega)]; exact r6) (by rw [gI_f _ _ (by omega)]; exact r7) (fun q h1 h2 h3 => by rw [gI_f _ _ (by omega)]; exact hq q (by omega) (by omega) (by omega)) eE⟩, ?_⟩
                  · rw [gI_f _ _ (by omega)]
                  · rw [gI_f _ _ (by omega)]
                  · rw [gI_f _ _ (by omega)]
                  · unfold up1; rw [gI_f _ _ (by omega)]
                  · unfold up1; rw [gI_f _ _ (by omega)]
                  · unfold up1; rw [gI_f _ _ (by omega)]
                  · unfold up1; rw [gI_f _ _ (by omega)]
                  · refine (hi.e (Q := sI (rf7 P r f) (r + 13) _) ?_ ?_ ?_).E (fun j hj => ?_)
                    · rw [gI_f _ _ (by omega), qr]
                    · rw [gI_f _ _ (by omega)]; exact hq _ (by omega) (by omega) (by omega)
                    · rw [gI_f _ _ (by omega)]; exact hq _ (by omega) (by omega) (by omega)
                    · rw [eE, upd_n _ _ (by omega), upd_n _ _ (by omega), upd_n _ _ (by omega), upd_n _ _ (by omega), upd_n _ _ (by omega), upd_n _ _ (by omega), upd_n _ _ (by omega), upd_n _ _ (by omega)]
                · have f7 : pu (roM (rf6 P r f) r 4 (nI f - 1) (-1)) (r + 20) f = rf7 P r f := by unfold rf7; rw [c1]
                  rw [f7] at e7
                  exact Or.inr (e7.k (xf _ _) (me_up _ _ _))
              · exact Or.inr (e6.k ((xf _ _).t x7) ((me_up _ _ _).t (m7 _)))
            · exact Or.inr (e5.k ((xf _ _).t (x7.t x6)) ((me_up _ _ _).t ((m7 _).t (m6 _))))
          · exact Or.inr (e4.k ((xf _ _).t (x7.t (x6.t x5))) ((me_up _ _ _).t ((m7 _).t ((m6 _).t (m5 _)))))
        · exact Or.inr (e3.k ((xf _ _).t (x7.t (x6.t (x5.t x4)))) ((me_up _ _ _).t ((m7 _).t ((m6 _).t ((m5 _).t (m4 _))))))
      · exact Or.inr (e2.k ((xf _ _).t (x7.t (x6.t (x5.t (x4.t x3))))) ((me_up _ _ _).t ((m7 _).t ((m6 _).t ((m5 _).t ((m4 _).t (m3 _)))))))
    · have f1 : pu (rnM (nxM P (r + 1)) r 0 (nI n - 1)) (r + 14) f = rf1 P r f := by unfold rf1; rw [c0]
      have k1 : puN m (nuN N m 0 (nI n - 1)) (221 + 11 * f) = mg1 N m f := by unfold mg1; rw [e0]
      rw [f1, k1] at e1
      exact Or.inr (e1.k ((xf _ _).t (x7.t (x6.t (x5.t (x4.t (x3.t x2)))))) ((me_up _ _ _).t ((m7 _).t ((m6 _).t ((m5 _).t ((m4 _).t ((m3 _).t (m2 _))))))))
  · have t12 : f = 12 := by omega
    subst t12
    rw [if_neg (show ¬ nI 12 < 12 by decide)]
    have eS : st1N N m 1 12 s = reN N m (-4) s := if_pos e1
    rw [eS, if_pos (re_5 (by decide))]
    exact Or.inr (er_f2 p0 n0 hs (by decide))
