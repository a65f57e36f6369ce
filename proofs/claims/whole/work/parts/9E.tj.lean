/-! ===== statements, a whole text, read by both ===== -/
theorem dS.E {P Q : Mm} {r n f t w : Nat} {E F : Nat → Int32} (h : dS P r E n f t w) (qo : ∀ q, r + 4 ≤ q → q ≤ r + 29 → gI Q q = gI P q) (fo : ∀ i, i < 393 → i ≠ 6 → i ≠ 7 → F i = E i) : dS Q r F n f t w := by
  obtain ⟨⟨b1, b2, b3, b4⟩, ⟨c1, c2, c3, c4⟩, ⟨e0, e1, e2, e3⟩, hC, hFi, hT, hcy, hG, h12, hz4, hZ⟩ := h
  refine ⟨⟨b1, b2, b3, b4⟩, ⟨by rw [qo _ (by omega) (by omega)]; exact c1, by rw [qo _ (by omega) (by omega)]; exact c2, by rw [qo _ (by omega) (by omega)]; exact c3, by rw [qo _ (by omega) (by omega)]; exact c4⟩, ⟨by rw [fo 0 (by omega) (by omega) (by omega)]; exact e0, by rw [fo 1 (by omega) (by omega) (by omega)]; exact e1, by rw [fo 2 (by omega) (by omega) (by omega)]; exact e2, by rw [fo 3 (by omega) (by omega) (by omega)]; exact e3⟩, fun i hi => (hC i hi).e (fun j a1 a2 => fo j (by omega) (by omega) (by omega)) (fun q a1 a2 => by rw [qo q (by omega) (by omega)]), fun i hi => (hFi i hi).e (fun j a1 a2 => fo j (by omega) (by omega) (by omega)) (fun q a1 a2 => by rw [qo q (by omega) (by omega)]), fun i hi => (hT i hi).e (fun j a1 a2 => fo j (by omega) (by omega) (by omega)) (fun q a1 a2 => by rw [qo q (by omega) (by omega)]), ?_, fun i hi => ?_, by rw [fo 12 (by omega) (by omega) (by omega)]; exact h12, by rw [fo 4 (by omega) (by omega) (by omega)]; exact hz4, fun j a1 a2 a3 => ?_⟩
  · rw [qo _ (by omega) (by omega), hcy]
    exact iS_e _ _ (fun i _ hi => (fo _ (by omega) (by omega) (by omega)).symm)
  · rw [qo _ (by omega) (by omega), fo _ (by omega) (by omega) (by omega)]
    exact hG i hi
  · rw [fo j a1 (fun e => a2 (by unfold stI; omega)) (fun e => a2 (by unfold stI; omega))]
    exact hZ j a1 a2 a3
theorem nx_two (P Q : Mm) (r : Nat) (h1 : gI Q (r + 1) = gI P (r + 1)) (h2 : gI Q (r + 2) = gI P (r + 2)) : gI (nxM Q (r + 1)) (r + 1) = gI (nxM P (r + 1)) (r + 1) := by
  unfold nxM nxE nxS
  rw [gI_s, gI_s, h1, show r + 1 + 1 = r + 2 from rfl, h2]
/-- the inflow, read by both; there was none so far -/
theorem sd_in {P N : Mm} {r m : Nat} {s : Int32} (hT : TY (nxM P (r + 1)) r N m) (hD : DD P r (gI N (m + 3))) (h4 : gI P r 4 = 0) (h14 : gI N m 14 = 0) : (TY (riM P r) r (rfI N m s) m ∧ DD (riM P r) r (gI (rfI N m s) (m + 3))) ∨ ER (riM P r) r (rfI N m s) m := by
  obtain ⟨⟨n, f, t, w, hd⟩, hi⟩ := hD
  obtain ⟨e6, e7⟩ : gI N (m + 3) 6 = 0 ∧ gI N (m + 3) 7 = 0 := by
    rcases hi with h | h
    · exact ⟨h.1, h.2.2.2.2⟩
    · exact absurd h4 h.2.1
  have eS : st2N N m 6 s = N := if_neg (by rw [e6]; decide)
  have p3 : gI (puV m N 6 1) (m + 3) = upd (gI N (m + 3)) 6 1 := pv_3 _ _ _ _
  -- the reader before the sum
  have eP : riM P r = smM r (faN r 4) (nxM (sI (sI P r (upd (gI P r) 4 1)) (r + 30) (upd (gI P (r + 30)) 2 0)) (r + 1)) := by
    unfold riM
    dsimp only
    rw [show gI (sI P r (upd (gI P r) 4 1)) (r + 30) = gI P (r + 30) from gI_f _ _ (by omega)]
  have eN : rfI N m s = smZ m (facK m 5) (puV m N 6 1) := by
    unfold rfI
    rw [eS]
  rw [eP, eN]
  generalize hP1 : nxM (sI (sI P r (upd (gI P r) 4 1)) (r + 30) (upd (gI P (r + 30)) 2 0)) (r + 1) = P1
  have r0 : gI P1 r = upd (gI P r) 4 1 := by rw [← hP1, gI_nx _ (by omega), gI_f _ _ (by omega), gI_s]
  have r1 : gI P1 (r + 1) = gI (nxM P (r + 1)) (r + 1) := by
    rw [← hP1]
    exact nx_two _ _ _ (by rw [gI_f _ _ (by omega), gI_f _ _ (by omega)]) (by rw [gI_f _ _ (by omega), gI_f _ _ (by omega)])
  have r30 : gI P1 (r + 30) = upd (gI P (r + 30)) 2 0 := by rw [← hP1, gI_nx _ (by omega), gI_s]
  have ro : ∀ q, q ≠ r → q ≠ r + 1 → q ≠ r + 30 → gI P1 q = gI P q := fun q a b c => by rw [← hP1, gI_nx _ b, gI_f _ _ c, gI_f _ _ a]
  have hT1 : TY P1 r (puV m N 6 1) m := ty_pv (hT.cP (by rw [r0, upd_n _ _ (by decide), gI_nx _ (by omega)]) r1 (by rw [ro _ (by omega) (by omega) (by omega), gI_nx _ (by omega)]))
  have hQ1 : FQ P1 (r + 30) (gI (puV m N 6 1) (m + 3)) [] := by
    refine ⟨by rw [r30, upd_s]; rfl, fun i t h => (by cases h), by rw [p3, upd_n _ _ (by decide), e7]; rfl, fun i c h => (by cases h), fun t h => (by cases h)⟩
  have sf := sf_sm (xe_fa r 4) (me_fa m 5) (h := 0) (sf_all r m 4 (Nat.le_refl 4)) (gdz_fa m 5)
  have n14 : gI (puV m N 6 1) m 14 = nI (4 - 4) := by
    unfold puV
    rw [gI_f _ _ (by omega)]
    exact h14
  rcases sf P1 (puV m N 6 1) [] 0 0 hT1 hQ1 rfl (Nat.le_refl 0) (Nat.zero_le _) n14 with ⟨i1, ⟨l, i2, i3, i4⟩, i5, i6⟩ | e
  · left
    have rz := gdz_sm (gdz_fa m 5) (puV m N 6 1)
    have dr := gdD_sm (gdD_fa m 5) (puV m N 6 1)
    have fo : ∀ j, j < 393 → j ≠ 6 → j ≠ 7 → gI (smZ m (facK m 5) (puV m N 6 1)) (m + 3) j = gI N (m + 3) j := fun j a b c => by rw [dr j a c, p3, upd_n _ _ b]
    have f6 : gI (smZ m (facK m 5) (puV m N 6 1)) (m + 3) 6 = 1 := by rw [dr 6 (by decide) (by decide), p3, upd_s]
    have qo : ∀ q, r + 4 ≤ q → q ≤ r + 29 → gI (smM r (faN r 4) P1) q = gI P q := fun q a b => by rw [i5 q (by omega) (by omega) (by omega), ro q (by omega) (by omega) (by omega)]
    have q4 : gI (smM r (faN r 4) P1) r 4 = 1 := by rw [i5 r (by omega) (by omega) (by omega), r0, upd_s]
    refine ⟨i1, ⟨n, f, t, w, hd.E qo fo⟩, Or.inr ⟨f6, by rw [q4]; decide, l, i2, hgt_o l 0 _ i3 (by decide), ?_, ?_⟩⟩
    · have pr := po_rz (RZ.r (smZ m (facK m 5) (puV m N 6 1)) m) i1 i2.2.2.1
      omega
    · obtain ⟨L, p, hL, hp, -, ⟨g3, g4⟩, -⟩ := hT1
      obtain ⟨p', k', a1, a2, a3, a4, a5, a6⟩ := rz.2.2.2.2 L p 0 hL hp g3 g4 hQ1.2.2.1
      have pr := po_rz (RZ.r (smZ m (facK m 5) (puV m N 6 1)) m) i1 i2.2.2.1
      have le := enc_l l
      have := (nI_eq (show k' < 2 ^ 31 by omega) (show (enc l).length < 2 ^ 31 by omega)).mp (a5.symm.trans i2.2.2.1)
      omega
  · exact Or.inr e
/-- a second inflow -/
theorem sd_i2 {P N : Mm} {r m : Nat} {s : Int32} (p0 : gI P r 3 = 0) (n0 : gI N m 5 = 0) (hs : gI P (r + 1) 3 = s) (h6 : gI N (m + 3) 6 = 1) : ER (flM P r (-2)) r (rfI N m s) m := by
  have eS : st2N N m 6 s = reN N m (-2) s := if_pos h6
  have e := er_f2 (c := -2) p0 n0 hs (by decide)
  unfold rfI
  rw [eS]
  exact e.k (xe.r _ _) ((me_sm (me_fa m 5) _).t (me_pv _ _ _ _))
theorem iw_len {P : Mm} {t w : Nat} (h : ¬ iwI P t w = 0) : gI P t 6 - gI P t 3 = nI (sN.getD w 0) := by
  unfold iwI at h
  split at h
  · exact absurd rfl h
  · rename_i q
    exact Decidable.not_not.mp (fun z => q (Or.inr z))
theorem sN_67 : ¬ nI (sN.getD 6 0) = nI (sN.getD 7 0) := by decide +kernel
/-- a statement, read by both -/
theorem sd_st {P N : Mm} {r m : Nat} (hT : TY P r N m) (hD : DD P r (gI N (m + 3))) (h14 : gI N m 14 = 0) :
    (TY (rsS P r) r (w0N (nxN N m) m (nI (nxp N m))) m ∧ DD (rsS P r) r (gI (w0N (nxN N m) m (nI (nxp N m))) (m + 3))) ∨ ER (rsS P r) r (w0N (nxN N m) m (nI (nxp N m))) m := by
  have hT0 := hT.nx
  have hD0 : DD P r (gI (nxN N m) (m + 3)) := by rw [nx_e.2.2.1]; exact hD
  have p0 := hT.z.1
  have h140 : gI (nxN N m) m 14 = 0 := by unfold nxN; rw [ps_n _ _ _ (by decide)]; exact h14
  have hs : gI P (r + 1) 3 = nI (nxp N m) := by
    obtain ⟨L, s, -, -, -, e2, -, -, -, hTs, -⟩ := hT.f
    rw [e2]
    exact hTs.2.1
  generalize nI (nxp N m) = s at hs
  generalize nxN N m = N0 at hT0 hD0 h140
  unfold rsS w0N
  rcases ty_tw hT0 (w := 0) (by decide) with ⟨a1, a2, a3⟩ | ⟨a1, a2, a3⟩
  · rw [if_neg (show ¬ ¬ iwI P (r + 1) 0 = 0 from fun z => z a1), if_pos a2]
    have hD1 : DD P r (gI (twN N0 m 0).2 (m + 3)) := by rw [tw_d]; exact hD0
    have h141 : gI (twN N0 m 0).2 m 14 = 0 := by rw [tw_14 _ _ _ (by decide)]; exact h140
    generalize (twN N0 m 0).2 = N1 at a3 hD1 h141
    unfold w3N
    rcases ty_tw a3 (w := 3) (by decide) with ⟨b1, b2, b3⟩ | ⟨b1, b2, b3⟩
    · rw [if_neg (show ¬ ¬ iwI P (r + 1) 3 = 0 from fun z => z b1), if_pos b2]
      have hD2 : DD P r (gI (twN N1 m 3).2 (m + 3)) := by rw [tw_d]; exact hD1
      have h142 : gI (twN N1 m 3).2 m 14 = 0 := by rw [tw_14 _ _ _ (by decide)]; exact h141
      generalize (twN N1 m 3).2 = N2 at b3 hD2 h142
      unfold w5N
      rcases ty_tw b3 (w := 5) (by decide) with ⟨c1, c2, c3⟩ | ⟨c1, c2, c3⟩
      · rw [if_neg (show ¬ ¬ iwI P (r + 1) 5 = 0 from fun z => z c1), if_pos c2]
        have hD3 : DD P r (gI (twN N2 m 5).2 (m + 3)) := by rw [tw_d]; exact hD2
        have h143 : gI (twN N2 m 5).2 m 14 = 0 := by rw [tw_14 _ _ _ (by decide)]; exact h142
        generalize (twN N2 m 5).2 = N3 at c3 hD3 h143
        unfold w6N
        rcases ty_tw c3 (w := 6) (by decide) with ⟨d1, d2, d3⟩ | ⟨d1, d2, d3⟩
        · rw [if_neg (show ¬ (¬ iwI P (r + 1) 6 = 0 ∧ gI P (r + 28) 1 = 0) from fun z => z.1 d1), if_pos d2]
          have hD4 : DD P r (gI (twN N3 m 6).2 (m + 3)) := by rw [tw_d]; exact hD3
          have h144 : gI (twN N3 m 6).2 m 14 = 0 := by rw [tw_14 _ _ _ (by decide)]; exact h143
          generalize (twN N3 m 6).2 = N4 at d3 hD4 h144
          unfold w7N
          rcases ty_tw d3 (w := 7) (by decide) with ⟨f1, f2, f3⟩ | ⟨f1, f2, f3⟩
          · rw [if_neg (show ¬ (¬ iwI P (r + 1) 7 = 0 ∧ gI P r 4 = 0) from fun z => z.1 f1), if_pos f2]
            exact Or.inr (er_f2 p0 f3.z.2 hs (by decide))
          · rw [if_neg (show ¬ (twN N4 m 7).1 = 0 by rw [f2]; decide)]
            by_cases g : gI P r 4 = 0
            · rw [if_pos ⟨f1, g⟩]
              exact sd_in f3 (by rw [tw_d]; exact hD4) g (by rw [tw_14 _ _ _ (by decide)]; exact h144)
            · rw [if_neg (fun z => g z.2)]
              have e6 : gI (twN N4 m 7).2 (m + 3) 6 = 1 := by
                rw [tw_d]
                rcases hD4.2 with y | y
                · exact absurd y.2.1 g
                · exact y.1
              exact Or.inr (sd_i2 p0 f3.z.2 hs e6)
        · rw [if_neg (show ¬ (twN N3 m 6).1 = 0 by rw [d2]; decide)]
          by_cases g : gI P (r + 28) 1 = 0
          · rw [if_pos ⟨d1, g⟩]
            exact sd_gu d3 (by rw [tw_d]; exact hD3) g
          · have i7 : iwI P (r + 1) 7 = 0 := Decidable.not_not.mp (fun z => sN_67 ((iw_len d1).symm.trans (iw_len z)))
            rw [if_neg (fun z => g z.2), if_neg (fun z => z.1 i7)]
            have e12 : gI (twN N3 m 6).2 (m + 3) 12 = 1 := by
              rw [tw_d]
              obtain ⟨⟨n, f, t, w, hd⟩, -⟩ := hD3
              rcases hd.2.2.2.2.2.2.2.2.1 with y | y
              · exfalso
                apply g
                rw [hd.2.1.2.2.2, y.2]
                rfl
              · exact y.1
            exact Or.inr (sd_g2 p0 d3.z.2 hs e12)
      · rw [if_pos c1, if_neg (show ¬ (twN N2 m 5).1 = 0 by rw [c2]; decide)]
        exact sd_tu c3 (by rw [tw_d]; exact hD2) hs
    · rw [if_pos b1, if_neg (show ¬ (twN N1 m 3).1 = 0 by rw [b2]; decide)]
      exact sd_fi b3 (by rw [tw_d]; exact hD1) hs
  · rw [if_pos a1, if_neg (show ¬ (twN N0 m 0).1 = 0 by rw [a2]; decide)]
    exact sd_ca2 a3 (by rw [tw_d]; exact hD0) hs
theorem sk_f {P : Mm} {r : Nat} {c : Int32} (q : Nat) (h0 : q ≠ r) (h1 : q ≠ r + 1) : gI (skM P r c) q = gI P q := by
  unfold skM
  split
  · exact gI_nx _ h1
  · exact gI_fl _ _ h0
theorem sk_0 {P : Mm} {r : Nat} {c : Int32} (h : gI (skM P r c) r 3 = 0) (h0 : gI P r 3 = 0) : gI (skM P r c) r = gI P r := by
  unfold skM at h ⊢
  split at h
  · rename_i y
    rw [if_pos y]
    exact gI_nx _ (by omega)
  · exact absurd h (fl_ne (by decide) h0)
/-- a statement and its end -/
theorem sd_ss {P N : Mm} {r m : Nat} (hT : TY P r N m) (hD : DD P r (gI N (m + 3))) (h14 : gI N m 14 = 0) :
    (TY (skM (rsS P r) r 59) r (sgS N m) m ∧ DD (skM (rsS P r) r 59) r (gI (sgS N m) (m + 3))) ∨ ER (skM (rsS P r) r 59) r (sgS N m) m := by
  have own : ∀ Z : Mm, ∀ j, j ≠ 15 → gI (stX Z m) m j = gI (xpN Z m 59) m j := fun Z j hj => by
    unfold stX
    rw [gI_s, upd_n _ _ hj]
  have o1 : ∀ Z : Mm, ∀ q, q ≠ m → gI (stX Z m) q = gI (xpN Z m 59) q := fun Z q hq => gI_f _ _ hq
  unfold sgS
  rcases sd_st hT hD h14 with ⟨t, d⟩ | e
  · rcases ty_sk t (c := 59) (by decide) with t2 | e
    · left
      refine ⟨t2.cN (own _ 3 (by decide)) (own _ 4 (by decide)) (own _ 5 (by decide)) (o1 _ _ (by omega)), ?_⟩
      rw [o1 _ _ (by omega), xp_d]
      exact d.e (by rw [sk_0 t2.z.1 t.z.1]) (fun q a b => sk_f q (by omega) (by omega))
    · exact Or.inr (e.k (xe.r _ _) (me.e (own _ 5 (by decide)) (own _ 6 (by decide))))
  · exact Or.inr (e.k (xe_sk _ _ _) ((me.e (own _ 5 (by decide)) (own _ 6 (by decide))).t (me_xp _ _ _)))
theorem sg_15 (N : Mm) (m : Nat) : gI (sgS N m) m 15 = gI N m 15 + 1 := by
  unfold sgS stX
  rw [gI_s, upd_s, (rz_xp (w0N (nxN N m) m (nI (nxp N m))) m (c := 59) (by decide)).2.2.2.1 15 (by decide) (by decide) (by decide) (by decide), (rz_w0 (nxN N m) m (nI (nxp N m))).1.2.2.2.1 15 (by decide) (by decide) (by decide) (by decide)]
  unfold nxN
  rw [ps_n _ _ _ (by decide)]
/-- a whole text, read by both -/
theorem sd_ld {r m L : Nat} (hL : L ≤ 900) : ∀ (q z : Nat) (P N : Mm) (n : Int32), q < z → TY P r N m → DD P r (gI N (m + 3)) → gI N m 14 = 0 → gI N m 15 = n → gI N m 3 = nI L → L ≤ mPo N m + q → (∃ k, gI N (m + 3) 7 = nI k) →
    (TY (rsL r z n P).2 r (ldL m q N) m ∧ DD (rsL r z n P).2 r (gI (ldL m q N) (m + 3)) ∧ (rsL r z n P).1 = gI (ldL m q N) m 15) ∨ ER (rsL r z n P).2 r (ldL m q N) m := by
  have stop : ∀ (q z : Nat) (P N : Mm) (n : Int32), TY P r N m → DD P r (gI N (m + 3)) → gI N m 15 = n → nxc N m = -1 → 0 < z →
      (TY (rsL r z n P).2 r (ldL m q N) m ∧ DD (rsL r z n P).2 r (gI (ldL m q N) (m + 3)) ∧ (rsL r z n P).1 = gI (ldL m q N) m 15) ∨ ER (rsL r z n P).2 r (ldL m q N) m := by
    intro q z P N n hT hD h15 hc hz
    obtain ⟨z, rfl⟩ : ∃ y, z = y + 1 := ⟨z - 1, by omega⟩
    have kd := (ty_di hT).2.mpr hc
    have e1 : rsL r (z + 1) n P = (n, P) := if_neg (fun y => y.2 kd)
    have e2 : ldL m q N = nxN N m := by
      cases q with
      | zero => exact if_pos hT.z.2
      | succ q =>
        unfold ldL
        rw [if_neg (fun y => y.2 hc), if_pos hT.z.2]
    rw [e1, e2]
    refine Or.inl ⟨hT.nx, by rw [nx_e.2.2.1]; exact hD, ?_⟩
    show n = _
    unfold nxN
    rw [ps_n _ _ _ (by decide)]
    exact h15.symm
  intro q
  induction q with
  | zero =>
    intro z P N n hz hT hD h14 h15 h3 hq h7
    refine stop 0 z P N n hT hD h15 ?_ hz
    obtain ⟨L', s, hL', hs, e1, e2, -, -, -, hTs, e3⟩ := hT.f
    have eL : L' = L := by
      unfold mTL at e1
      rw [h3, nI_clamp (by omega)] at e1
      exact e1.symm
    subst eL
    obtain ⟨k, hk⟩ := h7
    have pr := po_rz (rz_nx N m) hT hk
    have ms : mPo (nxN N m) m = s := by
      unfold mPo
      rw [nx_e.1, e2, nI_clamp (by omega)]
    rw [e3, bAo (by omega)]
  | succ q ih =>
    intro z P N n hz hT hD h14 h15 h3 hq h7
    by_cases hc : nxc N m = -1
    · exact stop (q + 1) z P N n hT hD h15 hc (by omega)
    · obtain ⟨z, rfl⟩ : ∃ y, z = y + 1 := ⟨z - 1, by omega⟩
      obtain ⟨p0, n0⟩ := hT.z
      have kd : ¬ gI P (r + 1) 2 = -1 := fun y => hc ((ty_di hT).2.mp y)
      have e1 : rsL r (z + 1) n P = rsL r z (n + 1) (skM (rsS P r) r 59) := if_pos ⟨p0, kd⟩
      have e2 : ldL m (q + 1) N = ldL m q (sgS (nxN N m) m) := if_pos ⟨n0, hc⟩
      have n3 : ∀ j, j ≠ 4 → gI (nxN N m) m j = gI N m j := fun j hj => by unfold nxN; exact ps_n _ _ _ hj
      rw [e1, e2]
      obtain ⟨k, hk⟩ := h7
      have hk2 : gI (nxN N m) (m + 3) 7 = nI k := by rw [nx_e.2.2.1]; exact hk
      have pr := po_rz (rz_nx N m) hT hk
      rcases sd_ss hT.nx (by rw [nx_e.2.2.1]; exact hD) (by rw [n3 14 (by decide)]; exact h14) with ⟨t, d⟩ | e
      · have rw := rw_sg (nxN N m) m
        have f3 : gI (sgS (nxN N m) m) m 3 = nI L := by rw [rw.2.2.2 3 (by decide) (by decide) (by decide) (by decide) (by decide), n3 3 (by decide)]; exact h3
        have f14 : gI (sgS (nxN N m) m) m 14 = 0 := by rw [rw.2.2.2 14 (by decide) (by decide) (by decide) (by decide) (by decide), n3 14 (by decide)]; exact h14
        have f15 : gI (sgS (nxN N m) m) m 15 = n + 1 := by rw [sg_15, n3 15 (by decide), h15]
        have f7 : ∃ k, gI (sgS (nxN N m) m) (m + 3) 7 = nI k := by
          rcases d.2 with y | ⟨-, -, l, y, -⟩
          · exact ⟨0, y.2.2.2.2⟩
          · exact ⟨_, y.2.2.1⟩
        have fp : mPo (nxN N m) m + 1 ≤ mPo (sgS (nxN N m) m) m := by
          have hT0 := hT.nx
          obtain ⟨L', p, hL', hp, -, ⟨g3, g4⟩, -⟩ := hT0
          obtain ⟨p', a1, a2, a3, a4⟩ := sg_p hL' hp g3 g4 hk2
          have := a4 t.z.2
          unfold mPo
          rw [g4, a1, nI_clamp (by omega), nI_clamp (by omega)]
          exact this
        exact ih z _ _ (n + 1) (by omega) t d f14 f15 f3 (by omega) f7
      · right
        have x3 : ¬ gI (skM (rsS P r) r 59) r 3 = 0 := by rw [e.2.1]; exact e.1
        have eL : rsL r z (n + 1) (skM (rsS P r) r 59) = (n + 1, skM (rsS P r) r 59) := by
          cases z with
          | zero => rfl
          | succ z => exact if_neg (fun y => x3 y.1)
        rw [eL, ldL_e e.1]
        exact e
