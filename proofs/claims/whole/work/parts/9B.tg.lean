/-! ===== the guard's route, read by both ===== -/
theorem xe_ag (P : Mm) (r : Nat) (v : Int32) : xe (agM P (r + 28) v) P r := xe.e (gI_ag _ _ (by omega) (by omega))
theorem xe_gS (P : Mm) (r : Nat) (c : Int32) : xe (gdS P r c) P r := (xe_ag _ _ _).t (xe_rn _ _ _ _)
theorem me_g1 (N : Mm) (m : Nat) : me (ga1 N m) N m := by
  unfold ga1
  split
  · exact (me_re _ _ _ _).t (me_nu _ _ _ _)
  · exact me_nu _ _ _ _
theorem me_gL (N : Mm) (m : Nat) (h : ¬ gI N m 5 = 0) : ∀ q, gaL m q N = ga1 N m
  | 0 => rfl
  | q + 1 => by
    have := (me_g1 N m h).1
    unfold gaL
    exact if_pos (by rw [this]; exact h)
theorem gd_L (r : Nat) (c : Int32) {Q : Mm} (h : ¬ gI Q r 3 = 0) : ∀ f k, gdL r c f k Q = Q
  | 0, _ => rfl
  | f + 1, k => by
    unfold gdL
    exact if_neg (fun z => h z.1)
def gX (r : Nat) (c : Int32) (j : Nat) (Q : Mm) : Mm := gdL r c (10 - j) (j + 1) (gdS (gdF j Q r c) r c)
theorem gx_l {r m n : Nat} (hn : n ≤ 16) : ∀ (q j : Nat) (Q N : Mm), j + q = 10 → TY Q r N m → (1 ≤ j → inI (nxc N m) 48 57) → gI Q (r + 28) 1 = nI j → gI N (m + 3) 3 = nI j → gI N (m + 3) 0 = nI n → (∀ i, i < j → gI Q (r + 29) i = gI N (m + 3) (377 + i)) →
    (TY (gX r (nI n) j Q) r (gaL m q N) m ∧ (∃ w, 0 < w ∧ w ≤ 10 ∧ gI (gX r (nI n) j Q) (r + 28) 1 = nI w ∧ gI (gaL m q N) (m + 3) 3 = nI w ∧ ∀ i, i < w → gI (gX r (nI n) j Q) (r + 29) i = gI (gaL m q N) (m + 3) (377 + i)) ∧ (∀ q', q' ≠ r + 1 → q' ≠ r + 28 → q' ≠ r + 29 → gI (gX r (nI n) j Q) q' = gI Q q') ∧ ∀ i, i ≠ 3 → (i < 377 ∨ 387 ≤ i) → gI (gaL m q N) (m + 3) i = gI N (m + 3) i) ∨ ER (gX r (nI n) j Q) r (gaL m q N) m
  | 0, j, Q, N, hj, hT, hk, h28, h3, h0, hr => by
    have j10 : j = 10 := by omega
    subst j10
    right
    show ER (gdS (gdF 10 Q r (nI n)) r (nI n)) r (ga1 N m) m
    have eg : ga1 N m = reN (nuN N m 0 (nI n - 1)).2 m (-4) (gI (nuN N m 0 (nI n - 1)).2 m 13) := by
      unfold ga1
      rw [if_pos (show gI N (m + 3) 3 = 10 from h3), h0]
    rw [eg]
    have kd := (ty_di hT).1.mpr (hk (by decide))
    rcases ty_nu hT 0 (nI n - 1) with ⟨v, k1, k2, k3, k4, k5, k6, k7⟩ | e
    · have vn := rg1 k3 k1 (show n ≤ 1000 by omega)
      have eF : gdF 10 Q r (nI n) = flM Q r (-4) := if_pos ⟨rfl, by rw [k6]; exact (nI_ltI (by omega) (by omega)).mpr vn⟩
      rw [eF]
      have n5 : gI (nuN N m 0 (nI n - 1)).2 m 5 = 0 := k7.z.2
      rw [nu_13 hT n5]
      exact (er_fl hT (by decide) n5).k (xe_gS _ _ _) (me.r _ _)
    · have eF : gdF 10 Q r (nI n) = Q := by
        unfold gdF
        refine if_neg (fun z => ?_)
        -- a number in range is no error
        obtain ⟨L, s, hL, hs, e1, e2, g1, g2, hB, hTs, e3⟩ := hT.f
        have q := hk (by decide)
        have ny := nu_y 0 (nI n - 1) g2 q
        rw [e3] at q
        obtain ⟨d1, -, d3⟩ := ty_d hB hL hs hTs
        obtain ⟨q1, q2⟩ := d3 q
        obtain ⟨b1, -⟩ := nme hB hL (L - s) s 0 (by omega)
        have eV : nmV N m = nmL (gI N (m + 1)) L (L - s) s 0 := by
          unfold nmV
          rw [e1, e2]
        have x4 : gI Q (r + 1) 4 = (nmV N m).1 := by
          rw [eV, b1]
          exact hTs.2.2.2.1 q1 q2
        obtain ⟨k, hk9, ek⟩ := nm_c hB hL (L - s) s 0 (by omega) ⟨0, by decide, rfl⟩
        rw [← eV] at ek
        have z2 := z.2
        rw [x4, ek] at z2
        have kn := (nI_ltI (a := k) (b := n) (by omega) (by omega)).mp z2
        have inr : inI (nmV N m).1 0 (nI n - 1) := by
          rw [ek]
          refine ⟨nI_pos (by omega), fun y => ?_⟩
          have y1 := t_lt.mp y
          rw [t_sub (by rw [t_nI (by omega), show (1 : Int32).toInt = 1 from rfl]; omega) (by rw [t_nI (by omega), show (1 : Int32).toInt = 1 from rfl]; omega), t_nI (by omega), t_nI (by omega), show (1 : Int32).toInt = 1 from rfl] at y1
          omega
        rw [ny, if_pos inr] at e
        have m5 : gI (nm2 N m) m 5 = 0 := by
          unfold nm2 nm1
          rw [ps_n _ _ _ (by decide), gI_s, upd_n _ _ (by decide), upd_n _ _ (by decide)]
          exact g2
        exact e.1 m5
      rw [eF]
      exact e.k (xe_ag _ _ _) (me_re _ _ _ _)
  | q + 1, j, Q, N, hj, hT, hk, h28, h3, h0, hr => by
    have eF : gdF j Q r (nI n) = Q := if_neg (fun z => by omega)
    have eX : gX r (nI n) j Q = gdL r (nI n) (q + 1) (j + 1) (gdS Q r (nI n)) := by
      unfold gX
      rw [eF, show 10 - j = q + 1 by omega]
    have eg : ga1 N m = (nuN N m 0 (nI n - 1)).2 := by
      unfold ga1
      rw [if_neg (by rw [h3]; exact ne_12 (n := j) (N := 10) (by omega) (by decide)), h0]
    have eX2 : ∀ R : Mm, gI R r 3 = 0 ∧ gI R (r + 1) 2 = -2 → gdL r (nI n) (q + 1) (j + 1) R = gX r (nI n) (j + 1) R := fun R hR => by
      unfold gX
      rw [show 10 - (j + 1) = q by omega]
      show (if gI R r 3 = 0 ∧ gI R (r + 1) 2 = -2 then _ else _) = _
      rw [if_pos hR]
    rw [eX]
    rcases ty_nu hT 0 (nI n - 1) with ⟨v, k1, k2, k3, k4, k5, k6, k7⟩ | e
    · have eS : gdS Q r (nI n) = agM (nxM Q (r + 1)) (r + 28) (nI v) := by
        unfold gdS
        rw [k4]
      have a28 : gI (nxM Q (r + 1)) (r + 28) 1 = nI j := by rw [gI_nx _ (by omega)]; exact h28
      have eA : gdS Q r (nI n) = sI (sI (nxM Q (r + 1)) (r + 29) (upd (gI Q (r + 29)) j (nI v))) (r + 28) (upd (gI Q (r + 28)) 1 (nI j + 1)) := by
        rw [eS]
        unfold agM
        rw [a28, if_pos (show nI j < 10 from (nI_ltI (a := j) (b := 10) (by omega) (by decide)).mpr (by omega)), nI_clamp (show j < 2 ^ 31 by omega), show r + 28 + 1 = r + 29 from rfl, gI_nx _ (by omega), gI_nx _ (by omega)]
      generalize hR : gdS Q r (nI n) = R at eA
      have r28 : gI R (r + 28) = upd (gI Q (r + 28)) 1 (nI j + 1) := by rw [eA, gI_s]
      have r29 : gI R (r + 29) = upd (gI Q (r + 29)) j (nI v) := by rw [eA, gI_f _ _ (by omega), gI_s]
      have ro : ∀ q', q' ≠ r + 28 → q' ≠ r + 29 → gI R q' = gI (nxM Q (r + 1)) q' := fun q' h1 h2 => by rw [eA, gI_f _ _ h1, gI_f _ _ h2]
      have tR : TY R r (ga2 N m) m := by
        refine ((k7.cP (P' := R) ?_ ?_ ?_).cN ?_ ?_ ?_ ?_)
        · rw [ro _ (by omega) (by omega)]
        · rw [ro _ (by omega) (by omega)]
        · rw [ro _ (by omega) (by omega)]
        · unfold ga2; rw [gI_f _ _ (by omega), eg]
        · unfold ga2; rw [gI_f _ _ (by omega), eg]
        · unfold ga2; rw [gI_f _ _ (by omega), eg]
        · unfold ga2; rw [gI_f _ _ (by omega), eg]
      have g23 : gI (ga2 N m) (m + 3) = upd (upd (gI N (m + 3)) (377 + j) (nI v)) 3 (nI (j + 1)) := by
        unfold ga2
        rw [gI_s, h0, h3, k5, nI_clamp (show j < 2 ^ 31 by omega), show nI j + 1 = nI (j + 1) from nI_add j 1]
      have g15 : gI (ga1 N m) m 5 = 0 := by rw [eg]; exact k7.z.2
      have s28 : gI R (r + 28) 1 = nI (j + 1) := by rw [r28, upd_s]; exact nI_add j 1
      have s3 : gI (ga2 N m) (m + 3) 3 = nI (j + 1) := by rw [g23, upd_s]
      have s0 : gI (ga2 N m) (m + 3) 0 = nI n := by rw [g23, upd_n _ _ (by omega), upd_n _ _ (by omega)]; exact h0
      have sr : ∀ i, i < j + 1 → gI R (r + 29) i = gI (ga2 N m) (m + 3) (377 + i) := by
        intro i hi
        rw [r29, g23, upd_n (upd _ _ _) _ (show 377 + i ≠ 3 by omega)]
        by_cases e : i = j
        · subst e
          rw [upd_s, upd_s]
        · rw [upd_n _ _ e, upd_n _ _ (show 377 + i ≠ 377 + j by omega)]
          exact hr i (by omega)
      have fE : ∀ i, i ≠ 3 → (i < 377 ∨ 387 ≤ i) → gI (ga2 N m) (m + 3) i = gI N (m + 3) i := fun i h1 h2 => by rw [g23, upd_n _ _ h1, upd_n _ _ (by omega)]
      have fQ : ∀ q', q' ≠ r + 1 → q' ≠ r + 28 → q' ≠ r + 29 → gI R q' = gI Q q' := fun q' h1 h2 h3 => by rw [ro q' h2 h3, gI_nx _ h1]
      have eL : gaL m (q + 1) N = if inI (nxc (ga2 N m) m) 48 57 then gaL m q (nxN (ga2 N m) m) else nxN (ga2 N m) m := by
        show (if ¬ gI (ga1 N m) m 5 = 0 then _ else _) = _
        rw [if_neg (fun z => z g15)]
      have nx3 : gI (nxN (ga2 N m) m) (m + 3) = gI (ga2 N m) (m + 3) := nx_e.2.2.1
      rw [eL]
      obtain ⟨kd, -⟩ := ty_di tR
      by_cases p : inI (nxc (ga2 N m) m) 48 57
      · rw [if_pos p, eX2 R ⟨tR.z.1, kd.mpr p⟩]
        have nc : nxc (nxN (ga2 N m) m) m = nxc (ga2 N m) m := by
          obtain ⟨L, s, hL, hs, e1, e2, g1, g2, hB, hTs, e3⟩ := tR.f
          obtain ⟨L', s', hL', hs', e1', e2', g1', g2', hB', hTs', e3'⟩ := tR.nx.f
          have a := hTs.1.symm.trans hTs'.1
          have b := hTs.2.1.symm.trans hTs'.2.1
          have a2 := (nI_eq (by omega) (by omega)).mp a
          have b2 := (nI_eq (by omega) (by omega)).mp b
          rw [e3, e3', nx_e.2.1, a2, b2]
        rcases gx_l hn q (j + 1) R (nxN (ga2 N m) m) (by omega) tR.nx (fun _ => by rw [nc]; exact p) s28 (by rw [nx3]; exact s3) (by rw [nx3]; exact s0) (fun i hi => by rw [nx3]; exact sr i hi) with ⟨i1, i2, i3, i4⟩ | e
        · exact Or.inl ⟨i1, i2, fun q' h1 h2 h3 => (i3 q' h1 h2 h3).trans (fQ q' h1 h2 h3), fun i h1 h2 => by rw [i4 i h1 h2, nx3]; exact fE i h1 h2⟩
        · exact Or.inr e
      · have eD : gdL r (nI n) (q + 1) (j + 1) R = R := by
          unfold gdL
          exact if_neg (fun z => p (kd.mp z.2))
        rw [if_neg p, eD]
        exact Or.inl ⟨tR.nx, ⟨j + 1, by omega, by omega, s28, by rw [nx3]; exact s3, fun i hi => by rw [nx3]; exact sr i hi⟩, fQ, fun i h1 h2 => by rw [nx3]; exact fE i h1 h2⟩
    · right
      have e2 : ER (gdS Q r (nI n)) r (ga1 N m) m := by
        rw [eg]
        exact e.k (xe_ag _ _ _) (me.r _ _)
      have n3 : ¬ gI (gdS Q r (nI n)) r 3 = 0 := by rw [e2.2.1]; exact e2.1
      have eL : gaL m (q + 1) N = ga1 N m := if_pos e2.1
      rw [gd_L r (nI n) n3, eL]
      exact e2
theorem dS.gu {P Q : Mm} {r n f t w : Nat} {E F : Nat → Int32} (h : dS P r E n f t 0) (hw0 : 0 < w) (hw : w ≤ 10) (q28 : gI Q (r + 28) 1 = nI w) (f3 : F 3 = nI w) (q29 : ∀ i, i < w → gI Q (r + 29) i = F (377 + i)) (qo : ∀ q, r + 4 ≤ q → q ≤ r + 27 → gI Q q = gI P q) (f12 : F 12 = 1) (fo : ∀ i, i ≠ 3 → i ≠ 12 → (i < 377 ∨ 387 ≤ i) → F i = E i) : dS Q r F n f t w := by
  obtain ⟨⟨b1, b2, b3, b4⟩, ⟨c1, c2, c3, c4⟩, ⟨e0, e1, e2, e3⟩, hC, hFi, hT, hcy, hG, h12, hz4, hZ⟩ := h
  refine ⟨⟨b1, b2, b3, hw⟩, ⟨by rw [qo _ (by omega) (by omega)]; exact c1, by rw [qo _ (by omega) (by omega)]; exact c2, by rw [qo _ (by omega) (by omega)]; exact c3, q28⟩, ⟨by rw [fo 0 (by omega) (by omega) (by omega)]; exact e0, by rw [fo 1 (by omega) (by omega) (by omega)]; exact e1, by rw [fo 2 (by omega) (by omega) (by omega)]; exact e2, f3⟩, fun i hi => (hC i hi).e (fun j a1 a2 => fo j (by omega) (by omega) (by omega)) (fun q a1 a2 => by rw [qo q (by omega) (by omega)]), fun i hi => (hFi i hi).e (fun j a1 a2 => fo j (by omega) (by omega) (by omega)) (fun q a1 a2 => by rw [qo q (by omega) (by omega)]), fun i hi => (hT i hi).e (fun j a1 a2 => fo j (by omega) (by omega) (by omega)) (fun q a1 a2 => by rw [qo q (by omega) (by omega)]), ?_, q29, Or.inr ⟨f12, hw0⟩, by rw [fo 4 (by omega) (by omega) (by omega)]; exact hz4, fun j a1 a2 a3 => ?_⟩
  · rw [qo _ (by omega) (by omega), hcy]
    exact iS_e _ _ (fun i _ hi => (fo _ (by omega) (by omega) (by omega)).symm)
  · rw [fo j (fun e => a2 (by unfold stI; omega)) a3 (by
      rcases Nat.lt_or_ge j 377 with y | y
      · exact Or.inl y
      · rcases Nat.lt_or_ge j 387 with y2 | y2
        · exact absurd (show stI j by unfold stI; omega) a2
        · exact Or.inr y2)]
    exact hZ j a1 a2 a3
/-- the guard, read by both; there was none so far -/
theorem sd_gu {P N : Mm} {r m : Nat} {s : Int32} (hT : TY (nxM P (r + 1)) r N m) (hD : DD P r (gI N (m + 3))) (h28 : gI P (r + 28) 1 = 0) : (TY (gdM P r) r (guM N m s) m ∧ DD (gdM P r) r (gI (guM N m s) (m + 3))) ∨ ER (gdM P r) r (guM N m s) m := by
  obtain ⟨⟨n, f, t, w, hd⟩, hi⟩ := hD
  have hw : w ≤ 10 := hd.1.2.2.2
  have w0 : w = 0 := (nI_sI (show w < 2 ^ 31 by omega)).mp (hd.2.1.2.2.2.symm.trans h28)
  subst w0
  have e12 : gI N (m + 3) 12 = 0 := by
    rcases hd.2.2.2.2.2.2.2.2.1 with z | z
    · exact z.1
    · exact absurd z.2 (by decide)
  have eS : st2N N m 12 s = N := if_neg (by rw [e12]; decide)
  have e0 : gI N (m + 3) 0 = nI n := hd.2.2.1.1
  have e3 : gI N (m + 3) 3 = nI 0 := hd.2.2.1.2.2.2
  have hn : n ≤ 16 := hd.1.1
  unfold guM gdM
  rw [eS, e3, show 10 - (nI 0).toNatClampNeg = 10 from rfl, show gI P (r + 4) 8 = nI n from hd.2.1.1]
  have p3 : gI (puV m N 12 1) (m + 3) = upd (gI N (m + 3)) 12 1 := pv_3 _ _ _ _
  have eG : gdL r (nI n) 10 1 (gdS (nxM P (r + 1)) r (nI n)) = gX r (nI n) 0 (nxM P (r + 1)) := by
    unfold gX
    rw [show gdF 0 (nxM P (r + 1)) r (nI n) = nxM P (r + 1) from if_neg (fun z => absurd z.1 (by decide))]
  rw [eG]
  rcases gx_l hn 10 0 (nxM P (r + 1)) (puV m N 12 1) rfl (ty_pv hT) (fun z => absurd z (by decide)) (by rw [gI_nx _ (by omega)]; exact h28) (by rw [p3, upd_n _ _ (by decide)]; exact e3) (by rw [p3, upd_n _ _ (by decide)]; exact e0) (fun i hi => absurd hi (Nat.not_lt_zero i)) with ⟨i1, ⟨w, w1, w2, w3, w4, w5⟩, i3, i4⟩ | e
  · left
    have fo : ∀ i, i ≠ 3 → i ≠ 12 → (i < 377 ∨ 387 ≤ i) → gI (gaL m 10 (puV m N 12 1)) (m + 3) i = gI N (m + 3) i := fun i h1 h2 h3 => by rw [i4 i h1 h3, p3, upd_n _ _ h2]
    have qo : ∀ q, q ≠ r + 1 → q ≠ r + 28 → q ≠ r + 29 → gI (gX r (nI n) 0 (nxM P (r + 1))) q = gI P q := fun q h1 h2 h3 => by rw [i3 q h1 h2 h3, gI_nx _ h1]
    refine ⟨i1, ⟨n, f, t, w, hd.gu w1 w2 w3 w4 w5 (fun q h1 h2 => qo q (by omega) (by omega) (by omega)) (by rw [i4 12 (by decide) (by decide), p3, upd_s]) fo⟩, ?_⟩
    exact (hi.e (by rw [qo r (by omega) (by omega) (by omega)]) (qo _ (by omega) (by omega) (by omega)) (qo _ (by omega) (by omega) (by omega))).E (fun j hj => fo j (by omega) (by omega) (by omega))
  · exact Or.inr e
/-- a second guard -/
theorem sd_g2 {P N : Mm} {r m : Nat} {s : Int32} (p0 : gI P r 3 = 0) (n0 : gI N m 5 = 0) (hs : gI P (r + 1) 3 = s) (h12 : gI N (m + 3) 12 = 1) : ER (flM P r (-2)) r (guM N m s) m := by
  have eS : st2N N m 12 s = reN N m (-2) s := if_pos h12
  have e := er_f2 (c := -2) p0 n0 hs (by decide)
  unfold guM
  rw [eS]
  have e5 : ¬ gI (puV m (reN N m (-2) s) 12 1) m 5 = 0 := by
    rw [((me_pv _ m 12 1) e.1).1]
    exact e.1
  rw [me_gL _ _ e5]
  exact e.k (xe.r _ _) ((me_g1 _ _).t (me_pv _ _ _ _))
