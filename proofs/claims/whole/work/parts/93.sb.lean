/-! ===== copies of a State show the same row ===== -/
theorem XR.ce {N M : Mm} {b o : Nat} {D : Nat → Int32} {n f r w g h : Nat} (hX : XR M o D n f r w g h) (c : CE N b M o) : XR N b D n f r w g h := by
  obtain ⟨hW, hB, ⟨⟨s1, s2, s3, s4⟩, a1, a2, a3, a4, a5⟩, ⟨r1, r2, r3, r4, r5, r6, r7, r8⟩, hF, ⟨t6, t5, hh⟩, ⟨gp, gw⟩, hwl, hP, hFW, hRT⟩ := hX
  have hn : n ≤ 16 := hW.1.1
  have hf : f ≤ 12 := hW.1.2.1
  have hr : r ≤ 12 := hW.1.2.2.1
  have hw : w ≤ 10 := hW.1.2.2.2.1
  obtain ⟨c1, c2, c3, c4, c5, c6, c7, c8, c9, c10, c11, c12, c13, c14, c15, c16, c17⟩ := c
  refine ⟨hW, hB, ⟨⟨c3.trans s1, c6.trans s2, c8.trans s3, c11.trans s4⟩, fun i hi => ?_, fun i hi => ?_, fun i hi => ?_, c9.trans a4, fun i hi => (c10 i (by omega)).trans (a5 i hi)⟩, ⟨fun i hi => ?_, fun i k hi hk => (c2 _ (by omega)).trans (r2 i k hi hk), fun i hi => ?_, fun v hv => (c15 v hv).trans (r4 v hv), (c16 1 (by decide) (by decide)).trans r5, (c16 2 (by decide) (by decide)).trans r6, (c16 3 (by decide) (by decide)).trans r7, (c16 4 (by decide) (by decide)).trans r8⟩, hF, ⟨c17.trans t6, t5, hh⟩, ⟨c12.trans gp, gw⟩, hwl, hP, ?_, hRT⟩
  · obtain ⟨x1, x2, x3, x4, x5, -⟩ := c1 i (by omega)
    rw [x1, x2, x3, x4, x5]
    exact a1 i hi
  · obtain ⟨x1, x2, x3, x4, x5, x6, x7, -⟩ := c4 i (by omega)
    rw [x1, x2, x3, x4, x5, x6, x7]
    exact a2 i hi
  · obtain ⟨x1, x2⟩ := c7 i (by omega)
    rw [x1, x2]
    exact a3 i hi
  · rw [(c1 i (by omega)).2.2.2.2.2]
    exact r1 i hi
  · obtain ⟨-, -, -, -, -, -, -, x1, x2, x3⟩ := c4 i (by omega)
    obtain ⟨y1, y2, y3, y4⟩ := r3 i hi
    have x4 := c5 i (by rw [s2, nI_clamp (show f < 2 ^ 31 by omega)]; exact hi)
    rw [x1, x2, x3, x4, y4]
    refine ⟨y1, y2, y3, ?_⟩
    rcases hF i hi with e | e <;> rw [e] <;> rfl
  · rcases hFW with ⟨f1, f2, f3⟩ | ⟨f1, l, ⟨f2, f3, f4, f5, f6⟩, f7, f8, f9⟩
    · refine Or.inl ⟨f1, c14.trans f2, ?_⟩
      have := c13 0 (by rw [f2]; decide)
      exact this.trans f3
    · refine Or.inr ⟨f1, l, ⟨c14.trans f2, fun i t e => ?_, f4, f5, f6⟩, f7, f8, f9⟩
      have il : i < l.length := by
        rcases Nat.lt_or_ge i l.length with z | z
        · exact z
        · rw [List.getElem?_eq_none z] at e
          cases e
      have := c13 i (by rw [f2, nI_clamp (show l.length < 2 ^ 31 by omega)]; exact il)
      exact this.trans (f3 i t e)
theorem XR.eq {N M : Mm} {b : Nat} {D : Nat → Int32} {n f r w g h : Nat} (hX : XR M b D n f r w g h) (hi : ∀ k, k < 32 → gI N (b + k) = gI M (b + k)) (hj : gJ N (b + 30) = gJ M (b + 30)) : XR N b D n f r w g h := by
  obtain ⟨hW, hB, hs, hd, hF, ⟨t6, t5, hh⟩, ⟨gp, gw⟩, hwl, hP, hFW, hRT⟩ := hX
  have h0 : gI N b = gI M b := hi 0 (by decide)
  obtain ⟨⟨s1, s2, s3, s4⟩, a1, a2, a3, a4, a5⟩ := hs
  obtain ⟨r1, r2, r3, r4, r5, r6, r7, r8⟩ := hd
  refine ⟨hW, hB, ?_, ?_, hF, ⟨by rw [h0]; exact t6, t5, hh⟩, ⟨by rw [hi 25 (by decide)]; exact gp, gw⟩, hwl, hP, hFW.e (by rw [hi 27 (by decide)]) (by rw [show b + 27 + 1 = b + 28 from rfl, hi 28 (by decide)]) rfl rfl (fun _ => rfl), hRT⟩
  · unfold RSs
    rw [hi 1 (by decide), hi 10 (by decide), hi 22 (by decide), hi 25 (by decide), hi 2 (by decide), hi 3 (by decide), hi 4 (by decide), hi 5 (by decide), hi 6 (by decide), hi 11 (by decide), hi 12 (by decide), hi 13 (by decide), hi 14 (by decide), hi 15 (by decide), hi 16 (by decide), hi 17 (by decide), hi 23 (by decide), hi 24 (by decide), hi 26 (by decide)]
    exact ⟨⟨s1, s2, s3, s4⟩, a1, a2, a3, a4, a5⟩
  · unfold RSd
    rw [hi 7 (by decide), hi 9 (by decide), hi 18 (by decide), hi 19 (by decide), hi 20 (by decide), hi 21 (by decide), hi 31 (by decide), hj]
    exact ⟨r1, r2, r3, r4, r5, r6, r7, r8⟩
theorem XR.cp {M : Mm} {b o : Nat} {D : Nat → Int32} {n f r w g h : Nat} (hX : XR M o D n f r w g h) (ha : apt b 32 o 32) : XR (cpS M b o) b D n f r w g h := hX.ce (ce_S M ha)
/-- a row that agrees where a row may be read -/
theorem WD.ag9 {D E : Nat → Int32} {n f r w g : Nat} (h : WD D n f r w g) (e : ag9 E D) : WD E n f r w g := by
  obtain ⟨h1, ⟨e0, e1, e2, e3, e4⟩, h3, h4, h5, h6⟩ := h
  obtain ⟨n1, n2, n3, n4, n5⟩ := h1
  refine ⟨⟨n1, n2, n3, n4, n5⟩, ⟨by rw [e 0 (by decide)]; exact e0, by rw [e 1 (by decide)]; exact e1, by rw [e 2 (by decide)]; exact e2, by rw [e 3 (by decide)]; exact e3, by rw [e 4 (by decide)]; exact e4⟩, h3, fun c hc => ?_, fun k hk => ?_, fun k hk => ?_⟩
  · rw [e (13 + 13 * c + 1) (by omega), e (13 + 13 * c) (by omega)]
    exact h4 c hc
  · rw [e (221 + 11 * k) (by omega), e (221 + 11 * k + 1) (by omega), e (221 + 11 * k + 6) (by omega)]
    exact h5 k hk
  · rw [e (353 + 2 * k + 1) (by omega)]
    exact h6 k hk
theorem cy_ag {D E : Nat → Int32} {r : Nat} (h2 : D 2 = nI r) (hr : r ≤ 12) (e : ag9 E D) : cyD E = cyD D := by
  unfold cyD
  rw [e 2 (by decide), h2, nI_clamp (show r < 2 ^ 31 by omega), it_s, it_s]
  congr 1
  exact iS_e _ _ (fun i a1 a2 => e _ (by omega))
theorem sumP_e {D E : Nat → Int32} : ∀ l : List Nat, (∀ j ∈ l, E j = D j) → sumP E l = sumP D l
  | [], _ => rfl
  | i :: l, h => by
    unfold sumP
    rw [h i List.mem_cons_self, sumP_e l (fun j hj => h j (List.mem_cons_of_mem _ hj))]
theorem PL_b {j : Nat} (h : j ∈ PL) : j < 1793 := by
  rcases PL_n h with e | e | e | ⟨c, k, hc, hk, e⟩ | ⟨x, hx, e⟩ <;> omega
theorem XR.ag {M : Mm} {b : Nat} {D E : Nat → Int32} {n f r w g h : Nat} (hX : XR M b D n f r w g h) (e : ag9 E D) : XR M b E n f r w g h := by
  obtain ⟨hW, hB, ⟨⟨s1, s2, s3, s4⟩, a1, a2, a3, a4, a5⟩, ⟨r1, r2, r3, r4, r5, r6, r7, r8⟩, hF, ⟨t6, t5, hh⟩, hg, ⟨wl, w8⟩, hP, hFW, hRT⟩ := hX
  have hn : n ≤ 16 := hW.1.1
  have hf : f ≤ 12 := hW.1.2.1
  have hr : r ≤ 12 := hW.1.2.2.1
  have hw : w ≤ 10 := hW.1.2.2.2.1
  refine ⟨hW.ag9 e, ⟨fun c hc => ?_, fun k hk => ?_⟩, ⟨⟨s1, s2, s3, s4⟩, fun i hi => ?_, fun i hi => ?_, fun i hi => ?_, a4.trans (cy_ag hW.2.1.2.2.1 hr e).symm, fun i hi => ?_⟩, ⟨fun i hi => ?_, fun i k hi hk => ?_, fun i hi => ?_, fun v hv => ?_, ?_, ?_, ?_, ?_⟩, fun k hk => ?_, ⟨t6, ?_, hh⟩, hg, ⟨⟨fun j hj => ?_, ?_, ?_⟩, ?_⟩, ?_, ?_, fun k hk => ?_⟩
  · rw [e _ (by omega), e _ (by omega), e _ (by omega)]; exact hB.1 c hc
  · rw [e _ (by omega), e _ (by omega), e _ (by omega), e _ (by omega)]; exact hB.2 k hk
  · rw [e (13 + 13 * i) (by omega), e (13 + 13 * i + 1) (by omega), e (13 + 13 * i + 2) (by omega), e (13 + 13 * i + 3) (by omega), e (13 + 13 * i + 4) (by omega)]; exact a1 i hi
  · rw [e (221 + 11 * i) (by omega), e (221 + 11 * i + 1) (by omega), e (221 + 11 * i + 2) (by omega), e (221 + 11 * i + 3) (by omega), e (221 + 11 * i + 4) (by omega), e (221 + 11 * i + 5) (by omega), e (221 + 11 * i + 6) (by omega)]; exact a2 i hi
  · rw [e (353 + 2 * i) (by omega), e (353 + 2 * i + 1) (by omega)]; exact a3 i hi
  · rw [e _ (by omega)]; exact a5 i hi
  · rw [e _ (by omega)]; exact r1 i hi
  · rw [e _ (by omega)]; exact r2 i k hi hk
  · rw [e (221 + 11 * i + 7) (by omega), e (221 + 11 * i + 8) (by omega), e (221 + 11 * i + 9) (by omega), e (221 + 11 * i + 10) (by omega)]; exact r3 i hi
  · rw [e _ (by omega)]; exact r4 v hv
  · rw [e 8 (by decide)]; exact r5
  · rw [e 9 (by decide)]; exact r6
  · rw [e 10 (by decide)]; exact r7
  · rw [e 11 (by decide)]; exact r8
  · rw [e _ (by omega)]; exact hF k hk
  · rw [e 5 (by decide)]; exact t5
  · rw [e j (PL_b hj)]; exact wl.1 j hj
  · rw [e 8 (by decide), sumP_e PL (fun j hj => e j (PL_b hj))]; exact wl.2.1
  · rw [e 8 (by decide)]; exact wl.2.2
  · rw [e 8 (by decide)]; exact w8
  · exact hP.e (fun k hk => ⟨e _ (by omega), fun i hi => e _ (by omega)⟩)
  · rcases hFW with ⟨f1, f2, f3⟩ | ⟨f1, l, ⟨f2, f3, f4, f5, f6⟩, f7, f8, f9⟩
    · exact Or.inl ⟨by rw [e 6 (by decide)]; exact f1, f2, f3⟩
    · refine Or.inr ⟨by rw [e 6 (by decide)]; exact f1, l, ⟨f2, f3, by rw [e 7 (by decide)]; exact f4, fun i c hc => ?_, f6⟩, f7, f8, f9⟩
      have il : i < (enc l).length := by
        rcases Nat.lt_or_ge i (enc l).length with z | z
        · exact z
        · rw [List.getElem?_eq_none z] at hc
          cases hc
      rw [e _ (by omega)]
      exact f5 i c hc
  · rw [e _ (by omega)]; exact hRT k hk
