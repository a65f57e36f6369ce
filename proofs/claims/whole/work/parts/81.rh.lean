/-! ===== a canal's step: arriving and taking, a State and a row ===== -/
def arV (D : Nat → Int32) (c : Nat) : Nat → Int32 := upd (upd D (13 + 13 * c + 5) (D (13 + 13 * c + 6))) (13 + 13 * c + 6) 0
theorem sd_ar (D : Nat → Int32) {c : Nat} (hc : c < 16) : SD D (arV D c) := (SD.u _ _ (ns_c hc (by decide) (by decide))).t (SD.u _ _ (ns_c hc (by decide) (by decide)))
theorem ar_5 (D : Nat → Int32) (c : Nat) : arV D c (13 + 13 * c + 5) = D (13 + 13 * c + 6) := by unfold arV; rw [upd_n _ _ (by omega), upd_s]
theorem ar_6 (D : Nat → Int32) (c : Nat) : arV D c (13 + 13 * c + 6) = 0 := by unfold arV; rw [upd_s]
theorem ar_o (D : Nat → Int32) {c j : Nat} (h5 : j ≠ 13 + 13 * c + 5) (h6 : j ≠ 13 + 13 * c + 6) : arV D c j = D j := by unfold arV; rw [upd_n _ _ h6, upd_n _ _ h5]
theorem ps_5 {c : Nat} (hc : c < 16) : 13 + 13 * c + 5 ∉ PL := fun h => by
  rcases PL_n h with e | e | e | ⟨i, k, hi, hk, e⟩ | ⟨g, hg, e⟩ <;> omega
theorem ar_w {D : Nat → Int32} {c : Nat} {q : Int} (hc : c < 16) (h : WL D q) : WL (arV D c) (q + (D (13 + 13 * c + 6)).toInt) := by
  have w1 := h.n (j := 13 + 13 * c + 5) (D (13 + 13 * c + 6)) (ps_5 hc) (by omega)
  have e : upd D (13 + 13 * c + 5) (D (13 + 13 * c + 6)) (13 + 13 * c + 6) = D (13 + 13 * c + 6) := upd_n _ _ (by omega)
  have w2 := (w1.s (j := 13 + 13 * c + 6) (v := D (13 + 13 * c + 6)) (PL_c (k := 0) hc (by decide)) (h.1 _ (PL_c (k := 0) hc (by decide))) (by rw [e]; exact Int.le_refl _)).1
  rw [e, Int32.sub_self] at w2
  exact w2
theorem ar_p {D : Nat → Int32} {n c : Nat} {Z : Nat → Prop} (h : PI D n Z) (hd0 : ∀ k, k < n → ¬ D (13 + 13 * k + 1) = nI 0) : PI (arV D c) n Z := by
  intro k d hk hd hd6
  rw [ar_o _ (by omega) (by omega)] at hd
  obtain ⟨h1, h2, h3⟩ := h k d hk hd hd6
  have d0 : d ≠ 0 := fun e => hd0 k hk (by rw [hd, e])
  refine ⟨fun i hi => ?_, fun i a1 a2 => ?_, fun z => ?_⟩
  · by_cases e : 13 + 13 * k + 6 + i = 13 + 13 * c + 6
    · rw [e, ar_6]
      decide
    · rw [ar_o _ (by omega) e]
      exact h1 i hi
  · rw [ar_o _ (by omega) (by omega)]
    exact h2 i a1 a2
  · rw [ar_o _ (by omega) (by omega)]
    exact h3 z
theorem WD.d0 {D : Nat → Int32} {n f r w g : Nat} (h : WD D n f r w g) : ∀ k, k < n → ¬ D (13 + 13 * k + 1) = nI 0 := fun k hk e => by
  obtain ⟨d, d1, d2, d3⟩ := (h.2.2.2.1 k hk).1
  have := (nI_eq (show d < 2 ^ 31 by omega) (by decide)).mp (d3.symm.trans e)
  omega
theorem la_m {M : Mm} {b : Nat} {D0 D L : Nat → Int32} {n f r w g h c : Nat} {q : Int} {Z : Nat → Prop} (hD : WD D0 n f r w g) (hh : h < 200000) (hM : RM M b D0 D L n f r w h q Z) (hc : c < n) :
    laV M b c = D (13 + 13 * c + 6) ∧ RM (laM M b c) b D0 (arV D c) L n f r w h (q + (D (13 + 13 * c + 6)).toInt) Z ∧ 0 ≤ (D (13 + 13 * c + 6)).toInt ∧ (D (13 + 13 * c + 6)).toInt ≤ 9999 := by
  obtain ⟨m1, m2, m3, m4, m5, m6, m7⟩ := hM
  have hn : n ≤ 16 := hD.1.1
  have hD2 := hD.sd m1
  obtain ⟨r1, r2, r3, r4, r5, r6, r7, r8⟩ := m3
  have eS : (slotv (nI c) (gI M b 6)).toNatClampNeg = 7 * c + h % 7 := by rw [m5, sl_n (by omega) (by omega), nI_clamp (by omega)]
  have eV : gI M (b + 9) (7 * c + h % 7) = D (13 + 13 * c + 6) := r2 c 0 hc (by decide)
  have s1 := sd_ar D (show c < 16 by omega)
  obtain ⟨d, d1, d2, d3⟩ := (hD2.2.2.2.1 c hc).1
  have eM : laM M b c = sI (sI M (b + 7) (upd (gI M (b + 7)) c (D (13 + 13 * c + 6)))) (b + 9) (upd (gI M (b + 9)) (7 * c + h % 7) 0) := by
    unfold laM
    rw [eS, eV]
  have gO : ∀ j, j ≠ 7 → j ≠ 9 → gI (laM M b c) (b + j) = gI M (b + j) := fun j h7 h9 => by rw [eM, gI_f _ _ (by omega), gI_f _ _ (by omega)]
  have g7 : gI (laM M b c) (b + 7) = upd (gI M (b + 7)) c (D (13 + 13 * c + 6)) := by rw [eM, gI_f _ _ (by omega), gI_s]
  have g9 : gI (laM M b c) (b + 9) = upd (gI M (b + 9)) (7 * c + h % 7) 0 := by rw [eM, gI_s]
  have gJe : gJ (laM M b c) = gJ M := by rw [eM]; rfl
  have ss : SS M (laM M b c) b := (SS.i M b 7 _ (by decide) rfl).t (SS.i _ b 9 _ (by decide) rfl)
  refine ⟨by unfold laV; rw [eS, eV], ⟨m1.t s1, (m2.ss ss).sd hn hD.1.2.1 hD.1.2.2.1 hD.1.2.2.2.1 hD2.2.1.2.2.1 s1, ⟨fun i hi => ?_, fun i k hi hk => ?_, fun i hi => ?_, fun v hv => ?_, ?_, ?_, ?_, ?_⟩, fun k hk => by rw [gO 8 (by decide) (by decide)]; exact m4 k hk, by rw [show gI (laM M b c) b = gI M b from gO 0 (by decide) (by decide)]; exact m5, ar_w (by omega) m6, ar_p m7 hD2.d0⟩, m6.1 _ (PL_c (k := 0) (by omega) (by decide)), (m7 c d hc d3 d2).1 0 (by decide)⟩
  · rw [g7]
    by_cases e : i = c
    · subst e
      rw [upd_s, ar_5]
    · rw [upd_n _ _ e, ar_o _ (by omega) (by omega)]
      exact r1 i hi
  · rw [g9]
    by_cases e : i = c ∧ k = 0
    · obtain ⟨rfl, rfl⟩ := e
      show upd (gI M (b + 9)) (7 * i + h % 7) 0 (7 * i + h % 7) = _
      rw [upd_s]
      exact (ar_6 D i).symm
    · rw [upd_n _ _ (by omega), ar_o _ (by omega) (by omega)]
      exact r2 i k hi hk
  · rw [gO 18 (by decide) (by decide), gO 19 (by decide) (by decide), gO 20 (by decide) (by decide), gO 21 (by decide) (by decide), ar_o _ (by omega) (by omega), ar_o _ (by omega) (by omega), ar_o _ (by omega) (by omega), ar_o _ (by omega) (by omega)]
    exact r3 i hi
  · rw [gO 31 (by decide) (by decide), ar_o _ (by omega) (by omega)]
    exact r4 v hv
  · rw [gJe, ar_o _ (by omega) (by omega)]; exact r5
  · rw [gJe, ar_o _ (by omega) (by omega)]; exact r6
  · rw [gJe, ar_o _ (by omega) (by omega)]; exact r7
  · rw [gJe, ar_o _ (by omega) (by omega)]; exact r8
theorem PI.e2 {D E : Nat → Int32} {n : Nat} {Z : Nat → Prop} (h : PI D n Z) (g : ∀ j, j < 221 → E j = D j) (hn : n ≤ 16) : PI E n Z := h.e fun k hk => ⟨g _ (by omega), fun i hi => g _ (by omega)⟩
theorem tk_m {N : Mm} {b : Nat} {D0 D L O : Nat → Int32} {n f r w g h c : Nat} {a v : Int32} {Z : Nat → Prop} (hD : WD D0 n f r w g) (hB : NB D0 n f) (hM : RM N b D0 D L n f r w h a.toInt Z) (h0 : 0 ≤ a.toInt) (hO : ∀ k, k < f → (¬ bG N (b + 10) k v = 0 ↔ ¬ O k = 0)) :
    (tkR N (b + 10) (nI c) a v).1 = (irR D O (nI c) a v).1 ∧ RM (w3 N (b + 10) (tkR N (b + 10) (nI c) a v).2.1 (tkR N (b + 10) (nI c) a v).2.2.1 (tkR N (b + 10) (nI c) a v).2.2.2) b D0 (irR D O (nI c) a v).2 L n f r w h (irR D O (nI c) a v).1.toInt Z ∧ 0 ≤ (irR D O (nI c) a v).1.toInt ∧ (irR D O (nI c) a v).1.toInt ≤ a.toInt := by
  obtain ⟨m1, m2, m3, m4, m5, m6, m7⟩ := hM
  have hn : n ≤ 16 := hD.1.1
  have hf : f ≤ 12 := hD.1.2.1
  have hD2 := hD.sd m1
  have hB2 := hB.sd hn hf m1
  have tk := tk_r (c := c) (a := a) m2 m3 hf hD2.2.1.2.1 hO
  have w1 := irR_w hD2 hB2 O (nI c) a v m6 h0
  have s1 := sd_ir hD2 O (nI c) a v
  generalize irR D O (nI c) a v = z at tk w1 s1
  generalize tkR N (b + 10) (nI c) a v = q at tk
  obtain ⟨t1, t2, t3⟩ := tk
  obtain ⟨r1, r2, r3, r4, r5, r6, r7, r8⟩ := m3
  have gO : ∀ j, j ≠ 18 → j ≠ 19 → j ≠ 20 → gI (w3 N (b + 10) q.2.1 q.2.2.1 q.2.2.2) (b + j) = gI N (b + j) := fun j h7 h8 h9 => by
    unfold w3
    rw [gI_f _ _ (by omega), gI_f _ _ (by omega), gI_f _ _ (by omega)]
  have g18 : gI (w3 N (b + 10) q.2.1 q.2.2.1 q.2.2.2) (b + 18) = q.2.1 := by
    unfold w3
    rw [gI_f _ _ (by omega), gI_f _ _ (by omega)]
    exact gI_s _ _ _
  have g19 : gI (w3 N (b + 10) q.2.1 q.2.2.1 q.2.2.2) (b + 19) = q.2.2.1 := by
    unfold w3
    rw [gI_f _ _ (by omega)]
    exact gI_s _ _ _
  have g20 : gI (w3 N (b + 10) q.2.1 q.2.2.1 q.2.2.2) (b + 20) = q.2.2.2 := gI_s _ _ _
  have ss : SS N (w3 N (b + 10) q.2.1 q.2.2.1 q.2.2.2) b := ((SS.i N b 18 _ (by decide) rfl).t (SS.i _ b 19 _ (by decide) rfl)).t (SS.i _ b 20 _ (by decide) rfl)
  have gJe : gJ (w3 N (b + 10) q.2.1 q.2.2.1 q.2.2.2) = gJ N := rfl
  have zO : ∀ j, (j < 221 ∨ 353 ≤ j) → z.2 j = D j := fun j hj => t3 j (fun i hi => by omega)
  refine ⟨t1, ⟨m1.t s1, (m2.ss ss).sd hn hD.1.2.1 hD.1.2.2.1 hD.1.2.2.2.1 hD2.2.1.2.2.1 s1, ⟨fun i hi => ?_, fun i k hi hk => ?_, fun i hi => ?_, fun v hv => ?_, ?_, ?_, ?_, ?_⟩, fun k hk => by rw [gO 8 (by decide) (by decide) (by decide)]; exact m4 k hk, by rw [show gI (w3 N (b + 10) q.2.1 q.2.2.1 q.2.2.2) b = gI N b from gO 0 (by decide) (by decide) (by decide)]; exact m5, w1.1, m7.e2 (fun j hj => zO j (Or.inl hj)) hn⟩, w1.2.1, w1.2.2⟩
  · rw [gO 7 (by decide) (by decide) (by decide), zO _ (by omega)]
    exact r1 i hi
  · rw [gO 9 (by decide) (by decide) (by decide), zO _ (by omega)]
    exact r2 i k hi hk
  · obtain ⟨a1, a2, a3⟩ := t2 i hi
    rw [g18, g19, g20, gO 21 (by decide) (by decide) (by decide), t3 (221 + 11 * i + 10) (fun k hk => by omega)]
    exact ⟨a1, a2, a3, (r3 i hi).2.2.2⟩
  · rw [gO 31 (by decide) (by decide) (by decide), zO _ (by omega)]
    exact r4 v hv
  · rw [gJe, zO _ (by omega)]; exact r5
  · rw [gJe, zO _ (by omega)]; exact r6
  · rw [gJe, zO _ (by omega)]; exact r7
  · rw [gJe, zO _ (by omega)]; exact r8
