/-! ===== an hour: a State and a row ===== -/
def RT (D : Nat → Int32) (r : Nat) : Prop := ∀ k, k < r → ∃ v, v < 6 ∧ D (353 + 2 * k) = nI v
/-- a State shows a row between two hours -/
def XR (M : Mm) (b : Nat) (D : Nat → Int32) (n f r w g h : Nat) : Prop :=
  WD D n f r w g ∧ NB D n f ∧ RSs M b D n f r w ∧ RSd M b D n f h ∧ FO1 D f ∧ (gI M b 6 = nI h ∧ D 5 = nI h ∧ h ≤ 100200) ∧ (gI M (b + 25) 2 = nI g ∧ (w = 0 → g = 0)) ∧ (WL D 0 ∧ (D 8).toInt ≤ 9999 * h) ∧ PI D n (fun _ => True) ∧ FW M (b + 27) D ∧ RT D r
theorem vil_r (M : Mm) (r : Nat) : ∀ q k (x : Int32), vilR M r q k x = -1 ∨ ∃ i, k ≤ i ∧ i < k + q ∧ vilR M r q k x = gI M (r + 1) i
  | 0, _, _ => Or.inl rfl
  | q + 1, k, x => by
    unfold vilR
    split
    · exact Or.inr ⟨k, Nat.le_refl _, by omega, rfl⟩
    · rcases vil_r M r q (k + 1) (x - gI M (r + 2) k) with h | ⟨i, h1, h2, h3⟩
      · exact Or.inl h
      · exact Or.inr ⟨i, by omega, by omega, h3⟩
theorem tu_r {D : Nat → Int32} {n f r w g : Nat} (hD : WD D n f r w g) {M : Mm} {b : Nat} (hs : RSs M b D n f r w) (hT : RT D r) {h : Int32} (h0 : 0 ≤ h.toInt) : tuD D h = -1 ∨ ∃ v, v < 6 ∧ tuD D h = nI v := by
  have hr : r ≤ 12 := hD.1.2.2.1
  rw [← (tu_m hD hs h0).2]
  unfold villV
  split
  · exact Or.inl rfl
  · rw [hs.1.2.2.1, nI_clamp (show r < 2 ^ 31 by omega)]
    rcases vil_r M (b + 22) r 0 (h - h / gI M (b + 22) 3 * gI M (b + 22) 3) with e | ⟨i, i1, i2, e⟩
    · exact Or.inl e
    · obtain ⟨v, hv, ev⟩ := hT i (by omega)
      exact Or.inr ⟨v, hv, e.trans ((hs.2.2.2.1 i (by omega)).1.trans ev)⟩
theorem tu_b {D : Nat → Int32} {h : Int32} (q : tuD D h = -1 ∨ ∃ v, v < 6 ∧ tuD D h = nI v) : -1000000000 ≤ (tuD D h).toInt ∧ (tuD D h).toInt ≤ 1000000000 := by
  rcases q with e | ⟨v, hv, e⟩
  · rw [e]
    decide
  · rw [e, t_nI (by omega)]
    omega
theorem RSd.g {M N : Mm} {b : Nat} {D : Nat → Int32} {n f h : Nat} (hr : RSd M b D n f h) (g : ∀ j, 1 ≤ j → j ≠ 8 → gI N (b + j) = gI M (b + j)) (gj : gJ N (b + 30) = gJ M (b + 30)) : RSd N b D n f h := by
  obtain ⟨r1, r2, r3, r4, r5, r6, r7, r8⟩ := hr
  refine ⟨fun i hi => ?_, fun i k hi hk => ?_, fun i hi => ?_, fun v hv => ?_, ?_, ?_, ?_, ?_⟩
  · rw [g 7 (by decide) (by decide)]; exact r1 i hi
  · rw [g 9 (by decide) (by decide)]; exact r2 i k hi hk
  · rw [g 18 (by decide) (by decide), g 19 (by decide) (by decide), g 20 (by decide) (by decide), g 21 (by decide) (by decide)]; exact r3 i hi
  · rw [g 31 (by decide) (by decide)]; exact r4 v hv
  · rw [gj]; exact r5
  · rw [gj]; exact r6
  · rw [gj]; exact r7
  · rw [gj]; exact r8
theorem RSs.g1 {M N : Mm} {b : Nat} {D : Nat → Int32} {n f r w : Nat} (h : RSs M b D n f r w) (g : ∀ k, 1 ≤ k → gI N (b + k) = gI M (b + k)) : RSs N b D n f r w := by
  obtain ⟨⟨c1, c2, c3, c4⟩, h1, h2, h3, h4, h5⟩ := h
  refine ⟨⟨by rw [g 1 (by decide)]; exact c1, by rw [g 10 (by decide)]; exact c2, by rw [g 22 (by decide)]; exact c3, by rw [g 25 (by decide)]; exact c4⟩, fun i hi => ?_, fun i hi => ?_, fun i hi => ?_, ?_, fun i hi => ?_⟩
  · rw [g 2 (by decide), g 3 (by decide), g 4 (by decide), g 5 (by decide), g 6 (by decide)]
    exact h1 i hi
  · rw [g 11 (by decide), g 12 (by decide), g 13 (by decide), g 14 (by decide), g 15 (by decide), g 16 (by decide), g 17 (by decide)]
    exact h2 i hi
  · rw [g 23 (by decide), g 24 (by decide)]
    exact h3 i hi
  · rw [g 22 (by decide)]
    exact h4
  · rw [g 26 (by decide)]
    exact h5 i hi
theorem NB.e {D E : Nat → Int32} {n f : Nat} (h : NB D n f) (hn : n ≤ 16) (hf : f ≤ 12) (s : ∀ j, 5 ≤ j → stI j → E j = D j) : NB E n f := by
  refine ⟨fun c hc => ?_, fun k hk => ?_⟩
  · rw [s _ (by omega) (st_c (by omega) (by decide)), s _ (by omega) (st_c (by omega) (by decide)), s _ (by omega) (st_c (by omega) (by decide))]
    exact h.1 c hc
  · rw [s _ (by omega) (st_f (by omega) (by decide)), s _ (by omega) (st_f (by omega) (by decide)), s _ (by omega) (st_f (by omega) (by decide)), s _ (by omega) (st_f (by omega) (by decide))]
    exact h.2 k hk
theorem FW.e {M N : Mm} {q : Nat} {D E : Nat → Int32} (h : FW M q D) (h2 : gI N q 2 = gI M q 2) (h1 : gI N (q + 1) = gI M (q + 1)) (s6 : E 6 = D 6) (s7 : E 7 = D 7) (sc : ∀ i, E (393 + i) = D (393 + i)) : FW N q E := by
  unfold FW FQ at h ⊢
  rw [h2, h1, s6, s7]
  simp only [sc]
  exact h
theorem sd_cv {D E : Nat → Int32} {n f r w g : Nat} (h : WD D n f r w g) (O L : Nat → Int32) (v : Int32) {c : Nat} (hc : c < n) (hE : SD D E) : SD D (caV O L v c E) := by
  have hn : n ≤ 16 := h.1.1
  have s1 : SD D (cvZ O v c E).2 := (hE.t (sd_ar E (show c < 16 by omega))).t (sd_ir (h.sd (hE.t (sd_ar E (by omega)))) O _ _ _)
  exact s1.t (sd_dv (h.sd s1) L hc _)
theorem cvL_o {D O L : Nat → Int32} {v : Int32} {n f r w g : Nat} (hD : WD D n f r w g) {j : Nat} (hj : j = 5 ∨ j = 8 ∨ (∃ i, i < f ∧ j = 221 + 11 * i + 10)) : ∀ q c E, c + q = n → SD D E → itr (caV O L v) q c E j = E j
  | 0, _, _, _, _ => rfl
  | q + 1, c, E, hc, hE => by
    have hn : n ≤ 16 := hD.1.1
    show itr (caV O L v) q (c + 1) (caV O L v c E) j = _
    rw [cvL_o hD hj q (c + 1) _ (by omega) (sd_cv hD O L v (by omega) hE), cv_o (hD.sd hE) (show c < n by omega) (hj.elim Or.inl (fun z => Or.inr (z.elim Or.inl (fun z => Or.inr (Or.inr z))))), if_neg (by rcases hj with h | h | ⟨i, hi, h⟩ <;> omega)]
theorem cvL_p {D O L : Nat → Int32} {v : Int32} {n f r w g : Nat} (hD : WD D n f r w g) {i : Nat} (hi : i < 16) : ∀ q c E, c + q = n → SD D E → itr (caV O L v) q c E (13 + 13 * i + 6) = if c ≤ i ∧ i < n then 0 else E (13 + 13 * i + 6)
  | 0, c, _, hc, _ => by
    rw [if_neg (by omega)]
    rfl
  | q + 1, c, E, hc, hE => by
    have hn : n ≤ 16 := hD.1.1
    show itr (caV O L v) q (c + 1) (caV O L v c E) (13 + 13 * i + 6) = _
    rw [cvL_p hD hi q (c + 1) _ (by omega) (sd_cv hD O L v (by omega) hE), cv_o (hD.sd hE) (show c < n by omega) (Or.inr (Or.inr (Or.inl ⟨i, hi, rfl⟩)))]
    by_cases e : i = c
    · subst e
      rw [if_neg (by omega), if_pos rfl, if_pos (by omega)]
    · by_cases p : c + 1 ≤ i ∧ i < n
      · rw [if_pos p, if_pos (by omega)]
      · rw [if_neg p, if_neg (by omega), if_neg (by omega)]
theorem cvL_sd {D O L : Nat → Int32} {v : Int32} {n f r w g : Nat} (hD : WD D n f r w g) : ∀ q c E, c + q = n → SD D E → SD D (itr (caV O L v) q c E)
  | 0, _, _, _, h => h
  | q + 1, c, E, hc, hE => cvL_sd hD q (c + 1) _ (by omega) (sd_cv hD O L v (by omega) hE)
theorem i_tel (x y e : Int32) : (y - e) + (x - y) = x - e := by
  simp only [Int32.sub_eq_add_neg]
  rw [show y + -e + (x + -y) = x + -e + (y + -y) by ac_rfl, Int32.add_right_neg, Int32.add_zero]
def Zc (D : Nat → Int32) (c : Nat) (i : Nat) : Prop := i ≠ 0 ∧ ∀ p, p < c → ¬ D (13 + 13 * i) = nI p
theorem ca_l {b : Nat} {D0 L O : Nat → Int32} {n f r w g h : Nat} {v : Int32} (hD : WD D0 n f r w g) (hB : NB D0 n f) (hh : h < 200000) : ∀ q c (N : Mm) (s : Int32) (E : Nat → Int32), c + q = n → RM N b D0 E L n f r w h 0 (Zc D0 c) → (∀ k, k < f → (¬ bG N (b + 10) k v = 0 ↔ ¬ O k = 0)) →
    RM (itr (phB b v) q c (N, s)).1 b D0 (itr (caV O L v) q c E) L n f r w h 0 (fun _ => False) ∧ (itr (phB b v) q c (N, s)).2 = s + (TS (itr (caV O L v) q c E) f - TS E f)
  | 0, c, N, s, E, _, hM, _ => ⟨hM.m (fun _ _ z => z.elim), by
      show s = s + (TS E f - TS E f)
      rw [Int32.sub_self, Int32.add_zero]⟩
  | q + 1, c, N, s, E, hc, hM, hO => by
    have hn : n ≤ 16 := hD.1.1
    obtain ⟨a1, a2, a3⟩ := ca_m (s := s) hD hB hh hM (show c < n by omega) hO (fun i h1 h2 h3 => ⟨by omega, fun p hp e => by
      have := (nI_eq (show p < 2 ^ 31 by omega) (show c < 2 ^ 31 by omega)).mp (e.symm.trans h3.1)
      omega⟩)
    have a1' := a1.m (Y := Zc D0 (c + 1)) (fun i hi z => ⟨⟨z.1, fun p hp => z.2 p (by omega)⟩, fun e => z.2 c (by omega) e.2.1⟩)
    generalize hz : phB b v c (N, s) = z at a1' a2 a3
    obtain ⟨i1, i2⟩ := ca_l (O := O) (v := v) hD hB hh q (c + 1) z.1 z.2 (caV O L v c E) (by omega) a1' (fun k hk => by rw [a3 k hk]; exact hO k hk)
    have e1 : itr (phB b v) (q + 1) c (N, s) = itr (phB b v) q (c + 1) (z.1, z.2) := by
      show itr (phB b v) q (c + 1) (phB b v c (N, s)) = _
      rw [hz]
    have e2 : itr (caV O L v) (q + 1) c E = itr (caV O L v) q (c + 1) (caV O L v c E) := rfl
    rw [e1, e2]
    refine ⟨i1, ?_⟩
    rw [i2, a2, Int32.add_assoc]
    rw [i_tel]
