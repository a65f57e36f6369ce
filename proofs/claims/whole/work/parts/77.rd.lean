/-! ===== dividing in the State's order ===== -/
theorem en_g {M : Mm} {b : Nat} (x a : Int32) {j : Nat} (hj : j ≠ 9) : gI (enM M b x a) (b + j) = gI M (b + j) := by
  unfold enM
  split
  · rfl
  · rw [gI_f _ _ (by omega)]
    rfl
theorem en_g0 {M : Mm} {b : Nat} (x a : Int32) : gI (enM M b x a) b = gI M b := en_g (j := 0) x a (by decide)
theorem RSs.g {M N : Mm} {b : Nat} {D : Nat → Int32} {n f r w : Nat} (h : RSs M b D n f r w) (g : ∀ k, k ≠ 9 → gI N (b + k) = gI M (b + k)) : RSs N b D n f r w := by
  obtain ⟨⟨c1, c2, c3, c4⟩, h1, h2, h3, h4, h5⟩ := h
  refine ⟨⟨by rw [g 1 (by decide)]; exact c1, by rw [g 10 (by decide)]; exact c2, by rw [g 22 (by decide)]; exact c3, by rw [g 25 (by decide)]; exact c4⟩, fun i hi => ?_, fun i hi => ?_, fun i hi => ?_, ?_, fun i hi => ?_⟩
  · rw [g 2 (by decide), g 3 (by decide), g 4 (by decide), g 5 (by decide), g 6 (by decide)]
    exact h1 i hi
  · rw [g 11 (by decide), g 12 (by decide), g 13 (by decide), g 14 (by decide), g 15 (by decide), g 16 (by decide), g 17 (by decide)]
    exact h2 i hi
  · rw [g 23 (by decide), g 24 (by decide)]
    exact h3 i hi
  · rw [g 22 (by decide)]
    exact h4
  · rw [g 26 (by decide)]
    exact h5 i hi
/-- a State in an hour's midst shows a row, with r on its way -/
def RM (M : Mm) (b : Nat) (D0 D L : Nat → Int32) (n f r w h : Nat) (q : Int) (Z : Nat → Prop) : Prop :=
  SD D0 D ∧ RSs M b D n f r w ∧ RSd M b D n f h ∧ OL M b L n ∧ gI M b 6 = nI h ∧ WL D q ∧ PI D n Z
theorem rm_en {M : Mm} {b : Nat} {D0 D L : Nat → Int32} {n f r w g h c : Nat} {q : Int} {Z : Nat → Prop} {a : Int32} (hD : WD D0 n f r w g) (hB : NB D0 n f) (hh : h < 200000) (hM : RM M b D0 D L n f r w h q Z) (hc : c < n) (h0 : 0 ≤ a.toInt) (ha : a.toInt ≤ q) (hZ : Z c) : RM (enM M b (nI c) a) b D0 (enD D c a) L n f r w h (q - a.toInt) (fun k => Z k ∧ k ≠ c) := by
  obtain ⟨m1, m2, m3, m4, m5, m6, m7⟩ := hM
  have hn : n ≤ 16 := hD.1.1
  have hD2 := hD.sd m1
  obtain ⟨d, d1, d2, d3⟩ := (hD2.2.2.2.1 c hc).1
  have hB2 := (hB.sd hn hD.1.2.1 m1).1 c hc
  have hz := (m7 c d hc d3 d2).2.2 hZ
  have w1 := en_w (D := D) (c := c) (d := d) (a := a) m6 (by omega) d3 d2 hB2.1 hB2.2.1 h0 ha
  have s1 := sd_en D a (show c < 16 by omega) d3 d2
  refine ⟨m1.t s1, (m2.g (fun k hk => en_g _ _ hk)).sd hn hD.1.2.1 hD.1.2.2.1 hD.1.2.2.2.1 hD2.2.1.2.2.1 s1, rs_en m2 m3 m5 hh hc hn d3 d2 hz w1.2.1 w1.2.2.1, fun k hk => by rw [en_g _ _ (by decide)]; exact m4 k hk, by rw [en_g0]; exact m5, w1.1, m7.en hc hn d3 d1 d2 hB2.1 hB2.2.1 h0 hZ⟩
