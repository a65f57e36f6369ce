/-! ===== hours in a row; IrrigationTurns' own layout ===== -/
/-- nothing but the State at b has changed -/
def FR (N M : Mm) (b : Nat) : Prop := gK N = gK M ∧ gP N = gP M ∧ gZ N = gZ M ∧ ∀ q, (q < b ∨ b + 32 ≤ q) → gI N q = gI M q ∧ gJ N q = gJ M q
theorem FR.r (M : Mm) (b : Nat) : FR M M b := ⟨rfl, rfl, rfl, fun _ _ => ⟨rfl, rfl⟩⟩
theorem FR.t {A B C : Mm} {b : Nat} (h : FR A B b) (g : FR B C b) : FR A C b := ⟨h.1.trans g.1, h.2.1.trans g.2.1, h.2.2.1.trans g.2.2.1, fun q hq => ⟨(h.2.2.2 q hq).1.trans (g.2.2.2 q hq).1, (h.2.2.2 q hq).2.trans (g.2.2.2 q hq).2⟩⟩
theorem FR.i (M : Mm) {b q : Nat} (f : Nat → Int32) (h : b ≤ q ∧ q < b + 32) : FR (sI M q f) M b := ⟨rfl, rfl, rfl, fun p hp => ⟨gI_f _ _ (by omega), rfl⟩⟩
theorem fr_cp (M : Mm) (b o : Nat) : FR (cpS M b o) M b := ⟨(kp_S M b o).1, (kp_S M b o).2.1, (kp_S M b o).2.2, fun q hq => ⟨fs_S M hq, fj_S M (by omega)⟩⟩
theorem fr_ss {M N : Mm} {b : Nat} (h : SS M N b) : FR N M b := ⟨h.1, h.2.1, h.2.2.1, h.2.2.2.1⟩
theorem fr_ph (M : Mm) (b : Nat) : FR (phM M b) M b := by
  unfold phM ph8 w2 ph7 wkM
  refine (FR.i _ _ ⟨by omega, by omega⟩).t ((FR.i _ _ ⟨by omega, by omega⟩).t ((FR.i _ _ ⟨by omega, by omega⟩).t ((FR.i _ _ ⟨by omega, by omega⟩).t (fr_ss (ss_6 M b)))))
theorem ix_hr {M : Mm} {b t : Nat} (g : Ix M b) (ht : gI M b 6 = nI t) (hb : t + 1 < 2 ^ 30) : Ix (sI M b (upd (gI M b) 6 (gI M b 6 + 1))) b := by
  obtain ⟨h1, n, f, r, h, ⟨g1, g2, g3, g4⟩, ⟨e1, e2, e3, e4⟩, h3, h4, w, p, h5, h6, h7, h8, h9⟩ := g
  have hO : ∀ k v, 1 ≤ k → gI (sI M b v) (b + k) = gI M (b + k) := fun k v hk => gI_f _ _ (by omega)
  refine ⟨h1.ss rfl rfl, n, f, r, t + 1, ⟨g1, g2, g3, hb⟩, ⟨by rw [hO _ _ (by decide)]; exact e1, by rw [hO _ _ (by decide)]; exact e2, by rw [hO _ _ (by decide)]; exact e3, ?_⟩, by rw [hO _ _ (by decide)]; exact h3, by rw [hO _ _ (by decide)]; exact h4, w, p, h5, h6, h7, by rw [hO _ _ (by decide)]; exact h8, by rw [hO _ _ (by decide)]; exact h9⟩
  rw [gI_s, upd_s, ht, nI_1]
theorem gb_0 {M N : Mm} {b : Nat} (s : SS M N b) : gI N b = gI M b := s.2.2.2.2.1 0 (by decide) rfl
theorem Ix.ph {M : Mm} {b t : Nat} (g : Ix M b) (ht : gI M b 6 = nI t) (hb : t + 1 < 2 ^ 30) : Ix (phM M b) b ∧ gI (phM M b) b 6 = nI (t + 1) := by
  have i6 := g.ss (ss_6 M b)
  have i7 := i6.wk.1
  have s8 : SS (ph7 M b) (ph8 M b) b := (SS.i _ b 21 _ (by decide) rfl).t (SS.i _ b 31 _ (by decide) rfl)
  have i8 : Ix (ph8 M b) b := Ix.ss i7 s8
  have e7 : gI (ph7 M b) b = gI (ph6 M b) b := by
    unfold ph7 wkM
    exact gI_f _ _ (by omega)
  have e8 : gI (ph8 M b) b 6 = nI t := by rw [gb_0 s8, e7, gb_0 (ss_6 M b)]; exact ht
  refine ⟨ix_hr i8 e8 hb, ?_⟩
  unfold phM
  rw [gI_s, upd_s, e8, nI_1]
theorem Ls.fr {M N : Mm} {b o : Nat} (h : FR N M b) (g : Ls M o) : Ls N o := g.ss h.1 h.2.1
/-- what runs goes on running in a copy -/
theorem Ix.cp {M : Mm} {b o : Nat} (g : Ix M o) (hL : Ls M b) (ha : apt b 32 o 32) : Ix (cpS M b o) b := by
  obtain ⟨h1, n, f, r, h, ⟨g1, g2, g3, g4⟩, ⟨e1, e2, e3, e4⟩, h3, h4, w, p, h5, h6, h7, h8, h9⟩ := g
  obtain ⟨c1, c2, c3, c4, c5, c6, c7, c8, c9, c10, c11, c12, c13, c14, c15, c16, c17⟩ := ce_S M ha
  exact ⟨hL.fr (fr_cp M b o), n, f, r, h, ⟨g1, g2, g3, g4⟩, ⟨c3.trans e1, c6.trans e2, c8.trans e3, c17.trans e4⟩, by rw [c14]; exact h3, fun k hk => by rw [(c1 k (by omega)).2.1]; exact h4 k hk, w, p, h5, h6, h7, c11.trans h8, c12.trans h9⟩
/-- n hours -/
def itH (b : Nat) : Nat → Mm → Mm
  | 0, M => M
  | n + 1, M => itH b n (phM M b)
theorem Ix.it {b : Nat} : ∀ (n : Nat) {M : Mm} {t : Nat}, Ix M b → gI M b 6 = nI t → t + n < 2 ^ 30 → Ix (itH b n M) b ∧ gI (itH b n M) b 6 = nI (t + n)
  | 0, _, _, g, ht, _ => ⟨g, ht⟩
  | n + 1, M, t, g, ht, hb => by
    have h1 := g.ph ht (by omega)
    have h2 := Ix.it n h1.1 h1.2 (by omega)
    rw [show t + (n + 1) = t + 1 + n by omega]
    exact h2
theorem fr_it (b : Nat) : ∀ (n : Nat) (M : Mm), FR (itH b n M) M b
  | 0, _ => FR.r _ _
  | n + 1, M => (fr_it b n _).t (fr_ph M b)
def Lx (M : Mm) (x : Nat) : Prop := gK M x = kO 10 ∧ (gP M x 0 = x + 1 ∧ gP M x 1 = x + 36 ∧ gP M x 2 = x + 68 ∧ gP M x 3 = x + 100) ∧ Lu M (x + 1) ∧ Ls M (x + 36) ∧ Ls M (x + 68) ∧ Lh M (x + 100)
/-- what every method of IrrigationTurns may count on -/
def XP (M : Mm) (x : Nat) : Prop := Lx M x ∧ Ix M (x + 36) ∧ cnt (gI M (x + 2) 1) 900 ∧ vp_in (gI M (x + 100) 1) 8 ∧ ∀ i, i < 8 → cnt (gI M (x + 100 + 2 + 32 * i + 10) 11) 12 ∧ cnt (gI M (x + 100 + 2 + 32 * i + 27) 2) 900
theorem Lh.kp {M N : Mm} {h : Nat} (hK : gK N = gK M) (hP : gP N = gP M) (g : Lh M h) : Lh N h := by
  refine ⟨by rw [hK]; exact g.1, by rw [hP]; exact g.2.1, by rw [hK]; exact g.2.2.1, fun i hi => ?_⟩
  have := g.2.2.2 i hi
  rw [hP]
  exact ⟨this.1, this.2.ss hK hP⟩
theorem Lx.kp {M N : Mm} {x : Nat} (hK : gK N = gK M) (hP : gP N = gP M) (hZ : gZ N = gZ M) (g : Lx M x) : Lx N x :=
  ⟨by rw [hK]; exact g.1, by rw [hP]; exact g.2.1, g.2.2.1.kp ⟨hK, hP, hZ⟩, g.2.2.2.1.ss hK hP, g.2.2.2.2.1.ss hK hP, g.2.2.2.2.2.kp hK hP⟩
/-- what the forecast does is nobody's business -/
theorem XP.fr {M N : Mm} {x : Nat} (h : FR N M (x + 68)) (g : XP M x) : XP N x := by
  obtain ⟨hK, hP, hZ, hI⟩ := h
  obtain ⟨g1, g2, g3, g4, g5⟩ := g
  refine ⟨g1.kp hK hP hZ, ?_, by rw [(hI _ (by omega)).1]; exact g3, by rw [(hI _ (by omega)).1]; exact g4, fun i hi => ?_⟩
  · obtain ⟨h1, h2⟩ := g2
    unfold Ix
    rw [(hI (x + 36 + 1) (by omega)).1, (hI (x + 36 + 10) (by omega)).1, (hI (x + 36 + 22) (by omega)).1, (hI (x + 36) (by omega)).1, (hI (x + 36 + 27) (by omega)).1, (hI (x + 36 + 3) (by omega)).1, (hI (x + 36 + 25) (by omega)).1]
    exact ⟨h1.ss hK hP, h2⟩
  · rw [(hI _ (by omega)).1, (hI (x + 100 + 2 + 32 * i + 27) (by omega)).1]
    exact g5 i hi
theorem XP.f {M : Mm} {x : Nat} (h : XP M x) : (gK M x = kO 10 ∧ gP M x 0 = x + 1 ∧ gP M x 1 = x + 36 ∧ gP M x 2 = x + 68 ∧ gP M x 3 = x + 100) ∧ (gK M (x + 1) = kO 7 ∧ gP M (x + 1) 0 = x + 2 ∧ gP M (x + 1) 1 = x + 4 ∧ gK M (x + 2) = kO 9) ∧
    (gK M (x + 36) = kO 8 ∧ gP M (x + 36) 0 = x + 37 ∧ gP M (x + 36) 1 = x + 46 ∧ gP M (x + 36) 2 = x + 58 ∧ gP M (x + 36) 3 = x + 61 ∧ gP M (x + 36) 4 = x + 63 ∧ gP M (x + 36) 5 = x + 66) ∧
    (gK M (x + 68) = kO 8 ∧ gP M (x + 68) 0 = x + 69 ∧ gP M (x + 68) 1 = x + 78 ∧ gK M (x + 69) = kO 0 ∧ gP M (x + 69) 5 = x + 75 ∧ gK M (x + 75) = kA .int 16 ∧ gK M (x + 78) = kO 1 ∧ gP M (x + 78) 10 = x + 89 ∧ gK M (x + 89) = kA .boolean 12) ∧
    (gK M (x + 37) = kO 0 ∧ gP M (x + 37) 0 = x + 38 ∧ gP M (x + 37) 1 = x + 39 ∧ gP M (x + 37) 5 = x + 43 ∧ gK M (x + 38) = kA .int 16 ∧ gK M (x + 39) = kA .int 16 ∧ gK M (x + 43) = kA .int 16) ∧
    (gK M (x + 46) = kO 1 ∧ gP M (x + 46) 7 = x + 54 ∧ gP M (x + 46) 8 = x + 55 ∧ gP M (x + 46) 9 = x + 56 ∧ gP M (x + 46) 10 = x + 57 ∧ gK M (x + 54) = kA .int 12 ∧ gK M (x + 55) = kA .int 12 ∧ gK M (x + 56) = kA .int 12 ∧ gK M (x + 57) = kA .boolean 12) ∧
    gK M (x + 58) = kO 6 ∧ gK M (x + 61) = kO 3 ∧ gK M (x + 63) = kO 2 ∧ (gK M (x + 66) = kO 5 ∧ gP M (x + 66) 0 = x + 67 ∧ gK M (x + 67) = kA .int 6) ∧ gK M (x + 100) = kO 4 := by
  obtain ⟨⟨k0, ⟨p0, p1, p2, p3⟩, ⟨u0, ⟨u1, u2⟩, ⟨t0, t1, t2⟩, -⟩, ⟨s0, ⟨s1, s2, s3, s4, s5, s6⟩, hC, hF, hR, hG, hM, hQ⟩, ⟨f0, ⟨f1, f2, -⟩, hC2, hF2, -⟩, hH⟩, -⟩ := h
  obtain ⟨c0, ⟨q0, q1, q2, q3, q4, q5, q6, q7⟩, c1, c2, c3, c4, c5, c6, c7, c8⟩ := hC
  obtain ⟨C0, ⟨Q0, Q1, Q2, Q3, Q4, Q5, Q6, Q7⟩, C1, C2, C3, C4, C5, C6, C7, C8⟩ := hC2
  obtain ⟨w0, ⟨w1, w2, w3, w4, w5, w6, w7, w8, w9, w10, w11⟩, z1, z2, z3, z4, z5, z6, z7, z8, z9, z10, z11⟩ := hF
  obtain ⟨W0, ⟨W1, W2, W3, W4, W5, W6, W7, W8, W9, W10, W11⟩, Z1, Z2, Z3, Z4, Z5, Z6, Z7, Z8, Z9, Z10, Z11⟩ := hF2
  exact ⟨⟨k0, p0, p1, p2, p3⟩, ⟨u0, u1, u2, t0⟩, ⟨s0, s1, s2, s3, s4, s5, s6⟩, ⟨f0, f1, f2, C0, Q5, C6, W0, W11, Z11⟩, ⟨c0, q0, q1, q5, c1, c2, c6⟩, ⟨w0, w8, w9, w10, w11, z8, z9, z10, z11⟩, hR.1, hG.1, hM.1, ⟨hQ.1, hQ.2.1, hQ.2.2⟩, hH.1⟩
