/-! ===== an IrrigationTurns shows a state of the reference ===== -/
theorem ix_xr {M : Mm} {b : Nat} {D : Nat → Int32} {n f r w g h : Nat} (hL : Ls M b) (hX : XR M b D n f r w g h) : Ix M b := by
  obtain ⟨hW, hB, hs, hd, hF, ⟨t6, t5, hh⟩, ⟨gp, gw⟩, hwl, hP, hFW, hRT⟩ := hX
  have hg : g ≤ 9 := hW.1.2.2.2.2
  refine ⟨hL, n, f, r, h, ⟨hW.1.1, hW.1.2.1, hW.1.2.2.1, by omega⟩, ⟨hs.1.1, hs.1.2.1, hs.1.2.2.1, t6⟩, ?_, fun k hk => ?_, w, g, hW.1.2.2.2.1, hW.2.2.1, by omega, hs.1.2.2.2, gp⟩
  · rcases hFW with ⟨-, q, -⟩ | ⟨-, l, q, -, q2, -⟩
    · exact ⟨1, by decide, q⟩
    · exact ⟨l.length, q2, q.1⟩
  · obtain ⟨d, d1, d2, d3⟩ := (hW.2.2.2.1 k hk).1
    exact ⟨d, d1, d2, (hs.2.1 k hk).2.1.trans d3⟩
def PX (M : Mm) (b : Nat) (D : Nat → Int32) : Prop := ∃ n f r w g h, h ≤ 100000 ∧ XR M b D n f r w g h
def FB (M : Mm) (x : Nat) : Prop := ∀ k, k < 12 → gI M (x + 57) k = 0 ∨ gI M (x + 57) k = 1
/-- the saved States show the saved rows -/
def HS (M : Mm) (x : Nat) (u : Int32) (H : Nat → Nat → Int32) : Prop := ∃ v nx, v ≤ 8 ∧ nx < 8 ∧ u = nI v ∧ gI M (x + 100) 1 = nI nx ∧ gI M (x + 100) 2 = nI v ∧ ∀ k, k < v → PX M (x + 100 + 2 + 32 * ((nx + 8 - v + k) % 8)) (H k)
/-- a draft that has seen no hour -/
def DZ (M : Mm) (b : Nat) : Prop := (∀ i, i < 16 → gI M (b + 7) i = 0) ∧ (∀ i, i < 112 → gI M (b + 9) i = 0) ∧ (∀ i, i < 12 → gI M (b + 18) i = 0 ∧ gI M (b + 19) i = 0 ∧ gI M (b + 20) i = 0 ∧ gI M (b + 21) i = 0) ∧ (∀ v, v < 6 → gI M (b + 31) v = 0) ∧ (∀ j, 1 ≤ j → j < 5 → gJ M (b + 30) j = 0) ∧ gI M (b + 25) 2 = 0 ∧ gI M b 6 = 0
def BY (M : Mm) (x : Nat) (B : Nat → Int32) (L : Int32) : Prop := BX (gI M (x + 3)) B ∧ gI M (x + 2) 1 = L ∧ cnt L 900
def HC (M : Mm) (x : Nat) : Prop := ∀ i, i < 8 → cnt (gI M (x + 100 + 2 + 32 * i + 10) 11) 12 ∧ cnt (gI M (x + 100 + 2 + 32 * i + 27) 2) 900
def XA (M : Mm) (x : Nat) (D B : Nat → Int32) (L e u : Int32) (H : Nat → Nat → Int32) : Prop :=
  Lx M x ∧ PX M (x + 36) D ∧ FB M x ∧ HS M x u H ∧ DZ M (x + 4) ∧ BY M x B L ∧ gI M x 4 = e ∧ HC M x
theorem PX.eq {N M : Mm} {b : Nat} {D : Nat → Int32} (h : PX M b D) (hi : ∀ k, k < 32 → gI N (b + k) = gI M (b + k)) (hj : gJ N (b + 30) = gJ M (b + 30)) : PX N b D := by
  obtain ⟨n, f, r, w, g, t, h1, h2⟩ := h
  exact ⟨n, f, r, w, g, t, h1, h2.eq hi hj⟩
theorem PX.ag {M : Mm} {b : Nat} {D E : Nat → Int32} (h : PX M b D) (e : ag9 E D) : PX M b E := by
  obtain ⟨n, f, r, w, g, t, h1, h2⟩ := h
  exact ⟨n, f, r, w, g, t, h1, h2.ag e⟩
theorem PX.cp {M : Mm} {b o : Nat} {D : Nat → Int32} (h : PX M o D) (ha : apt b 32 o 32) : PX (cpS M b o) b D := by
  obtain ⟨n, f, r, w, g, t, h1, h2⟩ := h
  exact ⟨n, f, r, w, g, t, h1, h2.cp ha⟩
theorem XA.p {M : Mm} {x : Nat} {D B : Nat → Int32} {L e u : Int32} {H : Nat → Nat → Int32} (h : XA M x D B L e u H) : XP M x := by
  obtain ⟨h1, ⟨n, f, r, w, g, t, -, h2⟩, -, ⟨v, nx, -, a1, -, a2, -⟩, -, ⟨-, b1, b2⟩, -, h8⟩ := h
  exact ⟨h1, ix_xr h1.2.2.2.1 h2, by rw [b1]; exact b2, by rw [a2]; exact vp_in_nI a1 (by decide), h8⟩
theorem XA.h {M : Mm} {x : Nat} {D B : Nat → Int32} {L e u : Int32} {H : Nat → Nat → Int32} (h : XA M x D B L e u H) : XH M x := by
  refine ⟨h.p, ?_⟩
  obtain ⟨-, ⟨n, f, r, w, g, t, ht, h2⟩, -⟩ := h
  exact ⟨t, ht, h2.2.2.2.2.2.1.1⟩
theorem Lx.k2 {M N : Mm} {x : Nat} (hK : gK N = gK M) (hP : gP N = gP M) (g : Lx M x) : Lx N x := by
  have h : Lx (sZ N (gZ M)) x := Lx.kp (M := M) hK hP rfl g
  exact h
/-- nothing but what is told has changed -/
theorem HS.eq {M N : Mm} {x : Nat} {u : Int32} {H : Nat → Nat → Int32} (h : HS M x u H) (hi : ∀ q, x + 100 ≤ q → q < x + 358 → gI N q = gI M q ∧ gJ N q = gJ M q) : HS N x u H := by
  obtain ⟨v, nx, h1, h2, h3, h4, h5, h6⟩ := h
  refine ⟨v, nx, h1, h2, h3, by rw [(hi _ (by omega) (by omega)).1]; exact h4, by rw [(hi _ (by omega) (by omega)).1]; exact h5, fun k hk => (h6 k hk).eq (fun j hj => (hi _ (by omega) (by omega)).1) (hi _ (by omega) (by omega)).2⟩
theorem HC.eq {M N : Mm} {x : Nat} (h : HC M x) (hi : ∀ q, x + 100 ≤ q → q < x + 358 → gI N q = gI M q) : HC N x := fun i hi8 => by
  rw [hi _ (by omega) (by omega), hi (x + 100 + 2 + 32 * i + 27) (by omega) (by omega)]
  exact h i hi8
theorem DZ.eq {M N : Mm} {b : Nat} (h : DZ M b) (hi : ∀ k, k < 32 → gI N (b + k) = gI M (b + k)) (hj : gJ N (b + 30) = gJ M (b + 30)) : DZ N b := by
  have h0 : gI N b = gI M b := hi 0 (by decide)
  unfold DZ
  rw [hi 7 (by decide), hi 9 (by decide), hi 18 (by decide), hi 19 (by decide), hi 20 (by decide), hi 21 (by decide), hi 31 (by decide), hj, hi 25 (by decide), h0]
  exact h
theorem BY.eq {M N : Mm} {x : Nat} {B : Nat → Int32} {L : Int32} (h : BY M x B L) (h2 : gI N (x + 2) = gI M (x + 2)) (h3 : gI N (x + 3) = gI M (x + 3)) : BY N x B L := by
  unfold BY
  rw [h2, h3]
  exact h
theorem FB.eq {M N : Mm} {x : Nat} (h : FB M x) (h2 : gI N (x + 57) = gI M (x + 57)) : FB N x := by
  unfold FB
  rw [h2]
  exact h
theorem XA.c {M N : Mm} {x : Nat} {D B : Nat → Int32} {L e u : Int32} {H : Nat → Nat → Int32} (h : XA M x D B L e u H) (hK : gK N = gK M) (hP : gP N = gP M) (hi : ∀ q, x ≤ q → q < x + 358 → gI N q = gI M q ∧ gJ N q = gJ M q) : XA N x D B L e u H := by
  obtain ⟨h1, h2, h3, h4, h5, h6, h7, h8⟩ := h
  exact ⟨h1.k2 hK hP, h2.eq (fun k hk => (hi _ (by omega) (by omega)).1) (hi _ (by omega) (by omega)).2, h3.eq (hi _ (by omega) (by omega)).1, h4.eq (fun q a b => hi q (by omega) b), h5.eq (fun k hk => (hi _ (by omega) (by omega)).1) (hi _ (by omega) (by omega)).2, h6.eq (hi _ (by omega) (by omega)).1 (hi _ (by omega) (by omega)).1, by rw [(hi _ (Nat.le_refl x) (by omega)).1]; exact h7, h8.eq (fun q a b => (hi q (by omega) b).1)⟩
/-- the forecast is nobody's business -/
theorem XA.fr {M N : Mm} {x : Nat} {D B : Nat → Int32} {L e u : Int32} {H : Nat → Nat → Int32} (h : XA M x D B L e u H) (g : FR N M (x + 68)) : XA N x D B L e u H := by
  obtain ⟨h1, h2, h3, h4, h5, h6, h7, h8⟩ := h
  obtain ⟨hK, hP, -, hi⟩ := g
  exact ⟨h1.k2 hK hP, h2.eq (fun k hk => (hi _ (by omega)).1) (hi _ (by omega)).2, h3.eq (hi _ (by omega)).1, h4.eq (fun q a b => hi q (by omega)), h5.eq (fun k hk => (hi _ (by omega)).1) (hi _ (by omega)).2, h6.eq (hi _ (by omega)).1 (hi _ (by omega)).1, by rw [(hi _ (by omega)).1]; exact h7, h8.eq (fun q a b => (hi q (by omega)).1)⟩
/-! == saving: a State more in the history == -/
def rmH (D : Nat → Int32) (u : Int32) (H : Nat → Nat → Int32) : Nat → Nat → Int32 := fun k => if u = 8 then (if k < 7 then H (k + 1) else D) else if k = u.toNatClampNeg then D else H k
def rmU (u : Int32) : Int32 := if u = 8 then 8 else u + 1
theorem hs_sv {M : Mm} {x : Nat} {D : Nat → Int32} {u : Int32} {H : Nat → Nat → Int32} (h : HS M x u H) (hD : PX M (x + 36) D) (hv : vp_in (gI M (x + 100) 1) 8) : HS (svM M (x + 100) (x + 36)) x (rmU u) (rmH D u H) := by
  obtain ⟨v, nx, h1, h2, h3, h4, h5, h6⟩ := h
  have eA : svA M (x + 100) = x + 100 + 2 + 32 * nx := by
    unfold svA
    rw [h4, nI_clamp (by omega)]
  have ha : apt (svA M (x + 100)) 32 (x + 36) 32 := by rw [eA]; unfold apt; omega
  have s1 : gI (svM M (x + 100) (x + 36)) (x + 100) 1 = nI ((nx + 1) % 8) := by
    rw [gI_sv1, h4, nI_1]
    rcases Nat.lt_or_ge (nx + 1) 8 with q | q
    · rw [if_pos (show nI (nx + 1) < 8 from (nI_ltI (b := 8) (by omega) (by decide)).mpr q), Nat.mod_eq_of_lt q]
    · have e : nx = 7 := by omega
      subst e
      rfl
  have s2 : gI (svM M (x + 100) (x + 36)) (x + 100) 2 = nI (min (v + 1) 8) := by
    rw [gI_sv2, h5, nI_1]
    rcases Nat.lt_or_ge v 8 with q | q
    · rw [Nat.min_eq_left (by omega)]
      unfold mnI
      rw [if_neg (show ¬ 8 < nI (v + 1) from fun z => by have := (nI_ltI (a := 8) (by decide) (by omega)).mp z; omega)]
    · have e : v = 8 := by omega
      subst e
      rfl
  have frm : ∀ q, q ≠ x + 100 → gI (svM M (x + 100) (x + 36)) q = gI (cpS M (svA M (x + 100)) (x + 36)) q := fun q hq => gI_svs hq
  have frJ : gJ (svM M (x + 100) (x + 36)) = gJ (cpS M (svA M (x + 100)) (x + 36)) := by
    unfold svM
    dsimp only
    rw [gJ_sI]
  have slot : ∀ k, k < 8 → k ≠ nx → ∀ E, PX M (x + 100 + 2 + 32 * k) E → PX (svM M (x + 100) (x + 36)) (x + 100 + 2 + 32 * k) E := fun k hk hn E hE =>
    hE.eq (fun j hj => by rw [frm _ (by omega), fs_S M (by rw [eA]; omega)]) (by rw [frJ, fj_S M (by rw [eA]; omega)])
  have new : PX (svM M (x + 100) (x + 36)) (x + 100 + 2 + 32 * nx) D := by
    have := hD.cp ha
    rw [eA] at this
    refine this.eq (fun j hj => ?_) ?_
    · rw [frm _ (by omega), eA]
    · rw [frJ, eA]
  rcases Nat.lt_or_ge v 8 with q | q
  · have u8 : ¬ u = 8 := fun z => by
      have := (nI_eq (show v < 2 ^ 31 by omega) (show 8 < 2 ^ 31 by decide)).mp (h3.symm.trans z)
      omega
    refine ⟨v + 1, (nx + 1) % 8, by omega, Nat.mod_lt _ (by decide), ?_, s1, by rw [s2, Nat.min_eq_left (by omega)], fun k hk => ?_⟩
    · unfold rmU
      rw [if_neg u8, h3, nI_1]
    · unfold rmH
      rw [if_neg u8, h3, nI_clamp (show v < 2 ^ 31 by omega)]
      by_cases e : k = v
      · rw [if_pos e, show ((nx + 1) % 8 + 8 - (v + 1) + k) % 8 = nx by omega]
        exact new
      · rw [if_neg e, show ((nx + 1) % 8 + 8 - (v + 1) + k) % 8 = (nx + 8 - v + k) % 8 by omega]
        exact slot _ (Nat.mod_lt _ (by decide)) (by omega) _ (h6 k (by omega))
  · have e8 : v = 8 := by omega
    subst e8
    have u8 : u = 8 := h3
    refine ⟨8, (nx + 1) % 8, by omega, Nat.mod_lt _ (by decide), by unfold rmU; rw [if_pos u8]; rfl, s1, s2, fun k hk => ?_⟩
    unfold rmH
    rw [if_pos u8]
    by_cases e : k < 7
    · rw [if_pos e, show ((nx + 1) % 8 + 8 - 8 + k) % 8 = (nx + 8 - 8 + (k + 1)) % 8 by omega]
      exact slot _ (Nat.mod_lt _ (by decide)) (by omega) _ (h6 (k + 1) (by omega))
    · rw [if_neg e, show ((nx + 1) % 8 + 8 - 8 + k) % 8 = nx by omega]
      exact new
theorem HS.ag {M : Mm} {x : Nat} {u : Int32} {H K : Nat → Nat → Int32} (h : HS M x u H) (e : ∀ k, k < 8 → ag9 (K k) (H k)) : HS M x u K := by
  obtain ⟨v, nx, h1, h2, h3, h4, h5, h6⟩ := h
  exact ⟨v, nx, h1, h2, h3, h4, h5, fun k hk => (h6 k hk).ag (e k (by omega))⟩
/-- what a save leaves -/
theorem xa_sv {M : Mm} {x : Nat} {D B : Nat → Int32} {L e u : Int32} {H : Nat → Nat → Int32} (h : XA M x D B L e u H) : XA (svM M (x + 100) (x + 36)) x D B L e (rmU u) (rmH D u H) := by
  have hp := h.p
  obtain ⟨s1, hK, hP, hZ, hI⟩ := hp.sv
  obtain ⟨h1, h2, h3, h4, h5, h6, h7, h8⟩ := h
  exact ⟨s1.1, h2.eq (fun k hk => (hI _ (by omega)).1) (hI _ (by omega)).2, h3.eq (hI _ (by omega)).1, hs_sv h4 h2 hp.2.2.2.1, h5.eq (fun k hk => (hI _ (by omega)).1) (hI _ (by omega)).2, h6.eq (hI _ (by omega)).1 (hI _ (by omega)).1, by rw [(hI _ (by omega)).1]; exact h7, s1.2.2.2.2⟩
