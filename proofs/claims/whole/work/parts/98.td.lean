/-! ===== the two drafts ===== -/
def nB (x : Int32) (lo hi : Nat) : Prop := ∃ k, lo ≤ k ∧ k ≤ hi ∧ x = nI k
/-- a canal's numbers -/
def dC (P : Mm) (r : Nat) (E : Nat → Int32) (i : Nat) : Prop :=
  (gI P (r + 5) i = E (13 + 13 * i) ∧ gI P (r + 6) i = E (13 + 13 * i + 1) ∧ gI P (r + 7) i = E (13 + 13 * i + 2) ∧ gI P (r + 8) i = E (13 + 13 * i + 3) ∧ gI P (r + 9) i = E (13 + 13 * i + 4)) ∧
  (0 < i → ∃ p, p < i ∧ E (13 + 13 * i) = nI p) ∧ nB (E (13 + 13 * i + 1)) 1 6 ∧ nB (E (13 + 13 * i + 2)) 0 50 ∧ nB (E (13 + 13 * i + 3)) 1 9999 ∧ nB (E (13 + 13 * i + 4)) 0 99
def dF (P : Mm) (r : Nat) (E : Nat → Int32) (n i : Nat) : Prop :=
  (gI P (r + 14) i = E (221 + 11 * i) ∧ gI P (r + 15) i = E (221 + 11 * i + 1) ∧ gI P (r + 16) i = E (221 + 11 * i + 2) ∧ gI P (r + 17) i = E (221 + 11 * i + 3) ∧ gI P (r + 18) i = E (221 + 11 * i + 4) ∧ gI P (r + 19) i = E (221 + 11 * i + 5) ∧ gI P (r + 20) i = E (221 + 11 * i + 6)) ∧
  (∃ c, c < n ∧ E (221 + 11 * i) = nI c) ∧ (∃ v, v < 6 ∧ E (221 + 11 * i + 1) = nI v) ∧ nB (E (221 + 11 * i + 2)) 1 999 ∧ nB (E (221 + 11 * i + 3)) 0 9999 ∧ nB (E (221 + 11 * i + 4)) 1 9999 ∧ nB (E (221 + 11 * i + 5)) 0 99 ∧ (E (221 + 11 * i + 6) = -1 ∨ ∃ j, j < i ∧ E (221 + 11 * i + 6) = nI j)
def dT (P : Mm) (r : Nat) (E : Nat → Int32) (i : Nat) : Prop :=
  (gI P (r + 26) i = E (353 + 2 * i) ∧ gI P (r + 27) i = E (353 + 2 * i + 1)) ∧ (∃ v, v < 6 ∧ E (353 + 2 * i) = nI v) ∧ nB (E (353 + 2 * i + 1)) 1 99
def dS (P : Mm) (r : Nat) (E : Nat → Int32) (n f t w : Nat) : Prop :=
  (n ≤ 16 ∧ f ≤ 12 ∧ t ≤ 12 ∧ w ≤ 10) ∧ (gI P (r + 4) 8 = nI n ∧ gI P (r + 13) 11 = nI f ∧ gI P (r + 25) 2 = nI t ∧ gI P (r + 28) 1 = nI w) ∧ (E 0 = nI n ∧ E 1 = nI f ∧ E 2 = nI t ∧ E 3 = nI w) ∧
  (∀ i, i < n → dC P r E i) ∧ (∀ i, i < f → dF P r E n i) ∧ (∀ i, i < t → dT P r E i) ∧ gI P (r + 25) 3 = iS (fun i => E (353 + 2 * i + 1)) 0 t ∧ (∀ i, i < w → gI P (r + 29) i = E (377 + i)) ∧
  (E 12 = 0 ∧ w = 0 ∨ E 12 = 1 ∧ 0 < w) ∧ E 4 = 0 ∧ ∀ j, j < 393 → ¬ stI j → j ≠ 12 → E j = 0
/-- the drafts' inflow -/
def dI (P : Mm) (r : Nat) (E : Nat → Int32) : Prop :=
  (E 6 = 0 ∧ gI P r 4 = 0 ∧ gI P (r + 30) 2 = 1 ∧ gI P (r + 31) 0 = 100 ∧ E 7 = 0) ∨ (E 6 = 1 ∧ ¬ gI P r 4 = 0 ∧ ∃ l, FQ P (r + 30) E l ∧ hok l 0 ∧ l.length ≤ 900 ∧ (enc l).length ≤ 1400)
def DD (P : Mm) (r : Nat) (E : Nat → Int32) : Prop := (∃ n f t w, dS P r E n f t w) ∧ dI P r E
theorem dS.e {P Q : Mm} {r : Nat} {E : Nat → Int32} {n f t w : Nat} (h : dS P r E n f t w) (g : ∀ q, r + 4 ≤ q → q ≤ r + 29 → gI Q q = gI P q) : dS Q r E n f t w := by
  unfold dS dC dF dT at h ⊢
  rw [g (r + 4) (by omega) (by omega), g (r + 5) (by omega) (by omega), g (r + 6) (by omega) (by omega), g (r + 7) (by omega) (by omega), g (r + 8) (by omega) (by omega), g (r + 9) (by omega) (by omega), g (r + 13) (by omega) (by omega), g (r + 14) (by omega) (by omega), g (r + 15) (by omega) (by omega), g (r + 16) (by omega) (by omega), g (r + 17) (by omega) (by omega), g (r + 18) (by omega) (by omega), g (r + 19) (by omega) (by omega), g (r + 20) (by omega) (by omega), g (r + 25) (by omega) (by omega), g (r + 26) (by omega) (by omega), g (r + 27) (by omega) (by omega), g (r + 28) (by omega) (by omega), g (r + 29) (by omega) (by omega)]
  exact h
theorem dI.e {P Q : Mm} {r : Nat} {E : Nat → Int32} (h : dI P r E) (g4 : gI Q r 4 = gI P r 4) (g30 : gI Q (r + 30) = gI P (r + 30)) (g31 : gI Q (r + 31) = gI P (r + 31)) : dI Q r E := by
  unfold dI FQ at h ⊢
  rw [show r + 30 + 1 = r + 31 from rfl] at h ⊢
  rw [g4, g30, g31]
  exact h
theorem dI.E {P : Mm} {r : Nat} {E F : Nat → Int32} (h : dI P r E) (g : ∀ j, (j = 6 ∨ j = 7 ∨ 393 ≤ j) → F j = E j) : dI P r F := by
  unfold dI FQ at h ⊢
  rw [g 6 (by omega), g 7 (by omega)]
  rcases h with h | ⟨h1, h2, l, ⟨f1, f2, f3, f4, f5⟩, h4⟩
  · exact Or.inl h
  · exact Or.inr ⟨h1, h2, l, ⟨f1, f2, f3, fun i c hc => by rw [g _ (by omega)]; exact f4 i c hc, f5⟩, h4⟩
theorem DD.e {P Q : Mm} {r : Nat} {E : Nat → Int32} (h : DD P r E) (g4 : gI Q r 4 = gI P r 4) (g : ∀ q, r + 4 ≤ q → q ≤ r + 31 → gI Q q = gI P q) : DD Q r E := by
  obtain ⟨⟨n, f, t, w, h1⟩, h2⟩ := h
  exact ⟨⟨n, f, t, w, h1.e (fun q a b => g q a (by omega))⟩, h2.e g4 (g _ (by omega) (by omega)) (g _ (by omega) (by omega))⟩
/-! == a number that both put into their draft == -/
/-- only the row a has changed, at k, and the token -/
def W1 (Q P : Mm) (r a k : Nat) (v : Int32) : Prop := gI Q r = gI P r ∧ gI Q a = upd (gI P a) k v ∧ ∀ q, q ≠ r + 1 → q ≠ a → gI Q q = gI P q
theorem w1_nx (P : Mm) {r a : Nat} (k : Nat) (v : Int32) (ha : r + 2 < a) : W1 (pu (v, nxM P (r + 1)) a k) P r a k v := by
  unfold W1 pu
  dsimp only
  rw [gI_s, gI_f _ _ (by omega), gI_nx _ (by omega), gI_nx _ (by omega)]
  exact ⟨rfl, rfl, fun q h1 h2 => by rw [gI_f _ _ h2, gI_nx _ h1]⟩
theorem ty_pu {P N : Mm} {r m a k i : Nat} {v u : Int32} (h : TY P r N m) (ha : r + 2 < a) : TY (pu (v, P) a k) r (puN m (u, N) i) m := by
  refine (h.cP ?_ ?_ ?_).cN ?_ ?_ ?_ ?_
  · show gI (sI P a _) r 3 = _
    rw [gI_f _ _ (by omega)]
  · exact gI_f _ _ (by omega)
  · exact gI_f _ _ (by omega)
  · show gI (sI N (m + 3) _) m 3 = _
    rw [gI_f _ _ (by omega)]
  · show gI (sI N (m + 3) _) m 4 = _
    rw [gI_f _ _ (by omega)]
  · show gI (sI N (m + 3) _) m 5 = _
    rw [gI_f _ _ (by omega)]
  · exact gI_f _ _ (by omega)
theorem er_pu {P N : Mm} {r m a k i : Nat} {v u : Int32} (h : ER P r N m) (ha : r + 2 < a) : ER (pu (v, P) a k) r (puN m (u, N) i) m := h.k (xe_i _ _ (by omega)) (me_i _ _ (by omega))
theorem pu_eta (x : Int32 × Mm) (a k : Nat) : pu (x.1, x.2) a k = pu x a k := rfl
theorem puN_eta (m : Nat) (x : Int32 × Mm) (i : Nat) : puN m (x.1, x.2) i = puN m x i := rfl
/-- a number, put by both -/
theorem st_nu {P N : Mm} {r m a k i : Nat} (h : TY P r N m) (lo hi : Int32) (ha : r + 2 < a) :
    (∃ v, ¬ nI v < lo ∧ ¬ hi < nI v ∧ v ≤ 1000000 ∧ TY (pu (rnM P r lo hi) a k) r (puN m (nuN N m lo hi) i) m ∧ W1 (pu (rnM P r lo hi) a k) P r a k (nI v) ∧ gI (puN m (nuN N m lo hi) i) (m + 3) = upd (gI N (m + 3)) i (nI v)) ∨ ER (pu (rnM P r lo hi) a k) r (puN m (nuN N m lo hi) i) m := by
  rcases ty_nu h lo hi with ⟨v, k1, k2, k3, k4, k5, -, k7⟩ | e
  · left
    refine ⟨v, k2, k3, k1, ?_, ?_, ?_⟩
    · rw [k4]
      exact ty_pu k7 ha
    · rw [k4]
      exact w1_nx P k (nI v) ha
    · rw [pu_d, nu_d, k5]
  · exact Or.inr (er_pu e ha)
theorem xe_st (P : Mm) {r a k : Nat} (lo hi : Int32) (ha : r + 2 < a) : xe (pu (rnM P r lo hi) a k) P r := xe_pu (xe_rn P r lo hi) (by omega) k
theorem me_st (N : Mm) {m i : Nat} (lo hi : Int32) : me (puN m (nuN N m lo hi) i) N m := (me_i _ _ (by omega)).t (me_nu N m lo hi)
theorem me_up (N : Mm) (m i : Nat) : me (up1 m N i) N m := me_i _ _ (by omega)
/-- numbers in a range -/
theorem rg {v lo hi : Nat} (h1 : ¬ nI v < nI lo) (h2 : ¬ nI hi < nI v) (hv : v ≤ 1000000) (hl : lo ≤ 1000000) (hh : hi ≤ 1000000) : nB (nI v) lo hi := by
  refine ⟨v, ?_, ?_, rfl⟩
  · rcases Nat.lt_or_ge v lo with z | z
    · exact absurd ((nI_ltI (by omega) (by omega)).mpr z) h1
    · exact z
  · rcases Nat.lt_or_ge hi v with z | z
    · exact absurd ((nI_ltI (by omega) (by omega)).mpr z) h2
    · exact z
theorem rg1 {v n : Nat} (h2 : ¬ (nI n - 1) < nI v) (hv : v ≤ 1000000) (hn : n ≤ 1000) : v < n := by
  rcases Nat.lt_or_ge v n with z | z
  · exact z
  · exfalso
    apply h2
    apply t_lt.mpr
    rw [t_sub (by rw [t_nI (by omega), show (1 : Int32).toInt = 1 from rfl]; omega) (by rw [t_nI (by omega), show (1 : Int32).toInt = 1 from rfl]; omega), t_nI (by omega), t_nI (by omega), show (1 : Int32).toInt = 1 from rfl]
    omega
/-! == a turn == -/
theorem ne_12 {n N : Nat} (h : n < N) (hN : N < 2 ^ 31) : ¬ nI n = nI N := fun e => by
  have := (nI_eq (by omega) hN).mp e
  omega
theorem iS_u1 (E : Nat → Int32) (t : Nat) (v : Int32) {F : Nat → Int32} (h : ∀ i, i < t → F i = E i) (hv : F t = v) : iS F 0 (t + 1) = iS E 0 t + v := by
  rw [iS_a F t 1 0, Nat.zero_add, iS_e (F := F) (H := E) t 0 (fun i _ hi => h i (by omega))]
  show _ + (F t + 0) = _
  rw [hv, Int32.add_zero]
theorem er_f2 {P N : Mm} {r m : Nat} {c s : Int32} (h1 : gI P r 3 = 0) (h5 : gI N m 5 = 0) (hs : gI P (r + 1) 3 = s) (hc : c < 0) : ER (flM P r c) r (reN N m c s) m := by
  have a1 : gI (flM P r c) r = upd (upd (gI P r) 3 c) 2 (gI P (r + 1) 3) := by
    unfold flM
    rw [if_pos h1, gI_s]
  have a2 : gI (reN N m c s) m = upd (upd (gI N m) 5 c) 6 s := by
    unfold reN
    rw [if_pos h5, gI_s]
  unfold ER
  rw [a1, a2, upd_s, upd_s, upd_n _ _ (show (3 : Nat) ≠ 2 by decide), upd_s, upd_n _ _ (show (5 : Nat) ≠ 6 by decide), upd_s, hs]
  exact ⟨ne_lt hc, rfl, rfl, hc⟩
theorem TY.z {P N : Mm} {r m : Nat} (h : TY P r N m) : gI P r 3 = 0 ∧ gI N m 5 = 0 := by
  obtain ⟨L, s, -, -, -, -, h1, h2, -⟩ := h.f
  exact ⟨h1, h2⟩
theorem dC.e {P Q : Mm} {r i : Nat} {E F : Nat → Int32} (h : dC P r E i) (gE : ∀ j, 13 + 13 * i ≤ j → j ≤ 13 + 13 * i + 4 → F j = E j) (g : ∀ q, r + 5 ≤ q → q ≤ r + 9 → gI Q q i = gI P q i) : dC Q r F i := by
  unfold dC at h ⊢
  rw [gE _ (Nat.le_refl _) (by omega), gE (13 + 13 * i + 1) (by omega) (by omega), gE (13 + 13 * i + 2) (by omega) (by omega), gE (13 + 13 * i + 3) (by omega) (by omega), gE (13 + 13 * i + 4) (by omega) (by omega), g (r + 5) (by omega) (by omega), g (r + 6) (by omega) (by omega), g (r + 7) (by omega) (by omega), g (r + 8) (by omega) (by omega), g (r + 9) (by omega) (by omega)]
  exact h
theorem dF.e {P Q : Mm} {r n i : Nat} {E F : Nat → Int32} (h : dF P r E n i) (gE : ∀ j, 221 + 11 * i ≤ j → j ≤ 221 + 11 * i + 6 → F j = E j) (g : ∀ q, r + 14 ≤ q → q ≤ r + 20 → gI Q q i = gI P q i) : dF Q r F n i := by
  unfold dF at h ⊢
  rw [gE _ (Nat.le_refl _) (by omega), gE (221 + 11 * i + 1) (by omega) (by omega), gE (221 + 11 * i + 2) (by omega) (by omega), gE (221 + 11 * i + 3) (by omega) (by omega), gE (221 + 11 * i + 4) (by omega) (by omega), gE (221 + 11 * i + 5) (by omega) (by omega), gE (221 + 11 * i + 6) (by omega) (by omega), g (r + 14) (by omega) (by omega), g (r + 15) (by omega) (by omega), g (r + 16) (by omega) (by omega), g (r + 17) (by omega) (by omega), g (r + 18) (by omega) (by omega), g (r + 19) (by omega) (by omega), g (r + 20) (by omega) (by omega)]
  exact h
theorem dF.n {P : Mm} {r n k i : Nat} {E : Nat → Int32} (h : dF P r E n i) (hk : n ≤ k) : dF P r E k i := by
  obtain ⟨h1, ⟨c, h2, h3⟩, h4⟩ := h
  exact ⟨h1, ⟨c, by omega, h3⟩, h4⟩
theorem dT.e {P Q : Mm} {r i : Nat} {E F : Nat → Int32} (h : dT P r E i) (gE : ∀ j, 353 + 2 * i ≤ j → j ≤ 353 + 2 * i + 1 → F j = E j) (g : ∀ q, r + 26 ≤ q → q ≤ r + 27 → gI Q q i = gI P q i) : dT Q r F i := by
  unfold dT at h ⊢
  rw [gE _ (Nat.le_refl _) (by omega), gE (353 + 2 * i + 1) (by omega) (by omega), g (r + 26) (by omega) (by omega), g (r + 27) (by omega) (by omega)]
  exact h
theorem dS.tu {P Q : Mm} {r n f t w a b : Nat} {E F : Nat → Int32} (h : dS P r E n f t w) (ht : t < 12) (ha : a < 6) (hb1 : 1 ≤ b) (hb2 : b ≤ 99)
    (q25 : gI Q (r + 25) = upd (upd (gI P (r + 25)) 3 (gI P (r + 25) 3 + nI b)) 2 (gI P (r + 25) 2 + 1)) (q26 : gI Q (r + 26) = upd (gI P (r + 26)) t (nI a)) (q27 : gI Q (r + 27) = upd (gI P (r + 27)) t (nI b)) (qo : ∀ q, r + 4 ≤ q → q ≤ r + 29 → q ≠ r + 25 → q ≠ r + 26 → q ≠ r + 27 → gI Q q = gI P q)
    (hF : F = upd (upd (upd E (353 + 2 * t) (nI a)) (353 + 2 * t + 1) (nI b)) 2 (E 2 + 1)) : dS Q r F n f (t + 1) w := by
  obtain ⟨⟨b1, b2, b3, b4⟩, ⟨c1, c2, c3, c4⟩, ⟨e0, e1, e2, e3⟩, hC, hFi, hT, hcy, hG, h12, h4, hZ⟩ := h
  have uF : ∀ j, j ≠ 353 + 2 * t → j ≠ 353 + 2 * t + 1 → j ≠ 2 → F j = E j := fun j g1 g2 g3 => by rw [hF, upd_n _ _ g3, upd_n _ _ g2, upd_n _ _ g1]
  have f0 : F (353 + 2 * t) = nI a := by rw [hF, upd_n _ _ (by omega), upd_n _ _ (by omega), upd_s]
  have f1 : F (353 + 2 * t + 1) = nI b := by rw [hF, upd_n _ _ (by omega), upd_s]
  have f2 : F 2 = nI (t + 1) := by rw [hF, upd_s, e2]; exact nI_add t 1
  refine ⟨⟨b1, b2, ht, b4⟩, ⟨?_, ?_, ?_, ?_⟩, ⟨?_, ?_, f2, ?_⟩, fun i hi => (hC i hi).e (fun j g1 g2 => uF j (by omega) (by omega) (by omega)) (fun q g1 g2 => by rw [qo q (by omega) (by omega) (by omega) (by omega) (by omega)]), fun i hi => (hFi i hi).e (fun j g1 g2 => uF j (by omega) (by omega) (by omega)) (fun q g1 g2 => by rw [qo q (by omega) (by omega) (by omega) (by omega) (by omega)]), fun i hi => ?_, ?_, fun i hi => ?_, ?_, ?_, fun j h1 h2 h3 => ?_⟩
  · rw [qo _ (by omega) (by omega) (by omega) (by omega) (by omega)]; exact c1
  · rw [qo _ (by omega) (by omega) (by omega) (by omega) (by omega)]; exact c2
  · rw [q25, upd_s, c3]; exact nI_add t 1
  · rw [qo _ (by omega) (by omega) (by omega) (by omega) (by omega)]; exact c4
  · rw [uF 0 (by omega) (by omega) (by omega)]; exact e0
  · rw [uF 1 (by omega) (by omega) (by omega)]; exact e1
  · rw [uF 3 (by omega) (by omega) (by omega)]; exact e3
  · by_cases e : i = t
    · subst e
      unfold dT
      rw [q26, q27, upd_s, upd_s, f0, f1]
      exact ⟨⟨rfl, rfl⟩, ⟨a, ha, rfl⟩, ⟨b, hb1, hb2, rfl⟩⟩
    · refine (hT i (by omega)).e (fun j g1 g2 => uF j (by omega) (by omega) (by omega)) (fun q g1 g2 => ?_)
      rcases (show q = r + 26 ∨ q = r + 27 by omega) with g | g
      · rw [g, q26, upd_n _ _ e]
      · rw [g, q27, upd_n _ _ e]
  · rw [q25, upd_n _ _ (by decide), upd_s, hcy]
    exact (iS_u1 (fun i => E (353 + 2 * i + 1)) t (nI b) (F := fun i => F (353 + 2 * i + 1)) (fun i hi => uF (353 + 2 * i + 1) (by omega) (by omega) (by omega)) f1).symm
  · rw [qo _ (by omega) (by omega) (by omega) (by omega) (by omega), uF _ (by omega) (by omega) (by omega)]
    exact hG i hi
  · rw [uF 12 (by omega) (by omega) (by omega)]; exact h12
  · rw [uF 4 (by omega) (by omega) (by omega)]; exact h4
  · rw [uF j (fun e => h2 (by unfold stI; omega)) (fun e => h2 (by unfold stI; omega)) (fun e => h2 (by unfold stI; omega))]
    exact hZ j h1 h2 h3
/-- a turn, read by both -/
theorem sd_tu {P N : Mm} {r m : Nat} {s : Int32} (hT : TY (nxM P (r + 1)) r N m) (hD : DD P r (gI N (m + 3))) (hs : gI P (r + 1) 3 = s) : (TY (rtM P r) r (mtM N m s) m ∧ DD (rtM P r) r (gI (mtM N m s) (m + 3))) ∨ ER (rtM P r) r (mtM N m s) m := by
  obtain ⟨⟨n, f, t, w, hd⟩, hi⟩ := hD
  obtain ⟨p0, n0⟩ := hT.z
  have p0 : gI P r 3 = 0 := by rw [← p0, gI_nx _ (by omega)]
  have ht : t ≤ 12 := hd.1.2.2.1
  have e2 : gI N (m + 3) 2 = nI t := hd.2.2.1.2.2.1
  have c2 : gI P (r + 25) 2 = nI t := hd.2.1.2.2.1
  have ct : (nI t).toNatClampNeg = t := nI_clamp (by omega)
  unfold rtM mtM
  rw [c2, e2, ct]
  rcases Nat.lt_or_ge t 12 with q | q
  · rw [if_pos (show nI t < 12 from (nI_ltI (a := t) (b := 12) (by omega) (by decide)).mpr q)]
    have eS : st1N N m 2 12 s = N := if_neg (by show ¬ gI N (m + 3) 2 = 12; rw [e2]; exact ne_12 (n := t) (N := 12) q (by decide))
    rw [eS, if_neg (fun z => z n0)]
    dsimp only
    have xr2 : xe (rt2 P r t) (rt1 P r t) r := xe_st _ _ _ (by omega)
    have mr2 : me (mt2 N m t) (puN m (nuN N m 0 5) (353 + 2 * t)) m := me_st _ _ _
    rcases st_nu (a := r + 26) (k := t) (i := 353 + 2 * t) hT 0 5 (by omega) with ⟨v1, a1, a2, a3, a4, a5, a6⟩ | e
    · rcases st_nu (a := r + 27) (k := t) (i := 353 + 2 * t + 1) a4 1 99 (by omega) with ⟨v2, d1, d2, d3, d4, d5, d6⟩ | e
      · left
        have f1 : pu (rnM (nxM P (r + 1)) r 0 5) (r + 26) t = rt1 P r t := rfl
        have f2 : pu (rnM (rt1 P r t) r 1 99) (r + 27) t = rt2 P r t := rfl
        have f3 : puN m (nuN (puN m (nuN N m 0 5) (353 + 2 * t)) m 1 99) (353 + 2 * t + 1) = mt2 N m t := rfl
        rw [f1] at a5 d4 d5
        rw [f2] at d4 d5
        rw [f3] at d4 d6
        obtain ⟨b1, b2, hb1, hb2⟩ := rg (lo := 1) (hi := 99) d1 d2 d3 (by decide) (by decide)
        have b3 : v2 = b1 := (nI_eq (by omega) (by omega)).mp hb2
        subst b3
        obtain ⟨g1, g2, g3⟩ := a5
        obtain ⟨k1, k2, k3⟩ := d5
        have hq : ∀ q, q ≠ r → q ≠ r + 1 → q ≠ r + 26 → q ≠ r + 27 → gI (rt2 P r t) q = gI P q := fun q h0 h1 h2 h3 => by rw [k3 q h1 h3, g3 q h1 h2, gI_nx _ h1]
        have q26 : gI (rt2 P r t) (r + 26) = upd (gI P (r + 26)) t (nI v1) := by rw [k3 _ (by omega) (by omega), g2, gI_nx _ (by omega)]
        have q27 : gI (rt2 P r t) (r + 27) = upd (gI P (r + 27)) t (nI v2) := by rw [k2, g3 _ (by omega) (by omega), gI_nx _ (by omega)]
        have q25 : gI (rt2 P r t) (r + 25) = gI P (r + 25) := hq _ (by omega) (by omega) (by omega) (by omega)
        have qr : gI (rt2 P r t) r = gI P r := by rw [k1, g1, gI_nx _ (by omega)]
        have eE : gI (up1 m (mt2 N m t) 2) (m + 3) = upd (upd (upd (gI N (m + 3)) (353 + 2 * t) (nI v1)) (353 + 2 * t + 1) (nI v2)) 2 (gI N (m + 3) 2 + 1) := by
          unfold up1
          rw [gI_s, d6, a6, upd_n _ _ (show 2 ≠ 353 + 2 * t + 1 by omega), upd_n _ _ (show 2 ≠ 353 + 2 * t by omega)]
        have hv1 : v1 < 6 := by
          obtain ⟨x1, x2, x3, x4⟩ := rg (lo := 0) (hi := 5) a1 a2 a3 (by decide) (by decide)
          have := (nI_eq (show v1 < 2 ^ 31 by omega) (show x1 < 2 ^ 31 by omega)).mp x4
          omega
        rw [q25, q27, upd_s]
        refine ⟨(d4.cP ?_ ?_ ?_).cN ?_ ?_ ?_ ?_, ⟨n, f, t + 1, w, hd.tu (Q := sI (rt2 P r t) (r + 25) (upd (upd (gI P (r + 25)) 3 (gI P (r + 25) 3 + nI v2)) 2 (gI P (r + 25) 2 + 1))) q hv1 (by omega) (by omega) (gI_s _ _ _) (by rw [gI_f _ _ (by omega)]; exact q26) (by rw [gI_f _ _ (by omega)]; exact q27) (fun q h1 h2 h3 h4 h5 => by rw [gI_f _ _ h3]; exact hq q (by omega) (by omega) h4 h5) eE⟩, ?_⟩
        · rw [gI_f _ _ (by omega)]
        · rw [gI_f _ _ (by omega)]
        · rw [gI_f _ _ (by omega)]
        · unfold up1; rw [gI_f _ _ (by omega)]
        · unfold up1; rw [gI_f _ _ (by omega)]
        · unfold up1; rw [gI_f _ _ (by omega)]
        · unfold up1; rw [gI_f _ _ (by omega)]
        · refine (hi.e (Q := sI (rt2 P r t) (r + 25) _) ?_ ?_ ?_).E (fun j hj => ?_)
          · rw [gI_f _ _ (by omega), qr]
          · rw [gI_f _ _ (by omega)]; exact hq _ (by omega) (by omega) (by omega) (by omega)
          · rw [gI_f _ _ (by omega)]; exact hq _ (by omega) (by omega) (by omega) (by omega)
          · rw [eE, upd_n _ _ (by omega), upd_n _ _ (by omega), upd_n _ _ (by omega)]
      · exact Or.inr (e.k (xe_i _ _ (by omega)) (me_up _ _ _))
    · exact Or.inr (e.k ((xe_i _ _ (by omega)).t xr2) ((me_up _ _ _).t mr2))
  · have t12 : t = 12 := by omega
    subst t12
    rw [if_neg (show ¬ nI 12 < 12 by decide)]
    have eS : st1N N m 2 12 s = reN N m (-4) s := if_pos e2
    rw [eS, if_pos (re_5 (by decide))]
    exact Or.inr (er_f2 p0 n0 hs (by decide))
