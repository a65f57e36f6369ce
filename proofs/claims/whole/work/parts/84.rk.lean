/-! ===== the open gates and canals: a State and a row ===== -/
def FO1 (D : Nat → Int32) (f : Nat) : Prop := ∀ k, k < f → D (221 + 11 * k + 10) = 0 ∨ D (221 + 11 * k + 10) = 1
theorem bg_o {M : Mm} {b : Nat} {D : Nat → Int32} {f k : Nat} (hF : FO1 D f) (hk : k < f) (h2 : gI M (b + 12) k = D (221 + 11 * k + 1)) (h3 : gI M (b + 21) k = D (221 + 11 * k + 10)) : bG M (b + 10) k (tuD D (D 5)) = oqI D k := by
  show (if gI M (b + 12) k = tuD D (D 5) ∨ ¬ gI M (b + 21) k = 0 then (1 : Int32) else 0) = _
  unfold oqI
  rw [h2, h3]
  rcases hF k hk with e | e
  · rw [e, if_neg (show ¬ (0 : Int32) = 1 by decide)]
    by_cases p : D (221 + 11 * k + 1) = tuD D (D 5)
    · rw [if_pos p, if_pos (Or.inl p)]
    · rw [if_neg p, if_neg (fun y => y.elim p (fun y => y rfl))]
  · rw [e, if_pos rfl, if_pos (Or.inr (by decide))]
theorem fo_1 (D : Nat → Int32) : ∀ q k (z : (Nat → Int32) × (Nat → Int32)) i, i < k → (itr (foD D) q k z).1 i = z.1 i
  | 0, _, _, _, _ => rfl
  | q + 1, k, z, i, hi => by
    show (itr (foD D) q (k + 1) (foD D k z)).1 i = _
    rw [fo_1 D q (k + 1) _ i (by omega)]
    exact upd_n _ _ (by omega)
theorem fo_2 (D : Nat → Int32) : ∀ q k (z : (Nat → Int32) × (Nat → Int32)) i, k ≤ i → i < k + q → (itr (foD D) q k z).1 i = oqI D i
  | 0, k, _, i, h1, h2 => by omega
  | q + 1, k, z, i, h1, h2 => by
    show (itr (foD D) q (k + 1) (foD D k z)).1 i = _
    by_cases e : k = i
    · subst e
      rw [fo_1 D q (k + 1) _ k (by omega)]
      exact upd_s _ _ _
    · exact fo_2 D q (k + 1) _ i (by omega) (by omega)
theorem fo_o {D O L : Nat → Int32} {f k : Nat} (h : D 1 = nI f) (hf : f ≤ 12) (hk : k < f) : (foR D O L).1 k = oqI D k := by
  unfold foR
  rw [h, nI_clamp (by omega)]
  exact fo_2 D f 0 _ k (by omega) (by omega)
theorem u_01 (g L : Nat → Int32) (n p : Nat) (h : ∀ i, i < n → (g i = 0 ↔ L i = 0)) : ∀ i, i < n → (upd g p 1 i = 0 ↔ upd L p 1 i = 0) := by
  intro i hi
  by_cases e : i = p
  · subst e
    rw [upd_s, upd_s]
  · rw [upd_n _ _ e, upd_n _ _ e]
    exact h i hi
theorem mk_o {M : Mm} {b : Nat} {D : Nat → Int32} {n f r w g : Nat} (hD : WD D n f r w g) (hs : RSs M b D n f r w) {t : Int32} (hb : ∀ k, k < f → bG M (b + 10) k t = oqI D k) : ∀ q k (u : Nat → Int32) (z : (Nat → Int32) × (Nat → Int32)), k + q = f → (∀ i, i < n → (u i = 0 ↔ z.2 i = 0)) → ∀ i, i < n → (itr (mkA M (b + 10) (b + 1) t) q k u i = 0 ↔ (itr (foD D) q k z).2 i = 0)
  | 0, _, _, _, _, h => h
  | q + 1, k, u, z, hk, h => by
    have hn : n ≤ 16 := hD.1.1
    refine mk_o hD hs hb q (k + 1) (mkA M (b + 10) (b + 1) t k u) (foD D k z) (by omega) ?_
    obtain ⟨c, hc, ec⟩ := (hD.2.2.2.2.1 k (by omega)).1
    have g1 : gI M (b + 11) k = nI c := ((hs.2.2.1 k (by omega)).1).trans ec
    have hx : ¬ gI M (b + 11) k < 0 ∧ gI M (b + 11) k < gI M (b + 1) 8 := by
      rw [g1, hs.1.1]
      exact ⟨nI_pos (by omega), (nI_ltI (by omega) (by omega)).mpr hc⟩
    have em : mkA M (b + 10) (b + 1) t k u = if oqI D k = 0 then u else upd u c 1 := by
      show (if bG M (b + 10) k t = 0 then u else if ¬ gI M (b + 11) k < 0 ∧ gI M (b + 11) k < gI M (b + 1) 8 then upd u (gI M (b + 11) k).toNatClampNeg 1 else u) = _
      rw [hb k (by omega), if_pos hx, g1, nI_clamp (by omega)]
    have ef : (foD D k z).2 = if oqI D k = 0 then z.2 else upd z.2 c 1 := by
      show (if oqI D k = 0 then z.2 else upd z.2 (D (221 + 11 * k)).toNatClampNeg 1) = _
      rw [ec, nI_clamp (by omega)]
    rw [em, ef]
    split
    · exact h
    · exact u_01 u z.2 n c h
theorem op_g (M0 : Mm) {b j : Nat} (hj : j ≠ 8) : ∀ k N, gI (opP M0 (b + 1) k N) (b + j) = gI N (b + j) ∧ gJ (opP M0 (b + 1) k N) = gJ N
  | 0, _ => ⟨rfl, rfl⟩
  | k + 1, N => by
    unfold opP
    split
    · exact ⟨rfl, rfl⟩
    · split
      · exact op_g M0 hj k N
      · obtain ⟨h1, h2⟩ := op_g M0 hj k (sI N (b + 1 + 7) (opA N (b + 1) (gI M0 (b + 1 + 1) k)))
        exact ⟨h1.trans (gI_f _ _ (by omega)), h2⟩
theorem op_o {M0 : Mm} {b : Nat} {D : Nat → Int32} {n f r w g : Nat} (hD : WD D n f r w g) (hs : RSs M0 b D n f r w) : ∀ k N (L : Nat → Int32), k ≤ n → gI N (b + 1) 8 = nI n → (∀ i, i < n → (gI N (b + 8) i = 0 ↔ L i = 0)) → ∀ i, i < n → (gI (opP M0 (b + 1) k N) (b + 8) i = 0 ↔ fuP D k L i = 0)
  | 0, _, _, _, _, h => h
  | k + 1, N, L, hk, hc, h => by
    have hn : n ≤ 16 := hD.1.1
    unfold opP fuP
    by_cases k0 : k = 0
    · rw [if_pos k0, if_pos k0]
      exact h
    · rw [if_neg k0, if_neg k0]
      obtain ⟨p, hp, ep⟩ := (hD.2.2.2.1 k (by omega)).2 (by omega)
      have g1 : gI M0 (b + 1 + 1) k = nI p := ((hs.2.1 k (by omega)).1).trans ep
      have eo : opA N (b + 1) (gI M0 (b + 1 + 1) k) = upd (gI N (b + 8)) p 1 := by
        rw [g1]
        unfold opA
        rw [if_pos ⟨nI_pos (by omega), by rw [hc]; exact (nI_ltI (by omega) (by omega)).mpr (by omega)⟩, nI_clamp (by omega)]
      rw [eo, ep, nI_clamp (by omega)]
      have hk2 := h k (by omega)
      by_cases q : gI N (b + 8) k = 0
      · have q2 : gI N (b + 1 + 7) k = 0 := q
        rw [if_pos q2, if_pos (hk2.mp q)]
        exact op_o hD hs k N L (by omega) hc h
      · have q2 : ¬ gI N (b + 1 + 7) k = 0 := q
        rw [if_neg q2, if_neg (fun y => q (hk2.mpr y))]
        refine op_o hD hs k _ _ (by omega) ?_ ?_
        · rw [gI_f _ _ (by omega)]
          exact hc
        · rw [show gI (sI N (b + 1 + 7) (upd (gI N (b + 8)) p 1)) (b + 8) = upd (gI N (b + 8)) p 1 from gI_s _ _ _]
          exact u_01 _ _ n p h
/-- marking the open canals -/
theorem ol_m {M : Mm} {b : Nat} {D : Nat → Int32} {n f r w g : Nat} (hD : WD D n f r w g) (hs : RSs M b D n f r w) {t : Int32} (hb : ∀ k, k < f → bG M (b + 10) k t = oqI D k) (O L : Nat → Int32) :
    OL (opP M (b + 1) n (sI M (b + 8) (mkO M (b + 10) (b + 1) t))) b (foL D O L) n := by
  have hn : n ≤ 16 := hD.1.1
  have hf : f ≤ 12 := hD.1.2.1
  intro k hk
  unfold foL
  rw [hD.2.1.1, nI_clamp (show n < 2 ^ 31 by omega)]
  refine op_o hD hs n _ _ (Nat.le_refl n) ?_ (fun i hi => ?_) k hk
  · rw [gI_f _ _ (by omega)]
    exact hs.1.1
  · rw [gI_s]
    unfold mkO foR
    rw [show gI M (b + 10) 11 = nI f from hs.1.2.1, show gI M (b + 1) 8 = nI n from hs.1.1, hD.2.1.1, hD.2.1.2.1, nI_clamp (show n < 2 ^ 31 by omega), nI_clamp (show f < 2 ^ 31 by omega)]
    refine mk_o hD hs hb f 0 _ _ (by omega) (fun j hj => ?_) i hi
    show fil n 0 _ j = 0 ↔ fil n 0 L j = 0
    unfold fil
    rw [if_pos hj, if_pos hj]
