/-! ===== a text from its first byte, read by both ===== -/
theorem ty_st {P N : Mm} {r m L : Nat} (hL : L ≤ 900) (h5 : gI P (r + 1) 5 = nI L) (h6 : gI P (r + 1) 6 = 0) (h3 : gI P r 3 = 0) (n5 : gI N m 5 = 0) (n3 : gI N m 3 = nI L) (n4 : gI N m 4 = 0) (hB : BX (gI P (r + 2)) (gI N (m + 1))) : TY (nxM P (r + 1)) r N m := by
  have e5 : gI (nxM P (r + 1)) r = gI P r := gI_nx _ (by omega)
  have e2 : gI (nxM P (r + 1)) (r + 2) = gI P (r + 2) := gI_nx _ (by omega)
  have eS : nxS P (r + 1) = skq (gI N (m + 1)) L (L - 0) 0 := by
    unfold nxS
    rw [show r + 1 + 1 = r + 2 from rfl, h5, h6, nI_clamp (show L < 2 ^ 31 by omega)]
    exact sk_e hB hL _ _ (by show 0 + (L - 0) = L; omega)
  have eE : nxE P (r + 1) = tkE (gI P (r + 2)) L (gI P (r + 1) 4) (nxS P (r + 1)) := by
    unfold nxE
    rw [show r + 1 + 1 = r + 2 from rfl, h5, nI_clamp (show L < 2 ^ 31 by omega)]
  obtain ⟨c1, c2, c3⟩ := tk_c (gI P (r + 2)) L (gI P (r + 1) 4) (nxS P (r + 1))
  refine ⟨L, 0, hL, Nat.zero_le _, ⟨by rw [e5]; exact h3, n5⟩, ⟨n3, n4⟩, by rw [e2]; exact hB, ?_⟩
  rw [e2, ← eS]
  unfold TYs nxM
  rw [gI_s, eE]
  exact ⟨h5, rfl, c1, c3, by rw [← c2]; rfl⟩
def rz0 (M : Mm) (r : Nat) (x : Int32) : Mm :=
  sI (sI (fgS M (r + 3)) r (upd (upd (upd (gI (fgS M (r + 3)) r) 3 0) 2 (-1)) 4 0)) (r + 1) (upd (upd (gI (sI (fgS M (r + 3)) r (upd (upd (upd (gI (fgS M (r + 3)) r) 3 0) 2 (-1)) 4 0)) (r + 1)) 5 (mnI x (gI (sI (fgS M (r + 3)) r (upd (upd (upd (gI (fgS M (r + 3)) r) 3 0) 2 (-1)) 4 0)) (r + 1) 1))) 6 0)
theorem rz_0 (M : Mm) (r : Nat) (x : Int32) : rzM M r x = nxM (rz0 M r x) (r + 1) := rfl
section LOAD
variable {M P : Mm} {x m q F : Nat}
theorem rz0_e (M : Mm) (r : Nat) (hF : F ≤ 900) (hq : q ≤ F) (e : gI M (r + 1) 1 = nI F) : gI (rz0 M r (nI q)) (r + 1) 5 = nI q ∧ gI (rz0 M r (nI q)) (r + 1) 6 = 0 ∧ gI (rz0 M r (nI q)) r 3 = 0 ∧ gI (rz0 M r (nI q)) r 2 = -1 ∧ gI (rz0 M r (nI q)) r 4 = 0 ∧ ∀ k, k ≠ r → k ≠ r + 1 → gI (rz0 M r (nI q)) k = gI (fgS M (r + 3)) k := by
  unfold rz0
  have e1 : gI (sI (fgS M (r + 3)) r (upd (upd (upd (gI (fgS M (r + 3)) r) 3 0) 2 (-1)) 4 0)) (r + 1) = gI M (r + 1) := by rw [gI_f _ _ (by omega), fg_f _ (by omega)]
  rw [e1]
  refine ⟨?_, ?_, ?_, ?_, ?_, fun k h0 h1 => ?_⟩
  · rw [gI_s, upd_n _ _ (by decide), upd_s, e]
    unfold mnI
    rw [if_neg (fun z => by have := (nI_ltI (by omega) (by omega)).mp z; omega)]
  · rw [gI_s, upd_s]
  · rw [gI_f _ _ (by omega), gI_s, upd_n _ _ (by decide), upd_n _ _ (by decide), upd_s]
  · rw [gI_f _ _ (by omega), gI_s, upd_n _ _ (by decide), upd_s]
  · rw [gI_f _ _ (by omega), gI_s, upd_s]
  · rw [gI_f _ _ h1, gI_f _ _ h0]
theorem fg_g2 (M : Mm) (b : Nat) : gI (fgS M b) (b + 22) 3 = 0 ∧ gI (fgS M b) (b + 28) 0 = 100 := by
  unfold fgS
  dsimp only
  constructor
  · rw [gI_f _ _ (by omega), gI_f _ _ (by omega), gI_f _ _ (by omega), gI_s, upd_s]
  · rw [gI_s, upd_s]
theorem ldZ_o (M : Mm) (m : Nat) (n : Int32) (k : Nat) : gI (ldZ M m n k) m = ldO (gI M m) n ∧ gI (ldZ M m n k) (m + 3) = zrD k (gI M (m + 3)) ∧ ∀ q, q ≠ m → q ≠ m + 3 → gI (ldZ M m n k) q = gI M q := by
  unfold ldZ
  exact ⟨by rw [gI_f _ _ (by omega), gI_s], gI_s _ _ _, fun q h1 h2 => by rw [gI_f _ _ h2, gI_f _ _ h1]⟩
theorem ldO_e (D : Nat → Int32) (n : Int32) : ldO D n 0 = 0 ∧ ldO D n 2 = 0 ∧ ldO D n 3 = n ∧ ldO D n 4 = 0 ∧ ldO D n 5 = 0 ∧ ldO D n 6 = -1 ∧ ldO D n 14 = 0 ∧ ldO D n 15 = 0 ∧ ldO D n 12 = D 12 ∧ ldO D n 7 = D 7 := ⟨rfl, rfl, rfl, rfl, rfl, rfl, rfl, rfl, rfl, rfl⟩
theorem rsL_n (r : Nat) : ∀ z n P, ∃ j, j ≤ z ∧ (rsL r z (nI n) P).1 = nI (n + j)
  | 0, n, _ => ⟨0, Nat.le_refl _, rfl⟩
  | z + 1, n, P => by
    unfold rsL
    split
    · obtain ⟨j, hj, e⟩ := rsL_n r z (n + 1) (skM (rsS P r) r 59)
      rw [nI_1]
      exact ⟨j + 1, by omega, by rw [e, show n + 1 + j = n + (j + 1) by omega]⟩
    · exact ⟨0, by omega, rfl⟩
/-- what both have read -/
theorem ld_two (hB : BX (gI M (x + 3)) (gI P (m + 1))) (hF : F ≤ 900) (hq : q ≤ F) (e : gI M (x + 2) 1 = nI F) :
    (gI (rzR M (x + 1) (nI q)).2 (x + 1) 3 = 0 ∧ gI (ldR P m (nI q)) m 5 = 0 ∧ DD (rzR M (x + 1) (nI q)).2 (x + 1) (gI (ldR P m (nI q)) (m + 3)) ∧ (rzR M (x + 1) (nI q)).1 = gI (ldR P m (nI q)) m 15 ∧ (∃ j, j ≤ 901 ∧ (rzR M (x + 1) (nI q)).1 = nI j) ∧ gI (rzR M (x + 1) (nI q)).2 (x + 1) 2 = gI (ldR P m (nI q)) m 6) ∨
    (¬ gI (ldR P m (nI q)) m 5 = 0 ∧ gI (rzR M (x + 1) (nI q)).2 (x + 1) 3 = gI (ldR P m (nI q)) m 5 ∧ gI (rzR M (x + 1) (nI q)).2 (x + 1) 2 = gI (ldR P m (nI q)) m 6 ∧ gI (ldR P m (nI q)) m 5 < 0) := by
  obtain ⟨r5, r6, r3, r2, r4, rk⟩ := rz0_e M (x + 1) hF hq e
  obtain ⟨z0, z3, zk⟩ := ldZ_o P m (nI q) 1793
  obtain ⟨o0, o2, o3, o4, o5, o6, o14, o15, o12, o7⟩ := ldO_e (gI P m) (nI q)
  obtain ⟨f1, f2, f3, f4, f5⟩ := fg_g M (x + 1 + 3)
  obtain ⟨f6, f7⟩ := fg_g2 M (x + 1 + 3)
  have nk : ∀ k, k ≠ x + 1 → k ≠ x + 2 → gI (rzM M (x + 1) (nI q)) k = gI (fgS M (x + 1 + 3)) k := fun k h0 h1 => by
    rw [rz_0, gI_nx _ h1]
    exact rk k h0 h1
  have n1 : gI (rzM M (x + 1) (nI q)) (x + 1) = gI (rz0 M (x + 1) (nI q)) (x + 1) := by rw [rz_0, gI_nx _ (by omega)]
  have hT : TY (rzM M (x + 1) (nI q)) (x + 1) (ldZ P m (nI q) 1793) m := by
    rw [rz_0]
    refine ty_st (L := q) (by omega) r5 r6 r3 (by rw [z0]; exact o5) (by rw [z0]; exact o3) (by rw [z0]; exact o4) ?_
    have a : gI (rz0 M (x + 1) (nI q)) (x + 1 + 2) = gI M (x + 3) := by rw [rk _ (by omega) (by omega), fg_f _ (by omega)]
    rw [a, zk _ (by omega) (by omega)]
    exact hB
  have z : ∀ j, j < 1793 → gI (ldZ P m (nI q) 1793) (m + 3) j = 0 := fun j hj => by
    rw [z3]
    exact if_pos hj
  have hD : DD (rzM M (x + 1) (nI q)) (x + 1) (gI (ldZ P m (nI q) 1793) (m + 3)) := by
    refine ⟨⟨0, 0, 0, 0, ⟨by decide, by decide, by decide, by decide⟩, ⟨?_, ?_, ?_, ?_⟩, ⟨z _ (by decide), z _ (by decide), z _ (by decide), z _ (by decide)⟩, fun i hi => absurd hi (by omega), fun i hi => absurd hi (by omega), fun i hi => absurd hi (by omega), ?_, fun i hi => absurd hi (by omega), Or.inl ⟨z _ (by decide), rfl⟩, z _ (by decide), fun j hj _ _ => z j (by omega)⟩, Or.inl ⟨z _ (by decide), ?_, ?_, ?_, z _ (by decide)⟩⟩
    · rw [nk _ (by omega) (by omega)]; exact f1
    · rw [nk _ (by omega) (by omega)]; exact f2
    · rw [nk _ (by omega) (by omega)]; exact f3
    · rw [nk _ (by omega) (by omega)]; exact f4
    · rw [nk _ (by omega) (by omega)]; exact f6
    · rw [n1]; exact r4
    · rw [nk _ (by omega) (by omega)]; exact f5
    · rw [nk _ (by omega) (by omega)]; exact f7
  have cq : (nI q).toNatClampNeg = q := nI_clamp (by omega)
  have hR : ldR P m (nI q) = ldL m q (ldZ P m (nI q) 1793) := by
    unfold ldR
    rw [cq]
  rw [hR]
  have po : mPo (ldZ P m (nI q) 1793) m = 0 := by
    unfold mPo
    rw [z0, o4]
    rfl
  have two := sd_ld (r := x + 1) (m := m) (L := q) (by omega) q 901 (rzM M (x + 1) (nI q)) (ldZ P m (nI q) 1793) 0 (by omega) hT hD (by rw [z0]; exact o14) (by rw [z0]; exact o15) (by rw [z0]; exact o3) (by rw [po]; omega) ⟨0, z _ (by decide)⟩
  have eW : rzR M (x + 1) (nI q) = rsL (x + 1) 901 0 (rzM M (x + 1) (nI q)) := rfl
  rw [eW]
  rcases two with ⟨t, d, c⟩ | ⟨a1, a2, a3, a4⟩
  · left
    obtain ⟨t3, t5⟩ := t.z
    obtain ⟨-, y2⟩ := x0_rL (x + 1) 901 0 _ t3
    obtain ⟨-, y6⟩ := m0_ld m q _ t5
    refine ⟨t3, t5, d, c, ?_, ?_⟩
    · obtain ⟨j, hj, ej⟩ := rsL_n (x + 1) 901 0 (rzM M (x + 1) (nI q))
      exact ⟨j, hj, by rw [Nat.zero_add] at ej; exact ej⟩
    · rw [y2, y6, n1, r2, z0, o6]
  · exact Or.inr ⟨a1, a2, a3, a4⟩
end LOAD
