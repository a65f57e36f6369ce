/-! ===== undo ===== -/
theorem nar_b01 (y : Int32) : vp_nar .boolean y = 0 ∨ vp_nar .boolean y = 1 := by
  show y &&& 1 = 0 ∨ y &&& 1 = 1
  have key : (y &&& 1).toBitVec.toNat = y.toBitVec.toNat % 2 := by
    rw [Int32.toBitVec_and, BitVec.toNat_and]
    exact Nat.and_one_is_mod _
  rcases Nat.mod_two_eq_zero_or_one y.toBitVec.toNat with e | e
  · left
    apply Int32.toBitVec_inj.mp
    apply BitVec.eq_of_toNat_eq
    rw [key, e]
    rfl
  · right
    apply Int32.toBitVec_inj.mp
    apply BitVec.eq_of_toNat_eq
    rw [key, e]
    rfl
/-- the forced row behind a copy -/
theorem cp_21 (M : Mm) {b o : Nat} (ha : apt b 32 o 32) : gI (cpS M b o) (b + 21) = cpy (gI M (o + 10) 11).toNatClampNeg (fun k => vp_nar .boolean (gI M (o + 21) k)) (gI M (b + 21)) := by
  unfold apt at ha
  have t2 : gI (cpS M b o) (b + 21) = gI (cpS2 M b o) (b + 21) := by
    unfold cpS cpS6 cpS5 cpS4 cpS3
    rw [gI_f _ _ (by omega), (fr_Q _ (by omega)).1, fr_M _ (by omega), fr_G _ (by omega), fr_R _ (by omega)]
  obtain ⟨f1, f2, f3, f4, f5, f6, f7, f8, f9, f10, f11, f0⟩ := cv_F (cpS1 M b o) (c := b + 10) (o := o + 10) (by unfold apt; omega)
  rw [t2]
  unfold cpS2
  rw [show b + 21 = b + 10 + 11 from rfl, f11, fs_1 M (by omega), fs_1 M (by omega), fs_1 M (by omega)]
theorem fb_cp {M : Mm} {b o : Nat} (ha : apt b 32 o 32) (h : ∀ k, k < 12 → gI M (b + 21) k = 0 ∨ gI M (b + 21) k = 1) : ∀ k, k < 12 → gI (cpS M b o) (b + 21) k = 0 ∨ gI (cpS M b o) (b + 21) k = 1 := by
  intro k hk
  rw [cp_21 M ha]
  unfold cpy
  split
  · exact nar_b01 _
  · exact h k hk
section UNDO
variable {M : Mm} {x m : Nat}
theorem HS.v {D B : Nat → Int32} {L e u : Int32} {H : Nat → Nat → Int32} (h : XA M x D B L e u H) : gI M (x + 100) 2 = u := by
  obtain ⟨v, nx, -, -, h3, -, h5, -⟩ := h.2.2.2.1
  rw [h5, h3]
theorem xa_un {D B : Nat → Int32} {L e u : Int32} {H : Nat → Nat → Int32} (h : XA M x D B L e u H) (hu : ¬ u = 0) : XA (rsM M (x + 100) (x + 36)) x (H (u - 1).toNatClampNeg) B L e (u - 1) H ∧ gI (rsM M (x + 100) (x + 36)) (x + 100) 2 = u - 1 ∧ Fx (rsM M (x + 100) (x + 36)) M x := by
  have e2 := HS.v h
  obtain ⟨h1, h2, h3, ⟨v, nx, a1, a2, a3, a4, a5, a6⟩, h5, h6, h7, h8⟩ := h
  obtain ⟨w, rfl⟩ : ∃ w, v = w + 1 := by
    rcases v with _ | w
    · exact absurd a3 hu
    · exact ⟨w, rfl⟩
  have eu : u - 1 = nI w := by rw [a3, nI_pred]
  have eN : rsN M (x + 100) = nI ((nx + 7) % 8) := by
    unfold rsN
    rw [a4]
    rcases Nat.eq_zero_or_pos nx with z | z
    · rw [z, if_pos (by decide)]
      rfl
    · obtain ⟨i, rfl⟩ : ∃ i, nx = i + 1 := ⟨nx - 1, by omega⟩
      rw [if_neg (fun q => by
        have := t_le.mp q
        rw [t_nI (by omega), show (0 : Int32).toInt = 0 from rfl] at this
        omega), nI_pred, show (i + 1 + 7) % 8 = i by omega]
  have hs : (nx + 7) % 8 < 8 := Nat.mod_lt _ (by decide)
  have ha : apt (x + 36) 32 (x + 100 + 2 + 32 * ((nx + 7) % 8)) 32 := by unfold apt; omega
  have hn : ¬ gI M (x + 100) 2 = 0 := by rw [e2]; exact hu
  have eR : rsM M (x + 100) (x + 36) = sI (cpS (sI M (x + 100) (upd (gI M (x + 100)) 1 (nI ((nx + 7) % 8)))) (x + 36) (x + 100 + 2 + 32 * ((nx + 7) % 8))) (x + 100) (upd (upd (gI M (x + 100)) 1 (nI ((nx + 7) % 8))) 2 (nI w)) := by
    unfold rsM
    rw [if_neg hn, eN, nI_clamp (show (nx + 7) % 8 < 2 ^ 31 by omega)]
    dsimp only
    rw [fs_S _ (by omega), gI_s, upd_n _ _ (by decide), e2, eu]
  rw [eu, eR, nI_clamp (show w < 2 ^ 31 by omega)]
  generalize hM1 : sI M (x + 100) (upd (gI M (x + 100)) 1 (nI ((nx + 7) % 8))) = M1
  have m1 : ∀ q, q ≠ x + 100 → gI M1 q = gI M q := fun q hq => by rw [← hM1]; exact gI_f _ _ hq
  have mJ : gJ M1 = gJ M := by rw [← hM1, gJ_sI]
  have mK : gK M1 = gK M ∧ gP M1 = gP M := by rw [← hM1]; exact ⟨rfl, rfl⟩
  generalize hN : sI (cpS M1 (x + 36) (x + 100 + 2 + 32 * ((nx + 7) % 8))) (x + 100) (upd (upd (gI M (x + 100)) 1 (nI ((nx + 7) % 8))) 2 (nI w)) = N
  have nI' : ∀ q, q ≠ x + 100 → gI N q = gI (cpS M1 (x + 36) (x + 100 + 2 + 32 * ((nx + 7) % 8))) q := fun q hq => by rw [← hN]; exact gI_f _ _ hq
  have nJ : gJ N = gJ (cpS M1 (x + 36) (x + 100 + 2 + 32 * ((nx + 7) % 8))) := by rw [← hN, gJ_sI]
  have nK : gK N = gK M ∧ gP N = gP M := by
    rw [← hN, gK_sI, gP_sI, (kp_S M1 _ _).1, (kp_S M1 _ _).2.1]
    exact mK
  have n0 : gI N (x + 100) = upd (upd (gI M (x + 100)) 1 (nI ((nx + 7) % 8))) 2 (nI w) := by rw [← hN, gI_s]
  have far : ∀ q, (q < x + 36 ∨ x + 68 ≤ q) → q ≠ x + 100 → gI N q = gI M q ∧ gJ N q = gJ M q := fun q hq hq2 => ⟨by rw [nI' q hq2, fs_S _ (by omega), m1 q hq2], by rw [nJ, fj_S _ (by omega), mJ]⟩
  refine ⟨⟨h1.k2 nK.1 nK.2, ?_, ?_, ⟨w, (nx + 7) % 8, by omega, hs, rfl, by rw [n0, upd_n _ _ (by decide), upd_s], by rw [n0, upd_s], fun k hk => ?_⟩, h5.eq (fun k hk => (far _ (by omega) (by omega)).1) (far _ (by omega) (by omega)).2, h6.eq (far _ (by omega) (by omega)).1 (far _ (by omega) (by omega)).1, by rw [(far _ (by omega) (by omega)).1]; exact h7, fun i hi => ?_⟩, ?_, nK.1, nK.2, fun q hq => far q (by omega) (by omega)⟩
  · have a := a6 w (by omega)
    rw [show (nx + 8 - (w + 1) + w) % 8 = (nx + 7) % 8 by omega] at a
    have b : PX M1 (x + 100 + 2 + 32 * ((nx + 7) % 8)) (H w) := a.eq (fun j hj => m1 _ (by omega)) (by rw [mJ])
    exact (b.cp ha).eq (fun j hj => nI' _ (by omega)) (by rw [nJ])
  · have b : ∀ k, k < 12 → gI M1 (x + 36 + 21) k = 0 ∨ gI M1 (x + 36 + 21) k = 1 := fun k hk => by
      rw [m1 _ (by omega)]
      exact h3 k hk
    intro k hk
    rw [nI' _ (by omega)]
    exact fb_cp ha b k hk
  · have a := a6 k (by omega)
    rw [show (nx + 8 - (w + 1) + k) % 8 = ((nx + 7) % 8 + 8 - w + k) % 8 by omega] at a
    have := Nat.mod_lt ((nx + 7) % 8 + 8 - w + k) (show 8 > 0 by decide)
    exact a.eq (fun j hj => (far _ (by omega) (by omega)).1) (far _ (by omega) (by omega)).2
  · rw [(far (x + 100 + 2 + 32 * i + 10) (by omega) (by omega)).1, (far (x + 100 + 2 + 32 * i + 27) (by omega) (by omega)).1]
    exact h8 i hi
  · rw [n0, upd_s]
/-- undo, both sides -/
theorem xs_undo (hS : XS M x m) : XP M x ∧ (if gI M (x + 100) 2 = 0 then -1 else gI (rsM M (x + 100) (x + 36)) (x + 100) 2) = (if gI (rsM M (x + 100) (x + 36)) m 12 = 0 then -1 else gI (rsM M (x + 100) (x + 36)) m 12 - 1) ∧ (LM (rsM M (x + 100) (x + 36)) m ∧ cnt (gI (rsM M (x + 100) (x + 36)) m 12) 8) ∧ XS (if gI (rsM M (x + 100) (x + 36)) m 12 = 0 then tS (rsM M (x + 100) (x + 36)) m 0 else unM (rsM M (x + 100) (x + 36)) m) x m ∧ ∀ o, Fa (if gI (rsM M (x + 100) (x + 36)) m 12 = 0 then tS (rsM M (x + 100) (x + 36)) m 0 else unM (rsM M (x + 100) (x + 36)) m) M x m o := by
  have hx := hS.1
  have hA := hS.2.2
  have e2 := HS.v hA
  refine ⟨hA.p, ?_⟩
  by_cases hu : gI M m 12 = 0
  · have eR : rsM M (x + 100) (x + 36) = M := by
      unfold rsM
      rw [if_pos (by rw [e2]; exact hu)]
    rw [eR, if_pos hu, if_pos hu, if_pos (by rw [e2]; exact hu)]
    exact ⟨rfl, ⟨hS.2.1, hS.u⟩, hS.t 0, fun o => (fm_tS M m 0).a hx⟩
  · obtain ⟨xa, x2, fx⟩ := xa_un hA hu
    generalize rsM M (x + 100) (x + 36) = N at xa x2 fx ⊢
    have e : ∀ q, x + 358 ≤ q → gI N q = gI M q := fun q hq => (fx.2.2 q (Or.inr hq)).1
    have em : gI N m = gI M m := e m hx
    have hL : LM N m := hS.2.1.kp fx.1 fx.2.1
    have cu : cnt (gI M m 12) 8 := hS.u
    rw [em, if_neg hu, if_neg hu, if_neg (by rw [e2]; exact hu)]
    have fm : Fm (unM N m) N m := (Fm.i _ _ (by omega)).t ((Fm.i _ _ (by omega)).t (fm_tS N m 0))
    have j8 : unU N m < 8 := by
      obtain ⟨v, hv, ev⟩ := cu
      unfold unU
      rw [em, ev]
      rcases v with _ | w
      · exact absurd ev hu
      · rw [nI_pred, nI_clamp (show w < 2 ^ 31 by omega)]
        omega
    have own : gI (unM N m) m = upd (gI (tS N m 0) m) 12 (gI M m 12 - 1) := by
      unfold unM
      rw [gI_f _ _ (by omega), gI_s, em]
    refine ⟨x2, ⟨hL, cu⟩, XS.mk xa hx hL fm ?_ ?_ ?_ ?_ ?_ (fun k hk => ?_), fun o => (fm.a hx).t (fx.a hx)⟩
    · unfold unM
      rw [gI_s]
      have : unU N m = (gI M m 12 - 1).toNatClampNeg := by unfold unU; rw [em]
      rw [← this, e _ (by omega)]
      exact cpy_ag _ _
    · unfold unM
      rw [gI_f _ _ (by omega), gI_f _ _ (by omega), tS_f _ _ (by omega), e _ (by omega)]
    · rw [own, upd_n _ _ (by decide), tS_n _ _ _ (by decide), em]
    · rw [own, upd_n _ _ (by decide), tS_n _ _ _ (by decide), em]
    · rw [own, upd_s]
    · unfold unM
      rw [gI_f _ _ (by omega), gI_f _ _ (by omega), tS_f _ _ (by omega), e _ (by omega)]
      exact ag9.r _
end UNDO
