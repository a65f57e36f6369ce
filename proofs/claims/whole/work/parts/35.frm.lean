/-! ===== what the reader leaves alone ===== -/
/-- the cells that a reading writes, the guard's own cell aside -/
def wRd (r q : Nat) : Prop := q = r ∨ q = r + 1 ∨ (r + 4 ≤ q ∧ q ≤ r + 9) ∨ (r + 13 ≤ q ∧ q ≤ r + 20) ∨ (r + 25 ≤ q ∧ q ≤ r + 27) ∨ q = r + 29 ∨ q = r + 30 ∨ q = r + 31
def fq (r : Nat) (N M : Mm) : Prop := gJ N = gJ M ∧ gI N (r + 28) 2 = gI M (r + 28) 2 ∧ ∀ q, ¬ wRd r q → q ≠ r + 28 → gI N q = gI M q
theorem fq.r (r : Nat) (M : Mm) : fq r M M := ⟨rfl, rfl, fun _ _ _ => rfl⟩
theorem fq.t {r : Nat} {A B C : Mm} (h : fq r A B) (g : fq r B C) : fq r A C := ⟨h.1.trans g.1, h.2.1.trans g.2.1, fun q a b => (h.2.2 q a b).trans (g.2.2 q a b)⟩
theorem fq.i {r q : Nat} (M : Mm) (f : Nat → Int32) (h : wRd r q) : fq r (sI M q f) M := by
  refine ⟨rfl, ?_, fun p hp _ => gI_f _ _ (fun e => hp (e ▸ h))⟩
  rw [gI_f _ _ (by unfold wRd at h; omega)]
theorem fq.g {r : Nat} (M : Mm) (f : Nat → Int32) (h : f 2 = gI M (r + 28) 2) : fq r (sI M (r + 28) f) M :=
  ⟨rfl, by rw [gI_s]; exact h, fun p _ hp => gI_f _ _ hp⟩
theorem wr0 (r : Nat) : wRd r r := Or.inl rfl
theorem wr1 (r : Nat) : wRd r (r + 1) := Or.inr (Or.inl rfl)
theorem fq_nx (M : Mm) (r : Nat) : fq r (nxM M (r + 1)) M := fq.i _ _ (wr1 r)
theorem fq_fl (M : Mm) (r : Nat) (c : Int32) : fq r (flM M r c) M := by
  unfold flM
  split
  · exact fq.i _ _ (wr0 r)
  · exact fq.r _ _
theorem fq_sk (M : Mm) (r : Nat) (c : Int32) : fq r (skM M r c) M := by
  unfold skM
  split
  · exact fq_nx _ _
  · exact fq_fl _ _ _
theorem fq_rb (M : Mm) (r : Nat) (lo hi : Int32) : fq r (rbM M r lo hi) M := by
  unfold rbM
  split
  · exact fq_fl _ _ _
  · split
    · exact fq_fl _ _ _
    · exact fq.r _ _
theorem fq_rn (M : Mm) (r : Nat) (lo hi : Int32) : fq r (rnM M r lo hi).2 M := by
  unfold rnM
  split
  · exact (fq_nx _ _).t (fq_rb _ _ _ _)
  · exact fq_rb _ _ _ _
theorem fq_ro (M : Mm) (r w : Nat) (hi ms : Int32) : fq r (roM M r w hi ms).2 M := by
  unfold roM
  split
  · exact fq.r _ _
  · exact (fq_rn _ _ _ _).t (fq_nx _ _)
theorem fq_rp (M : Mm) (r : Nat) (c : Int32) : fq r (rpM M r c).2 M := by
  unfold rpM
  refine (fq_ro _ _ _ _ _).t ?_
  unfold rpA
  split
  · exact fq_fl _ _ _
  · exact fq.r _ _
theorem fq_pu {x : Int32 × Mm} {M : Mm} {r a : Nat} (h : fq r x.2 M) (ha : wRd r a) (k : Nat) : fq r (pu x a k) M := (fq.i _ _ ha).t h
theorem fq_rt (M : Mm) (r : Nat) : fq r (rtM M r) M := by
  have h1 : ∀ k, fq r (rt1 M r k) M := fun k => fq_pu ((fq_rn _ _ _ _).t (fq_nx _ _)) (by unfold wRd; omega) _
  have h2 : ∀ k, fq r (rt2 M r k) M := fun k => fq_pu ((fq_rn _ _ _ _).t (h1 k)) (by unfold wRd; omega) _
  unfold rtM
  split
  · exact (fq.i _ _ (by unfold wRd; omega)).t (h2 _)
  · exact fq_fl _ _ _
theorem fq_rc (M : Mm) (r : Nat) : fq r (rcM M r) M := by
  have h1 : ∀ k, fq r (rc1 M r k) M := fun k => by
    unfold rc1
    refine fq_pu ?_ (by unfold wRd; omega) _
    split
    · exact fq_nx _ _
    · exact (fq_rp _ _ _).t (fq_nx _ _)
  have h2 : ∀ k, fq r (rc2 M r k) M := fun k => fq_pu ((fq_rn _ _ _ _).t (h1 k)) (by unfold wRd; omega) _
  have h3 : ∀ k, fq r (rc3 M r k) M := fun k => fq_pu ((fq_rn _ _ _ _).t (h2 k)) (by unfold wRd; omega) _
  have h4 : ∀ k, fq r (rc4 M r k) M := fun k => fq_pu ((fq_rn _ _ _ _).t (h3 k)) (by unfold wRd; omega) _
  have h5 : ∀ k, fq r (rc5 M r k) M := fun k => fq_pu ((fq_ro _ _ _ _ _).t (h4 k)) (by unfold wRd; omega) _
  unfold rcM
  split
  · exact (fq.i _ _ (by unfold wRd; omega)).t (h5 _)
  · exact fq_fl _ _ _
theorem fq_rf (M : Mm) (r : Nat) : fq r (rfM M r) M := by
  have h1 : ∀ k, fq r (rf1 M r k) M := fun k => fq_pu ((fq_rn _ _ _ _).t (fq_nx _ _)) (by unfold wRd; omega) _
  have h2 : ∀ k, fq r (rf2 M r k) M := fun k => fq_pu ((fq_rn _ _ _ _).t (h1 k)) (by unfold wRd; omega) _
  have h3 : ∀ k, fq r (rf3 M r k) M := fun k => fq_pu ((fq_rn _ _ _ _).t (h2 k)) (by unfold wRd; omega) _
  have h4 : ∀ k, fq r (rf4 M r k) M := fun k => fq_pu ((fq_rn _ _ _ _).t (h3 k)) (by unfold wRd; omega) _
  have h5 : ∀ k, fq r (rf5 M r k) M := fun k => fq_pu ((fq_rn _ _ _ _).t (h4 k)) (by unfold wRd; omega) _
  have h6 : ∀ k, fq r (rf6 M r k) M := fun k => fq_pu ((fq_rn _ _ _ _).t (h5 k)) (by unfold wRd; omega) _
  have h7 : ∀ k, fq r (rf7 M r k) M := fun k => fq_pu ((fq_ro _ _ _ _ _).t (h6 k)) (by unfold wRd; omega) _
  unfold rfM
  split
  · exact (fq.i _ _ (by unfold wRd; omega)).t (h7 _)
  · exact fq_fl _ _ _
theorem fq_ag (M : Mm) (r : Nat) (x : Int32) : fq r (agM M (r + 28) x) M := by
  unfold agM
  split
  · refine (fq.g _ _ ?_).t (fq.i _ _ (by unfold wRd; omega))
    rw [upd_n _ _ (by decide), gI_f _ _ (by omega)]
  · exact fq.r _ _
theorem fq_gdS (M : Mm) (r : Nat) (c : Int32) : fq r (gdS M r c) M := (fq_ag _ _ _).t (fq_rn _ _ _ _)
theorem fq_gdF (k : Nat) (M : Mm) (r : Nat) (c : Int32) : fq r (gdF k M r c) M := by
  unfold gdF
  split
  · exact fq_fl _ _ _
  · exact fq.r _ _
theorem fq_gdL {r : Nat} (c : Int32) : ∀ f k N, fq r (gdL r c f k N) N
  | 0, _, N => fq.r _ _
  | f + 1, k, N => by
    unfold gdL
    split
    · exact (fq_gdL c f _ _).t ((fq_gdS _ _ _).t (fq_gdF _ _ _ _))
    · exact fq.r _ _
theorem fq_gd (M : Mm) (r : Nat) : fq r (gdM M r) M := (fq_gdL _ _ _ _).t ((fq_gdS _ _ _).t (fq_nx _ _))
theorem fq_ad (M : Mm) (r : Nat) (c : Int32) : fq r (adM M (r + 30) c) M := by
  unfold adM
  split
  · exact (fq.i _ _ (by unfold wRd; omega)).t (fq.i _ _ (by unfold wRd; omega))
  · exact fq.r _ _
def fqq (r : Nat) (g : Mm → Mm) : Prop := ∀ M, fq r (g M) M
theorem fqq_fac {r : Nat} {last : Bool} {g : Mm → Mm} (h : fqq r g) : fqq r (facM r last g) := by
  intro M
  unfold facM
  split
  · split
    · exact fq_fl _ _ _
    · exact (fq_sk _ _ _).t ((h _).t (fq_nx _ _))
  · split
    · exact (fq_nx _ _).t (fq_ad _ _ _)
    · split
      · exact (fq_nx _ _).t (fq_ad _ _ _)
      · split
        · exact (fq_nx _ _).t (fq_ad _ _ _)
        · exact (fq_ad _ _ _).t (fq_rn _ _ _ _)
theorem fqq_op {r : Nat} {a b ca cb : Int32} {g : Mm → Mm} (h : fqq r g) : ∀ f, fqq r (opL r a b ca cb g f)
  | 0 => fun M => fq.r _ _
  | f + 1 => fun M => by
    unfold opL
    split
    · exact (fqq_op h f _).t ((fq_ad _ _ _).t ((h _).t (fq_nx _ _)))
    · exact fq.r _ _
theorem fqq_te {r : Nat} {g : Mm → Mm} (h : fqq r g) : fqq r (teM r g) := fun M => (fqq_op h _ _).t (h M)
theorem fqq_sm {r : Nat} {g : Mm → Mm} (h : fqq r g) : fqq r (smM r g) := fun M => (fqq_op (fqq_te h) _ _).t (fqq_te h M)
theorem fqq_fa (r : Nat) : ∀ k, fqq r (faN r k)
  | 0 => fqq_fac (fun M => fq.r _ _)
  | k + 1 => fqq_fac (fqq_sm (fqq_fa r k))
theorem fq_ri (M : Mm) (r : Nat) : fq r (riM M r) M := (fqq_sm (fqq_fa r 4) _).t ((fq_nx _ _).t ((fq.i _ _ (by unfold wRd; omega)).t (fq.i _ _ (wr0 r))))
theorem fq_rs (M : Mm) (r : Nat) : fq r (rsS M r) M := by
  unfold rsS
  split
  · exact fq_rc _ _
  · split
    · exact fq_rf _ _
    · split
      · exact fq_rt _ _
      · split
        · exact fq_gd _ _
        · split
          · exact fq_ri _ _
          · exact fq_fl _ _ _
theorem fq_rsL {r : Nat} : ∀ f n N, fq r (rsL r f n N).2 N
  | 0, _, N => fq.r _ _
  | f + 1, n, N => by
    unfold rsL
    split
    · exact (fq_rsL f _ _).t ((fq_sk _ _ _).t (fq_rs _ _))
    · exact fq.r _ _
theorem fq_fg (M : Mm) (r : Nat) : fq r (fgS M (r + 3)) M := by
  unfold fgS
  dsimp only
  refine (fq.i _ _ (by unfold wRd; omega)).t ((fq.i _ _ (by unfold wRd; omega)).t ((fq.g _ _ ?_).t ((fq.i _ _ (by unfold wRd; omega)).t ((fq.i _ _ (by unfold wRd; omega)).t (fq.i _ _ (by unfold wRd; omega))))))
  rw [upd_n _ _ (by decide), gI_f _ _ (by omega), gI_f _ _ (by omega), gI_f _ _ (by omega)]
theorem fq_rz (M : Mm) (r : Nat) (x : Int32) : fq r (rzM M r x) M := (fq_nx _ _).t ((fq.i _ _ (wr1 r)).t ((fq.i _ _ (wr0 r)).t (fq_fg M r)))
theorem fq_rR (M : Mm) (r : Nat) (x : Int32) : fq r (rzR M r x).2 M := (fq_rsL _ _ _).t (fq_rz _ _ _)
