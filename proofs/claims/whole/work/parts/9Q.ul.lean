/-! ===== no reading changes what lies where ===== -/
def kk (P' P : Mm) (_r : Nat) : Prop := gK P' = gK P
theorem kk.r (P : Mm) (r : Nat) : kk P P r := rfl
theorem kk.t {A B C : Mm} {r : Nat} (h : kk A B r) (g : kk B C r) : kk A C r := Eq.trans h g
theorem kk_fl (P : Mm) (r : Nat) (c : Int32) : kk (flM P r c) P r := (kp_fl _ _ _).1
section KZ
theorem kk_nx (P : Mm) (r : Nat) : kk (nxM P (r + 1)) P r := (kp_nx P (r + 1)).1
theorem kk_i (P : Mm) {r a : Nat} (f : Nat → Int32) (_h : a ≠ r) : kk (sI P a f) P r := rfl
theorem kk_ad (P : Mm) (r : Nat) (c : Int32) : kk (adM P (r + 30) c) P r := (kp_ad _ _ _).1
theorem kk_ag (P : Mm) (r : Nat) (v : Int32) : kk (agM P (r + 28) v) P r := (kp_ag _ _ _).1
theorem kk_sk (P : Mm) (r : Nat) (c : Int32) : kk (skM P r c) P r := by
  unfold skM
  split
  · exact kk_nx P r
  · exact kk_fl P r _
theorem kk_rb (P : Mm) (r : Nat) (lo hi : Int32) : kk (rbM P r lo hi) P r := by
  unfold rbM
  split
  · exact kk_fl P r _
  · split
    · exact kk_fl P r _
    · exact kk.r P r
theorem kk_rn (P : Mm) (r : Nat) (lo hi : Int32) : kk (rnM P r lo hi).2 P r := by
  unfold rnM
  split
  · exact (kk_nx _ r).t (kk_rb P r lo hi)
  · exact kk_rb P r lo hi
theorem kk_pu {x : Int32 × Mm} {P : Mm} {r a : Nat} (h : kk x.2 P r) (ha : a ≠ r) (k : Nat) : kk (pu x a k) P r := (kk_i _ _ ha).t h
theorem kk_ro (P : Mm) (r w : Nat) (hi ms : Int32) : kk (roM P r w hi ms).2 P r := by
  unfold roM
  split
  · exact kk.r P r
  · exact (kk_rn _ r _ _).t (kk_nx P r)
theorem kk_rp (P : Mm) (r : Nat) (c : Int32) : kk (rpM P r c).2 P r := by
  unfold rpM
  refine (kk_ro _ r _ _ _).t ?_
  unfold rpA
  split
  · exact kk_fl P r _
  · exact kk.r P r
theorem kk_rt (P : Mm) (r : Nat) : kk (rtM P r) P r := by
  unfold rtM
  split
  · exact (kk_i _ _ (by omega)).t ((kk_pu (kk_rn _ _ _ _) (by omega) _).t (kk_pu ((kk_rn _ _ _ _).t (kk_nx P r)) (by omega) _))
  · exact kk_fl P r _
theorem kk_rc (P : Mm) (r : Nat) : kk (rcM P r) P r := by
  unfold rcM
  split
  · refine (kk_i _ _ (by omega)).t ((kk_pu (kk_ro _ _ _ _ _) (by omega) _).t ((kk_pu (kk_rn _ _ _ _) (by omega) _).t ((kk_pu (kk_rn _ _ _ _) (by omega) _).t ((kk_pu (kk_rn _ _ _ _) (by omega) _).t (kk_pu ?_ (by omega) _)))))
    split
    · exact kk_nx P r
    · exact (kk_rp _ _ _).t (kk_nx P r)
  · exact kk_fl P r _
theorem kk_rf (P : Mm) (r : Nat) : kk (rfM P r) P r := by
  unfold rfM
  split
  · exact (kk_i _ _ (by omega)).t ((kk_pu (kk_ro _ _ _ _ _) (by omega) _).t ((kk_pu (kk_rn _ _ _ _) (by omega) _).t ((kk_pu (kk_rn _ _ _ _) (by omega) _).t ((kk_pu (kk_rn _ _ _ _) (by omega) _).t ((kk_pu (kk_rn _ _ _ _) (by omega) _).t ((kk_pu (kk_rn _ _ _ _) (by omega) _).t (kk_pu ((kk_rn _ _ _ _).t (kk_nx P r)) (by omega) _)))))))
  · exact kk_fl P r _
theorem kk_gS (P : Mm) (r : Nat) (c : Int32) : kk (gdS P r c) P r := (kk_ag _ _ _).t (kk_rn _ _ _ _)
theorem kk_gF (k : Nat) (P : Mm) (r : Nat) (c : Int32) : kk (gdF k P r c) P r := by
  unfold gdF
  split
  · exact kk_fl P r _
  · exact kk.r P r
theorem kk_gL (r : Nat) (c : Int32) : ∀ f k N, kk (gdL r c f k N) N r
  | 0, _, _ => kk.r _ _
  | f + 1, k, N => by
    unfold gdL
    split
    · exact (kk_gL r c f _ _).t ((kk_gS _ _ _).t (kk_gF _ _ _ _))
    · exact kk.r _ _
theorem kk_gd (P : Mm) (r : Nat) : kk (gdM P r) P r := (kk_gL r _ _ _ _).t ((kk_gS _ _ _).t (kk_nx P r))
def KK (r : Nat) (g : Mm → Mm) : Prop := ∀ P, kk (g P) P r
theorem kk_opL {r : Nat} {a b ca cb : Int32} {g : Mm → Mm} (hg : KK r g) : ∀ q N, kk (opL r a b ca cb g q N) N r
  | 0, _ => kk.r _ _
  | q + 1, N => by
    unfold opL
    split
    · exact (kk_opL hg q _).t ((kk_ad _ _ _).t ((hg _).t (kk_nx N r)))
    · exact kk.r _ _
theorem kk_te {r : Nat} {g : Mm → Mm} (h : KK r g) : KK r (teM r g) := fun P => (kk_opL h _ _).t (h P)
theorem kk_sm {r : Nat} {g : Mm → Mm} (h : KK r g) : KK r (smM r g) := fun P => (kk_opL (kk_te h) _ _).t (kk_te h P)
theorem kk_fc {r : Nat} {last : Bool} {g : Mm → Mm} (h : KK r g) : KK r (facM r last g) := fun P => by
  unfold facM
  split
  · split
    · exact kk_fl P r _
    · exact (kk_sk _ _ _).t ((h _).t (kk_nx P r))
  · split
    · exact (kk_nx _ _).t (kk_ad _ _ _)
    · split
      · exact (kk_nx _ _).t (kk_ad _ _ _)
      · split
        · exact (kk_nx _ _).t (kk_ad _ _ _)
        · exact (kk_ad _ _ _).t (kk_rn _ _ _ _)
theorem kk_fa (r : Nat) : ∀ k, KK r (faN r k)
  | 0 => kk_fc (fun _ => kk.r _ _)
  | k + 1 => kk_fc (kk_sm (kk_fa r k))
theorem kk_ri (P : Mm) (r : Nat) : kk (riM P r) P r := (kk_sm (kk_fa r 4) _).t ((kk_nx _ r).t rfl)
theorem kk_rs (P : Mm) (r : Nat) : kk (rsS P r) P r := by
  unfold rsS
  split
  · exact kk_rc P r
  · split
    · exact kk_rf P r
    · split
      · exact kk_rt P r
      · split
        · exact kk_gd P r
        · split
          · exact kk_ri P r
          · exact kk_fl P r _
theorem kk_rL (r : Nat) : ∀ z n P, kk (rsL r z n P).2 P r
  | 0, _, _ => kk.r _ _
  | z + 1, n, P => by
    unfold rsL
    split
    · exact (kk_rL r z _ _).t ((kk_sk _ _ _).t (kk_rs P r))
    · exact kk.r _ _
end KZ
theorem ld_gK (M : Mm) (x : Nat) (n : Int32) : gK (ldM M x n) = gK M := by
  have h1 : gK (ld2 M x n) = gK M := by
    show gK (rzR M (x + 1) n).2 = gK M
    exact (kk_rL (x + 1) 901 0 _).trans ((kp_nx _ _).1.trans (kp_fg M (x + 1 + 3)).1)
  unfold ldM
  split
  · exact h1
  · rw [(kp_S _ _ _).1]
    unfold svM
    dsimp only
    rw [gK_sI, (kp_S _ _ _).1, h1]
theorem ho_bad {M N : Mm} {x m o e0 : Nat} {f : Nat → Int32} {v : Int64} {pre : Mm → Prop} {w : Mm → Int64} {Q : Mm → Mm} {k : Int32} (hS : XS M x m) (ho : m + 17 ≤ o) (hN : gK N = gK M) (hp : ∀ z, pre (sZ M z)) (hQ : ∀ z, Q (sZ M z) = tS (sZ M z) m k) (hf : f e0 = k) (hk : ¬ k = 0) : HO M x m o (some e0) f N v pre w Q := by
  have hx := hS.1
  refine ⟨hN, fun P hP => ?_⟩
  rcases hP with ⟨e, -⟩ | ⟨e, z, he, rfl⟩
  · cases e
  · cases he
    rw [hQ z]
    exact ⟨Fa.z _ _ _ _ _, hp z, (hS.z z).t k, ((fm_tS (sZ M z) m k).a hx).t (Fa.z _ _ _ _ _), rfl, fun e => (by cases e), fun e he => by cases he; rw [tS_0]; exact ⟨hf.symm, by rw [hf]; exact hk⟩⟩
/-! ===== load ===== -/
theorem STR.k2 {T : Nat → Nat} {M N : Mm} (h : STR T M) (e : gK N = gK M) : STR T N := fun i hi => by rw [e]; exact h i hi
section LOAD2
variable {M : Mm} {x m o q F : Nat}
/-- x behind a reading -/
theorem ld_xa {D B : Nat → Int32} {L e u : Int32} {H : Nat → Nat → Int32} (h : XA M x D B L e u H) (hq : cnt (nI q) 900) : XA (ld2 M x (nI q)) x D B 0 (gI (rzR M (x + 1) (nI q)).2 (x + 1) 2) u H ∧ Fx (ld2 M x (nI q)) M x := by
  obtain ⟨k1, k2, k3, k4⟩ := ld2_k h.p hq
  have hf := fq_rR M (x + 1) (nI q)
  have eJ : gJ (ld2 M x (nI q)) = gJ M := by
    unfold ld2 ld1
    rw [gJ_sI, gJ_sI]
    exact hf.1
  have e2 : gI (ld2 M x (nI q)) (x + 2) 1 = 0 := by
    unfold ld2
    rw [gI_f _ _ (by omega)]
    unfold ld1
    rw [gI_s, upd_s]
  have e4 : gI (ld2 M x (nI q)) x 4 = gI (rzR M (x + 1) (nI q)).2 (x + 1) 2 := by
    unfold ld2
    rw [gI_s, upd_s]
    unfold ld1
    rw [gI_f _ _ (by omega)]
  have e3 : gI (ld2 M x (nI q)) (x + 3) = gI M (x + 3) := by
    rw [k4 _ (by omega) (by omega)]
    exact hf.2.2 _ (by unfold wRd; omega) (by omega)
  obtain ⟨h1, h2, h3, h4, h5, ⟨y1, y2, y3⟩, h7, h8⟩ := h
  have z : DZ (rzR M (x + 1) (nI q)).2 (x + 4) := DZ.fq (r := x + 1) h5 hf
  refine ⟨⟨h1.k2 k2.1 k2.2.1, h2.eq (fun k hk => k3 _ (by omega)) (by rw [eJ]), h3.eq (k3 _ (by omega)), h4.eq (fun q a b => ⟨k3 q (by omega), by rw [eJ]⟩), z.eq (fun k hk => k4 _ (by omega) (by omega)) (by rw [eJ, hf.1]), ⟨by rw [e3]; exact y1, e2, ⟨0, by decide, rfl⟩⟩, e4, h8.eq (fun q a b => k3 q (by omega))⟩, k2.1, k2.2.1, fun k hk => ⟨?_, by rw [eJ]⟩⟩
  rcases hk with hk | hk
  · rw [k4 _ (by omega) (by omega)]
    exact hf.2.2 _ (by unfold wRd; omega) (by omega)
  · exact k3 _ (by omega)
theorem ld_xg {D B E : Nat → Int32} {L e u : Int32} {H : Nat → Nat → Int32} (h : XA M x D B L e u H) (hq : cnt (nI q) 900) (hE : PX (rzR M (x + 1) (nI q)).2 (x + 4) E) : XA (cpS (svM (ld2 M x (nI q)) (x + 100) (x + 36)) (x + 36) (x + 4)) x E B 0 (gI (rzR M (x + 1) (nI q)).2 (x + 1) 2) (rmU u) (rmH D u H) ∧ Fx (cpS (svM (ld2 M x (nI q)) (x + 100) (x + 36)) (x + 36) (x + 4)) M x := by
  obtain ⟨a1, a2⟩ := ld_xa h hq
  obtain ⟨k1, k2, k3, k4⟩ := ld2_k h.p hq
  have fh := a1.p.sv.2
  have a3 := xa_sv a1
  have hf := fq_rR M (x + 1) (nI q)
  have eJ : gJ (ld2 M x (nI q)) = gJ (rzR M (x + 1) (nI q)).2 := by
    unfold ld2 ld1
    rw [gJ_sI, gJ_sI]
  have ha : apt (x + 36) 32 (x + 4) 32 := by unfold apt; omega
  have pE : PX (svM (ld2 M x (nI q)) (x + 100) (x + 36)) (x + 4) E := hE.eq (fun k hk => by rw [(fh.2.2.2 _ (Or.inl (by omega))).1, k4 _ (by omega) (by omega)]) (by rw [(fh.2.2.2 _ (Or.inl (by omega))).2, eJ])
  exact ⟨a3.pr (fr_cp _ _ _) (pE.cp ha) (fb_cp ha a3.2.2.1), ((fr_cp _ _ _).x (by omega) (by omega)).t (fh.x.t a2)⟩
theorem ld_bi (hF : F ≤ 900) {n : Int32} (h : bR n 0 (nI F) = none) : ∃ q, q ≤ F ∧ n = nI q := bR_c h
theorem ld_rw (P : Mm) (m : Nat) (n : Int32) : RW (ldR P m n) (ldZ P m n 1793) m := rw_ld m _ _
theorem ldR_e (P : Mm) (m : Nat) (n : Int32) : gI (ldR P m n) m 0 = 0 ∧ gI (ldR P m n) m 2 = 0 ∧ gI (ldR P m n) m 12 = gI P m 12 ∧ (∀ k, k ≠ m → k ≠ m + 3 → gI (ldR P m n) k = gI P k) ∧ Fm (ldR P m n) P m := by
  obtain ⟨z0, z3, zk⟩ := ldZ_o P m n 1793
  obtain ⟨o0, o2, o3, o4, o5, o6, o14, o15, o12, o7⟩ := ldO_e (gI P m) n
  obtain ⟨w1, w2, w3, w4⟩ := ld_rw P m n
  have hk : ∀ k, k ≠ m → k ≠ m + 3 → gI (ldR P m n) k = gI P k := fun k h1 h2 => (w3 k h1 h2).trans (zk k h1 h2)
  refine ⟨?_, ?_, ?_, hk, w1.1.trans rfl, w1.2.1.trans rfl, fun k h => ⟨hk k (by omega) (by omega), by rw [w2]; unfold ldZ; rw [gJ_sI, gJ_sI]⟩⟩
  · rw [w4 0 (by decide) (by decide) (by decide) (by decide) (by decide), z0, o0]
  · rw [w4 2 (by decide) (by decide) (by decide) (by decide) (by decide), z0, o2]
  · rw [w4 12 (by decide) (by decide) (by decide) (by decide) (by decide), z0, o12]
theorem ho_load {T : Nat → Nat} (hS : XS M x m) (hT : STR T M) (ho : m + 17 ≤ o) (n : Int32) : HO M x m o (bR n 0 (gI M (x + 2) 1)) (fun _ => 1) (ldM M x n) (Int32.toInt64 (ldV M x n)) (fun P => LM P m ∧ STR T P ∧ cnt (gI P m 2) 900 ∧ cnt (gI P m 12) 8) (fun P => (if inI n 0 (gI P m 2) then ldW P m n else 0).toInt64) (fun P => if inI n 0 (gI P m 2) then ldF P m n else tS P m 1) := by
  have hx := hS.1
  have hA := hS.2.2
  obtain ⟨-, -, -, -, hZ, ⟨y1, y2, F, hF, y3⟩, -⟩ := id hA
  have e2 : gI M (x + 2) 1 = nI F := y2.trans y3
  rw [e2]
  rcases bR_o n 0 (nI F) 1 with ⟨hb, -, hi⟩ | ⟨hb, -, hi⟩
  · obtain ⟨q, hq, rfl⟩ := ld_bi hF hb
    have cq : cnt (nI q) 900 := ⟨q, by omega, rfl⟩
    have hl : ldM M x (nI q) = if ldV M x (nI q) < 0 then ld2 M x (nI q) else cpS (svM (ld2 M x (nI q)) (x + 100) (x + 36)) (x + 36) (x + 4) := rfl
    obtain ⟨xa2, fx2⟩ := ld_xa hA cq
    -- the reference's side, from any memory that x has left alone
    have mm : ∀ N : Mm, Fx N M x → ∀ z : Int64, gI (sJ N o (vp_updL (gJ N o) 0 z)) (m + 1) = gI M (m + 1) ∧ gI (sJ N o (vp_updL (gJ N o) 0 z)) m = gI M m ∧ gK (sJ N o (vp_updL (gJ N o) 0 z)) = gK M ∧ gP (sJ N o (vp_updL (gJ N o) 0 z)) = gP M ∧ (∀ k, x + 358 ≤ k → gI (sJ N o (vp_updL (gJ N o) 0 z)) k = gI M k) := fun N h z =>
      ⟨(h.2.2 _ (Or.inr (by omega))).1, (h.2.2 _ (Or.inr (by omega))).1, h.1, h.2.1, fun k hk => (h.2.2 k (Or.inr hk)).1⟩
    have fx : Fx (ldM M x (nI q)) M x := by
      rw [hl]
      split
      · exact fx2
      · exact ((fr_cp _ _ _).x (by omega) (by omega)).t (xa2.p.sv.2.x.t fx2)
    refine ⟨fx.1, fun P hP => ?_⟩
    have eP : P = sJ (ldM M x (nI q)) o (vp_updL (gJ (ldM M x (nI q)) o) 0 (Int32.toInt64 (ldV M x (nI q)))) := by
      rcases hP with ⟨-, eP⟩ | ⟨e, z, he, -⟩
      · exact eP
      · rw [hb] at he
        cases he
    have hPall := mm _ fx (Int32.toInt64 (ldV M x (nI q)))
    rw [← eP] at hPall
    obtain ⟨p1, pm, pK, pP, pk⟩ := hPall
    have hL : LM P m := hS.2.1.kp pK pP
    have p12 : cnt (gI P m 12) 8 := by rw [pm]; exact hS.u
    have eL : gI P m 2 = nI F := by rw [pm]; exact y3
    dsimp only
    rw [eL, if_pos hi, if_pos hi]
    have fa0 : Fa P M x m o := by
      rw [eP]
      exact (Fa.o _ _ _ _ _).t (fx.a hx)
    obtain ⟨l0, l2, l12, lk, lfm⟩ := ldR_e P m (nI q)
    have two := ld_two (M := M) (P := P) (x := x) (m := m) (q := q) (F := F) (by rw [p1]; exact y1) hF hq e2
    have eN : ∀ j, j ≠ 7 → gI (ldE (ldR P m (nI q)) m) m j = gI (ldR P m (nI q)) m j := fun j hj => by unfold ldE; rw [gI_s, upd_n _ _ hj]
    have eO : ∀ k, k ≠ m → gI (ldE (ldR P m (nI q)) m) k = gI (ldR P m (nI q)) k := fun k hk => gI_f _ _ hk
    have e7 : gI (ldE (ldR P m (nI q)) m) m 7 = gI (ldR P m (nI q)) m 6 := by unfold ldE; rw [gI_s, upd_s]
    have fmE : Fm (ldE (ldR P m (nI q)) m) P m := (Fm.i _ _ (by omega)).t lfm
    rcases two with ⟨w3, r5, dd, wc, ⟨j, hj, ej⟩, w6⟩ | ⟨r5, w3, w6, wn⟩
    · -- a whole text
      have eV : ldV M x (nI q) = nI j := by
        unfold ldV rsV
        rw [if_pos w3, ej]
      have ng : ¬ ldV M x (nI q) < 0 := by
        rw [eV]
        intro z
        have := t_lt.mp z
        rw [t_nI (by omega), show (0 : Int32).toInt = 0 from rfl] at this
        omega
      rw [if_neg ng] at hl
      have hZ2 : DZ (rzR M (x + 1) (nI q)).2 (x + 1 + 3) := DZ.fq (r := x + 1) hZ (fq_rR M (x + 1) (nI q))
      have hE : PX (rzR M (x + 1) (nI q)).2 (x + 4) (gI (ldR P m (nI q)) (m + 3)) := dd_xr dd hZ2
      obtain ⟨xg, fg⟩ := ld_xg hA cq hE
      rw [← hl] at xg
      have g5 : ¬ ¬ gI (ldE (ldR P m (nI q)) m) m 5 = 0 := by rw [eN 5 (by decide)]; exact fun z => z r5
      have c12 : cnt (gI (ldE (ldR P m (nI q)) m) m 12) 8 := by rw [eN 12 (by decide), l12]; exact p12
      have eF : ldF P m (nI q) = ldC (ldE (ldR P m (nI q)) m) m := if_neg g5
      have eW : ldW P m (nI q) = gI (ldC (ldE (ldR P m (nI q)) m) m) m 15 := if_neg g5
      obtain ⟨s1, s2, s3⟩ := rm_r c12
      have cO : ∀ i, gI (ldC (ldE (ldR P m (nI q)) m) m) m i = gI (rmM (ldE (ldR P m (nI q)) m) m) m i := fun i => by unfold ldC; rw [gI_f _ _ (by omega)]
      have fmC : Fm (ldC (ldE (ldR P m (nI q)) m) m) P m := (Fm.i _ _ (by omega)).t ((fm_rm c12).t fmE)
      rw [eF, eW]
      refine ⟨fa0, ⟨hL, hT.k2 pK, ⟨F, hF, rfl⟩, p12⟩, ?_, (fmC.a hx).t fa0, (fmC.2.2 o (Or.inr ho)).2, fun _ => ⟨?_, ?_⟩, fun e he => ?_⟩
      · have xo : XA P x (gI (ldR P m (nI q)) (m + 3)) (gI M (m + 1)) 0 (gI (rzR M (x + 1) (nI q)).2 (x + 1) 2) (rmU (gI M m 12)) (rmH (gI M (m + 2)) (gI M m 12) (fun k => gI M (m + 6 + k))) := by
          have y := xg.o hx ho (vp_updL (gJ (ldM M x (nI q)) o) 0 (Int32.toInt64 (ldV M x (nI q))))
          rw [← eP] at y
          exact y
        refine XS.mk xo hx hL fmC ?_ ?_ ?_ ?_ ?_ (fun k hk => ?_)
        · have : gI (ldC (ldE (ldR P m (nI q)) m) m) (m + 2) = cpy 1793 (gI (rmM (ldE (ldR P m (nI q)) m) m) (m + 3)) (gI (rmM (ldE (ldR P m (nI q)) m) m) (m + 2)) := gI_s _ _ _
          rw [this, rm_f c12 (by omega), eO _ (by omega)]
          exact cpy_ag _ _
        · have : gI (ldC (ldE (ldR P m (nI q)) m) m) (m + 1) = gI (rmM (ldE (ldR P m (nI q)) m) m) (m + 1) := gI_f _ _ (by omega)
          rw [this, rm_f c12 (by omega), eO _ (by omega), lk _ (by omega) (by omega), p1]
        · rw [cO, s3 2 (by decide), eN 2 (by decide), l2]
        · rw [cO, s3 7 (by decide), e7, w6]
        · rw [cO, s2, eN 12 (by decide), l12, pm]
        · have : gI (ldC (ldE (ldR P m (nI q)) m) m) (m + 6 + k) = gI (rmM (ldE (ldR P m (nI q)) m) m) (m + 6 + k) := gI_f _ _ (by omega)
          rw [this]
          have s := s1 k hk
          have er : (fun k => gI (ldE (ldR P m (nI q)) m) (m + 6 + k)) = fun k => gI M (m + 6 + k) := by
            funext k
            rw [eO _ (by omega), lk _ (by omega) (by omega), pk _ (by omega)]
          rw [er, eO _ (by omega), lk (m + 2) (by omega) (by omega), pk _ (by omega), eN 12 (by decide), l12, pm] at s
          exact s
      · rw [cO, s3 0 (by decide), eN 0 (by decide), l0]
      · rw [cO, s3 15 (by decide), eN 15 (by decide), ← wc, eV, ej]
      · rw [hb] at he
        cases he
    · -- a mistake
      have eV : ldV M x (nI q) = gI (ldR P m (nI q)) m 5 := by
        unfold ldV rsV
        rw [if_neg (by rw [w3]; exact r5), w3]
      rw [if_pos (by rw [eV]; exact wn)] at hl
      have g5 : ¬ gI (ldE (ldR P m (nI q)) m) m 5 = 0 := by rw [eN 5 (by decide)]; exact r5
      have eF : ldF P m (nI q) = ldE (ldR P m (nI q)) m := if_pos g5
      have eW : ldW P m (nI q) = gI (ldE (ldR P m (nI q)) m) m 5 := if_pos g5
      rw [← hl] at xa2
      rw [eF, eW]
      refine ⟨fa0, ⟨hL, hT.k2 pK, ⟨F, hF, rfl⟩, p12⟩, ?_, (fmE.a hx).t fa0, (fmE.2.2 o (Or.inr ho)).2, fun _ => ⟨?_, ?_⟩, fun e he => ?_⟩
      · have xo : XA P x (gI M (m + 2)) (gI M (m + 1)) 0 (gI (rzR M (x + 1) (nI q)).2 (x + 1) 2) (gI M m 12) (fun k => gI M (m + 6 + k)) := by
          have y := xa2.o hx ho (vp_updL (gJ (ldM M x (nI q)) o) 0 (Int32.toInt64 (ldV M x (nI q))))
          rw [← eP] at y
          exact y
        refine XS.mk xo hx hL fmE ?_ ?_ ?_ ?_ ?_ (fun k hk => ?_)
        · rw [eO _ (by omega), lk _ (by omega) (by omega), pk _ (by omega)]
          exact ag9.r _
        · rw [eO _ (by omega), lk _ (by omega) (by omega), p1]
        · rw [eN 2 (by decide), l2]
        · rw [e7, w6]
        · rw [eN 12 (by decide), l12, pm]
        · rw [eO _ (by omega), lk _ (by omega) (by omega), pk _ (by omega)]
          exact ag9.r _
      · rw [eN 0 (by decide), l0]
      · rw [eN 5 (by decide), eV]
      · rw [hb] at he
        cases he
  · -- a count out of range
    rw [hb]
    have nb : ∀ z, ¬ inI n 0 (gI (sZ M z) m 2) := fun z => by
      rw [show gI (sZ M z) m 2 = nI F from y3]
      exact hi
    exact ho_bad hS ho (ld_gK M x n) (fun z => ⟨hS.2.1.kp rfl rfl, hT.k2 rfl, ⟨F, hF, y3⟩, hS.u⟩) (fun z => if_neg (nb z)) rfl (by decide)
end LOAD2
