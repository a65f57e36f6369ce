/-! ===== the calls that change: run, force ===== -/
theorem w3_21 (N : Mm) (b : Nat) (u v w : Nat → Int32) : gI (w3 N (b + 10) u v w) (b + 21) = gI N (b + 21) := by
  unfold w3
  rw [gI_f _ _ (by omega), gI_f _ _ (by omega), gI_f _ _ (by omega)]
theorem pB_21 (b : Nat) (t : Int32) (k : Nat) (z : Mm × Int32) : gI (phB b t k z).1 (b + 21) = gI z.1 (b + 21) := by
  have e : gI (tkN t b k z.1) (b + 21) = gI z.1 (b + 21) := by
    unfold tkN
    rw [w3_21]
    unfold laM
    rw [gI_f _ _ (by omega), gI_f _ _ (by omega)]
  unfold phB
  dsimp only
  split
  · exact e
  · rw [dv_g _ _ (by decide)]
    exact e
theorem p5_21 (M : Mm) (b : Nat) : gI (ph5 M b).1 (b + 21) = gI M (b + 21) := by
  have key : ∀ t q k (z : Mm × Int32), gI (itr (phB b t) q k z).1 (b + 21) = gI z.1 (b + 21) := by
    intro t q
    induction q with
    | zero => exact fun _ _ => rfl
    | succ q ih => exact fun k z => (ih (k + 1) (phB b t k z)).trans (pB_21 b t k z)
  unfold ph5
  rw [key]
  unfold ph4
  rw [(op_g _ (by decide) _ _).1, gI_f _ _ (by omega)]
  unfold ph3
  rw [en_g _ _ (by decide)]
  rfl
theorem p6_21 (M : Mm) (b : Nat) : gI (ph6 M b) (b + 21) = gI M (b + 21) := by
  have key : ∀ k N, gI (phD b k N) (b + 21) = gI N (b + 21) := by
    intro k
    induction k with
    | zero => exact fun _ => rfl
    | succ k ih =>
      intro N
      show gI (phD b k (phC b k N)) (b + 21) = _
      rw [ih]
      exact ((ov_2 b k (sp2 b k N)).1 21 (by decide)).trans ((sp_2 b k N).1 21 (by decide))
  unfold ph6
  rw [key, p5_21]
theorem fb_ph {M : Mm} {b : Nat} (h : ∀ k, k < 12 → gI M (b + 21) k = 0 ∨ gI M (b + 21) k = 1) : ∀ k, k < 12 → gI (phM M b) (b + 21) k = 0 ∨ gI (phM M b) (b + 21) k = 1 := by
  have e7 : gI (ph7 M b) (b + 21) = gI M (b + 21) := by
    unfold ph7 wkM
    rw [gI_f _ _ (by omega), p6_21]
  have e8 : gI (phM M b) (b + 21) = (cgR (ph7 M b) b (plM (ph7 M b) (b + 25))).1 := by
    unfold phM
    rw [gI_f _ _ (by omega)]
    unfold ph8
    rw [gI_w2, if_neg (by decide), if_pos rfl]
  have key : ∀ (N : Mm) x q k (z : (Nat → Int32) × (Nat → Int32)), (∀ i, i < 12 → z.1 i = 0 ∨ z.1 i = 1) → ∀ i, i < 12 → (itr (cgA N b x) q k z).1 i = 0 ∨ (itr (cgA N b x) q k z).1 i = 1 := by
    intro N x q
    induction q with
    | zero => exact fun _ _ hz => hz
    | succ q ih =>
      intro k z hz
      refine ih (k + 1) (cgA N b x k z) (fun i hi => ?_)
      unfold cgA
      split
      · dsimp only
        by_cases e : i = k
        · rw [e, upd_s]
          exact Or.inl rfl
        · rw [upd_n _ _ e]
          exact hz i hi
      · exact hz i hi
  rw [e8]
  unfold cgR
  exact key _ _ _ _ _ (fun i hi => by
    show gI (ph7 M b) (b + 21) i = 0 ∨ _
    rw [e7]
    exact h i hi)
theorem fb_ru {b : Nat} : ∀ q N s, (∀ k, k < 12 → gI N (b + 21) k = 0 ∨ gI N (b + 21) k = 1) → ∀ k, k < 12 → gI (ruL b q N s).2 (b + 21) k = 0 ∨ gI (ruL b q N s).2 (b + 21) k = 1
  | 0, _, _, h => h
  | q + 1, N, s, h => fb_ru q (phM N b) _ (fb_ph h)
theorem fr_ru (b : Nat) : ∀ q N s, FR (ruL b q N s).2 N b
  | 0, _, _ => FR.r _ _
  | q + 1, N, s => (fr_ru b q _ _).t (fr_ph N b)
/-- a change in the present State alone -/
theorem XA.pr {M N : Mm} {x : Nat} {D E B : Nat → Int32} {L e u : Int32} {H : Nat → Nat → Int32} (h : XA M x D B L e u H) (g : FR N M (x + 36)) (hP : PX N (x + 36) E) (hF : FB N x) : XA N x E B L e u H := by
  obtain ⟨h1, h2, h3, h4, h5, h6, h7, h8⟩ := h
  obtain ⟨hK, hP', -, hi⟩ := g
  exact ⟨h1.k2 hK hP', hP, hF, h4.eq (fun q a b => hi q (by omega)), h5.eq (fun k hk => (hi _ (by omega)).1) (hi _ (by omega)).2, h6.eq (hi _ (by omega)).1 (hi _ (by omega)).1, by rw [(hi _ (by omega)).1]; exact h7, h8.eq (fun q a b => (hi q (by omega)).1)⟩
theorem siK_f (m : Nat) {q : Nat} (h1 : q ≠ m + 2) (h2 : q ≠ m + 15) (h3 : q ≠ m + 16) : ∀ r N, gI (siK m r N) q = gI N q
  | 0, _ => rfl
  | r + 1, N => by
    show gI (siK m r (siM N m (m + 2))) q = _
    rw [siK_f m h1 h2 h3 r]
    unfold siM siN
    rw [gI_f _ _ h1, gI_f _ _ h3, gI_f _ _ h2]
    rfl
theorem rmR_e {M : Mm} {m : Nat} (h : cnt (gI M m 12) 8) : (∀ k, k < 8 → ag9 (gI (rmR M m) (m + 6 + k)) (rmH (gI M (m + 2)) (gI M m 12) (fun k => gI M (m + 6 + k)) k)) ∧ gI (rmR M m) m 12 = rmU (gI M m 12) ∧ (∀ j, j ≠ 12 → j ≠ 0 → gI (rmR M m) m j = gI M m j) ∧ gI (rmR M m) m 0 = 0 ∧ gI (rmR M m) (m + 1) = gI M (m + 1) ∧ Fm (rmR M m) M m := by
  have h' : cnt (gI (tS M m 0) m 12) 8 := by rw [tS_n _ _ _ (by decide)]; exact h
  obtain ⟨r1, r2, r3⟩ := rm_r h'
  unfold rmR
  refine ⟨fun k hk => ?_, ?_, fun j h1 h2 => ?_, ?_, ?_, (fm_rm h').t (fm_tS M m 0)⟩
  · have := r1 k hk
    have er : (fun k => gI (tS M m 0) (m + 6 + k)) = fun k => gI M (m + 6 + k) := by funext k; exact tS_f _ _ (by omega)
    rw [er, tS_f _ _ (show m + 2 ≠ m by omega), tS_n _ _ _ (by decide)] at this
    exact this
  · rw [r2, tS_n _ _ _ (by decide)]
  · rw [r3 j h1, tS_n _ _ _ h2]
  · rw [r3 0 (by decide), tS_0]
  · rw [rm_f h' (by omega), tS_f _ _ (by omega)]
theorem XS.u {M : Mm} {x m : Nat} (h : XS M x m) : cnt (gI M m 12) 8 := by
  obtain ⟨v, nx, h1, -, h3, -⟩ := h.2.2.2.2.2.1
  exact ⟨v, h1, h3⟩
/-- what an answer's cell changes -/
theorem XA.o {N : Mm} {x m o : Nat} {D B : Nat → Int32} {L e u : Int32} {H : Nat → Nat → Int32} (h : XA N x D B L e u H) (hx : x + 358 ≤ m) (ho : m + 17 ≤ o) (g : Nat → Int64) : XA (sJ N o g) x D B L e u H := h.c rfl rfl (fun q _ hq => ⟨rfl, gJ_f _ _ (by omega)⟩)
section CHANGE
variable {M : Mm} {x m o : Nat}
set_option maxHeartbeats 1000000 in
theorem ho_run (hS : XS M x m) (ho : m + 17 ≤ o) (h : Int32) : HO M x m o (orE (bR h 1 100) (ruB M x h)) (fun e => if e = 0 then 1 else 2) (ruR M x h).2 (Int32.toInt64 (ruR M x h).1) (fun P => LM P m ∧ cnt (gI P m 12) 8 ∧ cnt (gI P (m + 2) 1) 12 ∧ (kRu P m h = 0 → arP m (m + 2) h.toNatClampNeg (rmR P m) ∧ cnt (gI (rnK P m h) (m + 2) 1) 12)) (fun P => (if kRu P m h = 0 then taD (gI (rnK P m h) (m + 2)) - taD (gI P (m + 2)) else 0).toInt64) (fun P => if kRu P m h = 0 then rnK P m h else tS P m (kRu P m h)) := by
  obtain ⟨n, f, r, w', g, t, ht, hX, ⟨b1, b2, b3⟩, ⟨c1, c2, c3⟩, ⟨d1, d2, d3⟩⟩ := hS.n
  have hx := hS.1
  have hu := hS.u
  have e6 : gI M (x + 36) 6 = nI t := hX.2.2.2.2.2.1.1
  have e5 : gI M (m + 2) 5 = nI t := hX.2.2.2.2.2.1.2.1
  have o := orE_c (f := fun e => if e = 0 then (1 : Int32) else 2) (fa := 0) (fb := 2) (a := bR h 1 100) (b := ruB M x h) (ka := ccK h 1 100 1) (kb := kRb M m h) ((bR_o h 1 100 1).elim (fun z => Or.inl ⟨z.1, z.2.1⟩) (fun z => Or.inr ⟨z.1, z.2.1⟩)) (by
    unfold ruB kRb
    rw [c1, d1, e6, e5]
    by_cases q : nI n = 0 ∨ 100000 < nI t + h
    · rw [if_pos q, if_pos q]; exact Or.inr ⟨rfl, rfl⟩
    · rw [if_neg q, if_neg q]; exact Or.inl ⟨rfl, rfl⟩) (by decide) (by decide)
  obtain ⟨o1, o2⟩ := o
  have kw : ∀ P, gI P (m + 2) = gI M (m + 2) → kRu P m h = orK (ccK h 1 100 1) (kRb M m h) := fun P e1 => by unfold kRu kRb; rw [e1]
  have hsv := xa_sv hS.2.2
  have fh := hS.2.2.p.sv.2
  -- where hours pass
  have good : orK (ccK h 1 100 1) (kRb M m h) = 0 → ∃ q, q ≤ 100 ∧ h = nI q ∧ 0 < n ∧ t + q ≤ 100000 := by
    intro k
    rcases bR_o h 1 100 1 with ⟨-, y, yi⟩ | ⟨-, y, -⟩
    · obtain ⟨q, hq, eq⟩ := in_1 (n := 100) yi
      rw [y, orK_0] at k
      unfold kRb at k
      rw [d1, e5] at k
      by_cases z : nI n = 0 ∨ 100000 < nI t + h
      · rw [if_pos z] at k
        exact absurd k (by decide)
      · refine ⟨q, hq, eq, ?_, ?_⟩
        · rcases Nat.eq_zero_or_pos n with y | y
          · exact absurd (Or.inl (by rw [y]; rfl)) z
          · exact y
        · rcases Nat.lt_or_ge 100000 (t + q) with y | y
          · exact absurd (Or.inr (by rw [eq, nI_add]; exact (nI_ltI (a := 100000) (b := t + q) (by decide) (by omega)).mpr y)) z
          · exact y
    · rw [y, orK_1] at k
      exact absurd k (by decide)
  have hN : Fx (ruR M x h).2 M x := ((fr_ru (x + 36) _ _ _).x (by omega) (by omega)).t fh.x
  refine ⟨hN.1, fun P hP => ?_⟩
  dsimp only
  have e : gK P = gK M ∧ gP P = gP M ∧ (∀ q, x + 358 ≤ q → gI P q = gI M q) ∧ Fa P M x m o := by
    rcases hP with ⟨-, rfl⟩ | ⟨e, z, -, rfl⟩
    · exact ⟨hN.1, hN.2.1, fun q hq => (hN.2.2 q (Or.inr hq)).1, (Fa.o _ _ _ _ _).t (hN.a hx)⟩
    · exact ⟨rfl, rfl, fun _ _ => rfl, Fa.z _ _ _ _ _⟩
  obtain ⟨e1, e2, e3, e4⟩ := e
  have hL : LM P m := hS.2.1.kp e1 e2
  have p2 : gI P (m + 2) = gI M (m + 2) := e3 _ (by omega)
  have pm : gI P m = gI M m := e3 _ (by omega)
  have huP : cnt (gI P m 12) 8 := by rw [pm]; exact hu
  obtain ⟨q1, q2, q3, q4, q5, q6⟩ := rmR_e huP
  have r2 : gI (rmR P m) (m + 2) = gI M (m + 2) := (rmR_2 huP).trans p2
  have hXs : XR (svM M (x + 100) (x + 36)) (x + 36) (gI (rmR P m) (m + 2)) n f r w' g t := by
    rw [r2]
    exact hX.eq (fun k hk => (fh.2.2.2 _ (by omega)).1) (fh.2.2.2 _ (by omega)).2
  have hFm : Fm (if kRu P m h = 0 then rnK P m h else tS P m (kRu P m h)) P m := by
    split
    · exact (fm_sK m _ _).t q6
    · exact fm_tS _ _ _
  refine ⟨e4, ⟨hL, huP, by rw [p2]; exact ⟨f, b2, d2⟩, fun k => ?_⟩, ?_, (hFm.a hx).t e4, (hFm.2.2 o (Or.inr ho)).2, fun hb => ?_, fun e hb => ?_⟩
  · rw [kw P p2] at k
    obtain ⟨q, hq, eq, hn0, htq⟩ := good k
    obtain ⟨i1, ⟨g', i2⟩, i3⟩ := ru_si (m := m) hn0 q (svM M (x + 100) (x + 36)) (rmR P m) 0 g t hXs (by omega)
    unfold rnK
    rw [eq, nI_clamp (show q < 2 ^ 31 by omega)]
    exact ⟨i1, ⟨f, b2, i2.1.2.1.2.1⟩⟩
  · rcases hP with ⟨hb, rfl⟩ | ⟨e, z, hb, rfl⟩
    · obtain ⟨k0, -, -⟩ := o1 hb
      obtain ⟨q, hq, eq, hn0, htq⟩ := good k0
      rw [if_pos (by rw [kw _ p2]; exact k0)]
      obtain ⟨i1, ⟨g', i2⟩, i3⟩ := ru_si (m := m) hn0 q (svM M (x + 100) (x + 36)) (rmR (sJ (ruR M x h).2 o (vp_updL (gJ (ruR M x h).2 o) 0 (Int32.toInt64 (ruR M x h).1))) m) 0 g t hXs (by omega)
      have eR : (ruR M x h).2 = (ruL (x + 36) q (svM M (x + 100) (x + 36)) 0).2 := by
        unfold ruR
        rw [eq, nI_clamp (show q < 2 ^ 31 by omega)]
      have eK : rnK (sJ (ruR M x h).2 o (vp_updL (gJ (ruR M x h).2 o) 0 (Int32.toInt64 (ruR M x h).1))) m h = siK m q (rmR (sJ (ruR M x h).2 o (vp_updL (gJ (ruR M x h).2 o) 0 (Int32.toInt64 (ruR M x h).1))) m) := by
        unfold rnK
        rw [eq, nI_clamp (show q < 2 ^ 31 by omega)]
      have xa1 : XA (ruR M x h).2 x (gI (siK m q (rmR (sJ (ruR M x h).2 o (vp_updL (gJ (ruR M x h).2 o) 0 (Int32.toInt64 (ruR M x h).1))) m)) (m + 2)) (gI M (m + 1)) (gI M m 2) (gI M m 7) (rmU (gI M m 12)) (rmH (gI M (m + 2)) (gI M m 12) (fun k => gI M (m + 6 + k))) := by
        refine hsv.pr ?_ ⟨n, f, r, w', g', t + q, by omega, ?_⟩ ?_
        · rw [eR]; exact fr_ru _ _ _ _
        · rw [← eR] at i2
          exact i2
        · rw [eR]
          exact fb_ru q _ 0 hsv.2.2.1
      rw [eK]
      refine XS.mk (xa1.o hx ho _) hx hL ((fm_sK m _ _).t q6) (ag9.r _) ?_ ?_ ?_ ?_ (fun k hk => ?_)
      · rw [siK_f m (by omega) (by omega) (by omega), q5, e3 _ (by omega)]
      · rw [siK_f m (by omega) (by omega) (by omega), q3 2 (by decide) (by decide), pm]
      · rw [siK_f m (by omega) (by omega) (by omega), q3 7 (by decide) (by decide), pm]
      · rw [siK_f m (by omega) (by omega) (by omega), q2, pm]
      · rw [siK_f m (by omega) (by omega) (by omega)]
        have := q1 k hk
        have er : (fun k => gI (sJ (ruR M x h).2 o (vp_updL (gJ (ruR M x h).2 o) 0 (Int32.toInt64 (ruR M x h).1))) (m + 6 + k)) = fun k => gI M (m + 6 + k) := by funext k; exact e3 _ (by omega)
        rw [p2, pm, er] at this
        exact this
    · have k2 := o2 e hb
      have kn : ¬ kRu (sZ M z) m h = 0 := by rw [kw _ p2, k2.1]; exact k2.2
      rw [if_neg kn]
      exact (hS.z z).t _
  · obtain ⟨k0, -, -⟩ := o1 hb
    obtain ⟨q, hq, eq, hn0, htq⟩ := good k0
    have k1 : kRu P m h = 0 := by rw [kw P p2]; exact k0
    rw [if_pos k1, if_pos k1]
    obtain ⟨i1, ⟨g', i2⟩, i3⟩ := ru_si (m := m) hn0 q (svM M (x + 100) (x + 36)) (rmR P m) 0 g t hXs (by omega)
    unfold rnK ruR
    rw [eq, nI_clamp (show q < 2 ^ 31 by omega), siK_f m (by omega) (by omega) (by omega)]
    refine ⟨q4, congrArg _ ?_⟩
    rw [i3, Int32.zero_add, r2, p2]
  · have k2 := o2 e hb
    have k1 : kRu P m h = (if e = 0 then 1 else 2) := by rw [kw P p2]; exact k2.1
    have kn : ¬ kRu P m h = 0 := by rw [k1]; exact k2.2
    rw [if_neg kn, tS_0]
    exact ⟨k1, k2.2⟩
end CHANGE
