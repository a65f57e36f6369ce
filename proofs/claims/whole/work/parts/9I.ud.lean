/-! ===== the calls that predict ===== -/
def KO (N M : Mm) (m : Nat) : Prop := (gI N m 2 = gI M m 2 ∧ gI N m 7 = gI M m 7 ∧ gI N m 12 = gI M m 12) ∧ gI N (m + 1) = gI M (m + 1) ∧ gI N (m + 2) = gI M (m + 2) ∧ ∀ k, k < 8 → gI N (m + 6 + k) = gI M (m + 6 + k)
theorem KO.r (M : Mm) (m : Nat) : KO M M m := ⟨⟨rfl, rfl, rfl⟩, rfl, rfl, fun _ _ => rfl⟩
theorem KO.t {A B C : Mm} {m : Nat} (h : KO A B m) (g : KO B C m) : KO A C m := ⟨⟨h.1.1.trans g.1.1, h.1.2.1.trans g.1.2.1, h.1.2.2.trans g.1.2.2⟩, h.2.1.trans g.2.1, h.2.2.1.trans g.2.2.1, fun k hk => (h.2.2.2 k hk).trans (g.2.2.2 k hk)⟩
theorem ko_tS (M : Mm) (m : Nat) (k : Int32) : KO (tS M m k) M m := ⟨⟨tS_n _ _ _ (by decide), tS_n _ _ _ (by decide), tS_n _ _ _ (by decide)⟩, tS_f _ _ (by omega), tS_f _ _ (by omega), fun k hk => tS_f _ _ (by omega)⟩
theorem FM.ko {N M : Mm} {m : Nat} (h : FM N M m) : KO N M m := ⟨⟨by rw [h.2.2.2 m (by omega)], by rw [h.2.2.2 m (by omega)], by rw [h.2.2.2 m (by omega)]⟩, h.2.2.2 _ (by omega), h.2.2.2 _ (by omega), fun k hk => h.2.2.2 _ (by omega)⟩
theorem XS.ko {P Q : Mm} {x m : Nat} {D B : Nat → Int32} {L e u : Int32} {H : Nat → Nat → Int32} (hA : XA P x D B L e u H) (hx : x + 358 ≤ m) (hL : LM P m) (g : Fm Q P m) (k : KO Q P m) (d : gI P (m + 2) = D) (b : gI P (m + 1) = B) (l : gI P m 2 = L) (e7 : gI P m 7 = e) (e12 : gI P m 12 = u) (hh : ∀ k, k < 8 → gI P (m + 6 + k) = H k) : XS Q x m := by
  obtain ⟨⟨k1, k2, k3⟩, k4, k5, k6⟩ := k
  refine XS.mk hA hx hL g ?_ ?_ ?_ ?_ ?_ (fun i hi => ?_)
  · rw [k5, d]; exact ag9.r _
  · rw [k4, b]
  · rw [k1, l]
  · rw [k2, e7]
  · rw [k3, e12]
  · rw [k6 i hi, hh i hi]; exact ag9.r _
theorem ho_fc {M N : Mm} {x m o : Nat} {bad : Option Nat} {f : Nat → Int32} {v : Int64} {pre : Mm → Prop} {w : Mm → Int64} {Q : Mm → Mm} (hS : XS M x m) (ho : m + 17 ≤ o) (hA : XA N x (gI M (m + 2)) (gI M (m + 1)) (gI M m 2) (gI M m 7) (gI M m 12) (fun k => gI M (m + 6 + k))) (hN : Fx N M x)
    (hp : ∀ P, LM P m → (∀ q, x + 358 ≤ q → gI P q = gI M q) → pre P) (hQ : ∀ P, Fm (Q P) P m) (hK : ∀ P, KO (Q P) P m)
    (h0 : bad = none → ∀ P, (∀ q, x + 358 ≤ q → gI P q = gI M q) → gI (Q P) m 0 = 0 ∧ v = w P) (h1 : ∀ e, bad = some e → ∀ P, (∀ q, x + 358 ≤ q → gI P q = gI M q) → gI (Q P) m 0 = f e ∧ ¬ f e = 0) : HO M x m o bad f N v pre w Q := by
  have hx := hS.1
  refine ⟨hN.1, fun P hP => ?_⟩
  have e : gK P = gK M ∧ gP P = gP M ∧ (∀ q, x + 358 ≤ q → gI P q = gI M q) ∧ XA P x (gI M (m + 2)) (gI M (m + 1)) (gI M m 2) (gI M m 7) (gI M m 12) (fun k => gI M (m + 6 + k)) ∧ Fa P M x m o := by
    rcases hP with ⟨-, rfl⟩ | ⟨e, z, -, rfl⟩
    · exact ⟨hN.1, hN.2.1, fun q hq => (hN.2.2 q (Or.inr hq)).1, hA.c rfl rfl (fun q _ hq => ⟨rfl, gJ_f _ _ (by omega)⟩), (Fa.o _ _ _ _ _).t (hN.a hx)⟩
    · exact ⟨rfl, rfl, fun _ _ => rfl, hS.2.2.c rfl rfl (fun q _ hq => ⟨rfl, rfl⟩), Fa.z _ _ _ _ _⟩
  obtain ⟨e1, e2, e3, e4, e5⟩ := e
  have hL : LM P m := hS.2.1.kp e1 e2
  refine ⟨e5, hp P hL e3, XS.ko e4 hx hL (hQ P) (hK P) (e3 _ (by omega)) (e3 _ (by omega)) (by rw [e3 _ (by omega)]) (by rw [e3 _ (by omega)]) (by rw [e3 _ (by omega)]) (fun k hk => e3 _ (by omega)), ((hQ P).a hx).t e5, ((hQ P).2.2 o (Or.inr ho)).2, fun hb => h0 hb P e3, fun b hb => h1 b hb P e3⟩
/-- a row of the stack is nobody's business -/
theorem XA.j65 {M : Mm} {x : Nat} {D B : Nat → Int32} {L e u : Int32} {H : Nat → Nat → Int32} (h : XA M x D B L e u H) (g : Nat → Int64) : XA (sJ M (x + 65) g) x D B L e u H := by
  obtain ⟨h1, h2, h3, h4, h5, h6, h7, h8⟩ := h
  have e : ∀ q, q ≠ x + 65 → gJ (sJ M (x + 65) g) q = gJ M q := fun q hq => gJ_f _ _ hq
  exact ⟨h1.k2 rfl rfl, h2.eq (fun _ _ => rfl) (e _ (by omega)), h3, h4.eq (fun q a b => ⟨rfl, e q (by omega)⟩), h5.eq (fun _ _ => rfl) (e _ (by omega)), h6, h7, h8⟩
theorem fr_huL (b f : Nat) : ∀ q i N, FR (huL b f q i N).2 N b
  | 0, _, _ => FR.r _ _
  | q + 1, i, N => by
    unfold huL
    split
    · exact FR.r _ _
    · exact (fr_huL b f q _ _).t (fr_ph N b)
theorem fr_hu (M : Mm) (x : Nat) (f h : Int32) : FR (huR M x f h).2 M (x + 68) := (fr_huL _ _ _ _ _).t (fr_cp M _ _)
theorem fr_suL (x : Nat) (c h a : Int32) : ∀ q k N, FR (suL x c h a q k N).2 N (x + 68)
  | 0, _, _ => FR.r _ _
  | q + 1, k, N => by
    unfold suL
    split
    · exact fr_suL x c h a q _ _
    · split
      · exact fr_fR N x c h _
      · exact (fr_suL x c h a q _ _).t (fr_fR N x c h _)
theorem fr_su (M : Mm) (x : Nat) (c h a : Int32) : FR (suR M x c h a).2 M (x + 68) := by
  unfold suR
  split
  · exact fr_fR M x c h _
  · exact (fr_suL x c h a _ _ _).t (fr_fR M x c h _)
section PREDICT
variable {M : Mm} {x m o : Nat}
theorem fm_14 (M : Mm) (m : Nat) (g : Nat → Int64) : Fm (sJ M (m + 14) g) M m := Fm.j _ _ (by omega)
theorem ho_inflow (hS : XS M x m) (ho : m + 17 ≤ o) (t : Int32) : HO M x m o (bR t 0 100000) (fun _ => 1) (sJ M (x + 65) (fmR M (x + 63) t (villV M (x + 58) t)).2) (Int32.toInt64 (fmV ((fmR M (x + 63) t (villV M (x + 58) t)).2 0))) (fun P => LM P m ∧ (inI t 0 100000 → tuW (gI P (m + 2)) t ∧ ioW (gI P (m + 2)))) (fun P => (if ccK t 0 100000 1 = 0 then ioV (gI P (m + 2)) t (gJ P (m + 14)) else 0).toInt64) (fun P => if ccK t 0 100000 1 = 0 then sJ (tS P m 0) (m + 14) (ioR (gI P (m + 2)) t (gJ P (m + 14))) else tS P m 1) := by
  obtain ⟨n, f, r, w', g, h, ht, hX, -⟩ := hS.n
  have b9 : ∀ q : inI t 0 100000, t.toInt ≤ 1000000000 := fun q => by
    have := (in_0 q).2
    rw [show (100000 : Int32).toInt = 100000 from rfl] at this
    omega
  refine ho_fc hS ho (hS.2.2.j65 _) (Fx.j _ _ (by omega)) (fun P hL e => ⟨hL, fun q => by
      rw [e _ (by have := hS.1; omega)]
      exact ⟨(xr_tu hX (in_0 q).1).1, (xr_in hX (in_0 q).1 (b9 q) (fun _ => 0)).2⟩⟩) (fun P => ?_) (fun P => ?_) (fun hb P e => ?_) (fun e hb P _ => ?_)
  · try dsimp only
    split
    · exact (fm_14 _ _ _).t (fm_tS _ _ _)
    · exact fm_tS _ _ _
  · try dsimp only
    split
    · exact (KO.r (tS P m 0) m).t (ko_tS _ _ _)
    · exact ko_tS _ _ _
  · rcases bR_o t 0 100000 1 with ⟨-, q, qi⟩ | ⟨q, -⟩
    · try dsimp only
      rw [if_pos q, if_pos q, e _ (by have := hS.1; omega)]
      refine ⟨tS_0 _ _ _, congrArg _ ?_⟩
      exact (xr_in hX (in_0 qi).1 (b9 qi) _).1
    · rw [q] at hb
      cases hb
  · rcases bR_o t 0 100000 1 with ⟨q, -⟩ | ⟨-, q2, -⟩
    · rw [q] at hb
      cases hb
    · try dsimp only
      rw [if_neg (by rw [q2]; decide)]
      exact ⟨tS_0 _ _ _, by decide⟩
theorem ht_n {h : Int32} {n : Nat} (q : inI h 0 (nI n)) : ∃ j, j ≤ n ∧ h = nI j := in_c q
theorem XS.e2 {M P : Mm} {x m : Nat} (h : XS M x m) (e : ∀ q, x + 358 ≤ q → gI P q = gI M q) : gI P (m + 2) = gI M (m + 2) := e _ (by have := h.1; omega)
theorem ho_expected (hS : XS M x m) (ho : m + 17 ≤ o) (c h : Int32) : HO M x m o (orE (bI c (gI M (x + 37) 8)) (bR h 0 100)) (fun e => if e = 1 then 1 else 2) (faR M x c h (-1)).2 (Int32.toInt64 (faR M x c h (-1)).1) (fun P => LM P m ∧ cnt (gI P (m + 2) 0) 16 ∧ (kEx P m c h 0 100 = 0 → arQ m (m + 4) h.toNatClampNeg (gI P (m + 2)))) (fun P => (if kEx P m c h 0 100 = 0 then (exR P m c h).1 else 0).toInt64) (fun P => if kEx P m c h 0 100 = 0 then (exR P m c h).2 else tS P m (kEx P m c h 0 100)) := by
  obtain ⟨n, f, r, w', g, t, ht, hX, ⟨b1, b2, b3⟩, ⟨c1, c2, c3⟩, ⟨d1, d2, d3⟩⟩ := hS.n
  have o := orE_c (f := fun e => if e = 1 then (1 : Int32) else 2) (fa := 1) (fb := 0) (ka := ccK c 0 (nI n - 1) 1) (kb := ccK h 0 100 2) (bI_o c (show n < 2 ^ 30 by omega)) ((bR_o h 0 100 2).elim (fun z => Or.inl ⟨z.1, z.2.1⟩) (fun z => Or.inr ⟨z.1, z.2.1⟩)) (by decide) (by decide)
  rw [← c1] at o
  obtain ⟨o1, o2⟩ := o
  have kw : ∀ P, gI P (m + 2) = gI M (m + 2) → kEx P m c h 0 100 = orK (ccK c 0 (nI n - 1) 1) (ccK h 0 100 2) := fun P e1 => by unfold kEx kCa; rw [e1, d1]
  have hx := hS.1
  have args : orK (ccK c 0 (nI n - 1) 1) (ccK h 0 100 2) = 0 → (∃ j, j < n ∧ c = nI j) ∧ ∃ i, i ≤ 100 ∧ h = nI i := by
    intro k
    have k1 : ccK c 0 (nI n - 1) 1 = 0 := by
      rcases bI_o c (show n < 2 ^ 30 by omega) with ⟨-, y⟩ | ⟨-, y⟩
      · exact y
      · rw [y, orK_1] at k
        exact absurd k (by decide)
    rw [k1, orK_0] at k
    rcases bR_o h 0 100 2 with ⟨-, -, y⟩ | ⟨-, y, -⟩
    · refine ⟨?_, ht_n (n := 100) y⟩
      rcases bI_o c (show n < 2 ^ 30 by omega) with ⟨z, -⟩ | ⟨-, z⟩
      · exact bI_j z (by omega)
      · rw [z] at k1
        exact absurd k1 (by decide)
    · rw [y] at k
      exact absurd k (by decide)
  refine ho_fc hS ho (hS.2.2.fr (fr_fR M x c h (-1))) ((fr_fR M x c h (-1)).x (by omega) (by omega)) (fun P hL e => ⟨hL, by rw [hS.e2 e]; exact ⟨n, b1, d1⟩, fun k => ?_⟩) (fun P => ?_) (fun P => ?_) (fun hb P e => ?_) (fun e hb P e1 => ?_)
  · rw [kw P (hS.e2 e)] at k
    obtain ⟨⟨j, hj, ej⟩, i, hi, ei⟩ := args k
    rw [hS.e2 e, ei, nI_clamp (show i < 2 ^ 31 by omega)]
    exact aq_ok (by omega) hX (by omega)
  · try dsimp only
    split
    · exact fm_eR P m c h
    · exact fm_tS _ _ _
  · try dsimp only
    split
    · exact ((fm_ar m _ _ _ _).ko.t (fm_ex _ m).ko).t (ko_tS _ _ _)
    · exact ko_tS _ _ _
  · obtain ⟨k0, -, -⟩ := o1 hb
    rw [c1] at k0
    have k1 : kEx P m c h 0 100 = 0 := by rw [kw P (hS.e2 e)]; exact k0
    obtain ⟨⟨j, hj, ej⟩, i, hi, ei⟩ := args k0
    try dsimp only
    rw [if_pos k1, if_pos k1]
    refine ⟨?_, congrArg _ ?_⟩
    · unfold exR
      rw [(fm_ar m _ _ _ _).2.2.2 m (by omega), (fm_ex _ m).2.2.2 m (by omega), tS_0]
    · rw [ej, ei]
      exact ex_e (by rw [hS.e2 e]; exact hX) ht hj hi
  · have k2 := o2 e hb
    rw [c1] at k2
    have k1 : kEx P m c h 0 100 = (if e = 1 then 1 else 2) := by rw [kw P (hS.e2 e1)]; exact k2.1
    have kn : ¬ kEx P m c h 0 100 = 0 := by rw [k1]; exact k2.2
    try dsimp only
    rw [if_neg kn, tS_0]
    exact ⟨k1, k2.2⟩
theorem ho_hoursUntil (hS : XS M x m) (ho : m + 17 ≤ o) (f h : Int32) : HO M x m o (orE (bI f (gI M (x + 46) 11)) (bR h 0 100)) (fun e => if e = 1 then 1 else 2) (huR M x f h).2 (Int32.toInt64 (huR M x f h).1) (fun P => LM P m ∧ cnt (gI P (m + 2) 1) 12 ∧ (kHu P m f h = 0 → arQ m (m + 4) (h.toNatClampNeg + 1) (gI P (m + 2)))) (fun P => (if kHu P m f h = 0 then (hmR P m f h).1 else 0).toInt64) (fun P => if kHu P m f h = 0 then (hmR P m f h).2 else tS P m (kHu P m f h)) := by
  obtain ⟨n, f', r, w', g, t, ht, hX, ⟨b1, b2, b3⟩, ⟨c1, c2, c3⟩, ⟨d1, d2, d3⟩⟩ := hS.n
  have o := orE_c (f := fun e => if e = 1 then (1 : Int32) else 2) (fa := 1) (fb := 0) (ka := ccK f 0 (nI f' - 1) 1) (kb := ccK h 0 100 2) (bI_o f (show f' < 2 ^ 30 by omega)) ((bR_o h 0 100 2).elim (fun z => Or.inl ⟨z.1, z.2.1⟩) (fun z => Or.inr ⟨z.1, z.2.1⟩)) (by decide) (by decide)
  rw [← c2] at o
  obtain ⟨o1, o2⟩ := o
  have kw : ∀ P, gI P (m + 2) = gI M (m + 2) → kHu P m f h = orK (ccK f 0 (nI f' - 1) 1) (ccK h 0 100 2) := fun P e1 => by unfold kHu kFi; rw [e1, d2]
  have hx := hS.1
  have args : orK (ccK f 0 (nI f' - 1) 1) (ccK h 0 100 2) = 0 → (∃ j, j < f' ∧ f = nI j) ∧ ∃ i, i ≤ 100 ∧ h = nI i := by
    intro k
    have k1 : ccK f 0 (nI f' - 1) 1 = 0 := by
      rcases bI_o f (show f' < 2 ^ 30 by omega) with ⟨-, y⟩ | ⟨-, y⟩
      · exact y
      · rw [y, orK_1] at k
        exact absurd k (by decide)
    rw [k1, orK_0] at k
    rcases bR_o h 0 100 2 with ⟨-, -, y⟩ | ⟨-, y, -⟩
    · refine ⟨?_, ht_n (n := 100) y⟩
      rcases bI_o f (show f' < 2 ^ 30 by omega) with ⟨z, -⟩ | ⟨-, z⟩
      · exact bI_j z (by omega)
      · rw [z] at k1
        exact absurd k1 (by decide)
    · rw [y] at k
      exact absurd k (by decide)
  -- a field stands at a canal
  have np : ∀ j, j < f' → 0 < n := fun j hj => by
    obtain ⟨c, hc, -⟩ := (hX.1.2.2.2.2.1 j hj).1
    omega
  refine ho_fc hS ho (hS.2.2.fr (fr_hu M x f h)) ((fr_hu M x f h).x (by omega) (by omega)) (fun P hL e => ⟨hL, by rw [hS.e2 e]; exact ⟨f', b2, d2⟩, fun k => ?_⟩) (fun P => ?_) (fun P => ?_) (fun hb P e => ?_) (fun e hb P e1 => ?_)
  · rw [kw P (hS.e2 e)] at k
    obtain ⟨⟨j, hj, ej⟩, i, hi, ei⟩ := args k
    rw [hS.e2 e, ei, nI_clamp (show i < 2 ^ 31 by omega)]
    exact aq_ok (np j hj) hX (by omega)
  · try dsimp only
    split
    · exact fm_hR P m f h
    · exact fm_tS _ _ _
  · try dsimp only
    split
    · exact ((fm_hm m _ _ _ _).ko.t (fm_ex _ m).ko).t (ko_tS _ _ _)
    · exact ko_tS _ _ _
  · obtain ⟨k0, -, -⟩ := o1 hb
    rw [c2] at k0
    have k1 : kHu P m f h = 0 := by rw [kw P (hS.e2 e)]; exact k0
    obtain ⟨⟨j, hj, ej⟩, i, hi, ei⟩ := args k0
    try dsimp only
    rw [if_pos k1, if_pos k1]
    refine ⟨?_, congrArg _ ?_⟩
    · unfold hmR
      rw [(fm_hm m _ _ _ _).2.2.2 m (by omega), (fm_ex _ m).2.2.2 m (by omega), tS_0]
    · unfold huR hmR
      rw [ej, ei, nI_clamp (show j < 2 ^ 31 by omega), nI_clamp (show i < 2 ^ 31 by omega)]
      refine hu_hm (np j hj) hj i 0 _ _ g t ((hX.cp (apt_36 x)).ag ?_) (by omega)
      have := ex_D (tS P m 0) (tS P m 0) m rfl
      rw [show gI (tS P m 0) (m + 2) = gI M (m + 2) by rw [tS_f _ _ (by omega)]; exact hS.e2 e] at this
      exact this
  · have k2 := o2 e hb
    rw [c2] at k2
    have k1 : kHu P m f h = (if e = 1 then 1 else 2) := by rw [kw P (hS.e2 e1)]; exact k2.1
    have kn : ¬ kHu P m f h = 0 := by rw [k1]; exact k2.2
    try dsimp only
    rw [if_neg kn, tS_0]
    exact ⟨k1, k2.2⟩
theorem ko_uL (m c h : Nat) (a : Int32) : ∀ r f N, KO (suM m c h a r f N).2 N m ∧ gI (suM m c h a r f N).2 m = gI N m
  | 0, _, _ => ⟨KO.r _ _, rfl⟩
  | r + 1, f, N => by
    have a1 : FM (arL m c h (suF N m f) 0).2 N m := (fm_ar m c h _ 0).t (fm_sF N m f)
    unfold suM
    split
    · exact ko_uL m c h a r _ _
    · split
      · exact ⟨a1.ko, a1.2.2.2 m (by omega)⟩
      · obtain ⟨i1, i2⟩ := ko_uL m c h a r (f + 1) (arL m c h (suF N m f) 0).2
        exact ⟨i1.t a1.ko, i2.trans (a1.2.2.2 m (by omega))⟩
theorem ho_suspect (hS : XS M x m) (ho : m + 17 ≤ o) (c h a : Int32) : HO M x m o (orE (bI c (gI M (x + 37) 8)) (bR h 1 50)) (fun e => if e = 1 then 1 else 2) (suR M x c h a).2 (Int32.toInt64 (suR M x c h a).1) (fun P => LM P m ∧ cnt (gI P (m + 2) 0) 16 ∧ cnt (gI P (m + 2) 1) 12 ∧ (kEx P m c h 1 50 = 0 → arQ m (m + 4) h.toNatClampNeg (gI P (m + 2)) ∧ ∀ f, f < (gI P (m + 2) 1).toNatClampNeg → arQ m (m + 4) h.toNatClampNeg (upd (gI P (m + 2)) (221 + 11 * f + 10) 1))) (fun P => (if kEx P m c h 1 50 = 0 then (suT P m c h a).1 else 0).toInt64) (fun P => if kEx P m c h 1 50 = 0 then (suT P m c h a).2 else tS P m (kEx P m c h 1 50)) := by
  obtain ⟨n, f, r, w', g, t, ht, hX, ⟨b1, b2, b3⟩, ⟨c1, c2, c3⟩, ⟨d1, d2, d3⟩⟩ := hS.n
  have o := orE_c (f := fun e => if e = 1 then (1 : Int32) else 2) (fa := 1) (fb := 0) (ka := ccK c 0 (nI n - 1) 1) (kb := ccK h 1 50 2) (bI_o c (show n < 2 ^ 30 by omega)) ((bR_o h 1 50 2).elim (fun z => Or.inl ⟨z.1, z.2.1⟩) (fun z => Or.inr ⟨z.1, z.2.1⟩)) (by decide) (by decide)
  rw [← c1] at o
  obtain ⟨o1, o2⟩ := o
  have kw : ∀ P, gI P (m + 2) = gI M (m + 2) → kEx P m c h 1 50 = orK (ccK c 0 (nI n - 1) 1) (ccK h 1 50 2) := fun P e1 => by unfold kEx kCa; rw [e1, d1]
  have hx := hS.1
  have args : orK (ccK c 0 (nI n - 1) 1) (ccK h 1 50 2) = 0 → (∃ j, j < n ∧ c = nI j) ∧ ∃ i, i ≤ 50 ∧ h = nI i := by
    intro k
    have k1 : ccK c 0 (nI n - 1) 1 = 0 := by
      rcases bI_o c (show n < 2 ^ 30 by omega) with ⟨-, y⟩ | ⟨-, y⟩
      · exact y
      · rw [y, orK_1] at k
        exact absurd k (by decide)
    rw [k1, orK_0] at k
    rcases bR_o h 1 50 2 with ⟨-, -, y⟩ | ⟨-, y, -⟩
    · refine ⟨?_, in_1 (n := 50) y⟩
      rcases bI_o c (show n < 2 ^ 30 by omega) with ⟨z, -⟩ | ⟨-, z⟩
      · exact bI_j z (by omega)
      · rw [z] at k1
        exact absurd k1 (by decide)
    · rw [y] at k
      exact absurd k (by decide)
  refine ho_fc hS ho (hS.2.2.fr (fr_su M x c h a)) ((fr_su M x c h a).x (by omega) (by omega)) (fun P hL e => ⟨hL, by rw [hS.e2 e]; exact ⟨n, b1, d1⟩, by rw [hS.e2 e]; exact ⟨f, b2, d2⟩, fun k => ?_⟩) (fun P => ?_) (fun P => ?_) (fun hb P e => ?_) (fun e hb P e1 => ?_)
  · rw [kw P (hS.e2 e)] at k
    obtain ⟨⟨j, hj, ej⟩, i, hi, ei⟩ := args k
    rw [hS.e2 e, ei, d2, nI_clamp (show i < 2 ^ 31 by omega), nI_clamp (show f < 2 ^ 31 by omega)]
    exact ⟨aq_ok (by omega) hX (by omega), fun y hy => aq_ok (by omega) (hX.fo hy) (by omega)⟩
  · try dsimp only
    split
    · exact fm_uT P m c h a
    · exact fm_tS _ _ _
  · try dsimp only
    split
    · have ke : KO (exR P m c h).2 P m := ((fm_ar m _ _ _ _).ko.t (fm_ex _ m).ko).t (ko_tS _ _ _)
      unfold suT
      split
      · exact ke
      · exact (ko_uL m _ _ a _ _ _).1.t ke
    · exact ko_tS _ _ _
  · obtain ⟨k0, -, -⟩ := o1 hb
    rw [c1] at k0
    have k1 : kEx P m c h 1 50 = 0 := by rw [kw P (hS.e2 e)]; exact k0
    obtain ⟨⟨j, hj, ej⟩, i, hi, ei⟩ := args k0
    have z0 : gI (exR P m c h).2 m 0 = 0 := by
      unfold exR
      rw [(fm_ar m _ _ _ _).2.2.2 m (by omega), (fm_ex _ m).2.2.2 m (by omega), tS_0]
    have ev : (faR M x c h (-1)).1 = (exR P m c h).1 := by
      rw [ej, ei]
      exact ex_e (by rw [hS.e2 e]; exact hX) ht hj (by omega)
    try dsimp only
    rw [if_pos k1, if_pos k1]
    refine ⟨?_, congrArg _ ?_⟩
    · unfold suT
      split
      · exact z0
      · try dsimp only
        rw [(ko_uL m _ _ a _ _ _).2]
        exact z0
    · unfold suR suT
      rw [ev]
      split
      · rfl
      · rw [c2, hS.e2 e, d2, nI_clamp (show f < 2 ^ 31 by omega)]
        have ke : gI (exR P m c h).2 (m + 2) = gI P (m + 2) := (((fm_ar m _ _ _ _).ko.t (fm_ex _ m).ko).t (ko_tS P m 0)).2.2.1
        rw [ej, ei, nI_clamp (show j < 2 ^ 31 by omega), nI_clamp (show i < 2 ^ 31 by omega)]
        rw [ej, ei] at ke
        refine su_l (f := f) (r := r) (w := w') (g := g) ht hj (show i ≤ 100 by omega) f 0 _ _ (by omega) ?_
        rw [ke, hS.e2 e]
        exact hX.eq (fun k hk => ((fr_fR M x (nI j) (nI i) (-1)).2.2.2 _ (by omega)).1) ((fr_fR M x (nI j) (nI i) (-1)).2.2.2 _ (by omega)).2
  · have k2 := o2 e hb
    rw [c1] at k2
    have k1 : kEx P m c h 1 50 = (if e = 1 then 1 else 2) := by rw [kw P (hS.e2 e1)]; exact k2.1
    have kn : ¬ kEx P m c h 1 50 = 0 := by rw [k1]; exact k2.2
    try dsimp only
    rw [if_neg kn, tS_0]
    exact ⟨k1, k2.2⟩
end PREDICT
