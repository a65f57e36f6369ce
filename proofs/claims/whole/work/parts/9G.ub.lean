/-! ===== what the reference's methods leave alone; its history ===== -/
def Fm (N M : Mm) (m : Nat) : Prop := gK N = gK M ∧ gP N = gP M ∧ ∀ q, (q < m ∨ m + 17 ≤ q) → gI N q = gI M q ∧ gJ N q = gJ M q
theorem Fm.r (M : Mm) (m : Nat) : Fm M M m := ⟨rfl, rfl, fun _ _ => ⟨rfl, rfl⟩⟩
theorem Fm.t {A B C : Mm} {m : Nat} (h : Fm A B m) (g : Fm B C m) : Fm A C m := ⟨h.1.trans g.1, h.2.1.trans g.2.1, fun q hq => ⟨(h.2.2 q hq).1.trans (g.2.2 q hq).1, (h.2.2 q hq).2.trans (g.2.2 q hq).2⟩⟩
theorem Fm.i (M : Mm) {m a : Nat} (f : Nat → Int32) (h : m ≤ a ∧ a < m + 17) : Fm (sI M a f) M m := ⟨rfl, rfl, fun q hq => ⟨gI_f _ _ (by omega), rfl⟩⟩
theorem Fm.j (M : Mm) {m a : Nat} (f : Nat → Int64) (h : m ≤ a ∧ a < m + 17) : Fm (sJ M a f) M m := ⟨rfl, rfl, fun q hq => ⟨rfl, gJ_f _ _ (by omega)⟩⟩
theorem fm_tS (M : Mm) (m : Nat) (k : Int32) : Fm (tS M m k) M m := Fm.i _ _ ⟨Nat.le_refl m, by omega⟩
theorem fm_sM (M : Mm) {m q : Nat} (h : q = m + 2 ∨ q = m + 4) : Fm (siM M m q) M m := by
  unfold siM siN
  exact (Fm.i _ _ (by omega)).t ((Fm.i _ _ (by omega)).t ((Fm.i _ _ (by omega)).t (Fm.j _ _ (by omega))))
theorem fm_aL (m c : Nat) : ∀ r N s, Fm (arL m c r N s).2 N m
  | 0, _, _ => Fm.r _ _
  | r + 1, N, s => (fm_aL m c r _ _).t (fm_sM N (Or.inr rfl))
theorem fm_hL (m f : Nat) : ∀ r n N, Fm (hmL m f r n N).2 N m
  | 0, _, _ => Fm.r _ _
  | r + 1, n, N => by
    unfold hmL
    split
    · exact Fm.r _ _
    · exact (fm_hL m f r _ _).t (fm_sM N (Or.inr rfl))
theorem fm_eF (M : Mm) (m : Nat) : Fm (exF M m) M m := Fm.i _ _ (by omega)
theorem fm_uF (M : Mm) (m f : Nat) : Fm (suF M m f) M m := (Fm.i _ _ (by omega)).t (fm_eF M m)
theorem fm_eR (M : Mm) (m : Nat) (c h : Int32) : Fm (exR M m c h).2 M m := (fm_aL m _ _ _ _).t ((fm_eF _ m).t (fm_tS M m 0))
theorem fm_uL (m c h : Nat) (a : Int32) : ∀ r f N, Fm (suM m c h a r f N).2 N m
  | 0, _, _ => Fm.r _ _
  | r + 1, f, N => by
    unfold suM
    split
    · exact fm_uL m c h a r _ _
    · split
      · exact (fm_aL m c _ _ _).t (fm_uF N m f)
      · exact (fm_uL m c h a r _ _).t ((fm_aL m c _ _ _).t (fm_uF N m f))
theorem fm_uT (M : Mm) (m : Nat) (c h a : Int32) : Fm (suT M m c h a).2 M m := by
  unfold suT
  split
  · exact fm_eR M m c h
  · exact (fm_uL m _ _ a _ _ _).t (fm_eR M m c h)
theorem fm_hR (M : Mm) (m : Nat) (f h : Int32) : Fm (hmR M m f h).2 M m := (fm_hL m _ _ _ _).t ((fm_eF _ m).t (fm_tS M m 0))
theorem fm_sK (m : Nat) : ∀ r N, Fm (siK m r N) N m
  | 0, _ => Fm.r _ _
  | r + 1, N => (fm_sK m r _).t (fm_sM N (Or.inl rfl))
theorem rmA_j (m : Nat) : ∀ r k N, gJ (itr (rmA m) r k N) = gJ N
  | 0, _, _ => rfl
  | r + 1, k, N => (rmA_j m r (k + 1) (rmA m k N)).trans rfl
theorem rm1_j (M : Mm) (m : Nat) : gJ (rm1 M m) = gJ M := by
  unfold rm1
  split
  · rw [gJ_sI, rmA_j]
  · rfl
theorem fm_rm {M : Mm} {m : Nat} (h : cnt (gI M m 12) 8) : Fm (rmM M m) M m := by
  refine ⟨(rm_k M m).1, (rm_k M m).2.1, fun q hq => ⟨rm_f h (by omega), ?_⟩⟩
  unfold rmM
  dsimp only
  rw [gJ_sI, gJ_sI, rm1_j]
theorem rmA_s (m : Nat) {j : Nat} (hj : j < 8) : ∀ r k N, k + r ≤ 7 → ag9 (gI (itr (rmA m) r k N) (m + 6 + j)) (if k ≤ j ∧ j < k + r then gI N (m + 6 + (j + 1)) else gI N (m + 6 + j))
  | 0, k, N, _ => by
    rw [if_neg (by omega)]
    exact fun _ _ => rfl
  | r + 1, k, N, hk => by
    have ih := rmA_s m hj r (k + 1) (rmA m k N) (by omega)
    show ag9 (gI (itr (rmA m) r (k + 1) (rmA m k N)) (m + 6 + j)) _
    intro i hi
    rw [ih i hi]
    by_cases e : j = k
    · subst e
      rw [if_neg (by omega), if_pos (by omega)]
      unfold rmA
      rw [gI_s]
      exact cpy_in _ _ hi
    · have n1 : gI (rmA m k N) (m + 6 + j) = gI N (m + 6 + j) := by unfold rmA; exact gI_f _ _ (by omega)
      by_cases p : k + 1 ≤ j ∧ j < k + 1 + r
      · have n2 : gI (rmA m k N) (m + 6 + (j + 1)) = gI N (m + 6 + (j + 1)) := by unfold rmA; exact gI_f _ _ (by omega)
        rw [if_pos p, if_pos (by omega), n2]
      · rw [if_neg p, if_neg (by omega), n1]
/-- the history after a save -/
theorem rm_r {M : Mm} {m : Nat} (h : cnt (gI M m 12) 8) : (∀ k, k < 8 → ag9 (gI (rmM M m) (m + 6 + k)) (rmH (gI M (m + 2)) (gI M m 12) (fun k => gI M (m + 6 + k)) k)) ∧ gI (rmM M m) m 12 = rmU (gI M m 12) ∧ ∀ j, j ≠ 12 → gI (rmM M m) m j = gI M m j := by
  obtain ⟨v, hv, ev⟩ := h
  have r1r : ∀ k, k < 8 → ag9 (gI (rm1 M m) (m + 6 + k)) (if gI M m 12 = 8 then (if k < 7 then gI M (m + 6 + (k + 1)) else gI M (m + 6 + k)) else gI M (m + 6 + k)) := by
    intro k hk
    unfold rm1
    by_cases e : gI M m 12 = 8
    · rw [if_pos e, if_pos e, gI_f _ _ (by omega)]
      have := rmA_s m hk 7 0 M (by decide)
      by_cases p : k < 7
      · rw [if_pos (by omega)] at this
        rw [if_pos p]
        exact this
      · rw [if_neg (by omega)] at this
        rw [if_neg p]
        exact this
    · rw [if_neg e, if_neg e]
      exact fun _ _ => rfl
  have r1o : gI (rm1 M m) m = if gI M m 12 = 8 then upd (gI M m) 12 7 else gI M m := by
    unfold rm1
    by_cases e : gI M m 12 = 8
    · rw [if_pos e, if_pos e, gI_s, rmA_f m 7 0 M (by decide) (by omega)]
    · rw [if_neg e, if_neg e]
  have u0 : ∃ w, w < 8 ∧ gI (rm1 M m) m 12 = nI w ∧ (gI M m 12 = 8 → w = 7) ∧ (¬ gI M m 12 = 8 → w = v) := by
    rw [r1o]
    by_cases e : gI M m 12 = 8
    · rw [if_pos e, upd_s]
      exact ⟨7, by decide, rfl, fun _ => rfl, fun z => absurd e z⟩
    · rw [if_neg e]
      refine ⟨v, ?_, ev, fun z => absurd z e, fun _ => rfl⟩
      rcases Nat.lt_or_ge v 8 with q | q
      · exact q
      · exfalso
        apply e
        rw [ev, show v = 8 by omega]
        rfl
  obtain ⟨w, hw, ew, w7, wv⟩ := u0
  have r2 : gI (rm1 M m) (m + 2) = gI M (m + 2) := rm1_f M m (by omega)
  have row : ∀ k, k < 8 → gI (rmM M m) (m + 6 + k) = if k = w then cpy 1793 (gI M (m + 2)) (gI (rm1 M m) (m + 6 + w)) else gI (rm1 M m) (m + 6 + k) := by
    intro k hk
    unfold rmM
    dsimp only
    rw [gI_f _ _ (by omega), ew, nI_clamp (by omega), r2]
    by_cases e : k = w
    · rw [if_pos e, e, gI_s]
    · rw [if_neg e, gI_f _ _ (by omega)]
  have own : gI (rmM M m) m = upd (gI (rm1 M m) m) 12 (nI w + 1) := by
    unfold rmM
    dsimp only
    rw [gI_s, gI_f _ _ (by omega), ew]
  refine ⟨fun k hk => ?_, ?_, fun j hj => ?_⟩
  · rw [row k hk]
    unfold rmH
    by_cases e : gI M m 12 = 8
    · have ww := w7 e
      subst ww
      rw [if_pos e]
      by_cases p : k = 7
      · rw [if_pos p, if_neg (by omega)]
        exact cpy_ag _ _
      · rw [if_neg p, if_pos (by omega)]
        have := r1r k hk
        rw [if_pos e, if_pos (by omega)] at this
        exact this
    · have ww := wv e
      subst ww
      rw [if_neg e, ev, nI_clamp (show w < 2 ^ 31 by omega)]
      by_cases p : k = w
      · rw [if_pos p, if_pos p]
        exact cpy_ag _ _
      · rw [if_neg p, if_neg p]
        have := r1r k hk
        rw [if_neg e] at this
        exact this
  · rw [own, upd_s]
    unfold rmU
    by_cases e : gI M m 12 = 8
    · rw [if_pos e, w7 e]
      rfl
    · rw [if_neg e, ev, wv e]
  · rw [own, upd_n _ _ hj, r1o]
    split
    · exact upd_n _ _ hj
    · rfl
/-! == both sides together == -/
def XS (M : Mm) (x m : Nat) : Prop := x + 358 ≤ m ∧ LM M m ∧ XA M x (gI M (m + 2)) (gI M (m + 1)) (gI M m 2) (gI M m 7) (gI M m 12) (fun k => gI M (m + 6 + k))
def Fx (N M : Mm) (x : Nat) : Prop := gK N = gK M ∧ gP N = gP M ∧ ∀ q, (q < x ∨ x + 358 ≤ q) → gI N q = gI M q ∧ gJ N q = gJ M q
theorem Fx.r (M : Mm) (x : Nat) : Fx M M x := ⟨rfl, rfl, fun _ _ => ⟨rfl, rfl⟩⟩
theorem Fx.t {A B C : Mm} {x : Nat} (h : Fx A B x) (g : Fx B C x) : Fx A C x := ⟨h.1.trans g.1, h.2.1.trans g.2.1, fun q hq => ⟨(h.2.2 q hq).1.trans (g.2.2 q hq).1, (h.2.2 q hq).2.trans (g.2.2 q hq).2⟩⟩
theorem Fx.i (M : Mm) {x a : Nat} (f : Nat → Int32) (h : x ≤ a ∧ a < x + 358) : Fx (sI M a f) M x := ⟨rfl, rfl, fun q hq => ⟨gI_f _ _ (by omega), rfl⟩⟩
theorem Fx.j (M : Mm) {x a : Nat} (f : Nat → Int64) (h : x ≤ a ∧ a < x + 358) : Fx (sJ M a f) M x := ⟨rfl, rfl, fun q hq => ⟨rfl, gJ_f _ _ (by omega)⟩⟩
theorem FR.x {N M : Mm} {x b : Nat} (h : FR N M b) (h1 : x ≤ b) (h2 : b + 32 ≤ x + 358) : Fx N M x := ⟨h.1, h.2.1, fun q hq => h.2.2.2 q (by omega)⟩
theorem FH.x {N M : Mm} {x : Nat} (h : FH N M (x + 100)) : Fx N M x := ⟨h.1, h.2.1, fun q hq => h.2.2.2 q (by omega)⟩
theorem Fm.x {N M : Mm} {x m q : Nat} (h : Fm N M m) (hx : x + 358 ≤ m) (h2 : q < x + 358) : gI N q = gI M q ∧ gJ N q = gJ M q := h.2.2 q (by omega)
/-- x's part stays behind a step of the reference -/
theorem XA.m {M N : Mm} {x m : Nat} {D B : Nat → Int32} {L e u : Int32} {H : Nat → Nat → Int32} (h : XA M x D B L e u H) (g : Fm N M m) (hx : x + 358 ≤ m) : XA N x D B L e u H := h.c g.1 g.2.1 (fun q _ hq => g.x hx hq)
theorem XA.ag {M : Mm} {x : Nat} {D E B : Nat → Int32} {L e u : Int32} {H K : Nat → Nat → Int32} (h : XA M x D B L e u H) (d : ag9 E D) (hh : ∀ k, k < 8 → ag9 (K k) (H k)) : XA M x E B L e u K := by
  obtain ⟨h1, h2, h3, h4, h5, h6, h7, h8⟩ := h
  exact ⟨h1, h2.ag d, h3, h4.ag hh, h5, h6, h7, h8⟩
theorem XS.mk {M N : Mm} {x m : Nat} {D B : Nat → Int32} {L e u : Int32} {H : Nat → Nat → Int32} (h : XA M x D B L e u H) (hx : x + 358 ≤ m) (hL : LM M m) (g : Fm N M m) (d : ag9 (gI N (m + 2)) D) (b : gI N (m + 1) = B) (l : gI N m 2 = L) (e7 : gI N m 7 = e) (e12 : gI N m 12 = u) (hh : ∀ k, k < 8 → ag9 (gI N (m + 6 + k)) (H k)) : XS N x m := by
  refine ⟨hx, hL.kp g.1 g.2.1, ?_⟩
  rw [b, l, e7, e12]
  exact (h.m g hx).ag d hh
theorem ag9.r (D : Nat → Int32) : ag9 D D := fun _ _ => rfl
/-- the reference's own part is as before -/
theorem XS.mo {M N N2 : Mm} {x m : Nat} (h : XS M x m) (hx : Fx N M x) (hA : XA N x (gI M (m + 2)) (gI M (m + 1)) (gI M m 2) (gI M m 7) (gI M m 12) (fun k => gI M (m + 6 + k))) (g : Fm N2 N m) (o2 : gI N2 m 2 = gI N m 2) (o7 : gI N2 m 7 = gI N m 7) (o12 : gI N2 m 12 = gI N m 12) (r1 : gI N2 (m + 1) = gI N (m + 1)) (r2 : gI N2 (m + 2) = gI N (m + 2)) (rr : ∀ k, k < 8 → gI N2 (m + 6 + k) = gI N (m + 6 + k)) : XS N2 x m := by
  have e : ∀ q, m ≤ q → gI N q = gI M q := fun q hq => (hx.2.2 q (by have := h.1; omega)).1
  refine XS.mk hA h.1 (h.2.1.kp hx.1 hx.2.1) g ?_ ?_ ?_ ?_ ?_ (fun k hk => ?_)
  · rw [r2, e _ (by omega)]; exact ag9.r _
  · rw [r1, e _ (by omega)]
  · rw [o2, e _ (by omega)]
  · rw [o7, e _ (by omega)]
  · rw [o12, e _ (by omega)]
  · rw [rr k hk, e _ (by omega)]; exact ag9.r _
