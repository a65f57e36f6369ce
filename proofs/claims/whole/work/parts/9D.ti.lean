/-! ===== factors, terms, sums, read by both ===== -/
theorem opL_e {r : Nat} {a b ca cb : Int32} {g : Mm → Mm} {Q : Mm} (h : ¬ gI Q r 3 = 0) : ∀ q, opL r a b ca cb g q Q = Q
  | 0 => rfl
  | _ + 1 => if_neg (fun z => h z.1)
theorem xe_opL {r : Nat} {a b ca cb : Int32} {g : Mm → Mm} (q : Nat) (Q : Mm) : xe (opL r a b ca cb g q Q) Q r := fun h => by
  rw [opL_e h]
  exact ⟨rfl, rfl⟩
theorem me_opZ {m : Nat} {a b ca cb : Int32} {f : Mm → Mm} (q : Nat) (N : Mm) : me (opZ m a b ca cb f q N) N m := fun h => by
  rw [op_0 h]
  exact ⟨rfl, rfl⟩
theorem xe_te {r : Nat} {g : Mm → Mm} (h : XE r g) : XE r (teM r g) := fun P => (xe_opL _ _).t (h P)
theorem xe_sm {r : Nat} {g : Mm → Mm} (h : XE r g) : XE r (smM r g) := fun P => (xe_opL _ _).t (xe_te h P)
theorem me_te {m : Nat} {f : Mm → Mm} (h : ME m f) : ME m (teZ m f) := fun N => (me_opZ _ _).t (h N)
theorem me_sm {m : Nat} {f : Mm → Mm} (h : ME m f) : ME m (smZ m f) := fun N => (me_opZ _ _).t (me_te h N)
theorem xe_fc {r : Nat} {last : Bool} {g : Mm → Mm} (h : XE r g) : XE r (facM r last g) := fun P => by
  unfold facM
  split
  · split
    · exact xe_fl _ _ _
    · exact (xe_sk _ _ _).t ((h _).t (xe_nx _ _))
  · split
    · exact (xe_nx _ _).t (xe_ad _ _ _)
    · split
      · exact (xe_nx _ _).t (xe_ad _ _ _)
      · split
        · exact (xe_nx _ _).t (xe_ad _ _ _)
        · exact (xe_ad _ _ _).t (xe_rn _ _ _ _)
theorem xe_fa (r : Nat) : ∀ k, XE r (faN r k)
  | 0 => xe_fc (fun _ => xe.r _ _)
  | k + 1 => xe_fc (xe_sm (xe_fa r k))
theorem me_fc {m : Nat} (f : Mm → Mm) : ME m (fcN m f) := fun N h => by
  unfold fcN
  rw [if_pos h]
  exact ⟨rfl, rfl⟩
theorem me_fa (m : Nat) : ∀ k, ME m (facK m k)
  | 0 => fun _ => me.r _ _
  | _ + 1 => me_fc _
theorem sf_te {r m h ne : Nat} {g f : Mm → Mm} (hg : XE r g) (hf : ME m f) (hS : SF r m (h + 1) ne g f) (rzf : gdz m f) : SF r m h ne (teM r g) (teZ m f) := by
  intro P N l a c hT hQ hh ha hl hn
  rcases hS P N l a c hT hQ hh (by omega) hl hn with ⟨i1, ⟨l', i2, i3, i4⟩, i5, i6⟩ | e
  · rcases sf_op (a := 42) (b := 47) (ca := -6) (cb := -7) (oa := 4) (ob := 5) (by decide) (by decide) (by decide) (by decide) (by decide) (by decide) (by decide) hg hf hS rzf 900 (g P) (f N) l' a c i1 i2 i3 ha i4 i6 with ⟨j1, j2, j3, j4⟩ | e
    · exact Or.inl ⟨j1, j2, fun q a1 a2 a3 => (j3 q a1 a2 a3).trans (i5 q a1 a2 a3), j4⟩
    · exact Or.inr e
  · exact Or.inr (e.k (xe_opL _ _) (me_opZ _ _))
theorem sf_sm {r m h ne : Nat} {g f : Mm → Mm} (hg : XE r g) (hf : ME m f) (hS : SF r m (h + 2) ne g f) (rzf : gdz m f) : SF r m h ne (smM r g) (smZ m f) := by
  have hS2 := sf_te (h := h + 1) hg hf hS rzf
  intro P N l a c hT hQ hh ha hl hn
  rcases hS2 P N l a c hT hQ hh (by omega) hl hn with ⟨i1, ⟨l', i2, i3, i4⟩, i5, i6⟩ | e
  · rcases sf_op (a := 43) (b := 45) (ca := -4) (cb := -5) (oa := 2) (ob := 3) (by decide) (by decide) (by decide) (by decide) (by decide) (by decide) (by decide) (xe_te hg) (me_te hf) hS2 (gdz_te rzf) 900 (teM r g P) (teZ m f N) l' a c i1 i2 i3 ha i4 i6 with ⟨j1, j2, j3, j4⟩ | e
    · exact Or.inl ⟨j1, j2, fun q a1 a2 a3 => (j3 q a1 a2 a3).trans (i5 q a1 a2 a3), j4⟩
    · exact Or.inr e
  · exact Or.inr (e.k (xe_opL _ _) (me_opZ _ _))
/-! == operands == -/
theorem fem_5 (m : Nat) (N : Mm) (c v : Int32) : gI (fem m N c v) m = gI N m := by
  unfold fem
  rw [em_5, em_5]
theorem fem_1 (m : Nat) (N : Mm) (c v : Int32) : gI (fem m N c v) (m + 1) = gI N (m + 1) := by
  unfold fem
  rw [em_1, em_1]
theorem fe_fem {N : Mm} {m : Nat} {e : List Int32} {c v : Int32} (h : FE (gI N (m + 3)) e) (h5 : gI N m 5 = 0) (he : e.length < 2 ^ 29) : FE (gI (fem m N c v) (m + 3)) (e ++ [c, v]) := by
  have h1 := fe_em (v := c) h h5 (by omega)
  have h2 := fe_em (v := v) h1 (by rw [em_5]; exact h5) (by rw [List.length_append]; show e.length + 1 < _; omega)
  rw [List.append_assoc] at h2
  exact h2
theorem nx_ad (P : Mm) (r : Nat) (c : Int32) : gI (nxM (adM P (r + 30) c) (r + 1)) (r + 1) = gI (nxM P (r + 1)) (r + 1) := by
  have e1 : gI (adM P (r + 30) c) (r + 1) = gI P (r + 1) := gI_ad _ _ (by omega) (by omega)
  have e2 : gI (adM P (r + 30) c) (r + 1 + 1) = gI P (r + 1 + 1) := gI_ad _ _ (by omega) (by omega)
  unfold nxM nxE nxS
  rw [gI_s, gI_s, e1, e2]
/-- an operand that is there -/
theorem lf_e {P Q N N1 : Mm} {r m a c e ne : Nat} {l : List Tk} {t : Tk} (hQ : FQ P (r + 30) (gI N (m + 3)) l) (hh : hgt l 0 a) (ha : a ≤ 10) (hl : l.length + c ≤ mPo N m) (ht : tok1 t) (ht1 : t.1 ≤ 1) (hT1 : TY (nxM P (r + 1)) r N1 m) (n3 : gI N1 (m + 3) = gI N (m + 3)) (hp : mPo N m + e ≤ mPo N1 m ∧ mPo N1 m ≤ 900) (he : 1 ≤ e) (hn : gI N1 m 14 = nI ne)
    (q0 : gI Q r = gI P r) (q1 : gI Q (r + 1) = gI (nxM P (r + 1)) (r + 1)) (qa : gI Q (r + 30) = gI (adM P (r + 30) (xc t)) (r + 30)) (qb : gI Q (r + 31) = gI (adM P (r + 30) (xc t)) (r + 31)) (qo : ∀ q, q ≠ r + 1 → q ≠ r + 30 → q ≠ r + 31 → gI Q q = gI P q) :
    TY Q r (fem m N1 t.1 t.2) m ∧ (∃ l', FQ Q (r + 30) (gI (fem m N1 t.1 t.2) (m + 3)) l' ∧ hgt l' 0 (a + 1) ∧ l'.length + c ≤ mPo (fem m N1 t.1 t.2) m) ∧ (∀ q, q ≠ r + 1 → q ≠ r + 30 → q ≠ r + 31 → gI Q q = gI P q) ∧ gI (fem m N1 t.1 t.2) m 14 = nI ne := by
  have n5 := hT1.z.2
  have le := enc_l l
  have mp : mPo (fem m N1 t.1 t.2) m = mPo N1 m := by unfold mPo; rw [fem_5]
  refine ⟨(hT1.cP (by rw [q0, gI_nx _ (by omega)]) q1 (by rw [qo _ (by omega) (by omega) (by omega), gI_nx _ (by omega)])).cN (by rw [fem_5]) (by rw [fem_5]) (by rw [fem_5]) (fem_1 _ _ _ _), ⟨l ++ [t], ?_, hgt_p hh ht1 (by omega), by rw [mp, List.length_append]; show l.length + 1 + c ≤ _; omega⟩, qo, by rw [fem_5]; exact hn⟩
  have f1 : FQ (adM P (r + 30) (xc t)) (r + 30) (gI (fem m N1 t.1 t.2) (m + 3)) (l ++ [t]) := by
    refine fq_a1 hQ (by omega) ht ?_
    have : encT t = [t.1, t.2] := if_pos ht1
    rw [this]
    refine fe_fem ?_ n5 (by omega)
    rw [n3]
    exact hQ.fe
  exact f1.c qa qb
theorem tw_po {P N : Mm} {r m w k : Nat} (hT : TY P r N m) (hw : w < 10) (h7 : gI N (m + 3) 7 = nI k) (h1 : ¬ (twN N m w).1 = 0) : mPo N m + 1 ≤ mPo (twN N m w).2 m ∧ mPo (twN N m w).2 m ≤ 900 := by
  have := po_rz ((rz_tw N m hw).2 h1) hT h7
  omega
theorem tw_14 (N : Mm) (m w : Nat) (hw : w < 10) : gI (twN N m w).2 m 14 = gI N m 14 := (rz_tw N m hw).1.2.2.2.1 14 (by decide) (by decide) (by decide) (by decide)
/-- a word as an operand -/
theorem lf_w {P N : Mm} {r m w a c ne : Nat} {l : List Tk} {t : Tk} (hT : TY P r N m) (hw : w < 10) (h1 : (twN N m w).1 = 1) (hT1 : TY (nxM P (r + 1)) r (twN N m w).2 m) (hQ : FQ P (r + 30) (gI N (m + 3)) l) (hh : hgt l 0 a) (ha : a ≤ 10) (hl : l.length + c ≤ mPo N m) (hn : gI N m 14 = nI ne) (ht : tok1 t) (ht1 : t.1 ≤ 1) :
    TY (nxM (adM P (r + 30) (xc t)) (r + 1)) r (fem m (twN N m w).2 t.1 t.2) m ∧ (∃ l', FQ (nxM (adM P (r + 30) (xc t)) (r + 1)) (r + 30) (gI (fem m (twN N m w).2 t.1 t.2) (m + 3)) l' ∧ hgt l' 0 (a + 1) ∧ l'.length + c ≤ mPo (fem m (twN N m w).2 t.1 t.2) m) ∧ (∀ q, q ≠ r + 1 → q ≠ r + 30 → q ≠ r + 31 → gI (nxM (adM P (r + 30) (xc t)) (r + 1)) q = gI P q) ∧ gI (fem m (twN N m w).2 t.1 t.2) m 14 = nI ne := by
  refine lf_e (e := 1) hQ hh ha hl ht ht1 hT1 (tw_d _ _ _) (tw_po hT hw hQ.2.2.1 (by rw [h1]; decide)) (Nat.le_refl 1) (by rw [tw_14 _ _ _ hw]; exact hn) ?_ (nx_ad _ _ _) (gI_nx _ (by omega)) (gI_nx _ (by omega)) (fun q a1 a2 a3 => by rw [gI_nx _ a1, gI_ad _ _ a2 a3])
  rw [gI_nx _ (by omega), gI_ad _ _ (by omega) (by omega)]
/-- a number as an operand -/
theorem lf_n {P N : Mm} {r m a c ne : Nat} {l : List Tk} (hT : TY P r N m) (hQ : FQ P (r + 30) (gI N (m + 3)) l) (hh : hgt l 0 a) (ha : a ≤ 10) (hl : l.length + c ≤ mPo N m) (hn : gI N m 14 = nI ne) :
    (TY (adM (rnM P r 0 9999).2 (r + 30) (rnM P r 0 9999).1) r (fem m (nuN N m 0 9999).2 0 (nuN N m 0 9999).1) m ∧ (∃ l', FQ (adM (rnM P r 0 9999).2 (r + 30) (rnM P r 0 9999).1) (r + 30) (gI (fem m (nuN N m 0 9999).2 0 (nuN N m 0 9999).1) (m + 3)) l' ∧ hgt l' 0 (a + 1) ∧ l'.length + c ≤ mPo (fem m (nuN N m 0 9999).2 0 (nuN N m 0 9999).1) m) ∧ (∀ q, q ≠ r + 1 → q ≠ r + 30 → q ≠ r + 31 → gI (adM (rnM P r 0 9999).2 (r + 30) (rnM P r 0 9999).1) q = gI P q) ∧ gI (fem m (nuN N m 0 9999).2 0 (nuN N m 0 9999).1) m 14 = nI ne) ∨
    ER (adM (rnM P r 0 9999).2 (r + 30) (rnM P r 0 9999).1) r (fem m (nuN N m 0 9999).2 0 (nuN N m 0 9999).1) m := by
  rcases ty_nu hT 0 9999 with ⟨k, k1, k2, k3, k4, k5, k6, k7⟩ | e
  · left
    have p1 := po_rz (rz_nu3 hT.z.2 k7.z.2) hT hQ.2.2.1
    obtain ⟨x1, x2, x3, x4⟩ := rg (lo := 0) (hi := 9999) k2 k3 k1 (by decide) (by decide)
    have ad1 : ∀ c, gI (adM (nxM P (r + 1)) (r + 30) c) (r + 30) = gI (adM P (r + 30) c) (r + 30) ∧ gI (adM (nxM P (r + 1)) (r + 30) c) (r + 31) = gI (adM P (r + 30) c) (r + 31) := by
      intro c
      unfold adM
      rw [gI_nx _ (show r + 30 ≠ r + 1 by omega), gI_nx _ (show r + 30 + 1 ≠ r + 1 by omega)]
      split
      · refine ⟨by rw [gI_s, gI_s], ?_⟩
        rw [gI_f _ _ (show r + 31 ≠ r + 30 by omega), gI_f _ _ (show r + 31 ≠ r + 30 by omega), show r + 30 + 1 = r + 31 from rfl, gI_s, gI_s]
      · exact ⟨gI_nx _ (by omega), gI_nx _ (by omega)⟩
    have hx : xc ((0 : Int32), nI k) = nI k := xc_0 _
    have := lf_e (t := (0, nI k)) (Q := adM (nxM P (r + 1)) (r + 30) (nI k)) (e := 1) (ne := ne) hQ hh ha hl (Or.inl ⟨rfl, x1, x3, x4⟩) (by show (0 : Int32) ≤ 1; decide) k7 (nu_d _ _ _ _) (by omega) (Nat.le_refl 1) ?_ ?_ (gI_ad _ _ (by omega) (by omega)) (by rw [hx]; exact (ad1 _).1) (by rw [hx]; exact (ad1 _).2) (fun q a1 a2 a3 => by rw [gI_ad _ _ a2 a3, gI_nx _ a1])
    · rw [k4, k5]
      exact this
    · rw [(rz_nu N m 0 9999).2.2.2.1 14 (by decide) (by decide) (by decide) (by decide)]
      exact hn
    · rw [gI_ad _ _ (by omega) (by omega), gI_nx _ (by omega)]
  · exact Or.inr (e.k (xe_ad _ _ _) ((me_em _ _ _).t (me_em _ _ _)))
/-! == a factor == -/
theorem fc_o {N : Mm} {m : Nat} (f : Mm → Mm) (h : gI N m 5 = 0) : (nxc N m = 40 → fcN m f N = fp5 m f N) ∧ (¬ nxc N m = 40 → inI (nxc N m) 48 57 → fcN m f N = fem m (nuN (nxN N m) m 0 9999).2 0 (nuN (nxN N m) m 0 9999).1) ∧ (¬ nxc N m = 40 → ¬ inI (nxc N m) 48 57 → fcN m f N = fcW m (nxN N m)) := by
  unfold fcN
  rw [if_neg (fun z => z h)]
  exact ⟨fun a => if_pos a, fun a b => (if_neg a).trans (if_pos b), fun a b => (if_neg a).trans (if_neg b)⟩
/-- a factor that is no sum in parentheses -/
theorem sf_lf {P N : Mm} {r m a c ne : Nat} {l : List Tk} (last : Bool) (g f : Mm → Mm) (hT : TY P r N m) (hQ : FQ P (r + 30) (gI N (m + 3)) l) (hh : hgt l 0 a) (ha : a ≤ 10) (hl : l.length + c ≤ mPo N m) (hn : gI N m 14 = nI ne) (h40 : ¬ nxc N m = 40) :
    (TY (facM r last g P) r (fcN m f N) m ∧ (∃ l', FQ (facM r last g P) (r + 30) (gI (fcN m f N) (m + 3)) l' ∧ hgt l' 0 (a + 1) ∧ l'.length + c ≤ mPo (fcN m f N) m) ∧ (∀ q, q ≠ r + 1 → q ≠ r + 30 → q ≠ r + 31 → gI (facM r last g P) q = gI P q) ∧ gI (fcN m f N) m 14 = nI ne) ∨ ER (facM r last g P) r (fcN m f N) m := by
  obtain ⟨p0, n0⟩ := hT.z
  obtain ⟨sg, -⟩ := ty_sg hT (c := 40) (by decide)
  obtain ⟨di, -⟩ := ty_di hT
  obtain ⟨o1, o2, o3⟩ := fc_o (N := N) (m := m) f n0
  have hT0 := hT.nx
  have d0 : gI (nxN N m) (m + 3) = gI N (m + 3) := nx_e.2.2.1
  have pr := po_rz (rz_nx N m) hT hQ.2.2.1
  have hQ0 : FQ P (r + 30) (gI (nxN N m) (m + 3)) l := by rw [d0]; exact hQ
  have hl0 : l.length + c ≤ mPo (nxN N m) m := by omega
  have hn0 : gI (nxN N m) m 14 = nI ne := by unfold nxN; rw [ps_n _ _ _ (by decide)]; exact hn
  unfold facM
  rw [if_neg (fun z => h40 (sg.mp z))]
  by_cases hd : inI (nxc N m) 48 57
  · have k2 : gI P (r + 1) 2 = -2 := di.mpr hd
    have iw : ∀ w, iwI P (r + 1) w = 0 := fun w => if_pos (Or.inl (by rw [k2]; decide))
    rw [o2 h40 hd, iw, iw, iw, if_neg (fun z => z rfl), if_neg (fun z => z rfl), if_neg (fun z => z rfl)]
    exact lf_n hT0 hQ0 hh ha hl0 hn0
  · rw [o3 h40 hd]
    unfold fcW
    rcases ty_tw hT0 (w := 8) (by decide) with ⟨a1, a2, a3⟩ | ⟨a1, a2, a3⟩
    · rw [if_neg (show ¬ ¬ iwI P (r + 1) 8 = 0 from fun z => z a1), if_neg (show ¬ ¬ (twN (nxN N m) m 8).1 = 0 from fun z => z a2)]
      have hQ1 : FQ P (r + 30) (gI (twN (nxN N m) m 8).2 (m + 3)) l := by rw [tw_d]; exact hQ0
      have pr1 := po_rz (rz_tw (nxN N m) m (w := 8) (by decide)).1 hT0 hQ0.2.2.1
      have hn1 : gI (twN (nxN N m) m 8).2 m 14 = nI ne := by rw [tw_14 _ _ _ (by decide)]; exact hn0
      rcases ty_tw a3 (w := 9) (by decide) with ⟨b1, b2, b3⟩ | ⟨b1, b2, b3⟩
      · rw [if_neg (show ¬ ¬ iwI P (r + 1) 9 = 0 from fun z => z b1), if_neg (show ¬ ¬ (twN (twN (nxN N m) m 8).2 m 9).1 = 0 from fun z => z b2)]
        have hQ2 : FQ P (r + 30) (gI (twN (twN (nxN N m) m 8).2 m 9).2 (m + 3)) l := by rw [tw_d]; exact hQ1
        have pr2 := po_rz (rz_tw (twN (nxN N m) m 8).2 m (w := 9) (by decide)).1 a3 hQ1.2.2.1
        have hn2 : gI (twN (twN (nxN N m) m 8).2 m 9).2 m 14 = nI ne := by rw [tw_14 _ _ _ (by decide)]; exact hn1
        rcases ty_tw b3 (w := 5) (by decide) with ⟨c1, c2, c3⟩ | ⟨c1, c2, c3⟩
        · rw [if_neg (show ¬ ¬ iwI P (r + 1) 5 = 0 from fun z => z c1), if_neg (show ¬ ¬ (twN (twN (twN (nxN N m) m 8).2 m 9).2 m 5).1 = 0 from fun z => z c2)]
          have hQ3 : FQ P (r + 30) (gI (twN (twN (twN (nxN N m) m 8).2 m 9).2 m 5).2 (m + 3)) l := by rw [tw_d]; exact hQ2
          have pr3 := po_rz (rz_tw (twN (twN (nxN N m) m 8).2 m 9).2 m (w := 5) (by decide)).1 b3 hQ2.2.2.1
          exact lf_n c3 hQ3 hh ha (by omega) (by rw [tw_14 _ _ _ (by decide)]; exact hn2)
        · rw [if_pos c1, if_pos (show ¬ (twN (twN (twN (nxN N m) m 8).2 m 9).2 m 5).1 = 0 by rw [c2]; decide)]
          exact Or.inl (lf_w (t := (1, 2)) b3 (by decide) c2 c3 hQ2 hh ha (by omega) hn2 (Or.inr (Or.inl ⟨rfl, Or.inr (Or.inr rfl)⟩)) (by show (1 : Int32) ≤ 1; decide))
      · rw [if_pos b1, if_pos (show ¬ (twN (twN (nxN N m) m 8).2 m 9).1 = 0 by rw [b2]; decide)]
        exact Or.inl (lf_w (t := (1, 1)) a3 (by decide) b2 b3 hQ1 hh ha (by omega) hn1 (Or.inr (Or.inl ⟨rfl, Or.inr (Or.inl rfl)⟩)) (by show (1 : Int32) ≤ 1; decide))
    · rw [if_pos a1, if_pos (show ¬ (twN (nxN N m) m 8).1 = 0 by rw [a2]; decide)]
      exact Or.inl (lf_w (t := (1, 0)) hT0 (by decide) a2 a3 hQ0 hh ha hl0 hn0 (Or.inr (Or.inl ⟨rfl, Or.inl rfl⟩)) (by show (1 : Int32) ≤ 1; decide))
theorem me_p5 {N N3 : Mm} {m : Nat} {f : Mm → Mm} (hf : ME m f) (h : me N3 N m) : me (sI (xpN (f N3) m 41) m (upd (gI (xpN (f N3) m 41) m) 14 (gI (xpN (f N3) m 41) m 14 - 1))) N m :=
  (me.e (by rw [gI_s, upd_n _ _ (by decide)]) (by rw [gI_s, upd_n _ _ (by decide)])).t ((me_xp _ _ _).t ((hf _).t h))
/-- the innermost level: no parenthesis may open -/
theorem sf_f0 {r m : Nat} {f : Mm → Mm} (hf : ME m f) : SF r m 10 4 (facM r true id) (fcN m f) := by
  intro P N l a c hT hQ hh ha hl hn
  obtain ⟨p0, n0⟩ := hT.z
  by_cases h40 : nxc N m = 40
  · right
    obtain ⟨sg, -⟩ := ty_sg hT (c := 40) (by decide)
    rw [(fc_o f n0).1 h40]
    unfold facM
    rw [if_pos (sg.mpr h40), if_pos rfl]
    have e2 : fp2 N m = reN (nxN N m) m (-5) (nI (nxp N m)) := if_pos hn
    have e := er_fl (c := -5) hT (by decide) (hT.nx).z.2
    rw [← e2] at e
    refine e.k (xe.r _ _) ?_
    unfold fp5
    refine me_p5 hf ?_
    unfold fp3
    exact me.e (by rw [gI_s, upd_n _ _ (by decide), upd_n _ _ (by decide)]) (by rw [gI_s, upd_n _ _ (by decide), upd_n _ _ (by decide)])
  · exact sf_lf true id f hT hQ hh ha hl hn h40
theorem sf_fc {r m h ne : Nat} {g f : Mm → Mm} (hS : SF r m h (ne + 1) g f) (hg : XE r g) (hf : ME m f) (hne : ne < 4) (hh10 : h ≤ 10) : SF r m h ne (facM r false g) (fcN m f) := by
  intro P N l a c hT hQ hh ha hl hn
  obtain ⟨p0, n0⟩ := hT.z
  by_cases h40 : nxc N m = 40
  · obtain ⟨sg, st⟩ := ty_sg hT (c := 40) (by decide)
    rw [(fc_o f n0).1 h40]
    have eg : facM r false g P = skM (g (nxM P (r + 1))) r 41 := by
      unfold facM
      rw [if_pos (sg.mpr h40)]
      rfl
    rw [eg]
    have e2 : fp2 N m = nxN N m := if_neg (by rw [hn]; exact ne_12 (n := ne) (N := 4) hne (by decide))
    have g3 : gI (fp3 N m) m = upd (upd (gI (nxN N m) m) 4 (nI (nxp N m + 1))) 14 (nI (ne + 1)) := by
      unfold fp3
      rw [gI_s, e2, hn, show nI ne + 1 = nI (ne + 1) from nI_add _ 1]
    have g31 : gI (fp3 N m) (m + 1) = gI N (m + 1) := by
      unfold fp3
      rw [gI_f _ _ (by omega), e2]
      exact nx_e.2.1
    have g33 : gI (fp3 N m) (m + 3) = gI N (m + 3) := by
      unfold fp3
      rw [gI_f _ _ (by omega), e2]
      exact nx_e.2.2.1
    have gn : ∀ j, j ≠ 4 → gI (nxN N m) m j = gI N m j := fun j hj => ps_n _ _ _ hj
    have hT3 : TY (nxM P (r + 1)) r (fp3 N m) m := by
      refine (st h40).cN ?_ ?_ ?_ ?_
      · rw [g3, upd_n _ _ (by decide), upd_n _ _ (by decide), gn 3 (by decide), ps_n _ _ _ (by decide)]
      · rw [g3, upd_n _ _ (by decide), upd_s, ps_4]
      · rw [g3, upd_n _ _ (by decide), upd_n _ _ (by decide), gn 5 (by decide), ps_n _ _ _ (by decide)]
      · rw [g31, ps_1]
    have pr := po_rz (rz_c (M := N) (m := m) (by rw [h40]; decide)) hT hQ.2.2.1
    have m3 : mPo (fp3 N m) m = mPo (psM N m (nxp N m + 1)) m := by
      unfold mPo
      rw [g3, upd_n _ _ (by decide), upd_s, ps_4]
    unfold fp5
    rcases hS (nxM P (r + 1)) (fp3 N m) l a c hT3 (by rw [g33]; exact hQ.c (gI_nx _ (by omega)) (gI_nx _ (by omega))) hh ha (by omega) (by rw [g3, upd_s]) with ⟨i1, ⟨l', i2, i3, i4⟩, i5, i6⟩ | e
    · have own : ∀ j, j ≠ 14 → gI (sI (xpN (f (fp3 N m)) m 41) m (upd (gI (xpN (f (fp3 N m)) m 41) m) 14 (gI (xpN (f (fp3 N m)) m 41) m 14 - 1))) m j = gI (xpN (f (fp3 N m)) m 41) m j := fun j hj => by rw [gI_s, upd_n _ _ hj]
      have x14 : gI (xpN (f (fp3 N m)) m 41) m 14 = nI (ne + 1) := by
        rw [(rz_xp (f (fp3 N m)) m (c := 41) (by decide)).2.2.2.1 14 (by decide) (by decide) (by decide) (by decide)]
        exact i6
      rcases ty_sk i1 (c := 41) (by decide) with t | e
      · left
        have prx := po_rz (rz_xp (f (fp3 N m)) m (c := 41) (by decide)) i1 i2.2.2.1
        have fr : ∀ q, q ≠ r + 1 → q ≠ r → gI (skM (g (nxM P (r + 1))) r 41) q = gI (g (nxM P (r + 1))) q := fun q h1 h2 => by
          unfold skM
          split
          · exact gI_nx _ h1
          · exact gI_fl _ _ h2
        have fr0 : gI (skM (g (nxM P (r + 1))) r 41) r = gI (g (nxM P (r + 1))) r := by
          have t0 := t.z.1
          unfold skM at t0 ⊢
          split at t0
          · rename_i y
            rw [if_pos y]
            exact gI_nx _ (by omega)
          · exact absurd t0 (fl_ne (by decide) i1.z.1)
        refine ⟨t.cN (own 3 (by decide)) (own 4 (by decide)) (own 5 (by decide)) (gI_f _ _ (by omega)), ⟨l', ?_, i3, ?_⟩, fun q a1 a2 a3 => ?_, ?_⟩
        · rw [gI_f _ _ (by omega), xp_d]
          exact i2.c (fr _ (by omega) (by omega)) (fr _ (by omega) (by omega))
        · have : mPo (sI (xpN (f (fp3 N m)) m 41) m (upd (gI (xpN (f (fp3 N m)) m 41) m) 14 (gI (xpN (f (fp3 N m)) m 41) m 14 - 1))) m = mPo (xpN (f (fp3 N m)) m 41) m := by
            unfold mPo
            rw [own 4 (by decide)]
          omega
        · by_cases e : q = r
          · rw [e, fr0, i5 r (by omega) (by omega) (by omega), gI_nx _ (by omega)]
          · rw [fr q a1 e, i5 q a1 a2 a3, gI_nx _ a1]
        · rw [gI_s, upd_s, x14]
          apply Int32.toInt_inj.mp
          rw [t_sub (by rw [t_nI (by omega), show (1 : Int32).toInt = 1 from rfl]; omega) (by rw [t_nI (by omega), show (1 : Int32).toInt = 1 from rfl]; omega), t_nI (by omega), t_nI (by omega), show (1 : Int32).toInt = 1 from rfl]
          omega
      · right
        exact e.k (xe.r _ _) (me.e (own 5 (by decide)) (own 6 (by decide)))
    · right
      exact (e.k (xe_sk _ _ _) (me_p5 (f := id) (fun _ => me.r _ _) (me.r _ _)))
  · exact sf_lf false g f hT hQ hh (by omega) hl hn h40
theorem sf_all (r m : Nat) : ∀ k, k ≤ 4 → SF r m (10 - 2 * k) (4 - k) (faN r k) (facK m (k + 1))
  | 0, _ => sf_f0 (me_sm (me_fa m 0))
  | k + 1, hk => by
    have ih := sf_all r m k (by omega)
    have e : 10 - 2 * k = 10 - 2 * (k + 1) + 2 := by omega
    rw [e] at ih
    have s := sf_sm (xe_fa r k) (me_fa m (k + 1)) ih (gdz_fa m (k + 1))
    have e2 : 4 - k = 4 - (k + 1) + 1 := by omega
    rw [e2] at s
    exact sf_fc s (xe_sm (xe_fa r k)) (me_sm (me_fa m (k + 1))) (by omega) (by omega)
