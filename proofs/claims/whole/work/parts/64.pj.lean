/-! ===== IrrigationTurnsModel: what a statement leaves alone ===== -/
/-- the draft's places below the codes, the count of codes aside -/
def DR (N M : Mm) (m : Nat) : Prop := ∀ j, j < 393 → j ≠ 7 → gI N (m + 3) j = gI M (m + 3) j
theorem DR.r (M : Mm) (m : Nat) : DR M M m := fun _ _ _ => rfl
theorem DR.t {A B C : Mm} {m : Nat} (h : DR A B m) (g : DR B C m) : DR A C m := fun j a b => (h j a b).trans (g j a b)
theorem DR.e {N M : Mm} {m : Nat} (h : gI N (m + 3) = gI M (m + 3)) : DR N M m := fun j _ _ => by rw [h]
theorem dr_em (N : Mm) (m : Nat) (v : Int32) : DR (emN N m v) N m := by
  intro j h1 h2
  unfold emN
  split
  · rfl
  · rw [gI_s, upd_n _ _ h2, upd_n _ _ (by omega)]
theorem dr_fem {m : Nat} {N M : Mm} (c v : Int32) (h : DR N M m) : DR (fem m N c v) M m := (dr_em _ _ _).t ((dr_em _ _ _).t h)
theorem dr_tw {N M : Mm} {m w : Nat} (h : DR N M m) : DR (twN N m w).2 M m := (DR.e (tw_d _ _ _)).t h
theorem dr_nu {N M : Mm} {m : Nat} (lo hi : Int32) (h : DR N M m) : DR (nuN N m lo hi).2 M m := (DR.e (nu_d _ _ _ _)).t h
theorem dr_nx {N M : Mm} {m : Nat} (h : DR N M m) : DR (nxN N m) M m := (DR.e nx_e.2.2.1).t h
theorem dr_re {N M : Mm} {m : Nat} (k o : Int32) (h : DR N M m) : DR (reN N m k o) M m := (DR.e (re_d _ _ _ _)).t h
theorem xp_d (M : Mm) (m : Nat) (c : Int32) : gI (xpN M m c) (m + 3) = gI M (m + 3) := by
  unfold xpN
  split
  · rfl
  · split
    · exact ps_3 _ _ _
    · rw [re_d]; exact nx_e.2.2.1
def gdD (m : Nat) (f : Mm → Mm) : Prop := ∀ M, DR (f M) M m
theorem dr_fw (m : Nat) (N : Mm) : DR (fcW m N) N m := by
  unfold fcW
  split
  · exact dr_fem _ _ (dr_tw (DR.r _ _))
  · split
    · exact dr_fem _ _ (dr_tw (dr_tw (DR.r _ _)))
    · split
      · exact dr_fem _ _ (dr_tw (dr_tw (dr_tw (DR.r _ _))))
      · exact dr_fem _ _ (dr_nu _ _ (dr_tw (dr_tw (dr_tw (DR.r _ _)))))
theorem dr_fp {m : Nat} {inner : Mm → Mm} (hi : gdD m inner) (M : Mm) : DR (fp5 m inner M) M m := by
  have e2 : gI (fp2 M m) (m + 3) = gI M (m + 3) := by
    unfold fp2
    split
    · rw [re_d]; exact ps_3 _ _ _
    · exact ps_3 _ _ _
  have e3 : gI (fp3 M m) (m + 3) = gI M (m + 3) := by
    unfold fp3
    rw [gI_f _ _ (by omega)]
    exact e2
  have e5 : gI (fp5 m inner M) (m + 3) = gI (inner (fp3 M m)) (m + 3) := by
    unfold fp5
    rw [gI_f _ _ (by omega), xp_d]
  exact (DR.e e5).t ((hi _).t (DR.e e3))
theorem gdD_fc {m : Nat} {inner : Mm → Mm} (hi : gdD m inner) : gdD m (fcN m inner) := by
  intro M
  unfold fcN
  split
  · exact DR.r _ _
  · split
    · exact dr_fp hi M
    · split
      · exact dr_fem _ _ (dr_nu _ _ (dr_nx (DR.r _ _)))
      · exact (dr_fw _ _).t (dr_nx (DR.r _ _))
theorem dr_op {m : Nat} {a b ca cb : Int32} {f : Mm → Mm} (hf : gdD m f) : ∀ r N, DR (opZ m a b ca cb f r N) N m
  | 0, N => by
    unfold opZ
    split
    · exact dr_nx (DR.r _ _)
    · exact DR.r _ _
  | r + 1, N => by
    unfold opZ
    split
    · exact (dr_op hf r _).t ((dr_em _ m _).t ((hf _).t (DR.e (ps_3 _ _ _))))
    · split
      · exact dr_nx (DR.r _ _)
      · exact DR.r _ _
theorem gdD_te {m : Nat} {f : Mm → Mm} (hf : gdD m f) : gdD m (teZ m f) := fun M => (dr_op hf _ _).t (hf M)
theorem gdD_sm {m : Nat} {f : Mm → Mm} (hf : gdD m f) : gdD m (smZ m f) := fun M => (dr_op (gdD_te hf) _ _).t (gdD_te hf M)
theorem gdD_fa (m : Nat) : ∀ k, gdD m (facK m k)
  | 0 => fun M => DR.r _ _
  | k + 1 => gdD_fc (gdD_sm (gdD_fa m k))
/-! == progress of the statements == -/
theorem rz_pv {M : Mm} {m i : Nat} (v : Int32) (hi : i ≠ 7) : RZ 0 0 (puV m M i v) M m :=
  ⟨kpI.i _ _ _, rfl, fun q _ h => gI_f _ _ h, fun j _ _ _ _ => by unfold puV; rw [gI_f _ _ (by omega)], fun L p k h1 h2 h3 h4 h5 => ⟨p, k, Nat.le_refl _, h2, Nat.le_refl _, by unfold puV; rw [gI_f _ _ (by omega)]; exact h4, by rw [pv_3, upd_n _ _ (Ne.symm hi)]; exact h5, by omega⟩⟩
theorem rz_pu {x : Int32 × Mm} {M : Mm} {m i a b : Nat} (h : RZ a b x.2 M m) (hi : i ≠ 7) : RZ a b (puN m x i) M m := ((rz_pv (M := x.2) x.1 hi).t h).w (by omega)
theorem rz_up {M : Mm} {m i : Nat} (hi : i ≠ 7) : RZ 0 0 (up1 m M i) M m := rz_pv _ hi
theorem rz_st (M : Mm) (m : Nat) (c n s : Int32) : RZ 0 0 (st1N M m c n s) M m := by
  unfold st1N
  split
  · exact rz_re _ _ _ _
  · exact RZ.r _ _
theorem rz_s2 (M : Mm) (m i : Nat) (s : Int32) : RZ 0 0 (st2N M m i s) M m := by
  unfold st2N
  split
  · exact rz_re _ _ _ _
  · exact RZ.r _ _
theorem rz_mt (M : Mm) (m : Nat) (s : Int32) : RZ 0 0 (mtM M m s) M m := by
  unfold mtM mt2
  split
  · exact rz_st _ _ _ _ _
  · exact (rz_up (by decide)).t (rz_pu ((rz_nu _ _ _ _).t (rz_pu (rz_nu _ _ _ _) (by omega))) (by omega))
theorem rz_xf (M : Mm) (m : Nat) : RZ 0 0 (xfN M m) M m := by
  unfold xfN
  split
  · exact (rz_re _ _ _ _).t (rz_tw M m (by decide)).1
  · exact (rz_tw M m (by decide)).1
theorem rz_mc (M : Mm) (m : Nat) (s : Int32) : RZ 0 0 (mcM M m s) M m := by
  unfold mcM
  split
  · exact rz_st _ _ _ _ _
  · generalize (gI M (m + 3) 0).toNatClampNeg = n
    have h2 : RZ 0 0 (mc2 M m n) M m := by
      unfold mc2
      split
      · exact rz_pv _ (by omega)
      · exact rz_pu ((rz_nu _ _ _ _).t ((rz_xf _ _).t (rz_pv _ (by omega)))) (by omega)
    have h3 : RZ 0 0 (mc3 (mc2 M m n) m n) M m := rz_pu ((rz_nu _ _ _ _).t h2) (by omega)
    have h4 : RZ 0 0 (mc4 (mc3 (mc2 M m n) m n) m n) M m := rz_pu ((rz_nu _ _ _ _).t h3) (by omega)
    have h5 : RZ 0 0 (mc5 (mc4 (mc3 (mc2 M m n) m n) m n) m n) M m := rz_pu ((rz_nu _ _ _ _).t h4) (by omega)
    have h6 : ∀ N, RZ 0 0 (mc6 N m n) N m := fun N => by
      unfold mc6
      split
      · exact (rz_pv _ (by omega)).t (rz_tw N m (by decide)).1
      · exact rz_pu ((rz_nu _ _ _ _).t (rz_tw N m (by decide)).1) (by omega)
    exact (rz_up (by decide)).t ((h6 _).t h5)
theorem rz_mg (M : Mm) (m : Nat) (s : Int32) : RZ 0 0 (mgM M m s) M m := by
  unfold mgM
  split
  · exact rz_st _ _ _ _ _
  · generalize (gI M (m + 3) 1).toNatClampNeg = n
    have h7 : ∀ N, RZ 0 0 (mg7 N m n) N m := fun N => by
      unfold mg7
      split
      · exact (rz_pv _ (by omega)).t (rz_tw N m (by decide)).1
      · exact rz_pu ((rz_nu _ _ _ _).t (rz_tw N m (by decide)).1) (by omega)
    have h1 : ∀ N, RZ 0 0 (mg1 N m n) N m := fun N => rz_pu (rz_nu _ _ _ _) (by omega)
    have h2 : ∀ N, RZ 0 0 (mg2 N m n) N m := fun N => rz_pu (rz_nu _ _ _ _) (by omega)
    have h3 : ∀ N, RZ 0 0 (mg3 N m n) N m := fun N => rz_pu (rz_nu _ _ _ _) (by omega)
    have h4 : ∀ N, RZ 0 0 (mg4 N m n) N m := fun N => rz_pu (rz_nu _ _ _ _) (by omega)
    have h5 : ∀ N, RZ 0 0 (mg5 N m n) N m := fun N => rz_pu (rz_nu _ _ _ _) (by omega)
    have h6 : ∀ N, RZ 0 0 (mg6 N m n) N m := fun N => rz_pu (rz_nu _ _ _ _) (by omega)
    exact (rz_up (by decide)).t ((h7 _).t ((h6 _).t ((h5 _).t ((h4 _).t ((h3 _).t ((h2 _).t (h1 _)))))))
theorem rz_a1 (N : Mm) (m : Nat) : RZ 0 0 (ga1 N m) N m := by
  unfold ga1
  split
  · exact (rz_re _ _ _ _).t (rz_nu _ _ _ _)
  · exact rz_nu _ _ _ _
theorem rz_a2 (N : Mm) (m : Nat) : RZ 0 0 (ga2 N m) N m := by
  unfold ga2
  have h := rz_a1 N m
  refine ⟨(kpI.i _ _ _).t h.1, h.2.1, fun q h1 h2 => (gI_f _ _ h2).trans (h.2.2.1 q h1 h2), fun j a b c d => by rw [gI_f _ _ (by omega)]; exact h.2.2.2.1 j a b c d, fun L p k h1 h2 h3 h4 h5 => ?_⟩
  obtain ⟨p1, k1, a1, a2, a3, a4, a5, a6⟩ := h.2.2.2.2 L p k h1 h2 h3 h4 h5
  rw [a1_d, h5] at a5
  exact ⟨p1, k1, a1, a2, a3, by rw [gI_f _ _ (by omega)]; exact a4, by rw [gI_s, upd_n _ _ (by decide), upd_n _ _ (by omega)]; exact h5.trans a5, a6⟩
theorem rz_aL (m : Nat) : ∀ r N, RZ 0 0 (gaL m r N) N m
  | 0, N => rz_a1 N m
  | r + 1, N => by
    unfold gaL
    split
    · exact rz_a1 N m
    · split
      · exact (rz_aL m r _).t ((rz_nx _ _).t (rz_a2 N m))
      · exact (rz_nx _ _).t (rz_a2 N m)
theorem rz_gu (M : Mm) (m : Nat) (s : Int32) : RZ 0 0 (guM M m s) M m := (rz_aL m _ _).t ((rz_pv _ (by decide)).t (rz_s2 _ _ _ _))
theorem rz_rf (M : Mm) (m : Nat) (s : Int32) : RZ 0 1 (rfI M m s) M m := (gdz_sm (gdz_fa m 5) _).t ((rz_pv _ (by decide)).t (rz_s2 _ _ _ _))
/-! == the counts of the draft == -/
def CN (M : Mm) (m : Nat) : Prop := cnt (gI M (m + 3) 0) 16 ∧ cnt (gI M (m + 3) 1) 12 ∧ cnt (gI M (m + 3) 2) 12 ∧ cnt (gI M (m + 3) 3) 10
/-- the draft's first places -/
def HD (N M : Mm) (m : Nat) : Prop := ∀ j, j < 13 → gI N (m + 3) j = gI M (m + 3) j
theorem HD.r (M : Mm) (m : Nat) : HD M M m := fun _ _ => rfl
theorem HD.e {N M : Mm} {m : Nat} (h : gI N (m + 3) = gI M (m + 3)) : HD N M m := fun j _ => by rw [h]
theorem HD.t {A B C : Mm} {m : Nat} (h : HD A B m) (g : HD B C m) : HD A C m := fun j a => (h j a).trans (g j a)
theorem hd_pv {N M : Mm} {m i : Nat} (v : Int32) (h : HD N M m) (hi : 13 ≤ i) : HD (puV m N i v) M m := fun j hj => by rw [pv_3, upd_n _ _ (by omega)]; exact h j hj
theorem hd_pu {N M : Mm} {m i : Nat} (lo hi : Int32) (h : HD N M m) (hi' : 13 ≤ i) : HD (puN m (nuN N m lo hi) i) M m := fun j hj => by rw [pu_d, nu_d, upd_n _ _ (by omega)]; exact h j hj
theorem hd_tw {N M : Mm} {m w : Nat} (h : HD N M m) : HD (twN N m w).2 M m := (HD.e (tw_d _ _ _)).t h
theorem st_d (M : Mm) (m : Nat) (c n s : Int32) : gI (st1N M m c n s) (m + 3) = gI M (m + 3) := by
  unfold st1N
  split
  · exact re_d _ _ _ _
  · rfl
theorem hd_c6 (N : Mm) (m n : Nat) : HD (mc6 N m n) N m := by
  unfold mc6
  split
  · exact hd_pv _ (hd_tw (HD.r _ _)) (by omega)
  · exact hd_pu _ _ (hd_tw (HD.r _ _)) (by omega)
theorem hd_c2 (N : Mm) (m n : Nat) : HD (mc2 N m n) N m := by
  unfold mc2
  split
  · exact hd_pv _ (HD.r _ _) (by omega)
  · exact hd_pu _ _ ((HD.e (xf_d _ _)).t (hd_pv _ (HD.r _ _) (by omega))) (by omega)
theorem hd_g7 (N : Mm) (m n : Nat) : HD (mg7 N m n) N m := by
  unfold mg7
  split
  · exact hd_pv _ (hd_tw (HD.r _ _)) (by omega)
  · exact hd_pu _ _ (hd_tw (HD.r _ _)) (by omega)
theorem hd_T (M : Mm) (m n : Nat) : HD (mc6 (mc5 (mc4 (mc3 (mc2 M m n) m n) m n) m n) m n) M m :=
  (hd_c6 _ _ _).t (hd_pu _ _ (hd_pu _ _ (hd_pu _ _ (hd_c2 M m n) (by omega)) (by omega)) (by omega))
theorem hd_G (M : Mm) (m n : Nat) : HD (mg7 (mg6 (mg5 (mg4 (mg3 (mg2 (mg1 M m n) m n) m n) m n) m n) m n) m n) M m :=
  (hd_g7 _ _ _).t (hd_pu _ _ (hd_pu _ _ (hd_pu _ _ (hd_pu _ _ (hd_pu _ _ (hd_pu _ _ (HD.r _ _) (by omega)) (by omega)) (by omega)) (by omega)) (by omega)) (by omega))
theorem hd_t2 (M : Mm) (m k : Nat) : HD (mt2 M m k) M m := hd_pu _ _ (hd_pu _ _ (HD.r _ _) (by omega)) (by omega)
theorem u1_s (m : Nat) (N : Mm) (i : Nat) : gI (up1 m N i) (m + 3) i = gI N (m + 3) i + 1 := by unfold up1; rw [gI_s, upd_s]
theorem u1_n (m : Nat) (N : Mm) {i j : Nat} (h : j ≠ i) : gI (up1 m N i) (m + 3) j = gI N (m + 3) j := by unfold up1; rw [gI_s, upd_n _ _ h]
theorem st_5 {M : Mm} {m : Nat} {i : Nat} {n s : Int32} {c : Int32} (hc : c.toNatClampNeg = i) (h : ¬ ¬ gI (st1N M m c n s) m 5 = 0) : ¬ gI M (m + 3) i = n := by
  unfold st1N at h
  rw [hc] at h
  intro g
  rw [if_pos g] at h
  exact h (re_5 (by decide))
theorem cnt_1 {x : Int32} {n : Nat} (hn : n < 2 ^ 30) (h : cnt x n) (hne : ¬ x = nI n) : cnt (x + 1) n := by
  obtain ⟨k, hk, ek⟩ := h
  subst ek
  rcases Nat.lt_or_ge k n with z | z
  · exact ⟨k + 1, z, nI_1 k⟩
  · exact absurd (by rw [show k = n by omega]) hne
theorem CN.mc {M : Mm} {m : Nat} (h : CN M m) (s : Int32) : CN (mcM M m s) m := by
  unfold mcM
  split
  · unfold CN; rw [st_d]; exact h
  · rename_i g
    have g2 := st_5 (i := 0) rfl g
    have hd := hd_T M m (gI M (m + 3) 0).toNatClampNeg
    unfold CN mcT
    rw [u1_s, u1_n _ _ (by decide), u1_n _ _ (by decide), u1_n _ _ (by decide), hd 0 (by decide), hd 1 (by decide), hd 2 (by decide), hd 3 (by decide)]
    exact ⟨cnt_1 (by decide) h.1 g2, h.2⟩
theorem CN.mg {M : Mm} {m : Nat} (h : CN M m) (s : Int32) : CN (mgM M m s) m := by
  unfold mgM
  split
  · unfold CN; rw [st_d]; exact h
  · rename_i g
    have g2 := st_5 (i := 1) rfl g
    have hd := hd_G M m (gI M (m + 3) 1).toNatClampNeg
    unfold CN mgT
    rw [u1_s, u1_n _ _ (by decide), u1_n _ _ (by decide), u1_n _ _ (by decide), hd 0 (by decide), hd 1 (by decide), hd 2 (by decide), hd 3 (by decide)]
    exact ⟨h.1, cnt_1 (by decide) h.2.1 g2, h.2.2⟩
theorem CN.mt {M : Mm} {m : Nat} (h : CN M m) (s : Int32) : CN (mtM M m s) m := by
  unfold mtM
  split
  · unfold CN; rw [st_d]; exact h
  · rename_i g
    have g2 := st_5 (i := 2) rfl g
    have hd := hd_t2 M m (gI M (m + 3) 2).toNatClampNeg
    unfold CN
    rw [u1_s, u1_n _ _ (by decide), u1_n _ _ (by decide), u1_n _ _ (by decide), hd 0 (by decide), hd 1 (by decide), hd 2 (by decide), hd 3 (by decide)]
    exact ⟨h.1, h.2.1, cnt_1 (by decide) h.2.2.1 g2, h.2.2.2⟩
theorem a2_d (N : Mm) (m : Nat) : (∀ j, j < 13 → j ≠ 3 → gI (ga2 N m) (m + 3) j = gI N (m + 3) j) ∧ gI (ga2 N m) (m + 3) 3 = gI N (m + 3) 3 + 1 := by
  unfold ga2
  refine ⟨fun j h1 h2 => ?_, ?_⟩
  · rw [gI_s, upd_n _ _ h2, upd_n _ _ (by omega)]
  · rw [gI_s, upd_s]
theorem aL_d (m : Nat) : ∀ r N, (∀ j, j < 13 → j ≠ 3 → gI (gaL m r N) (m + 3) j = gI N (m + 3) j) ∧ ∀ k, k + r ≤ 10 → gI N (m + 3) 3 = nI k → cnt (gI (gaL m r N) (m + 3) 3) 10
  | 0, N => by
    unfold gaL
    rw [a1_d]
    exact ⟨fun _ _ _ => rfl, fun k h e => ⟨k, h, e⟩⟩
  | r + 1, N => by
    have h2 := a2_d N m
    unfold gaL
    split
    · rw [a1_d]
      exact ⟨fun _ _ _ => rfl, fun k h e => ⟨k, by omega, e⟩⟩
    · split
      · have h3 := aL_d m r (nxN (ga2 N m) m)
        rw [nx_e.2.2.1] at h3
        exact ⟨fun j a b => (h3.1 j a b).trans (h2.1 j a b), fun k h e => h3.2 (k + 1) (by omega) (by rw [h2.2, e, nI_1])⟩
      · rw [nx_e.2.2.1]
        exact ⟨h2.1, fun k h e => ⟨k + 1, by omega, by rw [h2.2, e, nI_1]⟩⟩
theorem CN.gu {M : Mm} {m : Nat} (h : CN M m) (s : Int32) : CN (guM M m s) m := by
  obtain ⟨h0, h1, h2, k, hk, ek⟩ := h
  have a := aL_d m (10 - (gI M (m + 3) 3).toNatClampNeg) (puV m (st2N M m 12 s) 12 1)
  have e3 : ∀ j, j < 12 → gI (puV m (st2N M m 12 s) 12 1) (m + 3) j = gI M (m + 3) j := fun j hj => by rw [pv_3, upd_n _ _ (by omega), s2_d]
  unfold CN guM
  rw [a.1 0 (by decide) (by decide), a.1 1 (by decide) (by decide), a.1 2 (by decide) (by decide), e3 0 (by decide), e3 1 (by decide), e3 2 (by decide)]
  refine ⟨h0, h1, h2, a.2 k ?_ (by rw [e3 3 (by decide)]; exact ek)⟩
  rw [ek, nI_clamp (by omega)]
  omega
theorem rf_d (M : Mm) (m : Nat) (s : Int32) : ∀ j, j < 393 → j ≠ 7 → j ≠ 6 → gI (rfI M m s) (m + 3) j = gI M (m + 3) j := fun j h1 h2 h3 => by
  unfold rfI
  rw [gdD_sm (gdD_fa m 5) _ j h1 h2, pv_3, upd_n _ _ h3, s2_d]
theorem CN.rf {M : Mm} {m : Nat} (h : CN M m) (s : Int32) : CN (rfI M m s) m := by
  have d := rf_d M m s
  unfold CN
  rw [d 0 (by decide) (by decide) (by decide), d 1 (by decide) (by decide) (by decide), d 2 (by decide) (by decide) (by decide), d 3 (by decide) (by decide) (by decide)]
  exact h
theorem CN.e {N M : Mm} {m : Nat} (h : CN M m) (g : gI N (m + 3) = gI M (m + 3)) : CN N m := by unfold CN; rw [g]; exact h
