/-! ===== without a mistake nothing is said about a place ===== -/
def x0 (P' P : Mm) (r : Nat) : Prop := gI P' r 3 = 0 → gI P r 3 = 0 ∧ gI P' r 2 = gI P r 2
def m0 (N' N : Mm) (m : Nat) : Prop := gI N' m 5 = 0 → gI N m 5 = 0 ∧ gI N' m 6 = gI N m 6
theorem x0.r (P : Mm) (r : Nat) : x0 P P r := fun h => ⟨h, rfl⟩
theorem m0.r (P : Mm) (r : Nat) : m0 P P r := fun h => ⟨h, rfl⟩
theorem x0.t {A B C : Mm} {r : Nat} (h : x0 A B r) (g : x0 B C r) : x0 A C r := fun e => by
  obtain ⟨h1, h2⟩ := h e
  obtain ⟨g1, g2⟩ := g h1
  exact ⟨g1, h2.trans g2⟩
theorem m0.t {A B C : Mm} {r : Nat} (h : m0 A B r) (g : m0 B C r) : m0 A C r := fun e => by
  obtain ⟨h1, h2⟩ := h e
  obtain ⟨g1, g2⟩ := g h1
  exact ⟨g1, h2.trans g2⟩
theorem x0.e {P' P : Mm} {r : Nat} (h : gI P' r = gI P r) : x0 P' P r := fun e => by rw [h] at e ⊢; exact ⟨e, rfl⟩
theorem m0.e {N' N : Mm} {m : Nat} (h5 : gI N' m 5 = gI N m 5) (h6 : gI N' m 6 = gI N m 6) : m0 N' N m := fun e => ⟨by rw [← h5]; exact e, h6⟩
theorem x0_fl (P : Mm) (r : Nat) {c : Int32} (hc : ¬ c = 0) : x0 (flM P r c) P r := fun e => by
  unfold flM at e ⊢
  split at e
  · rw [gI_s, upd_n _ _ (by decide), upd_s] at e
    exact absurd e hc
  · rename_i h
    exact absurd e h
theorem m0_re (N : Mm) (m : Nat) {k : Int32} (o : Int32) (hk : ¬ k = 0) : m0 (reN N m k o) N m := fun e => by
  unfold reN at e ⊢
  split at e
  · rw [gI_s, upd_n _ _ (by decide), upd_s] at e
    exact absurd e hk
  · rename_i h
    exact absurd e h
section XZ
theorem x0_nx (P : Mm) (r : Nat) : x0 (nxM P (r + 1)) P r := x0.e (gI_nx _ (by omega))
theorem x0_i (P : Mm) {r a : Nat} (f : Nat → Int32) (h : a ≠ r) : x0 (sI P a f) P r := x0.e (gI_f _ _ (Ne.symm h))
theorem x0_ad (P : Mm) (r : Nat) (c : Int32) : x0 (adM P (r + 30) c) P r := x0.e (gI_ad _ _ (by omega) (by omega))
theorem x0_ag (P : Mm) (r : Nat) (v : Int32) : x0 (agM P (r + 28) v) P r := x0.e (gI_ag _ _ (by omega) (by omega))
theorem x0_sk (P : Mm) (r : Nat) (c : Int32) : x0 (skM P r c) P r := by
  unfold skM
  split
  · exact x0_nx P r
  · exact x0_fl P r (by decide)
theorem x0_rb (P : Mm) (r : Nat) (lo hi : Int32) : x0 (rbM P r lo hi) P r := by
  unfold rbM
  split
  · exact x0_fl P r (by decide)
  · split
    · exact x0_fl P r (by decide)
    · exact x0.r P r
theorem x0_rn (P : Mm) (r : Nat) (lo hi : Int32) : x0 (rnM P r lo hi).2 P r := by
  unfold rnM
  split
  · exact (x0_nx _ r).t (x0_rb P r lo hi)
  · exact x0_rb P r lo hi
theorem x0_pu {x : Int32 × Mm} {P : Mm} {r a : Nat} (h : x0 x.2 P r) (ha : a ≠ r) (k : Nat) : x0 (pu x a k) P r := (x0_i _ _ ha).t h
theorem x0_ro (P : Mm) (r w : Nat) (hi ms : Int32) : x0 (roM P r w hi ms).2 P r := by
  unfold roM
  split
  · exact x0.r P r
  · exact (x0_rn _ r _ _).t (x0_nx P r)
theorem x0_rp (P : Mm) (r : Nat) (c : Int32) : x0 (rpM P r c).2 P r := by
  unfold rpM
  refine (x0_ro _ r _ _ _).t ?_
  unfold rpA
  split
  · exact x0_fl P r (by decide)
  · exact x0.r P r
theorem x0_rt (P : Mm) (r : Nat) : x0 (rtM P r) P r := by
  unfold rtM
  split
  · exact (x0_i _ _ (by omega)).t ((x0_pu (x0_rn _ _ _ _) (by omega) _).t (x0_pu ((x0_rn _ _ _ _).t (x0_nx P r)) (by omega) _))
  · exact x0_fl P r (by decide)
theorem x0_rc (P : Mm) (r : Nat) : x0 (rcM P r) P r := by
  unfold rcM
  split
  · refine (x0_i _ _ (by omega)).t ((x0_pu (x0_ro _ _ _ _ _) (by omega) _).t ((x0_pu (x0_rn _ _ _ _) (by omega) _).t ((x0_pu (x0_rn _ _ _ _) (by omega) _).t ((x0_pu (x0_rn _ _ _ _) (by omega) _).t (x0_pu ?_ (by omega) _)))))
    split
    · exact x0_nx P r
    · exact (x0_rp _ _ _).t (x0_nx P r)
  · exact x0_fl P r (by decide)
theorem x0_rf (P : Mm) (r : Nat) : x0 (rfM P r) P r := by
  unfold rfM
  split
  · exact (x0_i _ _ (by omega)).t ((x0_pu (x0_ro _ _ _ _ _) (by omega) _).t ((x0_pu (x0_rn _ _ _ _) (by omega) _).t ((x0_pu (x0_rn _ _ _ _) (by omega) _).t ((x0_pu (x0_rn _ _ _ _) (by omega) _).t ((x0_pu (x0_rn _ _ _ _) (by omega) _).t ((x0_pu (x0_rn _ _ _ _) (by omega) _).t (x0_pu ((x0_rn _ _ _ _).t (x0_nx P r)) (by omega) _)))))))
  · exact x0_fl P r (by decide)
theorem x0_gS (P : Mm) (r : Nat) (c : Int32) : x0 (gdS P r c) P r := (x0_ag _ _ _).t (x0_rn _ _ _ _)
theorem x0_gF (k : Nat) (P : Mm) (r : Nat) (c : Int32) : x0 (gdF k P r c) P r := by
  unfold gdF
  split
  · exact x0_fl P r (by decide)
  · exact x0.r P r
theorem x0_gL (r : Nat) (c : Int32) : ∀ f k N, x0 (gdL r c f k N) N r
  | 0, _, _ => x0.r _ _
  | f + 1, k, N => by
    unfold gdL
    split
    · exact (x0_gL r c f _ _).t ((x0_gS _ _ _).t (x0_gF _ _ _ _))
    · exact x0.r _ _
theorem x0_gd (P : Mm) (r : Nat) : x0 (gdM P r) P r := (x0_gL r _ _ _ _).t ((x0_gS _ _ _).t (x0_nx P r))
def X0 (r : Nat) (g : Mm → Mm) : Prop := ∀ P, x0 (g P) P r
theorem x0_opL {r : Nat} {a b ca cb : Int32} {g : Mm → Mm} (hg : X0 r g) : ∀ q N, x0 (opL r a b ca cb g q N) N r
  | 0, _ => x0.r _ _
  | q + 1, N => by
    unfold opL
    split
    · exact (x0_opL hg q _).t ((x0_ad _ _ _).t ((hg _).t (x0_nx N r)))
    · exact x0.r _ _
theorem x0_te {r : Nat} {g : Mm → Mm} (h : X0 r g) : X0 r (teM r g) := fun P => (x0_opL h _ _).t (h P)
theorem x0_sm {r : Nat} {g : Mm → Mm} (h : X0 r g) : X0 r (smM r g) := fun P => (x0_opL (x0_te h) _ _).t (x0_te h P)
theorem x0_fc {r : Nat} {last : Bool} {g : Mm → Mm} (h : X0 r g) : X0 r (facM r last g) := fun P => by
  unfold facM
  split
  · split
    · exact x0_fl P r (by decide)
    · exact (x0_sk _ _ _).t ((h _).t (x0_nx P r))
  · split
    · exact (x0_nx _ _).t (x0_ad _ _ _)
    · split
      · exact (x0_nx _ _).t (x0_ad _ _ _)
      · split
        · exact (x0_nx _ _).t (x0_ad _ _ _)
        · exact (x0_ad _ _ _).t (x0_rn _ _ _ _)
theorem x0_fa (r : Nat) : ∀ k, X0 r (faN r k)
  | 0 => x0_fc (fun _ => x0.r _ _)
  | k + 1 => x0_fc (x0_sm (x0_fa r k))
theorem x0_ri (P : Mm) (r : Nat) : x0 (riM P r) P r := by
  unfold riM
  refine (x0_sm (x0_fa r 4) _).t ((x0_nx _ r).t ((x0_i _ _ (by omega)).t (fun e => ?_)))
  rw [gI_s, upd_n _ _ (by decide)] at e
  rw [gI_s, upd_n _ _ (by decide)]
  exact ⟨e, rfl⟩
theorem x0_rs (P : Mm) (r : Nat) : x0 (rsS P r) P r := by
  unfold rsS
  split
  · exact x0_rc P r
  · split
    · exact x0_rf P r
    · split
      · exact x0_rt P r
      · split
        · exact x0_gd P r
        · split
          · exact x0_ri P r
          · exact x0_fl P r (by decide)
theorem x0_rL (r : Nat) : ∀ z n P, x0 (rsL r z n P).2 P r
  | 0, _, _ => x0.r _ _
  | z + 1, n, P => by
    unfold rsL
    split
    · exact (x0_rL r z _ _).t ((x0_sk _ _ _).t (x0_rs P r))
    · exact x0.r _ _
end XZ
section MZ
theorem m0_ps (N : Mm) (m p : Nat) : m0 (psM N m p) N m := m0.e (ps_n _ _ _ (by decide)) (ps_n _ _ _ (by decide))
theorem m0_nx (N : Mm) (m : Nat) : m0 (nxN N m) N m := m0_ps N m _
theorem m0_i (N : Mm) {m a : Nat} (f : Nat → Int32) (h : a ≠ m) : m0 (sI N a f) N m := m0.e (by rw [gI_f _ _ (Ne.symm h)]) (by rw [gI_f _ _ (Ne.symm h)])
theorem m0_o (N : Mm) {m : Nat} {f : Nat → Int32} (h5 : f 5 = gI N m 5) (h6 : f 6 = gI N m 6) : m0 (sI N m f) N m := m0.e (by rw [gI_s]; exact h5) (by rw [gI_s]; exact h6)
theorem m0_n2 (N : Mm) (m : Nat) : m0 (nm2 N m) N m := by
  refine (m0_ps _ m _).t (m0_o N ?_ ?_)
  · rw [upd_n _ _ (by decide), upd_n _ _ (by decide)]
  · rw [upd_n _ _ (by decide), upd_n _ _ (by decide)]
theorem m0_nu (N : Mm) (m : Nat) (lo hi : Int32) : m0 (nuN N m lo hi).2 N m := by
  unfold nuN
  split
  · exact m0.r _ _
  · split
    · exact (m0_re _ _ _ (by decide)).t (m0_nx N m)
    · dsimp only
      split
      · exact m0_n2 N m
      · exact (m0_re _ _ _ (by decide)).t (m0_n2 N m)
theorem m0_tw (N : Mm) (m w : Nat) : m0 (twN N m w).2 N m := by
  unfold twN
  split
  · exact m0.r _ _
  · split
    · exact m0_nx N m
    · exact m0_ps N m _
theorem m0_xp (N : Mm) (m : Nat) (c : Int32) : m0 (xpN N m c) N m := by
  unfold xpN
  split
  · exact m0.r _ _
  · split
    · exact m0_ps N m _
    · exact (m0_re _ _ _ (by decide)).t (m0_nx N m)
theorem m0_em (N : Mm) (m : Nat) (v : Int32) : m0 (emN N m v) N m := by
  unfold emN
  split
  · exact m0.r _ _
  · exact m0_i N _ (by omega)
theorem m0_fm (m : Nat) (N : Mm) (c v : Int32) : m0 (fem m N c v) N m := (m0_em _ _ _).t (m0_em _ _ _)
theorem m0_fW (N : Mm) (m : Nat) : m0 (fcW m N) N m := by
  unfold fcW
  split
  · exact (m0_fm _ _ _ _).t (m0_tw N m _)
  · split
    · exact (m0_fm _ _ _ _).t ((m0_tw _ m _).t (m0_tw N m _))
    · split
      · exact (m0_fm _ _ _ _).t ((m0_tw _ m _).t ((m0_tw _ m _).t (m0_tw N m _)))
      · exact (m0_fm _ _ _ _).t ((m0_nu _ m _ _).t ((m0_tw _ m _).t ((m0_tw _ m _).t (m0_tw N m _))))
def M0 (m : Nat) (f : Mm → Mm) : Prop := ∀ N, m0 (f N) N m
theorem m0_f3 (N : Mm) (m : Nat) : m0 (fp3 N m) N m := by
  refine (m0_o _ ?_ ?_).t ?_
  · rw [upd_n _ _ (by decide), upd_n _ _ (by decide)]
  · rw [upd_n _ _ (by decide), upd_n _ _ (by decide)]
  · unfold fp2
    split
    · exact (m0_re _ _ _ (by decide)).t (m0_nx N m)
    · exact m0_nx N m
theorem m0_fc {m : Nat} {f : Mm → Mm} (h : M0 m f) : M0 m (fcN m f) := fun N => by
  unfold fcN
  split
  · exact m0.r _ _
  · split
    · refine (m0_o _ ?_ ?_).t ((m0_xp _ m _).t ((h _).t (m0_f3 N m)))
      · rw [upd_n _ _ (by decide)]
      · rw [upd_n _ _ (by decide)]
    · split
      · exact (m0_fm _ _ _ _).t ((m0_nu _ m _ _).t (m0_nx N m))
      · exact (m0_fW _ m).t (m0_nx N m)
theorem m0_op {m : Nat} {a b ca cb : Int32} {f : Mm → Mm} (h : M0 m f) : ∀ q N, m0 (opZ m a b ca cb f q N) N m
  | 0, N => by
    unfold opZ
    split
    · exact m0_nx N m
    · exact m0.r _ _
  | q + 1, N => by
    unfold opZ
    split
    · exact (m0_op h q _).t ((m0_em _ _ _).t ((h _).t (m0_ps N m _)))
    · split
      · exact m0_nx N m
      · exact m0.r _ _
theorem m0_te {m : Nat} {f : Mm → Mm} (h : M0 m f) : M0 m (teZ m f) := fun N => (m0_op h _ _).t (h N)
theorem m0_sm {m : Nat} {f : Mm → Mm} (h : M0 m f) : M0 m (smZ m f) := fun N => (m0_op (m0_te h) _ _).t (m0_te h N)
theorem m0_fa (m : Nat) : ∀ k, M0 m (facK m k)
  | 0 => fun _ => m0.r _ _
  | k + 1 => m0_fc (m0_sm (m0_fa m k))
theorem m0_pv (N : Mm) (m i : Nat) (v : Int32) : m0 (puV m N i v) N m := m0_i N _ (by omega)
theorem m0_pu {x : Int32 × Mm} {N : Mm} {m : Nat} (h : m0 x.2 N m) (i : Nat) : m0 (puN m x i) N m := (m0_i _ _ (by omega)).t h
theorem m0_up (N : Mm) (m i : Nat) : m0 (up1 m N i) N m := m0_i N _ (by omega)
theorem m0_s1 (N : Mm) (m : Nat) (c n s : Int32) : m0 (st1N N m c n s) N m := by
  unfold st1N
  split
  · exact m0_re _ _ _ (by decide)
  · exact m0.r _ _
theorem m0_s2 (N : Mm) (m i : Nat) (s : Int32) : m0 (st2N N m i s) N m := by
  unfold st2N
  split
  · exact m0_re _ _ _ (by decide)
  · exact m0.r _ _
theorem m0_mt (N : Mm) (m : Nat) (s : Int32) : m0 (mtM N m s) N m := by
  unfold mtM
  split
  · exact m0_s1 _ _ _ _ _
  · exact (m0_up _ m _).t ((m0_pu (m0_nu _ m _ _) _).t (m0_pu (m0_nu N m _ _) _))
theorem m0_xf (N : Mm) (m : Nat) : m0 (xfN N m) N m := by
  unfold xfN
  split
  · exact (m0_re _ _ _ (by decide)).t (m0_tw N m _)
  · exact m0_tw N m _
theorem m0_c2 (N : Mm) (m n : Nat) : m0 (mc2 N m n) N m := by
  unfold mc2
  split
  · exact m0_pv N m _ _
  · exact (m0_pu (m0_nu _ m _ _) _).t ((m0_xf _ m).t (m0_pv N m _ _))
theorem m0_c6 (N : Mm) (m n : Nat) : m0 (mc6 N m n) N m := by
  unfold mc6
  split
  · exact (m0_pv _ m _ _).t (m0_tw N m _)
  · exact (m0_pu (m0_nu _ m _ _) _).t (m0_tw N m _)
theorem m0_mc (N : Mm) (m : Nat) (s : Int32) : m0 (mcM N m s) N m := by
  unfold mcM
  split
  · exact m0_s1 _ _ _ _ _
  · exact (m0_up _ m _).t ((m0_c6 _ m _).t ((m0_pu (m0_nu _ m _ _) _).t ((m0_pu (m0_nu _ m _ _) _).t ((m0_pu (m0_nu _ m _ _) _).t (m0_c2 N m _)))))
theorem m0_g7 (N : Mm) (m n : Nat) : m0 (mg7 N m n) N m := by
  unfold mg7
  split
  · exact (m0_pv _ m _ _).t (m0_tw N m _)
  · exact (m0_pu (m0_nu _ m _ _) _).t (m0_tw N m _)
theorem m0_mg (N : Mm) (m : Nat) (s : Int32) : m0 (mgM N m s) N m := by
  unfold mgM
  split
  · exact m0_s1 _ _ _ _ _
  · exact (m0_up _ m _).t ((m0_g7 _ m _).t ((m0_pu (m0_nu _ m _ _) _).t ((m0_pu (m0_nu _ m _ _) _).t ((m0_pu (m0_nu _ m _ _) _).t ((m0_pu (m0_nu _ m _ _) _).t ((m0_pu (m0_nu _ m _ _) _).t (m0_pu (m0_nu N m _ _) _)))))))
theorem m0_g1 (N : Mm) (m : Nat) : m0 (ga1 N m) N m := by
  unfold ga1
  split
  · exact (m0_re _ _ _ (by decide)).t (m0_nu N m _ _)
  · exact m0_nu N m _ _
theorem m0_g2 (N : Mm) (m : Nat) : m0 (ga2 N m) N m := (m0_i _ _ (by omega)).t (m0_g1 N m)
theorem m0_gL (m : Nat) : ∀ q N, m0 (gaL m q N) N m
  | 0, N => m0_g1 N m
  | q + 1, N => by
    unfold gaL
    split
    · exact m0_g1 N m
    · split
      · exact (m0_gL m q _).t ((m0_nx _ m).t (m0_g2 N m))
      · exact (m0_nx _ m).t (m0_g2 N m)
theorem m0_gu (N : Mm) (m : Nat) (s : Int32) : m0 (guM N m s) N m := (m0_gL m _ _).t ((m0_pv _ m _ _).t (m0_s2 N m _ _))
theorem m0_rf (N : Mm) (m : Nat) (s : Int32) : m0 (rfI N m s) N m := (m0_sm (m0_fa m 5) _).t ((m0_pv _ m _ _).t (m0_s2 N m _ _))
theorem m0_w {N A B : Mm} {m w : Nat} (hA : m0 A (twN N m w).2 m) (hB : m0 B (twN N m w).2 m) : m0 (if (twN N m w).1 = 0 then A else B) N m := by
  split
  · exact hA.t (m0_tw N m w)
  · exact hB.t (m0_tw N m w)
theorem m0_w0 (N : Mm) (m : Nat) (s : Int32) : m0 (w0N N m s) N m :=
  m0_w (m0_w (m0_w (m0_w (m0_w (m0_re _ _ _ (by decide)) (m0_rf _ _ _)) (m0_gu _ _ _)) (m0_mt _ _ _)) (m0_mg _ _ _)) (m0_mc _ _ _)
theorem m0_sg (N : Mm) (m : Nat) : m0 (sgS N m) N m := by
  refine (m0_o _ ?_ ?_).t ((m0_xp _ m _).t ((m0_w0 _ m _).t (m0_nx N m)))
  · rw [upd_n _ _ (by decide)]
  · rw [upd_n _ _ (by decide)]
theorem m0_ld (m : Nat) : ∀ q N, m0 (ldL m q N) N m
  | 0, N => by
    unfold ldL
    split
    · exact m0_nx N m
    · exact m0.r _ _
  | q + 1, N => by
    unfold ldL
    split
    · exact (m0_ld m q _).t ((m0_sg _ m).t (m0_nx N m))
    · split
      · exact m0_nx N m
      · exact m0.r _ _
end MZ
