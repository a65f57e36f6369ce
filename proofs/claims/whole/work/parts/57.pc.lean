/-! ===== IrrigationTurnsModel: how a reading moves on ===== -/
/-- what a reading leaves alone; how far it goes, how many codes it lays: 2 codes at most for 3 bytes, up to a and b -/
def RZ (a b : Nat) (N M : Mm) (m : Nat) : Prop := kpI N M ∧ gJ N = gJ M ∧ (∀ q, q ≠ m → q ≠ m + 3 → gI N q = gI M q) ∧ (∀ j, j ≠ 4 → j ≠ 5 → j ≠ 6 → j ≠ 13 → gI N m j = gI M m j) ∧
  ∀ L p k, L ≤ 900 → p ≤ L → gI M m 3 = nI L → gI M m 4 = nI p → gI M (m + 3) 7 = nI k → ∃ p' k', p ≤ p' ∧ p' ≤ L ∧ k ≤ k' ∧ gI N m 4 = nI p' ∧ gI N (m + 3) 7 = nI k' ∧ 2 * k' + 3 * p + a ≤ 2 * k + 3 * p' + b
theorem RZ.r (M : Mm) (m : Nat) : RZ 0 0 M M m := ⟨kpI.r _, rfl, fun _ _ _ => rfl, fun _ _ _ _ _ => rfl, fun L p k h1 h2 h3 h4 h5 => ⟨p, k, Nat.le_refl _, h2, Nat.le_refl _, h4, h5, by omega⟩⟩
theorem RZ.t {a b c d m : Nat} {A B C : Mm} (h : RZ a b A B m) (g : RZ c d B C m) : RZ (a + c) (b + d) A C m := by
  refine ⟨h.1.t g.1, h.2.1.trans g.2.1, fun q a b => (h.2.2.1 q a b).trans (g.2.2.1 q a b), fun j a b c d => (h.2.2.2.1 j a b c d).trans (g.2.2.2.1 j a b c d), fun L p k h1 h2 h3 h4 h5 => ?_⟩
  obtain ⟨p1, k1, a1, a2, a3, a4, a5, a6⟩ := g.2.2.2.2 L p k h1 h2 h3 h4 h5
  obtain ⟨p2, k2, b1, b2, b3, b4, b5, b6⟩ := h.2.2.2.2 L p1 k1 h1 a2 ((g.2.2.2.1 3 (by decide) (by decide) (by decide) (by decide)).trans h3) a4 a5
  exact ⟨p2, k2, by omega, b2, by omega, b4, b5, by omega⟩
theorem RZ.w {a b c d m : Nat} {A B : Mm} (h : RZ a b A B m) (g : c + b ≤ a + d) : RZ c d A B m := by
  refine ⟨h.1, h.2.1, h.2.2.1, h.2.2.2.1, fun L p k h1 h2 h3 h4 h5 => ?_⟩
  obtain ⟨p1, k1, a1, a2, a3, a4, a5, a6⟩ := h.2.2.2.2 L p k h1 h2 h3 h4 h5
  exact ⟨p1, k1, a1, a2, a3, a4, a5, by omega⟩
theorem rz_own (M : Mm) (m : Nat) (f : Nat → Int32) (h : ∀ j, j ≠ 4 → j ≠ 5 → j ≠ 6 → j ≠ 13 → f j = gI M m j) (h4 : f 4 = gI M m 4) : RZ 0 0 (sI M m f) M m := by
  refine ⟨kpI.i _ _ _, rfl, fun q hq _ => gI_f _ _ hq, fun j a b c d => by rw [gI_s]; exact h j a b c d, fun L p k h1 h2 h3 h4' h5 => ⟨p, k, Nat.le_refl _, h2, Nat.le_refl _, by rw [gI_s, h4]; exact h4', by rw [gI_f _ _ (by omega)]; exact h5, by omega⟩⟩
theorem rz_re (M : Mm) (m : Nat) (k o : Int32) : RZ 0 0 (reN M m k o) M m := by
  unfold reN
  split
  · exact rz_own M m _ (fun j h4 h5 h6 _ => by rw [upd_n _ _ h6, upd_n _ _ h5]) rfl
  · exact RZ.r _ _
/-- a place later in the text -/
theorem rz_ps {M : Mm} {m : Nat} (q e : Nat) (hq : ∀ L p, L ≤ 900 → p ≤ L → gI M m 3 = nI L → gI M m 4 = nI p → p + e ≤ q ∧ q ≤ L) : RZ (3 * e) 0 (psM M m q) M m := by
  refine ⟨ps_k _ _ _, rfl, fun p hp _ => ps_f M hp, fun j h4 _ _ _ => ps_n M m q h4, fun L p k h1 h2 h3 h4 h5 => ?_⟩
  have h := hq L p h1 h2 h3 h4
  exact ⟨q, k, by omega, h.2, Nat.le_refl _, ps_4 _ _ _, by rw [ps_3]; exact h5, by omega⟩
theorem rz_nx (M : Mm) (m : Nat) : RZ 0 0 (nxN M m) M m := rz_ps (nxp M m) 0 fun L p h1 h2 h3 h4 => by
  have h := nxp_b h1 h2 h3 h4
  omega
theorem bA_lt {Y : Nat → Int32} {L p : Nat} (h : ¬ bA Y L p = -1) : p < L := by
  rcases Nat.lt_or_ge p L with z | z
  · exact z
  · exact absurd (bA_o (by omega)) h
theorem rz_c {M : Mm} {m : Nat} (h : ¬ nxc M m = -1) : RZ 3 0 (psM M m (nxp M m + 1)) M m := rz_ps (nxp M m + 1) 1 fun L p h1 h2 h3 h4 => by
  have hb := nxp_b h1 h2 h3 h4
  unfold nxc at h
  rw [hb.2.2.1] at h
  have := bA_lt h
  omega
theorem rz_xp (M : Mm) (m : Nat) {c : Int32} (hc : ¬ c = -1) : RZ 0 0 (xpN M m c) M m := by
  unfold xpN
  split
  · exact RZ.r _ _
  · split
    · rename_i g
      exact (rz_c (by rw [g]; exact hc)).w (by omega)
    · exact (rz_re _ _ _ _).t (rz_nx M m)
theorem nm_b {M : Mm} {m L p : Nat} (h1 : L ≤ 900) (h2 : p ≤ L) (h3 : gI M m 3 = nI L) (h4 : gI M m 4 = nI p) : nxp M m ≤ (nmV M m).2 ∧ (nmV M m).2 ≤ L := by
  have hb := nxp_b h1 h2 h3 h4
  unfold nmV
  rw [hb.2.2.1]
  have := nmL_b (gI M (m + 1)) L (L - nxp M m) (nxp M m) 0
  omega
theorem nm2_e (M : Mm) (m : Nat) : nm2 M m = sI (psM M m (nmV M m).2) m (upd (gI (psM M m (nmV M m).2) m) 13 (nI (nxp M m))) := by
  unfold nm2 nm1 psM
  rw [gI_s, sI_sI, gI_s, sI_sI]
  congr 1
  funext j
  unfold upd
  by_cases h4 : j = 4
  · subst h4; rfl
  · by_cases h13 : j = 13
    · subst h13; rfl
    · simp only [h4, h13, if_false]
theorem nmL_1 {Y : Nat → Int32} {L p : Nat} (h : inI (bA Y L p) 48 57) (hp : p < L) : p + 1 ≤ (nmL Y L (L - p) p 0).2 := by
  obtain ⟨r, hr⟩ : ∃ r, L - p = r + 1 := ⟨L - p - 1, by omega⟩
  rw [hr]
  unfold nmL
  rw [if_pos h]
  exact (nmL_b Y L r (p + 1) _).1
theorem rz_n2 {M : Mm} {m : Nat} (hd : inI (nxc M m) 48 57) : RZ 3 0 (nm2 M m) M m := by
  rw [nm2_e]
  refine (RZ.t (rz_own _ _ _ (fun j _ _ _ h13 => upd_n _ _ h13) (upd_n _ _ (by decide))) (rz_ps (M := M) (nmV M m).2 1 fun L p h1 h2 h3 h4 => ?_)).w (by omega)
  have hb := nxp_b h1 h2 h3 h4
  have hn := nm_b h1 h2 h3 h4
  unfold nxc at hd
  rw [hb.2.2.1] at hd
  have hlt : nxp M m < L := bA_lt (fun e => by rw [e] at hd; exact absurd hd (by decide))
  have h1' := nmL_1 hd hlt
  refine ⟨?_, hn.2⟩
  unfold nmV
  rw [hb.2.2.1]
  omega
theorem rz_nu (M : Mm) (m : Nat) (lo hi : Int32) : RZ 0 0 (nuN M m lo hi).2 M m := by
  unfold nuN
  split
  · exact RZ.r _ _
  · split
    · exact (rz_re _ _ _ _).t (rz_nx M m)
    · rename_i g
      dsimp only
      have h := rz_n2 (Decidable.not_not.mp g)
      split
      · exact h.w (by omega)
      · exact ((rz_re _ _ _ _).t h).w (by omega)
theorem re_5 {M : Mm} {m : Nat} {k o : Int32} (hk : ¬ k = 0) : ¬ gI (reN M m k o) m 5 = 0 := by
  unfold reN
  split
  · rw [gI_s, upd_n _ _ (by decide), upd_s]
    exact hk
  · rename_i h
    exact h
theorem rz_nu3 {M : Mm} {m : Nat} {lo hi : Int32} (h0 : gI M m 5 = 0) (h1 : gI (nuN M m lo hi).2 m 5 = 0) : RZ 3 0 (nuN M m lo hi).2 M m := by
  unfold nuN at h1 ⊢
  rw [if_neg (fun q => q h0)] at h1 ⊢
  split at h1
  · exact absurd h1 (re_5 (by decide))
  · rename_i g
    rw [if_neg g]
    dsimp only at h1 ⊢
    split at h1
    · rename_i g2
      rw [if_pos g2]
      exact rz_n2 (Decidable.not_not.mp g)
    · exact absurd h1 (re_5 (by decide))
theorem mtQ_b (Y : Nat → Int32) (L : Nat) : ∀ (l : List Int32) p, ¬ mtQ Y L l p = 0 → (∀ c ∈ l, ¬ c = -1) → l ≠ [] → p + l.length ≤ L
  | [], p, _, _, h => absurd rfl h
  | [c], p, h, hc, _ => by
    unfold mtQ at h
    split at h
    · rename_i e
      have : p < L := bA_lt (by rw [e]; exact hc c List.mem_cons_self)
      simp
      omega
    · exact absurd rfl h
  | c :: d :: l, p, h, hc, _ => by
    unfold mtQ at h
    split at h
    · have := mtQ_b Y L (d :: l) (p + 1) h (fun x hx => hc x (List.mem_cons_of_mem _ hx)) (by simp)
      simp only [List.length_cons] at this ⊢
      omega
    · exact absurd rfl h
theorem sB_ok : ∀ i, i < 10 → (∀ c ∈ sB.getD i [], ¬ c = -1) ∧ 3 ≤ (sB.getD i []).length := by decide +kernel
theorem rz_tw (M : Mm) (m : Nat) {w : Nat} (hw : w < 10) : RZ 0 0 (twN M m w).2 M m ∧ (¬ (twN M m w).1 = 0 → RZ 9 0 (twN M m w).2 M m) := by
  unfold twN
  split
  · exact ⟨RZ.r _ _, fun h => absurd rfl h⟩
  · split
    · exact ⟨rz_nx M m, fun h => absurd rfl h⟩
    · rename_i g
      obtain ⟨o1, o2⟩ := sB_ok w hw
      have h9 : RZ 9 0 (psM M m (nxp M m + (sB.getD w []).length)) M m := rz_ps (nxp M m + (sB.getD w []).length) 3 fun L p h1 h2 h3 h4 => by
        have hb := nxp_b h1 h2 h3 h4
        rw [hb.2.2.1] at g
        have := mtQ_b _ L _ _ g o1 (fun e => by rw [e] at o2; exact absurd o2 (by decide))
        omega
      exact ⟨h9.w (by omega), fun _ => h9⟩
theorem rz_em (M : Mm) (m : Nat) (v : Int32) : RZ 0 2 (emN M m v) M m := by
  unfold emN
  split
  · exact (RZ.r _ _).w (by omega)
  · refine ⟨kpI.i _ _ _, rfl, fun q _ hq => gI_f _ _ hq, fun j _ _ _ _ => by rw [gI_f _ _ (by omega)], fun L p k h1 h2 h3 h4 h5 => ⟨p, k + 1, Nat.le_refl _, h2, by omega, by rw [gI_f _ _ (by omega)]; exact h4, ?_, by omega⟩⟩
    rw [gI_s, upd_s, h5, nI_1]
/-! == factors, terms, sums == -/
def fem (m : Nat) (N : Mm) (c v : Int32) : Mm := emN (emN N m c) m v
def fcW (m : Nat) (N : Mm) : Mm :=
  if ¬ (twN N m 8).1 = 0 then fem m (twN N m 8).2 1 0
  else if ¬ (twN (twN N m 8).2 m 9).1 = 0 then fem m (twN (twN N m 8).2 m 9).2 1 1
  else if ¬ (twN (twN (twN N m 8).2 m 9).2 m 5).1 = 0 then fem m (twN (twN (twN N m 8).2 m 9).2 m 5).2 1 2
  else fem m (nuN (twN (twN (twN N m 8).2 m 9).2 m 5).2 m 0 9999).2 0 (nuN (twN (twN (twN N m 8).2 m 9).2 m 5).2 m 0 9999).1
def fp2 (M : Mm) (m : Nat) : Mm := if gI M m 14 = 4 then reN (nxN M m) m (-5) (nI (nxp M m)) else nxN M m
def fp3 (M : Mm) (m : Nat) : Mm := sI (fp2 M m) m (upd (upd (gI (fp2 M m) m) 4 (nI (nxp M m + 1))) 14 (gI M m 14 + 1))
def fp5 (m : Nat) (inner : Mm → Mm) (M : Mm) : Mm := sI (xpN (inner (fp3 M m)) m 41) m (upd (gI (xpN (inner (fp3 M m)) m 41) m) 14 (gI (xpN (inner (fp3 M m)) m 41) m 14 - 1))
def fcN (m : Nat) (inner : Mm → Mm) (M : Mm) : Mm :=
  if ¬ gI M m 5 = 0 then M
  else if nxc M m = 40 then fp5 m inner M
  else if inI (nxc M m) 48 57 then fem m (nuN (nxN M m) m 0 9999).2 0 (nuN (nxN M m) m 0 9999).1
  else fcW m (nxN M m)
def opZ (m : Nat) (a b ca cb : Int32) (f : Mm → Mm) : Nat → Mm → Mm
  | 0, N => if gI N m 5 = 0 then nxN N m else N
  | r + 1, N => if gI N m 5 = 0 ∧ (nxc N m = a ∨ nxc N m = b) then opZ m a b ca cb f r (emN (f (psM N m (nxp N m + 1))) m (if nxc N m = a then ca else cb)) else if gI N m 5 = 0 then nxN N m else N
def teZ (m : Nat) (f : Mm → Mm) (M : Mm) : Mm := opZ m 42 47 4 5 f 900 (f M)
def smZ (m : Nat) (f : Mm → Mm) (M : Mm) : Mm := opZ m 43 45 2 3 (teZ m f) 900 (teZ m f M)
def facK (m : Nat) : Nat → Mm → Mm
  | 0, M => M
  | k + 1, M => fcN m (smZ m (facK m k)) M
def gdz (m : Nat) (f : Mm → Mm) : Prop := ∀ M, RZ 0 1 (f M) M m
theorem rz_fem (m : Nat) (N : Mm) (c v : Int32) : RZ 0 4 (fem m N c v) N m := (rz_em _ m v).t (rz_em N m c)
theorem em_e {N : Mm} {m : Nat} (v : Int32) (h : ¬ gI N m 5 = 0) : emN N m v = N := if_pos h
theorem rz_fn {m : Nat} {N : Mm} (h0 : gI N m 5 = 0) : RZ 0 1 (fem m (nuN N m 0 9999).2 0 (nuN N m 0 9999).1) N m := by
  by_cases h : gI (nuN N m 0 9999).2 m 5 = 0
  · exact ((rz_fem m _ _ _).t (rz_nu3 h0 h)).w (by omega)
  · unfold fem
    rw [em_e _ h, em_e _ h]
    exact (rz_nu N m _ _).w (by omega)
theorem tw_5 (N : Mm) (m w : Nat) : gI (twN N m w).2 m 5 = gI N m 5 := by
  unfold twN
  split
  · rfl
  · split
    · exact ps_n _ _ _ (by decide)
    · exact ps_n _ _ _ (by decide)
theorem rz_fw {m : Nat} {N : Mm} (h0 : gI N m 5 = 0) : RZ 0 1 (fcW m N) N m := by
  have t8 := rz_tw N m (w := 8) (by decide)
  have t9 := rz_tw (twN N m 8).2 m (w := 9) (by decide)
  have t5 := rz_tw (twN (twN N m 8).2 m 9).2 m (w := 5) (by decide)
  unfold fcW
  split
  · rename_i g
    exact ((rz_fem m _ _ _).t (t8.2 g)).w (by omega)
  · split
    · rename_i g
      exact ((rz_fem m _ _ _).t ((t9.2 g).t t8.1)).w (by omega)
    · split
      · rename_i g
        exact ((rz_fem m _ _ _).t ((t5.2 g).t (t9.1.t t8.1))).w (by omega)
      · exact ((rz_fn (by rw [tw_5, tw_5, tw_5]; exact h0)).t (t5.1.t (t9.1.t t8.1))).w (by omega)
theorem fp2_n (M : Mm) (m : Nat) : RZ 0 0 (fp2 M m) M m := by
  unfold fp2
  split
  · exact (rz_re _ _ _ _).t (rz_nx M m)
  · exact rz_nx M m
theorem rz_fp {m : Nat} {inner : Mm → Mm} {M : Mm} (hi : gdz m inner) (hc : nxc M m = 40) : RZ 0 1 (fp5 m inner M) M m := by
  have h2 := fp2_n M m
  have h4 := (rz_xp (inner (fp3 M m)) m (c := 41) (by decide)).t (hi (fp3 M m))
  have hn : ¬ nxc M m = -1 := by rw [hc]; decide
  obtain ⟨a1, a2, a3, a4, a5⟩ := h4
  obtain ⟨b1, b2, b3, b4, b5⟩ := h2
  have e14 : gI (xpN (inner (fp3 M m)) m 41) m 14 = gI M m 14 + 1 := by
    rw [a4 14 (by decide) (by decide) (by decide) (by decide)]
    unfold fp3
    rw [gI_s, upd_s]
  refine ⟨(kpI.i _ _ _).t (a1.t ((kpI.i _ _ _).t b1)), ?_, fun q hq hq3 => ?_, fun j h4 h5 h6 h13 => ?_, fun L p k h1 h2 h3 h4 h5 => ?_⟩
  · show gJ (xpN (inner (fp3 M m)) m 41) = _
    rw [a2]
    exact b2
  · unfold fp5
    rw [gI_f _ _ hq, a3 q hq hq3]
    unfold fp3
    rw [gI_f _ _ hq, b3 q hq hq3]
  · unfold fp5
    rw [gI_s]
    by_cases e : j = 14
    · subst e
      rw [upd_s, e14, Int32.add_sub_cancel]
    · rw [upd_n _ _ e, a4 j h4 h5 h6 h13]
      unfold fp3
      rw [gI_s, upd_n _ _ e, upd_n _ _ h4, b4 j h4 h5 h6 h13]
  · have hb := nxp_b h1 h2 h3 h4
    have hn2 := hn
    unfold nxc at hn2
    rw [hb.2.2.1] at hn2
    have hlt := bA_lt hn2
    have e : gI (fp2 M m) (m + 3) = gI M (m + 3) := by
      unfold fp2
      split
      · rw [re_f _ _ _ (by omega)]; exact ps_3 _ _ _
      · exact ps_3 _ _ _
    obtain ⟨p2, k2, d1, d2, d3, d4, d5, d6⟩ := a5 L (nxp M m + 1) k h1 (by omega) (by unfold fp3; rw [gI_s, upd_n _ _ (by decide), upd_n _ _ (by decide), b4 3 (by decide) (by decide) (by decide) (by decide)]; exact h3) (by unfold fp3; rw [gI_s, upd_n _ _ (by decide), upd_s]) (by unfold fp3; rw [gI_f _ _ (by omega), e]; exact h5)
    refine ⟨p2, k2, by omega, d2, by omega, ?_, ?_, by omega⟩
    · unfold fp5
      rw [gI_s, upd_n _ _ (by decide)]
      exact d4
    · unfold fp5
      rw [gI_f _ _ (by omega)]
      exact d5
theorem gdz_fc {m : Nat} {inner : Mm → Mm} (hi : gdz m inner) : gdz m (fcN m inner) := by
  intro M
  unfold fcN
  split
  · exact (RZ.r _ _).w (by omega)
  · rename_i h0
    have h0' : gI (nxN M m) m 5 = 0 := by unfold nxN; rw [ps_n _ _ _ (by decide)]; exact Decidable.not_not.mp h0
    split
    · rename_i g
      exact rz_fp hi g
    · split
      · exact ((rz_fn h0').t (rz_nx M m)).w (by omega)
      · exact ((rz_fw h0').t (rz_nx M m)).w (by omega)
theorem rz_op {m : Nat} {a b ca cb : Int32} {f : Mm → Mm} (ha : ¬ a = -1) (hb : ¬ b = -1) (hf : gdz m f) : ∀ r N, RZ 0 0 (opZ m a b ca cb f r N) N m
  | 0, N => by
    unfold opZ
    split
    · exact rz_nx N m
    · exact RZ.r _ _
  | r + 1, N => by
    unfold opZ
    split
    · rename_i g
      have hn : ¬ nxc N m = -1 := by
        rcases g.2 with e | e <;> rw [e]
        · exact ha
        · exact hb
      exact ((rz_op ha hb hf r _).t ((rz_em _ m _).t ((hf _).t (rz_c hn)))).w (by omega)
    · split
      · exact rz_nx N m
      · exact RZ.r _ _
theorem gdz_te {m : Nat} {f : Mm → Mm} (hf : gdz m f) : gdz m (teZ m f) := fun M => ((rz_op (by decide) (by decide) hf _ _).t (hf M)).w (by omega)
theorem gdz_sm {m : Nat} {f : Mm → Mm} (hf : gdz m f) : gdz m (smZ m f) := fun M => ((rz_op (by decide) (by decide) (gdz_te hf) _ _).t (gdz_te hf M)).w (by omega)
theorem gdz_fa (m : Nat) : ∀ k, gdz m (facK m k)
  | 0 => fun M => (RZ.r _ _).w (by omega)
  | k + 1 => gdz_fc (gdz_sm (gdz_fa m k))
