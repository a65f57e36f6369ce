/-! ===== the two readers stand at the same token ===== -/
def TYs (X Y : Nat → Int32) (T : Nat → Int32) (L s : Nat) : Prop :=
  T 5 = nI L ∧ T 3 = nI s ∧ T 2 = (tkE X L 0 s).1 ∧ (s < L → dig (X s) → T 4 = num X (L - s) s 0) ∧ T 6 = nI (tkE X L 0 s).2.2
def TY (P : Mm) (r : Nat) (N : Mm) (m : Nat) : Prop :=
  ∃ L p, L ≤ 900 ∧ p ≤ L ∧ (gI P r 3 = 0 ∧ gI N m 5 = 0) ∧ (gI N m 3 = nI L ∧ gI N m 4 = nI p) ∧ BX (gI P (r + 2)) (gI N (m + 1)) ∧ TYs (gI P (r + 2)) (gI N (m + 1)) (gI P (r + 1)) L (skq (gI N (m + 1)) L (L - p) p)
/-- both have found the same error -/
def ER (P : Mm) (r : Nat) (N : Mm) (m : Nat) : Prop := ¬ gI N m 5 = 0 ∧ gI P r 3 = gI N m 5 ∧ gI P r 2 = gI N m 6 ∧ gI N m 5 < 0
def xe (P' P : Mm) (r : Nat) : Prop := ¬ gI P r 3 = 0 → gI P' r 3 = gI P r 3 ∧ gI P' r 2 = gI P r 2
def me (N' N : Mm) (m : Nat) : Prop := ¬ gI N m 5 = 0 → gI N' m 5 = gI N m 5 ∧ gI N' m 6 = gI N m 6
theorem xe.r (P : Mm) (r : Nat) : xe P P r := fun _ => ⟨rfl, rfl⟩
theorem me.r (N : Mm) (m : Nat) : me N N m := fun _ => ⟨rfl, rfl⟩
theorem xe.t {A B C : Mm} {r : Nat} (h : xe A B r) (g : xe B C r) : xe A C r := fun e => by
  obtain ⟨g1, g2⟩ := g e
  obtain ⟨h1, h2⟩ := h (by rw [g1]; exact e)
  exact ⟨h1.trans g1, h2.trans g2⟩
theorem me.t {A B C : Mm} {m : Nat} (h : me A B m) (g : me B C m) : me A C m := fun e => by
  obtain ⟨g1, g2⟩ := g e
  obtain ⟨h1, h2⟩ := h (by rw [g1]; exact e)
  exact ⟨h1.trans g1, h2.trans g2⟩
theorem xe.e {P' P : Mm} {r : Nat} (h : gI P' r = gI P r) : xe P' P r := fun _ => by rw [h]; exact ⟨rfl, rfl⟩
theorem me.e {N' N : Mm} {m : Nat} (h5 : gI N' m 5 = gI N m 5) (h6 : gI N' m 6 = gI N m 6) : me N' N m := fun _ => ⟨h5, h6⟩
theorem ER.k {P P' N N' : Mm} {r m : Nat} (h : ER P r N m) (hx : xe P' P r) (hm : me N' N m) : ER P' r N' m := by
  obtain ⟨h1, h2, h3, h4⟩ := h
  obtain ⟨a1, a2⟩ := hx (by rw [h2]; exact h1)
  obtain ⟨b1, b2⟩ := hm h1
  exact ⟨by rw [b1]; exact h1, by rw [a1, b1]; exact h2, by rw [a2, b2]; exact h3, by rw [b1]; exact h4⟩
theorem xe_nx (P : Mm) (r : Nat) : xe (nxM P (r + 1)) P r := xe.e (gI_nx _ (by omega))
theorem xe_fl (P : Mm) (r : Nat) (c : Int32) : xe (flM P r c) P r := fun e => by
  unfold flM
  rw [if_neg e]
  exact ⟨rfl, rfl⟩
theorem xe_i (P : Mm) {r a : Nat} (f : Nat → Int32) (h : a ≠ r) : xe (sI P a f) P r := xe.e (gI_f _ _ (Ne.symm h))
theorem xe_sk (P : Mm) (r : Nat) (c : Int32) : xe (skM P r c) P r := by
  unfold skM
  split
  · exact xe_nx P r
  · exact xe_fl P r _
theorem xe_rb (P : Mm) (r : Nat) (lo hi : Int32) : xe (rbM P r lo hi) P r := by
  unfold rbM
  split
  · exact xe_fl P r _
  · split
    · exact xe_fl P r _
    · exact xe.r P r
theorem xe_rn (P : Mm) (r : Nat) (lo hi : Int32) : xe (rnM P r lo hi).2 P r := by
  unfold rnM
  split
  · exact (xe_nx _ r).t (xe_rb P r lo hi)
  · exact xe_rb P r lo hi
theorem xe_pu {x : Int32 × Mm} {P : Mm} {r a : Nat} (h : xe x.2 P r) (ha : a ≠ r) (k : Nat) : xe (pu x a k) P r := (xe_i _ _ ha).t h
theorem xe_ro (P : Mm) (r w : Nat) (hi ms : Int32) : xe (roM P r w hi ms).2 P r := by
  unfold roM
  split
  · exact xe.r P r
  · exact (xe_rn _ r _ _).t (xe_nx P r)
theorem xe_rp (P : Mm) (r : Nat) (c : Int32) : xe (rpM P r c).2 P r := by
  unfold rpM
  refine (xe_ro _ r _ _ _).t ?_
  unfold rpA
  split
  · exact xe_fl P r _
  · exact xe.r P r
theorem xe_ad (P : Mm) (r : Nat) (c : Int32) : xe (adM P (r + 30) c) P r := xe.e (gI_ad _ _ (by omega) (by omega))
theorem me_re (N : Mm) (m : Nat) (k o : Int32) : me (reN N m k o) N m := fun e => by
  unfold reN
  rw [if_neg e]
  exact ⟨rfl, rfl⟩
theorem me_ps (N : Mm) (m p : Nat) : me (psM N m p) N m := me.e (ps_n _ _ _ (by decide)) (ps_n _ _ _ (by decide))
theorem me_i (N : Mm) {m a : Nat} (f : Nat → Int32) (h : a ≠ m) : me (sI N a f) N m := me.e (by rw [gI_f _ _ (Ne.symm h)]) (by rw [gI_f _ _ (Ne.symm h)])
theorem me_nu (N : Mm) (m : Nat) (lo hi : Int32) : me (nuN N m lo hi).2 N m := fun e => by
  unfold nuN
  rw [if_pos e]
  exact ⟨rfl, rfl⟩
theorem me_tw (N : Mm) (m w : Nat) : me (twN N m w).2 N m := fun e => by
  unfold twN
  rw [if_pos e]
  exact ⟨rfl, rfl⟩
theorem me_xp (N : Mm) (m : Nat) (c : Int32) : me (xpN N m c) N m := fun e => by
  unfold xpN
  rw [if_pos e]
  exact ⟨rfl, rfl⟩
theorem me_em (N : Mm) (m : Nat) (v : Int32) : me (emN N m v) N m := fun e => by
  unfold emN
  rw [if_pos e]
  exact ⟨rfl, rfl⟩
/-! == reading on == -/
theorem TY.cN {P N N' : Mm} {r m : Nat} (h : TY P r N m) (h3 : gI N' m 3 = gI N m 3) (h4 : gI N' m 4 = gI N m 4) (h5 : gI N' m 5 = gI N m 5) (h1 : gI N' (m + 1) = gI N (m + 1)) : TY P r N' m := by
  unfold TY at h ⊢
  rw [h3, h4, h5, h1]
  exact h
theorem TY.cP {P P' N : Mm} {r m : Nat} (h : TY P r N m) (h3 : gI P' r 3 = gI P r 3) (h1 : gI P' (r + 1) = gI P (r + 1)) (h2 : gI P' (r + 2) = gI P (r + 2)) : TY P' r N m := by
  unfold TY at h ⊢
  rw [h3, h1, h2]
  exact h
theorem ty_xp {N : Mm} {m L p : Nat} (h3 : gI N m 3 = nI L) (h4 : gI N m 4 = nI p) (hL : L ≤ 900) (hp : p ≤ L) : mTL N m = L ∧ nxp N m = skq (gI N (m + 1)) L (L - p) p := by
  unfold nxp mTL mPo
  rw [h3, h4, nI_clamp (show L < 2 ^ 31 by omega), nI_clamp (show p < 2 ^ 31 by omega)]
  exact ⟨rfl, rfl⟩
theorem tk_c (X : Nat → Int32) (L : Nat) (c : Int32) (s : Nat) : (tkE X L c s).1 = (tkE X L 0 s).1 ∧ (tkE X L c s).2.2 = (tkE X L 0 s).2.2 ∧ (s < L → dig (X s) → (tkE X L c s).2.1 = num X (L - s) s 0) := by
  unfold tkE
  by_cases h1 : L ≤ s
  · rw [if_pos h1, if_pos h1]
    exact ⟨rfl, rfl, fun z => absurd z (by omega)⟩
  · rw [if_neg h1, if_neg h1]
    by_cases h2 : dig (X s)
    · rw [if_pos h2, if_pos h2]
      exact ⟨rfl, rfl, fun _ _ => rfl⟩
    · rw [if_neg h2, if_neg h2]
      split
      · exact ⟨rfl, rfl, fun _ z => absurd z h2⟩
      · exact ⟨rfl, rfl, fun _ z => absurd z h2⟩
/-- the next token -/
theorem TY.ad {P N : Mm} {r m e : Nat} (h : TY P r N m) (he : gI P (r + 1) 6 = nI e) (heb : e < 2 ^ 31) : TY (nxM P (r + 1)) r (psM N m e) m := by
  obtain ⟨L, p, hL, hp, ⟨h1, h2⟩, ⟨h3, h4⟩, hB, t5, t3, t2, t4, t6⟩ := h
  have hs := sk_n (gI N (m + 1)) L (L - p) p (by omega)
  generalize skq (gI N (m + 1)) L (L - p) p = s at hs t3 t2 t4 t6
  have hsL : s ≤ L := by omega
  have he2 := tkE_b (gI P (r + 2)) 0 hsL
  have ee : e = (tkE (gI P (r + 2)) L 0 s).2.2 := (nI_eq heb (by omega)).mp (he.symm.trans t6)
  rw [← ee] at he2
  have n5 : gI (nxM P (r + 1)) r = gI P r := gI_nx _ (by omega)
  have n2 : gI (nxM P (r + 1)) (r + 2) = gI P (r + 2) := gI_nx _ (by omega)
  have eS : nxS P (r + 1) = skq (gI N (m + 1)) L (L - e) e := by
    unfold nxS
    rw [show r + 1 + 1 = r + 2 from rfl, t5, he, nI_clamp (show L < 2 ^ 31 by omega), nI_clamp heb]
    exact sk_e hB hL _ _ (by omega)
  have eE : nxE P (r + 1) = tkE (gI P (r + 2)) L (gI P (r + 1) 4) (nxS P (r + 1)) := by
    unfold nxE
    rw [show r + 1 + 1 = r + 2 from rfl, t5, nI_clamp (show L < 2 ^ 31 by omega)]
  obtain ⟨c1, c2, c3⟩ := tk_c (gI P (r + 2)) L (gI P (r + 1) 4) (nxS P (r + 1))
  refine ⟨L, e, hL, he2.2, ⟨by rw [n5]; exact h1, by rw [ps_n _ _ _ (by decide)]; exact h2⟩, ⟨by rw [ps_n _ _ _ (by decide)]; exact h3, ps_4 _ _ _⟩, by rw [n2, ps_1]; exact hB, ?_⟩
  rw [n2, ps_1, ← eS]
  unfold TYs nxM
  rw [gI_s, eE]
  exact ⟨t5, rfl, c1, c3, by rw [← c2]; rfl⟩
theorem TY.nx {P N : Mm} {r m : Nat} (h : TY P r N m) : TY P r (nxN N m) m := by
  obtain ⟨L, p, hL, hp, ⟨h1, h2⟩, ⟨h3, h4⟩, hB, hT⟩ := h
  have hs := sk_n (gI N (m + 1)) L (L - p) p (by omega)
  obtain ⟨e1, e2⟩ := ty_xp h3 h4 hL hp
  refine ⟨L, nxp N m, hL, by rw [e2]; omega, ⟨h1, by unfold nxN; rw [ps_n _ _ _ (by decide)]; exact h2⟩, ⟨by unfold nxN; rw [ps_n _ _ _ (by decide)]; exact h3, nx_e.1⟩, by rw [nx_e.2.1]; exact hB, ?_⟩
  rw [nx_e.2.1, e2, sk_t hs]
  exact hT
/-- what stands where both stand -/
theorem TY.f {P N : Mm} {r m : Nat} (h : TY P r N m) : ∃ L s, L ≤ 900 ∧ s ≤ L ∧ mTL N m = L ∧ nxp N m = s ∧ gI P r 3 = 0 ∧ gI N m 5 = 0 ∧ BX (gI P (r + 2)) (gI N (m + 1)) ∧ TYs (gI P (r + 2)) (gI N (m + 1)) (gI P (r + 1)) L s ∧ nxc N m = bA (gI N (m + 1)) L s := by
  obtain ⟨L, p, hL, hp, ⟨h1, h2⟩, ⟨h3, h4⟩, hB, hT⟩ := h
  have hs := sk_n (gI N (m + 1)) L (L - p) p (by omega)
  obtain ⟨e1, e2⟩ := ty_xp h3 h4 hL hp
  refine ⟨L, nxp N m, hL, by rw [e2]; omega, e1, rfl, h1, h2, hB, by rw [e2]; exact hT, ?_⟩
  unfold nxc
  rw [e1]
theorem ne_lt {c : Int32} (h : c < 0) : ¬ c = 0 := fun e => by
  rw [e] at h
  exact absurd h (by decide)
theorem er_fl {P N N' : Mm} {r m : Nat} {c : Int32} (h : TY P r N m) (hc : c < 0) (h5 : gI N' m 5 = 0) : ER (flM P r c) r (reN N' m c (nI (nxp N m))) m := by
  obtain ⟨L, s, -, -, -, e2, h1, -, -, hT, -⟩ := h.f
  have a1 : gI (flM P r c) r = upd (upd (gI P r) 3 c) 2 (gI P (r + 1) 3) := by
    unfold flM
    rw [if_pos h1, gI_s]
  have a2 : gI (reN N' m c (nI (nxp N m))) m = upd (upd (gI N' m) 5 c) 6 (nI (nxp N m)) := by
    unfold reN
    rw [if_pos h5, gI_s]
  unfold ER
  rw [a1, a2, upd_s, upd_s, upd_n _ _ (show (3 : Nat) ≠ 2 by decide), upd_s, upd_n _ _ (show (5 : Nat) ≠ 6 by decide), upd_s, hT.2.1, e2]
  exact ⟨ne_lt hc, rfl, rfl, hc⟩
section TYF
variable {X Y T : Nat → Int32} {L s : Nat}
theorem ty_d (hB : BX X Y) (hL : L ≤ 900) (hs : s ≤ L) (hT : TYs X Y T L s) : (T 2 = -2 ↔ inI (bA Y L s) 48 57) ∧ (T 2 = -1 ↔ bA Y L s = -1) ∧ (inI (bA Y L s) 48 57 → s < L ∧ dig (X s)) := by
  obtain ⟨-, -, t2, -, -⟩ := hT
  rw [t2]
  unfold tkE
  rcases Nat.lt_or_ge s L with q | q
  · obtain ⟨j, hj, ej, -⟩ := hB s (by omega)
    have hb := bx_s hB (show s < 900 by omega)
    have jn : ∀ k : Int32, k.toInt < 0 → ¬ Y s = k := fun k hk e => by
      rw [← e, ej, t_nI (by omega)] at hk
      omega
    rw [if_neg (by omega), bA_i q]
    by_cases d : dig (X s)
    · rw [if_pos d]
      exact ⟨⟨fun _ => hb.2.1.mp d, fun _ => rfl⟩, ⟨fun z => absurd z (by show ¬ (-2 : Int32) = -1; decide), fun z => absurd z (jn _ (by decide))⟩, fun _ => ⟨q, d⟩⟩
    · rw [if_neg d]
      have d2 : ¬ inI (Y s) 48 57 := fun z => d (hb.2.1.mpr z)
      by_cases l : low (X s)
      · rw [if_pos l]
        exact ⟨⟨fun z => absurd z (by show ¬ (-3 : Int32) = -2; decide), fun z => absurd z d2⟩, ⟨fun z => absurd z (by show ¬ (-3 : Int32) = -1; decide), fun z => absurd z (jn _ (by decide))⟩, fun z => absurd z d2⟩
      · rw [if_neg l]
        show (X s &&& 255 = -2 ↔ _) ∧ (X s &&& 255 = -1 ↔ _) ∧ _
        rw [hb.2.2.2.1]
        exact ⟨⟨fun z => absurd z (jn _ (by decide)), fun z => absurd z d2⟩, Iff.rfl, fun z => absurd z d2⟩
  · rw [if_pos q, bAo q]
    exact ⟨⟨fun z => absurd z (by show ¬ (-1 : Int32) = -2; decide), fun z => absurd z (fun z => z.1 (by decide))⟩, ⟨fun _ => rfl, fun _ => rfl⟩, fun z => absurd z (fun z => z.1 (by decide))⟩
theorem ty_c (hB : BX X Y) (hL : L ≤ 900) (hs : s ≤ L) (hT : TYs X Y T L s) {c : Int32} (hc : c = 40 ∨ c = 41 ∨ c = 42 ∨ c = 43 ∨ c = 45 ∨ c = 47 ∨ c = 59) : (T 2 = c ↔ bA Y L s = c) ∧ (T 2 = c → T 6 = nI (s + 1)) := by
  obtain ⟨-, -, t2, -, t6⟩ := hT
  have cn : ¬ c = -1 ∧ ¬ c = -2 ∧ ¬ c = -3 ∧ ¬ inI c 48 57 ∧ ¬ inI c 97 122 := by
    rcases hc with rfl | rfl | rfl | rfl | rfl | rfl | rfl <;> decide
  rw [t2, t6]
  unfold tkE
  rcases Nat.lt_or_ge s L with q | q
  · have hb := bx_s hB (show s < 900 by omega)
    rw [if_neg (by omega), bA_i q]
    by_cases d : dig (X s)
    · rw [if_pos d]
      exact ⟨⟨fun z => absurd z.symm cn.2.1, fun z => absurd (hb.2.1.mp d) (by rw [z]; exact cn.2.2.2.1)⟩, fun z => absurd z.symm cn.2.1⟩
    · rw [if_neg d]
      by_cases l : low (X s)
      · rw [if_pos l]
        exact ⟨⟨fun z => absurd z.symm cn.2.2.1, fun z => absurd (hb.2.2.1.mp l) (by rw [z]; exact cn.2.2.2.2)⟩, fun z => absurd z.symm cn.2.2.1⟩
      · rw [if_neg l]
        show (X s &&& 255 = c ↔ _) ∧ (X s &&& 255 = c → _)
        rw [hb.2.2.2.1]
        exact ⟨Iff.rfl, fun _ => rfl⟩
  · rw [if_pos q, bAo q]
    exact ⟨⟨fun z => z, fun z => z⟩, fun z => absurd z.symm cn.1⟩
theorem ty_w (hB : BX X Y) (hL : L ≤ 900) (hs : s ≤ L) (hT : TYs X Y T L s) {w : Nat} (hw : w < 10) :
    (mtQ Y L (sB.getD w []) s = 0 ∨ mtQ Y L (sB.getD w []) s = 1) ∧ ((¬ (¬ T 2 = -3 ∨ ¬ T 6 - T 3 = nI (sN.getD w 0)) ∧ mtc X (sB.getD w []) s = 1) ↔ mtQ Y L (sB.getD w []) s = 1) ∧ (mtQ Y L (sB.getD w []) s = 1 → T 6 = nI (s + (sB.getD w []).length)) := by
  obtain ⟨-, t3, t2, -, t6⟩ := hT
  obtain ⟨l1, l2⟩ := sB_l w hw
  obtain ⟨n1, n2⟩ := sNB w hw
  obtain ⟨q1, q2⟩ := mq_e hB hL (sB.getD w []) l1 (L - s) s (by omega)
  refine ⟨q1, ?_⟩
  rw [q2, t2, t3, t6, n1]
  have noL : ¬ (s < L ∧ low (X s)) → ¬ spl X (L - s) s = s + (sB.getD w []).length := by
    intro hn e
    have e2 : spl X (L - s) s = s := by
      rcases Nat.lt_or_ge s L with q | q
      · obtain ⟨k, hk⟩ : ∃ k, L - s = k + 1 := ⟨L - s - 1, by omega⟩
        rw [hk]
        unfold spl
        exact if_neg (fun z => hn ⟨q, z⟩)
      · rw [show L - s = 0 by omega]
        rfl
    omega
  unfold tkE
  rcases Nat.lt_or_ge s L with q | q
  · have hb := bx_s hB (show s < 900 by omega)
    obtain ⟨j, hj, ej, -⟩ := hB s (by omega)
    rw [if_neg (show ¬ L ≤ s by omega)]
    by_cases d : dig (X s)
    · have nl : ¬ low (X s) := fun z => by
        have z1 : ¬ (X s).toInt < (97 : Int32).toInt := fun y => z.1 (t_lt.mpr y)
        have z2 : ¬ (57 : Int32).toInt < (X s).toInt := fun y => d.2 (t_lt.mpr y)
        rw [show (97 : Int32).toInt = 97 from rfl] at z1
        rw [show (57 : Int32).toInt = 57 from rfl] at z2
        omega
      have nx := noL (fun z => nl z.2)
      rw [if_pos d]
      exact ⟨⟨fun z => absurd (Or.inl (by show ¬ (-2 : Int32) = -3; decide)) z.1, fun z => absurd z.1 nx⟩, fun z => absurd z.1 nx⟩
    · rw [if_neg d]
      by_cases l : low (X s)
      · rw [if_pos l]
        have lb := spl_b X (L - s) s
        have eL : (nI (spl X (L - s) s) - nI s = nI (sB.getD w []).length) ↔ spl X (L - s) s = s + (sB.getD w []).length := by
          constructor
          · intro z
            have z2 : (nI (spl X (L - s) s) - nI s).toInt = (sB.getD w []).length := by rw [z, t_nI (by omega)]
            rw [t_sub (by rw [t_nI (by omega), t_nI (by omega)]; omega) (by rw [t_nI (by omega), t_nI (by omega)]; omega), t_nI (by omega), t_nI (by omega)] at z2
            omega
          · intro z
            apply Int32.toInt_inj.mp
            rw [t_sub (by rw [t_nI (by omega), t_nI (by omega)]; omega) (by rw [t_nI (by omega), t_nI (by omega)]; omega), t_nI (by omega), t_nI (by omega), t_nI (by omega)]
            omega
        show (¬ (¬ (-3 : Int32) = -3 ∨ ¬ nI (spl X (L - s) s) - nI s = nI (sB.getD w []).length) ∧ _ ↔ _) ∧ (_ → nI (spl X (L - s) s) = _)
        rw [eL]
        refine ⟨⟨fun z => ⟨Decidable.not_not.mp (fun y => z.1 (Or.inr y)), z.2⟩, fun z => ⟨fun y => y.elim (fun y => y rfl) (fun y => y z.1), z.2⟩⟩, fun z => by rw [z.1]⟩
      · rw [if_neg l]
        have nx := noL (fun z => l z.2)
        show (¬ (¬ X s &&& 255 = -3 ∨ _) ∧ _ ↔ _) ∧ _
        rw [hb.2.2.2.1]
        refine ⟨⟨fun z => absurd (Or.inl (fun y => ?_)) z.1, fun z => absurd z.1 nx⟩, fun z => absurd z.1 nx⟩
        have y2 : (nI j).toInt = -3 := by rw [← ej, y]; rfl
        rw [t_nI (by omega)] at y2
        omega
  · have nx := noL (fun z => by omega)
    rw [if_pos q]
    exact ⟨⟨fun z => absurd (Or.inl (by show ¬ (-1 : Int32) = -3; decide)) z.1, fun z => absurd z.1 nx⟩, fun z => absurd z.1 nx⟩
end TYF
