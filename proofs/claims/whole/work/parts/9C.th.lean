/-! ===== the inflow expression, read by both ===== -/
/-- the height that codes lead to -/
def hgt : List Tk → Nat → Nat → Prop
  | [], a, b => a = b
  | t :: l, a, b => if t.1 ≤ 1 then a < 11 ∧ hgt l (a + 1) b else 2 ≤ a ∧ hgt l (a - 1) b
theorem hgt_a : ∀ (l k : List Tk) (a b c : Nat), hgt l a b → hgt k b c → hgt (l ++ k) a c
  | [], _, a, b, c, h, g => by
    have h : a = b := h
    subst h
    exact g
  | t :: l, k, a, b, c, h, g => by
    unfold hgt at h
    show hgt (t :: (l ++ k)) a c
    unfold hgt
    split at h
    · rename_i q
      rw [if_pos q]
      exact ⟨h.1, hgt_a l k _ b c h.2 g⟩
    · rename_i q
      rw [if_neg q]
      exact ⟨h.1, hgt_a l k _ b c h.2 g⟩
theorem hgt_o : ∀ (l : List Tk) (a b : Nat), hgt l a b → 0 < b → hok l a
  | [], a, b, h, hb => by
    have h : a = b := h
    subst h
    exact hb
  | t :: l, a, b, h, hb => by
    unfold hgt at h
    unfold hok
    split at h
    · rename_i q
      rw [if_pos q]
      exact ⟨h.1, hgt_o l _ b h.2 hb⟩
    · rename_i q
      rw [if_neg q]
      exact ⟨h.1, hgt_o l _ b h.2 hb⟩
theorem hgt_p {l : List Tk} {a b : Nat} {t : Tk} (h : hgt l a b) (ht : t.1 ≤ 1) (hb : b < 11) : hgt (l ++ [t]) a (b + 1) := hgt_a l [t] a b (b + 1) h (by unfold hgt; rw [if_pos ht]; exact ⟨hb, rfl⟩)
theorem hgt_q {l : List Tk} {a b : Nat} {t : Tk} (h : hgt l a b) (ht : ¬ t.1 ≤ 1) (hb : 2 ≤ b) : hgt (l ++ [t]) a (b - 1) := hgt_a l [t] a b (b - 1) h (by unfold hgt; rw [if_neg ht]; exact ⟨hb, rfl⟩)
theorem ge_s {α : Type} {l : List α} {i : Nat} {c : α} (h : l[i]? = some c) : i < l.length := by
  rcases Nat.lt_or_ge i l.length with z | z
  · exact z
  · rw [List.getElem?_eq_none z] at h
    cases h
theorem ge_a {α : Type} (l : List α) (t : α) {i : Nat} {c : α} (h : (l ++ [t])[i]? = some c) : (i < l.length ∧ l[i]? = some c) ∨ (i = l.length ∧ c = t) := by
  have hi := ge_s h
  rw [List.length_append, List.length_singleton] at hi
  rcases Nat.lt_or_ge i l.length with z | z
  · left
    rw [List.getElem?_append_left z] at h
    exact ⟨z, h⟩
  · right
    have e : i = l.length := by omega
    subst e
    rw [List.getElem?_append_right (Nat.le_refl _), Nat.sub_self] at h
    exact ⟨rfl, by cases h; rfl⟩
/-- the codes of the row alone -/
def FE (E : Nat → Int32) (e : List Int32) : Prop := E 7 = nI e.length ∧ ∀ i c, e[i]? = some c → E (393 + i) = c
theorem fe_em {N : Mm} {m : Nat} {e : List Int32} {v : Int32} (h : FE (gI N (m + 3)) e) (h5 : gI N m 5 = 0) (he : e.length < 2 ^ 30) : FE (gI (emN N m v) (m + 3)) (e ++ [v]) := by
  obtain ⟨h7, hc⟩ := h
  have e3 : gI (emN N m v) (m + 3) = upd (upd (gI N (m + 3)) (393 + e.length) v) 7 (nI (e.length + 1)) := by
    unfold emN
    rw [if_neg (fun z => z h5), gI_s, h7, nI_clamp (by omega), show nI e.length + 1 = nI (e.length + 1) from nI_add _ 1]
  rw [e3]
  refine ⟨by rw [upd_s, List.length_append]; rfl, fun i c hi => ?_⟩
  rw [upd_n _ _ (by omega)]
  rcases ge_a e v hi with ⟨a, b⟩ | ⟨a, b⟩
  · rw [upd_n _ _ (by omega)]
    exact hc i c b
  · rw [a, b, upd_s]
theorem em_5 (N : Mm) (m : Nat) (v : Int32) : gI (emN N m v) m = gI N m := by
  unfold emN
  split
  · rfl
  · exact gI_f _ _ (by omega)
theorem em_1 (N : Mm) (m : Nat) (v : Int32) : gI (emN N m v) (m + 1) = gI N (m + 1) := by
  unfold emN
  split
  · rfl
  · exact gI_f _ _ (by omega)
theorem FQ.fe {P : Mm} {q : Nat} {E : Nat → Int32} {l : List Tk} (h : FQ P q E l) : FE E (enc l) := ⟨h.2.2.1, h.2.2.2.1⟩
/-- one code more -/
theorem fq_a1 {P : Mm} {r : Nat} {E F : Nat → Int32} {l : List Tk} {t : Tk} (h : FQ P (r + 30) E l) (hl : l.length < 900) (ht : tok1 t) (hF : FE F (enc l ++ encT t)) : FQ (adM P (r + 30) (xc t)) (r + 30) F (l ++ [t]) := by
  obtain ⟨h1, h2, h3, h4, h5⟩ := h
  have eA : adM P (r + 30) (xc t) = sI (sI P (r + 31) (upd (gI P (r + 31)) l.length (xc t))) (r + 30) (upd (gI P (r + 30)) 2 (nI (l.length + 1))) := by
    unfold adM
    rw [h1, if_pos (show nI l.length < 900 from (nI_ltI (a := l.length) (b := 900) (by omega) (by decide)).mpr hl), nI_clamp (by omega), show nI l.length + 1 = nI (l.length + 1) from nI_add _ 1]
  have ee : enc (l ++ [t]) = enc l ++ encT t := by
    rw [enc_a]
    show enc l ++ (encT t ++ []) = _
    rw [List.append_nil]
  refine ⟨?_, fun i u hi => ?_, by rw [ee]; exact hF.1, by rw [ee]; exact hF.2, fun u hu => ?_⟩
  · rw [eA, gI_s, upd_s, List.length_append]
    rfl
  · rw [eA, gI_f _ _ (by omega), show r + 30 + 1 = r + 31 from rfl, gI_s]
    rcases ge_a l t hi with ⟨a, b⟩ | ⟨a, b⟩
    · rw [upd_n _ _ (by omega)]
      exact h2 i u b
    · rw [a, b, upd_s]
  · rcases List.mem_append.mp hu with z | z
    · exact h5 u z
    · rw [List.mem_singleton.mp z]
      exact ht
theorem FQ.c {P Q : Mm} {q : Nat} {E : Nat → Int32} {l : List Tk} (h : FQ P q E l) (g0 : gI Q q = gI P q) (g1 : gI Q (q + 1) = gI P (q + 1)) : FQ Q q E l := by
  unfold FQ at h ⊢
  rw [g0, g1]
  exact h
theorem enc_l : ∀ l : List Tk, (enc l).length ≤ 2 * l.length
  | [] => Nat.le_refl _
  | t :: l => by
    have h := enc_l l
    show (encT t ++ enc l).length ≤ 2 * (l.length + 1)
    rw [List.length_append]
    have : (encT t).length ≤ 2 := by
      unfold encT
      split
      · exact Nat.le_refl _
      · show 1 ≤ 2
        decide
    omega
theorem po_rz {P N N' : Mm} {r m a k : Nat} (h : RZ a 0 N' N m) (hT : TY P r N m) (h7 : gI N (m + 3) 7 = nI k) : 3 * mPo N m + a ≤ 3 * mPo N' m ∧ mPo N' m ≤ 900 := by
  obtain ⟨L, p, hL, hp, -, ⟨h3, h4⟩, -⟩ := hT
  obtain ⟨p', k', a1, a2, a3, a4, -, a6⟩ := h.2.2.2.2 L p k hL hp h3 h4 h7
  unfold mPo
  rw [h4, a4, nI_clamp (by omega), nI_clamp (by omega)]
  omega
/-- what both functions do to the two readers -/
def SF (r m h ne : Nat) (g f : Mm → Mm) : Prop := ∀ (P N : Mm) (l : List Tk) (a c : Nat), TY P r N m → FQ P (r + 30) (gI N (m + 3)) l → hgt l 0 a → a ≤ h → l.length + c ≤ mPo N m → gI N m 14 = nI ne →
  (TY (g P) r (f N) m ∧ (∃ l', FQ (g P) (r + 30) (gI (f N) (m + 3)) l' ∧ hgt l' 0 (a + 1) ∧ l'.length + c ≤ mPo (f N) m) ∧ (∀ q, q ≠ r + 1 → q ≠ r + 30 → q ≠ r + 31 → gI (g P) q = gI P q) ∧ gI (f N) m 14 = nI ne) ∨ ER (g P) r (f N) m
def XE (r : Nat) (g : Mm → Mm) : Prop := ∀ P, xe (g P) P r
def ME (m : Nat) (f : Mm → Mm) : Prop := ∀ N, me (f N) N m
theorem tok_s {o : Int32} (h : o = 2 ∨ o = 3 ∨ o = 4 ∨ o = 5) : tok1 (o, 0) ∧ ¬ (o, (0 : Int32)).1 ≤ 1 ∧ xc (o, 0) = -2 - o := by
  refine ⟨Or.inr (Or.inr h), ?_, ?_⟩
  · rcases h with rfl | rfl | rfl | rfl <;> decide
  · rcases h with rfl | rfl | rfl | rfl <;> decide
/-- what follows a first operand -/
theorem sf_op {r m h ne : Nat} {a b ca cb oa ob : Int32} {g f : Mm → Mm} (ha : a = 40 ∨ a = 41 ∨ a = 42 ∨ a = 43 ∨ a = 45 ∨ a = 47 ∨ a = 59) (hb : b = 40 ∨ b = 41 ∨ b = 42 ∨ b = 43 ∨ b = 45 ∨ b = 47 ∨ b = 59) (hab : ¬ a = b) (h1 : oa = 2 ∨ oa = 3 ∨ oa = 4 ∨ oa = 5) (h2 : ob = 2 ∨ ob = 3 ∨ ob = 4 ∨ ob = 5) (ea : ca = -2 - oa) (eb : cb = -2 - ob) (hg : XE r g) (hf : ME m f) (hS : SF r m (h + 1) ne g f) (rzf : gdz m f) :
    ∀ (q : Nat) (P N : Mm) (l : List Tk) (x c : Nat), TY P r N m → FQ P (r + 30) (gI N (m + 3)) l → hgt l 0 (x + 1) → x ≤ h → l.length + c ≤ mPo N m → gI N m 14 = nI ne →
      (TY (opL r a b ca cb g q P) r (opZ m a b oa ob f q N) m ∧ (∃ l', FQ (opL r a b ca cb g q P) (r + 30) (gI (opZ m a b oa ob f q N) (m + 3)) l' ∧ hgt l' 0 (x + 1) ∧ l'.length + c ≤ mPo (opZ m a b oa ob f q N) m) ∧ (∀ q', q' ≠ r + 1 → q' ≠ r + 30 → q' ≠ r + 31 → gI (opL r a b ca cb g q P) q' = gI P q') ∧ gI (opZ m a b oa ob f q N) m 14 = nI ne) ∨ ER (opL r a b ca cb g q P) r (opZ m a b oa ob f q N) m
  | 0, P, N, l, x, c, hT, hQ, hh, hx, hl, hn => by
    left
    have eZ : opZ m a b oa ob f 0 N = nxN N m := if_pos hT.z.2
    rw [eZ]
    have pr := po_rz (rz_nx N m) hT hQ.2.2.1
    refine ⟨hT.nx, ⟨l, by rw [nx_e.2.2.1]; exact hQ, hh, by omega⟩, fun _ _ _ _ => rfl, ?_⟩
    unfold nxN
    rw [ps_n _ _ _ (by decide)]
    exact hn
  | q + 1, P, N, l, x, c, hT, hQ, hh, hx, hl, hn => by
    obtain ⟨p0, n0⟩ := hT.z
    obtain ⟨sa, ta⟩ := ty_sg hT ha
    obtain ⟨sb', tb⟩ := ty_sg hT hb
    by_cases hs : nxc N m = a ∨ nxc N m = b
    · have eL : opL r a b ca cb g (q + 1) P = opL r a b ca cb g q (adM (g (nxM P (r + 1))) (r + 30) (if gI P (r + 1) 2 = a then ca else cb)) := if_pos ⟨p0, hs.elim (fun z => Or.inl (sa.mpr z)) (fun z => Or.inr (sb'.mpr z))⟩
      have eZ : opZ m a b oa ob f (q + 1) N = opZ m a b oa ob f q (emN (f (psM N m (nxp N m + 1))) m (if nxc N m = a then oa else ob)) := if_pos ⟨n0, hs⟩
      rw [eL, eZ]
      have hT1 : TY (nxM P (r + 1)) r (psM N m (nxp N m + 1)) m := hs.elim ta tb
      have nc : ¬ nxc N m = -1 := by
        rcases hs with z | z
        · rw [z]; rcases ha with rfl | rfl | rfl | rfl | rfl | rfl | rfl <;> decide
        · rw [z]; rcases hb with rfl | rfl | rfl | rfl | rfl | rfl | rfl <;> decide
      have pr := po_rz (rz_c nc) hT hQ.2.2.1
      have ho : ∃ o : Int32, (o = 2 ∨ o = 3 ∨ o = 4 ∨ o = 5) ∧ (if nxc N m = a then oa else ob) = o ∧ (if gI P (r + 1) 2 = a then ca else cb) = -2 - o := by
        by_cases z : nxc N m = a
        · rw [if_pos z, if_pos (sa.mpr z)]
          exact ⟨oa, h1, rfl, ea⟩
        · rw [if_neg z, if_neg (fun y => z (sa.mp y))]
          exact ⟨ob, h2, rfl, eb⟩
      obtain ⟨o, o1, o2, o3⟩ := ho
      rw [o2, o3]
      obtain ⟨k1, k2, k3⟩ := tok_s o1
      rcases hS (nxM P (r + 1)) (psM N m (nxp N m + 1)) l (x + 1) (c + 1) hT1 (by rw [ps_3]; exact hQ.c (gI_nx _ (by omega)) (gI_nx _ (by omega))) hh (by omega) (by omega) (by rw [ps_n _ _ _ (by decide)]; exact hn) with ⟨i1, ⟨l', i2, i3, i4⟩, i5, i6⟩ | e
      · obtain ⟨-, n1⟩ := i1.z
        have pr2 := po_rz (RZ.r (f (psM N m (nxp N m + 1))) m) i1 i2.2.2.1
        have l9 : l'.length < 900 := by omega
        have le := enc_l l'
        have f1 : FQ (adM (g (nxM P (r + 1))) (r + 30) (-2 - o)) (r + 30) (gI (emN (f (psM N m (nxp N m + 1))) m o) (m + 3)) (l' ++ [(o, 0)]) := by
          rw [← k3]
          refine fq_a1 i2 l9 k1 ?_
          have : encT (o, 0) = [o] := if_neg k2
          rw [this]
          exact fe_em i2.fe n1 (by omega)
        have t1 : TY (adM (g (nxM P (r + 1))) (r + 30) (-2 - o)) r (emN (f (psM N m (nxp N m + 1))) m o) m := (i1.cP (by rw [gI_ad _ _ (by omega) (by omega)]) (gI_ad _ _ (by omega) (by omega)) (gI_ad _ _ (by omega) (by omega))).cN (by rw [em_5]) (by rw [em_5]) (by rw [em_5]) (em_1 _ _ _)
        have mp : mPo (emN (f (psM N m (nxp N m + 1))) m o) m = mPo (f (psM N m (nxp N m + 1))) m := by unfold mPo; rw [em_5]
        have hh2 : hgt (l' ++ [(o, (0 : Int32))]) 0 (x + 1) := hgt_q i3 k2 (by omega)
        rcases sf_op ha hb hab h1 h2 ea eb hg hf hS rzf q _ _ _ x c t1 f1 hh2 hx (by rw [mp, List.length_append]; show l'.length + 1 + c ≤ _; omega) (by rw [em_5]; exact i6) with ⟨j1, j2, j3, j4⟩ | e
        · exact Or.inl ⟨j1, j2, fun q' a1 a2 a3 => by rw [j3 q' a1 a2 a3, gI_ad _ _ a2 a3, i5 q' a1 a2 a3, gI_nx _ a1], j4⟩
        · exact Or.inr e
      · right
        have e2 : ER (adM (g (nxM P (r + 1))) (r + 30) (-2 - o)) r (emN (f (psM N m (nxp N m + 1))) m o) m := e.k (xe_ad _ _ _) (me_em _ _ _)
        have x3 : ¬ gI (adM (g (nxM P (r + 1))) (r + 30) (-2 - o)) r 3 = 0 := by rw [e2.2.1]; exact e2.1
        have eL2 : opL r a b ca cb g q (adM (g (nxM P (r + 1))) (r + 30) (-2 - o)) = adM (g (nxM P (r + 1))) (r + 30) (-2 - o) := by
          cases q with
          | zero => rfl
          | succ q => exact if_neg (fun z => x3 z.1)
        rw [eL2, op_0 e2.1]
        exact e2
    · have eL : opL r a b ca cb g (q + 1) P = P := if_neg (fun z => hs (z.2.elim (fun y => Or.inl (sa.mp y)) (fun y => Or.inr (sb'.mp y))))
      have eZ : opZ m a b oa ob f (q + 1) N = nxN N m := (if_neg (fun z => hs z.2)).trans (if_pos n0)
      rw [eL, eZ]
      have pr := po_rz (rz_nx N m) hT hQ.2.2.1
      exact Or.inl ⟨hT.nx, ⟨l, by rw [nx_e.2.2.1]; exact hQ, hh, by omega⟩, fun _ _ _ _ => rfl, by unfold nxN; rw [ps_n _ _ _ (by decide)]; exact hn⟩
