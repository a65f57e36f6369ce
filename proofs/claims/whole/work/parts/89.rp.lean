/-! ===== the row and the row whose pipes are emptied as they arrive ===== -/
def AQ (n : Nat) (D E : Nat → Int32) : Prop := ∀ j, (∀ i, i < n → i < 16 → j ≠ 13 + 13 * i + 6) → E j = D j
theorem AQ.u {n : Nat} {D E : Nat → Int32} (h : AQ n D E) (j : Nat) {x y : Int32} (e : (∀ i, i < n → i < 16 → j ≠ 13 + 13 * i + 6) → y = x) : AQ n (upd D j x) (upd E j y) := by
  intro i hi
  by_cases q : i = j
  · subst q
    rw [upd_s, upd_s]
    exact e hi
  · rw [upd_n _ _ q, upd_n _ _ q]
    exact h i hi
theorem AQ.m {n k : Nat} {D E : Nat → Int32} (h : AQ n D E) (hk : n ≤ k) : AQ k D E := fun j hj => h j (fun i hi h16 => hj i (by omega) h16)
theorem ag_en {n : Nat} {D E : Nat → Int32} (h : AQ n D E) (c : Nat) (a : Int32) : AQ n (enD D c a) (enD E c a) := by
  have e1 : enH E c a = enH D c a := by unfold enH; rw [h _ (fun i hi h16 => by omega)]
  have e2 : enT E c a = enT D c a := by unfold enT; rw [e1, h _ (fun i hi h16 => by omega)]
  unfold enD
  rw [e1, e2, h 9 (fun i hi h16 => by omega), h 10 (fun i hi h16 => by omega), h (13 + 13 * c + 1) (fun i hi h16 => by omega)]
  refine ((h.u 9 (fun _ => rfl)).u 10 (fun _ => rfl)).u _ (fun q => ?_)
  rw [h _ q]
theorem ag_ir {n : Nat} {D E O : Nat → Int32} {c v : Int32} (h : AQ n D E) (a : Int32) : (irR E O c a v).1 = (irR D O c a v).1 ∧ AQ n (irR D O c a v).2 (irR E O c a v).2 := by
  unfold irR
  rw [h 1 (fun i hi h16 => by omega)]
  have key : ∀ q k (z y : Int32 × (Nat → Int32)), y.1 = z.1 → AQ n z.2 y.2 → (itr (irA O c v) q k y).1 = (itr (irA O c v) q k z).1 ∧ AQ n (itr (irA O c v) q k z).2 (itr (irA O c v) q k y).2 := by
    intro q
    induction q with
    | zero => exact fun _ _ _ h1 h2 => ⟨h1, h2⟩
    | succ q ih =>
      intro k z y h1 h2
      have e0 := h2 (221 + 11 * k) (fun i hi h16 => by omega)
      have e1 := h2 (221 + 11 * k + 1) (fun i hi h16 => by omega)
      have e2 := h2 (221 + 11 * k + 2) (fun i hi h16 => by omega)
      have e7 := h2 (221 + 11 * k + 7) (fun i hi h16 => by omega)
      have e8 := h2 (221 + 11 * k + 8) (fun i hi h16 => by omega)
      have e9 := h2 (221 + 11 * k + 9) (fun i hi h16 => by omega)
      have s : (irA O c v k y).1 = (irA O c v k z).1 ∧ AQ n (irA O c v k z).2 (irA O c v k y).2 := by
        unfold irA
        rw [e0, e1, e2, e7, e8, e9, h1]
        split
        · refine ⟨rfl, ?_⟩
          dsimp only
          split
          · exact (h2.u _ (fun _ => rfl)).u _ (fun _ => rfl)
          · exact ((h2.u _ (fun _ => rfl)).u _ (fun _ => rfl)).u _ (fun _ => rfl)
        · exact ⟨h1, h2⟩
      exact ih (k + 1) _ _ s.1 s.2
  exact key _ 0 _ _ rfl h
theorem ag_ch {n : Nat} {D E : Nat → Int32} (L : Nat → Int32) (h : AQ n D E) (c : Int32) (k : Nat) : chD E L c k = chD D L c k := by
  unfold chD
  rw [h _ (fun i hi h16 => by omega)]
theorem ag_dL {n : Nat} {D E : Nat → Int32} (L : Nat → Int32) (h : AQ n D E) (c : Nat) : ∀ k z, ddL E L c k z = ddL D L c k z
  | 0, _ => rfl
  | k + 1, z => by
    unfold ddL
    have e : ddA E L (nI c) (k + 1) z = ddA D L (nI c) (k + 1) z := by
      unfold ddA
      rw [h (13 + 13 * (k + 1) + 4) (fun i hi h16 => by omega)]
      have p := ag_ch L h (nI c) (k + 1)
      by_cases q : chD D L (nI c) (k + 1)
      · rw [if_pos q, if_pos (by rw [p]; exact q)]
      · rw [if_neg q, if_neg (by rw [p]; exact q)]
    rw [e, ag_dL L h c k]
theorem ag_dG {n : Nat} {D E : Nat → Int32} (L : Nat → Int32) (h : AQ n D E) (c a s : Int32) : ∀ q k z, itr (ddG E L c a s) q k z = itr (ddG D L c a s) q k z
  | 0, _, _ => rfl
  | q + 1, k, z => by
    have e : ddG E L c a s k z = ddG D L c a s k z := by
      unfold ddG
      rw [h (13 + 13 * k + 4) (fun i hi h16 => by omega)]
      have p := ag_ch L h c k
      by_cases q : chD D L c k
      · rw [if_pos q, if_pos (by rw [p]; exact q)]
      · rw [if_neg q, if_neg (by rw [p]; exact q)]
    show itr (ddG E L c a s) q (k + 1) (ddG E L c a s k z) = itr (ddG D L c a s) q (k + 1) (ddG D L c a s k z)
    rw [e, ag_dG L h c a s q (k + 1)]
theorem ag_dE {n : Nat} (L : Nat → Int32) (c a s fi gi : Int32) : ∀ q k (D E : Nat → Int32), AQ n D E → AQ n (itr (ddE L c a s fi gi) q k D) (itr (ddE L c a s fi gi) q k E)
  | 0, _, _, _, h => h
  | q + 1, k, D, E, h => by
    refine ag_dE L c a s fi gi q (k + 1) (ddE L c a s fi gi k D) (ddE L c a s fi gi k E) ?_
    unfold ddE
    rw [h (13 + 13 * k + 4) (fun i hi h16 => by omega)]
    have p := ag_ch L h c k
    by_cases q : chD D L c k
    · rw [if_pos q, if_pos (show chD E L c k by rw [p]; exact q)]
      exact ag_en h _ _
    · rw [if_neg q, if_neg (by rw [p]; exact q)]
      exact h
theorem ag_dv {n : Nat} {D E : Nat → Int32} (L : Nat → Int32) (h : AQ n D E) (c : Nat) (a : Int32) : AQ n (dvD D L c a) (dvD E L c a) := by
  unfold dvD
  try dsimp only
  rw [h 0 (fun i hi h16 => by omega), ag_dL L h c, ag_dG L h, h 9 (fun i hi h16 => by omega)]
  split
  · exact h.u 9 (fun _ => rfl)
  · exact ag_dE L _ _ _ _ _ _ _ _ _ h
theorem ag_ca {D E : Nat → Int32} (O L : Nat → Int32) (v : Int32) {c : Nat} (hc : c < 16) (h : AQ c D E) : AQ (c + 1) (caD O L v c D) (caV O L v c E) := by
  have e6 : E (13 + 13 * c + 6) = D (13 + 13 * c + 6) := h _ (fun i hi h16 => by omega)
  have h1 : AQ (c + 1) (upd D (13 + 13 * c + 5) (D (13 + 13 * c + 6))) (arV E c) := by
    intro j hj
    unfold arV
    rw [upd_n _ _ (hj c (by omega) hc), e6]
    exact ((h.m (Nat.le_succ c)).u (13 + 13 * c + 5) (fun _ => rfl)) j hj
  obtain ⟨i1, i2⟩ := ag_ir (O := O) (c := nI c) (v := v) h1 (D (13 + 13 * c + 6))
  unfold caD caV caZ cvZ
  rw [e6, i1]
  exact ag_dv L i2 c _
theorem ag_cl (O L : Nat → Int32) (v : Int32) : ∀ q c (D E : Nat → Int32), c + q ≤ 16 → AQ c D E → AQ (c + q) (itr (caD O L v) q c D) (itr (caV O L v) q c E)
  | 0, _, _, _, _, h => h
  | q + 1, c, D, E, hc, h => by
    have := ag_cl O L v q (c + 1) _ _ (by omega) (ag_ca O L v (by omega) h)
    rw [show c + (q + 1) = c + 1 + q by omega]
    exact this
theorem ag_dr {n : Nat} {D E : Nat → Int32} (h : AQ n D E) (k : Nat) : AQ n (drD D k) (drD E k) := by
  have e4 := h (221 + 11 * k + 4) (fun i hi h16 => by omega)
  have e5 := h (221 + 11 * k + 5) (fun i hi h16 => by omega)
  have e6 := h (221 + 11 * k + 6) (fun i hi h16 => by omega)
  have e7 := h (221 + 11 * k + 7) (fun i hi h16 => by omega)
  have e9 := h 9 (fun i hi h16 => by omega)
  have e11 := h 11 (fun i hi h16 => by omega)
  have eS : drS E k = drS D k := by unfold drS; rw [e5, e7]
  have eA : drA E k = drA D k := by unfold drA; rw [eS, e4, e7]
  have h2 : AQ n (dr2 D k) (dr2 E k) := by
    unfold dr2
    rw [eS, e7, e11]
    exact (h.u _ (fun _ => rfl)).u _ (fun _ => rfl)
  have h3 : AQ n (dr3 D k) (dr3 E k) := by
    unfold dr3
    rw [eS, eA, e7]
    exact h2.u _ (fun _ => rfl)
  unfold drD
  rw [eA, e6, e9]
  split
  · exact h2
  · split
    · exact h3.u _ (fun _ => rfl)
    · exact h3.u _ (fun q => by rw [h3 _ q])
theorem ag_drL {n : Nat} : ∀ k (D E : Nat → Int32), AQ n D E → AQ n (drL k D) (drL k E)
  | 0, _, _, h => h
  | k + 1, _, _, h => ag_drL k _ _ (ag_dr h k)
theorem ag_gu {n : Nat} {D E : Nat → Int32} (h : AQ n D E) (hg : 377 + (D 4).toNatClampNeg < 2000 → True) (hn : n ≤ 16) : guD E = guD D := by
  unfold guD
  rw [h 3 (fun i hi h16 => by omega), h 4 (fun i hi h16 => by omega), h (377 + (D 4).toNatClampNeg) (fun i hi h16 => by omega)]
theorem ag_pa {n : Nat} (hn : n ≤ 16) {D E : Nat → Int32} (h : AQ n D E) : AQ n (paD D) (paD E) := by
  have key : ∀ q k (D E : Nat → Int32), AQ n D E → AQ n (itr paA q k D) (itr paA q k E) := by
    intro q
    induction q with
    | zero => exact fun _ _ _ h => h
    | succ q ih =>
      intro k D E h
      refine ih (k + 1) (paA k D) (paA k E) ?_
      unfold paA
      rw [ag_gu h (fun _ => trivial) hn, h (221 + 11 * k) (fun i hi h16 => by omega), h (221 + 11 * k + 1) (fun i hi h16 => by omega), h (221 + 11 * k + 10) (fun i hi h16 => by omega)]
      split
      · have h1 := h.u (221 + 11 * k + 10) (x := 0) (y := 0) (fun _ => rfl)
        exact h1.u _ (fun q => by rw [h1 _ q])
      · exact h
  unfold paD
  rw [h 3 (fun i hi h16 => by omega), h 1 (fun i hi h16 => by omega)]
  split
  · exact h
  · refine key _ 0 _ _ ?_
    unfold paG
    rw [h 3 (fun i hi h16 => by omega), h 4 (fun i hi h16 => by omega)]
    exact h.u 4 (fun _ => rfl)
theorem ag_sh {n : Nat} {D E : Nat → Int32} (h : AQ n D E) : itr shD n 0 D = itr shD n 0 E := by
  funext j
  by_cases p : ∃ i x, i < n ∧ x ≤ 6 ∧ j = 13 + 13 * i + 6 + x
  · obtain ⟨i, x, hi, hx, rfl⟩ := p
    rw [shL_i i hx n 0 D, shL_i i hx n 0 E, if_pos (by omega)]
    rw [if_pos (by omega : 0 ≤ i ∧ i < 0 + n)]
    split
    · exact (h _ (fun k hk h16 => by omega)).symm
    · rfl
  · rw [shL_o n 0 D (fun i x a1 a2 a3 e => p ⟨i, x, by omega, a3, e⟩), shL_o n 0 E (fun i x a1 a2 a3 e => p ⟨i, x, by omega, a3, e⟩)]
    exact (h j (fun i hi _ e => p ⟨i, 0, hi, by decide, e⟩)).symm
