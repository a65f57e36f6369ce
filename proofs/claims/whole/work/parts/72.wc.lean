/-! ===== the water of a row: dividing ===== -/
theorem t_0lt {b : Int32} : 0 < b ↔ 0 < b.toInt := t_lt
def uS (F : Nat → Int) : Nat → Nat → Int
  | _, 0 => 0
  | k, r + 1 => F k + uS F (k + 1) r
theorem uS_l (F : Nat → Int) : ∀ r k, uS F k (r + 1) = uS F k r + F (k + r)
  | 0, k => by simp [uS]
  | r + 1, k => by
    have h := uS_l F r (k + 1)
    have e : k + 1 + r = k + (r + 1) := by omega
    rw [e] at h
    show F k + uS F (k + 1) (r + 1) = F k + uS F (k + 1) r + F (k + (r + 1))
    omega
theorem uS_0 {F : Nat → Int} : ∀ r k, (∀ i, k ≤ i → i < k + r → 0 ≤ F i) → 0 ≤ uS F k r
  | 0, _, _ => Int.le_refl _
  | r + 1, k, h => by
    have h1 := h k (Nat.le_refl _) (by omega)
    have h2 := uS_0 r (k + 1) (fun i a b => h i (by omega) (by omega))
    unfold uS
    omega
theorem uS_e {F H : Nat → Int} : ∀ r k, (∀ i, k ≤ i → i < k + r → F i = H i) → uS F k r = uS H k r
  | 0, _, _ => rfl
  | r + 1, k, h => by
    unfold uS
    rw [h k (Nat.le_refl _) (by omega), uS_e r (k + 1) (fun i a b => h i (by omega) (by omega))]
theorem uS_p (F H : Nat → Int) : ∀ r k, uS (fun i => F i + H i) k r = uS F k r + uS H k r
  | 0, _ => rfl
  | r + 1, k => by
    have h := uS_p F H r (k + 1)
    unfold uS
    omega
theorem uS_1 (v : Int) (j : Nat) : ∀ r k, uS (fun i => if i = j then v else 0) k r = if k ≤ j ∧ j < k + r then v else 0
  | 0, k => by
    rw [if_neg (by omega)]
    rfl
  | r + 1, k => by
    have h := uS_1 v j r (k + 1)
    unfold uS
    rw [h]
    by_cases e : k = j
    · rw [if_pos e, if_neg (by omega), if_pos (by omega)]
      omega
    · rw [if_neg e]
      by_cases g : k + 1 ≤ j ∧ j < k + 1 + r
      · rw [if_pos g, if_pos (by omega)]
        omega
      · rw [if_neg g, if_neg (by omega)]
        omega
theorem uS_m {F : Nat → Int} {a S : Int} (hS : 0 < S) : ∀ r k, uS (fun i => a * F i / S) k r * S ≤ a * uS F k r
  | 0, _ => by simp [uS]
  | r + 1, k => by
    have h := uS_m (F := F) (a := a) hS r (k + 1)
    have h2 : a * F k / S * S ≤ a * F k := Int.ediv_mul_le _ (by omega)
    unfold uS
    rw [Int.add_mul, Int.mul_add]
    omega
/-- the share of an open child -/
def shI (D L : Nat → Int32) (c k : Nat) : Int := if chD D L (nI c) k then (D (13 + 13 * k + 4)).toInt else 0
def suD (D L : Nat → Int32) (c : Nat) : Nat → Int
  | 0 => 0
  | k + 1 => if c < k + 1 then shI D L c (k + 1) + suD D L c k else 0
theorem suD_u (D L : Nat → Int32) (c : Nat) : ∀ r, suD D L c (c + r) = uS (shI D L c) (c + 1) r
  | 0 => by
    cases c with
    | zero => rfl
    | succ c => unfold suD uS; rw [if_neg (by omega)]
  | r + 1 => by
    rw [uS_l, ← suD_u D L c r]
    show (if c < c + r + 1 then shI D L c (c + r + 1) + suD D L c (c + r) else 0) = _
    rw [if_pos (by omega), show c + 1 + r = c + r + 1 by omega]
    omega
theorem ddL_s {D L : Nat → Int32} {c : Nat} : ∀ k (z : Int32 × Int32), (∀ i, i ≤ k → 0 ≤ shI D L c i ∧ shI D L c i ≤ 99) → 0 ≤ z.1.toInt → z.1.toInt + 99 * k < 100000 → (ddL D L c k z).1.toInt = z.1.toInt + suD D L c k
  | 0, z, _, _, _ => by
    show z.1.toInt = z.1.toInt + 0
    omega
  | k + 1, z, hs, h0, h1 => by
    unfold ddL suD
    split
    · have hk := hs (k + 1) (Nat.le_refl _)
      have e : (ddA D L (nI c) (k + 1) z).1.toInt = z.1.toInt + shI D L c (k + 1) := by
        unfold shI at hk ⊢
        unfold ddA
        split
        · rename_i g
          rw [if_pos g] at hk
          exact t_add (by omega) (by omega)
        · omega
      rw [ddL_s k _ (fun i hi => hs i (by omega)) (by omega) (by omega), e]
      omega
    · omega
theorem ddL_f {D L : Nat → Int32} {c : Nat} : ∀ k (z : Int32 × Int32), ((ddL D L c k z).2 = z.2 ∧ ∀ i, c < i → i ≤ k → shI D L c i ≤ 0) ∨ ∃ j, c < j ∧ j ≤ k ∧ (ddL D L c k z).2 = nI j ∧ 0 < shI D L c j ∧ ∀ i, c < i → i < j → shI D L c i ≤ 0
  | 0, z => Or.inl ⟨rfl, fun i _ _ => by omega⟩
  | k + 1, z => by
    unfold ddL
    split
    · rename_i hck
      rcases ddL_f k (ddA D L (nI c) (k + 1) z) with ⟨h1, h2⟩ | ⟨j, j1, j2, j3, j4, j5⟩
      · by_cases hp : 0 < shI D L c (k + 1)
        · refine Or.inr ⟨k + 1, hck, Nat.le_refl _, ?_, hp, fun i a b => h2 i a (by omega)⟩
          rw [h1]
          unfold shI at hp
          unfold ddA
          split at hp
          · rename_i g
            rw [if_pos g]
            exact if_pos (t_0lt.mpr hp)
          · omega
        · refine Or.inl ⟨?_, fun i a b => ?_⟩
          · rw [h1]
            unfold shI at hp
            unfold ddA
            split at hp
            · rename_i g
              rw [if_pos g]
              exact if_neg (fun q => hp (t_0lt.mp q))
            · rename_i g
              rw [if_neg g]
          · rcases Nat.lt_or_ge i (k + 1) with q | q
            · exact h2 i a (by omega)
            · have : i = k + 1 := by omega
              subst this
              omega
      · exact Or.inr ⟨j, j1, by omega, j3, j4, j5⟩
    · exact Or.inl ⟨rfl, fun i _ _ => by omega⟩
/-- what is given by shares -/
def shP (D L : Nat → Int32) (c : Nat) (a S : Int) (k : Nat) : Int := a * shI D L c k / S
theorem dG_s {D L : Nat → Int32} {c : Nat} {a s : Int32} (h0 : 0 ≤ a.toInt) (ha : a.toInt ≤ 9999) (hs : 0 < s.toInt) : ∀ r k (z : Int32), (∀ i, k ≤ i → i < k + r → 0 ≤ shI D L c i ∧ shI D L c i ≤ 99) → 0 ≤ z.toInt → z.toInt + uS (shP D L c a.toInt s.toInt) k r ≤ 9999 → (itr (ddG D L (nI c) a s) r k z).toInt = z.toInt + uS (shP D L c a.toInt s.toInt) k r
  | 0, _, z, _, _, _ => by
    show z.toInt = z.toInt + 0
    omega
  | r + 1, k, z, hh, hz, hb => by
    have hk := hh k (Nat.le_refl _) (by omega)
    have hp : ∀ i, k ≤ i → i < k + (r + 1) → 0 ≤ shP D L c a.toInt s.toInt i := fun i a1 a2 => Int.ediv_nonneg (Int.mul_nonneg h0 (hh i a1 a2).1) (by omega)
    have p0 := hp k (Nat.le_refl _) (by omega)
    have p1 := uS_0 (F := shP D L c a.toInt s.toInt) r (k + 1) (fun i a1 a2 => hp i (by omega) (by omega))
    have hb0 : z.toInt + (shP D L c a.toInt s.toInt k + uS (shP D L c a.toInt s.toInt) (k + 1) r) ≤ 9999 := hb
    have hb1 : z.toInt + shP D L c a.toInt s.toInt k ≤ 9999 := by omega
    have e : (ddG D L (nI c) a s k z).toInt = z.toInt + shP D L c a.toInt s.toInt k := by
      unfold shP shI at p0 hb1 ⊢
      unfold shI at hk
      unfold ddG
      by_cases g : chD D L (nI c) k
      · rw [if_pos g] at hk p0 hb1 ⊢
        rw [if_pos g]
        have m1 : a.toInt * (D (13 + 13 * k + 4)).toInt ≤ a.toInt * 99 := Int.mul_le_mul_of_nonneg_left hk.2 h0
        have m0 : 0 ≤ a.toInt * (D (13 + 13 * k + 4)).toInt := Int.mul_nonneg h0 hk.1
        have e1 : (a * D (13 + 13 * k + 4)).toInt = a.toInt * (D (13 + 13 * k + 4)).toInt := t_mul (by omega) (by omega)
        have e2 : (a * D (13 + 13 * k + 4) / s).toInt = a.toInt * (D (13 + 13 * k + 4)).toInt / s.toInt := by rw [t_div (by omega) hs, e1]
        rw [t_add (by rw [e2]; omega) (by rw [e2]; omega), e2]
      · rw [if_neg g, if_neg g, Int.mul_zero, Int.zero_ediv]
        omega
    show (itr (ddG D L (nI c) a s) r (k + 1) (ddG D L (nI c) a s k z)).toInt = _
    rw [dG_s h0 ha hs r (k + 1) _ (fun i a1 a2 => hh i (by omega) (by omega)) (by omega) (by omega), e]
    show _ = z.toInt + (shP D L c a.toInt s.toInt k + uS (shP D L c a.toInt s.toInt) (k + 1) r)
    omega
/-- what each child gets -/
def dvE (D L : Nat → Int32) (c : Nat) (a S : Int) (j : Nat) (y : Int) (k : Nat) : Int := shP D L c a S k + if k = j then y else 0
set_option maxHeartbeats 1000000 in
theorem dv_w {D L : Nat → Int32} {n f r w g c : Nat} {a : Int32} (hD : WD D n f r w g) (hB : NB D n f) (hc : c < n) (h : WL D a.toInt) (h0 : 0 ≤ a.toInt) (ha : a.toInt ≤ 9999) : WL (dvD D L c a) 0 := by
  have hn : n ≤ 16 := hD.1.1
  have hs : ∀ i, i < n → 0 ≤ shI D L c i ∧ shI D L c i ≤ 99 := by
    intro i hi
    have hb := (hB.1 i hi).2.2
    unfold shI
    split
    · exact hb
    · omega
  unfold dvD
  dsimp only
  rw [hD.2.1.1, nI_clamp (by omega)]
  have eS : (ddL D L c (n - 1) (0, -1)).1.toInt = uS (shI D L c) (c + 1) (n - (c + 1)) := by
    have e := ddL_s (D := D) (L := L) (c := c) (n - 1) (0, -1) (fun i hi => hs i (by omega)) (Int.le_refl _) (by show (0 : Int) + 99 * ((n - 1 : Nat) : Int) < 100000; omega)
    have e2 := suD_u D L c (n - (c + 1))
    rw [show c + (n - (c + 1)) = n - 1 by omega] at e2
    rw [e, e2]
    show (0 : Int) + _ = _
    omega
  have eF := ddL_f (D := D) (L := L) (c := c) (n - 1) (0, -1)
  generalize ddL D L c (n - 1) (0, -1) = z at eS eF
  have hS0 : 0 ≤ uS (shI D L c) (c + 1) (n - (c + 1)) := uS_0 _ _ (fun i a1 a2 => (hs i (by omega)).1)
  by_cases hz : z.1 = 0
  · rw [if_pos hz]
    have w1 := h.a (v := a) (PL_3 (j := 9) (Or.inl rfl)) h0 (Int.le_refl _)
    rw [Int.sub_self] at w1
    exact w1.1
  · rw [if_neg hz]
    have hzp : 0 < z.1.toInt := by
      rcases Int.lt_or_le 0 z.1.toInt with q | q
      · exact q
      · exfalso
        apply hz
        apply Int32.toInt_inj.mp
        show z.1.toInt = 0
        omega
    have hj : ∃ j, c < j ∧ j ≤ n - 1 ∧ z.2 = nI j ∧ 0 < shI D L c j := by
      rcases eF with ⟨e1, e2⟩ | ⟨j, j1, j2, j3, j4, -⟩
      · exfalso
        have : uS (shI D L c) (c + 1) (n - (c + 1)) = uS (fun _ => 0) (c + 1) (n - (c + 1)) := uS_e _ _ (fun i a1 a2 => by
          have g1 := e2 i (by omega) (by omega)
          have g2 := (hs i (by omega)).1
          omega)
        have h9 : ∀ r k, uS (fun _ => 0) k r = 0 := by
          intro r
          induction r with
          | zero => exact fun _ => rfl
          | succ r ih => exact fun k => by show (0 : Int) + uS _ (k + 1) r = 0; rw [ih]; rfl
        rw [h9] at this
        omega
      · exact ⟨j, j1, j2, j3, j4⟩
    obtain ⟨j, j1, j2, j3, j4⟩ := hj
    have hP : ∀ i, i < n → 0 ≤ shP D L c a.toInt z.1.toInt i := fun i hi => Int.ediv_nonneg (Int.mul_nonneg h0 (hs i hi).1) (by omega)
    have hG : uS (shP D L c a.toInt z.1.toInt) (c + 1) (n - (c + 1)) ≤ a.toInt := by
      have m := uS_m (F := shI D L c) (a := a.toInt) hzp (n - (c + 1)) (c + 1)
      rw [← eS] at m
      exact Int.le_of_mul_le_mul_right m hzp
    have eG : (itr (ddG D L (nI c) a z.1) (n - (c + 1)) (c + 1) 0).toInt = uS (shP D L c a.toInt z.1.toInt) (c + 1) (n - (c + 1)) := by
      rw [dG_s h0 ha hzp _ _ 0 (fun i a1 a2 => hs i (by omega)) (Int.le_refl _) (by show (0 : Int) + _ ≤ 9999; omega)]
      show (0 : Int) + _ = _
      omega
    generalize itr (ddG D L (nI c) a z.1) (n - (c + 1)) (c + 1) 0 = gv at eG
    have hg0 : 0 ≤ gv.toInt := by rw [eG]; exact uS_0 _ _ (fun i a1 a2 => hP i (by omega))
    have eY : (a - gv).toInt = a.toInt - gv.toInt := t_sub (by omega) (by omega)
    have hE0 : ∀ i, i < n → 0 ≤ dvE D L c a.toInt z.1.toInt j (a.toInt - gv.toInt) i := by
      intro i hi
      have := hP i hi
      unfold dvE
      split <;> omega
    have eT : uS (dvE D L c a.toInt z.1.toInt j (a.toInt - gv.toInt)) (c + 1) (n - (c + 1)) = a.toInt := by
      have e1 := uS_p (shP D L c a.toInt z.1.toInt) (fun i => if i = j then a.toInt - gv.toInt else 0) (n - (c + 1)) (c + 1)
      rw [uS_1, if_pos (by omega)] at e1
      show uS (fun i => shP D L c a.toInt z.1.toInt i + if i = j then a.toInt - gv.toInt else 0) _ _ = _
      omega
    have key : ∀ r k E, k + r = n → c < k → SD D E → WL E (uS (dvE D L c a.toInt z.1.toInt j (a.toInt - gv.toInt)) k r) → WL (itr (ddE L (nI c) a z.1 z.2 gv) r k E) 0 := by
      intro r
      induction r with
      | zero => exact fun k E _ _ _ hw => hw
      | succ r ih =>
        intro k E hkr hck hE hw
        have hk0 := hE0 k (by omega)
        have hr0 := uS_0 (F := dvE D L c a.toInt z.1.toInt j (a.toInt - gv.toInt)) r (k + 1) (fun i a1 a2 => hE0 i (by omega))
        have hw0 : WL E (dvE D L c a.toInt z.1.toInt j (a.toInt - gv.toInt) k + uS (dvE D L c a.toInt z.1.toInt j (a.toInt - gv.toInt)) (k + 1) r) := hw
        have s0 : E (13 + 13 * k) = D (13 + 13 * k) := hE _ (st_c (j := 0) (by omega) (by decide))
        have s4 : E (13 + 13 * k + 4) = D (13 + 13 * k + 4) := hE _ (st_c (by omega) (by decide))
        show WL (itr (ddE L (nI c) a z.1 z.2 gv) r (k + 1) (ddE L (nI c) a z.1 z.2 gv k E)) 0
        obtain ⟨d, d1, d2, d3⟩ := ((hD.sd hE).2.2.2.1 k (by omega)).1
        have hB2 := (hB.sd hn hD.1.2.1 hE).1 k (by omega)
        by_cases q : chD D L (nI c) k
        · have q2 : chD E L (nI c) k := ⟨by rw [s0]; exact q.1, q.2⟩
          have eq2 : shI D L c k = (D (13 + 13 * k + 4)).toInt := if_pos q
          have hsk := hs k (by omega)
          rw [eq2] at hsk
          have m1 : a.toInt * (D (13 + 13 * k + 4)).toInt ≤ a.toInt * 99 := Int.mul_le_mul_of_nonneg_left hsk.2 h0
          have m0 : 0 ≤ a.toInt * (D (13 + 13 * k + 4)).toInt := Int.mul_nonneg h0 hsk.1
          have e1 : (a * D (13 + 13 * k + 4)).toInt = a.toInt * (D (13 + 13 * k + 4)).toInt := t_mul (by omega) (by omega)
          have e2 : (a * D (13 + 13 * k + 4) / z.1).toInt = shP D L c a.toInt z.1.toInt k := by
            unfold shP
            rw [t_div (by omega) hzp, e1, eq2]
          have hPk := hP k (by omega)
          have eA : (a * D (13 + 13 * k + 4) / z.1 + if nI k = z.2 then a - gv else 0).toInt = dvE D L c a.toInt z.1.toInt j (a.toInt - gv.toInt) k := by
            unfold dvE at hk0 ⊢
            by_cases ej : k = j
            · rw [if_pos ej] at hk0 ⊢
              rw [if_pos (by rw [j3, ej])]
              have hwl := hw0.2.1
              have hn8 := sumP_0 PL hw0.1
              have hk1 : shP D L c a.toInt z.1.toInt k + (a.toInt - gv.toInt) < 1100000000 := by
                have h8 := hw0.2.2
                unfold dvE at hwl
                rw [if_pos ej] at hwl
                unfold dvE at hr0
                omega
              rw [t_add (by rw [e2, eY]; omega) (by rw [e2, eY]; omega), e2, eY]
            · rw [if_neg ej, if_neg (fun e => ej ((nI_eq (by omega) (by omega)).mp (e.trans j3)))]
              rw [Int32.add_zero, e2]
              omega
          have w1 := en_w (D := E) (c := k) (d := d) (a := a * D (13 + 13 * k + 4) / z.1 + if nI k = z.2 then a - gv else 0) hw0 (by omega) d3 d2 hB2.1 hB2.2.1 (by rw [eA]; exact hk0) (by rw [eA]; omega)
          rw [eA] at w1
          have e9 : ∀ x y : Int, x + y - x = y := fun x y => by omega
          rw [e9] at w1
          have eD : ddE L (nI c) a z.1 z.2 gv k E = enD E k (a * D (13 + 13 * k + 4) / z.1 + if nI k = z.2 then a - gv else 0) := by
            unfold ddE
            rw [if_pos q2, s4]
          rw [eD]
          exact ih (k + 1) _ (by omega) (by omega) (hE.t (sd_en E _ (by omega) d3 d2)) w1.1
        · have q2 : ¬ chD E L (nI c) k := fun e => q ⟨by rw [← s0]; exact e.1, e.2⟩
          have eq2 : shI D L c k = 0 := if_neg q
          have ek : dvE D L c a.toInt z.1.toInt j (a.toInt - gv.toInt) k = 0 := by
            unfold dvE shP
            rw [eq2, Int.mul_zero, Int.zero_ediv, if_neg (fun e => by subst e; omega)]
            rfl
          rw [ek, Int.zero_add] at hw0
          have eD : ddE L (nI c) a z.1 z.2 gv k E = E := if_neg q2
          rw [eD]
          exact ih (k + 1) E (by omega) (by omega) hE hw0
    exact key (n - (c + 1)) (c + 1) D (by omega) (by omega) (SD.r D) (by rw [eT]; exact h)
