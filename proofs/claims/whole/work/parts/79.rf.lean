/-! ===== dividing: a State and a row ===== -/
theorem uS_a (F : Nat → Int) : ∀ r s k, uS F k (r + s) = uS F k r + uS F (k + r) s
  | 0, s, k => by
    rw [Nat.zero_add, Nat.add_zero]
    show _ = 0 + _
    rw [Int.zero_add]
  | r + 1, s, k => by
    have e : r + 1 + s = (r + s) + 1 := by omega
    rw [e]
    show F k + uS F (k + 1) (r + s) = F k + uS F (k + 1) r + uS F (k + (r + 1)) s
    rw [uS_a F r s (k + 1), show k + 1 + r = k + (r + 1) by omega]
    omega
theorem dG_i (D L : Nat → Int32) (c : Nat) (a s : Int32) : ∀ q k (z : Int32), itr (ddG D L (nI c) a s) q k z = z + iS (fun i => if chD D L (nI c) i then a * D (13 + 13 * i + 4) / s else 0) k q
  | 0, k, z => by
    show z = z + 0
    rw [Int32.add_zero]
  | q + 1, k, z => by
    show itr (ddG D L (nI c) a s) q (k + 1) (ddG D L (nI c) a s k z) = z + ((if chD D L (nI c) k then a * D (13 + 13 * k + 4) / s else 0) + iS _ (k + 1) q)
    rw [dG_i D L c a s q (k + 1)]
    unfold ddG
    split
    · rw [Int32.add_assoc]
    · rw [Int32.zero_add]
theorem i_rg (p a R : Int32) : p + (a - (p + R)) = a - R := by
  rw [← i_ss, Int32.add_comm, Int32.sub_eq_add_neg, Int32.sub_eq_add_neg a p, Int32.add_assoc, Int32.add_assoc, Int32.add_comm (-R) p, ← Int32.add_assoc (-p), Int32.add_comm (-p), Int32.add_right_neg, Int32.zero_add, Int32.sub_eq_add_neg]
theorem rm_dv0 {M : Mm} {b : Nat} {D L : Nat → Int32} {n f r w g h c : Nat} {a : Int32} {Z : Nat → Prop} (hD : WD D n f r w g) (hB : NB D n f) (hh : h < 200000) (hM : RM M b D D L n f r w h a.toInt Z) (h0 : 0 ≤ a.toInt) (ha : a.toInt ≤ 9999) (hc : c < n) (hZ : ∀ i, c < i → i < n → chD D L (nI c) i → Z i) :
    RM (dvM M b (nI c) a) b D (dvD D L c a) L n f r w h 0 (fun i => Z i ∧ ¬ (c < i ∧ chD D L (nI c) i)) := by
  have hn : n ≤ 16 := hD.1.1
  have cc : (nI c).toNatClampNeg = c := nI_clamp (by omega)
  have cn : (nI n).toNatClampNeg = n := nI_clamp (by omega)
  have hS : ∀ i, i < n → 0 ≤ shI D L c i ∧ shI D L c i ≤ 99 := by
    intro i hi
    have hb := (hB.1 i hi).2.2
    unfold shI
    split
    · exact hb
    · omega
  have e8 : gI M (b + 1) 8 = nI n := hM.2.1.1.1
  have xs : (dvS M b (nI c)).toInt = uS (shI D L c) (c + 1) (n - (c + 1)) := by
    unfold dvS
    rw [e8, cn, cc, xS_s hM.2.1 hM.2.2.2.1 _ _ 0 (by omega) hS (Int.le_refl _) (by show (0 : Int) + 99 * ((n - (c + 1) : Nat) : Int) < 100000; omega)]
    show (0 : Int) + _ = _
    omega
  have xf := xF_s (c := c) hM.2.1 hM.2.2.2.1 (n - (c + 1)) (c + 1) (by omega)
  have eF : dvF M b (nI c) = foA M (b + 1) (nI c) (n - (c + 1)) (c + 1) := by
    unfold dvF
    rw [e8, cn, cc]
  rw [← eF] at xf
  have mS : (ddL D L c (n - 1) (0, -1)).1.toInt = uS (shI D L c) (c + 1) (n - (c + 1)) := by
    have e := ddL_s (D := D) (L := L) (c := c) (n - 1) (0, -1) (fun i hi => hS i (by omega)) (Int.le_refl _) (by show (0 : Int) + 99 * ((n - 1 : Nat) : Int) < 100000; omega)
    have e2 := suD_u D L c (n - (c + 1))
    rw [show c + (n - (c + 1)) = n - 1 by omega] at e2
    rw [e, e2]
    show (0 : Int) + _ = _
    omega
  have mF := ddL_f (D := D) (L := L) (c := c) (n - 1) (0, -1)
  have eS : (ddL D L c (n - 1) (0, -1)).1 = dvS M b (nI c) := Int32.toInt_inj.mp (mS.trans xs.symm)
  have hU0 : 0 ≤ uS (shI D L c) (c + 1) (n - (c + 1)) := uS_0 _ _ (fun i a1 a2 => (hS i (by omega)).1)
  unfold dvD
  dsimp only
  rw [hD.2.1.1, cn, eS]
  by_cases hz : dvS M b (nI c) = 0
  · rw [if_pos hz]
    have eM : dvM M b (nI c) a = sJ M (b + 30) (vp_updL (gJ M (b + 30)) 2 (gJ M (b + 30) 2 + a.toInt64)) := by
      unfold dvM
      exact if_pos (Or.inl (by rw [hz]; decide))
    rw [eM]
    obtain ⟨m1, m2, m3, m4, m5, m6, m7⟩ := hM
    have w1 := m6.a (v := a) (PL_3 (j := 9) (Or.inl rfl)) h0 (Int.le_refl _)
    rw [Int.sub_self] at w1
    have l9 := m6.le (PL_3 (j := 9) (Or.inl rfl))
    have s9 : SD D (upd D 9 (D 9 + a)) := SD.u _ _ (by unfold stI; omega)
    have u9 : ∀ j, j ≠ 9 → upd D 9 (D 9 + a) j = D j := fun j hj => upd_n _ _ hj
    obtain ⟨r1, r2, r3, r4, r5, r6, r7, r8⟩ := m3
    refine ⟨s9, (m2.g (N := sJ M (b + 30) (vp_updL (gJ M (b + 30)) 2 (gJ M (b + 30) 2 + a.toInt64))) (fun k _ => rfl)).sd hn hD.1.2.1 hD.1.2.2.1 hD.1.2.2.2.1 hD.2.1.2.2.1 s9, ⟨fun i hi => ?_, fun i k hi hk => ?_, fun i hi => ?_, fun v hv => ?_, ?_, ?_, ?_, ?_⟩, m4, m5, w1.1, (m7.e (E := upd D 9 (D 9 + a)) (fun k hk => ⟨u9 _ (by omega), fun i hi => u9 _ (by omega)⟩)).m (fun k _ y => y.1)⟩
    · rw [u9 _ (by omega)]; exact r1 i hi
    · rw [u9 _ (by omega)]; exact r2 i k hi hk
    · rw [u9 _ (by omega), u9 _ (by omega), u9 _ (by omega), u9 _ (by omega)]; exact r3 i hi
    · rw [u9 _ (by omega)]; exact r4 v hv
    · rw [u9 _ (by omega), gJ_s]; exact r5
    · rw [upd_s, gJ_s, t_64a (by omega) (by omega), ← r6]; rfl
    · rw [u9 _ (by omega), gJ_s]; exact r7
    · rw [u9 _ (by omega), gJ_s]; exact r8
  · rw [if_neg hz]
    have hs : 0 < (dvS M b (nI c)).toInt := by
      rcases Int.lt_or_le 0 (dvS M b (nI c)).toInt with q | q
      · exact q
      · exfalso
        apply hz
        apply Int32.toInt_inj.mp
        show (dvS M b (nI c)).toInt = 0
        omega
    have hs1 : ¬ dvS M b (nI c) ≤ 0 := fun q => by
      have h1 : (dvS M b (nI c)).toInt ≤ 0 := t_le.mp q
      omega
    have h9 : ∀ r k, uS (fun _ => 0) k r = 0 := by
      intro r
      induction r with
      | zero => exact fun _ => rfl
      | succ r ih => exact fun k => by show (0 : Int) + uS _ (k + 1) r = 0; rw [ih]; rfl
    obtain ⟨j, j1, j2, j3, j4, j5⟩ : ∃ j, c + 1 ≤ j ∧ j < c + 1 + (n - (c + 1)) ∧ dvF M b (nI c) = nI j ∧ 0 < shI D L c j ∧ ∀ i, c + 1 ≤ i → i < j → shI D L c i ≤ 0 := by
      rcases xf with ⟨-, x2⟩ | x
      · exfalso
        have : uS (shI D L c) (c + 1) (n - (c + 1)) = uS (fun _ => 0) (c + 1) (n - (c + 1)) := uS_e _ _ (fun i a1 a2 => by
          have g1 := x2 i a1 a2
          have g2 := (hS i (by omega)).1
          omega)
        rw [h9] at this
        omega
      · exact x
    have mj : (ddL D L c (n - 1) (0, -1)).2 = nI j := by
      rcases mF with ⟨-, y2⟩ | ⟨i, i1, i2, i3, i4, i5⟩
      · have := y2 j (by omega) (by omega)
        omega
      · have e : i = j := by
          rcases Nat.lt_trichotomy i j with q | q | q
          · have := j5 i (by omega) q
            omega
          · exact q
          · have := i5 j (by omega) q
            omega
        rw [i3, e]
    have pj : chD D L (nI c) j := by
      unfold shI at j4
      split at j4
      · assumption
      · omega
    have hF1 : ¬ dvF M b (nI c) < 0 := by
      rw [j3]
      intro q
      have h1 : (nI j).toInt < 0 := t_lt.mp q
      rw [t_nI (by omega)] at h1
      omega
    have eM : dvM M b (nI c) a = enM (itr (dvA b (nI c) a (dvS M b (nI c))) (n - (j + 1)) (j + 1) (M, a)).1 b (nI j) (itr (dvA b (nI c) a (dvS M b (nI c))) (n - (j + 1)) (j + 1) (M, a)).2 := by
      unfold dvM
      rw [if_neg (fun q => q.elim hs1 hF1)]
      unfold dvR
      rw [j3, nI_clamp (show j < 2 ^ 31 by omega), e8, cn]
    rw [eM, mj]
    generalize dvS M b (nI c) = s at hs xs
    have hP : ∀ i, i < n → 0 ≤ shP D L c a.toInt s.toInt i := fun i hi => Int.ediv_nonneg (Int.mul_nonneg h0 (hS i hi).1) (by omega)
    have hG : uS (shP D L c a.toInt s.toInt) (c + 1) (n - (c + 1)) ≤ a.toInt := by
      have m := uS_m (F := shI D L c) (a := a.toInt) hs (n - (c + 1)) (c + 1)
      rw [← xs] at m
      exact Int.le_of_mul_le_mul_right m hs
    have sp : n - (c + 1) = (j - c) + (n - (j + 1)) := by omega
    have hG2 : uS (shP D L c a.toInt s.toInt) (j + 1) (n - (j + 1)) ≤ a.toInt := by
      rw [sp, uS_a, show c + 1 + (j - c) = j + 1 by omega] at hG
      have := uS_0 (F := shP D L c a.toInt s.toInt) (j - c) (c + 1) (fun i a1 a2 => hP i (by omega))
      omega
    obtain ⟨E', i1, i2, i3, i4⟩ := rm_dvl (c := c) (a := a) (s := s) hD hB hh h0 ha hs (n - (j + 1)) (j + 1) M D a Z (by omega) hM h0 hG2 (fun i a1 a2 a3 => hZ i (by omega) a2 a3)
    generalize itr (dvA b (nI c) a s) (n - (j + 1)) (j + 1) (M, a) = y at i1 i2 i3
    have r2 := rm_en (a := y.2) hD hB hh i1 (show j < n by omega) (by omega) (Int.le_refl _) ⟨hZ j (by omega) (by omega) pj, by omega⟩
    rw [Int.sub_self] at r2
    have sz : ∀ i, c + 1 ≤ i → i < j → chD D L (nI c) i → D (13 + 13 * i + 4) = 0 := by
      intro i a1 a2 a3
      have g1 := j5 i a1 a2
      have g2 := (hS i (by omega)).1
      unfold shI at g1 g2
      rw [if_pos a3] at g1 g2
      apply Int32.toInt_inj.mp
      show (D (13 + 13 * i + 4)).toInt = 0
      omega
    have eG : itr (ddG D L (nI c) a s) (n - (c + 1)) (c + 1) 0 = a * D (13 + 13 * j + 4) / s + iS (fun i => if chD D L (nI c) i then a * D (13 + 13 * i + 4) / s else 0) (j + 1) (n - (j + 1)) := by
      rw [dG_i, Int32.zero_add, show n - (c + 1) = (j - (c + 1)) + ((n - (j + 1)) + 1) by omega, iS_a, iS_0 (j - (c + 1)) (c + 1) (fun i a1 a2 => ?_), Int32.zero_add, show c + 1 + (j - (c + 1)) = j by omega]
      · show (if chD D L (nI c) j then a * D (13 + 13 * j + 4) / s else 0) + iS _ (j + 1) (n - (j + 1)) = _
        rw [if_pos pj]
      · split
        · rename_i q
          rw [sz i a1 (by omega) q, Int32.mul_zero, Int32.zero_div]
        · rfl
    have eD : itr (ddE L (nI c) a s (nI j) (itr (ddG D L (nI c) a s) (n - (c + 1)) (c + 1) 0)) (n - (c + 1)) (c + 1) D = enD E' j y.2 := by
      funext i
      rw [ddE_j hD L c a s _ _ i _ _ D (by omega) (SD.r D), en_j, enJ_sd i1.1 (by omega), i4, show n - (c + 1) = (j - (c + 1)) + ((n - (j + 1)) + 1) by omega, iS_a, iS_0 (j - (c + 1)) (c + 1) (fun k a1 a2 => ?_), Int32.zero_add, show c + 1 + (j - (c + 1)) = j by omega]
      · show D i + ((if chD D L (nI c) j then enJ D j (amK D a s (nI j) _ j) i else 0) + iS _ (j + 1) (n - (j + 1))) = _
        rw [if_pos pj, Int32.add_comm (enJ D j _ i), ← Int32.add_assoc]
        have eAm : amK D a s (nI j) (itr (ddG D L (nI c) a s) ((j - (c + 1)) + ((n - (j + 1)) + 1)) (c + 1) 0) j = y.2 := by
          unfold amK
          rw [if_pos rfl, show (j - (c + 1)) + ((n - (j + 1)) + 1) = n - (c + 1) by omega, eG, i_rg, i3]
        rw [eAm]
        congr 2
        refine iS_e _ _ (fun k a1 a2 => ?_)
        split
        · unfold amK
          rw [if_neg (fun e => by
            have := (nI_eq (show k < 2 ^ 31 by omega) (show j < 2 ^ 31 by omega)).mp e
            omega), Int32.add_zero]
        · rfl
      · split
        · rename_i q
          have e0 : amK D a s (nI j) (itr (ddG D L (nI c) a s) ((j - (c + 1)) + ((n - (j + 1)) + 1)) (c + 1) 0) k = 0 := by
            unfold amK
            rw [if_neg (fun e => by
              have := (nI_eq (show k < 2 ^ 31 by omega) (show j < 2 ^ 31 by omega)).mp e
              omega), sz k a1 (by omega) q, Int32.mul_zero, Int32.zero_div, Int32.add_zero]
          rw [e0, enJ_0 (hB.1 k (by omega)).2.1.1]
        · rfl
    rw [eD]
    exact r2.m (fun k hk z => ⟨⟨z.1, fun e => z.2 ⟨by omega, e.2⟩⟩, fun e => z.2 ⟨by omega, by rw [e]; exact pj⟩⟩)
