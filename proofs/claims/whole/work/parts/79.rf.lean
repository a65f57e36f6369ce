/-! ===== dividing: a State and a row ===== -/
theorem rm_dv0 {M : Mm} {b : Nat} {D L : Nat → Int32} {n f r w g h c : Nat} {a : Int32} {Z : Nat → Prop} (hD : WD D n f r w g) (hB : NB D n f) (hh : h < 200000) (hM : RM M b D D L n f r w h a.toInt Z) (h0 : 0 ≤ a.toInt) (ha : a.toInt ≤ 9999) (hc : c < n) (hZ : ∀ i, c < i → i < n → chD D L (nI c) i → Z i) :
    RM (dvM M b (nI c) a) b D (dvD D L c a) L n f r w h 0 (fun i => Z i ∧ ¬ (c < i ∧ chD D L (nI c) i)) := by
  have hn : n ≤ 16 := hD.1.1
  have cc : (nI c).toNatClampNeg = c := nI_clamp (by omega)
  have cn : (nI n).toNatClampNeg = n := nI_clamp (by omega)
  have hS : ∀ i, i < n → 0 ≤ shI D L c i ∧ shI D L c i ≤ 99 := by
    intro i hi
    have hb := (hB.1 i hi).2.2
    unfold shI
    split
    · exact hb
    · omega
  have e8 : gI M (b + 1) 8 = nI n := hM.2.1.1.1
  have xs : (dvS M b (nI c)).toInt = uS (shI D L c) (c + 1) (n - (c + 1)) := by
    unfold dvS
    rw [e8, cn, cc, xS_s hM.2.1 hM.2.2.2.1 _ _ 0 (by omega) hS (Int.le_refl _) (by show (0 : Int) + 99 * ((n - (c + 1) : Nat) : Int) < 100000; omega)]
    show (0 : Int) + _ = _
    omega
  have xf := xF_s (c := c) hM.2.1 hM.2.2.2.1 (n - (c + 1)) (c + 1) (by omega)
  have eF : dvF M b (nI c) = foA M (b + 1) (nI c) (n - (c + 1)) (c + 1) := by
    unfold dvF
    rw [e8, cn, cc]
  rw [← eF] at xf
  have mS : (ddL D L c (n - 1) (0, -1)).1.toInt = uS (shI D L c) (c + 1) (n - (c + 1)) := by
    have e := ddL_s (D := D) (L := L) (c := c) (n - 1) (0, -1) (fun i hi => hS i (by omega)) (Int.le_refl _) (by show (0 : Int) + 99 * ((n - 1 : Nat) : Int) < 100000; omega)
    have e2 := suD_u D L c (n - (c + 1))
    rw [show c + (n - (c + 1)) = n - 1 by omega] at e2
    rw [e, e2]
    show (0 : Int) + _ = _
    omega
  have mF := ddL_f (D := D) (L := L) (c := c) (n - 1) (0, -1)
  have eS : (ddL D L c (n - 1) (0, -1)).1 = dvS M b (nI c) := Int32.toInt_inj.mp (mS.trans xs.symm)
  have hU0 : 0 ≤ uS (shI D L c) (c + 1) (n - (c + 1)) := uS_0 _ _ (fun i a1 a2 => (hS i (by omega)).1)
  unfold dvD
  dsimp only
  rw [hD.2.1.1, cn, eS]
  by_cases hz : dvS M b (nI c) = 0
  · rw [if_pos hz]
    have eM : dvM M b (nI c) a = sJ M (b + 30) (vp_updL (gJ M (b + 30)) 2 (gJ M (b + 30) 2 + a.toInt64)) := by
      unfold dvM
      exact if_pos (Or.inl (by rw [hz]; decide))
    rw [eM]
    obtain ⟨m1, m2, m3, m4, m5, m6, m7⟩ := hM
    have w1 := m6.a (v := a) (PL_3 (j := 9) (Or.inl rfl)) h0 (Int.le_refl _)
    rw [Int.sub_self] at w1
    have l9 := m6.le (PL_3 (j := 9) (Or.inl rfl))
    have s9 : SD D (upd D 9 (D 9 + a)) := SD.u _ _ (by unfold stI; omega)
    have u9 : ∀ j, j ≠ 9 → upd D 9 (D 9 + a) j = D j := fun j hj => upd_n _ _ hj
    obtain ⟨r1, r2, r3, r4, r5, r6, r7, r8⟩ := m3
    refine ⟨s9, (m2.g (N := sJ M (b + 30) (vp_updL (gJ M (b + 30)) 2 (gJ M (b + 30) 2 + a.toInt64))) (fun k _ => rfl)).sd hn hD.1.2.1 hD.1.2.2.1 hD.1.2.2.2.1 hD.2.1.2.2.1 s9, ⟨fun i hi => ?_, fun i k hi hk => ?_, fun i hi => ?_, fun v hv => ?_, ?_, ?_, ?_, ?_⟩, m4, m5, w1.1, (m7.e (E := upd D 9 (D 9 + a)) (fun k hk => ⟨u9 _ (by omega), fun i hi => u9 _ (by omega)⟩)).m (fun k _ y => y.1)⟩
    · rw [u9 _ (by omega)]; exact r1 i hi
    · rw [u9 _ (by omega)]; exact r2 i k hi hk
    · rw [u9 _ (by omega), u9 _ (by omega), u9 _ (by omega), u9 _ (by omega)]; exact r3 i hi
    · rw [u9 _ (by omega)]; exact r4 v hv
    · rw [u9 _ (by omega), gJ_s]; exact r5
    · rw [upd_s, gJ_s, t_64a (by omega) (by omega), ← r6]; rfl
    · rw [u9 _ (by omega), gJ_s]; exact r7
    · rw [u9 _ (by omega), gJ_s]; exact r8
  · rw [if_neg hz]
    sorry
