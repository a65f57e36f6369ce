/-! ===== an hour: a State and a row, whole ===== -/
theorem e8_t {x F : Int32} {h : Nat} (h0 : 0 ≤ x.toInt) (h1 : x.toInt ≤ 9999 * h) (hh : h ≤ 100200) (f0 : 0 ≤ F.toInt) (f1 : F.toInt ≤ 9999) : (x + F).toInt = x.toInt + F.toInt ∧ (x + F).toInt < 1100000000 ∧ (x + F).toInt ≤ 9999 * ((h + 1 : Nat) : Int) := by
  have e : (x + F).toInt = x.toInt + F.toInt := t_add (by omega) (by omega)
  omega
/-- an hour's first half: up to the canals -/
theorem hr_a {M : Mm} {b : Nat} {D : Nat → Int32} {n f r w g h : Nat} (hX : XR M b D n f r w g h) (hn0 : 0 < n) (hh : h < 100200) (O L : Nat → Int32) {F : Int32} (eA : phA M b = F) (f0 : 0 ≤ F.toInt) (f1 : F.toInt ≤ 9999) (eT : phT M b = tuD D (D 5)) :
    WD (upd D 8 (D 8 + F)) n f r w g ∧ SD D (upd D 8 (D 8 + F)) ∧ RM (ph5 M b).1 b (upd D 8 (D 8 + F)) (itr (caV (foR D O L).1 (foL D O L) (tuD D (D 5))) n 0 (sm1 D F)) (foL D O L) n f r w h 0 (fun _ => False) ∧ (ph5 M b).2 = TS (itr (caV (foR D O L).1 (foL D O L) (tuD D (D 5))) n 0 (sm1 D F)) f - TS D f ∧ SD (upd D 8 (D 8 + F)) (sm1 D F) := by
  obtain ⟨hW, hB, hs, hd, hF, ⟨t6, t5, hh0⟩, ⟨gp, gw⟩, ⟨wl, w8⟩, hP, hFW, hRT⟩ := hX
  have hn : n ≤ 16 := hW.1.1
  have hf : f ≤ 12 := hW.1.2.1
  have s8 : SD D (upd D 8 (D 8 + F)) := SD.u _ _ (by unfold stI; omega)
  have h80 : 0 ≤ (D 8).toInt := by
    have := sumP_0 PL wl.1
    have := wl.2.1
    omega
  obtain ⟨e8, e8b, -⟩ := e8_t h80 w8 hh0 f0 f1
  have hW1 := hW.sd s8
  have hB1 := hB.sd hn hf s8
  have n8 : 8 ∉ PL := fun z => PL_8 z rfl
  have wl1 : WL (upd D 8 (D 8 + F)) F.toInt := by
    refine ⟨fun j hj => ?_, ?_, ?_⟩
    · rw [upd_n _ _ (PL_8 hj)]
      exact wl.1 j hj
    · rw [sumP_n _ _ _ _ n8, upd_s, e8]
      have := wl.2.1
      omega
    · rw [upd_s]
      exact e8b
  have u8 : ∀ j, j ≠ 8 → upd D 8 (D 8 + F) j = D j := fun j hj => upd_n _ _ hj
  have gI2 : gI (ph2 M b) = gI M := rfl
  have gJ2 : gJ (ph2 M b) (b + 30) = vp_updL (gJ M (b + 30)) 1 (gJ M (b + 30) 1 + F.toInt64) := by
    unfold ph2
    rw [gJ_s, eA]
    unfold ph1
    rw [gJ_f _ _ (by omega)]
  obtain ⟨r1, r2, r3, r4, r5, r6, r7, r8⟩ := hd
  have m2 : RM (ph2 M b) b (upd D 8 (D 8 + F)) (upd D 8 (D 8 + F)) (gI M (b + 8)) n f r w h F.toInt (fun _ => True) := by
    refine ⟨SD.r _, (hs.ss (ss_2 M b)).sd hn hf hW.1.2.2.1 hW.1.2.2.2.1 hW.2.1.2.2.1 s8, ⟨fun i hi => ?_, fun i k hi hk => ?_, fun i hi => ?_, fun v hv => ?_, ?_, ?_, ?_, ?_⟩, fun k hk => by rw [gI2], by rw [gI2]; exact t6, wl1, hP.e (fun k hk => ⟨u8 _ (by omega), fun i hi => u8 _ (by omega)⟩)⟩
    · rw [gI2, u8 _ (by omega)]; exact r1 i hi
    · rw [gI2, u8 _ (by omega)]; exact r2 i k hi hk
    · rw [gI2, u8 _ (by omega), u8 _ (by omega), u8 _ (by omega), u8 _ (by omega)]; exact r3 i hi
    · rw [gI2, u8 _ (by omega)]; exact r4 v hv
    · rw [gJ2, upd_s, t_64a (by omega) (by omega), ← r5]; rfl
    · rw [gJ2, u8 _ (by omega)]; exact r6
    · rw [gJ2, u8 _ (by omega)]; exact r7
    · rw [gJ2, u8 _ (by omega)]; exact r8
  have m3 := rm_en (a := F) hW1 hB1 (show h < 200000 by omega) m2 hn0 f0 (Int.le_refl _) trivial
  rw [Int.sub_self] at m3
  have e3 : enM (ph2 M b) b (nI 0) F = ph3 M b := by
    unfold ph3
    rw [eA]
    rfl
  have eE : enD (upd D 8 (D 8 + F)) 0 F = sm1 D F := rfl
  rw [e3, eE] at m3
  have g3 : ∀ j, j ≠ 9 → gI (ph3 M b) (b + j) = gI M (b + j) := fun j hj => by
    rw [← e3, en_g _ _ hj, gI2]
  have hs3 : RSs (ph3 M b) b D n f r w := hs.ss (ss_3 M b)
  have hb3 : ∀ k, k < f → bG (ph3 M b) (b + 10) k (phT M b) = oqI D k := by
    intro k hk
    rw [eT]
    refine bg_o hF hk ?_ ?_
    · rw [g3 12 (by decide)]; exact (hs.2.2.1 k hk).2.1
    · rw [g3 21 (by decide)]; exact (r3 k hk).2.2.2
  have ol := ol_m hW hs3 hb3 O L
  have e4 : ph4 M b = opP (ph3 M b) (b + 1) n (sI (ph3 M b) (b + 8) (mkO (ph3 M b) (b + 10) (b + 1) (phT M b))) := by
    unfold ph4
    rw [hs3.1.1, nI_clamp (show n < 2 ^ 31 by omega)]
  rw [← e4] at ol
  have g4 : ∀ j, j ≠ 8 → gI (ph4 M b) (b + j) = gI (ph3 M b) (b + j) ∧ gJ (ph4 M b) = gJ (ph3 M b) := fun j hj => by
    rw [e4]
    obtain ⟨x1, x2⟩ := op_g (ph3 M b) hj n (sI (ph3 M b) (b + 8) (mkO (ph3 M b) (b + 10) (b + 1) (phT M b)))
    exact ⟨x1.trans (gI_f _ _ (by omega)), x2⟩
  have sE := m3.1
  have m4 : RM (ph4 M b) b (upd D 8 (D 8 + F)) (sm1 D F) (foL D O L) n f r w h 0 (Zc (upd D 8 (D 8 + F)) 0) :=
    ⟨sE, (hs.ss (ss_4 M b)).sd hn hf hW.1.2.2.1 hW.1.2.2.2.1 hW.2.1.2.2.1 (s8.t sE), m3.2.2.1.g (fun j _ hj => (g4 j hj).1) (by rw [(g4 0 (by decide)).2]), ol, by rw [show gI (ph4 M b) b = gI (ph3 M b) b from (g4 0 (by decide)).1]; exact m3.2.2.2.2.1, m3.2.2.2.2.2.1, m3.2.2.2.2.2.2.m (fun k hk z => ⟨trivial, z.1⟩)⟩
  have hO4 : ∀ k, k < f → (¬ bG (ph4 M b) (b + 10) k (tuD D (D 5)) = 0 ↔ ¬ (foR D O L).1 k = 0) := by
    intro k hk
    have e : bG (ph4 M b) (b + 10) k (tuD D (D 5)) = oqI D k := by
      refine bg_o hF hk ?_ ?_
      · rw [(g4 12 (by decide)).1, g3 12 (by decide)]; exact (hs.2.2.1 k hk).2.1
      · rw [(g4 21 (by decide)).1, g3 21 (by decide)]; exact (r3 k hk).2.2.2
    rw [e, fo_o hW.2.1.2.1 hf hk]
  obtain ⟨k1, k2⟩ := ca_l (v := tuD D (D 5)) hW1 hB1 (show h < 200000 by omega) n 0 (ph4 M b) 0 (sm1 D F) (by omega) m4 hO4
  have e5 : ph5 M b = itr (phB b (tuD D (D 5))) n 0 (ph4 M b, 0) := by
    unfold ph5
    rw [eT, hs.1.1, nI_clamp (show n < 2 ^ 31 by omega)]
  have ts1 : TS (sm1 D F) f = TS D f := by
    refine iS_e _ _ (fun i a1 a2 => ?_)
    rw [← eE, en_j, enJ_f hW1 hn0 F (by omega), Int32.add_zero]
    exact u8 _ (by omega)
  rw [← e5, ts1, Int32.zero_add] at k2
  rw [← e5] at k1
  exact ⟨hW1, s8, k1, k2, sE⟩
set_option maxHeartbeats 1000000 in
theorem hr_m {M : Mm} {b : Nat} {D : Nat → Int32} {n f r w g h : Nat} (hX : XR M b D n f r w g h) (hn0 : 0 < n) (hh : h < 100200) (O L : Nat → Int32) (K : Nat → Int64) :
    SP D ∧ ∃ g', XR (phM M b) b (sm6 D (foR D O L).1 (foL D O L) (ioV D (D 5) K)) n f r w g' (h + 1) ∧ (ph5 M b).2 = taD (sm6 D (foR D O L).1 (foL D O L) (ioV D (D 5) K)) - taD D := by
  have hX0 := hX
  obtain ⟨hW, hB, hs, hd, hF, ⟨t6, t5, hh0⟩, ⟨gp, gw⟩, ⟨wl, w8⟩, hP, hFW, hRT⟩ := hX
  have hn : n ≤ 16 := hW.1.1
  have hf : f ≤ 12 := hW.1.2.1
  have hr : r ≤ 12 := hW.1.2.2.1
  have hw : w ≤ 10 := hW.1.2.2.2.1
  have th : (nI h).toInt = h := t_nI (by omega)
  obtain ⟨tw, tv⟩ := tu_m hW hs (h := nI h) (by omega)
  have tr := tu_r hW hs hRT (h := nI h) (by omega)
  obtain ⟨v1, v2, f0, f1⟩ := fw_v hFW (h := nI h) (by omega) (by omega) (tu_b tr) K
  rw [← t5] at tv tr v1 f0 f1
  have eT : phT M b = tuD D (D 5) := by
    unfold phT
    rw [t6, ← t5]
    exact tv
  have eA : phA M b = ioV D (D 5) K := by
    unfold phA
    rw [eT, t6, ← t5]
    exact v1
  refine ⟨⟨⟨n, f, r, w, g, hW, hn0⟩, by rw [t5]; exact tw, v2⟩, ?_⟩
  generalize ioV D (D 5) K = F at v1 f0 f1 eA
  obtain ⟨hW1, s8, k1, k2, sE⟩ := hr_a hX0 hn0 hh O L eA f0 f1 eT
  have h80 : 0 ≤ (D 8).toInt := by
    have := sumP_0 PL wl.1
    have := wl.2.1
    omega
  obtain ⟨e8, e8b, e8c⟩ := e8_t h80 w8 hh0 f0 f1
  have hB1 := hB.sd hn hf s8
  have cvS := cvL_sd (O := (foR D O L).1) (L := foL D O L) (v := tuD D (D 5)) hW1 n 0 (sm1 D F) (by omega) sE
  have o2 := fun j hj => cvL_o (O := (foR D O L).1) (L := foL D O L) (v := tuD D (D 5)) (j := j) hW1 hj n 0 (sm1 D F) (by omega) sE
  have p2 := fun i (hi : i < 16) => cvL_p (O := (foR D O L).1) (L := foL D O L) (v := tuD D (D 5)) hW1 hi n 0 (sm1 D F) (by omega) sE
  have aa := ag_cl (foR D O L).1 (foL D O L) (tuD D (D 5)) n 0 (sm1 D F) (sm1 D F) (by omega) (fun _ _ => rfl)
  rw [Nat.zero_add] at aa
  have e2m : itr (caD (foR D O L).1 (foL D O L) (tuD D (D 5))) n 0 (sm1 D F) = sm2 D (foR D O L).1 (foL D O L) F := by
    unfold sm2
    rw [hW.2.1.1, nI_clamp (show n < 2 ^ 31 by omega)]
  rw [e2m] at aa
  generalize itr (caV (foR D O L).1 (foL D O L) (tuD D (D 5))) n 0 (sm1 D F) = E2 at k1 k2 cvS o2 p2 aa
  -- draining
  have m6 := dr_l hW1 hB1 f _ E2 (Nat.le_refl f) k1
  have e6 : phD b f (ph5 M b).1 = ph6 M b := by
    unfold ph6
    rw [hs.1.2.1, nI_clamp (show f < 2 ^ 31 by omega)]
  rw [e6] at m6
  have o3 := fun j h9 h11 hj => drL_o (j := j) hW1 h9 h11 hj f E2 (Nat.le_refl f) cvS
  have s3 : SD (upd D 8 (D 8 + F)) (drL f E2) := m6.1
  have aa3 := ag_drL f _ _ aa
  have e3m : drL f (sm2 D (foR D O L).1 (foL D O L) F) = sm3 D (foR D O L).1 (foL D O L) F := by
    unfold sm3
    rw [hW.2.1.2.1, nI_clamp (show f < 2 ^ 31 by omega)]
  rw [e3m] at aa3
  generalize drL f E2 = E3 at m6 o3 s3 aa3
  -- the guard
  have u8 : ∀ j, j ≠ 8 → upd D 8 (D 8 + F) j = D j := fun j hj => upd_n _ _ hj
  have s1o : ∀ j, (j = 5 ∨ ∃ i, i < f ∧ j = 221 + 11 * i + 10) → sm1 D F j = D j := by
    intro j hj
    show enD (upd D 8 (D 8 + F)) 0 F j = _
    rw [en_j]
    rcases hj with e | ⟨i, hi, e⟩
    · rw [enJ_p hW1 hn0 F (Or.inl e), Int32.add_zero, u8 _ (by omega)]
    · rw [enJ_f hW1 hn0 F (by omega), Int32.add_zero, u8 _ (by omega)]
  have f3 : FO1 E3 f := by
    intro k hk
    rw [o3 _ (by omega) (by omega) (fun i => by omega), o2 _ (Or.inr (Or.inr ⟨k, hk, rfl⟩)), s1o _ (Or.inr ⟨k, hk, rfl⟩)]
    exact hF k hk
  have g6 : gI (ph6 M b) (b + 25) 2 = nI g := by
    rw [(ss_6 M b).2.2.2.2.1 25 (by decide) rfl]
    exact gp
  have hW3 := hW1.sd s3
  obtain ⟨g', N, eN, hW4, gw4, gp4, rs4, rd4, f4, t4, wl4, pi4, o4⟩ := pa_m hW3 m6.b f3 g6 gw
  have e8N : ph8 M b = N := eN.symm
  have aa4 := ag_pa hn aa3
  have e4m : paD (sm3 D (foR D O L).1 (foL D O L) F) = sm4 D (foR D O L).1 (foL D O L) F := rfl
  rw [e4m] at aa4
  have c5 : paD E3 5 = nI h := by
    rw [o4 5 (by omega) (fun i hi => by omega) (fun v hv => by omega), o3 5 (by omega) (by omega) (fun i => by omega), o2 5 (Or.inl rfl), s1o 5 (Or.inl rfl)]
    exact t5
  have c8 : paD E3 8 = D 8 + F := by
    rw [o4 8 (by omega) (fun i hi => by omega) (fun v hv => by omega), o3 8 (by omega) (by omega) (fun i => by omega), o2 8 (Or.inr (Or.inl rfl))]
    show enD (upd D 8 (D 8 + F)) 0 F 8 = _
    rw [en_j, enJ_p hW1 hn0 F (Or.inr (Or.inl rfl)), Int32.add_zero, upd_s]
  have c6 : ∀ i, i < n → paD E3 (13 + 13 * i + 6) = 0 := by
    intro i hi
    rw [o4 _ (by omega) (fun i hi => by omega) (fun v hv => by omega), o3 _ (by omega) (by omega) (fun i => by omega), p2 i (by omega), if_pos (by omega)]
  have sS : ∀ j, j ≠ 4 → stI j → paD E3 j = D j := by
    intro j h4 hj
    rw [o4 j h4 (fun i hi e => by unfold stI at hj; omega) (fun v hv e => by unfold stI at hj; omega), s3 j hj, u8 _ (fun e => by unfold stI at hj; omega)]
  have ts4 : TS (paD E3) f = TS E2 f := by
    refine iS_e _ _ (fun i a1 a2 => ?_)
    rw [o4 _ (by omega) (fun i hi => by omega) (fun v hv => by omega), o3 _ (by omega) (by omega) (fun i => by omega)]
  generalize paD E3 = E4 at hW4 rs4 rd4 f4 wl4 pi4 aa4 c5 c8 c6 sS ts4
  -- the hour, and the shift
  have a5 : AQ n (sm5 D (foR D O L).1 (foL D O L) F) (upd E4 5 (E4 5 + 1)) := by
    unfold sm5
    exact aa4.u 5 (fun q => by rw [aa4 5 q])
  have e6m : sm6 D (foR D O L).1 (foL D O L) F = itr shD n 0 (upd E4 5 (E4 5 + 1)) := by
    unfold sm6
    rw [hW.2.1.1, nI_clamp (show n < 2 ^ 31 by omega)]
    exact ag_sh a5
  rw [e6m]
  have w5 : WL (upd E4 5 (E4 5 + 1)) 0 := wl4.n (j := 5) _ (fun z => by rcases PL_n z with e | e | e | ⟨c, k, hc, hk, e⟩ | ⟨x, hx, e⟩ <;> omega) (by decide)
  have u5 : ∀ j, j ≠ 5 → upd E4 5 (E4 5 + 1) j = E4 j := fun j hj => upd_n _ _ hj
  have w6 := shL_w n 0 _ (by omega) w5 (fun i a1 a2 => by rw [u5 _ (by omega)]; exact c6 i (by omega))
  have x5 : upd E4 5 (E4 5 + 1) 5 = nI (h + 1) := by
    rw [upd_s, c5]
    exact nI_add h 1
  generalize upd E4 5 (E4 5 + 1) = E5 at w6 u5 x5
  have hi6 := fun i j (hj : j ≤ 6) => shL_i i hj n 0 E5
  have ho6 := fun j hj => shL_o (j := j) n 0 E5 hj
  generalize itr shD n 0 E5 = E6 at w6 hi6 ho6
  have q6 : ∀ j, (∀ i x, i < n → x ≤ 6 → j ≠ 13 + 13 * i + 6 + x) → j ≠ 5 → E6 j = E4 j := fun j hj h5 => by
    rw [ho6 j (fun i x _ a2 a3 => hj i x (by omega) a3), u5 j h5]
  have s46 : SD E4 E6 := fun j hj => q6 j (fun i x hi hx e => by unfold stI at hj; omega) (fun e => by unfold stI at hj; omega)
  have gM : ∀ j, 1 ≤ j → gI (phM M b) (b + j) = gI N (b + j) := fun j hj => by
    unfold phM
    rw [e8N, gI_f _ _ (by omega)]
  have gM0 : gI (phM M b) b 6 = nI (h + 1) := by
    unfold phM
    rw [e8N, gI_s, upd_s, t4]
    exact nI_add h 1
  have gMJ : gJ (phM M b) = gJ N := by
    unfold phM
    rw [e8N]
    rfl
  have s6 : ∀ j, j ≠ 4 → stI j → E6 j = D j := fun j h4 hj => (s46 j hj).trans (sS j h4 hj)
  obtain ⟨r1, r2, r3, r4, r5, r6, r7, r8⟩ := rd4
  refine ⟨g', ⟨hW4.sd s46, hB.e hn hf (fun j h5 hj => s6 j (by omega) hj), (rs4.g1 gM).sd hn hf hr hw hW4.2.1.2.2.1 s46, ⟨fun i hi => ?_, fun i k hi hk => ?_, fun i hi => ?_, fun v hv => ?_, ?_, ?_, ?_, ?_⟩, fun k hk => ?_, ⟨gM0, ?_, by omega⟩, ⟨by rw [gM 25 (by decide)]; exact gp4, gw4⟩, ⟨w6, ?_⟩, ?_, ?_, fun k hk => ?_⟩, ?_⟩
  · rw [gM 7 (by decide), q6 _ (fun i x hi hx => by omega) (by omega)]
    exact r1 i hi
  · rw [gM 9 (by decide), hi6 i k (by omega), if_pos (by omega)]
    by_cases e : k = 6
    · subst e
      rw [if_neg (by decide)]
      have := r2 i 0 hi (by decide)
      rw [show 7 * i + (h + 1 + 6) % 7 = 7 * i + (h + 0) % 7 by omega, this]
      exact c6 i hi
    · rw [if_pos (by omega), u5 _ (by omega), show 7 * i + (h + 1 + k) % 7 = 7 * i + (h + (k + 1)) % 7 by omega]
      exact r2 i (k + 1) hi (by omega)
  · rw [gM 18 (by decide), gM 19 (by decide), gM 20 (by decide), gM 21 (by decide), q6 (221 + 11 * i + 7) (fun i x hi hx => by omega) (by omega), q6 (221 + 11 * i + 8) (fun i x hi hx => by omega) (by omega), q6 (221 + 11 * i + 9) (fun i x hi hx => by omega) (by omega), q6 (221 + 11 * i + 10) (fun i x hi hx => by omega) (by omega)]
    exact r3 i hi
  · rw [gM 31 (by decide), q6 _ (fun i x hi hx => by omega) (by omega)]
    exact r4 v hv
  · rw [gMJ, q6 _ (fun i x hi hx => by omega) (by omega)]; exact r5
  · rw [gMJ, q6 _ (fun i x hi hx => by omega) (by omega)]; exact r6
  · rw [gMJ, q6 _ (fun i x hi hx => by omega) (by omega)]; exact r7
  · rw [gMJ, q6 _ (fun i x hi hx => by omega) (by omega)]; exact r8
  · rw [q6 _ (fun i x hi hx => by omega) (by omega)]
    exact f4 k hk
  · rw [ho6 5 (fun i x _ _ _ => by omega), x5]
  · rw [q6 8 (fun i x hi hx => by omega) (by omega), c8]
    exact e8c
  · intro k d hk hd hd6
    rw [s46 _ (st_c (by omega) (by decide))] at hd
    obtain ⟨p1, p2, -⟩ := pi4 k d hk hd hd6
    have d0 : d ≠ 0 := fun e => hW4.d0 k hk (by rw [hd, e])
    have v6 : ∀ i, i ≤ 6 → E6 (13 + 13 * k + 6 + i) = if i < 6 then E4 (13 + 13 * k + 6 + (i + 1)) else 0 := by
      intro i hi
      rw [hi6 k i hi, if_pos (by omega)]
      split
      · exact u5 _ (by omega)
      · rfl
    refine ⟨fun i hi => ?_, fun i a1 a2 => ?_, fun _ => ?_⟩
    · rw [v6 i hi]
      split
      · exact p1 _ (by omega)
      · decide
    · rw [v6 i a2]
      split
      · exact p2 _ (by omega) (by omega)
      · rfl
    · rw [v6 d hd6]
      split
      · exact p2 _ (by omega) (by omega)
      · rfl
  · refine hFW.e ?_ ?_ (s6 6 (by decide) (by unfold stI; omega)) (s6 7 (by decide) (by unfold stI; omega)) (fun i => s6 _ (by omega) (by unfold stI; omega))
    · rw [gM 27 (by decide), ← e8N]
      have := (ss_6 M b).2.2.2.2.1 27 (by decide) rfl
      unfold ph8 ph7
      rw [gI_w2, if_neg (by decide), if_neg (by decide)]
      unfold wkM
      rw [gI_f _ _ (by omega), this]
    · rw [show b + 27 + 1 = b + 28 from rfl, gM 28 (by decide), ← e8N]
      have := (ss_6 M b).2.2.2.2.1 28 (by decide) rfl
      unfold ph8 ph7
      rw [gI_w2, if_neg (by decide), if_neg (by decide)]
      unfold wkM
      rw [gI_f _ _ (by omega), this]
  · rw [s6 _ (by omega) (by unfold stI; omega)]
    exact hRT k hk
  · rw [ta_s (f := f) ((s46 1 (by unfold stI; omega)).trans hW4.2.1.2.1) hf, ta_s hW.2.1.2.1 hf, k2, ← ts4]
    congr 1
    exact (iS_e _ _ (fun i a1 a2 => q6 _ (fun i x hi hx => by omega) (by omega))).symm
