/-! ===== SetupReader: the guard's route, the inflow ===== -/
def agM (M : Mm) (g : Nat) (x : Int32) : Mm := if gI M g 1 < 10 then sI (sI M (g + 1) (upd (gI M (g + 1)) (gI M g 1).toNatClampNeg x)) g (upd (gI M g) 1 (gI M g 1 + 1)) else M
theorem kp_ag (M : Mm) (g : Nat) (x : Int32) : kpI (agM M g x) M := by
  unfold agM
  split
  · exact (kpI.i _ _ _).t (kpI.i _ _ _)
  · exact kpI.r _
theorem gI_ag (M : Mm) {g q : Nat} (x : Int32) (h : q ≠ g) (h1 : q ≠ g + 1) : gI (agM M g x) q = gI M q := by
  unfold agM
  split
  · exact (gI_f _ _ h).trans (gI_f _ _ h1)
  · rfl
theorem UI.ag {M : Mm} {r : Nat} (h : UI M r) (x : Int32) : UI (agM M (r + 28) x) r := by
  refine h.kp (kp_ag _ _ _) ?_ ?_ ?_ ?_ ?_ ?_
  · unfold TJ
    rw [gI_ag _ _ (by omega) (by omega)]
    exact h.2.1
  · rw [gI_ag _ _ (by omega) (by omega)]; exact h.2.2.1
  · rw [gI_ag _ _ (by omega) (by omega)]; exact h.2.2.2.1
  · rw [gI_ag _ _ (by omega) (by omega)]; exact h.2.2.2.2.1
  · obtain ⟨n, hn, e⟩ := h.2.2.2.2.2.1
    unfold agM
    rw [e]
    split
    · rename_i h1
      have := (nI_ltI (a := n) (b := 10) (by omega) (by decide)).mp h1
      exact ⟨n + 1, by omega, by rw [gI_s, upd_s, nI_1]⟩
    · exact ⟨n, hn, e⟩
  · rw [gI_ag _ _ (by omega) (by omega)]; exact h.2.2.2.2.2.2
def gdS (M : Mm) (r : Nat) (c : Int32) : Mm := agM (rnM M r 0 (c - 1)).2 (r + 28) (rnM M r 0 (c - 1)).1
def gdF (k : Nat) (M : Mm) (r : Nat) (c : Int32) : Mm := if k = 10 ∧ gI M (r + 1) 4 < c then flM M r (-4) else M
def gdL (r : Nat) (c : Int32) : Nat → Nat → Mm → Mm
  | 0, _, N => N
  | f + 1, k, N => if gI N r 3 = 0 ∧ gI N (r + 1) 2 = -2 then gdL r c f (k + 1) (gdS (gdF k N r c) r c) else N
def gdM (M : Mm) (r : Nat) : Mm := gdL r (gI M (r + 4) 8) 10 1 (gdS (nxM M (r + 1)) r (gI M (r + 4) 8))
theorem UI.gdS {M : Mm} {r : Nat} (h : UI M r) (c : Int32) : UI (gdS M r c) r := (h.rn _ _).ag _
theorem kp_gdS (M : Mm) (r : Nat) (c : Int32) : kpI (gdS M r c) M := (kp_ag _ _ _).t (kp_rn _ _ _ _)
theorem UI.gdF {M : Mm} {r : Nat} (h : UI M r) (k : Nat) (c : Int32) : UI (gdF k M r c) r := by
  unfold CIrrigationTurnsLaw_law_r8594_1cb289.gdF
  split
  · exact h.fl _
  · exact h
theorem kp_gdF (k : Nat) (M : Mm) (r : Nat) (c : Int32) : kpI (gdF k M r c) M := by
  unfold gdF
  split
  · exact kp_fl _ _ _
  · exact kpI.r _
theorem ui_gdL {r : Nat} (c : Int32) : ∀ f k N, UI N r → UI (gdL r c f k N) r
  | 0, _, N, h => h
  | f + 1, k, N, h => by
    unfold gdL
    split
    · exact ui_gdL c f (k + 1) _ ((h.gdF k c).gdS c)
    · exact h
theorem kp_gdL {r : Nat} (c : Int32) : ∀ f k N, kpI (gdL r c f k N) N
  | 0, _, N => kpI.r _
  | f + 1, k, N => by
    unfold gdL
    split
    · exact (kp_gdL c f (k + 1) _).t ((kp_gdS _ _ _).t (kp_gdF _ _ _ _))
    · exact kpI.r _
theorem UI.gd {M : Mm} {r : Nat} (h : UI M r) : UI (gdM M r) r := ui_gdL _ _ _ _ (h.nx.gdS _)
theorem kp_gd (M : Mm) (r : Nat) : kpI (gdM M r) M := (kp_gdL _ _ _ _).t ((kp_gdS _ _ _).t (kp_nx _ _))
theorem ui_g {N : Mm} {r : Nat} (h : UI N r) : Lg N (r + 28) ∧ cnt (gI N (r + 28) 1) 10 := ⟨h.1.2.2.2.2.2.2.2.2.1, h.2.2.2.2.2.1⟩
def S53 : Sem := fun as M => match as with
  | [.ref r, .ref q] => sV (UI M r ∧ q = r + 28) none (gdM M r)
  | _ => sF
def eX7_readGuard : Nat → Sem := fun id => if id = 32 then S32 else if id = 48 then S48 else if id = 54 then S54 else S74
set_option maxRecDepth 100000 in
set_option maxHeartbeats 4000000 in
theorem s_X7_readGuard {l : Launch} {G : Gt} (hfl : l.stackTraces = false) : SatM l G 53 S53 := by
  refine t_X7_readGuard (E := eX7_readGuard) hfl (s_X3_addStop hfl) (s_X7_fail hfl) (s_X7_readNumber hfl) (s_X9_next hfl) fun as M hp => ?_
  unfold S53 at hp ⊢
  split at hp
  case h_2 => exact hp.elim
  rename_i r q
  obtain ⟨⟨⟨k0, ⟨p0, p1⟩, hT, hS⟩, hU⟩, hq⟩ := hp
  refine ⟨Nat.le_of_ble_eq_true rfl, ?_⟩
  show Run (gT G) _ _ _ _ _ _ _ 0 [.val (.ref r), .val (.ref q), .unset, .unset] [] M 0 0
  have hI : UI M r := ⟨⟨k0, ⟨p0, p1⟩, hT, hS⟩, hU⟩
  subst hq
  have hG : Lg M (r + 28) := hS.2.2.2.2.2.1
  have d0 := hS.1
  have d1 := hS.2.1.1
  have d2 := hS.2.2.1.1
  simp only [Nat.add_assoc, Nat.reduceAdd] at d0 d1 d2
  have fa : ∀ N x, (if gI N (r + 28) 1 < 10 then sI (sI N (r + 28 + 1) (upd (gI N (r + 28 + 1)) (gI N (r + 28) 1).toNatClampNeg x)) (r + 28) (upd (gI N (r + 28)) 1 (gI N (r + 28) 1 + 1)) else N) = agM N (r + 28) x := fun N x => rfl
  simp only [Nat.add_assoc, Nat.reduceAdd] at fa
  have fs : ∀ N c, agM (rnM N r 0 (c - 1)).2 (r + 28) (rnM N r 0 (c - 1)).1 = gdS N r c := fun N c => rfl
  have key : ∀ f k (N : Mm) (c : Int32), k + f = 11 → 1 ≤ k → kpI N M → UI N r → Run (gT G) eX7_readGuard 0 0 (fun _ _ => none) (fun v' M' => v' = none ∧ M' = gdL r c f k N) (fun _ _ => False) kX7_readGuard 32 [.val (.ref r), .val (.ref (r + 28)), .val (.int c), .val (.int (nI k))] [] N 0 0 := by
    intro f
    induction f with
    | zero =>
      intro k N c hk h1 hN hu
      have hk2 : k = 11 := hk
      subst hk2
      have a1 : (10 < nI 11) = True := eq_true (by decide)
      rw [rX7_readGuard_32]
      simp only [kX7_readGuard_32, rX7_readGuard_0, kX7_readGuard_0, rX7_readGuard_80, kX7_readGuard_80, rX7_readGuard_98, kX7_readGuard_98, eX7_readGuard, S32, S48, S54, S74, bk_c, if_true, if_false, wi_e, wl_e, wr_e, w1_i, w1_r, ldS_0, ldS_s, vi_e, vl_e, vr_e, dpL_u, dpL_i, dpL_r, dpL_l, stS_0, stS_1, stS_s, stL_0, stL_1, stL_s, bin_0, bin_1, bin_2, bin_3, bin_4, bin_5, bdv_0, bdv_1, lbin_0, lbin_1, lbin_2, cnd_0, cnd_1, cnd_2, cnd_3, cnd_4, cnd_5, aty_0, aty_1, aty_2, aty_3, aty_4, aty_5, c8_u, cn_0, cn_i, cn_r, cn_l, Nat.reduceAdd, Nat.reduceLeDiff, Nat.le_refl, adz, hnd_0, rcv_0, rcv_1, kLen_a, kLen_r, inB_e, inR_e, cpOK_e, swt_n, swt_c, List.take_succ_cons, List.take_zero, List.drop_succ_cons, List.drop_zero, List.reverse_cons, List.reverse_nil, List.nil_append, List.cons_append, List.length_cons, List.length_nil, Option.toList_some, Option.toList_none, det_e, det_x, tr_imp, fa_imp, implies_true, not_true, not_false_eq_true, and_true, true_and, nar_i, upd_s, st1_0, st1_1, st1_2, st1_3, st1_4, st1_5, st1_6, st1_7, st1_8, st1_9, st1_10, st1_11, st1_12, st1_13, st1_14, st1_15, st1_16, st1_17, st1_18, st1_19, st1_20, st1_21, st1_22, st1_23, st1_24, st1_25, st1_26, st1_27, st1_28, st1_29, st1_30, st1_31, st1_32, st1_33, st1_34, st1_35, st1_36, st1_37, st1_42, st1_43, st1_44, st1_46, st1_47, st1_48, st1_49, st1_50, st1_51, st1_52, st1_53, st1_54, st1_55, st1_56, st1_57, st1_58, st1_59, st1_60, a1, gdL]
    | succ f ih =>
      intro k N c hk h1 hN hu
      have a1 : (10 < nI k) = False := eq_false (fun q => absurd ((nI_ltI (a := 10) (by decide) (by omega)).mp q) (by omega))
      rw [rX7_readGuard_32]
      simp only [kX7_readGuard_32, rX7_readGuard_0, kX7_readGuard_0, rX7_readGuard_80, kX7_readGuard_80, rX7_readGuard_98, kX7_readGuard_98, eX7_readGuard, S32, S48, S54, S74, bk_c, if_true, if_false, wi_e, wl_e, wr_e, w1_i, w1_r, ldS_0, ldS_s, vi_e, vl_e, vr_e, dpL_u, dpL_i, dpL_r, dpL_l, stS_0, stS_1, stS_s, stL_0, stL_1, stL_s, bin_0, bin_1, bin_2, bin_3, bin_4, bin_5, bdv_0, bdv_1, lbin_0, lbin_1, lbin_2, cnd_0, cnd_1, cnd_2, cnd_3, cnd_4, cnd_5, aty_0, aty_1, aty_2, aty_3, aty_4, aty_5, c8_u, cn_0, cn_i, cn_r, cn_l, Nat.reduceAdd, Nat.reduceLeDiff, Nat.le_refl, adz, hnd_0, rcv_0, rcv_1, kLen_a, kLen_r, inB_e, inR_e, cpOK_e, swt_n, swt_c, List.take_succ_cons, List.take_zero, List.drop_succ_cons, List.drop_zero, List.reverse_cons, List.reverse_nil, List.nil_append, List.cons_append, List.length_cons, List.length_nil, Option.toList_some, Option.toList_none, det_e, det_x, tr_imp, fa_imp, implies_true, not_true, not_false_eq_true, and_true, true_and, nar_i, upd_s, st1_0, st1_1, st1_2, st1_3, st1_4, st1_5, st1_6, st1_7, st1_8, st1_9, st1_10, st1_11, st1_12, st1_13, st1_14, st1_15, st1_16, st1_17, st1_18, st1_19, st1_20, st1_21, st1_22, st1_23, st1_24, st1_25, st1_26, st1_27, st1_28, st1_29, st1_30, st1_31, st1_32, st1_33, st1_34, st1_35, st1_36, st1_37, st1_42, st1_43, st1_44, st1_46, st1_47, st1_48, st1_49, st1_50, st1_51, st1_52, st1_53, st1_54, st1_55, st1_56, st1_57, st1_58, st1_59, st1_60, up_q, up_q0, up_q1, up_s, sI_sI, Nat.reduceEqDiff, reduceIte, Nat.succ_ne_zero, forall_const, false_imp_iff, Nat.add_assoc, hN.1, hN.2.1, k0, p0, hT.1, sV, hu, gK_rn, gP_rn, hG.1, fa, fs, a1, nI_1]
      have e0 : gdL r c (f + 1) k N = if gI N r 3 = 0 ∧ gI N (r + 1) 2 = -2 then gdL r c f (k + 1) (gdS (gdF k N r c) r c) else N := rfl
      have go : gI N r 3 = 0 → gI N (r + 1) 2 = -2 → Run (gT G) eX7_readGuard 0 0 (fun _ _ => none) (fun v' M' => v' = none ∧ M' = gdL r c (f + 1) k N) (fun _ _ => False) kX7_readGuard 32 [.val (.ref r), .val (.ref (r + 28)), .val (.int c), .val (.int (nI (k + 1)))] [] (gdS (gdF k N r c) r c) 0 0 := fun h2 h3 => by
        rw [e0, if_pos ⟨h2, h3⟩]
        exact ih (k + 1) _ c (by omega) (by omega) (((kp_gdS _ _ _).t (kp_gdF _ _ _ _)).t hN) ((hu.gdF k c).gdS c)
      refine ⟨fun h2 => ?_, fun h2 => ⟨fun h3 => ?_, fun h3 => ⟨fun h4 => ⟨ui_g (hu.rn _ _), ?_⟩, fun h4 => ⟨fun h5 => ⟨ui_g (hu.rn _ _), ?_⟩, fun h5 => ⟨?_, hu.fl _, ?_, ui_g ((hu.fl _).rn _ _), ?_⟩⟩⟩⟩⟩
      · rw [e0, if_neg (fun q => h2 q.1)]
      · rw [e0, if_neg (fun q => h3 q.2)]
      · have h6 := go (Decidable.not_not.mp h2) (Decidable.not_not.mp h3)
        rw [show gdF k N r c = N from if_neg (fun q => h4 (by rw [q.1]; rfl))] at h6
        exact h6
      · have h6 := go (Decidable.not_not.mp h2) (Decidable.not_not.mp h3)
        rw [show gdF k N r c = N from if_neg (fun q => Int32.not_lt.mpr h5 q.2)] at h6
        exact h6
      · rw [gK_fl, hN.1, k0]
      · rw [gK_fl, hN.1]
        exact hG.1
      · have h6 := go (Decidable.not_not.mp h2) (Decidable.not_not.mp h3)
        have hk10 : k = 10 := by
          have := congrArg Int32.toNatClampNeg (Decidable.not_not.mp h4)
          rw [nI_clamp (by omega)] at this
          exact this
        rw [show gdF k N r c = flM N r (-4) from if_pos ⟨hk10, Int32.not_le.mp h5⟩] at h6
        exact h6
  simp only [rX7_readGuard_0, kX7_readGuard_0, rX7_readGuard_80, kX7_readGuard_80, rX7_readGuard_98, kX7_readGuard_98, eX7_readGuard, S32, S48, S54, S74, bk_c, if_true, if_false, wi_e, wl_e, wr_e, w1_i, w1_r, ldS_0, ldS_s, vi_e, vl_e, vr_e, dpL_u, dpL_i, dpL_r, dpL_l, stS_0, stS_1, stS_s, stL_0, stL_1, stL_s, bin_0, bin_1, bin_2, bin_3, bin_4, bin_5, bdv_0, bdv_1, lbin_0, lbin_1, lbin_2, cnd_0, cnd_1, cnd_2, cnd_3, cnd_4, cnd_5, aty_0, aty_1, aty_2, aty_3, aty_4, aty_5, c8_u, cn_0, cn_i, cn_r, cn_l, Nat.reduceAdd, Nat.reduceLeDiff, Nat.le_refl, adz, hnd_0, rcv_0, rcv_1, kLen_a, kLen_r, inB_e, inR_e, cpOK_e, swt_n, swt_c, List.take_succ_cons, List.take_zero, List.drop_succ_cons, List.drop_zero, List.reverse_cons, List.reverse_nil, List.nil_append, List.cons_append, List.length_cons, List.length_nil, Option.toList_some, Option.toList_none, det_e, det_x, tr_imp, fa_imp, implies_true, not_true, not_false_eq_true, and_true, true_and, nar_i, upd_s, st1_0, st1_1, st1_2, st1_3, st1_4, st1_5, st1_6, st1_7, st1_8, st1_9, st1_10, st1_11, st1_12, st1_13, st1_14, st1_15, st1_16, st1_17, st1_18, st1_19, st1_20, st1_21, st1_22, st1_23, st1_24, st1_25, st1_26, st1_27, st1_28, st1_29, st1_30, st1_31, st1_32, st1_33, st1_34, st1_35, st1_36, st1_37, st1_42, st1_43, st1_44, st1_46, st1_47, st1_48, st1_49, st1_50, st1_51, st1_52, st1_53, st1_54, st1_55, st1_56, st1_57, st1_58, st1_59, st1_60, up_q, up_q0, up_q1, up_s, sI_sI, Nat.reduceEqDiff, reduceIte, Nat.succ_ne_zero, forall_const, false_imp_iff, Nat.add_assoc, gK_nx, gP_nx, gK_rn, gP_rn, k0, p0, p1, d0, d1, d2, hT, hT.1, hU.1.p, hI, hI.nx, sV, hG.1, fa, fs]
  exact ⟨ui_g (hI.nx.rn _ _), key 10 1 _ _ rfl (Nat.le_refl 1) ((kp_gdS _ _ _).t (kp_nx _ _)) (hI.nx.gdS _)⟩
