/-! ===== IrrigationTurnsModel: factors; the levels ===== -/
set_option maxRecDepth 100000 in
set_option maxHeartbeats 4000000 in
theorem g_mfac0 {G : Gt} {E : Nat → Sem} {d : Nat} (e146 : E 146 = S146) (as : List Value) (M : Mm) (hp : (S128 (gT G) 0 as M).1) : (lg_sl as).length ≤ 4 ∧ Run (gT G) E 0 0 (fun _ _ => none) (S128 (gT G) 0 as M).2.1 (S128 (gT G) 0 as M).2.2 (kX11_factor d) 0 (ent as 4) [] M 0 0 := by
  unfold S128 at hp ⊢
  split at hp
  case h_2 => exact hp.elim
  rename_i m
  obtain ⟨hL, hG, hs, hN⟩ := hp
  refine ⟨Nat.le_of_ble_eq_true rfl, ?_⟩
  show Run (gT G) _ _ _ _ _ _ _ 0 [.val (.ref m), .unset, .unset, .unset] [] M 0 0
  have he1 : (gI M m 5 = 0) = False := eq_false (hN.2 rfl)
  simp only [rX11_factor_0, kX11_factor_0, bk_c, if_true, if_false, wi_e, wl_e, wr_e, w1_i, w1_r, ldS_0, ldS_s, vi_e, vl_e, vr_e, dpL_u, dpL_i, dpL_r, dpL_l, stS_0, stS_1, stS_s, stL_0, stL_1, stL_s, bin_0, bin_1, bin_2, bin_3, bin_4, bin_5, bdv_0, bdv_1, lbin_0, lbin_1, lbin_2, cnd_0, cnd_1, cnd_2, cnd_3, cnd_4, cnd_5, aty_0, aty_1, aty_2, aty_3, aty_4, aty_5, c8_u, cn_0, cn_i, cn_r, cn_l, Nat.reduceAdd, Nat.reduceLeDiff, Nat.le_refl, adz, hnd_0, rcv_0, rcv_1, kLen_a, kLen_r, inB_e, inR_e, cpOK_e, swt_n, swt_c, List.take_succ_cons, List.take_zero, List.drop_succ_cons, List.drop_zero, List.reverse_cons, List.reverse_nil, List.nil_append, List.cons_append, List.length_cons, List.length_nil, Option.toList_some, Option.toList_none, det_e, det_x, tr_imp, fa_imp, implies_true, not_true, not_false_eq_true, and_true, true_and, nar_i, upd_s, st1_0, st1_1, st1_2, st1_3, st1_4, st1_5, st1_6, st1_7, st1_8, st1_9, st1_10, st1_11, st1_12, st1_13, st1_14, st1_15, st1_16, st1_17, st1_18, st1_19, st1_20, st1_21, st1_22, st1_23, st1_24, st1_25, st1_26, st1_27, st1_28, st1_29, st1_30, st1_31, st1_32, st1_33, st1_34, st1_35, st1_36, st1_37, st1_42, st1_43, st1_44, st1_46, st1_47, st1_48, st1_49, st1_50, st1_51, st1_52, st1_53, st1_54, st1_55, st1_56, st1_57, st1_58, st1_59, st1_60, Nat.reduceEqDiff, reduceIte, e146, S146, sV, hL.f, hL, b9_0, he1, facK]
theorem tw_or (N : Mm) (m w : Nat) : (twN N m w).1 = 0 ∨ (twN N m w).1 = 1 := by
  unfold twN
  split
  · exact Or.inl rfl
  · split
    · exact Or.inl rfl
    · exact Or.inr rfl
theorem fp3_n (M : Mm) (m : Nat) : kpI (fp3 M m) M ∧ gI (fp3 M m) m 14 = gI M m 14 + 1 ∧ gI (fp3 M m) m 5 = gI (fp2 M m) m 5 := by
  refine ⟨(kpI.i _ _ _).t (fp2_n M m).1, ?_, ?_⟩
  · unfold fp3
    rw [gI_s, upd_s]
  · unfold fp3
    rw [gI_s, upd_n _ _ (by decide), upd_n _ _ (by decide)]
theorem GZ.p3 {M : Mm} {m : Nat} (h : GZ M m) (hc : nxc M m = 40) : GZ (fp3 M m) m := by
  obtain ⟨L, p, k, h1, h2, h3, h4, h5, h6⟩ := h
  have hb := nxp_b h1 h2 h4 h5
  have hn : ¬ bA (gI M (m + 1)) L (nxp M m) = -1 := by
    unfold nxc at hc
    rw [hb.2.2.1] at hc
    rw [hc]
    decide
  have hlt := bA_lt hn
  have e : gI (fp2 M m) (m + 3) = gI M (m + 3) := by
    unfold fp2
    split
    · rw [re_f _ _ _ (by omega)]; exact ps_3 _ _ _
    · exact ps_3 _ _ _
  refine ⟨L, nxp M m + 1, k, h1, by omega, by omega, ?_, ?_, ?_⟩
  · unfold fp3
    rw [gI_s, upd_n _ _ (by decide), upd_n _ _ (by decide), (fp2_n M m).2.2.2.1 3 (by decide) (by decide) (by decide) (by decide)]
    exact h4
  · unfold fp3
    rw [gI_s, upd_n _ _ (by decide), upd_s]
  · unfold fp3
    rw [gI_f _ _ (by omega), e]
    exact h6
set_option maxRecDepth 100000 in
set_option maxHeartbeats 4000000 in
theorem g_mfacS {G : Gt} {E : Nat → Sem} {d k : Nat} (hk : k ≤ 4) (e123 : E 123 = S123) (e126 : E 126 = S126) (e144 : E 144 = S144) (e146 : E 146 = S146) (e151 : E 151 = S151) (e155 : E 155 = S155) (e166 : E 166 = S166) (e171 : E (171 + 1000 * (d - 1)) = S171 (gT G) k) (e174 : E 174 = S174) (as : List Value) (M : Mm) (hp : (S128 (gT G) (k + 1) as M).1) : (lg_sl as).length ≤ 4 ∧ Run (gT G) E 0 0 (fun _ _ => none) (S128 (gT G) (k + 1) as M).2.1 (S128 (gT G) (k + 1) as M).2.2 (kX11_factor d) 0 (ent as 4) [] M 0 0 := by
  unfold S128 at hp ⊢
  split at hp
  case h_2 => exact hp.elim
  rename_i m
  obtain ⟨hL, hG, hs, hN⟩ := hp
  refine ⟨Nat.le_of_ble_eq_true rfl, ?_⟩
  show Run (gT G) _ _ _ _ _ _ _ 0 [.val (.ref m), .unset, .unset, .unset] [] M 0 0
  have hJ := (hG.c (RZ.r M m) (by decide)).2
  have hne : gI M m 14 = nI (4 - k) := by rw [hN.1]; congr 1; omega
  have i10 : ((1 : Int32) = 0) = False := eq_false (by decide)
  have l1 : ((0 : Int32) ≤ -1) = False := eq_false (by decide)
  have l2 : ((0 : Int32) ≤ 0) = True := eq_true (by decide)
  have l3 : ((0 : Int32) ≤ 1) = True := eq_true (by decide)
  have l4 : ((0 : Int32) ≤ 2) = True := eq_true (by decide)
  show Run (gT G) E 0 0 (fun _ _ => none) (fun v' M' => v' = none ∧ M' = fcN m (smZ m (facK m k)) M) _ _ _ _ _ _ _ _
  unfold fcN
  by_cases he : gI M m 5 = 0
  · have he1 : (gI M m 5 = 0) = True := eq_true he
    rw [if_neg (fun q => q he)]
    by_cases h40 : nxc M m = 40
    · have h40t : (nxc M m = 40) = True := eq_true h40
      rw [if_pos h40]
      have z3 := fp3_n M m
      have g3 := hG.p3 h40
      have hsm := gdz_sm (gdz_fa m k) (fp3 M m)
      have L3 : LM (fp3 M m) m := hL.kp z3.1.1 z3.1.2.1
      have s3 : STR (gT G) (fp3 M m) := hs.kp z3.1
      have L4 := L3.rz hsm
      have J4 := (g3.c hsm (by omega)).2
      have L5 : LM (xpN (smZ m (facK m k) (fp3 M m)) m 41) m := L4.rz (rz_xp _ m (c := 41) (by decide))
      have f5 : sI (xpN (smZ m (facK m k) (fp3 M m)) m 41) m (upd (gI (xpN (smZ m (facK m k) (fp3 M m)) m 41) m) 14 (gI (xpN (smZ m (facK m k) (fp3 M m)) m 41) m 14 - 1)) = fp5 m (smZ m (facK m k)) M := rfl
      have n14 : nI (4 - k) + 1 = nI (5 - k) := by rw [nI_1]; congr 1; omega
      by_cases hk0 : k = 0
      · have e4 : (gI M m 14 = 4) = True := eq_true (by rw [hne, hk0]; rfl)
        have f2 : reN (nxN M m) m (-5) (nI (nxp M m)) = fp2 M m := by unfold fp2; rw [if_pos (of_eq_true e4)]
        have L2 : LM (fp2 M m) m := hL.rz (fp2_n M m)
        have e2a : gI (fp2 M m) m 4 = nI (nxp M m) := by rw [← f2, re_n _ _ _ _ (by decide) (by decide)]; exact ps_4 _ _ _
        have e2b : gI (fp2 M m) m 14 = gI M m 14 := (fp2_n M m).2.2.2.1 14 (by decide) (by decide) (by decide) (by decide)
        have f3 : sI (fp2 M m) m (upd (upd (gI (fp2 M m) m) 4 (nI (nxp M m + 1))) 14 (gI M m 14 + 1)) = fp3 M m := rfl
        have hst : nstP k (fp3 M m) m := ⟨by rw [z3.2.1, hne, n14], fun _ => by rw [z3.2.2, ← f2]; exact re_5 (by decide)⟩
        have en14 : gI (nxN M m) m 14 = gI M m 14 := ps_n _ _ _ (by decide)
        simp only [rX11_factor_0, kX11_factor_0, rX11_factor_8, kX11_factor_8, rX11_factor_37, kX11_factor_37, rX11_factor_78, kX11_factor_78, rX11_factor_89, kX11_factor_89, rX11_factor_102, kX11_factor_102, rX11_factor_115, kX11_factor_115, rX11_factor_128, kX11_factor_128, rX11_factor_129, kX11_factor_129, rX11_factor_145, kX11_factor_145, rX11_factor_146, kX11_factor_146, rX11_factor_156, kX11_factor_156, rX11_factor_157, kX11_factor_157, bk_c, if_true, if_false, wi_e, wl_e, wr_e, w1_i, w1_r, ldS_0, ldS_s, vi_e, vl_e, vr_e, dpL_u, dpL_i, dpL_r, dpL_l, stS_0, stS_1, stS_s, stL_0, stL_1, stL_s, bin_0, bin_1, bin_2, bin_3, bin_4, bin_5, bdv_0, bdv_1, lbin_0, lbin_1, lbin_2, cnd_0, cnd_1, cnd_2, cnd_3, cnd_4, cnd_5, aty_0, aty_1, aty_2, aty_3, aty_4, aty_5, c8_u, cn_0, cn_i, cn_r, cn_l, Nat.reduceAdd, Nat.reduceLeDiff, Nat.le_refl, adz, hnd_0, rcv_0, rcv_1, kLen_a, kLen_r, inB_e, inR_e, cpOK_e, swt_n, swt_c, List.take_succ_cons, List.take_zero, List.drop_succ_cons, List.drop_zero, List.reverse_cons, List.reverse_nil, List.nil_append, List.cons_append, List.length_cons, List.length_nil, Option.toList_some, Option.toList_none, det_e, det_x, tr_imp, fa_imp, implies_true, not_true, not_false_eq_true, and_true, true_and, nar_i, upd_s, st1_0, st1_1, st1_2, st1_3, st1_4, st1_5, st1_6, st1_7, st1_8, st1_9, st1_10, st1_11, st1_12, st1_13, st1_14, st1_15, st1_16, st1_17, st1_18, st1_19, st1_20, st1_21, st1_22, st1_23, st1_24, st1_25, st1_26, st1_27, st1_28, st1_29, st1_30, st1_31, st1_32, st1_33, st1_34, st1_35, st1_36, st1_37, st1_42, st1_43, st1_44, st1_46, st1_47, st1_48, st1_49, st1_50, st1_51, st1_52, st1_53, st1_54, st1_55, st1_56, st1_57, st1_58, st1_59, st1_60, Nat.reduceEqDiff, reduceIte, e123, e126, e144, e146, e151, e155, e166, e171, e174, S123, S126, S144, S146, S151, S155, S166, S171, S174, sV, gK_sI, gI_s, sI_sI, hL.f, hL, hL.nx, hJ, b9_0, he1, h40t, nx_e, en14, e4, f2, L2, L2.f, e2a, e2b, nI_1, upd_n _ _ (show (14 : Nat) ≠ 4 by decide), f3, L3, g3, s3, hst, L4, L4.f, J4, L5.f, f5, e4]
      · have e4 : (gI M m 14 = 4) = False := eq_false (fun q => by
          rw [hne] at q
          have := (nI_eq (a := 4 - k) (b := 4) (by omega) (by decide)).mp q
          omega)
        have f2 : nxN M m = fp2 M m := by unfold fp2; rw [if_neg (fun q => (of_eq_false e4) q)]
        have L2 : LM (fp2 M m) m := hL.rz (fp2_n M m)
        have e2a : gI (fp2 M m) m 4 = nI (nxp M m) := by rw [← f2]; exact ps_4 _ _ _
        have e2b : gI (fp2 M m) m 14 = gI M m 14 := (fp2_n M m).2.2.2.1 14 (by decide) (by decide) (by decide) (by decide)
        have f3 : sI (fp2 M m) m (upd (upd (gI (fp2 M m) m) 4 (nI (nxp M m + 1))) 14 (gI M m 14 + 1)) = fp3 M m := rfl
        have hst : nstP k (fp3 M m) m := ⟨by rw [z3.2.1, hne, n14], fun e => absurd e hk0⟩
        simp only [rX11_factor_0, kX11_factor_0, rX11_factor_8, kX11_factor_8, rX11_factor_37, kX11_factor_37, rX11_factor_78, kX11_factor_78, rX11_factor_89, kX11_factor_89, rX11_factor_102, kX11_factor_102, rX11_factor_115, kX11_factor_115, rX11_factor_128, kX11_factor_128, rX11_factor_129, kX11_factor_129, rX11_factor_145, kX11_factor_145, rX11_factor_146, kX11_factor_146, rX11_factor_156, kX11_factor_156, rX11_factor_157, kX11_factor_157, bk_c, if_true, if_false, wi_e, wl_e, wr_e, w1_i, w1_r, ldS_0, ldS_s, vi_e, vl_e, vr_e, dpL_u, dpL_i, dpL_r, dpL_l, stS_0, stS_1, stS_s, stL_0, stL_1, stL_s, bin_0, bin_1, bin_2, bin_3, bin_4, bin_5, bdv_0, bdv_1, lbin_0, lbin_1, lbin_2, cnd_0, cnd_1, cnd_2, cnd_3, cnd_4, cnd_5, aty_0, aty_1, aty_2, aty_3, aty_4, aty_5, c8_u, cn_0, cn_i, cn_r, cn_l, Nat.reduceAdd, Nat.reduceLeDiff, Nat.le_refl, adz, hnd_0, rcv_0, rcv_1, kLen_a, kLen_r, inB_e, inR_e, cpOK_e, swt_n, swt_c, List.take_succ_cons, List.take_zero, List.drop_succ_cons, List.drop_zero, List.reverse_cons, List.reverse_nil, List.nil_append, List.cons_append, List.length_cons, List.length_nil, Option.toList_some, Option.toList_none, det_e, det_x, tr_imp, fa_imp, implies_true, not_true, not_false_eq_true, and_true, true_and, nar_i, upd_s, st1_0, st1_1, st1_2, st1_3, st1_4, st1_5, st1_6, st1_7, st1_8, st1_9, st1_10, st1_11, st1_12, st1_13, st1_14, st1_15, st1_16, st1_17, st1_18, st1_19, st1_20, st1_21, st1_22, st1_23, st1_24, st1_25, st1_26, st1_27, st1_28, st1_29, st1_30, st1_31, st1_32, st1_33, st1_34, st1_35, st1_36, st1_37, st1_42, st1_43, st1_44, st1_46, st1_47, st1_48, st1_49, st1_50, st1_51, st1_52, st1_53, st1_54, st1_55, st1_56, st1_57, st1_58, st1_59, st1_60, Nat.reduceEqDiff, reduceIte, e123, e126, e144, e146, e151, e155, e166, e171, e174, S123, S126, S144, S146, S151, S155, S166, S171, S174, sV, gK_sI, gI_s, sI_sI, hL.f, hL, hJ, b9_0, he1, h40t, f2, L2, L2.f, e2a, e2b, e4, nI_1, upd_n _ _ (show (14 : Nat) ≠ 4 by decide), f3, L3, g3, s3, hst, L4, L4.f, J4, L5.f, f5]
    · have h40f : (nxc M m = 40) = False := eq_false h40
      rw [if_neg h40]
      have z1 := rz_nx M m
      have L1 := hL.rz z1
      have J1 := (hG.c z1 (by decide)).2
      by_cases hd : inI (nxc M m) 48 57
      · have hd1 : inI (nxc M m) 48 57 = True := eq_true hd
        rw [if_pos hd]
        have z2 := (rz_nu (nxN M m) m 0 9999).t z1
        have L2 := hL.rz z2
        have c2 := (hG.c z2 (by decide)).1
        have z3 := (rz_em (nuN (nxN M m) m 0 9999).2 m 0).t z2
        have L3 := hL.rz z3
        have c3 := (hG.c z3 (by decide)).1
        simp only [rX11_factor_0, kX11_factor_0, rX11_factor_8, kX11_factor_8, rX11_factor_37, kX11_factor_37, rX11_factor_78, kX11_factor_78, rX11_factor_89, kX11_factor_89, rX11_factor_102, kX11_factor_102, rX11_factor_115, kX11_factor_115, rX11_factor_128, kX11_factor_128, rX11_factor_129, kX11_factor_129, rX11_factor_145, kX11_factor_145, rX11_factor_146, kX11_factor_146, rX11_factor_156, kX11_factor_156, rX11_factor_157, kX11_factor_157, bk_c, if_true, if_false, wi_e, wl_e, wr_e, w1_i, w1_r, ldS_0, ldS_s, vi_e, vl_e, vr_e, dpL_u, dpL_i, dpL_r, dpL_l, stS_0, stS_1, stS_s, stL_0, stL_1, stL_s, bin_0, bin_1, bin_2, bin_3, bin_4, bin_5, bdv_0, bdv_1, lbin_0, lbin_1, lbin_2, cnd_0, cnd_1, cnd_2, cnd_3, cnd_4, cnd_5, aty_0, aty_1, aty_2, aty_3, aty_4, aty_5, c8_u, cn_0, cn_i, cn_r, cn_l, Nat.reduceAdd, Nat.reduceLeDiff, Nat.le_refl, adz, hnd_0, rcv_0, rcv_1, kLen_a, kLen_r, inB_e, inR_e, cpOK_e, swt_n, swt_c, List.take_succ_cons, List.take_zero, List.drop_succ_cons, List.drop_zero, List.reverse_cons, List.reverse_nil, List.nil_append, List.cons_append, List.length_cons, List.length_nil, Option.toList_some, Option.toList_none, det_e, det_x, tr_imp, fa_imp, implies_true, not_true, not_false_eq_true, and_true, true_and, nar_i, upd_s, st1_0, st1_1, st1_2, st1_3, st1_4, st1_5, st1_6, st1_7, st1_8, st1_9, st1_10, st1_11, st1_12, st1_13, st1_14, st1_15, st1_16, st1_17, st1_18, st1_19, st1_20, st1_21, st1_22, st1_23, st1_24, st1_25, st1_26, st1_27, st1_28, st1_29, st1_30, st1_31, st1_32, st1_33, st1_34, st1_35, st1_36, st1_37, st1_42, st1_43, st1_44, st1_46, st1_47, st1_48, st1_49, st1_50, st1_51, st1_52, st1_53, st1_54, st1_55, st1_56, st1_57, st1_58, st1_59, st1_60, Nat.reduceEqDiff, reduceIte, e123, e126, e144, e146, e151, e155, e166, e171, e174, S123, S126, S144, S146, S151, S155, S166, S171, S174, sV, hL.f, hL, hJ, b9_0, he1, h40f, hd1, L1.f, L1, J1, L2.f, L2, c2, L3.f, L3, c3, l1, implies_true]
        exact rfl
      · have hd1 : inI (nxc M m) 48 57 = False := eq_false hd
        rw [if_neg hd]
        have q8 := hs 8 (by decide)
        have q9 := hs 9 (by decide)
        have q5 := hs 5 (by decide)
        have w8 : (∃ i, i < 10 ∧ kS 8 = kS i) = True := eq_true ⟨8, by decide, rfl⟩
        have w9 : (∃ i, i < 10 ∧ kS 9 = kS i) = True := eq_true ⟨9, by decide, rfl⟩
        have w5 : (∃ i, i < 10 ∧ kS 5 = kS i) = True := eq_true ⟨5, by decide, rfl⟩
        have y8 := (rz_tw (nxN M m) m (w := 8) (by decide)).1.t z1
        have y9 := (rz_tw (twN (nxN M m) m 8).2 m (w := 9) (by decide)).1.t y8
        have y5 := (rz_tw (twN (twN (nxN M m) m 8).2 m 9).2 m (w := 5) (by decide)).1.t y9
        have yn := (rz_nu (twN (twN (twN (nxN M m) m 8).2 m 9).2 m 5).2 m 0 9999).t y5
        have L8 := hL.rz y8
        have L9 := hL.rz y9
        have L5 := hL.rz y5
        have Ln := hL.rz yn
        have J8 := hG.c y8 (by decide)
        have J9 := hG.c y9 (by decide)
        have J5 := hG.c y5 (by decide)
        have Jn := hG.c yn (by decide)
        have ye8 := (rz_em (twN (nxN M m) m 8).2 m 1).t y8
        have ye9 := (rz_em (twN (twN (nxN M m) m 8).2 m 9).2 m 1).t y9
        have ye5 := (rz_em (twN (twN (twN (nxN M m) m 8).2 m 9).2 m 5).2 m 1).t y5
        have yen := (rz_em (nuN (twN (twN (twN (nxN M m) m 8).2 m 9).2 m 5).2 m 0 9999).2 m 0).t yn
        have x8 := (hG.c ye8 (by decide)).1
        have x9 := (hG.c ye9 (by decide)).1
        have x5 := (hG.c ye5 (by decide)).1
        have xn := (hG.c yen (by decide)).1
        have k1 : gK (nxN M m) = gK M := z1.1.1
        have k8 : gK (twN (nxN M m) m 8).2 = gK M := y8.1.1
        have k9 : gK (twN (twN (nxN M m) m 8).2 m 9).2 = gK M := y9.1.1
        unfold fcW
        rcases tw_or (nxN M m) m 8 with r8 | r8
        · rw [if_neg (fun q => q r8)]
          rcases tw_or (twN (nxN M m) m 8).2 m 9 with r9 | r9
          · rw [if_neg (fun q => q r9)]
            rcases tw_or (twN (twN (nxN M m) m 8).2 m 9).2 m 5 with r5 | r5
            · rw [if_neg (fun q => q r5)]
              simp only [rX11_factor_0, kX11_factor_0, rX11_factor_8, kX11_factor_8, rX11_factor_37, kX11_factor_37, rX11_factor_78, kX11_factor_78, rX11_factor_89, kX11_factor_89, rX11_factor_102, kX11_factor_102, rX11_factor_115, kX11_factor_115, rX11_factor_128, kX11_factor_128, rX11_factor_129, kX11_factor_129, rX11_factor_145, kX11_factor_145, rX11_factor_146, kX11_factor_146, rX11_factor_156, kX11_factor_156, rX11_factor_157, kX11_factor_157, bk_c, if_true, if_false, wi_e, wl_e, wr_e, w1_i, w1_r, ldS_0, ldS_s, vi_e, vl_e, vr_e, dpL_u, dpL_i, dpL_r, dpL_l, stS_0, stS_1, stS_s, stL_0, stL_1, stL_s, bin_0, bin_1, bin_2, bin_3, bin_4, bin_5, bdv_0, bdv_1, lbin_0, lbin_1, lbin_2, cnd_0, cnd_1, cnd_2, cnd_3, cnd_4, cnd_5, aty_0, aty_1, aty_2, aty_3, aty_4, aty_5, c8_u, cn_0, cn_i, cn_r, cn_l, Nat.reduceAdd, Nat.reduceLeDiff, Nat.le_refl, adz, hnd_0, rcv_0, rcv_1, kLen_a, kLen_r, inB_e, inR_e, cpOK_e, swt_n, swt_c, List.take_succ_cons, List.take_zero, List.drop_succ_cons, List.drop_zero, List.reverse_cons, List.reverse_nil, List.nil_append, List.cons_append, List.length_cons, List.length_nil, Option.toList_some, Option.toList_none, det_e, det_x, tr_imp, fa_imp, implies_true, not_true, not_false_eq_true, and_true, true_and, nar_i, upd_s, st1_0, st1_1, st1_2, st1_3, st1_4, st1_5, st1_6, st1_7, st1_8, st1_9, st1_10, st1_11, st1_12, st1_13, st1_14, st1_15, st1_16, st1_17, st1_18, st1_19, st1_20, st1_21, st1_22, st1_23, st1_24, st1_25, st1_26, st1_27, st1_28, st1_29, st1_30, st1_31, st1_32, st1_33, st1_34, st1_35, st1_36, st1_37, st1_42, st1_43, st1_44, st1_46, st1_47, st1_48, st1_49, st1_50, st1_51, st1_52, st1_53, st1_54, st1_55, st1_56, st1_57, st1_58, st1_59, st1_60, Nat.reduceEqDiff, reduceIte, e123, e126, e144, e146, e151, e155, e166, e171, e174, S123, S126, S144, S146, S151, S155, S166, S171, S174, sV, hL.f, hL, hJ, b9_0, he1, h40f, hd1, L1, J1, k1, k8, k9, q8, q9, q5, w8, w9, w5, kSi_e, r8, r9, r5, L8, J8, L9, J9, L5, J5, Ln, Jn, L5.f, Ln.f, xn, (hL.rz yen).f, hL.rz yen, l1, implies_true]
              exact rfl
            · have hnz : ¬ (twN (twN (twN (nxN M m) m 8).2 m 9).2 m 5).1 = 0 := by rw [r5]; decide
              rw [if_pos hnz]
              simp only [rX11_factor_0, kX11_factor_0, rX11_factor_8, kX11_factor_8, rX11_factor_37, kX11_factor_37, rX11_factor_78, kX11_factor_78, rX11_factor_89, kX11_factor_89, rX11_factor_102, kX11_factor_102, rX11_factor_115, kX11_factor_115, rX11_factor_128, kX11_factor_128, rX11_factor_129, kX11_factor_129, rX11_factor_145, kX11_factor_145, rX11_factor_146, kX11_factor_146, rX11_factor_156, kX11_factor_156, rX11_factor_157, kX11_factor_157, bk_c, if_true, if_false, wi_e, wl_e, wr_e, w1_i, w1_r, ldS_0, ldS_s, vi_e, vl_e, vr_e, dpL_u, dpL_i, dpL_r, dpL_l, stS_0, stS_1, stS_s, stL_0, stL_1, stL_s, bin_0, bin_1, bin_2, bin_3, bin_4, bin_5, bdv_0, bdv_1, lbin_0, lbin_1, lbin_2, cnd_0, cnd_1, cnd_2, cnd_3, cnd_4, cnd_5, aty_0, aty_1, aty_2, aty_3, aty_4, aty_5, c8_u, cn_0, cn_i, cn_r, cn_l, Nat.reduceAdd, Nat.reduceLeDiff, Nat.le_refl, adz, hnd_0, rcv_0, rcv_1, kLen_a, kLen_r, inB_e, inR_e, cpOK_e, swt_n, swt_c, List.take_succ_cons, List.take_zero, List.drop_succ_cons, List.drop_zero, List.reverse_cons, List.reverse_nil, List.nil_append, List.cons_append, List.length_cons, List.length_nil, Option.toList_some, Option.toList_none, det_e, det_x, tr_imp, fa_imp, implies_true, not_true, not_false_eq_true, and_true, true_and, nar_i, upd_s, st1_0, st1_1, st1_2, st1_3, st1_4, st1_5, st1_6, st1_7, st1_8, st1_9, st1_10, st1_11, st1_12, st1_13, st1_14, st1_15, st1_16, st1_17, st1_18, st1_19, st1_20, st1_21, st1_22, st1_23, st1_24, st1_25, st1_26, st1_27, st1_28, st1_29, st1_30, st1_31, st1_32, st1_33, st1_34, st1_35, st1_36, st1_37, st1_42, st1_43, st1_44, st1_46, st1_47, st1_48, st1_49, st1_50, st1_51, st1_52, st1_53, st1_54, st1_55, st1_56, st1_57, st1_58, st1_59, st1_60, Nat.reduceEqDiff, reduceIte, e123, e126, e144, e146, e151, e155, e166, e171, e174, S123, S126, S144, S146, S151, S155, S166, S171, S174, sV, hL.f, hL, hJ, b9_0, he1, h40f, hd1, L1, J1, k1, k8, k9, q8, q9, q5, w8, w9, w5, kSi_e, r8, r9, r5, i10, L8, J8, L9, J9, L5, J5, L5.f, x5, (hL.rz ye5).f, hL.rz ye5, l4, implies_true]
              exact rfl
          · have hnz : ¬ (twN (twN (nxN M m) m 8).2 m 9).1 = 0 := by rw [r9]; decide
            rw [if_pos hnz]
            simp only [rX11_factor_0, kX11_factor_0, rX11_factor_8, kX11_factor_8, rX11_factor_37, kX11_factor_37, rX11_factor_78, kX11_factor_78, rX11_factor_89, kX11_factor_89, rX11_factor_102, kX11_factor_102, rX11_factor_115, kX11_factor_115, rX11_factor_128, kX11_factor_128, rX11_factor_129, kX11_factor_129, rX11_factor_145, kX11_factor_145, rX11_factor_146, kX11_factor_146, rX11_factor_156, kX11_factor_156, rX11_factor_157, kX11_factor_157, bk_c, if_true, if_false, wi_e, wl_e, wr_e, w1_i, w1_r, ldS_0, ldS_s, vi_e, vl_e, vr_e, dpL_u, dpL_i, dpL_r, dpL_l, stS_0, stS_1, stS_s, stL_0, stL_1, stL_s, bin_0, bin_1, bin_2, bin_3, bin_4, bin_5, bdv_0, bdv_1, lbin_0, lbin_1, lbin_2, cnd_0, cnd_1, cnd_2, cnd_3, cnd_4, cnd_5, aty_0, aty_1, aty_2, aty_3, aty_4, aty_5, c8_u, cn_0, cn_i, cn_r, cn_l, Nat.reduceAdd, Nat.reduceLeDiff, Nat.le_refl, adz, hnd_0, rcv_0, rcv_1, kLen_a, kLen_r, inB_e, inR_e, cpOK_e, swt_n, swt_c, List.take_succ_cons, List.take_zero, List.drop_succ_cons, List.drop_zero, List.reverse_cons, List.reverse_nil, List.nil_append, List.cons_append, List.length_cons, List.length_nil, Option.toList_some, Option.toList_none, det_e, det_x, tr_imp, fa_imp, implies_true, not_true, not_false_eq_true, and_true, true_and, nar_i, upd_s, st1_0, st1_1, st1_2, st1_3, st1_4, st1_5, st1_6, st1_7, st1_8, st1_9, st1_10, st1_11, st1_12, st1_13, st1_14, st1_15, st1_16, st1_17, st1_18, st1_19, st1_20, st1_21, st1_22, st1_23, st1_24, st1_25, st1_26, st1_27, st1_28, st1_29, st1_30, st1_31, st1_32, st1_33, st1_34, st1_35, st1_36, st1_37, st1_42, st1_43, st1_44, st1_46, st1_47, st1_48, st1_49, st1_50, st1_51, st1_52, st1_53, st1_54, st1_55, st1_56, st1_57, st1_58, st1_59, st1_60, Nat.reduceEqDiff, reduceIte, e123, e126, e144, e146, e151, e155, e166, e171, e174, S123, S126, S144, S146, S151, S155, S166, S171, S174, sV, hL.f, hL, hJ, b9_0, he1, h40f, hd1, L1, J1, k1, k8, k9, q8, q9, q5, w8, w9, w5, kSi_e, r8, r9, i10, L8, J8, L9, J9, L9.f, x9, (hL.rz ye9).f, hL.rz ye9, l3, implies_true]
            exact rfl
        · have hnz : ¬ (twN (nxN M m) m 8).1 = 0 := by rw [r8]; decide
          rw [if_pos hnz]
          simp only [rX11_factor_0, kX11_factor_0, rX11_factor_8, kX11_factor_8, rX11_factor_37, kX11_factor_37, rX11_factor_78, kX11_factor_78, rX11_factor_89, kX11_factor_89, rX11_factor_102, kX11_factor_102, rX11_factor_115, kX11_factor_115, rX11_factor_128, kX11_factor_128, rX11_factor_129, kX11_factor_129, rX11_factor_145, kX11_factor_145, rX11_factor_146, kX11_factor_146, rX11_factor_156, kX11_factor_156, rX11_factor_157, kX11_factor_157, bk_c, if_true, if_false, wi_e, wl_e, wr_e, w1_i, w1_r, ldS_0, ldS_s, vi_e, vl_e, vr_e, dpL_u, dpL_i, dpL_r, dpL_l, stS_0, stS_1, stS_s, stL_0, stL_1, stL_s, bin_0, bin_1, bin_2, bin_3, bin_4, bin_5, bdv_0, bdv_1, lbin_0, lbin_1, lbin_2, cnd_0, cnd_1, cnd_2, cnd_3, cnd_4, cnd_5, aty_0, aty_1, aty_2, aty_3, aty_4, aty_5, c8_u, cn_0, cn_i, cn_r, cn_l, Nat.reduceAdd, Nat.reduceLeDiff, Nat.le_refl, adz, hnd_0, rcv_0, rcv_1, kLen_a, kLen_r, inB_e, inR_e, cpOK_e, swt_n, swt_c, List.take_succ_cons, List.take_zero, List.drop_succ_cons, List.drop_zero, List.reverse_cons, List.reverse_nil, List.nil_append, List.cons_append, List.length_cons, List.length_nil, Option.toList_some, Option.toList_none, det_e, det_x, tr_imp, fa_imp, implies_true, not_true, not_false_eq_true, and_true, true_and, nar_i, upd_s, st1_0, st1_1, st1_2, st1_3, st1_4, st1_5, st1_6, st1_7, st1_8, st1_9, st1_10, st1_11, st1_12, st1_13, st1_14, st1_15, st1_16, st1_17, st1_18, st1_19, st1_20, st1_21, st1_22, st1_23, st1_24, st1_25, st1_26, st1_27, st1_28, st1_29, st1_30, st1_31, st1_32, st1_33, st1_34, st1_35, st1_36, st1_37, st1_42, st1_43, st1_44, st1_46, st1_47, st1_48, st1_49, st1_50, st1_51, st1_52, st1_53, st1_54, st1_55, st1_56, st1_57, st1_58, st1_59, st1_60, Nat.reduceEqDiff, reduceIte, e123, e126, e144, e146, e151, e155, e166, e171, e174, S123, S126, S144, S146, S151, S155, S166, S171, S174, sV, hL.f, hL, hJ, b9_0, he1, h40f, hd1, L1, J1, k1, k8, k9, q8, q9, q5, w8, w9, w5, kSi_e, r8, i10, L8, J8, L8.f, x8, (hL.rz ye8).f, hL.rz ye8, l2, implies_true]
          exact rfl
  · have he1 : (gI M m 5 = 0) = False := eq_false he
    rw [if_pos he]
    simp only [rX11_factor_0, kX11_factor_0, bk_c, if_true, if_false, wi_e, wl_e, wr_e, w1_i, w1_r, ldS_0, ldS_s, vi_e, vl_e, vr_e, dpL_u, dpL_i, dpL_r, dpL_l, stS_0, stS_1, stS_s, stL_0, stL_1, stL_s, bin_0, bin_1, bin_2, bin_3, bin_4, bin_5, bdv_0, bdv_1, lbin_0, lbin_1, lbin_2, cnd_0, cnd_1, cnd_2, cnd_3, cnd_4, cnd_5, aty_0, aty_1, aty_2, aty_3, aty_4, aty_5, c8_u, cn_0, cn_i, cn_r, cn_l, Nat.reduceAdd, Nat.reduceLeDiff, Nat.le_refl, adz, hnd_0, rcv_0, rcv_1, kLen_a, kLen_r, inB_e, inR_e, cpOK_e, swt_n, swt_c, List.take_succ_cons, List.take_zero, List.drop_succ_cons, List.drop_zero, List.reverse_cons, List.reverse_nil, List.nil_append, List.cons_append, List.length_cons, List.length_nil, Option.toList_some, Option.toList_none, det_e, det_x, tr_imp, fa_imp, implies_true, not_true, not_false_eq_true, and_true, true_and, nar_i, upd_s, st1_0, st1_1, st1_2, st1_3, st1_4, st1_5, st1_6, st1_7, st1_8, st1_9, st1_10, st1_11, st1_12, st1_13, st1_14, st1_15, st1_16, st1_17, st1_18, st1_19, st1_20, st1_21, st1_22, st1_23, st1_24, st1_25, st1_26, st1_27, st1_28, st1_29, st1_30, st1_31, st1_32, st1_33, st1_34, st1_35, st1_36, st1_37, st1_42, st1_43, st1_44, st1_46, st1_47, st1_48, st1_49, st1_50, st1_51, st1_52, st1_53, st1_54, st1_55, st1_56, st1_57, st1_58, st1_59, st1_60, Nat.reduceEqDiff, reduceIte, e146, S146, sV, hL.f, hL, b9_0, he1]
def eMf (sm : Sem) : Nat → Sem := fun id => if id = 123 then S123 else if id = 126 then S126 else if id = 144 then S144 else if id = 146 then S146 else if id = 151 then S151 else if id = 155 then S155 else if id = 166 then S166 else if id = 174 then S174 else sm
def eMo (x : Sem) : Nat → Sem := fun id => if id = 123 then S123 else if id = 146 then S146 else if id = 151 then S151 else x
section MLEV
variable {l : Launch} {G : Gt}
theorem s_mfac_1 (hfl : l.stackTraces = false) : SatM l G 1128 (S128 (gT G) 0) := t_X11_factor_1 (E := eMf fun _ _ => sF) hfl (s_X11_emit hfl) (s_X11_expect hfl) (s_X11_isDigit hfl) (s_X11_isGood hfl) (s_X11_next hfl) (s_X11_number hfl) (s_X11_report hfl) (s_none 171) (s_X11_takeWord hfl) (g_mfac0 (d := 1) rfl)
theorem s_mter_1 (hfl : l.stackTraces = false) : SatM l G 1177 (S177 (gT G) 0) := t_X11_term_1 (E := eMo (S128 (gT G) 0)) hfl (s_X11_emit hfl) (s_mfac_1 hfl) (s_X11_isGood hfl) (s_X11_next hfl) (g_mterm (d := 1) rfl rfl rfl rfl)
theorem s_msum_1 (hfl : l.stackTraces = false) : SatM l G 1171 (S171 (gT G) 0) := t_X11_sum_1 (E := eMo (S177 (gT G) 0)) hfl (s_X11_emit hfl) (s_X11_isGood hfl) (s_X11_next hfl) (s_mter_1 hfl) (g_msum (d := 1) rfl rfl rfl rfl)
theorem s_mfac_2 (hfl : l.stackTraces = false) : SatM l G 2128 (S128 (gT G) 1) := t_X11_factor_2 (E := eMf (S171 (gT G) 0)) hfl (s_X11_emit hfl) (s_X11_expect hfl) (s_X11_isDigit hfl) (s_X11_isGood hfl) (s_X11_next hfl) (s_X11_number hfl) (s_X11_report hfl) (s_msum_1 hfl) (s_X11_takeWord hfl) (g_mfacS (d := 2) (by decide) rfl rfl rfl rfl rfl rfl rfl rfl rfl)
theorem s_mter_2 (hfl : l.stackTraces = false) : SatM l G 2177 (S177 (gT G) 1) := t_X11_term_2 (E := eMo (S128 (gT G) 1)) hfl (s_X11_emit hfl) (s_mfac_2 hfl) (s_X11_isGood hfl) (s_X11_next hfl) (g_mterm (d := 2) rfl rfl rfl rfl)
theorem s_msum_2 (hfl : l.stackTraces = false) : SatM l G 2171 (S171 (gT G) 1) := t_X11_sum_2 (E := eMo (S177 (gT G) 1)) hfl (s_X11_emit hfl) (s_X11_isGood hfl) (s_X11_next hfl) (s_mter_2 hfl) (g_msum (d := 2) rfl rfl rfl rfl)
theorem s_mfac_3 (hfl : l.stackTraces = false) : SatM l G 3128 (S128 (gT G) 2) := t_X11_factor_3 (E := eMf (S171 (gT G) 1)) hfl (s_X11_emit hfl) (s_X11_expect hfl) (s_X11_isDigit hfl) (s_X11_isGood hfl) (s_X11_next hfl) (s_X11_number hfl) (s_X11_report hfl) (s_msum_2 hfl) (s_X11_takeWord hfl) (g_mfacS (d := 3) (by decide) rfl rfl rfl rfl rfl rfl rfl rfl rfl)
theorem s_mter_3 (hfl : l.stackTraces = false) : SatM l G 3177 (S177 (gT G) 2) := t_X11_term_3 (E := eMo (S128 (gT G) 2)) hfl (s_X11_emit hfl) (s_mfac_3 hfl) (s_X11_isGood hfl) (s_X11_next hfl) (g_mterm (d := 3) rfl rfl rfl rfl)
theorem s_msum_3 (hfl : l.stackTraces = false) : SatM l G 3171 (S171 (gT G) 2) := t_X11_sum_3 (E := eMo (S177 (gT G) 2)) hfl (s_X11_emit hfl) (s_X11_isGood hfl) (s_X11_next hfl) (s_mter_3 hfl) (g_msum (d := 3) rfl rfl rfl rfl)
theorem s_mfac_4 (hfl : l.stackTraces = false) : SatM l G 4128 (S128 (gT G) 3) := t_X11_factor_4 (E := eMf (S171 (gT G) 2)) hfl (s_X11_emit hfl) (s_X11_expect hfl) (s_X11_isDigit hfl) (s_X11_isGood hfl) (s_X11_next hfl) (s_X11_number hfl) (s_X11_report hfl) (s_msum_3 hfl) (s_X11_takeWord hfl) (g_mfacS (d := 4) (by decide) rfl rfl rfl rfl rfl rfl rfl rfl rfl)
theorem s_mter_4 (hfl : l.stackTraces = false) : SatM l G 4177 (S177 (gT G) 3) := t_X11_term_4 (E := eMo (S128 (gT G) 3)) hfl (s_X11_emit hfl) (s_mfac_4 hfl) (s_X11_isGood hfl) (s_X11_next hfl) (g_mterm (d := 4) rfl rfl rfl rfl)
theorem s_msum_4 (hfl : l.stackTraces = false) : SatM l G 4171 (S171 (gT G) 3) := t_X11_sum_4 (E := eMo (S177 (gT G) 3)) hfl (s_X11_emit hfl) (s_X11_isGood hfl) (s_X11_next hfl) (s_mter_4 hfl) (g_msum (d := 4) rfl rfl rfl rfl)
theorem s_mfac_5 (hfl : l.stackTraces = false) : SatM l G 5128 (S128 (gT G) 4) := t_X11_factor_5 (E := eMf (S171 (gT G) 3)) hfl (s_X11_emit hfl) (s_X11_expect hfl) (s_X11_isDigit hfl) (s_X11_isGood hfl) (s_X11_next hfl) (s_X11_number hfl) (s_X11_report hfl) (s_msum_4 hfl) (s_X11_takeWord hfl) (g_mfacS (d := 5) (by decide) rfl rfl rfl rfl rfl rfl rfl rfl rfl)
theorem s_mter_5 (hfl : l.stackTraces = false) : SatM l G 5177 (S177 (gT G) 4) := t_X11_term_5 (E := eMo (S128 (gT G) 4)) hfl (s_X11_emit hfl) (s_mfac_5 hfl) (s_X11_isGood hfl) (s_X11_next hfl) (g_mterm (d := 5) rfl rfl rfl rfl)
theorem s_msum_5 (hfl : l.stackTraces = false) : SatM l G 5171 (S171 (gT G) 4) := t_X11_sum_5 (E := eMo (S177 (gT G) 4)) hfl (s_X11_emit hfl) (s_X11_isGood hfl) (s_X11_next hfl) (s_mter_5 hfl) (g_msum (d := 5) rfl rfl rfl rfl)
theorem s_mfac_6 (hfl : l.stackTraces = false) : SatM l G 6128 (S128 (gT G) 5) := t_X11_factor_6 (E := eMf (S171 (gT G) 4)) hfl (s_X11_emit hfl) (s_X11_expect hfl) (s_X11_isDigit hfl) (s_X11_isGood hfl) (s_X11_next hfl) (s_X11_number hfl) (s_X11_report hfl) (s_msum_5 hfl) (s_X11_takeWord hfl) (g_mfacS (d := 6) (by decide) rfl rfl rfl rfl rfl rfl rfl rfl rfl)
theorem s_mter_6 (hfl : l.stackTraces = false) : SatM l G 6177 (S177 (gT G) 5) := t_X11_term_6 (E := eMo (S128 (gT G) 5)) hfl (s_X11_emit hfl) (s_mfac_6 hfl) (s_X11_isGood hfl) (s_X11_next hfl) (g_mterm (d := 6) rfl rfl rfl rfl)
theorem s_msum_6 (hfl : l.stackTraces = false) : SatM l G 6171 (S171 (gT G) 5) := t_X11_sum_6 (E := eMo (S177 (gT G) 5)) hfl (s_X11_emit hfl) (s_X11_isGood hfl) (s_X11_next hfl) (s_mter_6 hfl) (g_msum (d := 6) rfl rfl rfl rfl)
end MLEV
