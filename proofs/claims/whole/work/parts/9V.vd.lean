/-! ===== the law: its plain calls ===== -/
theorem ap_s (M : Mm) (ws : List Int32) {s x : Nat} (h : s < x) : gK (apM M x ws) = gK M ∧ gI (apM M x ws) s = gI M s := by
  unfold apM
  split
  · exact ⟨(apL_k (x + 2) ws M).1, apL_f (x + 2) (by omega) (by omega) ws M⟩
  · exact ⟨rfl, rfl⟩
section OPS2
variable {T : Nat → Nat} {M : Mm} {s x m o n i nc ns : Nat}
theorem lw_301 (hI : LI T M s x m o n) (hi : i + 6 ≤ n) (hn : n ≤ 3072) (hc : nc + 2 ≤ 601024) (hs : ns + 12 ≤ 7293034) (a b c : Slot) (nx : NX9 T s x m o n i nc ns) : RR T 301 [.val (.ref s), .val (.ref x), .val (.ref m), .val (.ref o), .val (.int (nI i)), a, b, c] [] M nc ns := by
  obtain ⟨hS, hT, ks, ko, sx, mo⟩ := id hI
  have kx : gK M x = kO 10 := hS.2.2.1.1
  have km : gK M m = kO 11 := hS.2.1.1
  have c0 : (nc ≤ 601024) = True := eq_true (by omega)
  have d0 : (ns ≤ 7293034) = True := eq_true (by omega)
  have hv := (g_err hS)
  unfold RR
  rw [rW_law_301]
  simp only [kW_law_301, eW_law, S82, S125, bk_c, if_true, if_false, wi_e, wl_e, wr_e, w1_i, w1_r, ldS_0, ldS_s, vi_e, vl_e, vr_e, dpL_u, dpL_i, dpL_r, dpL_l, stS_0, stS_1, stS_s, stL_0, stL_1, stL_s, bin_0, bin_1, bin_2, bin_3, bin_4, bin_5, bdv_0, bdv_1, lbin_0, lbin_1, lbin_2, cnd_0, cnd_1, cnd_2, cnd_3, cnd_4, cnd_5, aty_0, aty_1, aty_2, aty_3, aty_4, aty_5, c8_u, cn_0, cn_i, cn_r, cn_l, Nat.reduceAdd, Nat.reduceLeDiff, Nat.le_refl, adz, hnd_0, rcv_0, rcv_1, kLen_a, kLen_r, inB_e, inR_e, cpOK_e, swt_n, swt_c, List.take_succ_cons, List.take_zero, List.drop_succ_cons, List.drop_zero, List.reverse_cons, List.reverse_nil, List.nil_append, List.cons_append, List.length_cons, List.length_nil, Option.toList_some, Option.toList_none, det_e, det_x, tr_imp, fa_imp, implies_true, not_true, not_false_eq_true, and_true, true_and, nar_i, upd_s, st1_0, st1_1, st1_2, st1_3, st1_4, st1_5, st1_6, st1_7, st1_8, st1_9, st1_10, st1_11, st1_12, st1_13, st1_14, st1_15, st1_16, st1_17, st1_18, st1_19, st1_20, st1_21, st1_22, st1_23, st1_24, st1_25, st1_26, st1_27, st1_28, st1_29, st1_30, st1_31, st1_32, st1_33, st1_34, st1_35, st1_36, st1_37, st1_42, st1_43, st1_44, st1_46, st1_47, st1_48, st1_49, st1_50, st1_51, st1_52, st1_53, st1_54, st1_55, st1_56, st1_57, st1_58, st1_59, st1_60, Nat.reduceEqDiff, reduceIte, Nat.add_zero, kx, km, c0, d0, sV]
  refine ⟨hS.2.2.p, hS.2.1, fun _ => nx _ _ _ _ _ _ (hI.f (hS.t 0) (g_fa hS o)) (by omega) (by omega), fun h => absurd hv h⟩
theorem lw_314 (hI : LI T M s x m o n) (hi : i + 6 ≤ n) (hn : n ≤ 3072) (hc : nc + 2 ≤ 601024) (hs : ns + 12 ≤ 7293034) (a b c : Slot) (nx : NX9 T s x m o n i nc ns) : RR T 314 [.val (.ref s), .val (.ref x), .val (.ref m), .val (.ref o), .val (.int (nI i)), a, b, c] [] M nc ns := by
  obtain ⟨hS, hT, ks, ko, sx, mo⟩ := id hI
  have kx : gK M x = kO 10 := hS.2.2.1.1
  have km : gK M m = kO 11 := hS.2.1.1
  have c0 : (nc ≤ 601024) = True := eq_true (by omega)
  have d0 : (ns ≤ 7293034) = True := eq_true (by omega)
  have hv := (g_ca hS)
  unfold RR
  rw [rW_law_314]
  simp only [kW_law_314, eW_law, S77, S114, bk_c, if_true, if_false, wi_e, wl_e, wr_e, w1_i, w1_r, ldS_0, ldS_s, vi_e, vl_e, vr_e, dpL_u, dpL_i, dpL_r, dpL_l, stS_0, stS_1, stS_s, stL_0, stL_1, stL_s, bin_0, bin_1, bin_2, bin_3, bin_4, bin_5, bdv_0, bdv_1, lbin_0, lbin_1, lbin_2, cnd_0, cnd_1, cnd_2, cnd_3, cnd_4, cnd_5, aty_0, aty_1, aty_2, aty_3, aty_4, aty_5, c8_u, cn_0, cn_i, cn_r, cn_l, Nat.reduceAdd, Nat.reduceLeDiff, Nat.le_refl, adz, hnd_0, rcv_0, rcv_1, kLen_a, kLen_r, inB_e, inR_e, cpOK_e, swt_n, swt_c, List.take_succ_cons, List.take_zero, List.drop_succ_cons, List.drop_zero, List.reverse_cons, List.reverse_nil, List.nil_append, List.cons_append, List.length_cons, List.length_nil, Option.toList_some, Option.toList_none, det_e, det_x, tr_imp, fa_imp, implies_true, not_true, not_false_eq_true, and_true, true_and, nar_i, upd_s, st1_0, st1_1, st1_2, st1_3, st1_4, st1_5, st1_6, st1_7, st1_8, st1_9, st1_10, st1_11, st1_12, st1_13, st1_14, st1_15, st1_16, st1_17, st1_18, st1_19, st1_20, st1_21, st1_22, st1_23, st1_24, st1_25, st1_26, st1_27, st1_28, st1_29, st1_30, st1_31, st1_32, st1_33, st1_34, st1_35, st1_36, st1_37, st1_42, st1_43, st1_44, st1_46, st1_47, st1_48, st1_49, st1_50, st1_51, st1_52, st1_53, st1_54, st1_55, st1_56, st1_57, st1_58, st1_59, st1_60, Nat.reduceEqDiff, reduceIte, Nat.add_zero, kx, km, c0, d0, sV]
  refine ⟨hS.2.2.p, hS.2.1, fun _ => nx _ _ _ _ _ _ (hI.f (hS.t 0) (g_fa hS o)) (by omega) (by omega), fun h => absurd hv h⟩
theorem lw_327 (hI : LI T M s x m o n) (hi : i + 6 ≤ n) (hn : n ≤ 3072) (hc : nc + 2 ≤ 601024) (hs : ns + 12 ≤ 7293034) (a b c : Slot) (nx : NX9 T s x m o n i nc ns) : RR T 327 [.val (.ref s), .val (.ref x), .val (.ref m), .val (.ref o), .val (.int (nI i)), a, b, c] [] M nc ns := by
  obtain ⟨hS, hT, ks, ko, sx, mo⟩ := id hI
  have kx : gK M x = kO 10 := hS.2.2.1.1
  have km : gK M m = kO 11 := hS.2.1.1
  have c0 : (nc ≤ 601024) = True := eq_true (by omega)
  have d0 : (ns ≤ 7293034) = True := eq_true (by omega)
  have hv := (g_fi hS)
  unfold RR
  rw [rW_law_327]
  simp only [kW_law_327, eW_law, S85, S132, bk_c, if_true, if_false, wi_e, wl_e, wr_e, w1_i, w1_r, ldS_0, ldS_s, vi_e, vl_e, vr_e, dpL_u, dpL_i, dpL_r, dpL_l, stS_0, stS_1, stS_s, stL_0, stL_1, stL_s, bin_0, bin_1, bin_2, bin_3, bin_4, bin_5, bdv_0, bdv_1, lbin_0, lbin_1, lbin_2, cnd_0, cnd_1, cnd_2, cnd_3, cnd_4, cnd_5, aty_0, aty_1, aty_2, aty_3, aty_4, aty_5, c8_u, cn_0, cn_i, cn_r, cn_l, Nat.reduceAdd, Nat.reduceLeDiff, Nat.le_refl, adz, hnd_0, rcv_0, rcv_1, kLen_a, kLen_r, inB_e, inR_e, cpOK_e, swt_n, swt_c, List.take_succ_cons, List.take_zero, List.drop_succ_cons, List.drop_zero, List.reverse_cons, List.reverse_nil, List.nil_append, List.cons_append, List.length_cons, List.length_nil, Option.toList_some, Option.toList_none, det_e, det_x, tr_imp, fa_imp, implies_true, not_true, not_false_eq_true, and_true, true_and, nar_i, upd_s, st1_0, st1_1, st1_2, st1_3, st1_4, st1_5, st1_6, st1_7, st1_8, st1_9, st1_10, st1_11, st1_12, st1_13, st1_14, st1_15, st1_16, st1_17, st1_18, st1_19, st1_20, st1_21, st1_22, st1_23, st1_24, st1_25, st1_26, st1_27, st1_28, st1_29, st1_30, st1_31, st1_32, st1_33, st1_34, st1_35, st1_36, st1_37, st1_42, st1_43, st1_44, st1_46, st1_47, st1_48, st1_49, st1_50, st1_51, st1_52, st1_53, st1_54, st1_55, st1_56, st1_57, st1_58, st1_59, st1_60, Nat.reduceEqDiff, reduceIte, Nat.add_zero, kx, km, c0, d0, sV]
  refine ⟨hS.2.2.p, hS.2.1, fun _ => nx _ _ _ _ _ _ (hI.f (hS.t 0) (g_fa hS o)) (by omega) (by omega), fun h => absurd hv h⟩
theorem lw_340 (hI : LI T M s x m o n) (hi : i + 6 ≤ n) (hn : n ≤ 3072) (hc : nc + 2 ≤ 601024) (hs : ns + 12 ≤ 7293034) (a b c : Slot) (nx : NX9 T s x m o n i nc ns) : RR T 340 [.val (.ref s), .val (.ref x), .val (.ref m), .val (.ref o), .val (.int (nI i)), a, b, c] [] M nc ns := by
  obtain ⟨hS, hT, ks, ko, sx, mo⟩ := id hI
  have kx : gK M x = kO 10 := hS.2.2.1.1
  have km : gK M m = kO 11 := hS.2.1.1
  have c0 : (nc ≤ 601024) = True := eq_true (by omega)
  have d0 : (ns ≤ 7293034) = True := eq_true (by omega)
  have hv := (g_cl hS)
  unfold RR
  rw [rW_law_340]
  simp only [kW_law_340, eW_law, S79, S116, bk_c, if_true, if_false, wi_e, wl_e, wr_e, w1_i, w1_r, ldS_0, ldS_s, vi_e, vl_e, vr_e, dpL_u, dpL_i, dpL_r, dpL_l, stS_0, stS_1, stS_s, stL_0, stL_1, stL_s, bin_0, bin_1, bin_2, bin_3, bin_4, bin_5, bdv_0, bdv_1, lbin_0, lbin_1, lbin_2, cnd_0, cnd_1, cnd_2, cnd_3, cnd_4, cnd_5, aty_0, aty_1, aty_2, aty_3, aty_4, aty_5, c8_u, cn_0, cn_i, cn_r, cn_l, Nat.reduceAdd, Nat.reduceLeDiff, Nat.le_refl, adz, hnd_0, rcv_0, rcv_1, kLen_a, kLen_r, inB_e, inR_e, cpOK_e, swt_n, swt_c, List.take_succ_cons, List.take_zero, List.drop_succ_cons, List.drop_zero, List.reverse_cons, List.reverse_nil, List.nil_append, List.cons_append, List.length_cons, List.length_nil, Option.toList_some, Option.toList_none, det_e, det_x, tr_imp, fa_imp, implies_true, not_true, not_false_eq_true, and_true, true_and, nar_i, upd_s, st1_0, st1_1, st1_2, st1_3, st1_4, st1_5, st1_6, st1_7, st1_8, st1_9, st1_10, st1_11, st1_12, st1_13, st1_14, st1_15, st1_16, st1_17, st1_18, st1_19, st1_20, st1_21, st1_22, st1_23, st1_24, st1_25, st1_26, st1_27, st1_28, st1_29, st1_30, st1_31, st1_32, st1_33, st1_34, st1_35, st1_36, st1_37, st1_42, st1_43, st1_44, st1_46, st1_47, st1_48, st1_49, st1_50, st1_51, st1_52, st1_53, st1_54, st1_55, st1_56, st1_57, st1_58, st1_59, st1_60, Nat.reduceEqDiff, reduceIte, Nat.add_zero, kx, km, c0, d0, sV]
  refine ⟨hS.2.2.p, hS.2.1, fun _ => nx _ _ _ _ _ _ (hI.f (hS.t 0) (g_fa hS o)) (by omega) (by omega), fun h => absurd hv h⟩
theorem lw_353 (hI : LI T M s x m o n) (hi : i + 6 ≤ n) (hn : n ≤ 3072) (hc : nc + 2 ≤ 601024) (hs : ns + 12 ≤ 7293034) (a b c : Slot) (nx : NX9 T s x m o n i nc ns) : RR T 353 [.val (.ref s), .val (.ref x), .val (.ref m), .val (.ref o), .val (.int (nI i)), a, b, c] [] M nc ns := by
  obtain ⟨hS, hT, ks, ko, sx, mo⟩ := id hI
  have kx : gK M x = kO 10 := hS.2.2.1.1
  have km : gK M m = kO 11 := hS.2.1.1
  have c0 : (nc ≤ 601024) = True := eq_true (by omega)
  have d0 : (ns ≤ 7293034) = True := eq_true (by omega)
  have hv := (g_cy hS).2
  unfold RR
  rw [rW_law_353]
  simp only [kW_law_353, eW_law, S81, S119, bk_c, if_true, if_false, wi_e, wl_e, wr_e, w1_i, w1_r, ldS_0, ldS_s, vi_e, vl_e, vr_e, dpL_u, dpL_i, dpL_r, dpL_l, stS_0, stS_1, stS_s, stL_0, stL_1, stL_s, bin_0, bin_1, bin_2, bin_3, bin_4, bin_5, bdv_0, bdv_1, lbin_0, lbin_1, lbin_2, cnd_0, cnd_1, cnd_2, cnd_3, cnd_4, cnd_5, aty_0, aty_1, aty_2, aty_3, aty_4, aty_5, c8_u, cn_0, cn_i, cn_r, cn_l, Nat.reduceAdd, Nat.reduceLeDiff, Nat.le_refl, adz, hnd_0, rcv_0, rcv_1, kLen_a, kLen_r, inB_e, inR_e, cpOK_e, swt_n, swt_c, List.take_succ_cons, List.take_zero, List.drop_succ_cons, List.drop_zero, List.reverse_cons, List.reverse_nil, List.nil_append, List.cons_append, List.length_cons, List.length_nil, Option.toList_some, Option.toList_none, det_e, det_x, tr_imp, fa_imp, implies_true, not_true, not_false_eq_true, and_true, true_and, nar_i, upd_s, st1_0, st1_1, st1_2, st1_3, st1_4, st1_5, st1_6, st1_7, st1_8, st1_9, st1_10, st1_11, st1_12, st1_13, st1_14, st1_15, st1_16, st1_17, st1_18, st1_19, st1_20, st1_21, st1_22, st1_23, st1_24, st1_25, st1_26, st1_27, st1_28, st1_29, st1_30, st1_31, st1_32, st1_33, st1_34, st1_35, st1_36, st1_37, st1_42, st1_43, st1_44, st1_46, st1_47, st1_48, st1_49, st1_50, st1_51, st1_52, st1_53, st1_54, st1_55, st1_56, st1_57, st1_58, st1_59, st1_60, Nat.reduceEqDiff, reduceIte, Nat.add_zero, kx, km, c0, d0, sV]
  refine ⟨hS.2.2.p, ⟨hS.2.1, (g_cy hS).1⟩, fun _ => nx _ _ _ _ _ _ (hI.f (hS.t 0) (g_fa hS o)) (by omega) (by omega), fun h => absurd hv h⟩
theorem lw_478 (hI : LI T M s x m o n) (hi : i + 6 ≤ n) (hn : n ≤ 3072) (hc : nc + 2 ≤ 601024) (hs : ns + 12 ≤ 7293034) (a b c : Slot) (nx : NX9 T s x m o n i nc ns) : RR T 478 [.val (.ref s), .val (.ref x), .val (.ref m), .val (.ref o), .val (.int (nI i)), a, b, c] [] M nc ns := by
  obtain ⟨hS, hT, ks, ko, sx, mo⟩ := id hI
  have kx : gK M x = kO 10 := hS.2.2.1.1
  have km : gK M m = kO 11 := hS.2.1.1
  have c0 : (nc ≤ 601024) = True := eq_true (by omega)
  have d0 : (ns ≤ 7293034) = True := eq_true (by omega)
  have hv := (g_gu hS).2
  unfold RR
  rw [rW_law_478]
  simp only [kW_law_478, eW_law, S89, S137, bk_c, if_true, if_false, wi_e, wl_e, wr_e, w1_i, w1_r, ldS_0, ldS_s, vi_e, vl_e, vr_e, dpL_u, dpL_i, dpL_r, dpL_l, stS_0, stS_1, stS_s, stL_0, stL_1, stL_s, bin_0, bin_1, bin_2, bin_3, bin_4, bin_5, bdv_0, bdv_1, lbin_0, lbin_1, lbin_2, cnd_0, cnd_1, cnd_2, cnd_3, cnd_4, cnd_5, aty_0, aty_1, aty_2, aty_3, aty_4, aty_5, c8_u, cn_0, cn_i, cn_r, cn_l, Nat.reduceAdd, Nat.reduceLeDiff, Nat.le_refl, adz, hnd_0, rcv_0, rcv_1, kLen_a, kLen_r, inB_e, inR_e, cpOK_e, swt_n, swt_c, List.take_succ_cons, List.take_zero, List.drop_succ_cons, List.drop_zero, List.reverse_cons, List.reverse_nil, List.nil_append, List.cons_append, List.length_cons, List.length_nil, Option.toList_some, Option.toList_none, det_e, det_x, tr_imp, fa_imp, implies_true, not_true, not_false_eq_true, and_true, true_and, nar_i, upd_s, st1_0, st1_1, st1_2, st1_3, st1_4, st1_5, st1_6, st1_7, st1_8, st1_9, st1_10, st1_11, st1_12, st1_13, st1_14, st1_15, st1_16, st1_17, st1_18, st1_19, st1_20, st1_21, st1_22, st1_23, st1_24, st1_25, st1_26, st1_27, st1_28, st1_29, st1_30, st1_31, st1_32, st1_33, st1_34, st1_35, st1_36, st1_37, st1_42, st1_43, st1_44, st1_46, st1_47, st1_48, st1_49, st1_50, st1_51, st1_52, st1_53, st1_54, st1_55, st1_56, st1_57, st1_58, st1_59, st1_60, Nat.reduceEqDiff, reduceIte, Nat.add_zero, kx, km, c0, d0, sV]
  refine ⟨hS.2.2.p, ⟨hS.2.1, (g_gu hS).1⟩, fun _ => nx _ _ _ _ _ _ (hI.f (hS.t 0) (g_fa hS o)) (by omega) (by omega), fun h => absurd hv h⟩
theorem lw_1553 (hI : LI T M s x m o n) (hi : i + 6 ≤ n) (hn : n ≤ 3072) (hc : nc + 2 ≤ 601024) (hs : ns + 12 ≤ 7293034) (a b c : Slot) (nx : NX9 T s x m o n i nc ns) : RR T 1553 [.val (.ref s), .val (.ref x), .val (.ref m), .val (.ref o), .val (.int (nI i)), a, b, c] [] M nc ns := by
  obtain ⟨hS, hT, ks, ko, sx, mo⟩ := id hI
  have kx : gK M x = kO 10 := hS.2.2.1.1
  have km : gK M m = kO 11 := hS.2.1.1
  have c0 : (nc ≤ 601024) = True := eq_true (by omega)
  have d0 : (ns ≤ 7293034) = True := eq_true (by omega)
  have hv := (g_ck hS).2
  unfold RR
  rw [rW_law_1553]
  simp only [kW_law_1553, eW_law, S78, S115, bk_c, if_true, if_false, wi_e, wl_e, wr_e, w1_i, w1_r, ldS_0, ldS_s, vi_e, vl_e, vr_e, dpL_u, dpL_i, dpL_r, dpL_l, stS_0, stS_1, stS_s, stL_0, stL_1, stL_s, bin_0, bin_1, bin_2, bin_3, bin_4, bin_5, bdv_0, bdv_1, lbin_0, lbin_1, lbin_2, cnd_0, cnd_1, cnd_2, cnd_3, cnd_4, cnd_5, aty_0, aty_1, aty_2, aty_3, aty_4, aty_5, c8_u, cn_0, cn_i, cn_r, cn_l, Nat.reduceAdd, Nat.reduceLeDiff, Nat.le_refl, adz, hnd_0, rcv_0, rcv_1, kLen_a, kLen_r, inB_e, inR_e, cpOK_e, swt_n, swt_c, List.take_succ_cons, List.take_zero, List.drop_succ_cons, List.drop_zero, List.reverse_cons, List.reverse_nil, List.nil_append, List.cons_append, List.length_cons, List.length_nil, Option.toList_some, Option.toList_none, det_e, det_x, tr_imp, fa_imp, implies_true, not_true, not_false_eq_true, and_true, true_and, nar_i, upd_s, st1_0, st1_1, st1_2, st1_3, st1_4, st1_5, st1_6, st1_7, st1_8, st1_9, st1_10, st1_11, st1_12, st1_13, st1_14, st1_15, st1_16, st1_17, st1_18, st1_19, st1_20, st1_21, st1_22, st1_23, st1_24, st1_25, st1_26, st1_27, st1_28, st1_29, st1_30, st1_31, st1_32, st1_33, st1_34, st1_35, st1_36, st1_37, st1_42, st1_43, st1_44, st1_46, st1_47, st1_48, st1_49, st1_50, st1_51, st1_52, st1_53, st1_54, st1_55, st1_56, st1_57, st1_58, st1_59, st1_60, Nat.reduceEqDiff, reduceIte, Nat.add_zero, kx, km, c0, d0, sV]
  refine ⟨hS.2.2.p, ⟨hS.2.1, (g_ck hS).1⟩, fun _ => nx _ _ _ _ _ _ (hI.f (hS.t 0) (g_fa hS o)) (by omega) (by omega), fun h => absurd (lgc hv) h⟩
theorem lw_1540 (hI : LI T M s x m o n) (hi : i + 6 ≤ n) (hn : n ≤ 3072) (hc : nc + 2 ≤ 601024) (hs : ns + 12 ≤ 7293034) (a b c : Slot) (nx : NX9 T s x m o n i nc ns) : RR T 1540 [.val (.ref s), .val (.ref x), .val (.ref m), .val (.ref o), .val (.int (nI i)), a, b, c] [] M nc ns := by
  obtain ⟨hS, hT, ks, ko, sx, mo⟩ := id hI
  have kx : gK M x = kO 10 := hS.2.2.1.1
  have km : gK M m = kO 11 := hS.2.1.1
  have kr := (rs_k M (x + 100) (x + 36)).1
  have c0 : (nc ≤ 601024) = True := eq_true (by omega)
  have d0 : (ns ≤ 7293034) = True := eq_true (by omega)
  obtain ⟨h1, h2, h3, h4, h5⟩ := xs_undo hS
  unfold RR
  rw [rW_law_1540]
  simp only [kW_law_1540, eW_law, S106, S182, bk_c, if_true, if_false, wi_e, wl_e, wr_e, w1_i, w1_r, ldS_0, ldS_s, vi_e, vl_e, vr_e, dpL_u, dpL_i, dpL_r, dpL_l, stS_0, stS_1, stS_s, stL_0, stL_1, stL_s, bin_0, bin_1, bin_2, bin_3, bin_4, bin_5, bdv_0, bdv_1, lbin_0, lbin_1, lbin_2, cnd_0, cnd_1, cnd_2, cnd_3, cnd_4, cnd_5, aty_0, aty_1, aty_2, aty_3, aty_4, aty_5, c8_u, cn_0, cn_i, cn_r, cn_l, Nat.reduceAdd, Nat.reduceLeDiff, Nat.le_refl, adz, hnd_0, rcv_0, rcv_1, kLen_a, kLen_r, inB_e, inR_e, cpOK_e, swt_n, swt_c, List.take_succ_cons, List.take_zero, List.drop_succ_cons, List.drop_zero, List.reverse_cons, List.reverse_nil, List.nil_append, List.cons_append, List.length_cons, List.length_nil, Option.toList_some, Option.toList_none, det_e, det_x, tr_imp, fa_imp, implies_true, not_true, not_false_eq_true, and_true, true_and, nar_i, upd_s, st1_0, st1_1, st1_2, st1_3, st1_4, st1_5, st1_6, st1_7, st1_8, st1_9, st1_10, st1_11, st1_12, st1_13, st1_14, st1_15, st1_16, st1_17, st1_18, st1_19, st1_20, st1_21, st1_22, st1_23, st1_24, st1_25, st1_26, st1_27, st1_28, st1_29, st1_30, st1_31, st1_32, st1_33, st1_34, st1_35, st1_36, st1_37, st1_42, st1_43, st1_44, st1_46, st1_47, st1_48, st1_49, st1_50, st1_51, st1_52, st1_53, st1_54, st1_55, st1_56, st1_57, st1_58, st1_59, st1_60, Nat.reduceEqDiff, reduceIte, Nat.add_zero, kx, kr, km, c0, d0, sV]
  refine ⟨h1, h3, fun _ => nx _ _ _ _ _ _ (hI.f h4 (h5 o)) (by omega) (by omega), fun h => absurd h2 h⟩
set_option maxRecDepth 100000 in
set_option maxHeartbeats 4000000 in
theorem lw_172 (hI : LI T M s x m o n) (hi : i + 6 ≤ n) (hn : n ≤ 3072) (hc : nc + 2 ≤ 601024) (hs : ns + 12 ≤ 7293034) (a b c : Slot) (nx : NX9 T s x m o n i nc ns) : RR T 172 [.val (.ref s), .val (.ref x), .val (.ref m), .val (.ref o), .val (.int (nI i)), a, b, c] [] M nc ns := by
  obtain ⟨hS, hT, ks, ko, sx, mo⟩ := id hI
  have kx : gK M x = kO 10 := hS.2.2.1.1
  have km : gK M m = kO 11 := hS.2.1.1
  have b1 : inR (kR n) (nI i + 1) = True := inR_i 1 (by omega) hn
  have b2 : inR (kR n) (nI i + 2) = True := inR_i 2 (by omega) hn
  have b3 : inR (kR n) (nI i + 3) = True := inR_i 3 (by omega) hn
  have b4 : inR (kR n) (nI i + 4) = True := inR_i 4 (by omega) hn
  have b5 : inR (kR n) (nI i + 5) = True := inR_i 5 (by omega) hn
  have c0 : (nc ≤ 601024) = True := eq_true (by omega)
  have d0 : (ns ≤ 7293034) = True := eq_true (by omega)
  obtain ⟨h1, h2, h3, h4, h5⟩ := xs_append hS (gI M s (nI i + 1).toNatClampNeg) (gI M s (nI i + 2).toNatClampNeg) (gI M s (nI i + 3).toNatClampNeg) (gI M s (nI i + 4).toNatClampNeg) (gI M s (nI i + 5).toNatClampNeg)
  obtain ⟨kr, gs⟩ := ap_s M [gI M s (nI i + 1).toNatClampNeg, gI M s (nI i + 2).toNatClampNeg, gI M s (nI i + 3).toNatClampNeg, gI M s (nI i + 4).toNatClampNeg, gI M s (nI i + 5).toNatClampNeg] sx
  unfold RR
  rw [rW_law_172]
  simp only [kW_law_172, eW_law, S75, S109, bk_c, if_true, if_false, wi_e, wl_e, wr_e, w1_i, w1_r, ldS_0, ldS_s, vi_e, vl_e, vr_e, dpL_u, dpL_i, dpL_r, dpL_l, stS_0, stS_1, stS_s, stL_0, stL_1, stL_s, bin_0, bin_1, bin_2, bin_3, bin_4, bin_5, bdv_0, bdv_1, lbin_0, lbin_1, lbin_2, cnd_0, cnd_1, cnd_2, cnd_3, cnd_4, cnd_5, aty_0, aty_1, aty_2, aty_3, aty_4, aty_5, c8_u, cn_0, cn_i, cn_r, cn_l, Nat.reduceAdd, Nat.reduceLeDiff, Nat.le_refl, adz, hnd_0, rcv_0, rcv_1, kLen_a, kLen_r, inB_e, inR_e, cpOK_e, swt_n, swt_c, List.take_succ_cons, List.take_zero, List.drop_succ_cons, List.drop_zero, List.reverse_cons, List.reverse_nil, List.nil_append, List.cons_append, List.length_cons, List.length_nil, Option.toList_some, Option.toList_none, det_e, det_x, tr_imp, fa_imp, implies_true, not_true, not_false_eq_true, and_true, true_and, nar_i, upd_s, st1_0, st1_1, st1_2, st1_3, st1_4, st1_5, st1_6, st1_7, st1_8, st1_9, st1_10, st1_11, st1_12, st1_13, st1_14, st1_15, st1_16, st1_17, st1_18, st1_19, st1_20, st1_21, st1_22, st1_23, st1_24, st1_25, st1_26, st1_27, st1_28, st1_29, st1_30, st1_31, st1_32, st1_33, st1_34, st1_35, st1_36, st1_37, st1_42, st1_43, st1_44, st1_46, st1_47, st1_48, st1_49, st1_50, st1_51, st1_52, st1_53, st1_54, st1_55, st1_56, st1_57, st1_58, st1_59, st1_60, Nat.reduceEqDiff, reduceIte, Nat.add_zero, kx, kr, km, ks, gs, b1, b2, b3, b4, b5, c0, d0, sV]
  refine ⟨h1, h3, fun _ => nx _ _ _ _ _ _ (hI.f h4 (h5 o)) (by omega) (by omega), fun h => absurd h2 h⟩
end OPS2
