/-! ===== factors, and the five levels ===== -/
theorem facM_8 {r : Nat} {b : Bool} {g : Mm → Mm} {M : Mm} (h : ¬ gI M (r + 1) 2 = 40) (h8 : ¬ iwI M (r + 1) 8 = 0) : facM r b g M = nxM (adM M (r + 30) (-1)) (r + 1) := by unfold facM; rw [if_neg h, if_pos h8]
theorem facM_9 {r : Nat} {b : Bool} {g : Mm → Mm} {M : Mm} (h : ¬ gI M (r + 1) 2 = 40) (h8 : iwI M (r + 1) 8 = 0) (h9 : ¬ iwI M (r + 1) 9 = 0) : facM r b g M = nxM (adM M (r + 30) (-2)) (r + 1) := by unfold facM; rw [if_neg h, if_neg (fun q => q h8), if_pos h9]
theorem facM_5 {r : Nat} {b : Bool} {g : Mm → Mm} {M : Mm} (h : ¬ gI M (r + 1) 2 = 40) (h8 : iwI M (r + 1) 8 = 0) (h9 : iwI M (r + 1) 9 = 0) (h5 : ¬ iwI M (r + 1) 5 = 0) : facM r b g M = nxM (adM M (r + 30) (-3)) (r + 1) := by unfold facM; rw [if_neg h, if_neg (fun q => q h8), if_neg (fun q => q h9), if_pos h5]
theorem facM_e {r : Nat} {b : Bool} {g : Mm → Mm} {M : Mm} (h : ¬ gI M (r + 1) 2 = 40) (h8 : iwI M (r + 1) 8 = 0) (h9 : iwI M (r + 1) 9 = 0) (h5 : iwI M (r + 1) 5 = 0) : facM r b g M = adM (rnM M r 0 9999).2 (r + 30) (rnM M r 0 9999).1 := by unfold facM; rw [if_neg h, if_neg (fun q => q h8), if_neg (fun q => q h9), if_neg (fun q => q h5)]
set_option maxRecDepth 100000 in
set_option maxHeartbeats 4000000 in
theorem g_fac0 {G : Gt} {E : Nat → Sem} {d : Nat} (e25 : E 25 = S25) (e47 : E 47 = S47) (e48 : E 48 = S48) (e54 : E 54 = S54) (e73 : E 73 = S73) (as : List Value) (M : Mm) (hp : (S51 (gT G) 0 as M).1) : (lg_sl as).length ≤ 2 ∧ Run (gT G) E 0 0 (fun _ _ => none) (S51 (gT G) 0 as M).2.1 (S51 (gT G) 0 as M).2.2 (kX7_readFactor d) 0 (ent as 2) [] M 0 0 := by
  unfold S51 at hp ⊢
  split at hp
  case h_2 => exact hp.elim
  rename_i r c
  obtain ⟨hI, hs, hc⟩ := hp
  subst hc
  refine ⟨Nat.le_of_ble_eq_true rfl, ?_⟩
  show Run (gT G) _ _ _ _ _ _ _ 0 [.val (.ref r), .val (.int (nI (4 - 0)))] [] M 0 0
  have k0 := hI.1.1
  have p0 := hI.1.2.1.1
  have p1 := hI.1.2.1.2
  have hT := hI.1.2.2.1.1
  have d0 := hI.1.2.2.2.1
  have d1 := hI.1.2.2.2.2.1.2.2.2.2.1
  have d2 : Lm M (r + 30) := hI.1.2.2.2.2.2.2.2.2.2.1
  simp only [Nat.add_assoc, Nat.reduceAdd] at d0 d1 d2
  have a1 : ((4 : Int32) ≤ nI (4 - 0)) = True := eq_true (by decide)
  have q8 := hs 8 (by decide)
  have q9 := hs 9 (by decide)
  have q5 := hs 5 (by decide)
  have w8 : (∃ i, i < 10 ∧ kS 8 = kS i) = True := eq_true ⟨8, by decide, rfl⟩
  have w9 : (∃ i, i < 10 ∧ kS 9 = kS i) = True := eq_true ⟨9, by decide, rfl⟩
  have w5 : (∃ i, i < 10 ∧ kS 5 = kS i) = True := eq_true ⟨5, by decide, rfl⟩
  have hm : ∀ N, UI N r → Lm N (r + 30) ∧ cnt (gI N (r + 30) 2) 900 := fun N h => ⟨h.1.2.2.2.2.2.2.2.2.2.1, h.2.2.2.2.2.2⟩
  by_cases h40 : gI M (r + 1) 2 = 40
  · have z : (gI M (r + 1) 2 = 40) = True := eq_true h40
    have a2 : (nI (4 - 0) < 4) = False := eq_false (by decide)
    simp only [rX7_readFactor_0, kX7_readFactor_0, rX7_readFactor_26, kX7_readFactor_26, rX7_readFactor_61, kX7_readFactor_61, rX7_readFactor_81, kX7_readFactor_81, rX7_readFactor_102, kX7_readFactor_102, rX7_readFactor_123, kX7_readFactor_123, rX7_readFactor_141, kX7_readFactor_141, bk_c, if_true, if_false, wi_e, wl_e, wr_e, w1_i, w1_r, ldS_0, ldS_s, vi_e, vl_e, vr_e, dpL_u, dpL_i, dpL_r, dpL_l, stS_0, stS_1, stS_s, stL_0, stL_1, stL_s, bin_0, bin_1, bin_2, bin_3, bin_4, bin_5, bdv_0, bdv_1, lbin_0, lbin_1, lbin_2, cnd_0, cnd_1, cnd_2, cnd_3, cnd_4, cnd_5, aty_0, aty_1, aty_2, aty_3, aty_4, aty_5, c8_u, cn_0, cn_i, cn_r, cn_l, Nat.reduceAdd, Nat.reduceLeDiff, Nat.le_refl, adz, hnd_0, rcv_0, rcv_1, kLen_a, kLen_r, inB_e, inR_e, cpOK_e, swt_n, swt_c, List.take_succ_cons, List.take_zero, List.drop_succ_cons, List.drop_zero, List.reverse_cons, List.reverse_nil, List.nil_append, List.cons_append, List.length_cons, List.length_nil, Option.toList_some, Option.toList_none, det_e, det_x, tr_imp, fa_imp, implies_true, not_true, not_false_eq_true, and_true, true_and, nar_i, upd_s, st1_0, st1_1, st1_2, st1_3, st1_4, st1_5, st1_6, st1_7, st1_8, st1_9, st1_10, st1_11, st1_12, st1_13, st1_14, st1_15, st1_16, st1_17, st1_18, st1_19, st1_20, st1_21, st1_22, st1_23, st1_24, st1_25, st1_26, st1_27, st1_28, st1_29, st1_30, st1_31, st1_32, st1_33, st1_34, st1_35, st1_36, st1_37, st1_42, st1_43, st1_44, st1_46, st1_47, st1_48, st1_49, st1_50, st1_51, st1_52, st1_53, st1_54, st1_55, st1_56, st1_57, st1_58, st1_59, st1_60, up_q, up_q0, up_q1, up_s, sI_sI, Nat.reduceEqDiff, reduceIte, Nat.succ_ne_zero, forall_const, false_imp_iff, Nat.add_assoc, Nat.reduceEqDiff, reduceIte, e48, S48, sV, k0, p0, hT, hI, z, a2]
    exact (if_pos h40).symm
  · have z : (gI M (r + 1) 2 = 40) = False := eq_false h40
    simp only [rX7_readFactor_0, kX7_readFactor_0, rX7_readFactor_26, kX7_readFactor_26, rX7_readFactor_61, kX7_readFactor_61, rX7_readFactor_81, kX7_readFactor_81, rX7_readFactor_102, kX7_readFactor_102, rX7_readFactor_123, kX7_readFactor_123, rX7_readFactor_141, kX7_readFactor_141, bk_c, if_true, if_false, wi_e, wl_e, wr_e, w1_i, w1_r, ldS_0, ldS_s, vi_e, vl_e, vr_e, dpL_u, dpL_i, dpL_r, dpL_l, stS_0, stS_1, stS_s, stL_0, stL_1, stL_s, bin_0, bin_1, bin_2, bin_3, bin_4, bin_5, bdv_0, bdv_1, lbin_0, lbin_1, lbin_2, cnd_0, cnd_1, cnd_2, cnd_3, cnd_4, cnd_5, aty_0, aty_1, aty_2, aty_3, aty_4, aty_5, c8_u, cn_0, cn_i, cn_r, cn_l, Nat.reduceAdd, Nat.reduceLeDiff, Nat.le_refl, adz, hnd_0, rcv_0, rcv_1, kLen_a, kLen_r, inB_e, inR_e, cpOK_e, swt_n, swt_c, List.take_succ_cons, List.take_zero, List.drop_succ_cons, List.drop_zero, List.reverse_cons, List.reverse_nil, List.nil_append, List.cons_append, List.length_cons, List.length_nil, Option.toList_some, Option.toList_none, det_e, det_x, tr_imp, fa_imp, implies_true, not_true, not_false_eq_true, and_true, true_and, nar_i, upd_s, st1_0, st1_1, st1_2, st1_3, st1_4, st1_5, st1_6, st1_7, st1_8, st1_9, st1_10, st1_11, st1_12, st1_13, st1_14, st1_15, st1_16, st1_17, st1_18, st1_19, st1_20, st1_21, st1_22, st1_23, st1_24, st1_25, st1_26, st1_27, st1_28, st1_29, st1_30, st1_31, st1_32, st1_33, st1_34, st1_35, st1_36, st1_37, st1_42, st1_43, st1_44, st1_46, st1_47, st1_48, st1_49, st1_50, st1_51, st1_52, st1_53, st1_54, st1_55, st1_56, st1_57, st1_58, st1_59, st1_60, up_q, up_q0, up_q1, up_s, sI_sI, Nat.reduceEqDiff, reduceIte, Nat.succ_ne_zero, forall_const, false_imp_iff, Nat.add_assoc, Nat.reduceEqDiff, reduceIte, e25, e47, e48, e54, e73, S25, S47, S48, S54, S73, sV, iwV, kSi_e, k0, p0, p1, hT, d0, d1, d2.1, hI, z, q8, q9, q5, w8, w9, w5, hI.1.2.2.1, hI.2.1.w, gK_rn, gP_rn, hm _ (hI.rn 0 9999)]
    refine ⟨fun h8 => ⟨fun h9 => ⟨fun h5 => ?_, fun h5 => ?_⟩, fun h9 => ?_⟩, fun h8 => ?_⟩
    · exact (facM_e h40 h8 h9 h5).symm
    · exact (facM_5 h40 h8 h9 h5).symm
    · exact (facM_9 h40 h8 h9).symm
    · exact (facM_8 h40 h8).symm
set_option maxRecDepth 100000 in
set_option maxHeartbeats 4000000 in
theorem g_facS {G : Gt} {E : Nat → Sem} {d k : Nat} (hk : k < 4) (e25 : E 25 = S25) (e47 : E 47 = S47) (e48 : E 48 = S48) (e54 : E 54 = S54) (e59 : E (59 + 1000 * (d - 1)) = S59 (gT G) k) (e62 : E 62 = S62) (e73 : E 73 = S73) (e74 : E 74 = S74) (as : List Value) (M : Mm) (hp : (S51 (gT G) (k + 1) as M).1) : (lg_sl as).length ≤ 2 ∧ Run (gT G) E 0 0 (fun _ _ => none) (S51 (gT G) (k + 1) as M).2.1 (S51 (gT G) (k + 1) as M).2.2 (kX7_readFactor d) 0 (ent as 2) [] M 0 0 := by
  unfold S51 at hp ⊢
  split at hp
  case h_2 => exact hp.elim
  rename_i r c
  obtain ⟨hI, hs, hc⟩ := hp
  subst hc
  refine ⟨Nat.le_of_ble_eq_true rfl, ?_⟩
  show Run (gT G) _ _ _ _ _ _ _ 0 [.val (.ref r), .val (.int (nI (4 - (k + 1))))] [] M 0 0
  have k0 := hI.1.1
  have p0 := hI.1.2.1.1
  have p1 := hI.1.2.1.2
  have hT := hI.1.2.2.1.1
  have d0 := hI.1.2.2.2.1
  have d1 := hI.1.2.2.2.2.1.2.2.2.2.1
  have d2 : Lm M (r + 30) := hI.1.2.2.2.2.2.2.2.2.2.1
  simp only [Nat.add_assoc, Nat.reduceAdd] at d0 d1 d2
  have q8 := hs 8 (by decide)
  have q9 := hs 9 (by decide)
  have q5 := hs 5 (by decide)
  have w8 : (∃ i, i < 10 ∧ kS 8 = kS i) = True := eq_true ⟨8, by decide, rfl⟩
  have w9 : (∃ i, i < 10 ∧ kS 9 = kS i) = True := eq_true ⟨9, by decide, rfl⟩
  have w5 : (∃ i, i < 10 ∧ kS 5 = kS i) = True := eq_true ⟨5, by decide, rfl⟩
  have hm : ∀ N, UI N r → Lm N (r + 30) ∧ cnt (gI N (r + 30) 2) 900 := fun N h => ⟨h.1.2.2.2.2.2.2.2.2.2.1, h.2.2.2.2.2.2⟩
  by_cases h40 : gI M (r + 1) 2 = 40
  · have z : (gI M (r + 1) 2 = 40) = True := eq_true h40
    have a2 : (nI (4 - (k + 1)) < 4) = True := eq_true ((nI_ltI (b := 4) (by omega) (by decide)).mpr (by omega))
    have a3 : nI (4 - (k + 1) + 1) = nI (4 - k) := by rw [show 4 - (k + 1) + 1 = 4 - k from by omega]
    have hg := gdd_sm (gdd_fa r k) _ hI.nx
    have s1 : STR (gT G) (nxM M (r + 1)) := hs.kp (kp_nx _ _)
    have g1 : gK (smM r (faN r k) (nxM M (r + 1))) r = kO 7 := by rw [hg.2.1]; exact k0
    simp only [rX7_readFactor_0, kX7_readFactor_0, rX7_readFactor_26, kX7_readFactor_26, rX7_readFactor_61, kX7_readFactor_61, rX7_readFactor_81, kX7_readFactor_81, rX7_readFactor_102, kX7_readFactor_102, rX7_readFactor_123, kX7_readFactor_123, rX7_readFactor_141, kX7_readFactor_141, bk_c, if_true, if_false, wi_e, wl_e, wr_e, w1_i, w1_r, ldS_0, ldS_s, vi_e, vl_e, vr_e, dpL_u, dpL_i, dpL_r, dpL_l, stS_0, stS_1, stS_s, stL_0, stL_1, stL_s, bin_0, bin_1, bin_2, bin_3, bin_4, bin_5, bdv_0, bdv_1, lbin_0, lbin_1, lbin_2, cnd_0, cnd_1, cnd_2, cnd_3, cnd_4, cnd_5, aty_0, aty_1, aty_2, aty_3, aty_4, aty_5, c8_u, cn_0, cn_i, cn_r, cn_l, Nat.reduceAdd, Nat.reduceLeDiff, Nat.le_refl, adz, hnd_0, rcv_0, rcv_1, kLen_a, kLen_r, inB_e, inR_e, cpOK_e, swt_n, swt_c, List.take_succ_cons, List.take_zero, List.drop_succ_cons, List.drop_zero, List.reverse_cons, List.reverse_nil, List.nil_append, List.cons_append, List.length_cons, List.length_nil, Option.toList_some, Option.toList_none, det_e, det_x, tr_imp, fa_imp, implies_true, not_true, not_false_eq_true, and_true, true_and, nar_i, upd_s, st1_0, st1_1, st1_2, st1_3, st1_4, st1_5, st1_6, st1_7, st1_8, st1_9, st1_10, st1_11, st1_12, st1_13, st1_14, st1_15, st1_16, st1_17, st1_18, st1_19, st1_20, st1_21, st1_22, st1_23, st1_24, st1_25, st1_26, st1_27, st1_28, st1_29, st1_30, st1_31, st1_32, st1_33, st1_34, st1_35, st1_36, st1_37, st1_42, st1_43, st1_44, st1_46, st1_47, st1_48, st1_49, st1_50, st1_51, st1_52, st1_53, st1_54, st1_55, st1_56, st1_57, st1_58, st1_59, st1_60, up_q, up_q0, up_q1, up_s, sI_sI, Nat.reduceEqDiff, reduceIte, Nat.succ_ne_zero, forall_const, false_imp_iff, Nat.add_assoc, Nat.reduceEqDiff, reduceIte, e59, e62, e74, S59, S62, S74, sV, k0, p0, hT, hI, z, a2, nI_1, a3, hI.1.2.2.1, hI.2.1.p, hI.nx, s1, gK_nx, g1, hg.1]
    exact (if_pos h40).symm
  · have z : (gI M (r + 1) 2 = 40) = False := eq_false h40
    simp only [rX7_readFactor_0, kX7_readFactor_0, rX7_readFactor_26, kX7_readFactor_26, rX7_readFactor_61, kX7_readFactor_61, rX7_readFactor_81, kX7_readFactor_81, rX7_readFactor_102, kX7_readFactor_102, rX7_readFactor_123, kX7_readFactor_123, rX7_readFactor_141, kX7_readFactor_141, bk_c, if_true, if_false, wi_e, wl_e, wr_e, w1_i, w1_r, ldS_0, ldS_s, vi_e, vl_e, vr_e, dpL_u, dpL_i, dpL_r, dpL_l, stS_0, stS_1, stS_s, stL_0, stL_1, stL_s, bin_0, bin_1, bin_2, bin_3, bin_4, bin_5, bdv_0, bdv_1, lbin_0, lbin_1, lbin_2, cnd_0, cnd_1, cnd_2, cnd_3, cnd_4, cnd_5, aty_0, aty_1, aty_2, aty_3, aty_4, aty_5, c8_u, cn_0, cn_i, cn_r, cn_l, Nat.reduceAdd, Nat.reduceLeDiff, Nat.le_refl, adz, hnd_0, rcv_0, rcv_1, kLen_a, kLen_r, inB_e, inR_e, cpOK_e, swt_n, swt_c, List.take_succ_cons, List.take_zero, List.drop_succ_cons, List.drop_zero, List.reverse_cons, List.reverse_nil, List.nil_append, List.cons_append, List.length_cons, List.length_nil, Option.toList_some, Option.toList_none, det_e, det_x, tr_imp, fa_imp, implies_true, not_true, not_false_eq_true, and_true, true_and, nar_i, upd_s, st1_0, st1_1, st1_2, st1_3, st1_4, st1_5, st1_6, st1_7, st1_8, st1_9, st1_10, st1_11, st1_12, st1_13, st1_14, st1_15, st1_16, st1_17, st1_18, st1_19, st1_20, st1_21, st1_22, st1_23, st1_24, st1_25, st1_26, st1_27, st1_28, st1_29, st1_30, st1_31, st1_32, st1_33, st1_34, st1_35, st1_36, st1_37, st1_42, st1_43, st1_44, st1_46, st1_47, st1_48, st1_49, st1_50, st1_51, st1_52, st1_53, st1_54, st1_55, st1_56, st1_57, st1_58, st1_59, st1_60, up_q, up_q0, up_q1, up_s, sI_sI, Nat.reduceEqDiff, reduceIte, Nat.succ_ne_zero, forall_const, false_imp_iff, Nat.add_assoc, Nat.reduceEqDiff, reduceIte, e25, e47, e48, e54, e73, S25, S47, S48, S54, S73, sV, iwV, kSi_e, k0, p0, p1, hT, d0, d1, d2.1, hI, z, q8, q9, q5, w8, w9, w5, hI.1.2.2.1, hI.2.1.w, gK_rn, gP_rn, hm _ (hI.rn 0 9999)]
    refine ⟨fun h8 => ⟨fun h9 => ⟨fun h5 => ?_, fun h5 => ?_⟩, fun h9 => ?_⟩, fun h8 => ?_⟩
    · exact (facM_e h40 h8 h9 h5).symm
    · exact (facM_5 h40 h8 h9 h5).symm
    · exact (facM_9 h40 h8 h9).symm
    · exact (facM_8 h40 h8).symm
