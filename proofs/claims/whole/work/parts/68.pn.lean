/-! ===== the law's helpers ===== -/
theorem ruB_or (M : Mm) (x : Nat) (h : Int32) : ruB M x h = none ∨ ruB M x h = some 2 := by
  unfold ruB
  split
  · exact Or.inr rfl
  · exact Or.inl rfl
theorem fcB_or (M : Mm) (x : Nat) (h : Int32) : fcB M x h = none ∨ fcB M x h = some 2 := by
  unfold fcB
  split
  · exact Or.inl rfl
  · exact Or.inr rfl
def S185 : Sem := fun as M => match as with
  | [.ref x, .int c, .ref o] => sHp (((XP M x)) ∧ gK (M) o = kA .long 1) (bI c (gI M (x + 37) 8)) (fun _ => 1) (sJ (M) o (vp_updL (gJ (M) o) 0 (Int32.toInt64 (gI M (x + 43) c.toNatClampNeg)))) M
  | _ => sF
set_option maxRecDepth 100000 in
set_option maxHeartbeats 4000000 in
theorem oL_arrived : okC 12 (cL9 185) (cF 185) (cO 185) (cR 185) (cC 185) (decide ((cY 185).name = "<init>")) false [76] kL_arrived = true := by decide +kernel
set_option maxRecDepth 100000 in
set_option maxHeartbeats 4000000 in
theorem s_L_arrived {l : Launch} {G : Gt} (hfl : l.stackTraces = false) : SatM l G 185 S185 := by
  refine sat_ofH (E := fun _ => S76) (K := kL_arrived) (ids := [76]) (hh := [(0, 9, 12, 24)]) hfl ok_185 rfl rfl (by decide) rfl oL_arrived (fun id hid => ?_) (fun as M ex N => ?_) fun as M hp => ?_
  · cases List.mem_singleton.mp hid
    exact ⟨s_X10_arrived hfl, ok_76⟩
  · unfold S185
    split
    · exact fun h => h
    · exact sF_X ex N
  unfold S185 at hp ⊢
  split at hp
  case h_2 => exact hp.elim
  rename_i x c o
  obtain ⟨hp, ho⟩ := hp
  refine ⟨Nat.le_of_ble_eq_true rfl, ?_⟩
  show Run (gT G) _ _ _ _ _ _ _ 0 [.val (.ref x), .val (.int c), .val (.ref o), .unset] [] M 0 0
  have kx : gK M x = kO 10 := hp.f.1.1
  have v01 : vp_in 0 1 = True := eq_true (vp_in_nI (n := 0) (N := 1) (by decide) (by decide))
  have t00 : (0 : Int32).toNatClampNeg = 0 := rfl
  have m1 : cM 185 = 1 := rfl
  have m2 : cS 185 = 6 := rfl
  rcases bI_or c (gI M (x + 37) 8) with h1 | h1
  · simp only [rL_arrived_0, kL_arrived_0, rL_arrived_12, kL_arrived_12, rL_arrived_15, kL_arrived_15, bk_c, if_true, if_false, wi_e, wl_e, wr_e, w1_i, w1_r, ldS_0, ldS_s, vi_e, vl_e, vr_e, dpL_u, dpL_i, dpL_r, dpL_l, stS_0, stS_1, stS_s, stL_0, stL_1, stL_s, bin_0, bin_1, bin_2, bin_3, bin_4, bin_5, bdv_0, bdv_1, lbin_0, lbin_1, lbin_2, cnd_0, cnd_1, cnd_2, cnd_3, cnd_4, cnd_5, aty_0, aty_1, aty_2, aty_3, aty_4, aty_5, c8_u, cn_0, cn_i, cn_r, cn_l, Nat.reduceAdd, Nat.reduceLeDiff, Nat.le_refl, adz, hnd_0, rcv_0, rcv_1, kLen_a, kLen_r, inB_e, inR_e, cpOK_e, swt_n, swt_c, List.take_succ_cons, List.take_zero, List.drop_succ_cons, List.drop_zero, List.reverse_cons, List.reverse_nil, List.nil_append, List.cons_append, List.length_cons, List.length_nil, Option.toList_some, Option.toList_none, det_e, det_x, tr_imp, fa_imp, implies_true, not_true, not_false_eq_true, and_true, true_and, nar_i, upd_s, st1_0, st1_1, st1_2, st1_3, st1_4, st1_5, st1_6, st1_7, st1_8, st1_9, st1_10, st1_11, st1_12, st1_13, st1_14, st1_15, st1_16, st1_17, st1_18, st1_19, st1_20, st1_21, st1_22, st1_23, st1_24, st1_25, st1_26, st1_27, st1_28, st1_29, st1_30, st1_31, st1_32, st1_33, st1_34, st1_35, st1_36, st1_37, st1_42, st1_43, st1_44, st1_46, st1_47, st1_48, st1_49, st1_50, st1_51, st1_52, st1_53, st1_54, st1_55, st1_56, st1_57, st1_58, st1_59, st1_60, S76, sHp, hp, ho, kx, v01, t00, m1, m2, hnd, hxF, ctx, gK_sI, orE_n, orE_s, h1, Nat.zero_le, Nat.reduceLT, Nat.reduceEqDiff, reduceIte, reduceCtorEq, and_self, and_true, true_and, and_false, false_and, or_false, false_or, true_or, Option.some.injEq, implies_true, Nat.le_refl]
  · simp only [rL_arrived_0, kL_arrived_0, rL_arrived_12, kL_arrived_12, rL_arrived_15, kL_arrived_15, bk_c, if_true, if_false, wi_e, wl_e, wr_e, w1_i, w1_r, ldS_0, ldS_s, vi_e, vl_e, vr_e, dpL_u, dpL_i, dpL_r, dpL_l, stS_0, stS_1, stS_s, stL_0, stL_1, stL_s, bin_0, bin_1, bin_2, bin_3, bin_4, bin_5, bdv_0, bdv_1, lbin_0, lbin_1, lbin_2, cnd_0, cnd_1, cnd_2, cnd_3, cnd_4, cnd_5, aty_0, aty_1, aty_2, aty_3, aty_4, aty_5, c8_u, cn_0, cn_i, cn_r, cn_l, Nat.reduceAdd, Nat.reduceLeDiff, Nat.le_refl, adz, hnd_0, rcv_0, rcv_1, kLen_a, kLen_r, inB_e, inR_e, cpOK_e, swt_n, swt_c, List.take_succ_cons, List.take_zero, List.drop_succ_cons, List.drop_zero, List.reverse_cons, List.reverse_nil, List.nil_append, List.cons_append, List.length_cons, List.length_nil, Option.toList_some, Option.toList_none, det_e, det_x, tr_imp, fa_imp, implies_true, not_true, not_false_eq_true, and_true, true_and, nar_i, upd_s, st1_0, st1_1, st1_2, st1_3, st1_4, st1_5, st1_6, st1_7, st1_8, st1_9, st1_10, st1_11, st1_12, st1_13, st1_14, st1_15, st1_16, st1_17, st1_18, st1_19, st1_20, st1_21, st1_22, st1_23, st1_24, st1_25, st1_26, st1_27, st1_28, st1_29, st1_30, st1_31, st1_32, st1_33, st1_34, st1_35, st1_36, st1_37, st1_42, st1_43, st1_44, st1_46, st1_47, st1_48, st1_49, st1_50, st1_51, st1_52, st1_53, st1_54, st1_55, st1_56, st1_57, st1_58, st1_59, st1_60, S76, sHp, hp, ho, kx, v01, t00, m1, m2, hnd, hxF, ctx, gK_sI, orE_n, orE_s, h1, Nat.zero_le, Nat.reduceLT, Nat.reduceEqDiff, reduceIte, reduceCtorEq, and_self, and_true, true_and, and_false, false_and, or_false, false_or, true_or, Option.some.injEq, implies_true, Nat.le_refl]
    rintro _ _ ⟨rfl, z, hz, rfl⟩
    simp only [rL_arrived_0, kL_arrived_0, rL_arrived_12, kL_arrived_12, rL_arrived_15, kL_arrived_15, bk_c, if_true, if_false, wi_e, wl_e, wr_e, w1_i, w1_r, ldS_0, ldS_s, vi_e, vl_e, vr_e, dpL_u, dpL_i, dpL_r, dpL_l, stS_0, stS_1, stS_s, stL_0, stL_1, stL_s, bin_0, bin_1, bin_2, bin_3, bin_4, bin_5, bdv_0, bdv_1, lbin_0, lbin_1, lbin_2, cnd_0, cnd_1, cnd_2, cnd_3, cnd_4, cnd_5, aty_0, aty_1, aty_2, aty_3, aty_4, aty_5, c8_u, cn_0, cn_i, cn_r, cn_l, Nat.reduceAdd, Nat.reduceLeDiff, Nat.le_refl, adz, hnd_0, rcv_0, rcv_1, kLen_a, kLen_r, inB_e, inR_e, cpOK_e, swt_n, swt_c, List.take_succ_cons, List.take_zero, List.drop_succ_cons, List.drop_zero, List.reverse_cons, List.reverse_nil, List.nil_append, List.cons_append, List.length_cons, List.length_nil, Option.toList_some, Option.toList_none, det_e, det_x, tr_imp, fa_imp, implies_true, not_true, not_false_eq_true, and_true, true_and, nar_i, upd_s, st1_0, st1_1, st1_2, st1_3, st1_4, st1_5, st1_6, st1_7, st1_8, st1_9, st1_10, st1_11, st1_12, st1_13, st1_14, st1_15, st1_16, st1_17, st1_18, st1_19, st1_20, st1_21, st1_22, st1_23, st1_24, st1_25, st1_26, st1_27, st1_28, st1_29, st1_30, st1_31, st1_32, st1_33, st1_34, st1_35, st1_36, st1_37, st1_42, st1_43, st1_44, st1_46, st1_47, st1_48, st1_49, st1_50, st1_51, st1_52, st1_53, st1_54, st1_55, st1_56, st1_57, st1_58, st1_59, st1_60, Nat.reduceEqDiff, reduceIte]
    first
      | exact fun q => ⟨_, z, rfl, rfl, hz, rfl⟩
      | exact fun q => ⟨_, z, rfl, hz, rfl⟩
def S186 : Sem := fun as M => match as with
  | [.ref x, .int c, .int h, .ref o] => sHp (((XH M x)) ∧ gK ((faR M x c h (-1)).2) o = kA .long 1) (orE (bI c (gI M (x + 37) 8)) (bR h 0 100)) (fun e => if e = 1 then 1 else 2) (sJ ((faR M x c h (-1)).2) o (vp_updL (gJ ((faR M x c h (-1)).2) o) 0 (Int32.toInt64 (faR M x c h (-1)).1))) M
  | _ => sF
set_option maxRecDepth 100000 in
set_option maxHeartbeats 4000000 in
theorem oL_expected : okC 12 (cL9 186) (cF 186) (cO 186) (cR 186) (cC 186) (decide ((cY 186).name = "<init>")) false [83] kL_expected = true := by decide +kernel
set_option maxRecDepth 100000 in
set_option maxHeartbeats 4000000 in
theorem s_L_expected {l : Launch} {G : Gt} (hfl : l.stackTraces = false) : SatM l G 186 S186 := by
  refine sat_ofH (E := fun _ => S83) (K := kL_expected) (ids := [83]) (hh := [(0, 10, 13, 24), (0, 10, 17, 13)]) hfl ok_186 rfl rfl (by decide) rfl oL_expected (fun id hid => ?_) (fun as M ex N => ?_) fun as M hp => ?_
  · cases List.mem_singleton.mp hid
    exact ⟨s_X10_expected hfl, ok_83⟩
  · unfold S186
    split
    · exact fun h => h
    · exact sF_X ex N
  unfold S186 at hp ⊢
  split at hp
  case h_2 => exact hp.elim
  rename_i x c h o
  obtain ⟨hp, ho⟩ := hp
  refine ⟨Nat.le_of_ble_eq_true rfl, ?_⟩
  show Run (gT G) _ _ _ _ _ _ _ 0 [.val (.ref x), .val (.int c), .val (.int h), .val (.ref o), .unset] [] M 0 0
  have kx : gK M x = kO 10 := hp.1.f.1.1
  have v01 : vp_in 0 1 = True := eq_true (vp_in_nI (n := 0) (N := 1) (by decide) (by decide))
  have t00 : (0 : Int32).toNatClampNeg = 0 := rfl
  have m1 : cM 186 = 2 := rfl
  have m2 : cS 186 = 12 := rfl
  rcases bI_or c (gI M (x + 37) 8) with h1 | h1
  · rcases bR_or h 0 100 with h2 | h2
    · simp only [rL_expected_0, kL_expected_0, rL_expected_13, kL_expected_13, rL_expected_17, kL_expected_17, rL_expected_21, kL_expected_21, bk_c, if_true, if_false, wi_e, wl_e, wr_e, w1_i, w1_r, ldS_0, ldS_s, vi_e, vl_e, vr_e, dpL_u, dpL_i, dpL_r, dpL_l, stS_0, stS_1, stS_s, stL_0, stL_1, stL_s, bin_0, bin_1, bin_2, bin_3, bin_4, bin_5, bdv_0, bdv_1, lbin_0, lbin_1, lbin_2, cnd_0, cnd_1, cnd_2, cnd_3, cnd_4, cnd_5, aty_0, aty_1, aty_2, aty_3, aty_4, aty_5, c8_u, cn_0, cn_i, cn_r, cn_l, Nat.reduceAdd, Nat.reduceLeDiff, Nat.le_refl, adz, hnd_0, rcv_0, rcv_1, kLen_a, kLen_r, inB_e, inR_e, cpOK_e, swt_n, swt_c, List.take_succ_cons, List.take_zero, List.drop_succ_cons, List.drop_zero, List.reverse_cons, List.reverse_nil, List.nil_append, List.cons_append, List.length_cons, List.length_nil, Option.toList_some, Option.toList_none, det_e, det_x, tr_imp, fa_imp, implies_true, not_true, not_false_eq_true, and_true, true_and, nar_i, upd_s, st1_0, st1_1, st1_2, st1_3, st1_4, st1_5, st1_6, st1_7, st1_8, st1_9, st1_10, st1_11, st1_12, st1_13, st1_14, st1_15, st1_16, st1_17, st1_18, st1_19, st1_20, st1_21, st1_22, st1_23, st1_24, st1_25, st1_26, st1_27, st1_28, st1_29, st1_30, st1_31, st1_32, st1_33, st1_34, st1_35, st1_36, st1_37, st1_42, st1_43, st1_44, st1_46, st1_47, st1_48, st1_49, st1_50, st1_51, st1_52, st1_53, st1_54, st1_55, st1_56, st1_57, st1_58, st1_59, st1_60, S83, sHp, hp, ho, kx, v01, t00, m1, m2, hnd, hxF, ctx, gK_sI, orE_n, orE_s, h1, h2, Nat.zero_le, Nat.reduceLT, Nat.reduceEqDiff, reduceIte, reduceCtorEq, and_self, and_true, true_and, and_false, false_and, or_false, false_or, true_or, Option.some.injEq, implies_true, Nat.le_refl]
    · simp only [rL_expected_0, kL_expected_0, rL_expected_13, kL_expected_13, rL_expected_17, kL_expected_17, rL_expected_21, kL_expected_21, bk_c, if_true, if_false, wi_e, wl_e, wr_e, w1_i, w1_r, ldS_0, ldS_s, vi_e, vl_e, vr_e, dpL_u, dpL_i, dpL_r, dpL_l, stS_0, stS_1, stS_s, stL_0, stL_1, stL_s, bin_0, bin_1, bin_2, bin_3, bin_4, bin_5, bdv_0, bdv_1, lbin_0, lbin_1, lbin_2, cnd_0, cnd_1, cnd_2, cnd_3, cnd_4, cnd_5, aty_0, aty_1, aty_2, aty_3, aty_4, aty_5, c8_u, cn_0, cn_i, cn_r, cn_l, Nat.reduceAdd, Nat.reduceLeDiff, Nat.le_refl, adz, hnd_0, rcv_0, rcv_1, kLen_a, kLen_r, inB_e, inR_e, cpOK_e, swt_n, swt_c, List.take_succ_cons, List.take_zero, List.drop_succ_cons, List.drop_zero, List.reverse_cons, List.reverse_nil, List.nil_append, List.cons_append, List.length_cons, List.length_nil, Option.toList_some, Option.toList_none, det_e, det_x, tr_imp, fa_imp, implies_true, not_true, not_false_eq_true, and_true, true_and, nar_i, upd_s, st1_0, st1_1, st1_2, st1_3, st1_4, st1_5, st1_6, st1_7, st1_8, st1_9, st1_10, st1_11, st1_12, st1_13, st1_14, st1_15, st1_16, st1_17, st1_18, st1_19, st1_20, st1_21, st1_22, st1_23, st1_24, st1_25, st1_26, st1_27, st1_28, st1_29, st1_30, st1_31, st1_32, st1_33, st1_34, st1_35, st1_36, st1_37, st1_42, st1_43, st1_44, st1_46, st1_47, st1_48, st1_49, st1_50, st1_51, st1_52, st1_53, st1_54, st1_55, st1_56, st1_57, st1_58, st1_59, st1_60, S83, sHp, hp, ho, kx, v01, t00, m1, m2, hnd, hxF, ctx, gK_sI, orE_n, orE_s, h1, h2, Nat.zero_le, Nat.reduceLT, Nat.reduceEqDiff, reduceIte, reduceCtorEq, and_self, and_true, true_and, and_false, false_and, or_false, false_or, true_or, Option.some.injEq, implies_true, Nat.le_refl]
      rintro _ _ ⟨rfl, z, hz, rfl⟩
      simp only [rL_expected_0, kL_expected_0, rL_expected_13, kL_expected_13, rL_expected_17, kL_expected_17, rL_expected_21, kL_expected_21, bk_c, if_true, if_false, wi_e, wl_e, wr_e, w1_i, w1_r, ldS_0, ldS_s, vi_e, vl_e, vr_e, dpL_u, dpL_i, dpL_r, dpL_l, stS_0, stS_1, stS_s, stL_0, stL_1, stL_s, bin_0, bin_1, bin_2, bin_3, bin_4, bin_5, bdv_0, bdv_1, lbin_0, lbin_1, lbin_2, cnd_0, cnd_1, cnd_2, cnd_3, cnd_4, cnd_5, aty_0, aty_1, aty_2, aty_3, aty_4, aty_5, c8_u, cn_0, cn_i, cn_r, cn_l, Nat.reduceAdd, Nat.reduceLeDiff, Nat.le_refl, adz, hnd_0, rcv_0, rcv_1, kLen_a, kLen_r, inB_e, inR_e, cpOK_e, swt_n, swt_c, List.take_succ_cons, List.take_zero, List.drop_succ_cons, List.drop_zero, List.reverse_cons, List.reverse_nil, List.nil_append, List.cons_append, List.length_cons, List.length_nil, Option.toList_some, Option.toList_none, det_e, det_x, tr_imp, fa_imp, implies_true, not_true, not_false_eq_true, and_true, true_and, nar_i, upd_s, st1_0, st1_1, st1_2, st1_3, st1_4, st1_5, st1_6, st1_7, st1_8, st1_9, st1_10, st1_11, st1_12, st1_13, st1_14, st1_15, st1_16, st1_17, st1_18, st1_19, st1_20, st1_21, st1_22, st1_23, st1_24, st1_25, st1_26, st1_27, st1_28, st1_29, st1_30, st1_31, st1_32, st1_33, st1_34, st1_35, st1_36, st1_37, st1_42, st1_43, st1_44, st1_46, st1_47, st1_48, st1_49, st1_50, st1_51, st1_52, st1_53, st1_54, st1_55, st1_56, st1_57, st1_58, st1_59, st1_60, Nat.reduceEqDiff, reduceIte]
      first
        | exact fun q => ⟨_, z, rfl, rfl, hz, rfl⟩
        | exact fun q => ⟨_, z, rfl, hz, rfl⟩
  · simp only [rL_expected_0, kL_expected_0, rL_expected_13, kL_expected_13, rL_expected_17, kL_expected_17, rL_expected_21, kL_expected_21, bk_c, if_true, if_false, wi_e, wl_e, wr_e, w1_i, w1_r, ldS_0, ldS_s, vi_e, vl_e, vr_e, dpL_u, dpL_i, dpL_r, dpL_l, stS_0, stS_1, stS_s, stL_0, stL_1, stL_s, bin_0, bin_1, bin_2, bin_3, bin_4, bin_5, bdv_0, bdv_1, lbin_0, lbin_1, lbin_2, cnd_0, cnd_1, cnd_2, cnd_3, cnd_4, cnd_5, aty_0, aty_1, aty_2, aty_3, aty_4, aty_5, c8_u, cn_0, cn_i, cn_r, cn_l, Nat.reduceAdd, Nat.reduceLeDiff, Nat.le_refl, adz, hnd_0, rcv_0, rcv_1, kLen_a, kLen_r, inB_e, inR_e, cpOK_e, swt_n, swt_c, List.take_succ_cons, List.take_zero, List.drop_succ_cons, List.drop_zero, List.reverse_cons, List.reverse_nil, List.nil_append, List.cons_append, List.length_cons, List.length_nil, Option.toList_some, Option.toList_none, det_e, det_x, tr_imp, fa_imp, implies_true, not_true, not_false_eq_true, and_true, true_and, nar_i, upd_s, st1_0, st1_1, st1_2, st1_3, st1_4, st1_5, st1_6, st1_7, st1_8, st1_9, st1_10, st1_11, st1_12, st1_13, st1_14, st1_15, st1_16, st1_17, st1_18, st1_19, st1_20, st1_21, st1_22, st1_23, st1_24, st1_25, st1_26, st1_27, st1_28, st1_29, st1_30, st1_31, st1_32, st1_33, st1_34, st1_35, st1_36, st1_37, st1_42, st1_43, st1_44, st1_46, st1_47, st1_48, st1_49, st1_50, st1_51, st1_52, st1_53, st1_54, st1_55, st1_56, st1_57, st1_58, st1_59, st1_60, S83, sHp, hp, ho, kx, v01, t00, m1, m2, hnd, hxF, ctx, gK_sI, orE_n, orE_s, h1, Nat.zero_le, Nat.reduceLT, Nat.reduceEqDiff, reduceIte, reduceCtorEq, and_self, and_true, true_and, and_false, false_and, or_false, false_or, true_or, Option.some.injEq, implies_true, Nat.le_refl]
    rintro _ _ ⟨rfl, z, hz, rfl⟩
    simp only [rL_expected_0, kL_expected_0, rL_expected_13, kL_expected_13, rL_expected_17, kL_expected_17, rL_expected_21, kL_expected_21, bk_c, if_true, if_false, wi_e, wl_e, wr_e, w1_i, w1_r, ldS_0, ldS_s, vi_e, vl_e, vr_e, dpL_u, dpL_i, dpL_r, dpL_l, stS_0, stS_1, stS_s, stL_0, stL_1, stL_s, bin_0, bin_1, bin_2, bin_3, bin_4, bin_5, bdv_0, bdv_1, lbin_0, lbin_1, lbin_2, cnd_0, cnd_1, cnd_2, cnd_3, cnd_4, cnd_5, aty_0, aty_1, aty_2, aty_3, aty_4, aty_5, c8_u, cn_0, cn_i, cn_r, cn_l, Nat.reduceAdd, Nat.reduceLeDiff, Nat.le_refl, adz, hnd_0, rcv_0, rcv_1, kLen_a, kLen_r, inB_e, inR_e, cpOK_e, swt_n, swt_c, List.take_succ_cons, List.take_zero, List.drop_succ_cons, List.drop_zero, List.reverse_cons, List.reverse_nil, List.nil_append, List.cons_append, List.length_cons, List.length_nil, Option.toList_some, Option.toList_none, det_e, det_x, tr_imp, fa_imp, implies_true, not_true, not_false_eq_true, and_true, true_and, nar_i, upd_s, st1_0, st1_1, st1_2, st1_3, st1_4, st1_5, st1_6, st1_7, st1_8, st1_9, st1_10, st1_11, st1_12, st1_13, st1_14, st1_15, st1_16, st1_17, st1_18, st1_19, st1_20, st1_21, st1_22, st1_23, st1_24, st1_25, st1_26, st1_27, st1_28, st1_29, st1_30, st1_31, st1_32, st1_33, st1_34, st1_35, st1_36, st1_37, st1_42, st1_43, st1_44, st1_46, st1_47, st1_48, st1_49, st1_50, st1_51, st1_52, st1_53, st1_54, st1_55, st1_56, st1_57, st1_58, st1_59, st1_60, Nat.reduceEqDiff, reduceIte]
    first
      | exact fun q => ⟨_, z, rfl, rfl, hz, rfl⟩
      | exact fun q => ⟨_, z, rfl, hz, rfl⟩
def S187 : Sem := fun as M => match as with
  | [.ref x, .int c, .int h, .ref o] => sHp (((XP M x)) ∧ gK (M) o = kA .long 1) (orE (bI c 6) (bR h 0 1000)) (fun e => if e = 1 then 1 else 2) (sJ (M) o (vp_updL (gJ (M) o) 0 (Int32.toInt64 (fpV M (x + 46) c h)))) M
  | _ => sF
set_option maxRecDepth 100000 in
set_option maxHeartbeats 4000000 in
theorem oL_fairHours : okC 12 (cL9 187) (cF 187) (cO 187) (cR 187) (cC 187) (decide ((cY 187).name = "<init>")) false [84] kL_fairHours = true := by decide +kernel
set_option maxRecDepth 100000 in
set_option maxHeartbeats 4000000 in
theorem s_L_fairHours {l : Launch} {G : Gt} (hfl : l.stackTraces = false) : SatM l G 187 S187 := by
  refine sat_ofH (E := fun _ => S84) (K := kL_fairHours) (ids := [84]) (hh := [(0, 10, 13, 24), (0, 10, 17, 13)]) hfl ok_187 rfl rfl (by decide) rfl oL_fairHours (fun id hid => ?_) (fun as M ex N => ?_) fun as M hp => ?_
  · cases List.mem_singleton.mp hid
    exact ⟨s_X10_fairHours hfl, ok_84⟩
  · unfold S187
    split
    · exact fun h => h
    · exact sF_X ex N
  unfold S187 at hp ⊢
  split at hp
  case h_2 => exact hp.elim
  rename_i x c h o
  obtain ⟨hp, ho⟩ := hp
  refine ⟨Nat.le_of_ble_eq_true rfl, ?_⟩
  show Run (gT G) _ _ _ _ _ _ _ 0 [.val (.ref x), .val (.int c), .val (.int h), .val (.ref o), .unset] [] M 0 0
  have kx : gK M x = kO 10 := hp.f.1.1
  have v01 : vp_in 0 1 = True := eq_true (vp_in_nI (n := 0) (N := 1) (by decide) (by decide))
  have t00 : (0 : Int32).toNatClampNeg = 0 := rfl
  have m1 : cM 187 = 2 := rfl
  have m2 : cS 187 = 12 := rfl
  rcases bI_or c 6 with h1 | h1
  · rcases bR_or h 0 1000 with h2 | h2
    · simp only [rL_fairHours_0, kL_fairHours_0, rL_fairHours_13, kL_fairHours_13, rL_fairHours_17, kL_fairHours_17, rL_fairHours_21, kL_fairHours_21, bk_c, if_true, if_false, wi_e, wl_e, wr_e, w1_i, w1_r, ldS_0, ldS_s, vi_e, vl_e, vr_e, dpL_u, dpL_i, dpL_r, dpL_l, stS_0, stS_1, stS_s, stL_0, stL_1, stL_s, bin_0, bin_1, bin_2, bin_3, bin_4, bin_5, bdv_0, bdv_1, lbin_0, lbin_1, lbin_2, cnd_0, cnd_1, cnd_2, cnd_3, cnd_4, cnd_5, aty_0, aty_1, aty_2, aty_3, aty_4, aty_5, c8_u, cn_0, cn_i, cn_r, cn_l, Nat.reduceAdd, Nat.reduceLeDiff, Nat.le_refl, adz, hnd_0, rcv_0, rcv_1, kLen_a, kLen_r, inB_e, inR_e, cpOK_e, swt_n, swt_c, List.take_succ_cons, List.take_zero, List.drop_succ_cons, List.drop_zero, List.reverse_cons, List.reverse_nil, List.nil_append, List.cons_append, List.length_cons, List.length_nil, Option.toList_some, Option.toList_none, det_e, det_x, tr_imp, fa_imp, implies_true, not_true, not_false_eq_true, and_true, true_and, nar_i, upd_s, st1_0, st1_1, st1_2, st1_3, st1_4, st1_5, st1_6, st1_7, st1_8, st1_9, st1_10, st1_11, st1_12, st1_13, st1_14, st1_15, st1_16, st1_17, st1_18, st1_19, st1_20, st1_21, st1_22, st1_23, st1_24, st1_25, st1_26, st1_27, st1_28, st1_29, st1_30, st1_31, st1_32, st1_33, st1_34, st1_35, st1_36, st1_37, st1_42, st1_43, st1_44, st1_46, st1_47, st1_48, st1_49, st1_50, st1_51, st1_52, st1_53, st1_54, st1_55, st1_56, st1_57, st1_58, st1_59, st1_60, S84, sHp, hp, ho, kx, v01, t00, m1, m2, hnd, hxF, ctx, gK_sI, orE_n, orE_s, h1, h2, Nat.zero_le, Nat.reduceLT, Nat.reduceEqDiff, reduceIte, reduceCtorEq, and_self, and_true, true_and, and_false, false_and, or_false, false_or, true_or, Option.some.injEq, implies_true, Nat.le_refl]
    · simp only [rL_fairHours_0, kL_fairHours_0, rL_fairHours_13, kL_fairHours_13, rL_fairHours_17, kL_fairHours_17, rL_fairHours_21, kL_fairHours_21, bk_c, if_true, if_false, wi_e, wl_e, wr_e, w1_i, w1_r, ldS_0, ldS_s, vi_e, vl_e, vr_e, dpL_u, dpL_i, dpL_r, dpL_l, stS_0, stS_1, stS_s, stL_0, stL_1, stL_s, bin_0, bin_1, bin_2, bin_3, bin_4, bin_5, bdv_0, bdv_1, lbin_0, lbin_1, lbin_2, cnd_0, cnd_1, cnd_2, cnd_3, cnd_4, cnd_5, aty_0, aty_1, aty_2, aty_3, aty_4, aty_5, c8_u, cn_0, cn_i, cn_r, cn_l, Nat.reduceAdd, Nat.reduceLeDiff, Nat.le_refl, adz, hnd_0, rcv_0, rcv_1, kLen_a, kLen_r, inB_e, inR_e, cpOK_e, swt_n, swt_c, List.take_succ_cons, List.take_zero, List.drop_succ_cons, List.drop_zero, List.reverse_cons, List.reverse_nil, List.nil_append, List.cons_append, List.length_cons, List.length_nil, Option.toList_some, Option.toList_none, det_e, det_x, tr_imp, fa_imp, implies_true, not_true, not_false_eq_true, and_true, true_and, nar_i, upd_s, st1_0, st1_1, st1_2, st1_3, st1_4, st1_5, st1_6, st1_7, st1_8, st1_9, st1_10, st1_11, st1_12, st1_13, st1_14, st1_15, st1_16, st1_17, st1_18, st1_19, st1_20, st1_21, st1_22, st1_23, st1_24, st1_25, st1_26, st1_27, st1_28, st1_29, st1_30, st1_31, st1_32, st1_33, st1_34, st1_35, st1_36, st1_37, st1_42, st1_43, st1_44, st1_46, st1_47, st1_48, st1_49, st1_50, st1_51, st1_52, st1_53, st1_54, st1_55, st1_56, st1_57, st1_58, st1_59, st1_60, S84, sHp, hp, ho, kx, v01, t00, m1, m2, hnd, hxF, ctx, gK_sI, orE_n, orE_s, h1, h2, Nat.zero_le, Nat.reduceLT, Nat.reduceEqDiff, reduceIte, reduceCtorEq, and_self, and_true, true_and, and_false, false_and, or_false, false_or, true_or, Option.some.injEq, implies_true, Nat.le_refl]
      rintro _ _ ⟨rfl, z, hz, rfl⟩
      simp only [rL_fairHours_0, kL_fairHours_0, rL_fairHours_13, kL_fairHours_13, rL_fairHours_17, kL_fairHours_17, rL_fairHours_21, kL_fairHours_21, bk_c, if_true, if_false, wi_e, wl_e, wr_e, w1_i, w1_r, ldS_0, ldS_s, vi_e, vl_e, vr_e, dpL_u, dpL_i, dpL_r, dpL_l, stS_0, stS_1, stS_s, stL_0, stL_1, stL_s, bin_0, bin_1, bin_2, bin_3, bin_4, bin_5, bdv_0, bdv_1, lbin_0, lbin_1, lbin_2, cnd_0, cnd_1, cnd_2, cnd_3, cnd_4, cnd_5, aty_0, aty_1, aty_2, aty_3, aty_4, aty_5, c8_u, cn_0, cn_i, cn_r, cn_l, Nat.reduceAdd, Nat.reduceLeDiff, Nat.le_refl, adz, hnd_0, rcv_0, rcv_1, kLen_a, kLen_r, inB_e, inR_e, cpOK_e, swt_n, swt_c, List.take_succ_cons, List.take_zero, List.drop_succ_cons, List.drop_zero, List.reverse_cons, List.reverse_nil, List.nil_append, List.cons_append, List.length_cons, List.length_nil, Option.toList_some, Option.toList_none, det_e, det_x, tr_imp, fa_imp, implies_true, not_true, not_false_eq_true, and_true, true_and, nar_i, upd_s, st1_0, st1_1, st1_2, st1_3, st1_4, st1_5, st1_6, st1_7, st1_8, st1_9, st1_10, st1_11, st1_12, st1_13, st1_14, st1_15, st1_16, st1_17, st1_18, st1_19, st1_20, st1_21, st1_22, st1_23, st1_24, st1_25, st1_26, st1_27, st1_28, st1_29, st1_30, st1_31, st1_32, st1_33, st1_34, st1_35, st1_36, st1_37, st1_42, st1_43, st1_44, st1_46, st1_47, st1_48, st1_49, st1_50, st1_51, st1_52, st1_53, st1_54, st1_55, st1_56, st1_57, st1_58, st1_59, st1_60, Nat.reduceEqDiff, reduceIte]
      first
        | exact fun q => ⟨_, z, rfl, rfl, hz, rfl⟩
        | exact fun q => ⟨_, z, rfl, hz, rfl⟩
  · simp only [rL_fairHours_0, kL_fairHours_0, rL_fairHours_13, kL_fairHours_13, rL_fairHours_17, kL_fairHours_17, rL_fairHours_21, kL_fairHours_21, bk_c, if_true, if_false, wi_e, wl_e, wr_e, w1_i, w1_r, ldS_0, ldS_s, vi_e, vl_e, vr_e, dpL_u, dpL_i, dpL_r, dpL_l, stS_0, stS_1, stS_s, stL_0, stL_1, stL_s, bin_0, bin_1, bin_2, bin_3, bin_4, bin_5, bdv_0, bdv_1, lbin_0, lbin_1, lbin_2, cnd_0, cnd_1, cnd_2, cnd_3, cnd_4, cnd_5, aty_0, aty_1, aty_2, aty_3, aty_4, aty_5, c8_u, cn_0, cn_i, cn_r, cn_l, Nat.reduceAdd, Nat.reduceLeDiff, Nat.le_refl, adz, hnd_0, rcv_0, rcv_1, kLen_a, kLen_r, inB_e, inR_e, cpOK_e, swt_n, swt_c, List.take_succ_cons, List.take_zero, List.drop_succ_cons, List.drop_zero, List.reverse_cons, List.reverse_nil, List.nil_append, List.cons_append, List.length_cons, List.length_nil, Option.toList_some, Option.toList_none, det_e, det_x, tr_imp, fa_imp, implies_true, not_true, not_false_eq_true, and_true, true_and, nar_i, upd_s, st1_0, st1_1, st1_2, st1_3, st1_4, st1_5, st1_6, st1_7, st1_8, st1_9, st1_10, st1_11, st1_12, st1_13, st1_14, st1_15, st1_16, st1_17, st1_18, st1_19, st1_20, st1_21, st1_22, st1_23, st1_24, st1_25, st1_26, st1_27, st1_28, st1_29, st1_30, st1_31, st1_32, st1_33, st1_34, st1_35, st1_36, st1_37, st1_42, st1_43, st1_44, st1_46, st1_47, st1_48, st1_49, st1_50, st1_51, st1_52, st1_53, st1_54, st1_55, st1_56, st1_57, st1_58, st1_59, st1_60, S84, sHp, hp, ho, kx, v01, t00, m1, m2, hnd, hxF, ctx, gK_sI, orE_n, orE_s, h1, Nat.zero_le, Nat.reduceLT, Nat.reduceEqDiff, reduceIte, reduceCtorEq, and_self, and_true, true_and, and_false, false_and, or_false, false_or, true_or, Option.some.injEq, implies_true, Nat.le_refl]
    rintro _ _ ⟨rfl, z, hz, rfl⟩
    simp only [rL_fairHours_0, kL_fairHours_0, rL_fairHours_13, kL_fairHours_13, rL_fairHours_17, kL_fairHours_17, rL_fairHours_21, kL_fairHours_21, bk_c, if_true, if_false, wi_e, wl_e, wr_e, w1_i, w1_r, ldS_0, ldS_s, vi_e, vl_e, vr_e, dpL_u, dpL_i, dpL_r, dpL_l, stS_0, stS_1, stS_s, stL_0, stL_1, stL_s, bin_0, bin_1, bin_2, bin_3, bin_4, bin_5, bdv_0, bdv_1, lbin_0, lbin_1, lbin_2, cnd_0, cnd_1, cnd_2, cnd_3, cnd_4, cnd_5, aty_0, aty_1, aty_2, aty_3, aty_4, aty_5, c8_u, cn_0, cn_i, cn_r, cn_l, Nat.reduceAdd, Nat.reduceLeDiff, Nat.le_refl, adz, hnd_0, rcv_0, rcv_1, kLen_a, kLen_r, inB_e, inR_e, cpOK_e, swt_n, swt_c, List.take_succ_cons, List.take_zero, List.drop_succ_cons, List.drop_zero, List.reverse_cons, List.reverse_nil, List.nil_append, List.cons_append, List.length_cons, List.length_nil, Option.toList_some, Option.toList_none, det_e, det_x, tr_imp, fa_imp, implies_true, not_true, not_false_eq_true, and_true, true_and, nar_i, upd_s, st1_0, st1_1, st1_2, st1_3, st1_4, st1_5, st1_6, st1_7, st1_8, st1_9, st1_10, st1_11, st1_12, st1_13, st1_14, st1_15, st1_16, st1_17, st1_18, st1_19, st1_20, st1_21, st1_22, st1_23, st1_24, st1_25, st1_26, st1_27, st1_28, st1_29, st1_30, st1_31, st1_32, st1_33, st1_34, st1_35, st1_36, st1_37, st1_42, st1_43, st1_44, st1_46, st1_47, st1_48, st1_49, st1_50, st1_51, st1_52, st1_53, st1_54, st1_55, st1_56, st1_57, st1_58, st1_59, st1_60, Nat.reduceEqDiff, reduceIte]
    first
      | exact fun q => ⟨_, z, rfl, rfl, hz, rfl⟩
      | exact fun q => ⟨_, z, rfl, hz, rfl⟩
def S188 : Sem := fun as M => match as with
  | [.ref x, .int c, .ref o] => sHp (((XP M x)) ∧ gK (M) o = kA .long 1) (bI c 6) (fun _ => 1) (sJ (M) o (vp_updL (gJ (M) o) 0 (Int32.toInt64 (gI M (x + 67) c.toNatClampNeg)))) M
  | _ => sF
set_option maxRecDepth 100000 in
set_option maxHeartbeats 4000000 in
theorem oL_fines : okC 12 (cL9 188) (cF 188) (cO 188) (cR 188) (cC 188) (decide ((cY 188).name = "<init>")) false [86] kL_fines = true := by decide +kernel
set_option maxRecDepth 100000 in
set_option maxHeartbeats 4000000 in
theorem s_L_fines {l : Launch} {G : Gt} (hfl : l.stackTraces = false) : SatM l G 188 S188 := by
  refine sat_ofH (E := fun _ => S86) (K := kL_fines) (ids := [86]) (hh := [(0, 9, 12, 24)]) hfl ok_188 rfl rfl (by decide) rfl oL_fines (fun id hid => ?_) (fun as M ex N => ?_) fun as M hp => ?_
  · cases List.mem_singleton.mp hid
    exact ⟨s_X10_fines hfl, ok_86⟩
  · unfold S188
    split
    · exact fun h => h
    · exact sF_X ex N
  unfold S188 at hp ⊢
  split at hp
  case h_2 => exact hp.elim
  rename_i x c o
  obtain ⟨hp, ho⟩ := hp
  refine ⟨Nat.le_of_ble_eq_true rfl, ?_⟩
  show Run (gT G) _ _ _ _ _ _ _ 0 [.val (.ref x), .val (.int c), .val (.ref o), .unset] [] M 0 0
  have kx : gK M x = kO 10 := hp.f.1.1
  have v01 : vp_in 0 1 = True := eq_true (vp_in_nI (n := 0) (N := 1) (by decide) (by decide))
  have t00 : (0 : Int32).toNatClampNeg = 0 := rfl
  have m1 : cM 188 = 1 := rfl
  have m2 : cS 188 = 6 := rfl
  rcases bI_or c 6 with h1 | h1
  · simp only [rL_fines_0, kL_fines_0, rL_fines_12, kL_fines_12, rL_fines_15, kL_fines_15, bk_c, if_true, if_false, wi_e, wl_e, wr_e, w1_i, w1_r, ldS_0, ldS_s, vi_e, vl_e, vr_e, dpL_u, dpL_i, dpL_r, dpL_l, stS_0, stS_1, stS_s, stL_0, stL_1, stL_s, bin_0, bin_1, bin_2, bin_3, bin_4, bin_5, bdv_0, bdv_1, lbin_0, lbin_1, lbin_2, cnd_0, cnd_1, cnd_2, cnd_3, cnd_4, cnd_5, aty_0, aty_1, aty_2, aty_3, aty_4, aty_5, c8_u, cn_0, cn_i, cn_r, cn_l, Nat.reduceAdd, Nat.reduceLeDiff, Nat.le_refl, adz, hnd_0, rcv_0, rcv_1, kLen_a, kLen_r, inB_e, inR_e, cpOK_e, swt_n, swt_c, List.take_succ_cons, List.take_zero, List.drop_succ_cons, List.drop_zero, List.reverse_cons, List.reverse_nil, List.nil_append, List.cons_append, List.length_cons, List.length_nil, Option.toList_some, Option.toList_none, det_e, det_x, tr_imp, fa_imp, implies_true, not_true, not_false_eq_true, and_true, true_and, nar_i, upd_s, st1_0, st1_1, st1_2, st1_3, st1_4, st1_5, st1_6, st1_7, st1_8, st1_9, st1_10, st1_11, st1_12, st1_13, st1_14, st1_15, st1_16, st1_17, st1_18, st1_19, st1_20, st1_21, st1_22, st1_23, st1_24, st1_25, st1_26, st1_27, st1_28, st1_29, st1_30, st1_31, st1_32, st1_33, st1_34, st1_35, st1_36, st1_37, st1_42, st1_43, st1_44, st1_46, st1_47, st1_48, st1_49, st1_50, st1_51, st1_52, st1_53, st1_54, st1_55, st1_56, st1_57, st1_58, st1_59, st1_60, S86, sHp, hp, ho, kx, v01, t00, m1, m2, hnd, hxF, ctx, gK_sI, orE_n, orE_s, h1, Nat.zero_le, Nat.reduceLT, Nat.reduceEqDiff, reduceIte, reduceCtorEq, and_self, and_true, true_and, and_false, false_and, or_false, false_or, true_or, Option.some.injEq, implies_true, Nat.le_refl]
  · simp only [rL_fines_0, kL_fines_0, rL_fines_12, kL_fines_12, rL_fines_15, kL_fines_15, bk_c, if_true, if_false, wi_e, wl_e, wr_e, w1_i, w1_r, ldS_0, ldS_s, vi_e, vl_e, vr_e, dpL_u, dpL_i, dpL_r, dpL_l, stS_0, stS_1, stS_s, stL_0, stL_1, stL_s, bin_0, bin_1, bin_2, bin_3, bin_4, bin_5, bdv_0, bdv_1, lbin_0, lbin_1, lbin_2, cnd_0, cnd_1, cnd_2, cnd_3, cnd_4, cnd_5, aty_0, aty_1, aty_2, aty_3, aty_4, aty_5, c8_u, cn_0, cn_i, cn_r, cn_l, Nat.reduceAdd, Nat.reduceLeDiff, Nat.le_refl, adz, hnd_0, rcv_0, rcv_1, kLen_a, kLen_r, inB_e, inR_e, cpOK_e, swt_n, swt_c, List.take_succ_cons, List.take_zero, List.drop_succ_cons, List.drop_zero, List.reverse_cons, List.reverse_nil, List.nil_append, List.cons_append, List.length_cons, List.length_nil, Option.toList_some, Option.toList_none, det_e, det_x, tr_imp, fa_imp, implies_true, not_true, not_false_eq_true, and_true, true_and, nar_i, upd_s, st1_0, st1_1, st1_2, st1_3, st1_4, st1_5, st1_6, st1_7, st1_8, st1_9, st1_10, st1_11, st1_12, st1_13, st1_14, st1_15, st1_16, st1_17, st1_18, st1_19, st1_20, st1_21, st1_22, st1_23, st1_24, st1_25, st1_26, st1_27, st1_28, st1_29, st1_30, st1_31, st1_32, st1_33, st1_34, st1_35, st1_36, st1_37, st1_42, st1_43, st1_44, st1_46, st1_47, st1_48, st1_49, st1_50, st1_51, st1_52, st1_53, st1_54, st1_55, st1_56, st1_57, st1_58, st1_59, st1_60, S86, sHp, hp, ho, kx, v01, t00, m1, m2, hnd, hxF, ctx, gK_sI, orE_n, orE_s, h1, Nat.zero_le, Nat.reduceLT, Nat.reduceEqDiff, reduceIte, reduceCtorEq, and_self, and_true, true_and, and_false, false_and, or_false, false_or, true_or, Option.some.injEq, implies_true, Nat.le_refl]
    rintro _ _ ⟨rfl, z, hz, rfl⟩
    simp only [rL_fines_0, kL_fines_0, rL_fines_12, kL_fines_12, rL_fines_15, kL_fines_15, bk_c, if_true, if_false, wi_e, wl_e, wr_e, w1_i, w1_r, ldS_0, ldS_s, vi_e, vl_e, vr_e, dpL_u, dpL_i, dpL_r, dpL_l, stS_0, stS_1, stS_s, stL_0, stL_1, stL_s, bin_0, bin_1, bin_2, bin_3, bin_4, bin_5, bdv_0, bdv_1, lbin_0, lbin_1, lbin_2, cnd_0, cnd_1, cnd_2, cnd_3, cnd_4, cnd_5, aty_0, aty_1, aty_2, aty_3, aty_4, aty_5, c8_u, cn_0, cn_i, cn_r, cn_l, Nat.reduceAdd, Nat.reduceLeDiff, Nat.le_refl, adz, hnd_0, rcv_0, rcv_1, kLen_a, kLen_r, inB_e, inR_e, cpOK_e, swt_n, swt_c, List.take_succ_cons, List.take_zero, List.drop_succ_cons, List.drop_zero, List.reverse_cons, List.reverse_nil, List.nil_append, List.cons_append, List.length_cons, List.length_nil, Option.toList_some, Option.toList_none, det_e, det_x, tr_imp, fa_imp, implies_true, not_true, not_false_eq_true, and_true, true_and, nar_i, upd_s, st1_0, st1_1, st1_2, st1_3, st1_4, st1_5, st1_6, st1_7, st1_8, st1_9, st1_10, st1_11, st1_12, st1_13, st1_14, st1_15, st1_16, st1_17, st1_18, st1_19, st1_20, st1_21, st1_22, st1_23, st1_24, st1_25, st1_26, st1_27, st1_28, st1_29, st1_30, st1_31, st1_32, st1_33, st1_34, st1_35, st1_36, st1_37, st1_42, st1_43, st1_44, st1_46, st1_47, st1_48, st1_49, st1_50, st1_51, st1_52, st1_53, st1_54, st1_55, st1_56, st1_57, st1_58, st1_59, st1_60, Nat.reduceEqDiff, reduceIte]
    first
      | exact fun q => ⟨_, z, rfl, rfl, hz, rfl⟩
      | exact fun q => ⟨_, z, rfl, hz, rfl⟩
def S189 : Sem := fun as M => match as with
  | [.ref x, .int f, .ref o] => sHp (((XP M x)) ∧ gK ((fcM M x f)) o = kA .long 1) (orE (bI f (gI M (x + 46) 11)) (fcB M x f)) (fun e => if e = 1 then 1 else 2) (sJ ((fcM M x f)) o (vp_updL (gJ ((fcM M x f)) o) 0 (Int32.toInt64 (itr (cfA (fcM M x f) (x + 46)) (gI (fcM M x f) (x + 46) 11).toNatClampNeg 0 0)))) M
  | _ => sF
set_option maxRecDepth 100000 in
set_option maxHeartbeats 4000000 in
theorem oL_force : okC 12 (cL9 189) (cF 189) (cO 189) (cR 189) (cC 189) (decide ((cY 189).name = "<init>")) false [87] kL_force = true := by decide +kernel
set_option maxRecDepth 100000 in
set_option maxHeartbeats 4000000 in
theorem s_L_force {l : Launch} {G : Gt} (hfl : l.stackTraces = false) : SatM l G 189 S189 := by
  refine sat_ofH (E := fun _ => S87) (K := kL_force) (ids := [87]) (hh := [(0, 9, 12, 24), (0, 9, 15, 72)]) hfl ok_189 rfl rfl (by decide) rfl oL_force (fun id hid => ?_) (fun as M ex N => ?_) fun as M hp => ?_
  · cases List.mem_singleton.mp hid
    exact ⟨s_X10_force hfl, ok_87⟩
  · unfold S189
    split
    · exact fun h => h
    · exact sF_X ex N
  unfold S189 at hp ⊢
  split at hp
  case h_2 => exact hp.elim
  rename_i x f o
  obtain ⟨hp, ho⟩ := hp
  refine ⟨Nat.le_of_ble_eq_true rfl, ?_⟩
  show Run (gT G) _ _ _ _ _ _ _ 0 [.val (.ref x), .val (.int f), .val (.ref o), .unset] [] M 0 0
  have kx : gK M x = kO 10 := hp.f.1.1
  have v01 : vp_in 0 1 = True := eq_true (vp_in_nI (n := 0) (N := 1) (by decide) (by decide))
  have t00 : (0 : Int32).toNatClampNeg = 0 := rfl
  have m1 : cM 189 = 2 := rfl
  have m2 : cS 189 = 12 := rfl
  rcases bI_or f (gI M (x + 46) 11) with h1 | h1
  · rcases fcB_or M x f with h2 | h2
    · simp only [rL_force_0, kL_force_0, rL_force_12, kL_force_12, rL_force_15, kL_force_15, rL_force_18, kL_force_18, bk_c, if_true, if_false, wi_e, wl_e, wr_e, w1_i, w1_r, ldS_0, ldS_s, vi_e, vl_e, vr_e, dpL_u, dpL_i, dpL_r, dpL_l, stS_0, stS_1, stS_s, stL_0, stL_1, stL_s, bin_0, bin_1, bin_2, bin_3, bin_4, bin_5, bdv_0, bdv_1, lbin_0, lbin_1, lbin_2, cnd_0, cnd_1, cnd_2, cnd_3, cnd_4, cnd_5, aty_0, aty_1, aty_2, aty_3, aty_4, aty_5, c8_u, cn_0, cn_i, cn_r, cn_l, Nat.reduceAdd, Nat.reduceLeDiff, Nat.le_refl, adz, hnd_0, rcv_0, rcv_1, kLen_a, kLen_r, inB_e, inR_e, cpOK_e, swt_n, swt_c, List.take_succ_cons, List.take_zero, List.drop_succ_cons, List.drop_zero, List.reverse_cons, List.reverse_nil, List.nil_append, List.cons_append, List.length_cons, List.length_nil, Option.toList_some, Option.toList_none, det_e, det_x, tr_imp, fa_imp, implies_true, not_true, not_false_eq_true, and_true, true_and, nar_i, upd_s, st1_0, st1_1, st1_2, st1_3, st1_4, st1_5, st1_6, st1_7, st1_8, st1_9, st1_10, st1_11, st1_12, st1_13, st1_14, st1_15, st1_16, st1_17, st1_18, st1_19, st1_20, st1_21, st1_22, st1_23, st1_24, st1_25, st1_26, st1_27, st1_28, st1_29, st1_30, st1_31, st1_32, st1_33, st1_34, st1_35, st1_36, st1_37, st1_42, st1_43, st1_44, st1_46, st1_47, st1_48, st1_49, st1_50, st1_51, st1_52, st1_53, st1_54, st1_55, st1_56, st1_57, st1_58, st1_59, st1_60, S87, sHp, hp, ho, kx, v01, t00, m1, m2, hnd, hxF, ctx, gK_sI, orE_n, orE_s, h1, h2, Nat.zero_le, Nat.reduceLT, Nat.reduceEqDiff, reduceIte, reduceCtorEq, and_self, and_true, true_and, and_false, false_and, or_false, false_or, true_or, Option.some.injEq, implies_true, Nat.le_refl]
    · simp only [rL_force_0, kL_force_0, rL_force_12, kL_force_12, rL_force_15, kL_force_15, rL_force_18, kL_force_18, bk_c, if_true, if_false, wi_e, wl_e, wr_e, w1_i, w1_r, ldS_0, ldS_s, vi_e, vl_e, vr_e, dpL_u, dpL_i, dpL_r, dpL_l, stS_0, stS_1, stS_s, stL_0, stL_1, stL_s, bin_0, bin_1, bin_2, bin_3, bin_4, bin_5, bdv_0, bdv_1, lbin_0, lbin_1, lbin_2, cnd_0, cnd_1, cnd_2, cnd_3, cnd_4, cnd_5, aty_0, aty_1, aty_2, aty_3, aty_4, aty_5, c8_u, cn_0, cn_i, cn_r, cn_l, Nat.reduceAdd, Nat.reduceLeDiff, Nat.le_refl, adz, hnd_0, rcv_0, rcv_1, kLen_a, kLen_r, inB_e, inR_e, cpOK_e, swt_n, swt_c, List.take_succ_cons, List.take_zero, List.drop_succ_cons, List.drop_zero, List.reverse_cons, List.reverse_nil, List.nil_append, List.cons_append, List.length_cons, List.length_nil, Option.toList_some, Option.toList_none, det_e, det_x, tr_imp, fa_imp, implies_true, not_true, not_false_eq_true, and_true, true_and, nar_i, upd_s, st1_0, st1_1, st1_2, st1_3, st1_4, st1_5, st1_6, st1_7, st1_8, st1_9, st1_10, st1_11, st1_12, st1_13, st1_14, st1_15, st1_16, st1_17, st1_18, st1_19, st1_20, st1_21, st1_22, st1_23, st1_24, st1_25, st1_26, st1_27, st1_28, st1_29, st1_30, st1_31, st1_32, st1_33, st1_34, st1_35, st1_36, st1_37, st1_42, st1_43, st1_44, st1_46, st1_47, st1_48, st1_49, st1_50, st1_51, st1_52, st1_53, st1_54, st1_55, st1_56, st1_57, st1_58, st1_59, st1_60, S87, sHp, hp, ho, kx, v01, t00, m1, m2, hnd, hxF, ctx, gK_sI, orE_n, orE_s, h1, h2, Nat.zero_le, Nat.reduceLT, Nat.reduceEqDiff, reduceIte, reduceCtorEq, and_self, and_true, true_and, and_false, false_and, or_false, false_or, true_or, Option.some.injEq, implies_true, Nat.le_refl]
      rintro _ _ ⟨rfl, z, hz, rfl⟩
      simp only [rL_force_0, kL_force_0, rL_force_12, kL_force_12, rL_force_15, kL_force_15, rL_force_18, kL_force_18, bk_c, if_true, if_false, wi_e, wl_e, wr_e, w1_i, w1_r, ldS_0, ldS_s, vi_e, vl_e, vr_e, dpL_u, dpL_i, dpL_r, dpL_l, stS_0, stS_1, stS_s, stL_0, stL_1, stL_s, bin_0, bin_1, bin_2, bin_3, bin_4, bin_5, bdv_0, bdv_1, lbin_0, lbin_1, lbin_2, cnd_0, cnd_1, cnd_2, cnd_3, cnd_4, cnd_5, aty_0, aty_1, aty_2, aty_3, aty_4, aty_5, c8_u, cn_0, cn_i, cn_r, cn_l, Nat.reduceAdd, Nat.reduceLeDiff, Nat.le_refl, adz, hnd_0, rcv_0, rcv_1, kLen_a, kLen_r, inB_e, inR_e, cpOK_e, swt_n, swt_c, List.take_succ_cons, List.take_zero, List.drop_succ_cons, List.drop_zero, List.reverse_cons, List.reverse_nil, List.nil_append, List.cons_append, List.length_cons, List.length_nil, Option.toList_some, Option.toList_none, det_e, det_x, tr_imp, fa_imp, implies_true, not_true, not_false_eq_true, and_true, true_and, nar_i, upd_s, st1_0, st1_1, st1_2, st1_3, st1_4, st1_5, st1_6, st1_7, st1_8, st1_9, st1_10, st1_11, st1_12, st1_13, st1_14, st1_15, st1_16, st1_17, st1_18, st1_19, st1_20, st1_21, st1_22, st1_23, st1_24, st1_25, st1_26, st1_27, st1_28, st1_29, st1_30, st1_31, st1_32, st1_33, st1_34, st1_35, st1_36, st1_37, st1_42, st1_43, st1_44, st1_46, st1_47, st1_48, st1_49, st1_50, st1_51, st1_52, st1_53, st1_54, st1_55, st1_56, st1_57, st1_58, st1_59, st1_60, Nat.reduceEqDiff, reduceIte]
      first
        | exact fun q => ⟨_, z, rfl, rfl, hz, rfl⟩
        | exact fun q => ⟨_, z, rfl, hz, rfl⟩
  · simp only [rL_force_0, kL_force_0, rL_force_12, kL_force_12, rL_force_15, kL_force_15, rL_force_18, kL_force_18, bk_c, if_true, if_false, wi_e, wl_e, wr_e, w1_i, w1_r, ldS_0, ldS_s, vi_e, vl_e, vr_e, dpL_u, dpL_i, dpL_r, dpL_l, stS_0, stS_1, stS_s, stL_0, stL_1, stL_s, bin_0, bin_1, bin_2, bin_3, bin_4, bin_5, bdv_0, bdv_1, lbin_0, lbin_1, lbin_2, cnd_0, cnd_1, cnd_2, cnd_3, cnd_4, cnd_5, aty_0, aty_1, aty_2, aty_3, aty_4, aty_5, c8_u, cn_0, cn_i, cn_r, cn_l, Nat.reduceAdd, Nat.reduceLeDiff, Nat.le_refl, adz, hnd_0, rcv_0, rcv_1, kLen_a, kLen_r, inB_e, inR_e, cpOK_e, swt_n, swt_c, List.take_succ_cons, List.take_zero, List.drop_succ_cons, List.drop_zero, List.reverse_cons, List.reverse_nil, List.nil_append, List.cons_append, List.length_cons, List.length_nil, Option.toList_some, Option.toList_none, det_e, det_x, tr_imp, fa_imp, implies_true, not_true, not_false_eq_true, and_true, true_and, nar_i, upd_s, st1_0, st1_1, st1_2, st1_3, st1_4, st1_5, st1_6, st1_7, st1_8, st1_9, st1_10, st1_11, st1_12, st1_13, st1_14, st1_15, st1_16, st1_17, st1_18, st1_19, st1_20, st1_21, st1_22, st1_23, st1_24, st1_25, st1_26, st1_27, st1_28, st1_29, st1_30, st1_31, st1_32, st1_33, st1_34, st1_35, st1_36, st1_37, st1_42, st1_43, st1_44, st1_46, st1_47, st1_48, st1_49, st1_50, st1_51, st1_52, st1_53, st1_54, st1_55, st1_56, st1_57, st1_58, st1_59, st1_60, S87, sHp, hp, ho, kx, v01, t00, m1, m2, hnd, hxF, ctx, gK_sI, orE_n, orE_s, h1, Nat.zero_le, Nat.reduceLT, Nat.reduceEqDiff, reduceIte, reduceCtorEq, and_self, and_true, true_and, and_false, false_and, or_false, false_or, true_or, Option.some.injEq, implies_true, Nat.le_refl]
    rintro _ _ ⟨rfl, z, hz, rfl⟩
    simp only [rL_force_0, kL_force_0, rL_force_12, kL_force_12, rL_force_15, kL_force_15, rL_force_18, kL_force_18, bk_c, if_true, if_false, wi_e, wl_e, wr_e, w1_i, w1_r, ldS_0, ldS_s, vi_e, vl_e, vr_e, dpL_u, dpL_i, dpL_r, dpL_l, stS_0, stS_1, stS_s, stL_0, stL_1, stL_s, bin_0, bin_1, bin_2, bin_3, bin_4, bin_5, bdv_0, bdv_1, lbin_0, lbin_1, lbin_2, cnd_0, cnd_1, cnd_2, cnd_3, cnd_4, cnd_5, aty_0, aty_1, aty_2, aty_3, aty_4, aty_5, c8_u, cn_0, cn_i, cn_r, cn_l, Nat.reduceAdd, Nat.reduceLeDiff, Nat.le_refl, adz, hnd_0, rcv_0, rcv_1, kLen_a, kLen_r, inB_e, inR_e, cpOK_e, swt_n, swt_c, List.take_succ_cons, List.take_zero, List.drop_succ_cons, List.drop_zero, List.reverse_cons, List.reverse_nil, List.nil_append, List.cons_append, List.length_cons, List.length_nil, Option.toList_some, Option.toList_none, det_e, det_x, tr_imp, fa_imp, implies_true, not_true, not_false_eq_true, and_true, true_and, nar_i, upd_s, st1_0, st1_1, st1_2, st1_3, st1_4, st1_5, st1_6, st1_7, st1_8, st1_9, st1_10, st1_11, st1_12, st1_13, st1_14, st1_15, st1_16, st1_17, st1_18, st1_19, st1_20, st1_21, st1_22, st1_23, st1_24, st1_25, st1_26, st1_27, st1_28, st1_29, st1_30, st1_31, st1_32, st1_33, st1_34, st1_35, st1_36, st1_37, st1_42, st1_43, st1_44, st1_46, st1_47, st1_48, st1_49, st1_50, st1_51, st1_52, st1_53, st1_54, st1_55, st1_56, st1_57, st1_58, st1_59, st1_60, Nat.reduceEqDiff, reduceIte]
    first
      | exact fun q => ⟨_, z, rfl, rfl, hz, rfl⟩
      | exact fun q => ⟨_, z, rfl, hz, rfl⟩
def S190 : Sem := fun as M => match as with
  | [.ref x, .int f, .int h, .ref o] => sHp (((XH M x)) ∧ gK ((huR M x f h).2) o = kA .long 1) (orE (bI f (gI M (x + 46) 11)) (bR h 0 100)) (fun e => if e = 1 then 1 else 2) (sJ ((huR M x f h).2) o (vp_updL (gJ ((huR M x f h).2) o) 0 (Int32.toInt64 (huR M x f h).1))) M
  | _ => sF
set_option maxRecDepth 100000 in
set_option maxHeartbeats 4000000 in
theorem oL_hoursUntil : okC 12 (cL9 190) (cF 190) (cO 190) (cR 190) (cC 190) (decide ((cY 190).name = "<init>")) false [90] kL_hoursUntil = true := by decide +kernel
set_option maxRecDepth 100000 in
set_option maxHeartbeats 4000000 in
theorem s_L_hoursUntil {l : Launch} {G : Gt} (hfl : l.stackTraces = false) : SatM l G 190 S190 := by
  refine sat_ofH (E := fun _ => S90) (K := kL_hoursUntil) (ids := [90]) (hh := [(0, 10, 13, 24), (0, 10, 17, 13)]) hfl ok_190 rfl rfl (by decide) rfl oL_hoursUntil (fun id hid => ?_) (fun as M ex N => ?_) fun as M hp => ?_
  · cases List.mem_singleton.mp hid
    exact ⟨s_X10_hoursUntil hfl, ok_90⟩
  · unfold S190
    split
    · exact fun h => h
    · exact sF_X ex N
  unfold S190 at hp ⊢
  split at hp
  case h_2 => exact hp.elim
  rename_i x f h o
  obtain ⟨hp, ho⟩ := hp
  refine ⟨Nat.le_of_ble_eq_true rfl, ?_⟩
  show Run (gT G) _ _ _ _ _ _ _ 0 [.val (.ref x), .val (.int f), .val (.int h), .val (.ref o), .unset] [] M 0 0
  have kx : gK M x = kO 10 := hp.1.f.1.1
  have v01 : vp_in 0 1 = True := eq_true (vp_in_nI (n := 0) (N := 1) (by decide) (by decide))
  have t00 : (0 : Int32).toNatClampNeg = 0 := rfl
  have m1 : cM 190 = 2 := rfl
  have m2 : cS 190 = 12 := rfl
  rcases bI_or f (gI M (x + 46) 11) with h1 | h1
  · rcases bR_or h 0 100 with h2 | h2
    · simp only [rL_hoursUntil_0, kL_hoursUntil_0, rL_hoursUntil_13, kL_hoursUntil_13, rL_hoursUntil_17, kL_hoursUntil_17, rL_hoursUntil_21, kL_hoursUntil_21, bk_c, if_true, if_false, wi_e, wl_e, wr_e, w1_i, w1_r, ldS_0, ldS_s, vi_e, vl_e, vr_e, dpL_u, dpL_i, dpL_r, dpL_l, stS_0, stS_1, stS_s, stL_0, stL_1, stL_s, bin_0, bin_1, bin_2, bin_3, bin_4, bin_5, bdv_0, bdv_1, lbin_0, lbin_1, lbin_2, cnd_0, cnd_1, cnd_2, cnd_3, cnd_4, cnd_5, aty_0, aty_1, aty_2, aty_3, aty_4, aty_5, c8_u, cn_0, cn_i, cn_r, cn_l, Nat.reduceAdd, Nat.reduceLeDiff, Nat.le_refl, adz, hnd_0, rcv_0, rcv_1, kLen_a, kLen_r, inB_e, inR_e, cpOK_e, swt_n, swt_c, List.take_succ_cons, List.take_zero, List.drop_succ_cons, List.drop_zero, List.reverse_cons, List.reverse_nil, List.nil_append, List.cons_append, List.length_cons, List.length_nil, Option.toList_some, Option.toList_none, det_e, det_x, tr_imp, fa_imp, implies_true, not_true, not_false_eq_true, and_true, true_and, nar_i, upd_s, st1_0, st1_1, st1_2, st1_3, st1_4, st1_5, st1_6, st1_7, st1_8, st1_9, st1_10, st1_11, st1_12, st1_13, st1_14, st1_15, st1_16, st1_17, st1_18, st1_19, st1_20, st1_21, st1_22, st1_23, st1_24, st1_25, st1_26, st1_27, st1_28, st1_29, st1_30, st1_31, st1_32, st1_33, st1_34, st1_35, st1_36, st1_37, st1_42, st1_43, st1_44, st1_46, st1_47, st1_48, st1_49, st1_50, st1_51, st1_52, st1_53, st1_54, st1_55, st1_56, st1_57, st1_58, st1_59, st1_60, S90, sHp, hp, ho, kx, v01, t00, m1, m2, hnd, hxF, ctx, gK_sI, orE_n, orE_s, h1, h2, Nat.zero_le, Nat.reduceLT, Nat.reduceEqDiff, reduceIte, reduceCtorEq, and_self, and_true, true_and, and_false, false_and, or_false, false_or, true_or, Option.some.injEq, implies_true, Nat.le_refl]
    · simp only [rL_hoursUntil_0, kL_hoursUntil_0, rL_hoursUntil_13, kL_hoursUntil_13, rL_hoursUntil_17, kL_hoursUntil_17, rL_hoursUntil_21, kL_hoursUntil_21, bk_c, if_true, if_false, wi_e, wl_e, wr_e, w1_i, w1_r, ldS_0, ldS_s, vi_e, vl_e, vr_e, dpL_u, dpL_i, dpL_r, dpL_l, stS_0, stS_1, stS_s, stL_0, stL_1, stL_s, bin_0, bin_1, bin_2, bin_3, bin_4, bin_5, bdv_0, bdv_1, lbin_0, lbin_1, lbin_2, cnd_0, cnd_1, cnd_2, cnd_3, cnd_4, cnd_5, aty_0, aty_1, aty_2, aty_3, aty_4, aty_5, c8_u, cn_0, cn_i, cn_r, cn_l, Nat.reduceAdd, Nat.reduceLeDiff, Nat.le_refl, adz, hnd_0, rcv_0, rcv_1, kLen_a, kLen_r, inB_e, inR_e, cpOK_e, swt_n, swt_c, List.take_succ_cons, List.take_zero, List.drop_succ_cons, List.drop_zero, List.reverse_cons, List.reverse_nil, List.nil_append, List.cons_append, List.length_cons, List.length_nil, Option.toList_some, Option.toList_none, det_e, det_x, tr_imp, fa_imp, implies_true, not_true, not_false_eq_true, and_true, true_and, nar_i, upd_s, st1_0, st1_1, st1_2, st1_3, st1_4, st1_5, st1_6, st1_7, st1_8, st1_9, st1_10, st1_11, st1_12, st1_13, st1_14, st1_15, st1_16, st1_17, st1_18, st1_19, st1_20, st1_21, st1_22, st1_23, st1_24, st1_25, st1_26, st1_27, st1_28, st1_29, st1_30, st1_31, st1_32, st1_33, st1_34, st1_35, st1_36, st1_37, st1_42, st1_43, st1_44, st1_46, st1_47, st1_48, st1_49, st1_50, st1_51, st1_52, st1_53, st1_54, st1_55, st1_56, st1_57, st1_58, st1_59, st1_60, S90, sHp, hp, ho, kx, v01, t00, m1, m2, hnd, hxF, ctx, gK_sI, orE_n, orE_s, h1, h2, Nat.zero_le, Nat.reduceLT, Nat.reduceEqDiff, reduceIte, reduceCtorEq, and_self, and_true, true_and, and_false, false_and, or_false, false_or, true_or, Option.some.injEq, implies_true, Nat.le_refl]
      rintro _ _ ⟨rfl, z, hz, rfl⟩
      simp only [rL_hoursUntil_0, kL_hoursUntil_0, rL_hoursUntil_13, kL_hoursUntil_13, rL_hoursUntil_17, kL_hoursUntil_17, rL_hoursUntil_21, kL_hoursUntil_21, bk_c, if_true, if_false, wi_e, wl_e, wr_e, w1_i, w1_r, ldS_0, ldS_s, vi_e, vl_e, vr_e, dpL_u, dpL_i, dpL_r, dpL_l, stS_0, stS_1, stS_s, stL_0, stL_1, stL_s, bin_0, bin_1, bin_2, bin_3, bin_4, bin_5, bdv_0, bdv_1, lbin_0, lbin_1, lbin_2, cnd_0, cnd_1, cnd_2, cnd_3, cnd_4, cnd_5, aty_0, aty_1, aty_2, aty_3, aty_4, aty_5, c8_u, cn_0, cn_i, cn_r, cn_l, Nat.reduceAdd, Nat.reduceLeDiff, Nat.le_refl, adz, hnd_0, rcv_0, rcv_1, kLen_a, kLen_r, inB_e, inR_e, cpOK_e, swt_n, swt_c, List.take_succ_cons, List.take_zero, List.drop_succ_cons, List.drop_zero, List.reverse_cons, List.reverse_nil, List.nil_append, List.cons_append, List.length_cons, List.length_nil, Option.toList_some, Option.toList_none, det_e, det_x, tr_imp, fa_imp, implies_true, not_true, not_false_eq_true, and_true, true_and, nar_i, upd_s, st1_0, st1_1, st1_2, st1_3, st1_4, st1_5, st1_6, st1_7, st1_8, st1_9, st1_10, st1_11, st1_12, st1_13, st1_14, st1_15, st1_16, st1_17, st1_18, st1_19, st1_20, st1_21, st1_22, st1_23, st1_24, st1_25, st1_26, st1_27, st1_28, st1_29, st1_30, st1_31, st1_32, st1_33, st1_34, st1_35, st1_36, st1_37, st1_42, st1_43, st1_44, st1_46, st1_47, st1_48, st1_49, st1_50, st1_51, st1_52, st1_53, st1_54, st1_55, st1_56, st1_57, st1_58, st1_59, st1_60, Nat.reduceEqDiff, reduceIte]
      first
        | exact fun q => ⟨_, z, rfl, rfl, hz, rfl⟩
        | exact fun q => ⟨_, z, rfl, hz, rfl⟩
  · simp only [rL_hoursUntil_0, kL_hoursUntil_0, rL_hoursUntil_13, kL_hoursUntil_13, rL_hoursUntil_17, kL_hoursUntil_17, rL_hoursUntil_21, kL_hoursUntil_21, bk_c, if_true, if_false, wi_e, wl_e, wr_e, w1_i, w1_r, ldS_0, ldS_s, vi_e, vl_e, vr_e, dpL_u, dpL_i, dpL_r, dpL_l, stS_0, stS_1, stS_s, stL_0, stL_1, stL_s, bin_0, bin_1, bin_2, bin_3, bin_4, bin_5, bdv_0, bdv_1, lbin_0, lbin_1, lbin_2, cnd_0, cnd_1, cnd_2, cnd_3, cnd_4, cnd_5, aty_0, aty_1, aty_2, aty_3, aty_4, aty_5, c8_u, cn_0, cn_i, cn_r, cn_l, Nat.reduceAdd, Nat.reduceLeDiff, Nat.le_refl, adz, hnd_0, rcv_0, rcv_1, kLen_a, kLen_r, inB_e, inR_e, cpOK_e, swt_n, swt_c, List.take_succ_cons, List.take_zero, List.drop_succ_cons, List.drop_zero, List.reverse_cons, List.reverse_nil, List.nil_append, List.cons_append, List.length_cons, List.length_nil, Option.toList_some, Option.toList_none, det_e, det_x, tr_imp, fa_imp, implies_true, not_true, not_false_eq_true, and_true, true_and, nar_i, upd_s, st1_0, st1_1, st1_2, st1_3, st1_4, st1_5, st1_6, st1_7, st1_8, st1_9, st1_10, st1_11, st1_12, st1_13, st1_14, st1_15, st1_16, st1_17, st1_18, st1_19, st1_20, st1_21, st1_22, st1_23, st1_24, st1_25, st1_26, st1_27, st1_28, st1_29, st1_30, st1_31, st1_32, st1_33, st1_34, st1_35, st1_36, st1_37, st1_42, st1_43, st1_44, st1_46, st1_47, st1_48, st1_49, st1_50, st1_51, st1_52, st1_53, st1_54, st1_55, st1_56, st1_57, st1_58, st1_59, st1_60, S90, sHp, hp, ho, kx, v01, t00, m1, m2, hnd, hxF, ctx, gK_sI, orE_n, orE_s, h1, Nat.zero_le, Nat.reduceLT, Nat.reduceEqDiff, reduceIte, reduceCtorEq, and_self, and_true, true_and, and_false, false_and, or_false, false_or, true_or, Option.some.injEq, implies_true, Nat.le_refl]
    rintro _ _ ⟨rfl, z, hz, rfl⟩
    simp only [rL_hoursUntil_0, kL_hoursUntil_0, rL_hoursUntil_13, kL_hoursUntil_13, rL_hoursUntil_17, kL_hoursUntil_17, rL_hoursUntil_21, kL_hoursUntil_21, bk_c, if_true, if_false, wi_e, wl_e, wr_e, w1_i, w1_r, ldS_0, ldS_s, vi_e, vl_e, vr_e, dpL_u, dpL_i, dpL_r, dpL_l, stS_0, stS_1, stS_s, stL_0, stL_1, stL_s, bin_0, bin_1, bin_2, bin_3, bin_4, bin_5, bdv_0, bdv_1, lbin_0, lbin_1, lbin_2, cnd_0, cnd_1, cnd_2, cnd_3, cnd_4, cnd_5, aty_0, aty_1, aty_2, aty_3, aty_4, aty_5, c8_u, cn_0, cn_i, cn_r, cn_l, Nat.reduceAdd, Nat.reduceLeDiff, Nat.le_refl, adz, hnd_0, rcv_0, rcv_1, kLen_a, kLen_r, inB_e, inR_e, cpOK_e, swt_n, swt_c, List.take_succ_cons, List.take_zero, List.drop_succ_cons, List.drop_zero, List.reverse_cons, List.reverse_nil, List.nil_append, List.cons_append, List.length_cons, List.length_nil, Option.toList_some, Option.toList_none, det_e, det_x, tr_imp, fa_imp, implies_true, not_true, not_false_eq_true, and_true, true_and, nar_i, upd_s, st1_0, st1_1, st1_2, st1_3, st1_4, st1_5, st1_6, st1_7, st1_8, st1_9, st1_10, st1_11, st1_12, st1_13, st1_14, st1_15, st1_16, st1_17, st1_18, st1_19, st1_20, st1_21, st1_22, st1_23, st1_24, st1_25, st1_26, st1_27, st1_28, st1_29, st1_30, st1_31, st1_32, st1_33, st1_34, st1_35, st1_36, st1_37, st1_42, st1_43, st1_44, st1_46, st1_47, st1_48, st1_49, st1_50, st1_51, st1_52, st1_53, st1_54, st1_55, st1_56, st1_57, st1_58, st1_59, st1_60, Nat.reduceEqDiff, reduceIte]
    first
      | exact fun q => ⟨_, z, rfl, rfl, hz, rfl⟩
      | exact fun q => ⟨_, z, rfl, hz, rfl⟩
def S191 : Sem := fun as M => match as with
  | [.ref x, .int t, .ref o] => sHp (((XP M x)) ∧ gK ((sJ M (x + 65) (fmR M (x + 63) t (villV M (x + 58) t)).2)) o = kA .long 1) (bR t 0 100000) (fun _ => 1) (sJ ((sJ M (x + 65) (fmR M (x + 63) t (villV M (x + 58) t)).2)) o (vp_updL (gJ ((sJ M (x + 65) (fmR M (x + 63) t (villV M (x + 58) t)).2)) o) 0 (Int32.toInt64 (fmV ((fmR M (x + 63) t (villV M (x + 58) t)).2 0))))) M
  | _ => sF
set_option maxRecDepth 100000 in
set_option maxHeartbeats 4000000 in
theorem oL_inflow : okC 12 (cL9 191) (cF 191) (cO 191) (cR 191) (cC 191) (decide ((cY 191).name = "<init>")) false [91] kL_inflow = true := by decide +kernel
set_option maxRecDepth 100000 in
set_option maxHeartbeats 4000000 in
theorem s_L_inflow {l : Launch} {G : Gt} (hfl : l.stackTraces = false) : SatM l G 191 S191 := by
  refine sat_ofH (E := fun _ => S91) (K := kL_inflow) (ids := [91]) (hh := [(0, 9, 12, 13)]) hfl ok_191 rfl rfl (by decide) rfl oL_inflow (fun id hid => ?_) (fun as M ex N => ?_) fun as M hp => ?_
  · cases List.mem_singleton.mp hid
    exact ⟨s_X10_inflow hfl, ok_91⟩
  · unfold S191
    split
    · exact fun h => h
    · exact sF_X ex N
  unfold S191 at hp ⊢
  split at hp
  case h_2 => exact hp.elim
  rename_i x t o
  obtain ⟨hp, ho⟩ := hp
  refine ⟨Nat.le_of_ble_eq_true rfl, ?_⟩
  show Run (gT G) _ _ _ _ _ _ _ 0 [.val (.ref x), .val (.int t), .val (.ref o), .unset] [] M 0 0
  have kx : gK M x = kO 10 := hp.f.1.1
  have v01 : vp_in 0 1 = True := eq_true (vp_in_nI (n := 0) (N := 1) (by decide) (by decide))
  have t00 : (0 : Int32).toNatClampNeg = 0 := rfl
  have m1 : cM 191 = 1 := rfl
  have m2 : cS 191 = 6 := rfl
  rcases bR_or t 0 100000 with h1 | h1
  · simp only [rL_inflow_0, kL_inflow_0, rL_inflow_12, kL_inflow_12, rL_inflow_15, kL_inflow_15, bk_c, if_true, if_false, wi_e, wl_e, wr_e, w1_i, w1_r, ldS_0, ldS_s, vi_e, vl_e, vr_e, dpL_u, dpL_i, dpL_r, dpL_l, stS_0, stS_1, stS_s, stL_0, stL_1, stL_s, bin_0, bin_1, bin_2, bin_3, bin_4, bin_5, bdv_0, bdv_1, lbin_0, lbin_1, lbin_2, cnd_0, cnd_1, cnd_2, cnd_3, cnd_4, cnd_5, aty_0, aty_1, aty_2, aty_3, aty_4, aty_5, c8_u, cn_0, cn_i, cn_r, cn_l, Nat.reduceAdd, Nat.reduceLeDiff, Nat.le_refl, adz, hnd_0, rcv_0, rcv_1, kLen_a, kLen_r, inB_e, inR_e, cpOK_e, swt_n, swt_c, List.take_succ_cons, List.take_zero, List.drop_succ_cons, List.drop_zero, List.reverse_cons, List.reverse_nil, List.nil_append, List.cons_append, List.length_cons, List.length_nil, Option.toList_some, Option.toList_none, det_e, det_x, tr_imp, fa_imp, implies_true, not_true, not_false_eq_true, and_true, true_and, nar_i, upd_s, st1_0, st1_1, st1_2, st1_3, st1_4, st1_5, st1_6, st1_7, st1_8, st1_9, st1_10, st1_11, st1_12, st1_13, st1_14, st1_15, st1_16, st1_17, st1_18, st1_19, st1_20, st1_21, st1_22, st1_23, st1_24, st1_25, st1_26, st1_27, st1_28, st1_29, st1_30, st1_31, st1_32, st1_33, st1_34, st1_35, st1_36, st1_37, st1_42, st1_43, st1_44, st1_46, st1_47, st1_48, st1_49, st1_50, st1_51, st1_52, st1_53, st1_54, st1_55, st1_56, st1_57, st1_58, st1_59, st1_60, S91, sHp, hp, ho, kx, v01, t00, m1, m2, hnd, hxF, ctx, gK_sI, orE_n, orE_s, h1, Nat.zero_le, Nat.reduceLT, Nat.reduceEqDiff, reduceIte, reduceCtorEq, and_self, and_true, true_and, and_false, false_and, or_false, false_or, true_or, Option.some.injEq, implies_true, Nat.le_refl]
  · simp only [rL_inflow_0, kL_inflow_0, rL_inflow_12, kL_inflow_12, rL_inflow_15, kL_inflow_15, bk_c, if_true, if_false, wi_e, wl_e, wr_e, w1_i, w1_r, ldS_0, ldS_s, vi_e, vl_e, vr_e, dpL_u, dpL_i, dpL_r, dpL_l, stS_0, stS_1, stS_s, stL_0, stL_1, stL_s, bin_0, bin_1, bin_2, bin_3, bin_4, bin_5, bdv_0, bdv_1, lbin_0, lbin_1, lbin_2, cnd_0, cnd_1, cnd_2, cnd_3, cnd_4, cnd_5, aty_0, aty_1, aty_2, aty_3, aty_4, aty_5, c8_u, cn_0, cn_i, cn_r, cn_l, Nat.reduceAdd, Nat.reduceLeDiff, Nat.le_refl, adz, hnd_0, rcv_0, rcv_1, kLen_a, kLen_r, inB_e, inR_e, cpOK_e, swt_n, swt_c, List.take_succ_cons, List.take_zero, List.drop_succ_cons, List.drop_zero, List.reverse_cons, List.reverse_nil, List.nil_append, List.cons_append, List.length_cons, List.length_nil, Option.toList_some, Option.toList_none, det_e, det_x, tr_imp, fa_imp, implies_true, not_true, not_false_eq_true, and_true, true_and, nar_i, upd_s, st1_0, st1_1, st1_2, st1_3, st1_4, st1_5, st1_6, st1_7, st1_8, st1_9, st1_10, st1_11, st1_12, st1_13, st1_14, st1_15, st1_16, st1_17, st1_18, st1_19, st1_20, st1_21, st1_22, st1_23, st1_24, st1_25, st1_26, st1_27, st1_28, st1_29, st1_30, st1_31, st1_32, st1_33, st1_34, st1_35, st1_36, st1_37, st1_42, st1_43, st1_44, st1_46, st1_47, st1_48, st1_49, st1_50, st1_51, st1_52, st1_53, st1_54, st1_55, st1_56, st1_57, st1_58, st1_59, st1_60, S91, sHp, hp, ho, kx, v01, t00, m1, m2, hnd, hxF, ctx, gK_sI, orE_n, orE_s, h1, Nat.zero_le, Nat.reduceLT, Nat.reduceEqDiff, reduceIte, reduceCtorEq, and_self, and_true, true_and, and_false, false_and, or_false, false_or, true_or, Option.some.injEq, implies_true, Nat.le_refl]
    rintro _ _ ⟨rfl, z, hz, rfl⟩
    simp only [rL_inflow_0, kL_inflow_0, rL_inflow_12, kL_inflow_12, rL_inflow_15, kL_inflow_15, bk_c, if_true, if_false, wi_e, wl_e, wr_e, w1_i, w1_r, ldS_0, ldS_s, vi_e, vl_e, vr_e, dpL_u, dpL_i, dpL_r, dpL_l, stS_0, stS_1, stS_s, stL_0, stL_1, stL_s, bin_0, bin_1, bin_2, bin_3, bin_4, bin_5, bdv_0, bdv_1, lbin_0, lbin_1, lbin_2, cnd_0, cnd_1, cnd_2, cnd_3, cnd_4, cnd_5, aty_0, aty_1, aty_2, aty_3, aty_4, aty_5, c8_u, cn_0, cn_i, cn_r, cn_l, Nat.reduceAdd, Nat.reduceLeDiff, Nat.le_refl, adz, hnd_0, rcv_0, rcv_1, kLen_a, kLen_r, inB_e, inR_e, cpOK_e, swt_n, swt_c, List.take_succ_cons, List.take_zero, List.drop_succ_cons, List.drop_zero, List.reverse_cons, List.reverse_nil, List.nil_append, List.cons_append, List.length_cons, List.length_nil, Option.toList_some, Option.toList_none, det_e, det_x, tr_imp, fa_imp, implies_true, not_true, not_false_eq_true, and_true, true_and, nar_i, upd_s, st1_0, st1_1, st1_2, st1_3, st1_4, st1_5, st1_6, st1_7, st1_8, st1_9, st1_10, st1_11, st1_12, st1_13, st1_14, st1_15, st1_16, st1_17, st1_18, st1_19, st1_20, st1_21, st1_22, st1_23, st1_24, st1_25, st1_26, st1_27, st1_28, st1_29, st1_30, st1_31, st1_32, st1_33, st1_34, st1_35, st1_36, st1_37, st1_42, st1_43, st1_44, st1_46, st1_47, st1_48, st1_49, st1_50, st1_51, st1_52, st1_53, st1_54, st1_55, st1_56, st1_57, st1_58, st1_59, st1_60, Nat.reduceEqDiff, reduceIte]
    first
      | exact fun q => ⟨_, z, rfl, rfl, hz, rfl⟩
      | exact fun q => ⟨_, z, rfl, hz, rfl⟩
def S192 : Sem := fun as M => match as with
  | [.ref x, .int c, .ref o] => sHp (((XP M x ∧ (∀ k, k < 12 → gI M (x + 57) k = 0 ∨ gI M (x + 57) k = 1))) ∧ gK (M) o = kA .long 1) (bI c (gI M (x + 46) 11)) (fun _ => 1) (sJ (M) o (vp_updL (gJ (M) o) 0 (if (gI M (x + 57) c.toNatClampNeg) = 0 then 0 else 1))) M
  | _ => sF
set_option maxRecDepth 100000 in
set_option maxHeartbeats 4000000 in
theorem oL_isForced : okC 12 (cL9 192) (cF 192) (cO 192) (cR 192) (cC 192) (decide ((cY 192).name = "<init>")) false [93] kL_isForced = true := by decide +kernel
set_option maxRecDepth 100000 in
set_option maxHeartbeats 4000000 in
theorem s_L_isForced {l : Launch} {G : Gt} (hfl : l.stackTraces = false) : SatM l G 192 S192 := by
  refine sat_ofH (E := fun _ => S93) (K := kL_isForced) (ids := [93]) (hh := [(0, 16, 19, 24)]) hfl ok_192 rfl rfl (by decide) rfl oL_isForced (fun id hid => ?_) (fun as M ex N => ?_) fun as M hp => ?_
  · cases List.mem_singleton.mp hid
    exact ⟨s_X10_isForced hfl, ok_93⟩
  · unfold S192
    split
    · exact fun h => h
    · exact sF_X ex N
  unfold S192 at hp ⊢
  split at hp
  case h_2 => exact hp.elim
  rename_i x c o
  obtain ⟨hp, ho⟩ := hp
  refine ⟨Nat.le_of_ble_eq_true rfl, ?_⟩
  show Run (gT G) _ _ _ _ _ _ _ 0 [.val (.ref x), .val (.int c), .val (.ref o), .unset] [] M 0 0
  have kx : gK M x = kO 10 := hp.1.f.1.1
  have v01 : vp_in 0 1 = True := eq_true (vp_in_nI (n := 0) (N := 1) (by decide) (by decide))
  have t00 : (0 : Int32).toNatClampNeg = 0 := rfl
  have m1 : cM 192 = 1 := rfl
  have m2 : cS 192 = 6 := rfl
  rcases bI_or c (gI M (x + 46) 11) with h1 | h1
  · simp only [rL_isForced_0, kL_isForced_0, rL_isForced_14, kL_isForced_14, rL_isForced_15, kL_isForced_15, rL_isForced_19, kL_isForced_19, rL_isForced_22, kL_isForced_22, bk_c, if_true, if_false, wi_e, wl_e, wr_e, w1_i, w1_r, ldS_0, ldS_s, vi_e, vl_e, vr_e, dpL_u, dpL_i, dpL_r, dpL_l, stS_0, stS_1, stS_s, stL_0, stL_1, stL_s, bin_0, bin_1, bin_2, bin_3, bin_4, bin_5, bdv_0, bdv_1, lbin_0, lbin_1, lbin_2, cnd_0, cnd_1, cnd_2, cnd_3, cnd_4, cnd_5, aty_0, aty_1, aty_2, aty_3, aty_4, aty_5, c8_u, cn_0, cn_i, cn_r, cn_l, Nat.reduceAdd, Nat.reduceLeDiff, Nat.le_refl, adz, hnd_0, rcv_0, rcv_1, kLen_a, kLen_r, inB_e, inR_e, cpOK_e, swt_n, swt_c, List.take_succ_cons, List.take_zero, List.drop_succ_cons, List.drop_zero, List.reverse_cons, List.reverse_nil, List.nil_append, List.cons_append, List.length_cons, List.length_nil, Option.toList_some, Option.toList_none, det_e, det_x, tr_imp, fa_imp, implies_true, not_true, not_false_eq_true, and_true, true_and, nar_i, upd_s, st1_0, st1_1, st1_2, st1_3, st1_4, st1_5, st1_6, st1_7, st1_8, st1_9, st1_10, st1_11, st1_12, st1_13, st1_14, st1_15, st1_16, st1_17, st1_18, st1_19, st1_20, st1_21, st1_22, st1_23, st1_24, st1_25, st1_26, st1_27, st1_28, st1_29, st1_30, st1_31, st1_32, st1_33, st1_34, st1_35, st1_36, st1_37, st1_42, st1_43, st1_44, st1_46, st1_47, st1_48, st1_49, st1_50, st1_51, st1_52, st1_53, st1_54, st1_55, st1_56, st1_57, st1_58, st1_59, st1_60, S93, sHp, hp, ho, kx, v01, t00, m1, m2, hnd, hxF, ctx, gK_sI, orE_n, orE_s, h1, Nat.zero_le, Nat.reduceLT, Nat.reduceEqDiff, reduceIte, reduceCtorEq, and_self, and_true, true_and, and_false, false_and, or_false, false_or, true_or, Option.some.injEq, implies_true, Nat.le_refl]
    refine ⟨hp.2, ?_⟩
    exact ⟨fun h => Or.inl (by rw [if_pos h]), fun h => Or.inl (by rw [if_neg h])⟩
  · simp only [rL_isForced_0, kL_isForced_0, rL_isForced_14, kL_isForced_14, rL_isForced_15, kL_isForced_15, rL_isForced_19, kL_isForced_19, rL_isForced_22, kL_isForced_22, bk_c, if_true, if_false, wi_e, wl_e, wr_e, w1_i, w1_r, ldS_0, ldS_s, vi_e, vl_e, vr_e, dpL_u, dpL_i, dpL_r, dpL_l, stS_0, stS_1, stS_s, stL_0, stL_1, stL_s, bin_0, bin_1, bin_2, bin_3, bin_4, bin_5, bdv_0, bdv_1, lbin_0, lbin_1, lbin_2, cnd_0, cnd_1, cnd_2, cnd_3, cnd_4, cnd_5, aty_0, aty_1, aty_2, aty_3, aty_4, aty_5, c8_u, cn_0, cn_i, cn_r, cn_l, Nat.reduceAdd, Nat.reduceLeDiff, Nat.le_refl, adz, hnd_0, rcv_0, rcv_1, kLen_a, kLen_r, inB_e, inR_e, cpOK_e, swt_n, swt_c, List.take_succ_cons, List.take_zero, List.drop_succ_cons, List.drop_zero, List.reverse_cons, List.reverse_nil, List.nil_append, List.cons_append, List.length_cons, List.length_nil, Option.toList_some, Option.toList_none, det_e, det_x, tr_imp, fa_imp, implies_true, not_true, not_false_eq_true, and_true, true_and, nar_i, upd_s, st1_0, st1_1, st1_2, st1_3, st1_4, st1_5, st1_6, st1_7, st1_8, st1_9, st1_10, st1_11, st1_12, st1_13, st1_14, st1_15, st1_16, st1_17, st1_18, st1_19, st1_20, st1_21, st1_22, st1_23, st1_24, st1_25, st1_26, st1_27, st1_28, st1_29, st1_30, st1_31, st1_32, st1_33, st1_34, st1_35, st1_36, st1_37, st1_42, st1_43, st1_44, st1_46, st1_47, st1_48, st1_49, st1_50, st1_51, st1_52, st1_53, st1_54, st1_55, st1_56, st1_57, st1_58, st1_59, st1_60, S93, sHp, hp, ho, kx, v01, t00, m1, m2, hnd, hxF, ctx, gK_sI, orE_n, orE_s, h1, Nat.zero_le, Nat.reduceLT, Nat.reduceEqDiff, reduceIte, reduceCtorEq, and_self, and_true, true_and, and_false, false_and, or_false, false_or, true_or, Option.some.injEq, implies_true, Nat.le_refl]
    refine ⟨hp.2, ?_⟩
    rintro _ _ ⟨rfl, z, hz, rfl⟩
    simp only [rL_isForced_0, kL_isForced_0, rL_isForced_14, kL_isForced_14, rL_isForced_15, kL_isForced_15, rL_isForced_19, kL_isForced_19, rL_isForced_22, kL_isForced_22, bk_c, if_true, if_false, wi_e, wl_e, wr_e, w1_i, w1_r, ldS_0, ldS_s, vi_e, vl_e, vr_e, dpL_u, dpL_i, dpL_r, dpL_l, stS_0, stS_1, stS_s, stL_0, stL_1, stL_s, bin_0, bin_1, bin_2, bin_3, bin_4, bin_5, bdv_0, bdv_1, lbin_0, lbin_1, lbin_2, cnd_0, cnd_1, cnd_2, cnd_3, cnd_4, cnd_5, aty_0, aty_1, aty_2, aty_3, aty_4, aty_5, c8_u, cn_0, cn_i, cn_r, cn_l, Nat.reduceAdd, Nat.reduceLeDiff, Nat.le_refl, adz, hnd_0, rcv_0, rcv_1, kLen_a, kLen_r, inB_e, inR_e, cpOK_e, swt_n, swt_c, List.take_succ_cons, List.take_zero, List.drop_succ_cons, List.drop_zero, List.reverse_cons, List.reverse_nil, List.nil_append, List.cons_append, List.length_cons, List.length_nil, Option.toList_some, Option.toList_none, det_e, det_x, tr_imp, fa_imp, implies_true, not_true, not_false_eq_true, and_true, true_and, nar_i, upd_s, st1_0, st1_1, st1_2, st1_3, st1_4, st1_5, st1_6, st1_7, st1_8, st1_9, st1_10, st1_11, st1_12, st1_13, st1_14, st1_15, st1_16, st1_17, st1_18, st1_19, st1_20, st1_21, st1_22, st1_23, st1_24, st1_25, st1_26, st1_27, st1_28, st1_29, st1_30, st1_31, st1_32, st1_33, st1_34, st1_35, st1_36, st1_37, st1_42, st1_43, st1_44, st1_46, st1_47, st1_48, st1_49, st1_50, st1_51, st1_52, st1_53, st1_54, st1_55, st1_56, st1_57, st1_58, st1_59, st1_60, Nat.reduceEqDiff, reduceIte]
    first
      | exact fun q => ⟨_, z, rfl, rfl, hz, rfl⟩
      | exact fun q => ⟨_, z, rfl, hz, rfl⟩
def S193 : Sem := fun as M => match as with
  | [.ref x, .int c, .ref o] => sHp (((XP M x)) ∧ gK (M) o = kA .long 1) (bI c (gI M (x + 46) 11)) (fun _ => 1) (sJ (M) o (vp_updL (gJ (M) o) 0 (if (bG M (x + 46) c.toNatClampNeg (villV M (x + 58) (gI M (x + 36) 6))) = 0 then 0 else 1))) M
  | _ => sF
set_option maxRecDepth 100000 in
set_option maxHeartbeats 4000000 in
theorem oL_isOpen : okC 12 (cL9 193) (cF 193) (cO 193) (cR 193) (cC 193) (decide ((cY 193).name = "<init>")) false [94] kL_isOpen = true := by decide +kernel
set_option maxRecDepth 100000 in
set_option maxHeartbeats 4000000 in
theorem s_L_isOpen {l : Launch} {G : Gt} (hfl : l.stackTraces = false) : SatM l G 193 S193 := by
  refine sat_ofH (E := fun _ => S94) (K := kL_isOpen) (ids := [94]) (hh := [(0, 16, 19, 24)]) hfl ok_193 rfl rfl (by decide) rfl oL_isOpen (fun id hid => ?_) (fun as M ex N => ?_) fun as M hp => ?_
  · cases List.mem_singleton.mp hid
    exact ⟨s_X10_isOpen hfl, ok_94⟩
  · unfold S193
    split
    · exact fun h => h
    · exact sF_X ex N
  unfold S193 at hp ⊢
  split at hp
  case h_2 => exact hp.elim
  rename_i x c o
  obtain ⟨hp, ho⟩ := hp
  refine ⟨Nat.le_of_ble_eq_true rfl, ?_⟩
  show Run (gT G) _ _ _ _ _ _ _ 0 [.val (.ref x), .val (.int c), .val (.ref o), .unset] [] M 0 0
  have kx : gK M x = kO 10 := hp.f.1.1
  have v01 : vp_in 0 1 = True := eq_true (vp_in_nI (n := 0) (N := 1) (by decide) (by decide))
  have t00 : (0 : Int32).toNatClampNeg = 0 := rfl
  have m1 : cM 193 = 1 := rfl
  have m2 : cS 193 = 6 := rfl
  rcases bI_or c (gI M (x + 46) 11) with h1 | h1
  · simp only [rL_isOpen_0, kL_isOpen_0, rL_isOpen_14, kL_isOpen_14, rL_isOpen_15, kL_isOpen_15, rL_isOpen_19, kL_isOpen_19, rL_isOpen_22, kL_isOpen_22, bk_c, if_true, if_false, wi_e, wl_e, wr_e, w1_i, w1_r, ldS_0, ldS_s, vi_e, vl_e, vr_e, dpL_u, dpL_i, dpL_r, dpL_l, stS_0, stS_1, stS_s, stL_0, stL_1, stL_s, bin_0, bin_1, bin_2, bin_3, bin_4, bin_5, bdv_0, bdv_1, lbin_0, lbin_1, lbin_2, cnd_0, cnd_1, cnd_2, cnd_3, cnd_4, cnd_5, aty_0, aty_1, aty_2, aty_3, aty_4, aty_5, c8_u, cn_0, cn_i, cn_r, cn_l, Nat.reduceAdd, Nat.reduceLeDiff, Nat.le_refl, adz, hnd_0, rcv_0, rcv_1, kLen_a, kLen_r, inB_e, inR_e, cpOK_e, swt_n, swt_c, List.take_succ_cons, List.take_zero, List.drop_succ_cons, List.drop_zero, List.reverse_cons, List.reverse_nil, List.nil_append, List.cons_append, List.length_cons, List.length_nil, Option.toList_some, Option.toList_none, det_e, det_x, tr_imp, fa_imp, implies_true, not_true, not_false_eq_true, and_true, true_and, nar_i, upd_s, st1_0, st1_1, st1_2, st1_3, st1_4, st1_5, st1_6, st1_7, st1_8, st1_9, st1_10, st1_11, st1_12, st1_13, st1_14, st1_15, st1_16, st1_17, st1_18, st1_19, st1_20, st1_21, st1_22, st1_23, st1_24, st1_25, st1_26, st1_27, st1_28, st1_29, st1_30, st1_31, st1_32, st1_33, st1_34, st1_35, st1_36, st1_37, st1_42, st1_43, st1_44, st1_46, st1_47, st1_48, st1_49, st1_50, st1_51, st1_52, st1_53, st1_54, st1_55, st1_56, st1_57, st1_58, st1_59, st1_60, S94, sHp, hp, ho, kx, v01, t00, m1, m2, hnd, hxF, ctx, gK_sI, orE_n, orE_s, h1, Nat.zero_le, Nat.reduceLT, Nat.reduceEqDiff, reduceIte, reduceCtorEq, and_self, and_true, true_and, and_false, false_and, or_false, false_or, true_or, Option.some.injEq, implies_true, Nat.le_refl]
    exact ⟨fun h => Or.inl (by rw [if_pos h]), fun h => Or.inl (by rw [if_neg h])⟩
  · simp only [rL_isOpen_0, kL_isOpen_0, rL_isOpen_14, kL_isOpen_14, rL_isOpen_15, kL_isOpen_15, rL_isOpen_19, kL_isOpen_19, rL_isOpen_22, kL_isOpen_22, bk_c, if_true, if_false, wi_e, wl_e, wr_e, w1_i, w1_r, ldS_0, ldS_s, vi_e, vl_e, vr_e, dpL_u, dpL_i, dpL_r, dpL_l, stS_0, stS_1, stS_s, stL_0, stL_1, stL_s, bin_0, bin_1, bin_2, bin_3, bin_4, bin_5, bdv_0, bdv_1, lbin_0, lbin_1, lbin_2, cnd_0, cnd_1, cnd_2, cnd_3, cnd_4, cnd_5, aty_0, aty_1, aty_2, aty_3, aty_4, aty_5, c8_u, cn_0, cn_i, cn_r, cn_l, Nat.reduceAdd, Nat.reduceLeDiff, Nat.le_refl, adz, hnd_0, rcv_0, rcv_1, kLen_a, kLen_r, inB_e, inR_e, cpOK_e, swt_n, swt_c, List.take_succ_cons, List.take_zero, List.drop_succ_cons, List.drop_zero, List.reverse_cons, List.reverse_nil, List.nil_append, List.cons_append, List.length_cons, List.length_nil, Option.toList_some, Option.toList_none, det_e, det_x, tr_imp, fa_imp, implies_true, not_true, not_false_eq_true, and_true, true_and, nar_i, upd_s, st1_0, st1_1, st1_2, st1_3, st1_4, st1_5, st1_6, st1_7, st1_8, st1_9, st1_10, st1_11, st1_12, st1_13, st1_14, st1_15, st1_16, st1_17, st1_18, st1_19, st1_20, st1_21, st1_22, st1_23, st1_24, st1_25, st1_26, st1_27, st1_28, st1_29, st1_30, st1_31, st1_32, st1_33, st1_34, st1_35, st1_36, st1_37, st1_42, st1_43, st1_44, st1_46, st1_47, st1_48, st1_49, st1_50, st1_51, st1_52, st1_53, st1_54, st1_55, st1_56, st1_57, st1_58, st1_59, st1_60, S94, sHp, hp, ho, kx, v01, t00, m1, m2, hnd, hxF, ctx, gK_sI, orE_n, orE_s, h1, Nat.zero_le, Nat.reduceLT, Nat.reduceEqDiff, reduceIte, reduceCtorEq, and_self, and_true, true_and, and_false, false_and, or_false, false_or, true_or, Option.some.injEq, implies_true, Nat.le_refl]
    rintro _ _ ⟨rfl, z, hz, rfl⟩
    simp only [rL_isOpen_0, kL_isOpen_0, rL_isOpen_14, kL_isOpen_14, rL_isOpen_15, kL_isOpen_15, rL_isOpen_19, kL_isOpen_19, rL_isOpen_22, kL_isOpen_22, bk_c, if_true, if_false, wi_e, wl_e, wr_e, w1_i, w1_r, ldS_0, ldS_s, vi_e, vl_e, vr_e, dpL_u, dpL_i, dpL_r, dpL_l, stS_0, stS_1, stS_s, stL_0, stL_1, stL_s, bin_0, bin_1, bin_2, bin_3, bin_4, bin_5, bdv_0, bdv_1, lbin_0, lbin_1, lbin_2, cnd_0, cnd_1, cnd_2, cnd_3, cnd_4, cnd_5, aty_0, aty_1, aty_2, aty_3, aty_4, aty_5, c8_u, cn_0, cn_i, cn_r, cn_l, Nat.reduceAdd, Nat.reduceLeDiff, Nat.le_refl, adz, hnd_0, rcv_0, rcv_1, kLen_a, kLen_r, inB_e, inR_e, cpOK_e, swt_n, swt_c, List.take_succ_cons, List.take_zero, List.drop_succ_cons, List.drop_zero, List.reverse_cons, List.reverse_nil, List.nil_append, List.cons_append, List.length_cons, List.length_nil, Option.toList_some, Option.toList_none, det_e, det_x, tr_imp, fa_imp, implies_true, not_true, not_false_eq_true, and_true, true_and, nar_i, upd_s, st1_0, st1_1, st1_2, st1_3, st1_4, st1_5, st1_6, st1_7, st1_8, st1_9, st1_10, st1_11, st1_12, st1_13, st1_14, st1_15, st1_16, st1_17, st1_18, st1_19, st1_20, st1_21, st1_22, st1_23, st1_24, st1_25, st1_26, st1_27, st1_28, st1_29, st1_30, st1_31, st1_32, st1_33, st1_34, st1_35, st1_36, st1_37, st1_42, st1_43, st1_44, st1_46, st1_47, st1_48, st1_49, st1_50, st1_51, st1_52, st1_53, st1_54, st1_55, st1_56, st1_57, st1_58, st1_59, st1_60, Nat.reduceEqDiff, reduceIte]
    first
      | exact fun q => ⟨_, z, rfl, rfl, hz, rfl⟩
      | exact fun q => ⟨_, z, rfl, hz, rfl⟩
def S195 (T : Nat → Nat) : Sem := fun as M => match as with
  | [.ref x, .int n, .ref o] => sHp (((XP M x ∧ STR T M)) ∧ gK ((ldM M x n)) o = kA .long 1) (bR n 0 (gI M (x + 2) 1)) (fun _ => 1) (sJ ((ldM M x n)) o (vp_updL (gJ ((ldM M x n)) o) 0 (Int32.toInt64 (ldV M x n)))) M
  | _ => sF
set_option maxRecDepth 100000 in
set_option maxHeartbeats 4000000 in
theorem oL_load : okC 12 (cL9 195) (cF 195) (cO 195) (cR 195) (cC 195) (decide ((cY 195).name = "<init>")) false [95] kL_load = true := by decide +kernel
set_option maxRecDepth 100000 in
set_option maxHeartbeats 4000000 in
theorem s_L_load {l : Launch} {G : Gt} (hfl : l.stackTraces = false) : SatM l G 195 (S195 (gT G)) := by
  refine sat_ofH (E := fun _ => (S95 (gT G))) (K := kL_load) (ids := [95]) (hh := [(0, 9, 12, 13)]) hfl ok_195 rfl rfl (by decide) rfl oL_load (fun id hid => ?_) (fun as M ex N => ?_) fun as M hp => ?_
  · cases List.mem_singleton.mp hid
    exact ⟨s_X10_load hfl, ok_95⟩
  · unfold S195
    split
    · exact fun h => h
    · exact sF_X ex N
  unfold S195 at hp ⊢
  split at hp
  case h_2 => exact hp.elim
  rename_i x n o
  obtain ⟨hp, ho⟩ := hp
  refine ⟨Nat.le_of_ble_eq_true rfl, ?_⟩
  show Run (gT G) _ _ _ _ _ _ _ 0 [.val (.ref x), .val (.int n), .val (.ref o), .unset] [] M 0 0
  have kx : gK M x = kO 10 := hp.1.f.1.1
  have v01 : vp_in 0 1 = True := eq_true (vp_in_nI (n := 0) (N := 1) (by decide) (by decide))
  have t00 : (0 : Int32).toNatClampNeg = 0 := rfl
  have m1 : cM 195 = 1 := rfl
  have m2 : cS 195 = 6 := rfl
  rcases bR_or n 0 (gI M (x + 2) 1) with h1 | h1
  · simp only [rL_load_0, kL_load_0, rL_load_12, kL_load_12, rL_load_15, kL_load_15, bk_c, if_true, if_false, wi_e, wl_e, wr_e, w1_i, w1_r, ldS_0, ldS_s, vi_e, vl_e, vr_e, dpL_u, dpL_i, dpL_r, dpL_l, stS_0, stS_1, stS_s, stL_0, stL_1, stL_s, bin_0, bin_1, bin_2, bin_3, bin_4, bin_5, bdv_0, bdv_1, lbin_0, lbin_1, lbin_2, cnd_0, cnd_1, cnd_2, cnd_3, cnd_4, cnd_5, aty_0, aty_1, aty_2, aty_3, aty_4, aty_5, c8_u, cn_0, cn_i, cn_r, cn_l, Nat.reduceAdd, Nat.reduceLeDiff, Nat.le_refl, adz, hnd_0, rcv_0, rcv_1, kLen_a, kLen_r, inB_e, inR_e, cpOK_e, swt_n, swt_c, List.take_succ_cons, List.take_zero, List.drop_succ_cons, List.drop_zero, List.reverse_cons, List.reverse_nil, List.nil_append, List.cons_append, List.length_cons, List.length_nil, Option.toList_some, Option.toList_none, det_e, det_x, tr_imp, fa_imp, implies_true, not_true, not_false_eq_true, and_true, true_and, nar_i, upd_s, st1_0, st1_1, st1_2, st1_3, st1_4, st1_5, st1_6, st1_7, st1_8, st1_9, st1_10, st1_11, st1_12, st1_13, st1_14, st1_15, st1_16, st1_17, st1_18, st1_19, st1_20, st1_21, st1_22, st1_23, st1_24, st1_25, st1_26, st1_27, st1_28, st1_29, st1_30, st1_31, st1_32, st1_33, st1_34, st1_35, st1_36, st1_37, st1_42, st1_43, st1_44, st1_46, st1_47, st1_48, st1_49, st1_50, st1_51, st1_52, st1_53, st1_54, st1_55, st1_56, st1_57, st1_58, st1_59, st1_60, S95, sHp, hp, ho, kx, v01, t00, m1, m2, hnd, hxF, ctx, gK_sI, orE_n, orE_s, h1, Nat.zero_le, Nat.reduceLT, Nat.reduceEqDiff, reduceIte, reduceCtorEq, and_self, and_true, true_and, and_false, false_and, or_false, false_or, true_or, Option.some.injEq, implies_true, Nat.le_refl]
  · simp only [rL_load_0, kL_load_0, rL_load_12, kL_load_12, rL_load_15, kL_load_15, bk_c, if_true, if_false, wi_e, wl_e, wr_e, w1_i, w1_r, ldS_0, ldS_s, vi_e, vl_e, vr_e, dpL_u, dpL_i, dpL_r, dpL_l, stS_0, stS_1, stS_s, stL_0, stL_1, stL_s, bin_0, bin_1, bin_2, bin_3, bin_4, bin_5, bdv_0, bdv_1, lbin_0, lbin_1, lbin_2, cnd_0, cnd_1, cnd_2, cnd_3, cnd_4, cnd_5, aty_0, aty_1, aty_2, aty_3, aty_4, aty_5, c8_u, cn_0, cn_i, cn_r, cn_l, Nat.reduceAdd, Nat.reduceLeDiff, Nat.le_refl, adz, hnd_0, rcv_0, rcv_1, kLen_a, kLen_r, inB_e, inR_e, cpOK_e, swt_n, swt_c, List.take_succ_cons, List.take_zero, List.drop_succ_cons, List.drop_zero, List.reverse_cons, List.reverse_nil, List.nil_append, List.cons_append, List.length_cons, List.length_nil, Option.toList_some, Option.toList_none, det_e, det_x, tr_imp, fa_imp, implies_true, not_true, not_false_eq_true, and_true, true_and, nar_i, upd_s, st1_0, st1_1, st1_2, st1_3, st1_4, st1_5, st1_6, st1_7, st1_8, st1_9, st1_10, st1_11, st1_12, st1_13, st1_14, st1_15, st1_16, st1_17, st1_18, st1_19, st1_20, st1_21, st1_22, st1_23, st1_24, st1_25, st1_26, st1_27, st1_28, st1_29, st1_30, st1_31, st1_32, st1_33, st1_34, st1_35, st1_36, st1_37, st1_42, st1_43, st1_44, st1_46, st1_47, st1_48, st1_49, st1_50, st1_51, st1_52, st1_53, st1_54, st1_55, st1_56, st1_57, st1_58, st1_59, st1_60, S95, sHp, hp, ho, kx, v01, t00, m1, m2, hnd, hxF, ctx, gK_sI, orE_n, orE_s, h1, Nat.zero_le, Nat.reduceLT, Nat.reduceEqDiff, reduceIte, reduceCtorEq, and_self, and_true, true_and, and_false, false_and, or_false, false_or, true_or, Option.some.injEq, implies_true, Nat.le_refl]
    rintro _ _ ⟨rfl, z, hz, rfl⟩
    simp only [rL_load_0, kL_load_0, rL_load_12, kL_load_12, rL_load_15, kL_load_15, bk_c, if_true, if_false, wi_e, wl_e, wr_e, w1_i, w1_r, ldS_0, ldS_s, vi_e, vl_e, vr_e, dpL_u, dpL_i, dpL_r, dpL_l, stS_0, stS_1, stS_s, stL_0, stL_1, stL_s, bin_0, bin_1, bin_2, bin_3, bin_4, bin_5, bdv_0, bdv_1, lbin_0, lbin_1, lbin_2, cnd_0, cnd_1, cnd_2, cnd_3, cnd_4, cnd_5, aty_0, aty_1, aty_2, aty_3, aty_4, aty_5, c8_u, cn_0, cn_i, cn_r, cn_l, Nat.reduceAdd, Nat.reduceLeDiff, Nat.le_refl, adz, hnd_0, rcv_0, rcv_1, kLen_a, kLen_r, inB_e, inR_e, cpOK_e, swt_n, swt_c, List.take_succ_cons, List.take_zero, List.drop_succ_cons, List.drop_zero, List.reverse_cons, List.reverse_nil, List.nil_append, List.cons_append, List.length_cons, List.length_nil, Option.toList_some, Option.toList_none, det_e, det_x, tr_imp, fa_imp, implies_true, not_true, not_false_eq_true, and_true, true_and, nar_i, upd_s, st1_0, st1_1, st1_2, st1_3, st1_4, st1_5, st1_6, st1_7, st1_8, st1_9, st1_10, st1_11, st1_12, st1_13, st1_14, st1_15, st1_16, st1_17, st1_18, st1_19, st1_20, st1_21, st1_22, st1_23, st1_24, st1_25, st1_26, st1_27, st1_28, st1_29, st1_30, st1_31, st1_32, st1_33, st1_34, st1_35, st1_36, st1_37, st1_42, st1_43, st1_44, st1_46, st1_47, st1_48, st1_49, st1_50, st1_51, st1_52, st1_53, st1_54, st1_55, st1_56, st1_57, st1_58, st1_59, st1_60, Nat.reduceEqDiff, reduceIte]
    first
      | exact fun q => ⟨_, z, rfl, rfl, hz, rfl⟩
      | exact fun q => ⟨_, z, rfl, hz, rfl⟩
def S196 : Sem := fun as M => match as with
  | [.ref x, .int c, .ref o] => sHp (((XP M x)) ∧ gK (M) o = kA .long 1) (bI c (gI M (x + 37) 8)) (fun _ => 1) (sJ (M) o (vp_updL (gJ (M) o) 0 (Int32.toInt64 (gI M (x + 38) c.toNatClampNeg)))) M
  | _ => sF
set_option maxRecDepth 100000 in
set_option maxHeartbeats 4000000 in
theorem oL_parent : okC 12 (cL9 196) (cF 196) (cO 196) (cR 196) (cC 196) (decide ((cY 196).name = "<init>")) false [96] kL_parent = true := by decide +kernel
set_option maxRecDepth 100000 in
set_option maxHeartbeats 4000000 in
theorem s_L_parent {l : Launch} {G : Gt} (hfl : l.stackTraces = false) : SatM l G 196 S196 := by
  refine sat_ofH (E := fun _ => S96) (K := kL_parent) (ids := [96]) (hh := [(0, 9, 12, 24)]) hfl ok_196 rfl rfl (by decide) rfl oL_parent (fun id hid => ?_) (fun as M ex N => ?_) fun as M hp => ?_
  · cases List.mem_singleton.mp hid
    exact ⟨s_X10_parent hfl, ok_96⟩
  · unfold S196
    split
    · exact fun h => h
    · exact sF_X ex N
  unfold S196 at hp ⊢
  split at hp
  case h_2 => exact hp.elim
  rename_i x c o
  obtain ⟨hp, ho⟩ := hp
  refine ⟨Nat.le_of_ble_eq_true rfl, ?_⟩
  show Run (gT G) _ _ _ _ _ _ _ 0 [.val (.ref x), .val (.int c), .val (.ref o), .unset] [] M 0 0
  have kx : gK M x = kO 10 := hp.f.1.1
  have v01 : vp_in 0 1 = True := eq_true (vp_in_nI (n := 0) (N := 1) (by decide) (by decide))
  have t00 : (0 : Int32).toNatClampNeg = 0 := rfl
  have m1 : cM 196 = 1 := rfl
  have m2 : cS 196 = 6 := rfl
  rcases bI_or c (gI M (x + 37) 8) with h1 | h1
  · simp only [rL_parent_0, kL_parent_0, rL_parent_12, kL_parent_12, rL_parent_15, kL_parent_15, bk_c, if_true, if_false, wi_e, wl_e, wr_e, w1_i, w1_r, ldS_0, ldS_s, vi_e, vl_e, vr_e, dpL_u, dpL_i, dpL_r, dpL_l, stS_0, stS_1, stS_s, stL_0, stL_1, stL_s, bin_0, bin_1, bin_2, bin_3, bin_4, bin_5, bdv_0, bdv_1, lbin_0, lbin_1, lbin_2, cnd_0, cnd_1, cnd_2, cnd_3, cnd_4, cnd_5, aty_0, aty_1, aty_2, aty_3, aty_4, aty_5, c8_u, cn_0, cn_i, cn_r, cn_l, Nat.reduceAdd, Nat.reduceLeDiff, Nat.le_refl, adz, hnd_0, rcv_0, rcv_1, kLen_a, kLen_r, inB_e, inR_e, cpOK_e, swt_n, swt_c, List.take_succ_cons, List.take_zero, List.drop_succ_cons, List.drop_zero, List.reverse_cons, List.reverse_nil, List.nil_append, List.cons_append, List.length_cons, List.length_nil, Option.toList_some, Option.toList_none, det_e, det_x, tr_imp, fa_imp, implies_true, not_true, not_false_eq_true, and_true, true_and, nar_i, upd_s, st1_0, st1_1, st1_2, st1_3, st1_4, st1_5, st1_6, st1_7, st1_8, st1_9, st1_10, st1_11, st1_12, st1_13, st1_14, st1_15, st1_16, st1_17, st1_18, st1_19, st1_20, st1_21, st1_22, st1_23, st1_24, st1_25, st1_26, st1_27, st1_28, st1_29, st1_30, st1_31, st1_32, st1_33, st1_34, st1_35, st1_36, st1_37, st1_42, st1_43, st1_44, st1_46, st1_47, st1_48, st1_49, st1_50, st1_51, st1_52, st1_53, st1_54, st1_55, st1_56, st1_57, st1_58, st1_59, st1_60, S96, sHp, hp, ho, kx, v01, t00, m1, m2, hnd, hxF, ctx, gK_sI, orE_n, orE_s, h1, Nat.zero_le, Nat.reduceLT, Nat.reduceEqDiff, reduceIte, reduceCtorEq, and_self, and_true, true_and, and_false, false_and, or_false, false_or, true_or, Option.some.injEq, implies_true, Nat.le_refl]
  · simp only [rL_parent_0, kL_parent_0, rL_parent_12, kL_parent_12, rL_parent_15, kL_parent_15, bk_c, if_true, if_false, wi_e, wl_e, wr_e, w1_i, w1_r, ldS_0, ldS_s, vi_e, vl_e, vr_e, dpL_u, dpL_i, dpL_r, dpL_l, stS_0, stS_1, stS_s, stL_0, stL_1, stL_s, bin_0, bin_1, bin_2, bin_3, bin_4, bin_5, bdv_0, bdv_1, lbin_0, lbin_1, lbin_2, cnd_0, cnd_1, cnd_2, cnd_3, cnd_4, cnd_5, aty_0, aty_1, aty_2, aty_3, aty_4, aty_5, c8_u, cn_0, cn_i, cn_r, cn_l, Nat.reduceAdd, Nat.reduceLeDiff, Nat.le_refl, adz, hnd_0, rcv_0, rcv_1, kLen_a, kLen_r, inB_e, inR_e, cpOK_e, swt_n, swt_c, List.take_succ_cons, List.take_zero, List.drop_succ_cons, List.drop_zero, List.reverse_cons, List.reverse_nil, List.nil_append, List.cons_append, List.length_cons, List.length_nil, Option.toList_some, Option.toList_none, det_e, det_x, tr_imp, fa_imp, implies_true, not_true, not_false_eq_true, and_true, true_and, nar_i, upd_s, st1_0, st1_1, st1_2, st1_3, st1_4, st1_5, st1_6, st1_7, st1_8, st1_9, st1_10, st1_11, st1_12, st1_13, st1_14, st1_15, st1_16, st1_17, st1_18, st1_19, st1_20, st1_21, st1_22, st1_23, st1_24, st1_25, st1_26, st1_27, st1_28, st1_29, st1_30, st1_31, st1_32, st1_33, st1_34, st1_35, st1_36, st1_37, st1_42, st1_43, st1_44, st1_46, st1_47, st1_48, st1_49, st1_50, st1_51, st1_52, st1_53, st1_54, st1_55, st1_56, st1_57, st1_58, st1_59, st1_60, S96, sHp, hp, ho, kx, v01, t00, m1, m2, hnd, hxF, ctx, gK_sI, orE_n, orE_s, h1, Nat.zero_le, Nat.reduceLT, Nat.reduceEqDiff, reduceIte, reduceCtorEq, and_self, and_true, true_and, and_false, false_and, or_false, false_or, true_or, Option.some.injEq, implies_true, Nat.le_refl]
    rintro _ _ ⟨rfl, z, hz, rfl⟩
    simp only [rL_parent_0, kL_parent_0, rL_parent_12, kL_parent_12, rL_parent_15, kL_parent_15, bk_c, if_true, if_false, wi_e, wl_e, wr_e, w1_i, w1_r, ldS_0, ldS_s, vi_e, vl_e, vr_e, dpL_u, dpL_i, dpL_r, dpL_l, stS_0, stS_1, stS_s, stL_0, stL_1, stL_s, bin_0, bin_1, bin_2, bin_3, bin_4, bin_5, bdv_0, bdv_1, lbin_0, lbin_1, lbin_2, cnd_0, cnd_1, cnd_2, cnd_3, cnd_4, cnd_5, aty_0, aty_1, aty_2, aty_3, aty_4, aty_5, c8_u, cn_0, cn_i, cn_r, cn_l, Nat.reduceAdd, Nat.reduceLeDiff, Nat.le_refl, adz, hnd_0, rcv_0, rcv_1, kLen_a, kLen_r, inB_e, inR_e, cpOK_e, swt_n, swt_c, List.take_succ_cons, List.take_zero, List.drop_succ_cons, List.drop_zero, List.reverse_cons, List.reverse_nil, List.nil_append, List.cons_append, List.length_cons, List.length_nil, Option.toList_some, Option.toList_none, det_e, det_x, tr_imp, fa_imp, implies_true, not_true, not_false_eq_true, and_true, true_and, nar_i, upd_s, st1_0, st1_1, st1_2, st1_3, st1_4, st1_5, st1_6, st1_7, st1_8, st1_9, st1_10, st1_11, st1_12, st1_13, st1_14, st1_15, st1_16, st1_17, st1_18, st1_19, st1_20, st1_21, st1_22, st1_23, st1_24, st1_25, st1_26, st1_27, st1_28, st1_29, st1_30, st1_31, st1_32, st1_33, st1_34, st1_35, st1_36, st1_37, st1_42, st1_43, st1_44, st1_46, st1_47, st1_48, st1_49, st1_50, st1_51, st1_52, st1_53, st1_54, st1_55, st1_56, st1_57, st1_58, st1_59, st1_60, Nat.reduceEqDiff, reduceIte]
    first
      | exact fun q => ⟨_, z, rfl, rfl, hz, rfl⟩
      | exact fun q => ⟨_, z, rfl, hz, rfl⟩
def S197 : Sem := fun as M => match as with
  | [.ref x, .int h, .ref o] => sHp (((XH M x)) ∧ gK ((ruR M x h).2) o = kA .long 1) (orE (bR h 1 100) (ruB M x h)) (fun e => if e = 0 then 1 else 2) (sJ ((ruR M x h).2) o (vp_updL (gJ ((ruR M x h).2) o) 0 (Int32.toInt64 (ruR M x h).1))) M
  | _ => sF
set_option maxRecDepth 100000 in
set_option maxHeartbeats 4000000 in
theorem oL_run : okC 12 (cL9 197) (cF 197) (cO 197) (cR 197) (cC 197) (decide ((cY 197).name = "<init>")) false [99] kL_run = true := by decide +kernel
set_option maxRecDepth 100000 in
set_option maxHeartbeats 4000000 in
theorem s_L_run {l : Launch} {G : Gt} (hfl : l.stackTraces = false) : SatM l G 197 S197 := by
  refine sat_ofH (E := fun _ => S99) (K := kL_run) (ids := [99]) (hh := [(0, 9, 12, 13), (0, 9, 15, 72)]) hfl ok_197 rfl rfl (by decide) rfl oL_run (fun id hid => ?_) (fun as M ex N => ?_) fun as M hp => ?_
  · cases List.mem_singleton.mp hid
    exact ⟨s_X10_run hfl, ok_99⟩
  · unfold S197
    split
    · exact fun h => h
    · exact sF_X ex N
  unfold S197 at hp ⊢
  split at hp
  case h_2 => exact hp.elim
  rename_i x h o
  obtain ⟨hp, ho⟩ := hp
  refine ⟨Nat.le_of_ble_eq_true rfl, ?_⟩
  show Run (gT G) _ _ _ _ _ _ _ 0 [.val (.ref x), .val (.int h), .val (.ref o), .unset] [] M 0 0
  have kx : gK M x = kO 10 := hp.1.f.1.1
  have v01 : vp_in 0 1 = True := eq_true (vp_in_nI (n := 0) (N := 1) (by decide) (by decide))
  have t00 : (0 : Int32).toNatClampNeg = 0 := rfl
  have m1 : cM 197 = 2 := rfl
  have m2 : cS 197 = 12 := rfl
  rcases bR_or h 1 100 with h1 | h1
  · rcases ruB_or M x h with h2 | h2
    · simp only [rL_run_0, kL_run_0, rL_run_12, kL_run_12, rL_run_15, kL_run_15, rL_run_18, kL_run_18, bk_c, if_true, if_false, wi_e, wl_e, wr_e, w1_i, w1_r, ldS_0, ldS_s, vi_e, vl_e, vr_e, dpL_u, dpL_i, dpL_r, dpL_l, stS_0, stS_1, stS_s, stL_0, stL_1, stL_s, bin_0, bin_1, bin_2, bin_3, bin_4, bin_5, bdv_0, bdv_1, lbin_0, lbin_1, lbin_2, cnd_0, cnd_1, cnd_2, cnd_3, cnd_4, cnd_5, aty_0, aty_1, aty_2, aty_3, aty_4, aty_5, c8_u, cn_0, cn_i, cn_r, cn_l, Nat.reduceAdd, Nat.reduceLeDiff, Nat.le_refl, adz, hnd_0, rcv_0, rcv_1, kLen_a, kLen_r, inB_e, inR_e, cpOK_e, swt_n, swt_c, List.take_succ_cons, List.take_zero, List.drop_succ_cons, List.drop_zero, List.reverse_cons, List.reverse_nil, List.nil_append, List.cons_append, List.length_cons, List.length_nil, Option.toList_some, Option.toList_none, det_e, det_x, tr_imp, fa_imp, implies_true, not_true, not_false_eq_true, and_true, true_and, nar_i, upd_s, st1_0, st1_1, st1_2, st1_3, st1_4, st1_5, st1_6, st1_7, st1_8, st1_9, st1_10, st1_11, st1_12, st1_13, st1_14, st1_15, st1_16, st1_17, st1_18, st1_19, st1_20, st1_21, st1_22, st1_23, st1_24, st1_25, st1_26, st1_27, st1_28, st1_29, st1_30, st1_31, st1_32, st1_33, st1_34, st1_35, st1_36, st1_37, st1_42, st1_43, st1_44, st1_46, st1_47, st1_48, st1_49, st1_50, st1_51, st1_52, st1_53, st1_54, st1_55, st1_56, st1_57, st1_58, st1_59, st1_60, S99, sHp, hp, ho, kx, v01, t00, m1, m2, hnd, hxF, ctx, gK_sI, orE_n, orE_s, h1, h2, Nat.zero_le, Nat.reduceLT, Nat.reduceEqDiff, reduceIte, reduceCtorEq, and_self, and_true, true_and, and_false, false_and, or_false, false_or, true_or, Option.some.injEq, implies_true, Nat.le_refl]
    · simp only [rL_run_0, kL_run_0, rL_run_12, kL_run_12, rL_run_15, kL_run_15, rL_run_18, kL_run_18, bk_c, if_true, if_false, wi_e, wl_e, wr_e, w1_i, w1_r, ldS_0, ldS_s, vi_e, vl_e, vr_e, dpL_u, dpL_i, dpL_r, dpL_l, stS_0, stS_1, stS_s, stL_0, stL_1, stL_s, bin_0, bin_1, bin_2, bin_3, bin_4, bin_5, bdv_0, bdv_1, lbin_0, lbin_1, lbin_2, cnd_0, cnd_1, cnd_2, cnd_3, cnd_4, cnd_5, aty_0, aty_1, aty_2, aty_3, aty_4, aty_5, c8_u, cn_0, cn_i, cn_r, cn_l, Nat.reduceAdd, Nat.reduceLeDiff, Nat.le_refl, adz, hnd_0, rcv_0, rcv_1, kLen_a, kLen_r, inB_e, inR_e, cpOK_e, swt_n, swt_c, List.take_succ_cons, List.take_zero, List.drop_succ_cons, List.drop_zero, List.reverse_cons, List.reverse_nil, List.nil_append, List.cons_append, List.length_cons, List.length_nil, Option.toList_some, Option.toList_none, det_e, det_x, tr_imp, fa_imp, implies_true, not_true, not_false_eq_true, and_true, true_and, nar_i, upd_s, st1_0, st1_1, st1_2, st1_3, st1_4, st1_5, st1_6, st1_7, st1_8, st1_9, st1_10, st1_11, st1_12, st1_13, st1_14, st1_15, st1_16, st1_17, st1_18, st1_19, st1_20, st1_21, st1_22, st1_23, st1_24, st1_25, st1_26, st1_27, st1_28, st1_29, st1_30, st1_31, st1_32, st1_33, st1_34, st1_35, st1_36, st1_37, st1_42, st1_43, st1_44, st1_46, st1_47, st1_48, st1_49, st1_50, st1_51, st1_52, st1_53, st1_54, st1_55, st1_56, st1_57, st1_58, st1_59, st1_60, S99, sHp, hp, ho, kx, v01, t00, m1, m2, hnd, hxF, ctx, gK_sI, orE_n, orE_s, h1, h2, Nat.zero_le, Nat.reduceLT, Nat.reduceEqDiff, reduceIte, reduceCtorEq, and_self, and_true, true_and, and_false, false_and, or_false, false_or, true_or, Option.some.injEq, implies_true, Nat.le_refl]
      rintro _ _ ⟨rfl, z, hz, rfl⟩
      simp only [rL_run_0, kL_run_0, rL_run_12, kL_run_12, rL_run_15, kL_run_15, rL_run_18, kL_run_18, bk_c, if_true, if_false, wi_e, wl_e, wr_e, w1_i, w1_r, ldS_0, ldS_s, vi_e, vl_e, vr_e, dpL_u, dpL_i, dpL_r, dpL_l, stS_0, stS_1, stS_s, stL_0, stL_1, stL_s, bin_0, bin_1, bin_2, bin_3, bin_4, bin_5, bdv_0, bdv_1, lbin_0, lbin_1, lbin_2, cnd_0, cnd_1, cnd_2, cnd_3, cnd_4, cnd_5, aty_0, aty_1, aty_2, aty_3, aty_4, aty_5, c8_u, cn_0, cn_i, cn_r, cn_l, Nat.reduceAdd, Nat.reduceLeDiff, Nat.le_refl, adz, hnd_0, rcv_0, rcv_1, kLen_a, kLen_r, inB_e, inR_e, cpOK_e, swt_n, swt_c, List.take_succ_cons, List.take_zero, List.drop_succ_cons, List.drop_zero, List.reverse_cons, List.reverse_nil, List.nil_append, List.cons_append, List.length_cons, List.length_nil, Option.toList_some, Option.toList_none, det_e, det_x, tr_imp, fa_imp, implies_true, not_true, not_false_eq_true, and_true, true_and, nar_i, upd_s, st1_0, st1_1, st1_2, st1_3, st1_4, st1_5, st1_6, st1_7, st1_8, st1_9, st1_10, st1_11, st1_12, st1_13, st1_14, st1_15, st1_16, st1_17, st1_18, st1_19, st1_20, st1_21, st1_22, st1_23, st1_24, st1_25, st1_26, st1_27, st1_28, st1_29, st1_30, st1_31, st1_32, st1_33, st1_34, st1_35, st1_36, st1_37, st1_42, st1_43, st1_44, st1_46, st1_47, st1_48, st1_49, st1_50, st1_51, st1_52, st1_53, st1_54, st1_55, st1_56, st1_57, st1_58, st1_59, st1_60, Nat.reduceEqDiff, reduceIte]
      first
        | exact fun q => ⟨_, z, rfl, rfl, hz, rfl⟩
        | exact fun q => ⟨_, z, rfl, hz, rfl⟩
  · simp only [rL_run_0, kL_run_0, rL_run_12, kL_run_12, rL_run_15, kL_run_15, rL_run_18, kL_run_18, bk_c, if_true, if_false, wi_e, wl_e, wr_e, w1_i, w1_r, ldS_0, ldS_s, vi_e, vl_e, vr_e, dpL_u, dpL_i, dpL_r, dpL_l, stS_0, stS_1, stS_s, stL_0, stL_1, stL_s, bin_0, bin_1, bin_2, bin_3, bin_4, bin_5, bdv_0, bdv_1, lbin_0, lbin_1, lbin_2, cnd_0, cnd_1, cnd_2, cnd_3, cnd_4, cnd_5, aty_0, aty_1, aty_2, aty_3, aty_4, aty_5, c8_u, cn_0, cn_i, cn_r, cn_l, Nat.reduceAdd, Nat.reduceLeDiff, Nat.le_refl, adz, hnd_0, rcv_0, rcv_1, kLen_a, kLen_r, inB_e, inR_e, cpOK_e, swt_n, swt_c, List.take_succ_cons, List.take_zero, List.drop_succ_cons, List.drop_zero, List.reverse_cons, List.reverse_nil, List.nil_append, List.cons_append, List.length_cons, List.length_nil, Option.toList_some, Option.toList_none, det_e, det_x, tr_imp, fa_imp, implies_true, not_true, not_false_eq_true, and_true, true_and, nar_i, upd_s, st1_0, st1_1, st1_2, st1_3, st1_4, st1_5, st1_6, st1_7, st1_8, st1_9, st1_10, st1_11, st1_12, st1_13, st1_14, st1_15, st1_16, st1_17, st1_18, st1_19, st1_20, st1_21, st1_22, st1_23, st1_24, st1_25, st1_26, st1_27, st1_28, st1_29, st1_30, st1_31, st1_32, st1_33, st1_34, st1_35, st1_36, st1_37, st1_42, st1_43, st1_44, st1_46, st1_47, st1_48, st1_49, st1_50, st1_51, st1_52, st1_53, st1_54, st1_55, st1_56, st1_57, st1_58, st1_59, st1_60, S99, sHp, hp, ho, kx, v01, t00, m1, m2, hnd, hxF, ctx, gK_sI, orE_n, orE_s, h1, Nat.zero_le, Nat.reduceLT, Nat.reduceEqDiff, reduceIte, reduceCtorEq, and_self, and_true, true_and, and_false, false_and, or_false, false_or, true_or, Option.some.injEq, implies_true, Nat.le_refl]
    rintro _ _ ⟨rfl, z, hz, rfl⟩
    simp only [rL_run_0, kL_run_0, rL_run_12, kL_run_12, rL_run_15, kL_run_15, rL_run_18, kL_run_18, bk_c, if_true, if_false, wi_e, wl_e, wr_e, w1_i, w1_r, ldS_0, ldS_s, vi_e, vl_e, vr_e, dpL_u, dpL_i, dpL_r, dpL_l, stS_0, stS_1, stS_s, stL_0, stL_1, stL_s, bin_0, bin_1, bin_2, bin_3, bin_4, bin_5, bdv_0, bdv_1, lbin_0, lbin_1, lbin_2, cnd_0, cnd_1, cnd_2, cnd_3, cnd_4, cnd_5, aty_0, aty_1, aty_2, aty_3, aty_4, aty_5, c8_u, cn_0, cn_i, cn_r, cn_l, Nat.reduceAdd, Nat.reduceLeDiff, Nat.le_refl, adz, hnd_0, rcv_0, rcv_1, kLen_a, kLen_r, inB_e, inR_e, cpOK_e, swt_n, swt_c, List.take_succ_cons, List.take_zero, List.drop_succ_cons, List.drop_zero, List.reverse_cons, List.reverse_nil, List.nil_append, List.cons_append, List.length_cons, List.length_nil, Option.toList_some, Option.toList_none, det_e, det_x, tr_imp, fa_imp, implies_true, not_true, not_false_eq_true, and_true, true_and, nar_i, upd_s, st1_0, st1_1, st1_2, st1_3, st1_4, st1_5, st1_6, st1_7, st1_8, st1_9, st1_10, st1_11, st1_12, st1_13, st1_14, st1_15, st1_16, st1_17, st1_18, st1_19, st1_20, st1_21, st1_22, st1_23, st1_24, st1_25, st1_26, st1_27, st1_28, st1_29, st1_30, st1_31, st1_32, st1_33, st1_34, st1_35, st1_36, st1_37, st1_42, st1_43, st1_44, st1_46, st1_47, st1_48, st1_49, st1_50, st1_51, st1_52, st1_53, st1_54, st1_55, st1_56, st1_57, st1_58, st1_59, st1_60, Nat.reduceEqDiff, reduceIte]
    first
      | exact fun q => ⟨_, z, rfl, rfl, hz, rfl⟩
      | exact fun q => ⟨_, z, rfl, hz, rfl⟩
def S198 : Sem := fun as M => match as with
  | [.ref x, .int c, .ref o] => sHp (((XP M x)) ∧ gK (M) o = kA .long 1) (bI c (gI M (x + 46) 11)) (fun _ => 1) (sJ (M) o (vp_updL (gJ (M) o) 0 (Int32.toInt64 (gI M (x + 56) c.toNatClampNeg)))) M
  | _ => sF
set_option maxRecDepth 100000 in
set_option maxHeartbeats 4000000 in
theorem oL_stolen : okC 12 (cL9 198) (cF 198) (cO 198) (cR 198) (cC 198) (decide ((cY 198).name = "<init>")) false [100] kL_stolen = true := by decide +kernel
set_option maxRecDepth 100000 in
set_option maxHeartbeats 4000000 in
theorem s_L_stolen {l : Launch} {G : Gt} (hfl : l.stackTraces = false) : SatM l G 198 S198 := by
  refine sat_ofH (E := fun _ => S100) (K := kL_stolen) (ids := [100]) (hh := [(0, 9, 12, 24)]) hfl ok_198 rfl rfl (by decide) rfl oL_stolen (fun id hid => ?_) (fun as M ex N => ?_) fun as M hp => ?_
  · cases List.mem_singleton.mp hid
    exact ⟨s_X10_stolen hfl, ok_100⟩
  · unfold S198
    split
    · exact fun h => h
    · exact sF_X ex N
  unfold S198 at hp ⊢
  split at hp
  case h_2 => exact hp.elim
  rename_i x c o
  obtain ⟨hp, ho⟩ := hp
  refine ⟨Nat.le_of_ble_eq_true rfl, ?_⟩
  show Run (gT G) _ _ _ _ _ _ _ 0 [.val (.ref x), .val (.int c), .val (.ref o), .unset] [] M 0 0
  have kx : gK M x = kO 10 := hp.f.1.1
  have v01 : vp_in 0 1 = True := eq_true (vp_in_nI (n := 0) (N := 1) (by decide) (by decide))
  have t00 : (0 : Int32).toNatClampNeg = 0 := rfl
  have m1 : cM 198 = 1 := rfl
  have m2 : cS 198 = 6 := rfl
  rcases bI_or c (gI M (x + 46) 11) with h1 | h1
  · simp only [rL_stolen_0, kL_stolen_0, rL_stolen_12, kL_stolen_12, rL_stolen_15, kL_stolen_15, bk_c, if_true, if_false, wi_e, wl_e, wr_e, w1_i, w1_r, ldS_0, ldS_s, vi_e, vl_e, vr_e, dpL_u, dpL_i, dpL_r, dpL_l, stS_0, stS_1, stS_s, stL_0, stL_1, stL_s, bin_0, bin_1, bin_2, bin_3, bin_4, bin_5, bdv_0, bdv_1, lbin_0, lbin_1, lbin_2, cnd_0, cnd_1, cnd_2, cnd_3, cnd_4, cnd_5, aty_0, aty_1, aty_2, aty_3, aty_4, aty_5, c8_u, cn_0, cn_i, cn_r, cn_l, Nat.reduceAdd, Nat.reduceLeDiff, Nat.le_refl, adz, hnd_0, rcv_0, rcv_1, kLen_a, kLen_r, inB_e, inR_e, cpOK_e, swt_n, swt_c, List.take_succ_cons, List.take_zero, List.drop_succ_cons, List.drop_zero, List.reverse_cons, List.reverse_nil, List.nil_append, List.cons_append, List.length_cons, List.length_nil, Option.toList_some, Option.toList_none, det_e, det_x, tr_imp, fa_imp, implies_true, not_true, not_false_eq_true, and_true, true_and, nar_i, upd_s, st1_0, st1_1, st1_2, st1_3, st1_4, st1_5, st1_6, st1_7, st1_8, st1_9, st1_10, st1_11, st1_12, st1_13, st1_14, st1_15, st1_16, st1_17, st1_18, st1_19, st1_20, st1_21, st1_22, st1_23, st1_24, st1_25, st1_26, st1_27, st1_28, st1_29, st1_30, st1_31, st1_32, st1_33, st1_34, st1_35, st1_36, st1_37, st1_42, st1_43, st1_44, st1_46, st1_47, st1_48, st1_49, st1_50, st1_51, st1_52, st1_53, st1_54, st1_55, st1_56, st1_57, st1_58, st1_59, st1_60, S100, sHp, hp, ho, kx, v01, t00, m1, m2, hnd, hxF, ctx, gK_sI, orE_n, orE_s, h1, Nat.zero_le, Nat.reduceLT, Nat.reduceEqDiff, reduceIte, reduceCtorEq, and_self, and_true, true_and, and_false, false_and, or_false, false_or, true_or, Option.some.injEq, implies_true, Nat.le_refl]
  · simp only [rL_stolen_0, kL_stolen_0, rL_stolen_12, kL_stolen_12, rL_stolen_15, kL_stolen_15, bk_c, if_true, if_false, wi_e, wl_e, wr_e, w1_i, w1_r, ldS_0, ldS_s, vi_e, vl_e, vr_e, dpL_u, dpL_i, dpL_r, dpL_l, stS_0, stS_1, stS_s, stL_0, stL_1, stL_s, bin_0, bin_1, bin_2, bin_3, bin_4, bin_5, bdv_0, bdv_1, lbin_0, lbin_1, lbin_2, cnd_0, cnd_1, cnd_2, cnd_3, cnd_4, cnd_5, aty_0, aty_1, aty_2, aty_3, aty_4, aty_5, c8_u, cn_0, cn_i, cn_r, cn_l, Nat.reduceAdd, Nat.reduceLeDiff, Nat.le_refl, adz, hnd_0, rcv_0, rcv_1, kLen_a, kLen_r, inB_e, inR_e, cpOK_e, swt_n, swt_c, List.take_succ_cons, List.take_zero, List.drop_succ_cons, List.drop_zero, List.reverse_cons, List.reverse_nil, List.nil_append, List.cons_append, List.length_cons, List.length_nil, Option.toList_some, Option.toList_none, det_e, det_x, tr_imp, fa_imp, implies_true, not_true, not_false_eq_true, and_true, true_and, nar_i, upd_s, st1_0, st1_1, st1_2, st1_3, st1_4, st1_5, st1_6, st1_7, st1_8, st1_9, st1_10, st1_11, st1_12, st1_13, st1_14, st1_15, st1_16, st1_17, st1_18, st1_19, st1_20, st1_21, st1_22, st1_23, st1_24, st1_25, st1_26, st1_27, st1_28, st1_29, st1_30, st1_31, st1_32, st1_33, st1_34, st1_35, st1_36, st1_37, st1_42, st1_43, st1_44, st1_46, st1_47, st1_48, st1_49, st1_50, st1_51, st1_52, st1_53, st1_54, st1_55, st1_56, st1_57, st1_58, st1_59, st1_60, S100, sHp, hp, ho, kx, v01, t00, m1, m2, hnd, hxF, ctx, gK_sI, orE_n, orE_s, h1, Nat.zero_le, Nat.reduceLT, Nat.reduceEqDiff, reduceIte, reduceCtorEq, and_self, and_true, true_and, and_false, false_and, or_false, false_or, true_or, Option.some.injEq, implies_true, Nat.le_refl]
    rintro _ _ ⟨rfl, z, hz, rfl⟩
    simp only [rL_stolen_0, kL_stolen_0, rL_stolen_12, kL_stolen_12, rL_stolen_15, kL_stolen_15, bk_c, if_true, if_false, wi_e, wl_e, wr_e, w1_i, w1_r, ldS_0, ldS_s, vi_e, vl_e, vr_e, dpL_u, dpL_i, dpL_r, dpL_l, stS_0, stS_1, stS_s, stL_0, stL_1, stL_s, bin_0, bin_1, bin_2, bin_3, bin_4, bin_5, bdv_0, bdv_1, lbin_0, lbin_1, lbin_2, cnd_0, cnd_1, cnd_2, cnd_3, cnd_4, cnd_5, aty_0, aty_1, aty_2, aty_3, aty_4, aty_5, c8_u, cn_0, cn_i, cn_r, cn_l, Nat.reduceAdd, Nat.reduceLeDiff, Nat.le_refl, adz, hnd_0, rcv_0, rcv_1, kLen_a, kLen_r, inB_e, inR_e, cpOK_e, swt_n, swt_c, List.take_succ_cons, List.take_zero, List.drop_succ_cons, List.drop_zero, List.reverse_cons, List.reverse_nil, List.nil_append, List.cons_append, List.length_cons, List.length_nil, Option.toList_some, Option.toList_none, det_e, det_x, tr_imp, fa_imp, implies_true, not_true, not_false_eq_true, and_true, true_and, nar_i, upd_s, st1_0, st1_1, st1_2, st1_3, st1_4, st1_5, st1_6, st1_7, st1_8, st1_9, st1_10, st1_11, st1_12, st1_13, st1_14, st1_15, st1_16, st1_17, st1_18, st1_19, st1_20, st1_21, st1_22, st1_23, st1_24, st1_25, st1_26, st1_27, st1_28, st1_29, st1_30, st1_31, st1_32, st1_33, st1_34, st1_35, st1_36, st1_37, st1_42, st1_43, st1_44, st1_46, st1_47, st1_48, st1_49, st1_50, st1_51, st1_52, st1_53, st1_54, st1_55, st1_56, st1_57, st1_58, st1_59, st1_60, Nat.reduceEqDiff, reduceIte]
    first
      | exact fun q => ⟨_, z, rfl, rfl, hz, rfl⟩
      | exact fun q => ⟨_, z, rfl, hz, rfl⟩
def S199 : Sem := fun as M => match as with
  | [.ref x, .int c, .int h, .int a, .ref o] => sHp (((XH M x)) ∧ gK ((suR M x c h a).2) o = kA .long 1) (orE (bI c (gI M (x + 37) 8)) (bR h 1 50)) (fun e => if e = 1 then 1 else 2) (sJ ((suR M x c h a).2) o (vp_updL (gJ ((suR M x c h a).2) o) 0 (Int32.toInt64 (suR M x c h a).1))) M
  | _ => sF
set_option maxRecDepth 100000 in
set_option maxHeartbeats 4000000 in
theorem oL_suspect : okC 12 (cL9 199) (cF 199) (cO 199) (cR 199) (cC 199) (decide ((cY 199).name = "<init>")) false [101] kL_suspect = true := by decide +kernel
set_option maxRecDepth 100000 in
set_option maxHeartbeats 4000000 in
theorem s_L_suspect {l : Launch} {G : Gt} (hfl : l.stackTraces = false) : SatM l G 199 S199 := by
  refine sat_ofH (E := fun _ => S101) (K := kL_suspect) (ids := [101]) (hh := [(0, 12, 15, 24), (0, 12, 19, 13)]) hfl ok_199 rfl rfl (by decide) rfl oL_suspect (fun id hid => ?_) (fun as M ex N => ?_) fun as M hp => ?_
  · cases List.mem_singleton.mp hid
    exact ⟨s_X10_suspect hfl, ok_101⟩
  · unfold S199
    split
    · exact fun h => h
    · exact sF_X ex N
  unfold S199 at hp ⊢
  split at hp
  case h_2 => exact hp.elim
  rename_i x c h a o
  obtain ⟨hp, ho⟩ := hp
  refine ⟨Nat.le_of_ble_eq_true rfl, ?_⟩
  show Run (gT G) _ _ _ _ _ _ _ 0 [.val (.ref x), .val (.int c), .val (.int h), .val (.int a), .val (.ref o), .unset] [] M 0 0
  have kx : gK M x = kO 10 := hp.1.f.1.1
  have v01 : vp_in 0 1 = True := eq_true (vp_in_nI (n := 0) (N := 1) (by decide) (by decide))
  have t00 : (0 : Int32).toNatClampNeg = 0 := rfl
  have m1 : cM 199 = 2 := rfl
  have m2 : cS 199 = 12 := rfl
  rcases bI_or c (gI M (x + 37) 8) with h1 | h1
  · rcases bR_or h 1 50 with h2 | h2
    · simp only [rL_suspect_0, kL_suspect_0, rL_suspect_15, kL_suspect_15, rL_suspect_19, kL_suspect_19, rL_suspect_23, kL_suspect_23, bk_c, if_true, if_false, wi_e, wl_e, wr_e, w1_i, w1_r, ldS_0, ldS_s, vi_e, vl_e, vr_e, dpL_u, dpL_i, dpL_r, dpL_l, stS_0, stS_1, stS_s, stL_0, stL_1, stL_s, bin_0, bin_1, bin_2, bin_3, bin_4, bin_5, bdv_0, bdv_1, lbin_0, lbin_1, lbin_2, cnd_0, cnd_1, cnd_2, cnd_3, cnd_4, cnd_5, aty_0, aty_1, aty_2, aty_3, aty_4, aty_5, c8_u, cn_0, cn_i, cn_r, cn_l, Nat.reduceAdd, Nat.reduceLeDiff, Nat.le_refl, adz, hnd_0, rcv_0, rcv_1, kLen_a, kLen_r, inB_e, inR_e, cpOK_e, swt_n, swt_c, List.take_succ_cons, List.take_zero, List.drop_succ_cons, List.drop_zero, List.reverse_cons, List.reverse_nil, List.nil_append, List.cons_append, List.length_cons, List.length_nil, Option.toList_some, Option.toList_none, det_e, det_x, tr_imp, fa_imp, implies_true, not_true, not_false_eq_true, and_true, true_and, nar_i, upd_s, st1_0, st1_1, st1_2, st1_3, st1_4, st1_5, st1_6, st1_7, st1_8, st1_9, st1_10, st1_11, st1_12, st1_13, st1_14, st1_15, st1_16, st1_17, st1_18, st1_19, st1_20, st1_21, st1_22, st1_23, st1_24, st1_25, st1_26, st1_27, st1_28, st1_29, st1_30, st1_31, st1_32, st1_33, st1_34, st1_35, st1_36, st1_37, st1_42, st1_43, st1_44, st1_46, st1_47, st1_48, st1_49, st1_50, st1_51, st1_52, st1_53, st1_54, st1_55, st1_56, st1_57, st1_58, st1_59, st1_60, S101, sHp, hp, ho, kx, v01, t00, m1, m2, hnd, hxF, ctx, gK_sI, orE_n, orE_s, h1, h2, Nat.zero_le, Nat.reduceLT, Nat.reduceEqDiff, reduceIte, reduceCtorEq, and_self, and_true, true_and, and_false, false_and, or_false, false_or, true_or, Option.some.injEq, implies_true, Nat.le_refl]
    · simp only [rL_suspect_0, kL_suspect_0, rL_suspect_15, kL_suspect_15, rL_suspect_19, kL_suspect_19, rL_suspect_23, kL_suspect_23, bk_c, if_true, if_false, wi_e, wl_e, wr_e, w1_i, w1_r, ldS_0, ldS_s, vi_e, vl_e, vr_e, dpL_u, dpL_i, dpL_r, dpL_l, stS_0, stS_1, stS_s, stL_0, stL_1, stL_s, bin_0, bin_1, bin_2, bin_3, bin_4, bin_5, bdv_0, bdv_1, lbin_0, lbin_1, lbin_2, cnd_0, cnd_1, cnd_2, cnd_3, cnd_4, cnd_5, aty_0, aty_1, aty_2, aty_3, aty_4, aty_5, c8_u, cn_0, cn_i, cn_r, cn_l, Nat.reduceAdd, Nat.reduceLeDiff, Nat.le_refl, adz, hnd_0, rcv_0, rcv_1, kLen_a, kLen_r, inB_e, inR_e, cpOK_e, swt_n, swt_c, List.take_succ_cons, List.take_zero, List.drop_succ_cons, List.drop_zero, List.reverse_cons, List.reverse_nil, List.nil_append, List.cons_append, List.length_cons, List.length_nil, Option.toList_some, Option.toList_none, det_e, det_x, tr_imp, fa_imp, implies_true, not_true, not_false_eq_true, and_true, true_and, nar_i, upd_s, st1_0, st1_1, st1_2, st1_3, st1_4, st1_5, st1_6, st1_7, st1_8, st1_9, st1_10, st1_11, st1_12, st1_13, st1_14, st1_15, st1_16, st1_17, st1_18, st1_19, st1_20, st1_21, st1_22, st1_23, st1_24, st1_25, st1_26, st1_27, st1_28, st1_29, st1_30, st1_31, st1_32, st1_33, st1_34, st1_35, st1_36, st1_37, st1_42, st1_43, st1_44, st1_46, st1_47, st1_48, st1_49, st1_50, st1_51, st1_52, st1_53, st1_54, st1_55, st1_56, st1_57, st1_58, st1_59, st1_60, S101, sHp, hp, ho, kx, v01, t00, m1, m2, hnd, hxF, ctx, gK_sI, orE_n, orE_s, h1, h2, Nat.zero_le, Nat.reduceLT, Nat.reduceEqDiff, reduceIte, reduceCtorEq, and_self, and_true, true_and, and_false, false_and, or_false, false_or, true_or, Option.some.injEq, implies_true, Nat.le_refl]
      rintro _ _ ⟨rfl, z, hz, rfl⟩
      simp only [rL_suspect_0, kL_suspect_0, rL_suspect_15, kL_suspect_15, rL_suspect_19, kL_suspect_19, rL_suspect_23, kL_suspect_23, bk_c, if_true, if_false, wi_e, wl_e, wr_e, w1_i, w1_r, ldS_0, ldS_s, vi_e, vl_e, vr_e, dpL_u, dpL_i, dpL_r, dpL_l, stS_0, stS_1, stS_s, stL_0, stL_1, stL_s, bin_0, bin_1, bin_2, bin_3, bin_4, bin_5, bdv_0, bdv_1, lbin_0, lbin_1, lbin_2, cnd_0, cnd_1, cnd_2, cnd_3, cnd_4, cnd_5, aty_0, aty_1, aty_2, aty_3, aty_4, aty_5, c8_u, cn_0, cn_i, cn_r, cn_l, Nat.reduceAdd, Nat.reduceLeDiff, Nat.le_refl, adz, hnd_0, rcv_0, rcv_1, kLen_a, kLen_r, inB_e, inR_e, cpOK_e, swt_n, swt_c, List.take_succ_cons, List.take_zero, List.drop_succ_cons, List.drop_zero, List.reverse_cons, List.reverse_nil, List.nil_append, List.cons_append, List.length_cons, List.length_nil, Option.toList_some, Option.toList_none, det_e, det_x, tr_imp, fa_imp, implies_true, not_true, not_false_eq_true, and_true, true_and, nar_i, upd_s, st1_0, st1_1, st1_2, st1_3, st1_4, st1_5, st1_6, st1_7, st1_8, st1_9, st1_10, st1_11, st1_12, st1_13, st1_14, st1_15, st1_16, st1_17, st1_18, st1_19, st1_20, st1_21, st1_22, st1_23, st1_24, st1_25, st1_26, st1_27, st1_28, st1_29, st1_30, st1_31, st1_32, st1_33, st1_34, st1_35, st1_36, st1_37, st1_42, st1_43, st1_44, st1_46, st1_47, st1_48, st1_49, st1_50, st1_51, st1_52, st1_53, st1_54, st1_55, st1_56, st1_57, st1_58, st1_59, st1_60, Nat.reduceEqDiff, reduceIte]
      first
        | exact fun q => ⟨_, z, rfl, rfl, hz, rfl⟩
        | exact fun q => ⟨_, z, rfl, hz, rfl⟩
  · simp only [rL_suspect_0, kL_suspect_0, rL_suspect_15, kL_suspect_15, rL_suspect_19, kL_suspect_19, rL_suspect_23, kL_suspect_23, bk_c, if_true, if_false, wi_e, wl_e, wr_e, w1_i, w1_r, ldS_0, ldS_s, vi_e, vl_e, vr_e, dpL_u, dpL_i, dpL_r, dpL_l, stS_0, stS_1, stS_s, stL_0, stL_1, stL_s, bin_0, bin_1, bin_2, bin_3, bin_4, bin_5, bdv_0, bdv_1, lbin_0, lbin_1, lbin_2, cnd_0, cnd_1, cnd_2, cnd_3, cnd_4, cnd_5, aty_0, aty_1, aty_2, aty_3, aty_4, aty_5, c8_u, cn_0, cn_i, cn_r, cn_l, Nat.reduceAdd, Nat.reduceLeDiff, Nat.le_refl, adz, hnd_0, rcv_0, rcv_1, kLen_a, kLen_r, inB_e, inR_e, cpOK_e, swt_n, swt_c, List.take_succ_cons, List.take_zero, List.drop_succ_cons, List.drop_zero, List.reverse_cons, List.reverse_nil, List.nil_append, List.cons_append, List.length_cons, List.length_nil, Option.toList_some, Option.toList_none, det_e, det_x, tr_imp, fa_imp, implies_true, not_true, not_false_eq_true, and_true, true_and, nar_i, upd_s, st1_0, st1_1, st1_2, st1_3, st1_4, st1_5, st1_6, st1_7, st1_8, st1_9, st1_10, st1_11, st1_12, st1_13, st1_14, st1_15, st1_16, st1_17, st1_18, st1_19, st1_20, st1_21, st1_22, st1_23, st1_24, st1_25, st1_26, st1_27, st1_28, st1_29, st1_30, st1_31, st1_32, st1_33, st1_34, st1_35, st1_36, st1_37, st1_42, st1_43, st1_44, st1_46, st1_47, st1_48, st1_49, st1_50, st1_51, st1_52, st1_53, st1_54, st1_55, st1_56, st1_57, st1_58, st1_59, st1_60, S101, sHp, hp, ho, kx, v01, t00, m1, m2, hnd, hxF, ctx, gK_sI, orE_n, orE_s, h1, Nat.zero_le, Nat.reduceLT, Nat.reduceEqDiff, reduceIte, reduceCtorEq, and_self, and_true, true_and, and_false, false_and, or_false, false_or, true_or, Option.some.injEq, implies_true, Nat.le_refl]
    rintro _ _ ⟨rfl, z, hz, rfl⟩
    simp only [rL_suspect_0, kL_suspect_0, rL_suspect_15, kL_suspect_15, rL_suspect_19, kL_suspect_19, rL_suspect_23, kL_suspect_23, bk_c, if_true, if_false, wi_e, wl_e, wr_e, w1_i, w1_r, ldS_0, ldS_s, vi_e, vl_e, vr_e, dpL_u, dpL_i, dpL_r, dpL_l, stS_0, stS_1, stS_s, stL_0, stL_1, stL_s, bin_0, bin_1, bin_2, bin_3, bin_4, bin_5, bdv_0, bdv_1, lbin_0, lbin_1, lbin_2, cnd_0, cnd_1, cnd_2, cnd_3, cnd_4, cnd_5, aty_0, aty_1, aty_2, aty_3, aty_4, aty_5, c8_u, cn_0, cn_i, cn_r, cn_l, Nat.reduceAdd, Nat.reduceLeDiff, Nat.le_refl, adz, hnd_0, rcv_0, rcv_1, kLen_a, kLen_r, inB_e, inR_e, cpOK_e, swt_n, swt_c, List.take_succ_cons, List.take_zero, List.drop_succ_cons, List.drop_zero, List.reverse_cons, List.reverse_nil, List.nil_append, List.cons_append, List.length_cons, List.length_nil, Option.toList_some, Option.toList_none, det_e, det_x, tr_imp, fa_imp, implies_true, not_true, not_false_eq_true, and_true, true_and, nar_i, upd_s, st1_0, st1_1, st1_2, st1_3, st1_4, st1_5, st1_6, st1_7, st1_8, st1_9, st1_10, st1_11, st1_12, st1_13, st1_14, st1_15, st1_16, st1_17, st1_18, st1_19, st1_20, st1_21, st1_22, st1_23, st1_24, st1_25, st1_26, st1_27, st1_28, st1_29, st1_30, st1_31, st1_32, st1_33, st1_34, st1_35, st1_36, st1_37, st1_42, st1_43, st1_44, st1_46, st1_47, st1_48, st1_49, st1_50, st1_51, st1_52, st1_53, st1_54, st1_55, st1_56, st1_57, st1_58, st1_59, st1_60, Nat.reduceEqDiff, reduceIte]
    first
      | exact fun q => ⟨_, z, rfl, rfl, hz, rfl⟩
      | exact fun q => ⟨_, z, rfl, hz, rfl⟩
def S200 : Sem := fun as M => match as with
  | [.ref x, .int i, .int j, .ref o] => sHp (((XP M x)) ∧ gK ((swM M x i j)) o = kA .long 1) (orE (bI i (gI M (x + 58) 2)) (bI j (gI M (x + 58) 2))) (fun _ => 1) (sJ ((swM M x i j)) o (vp_updL (gJ ((swM M x i j)) o) 0 (Int32.toInt64 (villV (swM M x i j) (x + 58) (gI (swM M x i j) (x + 36) 6))))) M
  | _ => sF
set_option maxRecDepth 100000 in
set_option maxHeartbeats 4000000 in
theorem oL_swapTurns : okC 12 (cL9 200) (cF 200) (cO 200) (cR 200) (cC 200) (decide ((cY 200).name = "<init>")) false [102] kL_swapTurns = true := by decide +kernel
set_option maxRecDepth 100000 in
set_option maxHeartbeats 4000000 in
theorem s_L_swapTurns {l : Launch} {G : Gt} (hfl : l.stackTraces = false) : SatM l G 200 S200 := by
  refine sat_ofH (E := fun _ => S102) (K := kL_swapTurns) (ids := [102]) (hh := [(0, 10, 13, 24)]) hfl ok_200 rfl rfl (by decide) rfl oL_swapTurns (fun id hid => ?_) (fun as M ex N => ?_) fun as M hp => ?_
  · cases List.mem_singleton.mp hid
    exact ⟨s_X10_swapTurns hfl, ok_102⟩
  · unfold S200
    split
    · exact fun h => h
    · exact sF_X ex N
  unfold S200 at hp ⊢
  split at hp
  case h_2 => exact hp.elim
  rename_i x i j o
  obtain ⟨hp, ho⟩ := hp
  refine ⟨Nat.le_of_ble_eq_true rfl, ?_⟩
  show Run (gT G) _ _ _ _ _ _ _ 0 [.val (.ref x), .val (.int i), .val (.int j), .val (.ref o), .unset] [] M 0 0
  have kx : gK M x = kO 10 := hp.f.1.1
  have v01 : vp_in 0 1 = True := eq_true (vp_in_nI (n := 0) (N := 1) (by decide) (by decide))
  have t00 : (0 : Int32).toNatClampNeg = 0 := rfl
  have m1 : cM 200 = 2 := rfl
  have m2 : cS 200 = 12 := rfl
  rcases bI_or i (gI M (x + 58) 2) with h1 | h1
  · rcases bI_or j (gI M (x + 58) 2) with h2 | h2
    · simp only [rL_swapTurns_0, kL_swapTurns_0, rL_swapTurns_13, kL_swapTurns_13, rL_swapTurns_17, kL_swapTurns_17, bk_c, if_true, if_false, wi_e, wl_e, wr_e, w1_i, w1_r, ldS_0, ldS_s, vi_e, vl_e, vr_e, dpL_u, dpL_i, dpL_r, dpL_l, stS_0, stS_1, stS_s, stL_0, stL_1, stL_s, bin_0, bin_1, bin_2, bin_3, bin_4, bin_5, bdv_0, bdv_1, lbin_0, lbin_1, lbin_2, cnd_0, cnd_1, cnd_2, cnd_3, cnd_4, cnd_5, aty_0, aty_1, aty_2, aty_3, aty_4, aty_5, c8_u, cn_0, cn_i, cn_r, cn_l, Nat.reduceAdd, Nat.reduceLeDiff, Nat.le_refl, adz, hnd_0, rcv_0, rcv_1, kLen_a, kLen_r, inB_e, inR_e, cpOK_e, swt_n, swt_c, List.take_succ_cons, List.take_zero, List.drop_succ_cons, List.drop_zero, List.reverse_cons, List.reverse_nil, List.nil_append, List.cons_append, List.length_cons, List.length_nil, Option.toList_some, Option.toList_none, det_e, det_x, tr_imp, fa_imp, implies_true, not_true, not_false_eq_true, and_true, true_and, nar_i, upd_s, st1_0, st1_1, st1_2, st1_3, st1_4, st1_5, st1_6, st1_7, st1_8, st1_9, st1_10, st1_11, st1_12, st1_13, st1_14, st1_15, st1_16, st1_17, st1_18, st1_19, st1_20, st1_21, st1_22, st1_23, st1_24, st1_25, st1_26, st1_27, st1_28, st1_29, st1_30, st1_31, st1_32, st1_33, st1_34, st1_35, st1_36, st1_37, st1_42, st1_43, st1_44, st1_46, st1_47, st1_48, st1_49, st1_50, st1_51, st1_52, st1_53, st1_54, st1_55, st1_56, st1_57, st1_58, st1_59, st1_60, S102, sHp, hp, ho, kx, v01, t00, m1, m2, hnd, hxF, ctx, gK_sI, orE_n, orE_s, h1, h2, Nat.zero_le, Nat.reduceLT, Nat.reduceEqDiff, reduceIte, reduceCtorEq, and_self, and_true, true_and, and_false, false_and, or_false, false_or, true_or, Option.some.injEq, implies_true, Nat.le_refl]
    · simp only [rL_swapTurns_0, kL_swapTurns_0, rL_swapTurns_13, kL_swapTurns_13, rL_swapTurns_17, kL_swapTurns_17, bk_c, if_true, if_false, wi_e, wl_e, wr_e, w1_i, w1_r, ldS_0, ldS_s, vi_e, vl_e, vr_e, dpL_u, dpL_i, dpL_r, dpL_l, stS_0, stS_1, stS_s, stL_0, stL_1, stL_s, bin_0, bin_1, bin_2, bin_3, bin_4, bin_5, bdv_0, bdv_1, lbin_0, lbin_1, lbin_2, cnd_0, cnd_1, cnd_2, cnd_3, cnd_4, cnd_5, aty_0, aty_1, aty_2, aty_3, aty_4, aty_5, c8_u, cn_0, cn_i, cn_r, cn_l, Nat.reduceAdd, Nat.reduceLeDiff, Nat.le_refl, adz, hnd_0, rcv_0, rcv_1, kLen_a, kLen_r, inB_e, inR_e, cpOK_e, swt_n, swt_c, List.take_succ_cons, List.take_zero, List.drop_succ_cons, List.drop_zero, List.reverse_cons, List.reverse_nil, List.nil_append, List.cons_append, List.length_cons, List.length_nil, Option.toList_some, Option.toList_none, det_e, det_x, tr_imp, fa_imp, implies_true, not_true, not_false_eq_true, and_true, true_and, nar_i, upd_s, st1_0, st1_1, st1_2, st1_3, st1_4, st1_5, st1_6, st1_7, st1_8, st1_9, st1_10, st1_11, st1_12, st1_13, st1_14, st1_15, st1_16, st1_17, st1_18, st1_19, st1_20, st1_21, st1_22, st1_23, st1_24, st1_25, st1_26, st1_27, st1_28, st1_29, st1_30, st1_31, st1_32, st1_33, st1_34, st1_35, st1_36, st1_37, st1_42, st1_43, st1_44, st1_46, st1_47, st1_48, st1_49, st1_50, st1_51, st1_52, st1_53, st1_54, st1_55, st1_56, st1_57, st1_58, st1_59, st1_60, S102, sHp, hp, ho, kx, v01, t00, m1, m2, hnd, hxF, ctx, gK_sI, orE_n, orE_s, h1, h2, Nat.zero_le, Nat.reduceLT, Nat.reduceEqDiff, reduceIte, reduceCtorEq, and_self, and_true, true_and, and_false, false_and, or_false, false_or, true_or, Option.some.injEq, implies_true, Nat.le_refl]
      rintro _ _ ⟨rfl, z, hz, rfl⟩
      simp only [rL_swapTurns_0, kL_swapTurns_0, rL_swapTurns_13, kL_swapTurns_13, rL_swapTurns_17, kL_swapTurns_17, bk_c, if_true, if_false, wi_e, wl_e, wr_e, w1_i, w1_r, ldS_0, ldS_s, vi_e, vl_e, vr_e, dpL_u, dpL_i, dpL_r, dpL_l, stS_0, stS_1, stS_s, stL_0, stL_1, stL_s, bin_0, bin_1, bin_2, bin_3, bin_4, bin_5, bdv_0, bdv_1, lbin_0, lbin_1, lbin_2, cnd_0, cnd_1, cnd_2, cnd_3, cnd_4, cnd_5, aty_0, aty_1, aty_2, aty_3, aty_4, aty_5, c8_u, cn_0, cn_i, cn_r, cn_l, Nat.reduceAdd, Nat.reduceLeDiff, Nat.le_refl, adz, hnd_0, rcv_0, rcv_1, kLen_a, kLen_r, inB_e, inR_e, cpOK_e, swt_n, swt_c, List.take_succ_cons, List.take_zero, List.drop_succ_cons, List.drop_zero, List.reverse_cons, List.reverse_nil, List.nil_append, List.cons_append, List.length_cons, List.length_nil, Option.toList_some, Option.toList_none, det_e, det_x, tr_imp, fa_imp, implies_true, not_true, not_false_eq_true, and_true, true_and, nar_i, upd_s, st1_0, st1_1, st1_2, st1_3, st1_4, st1_5, st1_6, st1_7, st1_8, st1_9, st1_10, st1_11, st1_12, st1_13, st1_14, st1_15, st1_16, st1_17, st1_18, st1_19, st1_20, st1_21, st1_22, st1_23, st1_24, st1_25, st1_26, st1_27, st1_28, st1_29, st1_30, st1_31, st1_32, st1_33, st1_34, st1_35, st1_36, st1_37, st1_42, st1_43, st1_44, st1_46, st1_47, st1_48, st1_49, st1_50, st1_51, st1_52, st1_53, st1_54, st1_55, st1_56, st1_57, st1_58, st1_59, st1_60, Nat.reduceEqDiff, reduceIte]
      first
        | exact fun q => ⟨_, z, rfl, rfl, hz, rfl⟩
        | exact fun q => ⟨_, z, rfl, hz, rfl⟩
  · simp only [rL_swapTurns_0, kL_swapTurns_0, rL_swapTurns_13, kL_swapTurns_13, rL_swapTurns_17, kL_swapTurns_17, bk_c, if_true, if_false, wi_e, wl_e, wr_e, w1_i, w1_r, ldS_0, ldS_s, vi_e, vl_e, vr_e, dpL_u, dpL_i, dpL_r, dpL_l, stS_0, stS_1, stS_s, stL_0, stL_1, stL_s, bin_0, bin_1, bin_2, bin_3, bin_4, bin_5, bdv_0, bdv_1, lbin_0, lbin_1, lbin_2, cnd_0, cnd_1, cnd_2, cnd_3, cnd_4, cnd_5, aty_0, aty_1, aty_2, aty_3, aty_4, aty_5, c8_u, cn_0, cn_i, cn_r, cn_l, Nat.reduceAdd, Nat.reduceLeDiff, Nat.le_refl, adz, hnd_0, rcv_0, rcv_1, kLen_a, kLen_r, inB_e, inR_e, cpOK_e, swt_n, swt_c, List.take_succ_cons, List.take_zero, List.drop_succ_cons, List.drop_zero, List.reverse_cons, List.reverse_nil, List.nil_append, List.cons_append, List.length_cons, List.length_nil, Option.toList_some, Option.toList_none, det_e, det_x, tr_imp, fa_imp, implies_true, not_true, not_false_eq_true, and_true, true_and, nar_i, upd_s, st1_0, st1_1, st1_2, st1_3, st1_4, st1_5, st1_6, st1_7, st1_8, st1_9, st1_10, st1_11, st1_12, st1_13, st1_14, st1_15, st1_16, st1_17, st1_18, st1_19, st1_20, st1_21, st1_22, st1_23, st1_24, st1_25, st1_26, st1_27, st1_28, st1_29, st1_30, st1_31, st1_32, st1_33, st1_34, st1_35, st1_36, st1_37, st1_42, st1_43, st1_44, st1_46, st1_47, st1_48, st1_49, st1_50, st1_51, st1_52, st1_53, st1_54, st1_55, st1_56, st1_57, st1_58, st1_59, st1_60, S102, sHp, hp, ho, kx, v01, t00, m1, m2, hnd, hxF, ctx, gK_sI, orE_n, orE_s, h1, Nat.zero_le, Nat.reduceLT, Nat.reduceEqDiff, reduceIte, reduceCtorEq, and_self, and_true, true_and, and_false, false_and, or_false, false_or, true_or, Option.some.injEq, implies_true, Nat.le_refl]
    rintro _ _ ⟨rfl, z, hz, rfl⟩
    simp only [rL_swapTurns_0, kL_swapTurns_0, rL_swapTurns_13, kL_swapTurns_13, rL_swapTurns_17, kL_swapTurns_17, bk_c, if_true, if_false, wi_e, wl_e, wr_e, w1_i, w1_r, ldS_0, ldS_s, vi_e, vl_e, vr_e, dpL_u, dpL_i, dpL_r, dpL_l, stS_0, stS_1, stS_s, stL_0, stL_1, stL_s, bin_0, bin_1, bin_2, bin_3, bin_4, bin_5, bdv_0, bdv_1, lbin_0, lbin_1, lbin_2, cnd_0, cnd_1, cnd_2, cnd_3, cnd_4, cnd_5, aty_0, aty_1, aty_2, aty_3, aty_4, aty_5, c8_u, cn_0, cn_i, cn_r, cn_l, Nat.reduceAdd, Nat.reduceLeDiff, Nat.le_refl, adz, hnd_0, rcv_0, rcv_1, kLen_a, kLen_r, inB_e, inR_e, cpOK_e, swt_n, swt_c, List.take_succ_cons, List.take_zero, List.drop_succ_cons, List.drop_zero, List.reverse_cons, List.reverse_nil, List.nil_append, List.cons_append, List.length_cons, List.length_nil, Option.toList_some, Option.toList_none, det_e, det_x, tr_imp, fa_imp, implies_true, not_true, not_false_eq_true, and_true, true_and, nar_i, upd_s, st1_0, st1_1, st1_2, st1_3, st1_4, st1_5, st1_6, st1_7, st1_8, st1_9, st1_10, st1_11, st1_12, st1_13, st1_14, st1_15, st1_16, st1_17, st1_18, st1_19, st1_20, st1_21, st1_22, st1_23, st1_24, st1_25, st1_26, st1_27, st1_28, st1_29, st1_30, st1_31, st1_32, st1_33, st1_34, st1_35, st1_36, st1_37, st1_42, st1_43, st1_44, st1_46, st1_47, st1_48, st1_49, st1_50, st1_51, st1_52, st1_53, st1_54, st1_55, st1_56, st1_57, st1_58, st1_59, st1_60, Nat.reduceEqDiff, reduceIte]
    first
      | exact fun q => ⟨_, z, rfl, rfl, hz, rfl⟩
      | exact fun q => ⟨_, z, rfl, hz, rfl⟩
def S201 : Sem := fun as M => match as with
  | [.ref x, .int c, .ref o] => sHp (((XP M x)) ∧ gK (M) o = kA .long 1) (bI c (gI M (x + 46) 11)) (fun _ => 1) (sJ (M) o (vp_updL (gJ (M) o) 0 (Int32.toInt64 (gI M (x + 55) c.toNatClampNeg)))) M
  | _ => sF
set_option maxRecDepth 100000 in
set_option maxHeartbeats 4000000 in
theorem oL_taken : okC 12 (cL9 201) (cF 201) (cO 201) (cR 201) (cC 201) (decide ((cY 201).name = "<init>")) false [103] kL_taken = true := by decide +kernel
set_option maxRecDepth 100000 in
set_option maxHeartbeats 4000000 in
theorem s_L_taken {l : Launch} {G : Gt} (hfl : l.stackTraces = false) : SatM l G 201 S201 := by
  refine sat_ofH (E := fun _ => S103) (K := kL_taken) (ids := [103]) (hh := [(0, 9, 12, 24)]) hfl ok_201 rfl rfl (by decide) rfl oL_taken (fun id hid => ?_) (fun as M ex N => ?_) fun as M hp => ?_
  · cases List.mem_singleton.mp hid
    exact ⟨s_X10_taken hfl, ok_103⟩
  · unfold S201
    split
    · exact fun h => h
    · exact sF_X ex N
  unfold S201 at hp ⊢
  split at hp
  case h_2 => exact hp.elim
  rename_i x c o
  obtain ⟨hp, ho⟩ := hp
  refine ⟨Nat.le_of_ble_eq_true rfl, ?_⟩
  show Run (gT G) _ _ _ _ _ _ _ 0 [.val (.ref x), .val (.int c), .val (.ref o), .unset] [] M 0 0
  have kx : gK M x = kO 10 := hp.f.1.1
  have v01 : vp_in 0 1 = True := eq_true (vp_in_nI (n := 0) (N := 1) (by decide) (by decide))
  have t00 : (0 : Int32).toNatClampNeg = 0 := rfl
  have m1 : cM 201 = 1 := rfl
  have m2 : cS 201 = 6 := rfl
  rcases bI_or c (gI M (x + 46) 11) with h1 | h1
  · simp only [rL_taken_0, kL_taken_0, rL_taken_12, kL_taken_12, rL_taken_15, kL_taken_15, bk_c, if_true, if_false, wi_e, wl_e, wr_e, w1_i, w1_r, ldS_0, ldS_s, vi_e, vl_e, vr_e, dpL_u, dpL_i, dpL_r, dpL_l, stS_0, stS_1, stS_s, stL_0, stL_1, stL_s, bin_0, bin_1, bin_2, bin_3, bin_4, bin_5, bdv_0, bdv_1, lbin_0, lbin_1, lbin_2, cnd_0, cnd_1, cnd_2, cnd_3, cnd_4, cnd_5, aty_0, aty_1, aty_2, aty_3, aty_4, aty_5, c8_u, cn_0, cn_i, cn_r, cn_l, Nat.reduceAdd, Nat.reduceLeDiff, Nat.le_refl, adz, hnd_0, rcv_0, rcv_1, kLen_a, kLen_r, inB_e, inR_e, cpOK_e, swt_n, swt_c, List.take_succ_cons, List.take_zero, List.drop_succ_cons, List.drop_zero, List.reverse_cons, List.reverse_nil, List.nil_append, List.cons_append, List.length_cons, List.length_nil, Option.toList_some, Option.toList_none, det_e, det_x, tr_imp, fa_imp, implies_true, not_true, not_false_eq_true, and_true, true_and, nar_i, upd_s, st1_0, st1_1, st1_2, st1_3, st1_4, st1_5, st1_6, st1_7, st1_8, st1_9, st1_10, st1_11, st1_12, st1_13, st1_14, st1_15, st1_16, st1_17, st1_18, st1_19, st1_20, st1_21, st1_22, st1_23, st1_24, st1_25, st1_26, st1_27, st1_28, st1_29, st1_30, st1_31, st1_32, st1_33, st1_34, st1_35, st1_36, st1_37, st1_42, st1_43, st1_44, st1_46, st1_47, st1_48, st1_49, st1_50, st1_51, st1_52, st1_53, st1_54, st1_55, st1_56, st1_57, st1_58, st1_59, st1_60, S103, sHp, hp, ho, kx, v01, t00, m1, m2, hnd, hxF, ctx, gK_sI, orE_n, orE_s, h1, Nat.zero_le, Nat.reduceLT, Nat.reduceEqDiff, reduceIte, reduceCtorEq, and_self, and_true, true_and, and_false, false_and, or_false, false_or, true_or, Option.some.injEq, implies_true, Nat.le_refl]
  · simp only [rL_taken_0, kL_taken_0, rL_taken_12, kL_taken_12, rL_taken_15, kL_taken_15, bk_c, if_true, if_false, wi_e, wl_e, wr_e, w1_i, w1_r, ldS_0, ldS_s, vi_e, vl_e, vr_e, dpL_u, dpL_i, dpL_r, dpL_l, stS_0, stS_1, stS_s, stL_0, stL_1, stL_s, bin_0, bin_1, bin_2, bin_3, bin_4, bin_5, bdv_0, bdv_1, lbin_0, lbin_1, lbin_2, cnd_0, cnd_1, cnd_2, cnd_3, cnd_4, cnd_5, aty_0, aty_1, aty_2, aty_3, aty_4, aty_5, c8_u, cn_0, cn_i, cn_r, cn_l, Nat.reduceAdd, Nat.reduceLeDiff, Nat.le_refl, adz, hnd_0, rcv_0, rcv_1, kLen_a, kLen_r, inB_e, inR_e, cpOK_e, swt_n, swt_c, List.take_succ_cons, List.take_zero, List.drop_succ_cons, List.drop_zero, List.reverse_cons, List.reverse_nil, List.nil_append, List.cons_append, List.length_cons, List.length_nil, Option.toList_some, Option.toList_none, det_e, det_x, tr_imp, fa_imp, implies_true, not_true, not_false_eq_true, and_true, true_and, nar_i, upd_s, st1_0, st1_1, st1_2, st1_3, st1_4, st1_5, st1_6, st1_7, st1_8, st1_9, st1_10, st1_11, st1_12, st1_13, st1_14, st1_15, st1_16, st1_17, st1_18, st1_19, st1_20, st1_21, st1_22, st1_23, st1_24, st1_25, st1_26, st1_27, st1_28, st1_29, st1_30, st1_31, st1_32, st1_33, st1_34, st1_35, st1_36, st1_37, st1_42, st1_43, st1_44, st1_46, st1_47, st1_48, st1_49, st1_50, st1_51, st1_52, st1_53, st1_54, st1_55, st1_56, st1_57, st1_58, st1_59, st1_60, S103, sHp, hp, ho, kx, v01, t00, m1, m2, hnd, hxF, ctx, gK_sI, orE_n, orE_s, h1, Nat.zero_le, Nat.reduceLT, Nat.reduceEqDiff, reduceIte, reduceCtorEq, and_self, and_true, true_and, and_false, false_and, or_false, false_or, true_or, Option.some.injEq, implies_true, Nat.le_refl]
    rintro _ _ ⟨rfl, z, hz, rfl⟩
    simp only [rL_taken_0, kL_taken_0, rL_taken_12, kL_taken_12, rL_taken_15, kL_taken_15, bk_c, if_true, if_false, wi_e, wl_e, wr_e, w1_i, w1_r, ldS_0, ldS_s, vi_e, vl_e, vr_e, dpL_u, dpL_i, dpL_r, dpL_l, stS_0, stS_1, stS_s, stL_0, stL_1, stL_s, bin_0, bin_1, bin_2, bin_3, bin_4, bin_5, bdv_0, bdv_1, lbin_0, lbin_1, lbin_2, cnd_0, cnd_1, cnd_2, cnd_3, cnd_4, cnd_5, aty_0, aty_1, aty_2, aty_3, aty_4, aty_5, c8_u, cn_0, cn_i, cn_r, cn_l, Nat.reduceAdd, Nat.reduceLeDiff, Nat.le_refl, adz, hnd_0, rcv_0, rcv_1, kLen_a, kLen_r, inB_e, inR_e, cpOK_e, swt_n, swt_c, List.take_succ_cons, List.take_zero, List.drop_succ_cons, List.drop_zero, List.reverse_cons, List.reverse_nil, List.nil_append, List.cons_append, List.length_cons, List.length_nil, Option.toList_some, Option.toList_none, det_e, det_x, tr_imp, fa_imp, implies_true, not_true, not_false_eq_true, and_true, true_and, nar_i, upd_s, st1_0, st1_1, st1_2, st1_3, st1_4, st1_5, st1_6, st1_7, st1_8, st1_9, st1_10, st1_11, st1_12, st1_13, st1_14, st1_15, st1_16, st1_17, st1_18, st1_19, st1_20, st1_21, st1_22, st1_23, st1_24, st1_25, st1_26, st1_27, st1_28, st1_29, st1_30, st1_31, st1_32, st1_33, st1_34, st1_35, st1_36, st1_37, st1_42, st1_43, st1_44, st1_46, st1_47, st1_48, st1_49, st1_50, st1_51, st1_52, st1_53, st1_54, st1_55, st1_56, st1_57, st1_58, st1_59, st1_60, Nat.reduceEqDiff, reduceIte]
    first
      | exact fun q => ⟨_, z, rfl, rfl, hz, rfl⟩
      | exact fun q => ⟨_, z, rfl, hz, rfl⟩
def S202 : Sem := fun as M => match as with
  | [.ref x, .int w, .ref o] => sHp (((XP M x)) ∧ gK (M) o = kA .long 1) (bR w 0 5) (fun _ => 1) (sJ (M) o (vp_updL (gJ (M) o) 0 (toV M x w))) M
  | _ => sF
set_option maxRecDepth 100000 in
set_option maxHeartbeats 4000000 in
theorem oL_total : okC 12 (cL9 202) (cF 202) (cO 202) (cR 202) (cC 202) (decide ((cY 202).name = "<init>")) false [104] kL_total = true := by decide +kernel
set_option maxRecDepth 100000 in
set_option maxHeartbeats 4000000 in
theorem s_L_total {l : Launch} {G : Gt} (hfl : l.stackTraces = false) : SatM l G 202 S202 := by
  refine sat_ofH (E := fun _ => S104) (K := kL_total) (ids := [104]) (hh := [(0, 8, 11, 13)]) hfl ok_202 rfl rfl (by decide) rfl oL_total (fun id hid => ?_) (fun as M ex N => ?_) fun as M hp => ?_
  · cases List.mem_singleton.mp hid
    exact ⟨s_X10_total hfl, ok_104⟩
  · unfold S202
    split
    · exact fun h => h
    · exact sF_X ex N
  unfold S202 at hp ⊢
  split at hp
  case h_2 => exact hp.elim
  rename_i x w o
  obtain ⟨hp, ho⟩ := hp
  refine ⟨Nat.le_of_ble_eq_true rfl, ?_⟩
  show Run (gT G) _ _ _ _ _ _ _ 0 [.val (.ref x), .val (.int w), .val (.ref o), .unset] [] M 0 0
  have kx : gK M x = kO 10 := hp.f.1.1
  have v01 : vp_in 0 1 = True := eq_true (vp_in_nI (n := 0) (N := 1) (by decide) (by decide))
  have t00 : (0 : Int32).toNatClampNeg = 0 := rfl
  have m1 : cM 202 = 1 := rfl
  have m2 : cS 202 = 6 := rfl
  rcases bR_or w 0 5 with h1 | h1
  · simp only [rL_total_0, kL_total_0, rL_total_11, kL_total_11, rL_total_14, kL_total_14, bk_c, if_true, if_false, wi_e, wl_e, wr_e, w1_i, w1_r, ldS_0, ldS_s, vi_e, vl_e, vr_e, dpL_u, dpL_i, dpL_r, dpL_l, stS_0, stS_1, stS_s, stL_0, stL_1, stL_s, bin_0, bin_1, bin_2, bin_3, bin_4, bin_5, bdv_0, bdv_1, lbin_0, lbin_1, lbin_2, cnd_0, cnd_1, cnd_2, cnd_3, cnd_4, cnd_5, aty_0, aty_1, aty_2, aty_3, aty_4, aty_5, c8_u, cn_0, cn_i, cn_r, cn_l, Nat.reduceAdd, Nat.reduceLeDiff, Nat.le_refl, adz, hnd_0, rcv_0, rcv_1, kLen_a, kLen_r, inB_e, inR_e, cpOK_e, swt_n, swt_c, List.take_succ_cons, List.take_zero, List.drop_succ_cons, List.drop_zero, List.reverse_cons, List.reverse_nil, List.nil_append, List.cons_append, List.length_cons, List.length_nil, Option.toList_some, Option.toList_none, det_e, det_x, tr_imp, fa_imp, implies_true, not_true, not_false_eq_true, and_true, true_and, nar_i, upd_s, st1_0, st1_1, st1_2, st1_3, st1_4, st1_5, st1_6, st1_7, st1_8, st1_9, st1_10, st1_11, st1_12, st1_13, st1_14, st1_15, st1_16, st1_17, st1_18, st1_19, st1_20, st1_21, st1_22, st1_23, st1_24, st1_25, st1_26, st1_27, st1_28, st1_29, st1_30, st1_31, st1_32, st1_33, st1_34, st1_35, st1_36, st1_37, st1_42, st1_43, st1_44, st1_46, st1_47, st1_48, st1_49, st1_50, st1_51, st1_52, st1_53, st1_54, st1_55, st1_56, st1_57, st1_58, st1_59, st1_60, S104, sHp, hp, ho, kx, v01, t00, m1, m2, hnd, hxF, ctx, gK_sI, orE_n, orE_s, h1, Nat.zero_le, Nat.reduceLT, Nat.reduceEqDiff, reduceIte, reduceCtorEq, and_self, and_true, true_and, and_false, false_and, or_false, false_or, true_or, Option.some.injEq, implies_true, Nat.le_refl]
  · simp only [rL_total_0, kL_total_0, rL_total_11, kL_total_11, rL_total_14, kL_total_14, bk_c, if_true, if_false, wi_e, wl_e, wr_e, w1_i, w1_r, ldS_0, ldS_s, vi_e, vl_e, vr_e, dpL_u, dpL_i, dpL_r, dpL_l, stS_0, stS_1, stS_s, stL_0, stL_1, stL_s, bin_0, bin_1, bin_2, bin_3, bin_4, bin_5, bdv_0, bdv_1, lbin_0, lbin_1, lbin_2, cnd_0, cnd_1, cnd_2, cnd_3, cnd_4, cnd_5, aty_0, aty_1, aty_2, aty_3, aty_4, aty_5, c8_u, cn_0, cn_i, cn_r, cn_l, Nat.reduceAdd, Nat.reduceLeDiff, Nat.le_refl, adz, hnd_0, rcv_0, rcv_1, kLen_a, kLen_r, inB_e, inR_e, cpOK_e, swt_n, swt_c, List.take_succ_cons, List.take_zero, List.drop_succ_cons, List.drop_zero, List.reverse_cons, List.reverse_nil, List.nil_append, List.cons_append, List.length_cons, List.length_nil, Option.toList_some, Option.toList_none, det_e, det_x, tr_imp, fa_imp, implies_true, not_true, not_false_eq_true, and_true, true_and, nar_i, upd_s, st1_0, st1_1, st1_2, st1_3, st1_4, st1_5, st1_6, st1_7, st1_8, st1_9, st1_10, st1_11, st1_12, st1_13, st1_14, st1_15, st1_16, st1_17, st1_18, st1_19, st1_20, st1_21, st1_22, st1_23, st1_24, st1_25, st1_26, st1_27, st1_28, st1_29, st1_30, st1_31, st1_32, st1_33, st1_34, st1_35, st1_36, st1_37, st1_42, st1_43, st1_44, st1_46, st1_47, st1_48, st1_49, st1_50, st1_51, st1_52, st1_53, st1_54, st1_55, st1_56, st1_57, st1_58, st1_59, st1_60, S104, sHp, hp, ho, kx, v01, t00, m1, m2, hnd, hxF, ctx, gK_sI, orE_n, orE_s, h1, Nat.zero_le, Nat.reduceLT, Nat.reduceEqDiff, reduceIte, reduceCtorEq, and_self, and_true, true_and, and_false, false_and, or_false, false_or, true_or, Option.some.injEq, implies_true, Nat.le_refl]
    rintro _ _ ⟨rfl, z, hz, rfl⟩
    simp only [rL_total_0, kL_total_0, rL_total_11, kL_total_11, rL_total_14, kL_total_14, bk_c, if_true, if_false, wi_e, wl_e, wr_e, w1_i, w1_r, ldS_0, ldS_s, vi_e, vl_e, vr_e, dpL_u, dpL_i, dpL_r, dpL_l, stS_0, stS_1, stS_s, stL_0, stL_1, stL_s, bin_0, bin_1, bin_2, bin_3, bin_4, bin_5, bdv_0, bdv_1, lbin_0, lbin_1, lbin_2, cnd_0, cnd_1, cnd_2, cnd_3, cnd_4, cnd_5, aty_0, aty_1, aty_2, aty_3, aty_4, aty_5, c8_u, cn_0, cn_i, cn_r, cn_l, Nat.reduceAdd, Nat.reduceLeDiff, Nat.le_refl, adz, hnd_0, rcv_0, rcv_1, kLen_a, kLen_r, inB_e, inR_e, cpOK_e, swt_n, swt_c, List.take_succ_cons, List.take_zero, List.drop_succ_cons, List.drop_zero, List.reverse_cons, List.reverse_nil, List.nil_append, List.cons_append, List.length_cons, List.length_nil, Option.toList_some, Option.toList_none, det_e, det_x, tr_imp, fa_imp, implies_true, not_true, not_false_eq_true, and_true, true_and, nar_i, upd_s, st1_0, st1_1, st1_2, st1_3, st1_4, st1_5, st1_6, st1_7, st1_8, st1_9, st1_10, st1_11, st1_12, st1_13, st1_14, st1_15, st1_16, st1_17, st1_18, st1_19, st1_20, st1_21, st1_22, st1_23, st1_24, st1_25, st1_26, st1_27, st1_28, st1_29, st1_30, st1_31, st1_32, st1_33, st1_34, st1_35, st1_36, st1_37, st1_42, st1_43, st1_44, st1_46, st1_47, st1_48, st1_49, st1_50, st1_51, st1_52, st1_53, st1_54, st1_55, st1_56, st1_57, st1_58, st1_59, st1_60, Nat.reduceEqDiff, reduceIte]
    first
      | exact fun q => ⟨_, z, rfl, rfl, hz, rfl⟩
      | exact fun q => ⟨_, z, rfl, hz, rfl⟩
def S203 : Sem := fun as M => match as with
  | [.ref x, .int t, .ref o] => sHp (((XP M x)) ∧ gK (M) o = kA .long 1) (bR t 0 100000) (fun _ => 1) (sJ (M) o (vp_updL (gJ (M) o) 0 (Int32.toInt64 (villV M (x + 58) t)))) M
  | _ => sF
set_option maxRecDepth 100000 in
set_option maxHeartbeats 4000000 in
theorem oL_turnAt : okC 12 (cL9 203) (cF 203) (cO 203) (cR 203) (cC 203) (decide ((cY 203).name = "<init>")) false [105] kL_turnAt = true := by decide +kernel
set_option maxRecDepth 100000 in
set_option maxHeartbeats 4000000 in
theorem s_L_turnAt {l : Launch} {G : Gt} (hfl : l.stackTraces = false) : SatM l G 203 S203 := by
  refine sat_ofH (E := fun _ => S105) (K := kL_turnAt) (ids := [105]) (hh := [(0, 9, 12, 13)]) hfl ok_203 rfl rfl (by decide) rfl oL_turnAt (fun id hid => ?_) (fun as M ex N => ?_) fun as M hp => ?_
  · cases List.mem_singleton.mp hid
    exact ⟨s_X10_turnAt hfl, ok_105⟩
  · unfold S203
    split
    · exact fun h => h
    · exact sF_X ex N
  unfold S203 at hp ⊢
  split at hp
  case h_2 => exact hp.elim
  rename_i x t o
  obtain ⟨hp, ho⟩ := hp
  refine ⟨Nat.le_of_ble_eq_true rfl, ?_⟩
  show Run (gT G) _ _ _ _ _ _ _ 0 [.val (.ref x), .val (.int t), .val (.ref o), .unset] [] M 0 0
  have kx : gK M x = kO 10 := hp.f.1.1
  have v01 : vp_in 0 1 = True := eq_true (vp_in_nI (n := 0) (N := 1) (by decide) (by decide))
  have t00 : (0 : Int32).toNatClampNeg = 0 := rfl
  have m1 : cM 203 = 1 := rfl
  have m2 : cS 203 = 6 := rfl
  rcases bR_or t 0 100000 with h1 | h1
  · simp only [rL_turnAt_0, kL_turnAt_0, rL_turnAt_12, kL_turnAt_12, rL_turnAt_15, kL_turnAt_15, bk_c, if_true, if_false, wi_e, wl_e, wr_e, w1_i, w1_r, ldS_0, ldS_s, vi_e, vl_e, vr_e, dpL_u, dpL_i, dpL_r, dpL_l, stS_0, stS_1, stS_s, stL_0, stL_1, stL_s, bin_0, bin_1, bin_2, bin_3, bin_4, bin_5, bdv_0, bdv_1, lbin_0, lbin_1, lbin_2, cnd_0, cnd_1, cnd_2, cnd_3, cnd_4, cnd_5, aty_0, aty_1, aty_2, aty_3, aty_4, aty_5, c8_u, cn_0, cn_i, cn_r, cn_l, Nat.reduceAdd, Nat.reduceLeDiff, Nat.le_refl, adz, hnd_0, rcv_0, rcv_1, kLen_a, kLen_r, inB_e, inR_e, cpOK_e, swt_n, swt_c, List.take_succ_cons, List.take_zero, List.drop_succ_cons, List.drop_zero, List.reverse_cons, List.reverse_nil, List.nil_append, List.cons_append, List.length_cons, List.length_nil, Option.toList_some, Option.toList_none, det_e, det_x, tr_imp, fa_imp, implies_true, not_true, not_false_eq_true, and_true, true_and, nar_i, upd_s, st1_0, st1_1, st1_2, st1_3, st1_4, st1_5, st1_6, st1_7, st1_8, st1_9, st1_10, st1_11, st1_12, st1_13, st1_14, st1_15, st1_16, st1_17, st1_18, st1_19, st1_20, st1_21, st1_22, st1_23, st1_24, st1_25, st1_26, st1_27, st1_28, st1_29, st1_30, st1_31, st1_32, st1_33, st1_34, st1_35, st1_36, st1_37, st1_42, st1_43, st1_44, st1_46, st1_47, st1_48, st1_49, st1_50, st1_51, st1_52, st1_53, st1_54, st1_55, st1_56, st1_57, st1_58, st1_59, st1_60, S105, sHp, hp, ho, kx, v01, t00, m1, m2, hnd, hxF, ctx, gK_sI, orE_n, orE_s, h1, Nat.zero_le, Nat.reduceLT, Nat.reduceEqDiff, reduceIte, reduceCtorEq, and_self, and_true, true_and, and_false, false_and, or_false, false_or, true_or, Option.some.injEq, implies_true, Nat.le_refl]
  · simp only [rL_turnAt_0, kL_turnAt_0, rL_turnAt_12, kL_turnAt_12, rL_turnAt_15, kL_turnAt_15, bk_c, if_true, if_false, wi_e, wl_e, wr_e, w1_i, w1_r, ldS_0, ldS_s, vi_e, vl_e, vr_e, dpL_u, dpL_i, dpL_r, dpL_l, stS_0, stS_1, stS_s, stL_0, stL_1, stL_s, bin_0, bin_1, bin_2, bin_3, bin_4, bin_5, bdv_0, bdv_1, lbin_0, lbin_1, lbin_2, cnd_0, cnd_1, cnd_2, cnd_3, cnd_4, cnd_5, aty_0, aty_1, aty_2, aty_3, aty_4, aty_5, c8_u, cn_0, cn_i, cn_r, cn_l, Nat.reduceAdd, Nat.reduceLeDiff, Nat.le_refl, adz, hnd_0, rcv_0, rcv_1, kLen_a, kLen_r, inB_e, inR_e, cpOK_e, swt_n, swt_c, List.take_succ_cons, List.take_zero, List.drop_succ_cons, List.drop_zero, List.reverse_cons, List.reverse_nil, List.nil_append, List.cons_append, List.length_cons, List.length_nil, Option.toList_some, Option.toList_none, det_e, det_x, tr_imp, fa_imp, implies_true, not_true, not_false_eq_true, and_true, true_and, nar_i, upd_s, st1_0, st1_1, st1_2, st1_3, st1_4, st1_5, st1_6, st1_7, st1_8, st1_9, st1_10, st1_11, st1_12, st1_13, st1_14, st1_15, st1_16, st1_17, st1_18, st1_19, st1_20, st1_21, st1_22, st1_23, st1_24, st1_25, st1_26, st1_27, st1_28, st1_29, st1_30, st1_31, st1_32, st1_33, st1_34, st1_35, st1_36, st1_37, st1_42, st1_43, st1_44, st1_46, st1_47, st1_48, st1_49, st1_50, st1_51, st1_52, st1_53, st1_54, st1_55, st1_56, st1_57, st1_58, st1_59, st1_60, S105, sHp, hp, ho, kx, v01, t00, m1, m2, hnd, hxF, ctx, gK_sI, orE_n, orE_s, h1, Nat.zero_le, Nat.reduceLT, Nat.reduceEqDiff, reduceIte, reduceCtorEq, and_self, and_true, true_and, and_false, false_and, or_false, false_or, true_or, Option.some.injEq, implies_true, Nat.le_refl]
    rintro _ _ ⟨rfl, z, hz, rfl⟩
    simp only [rL_turnAt_0, kL_turnAt_0, rL_turnAt_12, kL_turnAt_12, rL_turnAt_15, kL_turnAt_15, bk_c, if_true, if_false, wi_e, wl_e, wr_e, w1_i, w1_r, ldS_0, ldS_s, vi_e, vl_e, vr_e, dpL_u, dpL_i, dpL_r, dpL_l, stS_0, stS_1, stS_s, stL_0, stL_1, stL_s, bin_0, bin_1, bin_2, bin_3, bin_4, bin_5, bdv_0, bdv_1, lbin_0, lbin_1, lbin_2, cnd_0, cnd_1, cnd_2, cnd_3, cnd_4, cnd_5, aty_0, aty_1, aty_2, aty_3, aty_4, aty_5, c8_u, cn_0, cn_i, cn_r, cn_l, Nat.reduceAdd, Nat.reduceLeDiff, Nat.le_refl, adz, hnd_0, rcv_0, rcv_1, kLen_a, kLen_r, inB_e, inR_e, cpOK_e, swt_n, swt_c, List.take_succ_cons, List.take_zero, List.drop_succ_cons, List.drop_zero, List.reverse_cons, List.reverse_nil, List.nil_append, List.cons_append, List.length_cons, List.length_nil, Option.toList_some, Option.toList_none, det_e, det_x, tr_imp, fa_imp, implies_true, not_true, not_false_eq_true, and_true, true_and, nar_i, upd_s, st1_0, st1_1, st1_2, st1_3, st1_4, st1_5, st1_6, st1_7, st1_8, st1_9, st1_10, st1_11, st1_12, st1_13, st1_14, st1_15, st1_16, st1_17, st1_18, st1_19, st1_20, st1_21, st1_22, st1_23, st1_24, st1_25, st1_26, st1_27, st1_28, st1_29, st1_30, st1_31, st1_32, st1_33, st1_34, st1_35, st1_36, st1_37, st1_42, st1_43, st1_44, st1_46, st1_47, st1_48, st1_49, st1_50, st1_51, st1_52, st1_53, st1_54, st1_55, st1_56, st1_57, st1_58, st1_59, st1_60, Nat.reduceEqDiff, reduceIte]
    first
      | exact fun q => ⟨_, z, rfl, rfl, hz, rfl⟩
      | exact fun q => ⟨_, z, rfl, hz, rfl⟩
def S204 : Sem := fun as M => match as with
  | [.ref x, .int c, .ref o] => sHp (((XP M x)) ∧ gK (M) o = kA .long 1) (bI c (gI M (x + 46) 11)) (fun _ => 1) (sJ (M) o (vp_updL (gJ (M) o) 0 (Int32.toInt64 (gI M (x + 54) c.toNatClampNeg)))) M
  | _ => sF
set_option maxRecDepth 100000 in
set_option maxHeartbeats 4000000 in
theorem oL_water : okC 12 (cL9 204) (cF 204) (cO 204) (cR 204) (cC 204) (decide ((cY 204).name = "<init>")) false [107] kL_water = true := by decide +kernel
set_option maxRecDepth 100000 in
set_option maxHeartbeats 4000000 in
theorem s_L_water {l : Launch} {G : Gt} (hfl : l.stackTraces = false) : SatM l G 204 S204 := by
  refine sat_ofH (E := fun _ => S107) (K := kL_water) (ids := [107]) (hh := [(0, 9, 12, 24)]) hfl ok_204 rfl rfl (by decide) rfl oL_water (fun id hid => ?_) (fun as M ex N => ?_) fun as M hp => ?_
  · cases List.mem_singleton.mp hid
    exact ⟨s_X10_water hfl, ok_107⟩
  · unfold S204
    split
    · exact fun h => h
    · exact sF_X ex N
  unfold S204 at hp ⊢
  split at hp
  case h_2 => exact hp.elim
  rename_i x c o
  obtain ⟨hp, ho⟩ := hp
  refine ⟨Nat.le_of_ble_eq_true rfl, ?_⟩
  show Run (gT G) _ _ _ _ _ _ _ 0 [.val (.ref x), .val (.int c), .val (.ref o), .unset] [] M 0 0
  have kx : gK M x = kO 10 := hp.f.1.1
  have v01 : vp_in 0 1 = True := eq_true (vp_in_nI (n := 0) (N := 1) (by decide) (by decide))
  have t00 : (0 : Int32).toNatClampNeg = 0 := rfl
  have m1 : cM 204 = 1 := rfl
  have m2 : cS 204 = 6 := rfl
  rcases bI_or c (gI M (x + 46) 11) with h1 | h1
  · simp only [rL_water_0, kL_water_0, rL_water_12, kL_water_12, rL_water_15, kL_water_15, bk_c, if_true, if_false, wi_e, wl_e, wr_e, w1_i, w1_r, ldS_0, ldS_s, vi_e, vl_e, vr_e, dpL_u, dpL_i, dpL_r, dpL_l, stS_0, stS_1, stS_s, stL_0, stL_1, stL_s, bin_0, bin_1, bin_2, bin_3, bin_4, bin_5, bdv_0, bdv_1, lbin_0, lbin_1, lbin_2, cnd_0, cnd_1, cnd_2, cnd_3, cnd_4, cnd_5, aty_0, aty_1, aty_2, aty_3, aty_4, aty_5, c8_u, cn_0, cn_i, cn_r, cn_l, Nat.reduceAdd, Nat.reduceLeDiff, Nat.le_refl, adz, hnd_0, rcv_0, rcv_1, kLen_a, kLen_r, inB_e, inR_e, cpOK_e, swt_n, swt_c, List.take_succ_cons, List.take_zero, List.drop_succ_cons, List.drop_zero, List.reverse_cons, List.reverse_nil, List.nil_append, List.cons_append, List.length_cons, List.length_nil, Option.toList_some, Option.toList_none, det_e, det_x, tr_imp, fa_imp, implies_true, not_true, not_false_eq_true, and_true, true_and, nar_i, upd_s, st1_0, st1_1, st1_2, st1_3, st1_4, st1_5, st1_6, st1_7, st1_8, st1_9, st1_10, st1_11, st1_12, st1_13, st1_14, st1_15, st1_16, st1_17, st1_18, st1_19, st1_20, st1_21, st1_22, st1_23, st1_24, st1_25, st1_26, st1_27, st1_28, st1_29, st1_30, st1_31, st1_32, st1_33, st1_34, st1_35, st1_36, st1_37, st1_42, st1_43, st1_44, st1_46, st1_47, st1_48, st1_49, st1_50, st1_51, st1_52, st1_53, st1_54, st1_55, st1_56, st1_57, st1_58, st1_59, st1_60, S107, sHp, hp, ho, kx, v01, t00, m1, m2, hnd, hxF, ctx, gK_sI, orE_n, orE_s, h1, Nat.zero_le, Nat.reduceLT, Nat.reduceEqDiff, reduceIte, reduceCtorEq, and_self, and_true, true_and, and_false, false_and, or_false, false_or, true_or, Option.some.injEq, implies_true, Nat.le_refl]
  · simp only [rL_water_0, kL_water_0, rL_water_12, kL_water_12, rL_water_15, kL_water_15, bk_c, if_true, if_false, wi_e, wl_e, wr_e, w1_i, w1_r, ldS_0, ldS_s, vi_e, vl_e, vr_e, dpL_u, dpL_i, dpL_r, dpL_l, stS_0, stS_1, stS_s, stL_0, stL_1, stL_s, bin_0, bin_1, bin_2, bin_3, bin_4, bin_5, bdv_0, bdv_1, lbin_0, lbin_1, lbin_2, cnd_0, cnd_1, cnd_2, cnd_3, cnd_4, cnd_5, aty_0, aty_1, aty_2, aty_3, aty_4, aty_5, c8_u, cn_0, cn_i, cn_r, cn_l, Nat.reduceAdd, Nat.reduceLeDiff, Nat.le_refl, adz, hnd_0, rcv_0, rcv_1, kLen_a, kLen_r, inB_e, inR_e, cpOK_e, swt_n, swt_c, List.take_succ_cons, List.take_zero, List.drop_succ_cons, List.drop_zero, List.reverse_cons, List.reverse_nil, List.nil_append, List.cons_append, List.length_cons, List.length_nil, Option.toList_some, Option.toList_none, det_e, det_x, tr_imp, fa_imp, implies_true, not_true, not_false_eq_true, and_true, true_and, nar_i, upd_s, st1_0, st1_1, st1_2, st1_3, st1_4, st1_5, st1_6, st1_7, st1_8, st1_9, st1_10, st1_11, st1_12, st1_13, st1_14, st1_15, st1_16, st1_17, st1_18, st1_19, st1_20, st1_21, st1_22, st1_23, st1_24, st1_25, st1_26, st1_27, st1_28, st1_29, st1_30, st1_31, st1_32, st1_33, st1_34, st1_35, st1_36, st1_37, st1_42, st1_43, st1_44, st1_46, st1_47, st1_48, st1_49, st1_50, st1_51, st1_52, st1_53, st1_54, st1_55, st1_56, st1_57, st1_58, st1_59, st1_60, S107, sHp, hp, ho, kx, v01, t00, m1, m2, hnd, hxF, ctx, gK_sI, orE_n, orE_s, h1, Nat.zero_le, Nat.reduceLT, Nat.reduceEqDiff, reduceIte, reduceCtorEq, and_self, and_true, true_and, and_false, false_and, or_false, false_or, true_or, Option.some.injEq, implies_true, Nat.le_refl]
    rintro _ _ ⟨rfl, z, hz, rfl⟩
    simp only [rL_water_0, kL_water_0, rL_water_12, kL_water_12, rL_water_15, kL_water_15, bk_c, if_true, if_false, wi_e, wl_e, wr_e, w1_i, w1_r, ldS_0, ldS_s, vi_e, vl_e, vr_e, dpL_u, dpL_i, dpL_r, dpL_l, stS_0, stS_1, stS_s, stL_0, stL_1, stL_s, bin_0, bin_1, bin_2, bin_3, bin_4, bin_5, bdv_0, bdv_1, lbin_0, lbin_1, lbin_2, cnd_0, cnd_1, cnd_2, cnd_3, cnd_4, cnd_5, aty_0, aty_1, aty_2, aty_3, aty_4, aty_5, c8_u, cn_0, cn_i, cn_r, cn_l, Nat.reduceAdd, Nat.reduceLeDiff, Nat.le_refl, adz, hnd_0, rcv_0, rcv_1, kLen_a, kLen_r, inB_e, inR_e, cpOK_e, swt_n, swt_c, List.take_succ_cons, List.take_zero, List.drop_succ_cons, List.drop_zero, List.reverse_cons, List.reverse_nil, List.nil_append, List.cons_append, List.length_cons, List.length_nil, Option.toList_some, Option.toList_none, det_e, det_x, tr_imp, fa_imp, implies_true, not_true, not_false_eq_true, and_true, true_and, nar_i, upd_s, st1_0, st1_1, st1_2, st1_3, st1_4, st1_5, st1_6, st1_7, st1_8, st1_9, st1_10, st1_11, st1_12, st1_13, st1_14, st1_15, st1_16, st1_17, st1_18, st1_19, st1_20, st1_21, st1_22, st1_23, st1_24, st1_25, st1_26, st1_27, st1_28, st1_29, st1_30, st1_31, st1_32, st1_33, st1_34, st1_35, st1_36, st1_37, st1_42, st1_43, st1_44, st1_46, st1_47, st1_48, st1_49, st1_50, st1_51, st1_52, st1_53, st1_54, st1_55, st1_56, st1_57, st1_58, st1_59, st1_60, Nat.reduceEqDiff, reduceIte]
    first
      | exact fun q => ⟨_, z, rfl, rfl, hz, rfl⟩
      | exact fun q => ⟨_, z, rfl, hz, rfl⟩
def S205 : Sem := fun as M => match as with
  | [.ref x, .int c, .int h, .ref o] => sHp (((XP M x)) ∧ gK (M) o = kA .long 1) (orE (bI c (gI M (x + 37) 8)) (bR h 0 5)) (fun e => if e = 1 then 1 else 2) (sJ (M) o (vp_updL (gJ (M) o) 0 (Int32.toInt64 (if h < gI M (x + 39) c.toNatClampNeg then gI M (x + 45) (slotv c (gI M (x + 36) 6 + h)).toNatClampNeg else 0)))) M
  | _ => sF
set_option maxRecDepth 100000 in
set_option maxHeartbeats 4000000 in
theorem oL_waterIn : okC 12 (cL9 205) (cF 205) (cO 205) (cR 205) (cC 205) (decide ((cY 205).name = "<init>")) false [108] kL_waterIn = true := by decide +kernel
set_option maxRecDepth 100000 in
set_option maxHeartbeats 4000000 in
theorem s_L_waterIn {l : Launch} {G : Gt} (hfl : l.stackTraces = false) : SatM l G 205 S205 := by
  refine sat_ofH (E := fun _ => S108) (K := kL_waterIn) (ids := [108]) (hh := [(0, 10, 13, 24), (0, 10, 17, 13)]) hfl ok_205 rfl rfl (by decide) rfl oL_waterIn (fun id hid => ?_) (fun as M ex N => ?_) fun as M hp => ?_
  · cases List.mem_singleton.mp hid
    exact ⟨s_X10_waterIn hfl, ok_108⟩
  · unfold S205
    split
    · exact fun h => h
    · exact sF_X ex N
  unfold S205 at hp ⊢
  split at hp
  case h_2 => exact hp.elim
  rename_i x c h o
  obtain ⟨hp, ho⟩ := hp
  refine ⟨Nat.le_of_ble_eq_true rfl, ?_⟩
  show Run (gT G) _ _ _ _ _ _ _ 0 [.val (.ref x), .val (.int c), .val (.int h), .val (.ref o), .unset] [] M 0 0
  have kx : gK M x = kO 10 := hp.f.1.1
  have v01 : vp_in 0 1 = True := eq_true (vp_in_nI (n := 0) (N := 1) (by decide) (by decide))
  have t00 : (0 : Int32).toNatClampNeg = 0 := rfl
  have m1 : cM 205 = 2 := rfl
  have m2 : cS 205 = 12 := rfl
  rcases bI_or c (gI M (x + 37) 8) with h1 | h1
  · rcases bR_or h 0 5 with h2 | h2
    · simp only [rL_waterIn_0, kL_waterIn_0, rL_waterIn_13, kL_waterIn_13, rL_waterIn_17, kL_waterIn_17, rL_waterIn_21, kL_waterIn_21, bk_c, if_true, if_false, wi_e, wl_e, wr_e, w1_i, w1_r, ldS_0, ldS_s, vi_e, vl_e, vr_e, dpL_u, dpL_i, dpL_r, dpL_l, stS_0, stS_1, stS_s, stL_0, stL_1, stL_s, bin_0, bin_1, bin_2, bin_3, bin_4, bin_5, bdv_0, bdv_1, lbin_0, lbin_1, lbin_2, cnd_0, cnd_1, cnd_2, cnd_3, cnd_4, cnd_5, aty_0, aty_1, aty_2, aty_3, aty_4, aty_5, c8_u, cn_0, cn_i, cn_r, cn_l, Nat.reduceAdd, Nat.reduceLeDiff, Nat.le_refl, adz, hnd_0, rcv_0, rcv_1, kLen_a, kLen_r, inB_e, inR_e, cpOK_e, swt_n, swt_c, List.take_succ_cons, List.take_zero, List.drop_succ_cons, List.drop_zero, List.reverse_cons, List.reverse_nil, List.nil_append, List.cons_append, List.length_cons, List.length_nil, Option.toList_some, Option.toList_none, det_e, det_x, tr_imp, fa_imp, implies_true, not_true, not_false_eq_true, and_true, true_and, nar_i, upd_s, st1_0, st1_1, st1_2, st1_3, st1_4, st1_5, st1_6, st1_7, st1_8, st1_9, st1_10, st1_11, st1_12, st1_13, st1_14, st1_15, st1_16, st1_17, st1_18, st1_19, st1_20, st1_21, st1_22, st1_23, st1_24, st1_25, st1_26, st1_27, st1_28, st1_29, st1_30, st1_31, st1_32, st1_33, st1_34, st1_35, st1_36, st1_37, st1_42, st1_43, st1_44, st1_46, st1_47, st1_48, st1_49, st1_50, st1_51, st1_52, st1_53, st1_54, st1_55, st1_56, st1_57, st1_58, st1_59, st1_60, S108, sHp, hp, ho, kx, v01, t00, m1, m2, hnd, hxF, ctx, gK_sI, orE_n, orE_s, h1, h2, Nat.zero_le, Nat.reduceLT, Nat.reduceEqDiff, reduceIte, reduceCtorEq, and_self, and_true, true_and, and_false, false_and, or_false, false_or, true_or, Option.some.injEq, implies_true, Nat.le_refl]
    · simp only [rL_waterIn_0, kL_waterIn_0, rL_waterIn_13, kL_waterIn_13, rL_waterIn_17, kL_waterIn_17, rL_waterIn_21, kL_waterIn_21, bk_c, if_true, if_false, wi_e, wl_e, wr_e, w1_i, w1_r, ldS_0, ldS_s, vi_e, vl_e, vr_e, dpL_u, dpL_i, dpL_r, dpL_l, stS_0, stS_1, stS_s, stL_0, stL_1, stL_s, bin_0, bin_1, bin_2, bin_3, bin_4, bin_5, bdv_0, bdv_1, lbin_0, lbin_1, lbin_2, cnd_0, cnd_1, cnd_2, cnd_3, cnd_4, cnd_5, aty_0, aty_1, aty_2, aty_3, aty_4, aty_5, c8_u, cn_0, cn_i, cn_r, cn_l, Nat.reduceAdd, Nat.reduceLeDiff, Nat.le_refl, adz, hnd_0, rcv_0, rcv_1, kLen_a, kLen_r, inB_e, inR_e, cpOK_e, swt_n, swt_c, List.take_succ_cons, List.take_zero, List.drop_succ_cons, List.drop_zero, List.reverse_cons, List.reverse_nil, List.nil_append, List.cons_append, List.length_cons, List.length_nil, Option.toList_some, Option.toList_none, det_e, det_x, tr_imp, fa_imp, implies_true, not_true, not_false_eq_true, and_true, true_and, nar_i, upd_s, st1_0, st1_1, st1_2, st1_3, st1_4, st1_5, st1_6, st1_7, st1_8, st1_9, st1_10, st1_11, st1_12, st1_13, st1_14, st1_15, st1_16, st1_17, st1_18, st1_19, st1_20, st1_21, st1_22, st1_23, st1_24, st1_25, st1_26, st1_27, st1_28, st1_29, st1_30, st1_31, st1_32, st1_33, st1_34, st1_35, st1_36, st1_37, st1_42, st1_43, st1_44, st1_46, st1_47, st1_48, st1_49, st1_50, st1_51, st1_52, st1_53, st1_54, st1_55, st1_56, st1_57, st1_58, st1_59, st1_60, S108, sHp, hp, ho, kx, v01, t00, m1, m2, hnd, hxF, ctx, gK_sI, orE_n, orE_s, h1, h2, Nat.zero_le, Nat.reduceLT, Nat.reduceEqDiff, reduceIte, reduceCtorEq, and_self, and_true, true_and, and_false, false_and, or_false, false_or, true_or, Option.some.injEq, implies_true, Nat.le_refl]
      rintro _ _ ⟨rfl, z, hz, rfl⟩
      simp only [rL_waterIn_0, kL_waterIn_0, rL_waterIn_13, kL_waterIn_13, rL_waterIn_17, kL_waterIn_17, rL_waterIn_21, kL_waterIn_21, bk_c, if_true, if_false, wi_e, wl_e, wr_e, w1_i, w1_r, ldS_0, ldS_s, vi_e, vl_e, vr_e, dpL_u, dpL_i, dpL_r, dpL_l, stS_0, stS_1, stS_s, stL_0, stL_1, stL_s, bin_0, bin_1, bin_2, bin_3, bin_4, bin_5, bdv_0, bdv_1, lbin_0, lbin_1, lbin_2, cnd_0, cnd_1, cnd_2, cnd_3, cnd_4, cnd_5, aty_0, aty_1, aty_2, aty_3, aty_4, aty_5, c8_u, cn_0, cn_i, cn_r, cn_l, Nat.reduceAdd, Nat.reduceLeDiff, Nat.le_refl, adz, hnd_0, rcv_0, rcv_1, kLen_a, kLen_r, inB_e, inR_e, cpOK_e, swt_n, swt_c, List.take_succ_cons, List.take_zero, List.drop_succ_cons, List.drop_zero, List.reverse_cons, List.reverse_nil, List.nil_append, List.cons_append, List.length_cons, List.length_nil, Option.toList_some, Option.toList_none, det_e, det_x, tr_imp, fa_imp, implies_true, not_true, not_false_eq_true, and_true, true_and, nar_i, upd_s, st1_0, st1_1, st1_2, st1_3, st1_4, st1_5, st1_6, st1_7, st1_8, st1_9, st1_10, st1_11, st1_12, st1_13, st1_14, st1_15, st1_16, st1_17, st1_18, st1_19, st1_20, st1_21, st1_22, st1_23, st1_24, st1_25, st1_26, st1_27, st1_28, st1_29, st1_30, st1_31, st1_32, st1_33, st1_34, st1_35, st1_36, st1_37, st1_42, st1_43, st1_44, st1_46, st1_47, st1_48, st1_49, st1_50, st1_51, st1_52, st1_53, st1_54, st1_55, st1_56, st1_57, st1_58, st1_59, st1_60, Nat.reduceEqDiff, reduceIte]
      first
        | exact fun q => ⟨_, z, rfl, rfl, hz, rfl⟩
        | exact fun q => ⟨_, z, rfl, hz, rfl⟩
  · simp only [rL_waterIn_0, kL_waterIn_0, rL_waterIn_13, kL_waterIn_13, rL_waterIn_17, kL_waterIn_17, rL_waterIn_21, kL_waterIn_21, bk_c, if_true, if_false, wi_e, wl_e, wr_e, w1_i, w1_r, ldS_0, ldS_s, vi_e, vl_e, vr_e, dpL_u, dpL_i, dpL_r, dpL_l, stS_0, stS_1, stS_s, stL_0, stL_1, stL_s, bin_0, bin_1, bin_2, bin_3, bin_4, bin_5, bdv_0, bdv_1, lbin_0, lbin_1, lbin_2, cnd_0, cnd_1, cnd_2, cnd_3, cnd_4, cnd_5, aty_0, aty_1, aty_2, aty_3, aty_4, aty_5, c8_u, cn_0, cn_i, cn_r, cn_l, Nat.reduceAdd, Nat.reduceLeDiff, Nat.le_refl, adz, hnd_0, rcv_0, rcv_1, kLen_a, kLen_r, inB_e, inR_e, cpOK_e, swt_n, swt_c, List.take_succ_cons, List.take_zero, List.drop_succ_cons, List.drop_zero, List.reverse_cons, List.reverse_nil, List.nil_append, List.cons_append, List.length_cons, List.length_nil, Option.toList_some, Option.toList_none, det_e, det_x, tr_imp, fa_imp, implies_true, not_true, not_false_eq_true, and_true, true_and, nar_i, upd_s, st1_0, st1_1, st1_2, st1_3, st1_4, st1_5, st1_6, st1_7, st1_8, st1_9, st1_10, st1_11, st1_12, st1_13, st1_14, st1_15, st1_16, st1_17, st1_18, st1_19, st1_20, st1_21, st1_22, st1_23, st1_24, st1_25, st1_26, st1_27, st1_28, st1_29, st1_30, st1_31, st1_32, st1_33, st1_34, st1_35, st1_36, st1_37, st1_42, st1_43, st1_44, st1_46, st1_47, st1_48, st1_49, st1_50, st1_51, st1_52, st1_53, st1_54, st1_55, st1_56, st1_57, st1_58, st1_59, st1_60, S108, sHp, hp, ho, kx, v01, t00, m1, m2, hnd, hxF, ctx, gK_sI, orE_n, orE_s, h1, Nat.zero_le, Nat.reduceLT, Nat.reduceEqDiff, reduceIte, reduceCtorEq, and_self, and_true, true_and, and_false, false_and, or_false, false_or, true_or, Option.some.injEq, implies_true, Nat.le_refl]
    rintro _ _ ⟨rfl, z, hz, rfl⟩
    simp only [rL_waterIn_0, kL_waterIn_0, rL_waterIn_13, kL_waterIn_13, rL_waterIn_17, kL_waterIn_17, rL_waterIn_21, kL_waterIn_21, bk_c, if_true, if_false, wi_e, wl_e, wr_e, w1_i, w1_r, ldS_0, ldS_s, vi_e, vl_e, vr_e, dpL_u, dpL_i, dpL_r, dpL_l, stS_0, stS_1, stS_s, stL_0, stL_1, stL_s, bin_0, bin_1, bin_2, bin_3, bin_4, bin_5, bdv_0, bdv_1, lbin_0, lbin_1, lbin_2, cnd_0, cnd_1, cnd_2, cnd_3, cnd_4, cnd_5, aty_0, aty_1, aty_2, aty_3, aty_4, aty_5, c8_u, cn_0, cn_i, cn_r, cn_l, Nat.reduceAdd, Nat.reduceLeDiff, Nat.le_refl, adz, hnd_0, rcv_0, rcv_1, kLen_a, kLen_r, inB_e, inR_e, cpOK_e, swt_n, swt_c, List.take_succ_cons, List.take_zero, List.drop_succ_cons, List.drop_zero, List.reverse_cons, List.reverse_nil, List.nil_append, List.cons_append, List.length_cons, List.length_nil, Option.toList_some, Option.toList_none, det_e, det_x, tr_imp, fa_imp, implies_true, not_true, not_false_eq_true, and_true, true_and, nar_i, upd_s, st1_0, st1_1, st1_2, st1_3, st1_4, st1_5, st1_6, st1_7, st1_8, st1_9, st1_10, st1_11, st1_12, st1_13, st1_14, st1_15, st1_16, st1_17, st1_18, st1_19, st1_20, st1_21, st1_22, st1_23, st1_24, st1_25, st1_26, st1_27, st1_28, st1_29, st1_30, st1_31, st1_32, st1_33, st1_34, st1_35, st1_36, st1_37, st1_42, st1_43, st1_44, st1_46, st1_47, st1_48, st1_49, st1_50, st1_51, st1_52, st1_53, st1_54, st1_55, st1_56, st1_57, st1_58, st1_59, st1_60, Nat.reduceEqDiff, reduceIte]
    first
      | exact fun q => ⟨_, z, rfl, rfl, hz, rfl⟩
      | exact fun q => ⟨_, z, rfl, hz, rfl⟩
