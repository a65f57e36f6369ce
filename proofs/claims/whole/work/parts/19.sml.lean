/-! ===== Guard, Ledger, Rotation, Formula ===== -/
def Lg (M : Mm) (g : Nat) : Prop := gK M g = kO 3 ∧ gP M g 0 = g + 1 ∧ gK M (g + 1) = kA .int 10
def Lq (M : Mm) (q : Nat) : Prop := gK M q = kO 5 ∧ gP M q 0 = q + 1 ∧ gK M (q + 1) = kA .int 6
def Lr (M : Mm) (r : Nat) : Prop := gK M r = kO 6 ∧ (gP M r 0 = r + 1 ∧ gP M r 1 = r + 2) ∧ gK M (r + 1) = kA .int 12 ∧ gK M (r + 2) = kA .int 12
def Lm (M : Mm) (q : Nat) : Prop := gK M q = kO 2 ∧ (gP M q 0 = q + 1 ∧ gP M q 1 = q + 2) ∧ gK M (q + 1) = kA .int 900 ∧ gK M (q + 2) = kA .long 11
def S32 : Sem := fun as M => match as with
  | [.ref g, .int x] => sV (Lg M g ∧ cnt (gI M g 1) 10) none (if gI M g 1 < 10 then sI (sI M (g + 1) (upd (gI M (g + 1)) (gI M g 1).toNatClampNeg x)) g (upd (gI M g) 1 (gI M g 1 + 1)) else M)
  | _ => sF
theorem nI_10 : (10 : Int32) = nI 10 := rfl
set_option maxRecDepth 100000 in
set_option maxHeartbeats 4000000 in
theorem s_X3_addStop {l : Launch} {G : Gt} (hfl : l.stackTraces = false) : SatM l G 32 S32 := by
  refine t_X3_addStop (E := fun _ => S0) hfl  fun as M hp => ?_
  unfold S32 at hp ⊢
  split at hp
  case h_2 => exact hp.elim
  rename_i g x
  obtain ⟨⟨k0, p0, k1⟩, n, hn, e8⟩ := hp
  refine ⟨Nat.le_of_ble_eq_true rfl, ?_⟩
  show Run (gT G) _ _ _ _ _ _ _ 0 [.val (.ref g), .val (.int x)] [] M 0 0
  have cl : (nI n).toNatClampNeg = n := nI_clamp (by omega)
  simp only [rX3_addStop_0, kX3_addStop_0, rX3_addStop_32, kX3_addStop_32, bk_c, if_true, if_false, wi_e, wl_e, wr_e, w1_i, w1_r, ldS_0, ldS_s, vi_e, vl_e, vr_e, dpL_u, dpL_i, dpL_r, dpL_l, stS_0, stS_1, stS_s, stL_0, stL_1, stL_s, bin_0, bin_1, bin_2, bin_3, bin_4, bin_5, bdv_0, bdv_1, lbin_0, lbin_1, lbin_2, cnd_0, cnd_1, cnd_2, cnd_3, cnd_4, cnd_5, aty_0, aty_1, aty_2, aty_3, aty_4, aty_5, c8_u, cn_0, cn_i, cn_r, cn_l, Nat.reduceAdd, Nat.reduceLeDiff, Nat.le_refl, adz, hnd_0, rcv_0, rcv_1, kLen_a, kLen_r, inB_e, inR_e, cpOK_e, swt_n, swt_c, List.take_succ_cons, List.take_zero, List.drop_succ_cons, List.drop_zero, List.reverse_cons, List.reverse_nil, List.nil_append, List.cons_append, List.length_cons, List.length_nil, Option.toList_some, Option.toList_none, det_e, det_x, tr_imp, fa_imp, implies_true, not_true, not_false_eq_true, and_true, true_and, nar_i, upd_s, st1_0, st1_1, st1_2, st1_3, st1_4, st1_5, st1_6, st1_7, st1_8, st1_9, st1_10, st1_11, st1_12, st1_13, st1_14, st1_15, st1_16, st1_17, st1_18, st1_19, st1_20, st1_21, st1_22, st1_23, st1_24, st1_25, st1_26, st1_27, st1_28, st1_29, st1_30, st1_31, st1_32, st1_33, st1_34, st1_35, st1_36, st1_37, st1_42, st1_43, st1_44, st1_46, st1_47, st1_48, st1_49, st1_50, st1_51, st1_52, st1_53, st1_54, st1_55, st1_56, st1_57, st1_58, st1_59, st1_60, gK_sI, gK_sJ, gK_sP, gK_sZ, gI_sI, gI_sJ, gI_sP, gI_sZ, gJ_sI, gJ_sJ, gJ_sP, gJ_sZ, gP_sI, gP_sJ, gP_sP, gP_sZ, gZ_sI, gZ_sJ, gZ_sP, gZ_sZ, up_q, up_q0, up_q1, up_s, sI_sI, Nat.reduceEqDiff, reduceIte, Nat.succ_ne_zero, forall_const, false_imp_iff, k0, p0, k1, e8]
  refine ⟨fun h => ?_, fun h => ⟨?_, ?_⟩⟩
  · rw [if_neg (show ¬ nI n < 10 from Int32.not_lt.mpr h)]
  · exact vp_in_nI (by have := Int32.not_le.mp h; exact (nI_ltI (by omega) (by decide)).mp this) (by decide)
  · rw [if_pos (show nI n < 10 from Int32.not_le.mp h)]
def plM (M : Mm) (g : Nat) : Int32 := if gI M g 2 < gI M g 1 then gI M (g + 1) (gI M g 2).toNatClampNeg else -1
def plP (M : Mm) (g : Nat) : Prop := gI M g 2 < gI M g 1 → vp_in (gI M g 2) 10
def S35 : Sem := fun as M => match as with
  | [.ref g] => sV (Lg M g ∧ plP M g) (some (.int (plM M g))) M
  | _ => sF
set_option maxRecDepth 100000 in
set_option maxHeartbeats 4000000 in
theorem s_X3_place {l : Launch} {G : Gt} (hfl : l.stackTraces = false) : SatM l G 35 S35 := by
  refine t_X3_place (E := fun _ => S0) hfl  fun as M hp => ?_
  unfold S35 at hp ⊢
  split at hp
  case h_2 => exact hp.elim
  rename_i g
  obtain ⟨⟨k0, p0, k1⟩, h1⟩ := hp
  refine ⟨Nat.le_of_ble_eq_true rfl, ?_⟩
  show Run (gT G) _ _ _ _ _ _ _ 0 [.val (.ref g)] [] M 0 0
  simp only [rX3_place_0, kX3_place_0, rX3_place_23, kX3_place_23, rX3_place_24, kX3_place_24, bk_c, if_true, if_false, wi_e, wl_e, wr_e, w1_i, w1_r, ldS_0, ldS_s, vi_e, vl_e, vr_e, dpL_u, dpL_i, dpL_r, dpL_l, stS_0, stS_1, stS_s, stL_0, stL_1, stL_s, bin_0, bin_1, bin_2, bin_3, bin_4, bin_5, bdv_0, bdv_1, lbin_0, lbin_1, lbin_2, cnd_0, cnd_1, cnd_2, cnd_3, cnd_4, cnd_5, aty_0, aty_1, aty_2, aty_3, aty_4, aty_5, c8_u, cn_0, cn_i, cn_r, cn_l, Nat.reduceAdd, Nat.reduceLeDiff, Nat.le_refl, adz, hnd_0, rcv_0, rcv_1, kLen_a, kLen_r, inB_e, inR_e, cpOK_e, swt_n, swt_c, List.take_succ_cons, List.take_zero, List.drop_succ_cons, List.drop_zero, List.reverse_cons, List.reverse_nil, List.nil_append, List.cons_append, List.length_cons, List.length_nil, Option.toList_some, Option.toList_none, det_e, det_x, tr_imp, fa_imp, implies_true, not_true, not_false_eq_true, and_true, true_and, nar_i, upd_s, st1_0, st1_1, st1_2, st1_3, st1_4, st1_5, st1_6, st1_7, st1_8, st1_9, st1_10, st1_11, st1_12, st1_13, st1_14, st1_15, st1_16, st1_17, st1_18, st1_19, st1_20, st1_21, st1_22, st1_23, st1_24, st1_25, st1_26, st1_27, st1_28, st1_29, st1_30, st1_31, st1_32, st1_33, st1_34, st1_35, st1_36, st1_37, st1_42, st1_43, st1_44, st1_46, st1_47, st1_48, st1_49, st1_50, st1_51, st1_52, st1_53, st1_54, st1_55, st1_56, st1_57, st1_58, st1_59, st1_60, gK_sI, gK_sJ, gK_sP, gK_sZ, gI_sI, gI_sJ, gI_sP, gI_sZ, gJ_sI, gJ_sJ, gJ_sP, gJ_sZ, gP_sI, gP_sJ, gP_sP, gP_sZ, gZ_sI, gZ_sJ, gZ_sP, gZ_sZ, up_q, up_q0, up_q1, up_s, sI_sI, Nat.reduceEqDiff, reduceIte, Nat.succ_ne_zero, forall_const, false_imp_iff, k0, p0, k1, plM]
  refine ⟨fun h => ?_, fun h => ⟨h1 (Int32.not_le.mp h), ?_⟩⟩
  · rw [if_neg (Int32.not_lt.mpr h)]
  · rw [if_pos (Int32.not_le.mp h)]
def wkM (M : Mm) (g : Nat) : Mm := sI M g (upd (gI M g) 2 (if gI M g 2 + 1 < gI M g 1 then gI M g 2 + 1 else 0))
def S36 : Sem := fun as M => match as with
  | [.ref g] => sV (Lg M g ∧ plP (wkM M g) g) (some (.int (plM (wkM M g) g))) (wkM M g)
  | _ => sF
set_option maxRecDepth 100000 in
set_option maxHeartbeats 4000000 in
theorem s_X3_walk {l : Launch} {G : Gt} (hfl : l.stackTraces = false) : SatM l G 36 S36 := by
  refine t_X3_walk (E := fun _ => S35) hfl (s_X3_place hfl) fun as M hp => ?_
  unfold S36 at hp ⊢
  split at hp
  case h_2 => exact hp.elim
  rename_i g
  obtain ⟨⟨k0, p0, k1⟩, h1⟩ := hp
  refine ⟨Nat.le_of_ble_eq_true rfl, ?_⟩
  show Run (gT G) _ _ _ _ _ _ _ 0 [.val (.ref g)] [] M 0 0
  have hL : ∀ f, Lg (sI M g f) g := fun f => ⟨k0, p0, k1⟩
  simp only [rX3_walk_0, kX3_walk_0, rX3_walk_23, kX3_walk_23, rX3_walk_24, kX3_walk_24, bk_c, if_true, if_false, wi_e, wl_e, wr_e, w1_i, w1_r, ldS_0, ldS_s, vi_e, vl_e, vr_e, dpL_u, dpL_i, dpL_r, dpL_l, stS_0, stS_1, stS_s, stL_0, stL_1, stL_s, bin_0, bin_1, bin_2, bin_3, bin_4, bin_5, bdv_0, bdv_1, lbin_0, lbin_1, lbin_2, cnd_0, cnd_1, cnd_2, cnd_3, cnd_4, cnd_5, aty_0, aty_1, aty_2, aty_3, aty_4, aty_5, c8_u, cn_0, cn_i, cn_r, cn_l, Nat.reduceAdd, Nat.reduceLeDiff, Nat.le_refl, adz, hnd_0, rcv_0, rcv_1, kLen_a, kLen_r, inB_e, inR_e, cpOK_e, swt_n, swt_c, List.take_succ_cons, List.take_zero, List.drop_succ_cons, List.drop_zero, List.reverse_cons, List.reverse_nil, List.nil_append, List.cons_append, List.length_cons, List.length_nil, Option.toList_some, Option.toList_none, det_e, det_x, tr_imp, fa_imp, implies_true, not_true, not_false_eq_true, and_true, true_and, nar_i, upd_s, st1_0, st1_1, st1_2, st1_3, st1_4, st1_5, st1_6, st1_7, st1_8, st1_9, st1_10, st1_11, st1_12, st1_13, st1_14, st1_15, st1_16, st1_17, st1_18, st1_19, st1_20, st1_21, st1_22, st1_23, st1_24, st1_25, st1_26, st1_27, st1_28, st1_29, st1_30, st1_31, st1_32, st1_33, st1_34, st1_35, st1_36, st1_37, st1_42, st1_43, st1_44, st1_46, st1_47, st1_48, st1_49, st1_50, st1_51, st1_52, st1_53, st1_54, st1_55, st1_56, st1_57, st1_58, st1_59, st1_60, gK_sI, gP_sI, up_q, up_q0, up_q1, up_s, sI_sI, Nat.reduceEqDiff, reduceIte, Nat.succ_ne_zero, forall_const, false_imp_iff, k0, p0, k1, S35, sV, hL]
  refine ⟨fun h => ?_, fun h => ?_⟩
  · have e : wkM M g = sI M g (upd (gI M g) 2 0) := by unfold wkM; rw [if_neg (Int32.not_lt.mpr h)]
    rw [e] at h1 ⊢
    exact ⟨h1, rfl, rfl⟩
  · have e : wkM M g = sI M g (upd (gI M g) 2 (gI M g 2 + 1)) := by unfold wkM; rw [if_pos (Int32.not_le.mp h)]
    rw [e] at h1 ⊢
    exact ⟨h1, rfl, rfl⟩
def cpG (M : Mm) (g o : Nat) : Mm :=
  let M1 := sI M (g + 1) (cpy 10 (gI M (o + 1)) (gI M (g + 1)))
  let M2 := sI M1 g (upd (gI M1 g) 1 (gI M1 o 1))
  sI M2 g (upd (gI M2 g) 2 (gI M2 o 2))
def S33 : Sem := fun as M => match as with
  | [.ref g, .ref o] => sV (Lg M g ∧ Lg M o) none (cpG M g o)
  | _ => sF
set_option maxRecDepth 100000 in
set_option maxHeartbeats 4000000 in
theorem s_X3_copyFrom {l : Launch} {G : Gt} (hfl : l.stackTraces = false) : SatM l G 33 S33 := by
  refine t_X3_copyFrom (E := fun _ => S80) hfl (s_X10_copyRow hfl) fun as M hp => ?_
  unfold S33 at hp ⊢
  split at hp
  case h_2 => exact hp.elim
  rename_i g o
  obtain ⟨⟨k0, p0, k1⟩, K0, P0, K1⟩ := hp
  refine ⟨Nat.le_of_ble_eq_true rfl, ?_⟩
  show Run (gT G) _ _ _ _ _ _ _ 0 [.val (.ref g), .val (.ref o)] [] M 0 0
  simp only [rX3_copyFrom_0, kX3_copyFrom_0, bk_c, if_true, if_false, wi_e, wl_e, wr_e, w1_i, w1_r, ldS_0, ldS_s, vi_e, vl_e, vr_e, dpL_u, dpL_i, dpL_r, dpL_l, stS_0, stS_1, stS_s, stL_0, stL_1, stL_s, bin_0, bin_1, bin_2, bin_3, bin_4, bin_5, bdv_0, bdv_1, lbin_0, lbin_1, lbin_2, cnd_0, cnd_1, cnd_2, cnd_3, cnd_4, cnd_5, aty_0, aty_1, aty_2, aty_3, aty_4, aty_5, c8_u, cn_0, cn_i, cn_r, cn_l, Nat.reduceAdd, Nat.reduceLeDiff, Nat.le_refl, adz, hnd_0, rcv_0, rcv_1, kLen_a, kLen_r, inB_e, inR_e, cpOK_e, swt_n, swt_c, List.take_succ_cons, List.take_zero, List.drop_succ_cons, List.drop_zero, List.reverse_cons, List.reverse_nil, List.nil_append, List.cons_append, List.length_cons, List.length_nil, Option.toList_some, Option.toList_none, det_e, det_x, tr_imp, fa_imp, implies_true, not_true, not_false_eq_true, and_true, true_and, nar_i, upd_s, st1_0, st1_1, st1_2, st1_3, st1_4, st1_5, st1_6, st1_7, st1_8, st1_9, st1_10, st1_11, st1_12, st1_13, st1_14, st1_15, st1_16, st1_17, st1_18, st1_19, st1_20, st1_21, st1_22, st1_23, st1_24, st1_25, st1_26, st1_27, st1_28, st1_29, st1_30, st1_31, st1_32, st1_33, st1_34, st1_35, st1_36, st1_37, st1_42, st1_43, st1_44, st1_46, st1_47, st1_48, st1_49, st1_50, st1_51, st1_52, st1_53, st1_54, st1_55, st1_56, st1_57, st1_58, st1_59, st1_60, gK_sI, gP_sI, k0, p0, k1, K0, P0, K1, S80, sV, kN_a, ex_k 10 (by decide) .int .int rfl rfl]
  rfl
def S41 : Sem := fun as M => match as with
  | [.ref q, .int x] => sV (Lq M q) none (if ¬ x < 0 ∧ x < 6 then sI M (q + 1) (upd (gI M (q + 1)) x.toNatClampNeg (gI M (q + 1) x.toNatClampNeg + 1)) else M)
  | _ => sF
theorem nI_6 : (6 : Int32) = nI 6 := rfl
set_option maxRecDepth 100000 in
set_option maxHeartbeats 4000000 in
theorem s_X5_fine {l : Launch} {G : Gt} (hfl : l.stackTraces = false) : SatM l G 41 S41 := by
  refine t_X5_fine (E := fun _ => S0) hfl  fun as M hp => ?_
  unfold S41 at hp ⊢
  split at hp
  case h_2 => exact hp.elim
  rename_i q x
  obtain ⟨k0, p0, k1⟩ := hp
  refine ⟨Nat.le_of_ble_eq_true rfl, ?_⟩
  show Run (gT G) _ _ _ _ _ _ _ 0 [.val (.ref q), .val (.int x)] [] M 0 0
  simp only [rX5_fine_0, kX5_fine_0, rX5_fine_20, kX5_fine_20, bk_c, if_true, if_false, wi_e, wl_e, wr_e, w1_i, w1_r, ldS_0, ldS_s, vi_e, vl_e, vr_e, dpL_u, dpL_i, dpL_r, dpL_l, stS_0, stS_1, stS_s, stL_0, stL_1, stL_s, bin_0, bin_1, bin_2, bin_3, bin_4, bin_5, bdv_0, bdv_1, lbin_0, lbin_1, lbin_2, cnd_0, cnd_1, cnd_2, cnd_3, cnd_4, cnd_5, aty_0, aty_1, aty_2, aty_3, aty_4, aty_5, c8_u, cn_0, cn_i, cn_r, cn_l, Nat.reduceAdd, Nat.reduceLeDiff, Nat.le_refl, adz, hnd_0, rcv_0, rcv_1, kLen_a, kLen_r, inB_e, inR_e, cpOK_e, swt_n, swt_c, List.take_succ_cons, List.take_zero, List.drop_succ_cons, List.drop_zero, List.reverse_cons, List.reverse_nil, List.nil_append, List.cons_append, List.length_cons, List.length_nil, Option.toList_some, Option.toList_none, det_e, det_x, tr_imp, fa_imp, implies_true, not_true, not_false_eq_true, and_true, true_and, nar_i, upd_s, st1_0, st1_1, st1_2, st1_3, st1_4, st1_5, st1_6, st1_7, st1_8, st1_9, st1_10, st1_11, st1_12, st1_13, st1_14, st1_15, st1_16, st1_17, st1_18, st1_19, st1_20, st1_21, st1_22, st1_23, st1_24, st1_25, st1_26, st1_27, st1_28, st1_29, st1_30, st1_31, st1_32, st1_33, st1_34, st1_35, st1_36, st1_37, st1_42, st1_43, st1_44, st1_46, st1_47, st1_48, st1_49, st1_50, st1_51, st1_52, st1_53, st1_54, st1_55, st1_56, st1_57, st1_58, st1_59, st1_60, gK_sI, gK_sJ, gK_sP, gK_sZ, gI_sI, gI_sJ, gI_sP, gI_sZ, gJ_sI, gJ_sJ, gJ_sP, gJ_sZ, gP_sI, gP_sJ, gP_sP, gP_sZ, gZ_sI, gZ_sJ, gZ_sP, gZ_sZ, up_q, up_q0, up_q1, up_s, sI_sI, Nat.reduceEqDiff, reduceIte, Nat.succ_ne_zero, forall_const, false_imp_iff, k0, p0, k1]
  refine ⟨fun h => ?_, fun h => ⟨fun h2 => ?_, fun h2 => ?_⟩⟩
  · rw [if_neg (fun z => z.1 h)]
  · rw [if_neg (fun z => Int32.not_lt.mpr h2 z.2)]
  · have h3 : vp_in x 6 := vp_in_lt h (Int32.not_le.mp h2) (Nat.le_refl 6) (by decide)
    rw [if_pos ⟨h, Int32.not_le.mp h2⟩]
    exact ⟨h3, h3, rfl⟩
def cpQ (M : Mm) (q o : Nat) : Mm :=
  let M1 := sI M (q + 1) (cpy 6 (gI M (o + 1)) (gI M (q + 1)))
  let M2 := sJ M1 q (vp_updL (gJ M1 q) 1 (gJ M1 o 1))
  let M3 := sJ M2 q (vp_updL (gJ M2 q) 2 (gJ M2 o 2))
  let M4 := sJ M3 q (vp_updL (gJ M3 q) 3 (gJ M3 o 3))
  sJ M4 q (vp_updL (gJ M4 q) 4 (gJ M4 o 4))
def S40 : Sem := fun as M => match as with
  | [.ref q, .ref o] => sV (Lq M q ∧ Lq M o) none (cpQ M q o)
  | _ => sF
set_option maxRecDepth 100000 in
set_option maxHeartbeats 4000000 in
theorem s_X5_copyFrom {l : Launch} {G : Gt} (hfl : l.stackTraces = false) : SatM l G 40 S40 := by
  refine t_X5_copyFrom (E := fun _ => S80) hfl (s_X10_copyRow hfl) fun as M hp => ?_
  unfold S40 at hp ⊢
  split at hp
  case h_2 => exact hp.elim
  rename_i q o
  obtain ⟨⟨k0, p0, k1⟩, K0, P0, K1⟩ := hp
  refine ⟨Nat.le_of_ble_eq_true rfl, ?_⟩
  show Run (gT G) _ _ _ _ _ _ _ 0 [.val (.ref q), .val (.ref o)] [] M 0 0
  simp only [rX5_copyFrom_0, kX5_copyFrom_0, bk_c, if_true, if_false, wi_e, wl_e, wr_e, w1_i, w1_r, ldS_0, ldS_s, vi_e, vl_e, vr_e, dpL_u, dpL_i, dpL_r, dpL_l, stS_0, stS_1, stS_s, stL_0, stL_1, stL_s, bin_0, bin_1, bin_2, bin_3, bin_4, bin_5, bdv_0, bdv_1, lbin_0, lbin_1, lbin_2, cnd_0, cnd_1, cnd_2, cnd_3, cnd_4, cnd_5, aty_0, aty_1, aty_2, aty_3, aty_4, aty_5, c8_u, cn_0, cn_i, cn_r, cn_l, Nat.reduceAdd, Nat.reduceLeDiff, Nat.le_refl, adz, hnd_0, rcv_0, rcv_1, kLen_a, kLen_r, inB_e, inR_e, cpOK_e, swt_n, swt_c, List.take_succ_cons, List.take_zero, List.drop_succ_cons, List.drop_zero, List.reverse_cons, List.reverse_nil, List.nil_append, List.cons_append, List.length_cons, List.length_nil, Option.toList_some, Option.toList_none, det_e, det_x, tr_imp, fa_imp, implies_true, not_true, not_false_eq_true, and_true, true_and, nar_i, upd_s, st1_0, st1_1, st1_2, st1_3, st1_4, st1_5, st1_6, st1_7, st1_8, st1_9, st1_10, st1_11, st1_12, st1_13, st1_14, st1_15, st1_16, st1_17, st1_18, st1_19, st1_20, st1_21, st1_22, st1_23, st1_24, st1_25, st1_26, st1_27, st1_28, st1_29, st1_30, st1_31, st1_32, st1_33, st1_34, st1_35, st1_36, st1_37, st1_42, st1_43, st1_44, st1_46, st1_47, st1_48, st1_49, st1_50, st1_51, st1_52, st1_53, st1_54, st1_55, st1_56, st1_57, st1_58, st1_59, st1_60, gK_sI, gP_sI, gK_sJ, gP_sJ, k0, p0, k1, K0, P0, K1, S80, sV, kN_a, ex_k 6 (by decide) .int .int rfl rfl]
  rfl
/-- whose turn it is -/
def vilR (M : Mm) (r : Nat) : Nat → Nat → Int32 → Int32
  | 0, _, _ => -1
  | n + 1, i, w => if w < gI M (r + 2) i then gI M (r + 1) i else vilR M r n (i + 1) (w - gI M (r + 2) i)
def villV (M : Mm) (r : Nat) (h : Int32) : Int32 := if gI M r 3 ≤ 0 then -1 else vilR M r (gI M r 2).toNatClampNeg 0 (h - h / gI M r 3 * gI M r 3)
def S46 : Sem := fun as M => match as with
  | [.ref r, .int h] => sV (Lr M r ∧ cnt (gI M r 2) 12) (some (.int (villV M r h))) M
  | _ => sF
set_option maxRecDepth 100000 in
set_option maxHeartbeats 4000000 in
theorem s_X6_villageIn {l : Launch} {G : Gt} (hfl : l.stackTraces = false) : SatM l G 46 S46 := by
  refine t_X6_villageIn (E := fun _ => S0) hfl  fun as M hp => ?_
  unfold S46 at hp ⊢
  split at hp
  case h_2 => exact hp.elim
  rename_i r h
  obtain ⟨⟨k0, ⟨p0, p1⟩, k1, k2⟩, n, hn, e8⟩ := hp
  refine ⟨Nat.le_of_ble_eq_true rfl, ?_⟩
  show Run (gT G) _ _ _ _ _ _ _ 0 [.val (.ref r), .val (.int h), .unset, .unset] [] M 0 0
  have cl : (nI n).toNatClampNeg = n := nI_clamp (by omega)
  have key : ∀ v i w, i + v = n → Run (gT G) (fun _ => S0) 0 0 (fun _ _ => none) (fun v' M' => v' = some (.int (vilR M r v i w)) ∧ M' = M) (fun _ _ => False) kX6_villageIn 18 [.val (.ref r), .val (.int h), .val (.int w), .val (.int (nI i))] [] M 0 0 := by
    intro v
    induction v with
    | zero =>
      intro i w hi
      have hi2 : i = n := hi
      subst hi2
      rw [rX6_villageIn_18]
      simp only [kX6_villageIn_18, rX6_villageIn_0, kX6_villageIn_0, rX6_villageIn_9, kX6_villageIn_9, rX6_villageIn_43, kX6_villageIn_43, rX6_villageIn_58, kX6_villageIn_58, bk_c, if_true, if_false, wi_e, wl_e, wr_e, w1_i, w1_r, ldS_0, ldS_s, vi_e, vl_e, vr_e, dpL_u, dpL_i, dpL_r, dpL_l, stS_0, stS_1, stS_s, stL_0, stL_1, stL_s, bin_0, bin_1, bin_2, bin_3, bin_4, bin_5, bdv_0, bdv_1, lbin_0, lbin_1, lbin_2, cnd_0, cnd_1, cnd_2, cnd_3, cnd_4, cnd_5, aty_0, aty_1, aty_2, aty_3, aty_4, aty_5, c8_u, cn_0, cn_i, cn_r, cn_l, Nat.reduceAdd, Nat.reduceLeDiff, Nat.le_refl, adz, hnd_0, rcv_0, rcv_1, kLen_a, kLen_r, inB_e, inR_e, cpOK_e, swt_n, swt_c, List.take_succ_cons, List.take_zero, List.drop_succ_cons, List.drop_zero, List.reverse_cons, List.reverse_nil, List.nil_append, List.cons_append, List.length_cons, List.length_nil, Option.toList_some, Option.toList_none, det_e, det_x, tr_imp, fa_imp, implies_true, not_true, not_false_eq_true, and_true, true_and, nar_i, upd_s, st1_0, st1_1, st1_2, st1_3, st1_4, st1_5, st1_6, st1_7, st1_8, st1_9, st1_10, st1_11, st1_12, st1_13, st1_14, st1_15, st1_16, st1_17, st1_18, st1_19, st1_20, st1_21, st1_22, st1_23, st1_24, st1_25, st1_26, st1_27, st1_28, st1_29, st1_30, st1_31, st1_32, st1_33, st1_34, st1_35, st1_36, st1_37, st1_42, st1_43, st1_44, st1_46, st1_47, st1_48, st1_49, st1_50, st1_51, st1_52, st1_53, st1_54, st1_55, st1_56, st1_57, st1_58, st1_59, st1_60, gK_sI, gK_sJ, gK_sP, gK_sZ, gI_sI, gI_sJ, gI_sP, gI_sZ, gJ_sI, gJ_sJ, gJ_sP, gJ_sZ, gP_sI, gP_sJ, gP_sP, gP_sZ, gZ_sI, gZ_sJ, gZ_sP, gZ_sZ, up_q, up_q0, up_q1, up_s, sI_sI, Nat.reduceEqDiff, reduceIte, Nat.succ_ne_zero, forall_const, false_imp_iff, k0, e8, lp_out, vilR]
    | succ v ih =>
      intro i w hi
      obtain ⟨a1, a2, a3, -⟩ := lp_in (i := i) (n := n) (N := 12) (by omega) hn (by decide)
      rw [rX6_villageIn_18]
      simp only [kX6_villageIn_18, rX6_villageIn_0, kX6_villageIn_0, rX6_villageIn_9, kX6_villageIn_9, rX6_villageIn_43, kX6_villageIn_43, rX6_villageIn_58, kX6_villageIn_58, bk_c, if_true, if_false, wi_e, wl_e, wr_e, w1_i, w1_r, ldS_0, ldS_s, vi_e, vl_e, vr_e, dpL_u, dpL_i, dpL_r, dpL_l, stS_0, stS_1, stS_s, stL_0, stL_1, stL_s, bin_0, bin_1, bin_2, bin_3, bin_4, bin_5, bdv_0, bdv_1, lbin_0, lbin_1, lbin_2, cnd_0, cnd_1, cnd_2, cnd_3, cnd_4, cnd_5, aty_0, aty_1, aty_2, aty_3, aty_4, aty_5, c8_u, cn_0, cn_i, cn_r, cn_l, Nat.reduceAdd, Nat.reduceLeDiff, Nat.le_refl, adz, hnd_0, rcv_0, rcv_1, kLen_a, kLen_r, inB_e, inR_e, cpOK_e, swt_n, swt_c, List.take_succ_cons, List.take_zero, List.drop_succ_cons, List.drop_zero, List.reverse_cons, List.reverse_nil, List.nil_append, List.cons_append, List.length_cons, List.length_nil, Option.toList_some, Option.toList_none, det_e, det_x, tr_imp, fa_imp, implies_true, not_true, not_false_eq_true, and_true, true_and, nar_i, upd_s, st1_0, st1_1, st1_2, st1_3, st1_4, st1_5, st1_6, st1_7, st1_8, st1_9, st1_10, st1_11, st1_12, st1_13, st1_14, st1_15, st1_16, st1_17, st1_18, st1_19, st1_20, st1_21, st1_22, st1_23, st1_24, st1_25, st1_26, st1_27, st1_28, st1_29, st1_30, st1_31, st1_32, st1_33, st1_34, st1_35, st1_36, st1_37, st1_42, st1_43, st1_44, st1_46, st1_47, st1_48, st1_49, st1_50, st1_51, st1_52, st1_53, st1_54, st1_55, st1_56, st1_57, st1_58, st1_59, st1_60, gK_sI, gK_sJ, gK_sP, gK_sZ, gI_sI, gI_sJ, gI_sP, gI_sZ, gJ_sI, gJ_sJ, gJ_sP, gJ_sZ, gP_sI, gP_sJ, gP_sP, gP_sZ, gZ_sI, gZ_sJ, gZ_sP, gZ_sZ, up_q, up_q0, up_q1, up_s, sI_sI, Nat.reduceEqDiff, reduceIte, Nat.succ_ne_zero, forall_const, false_imp_iff, k0, p0, k1, p1, k2, e8, a1, a2, a3, nI_1, vilR]
      refine ⟨fun h => ?_, fun h => ?_⟩
      · rw [if_neg (Int32.not_lt.mpr h)]
        exact ih (i + 1) _ (by omega)
      · rw [if_pos (Int32.not_le.mp h)]
  simp only [rX6_villageIn_0, kX6_villageIn_0, rX6_villageIn_9, kX6_villageIn_9, rX6_villageIn_43, kX6_villageIn_43, rX6_villageIn_58, kX6_villageIn_58, bk_c, if_true, if_false, wi_e, wl_e, wr_e, w1_i, w1_r, ldS_0, ldS_s, vi_e, vl_e, vr_e, dpL_u, dpL_i, dpL_r, dpL_l, stS_0, stS_1, stS_s, stL_0, stL_1, stL_s, bin_0, bin_1, bin_2, bin_3, bin_4, bin_5, bdv_0, bdv_1, lbin_0, lbin_1, lbin_2, cnd_0, cnd_1, cnd_2, cnd_3, cnd_4, cnd_5, aty_0, aty_1, aty_2, aty_3, aty_4, aty_5, c8_u, cn_0, cn_i, cn_r, cn_l, Nat.reduceAdd, Nat.reduceLeDiff, Nat.le_refl, adz, hnd_0, rcv_0, rcv_1, kLen_a, kLen_r, inB_e, inR_e, cpOK_e, swt_n, swt_c, List.take_succ_cons, List.take_zero, List.drop_succ_cons, List.drop_zero, List.reverse_cons, List.reverse_nil, List.nil_append, List.cons_append, List.length_cons, List.length_nil, Option.toList_some, Option.toList_none, det_e, det_x, tr_imp, fa_imp, implies_true, not_true, not_false_eq_true, and_true, true_and, nar_i, upd_s, st1_0, st1_1, st1_2, st1_3, st1_4, st1_5, st1_6, st1_7, st1_8, st1_9, st1_10, st1_11, st1_12, st1_13, st1_14, st1_15, st1_16, st1_17, st1_18, st1_19, st1_20, st1_21, st1_22, st1_23, st1_24, st1_25, st1_26, st1_27, st1_28, st1_29, st1_30, st1_31, st1_32, st1_33, st1_34, st1_35, st1_36, st1_37, st1_42, st1_43, st1_44, st1_46, st1_47, st1_48, st1_49, st1_50, st1_51, st1_52, st1_53, st1_54, st1_55, st1_56, st1_57, st1_58, st1_59, st1_60, k0, villV, e8, cl]
  refine ⟨fun h => ⟨fun e => ?_, ?_⟩, fun h => ?_⟩
  · rw [e] at h
    exact absurd h (by decide)
  · rw [if_neg (Int32.not_le.mpr h)]
    exact key n 0 _ (Nat.zero_add n)
  · rw [if_pos (Int32.not_lt.mp h)]
def xcM (M : Mm) (r : Nat) (x y : Nat) : Mm := sI (sI M (r + 1) (upd (upd (gI M (r + 1)) x (gI M (r + 1) y)) y (gI M (r + 1) x))) (r + 2) (upd (upd (gI M (r + 2)) x (gI M (r + 2) y)) y (gI M (r + 2) x))
def S44 : Sem := fun as M => match as with
  | [.ref r, .int x, .int y] => sV (Lr M r ∧ vp_in x 12 ∧ vp_in y 12) none (xcM M r x.toNatClampNeg y.toNatClampNeg)
  | _ => sF
theorem sI_cm (M : Mm) {a b : Nat} (f g : Nat → Int32) (h : a ≠ b) : sI (sI M a f) b g = sI (sI M b g) a f := by
  refine Mm_ext rfl ?_ rfl rfl rfl
  simp only [gI_sI]
  funext q
  unfold va_up
  by_cases h1 : q = a
  · by_cases h2 : q = b
    · exact absurd (h1.symm.trans h2) h
    · rw [if_neg h2, if_pos h1, if_pos h1]
  · by_cases h2 : q = b
    · rw [if_pos h2, if_neg h1, if_pos h2]
    · rw [if_neg h2, if_neg h1, if_neg h1, if_neg h2]
theorem ne21 (r : Nat) : r + 2 ≠ r + 1 := by omega
set_option maxRecDepth 100000 in
set_option maxHeartbeats 4000000 in
theorem s_X6_exchange {l : Launch} {G : Gt} (hfl : l.stackTraces = false) : SatM l G 44 S44 := by
  refine t_X6_exchange (E := fun _ => S0) hfl  fun as M hp => ?_
  unfold S44 at hp ⊢
  split at hp
  case h_2 => exact hp.elim
  rename_i r x y
  obtain ⟨⟨k0, ⟨p0, p1⟩, k1, k2⟩, h1, h2⟩ := hp
  refine ⟨Nat.le_of_ble_eq_true rfl, ?_⟩
  show Run (gT G) _ _ _ _ _ _ _ 0 [.val (.ref r), .val (.int x), .val (.int y), .unset, .unset] [] M 0 0
  simp only [rX6_exchange_0, kX6_exchange_0, bk_c, if_true, if_false, wi_e, wl_e, wr_e, w1_i, w1_r, ldS_0, ldS_s, vi_e, vl_e, vr_e, dpL_u, dpL_i, dpL_r, dpL_l, stS_0, stS_1, stS_s, stL_0, stL_1, stL_s, bin_0, bin_1, bin_2, bin_3, bin_4, bin_5, bdv_0, bdv_1, lbin_0, lbin_1, lbin_2, cnd_0, cnd_1, cnd_2, cnd_3, cnd_4, cnd_5, aty_0, aty_1, aty_2, aty_3, aty_4, aty_5, c8_u, cn_0, cn_i, cn_r, cn_l, Nat.reduceAdd, Nat.reduceLeDiff, Nat.le_refl, adz, hnd_0, rcv_0, rcv_1, kLen_a, kLen_r, inB_e, inR_e, cpOK_e, swt_n, swt_c, List.take_succ_cons, List.take_zero, List.drop_succ_cons, List.drop_zero, List.reverse_cons, List.reverse_nil, List.nil_append, List.cons_append, List.length_cons, List.length_nil, Option.toList_some, Option.toList_none, det_e, det_x, tr_imp, fa_imp, implies_true, not_true, not_false_eq_true, and_true, true_and, nar_i, upd_s, st1_0, st1_1, st1_2, st1_3, st1_4, st1_5, st1_6, st1_7, st1_8, st1_9, st1_10, st1_11, st1_12, st1_13, st1_14, st1_15, st1_16, st1_17, st1_18, st1_19, st1_20, st1_21, st1_22, st1_23, st1_24, st1_25, st1_26, st1_27, st1_28, st1_29, st1_30, st1_31, st1_32, st1_33, st1_34, st1_35, st1_36, st1_37, st1_42, st1_43, st1_44, st1_46, st1_47, st1_48, st1_49, st1_50, st1_51, st1_52, st1_53, st1_54, st1_55, st1_56, st1_57, st1_58, st1_59, st1_60, gK_sI, gK_sJ, gK_sP, gK_sZ, gI_sI, gI_sJ, gI_sP, gI_sZ, gJ_sI, gJ_sJ, gJ_sP, gJ_sZ, gP_sI, gP_sJ, gP_sP, gP_sZ, gZ_sI, gZ_sJ, gZ_sP, gZ_sZ, up_q, up_q0, up_q1, up_s, sI_sI, Nat.reduceEqDiff, reduceIte, Nat.succ_ne_zero, forall_const, false_imp_iff, k0, p0, k1, p1, k2, h1, h2]
  unfold xcM
  rw [sI_cm (sI M (r + 1) _) _ _ (ne21 r), sI_sI, sI_sI]
def cpR (M : Mm) (r o : Nat) : Mm :=
  let M1 := sI M (r + 1) (cpy 12 (gI M (o + 1)) (gI M (r + 1)))
  let M2 := sI M1 (r + 2) (cpy 12 (gI M1 (o + 2)) (gI M1 (r + 2)))
  let M3 := sI M2 r (upd (gI M2 r) 2 (gI M2 o 2))
  sI M3 r (upd (gI M3 r) 3 (gI M3 o 3))
def S43 : Sem := fun as M => match as with
  | [.ref r, .ref o] => sV (Lr M r ∧ Lr M o) none (cpR M r o)
  | _ => sF
set_option maxRecDepth 100000 in
set_option maxHeartbeats 4000000 in
theorem s_X6_copyFrom {l : Launch} {G : Gt} (hfl : l.stackTraces = false) : SatM l G 43 S43 := by
  refine t_X6_copyFrom (E := fun _ => S80) hfl (s_X10_copyRow hfl) fun as M hp => ?_
  unfold S43 at hp ⊢
  split at hp
  case h_2 => exact hp.elim
  rename_i r o
  obtain ⟨⟨k0, ⟨p0, p1⟩, k1, k2⟩, K0, ⟨P0, P1⟩, K1, K2⟩ := hp
  refine ⟨Nat.le_of_ble_eq_true rfl, ?_⟩
  show Run (gT G) _ _ _ _ _ _ _ 0 [.val (.ref r), .val (.ref o)] [] M 0 0
  simp only [rX6_copyFrom_0, kX6_copyFrom_0, bk_c, if_true, if_false, wi_e, wl_e, wr_e, w1_i, w1_r, ldS_0, ldS_s, vi_e, vl_e, vr_e, dpL_u, dpL_i, dpL_r, dpL_l, stS_0, stS_1, stS_s, stL_0, stL_1, stL_s, bin_0, bin_1, bin_2, bin_3, bin_4, bin_5, bdv_0, bdv_1, lbin_0, lbin_1, lbin_2, cnd_0, cnd_1, cnd_2, cnd_3, cnd_4, cnd_5, aty_0, aty_1, aty_2, aty_3, aty_4, aty_5, c8_u, cn_0, cn_i, cn_r, cn_l, Nat.reduceAdd, Nat.reduceLeDiff, Nat.le_refl, adz, hnd_0, rcv_0, rcv_1, kLen_a, kLen_r, inB_e, inR_e, cpOK_e, swt_n, swt_c, List.take_succ_cons, List.take_zero, List.drop_succ_cons, List.drop_zero, List.reverse_cons, List.reverse_nil, List.nil_append, List.cons_append, List.length_cons, List.length_nil, Option.toList_some, Option.toList_none, det_e, det_x, tr_imp, fa_imp, implies_true, not_true, not_false_eq_true, and_true, true_and, nar_i, upd_s, st1_0, st1_1, st1_2, st1_3, st1_4, st1_5, st1_6, st1_7, st1_8, st1_9, st1_10, st1_11, st1_12, st1_13, st1_14, st1_15, st1_16, st1_17, st1_18, st1_19, st1_20, st1_21, st1_22, st1_23, st1_24, st1_25, st1_26, st1_27, st1_28, st1_29, st1_30, st1_31, st1_32, st1_33, st1_34, st1_35, st1_36, st1_37, st1_42, st1_43, st1_44, st1_46, st1_47, st1_48, st1_49, st1_50, st1_51, st1_52, st1_53, st1_54, st1_55, st1_56, st1_57, st1_58, st1_59, st1_60, gK_sI, gP_sI, k0, p0, p1, k1, k2, K0, P0, P1, K1, K2, S80, sV, kN_a, ex_k 12 (by decide) .int .int rfl rfl]
  rfl
def S26 : Sem := fun as M => match as with
  | [.ref q] => sV (Lm M q) none (sI M q (upd (gI M q) 2 0))
  | _ => sF
set_option maxRecDepth 100000 in
set_option maxHeartbeats 4000000 in
theorem s_X2_clear {l : Launch} {G : Gt} (hfl : l.stackTraces = false) : SatM l G 26 S26 := by
  refine t_X2_clear (E := fun _ => S0) hfl  fun as M hp => ?_
  unfold S26 at hp ⊢
  split at hp
  case h_2 => exact hp.elim
  rename_i q
  obtain ⟨k0, ⟨p0, p1⟩, k1, k2⟩ := hp
  refine ⟨Nat.le_of_ble_eq_true rfl, ?_⟩
  show Run (gT G) _ _ _ _ _ _ _ 0 [.val (.ref q)] [] M 0 0
  simp only [rX2_clear_0, kX2_clear_0, bk_c, if_true, if_false, wi_e, wl_e, wr_e, w1_i, w1_r, ldS_0, ldS_s, vi_e, vl_e, vr_e, dpL_u, dpL_i, dpL_r, dpL_l, stS_0, stS_1, stS_s, stL_0, stL_1, stL_s, bin_0, bin_1, bin_2, bin_3, bin_4, bin_5, bdv_0, bdv_1, lbin_0, lbin_1, lbin_2, cnd_0, cnd_1, cnd_2, cnd_3, cnd_4, cnd_5, aty_0, aty_1, aty_2, aty_3, aty_4, aty_5, c8_u, cn_0, cn_i, cn_r, cn_l, Nat.reduceAdd, Nat.reduceLeDiff, Nat.le_refl, adz, hnd_0, rcv_0, rcv_1, kLen_a, kLen_r, inB_e, inR_e, cpOK_e, swt_n, swt_c, List.take_succ_cons, List.take_zero, List.drop_succ_cons, List.drop_zero, List.reverse_cons, List.reverse_nil, List.nil_append, List.cons_append, List.length_cons, List.length_nil, Option.toList_some, Option.toList_none, det_e, det_x, tr_imp, fa_imp, implies_true, not_true, not_false_eq_true, and_true, true_and, nar_i, upd_s, st1_0, st1_1, st1_2, st1_3, st1_4, st1_5, st1_6, st1_7, st1_8, st1_9, st1_10, st1_11, st1_12, st1_13, st1_14, st1_15, st1_16, st1_17, st1_18, st1_19, st1_20, st1_21, st1_22, st1_23, st1_24, st1_25, st1_26, st1_27, st1_28, st1_29, st1_30, st1_31, st1_32, st1_33, st1_34, st1_35, st1_36, st1_37, st1_42, st1_43, st1_44, st1_46, st1_47, st1_48, st1_49, st1_50, st1_51, st1_52, st1_53, st1_54, st1_55, st1_56, st1_57, st1_58, st1_59, st1_60, k0]
def adM (M : Mm) (q : Nat) (x : Int32) : Mm := if gI M q 2 < 900 then sI (sI M (q + 1) (upd (gI M (q + 1)) (gI M q 2).toNatClampNeg x)) q (upd (gI M q) 2 (gI M q 2 + 1)) else M
def S25 : Sem := fun as M => match as with
  | [.ref q, .int x] => sV (Lm M q ∧ cnt (gI M q 2) 900) none (adM M q x)
  | _ => sF
set_option maxRecDepth 100000 in
set_option maxHeartbeats 4000000 in
theorem s_X2_add {l : Launch} {G : Gt} (hfl : l.stackTraces = false) : SatM l G 25 S25 := by
  refine t_X2_add (E := fun _ => S0) hfl  fun as M hp => ?_
  unfold S25 at hp ⊢
  split at hp
  case h_2 => exact hp.elim
  rename_i q x
  obtain ⟨⟨k0, ⟨p0, p1⟩, k1, k2⟩, n, hn, e8⟩ := hp
  refine ⟨Nat.le_of_ble_eq_true rfl, ?_⟩
  show Run (gT G) _ _ _ _ _ _ _ 0 [.val (.ref q), .val (.int x)] [] M 0 0
  have cl : (nI n).toNatClampNeg = n := nI_clamp (by omega)
  unfold adM
  simp only [rX2_add_0, kX2_add_0, rX2_add_32, kX2_add_32, bk_c, if_true, if_false, wi_e, wl_e, wr_e, w1_i, w1_r, ldS_0, ldS_s, vi_e, vl_e, vr_e, dpL_u, dpL_i, dpL_r, dpL_l, stS_0, stS_1, stS_s, stL_0, stL_1, stL_s, bin_0, bin_1, bin_2, bin_3, bin_4, bin_5, bdv_0, bdv_1, lbin_0, lbin_1, lbin_2, cnd_0, cnd_1, cnd_2, cnd_3, cnd_4, cnd_5, aty_0, aty_1, aty_2, aty_3, aty_4, aty_5, c8_u, cn_0, cn_i, cn_r, cn_l, Nat.reduceAdd, Nat.reduceLeDiff, Nat.le_refl, adz, hnd_0, rcv_0, rcv_1, kLen_a, kLen_r, inB_e, inR_e, cpOK_e, swt_n, swt_c, List.take_succ_cons, List.take_zero, List.drop_succ_cons, List.drop_zero, List.reverse_cons, List.reverse_nil, List.nil_append, List.cons_append, List.length_cons, List.length_nil, Option.toList_some, Option.toList_none, det_e, det_x, tr_imp, fa_imp, implies_true, not_true, not_false_eq_true, and_true, true_and, nar_i, upd_s, st1_0, st1_1, st1_2, st1_3, st1_4, st1_5, st1_6, st1_7, st1_8, st1_9, st1_10, st1_11, st1_12, st1_13, st1_14, st1_15, st1_16, st1_17, st1_18, st1_19, st1_20, st1_21, st1_22, st1_23, st1_24, st1_25, st1_26, st1_27, st1_28, st1_29, st1_30, st1_31, st1_32, st1_33, st1_34, st1_35, st1_36, st1_37, st1_42, st1_43, st1_44, st1_46, st1_47, st1_48, st1_49, st1_50, st1_51, st1_52, st1_53, st1_54, st1_55, st1_56, st1_57, st1_58, st1_59, st1_60, gK_sI, gK_sJ, gK_sP, gK_sZ, gI_sI, gI_sJ, gI_sP, gI_sZ, gJ_sI, gJ_sJ, gJ_sP, gJ_sZ, gP_sI, gP_sJ, gP_sP, gP_sZ, gZ_sI, gZ_sJ, gZ_sP, gZ_sZ, up_q, up_q0, up_q1, up_s, sI_sI, Nat.reduceEqDiff, reduceIte, Nat.succ_ne_zero, forall_const, false_imp_iff, k0, p0, k1, e8]
  refine ⟨fun h => ?_, fun h => ⟨?_, ?_⟩⟩
  · rw [if_neg (show ¬ nI n < 900 from Int32.not_lt.mpr h)]
  · exact vp_in_nI (by have := Int32.not_le.mp h; exact (nI_ltI (by omega) (by decide)).mp this) (by decide)
  · rw [if_pos (show nI n < 900 from Int32.not_le.mp h)]
def cpM (M : Mm) (q o : Nat) : Mm :=
  let M1 := sI M q (upd (gI M q) 2 (gI M o 2))
  sI M1 (q + 1) (cpy (gI M1 q 2).toNatClampNeg (gI M1 (o + 1)) (gI M1 (q + 1)))
def S28 : Sem := fun as M => match as with
  | [.ref q, .ref o] => sV (Lm M q ∧ Lm M o ∧ cnt (gI M o 2) 900) none (cpM M q o)
  | _ => sF
set_option maxRecDepth 100000 in
set_option maxHeartbeats 4000000 in
theorem s_X2_copyFrom {l : Launch} {G : Gt} (hfl : l.stackTraces = false) : SatM l G 28 S28 := by
  refine t_X2_copyFrom (E := fun _ => S0) hfl  fun as M hp => ?_
  unfold S28 at hp ⊢
  split at hp
  case h_2 => exact hp.elim
  rename_i q o
  obtain ⟨⟨k0, ⟨p0, p1⟩, k1, k2⟩, ⟨K0, ⟨P0, P1⟩, K1, K2⟩, n, hn, e8⟩ := hp
  refine ⟨Nat.le_of_ble_eq_true rfl, ?_⟩
  show Run (gT G) _ _ _ _ _ _ _ 0 [.val (.ref q), .val (.ref o)] [] M 0 0
  have cl : (nI n).toNatClampNeg = n := nI_clamp (by omega)
  have e2 : (nI n < 0) = False := eq_false (nI_pos (by omega))
  have hF : ∀ g, gI (sI M q g) q = g := fun g => up_s _ _ _
  simp only [rX2_copyFrom_0, kX2_copyFrom_0, bk_c, if_true, if_false, wi_e, wl_e, wr_e, w1_i, w1_r, ldS_0, ldS_s, vi_e, vl_e, vr_e, dpL_u, dpL_i, dpL_r, dpL_l, stS_0, stS_1, stS_s, stL_0, stL_1, stL_s, bin_0, bin_1, bin_2, bin_3, bin_4, bin_5, bdv_0, bdv_1, lbin_0, lbin_1, lbin_2, cnd_0, cnd_1, cnd_2, cnd_3, cnd_4, cnd_5, aty_0, aty_1, aty_2, aty_3, aty_4, aty_5, c8_u, cn_0, cn_i, cn_r, cn_l, Nat.reduceAdd, Nat.reduceLeDiff, Nat.le_refl, adz, hnd_0, rcv_0, rcv_1, kLen_a, kLen_r, inB_e, inR_e, cpOK_e, swt_n, swt_c, List.take_succ_cons, List.take_zero, List.drop_succ_cons, List.drop_zero, List.reverse_cons, List.reverse_nil, List.nil_append, List.cons_append, List.length_cons, List.length_nil, Option.toList_some, Option.toList_none, det_e, det_x, tr_imp, fa_imp, implies_true, not_true, not_false_eq_true, and_true, true_and, nar_i, upd_s, st1_0, st1_1, st1_2, st1_3, st1_4, st1_5, st1_6, st1_7, st1_8, st1_9, st1_10, st1_11, st1_12, st1_13, st1_14, st1_15, st1_16, st1_17, st1_18, st1_19, st1_20, st1_21, st1_22, st1_23, st1_24, st1_25, st1_26, st1_27, st1_28, st1_29, st1_30, st1_31, st1_32, st1_33, st1_34, st1_35, st1_36, st1_37, st1_42, st1_43, st1_44, st1_46, st1_47, st1_48, st1_49, st1_50, st1_51, st1_52, st1_53, st1_54, st1_55, st1_56, st1_57, st1_58, st1_59, st1_60, gK_sI, gP_sI, k0, p0, p1, k1, k2, K0, P0, P1, K1, K2, e8, hF, e2, cl0, nlt0, cl, Nat.zero_add, cpy_e]
  refine ⟨⟨hn, hn⟩, ?_⟩
  unfold cpM
  dsimp only
  rw [hF, upd_s, e8, cl]
def cmb (c : Int32) (x y : Int64) : Int64 := if c = -4 then x + y else if c = -5 then x - y else if c = -6 then x * y else if y = 0 then 0 else x / y
def S27 : Sem := fun as M => match as with
  | [.int c, .long x, .long y] => sV True (some (.long (cmb c x y))) M
  | _ => sF
theorem i32c (c : Int32) (n : Int32) {z : Int} (h : n.toInt = z) : (c.toInt = z) = (c = n) := by
  rw [← h]
  exact propext Int32.toInt_inj
theorem lg_0 (y : Int64) : (lg_cmp y 0 = 0) = (y = 0) := by
  unfold lg_cmp
  refine propext ⟨fun h => ?_, fun h => ?_⟩
  · split at h
    · exact absurd h (by decide)
    · split at h
      · assumption
      · exact absurd h (by decide)
  · rw [h]
    decide
set_option maxRecDepth 100000 in
set_option maxHeartbeats 4000000 in
theorem s_X2_combine {l : Launch} {G : Gt} (hfl : l.stackTraces = false) : SatM l G 27 S27 := by
  refine t_X2_combine (E := fun _ => S0) hfl  fun as M hp => ?_
  unfold S27 at hp ⊢
  split at hp
  case h_2 => exact hp.elim
  rename_i c x y
  obtain _ := hp
  refine ⟨Nat.le_of_ble_eq_true rfl, ?_⟩
  show Run (gT G) _ _ _ _ _ _ _ 0 [.val (.int c), .val (.long x), .second, .val (.long y), .second] [] M 0 0
  simp only [rX2_combine_0, kX2_combine_0, rX2_combine_28, kX2_combine_28, rX2_combine_32, kX2_combine_32, rX2_combine_36, kX2_combine_36, rX2_combine_40, kX2_combine_40, rX2_combine_50, kX2_combine_50, rX2_combine_53, kX2_combine_53, bk_c, if_true, if_false, wi_e, wl_e, wr_e, w1_i, w1_r, ldS_0, ldS_s, vi_e, vl_e, vr_e, dpL_u, dpL_i, dpL_r, dpL_l, stS_0, stS_1, stS_s, stL_0, stL_1, stL_s, bin_0, bin_1, bin_2, bin_3, bin_4, bin_5, bdv_0, bdv_1, lbin_0, lbin_1, lbin_2, cnd_0, cnd_1, cnd_2, cnd_3, cnd_4, cnd_5, aty_0, aty_1, aty_2, aty_3, aty_4, aty_5, c8_u, cn_0, cn_i, cn_r, cn_l, Nat.reduceAdd, Nat.reduceLeDiff, Nat.le_refl, adz, hnd_0, rcv_0, rcv_1, kLen_a, kLen_r, inB_e, inR_e, cpOK_e, swt_n, swt_c, List.take_succ_cons, List.take_zero, List.drop_succ_cons, List.drop_zero, List.reverse_cons, List.reverse_nil, List.nil_append, List.cons_append, List.length_cons, List.length_nil, Option.toList_some, Option.toList_none, det_e, det_x, tr_imp, fa_imp, implies_true, not_true, not_false_eq_true, and_true, true_and, nar_i, upd_s, st1_0, st1_1, st1_2, st1_3, st1_4, st1_5, st1_6, st1_7, st1_8, st1_9, st1_10, st1_11, st1_12, st1_13, st1_14, st1_15, st1_16, st1_17, st1_18, st1_19, st1_20, st1_21, st1_22, st1_23, st1_24, st1_25, st1_26, st1_27, st1_28, st1_29, st1_30, st1_31, st1_32, st1_33, st1_34, st1_35, st1_36, st1_37, st1_42, st1_43, st1_44, st1_46, st1_47, st1_48, st1_49, st1_50, st1_51, st1_52, st1_53, st1_54, st1_55, st1_56, st1_57, st1_58, st1_59, st1_60, lg_0, show (-6 : Int32).toInt = -6 from by decide]
  refine ⟨fun h => ?_, fun h => ?_, fun h => ?_, fun h => ?_⟩
  · have n4 : ¬ c = -4 := fun e => by rw [e] at h; exact absurd h (by decide)
    have n5 : ¬ c = -5 := fun e => by rw [e] at h; exact absurd h (by decide)
    have n6 : ¬ c = -6 := fun e => by rw [e] at h; exact absurd h (by decide)
    unfold cmb
    rw [if_neg n4, if_neg n5, if_neg n6]
    refine ⟨fun g => ⟨g, by rw [if_neg g]⟩, fun g => by rw [if_pos (Decidable.not_not.mp g)]⟩
  · rw [i32c c (-6) (by decide)] at h
    rw [h]
    rfl
  · rw [i32c c (-5) (by decide)] at h
    rw [h]
    rfl
  · rw [i32c c (-4) (by decide)] at h
    rw [h]
    rfl
def opd (c h t : Int32) : Int64 := if c = -1 then h.toInt64 else if c = -2 then (h / 24).toInt64 else if c = -3 then t.toInt64 else c.toInt64
def S31 : Sem := fun as M => match as with
  | [.int c, .int h, .int t] => sV True (some (.long (opd c h t))) M
  | _ => sF
set_option maxRecDepth 100000 in
set_option maxHeartbeats 4000000 in
theorem s_X2_operand {l : Launch} {G : Gt} (hfl : l.stackTraces = false) : SatM l G 31 S31 := by
  refine t_X2_operand (E := fun _ => S0) hfl  fun as M hp => ?_
  unfold S31 at hp ⊢
  split at hp
  case h_2 => exact hp.elim
  rename_i c h t
  obtain _ := hp
  refine ⟨Nat.le_of_ble_eq_true rfl, ?_⟩
  show Run (gT G) _ _ _ _ _ _ _ 0 [.val (.int c), .val (.int h), .val (.int t)] [] M 0 0
  simp only [rX2_operand_0, kX2_operand_0, rX2_operand_28, kX2_operand_28, rX2_operand_31, kX2_operand_31, rX2_operand_37, kX2_operand_37, rX2_operand_40, kX2_operand_40, bk_c, if_true, if_false, wi_e, wl_e, wr_e, w1_i, w1_r, ldS_0, ldS_s, vi_e, vl_e, vr_e, dpL_u, dpL_i, dpL_r, dpL_l, stS_0, stS_1, stS_s, stL_0, stL_1, stL_s, bin_0, bin_1, bin_2, bin_3, bin_4, bin_5, bdv_0, bdv_1, lbin_0, lbin_1, lbin_2, cnd_0, cnd_1, cnd_2, cnd_3, cnd_4, cnd_5, aty_0, aty_1, aty_2, aty_3, aty_4, aty_5, c8_u, cn_0, cn_i, cn_r, cn_l, Nat.reduceAdd, Nat.reduceLeDiff, Nat.le_refl, adz, hnd_0, rcv_0, rcv_1, kLen_a, kLen_r, inB_e, inR_e, cpOK_e, swt_n, swt_c, List.take_succ_cons, List.take_zero, List.drop_succ_cons, List.drop_zero, List.reverse_cons, List.reverse_nil, List.nil_append, List.cons_append, List.length_cons, List.length_nil, Option.toList_some, Option.toList_none, det_e, det_x, tr_imp, fa_imp, implies_true, not_true, not_false_eq_true, and_true, true_and, nar_i, upd_s, st1_0, st1_1, st1_2, st1_3, st1_4, st1_5, st1_6, st1_7, st1_8, st1_9, st1_10, st1_11, st1_12, st1_13, st1_14, st1_15, st1_16, st1_17, st1_18, st1_19, st1_20, st1_21, st1_22, st1_23, st1_24, st1_25, st1_26, st1_27, st1_28, st1_29, st1_30, st1_31, st1_32, st1_33, st1_34, st1_35, st1_36, st1_37, st1_42, st1_43, st1_44, st1_46, st1_47, st1_48, st1_49, st1_50, st1_51, st1_52, st1_53, st1_54, st1_55, st1_56, st1_57, st1_58, st1_59, st1_60, show (-3 : Int32).toInt = -3 from by decide]
  refine ⟨fun g => ?_, fun g => ?_, fun g => ⟨by decide, ?_⟩, fun g => ?_⟩
  · have n1 : ¬ c = -1 := fun e => by rw [e] at g; exact absurd g (by decide)
    have n2 : ¬ c = -2 := fun e => by rw [e] at g; exact absurd g (by decide)
    have n3 : ¬ c = -3 := fun e => by rw [e] at g; exact absurd g (by decide)
    unfold opd
    rw [if_neg n1, if_neg n2, if_neg n3]
  · rw [i32c c (-3) (by decide)] at g
    rw [g]
    rfl
  · rw [i32c c (-2) (by decide)] at g
    rw [g]
    rfl
  · rw [i32c c (-1) (by decide)] at g
    rw [g]
    rfl
/-! == the inflow expression == -/
def mnL (x y : Int64) : Int64 := if y < x then y else x
def mxL (x y : Int64) : Int64 := if y < x then x else y
/-- one code: the height of the stack, the stack -/
def fmA (M : Mm) (q : Nat) (hr t : Int32) (k : Nat) (z : Nat × (Nat → Int64)) : Nat × (Nat → Int64) :=
  if -4 < gI M (q + 1) k ∧ z.1 < 11 then (z.1 + 1, vp_updL z.2 z.1 (opd (gI M (q + 1) k) hr t))
  else if gI M (q + 1) k ≤ -4 ∧ 2 ≤ z.1 then (z.1 - 1, vp_updL z.2 (z.1 - 2) (mxL (-1000000000) (mnL 1000000000 (cmb (gI M (q + 1) k) (z.2 (z.1 - 2)) (z.2 (z.1 - 1))))))
  else z
def fmR (M : Mm) (q : Nat) (hr t : Int32) : Nat × (Nat → Int64) := itr (fmA M q hr t) (gI M q 2).toNatClampNeg 0 (0, gJ M (q + 2))
def fmV (x : Int64) : Int32 := (mxL 0 (mnL 9999 x)).toInt32
def S29 : Sem := fun as M => match as with
  | [.ref q, .int h, .int t] => sV (Lm M q ∧ cnt (gI M q 2) 900) (some (.int (fmV ((fmR M q h t).2 0)))) (sJ M (q + 2) (fmR M q h t).2)
  | _ => sF
theorem sJ_sJ (M : Mm) (a : Nat) (f g : Nat → Int64) : sJ (sJ M a f) a g = sJ M a g := by
  refine Mm_ext rfl rfl ?_ rfl rfl
  rw [gJ_sJ, gJ_sJ, gJ_sJ]
  funext q
  by_cases h : q = a
  · rw [h, up_s, up_s]
  · rw [up_n _ _ h, up_n _ _ h, up_n _ _ h]
theorem sJ_id (M : Mm) (a : Nat) : sJ M a (gJ M a) = M := by
  refine Mm_ext rfl rfl ?_ rfl rfl
  rw [gJ_sJ]
  funext q
  by_cases h : q = a
  · rw [h, up_s]
  · rw [up_n _ _ h]
def eX2_inflowIn : Nat → Sem := fun id => if id = 27 then S27 else S31
set_option maxRecDepth 100000 in
set_option maxHeartbeats 4000000 in
theorem s_X2_inflowIn {l : Launch} {G : Gt} (hfl : l.stackTraces = false) : SatM l G 29 S29 := by
  refine t_X2_inflowIn (E := eX2_inflowIn) hfl (s_X2_combine hfl) (s_X2_operand hfl) fun as M hp => ?_
  unfold S29 at hp ⊢
  split at hp
  case h_2 => exact hp.elim
  rename_i q h t
  obtain ⟨⟨k0, ⟨p0, p1⟩, k1, k2⟩, n, hn, e8⟩ := hp
  refine ⟨Nat.le_of_ble_eq_true rfl, ?_⟩
  show Run (gT G) _ _ _ _ _ _ _ 0 [.val (.ref q), .val (.int h), .val (.int t), .unset, .unset, .unset, .unset, .unset] [] M 0 0
  have cl : (nI n).toNatClampNeg = n := nI_clamp (by omega)
  have hF : ∀ g, gJ (sJ M (q + 2) g) (q + 2) = g := fun g => up_s _ _ _
  have key : ∀ r i (z : Nat × (Nat → Int64)) (u v w x : Slot), i + r = n → z.1 ≤ 11 → Run (gT G) eX2_inflowIn 0 0 (fun _ _ => none) (fun v' M' => v' = some (.int (fmV ((itr (fmA M q h t) r i z).2 0))) ∧ M' = sJ M (q + 2) (itr (fmA M q h t) r i z).2) (fun _ _ => False) kX2_inflowIn 5 [.val (.ref q), .val (.int h), .val (.int t), .val (.int (nI z.1)), .val (.int (nI i)), u, v, w] [] (sJ M (q + 2) z.2) 0 0 := by
    intro r
    induction r with
    | zero =>
      intro i z u v w x hi hz
      have hi2 : i = n := hi
      subst hi2
      rw [rX2_inflowIn_5]
      simp only [kX2_inflowIn_5, rX2_inflowIn_0, kX2_inflowIn_0, rX2_inflowIn_55, kX2_inflowIn_55, rX2_inflowIn_113, kX2_inflowIn_113, rX2_inflowIn_119, kX2_inflowIn_119, eX2_inflowIn, S27, S31, bk_c, if_true, if_false, wi_e, wl_e, wr_e, w1_i, w1_r, ldS_0, ldS_s, vi_e, vl_e, vr_e, dpL_u, dpL_i, dpL_r, dpL_l, stS_0, stS_1, stS_s, stL_0, stL_1, stL_s, bin_0, bin_1, bin_2, bin_3, bin_4, bin_5, bdv_0, bdv_1, lbin_0, lbin_1, lbin_2, cnd_0, cnd_1, cnd_2, cnd_3, cnd_4, cnd_5, aty_0, aty_1, aty_2, aty_3, aty_4, aty_5, c8_u, cn_0, cn_i, cn_r, cn_l, Nat.reduceAdd, Nat.reduceLeDiff, Nat.le_refl, adz, hnd_0, rcv_0, rcv_1, kLen_a, kLen_r, inB_e, inR_e, cpOK_e, swt_n, swt_c, List.take_succ_cons, List.take_zero, List.drop_succ_cons, List.drop_zero, List.reverse_cons, List.reverse_nil, List.nil_append, List.cons_append, List.length_cons, List.length_nil, Option.toList_some, Option.toList_none, det_e, det_x, tr_imp, fa_imp, implies_true, not_true, not_false_eq_true, and_true, true_and, nar_i, upd_s, st1_0, st1_1, st1_2, st1_3, st1_4, st1_5, st1_6, st1_7, st1_8, st1_9, st1_10, st1_11, st1_12, st1_13, st1_14, st1_15, st1_16, st1_17, st1_18, st1_19, st1_20, st1_21, st1_22, st1_23, st1_24, st1_25, st1_26, st1_27, st1_28, st1_29, st1_30, st1_31, st1_32, st1_33, st1_34, st1_35, st1_36, st1_37, st1_42, st1_43, st1_44, st1_46, st1_47, st1_48, st1_49, st1_50, st1_51, st1_52, st1_53, st1_54, st1_55, st1_56, st1_57, st1_58, st1_59, st1_60, gK_sJ, gP_sJ, gI_sJ, hF, k0, p1, k2, e8, lp_out, itr]
      exact ⟨vp_in_nI (n := 0) (by decide) (by decide), rfl⟩
    | succ r ih =>
      intro i z u v w x hi hz
      obtain ⟨a1, a2, a3, -⟩ := lp_in (i := i) (n := n) (N := 900) (by omega) hn (by decide)
      rw [rX2_inflowIn_5]
      simp only [kX2_inflowIn_5, rX2_inflowIn_0, kX2_inflowIn_0, rX2_inflowIn_55, kX2_inflowIn_55, rX2_inflowIn_113, kX2_inflowIn_113, rX2_inflowIn_119, kX2_inflowIn_119, eX2_inflowIn, S27, S31, bk_c, if_true, if_false, wi_e, wl_e, wr_e, w1_i, w1_r, ldS_0, ldS_s, vi_e, vl_e, vr_e, dpL_u, dpL_i, dpL_r, dpL_l, stS_0, stS_1, stS_s, stL_0, stL_1, stL_s, bin_0, bin_1, bin_2, bin_3, bin_4, bin_5, bdv_0, bdv_1, lbin_0, lbin_1, lbin_2, cnd_0, cnd_1, cnd_2, cnd_3, cnd_4, cnd_5, aty_0, aty_1, aty_2, aty_3, aty_4, aty_5, c8_u, cn_0, cn_i, cn_r, cn_l, Nat.reduceAdd, Nat.reduceLeDiff, Nat.le_refl, adz, hnd_0, rcv_0, rcv_1, kLen_a, kLen_r, inB_e, inR_e, cpOK_e, swt_n, swt_c, List.take_succ_cons, List.take_zero, List.drop_succ_cons, List.drop_zero, List.reverse_cons, List.reverse_nil, List.nil_append, List.cons_append, List.length_cons, List.length_nil, Option.toList_some, Option.toList_none, det_e, det_x, tr_imp, fa_imp, implies_true, not_true, not_false_eq_true, and_true, true_and, nar_i, upd_s, st1_0, st1_1, st1_2, st1_3, st1_4, st1_5, st1_6, st1_7, st1_8, st1_9, st1_10, st1_11, st1_12, st1_13, st1_14, st1_15, st1_16, st1_17, st1_18, st1_19, st1_20, st1_21, st1_22, st1_23, st1_24, st1_25, st1_26, st1_27, st1_28, st1_29, st1_30, st1_31, st1_32, st1_33, st1_34, st1_35, st1_36, st1_37, st1_42, st1_43, st1_44, st1_46, st1_47, st1_48, st1_49, st1_50, st1_51, st1_52, st1_53, st1_54, st1_55, st1_56, st1_57, st1_58, st1_59, st1_60, gK_sJ, gP_sJ, gI_sJ, hF, sJ_sJ, k0, p0, p1, k1, k2, e8, a1, a2, a3, nI_1, itr, sV, Nat.reduceEqDiff, reduceIte]
      obtain ⟨g, sk⟩ := z
      replace hz : g ≤ 11 := hz
      dsimp only
      refine ⟨fun hA => ⟨fun hB => absurd hB (Int32.not_lt.mpr hA), fun _ => ⟨fun hC => ?_, fun hC => ?_⟩⟩, fun hA => ⟨fun hC => ⟨fun _ => ?_, fun hq => absurd (Int32.not_le.mp hA) hq⟩, fun hC => ?_⟩⟩
      · have hC2 : g < 2 := (nI_ltI (by omega) (by decide)).mp (show nI g < nI 2 from hC)
        rw [show fmA M q h t i (g, sk) = (g, sk) from (if_neg (fun z => absurd z.1 (Int32.not_lt.mpr hA))).trans (if_neg (fun z => absurd z.2 (by omega)))]
        exact ih (i + 1) (g, sk) _ _ _ x (by omega) hz
      · have hC2 : ¬ g < 2 := fun z => hC (show nI g < nI 2 from (nI_ltI (by omega) (by decide)).mpr z)
        obtain ⟨m, rfl⟩ : ∃ m, g = m + 2 := ⟨g - 2, by omega⟩
        have h1 := ih (i + 1) (fmA M q h t i (m + 2, sk)) (.val (.int (gI M (q + 1) i))) (.val (.long (cmb (gI M (q + 1) i) (sk m) (sk (m + 1))))) .unset x (by omega)
        rw [show fmA M q h t i (m + 2, sk) = (m + 1, vp_updL sk m (mxL (-1000000000) (mnL 1000000000 (cmb (gI M (q + 1) i) (sk m) (sk (m + 1)))))) from (if_neg (fun z => absurd z.1 (Int32.not_lt.mpr hA))).trans (if_pos ⟨hA, by omega⟩)] at h1 ⊢
        simp only [nI_m1, nI_pred, nI_clamp (show m < 2 ^ 31 by omega), nI_clamp (show m + 1 < 2 ^ 31 by omega)]
        exact ⟨vp_in_nI (by omega) (by decide), vp_in_nI (by omega) (by decide), vp_in_nI (by omega) (by decide), h1 (by omega)⟩
      · have hC2 : 11 ≤ g := (nI_leI (by decide) (by omega)).mp (show nI 11 ≤ nI g from hC)
        rw [show fmA M q h t i (g, sk) = (g, sk) from (if_neg (fun z => absurd z.2 (by omega))).trans (if_neg (fun z => hA z.1))]
        exact ih (i + 1) (g, sk) _ _ _ x (by omega) hz
      · have hC2 : g < 11 := by
          rcases Nat.lt_or_ge g 11 with z | z
          · exact z
          · exact absurd (show nI 11 ≤ nI g from (nI_leI (by decide) (by omega)).mpr z) hC
        have h1 := ih (i + 1) (fmA M q h t i (g, sk)) (.val (.int (gI M (q + 1) i))) v w x (by omega)
        rw [show fmA M q h t i (g, sk) = (g + 1, vp_updL sk g (opd (gI M (q + 1) i) h t)) from if_pos ⟨Int32.not_le.mp hA, hC2⟩] at h1 ⊢
        rw [nI_clamp (by omega)]
        exact ⟨vp_in_nI hC2 (by decide), h1 (by omega)⟩
  have h0 := key n 0 (0, gJ M (q + 2)) .unset .unset .unset .unset (Nat.zero_add n) (Nat.zero_le _)
  simp only [sJ_id] at h0
  simp only [rX2_inflowIn_0, kX2_inflowIn_0, rX2_inflowIn_55, kX2_inflowIn_55, rX2_inflowIn_113, kX2_inflowIn_113, rX2_inflowIn_119, kX2_inflowIn_119, bk_c, if_true, if_false, wi_e, wl_e, wr_e, w1_i, w1_r, ldS_0, ldS_s, vi_e, vl_e, vr_e, dpL_u, dpL_i, dpL_r, dpL_l, stS_0, stS_1, stS_s, stL_0, stL_1, stL_s, bin_0, bin_1, bin_2, bin_3, bin_4, bin_5, bdv_0, bdv_1, lbin_0, lbin_1, lbin_2, cnd_0, cnd_1, cnd_2, cnd_3, cnd_4, cnd_5, aty_0, aty_1, aty_2, aty_3, aty_4, aty_5, c8_u, cn_0, cn_i, cn_r, cn_l, Nat.reduceAdd, Nat.reduceLeDiff, Nat.le_refl, adz, hnd_0, rcv_0, rcv_1, kLen_a, kLen_r, inB_e, inR_e, cpOK_e, swt_n, swt_c, List.take_succ_cons, List.take_zero, List.drop_succ_cons, List.drop_zero, List.reverse_cons, List.reverse_nil, List.nil_append, List.cons_append, List.length_cons, List.length_nil, Option.toList_some, Option.toList_none, det_e, det_x, tr_imp, fa_imp, implies_true, not_true, not_false_eq_true, and_true, true_and, nar_i, upd_s, st1_0, st1_1, st1_2, st1_3, st1_4, st1_5, st1_6, st1_7, st1_8, st1_9, st1_10, st1_11, st1_12, st1_13, st1_14, st1_15, st1_16, st1_17, st1_18, st1_19, st1_20, st1_21, st1_22, st1_23, st1_24, st1_25, st1_26, st1_27, st1_28, st1_29, st1_30, st1_31, st1_32, st1_33, st1_34, st1_35, st1_36, st1_37, st1_42, st1_43, st1_44, st1_46, st1_47, st1_48, st1_49, st1_50, st1_51, st1_52, st1_53, st1_54, st1_55, st1_56, st1_57, st1_58, st1_59, st1_60, k0, fmR, e8, cl]
  exact h0
