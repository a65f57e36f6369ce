/-! ===== IrrigationTurnsModel: reading ===== -/
def cyD (D : Nat → Int32) : Int32 := itr (fun k s => s + D (353 + 2 * k + 1)) (D 2).toNatClampNeg 0 0
def S118 : Sem := fun as M => match as with
  | [.ref q] => sV (gK M q = kA .int 1793 ∧ cnt (gI M q 2) 12) (some (.int (cyD (gI M q)))) M
  | _ => sF
set_option maxRecDepth 100000 in
set_option maxHeartbeats 4000000 in
theorem s_X11_cycle {l : Launch} {G : Gt} (hfl : l.stackTraces = false) : SatM l G 118 S118 := by
  refine t_X11_cycle (E := fun _ => S0) hfl  fun as M hp => ?_
  unfold S118 at hp ⊢
  split at hp
  case h_2 => exact hp.elim
  rename_i q
  obtain ⟨k0, n, hn, en⟩ := hp
  refine ⟨Nat.le_of_ble_eq_true rfl, ?_⟩
  show Run (gT G) _ _ _ _ _ _ _ 0 [.val (.ref q), .unset, .unset] [] M 0 0
  have cn : (nI n).toNatClampNeg = n := nI_clamp (by omega)
  have key : ∀ r i s, i + r = n → Run (gT G) (fun _ => S0) 0 0 (fun _ _ => none) (fun v' M' => v' = some (.int (itr (fun k s => s + gI M q (353 + 2 * k + 1)) r i s)) ∧ M' = M) (fun _ _ => False) kX11_cycle 4 [.val (.ref q), .val (.int s), .val (.int (nI i))] [] M 0 0 := by
    intro r
    induction r with
    | zero =>
      intro i s hi
      have hi2 : i = n := hi
      subst hi2
      rw [rX11_cycle_4]
      simp only [kX11_cycle_4, rX11_cycle_0, kX11_cycle_0, rX11_cycle_31, kX11_cycle_31, bk_c, if_true, if_false, wi_e, wl_e, wr_e, w1_i, w1_r, ldS_0, ldS_s, vi_e, vl_e, vr_e, dpL_u, dpL_i, dpL_r, dpL_l, stS_0, stS_1, stS_s, stL_0, stL_1, stL_s, bin_0, bin_1, bin_2, bin_3, bin_4, bin_5, bdv_0, bdv_1, lbin_0, lbin_1, lbin_2, cnd_0, cnd_1, cnd_2, cnd_3, cnd_4, cnd_5, aty_0, aty_1, aty_2, aty_3, aty_4, aty_5, c8_u, cn_0, cn_i, cn_r, cn_l, Nat.reduceAdd, Nat.reduceLeDiff, Nat.le_refl, adz, hnd_0, rcv_0, rcv_1, kLen_a, kLen_r, inB_e, inR_e, cpOK_e, swt_n, swt_c, List.take_succ_cons, List.take_zero, List.drop_succ_cons, List.drop_zero, List.reverse_cons, List.reverse_nil, List.nil_append, List.cons_append, List.length_cons, List.length_nil, Option.toList_some, Option.toList_none, det_e, det_x, tr_imp, fa_imp, implies_true, not_true, not_false_eq_true, and_true, true_and, nar_i, upd_s, st1_0, st1_1, st1_2, st1_3, st1_4, st1_5, st1_6, st1_7, st1_8, st1_9, st1_10, st1_11, st1_12, st1_13, st1_14, st1_15, st1_16, st1_17, st1_18, st1_19, st1_20, st1_21, st1_22, st1_23, st1_24, st1_25, st1_26, st1_27, st1_28, st1_29, st1_30, st1_31, st1_32, st1_33, st1_34, st1_35, st1_36, st1_37, st1_42, st1_43, st1_44, st1_46, st1_47, st1_48, st1_49, st1_50, st1_51, st1_52, st1_53, st1_54, st1_55, st1_56, st1_57, st1_58, st1_59, st1_60, k0, xL0, xL1, en, lp_out, itr]
    | succ r ih =>
      intro i s hi
      obtain ⟨a1, a2, a3, -⟩ := lp_in (i := i) (n := n) (N := 12) (by omega) hn (by decide)
      rw [rX11_cycle_4]
      simp only [kX11_cycle_4, rX11_cycle_0, kX11_cycle_0, rX11_cycle_31, kX11_cycle_31, bk_c, if_true, if_false, wi_e, wl_e, wr_e, w1_i, w1_r, ldS_0, ldS_s, vi_e, vl_e, vr_e, dpL_u, dpL_i, dpL_r, dpL_l, stS_0, stS_1, stS_s, stL_0, stL_1, stL_s, bin_0, bin_1, bin_2, bin_3, bin_4, bin_5, bdv_0, bdv_1, lbin_0, lbin_1, lbin_2, cnd_0, cnd_1, cnd_2, cnd_3, cnd_4, cnd_5, aty_0, aty_1, aty_2, aty_3, aty_4, aty_5, c8_u, cn_0, cn_i, cn_r, cn_l, Nat.reduceAdd, Nat.reduceLeDiff, Nat.le_refl, adz, hnd_0, rcv_0, rcv_1, kLen_a, kLen_r, inB_e, inR_e, cpOK_e, swt_n, swt_c, List.take_succ_cons, List.take_zero, List.drop_succ_cons, List.drop_zero, List.reverse_cons, List.reverse_nil, List.nil_append, List.cons_append, List.length_cons, List.length_nil, Option.toList_some, Option.toList_none, det_e, det_x, tr_imp, fa_imp, implies_true, not_true, not_false_eq_true, and_true, true_and, nar_i, upd_s, st1_0, st1_1, st1_2, st1_3, st1_4, st1_5, st1_6, st1_7, st1_8, st1_9, st1_10, st1_11, st1_12, st1_13, st1_14, st1_15, st1_16, st1_17, st1_18, st1_19, st1_20, st1_21, st1_22, st1_23, st1_24, st1_25, st1_26, st1_27, st1_28, st1_29, st1_30, st1_31, st1_32, st1_33, st1_34, st1_35, st1_36, st1_37, st1_42, st1_43, st1_44, st1_46, st1_47, st1_48, st1_49, st1_50, st1_51, st1_52, st1_53, st1_54, st1_55, st1_56, st1_57, st1_58, st1_59, st1_60, k0, xL0, xL1, en, a1, t35, nI_1, xTn (show i < 12 by omega), itr]
      exact ih (i + 1) _ (by omega)
  simp only [rX11_cycle_0, kX11_cycle_0, rX11_cycle_31, kX11_cycle_31, bk_c, if_true, if_false, wi_e, wl_e, wr_e, w1_i, w1_r, ldS_0, ldS_s, vi_e, vl_e, vr_e, dpL_u, dpL_i, dpL_r, dpL_l, stS_0, stS_1, stS_s, stL_0, stL_1, stL_s, bin_0, bin_1, bin_2, bin_3, bin_4, bin_5, bdv_0, bdv_1, lbin_0, lbin_1, lbin_2, cnd_0, cnd_1, cnd_2, cnd_3, cnd_4, cnd_5, aty_0, aty_1, aty_2, aty_3, aty_4, aty_5, c8_u, cn_0, cn_i, cn_r, cn_l, Nat.reduceAdd, Nat.reduceLeDiff, Nat.le_refl, adz, hnd_0, rcv_0, rcv_1, kLen_a, kLen_r, inB_e, inR_e, cpOK_e, swt_n, swt_c, List.take_succ_cons, List.take_zero, List.drop_succ_cons, List.drop_zero, List.reverse_cons, List.reverse_nil, List.nil_append, List.cons_append, List.length_cons, List.length_nil, Option.toList_some, Option.toList_none, det_e, det_x, tr_imp, fa_imp, implies_true, not_true, not_false_eq_true, and_true, true_and, nar_i, upd_s, st1_0, st1_1, st1_2, st1_3, st1_4, st1_5, st1_6, st1_7, st1_8, st1_9, st1_10, st1_11, st1_12, st1_13, st1_14, st1_15, st1_16, st1_17, st1_18, st1_19, st1_20, st1_21, st1_22, st1_23, st1_24, st1_25, st1_26, st1_27, st1_28, st1_29, st1_30, st1_31, st1_32, st1_33, st1_34, st1_35, st1_36, st1_37, st1_42, st1_43, st1_44, st1_46, st1_47, st1_48, st1_49, st1_50, st1_51, st1_52, st1_53, st1_54, st1_55, st1_56, st1_57, st1_58, st1_59, st1_60]
  unfold cyD
  rw [en, cn]
  exact key n 0 0 (Nat.zero_add n)
def tuF (D : Nat → Int32) : Nat → Nat → Int32 → Int32
  | 0, k, _ => D (353 + 2 * k)
  | r + 1, k, w => if w < D (353 + 2 * k + 1) then D (353 + 2 * k) else tuF D r (k + 1) (w - D (353 + 2 * k + 1))
def tuP (D : Nat → Int32) : Nat → Nat → Int32 → Prop
  | 0, _, _ => False
  | r + 1, k, w => ¬ w < D (353 + 2 * k + 1) → tuP D r (k + 1) (w - D (353 + 2 * k + 1))
def tuD (D : Nat → Int32) (h : Int32) : Int32 := if D 2 = 0 then -1 else tuF D 12 0 (h - h / cyD D * cyD D)
def tuW (D : Nat → Int32) (h : Int32) : Prop := cnt (D 2) 12 ∧ (¬ D 2 = 0 → ¬ cyD D = 0 ∧ tuP D 12 0 (h - h / cyD D * cyD D))
def S180 : Sem := fun as M => match as with
  | [.ref q, .int h] => sV (gK M q = kA .int 1793 ∧ tuW (gI M q) h) (some (.int (tuD (gI M q) h))) M
  | _ => sF
set_option maxRecDepth 100000 in
set_option maxHeartbeats 4000000 in
theorem s_X11_turn {l : Launch} {G : Gt} (hfl : l.stackTraces = false) : SatM l G 180 S180 := by
  refine t_X11_turn (E := fun _ => S118) hfl (s_X11_cycle hfl) fun as M hp => ?_
  unfold S180 at hp ⊢
  split at hp
  case h_2 => exact hp.elim
  rename_i q h
  obtain ⟨k0, hn, hw⟩ := hp
  refine ⟨Nat.le_of_ble_eq_true rfl, ?_⟩
  show Run (gT G) _ _ _ _ _ _ _ 0 [.val (.ref q), .val (.int h), .unset, .unset] [] M 0 0
  have key : ∀ r i w, i + r = 12 → tuP (gI M q) r i w → Run (gT G) (fun _ => S118) 0 0 (fun _ _ => none) (fun v' M' => v' = some (.int (tuF (gI M q) r i w)) ∧ M' = M) (fun _ _ => False) kX11_turn 17 [.val (.ref q), .val (.int h), .val (.int w), .val (.int (nI i))] [] M 0 0 := by
    intro r
    induction r with
    | zero => exact fun i w hi hp => hp.elim
    | succ r ih =>
      intro i w hi hp
      rw [rX11_turn_17]
      simp only [kX11_turn_17, rX11_turn_0, kX11_turn_0, rX11_turn_8, kX11_turn_8, rX11_turn_52, kX11_turn_52, bk_c, if_true, if_false, wi_e, wl_e, wr_e, w1_i, w1_r, ldS_0, ldS_s, vi_e, vl_e, vr_e, dpL_u, dpL_i, dpL_r, dpL_l, stS_0, stS_1, stS_s, stL_0, stL_1, stL_s, bin_0, bin_1, bin_2, bin_3, bin_4, bin_5, bdv_0, bdv_1, lbin_0, lbin_1, lbin_2, cnd_0, cnd_1, cnd_2, cnd_3, cnd_4, cnd_5, aty_0, aty_1, aty_2, aty_3, aty_4, aty_5, c8_u, cn_0, cn_i, cn_r, cn_l, Nat.reduceAdd, Nat.reduceLeDiff, Nat.le_refl, adz, hnd_0, rcv_0, rcv_1, kLen_a, kLen_r, inB_e, inR_e, cpOK_e, swt_n, swt_c, List.take_succ_cons, List.take_zero, List.drop_succ_cons, List.drop_zero, List.reverse_cons, List.reverse_nil, List.nil_append, List.cons_append, List.length_cons, List.length_nil, Option.toList_some, Option.toList_none, det_e, det_x, tr_imp, fa_imp, implies_true, not_true, not_false_eq_true, and_true, true_and, nar_i, upd_s, st1_0, st1_1, st1_2, st1_3, st1_4, st1_5, st1_6, st1_7, st1_8, st1_9, st1_10, st1_11, st1_12, st1_13, st1_14, st1_15, st1_16, st1_17, st1_18, st1_19, st1_20, st1_21, st1_22, st1_23, st1_24, st1_25, st1_26, st1_27, st1_28, st1_29, st1_30, st1_31, st1_32, st1_33, st1_34, st1_35, st1_36, st1_37, st1_42, st1_43, st1_44, st1_46, st1_47, st1_48, st1_49, st1_50, st1_51, st1_52, st1_53, st1_54, st1_55, st1_56, st1_57, st1_58, st1_59, st1_60, k0, t35, nI_1, xTn (show i < 12 by omega), tuF]
      refine ⟨fun g => ?_, fun g => ?_⟩
      · rw [if_pos g]
      · rw [if_neg g]
        exact ih (i + 1) _ (by omega) (hp g)
  simp only [rX11_turn_0, kX11_turn_0, rX11_turn_8, kX11_turn_8, rX11_turn_52, kX11_turn_52, bk_c, if_true, if_false, wi_e, wl_e, wr_e, w1_i, w1_r, ldS_0, ldS_s, vi_e, vl_e, vr_e, dpL_u, dpL_i, dpL_r, dpL_l, stS_0, stS_1, stS_s, stL_0, stL_1, stL_s, bin_0, bin_1, bin_2, bin_3, bin_4, bin_5, bdv_0, bdv_1, lbin_0, lbin_1, lbin_2, cnd_0, cnd_1, cnd_2, cnd_3, cnd_4, cnd_5, aty_0, aty_1, aty_2, aty_3, aty_4, aty_5, c8_u, cn_0, cn_i, cn_r, cn_l, Nat.reduceAdd, Nat.reduceLeDiff, Nat.le_refl, adz, hnd_0, rcv_0, rcv_1, kLen_a, kLen_r, inB_e, inR_e, cpOK_e, swt_n, swt_c, List.take_succ_cons, List.take_zero, List.drop_succ_cons, List.drop_zero, List.reverse_cons, List.reverse_nil, List.nil_append, List.cons_append, List.length_cons, List.length_nil, Option.toList_some, Option.toList_none, det_e, det_x, tr_imp, fa_imp, implies_true, not_true, not_false_eq_true, and_true, true_and, nar_i, upd_s, st1_0, st1_1, st1_2, st1_3, st1_4, st1_5, st1_6, st1_7, st1_8, st1_9, st1_10, st1_11, st1_12, st1_13, st1_14, st1_15, st1_16, st1_17, st1_18, st1_19, st1_20, st1_21, st1_22, st1_23, st1_24, st1_25, st1_26, st1_27, st1_28, st1_29, st1_30, st1_31, st1_32, st1_33, st1_34, st1_35, st1_36, st1_37, st1_42, st1_43, st1_44, st1_46, st1_47, st1_48, st1_49, st1_50, st1_51, st1_52, st1_53, st1_54, st1_55, st1_56, st1_57, st1_58, st1_59, st1_60, k0, xL0, xL1, S118, sV, hn]
  refine ⟨fun g => ?_, fun g => ?_⟩
  · unfold tuD
    rw [if_neg g]
    exact ⟨(hw g).1, key 12 0 _ rfl (hw g).2⟩
  · unfold tuD
    rw [if_pos (Decidable.not_not.mp g)]
def liV (x : Int64) : Int64 := if 1000000000 < x then 1000000000 else if x < -1000000000 then -1000000000 else x
def S148 : Sem := fun as M => match as with
  | [.long x] => sV True (some (.long (liV x))) M
  | _ => sF
theorem lgp_le (x y : Int64) : (lg_cmp x y ≤ 0) = (x ≤ y) := propext (lg_cmp_le x y)
theorem lgp_ge (x y : Int64) : (0 ≤ lg_cmp x y) = (y ≤ x) := propext (lg_cmp_ge x y)
set_option maxRecDepth 100000 in
set_option maxHeartbeats 4000000 in
theorem s_X11_limited {l : Launch} {G : Gt} (hfl : l.stackTraces = false) : SatM l G 148 S148 := by
  refine t_X11_limited (E := fun _ => S0) hfl  fun as M hp => ?_
  unfold S148 at hp ⊢
  split at hp
  case h_2 => exact hp.elim
  rename_i x
  obtain _ := hp
  refine ⟨Nat.le_of_ble_eq_true rfl, ?_⟩
  show Run (gT G) _ _ _ _ _ _ _ 0 [.val (.long x), .second] [] M 0 0
  simp only [rX11_limited_0, kX11_limited_0, rX11_limited_14, kX11_limited_14, rX11_limited_28, kX11_limited_28, rX11_limited_29, kX11_limited_29, bk_c, if_true, if_false, wi_e, wl_e, wr_e, w1_i, w1_r, ldS_0, ldS_s, vi_e, vl_e, vr_e, dpL_u, dpL_i, dpL_r, dpL_l, stS_0, stS_1, stS_s, stL_0, stL_1, stL_s, bin_0, bin_1, bin_2, bin_3, bin_4, bin_5, bdv_0, bdv_1, lbin_0, lbin_1, lbin_2, cnd_0, cnd_1, cnd_2, cnd_3, cnd_4, cnd_5, aty_0, aty_1, aty_2, aty_3, aty_4, aty_5, c8_u, cn_0, cn_i, cn_r, cn_l, Nat.reduceAdd, Nat.reduceLeDiff, Nat.le_refl, adz, hnd_0, rcv_0, rcv_1, kLen_a, kLen_r, inB_e, inR_e, cpOK_e, swt_n, swt_c, List.take_succ_cons, List.take_zero, List.drop_succ_cons, List.drop_zero, List.reverse_cons, List.reverse_nil, List.nil_append, List.cons_append, List.length_cons, List.length_nil, Option.toList_some, Option.toList_none, det_e, det_x, tr_imp, fa_imp, implies_true, not_true, not_false_eq_true, and_true, true_and, nar_i, upd_s, st1_0, st1_1, st1_2, st1_3, st1_4, st1_5, st1_6, st1_7, st1_8, st1_9, st1_10, st1_11, st1_12, st1_13, st1_14, st1_15, st1_16, st1_17, st1_18, st1_19, st1_20, st1_21, st1_22, st1_23, st1_24, st1_25, st1_26, st1_27, st1_28, st1_29, st1_30, st1_31, st1_32, st1_33, st1_34, st1_35, st1_36, st1_37, st1_42, st1_43, st1_44, st1_46, st1_47, st1_48, st1_49, st1_50, st1_51, st1_52, st1_53, st1_54, st1_55, st1_56, st1_57, st1_58, st1_59, st1_60, lgp_le, lgp_ge, liV]
  refine ⟨fun h => ⟨fun h2 => ?_, fun h2 => ?_⟩, fun h => ?_⟩
  · rw [if_neg (Int64.not_lt.mpr h), if_neg (Int64.not_lt.mpr h2)]
  · rw [if_neg (Int64.not_lt.mpr h), if_pos (Int64.not_le.mp h2)]
  · rw [if_pos (Int64.not_le.mp h)]
def opM (o : Int32) (x y : Int64) : Int64 := if o = 5 then (if y = 0 then 0 else x / y) else liV (if o = 2 then x + y else if o = 3 then x - y else x * y)
def S157 : Sem := fun as M => match as with
  | [.int o, .long x, .long y] => sV True (some (.long (opM o x y))) M
  | _ => sF
set_option maxRecDepth 100000 in
set_option maxHeartbeats 4000000 in
theorem s_X11_operate {l : Launch} {G : Gt} (hfl : l.stackTraces = false) : SatM l G 157 S157 := by
  refine t_X11_operate (E := fun _ => S148) hfl (s_X11_limited hfl) fun as M hp => ?_
  unfold S157 at hp ⊢
  split at hp
  case h_2 => exact hp.elim
  rename_i o x y
  obtain _ := hp
  refine ⟨Nat.le_of_ble_eq_true rfl, ?_⟩
  show Run (gT G) _ _ _ _ _ _ _ 0 [.val (.int o), .val (.long x), .second, .val (.long y), .second] [] M 0 0
  simp only [rX11_operate_0, kX11_operate_0, rX11_operate_15, kX11_operate_15, rX11_operate_18, kX11_operate_18, rX11_operate_19, kX11_operate_19, rX11_operate_30, kX11_operate_30, rX11_operate_41, kX11_operate_41, rX11_operate_44, kX11_operate_44, bk_c, if_true, if_false, wi_e, wl_e, wr_e, w1_i, w1_r, ldS_0, ldS_s, vi_e, vl_e, vr_e, dpL_u, dpL_i, dpL_r, dpL_l, stS_0, stS_1, stS_s, stL_0, stL_1, stL_s, bin_0, bin_1, bin_2, bin_3, bin_4, bin_5, bdv_0, bdv_1, lbin_0, lbin_1, lbin_2, cnd_0, cnd_1, cnd_2, cnd_3, cnd_4, cnd_5, aty_0, aty_1, aty_2, aty_3, aty_4, aty_5, c8_u, cn_0, cn_i, cn_r, cn_l, Nat.reduceAdd, Nat.reduceLeDiff, Nat.le_refl, adz, hnd_0, rcv_0, rcv_1, kLen_a, kLen_r, inB_e, inR_e, cpOK_e, swt_n, swt_c, List.take_succ_cons, List.take_zero, List.drop_succ_cons, List.drop_zero, List.reverse_cons, List.reverse_nil, List.nil_append, List.cons_append, List.length_cons, List.length_nil, Option.toList_some, Option.toList_none, det_e, det_x, tr_imp, fa_imp, implies_true, not_true, not_false_eq_true, and_true, true_and, nar_i, upd_s, st1_0, st1_1, st1_2, st1_3, st1_4, st1_5, st1_6, st1_7, st1_8, st1_9, st1_10, st1_11, st1_12, st1_13, st1_14, st1_15, st1_16, st1_17, st1_18, st1_19, st1_20, st1_21, st1_22, st1_23, st1_24, st1_25, st1_26, st1_27, st1_28, st1_29, st1_30, st1_31, st1_32, st1_33, st1_34, st1_35, st1_36, st1_37, st1_42, st1_43, st1_44, st1_46, st1_47, st1_48, st1_49, st1_50, st1_51, st1_52, st1_53, st1_54, st1_55, st1_56, st1_57, st1_58, st1_59, st1_60, lg_0, S148, sV, opM]
  refine ⟨fun h => ⟨fun h2 => ⟨fun h3 => ?_, fun h3 => ?_⟩, fun h2 => ?_⟩, fun h => ⟨fun h2 => ⟨h2, ?_⟩, fun h2 => ?_⟩⟩
  · rw [if_neg h, if_neg h2, if_neg h3]
  · rw [if_neg h, if_neg h2, if_pos (Decidable.not_not.mp h3)]
  · rw [if_neg h, if_pos (Decidable.not_not.mp h2)]
  · rw [if_pos (Decidable.not_not.mp h), if_neg h2]
  · rw [if_pos (Decidable.not_not.mp h), if_pos (Decidable.not_not.mp h2)]
/-! == the guard's place, an open gate == -/
def guD (D : Nat → Int32) : Int32 := if D 3 = 0 then -1 else D (377 + (D 4).toNatClampNeg)
def S136 : Sem := fun as M => match as with
  | [.ref q] => sV (gK M q = kA .int 1793 ∧ (¬ gI M q 3 = 0 → cnt (gI M q 4) 9)) (some (.int (guD (gI M q)))) M
  | _ => sF
set_option maxRecDepth 100000 in
set_option maxHeartbeats 4000000 in
theorem s_X11_guard {l : Launch} {G : Gt} (hfl : l.stackTraces = false) : SatM l G 136 S136 := by
  refine t_X11_guard (E := fun _ => S0) hfl  fun as M hp => ?_
  unfold S136 at hp ⊢
  split at hp
  case h_2 => exact hp.elim
  rename_i q
  obtain ⟨k0, hg⟩ := hp
  refine ⟨Nat.le_of_ble_eq_true rfl, ?_⟩
  show Run (gT G) _ _ _ _ _ _ _ 0 [.val (.ref q)] [] M 0 0
  simp only [rX11_guard_0, kX11_guard_0, rX11_guard_10, kX11_guard_10, rX11_guard_19, kX11_guard_19, bk_c, if_true, if_false, wi_e, wl_e, wr_e, w1_i, w1_r, ldS_0, ldS_s, vi_e, vl_e, vr_e, dpL_u, dpL_i, dpL_r, dpL_l, stS_0, stS_1, stS_s, stL_0, stL_1, stL_s, bin_0, bin_1, bin_2, bin_3, bin_4, bin_5, bdv_0, bdv_1, lbin_0, lbin_1, lbin_2, cnd_0, cnd_1, cnd_2, cnd_3, cnd_4, cnd_5, aty_0, aty_1, aty_2, aty_3, aty_4, aty_5, c8_u, cn_0, cn_i, cn_r, cn_l, Nat.reduceAdd, Nat.reduceLeDiff, Nat.le_refl, adz, hnd_0, rcv_0, rcv_1, kLen_a, kLen_r, inB_e, inR_e, cpOK_e, swt_n, swt_c, List.take_succ_cons, List.take_zero, List.drop_succ_cons, List.drop_zero, List.reverse_cons, List.reverse_nil, List.nil_append, List.cons_append, List.length_cons, List.length_nil, Option.toList_some, Option.toList_none, det_e, det_x, tr_imp, fa_imp, implies_true, not_true, not_false_eq_true, and_true, true_and, nar_i, upd_s, st1_0, st1_1, st1_2, st1_3, st1_4, st1_5, st1_6, st1_7, st1_8, st1_9, st1_10, st1_11, st1_12, st1_13, st1_14, st1_15, st1_16, st1_17, st1_18, st1_19, st1_20, st1_21, st1_22, st1_23, st1_24, st1_25, st1_26, st1_27, st1_28, st1_29, st1_30, st1_31, st1_32, st1_33, st1_34, st1_35, st1_36, st1_37, st1_42, st1_43, st1_44, st1_46, st1_47, st1_48, st1_49, st1_50, st1_51, st1_52, st1_53, st1_54, st1_55, st1_56, st1_57, st1_58, st1_59, st1_60, k0, xL0, xL1]
  refine ⟨fun g => ?_, fun g => ?_⟩
  · obtain ⟨n, hn, en⟩ := hg g
    unfold guD
    rw [if_neg g, en, ad_377, nI_clamp (by omega), nI_clamp (by omega)]
    exact ⟨vp_in_nI (by omega) (by decide), rfl⟩
  · unfold guD
    rw [if_pos (Decidable.not_not.mp g)]
def oqI (D : Nat → Int32) (f : Nat) : Int32 := if D (221 + 11 * f + 10) = 1 then 1 else if D (221 + 11 * f + 1) = tuD D (D 5) then 1 else 0
def S156 : Sem := fun as M => match as with
  | [.ref q, .int f] => sV (gK M q = kA .int 1793 ∧ vp_in f 12 ∧ tuW (gI M q) (gI M q 5)) (some (.int (oqI (gI M q) f.toNatClampNeg))) M
  | _ => sF
def eX11_open : Nat → Sem := fun id => if id = 131 then S131 else S180
set_option maxRecDepth 100000 in
set_option maxHeartbeats 4000000 in
theorem s_X11_open {l : Launch} {G : Gt} (hfl : l.stackTraces = false) : SatM l G 156 S156 := by
  refine t_X11_open (E := eX11_open) hfl (s_X11_field hfl) (s_X11_turn hfl) fun as M hp => ?_
  unfold S156 at hp ⊢
  split at hp
  case h_2 => exact hp.elim
  rename_i q f
  obtain ⟨k0, hf, hw⟩ := hp
  refine ⟨Nat.le_of_ble_eq_true rfl, ?_⟩
  show Run (gT G) _ _ _ _ _ _ _ 0 [.val (.ref q), .val (.int f)] [] M 0 0
  obtain ⟨j, hj, rfl⟩ := vp_in_of hf (by decide)
  have cj : (nI j).toNatClampNeg = j := nI_clamp (by omega)
  simp only [rX11_open_0, kX11_open_0, rX11_open_31, kX11_open_31, rX11_open_35, kX11_open_35, rX11_open_36, kX11_open_36, eX11_open, S131, S180, bk_c, if_true, if_false, wi_e, wl_e, wr_e, w1_i, w1_r, ldS_0, ldS_s, vi_e, vl_e, vr_e, dpL_u, dpL_i, dpL_r, dpL_l, stS_0, stS_1, stS_s, stL_0, stL_1, stL_s, bin_0, bin_1, bin_2, bin_3, bin_4, bin_5, bdv_0, bdv_1, lbin_0, lbin_1, lbin_2, cnd_0, cnd_1, cnd_2, cnd_3, cnd_4, cnd_5, aty_0, aty_1, aty_2, aty_3, aty_4, aty_5, c8_u, cn_0, cn_i, cn_r, cn_l, Nat.reduceAdd, Nat.reduceLeDiff, Nat.le_refl, adz, hnd_0, rcv_0, rcv_1, kLen_a, kLen_r, inB_e, inR_e, cpOK_e, swt_n, swt_c, List.take_succ_cons, List.take_zero, List.drop_succ_cons, List.drop_zero, List.reverse_cons, List.reverse_nil, List.nil_append, List.cons_append, List.length_cons, List.length_nil, Option.toList_some, Option.toList_none, det_e, det_x, tr_imp, fa_imp, implies_true, not_true, not_false_eq_true, and_true, true_and, nar_i, upd_s, st1_0, st1_1, st1_2, st1_3, st1_4, st1_5, st1_6, st1_7, st1_8, st1_9, st1_10, st1_11, st1_12, st1_13, st1_14, st1_15, st1_16, st1_17, st1_18, st1_19, st1_20, st1_21, st1_22, st1_23, st1_24, st1_25, st1_26, st1_27, st1_28, st1_29, st1_30, st1_31, st1_32, st1_33, st1_34, st1_35, st1_36, st1_37, st1_42, st1_43, st1_44, st1_46, st1_47, st1_48, st1_49, st1_50, st1_51, st1_52, st1_53, st1_54, st1_55, st1_56, st1_57, st1_58, st1_59, st1_60, Nat.reduceEqDiff, reduceIte, sV, k0, f11, ad_10, nI_1, xF hj (show 10 ≤ 10 by decide), xF hj (show 1 ≤ 10 by decide), xL0, xL1, hw, nb0, nb1, cj, oqI]
  refine ⟨fun g => ?_, fun g => ⟨fun g2 => ?_, fun g2 => ?_⟩⟩
  · rw [if_pos g]
  · rw [if_neg g, if_neg g2]
  · rw [if_neg g, if_pos (Decidable.not_not.mp g2)]
