/-! ===== copyRow, Canals.copyFrom; Fields ===== -/
def kN (k : Kd) : Nat := match k with
  | some (.inr (.inl (_, n))) => n
  | _ => 0
theorem kN_a (t : FieldType) (n : Nat) : kN (kA t n) = n := rfl
def cpy (n : Nat) (f g : Nat → Int32) : Nat → Int32 := fun k => if k < n then f k else g k
theorem cpy_e (n : Nat) (f g : Nat → Int32) : va_cpy f g 0 0 n = cpy n f g := by
  funext k
  unfold va_cpy cpy
  simp
def S80 : Sem := fun as M => match as with
  | [.ref a, .ref b] => sV (∃ n, n ≤ 1000 ∧ gK M a = kA .int n ∧ gK M b = kA .int n) none (sI M b (cpy (kN (gK M b)) (gI M a) (gI M b)))
  | _ => sF
theorem cl0 : (0 : Int32).toNatClampNeg = 0 := rfl
theorem nlt0 : ((0 : Int32) < 0) = False := eq_false (by decide)
theorem s_X10_copyRow {l : Launch} {G : Gt} (hfl : l.stackTraces = false) : SatM l G 80 S80 := by
  refine t_X10_copyRow (E := fun _ => S0) hfl  fun as M hp => ?_
  unfold S80 at hp ⊢
  split at hp
  case h_2 => exact hp.elim
  rename_i a b
  obtain ⟨n, hn, ka, kb⟩ := hp
  refine ⟨Nat.le_of_ble_eq_true rfl, ?_⟩
  show Run (gT G) _ _ _ _ _ _ _ 0 [.val (.ref a), .val (.ref b)] [] M 0 0
  have cl : (nI n).toNatClampNeg = n := nI_clamp (by omega)
  have e1 : (nI n < nI n) = False := eq_false (Int32.lt_irrefl _)
  have e2 : (nI n < 0) = False := eq_false (nI_pos (by omega))
  simp only [rX10_copyRow_0, kX10_copyRow_0, bk_c, if_true, if_false, wi_e, wl_e, wr_e, w1_i, w1_r, ldS_0, ldS_s, vi_e, vl_e, vr_e, dpL_u, dpL_i, dpL_r, dpL_l, stS_0, stS_1, stS_s, stL_0, stL_1, stL_s, bin_0, bin_1, bin_2, bin_3, bin_4, bin_5, bdv_0, bdv_1, lbin_0, lbin_1, lbin_2, cnd_0, cnd_1, cnd_2, cnd_3, cnd_4, cnd_5, aty_0, aty_1, aty_2, aty_3, aty_4, aty_5, c8_u, cn_0, cn_i, cn_r, cn_l, Nat.reduceAdd, Nat.reduceLeDiff, Nat.le_refl, adz, hnd_0, rcv_0, rcv_1, kLen_a, kLen_r, inB_e, inR_e, cpOK_e, swt_n, swt_c, List.take_succ_cons, List.take_zero, List.drop_succ_cons, List.drop_zero, List.reverse_cons, List.reverse_nil, List.nil_append, List.cons_append, List.length_cons, List.length_nil, Option.toList_some, Option.toList_none, det_e, det_x, and_true, true_and, nar_i, upd_s, st1_0, st1_1, st1_2, st1_3, st1_4, st1_5, st1_6, st1_7, st1_8, st1_9, st1_10, st1_11, st1_12, st1_13, st1_14, st1_15, st1_16, st1_17, st1_18, st1_19, st1_20, st1_21, st1_22, st1_23, st1_24, st1_25, st1_26, st1_27, st1_28, st1_29, st1_30, st1_31, st1_32, st1_33, st1_34, st1_35, st1_36, st1_37, st1_42, st1_43, st1_44, st1_46, st1_47, st1_48, st1_49, st1_50, st1_51, st1_52, st1_53, st1_54, st1_55, st1_56, st1_57, st1_58, st1_59, st1_60, gK_sI, gK_sJ, gK_sP, gK_sZ, gI_sI, gI_sJ, gI_sP, gI_sZ, gJ_sI, gJ_sJ, gJ_sP, gJ_sZ, gP_sI, gP_sJ, gP_sP, gP_sZ, gZ_sI, gZ_sJ, gZ_sP, gZ_sZ, ka, kb, kN_a, e1, e2, cl, cl0, nlt0, if_false, Nat.zero_add, cpy_e]
/-- the rows of a Canals copied from another -/
def cpC (M : Mm) (c o : Nat) : Mm :=
  let M1 := sI M (c + 1) (cpy 16 (gI M (o + 1)) (gI M (c + 1)))
  let M2 := sI M1 (c + 2) (cpy 16 (gI M1 (o + 2)) (gI M1 (c + 2)))
  let M3 := sI M2 (c + 3) (cpy 16 (gI M2 (o + 3)) (gI M2 (c + 3)))
  let M4 := sI M3 (c + 4) (cpy 16 (gI M3 (o + 4)) (gI M3 (c + 4)))
  let M5 := sI M4 (c + 5) (cpy 16 (gI M4 (o + 5)) (gI M4 (c + 5)))
  let M6 := sI M5 (c + 6) (cpy 16 (gI M5 (o + 6)) (gI M5 (c + 6)))
  let M7 := sI M6 (c + 8) (cpy 112 (gI M6 (o + 8)) (gI M6 (c + 8)))
  sI M7 c (upd (gI M7 c) 8 (gI M7 o 8))
def S2 : Sem := fun as M => match as with
  | [.ref c, .ref o] => sV (Lc M c ∧ Lc M o) none (cpC M c o)
  | _ => sF
theorem ex_n {P : Nat → Prop} (n : Nat) (h : P n) : ∃ n, P n := ⟨n, h⟩
theorem ex_k (n : Nat) (hn : n ≤ 1000) (t t' : FieldType) (ht : t = .int) (ht' : t' = .int) : (∃ m, m ≤ 1000 ∧ kA t n = kA .int m ∧ kA t' n = kA .int m) = True := eq_true ⟨n, hn, by rw [ht], by rw [ht']⟩
theorem s_X0_copyFrom {l : Launch} {G : Gt} (hfl : l.stackTraces = false) : SatM l G 2 S2 := by
  refine t_X0_copyFrom (E := fun _ => S80) hfl (s_X10_copyRow hfl) fun as M hp => ?_
  unfold S2 at hp ⊢
  split at hp
  case h_2 => exact hp.elim
  rename_i c o
  obtain ⟨⟨k0, ⟨p0, p1, p2, p3, p4, p5, p6, p7⟩, k1, k2, k3, k4, k5, k6, k7, k8⟩, ⟨K0, ⟨P0, P1, P2, P3, P4, P5, P6, P7⟩, K1, K2, K3, K4, K5, K6, K7, K8⟩⟩ := hp
  refine ⟨Nat.le_of_ble_eq_true rfl, ?_⟩
  show Run (gT G) _ _ _ _ _ _ _ 0 [.val (.ref c), .val (.ref o)] [] M 0 0
  simp only [rX0_copyFrom_0, kX0_copyFrom_0, bk_c, if_true, if_false, wi_e, wl_e, wr_e, w1_i, w1_r, ldS_0, ldS_s, vi_e, vl_e, vr_e, dpL_u, dpL_i, dpL_r, dpL_l, stS_0, stS_1, stS_s, stL_0, stL_1, stL_s, bin_0, bin_1, bin_2, bin_3, bin_4, bin_5, bdv_0, bdv_1, lbin_0, lbin_1, lbin_2, cnd_0, cnd_1, cnd_2, cnd_3, cnd_4, cnd_5, aty_0, aty_1, aty_2, aty_3, aty_4, aty_5, c8_u, cn_0, cn_i, cn_r, cn_l, Nat.reduceAdd, Nat.reduceLeDiff, Nat.le_refl, adz, hnd_0, rcv_0, rcv_1, kLen_a, kLen_r, inB_e, inR_e, cpOK_e, swt_n, swt_c, List.take_succ_cons, List.take_zero, List.drop_succ_cons, List.drop_zero, List.reverse_cons, List.reverse_nil, List.nil_append, List.cons_append, List.length_cons, List.length_nil, Option.toList_some, Option.toList_none, det_e, det_x, and_true, true_and, nar_i, upd_s, st1_0, st1_1, st1_2, st1_3, st1_4, st1_5, st1_6, st1_7, st1_8, st1_9, st1_10, st1_11, st1_12, st1_13, st1_14, st1_15, st1_16, st1_17, st1_18, st1_19, st1_20, st1_21, st1_22, st1_23, st1_24, st1_25, st1_26, st1_27, st1_28, st1_29, st1_30, st1_31, st1_32, st1_33, st1_34, st1_35, st1_36, st1_37, st1_42, st1_43, st1_44, st1_46, st1_47, st1_48, st1_49, st1_50, st1_51, st1_52, st1_53, st1_54, st1_55, st1_56, st1_57, st1_58, st1_59, st1_60, gK_sI, gK_sJ, gK_sP, gK_sZ, gI_sI, gI_sJ, gI_sP, gI_sZ, gJ_sI, gJ_sJ, gJ_sP, gJ_sZ, gP_sI, gP_sJ, gP_sP, gP_sZ, gZ_sI, gZ_sJ, gZ_sP, gZ_sZ, k0, p0, p1, p2, p3, p4, p5, p6, p7, k1, k2, k3, k4, k5, k6, k7, k8, K0, P0, P1, P2, P3, P4, P5, P6, P7, K1, K2, K3, K4, K5, K6, K7, K8, S80, sV, kN_a, ex_k 16 (by decide) .int .int rfl rfl, ex_k 112 (by decide) .int .int rfl rfl]
  rfl
/-- a Fields at f: its rows behind it -/
def Lf (M : Mm) (f : Nat) : Prop := gK M f = kO 1 ∧ (gP M f 0 = f + 1 ∧ gP M f 1 = f + 2 ∧ gP M f 2 = f + 3 ∧ gP M f 3 = f + 4 ∧ gP M f 4 = f + 5 ∧ gP M f 5 = f + 6 ∧ gP M f 6 = f + 7 ∧ gP M f 7 = f + 8 ∧ gP M f 8 = f + 9 ∧ gP M f 9 = f + 10 ∧ gP M f 10 = f + 11) ∧
  gK M (f + 1) = kA .int 12 ∧ gK M (f + 2) = kA .int 12 ∧ gK M (f + 3) = kA .int 12 ∧ gK M (f + 4) = kA .int 12 ∧ gK M (f + 5) = kA .int 12 ∧ gK M (f + 6) = kA .int 12 ∧ gK M (f + 7) = kA .int 12 ∧ gK M (f + 8) = kA .int 12 ∧ gK M (f + 9) = kA .int 12 ∧ gK M (f + 10) = kA .int 12 ∧ gK M (f + 11) = kA .boolean 12
def opG (M : Mm) (f : Nat) (k : Nat) (t : Int32) : Prop := gI M (f + 2) k = t ∨ ¬ gI M (f + 11) k = 0
theorem opG_d (M : Mm) (f k : Nat) (t : Int32) : Decidable (opG M f k t) := inferInstanceAs (Decidable (_ ∨ _))
def bG (M : Mm) (f : Nat) (k : Nat) (t : Int32) : Int32 := if gI M (f + 2) k = t ∨ ¬ gI M (f + 11) k = 0 then 1 else 0
def S17 : Sem := fun as M => match as with
  | [.ref f, .int x, .int t] => sV (Lf M f ∧ vp_in x 12) (some (.int (bG M f x.toNatClampNeg t))) M
  | _ => sF
theorem s_X1_hasOpenGate {l : Launch} {G : Gt} (hfl : l.stackTraces = false) : SatM l G 17 S17 := by
  refine t_X1_hasOpenGate (E := fun _ => S0) hfl  fun as M hp => ?_
  unfold S17 at hp ⊢
  split at hp
  case h_2 => exact hp.elim
  rename_i f x t
  obtain ⟨⟨k0, ⟨p0, p1, p2, p3, p4, p5, p6, p7, p8, p9, p10⟩, k1, k2, k3, k4, k5, k6, k7, k8, k9, k10, k11⟩, h1⟩ := hp
  refine ⟨Nat.le_of_ble_eq_true rfl, ?_⟩
  show Run (gT G) _ _ _ _ _ _ _ 0 [.val (.ref f), .val (.int x), .val (.int t)] [] M 0 0
  simp only [rX1_hasOpenGate_0, kX1_hasOpenGate_0, rX1_hasOpenGate_19, kX1_hasOpenGate_19, rX1_hasOpenGate_23, kX1_hasOpenGate_23, rX1_hasOpenGate_24, kX1_hasOpenGate_24, bk_c, if_true, if_false, wi_e, wl_e, wr_e, w1_i, w1_r, ldS_0, ldS_s, vi_e, vl_e, vr_e, dpL_u, dpL_i, dpL_r, dpL_l, stS_0, stS_1, stS_s, stL_0, stL_1, stL_s, bin_0, bin_1, bin_2, bin_3, bin_4, bin_5, bdv_0, bdv_1, lbin_0, lbin_1, lbin_2, cnd_0, cnd_1, cnd_2, cnd_3, cnd_4, cnd_5, aty_0, aty_1, aty_2, aty_3, aty_4, aty_5, c8_u, cn_0, cn_i, cn_r, cn_l, Nat.reduceAdd, Nat.reduceLeDiff, Nat.le_refl, adz, hnd_0, rcv_0, rcv_1, kLen_a, kLen_r, inB_e, inR_e, cpOK_e, swt_n, swt_c, List.take_succ_cons, List.take_zero, List.drop_succ_cons, List.drop_zero, List.reverse_cons, List.reverse_nil, List.nil_append, List.cons_append, List.length_cons, List.length_nil, Option.toList_some, Option.toList_none, det_e, det_x, and_true, true_and, nar_i, upd_s, st1_0, st1_1, st1_2, st1_3, st1_4, st1_5, st1_6, st1_7, st1_8, st1_9, st1_10, st1_11, st1_12, st1_13, st1_14, st1_15, st1_16, st1_17, st1_18, st1_19, st1_20, st1_21, st1_22, st1_23, st1_24, st1_25, st1_26, st1_27, st1_28, st1_29, st1_30, st1_31, st1_32, st1_33, st1_34, st1_35, st1_36, st1_37, st1_42, st1_43, st1_44, st1_46, st1_47, st1_48, st1_49, st1_50, st1_51, st1_52, st1_53, st1_54, st1_55, st1_56, st1_57, st1_58, st1_59, st1_60, gK_sI, gK_sJ, gK_sP, gK_sZ, gI_sI, gI_sJ, gI_sP, gI_sZ, gJ_sI, gJ_sJ, gJ_sP, gJ_sZ, gP_sI, gP_sJ, gP_sP, gP_sZ, gZ_sI, gZ_sJ, gZ_sP, gZ_sZ, k0, p1, p10, k2, k11, h1, bG, tr_imp]
  trace_state
  sorry
def S20 : Sem := fun as M => match as with
  | [.ref f, .int x] => sV (Lf M f ∧ vp_in x 12) (some (.int (if gI M (f + 4) x.toNatClampNeg ≤ gI M (f + 8) x.toNatClampNeg then 1 else 0))) M
  | _ => sF
theorem s_X1_meetsDemand {l : Launch} {G : Gt} (hfl : l.stackTraces = false) : SatM l G 20 S20 := by
  refine t_X1_meetsDemand (E := fun _ => S0) hfl  fun as M hp => ?_
  unfold S20 at hp ⊢
  split at hp
  case h_2 => exact hp.elim
  rename_i f x
  obtain ⟨⟨k0, ⟨p0, p1, p2, p3, p4, p5, p6, p7, p8, p9, p10⟩, k1, k2, k3, k4, k5, k6, k7, k8, k9, k10, k11⟩, h1⟩ := hp
  refine ⟨Nat.le_of_ble_eq_true rfl, ?_⟩
  show Run (gT G) _ _ _ _ _ _ _ 0 [.val (.ref f), .val (.int x)] [] M 0 0
  simp only [rX1_meetsDemand_0, kX1_meetsDemand_0, rX1_meetsDemand_19, kX1_meetsDemand_19, rX1_meetsDemand_20, kX1_meetsDemand_20, bk_c, if_true, if_false, wi_e, wl_e, wr_e, w1_i, w1_r, ldS_0, ldS_s, vi_e, vl_e, vr_e, dpL_u, dpL_i, dpL_r, dpL_l, stS_0, stS_1, stS_s, stL_0, stL_1, stL_s, bin_0, bin_1, bin_2, bin_3, bin_4, bin_5, bdv_0, bdv_1, lbin_0, lbin_1, lbin_2, cnd_0, cnd_1, cnd_2, cnd_3, cnd_4, cnd_5, aty_0, aty_1, aty_2, aty_3, aty_4, aty_5, c8_u, cn_0, cn_i, cn_r, cn_l, Nat.reduceAdd, Nat.reduceLeDiff, Nat.le_refl, adz, hnd_0, rcv_0, rcv_1, kLen_a, kLen_r, inB_e, inR_e, cpOK_e, swt_n, swt_c, List.take_succ_cons, List.take_zero, List.drop_succ_cons, List.drop_zero, List.reverse_cons, List.reverse_nil, List.nil_append, List.cons_append, List.length_cons, List.length_nil, Option.toList_some, Option.toList_none, det_e, det_x, and_true, true_and, nar_i, upd_s, st1_0, st1_1, st1_2, st1_3, st1_4, st1_5, st1_6, st1_7, st1_8, st1_9, st1_10, st1_11, st1_12, st1_13, st1_14, st1_15, st1_16, st1_17, st1_18, st1_19, st1_20, st1_21, st1_22, st1_23, st1_24, st1_25, st1_26, st1_27, st1_28, st1_29, st1_30, st1_31, st1_32, st1_33, st1_34, st1_35, st1_36, st1_37, st1_42, st1_43, st1_44, st1_46, st1_47, st1_48, st1_49, st1_50, st1_51, st1_52, st1_53, st1_54, st1_55, st1_56, st1_57, st1_58, st1_59, st1_60, gK_sI, gK_sJ, gK_sP, gK_sZ, gI_sI, gI_sJ, gI_sP, gI_sZ, gJ_sI, gJ_sJ, gJ_sP, gJ_sZ, gP_sI, gP_sJ, gP_sP, gP_sZ, gZ_sI, gZ_sJ, gZ_sP, gZ_sZ, k0, p7, p3, k8, k4, h1, tr_imp]
  trace_state
  sorry
def mnI (x y : Int32) : Int32 := if y < x then y else x
def mxI (x y : Int32) : Int32 := if x < y then y else x
def spM (M : Mm) (f : Nat) (k : Nat) : Int32 := mnI (gI M (f + 6) k) (gI M (f + 8) k)
def S22 : Sem := fun as M => match as with
  | [.ref f, .int x] => sV (Lf M f ∧ vp_in x 12) (some (.int (spM M f x.toNatClampNeg))) (sI M (f + 8) (upd (gI M (f + 8)) x.toNatClampNeg (gI M (f + 8) x.toNatClampNeg - spM M f x.toNatClampNeg)))
  | _ => sF
theorem s_X1_seepAway {l : Launch} {G : Gt} (hfl : l.stackTraces = false) : SatM l G 22 S22 := by
  refine t_X1_seepAway (E := fun _ => S0) hfl  fun as M hp => ?_
  unfold S22 at hp ⊢
  split at hp
  case h_2 => exact hp.elim
  rename_i f x
  obtain ⟨⟨k0, ⟨p0, p1, p2, p3, p4, p5, p6, p7, p8, p9, p10⟩, k1, k2, k3, k4, k5, k6, k7, k8, k9, k10, k11⟩, h1⟩ := hp
  refine ⟨Nat.le_of_ble_eq_true rfl, ?_⟩
  show Run (gT G) _ _ _ _ _ _ _ 0 [.val (.ref f), .val (.int x), .unset] [] M 0 0
  simp only [rX1_seepAway_0, kX1_seepAway_0, bk_c, if_true, if_false, wi_e, wl_e, wr_e, w1_i, w1_r, ldS_0, ldS_s, vi_e, vl_e, vr_e, dpL_u, dpL_i, dpL_r, dpL_l, stS_0, stS_1, stS_s, stL_0, stL_1, stL_s, bin_0, bin_1, bin_2, bin_3, bin_4, bin_5, bdv_0, bdv_1, lbin_0, lbin_1, lbin_2, cnd_0, cnd_1, cnd_2, cnd_3, cnd_4, cnd_5, aty_0, aty_1, aty_2, aty_3, aty_4, aty_5, c8_u, cn_0, cn_i, cn_r, cn_l, Nat.reduceAdd, Nat.reduceLeDiff, Nat.le_refl, adz, hnd_0, rcv_0, rcv_1, kLen_a, kLen_r, inB_e, inR_e, cpOK_e, swt_n, swt_c, List.take_succ_cons, List.take_zero, List.drop_succ_cons, List.drop_zero, List.reverse_cons, List.reverse_nil, List.nil_append, List.cons_append, List.length_cons, List.length_nil, Option.toList_some, Option.toList_none, det_e, det_x, and_true, true_and, nar_i, upd_s, st1_0, st1_1, st1_2, st1_3, st1_4, st1_5, st1_6, st1_7, st1_8, st1_9, st1_10, st1_11, st1_12, st1_13, st1_14, st1_15, st1_16, st1_17, st1_18, st1_19, st1_20, st1_21, st1_22, st1_23, st1_24, st1_25, st1_26, st1_27, st1_28, st1_29, st1_30, st1_31, st1_32, st1_33, st1_34, st1_35, st1_36, st1_37, st1_42, st1_43, st1_44, st1_46, st1_47, st1_48, st1_49, st1_50, st1_51, st1_52, st1_53, st1_54, st1_55, st1_56, st1_57, st1_58, st1_59, st1_60, gK_sI, gK_sJ, gK_sP, gK_sZ, gI_sI, gI_sJ, gI_sP, gI_sZ, gJ_sI, gJ_sJ, gJ_sP, gJ_sZ, gP_sI, gP_sJ, gP_sP, gP_sZ, gZ_sI, gZ_sJ, gZ_sP, gZ_sZ, up_q, up_q0, up_q1, up_s, sI_sI, Nat.reduceEqDiff, reduceIte, Nat.succ_ne_zero, not_true, not_false_eq_true, forall_const, false_imp_iff, k0, p7, p5, k8, k6, h1, tr_imp]
  trace_state
  sorry
