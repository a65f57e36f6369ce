/-! ===== copyRow, Canals.copyFrom; Fields ===== -/
def kN (k : Kd) : Nat := match k with
  | some (.inr (.inl (_, n))) => n
  | _ => 0
theorem kN_a (t : FieldType) (n : Nat) : kN (kA t n) = n := rfl
def cpy (n : Nat) (f g : Nat → Int32) : Nat → Int32 := fun k => if k < n then f k else g k
theorem cpy_e (n : Nat) (f g : Nat → Int32) : va_cpy f g 0 0 n = cpy n f g := by
  funext k
  unfold va_cpy cpy
  simp
theorem cpy_s (n : Nat) (f g : Nat → Int32) : upd (cpy n f g) n (f n) = cpy (n + 1) f g := by
  funext k
  unfold upd cpy
  by_cases h : k = n
  · rw [if_pos h, if_pos (by omega), h]
  · rw [if_neg h]
    by_cases h2 : k < n
    · rw [if_pos h2, if_pos (by omega)]
    · rw [if_neg h2, if_neg (by omega)]
theorem cpy_z (f g : Nat → Int32) : cpy 0 f g = g := by funext k; exact if_neg (Nat.not_lt_zero k)
def S80 : Sem := fun as M => match as with
  | [.ref a, .ref b] => sV (∃ n, n ≤ 1000 ∧ gK M a = kA .int n ∧ gK M b = kA .int n) none (sI M b (cpy (kN (gK M b)) (gI M a) (gI M b)))
  | _ => sF
theorem cl0 : (0 : Int32).toNatClampNeg = 0 := rfl
theorem nlt0 : ((0 : Int32) < 0) = False := eq_false (by decide)
set_option maxRecDepth 100000 in
set_option maxHeartbeats 4000000 in
theorem s_X10_copyRow {l : Launch} {G : Gt} (hfl : l.stackTraces = false) : SatM l G 80 S80 := by
  refine t_X10_copyRow (E := fun _ => S0) hfl  fun as M hp => ?_
  unfold S80 at hp ⊢
  split at hp
  case h_2 => exact hp.elim
  rename_i a b
  obtain ⟨n, hn, ka, kb⟩ := hp
  refine ⟨Nat.le_of_ble_eq_true rfl, ?_⟩
  show Run (gT G) _ _ _ _ _ _ _ 0 [.val (.ref a), .val (.ref b)] [] M 0 0
  have cl : (nI n).toNatClampNeg = n := nI_clamp (by omega)
  have e1 : (nI n < nI n) = False := eq_false (fun h => Int32.lt_irrefl h)
  have e2 : (nI n < 0) = False := eq_false (nI_pos (by omega))
  simp only [rX10_copyRow_0, kX10_copyRow_0, bk_c, if_true, if_false, wi_e, wl_e, wr_e, w1_i, w1_r, ldS_0, ldS_s, vi_e, vl_e, vr_e, dpL_u, dpL_i, dpL_r, dpL_l, stS_0, stS_1, stS_s, stL_0, stL_1, stL_s, bin_0, bin_1, bin_2, bin_3, bin_4, bin_5, bdv_0, bdv_1, lbin_0, lbin_1, lbin_2, cnd_0, cnd_1, cnd_2, cnd_3, cnd_4, cnd_5, aty_0, aty_1, aty_2, aty_3, aty_4, aty_5, c8_u, cn_0, cn_i, cn_r, cn_l, Nat.reduceAdd, Nat.reduceLeDiff, Nat.le_refl, adz, hnd_0, rcv_0, rcv_1, kLen_a, kLen_r, inB_e, inR_e, cpOK_e, swt_n, swt_c, List.take_succ_cons, List.take_zero, List.drop_succ_cons, List.drop_zero, List.reverse_cons, List.reverse_nil, List.nil_append, List.cons_append, List.length_cons, List.length_nil, Option.toList_some, Option.toList_none, det_e, det_x, tr_imp, fa_imp, implies_true, not_true, not_false_eq_true, and_true, true_and, nar_i, upd_s, st1_0, st1_1, st1_2, st1_3, st1_4, st1_5, st1_6, st1_7, st1_8, st1_9, st1_10, st1_11, st1_12, st1_13, st1_14, st1_15, st1_16, st1_17, st1_18, st1_19, st1_20, st1_21, st1_22, st1_23, st1_24, st1_25, st1_26, st1_27, st1_28, st1_29, st1_30, st1_31, st1_32, st1_33, st1_34, st1_35, st1_36, st1_37, st1_42, st1_43, st1_44, st1_46, st1_47, st1_48, st1_49, st1_50, st1_51, st1_52, st1_53, st1_54, st1_55, st1_56, st1_57, st1_58, st1_59, st1_60, gK_sI, gK_sJ, gK_sP, gK_sZ, gI_sI, gI_sJ, gI_sP, gI_sZ, gJ_sI, gJ_sJ, gJ_sP, gJ_sZ, gP_sI, gP_sJ, gP_sP, gP_sZ, gZ_sI, gZ_sJ, gZ_sP, gZ_sZ, ka, kb, kN_a, e1, e2, cl, cl0, nlt0, if_false, Nat.zero_add, cpy_e]
/-- the rows of a Canals copied from another -/
def cpC (M : Mm) (c o : Nat) : Mm :=
  let M1 := sI M (c + 1) (cpy 16 (gI M (o + 1)) (gI M (c + 1)))
  let M2 := sI M1 (c + 2) (cpy 16 (gI M1 (o + 2)) (gI M1 (c + 2)))
  let M3 := sI M2 (c + 3) (cpy 16 (gI M2 (o + 3)) (gI M2 (c + 3)))
  let M4 := sI M3 (c + 4) (cpy 16 (gI M3 (o + 4)) (gI M3 (c + 4)))
  let M5 := sI M4 (c + 5) (cpy 16 (gI M4 (o + 5)) (gI M4 (c + 5)))
  let M6 := sI M5 (c + 6) (cpy 16 (gI M5 (o + 6)) (gI M5 (c + 6)))
  let M7 := sI M6 (c + 8) (cpy 112 (gI M6 (o + 8)) (gI M6 (c + 8)))
  sI M7 c (upd (gI M7 c) 8 (gI M7 o 8))
def S2 : Sem := fun as M => match as with
  | [.ref c, .ref o] => sV (Lc M c ∧ Lc M o) none (cpC M c o)
  | _ => sF
theorem ex_n {P : Nat → Prop} (n : Nat) (h : P n) : ∃ n, P n := ⟨n, h⟩
theorem ex_k (n : Nat) (hn : n ≤ 1000) (t t' : FieldType) (ht : t = .int) (ht' : t' = .int) : (∃ m, m ≤ 1000 ∧ kA t n = kA .int m ∧ kA t' n = kA .int m) = True := eq_true ⟨n, hn, by rw [ht], by rw [ht']⟩
set_option maxRecDepth 100000 in
set_option maxHeartbeats 4000000 in
theorem s_X0_copyFrom {l : Launch} {G : Gt} (hfl : l.stackTraces = false) : SatM l G 2 S2 := by
  refine t_X0_copyFrom (E := fun _ => S80) hfl (s_X10_copyRow hfl) fun as M hp => ?_
  unfold S2 at hp ⊢
  split at hp
  case h_2 => exact hp.elim
  rename_i c o
  obtain ⟨⟨k0, ⟨p0, p1, p2, p3, p4, p5, p6, p7⟩, k1, k2, k3, k4, k5, k6, k7, k8⟩, ⟨K0, ⟨P0, P1, P2, P3, P4, P5, P6, P7⟩, K1, K2, K3, K4, K5, K6, K7, K8⟩⟩ := hp
  refine ⟨Nat.le_of_ble_eq_true rfl, ?_⟩
  show Run (gT G) _ _ _ _ _ _ _ 0 [.val (.ref c), .val (.ref o)] [] M 0 0
  simp only [rX0_copyFrom_0, kX0_copyFrom_0, bk_c, if_true, if_false, wi_e, wl_e, wr_e, w1_i, w1_r, ldS_0, ldS_s, vi_e, vl_e, vr_e, dpL_u, dpL_i, dpL_r, dpL_l, stS_0, stS_1, stS_s, stL_0, stL_1, stL_s, bin_0, bin_1, bin_2, bin_3, bin_4, bin_5, bdv_0, bdv_1, lbin_0, lbin_1, lbin_2, cnd_0, cnd_1, cnd_2, cnd_3, cnd_4, cnd_5, aty_0, aty_1, aty_2, aty_3, aty_4, aty_5, c8_u, cn_0, cn_i, cn_r, cn_l, Nat.reduceAdd, Nat.reduceLeDiff, Nat.le_refl, adz, hnd_0, rcv_0, rcv_1, kLen_a, kLen_r, inB_e, inR_e, cpOK_e, swt_n, swt_c, List.take_succ_cons, List.take_zero, List.drop_succ_cons, List.drop_zero, List.reverse_cons, List.reverse_nil, List.nil_append, List.cons_append, List.length_cons, List.length_nil, Option.toList_some, Option.toList_none, det_e, det_x, tr_imp, fa_imp, implies_true, not_true, not_false_eq_true, and_true, true_and, nar_i, upd_s, st1_0, st1_1, st1_2, st1_3, st1_4, st1_5, st1_6, st1_7, st1_8, st1_9, st1_10, st1_11, st1_12, st1_13, st1_14, st1_15, st1_16, st1_17, st1_18, st1_19, st1_20, st1_21, st1_22, st1_23, st1_24, st1_25, st1_26, st1_27, st1_28, st1_29, st1_30, st1_31, st1_32, st1_33, st1_34, st1_35, st1_36, st1_37, st1_42, st1_43, st1_44, st1_46, st1_47, st1_48, st1_49, st1_50, st1_51, st1_52, st1_53, st1_54, st1_55, st1_56, st1_57, st1_58, st1_59, st1_60, gK_sI, gK_sJ, gK_sP, gK_sZ, gI_sI, gI_sJ, gI_sP, gI_sZ, gJ_sI, gJ_sJ, gJ_sP, gJ_sZ, gP_sI, gP_sJ, gP_sP, gP_sZ, gZ_sI, gZ_sJ, gZ_sP, gZ_sZ, k0, p0, p1, p2, p3, p4, p5, p6, p7, k1, k2, k3, k4, k5, k6, k7, k8, K0, P0, P1, P2, P3, P4, P5, P6, P7, K1, K2, K3, K4, K5, K6, K7, K8, S80, sV, kN_a, ex_k 16 (by decide) .int .int rfl rfl, ex_k 112 (by decide) .int .int rfl rfl]
  rfl
/-- a Fields at f: its rows behind it -/
def Lf (M : Mm) (f : Nat) : Prop := gK M f = kO 1 ∧ (gP M f 0 = f + 1 ∧ gP M f 1 = f + 2 ∧ gP M f 2 = f + 3 ∧ gP M f 3 = f + 4 ∧ gP M f 4 = f + 5 ∧ gP M f 5 = f + 6 ∧ gP M f 6 = f + 7 ∧ gP M f 7 = f + 8 ∧ gP M f 8 = f + 9 ∧ gP M f 9 = f + 10 ∧ gP M f 10 = f + 11) ∧
  gK M (f + 1) = kA .int 12 ∧ gK M (f + 2) = kA .int 12 ∧ gK M (f + 3) = kA .int 12 ∧ gK M (f + 4) = kA .int 12 ∧ gK M (f + 5) = kA .int 12 ∧ gK M (f + 6) = kA .int 12 ∧ gK M (f + 7) = kA .int 12 ∧ gK M (f + 8) = kA .int 12 ∧ gK M (f + 9) = kA .int 12 ∧ gK M (f + 10) = kA .int 12 ∧ gK M (f + 11) = kA .boolean 12
def bG (M : Mm) (f : Nat) (k : Nat) (t : Int32) : Int32 := if gI M (f + 2) k = t ∨ ¬ gI M (f + 11) k = 0 then 1 else 0
def S17 : Sem := fun as M => match as with
  | [.ref f, .int x, .int t] => sV (Lf M f ∧ vp_in x 12) (some (.int (bG M f x.toNatClampNeg t))) M
  | _ => sF
set_option maxRecDepth 100000 in
set_option maxHeartbeats 4000000 in
theorem s_X1_hasOpenGate {l : Launch} {G : Gt} (hfl : l.stackTraces = false) : SatM l G 17 S17 := by
  refine t_X1_hasOpenGate (E := fun _ => S0) hfl  fun as M hp => ?_
  unfold S17 at hp ⊢
  split at hp
  case h_2 => exact hp.elim
  rename_i f x t
  obtain ⟨⟨k0, ⟨p0, p1, p2, p3, p4, p5, p6, p7, p8, p9, p10⟩, k1, k2, k3, k4, k5, k6, k7, k8, k9, k10, k11⟩, h1⟩ := hp
  refine ⟨Nat.le_of_ble_eq_true rfl, ?_⟩
  show Run (gT G) _ _ _ _ _ _ _ 0 [.val (.ref f), .val (.int x), .val (.int t)] [] M 0 0
  simp only [rX1_hasOpenGate_0, kX1_hasOpenGate_0, rX1_hasOpenGate_19, kX1_hasOpenGate_19, rX1_hasOpenGate_23, kX1_hasOpenGate_23, rX1_hasOpenGate_24, kX1_hasOpenGate_24, bk_c, if_true, if_false, wi_e, wl_e, wr_e, w1_i, w1_r, ldS_0, ldS_s, vi_e, vl_e, vr_e, dpL_u, dpL_i, dpL_r, dpL_l, stS_0, stS_1, stS_s, stL_0, stL_1, stL_s, bin_0, bin_1, bin_2, bin_3, bin_4, bin_5, bdv_0, bdv_1, lbin_0, lbin_1, lbin_2, cnd_0, cnd_1, cnd_2, cnd_3, cnd_4, cnd_5, aty_0, aty_1, aty_2, aty_3, aty_4, aty_5, c8_u, cn_0, cn_i, cn_r, cn_l, Nat.reduceAdd, Nat.reduceLeDiff, Nat.le_refl, adz, hnd_0, rcv_0, rcv_1, kLen_a, kLen_r, inB_e, inR_e, cpOK_e, swt_n, swt_c, List.take_succ_cons, List.take_zero, List.drop_succ_cons, List.drop_zero, List.reverse_cons, List.reverse_nil, List.nil_append, List.cons_append, List.length_cons, List.length_nil, Option.toList_some, Option.toList_none, det_e, det_x, tr_imp, fa_imp, implies_true, not_true, not_false_eq_true, and_true, true_and, nar_i, upd_s, st1_0, st1_1, st1_2, st1_3, st1_4, st1_5, st1_6, st1_7, st1_8, st1_9, st1_10, st1_11, st1_12, st1_13, st1_14, st1_15, st1_16, st1_17, st1_18, st1_19, st1_20, st1_21, st1_22, st1_23, st1_24, st1_25, st1_26, st1_27, st1_28, st1_29, st1_30, st1_31, st1_32, st1_33, st1_34, st1_35, st1_36, st1_37, st1_42, st1_43, st1_44, st1_46, st1_47, st1_48, st1_49, st1_50, st1_51, st1_52, st1_53, st1_54, st1_55, st1_56, st1_57, st1_58, st1_59, st1_60, gK_sI, gK_sJ, gK_sP, gK_sZ, gI_sI, gI_sJ, gI_sP, gI_sZ, gJ_sI, gJ_sJ, gJ_sP, gJ_sZ, gP_sI, gP_sJ, gP_sP, gP_sZ, gZ_sI, gZ_sJ, gZ_sP, gZ_sZ, k0, p1, p10, k2, k11, h1, bG, tr_imp]
  exact ⟨fun h => ⟨rfl, by rw [if_pos (Or.inl h)]⟩, fun h => ⟨fun h2 => ⟨rfl, by rw [if_neg (fun q => q.elim h (fun z => z h2))]⟩, fun h2 => ⟨rfl, by rw [if_pos (Or.inr h2)]⟩⟩⟩
def S20 : Sem := fun as M => match as with
  | [.ref f, .int x] => sV (Lf M f ∧ vp_in x 12) (some (.int (if gI M (f + 4) x.toNatClampNeg ≤ gI M (f + 8) x.toNatClampNeg then 1 else 0))) M
  | _ => sF
set_option maxRecDepth 100000 in
set_option maxHeartbeats 4000000 in
theorem s_X1_meetsDemand {l : Launch} {G : Gt} (hfl : l.stackTraces = false) : SatM l G 20 S20 := by
  refine t_X1_meetsDemand (E := fun _ => S0) hfl  fun as M hp => ?_
  unfold S20 at hp ⊢
  split at hp
  case h_2 => exact hp.elim
  rename_i f x
  obtain ⟨⟨k0, ⟨p0, p1, p2, p3, p4, p5, p6, p7, p8, p9, p10⟩, k1, k2, k3, k4, k5, k6, k7, k8, k9, k10, k11⟩, h1⟩ := hp
  refine ⟨Nat.le_of_ble_eq_true rfl, ?_⟩
  show Run (gT G) _ _ _ _ _ _ _ 0 [.val (.ref f), .val (.int x)] [] M 0 0
  simp only [rX1_meetsDemand_0, kX1_meetsDemand_0, rX1_meetsDemand_19, kX1_meetsDemand_19, rX1_meetsDemand_20, kX1_meetsDemand_20, bk_c, if_true, if_false, wi_e, wl_e, wr_e, w1_i, w1_r, ldS_0, ldS_s, vi_e, vl_e, vr_e, dpL_u, dpL_i, dpL_r, dpL_l, stS_0, stS_1, stS_s, stL_0, stL_1, stL_s, bin_0, bin_1, bin_2, bin_3, bin_4, bin_5, bdv_0, bdv_1, lbin_0, lbin_1, lbin_2, cnd_0, cnd_1, cnd_2, cnd_3, cnd_4, cnd_5, aty_0, aty_1, aty_2, aty_3, aty_4, aty_5, c8_u, cn_0, cn_i, cn_r, cn_l, Nat.reduceAdd, Nat.reduceLeDiff, Nat.le_refl, adz, hnd_0, rcv_0, rcv_1, kLen_a, kLen_r, inB_e, inR_e, cpOK_e, swt_n, swt_c, List.take_succ_cons, List.take_zero, List.drop_succ_cons, List.drop_zero, List.reverse_cons, List.reverse_nil, List.nil_append, List.cons_append, List.length_cons, List.length_nil, Option.toList_some, Option.toList_none, det_e, det_x, tr_imp, fa_imp, implies_true, not_true, not_false_eq_true, and_true, true_and, nar_i, upd_s, st1_0, st1_1, st1_2, st1_3, st1_4, st1_5, st1_6, st1_7, st1_8, st1_9, st1_10, st1_11, st1_12, st1_13, st1_14, st1_15, st1_16, st1_17, st1_18, st1_19, st1_20, st1_21, st1_22, st1_23, st1_24, st1_25, st1_26, st1_27, st1_28, st1_29, st1_30, st1_31, st1_32, st1_33, st1_34, st1_35, st1_36, st1_37, st1_42, st1_43, st1_44, st1_46, st1_47, st1_48, st1_49, st1_50, st1_51, st1_52, st1_53, st1_54, st1_55, st1_56, st1_57, st1_58, st1_59, st1_60, gK_sI, gK_sJ, gK_sP, gK_sZ, gI_sI, gI_sJ, gI_sP, gI_sZ, gJ_sI, gJ_sJ, gJ_sP, gJ_sZ, gP_sI, gP_sJ, gP_sP, gP_sZ, gZ_sI, gZ_sJ, gZ_sP, gZ_sZ, k0, p7, p3, k8, k4, h1, tr_imp]
  exact ⟨fun h => ⟨rfl, by rw [if_neg (Int32.not_le.mpr h)]⟩, fun h => ⟨rfl, by rw [if_pos (Int32.not_lt.mp h)]⟩⟩
def mnI (x y : Int32) : Int32 := if y < x then y else x
def mxI (x y : Int32) : Int32 := if x < y then y else x
def spM (M : Mm) (f : Nat) (k : Nat) : Int32 := mnI (gI M (f + 6) k) (gI M (f + 8) k)
def S22 : Sem := fun as M => match as with
  | [.ref f, .int x] => sV (Lf M f ∧ vp_in x 12) (some (.int (spM M f x.toNatClampNeg))) (sI M (f + 8) (upd (gI M (f + 8)) x.toNatClampNeg (gI M (f + 8) x.toNatClampNeg - spM M f x.toNatClampNeg)))
  | _ => sF
set_option maxRecDepth 100000 in
set_option maxHeartbeats 4000000 in
theorem s_X1_seepAway {l : Launch} {G : Gt} (hfl : l.stackTraces = false) : SatM l G 22 S22 := by
  refine t_X1_seepAway (E := fun _ => S0) hfl  fun as M hp => ?_
  unfold S22 at hp ⊢
  split at hp
  case h_2 => exact hp.elim
  rename_i f x
  obtain ⟨⟨k0, ⟨p0, p1, p2, p3, p4, p5, p6, p7, p8, p9, p10⟩, k1, k2, k3, k4, k5, k6, k7, k8, k9, k10, k11⟩, h1⟩ := hp
  refine ⟨Nat.le_of_ble_eq_true rfl, ?_⟩
  show Run (gT G) _ _ _ _ _ _ _ 0 [.val (.ref f), .val (.int x), .unset] [] M 0 0
  simp only [rX1_seepAway_0, kX1_seepAway_0, bk_c, if_true, if_false, wi_e, wl_e, wr_e, w1_i, w1_r, ldS_0, ldS_s, vi_e, vl_e, vr_e, dpL_u, dpL_i, dpL_r, dpL_l, stS_0, stS_1, stS_s, stL_0, stL_1, stL_s, bin_0, bin_1, bin_2, bin_3, bin_4, bin_5, bdv_0, bdv_1, lbin_0, lbin_1, lbin_2, cnd_0, cnd_1, cnd_2, cnd_3, cnd_4, cnd_5, aty_0, aty_1, aty_2, aty_3, aty_4, aty_5, c8_u, cn_0, cn_i, cn_r, cn_l, Nat.reduceAdd, Nat.reduceLeDiff, Nat.le_refl, adz, hnd_0, rcv_0, rcv_1, kLen_a, kLen_r, inB_e, inR_e, cpOK_e, swt_n, swt_c, List.take_succ_cons, List.take_zero, List.drop_succ_cons, List.drop_zero, List.reverse_cons, List.reverse_nil, List.nil_append, List.cons_append, List.length_cons, List.length_nil, Option.toList_some, Option.toList_none, det_e, det_x, tr_imp, fa_imp, implies_true, not_true, not_false_eq_true, and_true, true_and, nar_i, upd_s, st1_0, st1_1, st1_2, st1_3, st1_4, st1_5, st1_6, st1_7, st1_8, st1_9, st1_10, st1_11, st1_12, st1_13, st1_14, st1_15, st1_16, st1_17, st1_18, st1_19, st1_20, st1_21, st1_22, st1_23, st1_24, st1_25, st1_26, st1_27, st1_28, st1_29, st1_30, st1_31, st1_32, st1_33, st1_34, st1_35, st1_36, st1_37, st1_42, st1_43, st1_44, st1_46, st1_47, st1_48, st1_49, st1_50, st1_51, st1_52, st1_53, st1_54, st1_55, st1_56, st1_57, st1_58, st1_59, st1_60, gK_sI, gK_sJ, gK_sP, gK_sZ, gI_sI, gI_sJ, gI_sP, gI_sZ, gJ_sI, gJ_sJ, gJ_sP, gJ_sZ, gP_sI, gP_sJ, gP_sP, gP_sZ, gZ_sI, gZ_sJ, gZ_sP, gZ_sZ, up_q, up_q0, up_q1, up_s, sI_sI, Nat.reduceEqDiff, reduceIte, Nat.succ_ne_zero, forall_const, false_imp_iff, k0, p7, p5, k8, k6, h1, tr_imp]
  exact ⟨rfl, rfl⟩
/-- what leaves over the bank -/
def exM (M : Mm) (f : Nat) (k : Nat) : Int32 := mxI 0 (gI M (f + 8) k - gI M (f + 5) k)
abbrev blw (M : Mm) (f : Nat) (x : Int32) : Prop := gI M (f + 7) x.toNatClampNeg < 0 ∨ x ≤ gI M (f + 7) x.toNatClampNeg
def ovW (M : Mm) (f : Nat) (k : Nat) : Nat → Int32 := upd (gI M (f + 8)) k (gI M (f + 8) k - exM M f k)
def S21 : Sem := fun as M => match as with
  | [.ref f, .int x] => sV (Lf M f ∧ vp_in x 12) (some (.int (if blw M f x then exM M f x.toNatClampNeg else 0))) (sI M (f + 8) (if blw M f x then ovW M f x.toNatClampNeg else upd (ovW M f x.toNatClampNeg) (gI M (f + 7) x.toNatClampNeg).toNatClampNeg (ovW M f x.toNatClampNeg (gI M (f + 7) x.toNatClampNeg).toNatClampNeg + exM M f x.toNatClampNeg)))
  | _ => sF
theorem vp_in_lt2 {x y : Int32} {N : Nat} (h0 : ¬ y < 0) (h1 : y < x) (h : vp_in x N) (hN : N < 2 ^ 31) : vp_in y N := by
  obtain ⟨j, hj, rfl⟩ := vp_in_of h hN
  exact vp_in_lt h0 h1 (by omega) hN
set_option maxRecDepth 100000 in
set_option maxHeartbeats 4000000 in
theorem s_X1_overflow {l : Launch} {G : Gt} (hfl : l.stackTraces = false) : SatM l G 21 S21 := by
  refine t_X1_overflow (E := fun _ => S0) hfl  fun as M hp => ?_
  unfold S21 at hp ⊢
  split at hp
  case h_2 => exact hp.elim
  rename_i f x
  obtain ⟨⟨k0, ⟨p0, p1, p2, p3, p4, p5, p6, p7, p8, p9, p10⟩, k1, k2, k3, k4, k5, k6, k7, k8, k9, k10, k11⟩, h1⟩ := hp
  refine ⟨Nat.le_of_ble_eq_true rfl, ?_⟩
  show Run (gT G) _ _ _ _ _ _ _ 0 [.val (.ref f), .val (.int x), .unset, .unset] [] M 0 0
  simp only [rX1_overflow_0, kX1_overflow_0, rX1_overflow_44, kX1_overflow_44, rX1_overflow_46, kX1_overflow_46, bk_c, if_true, if_false, wi_e, wl_e, wr_e, w1_i, w1_r, ldS_0, ldS_s, vi_e, vl_e, vr_e, dpL_u, dpL_i, dpL_r, dpL_l, stS_0, stS_1, stS_s, stL_0, stL_1, stL_s, bin_0, bin_1, bin_2, bin_3, bin_4, bin_5, bdv_0, bdv_1, lbin_0, lbin_1, lbin_2, cnd_0, cnd_1, cnd_2, cnd_3, cnd_4, cnd_5, aty_0, aty_1, aty_2, aty_3, aty_4, aty_5, c8_u, cn_0, cn_i, cn_r, cn_l, Nat.reduceAdd, Nat.reduceLeDiff, Nat.le_refl, adz, hnd_0, rcv_0, rcv_1, kLen_a, kLen_r, inB_e, inR_e, cpOK_e, swt_n, swt_c, List.take_succ_cons, List.take_zero, List.drop_succ_cons, List.drop_zero, List.reverse_cons, List.reverse_nil, List.nil_append, List.cons_append, List.length_cons, List.length_nil, Option.toList_some, Option.toList_none, det_e, det_x, tr_imp, fa_imp, implies_true, not_true, not_false_eq_true, and_true, true_and, nar_i, upd_s, st1_0, st1_1, st1_2, st1_3, st1_4, st1_5, st1_6, st1_7, st1_8, st1_9, st1_10, st1_11, st1_12, st1_13, st1_14, st1_15, st1_16, st1_17, st1_18, st1_19, st1_20, st1_21, st1_22, st1_23, st1_24, st1_25, st1_26, st1_27, st1_28, st1_29, st1_30, st1_31, st1_32, st1_33, st1_34, st1_35, st1_36, st1_37, st1_42, st1_43, st1_44, st1_46, st1_47, st1_48, st1_49, st1_50, st1_51, st1_52, st1_53, st1_54, st1_55, st1_56, st1_57, st1_58, st1_59, st1_60, gK_sI, gK_sJ, gK_sP, gK_sZ, gI_sI, gI_sJ, gI_sP, gI_sZ, gJ_sI, gJ_sJ, gJ_sP, gJ_sZ, gP_sI, gP_sJ, gP_sP, gP_sZ, gZ_sI, gZ_sJ, gZ_sP, gZ_sZ, up_q, up_q0, up_q1, up_s, sI_sI, Nat.reduceEqDiff, reduceIte, Nat.succ_ne_zero, forall_const, false_imp_iff, k0, p7, p4, p6, k8, k5, k7, h1]
  refine ⟨fun h => ?_, fun h => ⟨fun h2 => ⟨vp_in_lt2 h h2 h1 (by decide), vp_in_lt2 h h2 h1 (by decide), ?_⟩, fun h2 => ?_⟩⟩
  · have hb : blw M f x := Or.inl h
    rw [if_pos hb, if_pos hb]
    exact ⟨rfl, rfl⟩
  · have hb : ¬ blw M f x := fun q => q.elim h (Int32.not_le.mpr h2)
    rw [if_neg hb, if_neg hb]
    exact ⟨rfl, rfl⟩
  · have hb : blw M f x := Or.inr (Int32.not_lt.mp h2)
    rw [if_pos hb, if_pos hb]
    exact ⟨rfl, rfl⟩
abbrev T3 : Type := Int32 × (Nat → Int32) × (Nat → Int32) × (Nat → Int32)
def w3 (M : Mm) (f : Nat) (a b c : Nat → Int32) : Mm := sI (sI (sI M (f + 8) a) (f + 9) b) (f + 10) c
def tkA (M : Mm) (f : Nat) (pl t : Int32) (k : Nat) (q : T3) : T3 :=
  if gI M (f + 1) k = pl ∧ ¬ bG M f k t = 0 then
    (q.1 - mnI (gI M (f + 3) k) q.1, upd q.2.1 k (q.2.1 k + mnI (gI M (f + 3) k) q.1), upd q.2.2.1 k (q.2.2.1 k + mnI (gI M (f + 3) k) q.1), upd q.2.2.2 k (q.2.2.2 k + if gI M (f + 2) k = t then 0 else mnI (gI M (f + 3) k) q.1))
  else q
def tkR (M : Mm) (f : Nat) (pl am t : Int32) : T3 := itr (tkA M f pl t) (gI M f 11).toNatClampNeg 0 (am, gI M (f + 8), gI M (f + 9), gI M (f + 10))
def S23 : Sem := fun as M => match as with
  | [.ref f, .int pl, .int am, .int t] => sV (Lf M f ∧ cnt (gI M f 11) 12) (some (.int (tkR M f pl am t).1)) (w3 M f (tkR M f pl am t).2.1 (tkR M f pl am t).2.2.1 (tkR M f pl am t).2.2.2)
  | _ => sF
theorem w3_id (M : Mm) (f : Nat) : w3 M f (gI M (f + 8)) (gI M (f + 9)) (gI M (f + 10)) = M := by
  unfold w3
  rw [sI_id, sI_id, sI_id]
theorem w3_a (M : Mm) (f : Nat) (a b c a' : Nat → Int32) : sI (w3 M f a b c) (f + 8) a' = w3 M f a' b c := by
  refine Mm_ext rfl ?_ rfl rfl rfl
  unfold w3
  simp only [gK_sI, gK_sJ, gK_sP, gK_sZ, gI_sI, gI_sJ, gI_sP, gI_sZ, gJ_sI, gJ_sJ, gJ_sP, gJ_sZ, gP_sI, gP_sJ, gP_sP, gP_sZ, gZ_sI, gZ_sJ, gZ_sP, gZ_sZ]
  funext q
  unfold va_up
  by_cases h8 : q = f + 8
  · simp [h8]
  · by_cases h9 : q = f + 9
    · simp [h9]
    · simp [h8, h9]
theorem w3_b (M : Mm) (f : Nat) (a b c b' : Nat → Int32) : sI (w3 M f a b c) (f + 9) b' = w3 M f a b' c := by
  refine Mm_ext rfl ?_ rfl rfl rfl
  unfold w3
  simp only [gK_sI, gK_sJ, gK_sP, gK_sZ, gI_sI, gI_sJ, gI_sP, gI_sZ, gJ_sI, gJ_sJ, gJ_sP, gJ_sZ, gP_sI, gP_sJ, gP_sP, gP_sZ, gZ_sI, gZ_sJ, gZ_sP, gZ_sZ]
  funext q
  unfold va_up
  by_cases h8 : q = f + 9
  · simp [h8]
  · by_cases h9 : q = f + 10
    · simp [h9]
    · simp [h8, h9]
theorem w3_c (M : Mm) (f : Nat) (a b c c' : Nat → Int32) : sI (w3 M f a b c) (f + 10) c' = w3 M f a b c' := sI_sI _ _ _ _
theorem gI_w3 (M : Mm) (f : Nat) (a b c : Nat → Int32) (k : Nat) : gI (w3 M f a b c) (f + k) = if k = 10 then c else if k = 9 then b else if k = 8 then a else gI M (f + k) := by
  unfold w3
  simp only [gK_sI, gK_sJ, gK_sP, gK_sZ, gI_sI, gI_sJ, gI_sP, gI_sZ, gJ_sI, gJ_sJ, gJ_sP, gJ_sZ, gP_sI, gP_sJ, gP_sP, gP_sZ, gZ_sI, gZ_sJ, gZ_sP, gZ_sZ, up_q]
theorem gI_w30 (M : Mm) (f : Nat) (a b c : Nat → Int32) : gI (w3 M f a b c) f = gI M f := by
  unfold w3
  simp only [gK_sI, gK_sJ, gK_sP, gK_sZ, gI_sI, gI_sJ, gI_sP, gI_sZ, gJ_sI, gJ_sJ, gJ_sP, gJ_sZ, gP_sI, gP_sJ, gP_sP, gP_sZ, gZ_sI, gZ_sJ, gZ_sP, gZ_sZ, up_q, up_q0, up_q1, up_s, sI_sI, Nat.reduceEqDiff, reduceIte, Nat.succ_ne_zero, forall_const, false_imp_iff]
theorem bG_w3 (M : Mm) (f : Nat) (a b c : Nat → Int32) (k : Nat) (t : Int32) : bG (w3 M f a b c) f k t = bG M f k t := by
  unfold bG
  simp only [gI_w3, up_q, up_q0, up_q1, up_s, sI_sI, Nat.reduceEqDiff, reduceIte, Nat.succ_ne_zero, forall_const, false_imp_iff]
theorem bG_0 (M : Mm) (f k : Nat) (t : Int32) : bG M f k t = 0 ∨ bG M f k t = 1 := by
  unfold bG
  split
  · exact Or.inr rfl
  · exact Or.inl rfl
set_option maxRecDepth 100000 in
set_option maxHeartbeats 4000000 in
theorem s_X1_takeFrom {l : Launch} {G : Gt} (hfl : l.stackTraces = false) : SatM l G 23 S23 := by
  refine t_X1_takeFrom (E := fun _ => S17) hfl (s_X1_hasOpenGate hfl) fun as M hp => ?_
  unfold S23 at hp ⊢
  split at hp
  case h_2 => exact hp.elim
  rename_i f pl am t
  obtain ⟨⟨k0, ⟨p0, p1, p2, p3, p4, p5, p6, p7, p8, p9, p10⟩, k1, k2, k3, k4, k5, k6, k7, k8, k9, k10, k11⟩, n, hn, e8⟩ := hp
  refine ⟨Nat.le_of_ble_eq_true rfl, ?_⟩
  show Run (gT G) _ _ _ _ _ _ _ 0 [.val (.ref f), .val (.int pl), .val (.int am), .val (.int t), .unset, .unset, .unset] [] M 0 0
  have cl : (nI n).toNatClampNeg = n := nI_clamp (by omega)
  have hL2 : ∀ a b c, Lf (w3 M f a b c) f := fun a b c => ⟨k0, ⟨p0, p1, p2, p3, p4, p5, p6, p7, p8, p9, p10⟩, k1, k2, k3, k4, k5, k6, k7, k8, k9, k10, k11⟩
  have hK : ∀ a b c, gK (w3 M f a b c) = gK M := fun a b c => rfl
  have hP : ∀ a b c, gP (w3 M f a b c) = gP M := fun a b c => rfl
  have key : ∀ r i (q : T3) (u : Slot), i + r = n → Run (gT G) (fun _ => S17) 0 0 (fun _ _ => none) (fun v' M' => v' = some (.int (itr (tkA M f pl t) r i q).1) ∧ M' = w3 M f (itr (tkA M f pl t) r i q).2.1 (itr (tkA M f pl t) r i q).2.2.1 (itr (tkA M f pl t) r i q).2.2.2) (fun _ _ => False) kX1_takeFrom 6 [.val (.ref f), .val (.int pl), .val (.int am), .val (.int t), .val (.int q.1), .val (.int (nI i)), u] [] (w3 M f q.2.1 q.2.2.1 q.2.2.2) 0 0 := by
    intro r
    induction r with
    | zero =>
      intro i q u hi
      have hi2 : i = n := hi
      subst hi2
      rw [rX1_takeFrom_6]
      simp only [kX1_takeFrom_6, rX1_takeFrom_0, kX1_takeFrom_0, rX1_takeFrom_104, kX1_takeFrom_104, rX1_takeFrom_106, kX1_takeFrom_106, rX1_takeFrom_108, kX1_takeFrom_108, rX1_takeFrom_114, kX1_takeFrom_114, bk_c, if_true, if_false, wi_e, wl_e, wr_e, w1_i, w1_r, ldS_0, ldS_s, vi_e, vl_e, vr_e, dpL_u, dpL_i, dpL_r, dpL_l, stS_0, stS_1, stS_s, stL_0, stL_1, stL_s, bin_0, bin_1, bin_2, bin_3, bin_4, bin_5, bdv_0, bdv_1, lbin_0, lbin_1, lbin_2, cnd_0, cnd_1, cnd_2, cnd_3, cnd_4, cnd_5, aty_0, aty_1, aty_2, aty_3, aty_4, aty_5, c8_u, cn_0, cn_i, cn_r, cn_l, Nat.reduceAdd, Nat.reduceLeDiff, Nat.le_refl, adz, hnd_0, rcv_0, rcv_1, kLen_a, kLen_r, inB_e, inR_e, cpOK_e, swt_n, swt_c, List.take_succ_cons, List.take_zero, List.drop_succ_cons, List.drop_zero, List.reverse_cons, List.reverse_nil, List.nil_append, List.cons_append, List.length_cons, List.length_nil, Option.toList_some, Option.toList_none, det_e, det_x, tr_imp, fa_imp, implies_true, not_true, not_false_eq_true, and_true, true_and, nar_i, upd_s, st1_0, st1_1, st1_2, st1_3, st1_4, st1_5, st1_6, st1_7, st1_8, st1_9, st1_10, st1_11, st1_12, st1_13, st1_14, st1_15, st1_16, st1_17, st1_18, st1_19, st1_20, st1_21, st1_22, st1_23, st1_24, st1_25, st1_26, st1_27, st1_28, st1_29, st1_30, st1_31, st1_32, st1_33, st1_34, st1_35, st1_36, st1_37, st1_42, st1_43, st1_44, st1_46, st1_47, st1_48, st1_49, st1_50, st1_51, st1_52, st1_53, st1_54, st1_55, st1_56, st1_57, st1_58, st1_59, st1_60, up_q, up_q0, up_q1, up_s, sI_sI, Nat.reduceEqDiff, reduceIte, Nat.succ_ne_zero, forall_const, false_imp_iff, hK, hP, gI_w30, k0, e8, lp_out, itr]
    | succ r ih =>
      intro i q u hi
      obtain ⟨a1, a2, a3, -⟩ := lp_in (i := i) (n := n) (N := 12) (by omega) hn (by decide)
      rw [rX1_takeFrom_6]
      simp only [kX1_takeFrom_6, rX1_takeFrom_0, kX1_takeFrom_0, rX1_takeFrom_104, kX1_takeFrom_104, rX1_takeFrom_106, kX1_takeFrom_106, rX1_takeFrom_108, kX1_takeFrom_108, rX1_takeFrom_114, kX1_takeFrom_114, bk_c, if_true, if_false, wi_e, wl_e, wr_e, w1_i, w1_r, ldS_0, ldS_s, vi_e, vl_e, vr_e, dpL_u, dpL_i, dpL_r, dpL_l, stS_0, stS_1, stS_s, stL_0, stL_1, stL_s, bin_0, bin_1, bin_2, bin_3, bin_4, bin_5, bdv_0, bdv_1, lbin_0, lbin_1, lbin_2, cnd_0, cnd_1, cnd_2, cnd_3, cnd_4, cnd_5, aty_0, aty_1, aty_2, aty_3, aty_4, aty_5, c8_u, cn_0, cn_i, cn_r, cn_l, Nat.reduceAdd, Nat.reduceLeDiff, Nat.le_refl, adz, hnd_0, rcv_0, rcv_1, kLen_a, kLen_r, inB_e, inR_e, cpOK_e, swt_n, swt_c, List.take_succ_cons, List.take_zero, List.drop_succ_cons, List.drop_zero, List.reverse_cons, List.reverse_nil, List.nil_append, List.cons_append, List.length_cons, List.length_nil, Option.toList_some, Option.toList_none, det_e, det_x, tr_imp, fa_imp, implies_true, not_true, not_false_eq_true, and_true, true_and, nar_i, upd_s, st1_0, st1_1, st1_2, st1_3, st1_4, st1_5, st1_6, st1_7, st1_8, st1_9, st1_10, st1_11, st1_12, st1_13, st1_14, st1_15, st1_16, st1_17, st1_18, st1_19, st1_20, st1_21, st1_22, st1_23, st1_24, st1_25, st1_26, st1_27, st1_28, st1_29, st1_30, st1_31, st1_32, st1_33, st1_34, st1_35, st1_36, st1_37, st1_42, st1_43, st1_44, st1_46, st1_47, st1_48, st1_49, st1_50, st1_51, st1_52, st1_53, st1_54, st1_55, st1_56, st1_57, st1_58, st1_59, st1_60, up_q, up_q0, up_q1, up_s, sI_sI, Nat.reduceEqDiff, reduceIte, Nat.succ_ne_zero, forall_const, false_imp_iff, hK, hP, gI_w30, gI_w3, k0, p0, k1, p1, k2, p2, k3, p7, k8, p8, k9, p9, k10, e8, S17, sV, hL2, bG_w3, w3_a, w3_b, w3_c, a1, a2, a3, nI_1, itr]
      refine ⟨fun h => ?_, fun h => ⟨fun h2 => ?_, fun h2 => ⟨fun h3 => ?_, fun h3 => ?_⟩⟩⟩
      · rw [show tkA M f pl t i q = q from if_neg (fun z => h z.1)]
        exact ih (i + 1) q u (by omega)
      · rw [show tkA M f pl t i q = q from if_neg (fun z => z.2 h2)]
        exact ih (i + 1) q u (by omega)
      · have h1 := ih (i + 1) (tkA M f pl t i q) (.val (.int (mnI (gI M (f + 3) i) q.1))) (by omega)
        rw [show tkA M f pl t i q = (q.1 - mnI (gI M (f + 3) i) q.1, upd q.2.1 i (q.2.1 i + mnI (gI M (f + 3) i) q.1), upd q.2.2.1 i (q.2.2.1 i + mnI (gI M (f + 3) i) q.1), upd q.2.2.2 i (q.2.2.2 i + if gI M (f + 2) i = t then 0 else mnI (gI M (f + 3) i) q.1)) from if_pos ⟨Decidable.not_not.mp h, h2⟩] at h1 ⊢
        rw [if_neg h3] at h1 ⊢
        exact h1
      · have h1 := ih (i + 1) (tkA M f pl t i q) (.val (.int (mnI (gI M (f + 3) i) q.1))) (by omega)
        rw [show tkA M f pl t i q = (q.1 - mnI (gI M (f + 3) i) q.1, upd q.2.1 i (q.2.1 i + mnI (gI M (f + 3) i) q.1), upd q.2.2.1 i (q.2.2.1 i + mnI (gI M (f + 3) i) q.1), upd q.2.2.2 i (q.2.2.2 i + if gI M (f + 2) i = t then 0 else mnI (gI M (f + 3) i) q.1)) from if_pos ⟨Decidable.not_not.mp h, h2⟩] at h1 ⊢
        rw [if_pos (Decidable.not_not.mp h3)] at h1 ⊢
        exact h1
  have h0 := key n 0 (am, gI M (f + 8), gI M (f + 9), gI M (f + 10)) .unset (Nat.zero_add n)
  simp only [w3_id] at h0
  simp only [rX1_takeFrom_0, kX1_takeFrom_0, rX1_takeFrom_104, kX1_takeFrom_104, rX1_takeFrom_106, kX1_takeFrom_106, rX1_takeFrom_108, kX1_takeFrom_108, rX1_takeFrom_114, kX1_takeFrom_114, bk_c, if_true, if_false, wi_e, wl_e, wr_e, w1_i, w1_r, ldS_0, ldS_s, vi_e, vl_e, vr_e, dpL_u, dpL_i, dpL_r, dpL_l, stS_0, stS_1, stS_s, stL_0, stL_1, stL_s, bin_0, bin_1, bin_2, bin_3, bin_4, bin_5, bdv_0, bdv_1, lbin_0, lbin_1, lbin_2, cnd_0, cnd_1, cnd_2, cnd_3, cnd_4, cnd_5, aty_0, aty_1, aty_2, aty_3, aty_4, aty_5, c8_u, cn_0, cn_i, cn_r, cn_l, Nat.reduceAdd, Nat.reduceLeDiff, Nat.le_refl, adz, hnd_0, rcv_0, rcv_1, kLen_a, kLen_r, inB_e, inR_e, cpOK_e, swt_n, swt_c, List.take_succ_cons, List.take_zero, List.drop_succ_cons, List.drop_zero, List.reverse_cons, List.reverse_nil, List.nil_append, List.cons_append, List.length_cons, List.length_nil, Option.toList_some, Option.toList_none, det_e, det_x, tr_imp, fa_imp, implies_true, not_true, not_false_eq_true, and_true, true_and, nar_i, upd_s, st1_0, st1_1, st1_2, st1_3, st1_4, st1_5, st1_6, st1_7, st1_8, st1_9, st1_10, st1_11, st1_12, st1_13, st1_14, st1_15, st1_16, st1_17, st1_18, st1_19, st1_20, st1_21, st1_22, st1_23, st1_24, st1_25, st1_26, st1_27, st1_28, st1_29, st1_30, st1_31, st1_32, st1_33, st1_34, st1_35, st1_36, st1_37, st1_42, st1_43, st1_44, st1_46, st1_47, st1_48, st1_49, st1_50, st1_51, st1_52, st1_53, st1_54, st1_55, st1_56, st1_57, st1_58, st1_59, st1_60, gK_sI, gK_sJ, gK_sP, gK_sZ, gI_sI, gI_sJ, gI_sP, gI_sZ, gJ_sI, gJ_sJ, gJ_sP, gJ_sZ, gP_sI, gP_sJ, gP_sP, gP_sZ, gZ_sI, gZ_sJ, gZ_sP, gZ_sZ, up_q, up_q0, up_q1, up_s, sI_sI, Nat.reduceEqDiff, reduceIte, Nat.succ_ne_zero, forall_const, false_imp_iff, k0, tkR, e8, cl]
  exact h0
def S24 : Sem := fun as M => match as with
  | [.ref f] => sV (Lf M f ∧ cnt (gI M f 11) 12) (some (.long (itr (wsA (gI M (f + 8))) (gI M f 11).toNatClampNeg 0 0))) M
  | _ => sF
set_option maxRecDepth 100000 in
set_option maxHeartbeats 4000000 in
theorem s_X1_waterInAll {l : Launch} {G : Gt} (hfl : l.stackTraces = false) : SatM l G 24 S24 := by
  refine t_X1_waterInAll (E := fun _ => S0) hfl  fun as M hp => ?_
  unfold S24 at hp ⊢
  split at hp
  case h_2 => exact hp.elim
  rename_i f
  obtain ⟨⟨k0, ⟨p0, p1, p2, p3, p4, p5, p6, p7, p8, p9, p10⟩, k1, k2, k3, k4, k5, k6, k7, k8, k9, k10, k11⟩, n, hn, e8⟩ := hp
  refine ⟨Nat.le_of_ble_eq_true rfl, ?_⟩
  show Run (gT G) _ _ _ _ _ _ _ 0 [.val (.ref f), .unset, .unset, .unset] [] M 0 0
  have cl : (nI n).toNatClampNeg = n := nI_clamp (by omega)
  have key : ∀ r i t, i + r = n → Run (gT G) (fun _ => S0) 0 0 (fun _ _ => none) (fun v' M' => v' = some (.long (itr (wsA (gI M (f + 8))) r i t)) ∧ M' = M) (fun _ _ => False) kX1_waterInAll 4 [.val (.ref f), .val (.long t), .unset, .val (.int (nI i))] [] M 0 0 := by
    intro r
    induction r with
    | zero =>
      intro i t hi
      have hi2 : i = n := hi
      subst hi2
      rw [rX1_waterInAll_4]
      simp only [kX1_waterInAll_4, rX1_waterInAll_0, kX1_waterInAll_0, rX1_waterInAll_28, kX1_waterInAll_28, bk_c, if_true, if_false, wi_e, wl_e, wr_e, w1_i, w1_r, ldS_0, ldS_s, vi_e, vl_e, vr_e, dpL_u, dpL_i, dpL_r, dpL_l, stS_0, stS_1, stS_s, stL_0, stL_1, stL_s, bin_0, bin_1, bin_2, bin_3, bin_4, bin_5, bdv_0, bdv_1, lbin_0, lbin_1, lbin_2, cnd_0, cnd_1, cnd_2, cnd_3, cnd_4, cnd_5, aty_0, aty_1, aty_2, aty_3, aty_4, aty_5, c8_u, cn_0, cn_i, cn_r, cn_l, Nat.reduceAdd, Nat.reduceLeDiff, Nat.le_refl, adz, hnd_0, rcv_0, rcv_1, kLen_a, kLen_r, inB_e, inR_e, cpOK_e, swt_n, swt_c, List.take_succ_cons, List.take_zero, List.drop_succ_cons, List.drop_zero, List.reverse_cons, List.reverse_nil, List.nil_append, List.cons_append, List.length_cons, List.length_nil, Option.toList_some, Option.toList_none, det_e, det_x, tr_imp, fa_imp, implies_true, not_true, not_false_eq_true, and_true, true_and, nar_i, upd_s, st1_0, st1_1, st1_2, st1_3, st1_4, st1_5, st1_6, st1_7, st1_8, st1_9, st1_10, st1_11, st1_12, st1_13, st1_14, st1_15, st1_16, st1_17, st1_18, st1_19, st1_20, st1_21, st1_22, st1_23, st1_24, st1_25, st1_26, st1_27, st1_28, st1_29, st1_30, st1_31, st1_32, st1_33, st1_34, st1_35, st1_36, st1_37, st1_42, st1_43, st1_44, st1_46, st1_47, st1_48, st1_49, st1_50, st1_51, st1_52, st1_53, st1_54, st1_55, st1_56, st1_57, st1_58, st1_59, st1_60, gK_sI, gK_sJ, gK_sP, gK_sZ, gI_sI, gI_sJ, gI_sP, gI_sZ, gJ_sI, gJ_sJ, gJ_sP, gJ_sZ, gP_sI, gP_sJ, gP_sP, gP_sZ, gZ_sI, gZ_sJ, gZ_sP, gZ_sZ, up_q, up_q0, up_q1, up_s, sI_sI, Nat.reduceEqDiff, reduceIte, Nat.succ_ne_zero, forall_const, false_imp_iff, k0, e8, lp_out, itr]
    | succ r ih =>
      intro i t hi
      obtain ⟨a1, a2, a3, -⟩ := lp_in (i := i) (n := n) (N := 12) (by omega) hn (by decide)
      rw [rX1_waterInAll_4]
      simp only [kX1_waterInAll_4, rX1_waterInAll_0, kX1_waterInAll_0, rX1_waterInAll_28, kX1_waterInAll_28, bk_c, if_true, if_false, wi_e, wl_e, wr_e, w1_i, w1_r, ldS_0, ldS_s, vi_e, vl_e, vr_e, dpL_u, dpL_i, dpL_r, dpL_l, stS_0, stS_1, stS_s, stL_0, stL_1, stL_s, bin_0, bin_1, bin_2, bin_3, bin_4, bin_5, bdv_0, bdv_1, lbin_0, lbin_1, lbin_2, cnd_0, cnd_1, cnd_2, cnd_3, cnd_4, cnd_5, aty_0, aty_1, aty_2, aty_3, aty_4, aty_5, c8_u, cn_0, cn_i, cn_r, cn_l, Nat.reduceAdd, Nat.reduceLeDiff, Nat.le_refl, adz, hnd_0, rcv_0, rcv_1, kLen_a, kLen_r, inB_e, inR_e, cpOK_e, swt_n, swt_c, List.take_succ_cons, List.take_zero, List.drop_succ_cons, List.drop_zero, List.reverse_cons, List.reverse_nil, List.nil_append, List.cons_append, List.length_cons, List.length_nil, Option.toList_some, Option.toList_none, det_e, det_x, tr_imp, fa_imp, implies_true, not_true, not_false_eq_true, and_true, true_and, nar_i, upd_s, st1_0, st1_1, st1_2, st1_3, st1_4, st1_5, st1_6, st1_7, st1_8, st1_9, st1_10, st1_11, st1_12, st1_13, st1_14, st1_15, st1_16, st1_17, st1_18, st1_19, st1_20, st1_21, st1_22, st1_23, st1_24, st1_25, st1_26, st1_27, st1_28, st1_29, st1_30, st1_31, st1_32, st1_33, st1_34, st1_35, st1_36, st1_37, st1_42, st1_43, st1_44, st1_46, st1_47, st1_48, st1_49, st1_50, st1_51, st1_52, st1_53, st1_54, st1_55, st1_56, st1_57, st1_58, st1_59, st1_60, gK_sI, gK_sJ, gK_sP, gK_sZ, gI_sI, gI_sJ, gI_sP, gI_sZ, gJ_sI, gJ_sJ, gJ_sP, gJ_sZ, gP_sI, gP_sJ, gP_sP, gP_sZ, gZ_sI, gZ_sJ, gZ_sP, gZ_sZ, up_q, up_q0, up_q1, up_s, sI_sI, Nat.reduceEqDiff, reduceIte, Nat.succ_ne_zero, forall_const, false_imp_iff, k0, p7, k8, e8, a1, a2, a3, nI_1, itr]
      exact ih (i + 1) _ (by omega)
  simp only [rX1_waterInAll_0, kX1_waterInAll_0, rX1_waterInAll_28, kX1_waterInAll_28, bk_c, if_true, if_false, wi_e, wl_e, wr_e, w1_i, w1_r, ldS_0, ldS_s, vi_e, vl_e, vr_e, dpL_u, dpL_i, dpL_r, dpL_l, stS_0, stS_1, stS_s, stL_0, stL_1, stL_s, bin_0, bin_1, bin_2, bin_3, bin_4, bin_5, bdv_0, bdv_1, lbin_0, lbin_1, lbin_2, cnd_0, cnd_1, cnd_2, cnd_3, cnd_4, cnd_5, aty_0, aty_1, aty_2, aty_3, aty_4, aty_5, c8_u, cn_0, cn_i, cn_r, cn_l, Nat.reduceAdd, Nat.reduceLeDiff, Nat.le_refl, adz, hnd_0, rcv_0, rcv_1, kLen_a, kLen_r, inB_e, inR_e, cpOK_e, swt_n, swt_c, List.take_succ_cons, List.take_zero, List.drop_succ_cons, List.drop_zero, List.reverse_cons, List.reverse_nil, List.nil_append, List.cons_append, List.length_cons, List.length_nil, Option.toList_some, Option.toList_none, det_e, det_x, tr_imp, fa_imp, implies_true, not_true, not_false_eq_true, and_true, true_and, nar_i, upd_s, st1_0, st1_1, st1_2, st1_3, st1_4, st1_5, st1_6, st1_7, st1_8, st1_9, st1_10, st1_11, st1_12, st1_13, st1_14, st1_15, st1_16, st1_17, st1_18, st1_19, st1_20, st1_21, st1_22, st1_23, st1_24, st1_25, st1_26, st1_27, st1_28, st1_29, st1_30, st1_31, st1_32, st1_33, st1_34, st1_35, st1_36, st1_37, st1_42, st1_43, st1_44, st1_46, st1_47, st1_48, st1_49, st1_50, st1_51, st1_52, st1_53, st1_54, st1_55, st1_56, st1_57, st1_58, st1_59, st1_60, k0, e8, cl]
  exact key _ 0 0 (by omega)
def cfA (M : Mm) (f : Nat) : Nat → Int32 → Int32 := fun k s => s + if gI M (f + 11) k = 0 then 0 else 1
def S14 : Sem := fun as M => match as with
  | [.ref f] => sV (Lf M f ∧ cnt (gI M f 11) 12) (some (.int (itr (cfA M f) (gI M f 11).toNatClampNeg 0 0))) M
  | _ => sF
set_option maxRecDepth 100000 in
set_option maxHeartbeats 4000000 in
theorem s_X1_countForced {l : Launch} {G : Gt} (hfl : l.stackTraces = false) : SatM l G 14 S14 := by
  refine t_X1_countForced (E := fun _ => S0) hfl  fun as M hp => ?_
  unfold S14 at hp ⊢
  split at hp
  case h_2 => exact hp.elim
  rename_i f
  obtain ⟨⟨k0, ⟨p0, p1, p2, p3, p4, p5, p6, p7, p8, p9, p10⟩, k1, k2, k3, k4, k5, k6, k7, k8, k9, k10, k11⟩, n, hn, e8⟩ := hp
  refine ⟨Nat.le_of_ble_eq_true rfl, ?_⟩
  show Run (gT G) _ _ _ _ _ _ _ 0 [.val (.ref f), .unset, .unset] [] M 0 0
  have cl : (nI n).toNatClampNeg = n := nI_clamp (by omega)
  have key : ∀ r i t, i + r = n → Run (gT G) (fun _ => S0) 0 0 (fun _ _ => none) (fun v' M' => v' = some (.int (itr (cfA M f) r i t)) ∧ M' = M) (fun _ _ => False) kX1_countForced 4 [.val (.ref f), .val (.int t), .val (.int (nI i))] [] M 0 0 := by
    intro r
    induction r with
    | zero =>
      intro i t hi
      have hi2 : i = n := hi
      subst hi2
      rw [rX1_countForced_4]
      simp only [kX1_countForced_4, rX1_countForced_0, kX1_countForced_0, rX1_countForced_26, kX1_countForced_26, rX1_countForced_27, kX1_countForced_27, rX1_countForced_35, kX1_countForced_35, bk_c, if_true, if_false, wi_e, wl_e, wr_e, w1_i, w1_r, ldS_0, ldS_s, vi_e, vl_e, vr_e, dpL_u, dpL_i, dpL_r, dpL_l, stS_0, stS_1, stS_s, stL_0, stL_1, stL_s, bin_0, bin_1, bin_2, bin_3, bin_4, bin_5, bdv_0, bdv_1, lbin_0, lbin_1, lbin_2, cnd_0, cnd_1, cnd_2, cnd_3, cnd_4, cnd_5, aty_0, aty_1, aty_2, aty_3, aty_4, aty_5, c8_u, cn_0, cn_i, cn_r, cn_l, Nat.reduceAdd, Nat.reduceLeDiff, Nat.le_refl, adz, hnd_0, rcv_0, rcv_1, kLen_a, kLen_r, inB_e, inR_e, cpOK_e, swt_n, swt_c, List.take_succ_cons, List.take_zero, List.drop_succ_cons, List.drop_zero, List.reverse_cons, List.reverse_nil, List.nil_append, List.cons_append, List.length_cons, List.length_nil, Option.toList_some, Option.toList_none, det_e, det_x, tr_imp, fa_imp, implies_true, not_true, not_false_eq_true, and_true, true_and, nar_i, upd_s, st1_0, st1_1, st1_2, st1_3, st1_4, st1_5, st1_6, st1_7, st1_8, st1_9, st1_10, st1_11, st1_12, st1_13, st1_14, st1_15, st1_16, st1_17, st1_18, st1_19, st1_20, st1_21, st1_22, st1_23, st1_24, st1_25, st1_26, st1_27, st1_28, st1_29, st1_30, st1_31, st1_32, st1_33, st1_34, st1_35, st1_36, st1_37, st1_42, st1_43, st1_44, st1_46, st1_47, st1_48, st1_49, st1_50, st1_51, st1_52, st1_53, st1_54, st1_55, st1_56, st1_57, st1_58, st1_59, st1_60, gK_sI, gK_sJ, gK_sP, gK_sZ, gI_sI, gI_sJ, gI_sP, gI_sZ, gJ_sI, gJ_sJ, gJ_sP, gJ_sZ, gP_sI, gP_sJ, gP_sP, gP_sZ, gZ_sI, gZ_sJ, gZ_sP, gZ_sZ, up_q, up_q0, up_q1, up_s, sI_sI, Nat.reduceEqDiff, reduceIte, Nat.succ_ne_zero, forall_const, false_imp_iff, k0, e8, lp_out, itr]
    | succ r ih =>
      intro i t hi
      obtain ⟨a1, a2, a3, -⟩ := lp_in (i := i) (n := n) (N := 12) (by omega) hn (by decide)
      rw [rX1_countForced_4]
      simp only [kX1_countForced_4, rX1_countForced_0, kX1_countForced_0, rX1_countForced_26, kX1_countForced_26, rX1_countForced_27, kX1_countForced_27, rX1_countForced_35, kX1_countForced_35, bk_c, if_true, if_false, wi_e, wl_e, wr_e, w1_i, w1_r, ldS_0, ldS_s, vi_e, vl_e, vr_e, dpL_u, dpL_i, dpL_r, dpL_l, stS_0, stS_1, stS_s, stL_0, stL_1, stL_s, bin_0, bin_1, bin_2, bin_3, bin_4, bin_5, bdv_0, bdv_1, lbin_0, lbin_1, lbin_2, cnd_0, cnd_1, cnd_2, cnd_3, cnd_4, cnd_5, aty_0, aty_1, aty_2, aty_3, aty_4, aty_5, c8_u, cn_0, cn_i, cn_r, cn_l, Nat.reduceAdd, Nat.reduceLeDiff, Nat.le_refl, adz, hnd_0, rcv_0, rcv_1, kLen_a, kLen_r, inB_e, inR_e, cpOK_e, swt_n, swt_c, List.take_succ_cons, List.take_zero, List.drop_succ_cons, List.drop_zero, List.reverse_cons, List.reverse_nil, List.nil_append, List.cons_append, List.length_cons, List.length_nil, Option.toList_some, Option.toList_none, det_e, det_x, tr_imp, fa_imp, implies_true, not_true, not_false_eq_true, and_true, true_and, nar_i, upd_s, st1_0, st1_1, st1_2, st1_3, st1_4, st1_5, st1_6, st1_7, st1_8, st1_9, st1_10, st1_11, st1_12, st1_13, st1_14, st1_15, st1_16, st1_17, st1_18, st1_19, st1_20, st1_21, st1_22, st1_23, st1_24, st1_25, st1_26, st1_27, st1_28, st1_29, st1_30, st1_31, st1_32, st1_33, st1_34, st1_35, st1_36, st1_37, st1_42, st1_43, st1_44, st1_46, st1_47, st1_48, st1_49, st1_50, st1_51, st1_52, st1_53, st1_54, st1_55, st1_56, st1_57, st1_58, st1_59, st1_60, gK_sI, gK_sJ, gK_sP, gK_sZ, gI_sI, gI_sJ, gI_sP, gI_sZ, gJ_sI, gJ_sJ, gJ_sP, gJ_sZ, gP_sI, gP_sJ, gP_sP, gP_sZ, gZ_sI, gZ_sJ, gZ_sP, gZ_sZ, up_q, up_q0, up_q1, up_s, sI_sI, Nat.reduceEqDiff, reduceIte, Nat.succ_ne_zero, forall_const, false_imp_iff, k0, p10, k11, e8, a1, a2, a3, nI_1, itr]
      refine ⟨fun h => ?_, fun h => ?_⟩
      · rw [show cfA M f i t = t + 0 from congrArg (fun z => t + z) (if_pos h)]
        exact ih (i + 1) _ (by omega)
      · rw [show cfA M f i t = t + 1 from congrArg (fun z => t + z) (if_neg h)]
        exact ih (i + 1) _ (by omega)
  simp only [rX1_countForced_0, kX1_countForced_0, rX1_countForced_26, kX1_countForced_26, rX1_countForced_27, kX1_countForced_27, rX1_countForced_35, kX1_countForced_35, bk_c, if_true, if_false, wi_e, wl_e, wr_e, w1_i, w1_r, ldS_0, ldS_s, vi_e, vl_e, vr_e, dpL_u, dpL_i, dpL_r, dpL_l, stS_0, stS_1, stS_s, stL_0, stL_1, stL_s, bin_0, bin_1, bin_2, bin_3, bin_4, bin_5, bdv_0, bdv_1, lbin_0, lbin_1, lbin_2, cnd_0, cnd_1, cnd_2, cnd_3, cnd_4, cnd_5, aty_0, aty_1, aty_2, aty_3, aty_4, aty_5, c8_u, cn_0, cn_i, cn_r, cn_l, Nat.reduceAdd, Nat.reduceLeDiff, Nat.le_refl, adz, hnd_0, rcv_0, rcv_1, kLen_a, kLen_r, inB_e, inR_e, cpOK_e, swt_n, swt_c, List.take_succ_cons, List.take_zero, List.drop_succ_cons, List.drop_zero, List.reverse_cons, List.reverse_nil, List.nil_append, List.cons_append, List.length_cons, List.length_nil, Option.toList_some, Option.toList_none, det_e, det_x, tr_imp, fa_imp, implies_true, not_true, not_false_eq_true, and_true, true_and, nar_i, upd_s, st1_0, st1_1, st1_2, st1_3, st1_4, st1_5, st1_6, st1_7, st1_8, st1_9, st1_10, st1_11, st1_12, st1_13, st1_14, st1_15, st1_16, st1_17, st1_18, st1_19, st1_20, st1_21, st1_22, st1_23, st1_24, st1_25, st1_26, st1_27, st1_28, st1_29, st1_30, st1_31, st1_32, st1_33, st1_34, st1_35, st1_36, st1_37, st1_42, st1_43, st1_44, st1_46, st1_47, st1_48, st1_49, st1_50, st1_51, st1_52, st1_53, st1_54, st1_55, st1_56, st1_57, st1_58, st1_59, st1_60, k0, e8, cl]
  exact key _ 0 0 (by omega)
def dmA (M : Mm) (f : Nat) (v : Int32) : Nat → Int32 → Int32 := fun k s => s + if gI M (f + 2) k = v then gI M (f + 4) k else 0
def S15 : Sem := fun as M => match as with
  | [.ref f, .int v] => sV (Lf M f ∧ cnt (gI M f 11) 12) (some (.int (itr (dmA M f v) (gI M f 11).toNatClampNeg 0 0))) M
  | _ => sF
set_option maxRecDepth 100000 in
set_option maxHeartbeats 4000000 in
theorem s_X1_demandOf {l : Launch} {G : Gt} (hfl : l.stackTraces = false) : SatM l G 15 S15 := by
  refine t_X1_demandOf (E := fun _ => S0) hfl  fun as M hp => ?_
  unfold S15 at hp ⊢
  split at hp
  case h_2 => exact hp.elim
  rename_i f v
  obtain ⟨⟨k0, ⟨p0, p1, p2, p3, p4, p5, p6, p7, p8, p9, p10⟩, k1, k2, k3, k4, k5, k6, k7, k8, k9, k10, k11⟩, n, hn, e8⟩ := hp
  refine ⟨Nat.le_of_ble_eq_true rfl, ?_⟩
  show Run (gT G) _ _ _ _ _ _ _ 0 [.val (.ref f), .val (.int v), .unset, .unset] [] M 0 0
  have cl : (nI n).toNatClampNeg = n := nI_clamp (by omega)
  have key : ∀ r i t, i + r = n → Run (gT G) (fun _ => S0) 0 0 (fun _ _ => none) (fun v' M' => v' = some (.int (itr (dmA M f v) r i t)) ∧ M' = M) (fun _ _ => False) kX1_demandOf 4 [.val (.ref f), .val (.int v), .val (.int t), .val (.int (nI i))] [] M 0 0 := by
    intro r
    induction r with
    | zero =>
      intro i t hi
      have hi2 : i = n := hi
      subst hi2
      rw [rX1_demandOf_4]
      simp only [kX1_demandOf_4, rX1_demandOf_0, kX1_demandOf_0, rX1_demandOf_32, kX1_demandOf_32, rX1_demandOf_33, kX1_demandOf_33, rX1_demandOf_41, kX1_demandOf_41, bk_c, if_true, if_false, wi_e, wl_e, wr_e, w1_i, w1_r, ldS_0, ldS_s, vi_e, vl_e, vr_e, dpL_u, dpL_i, dpL_r, dpL_l, stS_0, stS_1, stS_s, stL_0, stL_1, stL_s, bin_0, bin_1, bin_2, bin_3, bin_4, bin_5, bdv_0, bdv_1, lbin_0, lbin_1, lbin_2, cnd_0, cnd_1, cnd_2, cnd_3, cnd_4, cnd_5, aty_0, aty_1, aty_2, aty_3, aty_4, aty_5, c8_u, cn_0, cn_i, cn_r, cn_l, Nat.reduceAdd, Nat.reduceLeDiff, Nat.le_refl, adz, hnd_0, rcv_0, rcv_1, kLen_a, kLen_r, inB_e, inR_e, cpOK_e, swt_n, swt_c, List.take_succ_cons, List.take_zero, List.drop_succ_cons, List.drop_zero, List.reverse_cons, List.reverse_nil, List.nil_append, List.cons_append, List.length_cons, List.length_nil, Option.toList_some, Option.toList_none, det_e, det_x, tr_imp, fa_imp, implies_true, not_true, not_false_eq_true, and_true, true_and, nar_i, upd_s, st1_0, st1_1, st1_2, st1_3, st1_4, st1_5, st1_6, st1_7, st1_8, st1_9, st1_10, st1_11, st1_12, st1_13, st1_14, st1_15, st1_16, st1_17, st1_18, st1_19, st1_20, st1_21, st1_22, st1_23, st1_24, st1_25, st1_26, st1_27, st1_28, st1_29, st1_30, st1_31, st1_32, st1_33, st1_34, st1_35, st1_36, st1_37, st1_42, st1_43, st1_44, st1_46, st1_47, st1_48, st1_49, st1_50, st1_51, st1_52, st1_53, st1_54, st1_55, st1_56, st1_57, st1_58, st1_59, st1_60, gK_sI, gK_sJ, gK_sP, gK_sZ, gI_sI, gI_sJ, gI_sP, gI_sZ, gJ_sI, gJ_sJ, gJ_sP, gJ_sZ, gP_sI, gP_sJ, gP_sP, gP_sZ, gZ_sI, gZ_sJ, gZ_sP, gZ_sZ, up_q, up_q0, up_q1, up_s, sI_sI, Nat.reduceEqDiff, reduceIte, Nat.succ_ne_zero, forall_const, false_imp_iff, k0, e8, lp_out, itr]
    | succ r ih =>
      intro i t hi
      obtain ⟨a1, a2, a3, -⟩ := lp_in (i := i) (n := n) (N := 12) (by omega) hn (by decide)
      rw [rX1_demandOf_4]
      simp only [kX1_demandOf_4, rX1_demandOf_0, kX1_demandOf_0, rX1_demandOf_32, kX1_demandOf_32, rX1_demandOf_33, kX1_demandOf_33, rX1_demandOf_41, kX1_demandOf_41, bk_c, if_true, if_false, wi_e, wl_e, wr_e, w1_i, w1_r, ldS_0, ldS_s, vi_e, vl_e, vr_e, dpL_u, dpL_i, dpL_r, dpL_l, stS_0, stS_1, stS_s, stL_0, stL_1, stL_s, bin_0, bin_1, bin_2, bin_3, bin_4, bin_5, bdv_0, bdv_1, lbin_0, lbin_1, lbin_2, cnd_0, cnd_1, cnd_2, cnd_3, cnd_4, cnd_5, aty_0, aty_1, aty_2, aty_3, aty_4, aty_5, c8_u, cn_0, cn_i, cn_r, cn_l, Nat.reduceAdd, Nat.reduceLeDiff, Nat.le_refl, adz, hnd_0, rcv_0, rcv_1, kLen_a, kLen_r, inB_e, inR_e, cpOK_e, swt_n, swt_c, List.take_succ_cons, List.take_zero, List.drop_succ_cons, List.drop_zero, List.reverse_cons, List.reverse_nil, List.nil_append, List.cons_append, List.length_cons, List.length_nil, Option.toList_some, Option.toList_none, det_e, det_x, tr_imp, fa_imp, implies_true, not_true, not_false_eq_true, and_true, true_and, nar_i, upd_s, st1_0, st1_1, st1_2, st1_3, st1_4, st1_5, st1_6, st1_7, st1_8, st1_9, st1_10, st1_11, st1_12, st1_13, st1_14, st1_15, st1_16, st1_17, st1_18, st1_19, st1_20, st1_21, st1_22, st1_23, st1_24, st1_25, st1_26, st1_27, st1_28, st1_29, st1_30, st1_31, st1_32, st1_33, st1_34, st1_35, st1_36, st1_37, st1_42, st1_43, st1_44, st1_46, st1_47, st1_48, st1_49, st1_50, st1_51, st1_52, st1_53, st1_54, st1_55, st1_56, st1_57, st1_58, st1_59, st1_60, gK_sI, gK_sJ, gK_sP, gK_sZ, gI_sI, gI_sJ, gI_sP, gI_sZ, gJ_sI, gJ_sJ, gJ_sP, gJ_sZ, gP_sI, gP_sJ, gP_sP, gP_sZ, gZ_sI, gZ_sJ, gZ_sP, gZ_sZ, up_q, up_q0, up_q1, up_s, sI_sI, Nat.reduceEqDiff, reduceIte, Nat.succ_ne_zero, forall_const, false_imp_iff, k0, p1, k2, p3, k4, e8, a1, a2, a3, nI_1, itr]
      refine ⟨fun h => ?_, fun h => ?_⟩
      · rw [show dmA M f v i t = t + 0 from congrArg (fun z => t + z) (if_neg h)]
        exact ih (i + 1) _ (by omega)
      · rw [show dmA M f v i t = t + gI M (f + 4) i from congrArg (fun z => t + z) (if_pos (Decidable.not_not.mp h))]
        exact ih (i + 1) _ (by omega)
  simp only [rX1_demandOf_0, kX1_demandOf_0, rX1_demandOf_32, kX1_demandOf_32, rX1_demandOf_33, kX1_demandOf_33, rX1_demandOf_41, kX1_demandOf_41, bk_c, if_true, if_false, wi_e, wl_e, wr_e, w1_i, w1_r, ldS_0, ldS_s, vi_e, vl_e, vr_e, dpL_u, dpL_i, dpL_r, dpL_l, stS_0, stS_1, stS_s, stL_0, stL_1, stL_s, bin_0, bin_1, bin_2, bin_3, bin_4, bin_5, bdv_0, bdv_1, lbin_0, lbin_1, lbin_2, cnd_0, cnd_1, cnd_2, cnd_3, cnd_4, cnd_5, aty_0, aty_1, aty_2, aty_3, aty_4, aty_5, c8_u, cn_0, cn_i, cn_r, cn_l, Nat.reduceAdd, Nat.reduceLeDiff, Nat.le_refl, adz, hnd_0, rcv_0, rcv_1, kLen_a, kLen_r, inB_e, inR_e, cpOK_e, swt_n, swt_c, List.take_succ_cons, List.take_zero, List.drop_succ_cons, List.drop_zero, List.reverse_cons, List.reverse_nil, List.nil_append, List.cons_append, List.length_cons, List.length_nil, Option.toList_some, Option.toList_none, det_e, det_x, tr_imp, fa_imp, implies_true, not_true, not_false_eq_true, and_true, true_and, nar_i, upd_s, st1_0, st1_1, st1_2, st1_3, st1_4, st1_5, st1_6, st1_7, st1_8, st1_9, st1_10, st1_11, st1_12, st1_13, st1_14, st1_15, st1_16, st1_17, st1_18, st1_19, st1_20, st1_21, st1_22, st1_23, st1_24, st1_25, st1_26, st1_27, st1_28, st1_29, st1_30, st1_31, st1_32, st1_33, st1_34, st1_35, st1_36, st1_37, st1_42, st1_43, st1_44, st1_46, st1_47, st1_48, st1_49, st1_50, st1_51, st1_52, st1_53, st1_54, st1_55, st1_56, st1_57, st1_58, st1_59, st1_60, k0, e8, cl]
  exact key _ 0 0 (by omega)
/-- two stretches of addresses apart -/
def apt (f n c m : Nat) : Prop := f + n ≤ c ∨ c + m ≤ f
theorem apt_l {f n c m : Nat} (h : apt f n c m) (k : Nat) (hk : k < n) (hm : 0 < m) : ¬ c = f + k := by unfold apt at h; omega
theorem apt_r {f n c m : Nat} (h : apt f n c m) (k : Nat) (hk : k < m) (hn : 0 < n) : ¬ f = c + k := by unfold apt at h; omega
theorem apt_b {f n c m : Nat} (h : apt f n c m) (i j : Nat) (hi : i < n) (hj : j < m) : ¬ c + j = f + i := by unfold apt at h; omega
/-- the canals at which a field is open -/
def mkA (M : Mm) (f c : Nat) (t : Int32) : Nat → (Nat → Int32) → (Nat → Int32) := fun k g => if bG M f k t = 0 then g else if ¬ gI M (f + 1) k < 0 ∧ gI M (f + 1) k < gI M c 8 then upd g (gI M (f + 1) k).toNatClampNeg 1 else g
def mkO (M : Mm) (f c : Nat) (t : Int32) : Nat → Int32 := itr (mkA M f c t) (gI M f 11).toNatClampNeg 0 (fil (gI M c 8).toNatClampNeg 0 (gI M (c + 7)))
def S19 : Sem := fun as M => match as with
  | [.ref f, .ref c, .int t] => sV (Lf M f ∧ Lc M c ∧ cnt (gI M f 11) 12 ∧ cnt (gI M c 8) 16 ∧ apt f 12 c 9) none (opP M c (gI M c 8).toNatClampNeg (sI M (c + 7) (mkO M f c t)))
  | _ => sF
theorem up_f {α : Type} (g : Nat → α) {a q : Nat} (v : α) (h : q ≠ a) : va_up g a v q = g q := if_neg h
theorem opP_c (M : Mm) (c : Nat) (g : Nat → Int32) : ∀ (n : Nat) (N : Mm), opP (sI M (c + 7) g) c n N = opP M c n N
  | 0, _ => rfl
  | n + 1, N => by
    unfold opP
    rw [opP_c M c g n]
    simp only [gK_sI, gK_sJ, gK_sP, gK_sZ, gI_sI, gI_sJ, gI_sP, gI_sZ, gJ_sI, gJ_sJ, gJ_sP, gJ_sZ, gP_sI, gP_sJ, gP_sP, gP_sZ, gZ_sI, gZ_sJ, gZ_sP, gZ_sZ, up_q, up_q0, up_q1, up_s, sI_sI, Nat.reduceEqDiff, reduceIte, Nat.succ_ne_zero, forall_const, false_imp_iff]
def eX1_markOpenCanals : Nat → Sem := fun id => if id = 1 then S1 else if id = 7 then S7 else if id = 8 then S8 else S17
set_option maxRecDepth 100000 in
set_option maxHeartbeats 4000000 in
theorem s_X1_markOpenCanals {l : Launch} {G : Gt} (hfl : l.stackTraces = false) : SatM l G 19 S19 := by
  refine t_X1_markOpenCanals (E := eX1_markOpenCanals) hfl (s_X0_closeAll hfl) (s_X0_openAt hfl) (s_X0_openParents hfl) (s_X1_hasOpenGate hfl) fun as M hp => ?_
  unfold S19 at hp ⊢
  split at hp
  case h_2 => exact hp.elim
  rename_i f c t
  obtain ⟨⟨k0, ⟨p0, p1, p2, p3, p4, p5, p6, p7, p8, p9, p10⟩, k1, k2, k3, k4, k5, k6, k7, k8, k9, k10, k11⟩, ⟨K0, ⟨P0, P1, P2, P3, P4, P5, P6, P7⟩, K1, K2, K3, K4, K5, K6, K7, K8⟩, ⟨n, hn, e8⟩, ⟨w, hw, E8⟩, ha⟩ := hp
  refine ⟨Nat.le_of_ble_eq_true rfl, ?_⟩
  show Run (gT G) _ _ _ _ _ _ _ 0 [.val (.ref f), .val (.ref c), .val (.int t), .unset] [] M 0 0
  unfold apt at ha
  have cl : (nI n).toNatClampNeg = n := nI_clamp (by omega)
  have hLc : ∀ g, Lc (sI M (c + 7) g) c := fun g => ⟨K0, ⟨P0, P1, P2, P3, P4, P5, P6, P7⟩, K1, K2, K3, K4, K5, K6, K7, K8⟩
  have hLc0 : Lc M c := ⟨K0, ⟨P0, P1, P2, P3, P4, P5, P6, P7⟩, K1, K2, K3, K4, K5, K6, K7, K8⟩
  have hLf : ∀ g, Lf (sI M (c + 7) g) f := fun g => ⟨k0, ⟨p0, p1, p2, p3, p4, p5, p6, p7, p8, p9, p10⟩, k1, k2, k3, k4, k5, k6, k7, k8, k9, k10, k11⟩
  have hI : ∀ g k, k < 12 → gI (sI M (c + 7) g) (f + k) = gI M (f + k) := fun g k hk => up_f _ _ (by omega)
  have hI0 : ∀ g, gI (sI M (c + 7) g) f = gI M f := fun g => up_f _ _ (by omega)
  have hI8 : ∀ g, gI (sI M (c + 7) g) c = gI M c := fun g => up_f _ _ (by omega)
  have hb9 : ∀ g k, bG (sI M (c + 7) g) f k t = bG M f k t := fun g k => by
    unfold bG
    rw [hI g 2 (by decide), hI g 11 (by decide)]
  have key : ∀ r i g, i + r = n → Run (gT G) eX1_markOpenCanals 0 0 (fun _ _ => none) (fun v' M' => v' = none ∧ M' = opP M c (gI M c 8).toNatClampNeg (sI M (c + 7) (itr (mkA M f c t) r i g))) (fun _ _ => False) kX1_markOpenCanals 6 [.val (.ref f), .val (.ref c), .val (.int t), .val (.int (nI i))] [] (sI M (c + 7) g) 0 0 := by
    intro r
    induction r with
    | zero =>
      intro i g hi
      have hi2 : i = n := hi
      subst hi2
      rw [rX1_markOpenCanals_6]
      simp only [kX1_markOpenCanals_6, rX1_markOpenCanals_0, kX1_markOpenCanals_0, rX1_markOpenCanals_33, kX1_markOpenCanals_33, rX1_markOpenCanals_39, kX1_markOpenCanals_39, eX1_markOpenCanals, S1, S7, S8, S17, bk_c, if_true, if_false, wi_e, wl_e, wr_e, w1_i, w1_r, ldS_0, ldS_s, vi_e, vl_e, vr_e, dpL_u, dpL_i, dpL_r, dpL_l, stS_0, stS_1, stS_s, stL_0, stL_1, stL_s, bin_0, bin_1, bin_2, bin_3, bin_4, bin_5, bdv_0, bdv_1, lbin_0, lbin_1, lbin_2, cnd_0, cnd_1, cnd_2, cnd_3, cnd_4, cnd_5, aty_0, aty_1, aty_2, aty_3, aty_4, aty_5, c8_u, cn_0, cn_i, cn_r, cn_l, Nat.reduceAdd, Nat.reduceLeDiff, Nat.le_refl, adz, hnd_0, rcv_0, rcv_1, kLen_a, kLen_r, inB_e, inR_e, cpOK_e, swt_n, swt_c, List.take_succ_cons, List.take_zero, List.drop_succ_cons, List.drop_zero, List.reverse_cons, List.reverse_nil, List.nil_append, List.cons_append, List.length_cons, List.length_nil, Option.toList_some, Option.toList_none, det_e, det_x, tr_imp, fa_imp, implies_true, not_true, not_false_eq_true, and_true, true_and, nar_i, upd_s, st1_0, st1_1, st1_2, st1_3, st1_4, st1_5, st1_6, st1_7, st1_8, st1_9, st1_10, st1_11, st1_12, st1_13, st1_14, st1_15, st1_16, st1_17, st1_18, st1_19, st1_20, st1_21, st1_22, st1_23, st1_24, st1_25, st1_26, st1_27, st1_28, st1_29, st1_30, st1_31, st1_32, st1_33, st1_34, st1_35, st1_36, st1_37, st1_42, st1_43, st1_44, st1_46, st1_47, st1_48, st1_49, st1_50, st1_51, st1_52, st1_53, st1_54, st1_55, st1_56, st1_57, st1_58, st1_59, st1_60, gK_sI, gP_sI, hI0, hI8, hLc, k0, K0, e8, lp_out, itr, sV, opP_c, Nat.reduceEqDiff, reduceIte]
      exact ⟨w, hw, E8⟩
    | succ r ih =>
      intro i g hi
      obtain ⟨a1, a2, a3, -⟩ := lp_in (i := i) (n := n) (N := 12) (by omega) hn (by decide)
      rw [rX1_markOpenCanals_6]
      simp only [kX1_markOpenCanals_6, rX1_markOpenCanals_0, kX1_markOpenCanals_0, rX1_markOpenCanals_33, kX1_markOpenCanals_33, rX1_markOpenCanals_39, kX1_markOpenCanals_39, eX1_markOpenCanals, S1, S7, S8, S17, bk_c, if_true, if_false, wi_e, wl_e, wr_e, w1_i, w1_r, ldS_0, ldS_s, vi_e, vl_e, vr_e, dpL_u, dpL_i, dpL_r, dpL_l, stS_0, stS_1, stS_s, stL_0, stL_1, stL_s, bin_0, bin_1, bin_2, bin_3, bin_4, bin_5, bdv_0, bdv_1, lbin_0, lbin_1, lbin_2, cnd_0, cnd_1, cnd_2, cnd_3, cnd_4, cnd_5, aty_0, aty_1, aty_2, aty_3, aty_4, aty_5, c8_u, cn_0, cn_i, cn_r, cn_l, Nat.reduceAdd, Nat.reduceLeDiff, Nat.le_refl, adz, hnd_0, rcv_0, rcv_1, kLen_a, kLen_r, inB_e, inR_e, cpOK_e, swt_n, swt_c, List.take_succ_cons, List.take_zero, List.drop_succ_cons, List.drop_zero, List.reverse_cons, List.reverse_nil, List.nil_append, List.cons_append, List.length_cons, List.length_nil, Option.toList_some, Option.toList_none, det_e, det_x, tr_imp, fa_imp, implies_true, not_true, not_false_eq_true, and_true, true_and, nar_i, upd_s, st1_0, st1_1, st1_2, st1_3, st1_4, st1_5, st1_6, st1_7, st1_8, st1_9, st1_10, st1_11, st1_12, st1_13, st1_14, st1_15, st1_16, st1_17, st1_18, st1_19, st1_20, st1_21, st1_22, st1_23, st1_24, st1_25, st1_26, st1_27, st1_28, st1_29, st1_30, st1_31, st1_32, st1_33, st1_34, st1_35, st1_36, st1_37, st1_42, st1_43, st1_44, st1_46, st1_47, st1_48, st1_49, st1_50, st1_51, st1_52, st1_53, st1_54, st1_55, st1_56, st1_57, st1_58, st1_59, st1_60, gK_sI, gP_sI, hI0, hI8, hI g 1 (by decide), hLc, hLf, hb9, k0, p0, k1, K0, e8, a1, a2, a3, nI_1, itr, sV, opA_c, sI_sI, Nat.reduceEqDiff, reduceIte]
      refine ⟨fun h => ?_, fun h => ⟨⟨w, hw, E8⟩, ?_⟩⟩
      · rw [show mkA M f c t i g = g from if_pos h]
        exact ih (i + 1) g (by omega)
      · rw [show mkA M f c t i g = if ¬ gI M (f + 1) i < 0 ∧ gI M (f + 1) i < gI M c 8 then upd g (gI M (f + 1) i).toNatClampNeg 1 else g from if_neg h]
        exact ih (i + 1) _ (by omega)
  simp only [rX1_markOpenCanals_0, kX1_markOpenCanals_0, rX1_markOpenCanals_33, kX1_markOpenCanals_33, rX1_markOpenCanals_39, kX1_markOpenCanals_39, eX1_markOpenCanals, S1, S7, S8, S17, bk_c, if_true, if_false, wi_e, wl_e, wr_e, w1_i, w1_r, ldS_0, ldS_s, vi_e, vl_e, vr_e, dpL_u, dpL_i, dpL_r, dpL_l, stS_0, stS_1, stS_s, stL_0, stL_1, stL_s, bin_0, bin_1, bin_2, bin_3, bin_4, bin_5, bdv_0, bdv_1, lbin_0, lbin_1, lbin_2, cnd_0, cnd_1, cnd_2, cnd_3, cnd_4, cnd_5, aty_0, aty_1, aty_2, aty_3, aty_4, aty_5, c8_u, cn_0, cn_i, cn_r, cn_l, Nat.reduceAdd, Nat.reduceLeDiff, Nat.le_refl, adz, hnd_0, rcv_0, rcv_1, kLen_a, kLen_r, inB_e, inR_e, cpOK_e, swt_n, swt_c, List.take_succ_cons, List.take_zero, List.drop_succ_cons, List.drop_zero, List.reverse_cons, List.reverse_nil, List.nil_append, List.cons_append, List.length_cons, List.length_nil, Option.toList_some, Option.toList_none, det_e, det_x, tr_imp, fa_imp, implies_true, not_true, not_false_eq_true, and_true, true_and, nar_i, upd_s, st1_0, st1_1, st1_2, st1_3, st1_4, st1_5, st1_6, st1_7, st1_8, st1_9, st1_10, st1_11, st1_12, st1_13, st1_14, st1_15, st1_16, st1_17, st1_18, st1_19, st1_20, st1_21, st1_22, st1_23, st1_24, st1_25, st1_26, st1_27, st1_28, st1_29, st1_30, st1_31, st1_32, st1_33, st1_34, st1_35, st1_36, st1_37, st1_42, st1_43, st1_44, st1_46, st1_47, st1_48, st1_49, st1_50, st1_51, st1_52, st1_53, st1_54, st1_55, st1_56, st1_57, st1_58, st1_59, st1_60, hLc0, K0, e8, cl, sV, Nat.reduceEqDiff, reduceIte]
  refine ⟨⟨w, hw, E8⟩, ?_⟩
  have h0 := key n 0 (fil (gI M c 8).toNatClampNeg 0 (gI M (c + 7))) (Nat.zero_add n)
  unfold mkO
  rw [e8, cl]
  exact h0
def cpF (M : Mm) (f o : Nat) : Mm :=
  let M1 := sI M (f + 1) (cpy 12 (gI M (o + 1)) (gI M (f + 1)))
  let M2 := sI M1 (f + 2) (cpy 12 (gI M1 (o + 2)) (gI M1 (f + 2)))
  let M3 := sI M2 (f + 3) (cpy 12 (gI M2 (o + 3)) (gI M2 (f + 3)))
  let M4 := sI M3 (f + 4) (cpy 12 (gI M3 (o + 4)) (gI M3 (f + 4)))
  let M5 := sI M4 (f + 5) (cpy 12 (gI M4 (o + 5)) (gI M4 (f + 5)))
  let M6 := sI M5 (f + 6) (cpy 12 (gI M5 (o + 6)) (gI M5 (f + 6)))
  let M7 := sI M6 (f + 7) (cpy 12 (gI M6 (o + 7)) (gI M6 (f + 7)))
  let M8 := sI M7 (f + 8) (cpy 12 (gI M7 (o + 8)) (gI M7 (f + 8)))
  let M9 := sI M8 (f + 9) (cpy 12 (gI M8 (o + 9)) (gI M8 (f + 9)))
  let M10 := sI M9 (f + 10) (cpy 12 (gI M9 (o + 10)) (gI M9 (f + 10)))
  let M11 := sI M10 f (upd (gI M10 f) 11 (gI M10 o 11))
  sI M11 (f + 11) (cpy (gI M11 f 11).toNatClampNeg (fun k => vp_nar .boolean (gI M11 (o + 11) k)) (gI M11 (f + 11)))
def S13 : Sem := fun as M => match as with
  | [.ref f, .ref o] => sV (Lf M f ∧ Lf M o ∧ cnt (gI M o 11) 12 ∧ apt f 12 o 12) none (cpF M f o)
  | _ => sF
set_option maxRecDepth 100000 in
set_option maxHeartbeats 4000000 in
theorem s_X1_copyFrom {l : Launch} {G : Gt} (hfl : l.stackTraces = false) : SatM l G 13 S13 := by
  refine t_X1_copyFrom (E := fun _ => S80) hfl (s_X10_copyRow hfl) fun as M hp => ?_
  unfold S13 at hp ⊢
  split at hp
  case h_2 => exact hp.elim
  rename_i f o
  obtain ⟨⟨k0, ⟨p0, p1, p2, p3, p4, p5, p6, p7, p8, p9, p10⟩, k1, k2, k3, k4, k5, k6, k7, k8, k9, k10, k11⟩, ⟨K0, ⟨P0, P1, P2, P3, P4, P5, P6, P7, P8, P9, P10⟩, K1, K2, K3, K4, K5, K6, K7, K8, K9, K10, K11⟩, ⟨n, hn, e8⟩, ha⟩ := hp
  refine ⟨Nat.le_of_ble_eq_true rfl, ?_⟩
  show Run (gT G) _ _ _ _ _ _ _ 0 [.val (.ref f), .val (.ref o), .unset] [] M 0 0
  have cl : (nI n).toNatClampNeg = n := nI_clamp (by omega)
  simp only [rX1_copyFrom_0, kX1_copyFrom_0, rX1_copyFrom_146, kX1_copyFrom_146, bk_c, if_true, if_false, wi_e, wl_e, wr_e, w1_i, w1_r, ldS_0, ldS_s, vi_e, vl_e, vr_e, dpL_u, dpL_i, dpL_r, dpL_l, stS_0, stS_1, stS_s, stL_0, stL_1, stL_s, bin_0, bin_1, bin_2, bin_3, bin_4, bin_5, bdv_0, bdv_1, lbin_0, lbin_1, lbin_2, cnd_0, cnd_1, cnd_2, cnd_3, cnd_4, cnd_5, aty_0, aty_1, aty_2, aty_3, aty_4, aty_5, c8_u, cn_0, cn_i, cn_r, cn_l, Nat.reduceAdd, Nat.reduceLeDiff, Nat.le_refl, adz, hnd_0, rcv_0, rcv_1, kLen_a, kLen_r, inB_e, inR_e, cpOK_e, swt_n, swt_c, List.take_succ_cons, List.take_zero, List.drop_succ_cons, List.drop_zero, List.reverse_cons, List.reverse_nil, List.nil_append, List.cons_append, List.length_cons, List.length_nil, Option.toList_some, Option.toList_none, det_e, det_x, tr_imp, fa_imp, implies_true, not_true, not_false_eq_true, and_true, true_and, nar_i, upd_s, st1_0, st1_1, st1_2, st1_3, st1_4, st1_5, st1_6, st1_7, st1_8, st1_9, st1_10, st1_11, st1_12, st1_13, st1_14, st1_15, st1_16, st1_17, st1_18, st1_19, st1_20, st1_21, st1_22, st1_23, st1_24, st1_25, st1_26, st1_27, st1_28, st1_29, st1_30, st1_31, st1_32, st1_33, st1_34, st1_35, st1_36, st1_37, st1_42, st1_43, st1_44, st1_46, st1_47, st1_48, st1_49, st1_50, st1_51, st1_52, st1_53, st1_54, st1_55, st1_56, st1_57, st1_58, st1_59, st1_60, gK_sI, gP_sI, k0, p0, p1, p2, p3, p4, p5, p6, p7, p8, p9, p10, k1, k2, k3, k4, k5, k6, k7, k8, k9, k10, k11, K0, P0, P1, P2, P3, P4, P5, P6, P7, P8, P9, P10, K1, K2, K3, K4, K5, K6, K7, K8, K9, K10, K11, S80, sV, kN_a, ex_k 12 (by decide) .int .int rfl rfl]
  unfold cpF
  dsimp only
  generalize hM : sI (sI _ _ _) f _ = N
  have hK : gK N = gK M := by rw [← hM]; rfl
  have hP : gP N = gP M := by rw [← hM]; rfl
  have hn8 : gI N f 11 = nI n := by
    rw [← hM, gI_sI, up_s, upd_s]
    simp only [gI_sI]
    simp only [va_up, if_neg (apt_l ha 10 (by decide) (by decide)), if_neg (apt_l ha 9 (by decide) (by decide)), if_neg (apt_l ha 8 (by decide) (by decide)), if_neg (apt_l ha 7 (by decide) (by decide)), if_neg (apt_l ha 6 (by decide) (by decide)), if_neg (apt_l ha 5 (by decide) (by decide)), if_neg (apt_l ha 4 (by decide) (by decide)), if_neg (apt_l ha 3 (by decide) (by decide)), if_neg (apt_l ha 2 (by decide) (by decide)), if_neg (apt_l ha 1 (by decide) (by decide))]
    exact e8
  have hI : ∀ g, gI (sI N (f + 11) g) f = gI N f := fun g => up_q0 _ _ _ _
  have hO : ∀ g, gI (sI N (f + 11) g) (o + 11) = gI N (o + 11) := fun g => up_f _ _ (apt_b ha 11 11 (by decide) (by decide))
  have hF : ∀ g, gI (sI N (f + 11) g) (f + 11) = g := fun g => up_s _ _ _
  have key : ∀ r i, i + r = n → Run (gT G) (fun _ => S80) 0 0 (fun _ _ => none) (fun v' M' => v' = none ∧ M' = sI N (f + 11) (cpy n (fun k => vp_nar .boolean (gI N (o + 11) k)) (gI N (f + 11)))) (fun _ _ => False) kX1_copyFrom 120 [.val (.ref f), .val (.ref o), .val (.int (nI i))] [] (sI N (f + 11) (cpy i (fun k => vp_nar .boolean (gI N (o + 11) k)) (gI N (f + 11)))) 0 0 := by
    intro r
    induction r with
    | zero =>
      intro i hi
      have hi2 : i = n := hi
      subst hi2
      rw [rX1_copyFrom_120]
      simp only [kX1_copyFrom_120, rX1_copyFrom_0, kX1_copyFrom_0, rX1_copyFrom_146, kX1_copyFrom_146, bk_c, if_true, if_false, wi_e, wl_e, wr_e, w1_i, w1_r, ldS_0, ldS_s, vi_e, vl_e, vr_e, dpL_u, dpL_i, dpL_r, dpL_l, stS_0, stS_1, stS_s, stL_0, stL_1, stL_s, bin_0, bin_1, bin_2, bin_3, bin_4, bin_5, bdv_0, bdv_1, lbin_0, lbin_1, lbin_2, cnd_0, cnd_1, cnd_2, cnd_3, cnd_4, cnd_5, aty_0, aty_1, aty_2, aty_3, aty_4, aty_5, c8_u, cn_0, cn_i, cn_r, cn_l, Nat.reduceAdd, Nat.reduceLeDiff, Nat.le_refl, adz, hnd_0, rcv_0, rcv_1, kLen_a, kLen_r, inB_e, inR_e, cpOK_e, swt_n, swt_c, List.take_succ_cons, List.take_zero, List.drop_succ_cons, List.drop_zero, List.reverse_cons, List.reverse_nil, List.nil_append, List.cons_append, List.length_cons, List.length_nil, Option.toList_some, Option.toList_none, det_e, det_x, tr_imp, fa_imp, implies_true, not_true, not_false_eq_true, and_true, true_and, nar_i, upd_s, st1_0, st1_1, st1_2, st1_3, st1_4, st1_5, st1_6, st1_7, st1_8, st1_9, st1_10, st1_11, st1_12, st1_13, st1_14, st1_15, st1_16, st1_17, st1_18, st1_19, st1_20, st1_21, st1_22, st1_23, st1_24, st1_25, st1_26, st1_27, st1_28, st1_29, st1_30, st1_31, st1_32, st1_33, st1_34, st1_35, st1_36, st1_37, st1_42, st1_43, st1_44, st1_46, st1_47, st1_48, st1_49, st1_50, st1_51, st1_52, st1_53, st1_54, st1_55, st1_56, st1_57, st1_58, st1_59, st1_60, gK_sI, gP_sI, hK, hP, hI, k0, hn8, lp_out]
    | succ r ih =>
      intro i hi
      obtain ⟨a1, a2, a3, -⟩ := lp_in (i := i) (n := n) (N := 12) (by omega) hn (by decide)
      rw [rX1_copyFrom_120]
      simp only [kX1_copyFrom_120, rX1_copyFrom_0, kX1_copyFrom_0, rX1_copyFrom_146, kX1_copyFrom_146, bk_c, if_true, if_false, wi_e, wl_e, wr_e, w1_i, w1_r, ldS_0, ldS_s, vi_e, vl_e, vr_e, dpL_u, dpL_i, dpL_r, dpL_l, stS_0, stS_1, stS_s, stL_0, stL_1, stL_s, bin_0, bin_1, bin_2, bin_3, bin_4, bin_5, bdv_0, bdv_1, lbin_0, lbin_1, lbin_2, cnd_0, cnd_1, cnd_2, cnd_3, cnd_4, cnd_5, aty_0, aty_1, aty_2, aty_3, aty_4, aty_5, c8_u, cn_0, cn_i, cn_r, cn_l, Nat.reduceAdd, Nat.reduceLeDiff, Nat.le_refl, adz, hnd_0, rcv_0, rcv_1, kLen_a, kLen_r, inB_e, inR_e, cpOK_e, swt_n, swt_c, List.take_succ_cons, List.take_zero, List.drop_succ_cons, List.drop_zero, List.reverse_cons, List.reverse_nil, List.nil_append, List.cons_append, List.length_cons, List.length_nil, Option.toList_some, Option.toList_none, det_e, det_x, tr_imp, fa_imp, implies_true, not_true, not_false_eq_true, and_true, true_and, nar_i, upd_s, st1_0, st1_1, st1_2, st1_3, st1_4, st1_5, st1_6, st1_7, st1_8, st1_9, st1_10, st1_11, st1_12, st1_13, st1_14, st1_15, st1_16, st1_17, st1_18, st1_19, st1_20, st1_21, st1_22, st1_23, st1_24, st1_25, st1_26, st1_27, st1_28, st1_29, st1_30, st1_31, st1_32, st1_33, st1_34, st1_35, st1_36, st1_37, st1_42, st1_43, st1_44, st1_46, st1_47, st1_48, st1_49, st1_50, st1_51, st1_52, st1_53, st1_54, st1_55, st1_56, st1_57, st1_58, st1_59, st1_60, gK_sI, gP_sI, hK, hP, hI, hO, k0, hn8, p10, P10, k11, K11, K0, hF, sI_sI, a1, a2, a3, nI_1]
      have h1 := ih (i + 1) (by omega)
      rw [show upd (cpy i (fun k => vp_nar .boolean (gI N (o + 11) k)) (gI N (f + 11))) i (vp_nar .boolean (gI N (o + 11) i)) = cpy (i + 1) (fun k => vp_nar .boolean (gI N (o + 11) k)) (gI N (f + 11)) from cpy_s _ _ _]
      exact h1
  have h0 := key n 0 (Nat.zero_add n)
  rw [cpy_z, sI_id] at h0
  rw [hn8, cl]
  exact h0
