/-! ===== IrrigationTurnsModel: its layout, small methods ===== -/
def LM (M : Mm) (m : Nat) : Prop := gK M m = kO 11 ∧ (gP M m 1 = m + 1 ∧ gP M m 8 = m + 2 ∧ gP M m 9 = m + 3 ∧ gP M m 10 = m + 4 ∧ gP M m 11 = m + 5 ∧ gP M m 16 = m + 14 ∧ gP M m 17 = m + 15 ∧ gP M m 18 = m + 16) ∧
  (gK M (m + 1) = kA .int 900 ∧ gK M (m + 2) = kA .int 1793 ∧ gK M (m + 3) = kA .int 1793 ∧ gK M (m + 4) = kA .int 1793 ∧ gK M (m + 5) = kA (.array .int) 8 ∧ gK M (m + 14) = kA .long 1400 ∧ gK M (m + 15) = kA .boolean 12 ∧ gK M (m + 16) = kA .boolean 16) ∧
  ∀ i, i < 8 → gP M (m + 5) i = m + 6 + i ∧ gK M (m + 6 + i) = kA .int 1793
theorem LM.kp {M N : Mm} {m : Nat} (hK : gK N = gK M) (hP : gP N = gP M) (g : LM M m) : LM N m := by
  unfold LM at g ⊢
  rw [hK, hP]
  exact g
theorem LM.f {M : Mm} {m : Nat} (g : LM M m) : gK M m = kO 11 ∧ (gP M m 1 = m + 1 ∧ gP M m 8 = m + 2 ∧ gP M m 9 = m + 3 ∧ gP M m 10 = m + 4 ∧ gP M m 11 = m + 5 ∧ gP M m 16 = m + 14 ∧ gP M m 17 = m + 15 ∧ gP M m 18 = m + 16) ∧
  (gK M (m + 1) = kA .int 900 ∧ gK M (m + 2) = kA .int 1793 ∧ gK M (m + 3) = kA .int 1793 ∧ gK M (m + 4) = kA .int 1793 ∧ gK M (m + 5) = kA (.array .int) 8 ∧ gK M (m + 14) = kA .long 1400 ∧ gK M (m + 15) = kA .boolean 12 ∧ gK M (m + 16) = kA .boolean 16) := ⟨g.1, g.2.1, g.2.2.1⟩
theorem c13 (i : Nat) : (13 : Int32) + 13 * nI i = nI (13 + 13 * i) := by rw [show (13 : Int32) = nI 13 from rfl, pk_mul, nI_add]
theorem f11 (i : Nat) : (221 : Int32) + 11 * nI i = nI (221 + 11 * i) := by rw [show (221 : Int32) = nI 221 from rfl, show (11 : Int32) = nI 11 from rfl, pk_mul, nI_add]
theorem t35 (i : Nat) : (353 : Int32) + 2 * nI i = nI (353 + 2 * i) := by rw [show (353 : Int32) = nI 353 from rfl, show (2 : Int32) = nI 2 from rfl, pk_mul, nI_add]
theorem ad_2 (a : Nat) : nI a + 2 = nI (a + 2) := nI_add a 2
theorem ad_3 (a : Nat) : nI a + 3 = nI (a + 3) := nI_add a 3
theorem ad_4 (a : Nat) : nI a + 4 = nI (a + 4) := nI_add a 4
theorem ad_5 (a : Nat) : nI a + 5 = nI (a + 5) := nI_add a 5
theorem ad_6 (a : Nat) : nI a + 6 = nI (a + 6) := nI_add a 6
theorem ad_7 (a : Nat) : nI a + 7 = nI (a + 7) := nI_add a 7
theorem ad_8 (a : Nat) : nI a + 8 = nI (a + 8) := nI_add a 8
theorem ad_9 (a : Nat) : nI a + 9 = nI (a + 9) := nI_add a 9
theorem ad_10 (a : Nat) : nI a + 10 = nI (a + 10) := nI_add a 10
theorem ad_377 (a : Nat) : (377 : Int32) + nI a = nI (377 + a) := nI_add 377 a
theorem ad_387 (a : Nat) : (387 : Int32) + nI a = nI (387 + a) := nI_add 387 a
theorem ad_393 (a : Nat) : (393 : Int32) + nI a = nI (393 + a) := nI_add 393 a
theorem xC {i j : Nat} (hi : i < 16) (hj : j ≤ 12) : vp_in (nI (13 + 13 * i + j)) 1793 = True ∧ (nI (13 + 13 * i + j)).toNatClampNeg = 13 + 13 * i + j := ⟨eq_true (vp_in_nI (by omega) (by decide)), nI_clamp (by omega)⟩
theorem xC0 {i : Nat} (hi : i < 16) : vp_in (nI (13 + 13 * i)) 1793 = True ∧ (nI (13 + 13 * i)).toNatClampNeg = 13 + 13 * i := ⟨eq_true (vp_in_nI (by omega) (by decide)), nI_clamp (by omega)⟩
theorem xF {i j : Nat} (hi : i < 12) (hj : j ≤ 10) : vp_in (nI (221 + 11 * i + j)) 1793 = True ∧ (nI (221 + 11 * i + j)).toNatClampNeg = 221 + 11 * i + j := ⟨eq_true (vp_in_nI (by omega) (by decide)), nI_clamp (by omega)⟩
theorem xF0 {i : Nat} (hi : i < 12) : vp_in (nI (221 + 11 * i)) 1793 = True ∧ (nI (221 + 11 * i)).toNatClampNeg = 221 + 11 * i := ⟨eq_true (vp_in_nI (by omega) (by decide)), nI_clamp (by omega)⟩
theorem xTn {i : Nat} (hi : i < 12) : (vp_in (nI (353 + 2 * i)) 1793 = True ∧ (nI (353 + 2 * i)).toNatClampNeg = 353 + 2 * i) ∧ vp_in (nI (353 + 2 * i + 1)) 1793 = True ∧ (nI (353 + 2 * i + 1)).toNatClampNeg = 353 + 2 * i + 1 := ⟨⟨eq_true (vp_in_nI (by omega) (by decide)), nI_clamp (by omega)⟩, eq_true (vp_in_nI (by omega) (by decide)), nI_clamp (by omega)⟩
/-- a written place of a data row -/
theorem xL0 : vp_in 0 1793 = True ∧ vp_in 1 1793 = True ∧ vp_in 2 1793 = True ∧ vp_in 3 1793 = True ∧ vp_in 4 1793 = True ∧ vp_in 5 1793 = True ∧ vp_in 6 1793 = True ∧ vp_in 7 1793 = True ∧ vp_in 8 1793 = True ∧ vp_in 9 1793 = True ∧ vp_in 10 1793 = True ∧ vp_in 11 1793 = True := by
  refine ⟨?_, ?_, ?_, ?_, ?_, ?_, ?_, ?_, ?_, ?_, ?_, ?_⟩ <;> exact eq_true (vp_in_nI (N := 1793) (by decide) (by decide))
theorem xL1 : (0 : Int32).toNatClampNeg = 0 ∧ (1 : Int32).toNatClampNeg = 1 ∧ (2 : Int32).toNatClampNeg = 2 ∧ (3 : Int32).toNatClampNeg = 3 ∧ (4 : Int32).toNatClampNeg = 4 ∧ (5 : Int32).toNatClampNeg = 5 ∧ (6 : Int32).toNatClampNeg = 6 ∧ (7 : Int32).toNatClampNeg = 7 ∧ (8 : Int32).toNatClampNeg = 8 ∧ (9 : Int32).toNatClampNeg = 9 ∧ (10 : Int32).toNatClampNeg = 10 ∧ (11 : Int32).toNatClampNeg = 11 := ⟨rfl, rfl, rfl, rfl, rfl, rfl, rfl, rfl, rfl, rfl, rfl, rfl⟩
/-- the exception that is recorded -/
def tS (M : Mm) (m : Nat) (k : Int32) : Mm := sI M m (upd (gI M m) 0 k)
theorem tS_0 (M : Mm) (m : Nat) (k : Int32) : gI (tS M m k) m 0 = k := by unfold tS; rw [gI_s, upd_s]
theorem tS_n (M : Mm) (m : Nat) (k : Int32) {j : Nat} (h : j ≠ 0) : gI (tS M m k) m j = gI M m j := by unfold tS; rw [gI_s, upd_n _ _ h]
theorem tS_f (M : Mm) {m q : Nat} (k : Int32) (h : q ≠ m) : gI (tS M m k) q = gI M q := gI_f _ _ h
theorem tS_q (M : Mm) (m : Nat) (k : Int32) (j : Nat) : gI (tS M m k) (m + (j + 1)) = gI M (m + (j + 1)) := gI_f _ _ (by omega)
theorem tS_K (M : Mm) (m : Nat) (k : Int32) : gK (tS M m k) = gK M := rfl
theorem tS_P (M : Mm) (m : Nat) (k : Int32) : gP (tS M m k) = gP M := rfl
theorem tS_J (M : Mm) (m : Nat) (k : Int32) : gJ (tS M m k) = gJ M := rfl
theorem tS_t (M : Mm) (m : Nat) (a b : Int32) : tS (tS M m a) m b = tS M m b := by unfold tS; rw [gI_s, sI_sI, upd_upd]
theorem tS_e (M : Mm) (m : Nat) (k : Int32) : sI M m (upd (gI M m) 0 k) = tS M m k := rfl
theorem upd_id (f : Nat → Int32) (k : Nat) : upd f k (f k) = f := by
  funext j
  unfold upd
  split
  · rename_i h; rw [h]
  · rfl
theorem tS_id {M : Mm} {m : Nat} {k : Int32} (h : gI M m 0 = k) : tS M m k = M := by
  unfold tS
  rw [← h, upd_id, sI_id]
def S178 : Sem := fun as M => match as with
  | [.ref m] => sV (LM M m) (some (.int (gI M m 0))) M
  | _ => sF
set_option maxRecDepth 100000 in
set_option maxHeartbeats 4000000 in
theorem s_X11_thrown {l : Launch} {G : Gt} (hfl : l.stackTraces = false) : SatM l G 178 S178 := by
  refine t_X11_thrown (E := fun _ => S0) hfl  fun as M hp => ?_
  unfold S178 at hp ⊢
  split at hp
  case h_2 => exact hp.elim
  rename_i m
  obtain hp := hp
  refine ⟨Nat.le_of_ble_eq_true rfl, ?_⟩
  show Run (gT G) _ _ _ _ _ _ _ 0 [.val (.ref m)] [] M 0 0
  simp only [rX11_thrown_0, kX11_thrown_0, bk_c, if_true, if_false, wi_e, wl_e, wr_e, w1_i, w1_r, ldS_0, ldS_s, vi_e, vl_e, vr_e, dpL_u, dpL_i, dpL_r, dpL_l, stS_0, stS_1, stS_s, stL_0, stL_1, stL_s, bin_0, bin_1, bin_2, bin_3, bin_4, bin_5, bdv_0, bdv_1, lbin_0, lbin_1, lbin_2, cnd_0, cnd_1, cnd_2, cnd_3, cnd_4, cnd_5, aty_0, aty_1, aty_2, aty_3, aty_4, aty_5, c8_u, cn_0, cn_i, cn_r, cn_l, Nat.reduceAdd, Nat.reduceLeDiff, Nat.le_refl, adz, hnd_0, rcv_0, rcv_1, kLen_a, kLen_r, inB_e, inR_e, cpOK_e, swt_n, swt_c, List.take_succ_cons, List.take_zero, List.drop_succ_cons, List.drop_zero, List.reverse_cons, List.reverse_nil, List.nil_append, List.cons_append, List.length_cons, List.length_nil, Option.toList_some, Option.toList_none, det_e, det_x, tr_imp, fa_imp, implies_true, not_true, not_false_eq_true, and_true, true_and, nar_i, upd_s, st1_0, st1_1, st1_2, st1_3, st1_4, st1_5, st1_6, st1_7, st1_8, st1_9, st1_10, st1_11, st1_12, st1_13, st1_14, st1_15, st1_16, st1_17, st1_18, st1_19, st1_20, st1_21, st1_22, st1_23, st1_24, st1_25, st1_26, st1_27, st1_28, st1_29, st1_30, st1_31, st1_32, st1_33, st1_34, st1_35, st1_36, st1_37, st1_42, st1_43, st1_44, st1_46, st1_47, st1_48, st1_49, st1_50, st1_51, st1_52, st1_53, st1_54, st1_55, st1_56, st1_57, st1_58, st1_59, st1_60, hp.f]
def S113 : Sem := fun as M => match as with
  | [.int c] => sV True (some (.int (13 + 13 * c))) M
  | _ => sF
set_option maxRecDepth 100000 in
set_option maxHeartbeats 4000000 in
theorem s_X11_canal {l : Launch} {G : Gt} (hfl : l.stackTraces = false) : SatM l G 113 S113 := by
  refine t_X11_canal (E := fun _ => S0) hfl  fun as M hp => ?_
  unfold S113 at hp ⊢
  split at hp
  case h_2 => exact hp.elim
  rename_i c
  obtain _ := hp
  refine ⟨Nat.le_of_ble_eq_true rfl, ?_⟩
  show Run (gT G) _ _ _ _ _ _ _ 0 [.val (.int c)] [] M 0 0
  simp only [rX11_canal_0, kX11_canal_0, bk_c, if_true, if_false, wi_e, wl_e, wr_e, w1_i, w1_r, ldS_0, ldS_s, vi_e, vl_e, vr_e, dpL_u, dpL_i, dpL_r, dpL_l, stS_0, stS_1, stS_s, stL_0, stL_1, stL_s, bin_0, bin_1, bin_2, bin_3, bin_4, bin_5, bdv_0, bdv_1, lbin_0, lbin_1, lbin_2, cnd_0, cnd_1, cnd_2, cnd_3, cnd_4, cnd_5, aty_0, aty_1, aty_2, aty_3, aty_4, aty_5, c8_u, cn_0, cn_i, cn_r, cn_l, Nat.reduceAdd, Nat.reduceLeDiff, Nat.le_refl, adz, hnd_0, rcv_0, rcv_1, kLen_a, kLen_r, inB_e, inR_e, cpOK_e, swt_n, swt_c, List.take_succ_cons, List.take_zero, List.drop_succ_cons, List.drop_zero, List.reverse_cons, List.reverse_nil, List.nil_append, List.cons_append, List.length_cons, List.length_nil, Option.toList_some, Option.toList_none, det_e, det_x, tr_imp, fa_imp, implies_true, not_true, not_false_eq_true, and_true, true_and, nar_i, upd_s, st1_0, st1_1, st1_2, st1_3, st1_4, st1_5, st1_6, st1_7, st1_8, st1_9, st1_10, st1_11, st1_12, st1_13, st1_14, st1_15, st1_16, st1_17, st1_18, st1_19, st1_20, st1_21, st1_22, st1_23, st1_24, st1_25, st1_26, st1_27, st1_28, st1_29, st1_30, st1_31, st1_32, st1_33, st1_34, st1_35, st1_36, st1_37, st1_42, st1_43, st1_44, st1_46, st1_47, st1_48, st1_49, st1_50, st1_51, st1_52, st1_53, st1_54, st1_55, st1_56, st1_57, st1_58, st1_59, st1_60]
def S131 : Sem := fun as M => match as with
  | [.int c] => sV True (some (.int (221 + 11 * c))) M
  | _ => sF
set_option maxRecDepth 100000 in
set_option maxHeartbeats 4000000 in
theorem s_X11_field {l : Launch} {G : Gt} (hfl : l.stackTraces = false) : SatM l G 131 S131 := by
  refine t_X11_field (E := fun _ => S0) hfl  fun as M hp => ?_
  unfold S131 at hp ⊢
  split at hp
  case h_2 => exact hp.elim
  rename_i c
  obtain _ := hp
  refine ⟨Nat.le_of_ble_eq_true rfl, ?_⟩
  show Run (gT G) _ _ _ _ _ _ _ 0 [.val (.int c)] [] M 0 0
  simp only [rX11_field_0, kX11_field_0, bk_c, if_true, if_false, wi_e, wl_e, wr_e, w1_i, w1_r, ldS_0, ldS_s, vi_e, vl_e, vr_e, dpL_u, dpL_i, dpL_r, dpL_l, stS_0, stS_1, stS_s, stL_0, stL_1, stL_s, bin_0, bin_1, bin_2, bin_3, bin_4, bin_5, bdv_0, bdv_1, lbin_0, lbin_1, lbin_2, cnd_0, cnd_1, cnd_2, cnd_3, cnd_4, cnd_5, aty_0, aty_1, aty_2, aty_3, aty_4, aty_5, c8_u, cn_0, cn_i, cn_r, cn_l, Nat.reduceAdd, Nat.reduceLeDiff, Nat.le_refl, adz, hnd_0, rcv_0, rcv_1, kLen_a, kLen_r, inB_e, inR_e, cpOK_e, swt_n, swt_c, List.take_succ_cons, List.take_zero, List.drop_succ_cons, List.drop_zero, List.reverse_cons, List.reverse_nil, List.nil_append, List.cons_append, List.length_cons, List.length_nil, Option.toList_some, Option.toList_none, det_e, det_x, tr_imp, fa_imp, implies_true, not_true, not_false_eq_true, and_true, true_and, nar_i, upd_s, st1_0, st1_1, st1_2, st1_3, st1_4, st1_5, st1_6, st1_7, st1_8, st1_9, st1_10, st1_11, st1_12, st1_13, st1_14, st1_15, st1_16, st1_17, st1_18, st1_19, st1_20, st1_21, st1_22, st1_23, st1_24, st1_25, st1_26, st1_27, st1_28, st1_29, st1_30, st1_31, st1_32, st1_33, st1_34, st1_35, st1_36, st1_37, st1_42, st1_43, st1_44, st1_46, st1_47, st1_48, st1_49, st1_50, st1_51, st1_52, st1_53, st1_54, st1_55, st1_56, st1_57, st1_58, st1_59, st1_60]
abbrev inI (x lo hi : Int32) : Prop := ¬ x < lo ∧ ¬ hi < x
def S139 : Sem := fun as M => match as with
  | [.int x, .int lo, .int hi] => sV True (some (.int (b9 (inI x lo hi)))) M
  | _ => sF
set_option maxRecDepth 100000 in
set_option maxHeartbeats 4000000 in
theorem s_X11_in {l : Launch} {G : Gt} (hfl : l.stackTraces = false) : SatM l G 139 S139 := by
  refine t_X11_in (E := fun _ => S0) hfl  fun as M hp => ?_
  unfold S139 at hp ⊢
  split at hp
  case h_2 => exact hp.elim
  rename_i x lo hi
  obtain _ := hp
  refine ⟨Nat.le_of_ble_eq_true rfl, ?_⟩
  show Run (gT G) _ _ _ _ _ _ _ 0 [.val (.int x), .val (.int lo), .val (.int hi)] [] M 0 0
  simp only [rX11_in_0, kX11_in_0, rX11_in_14, kX11_in_14, rX11_in_15, kX11_in_15, bk_c, if_true, if_false, wi_e, wl_e, wr_e, w1_i, w1_r, ldS_0, ldS_s, vi_e, vl_e, vr_e, dpL_u, dpL_i, dpL_r, dpL_l, stS_0, stS_1, stS_s, stL_0, stL_1, stL_s, bin_0, bin_1, bin_2, bin_3, bin_4, bin_5, bdv_0, bdv_1, lbin_0, lbin_1, lbin_2, cnd_0, cnd_1, cnd_2, cnd_3, cnd_4, cnd_5, aty_0, aty_1, aty_2, aty_3, aty_4, aty_5, c8_u, cn_0, cn_i, cn_r, cn_l, Nat.reduceAdd, Nat.reduceLeDiff, Nat.le_refl, adz, hnd_0, rcv_0, rcv_1, kLen_a, kLen_r, inB_e, inR_e, cpOK_e, swt_n, swt_c, List.take_succ_cons, List.take_zero, List.drop_succ_cons, List.drop_zero, List.reverse_cons, List.reverse_nil, List.nil_append, List.cons_append, List.length_cons, List.length_nil, Option.toList_some, Option.toList_none, det_e, det_x, tr_imp, fa_imp, implies_true, not_true, not_false_eq_true, and_true, true_and, nar_i, upd_s, st1_0, st1_1, st1_2, st1_3, st1_4, st1_5, st1_6, st1_7, st1_8, st1_9, st1_10, st1_11, st1_12, st1_13, st1_14, st1_15, st1_16, st1_17, st1_18, st1_19, st1_20, st1_21, st1_22, st1_23, st1_24, st1_25, st1_26, st1_27, st1_28, st1_29, st1_30, st1_31, st1_32, st1_33, st1_34, st1_35, st1_36, st1_37, st1_42, st1_43, st1_44, st1_46, st1_47, st1_48, st1_49, st1_50, st1_51, st1_52, st1_53, st1_54, st1_55, st1_56, st1_57, st1_58, st1_59, st1_60, nb0, nb1]
  refine ⟨fun h => ?_, fun h => ⟨fun h2 => ?_, fun h2 => ?_⟩⟩
  · rw [b9_f (fun q => q.1 h)]
  · rw [b9_f (fun q => q.2 h2)]
  · rw [b9_t ⟨h, h2⟩]
def mnM (x y : Int32) : Int32 := if x < y then x else y
def S150 : Sem := fun as M => match as with
  | [.int x, .int y] => sV True (some (.int (mnM x y))) M
  | _ => sF
set_option maxRecDepth 100000 in
set_option maxHeartbeats 4000000 in
theorem s_X11_min {l : Launch} {G : Gt} (hfl : l.stackTraces = false) : SatM l G 150 S150 := by
  refine t_X11_min (E := fun _ => S0) hfl  fun as M hp => ?_
  unfold S150 at hp ⊢
  split at hp
  case h_2 => exact hp.elim
  rename_i x y
  obtain _ := hp
  refine ⟨Nat.le_of_ble_eq_true rfl, ?_⟩
  show Run (gT G) _ _ _ _ _ _ _ 0 [.val (.int x), .val (.int y)] [] M 0 0
  simp only [rX11_min_0, kX11_min_0, rX11_min_9, kX11_min_9, rX11_min_10, kX11_min_10, bk_c, if_true, if_false, wi_e, wl_e, wr_e, w1_i, w1_r, ldS_0, ldS_s, vi_e, vl_e, vr_e, dpL_u, dpL_i, dpL_r, dpL_l, stS_0, stS_1, stS_s, stL_0, stL_1, stL_s, bin_0, bin_1, bin_2, bin_3, bin_4, bin_5, bdv_0, bdv_1, lbin_0, lbin_1, lbin_2, cnd_0, cnd_1, cnd_2, cnd_3, cnd_4, cnd_5, aty_0, aty_1, aty_2, aty_3, aty_4, aty_5, c8_u, cn_0, cn_i, cn_r, cn_l, Nat.reduceAdd, Nat.reduceLeDiff, Nat.le_refl, adz, hnd_0, rcv_0, rcv_1, kLen_a, kLen_r, inB_e, inR_e, cpOK_e, swt_n, swt_c, List.take_succ_cons, List.take_zero, List.drop_succ_cons, List.drop_zero, List.reverse_cons, List.reverse_nil, List.nil_append, List.cons_append, List.length_cons, List.length_nil, Option.toList_some, Option.toList_none, det_e, det_x, tr_imp, fa_imp, implies_true, not_true, not_false_eq_true, and_true, true_and, nar_i, upd_s, st1_0, st1_1, st1_2, st1_3, st1_4, st1_5, st1_6, st1_7, st1_8, st1_9, st1_10, st1_11, st1_12, st1_13, st1_14, st1_15, st1_16, st1_17, st1_18, st1_19, st1_20, st1_21, st1_22, st1_23, st1_24, st1_25, st1_26, st1_27, st1_28, st1_29, st1_30, st1_31, st1_32, st1_33, st1_34, st1_35, st1_36, st1_37, st1_42, st1_43, st1_44, st1_46, st1_47, st1_48, st1_49, st1_50, st1_51, st1_52, st1_53, st1_54, st1_55, st1_56, st1_57, st1_58, st1_59, st1_60, mnM]
  exact ⟨fun h => by rw [if_neg (Int32.not_lt.mpr h)], fun h => by rw [if_pos (Int32.not_le.mp h)]⟩
def fsK (t c k : Int32) : Int32 := if ¬ c = 0 ∧ t = 0 then k else t
def S129 : Sem := fun as M => match as with
  | [.ref m, .int c, .int k] => sV (LM M m) (some (.int (b9 (¬ fsK (gI M m 0) c k = 0)))) (tS M m (fsK (gI M m 0) c k))
  | _ => sF
set_option maxRecDepth 100000 in
set_option maxHeartbeats 4000000 in
theorem s_X11_fails {l : Launch} {G : Gt} (hfl : l.stackTraces = false) : SatM l G 129 S129 := by
  refine t_X11_fails (E := fun _ => S0) hfl  fun as M hp => ?_
  unfold S129 at hp ⊢
  split at hp
  case h_2 => exact hp.elim
  rename_i m c k
  obtain hp := hp
  refine ⟨Nat.le_of_ble_eq_true rfl, ?_⟩
  show Run (gT G) _ _ _ _ _ _ _ 0 [.val (.ref m), .val (.int c), .val (.int k)] [] M 0 0
  simp only [rX11_fails_0, kX11_fails_0, rX11_fails_16, kX11_fails_16, rX11_fails_27, kX11_fails_27, rX11_fails_28, kX11_fails_28, bk_c, if_true, if_false, wi_e, wl_e, wr_e, w1_i, w1_r, ldS_0, ldS_s, vi_e, vl_e, vr_e, dpL_u, dpL_i, dpL_r, dpL_l, stS_0, stS_1, stS_s, stL_0, stL_1, stL_s, bin_0, bin_1, bin_2, bin_3, bin_4, bin_5, bdv_0, bdv_1, lbin_0, lbin_1, lbin_2, cnd_0, cnd_1, cnd_2, cnd_3, cnd_4, cnd_5, aty_0, aty_1, aty_2, aty_3, aty_4, aty_5, c8_u, cn_0, cn_i, cn_r, cn_l, Nat.reduceAdd, Nat.reduceLeDiff, Nat.le_refl, adz, hnd_0, rcv_0, rcv_1, kLen_a, kLen_r, inB_e, inR_e, cpOK_e, swt_n, swt_c, List.take_succ_cons, List.take_zero, List.drop_succ_cons, List.drop_zero, List.reverse_cons, List.reverse_nil, List.nil_append, List.cons_append, List.length_cons, List.length_nil, Option.toList_some, Option.toList_none, det_e, det_x, tr_imp, fa_imp, implies_true, not_true, not_false_eq_true, and_true, true_and, nar_i, upd_s, st1_0, st1_1, st1_2, st1_3, st1_4, st1_5, st1_6, st1_7, st1_8, st1_9, st1_10, st1_11, st1_12, st1_13, st1_14, st1_15, st1_16, st1_17, st1_18, st1_19, st1_20, st1_21, st1_22, st1_23, st1_24, st1_25, st1_26, st1_27, st1_28, st1_29, st1_30, st1_31, st1_32, st1_33, st1_34, st1_35, st1_36, st1_37, st1_42, st1_43, st1_44, st1_46, st1_47, st1_48, st1_49, st1_50, st1_51, st1_52, st1_53, st1_54, st1_55, st1_56, st1_57, st1_58, st1_59, st1_60, gK_sI, gK_sJ, gK_sP, gK_sZ, gI_sI, gI_sJ, gI_sP, gI_sZ, gJ_sI, gJ_sJ, gJ_sP, gJ_sZ, gP_sI, gP_sJ, gP_sP, gP_sZ, gZ_sI, gZ_sJ, gZ_sP, gZ_sZ, up_q, up_q0, up_q1, up_s, sI_sI, Nat.reduceEqDiff, reduceIte, Nat.succ_ne_zero, forall_const, false_imp_iff, hp.f, nb0, nb1]
  have e1 : ∀ v, fsK (gI M m 0) c k = v → gI M m 0 = v → tS M m (fsK (gI M m 0) c k) = M := fun v h1 h2 => by rw [h1]; exact tS_id h2
  have cls : fsK (gI M m 0) c k = gI M m 0 → (gI M m 0 = 0 → some (Value.int 0) = some (Value.int (b9 (¬ fsK (gI M m 0) c k = 0))) ∧ M = tS M m (fsK (gI M m 0) c k)) ∧ (¬ gI M m 0 = 0 → some (Value.int 1) = some (Value.int (b9 (¬ fsK (gI M m 0) c k = 0))) ∧ M = tS M m (fsK (gI M m 0) c k)) := by
    intro e
    rw [e1 _ e rfl, e]
    exact ⟨fun h => ⟨by rw [b9_f (fun q => q h)], rfl⟩, fun h => ⟨by rw [b9_t h], rfl⟩⟩
  refine ⟨fun h => cls (if_neg (fun q => q.1 h)), fun h => ⟨fun h2 => cls (if_neg (fun q => h2 q.2)), fun h2 => ?_⟩⟩
  have h3 : gI M m 0 = 0 := Decidable.not_not.mp h2
  have e : fsK (gI M m 0) c k = k := if_pos ⟨h, h3⟩
  rw [e]
  exact ⟨fun q => ⟨by rw [b9_f (fun z => z q)], rfl⟩, fun q => ⟨by rw [b9_t q], rfl⟩⟩
def S117 : Sem := fun as M => match as with
  | [.ref a, .ref b] => sV (gK M a = kA .int 1793 ∧ gK M b = kA .int 1793) none (sI M b (cpy 1793 (gI M a) (gI M b)))
  | _ => sF
set_option maxRecDepth 100000 in
set_option maxHeartbeats 4000000 in
theorem s_X11_copy {l : Launch} {G : Gt} (hfl : l.stackTraces = false) : SatM l G 117 S117 := by
  refine t_X11_copy (E := fun _ => S0) hfl  fun as M hp => ?_
  unfold S117 at hp ⊢
  split at hp
  case h_2 => exact hp.elim
  rename_i a b
  obtain ⟨k0, k1⟩ := hp
  refine ⟨Nat.le_of_ble_eq_true rfl, ?_⟩
  show Run (gT G) _ _ _ _ _ _ _ 0 [.val (.ref a), .val (.ref b), .unset] [] M 0 0
  by_cases hab : a = b
  · subst hab
    have e0 : cpy 1793 (gI M a) (gI M a) = gI M a := by funext j; unfold cpy; split <;> rfl
    have key : ∀ r i, i + r = 1793 → Run (gT G) (fun _ => S0) 0 0 (fun _ _ => none) (fun v' M' => v' = none ∧ M' = M) (fun _ _ => False) kX11_copy 2 [.val (.ref a), .val (.ref a), .val (.int (nI i))] [] M 0 0 := by
      intro r
      induction r with
      | zero =>
        intro i hi
        have hi2 : i = 1793 := hi
        subst hi2
        rw [rX11_copy_2]
        simp only [kX11_copy_2, rX11_copy_0, kX11_copy_0, rX11_copy_21, kX11_copy_21, bk_c, if_true, if_false, wi_e, wl_e, wr_e, w1_i, w1_r, ldS_0, ldS_s, vi_e, vl_e, vr_e, dpL_u, dpL_i, dpL_r, dpL_l, stS_0, stS_1, stS_s, stL_0, stL_1, stL_s, bin_0, bin_1, bin_2, bin_3, bin_4, bin_5, bdv_0, bdv_1, lbin_0, lbin_1, lbin_2, cnd_0, cnd_1, cnd_2, cnd_3, cnd_4, cnd_5, aty_0, aty_1, aty_2, aty_3, aty_4, aty_5, c8_u, cn_0, cn_i, cn_r, cn_l, Nat.reduceAdd, Nat.reduceLeDiff, Nat.le_refl, adz, hnd_0, rcv_0, rcv_1, kLen_a, kLen_r, inB_e, inR_e, cpOK_e, swt_n, swt_c, List.take_succ_cons, List.take_zero, List.drop_succ_cons, List.drop_zero, List.reverse_cons, List.reverse_nil, List.nil_append, List.cons_append, List.length_cons, List.length_nil, Option.toList_some, Option.toList_none, det_e, det_x, tr_imp, fa_imp, implies_true, not_true, not_false_eq_true, and_true, true_and, nar_i, upd_s, st1_0, st1_1, st1_2, st1_3, st1_4, st1_5, st1_6, st1_7, st1_8, st1_9, st1_10, st1_11, st1_12, st1_13, st1_14, st1_15, st1_16, st1_17, st1_18, st1_19, st1_20, st1_21, st1_22, st1_23, st1_24, st1_25, st1_26, st1_27, st1_28, st1_29, st1_30, st1_31, st1_32, st1_33, st1_34, st1_35, st1_36, st1_37, st1_42, st1_43, st1_44, st1_46, st1_47, st1_48, st1_49, st1_50, st1_51, st1_52, st1_53, st1_54, st1_55, st1_56, st1_57, st1_58, st1_59, st1_60, show ((1793 : Int32) ≤ nI 1793) = True from lp_out 1793]
      | succ r ih =>
        intro i hi
        obtain ⟨a1, a2, a3, -⟩ := lp_in (i := i) (n := 1793) (N := 1793) (by omega) (Nat.le_refl _) (by decide)
        have a1' : ((1793 : Int32) ≤ nI i) = False := a1
        rw [rX11_copy_2]
        simp only [kX11_copy_2, rX11_copy_0, kX11_copy_0, rX11_copy_21, kX11_copy_21, bk_c, if_true, if_false, wi_e, wl_e, wr_e, w1_i, w1_r, ldS_0, ldS_s, vi_e, vl_e, vr_e, dpL_u, dpL_i, dpL_r, dpL_l, stS_0, stS_1, stS_s, stL_0, stL_1, stL_s, bin_0, bin_1, bin_2, bin_3, bin_4, bin_5, bdv_0, bdv_1, lbin_0, lbin_1, lbin_2, cnd_0, cnd_1, cnd_2, cnd_3, cnd_4, cnd_5, aty_0, aty_1, aty_2, aty_3, aty_4, aty_5, c8_u, cn_0, cn_i, cn_r, cn_l, Nat.reduceAdd, Nat.reduceLeDiff, Nat.le_refl, adz, hnd_0, rcv_0, rcv_1, kLen_a, kLen_r, inB_e, inR_e, cpOK_e, swt_n, swt_c, List.take_succ_cons, List.take_zero, List.drop_succ_cons, List.drop_zero, List.reverse_cons, List.reverse_nil, List.nil_append, List.cons_append, List.length_cons, List.length_nil, Option.toList_some, Option.toList_none, det_e, det_x, tr_imp, fa_imp, implies_true, not_true, not_false_eq_true, and_true, true_and, nar_i, upd_s, st1_0, st1_1, st1_2, st1_3, st1_4, st1_5, st1_6, st1_7, st1_8, st1_9, st1_10, st1_11, st1_12, st1_13, st1_14, st1_15, st1_16, st1_17, st1_18, st1_19, st1_20, st1_21, st1_22, st1_23, st1_24, st1_25, st1_26, st1_27, st1_28, st1_29, st1_30, st1_31, st1_32, st1_33, st1_34, st1_35, st1_36, st1_37, st1_42, st1_43, st1_44, st1_46, st1_47, st1_48, st1_49, st1_50, st1_51, st1_52, st1_53, st1_54, st1_55, st1_56, st1_57, st1_58, st1_59, st1_60, k0, a1', a2, a3, nI_1, show ∀ z, vp_nar FieldType.int z = z from fun _ => rfl, upd_id, sI_id]
        exact ih (i + 1) (by omega)
    simp only [rX11_copy_0, kX11_copy_0, rX11_copy_21, kX11_copy_21, bk_c, if_true, if_false, wi_e, wl_e, wr_e, w1_i, w1_r, ldS_0, ldS_s, vi_e, vl_e, vr_e, dpL_u, dpL_i, dpL_r, dpL_l, stS_0, stS_1, stS_s, stL_0, stL_1, stL_s, bin_0, bin_1, bin_2, bin_3, bin_4, bin_5, bdv_0, bdv_1, lbin_0, lbin_1, lbin_2, cnd_0, cnd_1, cnd_2, cnd_3, cnd_4, cnd_5, aty_0, aty_1, aty_2, aty_3, aty_4, aty_5, c8_u, cn_0, cn_i, cn_r, cn_l, Nat.reduceAdd, Nat.reduceLeDiff, Nat.le_refl, adz, hnd_0, rcv_0, rcv_1, kLen_a, kLen_r, inB_e, inR_e, cpOK_e, swt_n, swt_c, List.take_succ_cons, List.take_zero, List.drop_succ_cons, List.drop_zero, List.reverse_cons, List.reverse_nil, List.nil_append, List.cons_append, List.length_cons, List.length_nil, Option.toList_some, Option.toList_none, det_e, det_x, tr_imp, fa_imp, implies_true, not_true, not_false_eq_true, and_true, true_and, nar_i, upd_s, st1_0, st1_1, st1_2, st1_3, st1_4, st1_5, st1_6, st1_7, st1_8, st1_9, st1_10, st1_11, st1_12, st1_13, st1_14, st1_15, st1_16, st1_17, st1_18, st1_19, st1_20, st1_21, st1_22, st1_23, st1_24, st1_25, st1_26, st1_27, st1_28, st1_29, st1_30, st1_31, st1_32, st1_33, st1_34, st1_35, st1_36, st1_37, st1_42, st1_43, st1_44, st1_46, st1_47, st1_48, st1_49, st1_50, st1_51, st1_52, st1_53, st1_54, st1_55, st1_56, st1_57, st1_58, st1_59, st1_60]
    rw [e0, sI_id]
    exact key 1793 0 rfl
  · have hO : ∀ g, gI (sI M b g) a = gI M a := fun g => gI_f _ _ hab
    have key : ∀ r i, i + r = 1793 → Run (gT G) (fun _ => S0) 0 0 (fun _ _ => none) (fun v' M' => v' = none ∧ M' = sI M b (cpy 1793 (gI M a) (gI M b))) (fun _ _ => False) kX11_copy 2 [.val (.ref a), .val (.ref b), .val (.int (nI i))] [] (sI M b (cpy i (gI M a) (gI M b))) 0 0 := by
      intro r
      induction r with
      | zero =>
        intro i hi
        have hi2 : i = 1793 := hi
        subst hi2
        rw [rX11_copy_2]
        simp only [kX11_copy_2, rX11_copy_0, kX11_copy_0, rX11_copy_21, kX11_copy_21, bk_c, if_true, if_false, wi_e, wl_e, wr_e, w1_i, w1_r, ldS_0, ldS_s, vi_e, vl_e, vr_e, dpL_u, dpL_i, dpL_r, dpL_l, stS_0, stS_1, stS_s, stL_0, stL_1, stL_s, bin_0, bin_1, bin_2, bin_3, bin_4, bin_5, bdv_0, bdv_1, lbin_0, lbin_1, lbin_2, cnd_0, cnd_1, cnd_2, cnd_3, cnd_4, cnd_5, aty_0, aty_1, aty_2, aty_3, aty_4, aty_5, c8_u, cn_0, cn_i, cn_r, cn_l, Nat.reduceAdd, Nat.reduceLeDiff, Nat.le_refl, adz, hnd_0, rcv_0, rcv_1, kLen_a, kLen_r, inB_e, inR_e, cpOK_e, swt_n, swt_c, List.take_succ_cons, List.take_zero, List.drop_succ_cons, List.drop_zero, List.reverse_cons, List.reverse_nil, List.nil_append, List.cons_append, List.length_cons, List.length_nil, Option.toList_some, Option.toList_none, det_e, det_x, tr_imp, fa_imp, implies_true, not_true, not_false_eq_true, and_true, true_and, nar_i, upd_s, st1_0, st1_1, st1_2, st1_3, st1_4, st1_5, st1_6, st1_7, st1_8, st1_9, st1_10, st1_11, st1_12, st1_13, st1_14, st1_15, st1_16, st1_17, st1_18, st1_19, st1_20, st1_21, st1_22, st1_23, st1_24, st1_25, st1_26, st1_27, st1_28, st1_29, st1_30, st1_31, st1_32, st1_33, st1_34, st1_35, st1_36, st1_37, st1_42, st1_43, st1_44, st1_46, st1_47, st1_48, st1_49, st1_50, st1_51, st1_52, st1_53, st1_54, st1_55, st1_56, st1_57, st1_58, st1_59, st1_60, show ((1793 : Int32) ≤ nI 1793) = True from lp_out 1793]
      | succ r ih =>
        intro i hi
        obtain ⟨a1, a2, a3, -⟩ := lp_in (i := i) (n := 1793) (N := 1793) (by omega) (Nat.le_refl _) (by decide)
        have a1' : ((1793 : Int32) ≤ nI i) = False := a1
        rw [rX11_copy_2]
        simp only [kX11_copy_2, rX11_copy_0, kX11_copy_0, rX11_copy_21, kX11_copy_21, bk_c, if_true, if_false, wi_e, wl_e, wr_e, w1_i, w1_r, ldS_0, ldS_s, vi_e, vl_e, vr_e, dpL_u, dpL_i, dpL_r, dpL_l, stS_0, stS_1, stS_s, stL_0, stL_1, stL_s, bin_0, bin_1, bin_2, bin_3, bin_4, bin_5, bdv_0, bdv_1, lbin_0, lbin_1, lbin_2, cnd_0, cnd_1, cnd_2, cnd_3, cnd_4, cnd_5, aty_0, aty_1, aty_2, aty_3, aty_4, aty_5, c8_u, cn_0, cn_i, cn_r, cn_l, Nat.reduceAdd, Nat.reduceLeDiff, Nat.le_refl, adz, hnd_0, rcv_0, rcv_1, kLen_a, kLen_r, inB_e, inR_e, cpOK_e, swt_n, swt_c, List.take_succ_cons, List.take_zero, List.drop_succ_cons, List.drop_zero, List.reverse_cons, List.reverse_nil, List.nil_append, List.cons_append, List.length_cons, List.length_nil, Option.toList_some, Option.toList_none, det_e, det_x, tr_imp, fa_imp, implies_true, not_true, not_false_eq_true, and_true, true_and, nar_i, upd_s, st1_0, st1_1, st1_2, st1_3, st1_4, st1_5, st1_6, st1_7, st1_8, st1_9, st1_10, st1_11, st1_12, st1_13, st1_14, st1_15, st1_16, st1_17, st1_18, st1_19, st1_20, st1_21, st1_22, st1_23, st1_24, st1_25, st1_26, st1_27, st1_28, st1_29, st1_30, st1_31, st1_32, st1_33, st1_34, st1_35, st1_36, st1_37, st1_42, st1_43, st1_44, st1_46, st1_47, st1_48, st1_49, st1_50, st1_51, st1_52, st1_53, st1_54, st1_55, st1_56, st1_57, st1_58, st1_59, st1_60, gK_sI, hO, gI_s, sI_sI, k0, k1, a1', a2, a3, nI_1, show ∀ z, vp_nar FieldType.int z = z from fun _ => rfl, cpy_s]
        exact ih (i + 1) (by omega)
    have h0 := key 1793 0 rfl
    rw [cpy_z, sI_id] at h0
    simp only [rX11_copy_0, kX11_copy_0, rX11_copy_21, kX11_copy_21, bk_c, if_true, if_false, wi_e, wl_e, wr_e, w1_i, w1_r, ldS_0, ldS_s, vi_e, vl_e, vr_e, dpL_u, dpL_i, dpL_r, dpL_l, stS_0, stS_1, stS_s, stL_0, stL_1, stL_s, bin_0, bin_1, bin_2, bin_3, bin_4, bin_5, bdv_0, bdv_1, lbin_0, lbin_1, lbin_2, cnd_0, cnd_1, cnd_2, cnd_3, cnd_4, cnd_5, aty_0, aty_1, aty_2, aty_3, aty_4, aty_5, c8_u, cn_0, cn_i, cn_r, cn_l, Nat.reduceAdd, Nat.reduceLeDiff, Nat.le_refl, adz, hnd_0, rcv_0, rcv_1, kLen_a, kLen_r, inB_e, inR_e, cpOK_e, swt_n, swt_c, List.take_succ_cons, List.take_zero, List.drop_succ_cons, List.drop_zero, List.reverse_cons, List.reverse_nil, List.nil_append, List.cons_append, List.length_cons, List.length_nil, Option.toList_some, Option.toList_none, det_e, det_x, tr_imp, fa_imp, implies_true, not_true, not_false_eq_true, and_true, true_and, nar_i, upd_s, st1_0, st1_1, st1_2, st1_3, st1_4, st1_5, st1_6, st1_7, st1_8, st1_9, st1_10, st1_11, st1_12, st1_13, st1_14, st1_15, st1_16, st1_17, st1_18, st1_19, st1_20, st1_21, st1_22, st1_23, st1_24, st1_25, st1_26, st1_27, st1_28, st1_29, st1_30, st1_31, st1_32, st1_33, st1_34, st1_35, st1_36, st1_37, st1_42, st1_43, st1_44, st1_46, st1_47, st1_48, st1_49, st1_50, st1_51, st1_52, st1_53, st1_54, st1_55, st1_56, st1_57, st1_58, st1_59, st1_60]
    exact h0
