/-! ===== IrrigationTurnsModel: answers ===== -/
theorem t_1 (M : Mm) (m : Nat) (k : Int32) : gI (tS M m k) (m + 1) = gI M (m + 1) := gI_f _ _ (by omega)
theorem t_2 (M : Mm) (m : Nat) (k : Int32) : gI (tS M m k) (m + 2) = gI M (m + 2) := gI_f _ _ (by omega)
theorem t_4 (M : Mm) (m : Nat) (k : Int32) : gI (tS M m k) (m + 4) = gI M (m + 4) := gI_f _ _ (by omega)
theorem t_15 (M : Mm) (m : Nat) (k : Int32) : gI (tS M m k) (m + 15) = gI M (m + 15) := gI_f _ _ (by omega)
theorem t_16 (M : Mm) (m : Nat) (k : Int32) : gI (tS M m k) (m + 16) = gI M (m + 16) := gI_f _ _ (by omega)
theorem LM.t {M : Mm} {m : Nat} (g : LM M m) (k : Int32) : LM (tS M m k) m := g.kp rfl rfl
theorem fsK_0 (k : Int32) : fsK 0 0 k = 0 := by unfold fsK; rw [if_neg (fun q => q.1 rfl)]
theorem fsK_1 (k : Int32) : fsK 0 1 k = k := by unfold fsK; rw [if_pos ⟨by decide, rfl⟩]
theorem b9F [Decidable False] : b9 False = 0 := if_neg id
theorem b9T [Decidable True] : b9 True = 1 := if_pos trivial
theorem b90 : b9 (¬ (0 : Int32) = 0) = 0 := rfl
theorem b91 : b9 (¬ (1 : Int32) = 0) = 1 := rfl
theorem b92 : b9 (¬ (2 : Int32) = 0) = 1 := rfl
theorem i1f : ((1 : Int32) = 0) = False := eq_false (by decide)
theorem i2f : ((2 : Int32) = 0) = False := eq_false (by decide)
/-- the exception of a number outside its range -/
def ccK (x lo hi k : Int32) : Int32 := if inI x lo hi then 0 else k
def orK (a b : Int32) : Int32 := if a = 0 then b else a
theorem orK_0 (b : Int32) : orK 0 b = b := rfl
theorem orK_1 (b : Int32) : orK 1 b = 1 := rfl
theorem cc_0 {x lo hi k : Int32} (h : inI x lo hi) : ccK x lo hi k = 0 := if_pos h
theorem cc_1 {x lo hi k : Int32} (h : ¬ inI x lo hi) : ccK x lo hi k = k := if_neg h
theorem in_n {x : Int32} {n N : Nat} (h : inI x 0 (nI n - 1)) (hn : n ≤ N) (hN : N < 2 ^ 30) : ∃ j, j < n ∧ x = nI j := by
  obtain ⟨h1, h2⟩ := h
  obtain ⟨j, hj, rfl⟩ := nI_of h1
  rcases Nat.eq_zero_or_pos n with e | e
  · subst e
    exact absurd (Int32.lt_of_lt_of_le (show nI 0 - 1 < 0 by decide) (Int32.not_lt.mp h1)) h2
  · obtain ⟨m, rfl⟩ : ∃ m, n = m + 1 := ⟨n - 1, by omega⟩
    rw [nI_pred] at h2
    refine ⟨j, ?_, rfl⟩
    rcases Nat.lt_or_ge m j with z | z
    · exact absurd (nI_lt z hj) h2
    · omega
theorem in_c {x : Int32} {n : Nat} (h : inI x 0 (nI n)) : cnt x n := by
  obtain ⟨h1, h2⟩ := h
  obtain ⟨j, hj, rfl⟩ := nI_of h1
  rcases Nat.lt_or_ge n j with z | z
  · exact absurd (nI_lt z hj) h2
  · exact ⟨j, z, rfl⟩
def S114 : Sem := fun as M => match as with
  | [.ref m] => sV (LM M m) (some (.int (gI M (m + 2) 0))) (tS M m 0)
  | _ => sF
set_option maxRecDepth 100000 in
set_option maxHeartbeats 4000000 in
theorem s_X11_canalCount {l : Launch} {G : Gt} (hfl : l.stackTraces = false) : SatM l G 114 S114 := by
  refine t_X11_canalCount (E := fun _ => S0) hfl  fun as M hp => ?_
  unfold S114 at hp ⊢
  split at hp
  case h_2 => exact hp.elim
  rename_i m
  obtain hp := hp
  refine ⟨Nat.le_of_ble_eq_true rfl, ?_⟩
  show Run (gT G) _ _ _ _ _ _ _ 0 [.val (.ref m)] [] M 0 0
  simp only [rX11_canalCount_0, kX11_canalCount_0, bk_c, if_true, if_false, wi_e, wl_e, wr_e, w1_i, w1_r, ldS_0, ldS_s, vi_e, vl_e, vr_e, dpL_u, dpL_i, dpL_r, dpL_l, stS_0, stS_1, stS_s, stL_0, stL_1, stL_s, bin_0, bin_1, bin_2, bin_3, bin_4, bin_5, bdv_0, bdv_1, lbin_0, lbin_1, lbin_2, cnd_0, cnd_1, cnd_2, cnd_3, cnd_4, cnd_5, aty_0, aty_1, aty_2, aty_3, aty_4, aty_5, c8_u, cn_0, cn_i, cn_r, cn_l, Nat.reduceAdd, Nat.reduceLeDiff, Nat.le_refl, adz, hnd_0, rcv_0, rcv_1, kLen_a, kLen_r, inB_e, inR_e, cpOK_e, swt_n, swt_c, List.take_succ_cons, List.take_zero, List.drop_succ_cons, List.drop_zero, List.reverse_cons, List.reverse_nil, List.nil_append, List.cons_append, List.length_cons, List.length_nil, Option.toList_some, Option.toList_none, det_e, det_x, tr_imp, fa_imp, implies_true, not_true, not_false_eq_true, and_true, true_and, nar_i, upd_s, st1_0, st1_1, st1_2, st1_3, st1_4, st1_5, st1_6, st1_7, st1_8, st1_9, st1_10, st1_11, st1_12, st1_13, st1_14, st1_15, st1_16, st1_17, st1_18, st1_19, st1_20, st1_21, st1_22, st1_23, st1_24, st1_25, st1_26, st1_27, st1_28, st1_29, st1_30, st1_31, st1_32, st1_33, st1_34, st1_35, st1_36, st1_37, st1_42, st1_43, st1_44, st1_46, st1_47, st1_48, st1_49, st1_50, st1_51, st1_52, st1_53, st1_54, st1_55, st1_56, st1_57, st1_58, st1_59, st1_60, tS_e, tS_K, tS_P, t_2, hp.f, xL0, xL1, Nat.succ_ne_zero, ne_eq]
def S132 : Sem := fun as M => match as with
  | [.ref m] => sV (LM M m) (some (.int (gI M (m + 2) 1))) (tS M m 0)
  | _ => sF
set_option maxRecDepth 100000 in
set_option maxHeartbeats 4000000 in
theorem s_X11_fieldCount {l : Launch} {G : Gt} (hfl : l.stackTraces = false) : SatM l G 132 S132 := by
  refine t_X11_fieldCount (E := fun _ => S0) hfl  fun as M hp => ?_
  unfold S132 at hp ⊢
  split at hp
  case h_2 => exact hp.elim
  rename_i m
  obtain hp := hp
  refine ⟨Nat.le_of_ble_eq_true rfl, ?_⟩
  show Run (gT G) _ _ _ _ _ _ _ 0 [.val (.ref m)] [] M 0 0
  simp only [rX11_fieldCount_0, kX11_fieldCount_0, bk_c, if_true, if_false, wi_e, wl_e, wr_e, w1_i, w1_r, ldS_0, ldS_s, vi_e, vl_e, vr_e, dpL_u, dpL_i, dpL_r, dpL_l, stS_0, stS_1, stS_s, stL_0, stL_1, stL_s, bin_0, bin_1, bin_2, bin_3, bin_4, bin_5, bdv_0, bdv_1, lbin_0, lbin_1, lbin_2, cnd_0, cnd_1, cnd_2, cnd_3, cnd_4, cnd_5, aty_0, aty_1, aty_2, aty_3, aty_4, aty_5, c8_u, cn_0, cn_i, cn_r, cn_l, Nat.reduceAdd, Nat.reduceLeDiff, Nat.le_refl, adz, hnd_0, rcv_0, rcv_1, kLen_a, kLen_r, inB_e, inR_e, cpOK_e, swt_n, swt_c, List.take_succ_cons, List.take_zero, List.drop_succ_cons, List.drop_zero, List.reverse_cons, List.reverse_nil, List.nil_append, List.cons_append, List.length_cons, List.length_nil, Option.toList_some, Option.toList_none, det_e, det_x, tr_imp, fa_imp, implies_true, not_true, not_false_eq_true, and_true, true_and, nar_i, upd_s, st1_0, st1_1, st1_2, st1_3, st1_4, st1_5, st1_6, st1_7, st1_8, st1_9, st1_10, st1_11, st1_12, st1_13, st1_14, st1_15, st1_16, st1_17, st1_18, st1_19, st1_20, st1_21, st1_22, st1_23, st1_24, st1_25, st1_26, st1_27, st1_28, st1_29, st1_30, st1_31, st1_32, st1_33, st1_34, st1_35, st1_36, st1_37, st1_42, st1_43, st1_44, st1_46, st1_47, st1_48, st1_49, st1_50, st1_51, st1_52, st1_53, st1_54, st1_55, st1_56, st1_57, st1_58, st1_59, st1_60, tS_e, tS_K, tS_P, t_2, hp.f, xL0, xL1, Nat.succ_ne_zero, ne_eq]
def S116 : Sem := fun as M => match as with
  | [.ref m] => sV (LM M m) (some (.int (gI M (m + 2) 5))) (tS M m 0)
  | _ => sF
set_option maxRecDepth 100000 in
set_option maxHeartbeats 4000000 in
theorem s_X11_clock {l : Launch} {G : Gt} (hfl : l.stackTraces = false) : SatM l G 116 S116 := by
  refine t_X11_clock (E := fun _ => S0) hfl  fun as M hp => ?_
  unfold S116 at hp ⊢
  split at hp
  case h_2 => exact hp.elim
  rename_i m
  obtain hp := hp
  refine ⟨Nat.le_of_ble_eq_true rfl, ?_⟩
  show Run (gT G) _ _ _ _ _ _ _ 0 [.val (.ref m)] [] M 0 0
  simp only [rX11_clock_0, kX11_clock_0, bk_c, if_true, if_false, wi_e, wl_e, wr_e, w1_i, w1_r, ldS_0, ldS_s, vi_e, vl_e, vr_e, dpL_u, dpL_i, dpL_r, dpL_l, stS_0, stS_1, stS_s, stL_0, stL_1, stL_s, bin_0, bin_1, bin_2, bin_3, bin_4, bin_5, bdv_0, bdv_1, lbin_0, lbin_1, lbin_2, cnd_0, cnd_1, cnd_2, cnd_3, cnd_4, cnd_5, aty_0, aty_1, aty_2, aty_3, aty_4, aty_5, c8_u, cn_0, cn_i, cn_r, cn_l, Nat.reduceAdd, Nat.reduceLeDiff, Nat.le_refl, adz, hnd_0, rcv_0, rcv_1, kLen_a, kLen_r, inB_e, inR_e, cpOK_e, swt_n, swt_c, List.take_succ_cons, List.take_zero, List.drop_succ_cons, List.drop_zero, List.reverse_cons, List.reverse_nil, List.nil_append, List.cons_append, List.length_cons, List.length_nil, Option.toList_some, Option.toList_none, det_e, det_x, tr_imp, fa_imp, implies_true, not_true, not_false_eq_true, and_true, true_and, nar_i, upd_s, st1_0, st1_1, st1_2, st1_3, st1_4, st1_5, st1_6, st1_7, st1_8, st1_9, st1_10, st1_11, st1_12, st1_13, st1_14, st1_15, st1_16, st1_17, st1_18, st1_19, st1_20, st1_21, st1_22, st1_23, st1_24, st1_25, st1_26, st1_27, st1_28, st1_29, st1_30, st1_31, st1_32, st1_33, st1_34, st1_35, st1_36, st1_37, st1_42, st1_43, st1_44, st1_46, st1_47, st1_48, st1_49, st1_50, st1_51, st1_52, st1_53, st1_54, st1_55, st1_56, st1_57, st1_58, st1_59, st1_60, tS_e, tS_K, tS_P, t_2, hp.f, xL0, xL1, Nat.succ_ne_zero, ne_eq]
def S125 : Sem := fun as M => match as with
  | [.ref m] => sV (LM M m) (some (.int (gI M m 7))) (tS M m 0)
  | _ => sF
set_option maxRecDepth 100000 in
set_option maxHeartbeats 4000000 in
theorem s_X11_errorOffset {l : Launch} {G : Gt} (hfl : l.stackTraces = false) : SatM l G 125 S125 := by
  refine t_X11_errorOffset (E := fun _ => S0) hfl  fun as M hp => ?_
  unfold S125 at hp ⊢
  split at hp
  case h_2 => exact hp.elim
  rename_i m
  obtain hp := hp
  refine ⟨Nat.le_of_ble_eq_true rfl, ?_⟩
  show Run (gT G) _ _ _ _ _ _ _ 0 [.val (.ref m)] [] M 0 0
  simp only [rX11_errorOffset_0, kX11_errorOffset_0, bk_c, if_true, if_false, wi_e, wl_e, wr_e, w1_i, w1_r, ldS_0, ldS_s, vi_e, vl_e, vr_e, dpL_u, dpL_i, dpL_r, dpL_l, stS_0, stS_1, stS_s, stL_0, stL_1, stL_s, bin_0, bin_1, bin_2, bin_3, bin_4, bin_5, bdv_0, bdv_1, lbin_0, lbin_1, lbin_2, cnd_0, cnd_1, cnd_2, cnd_3, cnd_4, cnd_5, aty_0, aty_1, aty_2, aty_3, aty_4, aty_5, c8_u, cn_0, cn_i, cn_r, cn_l, Nat.reduceAdd, Nat.reduceLeDiff, Nat.le_refl, adz, hnd_0, rcv_0, rcv_1, kLen_a, kLen_r, inB_e, inR_e, cpOK_e, swt_n, swt_c, List.take_succ_cons, List.take_zero, List.drop_succ_cons, List.drop_zero, List.reverse_cons, List.reverse_nil, List.nil_append, List.cons_append, List.length_cons, List.length_nil, Option.toList_some, Option.toList_none, det_e, det_x, tr_imp, fa_imp, implies_true, not_true, not_false_eq_true, and_true, true_and, nar_i, upd_s, st1_0, st1_1, st1_2, st1_3, st1_4, st1_5, st1_6, st1_7, st1_8, st1_9, st1_10, st1_11, st1_12, st1_13, st1_14, st1_15, st1_16, st1_17, st1_18, st1_19, st1_20, st1_21, st1_22, st1_23, st1_24, st1_25, st1_26, st1_27, st1_28, st1_29, st1_30, st1_31, st1_32, st1_33, st1_34, st1_35, st1_36, st1_37, st1_42, st1_43, st1_44, st1_46, st1_47, st1_48, st1_49, st1_50, st1_51, st1_52, st1_53, st1_54, st1_55, st1_56, st1_57, st1_58, st1_59, st1_60, tS_e, tS_K, tS_P, hp.f, tS_n M m 0 (show 7 ≠ 0 by decide)]
def S119 : Sem := fun as M => match as with
  | [.ref m] => sV (LM M m ∧ cnt (gI M (m + 2) 2) 12) (some (.int (cyD (gI M (m + 2))))) (tS M m 0)
  | _ => sF
set_option maxRecDepth 100000 in
set_option maxHeartbeats 4000000 in
theorem s_X11_cycleLength {l : Launch} {G : Gt} (hfl : l.stackTraces = false) : SatM l G 119 S119 := by
  refine t_X11_cycleLength (E := fun _ => S118) hfl (s_X11_cycle hfl) fun as M hp => ?_
  unfold S119 at hp ⊢
  split at hp
  case h_2 => exact hp.elim
  rename_i m
  obtain ⟨hp, hc⟩ := hp
  refine ⟨Nat.le_of_ble_eq_true rfl, ?_⟩
  show Run (gT G) _ _ _ _ _ _ _ 0 [.val (.ref m)] [] M 0 0
  simp only [rX11_cycleLength_0, kX11_cycleLength_0, S118, Nat.reduceEqDiff, reduceIte, bk_c, if_true, if_false, wi_e, wl_e, wr_e, w1_i, w1_r, ldS_0, ldS_s, vi_e, vl_e, vr_e, dpL_u, dpL_i, dpL_r, dpL_l, stS_0, stS_1, stS_s, stL_0, stL_1, stL_s, bin_0, bin_1, bin_2, bin_3, bin_4, bin_5, bdv_0, bdv_1, lbin_0, lbin_1, lbin_2, cnd_0, cnd_1, cnd_2, cnd_3, cnd_4, cnd_5, aty_0, aty_1, aty_2, aty_3, aty_4, aty_5, c8_u, cn_0, cn_i, cn_r, cn_l, Nat.reduceAdd, Nat.reduceLeDiff, Nat.le_refl, adz, hnd_0, rcv_0, rcv_1, kLen_a, kLen_r, inB_e, inR_e, cpOK_e, swt_n, swt_c, List.take_succ_cons, List.take_zero, List.drop_succ_cons, List.drop_zero, List.reverse_cons, List.reverse_nil, List.nil_append, List.cons_append, List.length_cons, List.length_nil, Option.toList_some, Option.toList_none, det_e, det_x, tr_imp, fa_imp, implies_true, not_true, not_false_eq_true, and_true, true_and, nar_i, upd_s, st1_0, st1_1, st1_2, st1_3, st1_4, st1_5, st1_6, st1_7, st1_8, st1_9, st1_10, st1_11, st1_12, st1_13, st1_14, st1_15, st1_16, st1_17, st1_18, st1_19, st1_20, st1_21, st1_22, st1_23, st1_24, st1_25, st1_26, st1_27, st1_28, st1_29, st1_30, st1_31, st1_32, st1_33, st1_34, st1_35, st1_36, st1_37, st1_42, st1_43, st1_44, st1_46, st1_47, st1_48, st1_49, st1_50, st1_51, st1_52, st1_53, st1_54, st1_55, st1_56, st1_57, st1_58, st1_59, st1_60, sV, tS_e, tS_K, tS_P, t_2, hp.f, hc, Nat.succ_ne_zero, ne_eq]
def S181 : Sem := fun as M => match as with
  | [.ref m, .int h] => sV (LM M m ∧ (inI h 0 100000 → tuW (gI M (m + 2)) h)) (some (.int (if ccK h 0 100000 1 = 0 then tuD (gI M (m + 2)) h else 0))) (tS M m (ccK h 0 100000 1))
  | _ => sF
def eX11_turnAt : Nat → Sem := fun id => if id = 129 then S129 else if id = 139 then S139 else S180
set_option maxRecDepth 100000 in
set_option maxHeartbeats 4000000 in
theorem s_X11_turnAt {l : Launch} {G : Gt} (hfl : l.stackTraces = false) : SatM l G 181 S181 := by
  refine t_X11_turnAt (E := eX11_turnAt) hfl (s_X11_fails hfl) (s_X11_in hfl) (s_X11_turn hfl) fun as M hp => ?_
  unfold S181 at hp ⊢
  split at hp
  case h_2 => exact hp.elim
  rename_i m h
  obtain ⟨hp, hT⟩ := hp
  refine ⟨Nat.le_of_ble_eq_true rfl, ?_⟩
  show Run (gT G) _ _ _ _ _ _ _ 0 [.val (.ref m), .val (.int h)] [] M 0 0
  by_cases h1 : inI h 0 100000
  · have g1 : inI h 0 100000 = True := eq_true h1
    have hT1 := hT h1
    rw [cc_0 (k := 1) h1, if_pos rfl]
    simp only [rX11_turnAt_0, kX11_turnAt_0, rX11_turnAt_20, kX11_turnAt_20, rX11_turnAt_21, kX11_turnAt_21, rX11_turnAt_32, kX11_turnAt_32, rX11_turnAt_40, kX11_turnAt_40, eX11_turnAt, S129, S139, S180, bk_c, if_true, if_false, wi_e, wl_e, wr_e, w1_i, w1_r, ldS_0, ldS_s, vi_e, vl_e, vr_e, dpL_u, dpL_i, dpL_r, dpL_l, stS_0, stS_1, stS_s, stL_0, stL_1, stL_s, bin_0, bin_1, bin_2, bin_3, bin_4, bin_5, bdv_0, bdv_1, lbin_0, lbin_1, lbin_2, cnd_0, cnd_1, cnd_2, cnd_3, cnd_4, cnd_5, aty_0, aty_1, aty_2, aty_3, aty_4, aty_5, c8_u, cn_0, cn_i, cn_r, cn_l, Nat.reduceAdd, Nat.reduceLeDiff, Nat.le_refl, adz, hnd_0, rcv_0, rcv_1, kLen_a, kLen_r, inB_e, inR_e, cpOK_e, swt_n, swt_c, List.take_succ_cons, List.take_zero, List.drop_succ_cons, List.drop_zero, List.reverse_cons, List.reverse_nil, List.nil_append, List.cons_append, List.length_cons, List.length_nil, Option.toList_some, Option.toList_none, det_e, det_x, tr_imp, fa_imp, implies_true, not_true, not_false_eq_true, and_true, true_and, nar_i, upd_s, st1_0, st1_1, st1_2, st1_3, st1_4, st1_5, st1_6, st1_7, st1_8, st1_9, st1_10, st1_11, st1_12, st1_13, st1_14, st1_15, st1_16, st1_17, st1_18, st1_19, st1_20, st1_21, st1_22, st1_23, st1_24, st1_25, st1_26, st1_27, st1_28, st1_29, st1_30, st1_31, st1_32, st1_33, st1_34, st1_35, st1_36, st1_37, st1_42, st1_43, st1_44, st1_46, st1_47, st1_48, st1_49, st1_50, st1_51, st1_52, st1_53, st1_54, st1_55, st1_56, st1_57, st1_58, st1_59, st1_60, Nat.reduceEqDiff, reduceIte, sV, tS_e, tS_0, tS_t, tS_K, tS_P, t_2, hp.f, hp.t, hT1, g1, b9_0, b9F, b9T, fsK_0, Nat.succ_ne_zero, ne_eq]
  · have g1 : inI h 0 100000 = False := eq_false h1
    rw [cc_1 (k := 1) h1, if_neg (by decide)]
    simp only [rX11_turnAt_0, kX11_turnAt_0, rX11_turnAt_20, kX11_turnAt_20, rX11_turnAt_21, kX11_turnAt_21, rX11_turnAt_32, kX11_turnAt_32, rX11_turnAt_40, kX11_turnAt_40, eX11_turnAt, S129, S139, S180, bk_c, if_true, if_false, wi_e, wl_e, wr_e, w1_i, w1_r, ldS_0, ldS_s, vi_e, vl_e, vr_e, dpL_u, dpL_i, dpL_r, dpL_l, stS_0, stS_1, stS_s, stL_0, stL_1, stL_s, bin_0, bin_1, bin_2, bin_3, bin_4, bin_5, bdv_0, bdv_1, lbin_0, lbin_1, lbin_2, cnd_0, cnd_1, cnd_2, cnd_3, cnd_4, cnd_5, aty_0, aty_1, aty_2, aty_3, aty_4, aty_5, c8_u, cn_0, cn_i, cn_r, cn_l, Nat.reduceAdd, Nat.reduceLeDiff, Nat.le_refl, adz, hnd_0, rcv_0, rcv_1, kLen_a, kLen_r, inB_e, inR_e, cpOK_e, swt_n, swt_c, List.take_succ_cons, List.take_zero, List.drop_succ_cons, List.drop_zero, List.reverse_cons, List.reverse_nil, List.nil_append, List.cons_append, List.length_cons, List.length_nil, Option.toList_some, Option.toList_none, det_e, det_x, tr_imp, fa_imp, implies_true, not_true, not_false_eq_true, and_true, true_and, nar_i, upd_s, st1_0, st1_1, st1_2, st1_3, st1_4, st1_5, st1_6, st1_7, st1_8, st1_9, st1_10, st1_11, st1_12, st1_13, st1_14, st1_15, st1_16, st1_17, st1_18, st1_19, st1_20, st1_21, st1_22, st1_23, st1_24, st1_25, st1_26, st1_27, st1_28, st1_29, st1_30, st1_31, st1_32, st1_33, st1_34, st1_35, st1_36, st1_37, st1_42, st1_43, st1_44, st1_46, st1_47, st1_48, st1_49, st1_50, st1_51, st1_52, st1_53, st1_54, st1_55, st1_56, st1_57, st1_58, st1_59, st1_60, Nat.reduceEqDiff, reduceIte, sV, tS_e, tS_0, tS_t, tS_K, tS_P, t_2, hp.f, hp.t, g1, b9_0, b9F, b9T, i1f, fsK_1, Nat.succ_ne_zero, ne_eq]
def S140 : Sem := fun as M => match as with
  | [.ref m, .int h] => sV (LM M m ∧ (inI h 0 100000 → tuW (gI M (m + 2)) h ∧ ioW (gI M (m + 2)))) (some (.int (if ccK h 0 100000 1 = 0 then ioV (gI M (m + 2)) h (gJ M (m + 14)) else 0))) (if ccK h 0 100000 1 = 0 then sJ (tS M m 0) (m + 14) (ioR (gI M (m + 2)) h (gJ M (m + 14))) else tS M m 1)
  | _ => sF
def eX11_inflow : Nat → Sem := fun id => if id = 129 then S129 else if id = 139 then S139 else S141
set_option maxRecDepth 100000 in
set_option maxHeartbeats 4000000 in
theorem s_X11_inflow {l : Launch} {G : Gt} (hfl : l.stackTraces = false) : SatM l G 140 S140 := by
  refine t_X11_inflow (E := eX11_inflow) hfl (s_X11_fails hfl) (s_X11_in hfl) (s_X11_inflowOf hfl) fun as M hp => ?_
  unfold S140 at hp ⊢
  split at hp
  case h_2 => exact hp.elim
  rename_i m h
  obtain ⟨hp, hT⟩ := hp
  refine ⟨Nat.le_of_ble_eq_true rfl, ?_⟩
  show Run (gT G) _ _ _ _ _ _ _ 0 [.val (.ref m), .val (.int h)] [] M 0 0
  by_cases h1 : inI h 0 100000
  · have g1 : inI h 0 100000 = True := eq_true h1
    have hT1 := hT h1
    rw [cc_0 (k := 1) h1, if_pos rfl, if_pos rfl]
    simp only [rX11_inflow_0, kX11_inflow_0, rX11_inflow_20, kX11_inflow_20, rX11_inflow_21, kX11_inflow_21, rX11_inflow_32, kX11_inflow_32, rX11_inflow_41, kX11_inflow_41, eX11_inflow, S129, S139, S141, bk_c, if_true, if_false, wi_e, wl_e, wr_e, w1_i, w1_r, ldS_0, ldS_s, vi_e, vl_e, vr_e, dpL_u, dpL_i, dpL_r, dpL_l, stS_0, stS_1, stS_s, stL_0, stL_1, stL_s, bin_0, bin_1, bin_2, bin_3, bin_4, bin_5, bdv_0, bdv_1, lbin_0, lbin_1, lbin_2, cnd_0, cnd_1, cnd_2, cnd_3, cnd_4, cnd_5, aty_0, aty_1, aty_2, aty_3, aty_4, aty_5, c8_u, cn_0, cn_i, cn_r, cn_l, Nat.reduceAdd, Nat.reduceLeDiff, Nat.le_refl, adz, hnd_0, rcv_0, rcv_1, kLen_a, kLen_r, inB_e, inR_e, cpOK_e, swt_n, swt_c, List.take_succ_cons, List.take_zero, List.drop_succ_cons, List.drop_zero, List.reverse_cons, List.reverse_nil, List.nil_append, List.cons_append, List.length_cons, List.length_nil, Option.toList_some, Option.toList_none, det_e, det_x, tr_imp, fa_imp, implies_true, not_true, not_false_eq_true, and_true, true_and, nar_i, upd_s, st1_0, st1_1, st1_2, st1_3, st1_4, st1_5, st1_6, st1_7, st1_8, st1_9, st1_10, st1_11, st1_12, st1_13, st1_14, st1_15, st1_16, st1_17, st1_18, st1_19, st1_20, st1_21, st1_22, st1_23, st1_24, st1_25, st1_26, st1_27, st1_28, st1_29, st1_30, st1_31, st1_32, st1_33, st1_34, st1_35, st1_36, st1_37, st1_42, st1_43, st1_44, st1_46, st1_47, st1_48, st1_49, st1_50, st1_51, st1_52, st1_53, st1_54, st1_55, st1_56, st1_57, st1_58, st1_59, st1_60, Nat.reduceEqDiff, reduceIte, sV, tS_e, tS_0, tS_t, tS_K, tS_P, tS_J, t_2, hp.f, hp.t, hT1, g1, b9_0, b9F, b9T, fsK_0, Nat.succ_ne_zero, ne_eq]
  · have g1 : inI h 0 100000 = False := eq_false h1
    rw [cc_1 (k := 1) h1, if_neg (by decide), if_neg (by decide)]
    simp only [rX11_inflow_0, kX11_inflow_0, rX11_inflow_20, kX11_inflow_20, rX11_inflow_21, kX11_inflow_21, rX11_inflow_32, kX11_inflow_32, rX11_inflow_41, kX11_inflow_41, eX11_inflow, S129, S139, S141, bk_c, if_true, if_false, wi_e, wl_e, wr_e, w1_i, w1_r, ldS_0, ldS_s, vi_e, vl_e, vr_e, dpL_u, dpL_i, dpL_r, dpL_l, stS_0, stS_1, stS_s, stL_0, stL_1, stL_s, bin_0, bin_1, bin_2, bin_3, bin_4, bin_5, bdv_0, bdv_1, lbin_0, lbin_1, lbin_2, cnd_0, cnd_1, cnd_2, cnd_3, cnd_4, cnd_5, aty_0, aty_1, aty_2, aty_3, aty_4, aty_5, c8_u, cn_0, cn_i, cn_r, cn_l, Nat.reduceAdd, Nat.reduceLeDiff, Nat.le_refl, adz, hnd_0, rcv_0, rcv_1, kLen_a, kLen_r, inB_e, inR_e, cpOK_e, swt_n, swt_c, List.take_succ_cons, List.take_zero, List.drop_succ_cons, List.drop_zero, List.reverse_cons, List.reverse_nil, List.nil_append, List.cons_append, List.length_cons, List.length_nil, Option.toList_some, Option.toList_none, det_e, det_x, tr_imp, fa_imp, implies_true, not_true, not_false_eq_true, and_true, true_and, nar_i, upd_s, st1_0, st1_1, st1_2, st1_3, st1_4, st1_5, st1_6, st1_7, st1_8, st1_9, st1_10, st1_11, st1_12, st1_13, st1_14, st1_15, st1_16, st1_17, st1_18, st1_19, st1_20, st1_21, st1_22, st1_23, st1_24, st1_25, st1_26, st1_27, st1_28, st1_29, st1_30, st1_31, st1_32, st1_33, st1_34, st1_35, st1_36, st1_37, st1_42, st1_43, st1_44, st1_46, st1_47, st1_48, st1_49, st1_50, st1_51, st1_52, st1_53, st1_54, st1_55, st1_56, st1_57, st1_58, st1_59, st1_60, Nat.reduceEqDiff, reduceIte, sV, tS_e, tS_0, tS_t, tS_K, tS_P, t_2, hp.f, hp.t, g1, b9_0, b9F, b9T, i1f, fsK_1, Nat.succ_ne_zero, ne_eq]
def S137 : Sem := fun as M => match as with
  | [.ref m] => sV (LM M m ∧ (¬ gI M (m + 2) 3 = 0 → cnt (gI M (m + 2) 4) 9)) (some (.int (guD (gI M (m + 2))))) (tS M m 0)
  | _ => sF
set_option maxRecDepth 100000 in
set_option maxHeartbeats 4000000 in
theorem s_X11_guardAt {l : Launch} {G : Gt} (hfl : l.stackTraces = false) : SatM l G 137 S137 := by
  refine t_X11_guardAt (E := fun _ => S136) hfl (s_X11_guard hfl) fun as M hp => ?_
  unfold S137 at hp ⊢
  split at hp
  case h_2 => exact hp.elim
  rename_i m
  obtain ⟨hp, hc⟩ := hp
  refine ⟨Nat.le_of_ble_eq_true rfl, ?_⟩
  show Run (gT G) _ _ _ _ _ _ _ 0 [.val (.ref m)] [] M 0 0
  simp only [rX11_guardAt_0, kX11_guardAt_0, S136, Nat.reduceEqDiff, reduceIte, bk_c, if_true, if_false, wi_e, wl_e, wr_e, w1_i, w1_r, ldS_0, ldS_s, vi_e, vl_e, vr_e, dpL_u, dpL_i, dpL_r, dpL_l, stS_0, stS_1, stS_s, stL_0, stL_1, stL_s, bin_0, bin_1, bin_2, bin_3, bin_4, bin_5, bdv_0, bdv_1, lbin_0, lbin_1, lbin_2, cnd_0, cnd_1, cnd_2, cnd_3, cnd_4, cnd_5, aty_0, aty_1, aty_2, aty_3, aty_4, aty_5, c8_u, cn_0, cn_i, cn_r, cn_l, Nat.reduceAdd, Nat.reduceLeDiff, Nat.le_refl, adz, hnd_0, rcv_0, rcv_1, kLen_a, kLen_r, inB_e, inR_e, cpOK_e, swt_n, swt_c, List.take_succ_cons, List.take_zero, List.drop_succ_cons, List.drop_zero, List.reverse_cons, List.reverse_nil, List.nil_append, List.cons_append, List.length_cons, List.length_nil, Option.toList_some, Option.toList_none, det_e, det_x, tr_imp, fa_imp, implies_true, not_true, not_false_eq_true, and_true, true_and, nar_i, upd_s, st1_0, st1_1, st1_2, st1_3, st1_4, st1_5, st1_6, st1_7, st1_8, st1_9, st1_10, st1_11, st1_12, st1_13, st1_14, st1_15, st1_16, st1_17, st1_18, st1_19, st1_20, st1_21, st1_22, st1_23, st1_24, st1_25, st1_26, st1_27, st1_28, st1_29, st1_30, st1_31, st1_32, st1_33, st1_34, st1_35, st1_36, st1_37, st1_42, st1_43, st1_44, st1_46, st1_47, st1_48, st1_49, st1_50, st1_51, st1_52, st1_53, st1_54, st1_55, st1_56, st1_57, st1_58, st1_59, st1_60, sV, tS_e, tS_K, tS_P, t_2, hp.f, Nat.succ_ne_zero, ne_eq]
  exact hc
/-! == is there such a canal, field, village == -/
def S152 : Sem := fun as M => match as with
  | [.ref m, .int c] => sV (LM M m ∧ gI M m 0 = 0) (some (.int (b9 (¬ ccK c 0 (gI M (m + 2) 0 - 1) 1 = 0)))) (tS M m (ccK c 0 (gI M (m + 2) 0 - 1) 1))
  | _ => sF
def eX11_noCanal : Nat → Sem := fun id => if id = 129 then S129 else S139
set_option maxRecDepth 100000 in
set_option maxHeartbeats 4000000 in
theorem s_X11_noCanal {l : Launch} {G : Gt} (hfl : l.stackTraces = false) : SatM l G 152 S152 := by
  refine t_X11_noCanal (E := eX11_noCanal) hfl (s_X11_fails hfl) (s_X11_in hfl) fun as M hp => ?_
  unfold S152 at hp ⊢
  split at hp
  case h_2 => exact hp.elim
  rename_i m c
  obtain ⟨hp, h0⟩ := hp
  refine ⟨Nat.le_of_ble_eq_true rfl, ?_⟩
  show Run (gT G) _ _ _ _ _ _ _ 0 [.val (.ref m), .val (.int c)] [] M 0 0
  by_cases h1 : inI c 0 (gI M (m + 2) 0 - 1)
  · have g1 : inI c 0 (gI M (m + 2) 0 - 1) = True := eq_true h1
    rw [cc_0 (k := 1) h1]
    simp only [rX11_noCanal_0, kX11_noCanal_0, rX11_noCanal_21, kX11_noCanal_21, rX11_noCanal_22, kX11_noCanal_22, eX11_noCanal, S129, S139, bk_c, if_true, if_false, wi_e, wl_e, wr_e, w1_i, w1_r, ldS_0, ldS_s, vi_e, vl_e, vr_e, dpL_u, dpL_i, dpL_r, dpL_l, stS_0, stS_1, stS_s, stL_0, stL_1, stL_s, bin_0, bin_1, bin_2, bin_3, bin_4, bin_5, bdv_0, bdv_1, lbin_0, lbin_1, lbin_2, cnd_0, cnd_1, cnd_2, cnd_3, cnd_4, cnd_5, aty_0, aty_1, aty_2, aty_3, aty_4, aty_5, c8_u, cn_0, cn_i, cn_r, cn_l, Nat.reduceAdd, Nat.reduceLeDiff, Nat.le_refl, adz, hnd_0, rcv_0, rcv_1, kLen_a, kLen_r, inB_e, inR_e, cpOK_e, swt_n, swt_c, List.take_succ_cons, List.take_zero, List.drop_succ_cons, List.drop_zero, List.reverse_cons, List.reverse_nil, List.nil_append, List.cons_append, List.length_cons, List.length_nil, Option.toList_some, Option.toList_none, det_e, det_x, tr_imp, fa_imp, implies_true, not_true, not_false_eq_true, and_true, true_and, nar_i, upd_s, st1_0, st1_1, st1_2, st1_3, st1_4, st1_5, st1_6, st1_7, st1_8, st1_9, st1_10, st1_11, st1_12, st1_13, st1_14, st1_15, st1_16, st1_17, st1_18, st1_19, st1_20, st1_21, st1_22, st1_23, st1_24, st1_25, st1_26, st1_27, st1_28, st1_29, st1_30, st1_31, st1_32, st1_33, st1_34, st1_35, st1_36, st1_37, st1_42, st1_43, st1_44, st1_46, st1_47, st1_48, st1_49, st1_50, st1_51, st1_52, st1_53, st1_54, st1_55, st1_56, st1_57, st1_58, st1_59, st1_60, Nat.reduceEqDiff, reduceIte, sV, hp.f, hp, h0, g1, xL0, xL1, b9_0, b9F, b9T, fsK_0, nb0, Nat.succ_ne_zero, ne_eq]
  · have g1 : inI c 0 (gI M (m + 2) 0 - 1) = False := eq_false h1
    rw [cc_1 (k := 1) h1]
    simp only [rX11_noCanal_0, kX11_noCanal_0, rX11_noCanal_21, kX11_noCanal_21, rX11_noCanal_22, kX11_noCanal_22, eX11_noCanal, S129, S139, bk_c, if_true, if_false, wi_e, wl_e, wr_e, w1_i, w1_r, ldS_0, ldS_s, vi_e, vl_e, vr_e, dpL_u, dpL_i, dpL_r, dpL_l, stS_0, stS_1, stS_s, stL_0, stL_1, stL_s, bin_0, bin_1, bin_2, bin_3, bin_4, bin_5, bdv_0, bdv_1, lbin_0, lbin_1, lbin_2, cnd_0, cnd_1, cnd_2, cnd_3, cnd_4, cnd_5, aty_0, aty_1, aty_2, aty_3, aty_4, aty_5, c8_u, cn_0, cn_i, cn_r, cn_l, Nat.reduceAdd, Nat.reduceLeDiff, Nat.le_refl, adz, hnd_0, rcv_0, rcv_1, kLen_a, kLen_r, inB_e, inR_e, cpOK_e, swt_n, swt_c, List.take_succ_cons, List.take_zero, List.drop_succ_cons, List.drop_zero, List.reverse_cons, List.reverse_nil, List.nil_append, List.cons_append, List.length_cons, List.length_nil, Option.toList_some, Option.toList_none, det_e, det_x, tr_imp, fa_imp, implies_true, not_true, not_false_eq_true, and_true, true_and, nar_i, upd_s, st1_0, st1_1, st1_2, st1_3, st1_4, st1_5, st1_6, st1_7, st1_8, st1_9, st1_10, st1_11, st1_12, st1_13, st1_14, st1_15, st1_16, st1_17, st1_18, st1_19, st1_20, st1_21, st1_22, st1_23, st1_24, st1_25, st1_26, st1_27, st1_28, st1_29, st1_30, st1_31, st1_32, st1_33, st1_34, st1_35, st1_36, st1_37, st1_42, st1_43, st1_44, st1_46, st1_47, st1_48, st1_49, st1_50, st1_51, st1_52, st1_53, st1_54, st1_55, st1_56, st1_57, st1_58, st1_59, st1_60, Nat.reduceEqDiff, reduceIte, sV, hp.f, hp, h0, g1, xL0, xL1, b9_0, b9F, b9T, i1f, fsK_1, nb1, Nat.succ_ne_zero, ne_eq]
def S153 : Sem := fun as M => match as with
  | [.ref m, .int c] => sV (LM M m ∧ gI M m 0 = 0) (some (.int (b9 (¬ ccK c 0 (gI M (m + 2) 1 - 1) 1 = 0)))) (tS M m (ccK c 0 (gI M (m + 2) 1 - 1) 1))
  | _ => sF
def eX11_noField : Nat → Sem := fun id => if id = 129 then S129 else S139
set_option maxRecDepth 100000 in
set_option maxHeartbeats 4000000 in
theorem s_X11_noField {l : Launch} {G : Gt} (hfl : l.stackTraces = false) : SatM l G 153 S153 := by
  refine t_X11_noField (E := eX11_noField) hfl (s_X11_fails hfl) (s_X11_in hfl) fun as M hp => ?_
  unfold S153 at hp ⊢
  split at hp
  case h_2 => exact hp.elim
  rename_i m c
  obtain ⟨hp, h0⟩ := hp
  refine ⟨Nat.le_of_ble_eq_true rfl, ?_⟩
  show Run (gT G) _ _ _ _ _ _ _ 0 [.val (.ref m), .val (.int c)] [] M 0 0
  by_cases h1 : inI c 0 (gI M (m + 2) 1 - 1)
  · have g1 : inI c 0 (gI M (m + 2) 1 - 1) = True := eq_true h1
    rw [cc_0 (k := 1) h1]
    simp only [rX11_noField_0, kX11_noField_0, rX11_noField_21, kX11_noField_21, rX11_noField_22, kX11_noField_22, eX11_noField, S129, S139, bk_c, if_true, if_false, wi_e, wl_e, wr_e, w1_i, w1_r, ldS_0, ldS_s, vi_e, vl_e, vr_e, dpL_u, dpL_i, dpL_r, dpL_l, stS_0, stS_1, stS_s, stL_0, stL_1, stL_s, bin_0, bin_1, bin_2, bin_3, bin_4, bin_5, bdv_0, bdv_1, lbin_0, lbin_1, lbin_2, cnd_0, cnd_1, cnd_2, cnd_3, cnd_4, cnd_5, aty_0, aty_1, aty_2, aty_3, aty_4, aty_5, c8_u, cn_0, cn_i, cn_r, cn_l, Nat.reduceAdd, Nat.reduceLeDiff, Nat.le_refl, adz, hnd_0, rcv_0, rcv_1, kLen_a, kLen_r, inB_e, inR_e, cpOK_e, swt_n, swt_c, List.take_succ_cons, List.take_zero, List.drop_succ_cons, List.drop_zero, List.reverse_cons, List.reverse_nil, List.nil_append, List.cons_append, List.length_cons, List.length_nil, Option.toList_some, Option.toList_none, det_e, det_x, tr_imp, fa_imp, implies_true, not_true, not_false_eq_true, and_true, true_and, nar_i, upd_s, st1_0, st1_1, st1_2, st1_3, st1_4, st1_5, st1_6, st1_7, st1_8, st1_9, st1_10, st1_11, st1_12, st1_13, st1_14, st1_15, st1_16, st1_17, st1_18, st1_19, st1_20, st1_21, st1_22, st1_23, st1_24, st1_25, st1_26, st1_27, st1_28, st1_29, st1_30, st1_31, st1_32, st1_33, st1_34, st1_35, st1_36, st1_37, st1_42, st1_43, st1_44, st1_46, st1_47, st1_48, st1_49, st1_50, st1_51, st1_52, st1_53, st1_54, st1_55, st1_56, st1_57, st1_58, st1_59, st1_60, Nat.reduceEqDiff, reduceIte, sV, hp.f, hp, h0, g1, xL0, xL1, b9_0, b9F, b9T, fsK_0, nb0, Nat.succ_ne_zero, ne_eq]
  · have g1 : inI c 0 (gI M (m + 2) 1 - 1) = False := eq_false h1
    rw [cc_1 (k := 1) h1]
    simp only [rX11_noField_0, kX11_noField_0, rX11_noField_21, kX11_noField_21, rX11_noField_22, kX11_noField_22, eX11_noField, S129, S139, bk_c, if_true, if_false, wi_e, wl_e, wr_e, w1_i, w1_r, ldS_0, ldS_s, vi_e, vl_e, vr_e, dpL_u, dpL_i, dpL_r, dpL_l, stS_0, stS_1, stS_s, stL_0, stL_1, stL_s, bin_0, bin_1, bin_2, bin_3, bin_4, bin_5, bdv_0, bdv_1, lbin_0, lbin_1, lbin_2, cnd_0, cnd_1, cnd_2, cnd_3, cnd_4, cnd_5, aty_0, aty_1, aty_2, aty_3, aty_4, aty_5, c8_u, cn_0, cn_i, cn_r, cn_l, Nat.reduceAdd, Nat.reduceLeDiff, Nat.le_refl, adz, hnd_0, rcv_0, rcv_1, kLen_a, kLen_r, inB_e, inR_e, cpOK_e, swt_n, swt_c, List.take_succ_cons, List.take_zero, List.drop_succ_cons, List.drop_zero, List.reverse_cons, List.reverse_nil, List.nil_append, List.cons_append, List.length_cons, List.length_nil, Option.toList_some, Option.toList_none, det_e, det_x, tr_imp, fa_imp, implies_true, not_true, not_false_eq_true, and_true, true_and, nar_i, upd_s, st1_0, st1_1, st1_2, st1_3, st1_4, st1_5, st1_6, st1_7, st1_8, st1_9, st1_10, st1_11, st1_12, st1_13, st1_14, st1_15, st1_16, st1_17, st1_18, st1_19, st1_20, st1_21, st1_22, st1_23, st1_24, st1_25, st1_26, st1_27, st1_28, st1_29, st1_30, st1_31, st1_32, st1_33, st1_34, st1_35, st1_36, st1_37, st1_42, st1_43, st1_44, st1_46, st1_47, st1_48, st1_49, st1_50, st1_51, st1_52, st1_53, st1_54, st1_55, st1_56, st1_57, st1_58, st1_59, st1_60, Nat.reduceEqDiff, reduceIte, sV, hp.f, hp, h0, g1, xL0, xL1, b9_0, b9F, b9T, i1f, fsK_1, nb1, Nat.succ_ne_zero, ne_eq]
def S154 : Sem := fun as M => match as with
  | [.ref m, .int c] => sV (LM M m ∧ gI M m 0 = 0) (some (.int (b9 (¬ ccK c 0 5 1 = 0)))) (tS M m (ccK c 0 5 1))
  | _ => sF
def eX11_noVillage : Nat → Sem := fun id => if id = 129 then S129 else S139
set_option maxRecDepth 100000 in
set_option maxHeartbeats 4000000 in
theorem s_X11_noVillage {l : Launch} {G : Gt} (hfl : l.stackTraces = false) : SatM l G 154 S154 := by
  refine t_X11_noVillage (E := eX11_noVillage) hfl (s_X11_fails hfl) (s_X11_in hfl) fun as M hp => ?_
  unfold S154 at hp ⊢
  split at hp
  case h_2 => exact hp.elim
  rename_i m c
  obtain ⟨hp, h0⟩ := hp
  refine ⟨Nat.le_of_ble_eq_true rfl, ?_⟩
  show Run (gT G) _ _ _ _ _ _ _ 0 [.val (.ref m), .val (.int c)] [] M 0 0
  by_cases h1 : inI c 0 5
  · have g1 : inI c 0 5 = True := eq_true h1
    rw [cc_0 (k := 1) h1]
    simp only [rX11_noVillage_0, kX11_noVillage_0, rX11_noVillage_14, kX11_noVillage_14, rX11_noVillage_15, kX11_noVillage_15, eX11_noVillage, S129, S139, bk_c, if_true, if_false, wi_e, wl_e, wr_e, w1_i, w1_r, ldS_0, ldS_s, vi_e, vl_e, vr_e, dpL_u, dpL_i, dpL_r, dpL_l, stS_0, stS_1, stS_s, stL_0, stL_1, stL_s, bin_0, bin_1, bin_2, bin_3, bin_4, bin_5, bdv_0, bdv_1, lbin_0, lbin_1, lbin_2, cnd_0, cnd_1, cnd_2, cnd_3, cnd_4, cnd_5, aty_0, aty_1, aty_2, aty_3, aty_4, aty_5, c8_u, cn_0, cn_i, cn_r, cn_l, Nat.reduceAdd, Nat.reduceLeDiff, Nat.le_refl, adz, hnd_0, rcv_0, rcv_1, kLen_a, kLen_r, inB_e, inR_e, cpOK_e, swt_n, swt_c, List.take_succ_cons, List.take_zero, List.drop_succ_cons, List.drop_zero, List.reverse_cons, List.reverse_nil, List.nil_append, List.cons_append, List.length_cons, List.length_nil, Option.toList_some, Option.toList_none, det_e, det_x, tr_imp, fa_imp, implies_true, not_true, not_false_eq_true, and_true, true_and, nar_i, upd_s, st1_0, st1_1, st1_2, st1_3, st1_4, st1_5, st1_6, st1_7, st1_8, st1_9, st1_10, st1_11, st1_12, st1_13, st1_14, st1_15, st1_16, st1_17, st1_18, st1_19, st1_20, st1_21, st1_22, st1_23, st1_24, st1_25, st1_26, st1_27, st1_28, st1_29, st1_30, st1_31, st1_32, st1_33, st1_34, st1_35, st1_36, st1_37, st1_42, st1_43, st1_44, st1_46, st1_47, st1_48, st1_49, st1_50, st1_51, st1_52, st1_53, st1_54, st1_55, st1_56, st1_57, st1_58, st1_59, st1_60, Nat.reduceEqDiff, reduceIte, sV, hp.f, hp, h0, g1, xL0, xL1, b9_0, b9F, b9T, fsK_0, nb0, Nat.succ_ne_zero, ne_eq]
  · have g1 : inI c 0 5 = False := eq_false h1
    rw [cc_1 (k := 1) h1]
    simp only [rX11_noVillage_0, kX11_noVillage_0, rX11_noVillage_14, kX11_noVillage_14, rX11_noVillage_15, kX11_noVillage_15, eX11_noVillage, S129, S139, bk_c, if_true, if_false, wi_e, wl_e, wr_e, w1_i, w1_r, ldS_0, ldS_s, vi_e, vl_e, vr_e, dpL_u, dpL_i, dpL_r, dpL_l, stS_0, stS_1, stS_s, stL_0, stL_1, stL_s, bin_0, bin_1, bin_2, bin_3, bin_4, bin_5, bdv_0, bdv_1, lbin_0, lbin_1, lbin_2, cnd_0, cnd_1, cnd_2, cnd_3, cnd_4, cnd_5, aty_0, aty_1, aty_2, aty_3, aty_4, aty_5, c8_u, cn_0, cn_i, cn_r, cn_l, Nat.reduceAdd, Nat.reduceLeDiff, Nat.le_refl, adz, hnd_0, rcv_0, rcv_1, kLen_a, kLen_r, inB_e, inR_e, cpOK_e, swt_n, swt_c, List.take_succ_cons, List.take_zero, List.drop_succ_cons, List.drop_zero, List.reverse_cons, List.reverse_nil, List.nil_append, List.cons_append, List.length_cons, List.length_nil, Option.toList_some, Option.toList_none, det_e, det_x, tr_imp, fa_imp, implies_true, not_true, not_false_eq_true, and_true, true_and, nar_i, upd_s, st1_0, st1_1, st1_2, st1_3, st1_4, st1_5, st1_6, st1_7, st1_8, st1_9, st1_10, st1_11, st1_12, st1_13, st1_14, st1_15, st1_16, st1_17, st1_18, st1_19, st1_20, st1_21, st1_22, st1_23, st1_24, st1_25, st1_26, st1_27, st1_28, st1_29, st1_30, st1_31, st1_32, st1_33, st1_34, st1_35, st1_36, st1_37, st1_42, st1_43, st1_44, st1_46, st1_47, st1_48, st1_49, st1_50, st1_51, st1_52, st1_53, st1_54, st1_55, st1_56, st1_57, st1_58, st1_59, st1_60, Nat.reduceEqDiff, reduceIte, sV, hp.f, hp, h0, g1, xL0, xL1, b9_0, b9F, b9T, i1f, fsK_1, nb1, Nat.succ_ne_zero, ne_eq]
/-! == canals and fields == -/
def kCa (M : Mm) (m : Nat) (c : Int32) : Int32 := ccK c 0 (gI M (m + 2) 0 - 1) 1
def kFi (M : Mm) (m : Nat) (c : Int32) : Int32 := ccK c 0 (gI M (m + 2) 1 - 1) 1
theorem kCa_or (M : Mm) (m : Nat) (c : Int32) : kCa M m c = 0 ∨ kCa M m c = 1 := by
  unfold kCa ccK
  split
  · exact Or.inl rfl
  · exact Or.inr rfl
theorem kFi_or (M : Mm) (m : Nat) (c : Int32) : kFi M m c = 0 ∨ kFi M m c = 1 := by
  unfold kFi ccK
  split
  · exact Or.inl rfl
  · exact Or.inr rfl
theorem kCa_in {M : Mm} {m : Nat} {c : Int32} (h : kCa M m c = 0) (hc : cnt (gI M (m + 2) 0) 16) : ∃ j, j < 16 ∧ c = nI j := by
  obtain ⟨n, hn, en⟩ := hc
  unfold kCa ccK at h
  split at h
  · rename_i q
    rw [en] at q
    obtain ⟨j, hj, e⟩ := in_n q hn (by decide)
    exact ⟨j, by omega, e⟩
  · exact absurd h (by decide)
theorem kFi_in {M : Mm} {m : Nat} {c : Int32} (h : kFi M m c = 0) (hc : cnt (gI M (m + 2) 1) 12) : ∃ j, j < 12 ∧ c = nI j := by
  obtain ⟨n, hn, en⟩ := hc
  unfold kFi ccK at h
  split at h
  · rename_i q
    rw [en] at q
    obtain ⟨j, hj, e⟩ := in_n q hn (by decide)
    exact ⟨j, by omega, e⟩
  · exact absurd h (by decide)
theorem kCa_e (M : Mm) (m : Nat) (c : Int32) : ccK c 0 (gI M (m + 2) 0 - 1) 1 = kCa M m c := rfl
theorem kFi_e (M : Mm) (m : Nat) (c : Int32) : ccK c 0 (gI M (m + 2) 1 - 1) 1 = kFi M m c := rfl
theorem kCa_t (M : Mm) (m : Nat) (c k : Int32) : kCa (tS M m k) m c = kCa M m c := by unfold kCa; rw [t_2]
theorem kFi_t (M : Mm) (m : Nat) (c k : Int32) : kFi (tS M m k) m c = kFi M m c := by unfold kFi; rw [t_2]
def S158 : Sem := fun as M => match as with
  | [.ref m, .int c] => sV (LM M m ∧ cnt (gI M (m + 2) 0) 16) (some (.int (if kCa M m c = 0 then gI M (m + 2) (13 + 13 * c.toNatClampNeg) else 0))) (tS M m (kCa M m c))
  | _ => sF
def eX11_parent : Nat → Sem := fun id => if id = 113 then S113 else S152
set_option maxRecDepth 100000 in
set_option maxHeartbeats 4000000 in
theorem s_X11_parent {l : Launch} {G : Gt} (hfl : l.stackTraces = false) : SatM l G 158 S158 := by
  refine t_X11_parent (E := eX11_parent) hfl (s_X11_canal hfl) (s_X11_noCanal hfl) fun as M hp => ?_
  unfold S158 at hp ⊢
  split at hp
  case h_2 => exact hp.elim
  rename_i m c
  obtain ⟨hp, hc⟩ := hp
  refine ⟨Nat.le_of_ble_eq_true rfl, ?_⟩
  show Run (gT G) _ _ _ _ _ _ _ 0 [.val (.ref m), .val (.int c)] [] M 0 0
  rcases kCa_or M m c with h1 | h1
  · obtain ⟨j, hj, rfl⟩ := kCa_in h1 hc
    have cj : (nI j).toNatClampNeg = j := nI_clamp (by omega)
    have x0 := xC0 hj
    rw [if_pos h1]
    simp only [rX11_parent_0, kX11_parent_0, rX11_parent_17, kX11_parent_17, rX11_parent_26, kX11_parent_26, eX11_parent, S113, S152, bk_c, if_true, if_false, wi_e, wl_e, wr_e, w1_i, w1_r, ldS_0, ldS_s, vi_e, vl_e, vr_e, dpL_u, dpL_i, dpL_r, dpL_l, stS_0, stS_1, stS_s, stL_0, stL_1, stL_s, bin_0, bin_1, bin_2, bin_3, bin_4, bin_5, bdv_0, bdv_1, lbin_0, lbin_1, lbin_2, cnd_0, cnd_1, cnd_2, cnd_3, cnd_4, cnd_5, aty_0, aty_1, aty_2, aty_3, aty_4, aty_5, c8_u, cn_0, cn_i, cn_r, cn_l, Nat.reduceAdd, Nat.reduceLeDiff, Nat.le_refl, adz, hnd_0, rcv_0, rcv_1, kLen_a, kLen_r, inB_e, inR_e, cpOK_e, swt_n, swt_c, List.take_succ_cons, List.take_zero, List.drop_succ_cons, List.drop_zero, List.reverse_cons, List.reverse_nil, List.nil_append, List.cons_append, List.length_cons, List.length_nil, Option.toList_some, Option.toList_none, det_e, det_x, tr_imp, fa_imp, implies_true, not_true, not_false_eq_true, and_true, true_and, nar_i, upd_s, st1_0, st1_1, st1_2, st1_3, st1_4, st1_5, st1_6, st1_7, st1_8, st1_9, st1_10, st1_11, st1_12, st1_13, st1_14, st1_15, st1_16, st1_17, st1_18, st1_19, st1_20, st1_21, st1_22, st1_23, st1_24, st1_25, st1_26, st1_27, st1_28, st1_29, st1_30, st1_31, st1_32, st1_33, st1_34, st1_35, st1_36, st1_37, st1_42, st1_43, st1_44, st1_46, st1_47, st1_48, st1_49, st1_50, st1_51, st1_52, st1_53, st1_54, st1_55, st1_56, st1_57, st1_58, st1_59, st1_60, Nat.reduceEqDiff, reduceIte, sV, tS_e, tS_0, tS_t, tS_K, tS_P, t_2, hp.f, hp.t, kCa_e, kCa_t, h1, b9F, b9T, c13, x0, cj, Nat.succ_ne_zero, ne_eq]
  · rw [if_neg (by rw [h1]; decide)]
    simp only [rX11_parent_0, kX11_parent_0, rX11_parent_17, kX11_parent_17, rX11_parent_26, kX11_parent_26, eX11_parent, S113, S152, bk_c, if_true, if_false, wi_e, wl_e, wr_e, w1_i, w1_r, ldS_0, ldS_s, vi_e, vl_e, vr_e, dpL_u, dpL_i, dpL_r, dpL_l, stS_0, stS_1, stS_s, stL_0, stL_1, stL_s, bin_0, bin_1, bin_2, bin_3, bin_4, bin_5, bdv_0, bdv_1, lbin_0, lbin_1, lbin_2, cnd_0, cnd_1, cnd_2, cnd_3, cnd_4, cnd_5, aty_0, aty_1, aty_2, aty_3, aty_4, aty_5, c8_u, cn_0, cn_i, cn_r, cn_l, Nat.reduceAdd, Nat.reduceLeDiff, Nat.le_refl, adz, hnd_0, rcv_0, rcv_1, kLen_a, kLen_r, inB_e, inR_e, cpOK_e, swt_n, swt_c, List.take_succ_cons, List.take_zero, List.drop_succ_cons, List.drop_zero, List.reverse_cons, List.reverse_nil, List.nil_append, List.cons_append, List.length_cons, List.length_nil, Option.toList_some, Option.toList_none, det_e, det_x, tr_imp, fa_imp, implies_true, not_true, not_false_eq_true, and_true, true_and, nar_i, upd_s, st1_0, st1_1, st1_2, st1_3, st1_4, st1_5, st1_6, st1_7, st1_8, st1_9, st1_10, st1_11, st1_12, st1_13, st1_14, st1_15, st1_16, st1_17, st1_18, st1_19, st1_20, st1_21, st1_22, st1_23, st1_24, st1_25, st1_26, st1_27, st1_28, st1_29, st1_30, st1_31, st1_32, st1_33, st1_34, st1_35, st1_36, st1_37, st1_42, st1_43, st1_44, st1_46, st1_47, st1_48, st1_49, st1_50, st1_51, st1_52, st1_53, st1_54, st1_55, st1_56, st1_57, st1_58, st1_59, st1_60, Nat.reduceEqDiff, reduceIte, sV, tS_e, tS_0, tS_t, tS_K, tS_P, t_2, hp.f, hp.t, kCa_e, kCa_t, h1, b9F, b9T, i1f, Nat.succ_ne_zero, ne_eq]
def S110 : Sem := fun as M => match as with
  | [.ref m, .int c] => sV (LM M m ∧ cnt (gI M (m + 2) 0) 16) (some (.int (if kCa M m c = 0 then gI M (m + 2) (13 + 13 * c.toNatClampNeg + 5) else 0))) (tS M m (kCa M m c))
  | _ => sF
def eX11_arrived : Nat → Sem := fun id => if id = 113 then S113 else S152
set_option maxRecDepth 100000 in
set_option maxHeartbeats 4000000 in
theorem s_X11_arrived {l : Launch} {G : Gt} (hfl : l.stackTraces = false) : SatM l G 110 S110 := by
  refine t_X11_arrived (E := eX11_arrived) hfl (s_X11_canal hfl) (s_X11_noCanal hfl) fun as M hp => ?_
  unfold S110 at hp ⊢
  split at hp
  case h_2 => exact hp.elim
  rename_i m c
  obtain ⟨hp, hc⟩ := hp
  refine ⟨Nat.le_of_ble_eq_true rfl, ?_⟩
  show Run (gT G) _ _ _ _ _ _ _ 0 [.val (.ref m), .val (.int c)] [] M 0 0
  rcases kCa_or M m c with h1 | h1
  · obtain ⟨j, hj, rfl⟩ := kCa_in h1 hc
    have cj : (nI j).toNatClampNeg = j := nI_clamp (by omega)
    have x5 := xC hj (show 5 ≤ 12 by decide)
    rw [if_pos h1]
    simp only [rX11_arrived_0, kX11_arrived_0, rX11_arrived_17, kX11_arrived_17, rX11_arrived_28, kX11_arrived_28, eX11_arrived, S113, S152, bk_c, if_true, if_false, wi_e, wl_e, wr_e, w1_i, w1_r, ldS_0, ldS_s, vi_e, vl_e, vr_e, dpL_u, dpL_i, dpL_r, dpL_l, stS_0, stS_1, stS_s, stL_0, stL_1, stL_s, bin_0, bin_1, bin_2, bin_3, bin_4, bin_5, bdv_0, bdv_1, lbin_0, lbin_1, lbin_2, cnd_0, cnd_1, cnd_2, cnd_3, cnd_4, cnd_5, aty_0, aty_1, aty_2, aty_3, aty_4, aty_5, c8_u, cn_0, cn_i, cn_r, cn_l, Nat.reduceAdd, Nat.reduceLeDiff, Nat.le_refl, adz, hnd_0, rcv_0, rcv_1, kLen_a, kLen_r, inB_e, inR_e, cpOK_e, swt_n, swt_c, List.take_succ_cons, List.take_zero, List.drop_succ_cons, List.drop_zero, List.reverse_cons, List.reverse_nil, List.nil_append, List.cons_append, List.length_cons, List.length_nil, Option.toList_some, Option.toList_none, det_e, det_x, tr_imp, fa_imp, implies_true, not_true, not_false_eq_true, and_true, true_and, nar_i, upd_s, st1_0, st1_1, st1_2, st1_3, st1_4, st1_5, st1_6, st1_7, st1_8, st1_9, st1_10, st1_11, st1_12, st1_13, st1_14, st1_15, st1_16, st1_17, st1_18, st1_19, st1_20, st1_21, st1_22, st1_23, st1_24, st1_25, st1_26, st1_27, st1_28, st1_29, st1_30, st1_31, st1_32, st1_33, st1_34, st1_35, st1_36, st1_37, st1_42, st1_43, st1_44, st1_46, st1_47, st1_48, st1_49, st1_50, st1_51, st1_52, st1_53, st1_54, st1_55, st1_56, st1_57, st1_58, st1_59, st1_60, Nat.reduceEqDiff, reduceIte, sV, tS_e, tS_0, tS_t, tS_K, tS_P, t_2, hp.f, hp.t, kCa_e, kCa_t, h1, b9F, b9T, c13, ad_5, x5, cj, Nat.succ_ne_zero, ne_eq]
  · rw [if_neg (by rw [h1]; decide)]
    simp only [rX11_arrived_0, kX11_arrived_0, rX11_arrived_17, kX11_arrived_17, rX11_arrived_28, kX11_arrived_28, eX11_arrived, S113, S152, bk_c, if_true, if_false, wi_e, wl_e, wr_e, w1_i, w1_r, ldS_0, ldS_s, vi_e, vl_e, vr_e, dpL_u, dpL_i, dpL_r, dpL_l, stS_0, stS_1, stS_s, stL_0, stL_1, stL_s, bin_0, bin_1, bin_2, bin_3, bin_4, bin_5, bdv_0, bdv_1, lbin_0, lbin_1, lbin_2, cnd_0, cnd_1, cnd_2, cnd_3, cnd_4, cnd_5, aty_0, aty_1, aty_2, aty_3, aty_4, aty_5, c8_u, cn_0, cn_i, cn_r, cn_l, Nat.reduceAdd, Nat.reduceLeDiff, Nat.le_refl, adz, hnd_0, rcv_0, rcv_1, kLen_a, kLen_r, inB_e, inR_e, cpOK_e, swt_n, swt_c, List.take_succ_cons, List.take_zero, List.drop_succ_cons, List.drop_zero, List.reverse_cons, List.reverse_nil, List.nil_append, List.cons_append, List.length_cons, List.length_nil, Option.toList_some, Option.toList_none, det_e, det_x, tr_imp, fa_imp, implies_true, not_true, not_false_eq_true, and_true, true_and, nar_i, upd_s, st1_0, st1_1, st1_2, st1_3, st1_4, st1_5, st1_6, st1_7, st1_8, st1_9, st1_10, st1_11, st1_12, st1_13, st1_14, st1_15, st1_16, st1_17, st1_18, st1_19, st1_20, st1_21, st1_22, st1_23, st1_24, st1_25, st1_26, st1_27, st1_28, st1_29, st1_30, st1_31, st1_32, st1_33, st1_34, st1_35, st1_36, st1_37, st1_42, st1_43, st1_44, st1_46, st1_47, st1_48, st1_49, st1_50, st1_51, st1_52, st1_53, st1_54, st1_55, st1_56, st1_57, st1_58, st1_59, st1_60, Nat.reduceEqDiff, reduceIte, sV, tS_e, tS_0, tS_t, tS_K, tS_P, t_2, hp.f, hp.t, kCa_e, kCa_t, h1, b9F, b9T, i1f, Nat.succ_ne_zero, ne_eq]
def kWa (M : Mm) (m : Nat) (c h : Int32) : Int32 := orK (kCa M m c) (ccK h 0 5 2)
def S184 : Sem := fun as M => match as with
  | [.ref m, .int c, .int h] => sV (LM M m ∧ cnt (gI M (m + 2) 0) 16) (some (.int (if kWa M m c h = 0 then gI M (m + 2) (13 + 13 * c.toNatClampNeg + 6 + h.toNatClampNeg) else 0))) (tS M m (kWa M m c h))
  | _ => sF
def eX11_waterIn : Nat → Sem := fun id => if id = 113 then S113 else if id = 129 then S129 else if id = 139 then S139 else S152
set_option maxRecDepth 100000 in
set_option maxHeartbeats 4000000 in
theorem s_X11_waterIn {l : Launch} {G : Gt} (hfl : l.stackTraces = false) : SatM l G 184 S184 := by
  refine t_X11_waterIn (E := eX11_waterIn) hfl (s_X11_canal hfl) (s_X11_fails hfl) (s_X11_in hfl) (s_X11_noCanal hfl) fun as M hp => ?_
  unfold S184 at hp ⊢
  split at hp
  case h_2 => exact hp.elim
  rename_i m c h
  obtain ⟨hp, hc⟩ := hp
  refine ⟨Nat.le_of_ble_eq_true rfl, ?_⟩
  show Run (gT G) _ _ _ _ _ _ _ 0 [.val (.ref m), .val (.int c), .val (.int h)] [] M 0 0
  unfold kWa
  rcases kCa_or M m c with h1 | h1
  · obtain ⟨j, hj, rfl⟩ := kCa_in h1 hc
    have cj : (nI j).toNatClampNeg = j := nI_clamp (by omega)
    by_cases h2 : inI h 0 5
    · have g2 : inI h 0 5 = True := eq_true h2
      obtain ⟨i, hi, e2⟩ := in_c (n := 5) h2
      subst e2
      have ci : (nI i).toNatClampNeg = i := nI_clamp (by omega)
      have y1 : vp_in (nI (13 + 13 * j + 6 + i)) 1793 = True := eq_true (vp_in_nI (by omega) (by decide))
      have y2 : (nI (13 + 13 * j + 6 + i)).toNatClampNeg = 13 + 13 * j + 6 + i := nI_clamp (by omega)
      rw [h1, orK_0, cc_0 (k := 2) h2, if_pos rfl]
      simp only [rX11_waterIn_0, kX11_waterIn_0, rX11_waterIn_27, kX11_waterIn_27, rX11_waterIn_28, kX11_waterIn_28, rX11_waterIn_35, kX11_waterIn_35, rX11_waterIn_39, kX11_waterIn_39, rX11_waterIn_53, kX11_waterIn_53, eX11_waterIn, S113, S129, S139, S152, bk_c, if_true, if_false, wi_e, wl_e, wr_e, w1_i, w1_r, ldS_0, ldS_s, vi_e, vl_e, vr_e, dpL_u, dpL_i, dpL_r, dpL_l, stS_0, stS_1, stS_s, stL_0, stL_1, stL_s, bin_0, bin_1, bin_2, bin_3, bin_4, bin_5, bdv_0, bdv_1, lbin_0, lbin_1, lbin_2, cnd_0, cnd_1, cnd_2, cnd_3, cnd_4, cnd_5, aty_0, aty_1, aty_2, aty_3, aty_4, aty_5, c8_u, cn_0, cn_i, cn_r, cn_l, Nat.reduceAdd, Nat.reduceLeDiff, Nat.le_refl, adz, hnd_0, rcv_0, rcv_1, kLen_a, kLen_r, inB_e, inR_e, cpOK_e, swt_n, swt_c, List.take_succ_cons, List.take_zero, List.drop_succ_cons, List.drop_zero, List.reverse_cons, List.reverse_nil, List.nil_append, List.cons_append, List.length_cons, List.length_nil, Option.toList_some, Option.toList_none, det_e, det_x, tr_imp, fa_imp, implies_true, not_true, not_false_eq_true, and_true, true_and, nar_i, upd_s, st1_0, st1_1, st1_2, st1_3, st1_4, st1_5, st1_6, st1_7, st1_8, st1_9, st1_10, st1_11, st1_12, st1_13, st1_14, st1_15, st1_16, st1_17, st1_18, st1_19, st1_20, st1_21, st1_22, st1_23, st1_24, st1_25, st1_26, st1_27, st1_28, st1_29, st1_30, st1_31, st1_32, st1_33, st1_34, st1_35, st1_36, st1_37, st1_42, st1_43, st1_44, st1_46, st1_47, st1_48, st1_49, st1_50, st1_51, st1_52, st1_53, st1_54, st1_55, st1_56, st1_57, st1_58, st1_59, st1_60, Nat.reduceEqDiff, reduceIte, sV, tS_e, tS_0, tS_t, tS_K, tS_P, t_2, hp.f, hp.t, kCa_e, kCa_t, h1, g2, b9_0, b9F, b9T, fsK_0, c13, ad_6, nI_add, y1, y2, ci, cj, Nat.succ_ne_zero, ne_eq]
    · have g2 : inI h 0 5 = False := eq_false h2
      rw [h1, orK_0, cc_1 (k := 2) h2, if_neg (by decide)]
      simp only [rX11_waterIn_0, kX11_waterIn_0, rX11_waterIn_27, kX11_waterIn_27, rX11_waterIn_28, kX11_waterIn_28, rX11_waterIn_35, kX11_waterIn_35, rX11_waterIn_39, kX11_waterIn_39, rX11_waterIn_53, kX11_waterIn_53, eX11_waterIn, S113, S129, S139, S152, bk_c, if_true, if_false, wi_e, wl_e, wr_e, w1_i, w1_r, ldS_0, ldS_s, vi_e, vl_e, vr_e, dpL_u, dpL_i, dpL_r, dpL_l, stS_0, stS_1, stS_s, stL_0, stL_1, stL_s, bin_0, bin_1, bin_2, bin_3, bin_4, bin_5, bdv_0, bdv_1, lbin_0, lbin_1, lbin_2, cnd_0, cnd_1, cnd_2, cnd_3, cnd_4, cnd_5, aty_0, aty_1, aty_2, aty_3, aty_4, aty_5, c8_u, cn_0, cn_i, cn_r, cn_l, Nat.reduceAdd, Nat.reduceLeDiff, Nat.le_refl, adz, hnd_0, rcv_0, rcv_1, kLen_a, kLen_r, inB_e, inR_e, cpOK_e, swt_n, swt_c, List.take_succ_cons, List.take_zero, List.drop_succ_cons, List.drop_zero, List.reverse_cons, List.reverse_nil, List.nil_append, List.cons_append, List.length_cons, List.length_nil, Option.toList_some, Option.toList_none, det_e, det_x, tr_imp, fa_imp, implies_true, not_true, not_false_eq_true, and_true, true_and, nar_i, upd_s, st1_0, st1_1, st1_2, st1_3, st1_4, st1_5, st1_6, st1_7, st1_8, st1_9, st1_10, st1_11, st1_12, st1_13, st1_14, st1_15, st1_16, st1_17, st1_18, st1_19, st1_20, st1_21, st1_22, st1_23, st1_24, st1_25, st1_26, st1_27, st1_28, st1_29, st1_30, st1_31, st1_32, st1_33, st1_34, st1_35, st1_36, st1_37, st1_42, st1_43, st1_44, st1_46, st1_47, st1_48, st1_49, st1_50, st1_51, st1_52, st1_53, st1_54, st1_55, st1_56, st1_57, st1_58, st1_59, st1_60, Nat.reduceEqDiff, reduceIte, sV, tS_e, tS_0, tS_t, tS_K, tS_P, t_2, hp.f, hp.t, kCa_e, kCa_t, h1, g2, b9_0, b9F, b9T, i2f, fsK_1, Nat.succ_ne_zero, ne_eq]
  · rw [h1, orK_1, if_neg (by decide)]
    simp only [rX11_waterIn_0, kX11_waterIn_0, rX11_waterIn_27, kX11_waterIn_27, rX11_waterIn_28, kX11_waterIn_28, rX11_waterIn_35, kX11_waterIn_35, rX11_waterIn_39, kX11_waterIn_39, rX11_waterIn_53, kX11_waterIn_53, eX11_waterIn, S113, S129, S139, S152, bk_c, if_true, if_false, wi_e, wl_e, wr_e, w1_i, w1_r, ldS_0, ldS_s, vi_e, vl_e, vr_e, dpL_u, dpL_i, dpL_r, dpL_l, stS_0, stS_1, stS_s, stL_0, stL_1, stL_s, bin_0, bin_1, bin_2, bin_3, bin_4, bin_5, bdv_0, bdv_1, lbin_0, lbin_1, lbin_2, cnd_0, cnd_1, cnd_2, cnd_3, cnd_4, cnd_5, aty_0, aty_1, aty_2, aty_3, aty_4, aty_5, c8_u, cn_0, cn_i, cn_r, cn_l, Nat.reduceAdd, Nat.reduceLeDiff, Nat.le_refl, adz, hnd_0, rcv_0, rcv_1, kLen_a, kLen_r, inB_e, inR_e, cpOK_e, swt_n, swt_c, List.take_succ_cons, List.take_zero, List.drop_succ_cons, List.drop_zero, List.reverse_cons, List.reverse_nil, List.nil_append, List.cons_append, List.length_cons, List.length_nil, Option.toList_some, Option.toList_none, det_e, det_x, tr_imp, fa_imp, implies_true, not_true, not_false_eq_true, and_true, true_and, nar_i, upd_s, st1_0, st1_1, st1_2, st1_3, st1_4, st1_5, st1_6, st1_7, st1_8, st1_9, st1_10, st1_11, st1_12, st1_13, st1_14, st1_15, st1_16, st1_17, st1_18, st1_19, st1_20, st1_21, st1_22, st1_23, st1_24, st1_25, st1_26, st1_27, st1_28, st1_29, st1_30, st1_31, st1_32, st1_33, st1_34, st1_35, st1_36, st1_37, st1_42, st1_43, st1_44, st1_46, st1_47, st1_48, st1_49, st1_50, st1_51, st1_52, st1_53, st1_54, st1_55, st1_56, st1_57, st1_58, st1_59, st1_60, Nat.reduceEqDiff, reduceIte, sV, tS_e, tS_0, tS_t, tS_K, tS_P, t_2, hp.f, hp.t, kCa_e, kCa_t, h1, b9F, b9T, i1f, Nat.succ_ne_zero, ne_eq]
def S183 : Sem := fun as M => match as with
  | [.ref m, .int c] => sV (LM M m ∧ cnt (gI M (m + 2) 1) 12) (some (.int (if kFi M m c = 0 then gI M (m + 2) (221 + 11 * c.toNatClampNeg + 7) else 0))) (tS M m (kFi M m c))
  | _ => sF
def eX11_water : Nat → Sem := fun id => if id = 131 then S131 else S153
set_option maxRecDepth 100000 in
set_option maxHeartbeats 4000000 in
theorem s_X11_water {l : Launch} {G : Gt} (hfl : l.stackTraces = false) : SatM l G 183 S183 := by
  refine t_X11_water (E := eX11_water) hfl (s_X11_field hfl) (s_X11_noField hfl) fun as M hp => ?_
  unfold S183 at hp ⊢
  split at hp
  case h_2 => exact hp.elim
  rename_i m c
  obtain ⟨hp, hc⟩ := hp
  refine ⟨Nat.le_of_ble_eq_true rfl, ?_⟩
  show Run (gT G) _ _ _ _ _ _ _ 0 [.val (.ref m), .val (.int c)] [] M 0 0
  rcases kFi_or M m c with h1 | h1
  · obtain ⟨j, hj, rfl⟩ := kFi_in h1 hc
    have cj : (nI j).toNatClampNeg = j := nI_clamp (by omega)
    have x5 := xF hj (show 7 ≤ 10 by decide)
    rw [if_pos h1]
    simp only [rX11_water_0, kX11_water_0, rX11_water_17, kX11_water_17, rX11_water_29, kX11_water_29, eX11_water, S131, S153, bk_c, if_true, if_false, wi_e, wl_e, wr_e, w1_i, w1_r, ldS_0, ldS_s, vi_e, vl_e, vr_e, dpL_u, dpL_i, dpL_r, dpL_l, stS_0, stS_1, stS_s, stL_0, stL_1, stL_s, bin_0, bin_1, bin_2, bin_3, bin_4, bin_5, bdv_0, bdv_1, lbin_0, lbin_1, lbin_2, cnd_0, cnd_1, cnd_2, cnd_3, cnd_4, cnd_5, aty_0, aty_1, aty_2, aty_3, aty_4, aty_5, c8_u, cn_0, cn_i, cn_r, cn_l, Nat.reduceAdd, Nat.reduceLeDiff, Nat.le_refl, adz, hnd_0, rcv_0, rcv_1, kLen_a, kLen_r, inB_e, inR_e, cpOK_e, swt_n, swt_c, List.take_succ_cons, List.take_zero, List.drop_succ_cons, List.drop_zero, List.reverse_cons, List.reverse_nil, List.nil_append, List.cons_append, List.length_cons, List.length_nil, Option.toList_some, Option.toList_none, det_e, det_x, tr_imp, fa_imp, implies_true, not_true, not_false_eq_true, and_true, true_and, nar_i, upd_s, st1_0, st1_1, st1_2, st1_3, st1_4, st1_5, st1_6, st1_7, st1_8, st1_9, st1_10, st1_11, st1_12, st1_13, st1_14, st1_15, st1_16, st1_17, st1_18, st1_19, st1_20, st1_21, st1_22, st1_23, st1_24, st1_25, st1_26, st1_27, st1_28, st1_29, st1_30, st1_31, st1_32, st1_33, st1_34, st1_35, st1_36, st1_37, st1_42, st1_43, st1_44, st1_46, st1_47, st1_48, st1_49, st1_50, st1_51, st1_52, st1_53, st1_54, st1_55, st1_56, st1_57, st1_58, st1_59, st1_60, Nat.reduceEqDiff, reduceIte, sV, tS_e, tS_0, tS_t, tS_K, tS_P, t_2, hp.f, hp.t, kFi_e, kFi_t, h1, b9F, b9T, f11, ad_7, x5, cj, Nat.succ_ne_zero, ne_eq]
  · rw [if_neg (by rw [h1]; decide)]
    simp only [rX11_water_0, kX11_water_0, rX11_water_17, kX11_water_17, rX11_water_29, kX11_water_29, eX11_water, S131, S153, bk_c, if_true, if_false, wi_e, wl_e, wr_e, w1_i, w1_r, ldS_0, ldS_s, vi_e, vl_e, vr_e, dpL_u, dpL_i, dpL_r, dpL_l, stS_0, stS_1, stS_s, stL_0, stL_1, stL_s, bin_0, bin_1, bin_2, bin_3, bin_4, bin_5, bdv_0, bdv_1, lbin_0, lbin_1, lbin_2, cnd_0, cnd_1, cnd_2, cnd_3, cnd_4, cnd_5, aty_0, aty_1, aty_2, aty_3, aty_4, aty_5, c8_u, cn_0, cn_i, cn_r, cn_l, Nat.reduceAdd, Nat.reduceLeDiff, Nat.le_refl, adz, hnd_0, rcv_0, rcv_1, kLen_a, kLen_r, inB_e, inR_e, cpOK_e, swt_n, swt_c, List.take_succ_cons, List.take_zero, List.drop_succ_cons, List.drop_zero, List.reverse_cons, List.reverse_nil, List.nil_append, List.cons_append, List.length_cons, List.length_nil, Option.toList_some, Option.toList_none, det_e, det_x, tr_imp, fa_imp, implies_true, not_true, not_false_eq_true, and_true, true_and, nar_i, upd_s, st1_0, st1_1, st1_2, st1_3, st1_4, st1_5, st1_6, st1_7, st1_8, st1_9, st1_10, st1_11, st1_12, st1_13, st1_14, st1_15, st1_16, st1_17, st1_18, st1_19, st1_20, st1_21, st1_22, st1_23, st1_24, st1_25, st1_26, st1_27, st1_28, st1_29, st1_30, st1_31, st1_32, st1_33, st1_34, st1_35, st1_36, st1_37, st1_42, st1_43, st1_44, st1_46, st1_47, st1_48, st1_49, st1_50, st1_51, st1_52, st1_53, st1_54, st1_55, st1_56, st1_57, st1_58, st1_59, st1_60, Nat.reduceEqDiff, reduceIte, sV, tS_e, tS_0, tS_t, tS_K, tS_P, t_2, hp.f, hp.t, kFi_e, kFi_t, h1, b9F, b9T, i1f, Nat.succ_ne_zero, ne_eq]
def S175 : Sem := fun as M => match as with
  | [.ref m, .int c] => sV (LM M m ∧ cnt (gI M (m + 2) 1) 12) (some (.int (if kFi M m c = 0 then gI M (m + 2) (221 + 11 * c.toNatClampNeg + 8) else 0))) (tS M m (kFi M m c))
  | _ => sF
def eX11_taken : Nat → Sem := fun id => if id = 131 then S131 else S153
set_option maxRecDepth 100000 in
set_option maxHeartbeats 4000000 in
theorem s_X11_taken {l : Launch} {G : Gt} (hfl : l.stackTraces = false) : SatM l G 175 S175 := by
  refine t_X11_taken (E := eX11_taken) hfl (s_X11_field hfl) (s_X11_noField hfl) fun as M hp => ?_
  unfold S175 at hp ⊢
  split at hp
  case h_2 => exact hp.elim
  rename_i m c
  obtain ⟨hp, hc⟩ := hp
  refine ⟨Nat.le_of_ble_eq_true rfl, ?_⟩
  show Run (gT G) _ _ _ _ _ _ _ 0 [.val (.ref m), .val (.int c)] [] M 0 0
  rcases kFi_or M m c with h1 | h1
  · obtain ⟨j, hj, rfl⟩ := kFi_in h1 hc
    have cj : (nI j).toNatClampNeg = j := nI_clamp (by omega)
    have x5 := xF hj (show 8 ≤ 10 by decide)
    rw [if_pos h1]
    simp only [rX11_taken_0, kX11_taken_0, rX11_taken_17, kX11_taken_17, rX11_taken_29, kX11_taken_29, eX11_taken, S131, S153, bk_c, if_true, if_false, wi_e, wl_e, wr_e, w1_i, w1_r, ldS_0, ldS_s, vi_e, vl_e, vr_e, dpL_u, dpL_i, dpL_r, dpL_l, stS_0, stS_1, stS_s, stL_0, stL_1, stL_s, bin_0, bin_1, bin_2, bin_3, bin_4, bin_5, bdv_0, bdv_1, lbin_0, lbin_1, lbin_2, cnd_0, cnd_1, cnd_2, cnd_3, cnd_4, cnd_5, aty_0, aty_1, aty_2, aty_3, aty_4, aty_5, c8_u, cn_0, cn_i, cn_r, cn_l, Nat.reduceAdd, Nat.reduceLeDiff, Nat.le_refl, adz, hnd_0, rcv_0, rcv_1, kLen_a, kLen_r, inB_e, inR_e, cpOK_e, swt_n, swt_c, List.take_succ_cons, List.take_zero, List.drop_succ_cons, List.drop_zero, List.reverse_cons, List.reverse_nil, List.nil_append, List.cons_append, List.length_cons, List.length_nil, Option.toList_some, Option.toList_none, det_e, det_x, tr_imp, fa_imp, implies_true, not_true, not_false_eq_true, and_true, true_and, nar_i, upd_s, st1_0, st1_1, st1_2, st1_3, st1_4, st1_5, st1_6, st1_7, st1_8, st1_9, st1_10, st1_11, st1_12, st1_13, st1_14, st1_15, st1_16, st1_17, st1_18, st1_19, st1_20, st1_21, st1_22, st1_23, st1_24, st1_25, st1_26, st1_27, st1_28, st1_29, st1_30, st1_31, st1_32, st1_33, st1_34, st1_35, st1_36, st1_37, st1_42, st1_43, st1_44, st1_46, st1_47, st1_48, st1_49, st1_50, st1_51, st1_52, st1_53, st1_54, st1_55, st1_56, st1_57, st1_58, st1_59, st1_60, Nat.reduceEqDiff, reduceIte, sV, tS_e, tS_0, tS_t, tS_K, tS_P, t_2, hp.f, hp.t, kFi_e, kFi_t, h1, b9F, b9T, f11, ad_8, x5, cj, Nat.succ_ne_zero, ne_eq]
  · rw [if_neg (by rw [h1]; decide)]
    simp only [rX11_taken_0, kX11_taken_0, rX11_taken_17, kX11_taken_17, rX11_taken_29, kX11_taken_29, eX11_taken, S131, S153, bk_c, if_true, if_false, wi_e, wl_e, wr_e, w1_i, w1_r, ldS_0, ldS_s, vi_e, vl_e, vr_e, dpL_u, dpL_i, dpL_r, dpL_l, stS_0, stS_1, stS_s, stL_0, stL_1, stL_s, bin_0, bin_1, bin_2, bin_3, bin_4, bin_5, bdv_0, bdv_1, lbin_0, lbin_1, lbin_2, cnd_0, cnd_1, cnd_2, cnd_3, cnd_4, cnd_5, aty_0, aty_1, aty_2, aty_3, aty_4, aty_5, c8_u, cn_0, cn_i, cn_r, cn_l, Nat.reduceAdd, Nat.reduceLeDiff, Nat.le_refl, adz, hnd_0, rcv_0, rcv_1, kLen_a, kLen_r, inB_e, inR_e, cpOK_e, swt_n, swt_c, List.take_succ_cons, List.take_zero, List.drop_succ_cons, List.drop_zero, List.reverse_cons, List.reverse_nil, List.nil_append, List.cons_append, List.length_cons, List.length_nil, Option.toList_some, Option.toList_none, det_e, det_x, tr_imp, fa_imp, implies_true, not_true, not_false_eq_true, and_true, true_and, nar_i, upd_s, st1_0, st1_1, st1_2, st1_3, st1_4, st1_5, st1_6, st1_7, st1_8, st1_9, st1_10, st1_11, st1_12, st1_13, st1_14, st1_15, st1_16, st1_17, st1_18, st1_19, st1_20, st1_21, st1_22, st1_23, st1_24, st1_25, st1_26, st1_27, st1_28, st1_29, st1_30, st1_31, st1_32, st1_33, st1_34, st1_35, st1_36, st1_37, st1_42, st1_43, st1_44, st1_46, st1_47, st1_48, st1_49, st1_50, st1_51, st1_52, st1_53, st1_54, st1_55, st1_56, st1_57, st1_58, st1_59, st1_60, Nat.reduceEqDiff, reduceIte, sV, tS_e, tS_0, tS_t, tS_K, tS_P, t_2, hp.f, hp.t, kFi_e, kFi_t, h1, b9F, b9T, i1f, Nat.succ_ne_zero, ne_eq]
def S170 : Sem := fun as M => match as with
  | [.ref m, .int c] => sV (LM M m ∧ cnt (gI M (m + 2) 1) 12) (some (.int (if kFi M m c = 0 then gI M (m + 2) (221 + 11 * c.toNatClampNeg + 9) else 0))) (tS M m (kFi M m c))
  | _ => sF
def eX11_stolen : Nat → Sem := fun id => if id = 131 then S131 else S153
set_option maxRecDepth 100000 in
set_option maxHeartbeats 4000000 in
theorem s_X11_stolen {l : Launch} {G : Gt} (hfl : l.stackTraces = false) : SatM l G 170 S170 := by
  refine t_X11_stolen (E := eX11_stolen) hfl (s_X11_field hfl) (s_X11_noField hfl) fun as M hp => ?_
  unfold S170 at hp ⊢
  split at hp
  case h_2 => exact hp.elim
  rename_i m c
  obtain ⟨hp, hc⟩ := hp
  refine ⟨Nat.le_of_ble_eq_true rfl, ?_⟩
  show Run (gT G) _ _ _ _ _ _ _ 0 [.val (.ref m), .val (.int c)] [] M 0 0
  rcases kFi_or M m c with h1 | h1
  · obtain ⟨j, hj, rfl⟩ := kFi_in h1 hc
    have cj : (nI j).toNatClampNeg = j := nI_clamp (by omega)
    have x5 := xF hj (show 9 ≤ 10 by decide)
    rw [if_pos h1]
    simp only [rX11_stolen_0, kX11_stolen_0, rX11_stolen_17, kX11_stolen_17, rX11_stolen_29, kX11_stolen_29, eX11_stolen, S131, S153, bk_c, if_true, if_false, wi_e, wl_e, wr_e, w1_i, w1_r, ldS_0, ldS_s, vi_e, vl_e, vr_e, dpL_u, dpL_i, dpL_r, dpL_l, stS_0, stS_1, stS_s, stL_0, stL_1, stL_s, bin_0, bin_1, bin_2, bin_3, bin_4, bin_5, bdv_0, bdv_1, lbin_0, lbin_1, lbin_2, cnd_0, cnd_1, cnd_2, cnd_3, cnd_4, cnd_5, aty_0, aty_1, aty_2, aty_3, aty_4, aty_5, c8_u, cn_0, cn_i, cn_r, cn_l, Nat.reduceAdd, Nat.reduceLeDiff, Nat.le_refl, adz, hnd_0, rcv_0, rcv_1, kLen_a, kLen_r, inB_e, inR_e, cpOK_e, swt_n, swt_c, List.take_succ_cons, List.take_zero, List.drop_succ_cons, List.drop_zero, List.reverse_cons, List.reverse_nil, List.nil_append, List.cons_append, List.length_cons, List.length_nil, Option.toList_some, Option.toList_none, det_e, det_x, tr_imp, fa_imp, implies_true, not_true, not_false_eq_true, and_true, true_and, nar_i, upd_s, st1_0, st1_1, st1_2, st1_3, st1_4, st1_5, st1_6, st1_7, st1_8, st1_9, st1_10, st1_11, st1_12, st1_13, st1_14, st1_15, st1_16, st1_17, st1_18, st1_19, st1_20, st1_21, st1_22, st1_23, st1_24, st1_25, st1_26, st1_27, st1_28, st1_29, st1_30, st1_31, st1_32, st1_33, st1_34, st1_35, st1_36, st1_37, st1_42, st1_43, st1_44, st1_46, st1_47, st1_48, st1_49, st1_50, st1_51, st1_52, st1_53, st1_54, st1_55, st1_56, st1_57, st1_58, st1_59, st1_60, Nat.reduceEqDiff, reduceIte, sV, tS_e, tS_0, tS_t, tS_K, tS_P, t_2, hp.f, hp.t, kFi_e, kFi_t, h1, b9F, b9T, f11, ad_9, x5, cj, Nat.succ_ne_zero, ne_eq]
  · rw [if_neg (by rw [h1]; decide)]
    simp only [rX11_stolen_0, kX11_stolen_0, rX11_stolen_17, kX11_stolen_17, rX11_stolen_29, kX11_stolen_29, eX11_stolen, S131, S153, bk_c, if_true, if_false, wi_e, wl_e, wr_e, w1_i, w1_r, ldS_0, ldS_s, vi_e, vl_e, vr_e, dpL_u, dpL_i, dpL_r, dpL_l, stS_0, stS_1, stS_s, stL_0, stL_1, stL_s, bin_0, bin_1, bin_2, bin_3, bin_4, bin_5, bdv_0, bdv_1, lbin_0, lbin_1, lbin_2, cnd_0, cnd_1, cnd_2, cnd_3, cnd_4, cnd_5, aty_0, aty_1, aty_2, aty_3, aty_4, aty_5, c8_u, cn_0, cn_i, cn_r, cn_l, Nat.reduceAdd, Nat.reduceLeDiff, Nat.le_refl, adz, hnd_0, rcv_0, rcv_1, kLen_a, kLen_r, inB_e, inR_e, cpOK_e, swt_n, swt_c, List.take_succ_cons, List.take_zero, List.drop_succ_cons, List.drop_zero, List.reverse_cons, List.reverse_nil, List.nil_append, List.cons_append, List.length_cons, List.length_nil, Option.toList_some, Option.toList_none, det_e, det_x, tr_imp, fa_imp, implies_true, not_true, not_false_eq_true, and_true, true_and, nar_i, upd_s, st1_0, st1_1, st1_2, st1_3, st1_4, st1_5, st1_6, st1_7, st1_8, st1_9, st1_10, st1_11, st1_12, st1_13, st1_14, st1_15, st1_16, st1_17, st1_18, st1_19, st1_20, st1_21, st1_22, st1_23, st1_24, st1_25, st1_26, st1_27, st1_28, st1_29, st1_30, st1_31, st1_32, st1_33, st1_34, st1_35, st1_36, st1_37, st1_42, st1_43, st1_44, st1_46, st1_47, st1_48, st1_49, st1_50, st1_51, st1_52, st1_53, st1_54, st1_55, st1_56, st1_57, st1_58, st1_59, st1_60, Nat.reduceEqDiff, reduceIte, sV, tS_e, tS_0, tS_t, tS_K, tS_P, t_2, hp.f, hp.t, kFi_e, kFi_t, h1, b9F, b9T, i1f, Nat.succ_ne_zero, ne_eq]
def S134 : Sem := fun as M => match as with
  | [.ref m, .int c] => sV (LM M m) (some (.int (if ccK c 0 5 1 = 0 then gI M (m + 2) (387 + c.toNatClampNeg) else 0))) (tS M m (ccK c 0 5 1))
  | _ => sF
set_option maxRecDepth 100000 in
set_option maxHeartbeats 4000000 in
theorem s_X11_fines {l : Launch} {G : Gt} (hfl : l.stackTraces = false) : SatM l G 134 S134 := by
  refine t_X11_fines (E := fun _ => S154) hfl (s_X11_noVillage hfl) fun as M hp => ?_
  unfold S134 at hp ⊢
  split at hp
  case h_2 => exact hp.elim
  rename_i m c
  obtain hp := hp
  refine ⟨Nat.le_of_ble_eq_true rfl, ?_⟩
  show Run (gT G) _ _ _ _ _ _ _ 0 [.val (.ref m), .val (.int c)] [] M 0 0
  by_cases h1 : inI c 0 5
  · obtain ⟨j, hj, rfl⟩ := in_c (n := 5) h1
    have cj : (nI j).toNatClampNeg = j := nI_clamp (by omega)
    have y1 : vp_in (nI (387 + j)) 1793 = True := eq_true (vp_in_nI (by omega) (by decide))
    have y2 : (nI (387 + j)).toNatClampNeg = 387 + j := nI_clamp (by omega)
    have e := cc_0 (k := 1) h1
    rw [if_pos e]
    simp only [rX11_fines_0, kX11_fines_0, rX11_fines_17, kX11_fines_17, rX11_fines_27, kX11_fines_27, S154, Nat.reduceEqDiff, reduceIte, bk_c, if_true, if_false, wi_e, wl_e, wr_e, w1_i, w1_r, ldS_0, ldS_s, vi_e, vl_e, vr_e, dpL_u, dpL_i, dpL_r, dpL_l, stS_0, stS_1, stS_s, stL_0, stL_1, stL_s, bin_0, bin_1, bin_2, bin_3, bin_4, bin_5, bdv_0, bdv_1, lbin_0, lbin_1, lbin_2, cnd_0, cnd_1, cnd_2, cnd_3, cnd_4, cnd_5, aty_0, aty_1, aty_2, aty_3, aty_4, aty_5, c8_u, cn_0, cn_i, cn_r, cn_l, Nat.reduceAdd, Nat.reduceLeDiff, Nat.le_refl, adz, hnd_0, rcv_0, rcv_1, kLen_a, kLen_r, inB_e, inR_e, cpOK_e, swt_n, swt_c, List.take_succ_cons, List.take_zero, List.drop_succ_cons, List.drop_zero, List.reverse_cons, List.reverse_nil, List.nil_append, List.cons_append, List.length_cons, List.length_nil, Option.toList_some, Option.toList_none, det_e, det_x, tr_imp, fa_imp, implies_true, not_true, not_false_eq_true, and_true, true_and, nar_i, upd_s, st1_0, st1_1, st1_2, st1_3, st1_4, st1_5, st1_6, st1_7, st1_8, st1_9, st1_10, st1_11, st1_12, st1_13, st1_14, st1_15, st1_16, st1_17, st1_18, st1_19, st1_20, st1_21, st1_22, st1_23, st1_24, st1_25, st1_26, st1_27, st1_28, st1_29, st1_30, st1_31, st1_32, st1_33, st1_34, st1_35, st1_36, st1_37, st1_42, st1_43, st1_44, st1_46, st1_47, st1_48, st1_49, st1_50, st1_51, st1_52, st1_53, st1_54, st1_55, st1_56, st1_57, st1_58, st1_59, st1_60, sV, tS_e, tS_0, tS_t, tS_K, tS_P, t_2, hp.f, hp.t, e, b9F, b9T, ad_387, y1, y2, cj, Nat.succ_ne_zero, ne_eq]
  · have e := cc_1 (k := 1) h1
    rw [if_neg (by rw [e]; decide)]
    simp only [rX11_fines_0, kX11_fines_0, rX11_fines_17, kX11_fines_17, rX11_fines_27, kX11_fines_27, S154, Nat.reduceEqDiff, reduceIte, bk_c, if_true, if_false, wi_e, wl_e, wr_e, w1_i, w1_r, ldS_0, ldS_s, vi_e, vl_e, vr_e, dpL_u, dpL_i, dpL_r, dpL_l, stS_0, stS_1, stS_s, stL_0, stL_1, stL_s, bin_0, bin_1, bin_2, bin_3, bin_4, bin_5, bdv_0, bdv_1, lbin_0, lbin_1, lbin_2, cnd_0, cnd_1, cnd_2, cnd_3, cnd_4, cnd_5, aty_0, aty_1, aty_2, aty_3, aty_4, aty_5, c8_u, cn_0, cn_i, cn_r, cn_l, Nat.reduceAdd, Nat.reduceLeDiff, Nat.le_refl, adz, hnd_0, rcv_0, rcv_1, kLen_a, kLen_r, inB_e, inR_e, cpOK_e, swt_n, swt_c, List.take_succ_cons, List.take_zero, List.drop_succ_cons, List.drop_zero, List.reverse_cons, List.reverse_nil, List.nil_append, List.cons_append, List.length_cons, List.length_nil, Option.toList_some, Option.toList_none, det_e, det_x, tr_imp, fa_imp, implies_true, not_true, not_false_eq_true, and_true, true_and, nar_i, upd_s, st1_0, st1_1, st1_2, st1_3, st1_4, st1_5, st1_6, st1_7, st1_8, st1_9, st1_10, st1_11, st1_12, st1_13, st1_14, st1_15, st1_16, st1_17, st1_18, st1_19, st1_20, st1_21, st1_22, st1_23, st1_24, st1_25, st1_26, st1_27, st1_28, st1_29, st1_30, st1_31, st1_32, st1_33, st1_34, st1_35, st1_36, st1_37, st1_42, st1_43, st1_44, st1_46, st1_47, st1_48, st1_49, st1_50, st1_51, st1_52, st1_53, st1_54, st1_55, st1_56, st1_57, st1_58, st1_59, st1_60, sV, tS_e, tS_0, tS_t, tS_K, tS_P, t_2, hp.f, hp.t, e, b9F, b9T, i1f, Nat.succ_ne_zero, ne_eq]
def S147 : Sem := fun as M => match as with
  | [.ref m, .int c] => sV (LM M m ∧ cnt (gI M (m + 2) 1) 12 ∧ tuW (gI M (m + 2)) (gI M (m + 2) 5)) (some (.int (if kFi M m c = 0 then oqI (gI M (m + 2)) c.toNatClampNeg else 0))) (tS M m (kFi M m c))
  | _ => sF
theorem oq_0 {D : Nat → Int32} {f : Nat} (h : oqI D f = 0 ∨ oqI D f = 1) (g : ¬ oqI D f = 0) : oqI D f = 1 := h.resolve_left g
def eX11_isOpen : Nat → Sem := fun id => if id = 153 then S153 else S156
set_option maxRecDepth 100000 in
set_option maxHeartbeats 4000000 in
theorem s_X11_isOpen {l : Launch} {G : Gt} (hfl : l.stackTraces = false) : SatM l G 147 S147 := by
  refine t_X11_isOpen (E := eX11_isOpen) hfl (s_X11_noField hfl) (s_X11_open hfl) fun as M hp => ?_
  unfold S147 at hp ⊢
  split at hp
  case h_2 => exact hp.elim
  rename_i m c
  obtain ⟨hp, hc, hT⟩ := hp
  refine ⟨Nat.le_of_ble_eq_true rfl, ?_⟩
  show Run (gT G) _ _ _ _ _ _ _ 0 [.val (.ref m), .val (.int c)] [] M 0 0
  rcases kFi_or M m c with h1 | h1
  · obtain ⟨j, hj, rfl⟩ := kFi_in h1 hc
    have cj : (nI j).toNatClampNeg = j := nI_clamp (by omega)
    have j2 : vp_in (nI j) 12 = True := eq_true (vp_in_nI hj (by decide))
    rw [if_pos h1]
    simp only [rX11_isOpen_0, kX11_isOpen_0, rX11_isOpen_28, kX11_isOpen_28, rX11_isOpen_29, kX11_isOpen_29, eX11_isOpen, S153, S156, bk_c, if_true, if_false, wi_e, wl_e, wr_e, w1_i, w1_r, ldS_0, ldS_s, vi_e, vl_e, vr_e, dpL_u, dpL_i, dpL_r, dpL_l, stS_0, stS_1, stS_s, stL_0, stL_1, stL_s, bin_0, bin_1, bin_2, bin_3, bin_4, bin_5, bdv_0, bdv_1, lbin_0, lbin_1, lbin_2, cnd_0, cnd_1, cnd_2, cnd_3, cnd_4, cnd_5, aty_0, aty_1, aty_2, aty_3, aty_4, aty_5, c8_u, cn_0, cn_i, cn_r, cn_l, Nat.reduceAdd, Nat.reduceLeDiff, Nat.le_refl, adz, hnd_0, rcv_0, rcv_1, kLen_a, kLen_r, inB_e, inR_e, cpOK_e, swt_n, swt_c, List.take_succ_cons, List.take_zero, List.drop_succ_cons, List.drop_zero, List.reverse_cons, List.reverse_nil, List.nil_append, List.cons_append, List.length_cons, List.length_nil, Option.toList_some, Option.toList_none, det_e, det_x, tr_imp, fa_imp, implies_true, not_true, not_false_eq_true, and_true, true_and, nar_i, upd_s, st1_0, st1_1, st1_2, st1_3, st1_4, st1_5, st1_6, st1_7, st1_8, st1_9, st1_10, st1_11, st1_12, st1_13, st1_14, st1_15, st1_16, st1_17, st1_18, st1_19, st1_20, st1_21, st1_22, st1_23, st1_24, st1_25, st1_26, st1_27, st1_28, st1_29, st1_30, st1_31, st1_32, st1_33, st1_34, st1_35, st1_36, st1_37, st1_42, st1_43, st1_44, st1_46, st1_47, st1_48, st1_49, st1_50, st1_51, st1_52, st1_53, st1_54, st1_55, st1_56, st1_57, st1_58, st1_59, st1_60, Nat.reduceEqDiff, reduceIte, sV, tS_e, tS_0, tS_t, tS_K, tS_P, t_2, hp.f, hp.t, kFi_e, kFi_t, h1, b9F, b9T, j2, hT, cj, nb0, nb1, Nat.succ_ne_zero, ne_eq]
    exact ⟨fun g => by rw [g], fun g => by rw [oq_0 (oqI_01 _ _) g]⟩
  · rw [if_neg (by rw [h1]; decide)]
    simp only [rX11_isOpen_0, kX11_isOpen_0, rX11_isOpen_28, kX11_isOpen_28, rX11_isOpen_29, kX11_isOpen_29, eX11_isOpen, S153, S156, bk_c, if_true, if_false, wi_e, wl_e, wr_e, w1_i, w1_r, ldS_0, ldS_s, vi_e, vl_e, vr_e, dpL_u, dpL_i, dpL_r, dpL_l, stS_0, stS_1, stS_s, stL_0, stL_1, stL_s, bin_0, bin_1, bin_2, bin_3, bin_4, bin_5, bdv_0, bdv_1, lbin_0, lbin_1, lbin_2, cnd_0, cnd_1, cnd_2, cnd_3, cnd_4, cnd_5, aty_0, aty_1, aty_2, aty_3, aty_4, aty_5, c8_u, cn_0, cn_i, cn_r, cn_l, Nat.reduceAdd, Nat.reduceLeDiff, Nat.le_refl, adz, hnd_0, rcv_0, rcv_1, kLen_a, kLen_r, inB_e, inR_e, cpOK_e, swt_n, swt_c, List.take_succ_cons, List.take_zero, List.drop_succ_cons, List.drop_zero, List.reverse_cons, List.reverse_nil, List.nil_append, List.cons_append, List.length_cons, List.length_nil, Option.toList_some, Option.toList_none, det_e, det_x, tr_imp, fa_imp, implies_true, not_true, not_false_eq_true, and_true, true_and, nar_i, upd_s, st1_0, st1_1, st1_2, st1_3, st1_4, st1_5, st1_6, st1_7, st1_8, st1_9, st1_10, st1_11, st1_12, st1_13, st1_14, st1_15, st1_16, st1_17, st1_18, st1_19, st1_20, st1_21, st1_22, st1_23, st1_24, st1_25, st1_26, st1_27, st1_28, st1_29, st1_30, st1_31, st1_32, st1_33, st1_34, st1_35, st1_36, st1_37, st1_42, st1_43, st1_44, st1_46, st1_47, st1_48, st1_49, st1_50, st1_51, st1_52, st1_53, st1_54, st1_55, st1_56, st1_57, st1_58, st1_59, st1_60, Nat.reduceEqDiff, reduceIte, sV, tS_e, tS_0, tS_t, tS_K, tS_P, t_2, hp.f, hp.t, kFi_e, kFi_t, h1, b9F, b9T, i1f, nb0, Nat.succ_ne_zero, ne_eq]
def S145 : Sem := fun as M => match as with
  | [.ref m, .int c] => sV (LM M m ∧ cnt (gI M (m + 2) 1) 12) (some (.int (if kFi M m c = 0 then (if gI M (m + 2) (221 + 11 * c.toNatClampNeg + 10) = 1 then 1 else 0) else 0))) (tS M m (kFi M m c))
  | _ => sF
def eX11_isForced : Nat → Sem := fun id => if id = 131 then S131 else S153
set_option maxRecDepth 100000 in
set_option maxHeartbeats 4000000 in
theorem s_X11_isForced {l : Launch} {G : Gt} (hfl : l.stackTraces = false) : SatM l G 145 S145 := by
  refine t_X11_isForced (E := eX11_isForced) hfl (s_X11_field hfl) (s_X11_noField hfl) fun as M hp => ?_
  unfold S145 at hp ⊢
  split at hp
  case h_2 => exact hp.elim
  rename_i m c
  obtain ⟨hp, hc⟩ := hp
  refine ⟨Nat.le_of_ble_eq_true rfl, ?_⟩
  show Run (gT G) _ _ _ _ _ _ _ 0 [.val (.ref m), .val (.int c)] [] M 0 0
  rcases kFi_or M m c with h1 | h1
  · obtain ⟨j, hj, rfl⟩ := kFi_in h1 hc
    have cj : (nI j).toNatClampNeg = j := nI_clamp (by omega)
    have x5 := xF hj (show 10 ≤ 10 by decide)
    rw [if_pos h1]
    simp only [rX11_isForced_0, kX11_isForced_0, rX11_isForced_33, kX11_isForced_33, rX11_isForced_34, kX11_isForced_34, eX11_isForced, S131, S153, bk_c, if_true, if_false, wi_e, wl_e, wr_e, w1_i, w1_r, ldS_0, ldS_s, vi_e, vl_e, vr_e, dpL_u, dpL_i, dpL_r, dpL_l, stS_0, stS_1, stS_s, stL_0, stL_1, stL_s, bin_0, bin_1, bin_2, bin_3, bin_4, bin_5, bdv_0, bdv_1, lbin_0, lbin_1, lbin_2, cnd_0, cnd_1, cnd_2, cnd_3, cnd_4, cnd_5, aty_0, aty_1, aty_2, aty_3, aty_4, aty_5, c8_u, cn_0, cn_i, cn_r, cn_l, Nat.reduceAdd, Nat.reduceLeDiff, Nat.le_refl, adz, hnd_0, rcv_0, rcv_1, kLen_a, kLen_r, inB_e, inR_e, cpOK_e, swt_n, swt_c, List.take_succ_cons, List.take_zero, List.drop_succ_cons, List.drop_zero, List.reverse_cons, List.reverse_nil, List.nil_append, List.cons_append, List.length_cons, List.length_nil, Option.toList_some, Option.toList_none, det_e, det_x, tr_imp, fa_imp, implies_true, not_true, not_false_eq_true, and_true, true_and, nar_i, upd_s, st1_0, st1_1, st1_2, st1_3, st1_4, st1_5, st1_6, st1_7, st1_8, st1_9, st1_10, st1_11, st1_12, st1_13, st1_14, st1_15, st1_16, st1_17, st1_18, st1_19, st1_20, st1_21, st1_22, st1_23, st1_24, st1_25, st1_26, st1_27, st1_28, st1_29, st1_30, st1_31, st1_32, st1_33, st1_34, st1_35, st1_36, st1_37, st1_42, st1_43, st1_44, st1_46, st1_47, st1_48, st1_49, st1_50, st1_51, st1_52, st1_53, st1_54, st1_55, st1_56, st1_57, st1_58, st1_59, st1_60, Nat.reduceEqDiff, reduceIte, sV, tS_e, tS_0, tS_t, tS_K, tS_P, t_2, hp.f, hp.t, kFi_e, kFi_t, h1, b9F, b9T, f11, ad_10, x5, cj, nb0, nb1, Nat.succ_ne_zero, ne_eq]
    exact ⟨fun g => by rw [if_neg g], fun g => by rw [if_pos (Decidable.not_not.mp g)]⟩
  · rw [if_neg (by rw [h1]; decide)]
    simp only [rX11_isForced_0, kX11_isForced_0, rX11_isForced_33, kX11_isForced_33, rX11_isForced_34, kX11_isForced_34, eX11_isForced, S131, S153, bk_c, if_true, if_false, wi_e, wl_e, wr_e, w1_i, w1_r, ldS_0, ldS_s, vi_e, vl_e, vr_e, dpL_u, dpL_i, dpL_r, dpL_l, stS_0, stS_1, stS_s, stL_0, stL_1, stL_s, bin_0, bin_1, bin_2, bin_3, bin_4, bin_5, bdv_0, bdv_1, lbin_0, lbin_1, lbin_2, cnd_0, cnd_1, cnd_2, cnd_3, cnd_4, cnd_5, aty_0, aty_1, aty_2, aty_3, aty_4, aty_5, c8_u, cn_0, cn_i, cn_r, cn_l, Nat.reduceAdd, Nat.reduceLeDiff, Nat.le_refl, adz, hnd_0, rcv_0, rcv_1, kLen_a, kLen_r, inB_e, inR_e, cpOK_e, swt_n, swt_c, List.take_succ_cons, List.take_zero, List.drop_succ_cons, List.drop_zero, List.reverse_cons, List.reverse_nil, List.nil_append, List.cons_append, List.length_cons, List.length_nil, Option.toList_some, Option.toList_none, det_e, det_x, tr_imp, fa_imp, implies_true, not_true, not_false_eq_true, and_true, true_and, nar_i, upd_s, st1_0, st1_1, st1_2, st1_3, st1_4, st1_5, st1_6, st1_7, st1_8, st1_9, st1_10, st1_11, st1_12, st1_13, st1_14, st1_15, st1_16, st1_17, st1_18, st1_19, st1_20, st1_21, st1_22, st1_23, st1_24, st1_25, st1_26, st1_27, st1_28, st1_29, st1_30, st1_31, st1_32, st1_33, st1_34, st1_35, st1_36, st1_37, st1_42, st1_43, st1_44, st1_46, st1_47, st1_48, st1_49, st1_50, st1_51, st1_52, st1_53, st1_54, st1_55, st1_56, st1_57, st1_58, st1_59, st1_60, Nat.reduceEqDiff, reduceIte, sV, tS_e, tS_0, tS_t, tS_K, tS_P, t_2, hp.f, hp.t, kFi_e, kFi_t, h1, b9F, b9T, i1f, nb0, Nat.succ_ne_zero, ne_eq]
