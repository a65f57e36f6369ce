/-! ===== IrrigationTurns: reading methods ===== -/
/-- a contract that throws: which exception, if any; what it answers and leaves where it doesn't -/
abbrev sTh (pre : Prop) (bad : Option Nat) (v : Option Value) (N M : Mm) : Prop × (Option Value → Mm → Prop) × (Nat → Mm → Prop) := (pre, fun v' M' => bad = none ∧ v' = v ∧ M' = N, fun e M' => bad = some e ∧ ∃ z, gZ M ≤ z ∧ M' = sZ M z)
theorem det_s {c : Prop} {a : Option Value} {b : Mm} {P : Option Value → Mm → Prop} : (∀ (v : Option Value) (M' : Mm), c ∧ v = a ∧ M' = b → P v M') = (c → P a b) :=
  propext ⟨fun h hc => h _ _ ⟨hc, rfl, rfl⟩, fun h v M' e => by rw [e.2.1, e.2.2]; exact h e.1⟩
def bI (i n : Int32) : Option Nat := if i < 0 ∨ n ≤ i then some 1 else none
def bR (x lo hi : Int32) : Option Nat := if x < lo ∨ hi < x then some 0 else none
def orE (a b : Option Nat) : Option Nat := match a with
  | some e => some e
  | none => b
theorem orE_n (b : Option Nat) : orE none b = b := rfl
theorem orE_s (e : Nat) (b : Option Nat) : orE (some e) b = some e := rfl
theorem bI_in {x : Int32} {n N : Nat} (h : bI x (nI n) = none) (hn : n ≤ N) (hN : N < 2 ^ 31) : vp_in x N := by
  unfold bI at h
  split at h
  · cases h
  · rename_i q
    exact vp_in_lt (fun z => q (Or.inl z)) (Int32.not_le.mp fun z => q (Or.inr z)) hn hN
theorem bI_c {x y : Int32} {N : Nat} (h : bI x y = none) (hn : cnt y N) (hN : N < 2 ^ 31) : vp_in x N := by
  obtain ⟨n, h1, rfl⟩ := hn
  exact bI_in h h1 hN
theorem bR_c {x : Int32} {n : Nat} (h : bR x 0 (nI n) = none) : cnt x n := by
  unfold bR at h
  split at h
  · cases h
  · rename_i q
    obtain ⟨j, hj, rfl⟩ := nI_of (fun z => q (Or.inl z))
    rcases Nat.lt_or_ge n j with z | z
    · exact absurd (Or.inr (nI_lt z hj)) q
    · exact ⟨j, z, rfl⟩
def S97 : Sem := fun as M => match as with
  | [.int i, .int n] => sTh True (bI i n) none M M
  | _ => sF
set_option maxRecDepth 100000 in
set_option maxHeartbeats 4000000 in
theorem s_X10_requireIndex {l : Launch} {G : Gt} (hfl : l.stackTraces = false) : SatM l G 97 S97 := by
  refine t_X10_requireIndex (E := fun _ => S0) hfl  fun as M hp => ?_
  unfold S97 at hp ⊢
  split at hp
  case h_2 => exact hp.elim
  rename_i i n
  obtain _ := hp
  refine ⟨Nat.le_of_ble_eq_true rfl, ?_⟩
  show Run (gT G) _ _ _ _ _ _ _ 0 [.val (.int i), .val (.int n)] [] M 0 0
  simp only [rX10_requireIndex_0, kX10_requireIndex_0, rX10_requireIndex_9, kX10_requireIndex_9, rX10_requireIndex_17, kX10_requireIndex_17, bk_c, if_true, if_false, wi_e, wl_e, wr_e, w1_i, w1_r, ldS_0, ldS_s, vi_e, vl_e, vr_e, dpL_u, dpL_i, dpL_r, dpL_l, stS_0, stS_1, stS_s, stL_0, stL_1, stL_s, bin_0, bin_1, bin_2, bin_3, bin_4, bin_5, bdv_0, bdv_1, lbin_0, lbin_1, lbin_2, cnd_0, cnd_1, cnd_2, cnd_3, cnd_4, cnd_5, aty_0, aty_1, aty_2, aty_3, aty_4, aty_5, c8_u, cn_0, cn_i, cn_r, cn_l, Nat.reduceAdd, Nat.reduceLeDiff, Nat.le_refl, adz, hnd_0, rcv_0, rcv_1, kLen_a, kLen_r, inB_e, inR_e, cpOK_e, swt_n, swt_c, List.take_succ_cons, List.take_zero, List.drop_succ_cons, List.drop_zero, List.reverse_cons, List.reverse_nil, List.nil_append, List.cons_append, List.length_cons, List.length_nil, Option.toList_some, Option.toList_none, det_e, det_x, tr_imp, fa_imp, implies_true, not_true, not_false_eq_true, and_true, true_and, nar_i, upd_s, st1_0, st1_1, st1_2, st1_3, st1_4, st1_5, st1_6, st1_7, st1_8, st1_9, st1_10, st1_11, st1_12, st1_13, st1_14, st1_15, st1_16, st1_17, st1_18, st1_19, st1_20, st1_21, st1_22, st1_23, st1_24, st1_25, st1_26, st1_27, st1_28, st1_29, st1_30, st1_31, st1_32, st1_33, st1_34, st1_35, st1_36, st1_37, st1_42, st1_43, st1_44, st1_46, st1_47, st1_48, st1_49, st1_50, st1_51, st1_52, st1_53, st1_54, st1_55, st1_56, st1_57, st1_58, st1_59, st1_60, bI]
  refine ⟨fun h z hz => ⟨if_pos (Or.inl h), z, hz, rfl⟩, fun h => ⟨fun h2 => if_neg (fun q => q.elim h (Int32.not_le.mpr h2)), fun h2 z hz => ⟨if_pos (Or.inr (Int32.not_lt.mp h2)), z, hz, rfl⟩⟩⟩
def S98 : Sem := fun as M => match as with
  | [.int x, .int lo, .int hi] => sTh True (bR x lo hi) none M M
  | _ => sF
set_option maxRecDepth 100000 in
set_option maxHeartbeats 4000000 in
theorem s_X10_requireRange {l : Launch} {G : Gt} (hfl : l.stackTraces = false) : SatM l G 98 S98 := by
  refine t_X10_requireRange (E := fun _ => S0) hfl  fun as M hp => ?_
  unfold S98 at hp ⊢
  split at hp
  case h_2 => exact hp.elim
  rename_i i lo hi
  obtain _ := hp
  refine ⟨Nat.le_of_ble_eq_true rfl, ?_⟩
  show Run (gT G) _ _ _ _ _ _ _ 0 [.val (.int i), .val (.int lo), .val (.int hi)] [] M 0 0
  simp only [rX10_requireRange_0, kX10_requireRange_0, rX10_requireRange_10, kX10_requireRange_10, rX10_requireRange_18, kX10_requireRange_18, bk_c, if_true, if_false, wi_e, wl_e, wr_e, w1_i, w1_r, ldS_0, ldS_s, vi_e, vl_e, vr_e, dpL_u, dpL_i, dpL_r, dpL_l, stS_0, stS_1, stS_s, stL_0, stL_1, stL_s, bin_0, bin_1, bin_2, bin_3, bin_4, bin_5, bdv_0, bdv_1, lbin_0, lbin_1, lbin_2, cnd_0, cnd_1, cnd_2, cnd_3, cnd_4, cnd_5, aty_0, aty_1, aty_2, aty_3, aty_4, aty_5, c8_u, cn_0, cn_i, cn_r, cn_l, Nat.reduceAdd, Nat.reduceLeDiff, Nat.le_refl, adz, hnd_0, rcv_0, rcv_1, kLen_a, kLen_r, inB_e, inR_e, cpOK_e, swt_n, swt_c, List.take_succ_cons, List.take_zero, List.drop_succ_cons, List.drop_zero, List.reverse_cons, List.reverse_nil, List.nil_append, List.cons_append, List.length_cons, List.length_nil, Option.toList_some, Option.toList_none, det_e, det_x, tr_imp, fa_imp, implies_true, not_true, not_false_eq_true, and_true, true_and, nar_i, upd_s, st1_0, st1_1, st1_2, st1_3, st1_4, st1_5, st1_6, st1_7, st1_8, st1_9, st1_10, st1_11, st1_12, st1_13, st1_14, st1_15, st1_16, st1_17, st1_18, st1_19, st1_20, st1_21, st1_22, st1_23, st1_24, st1_25, st1_26, st1_27, st1_28, st1_29, st1_30, st1_31, st1_32, st1_33, st1_34, st1_35, st1_36, st1_37, st1_42, st1_43, st1_44, st1_46, st1_47, st1_48, st1_49, st1_50, st1_51, st1_52, st1_53, st1_54, st1_55, st1_56, st1_57, st1_58, st1_59, st1_60, bR]
  refine ⟨fun h z hz => ⟨if_pos (Or.inl h), z, hz, rfl⟩, fun h => ⟨fun h2 => if_neg (fun q => q.elim h (Int32.not_lt.mpr h2)), fun h2 z hz => ⟨if_pos (Or.inr (Int32.not_le.mp h2)), z, hz, rfl⟩⟩⟩
def S82 : Sem := fun as M => match as with
  | [.ref x] => sV (XP M x) (some (.int (gI M x 4))) M
  | _ => sF
set_option maxRecDepth 100000 in
set_option maxHeartbeats 4000000 in
theorem s_X10_errorOffset {l : Launch} {G : Gt} (hfl : l.stackTraces = false) : SatM l G 82 S82 := by
  refine t_X10_errorOffset (E := fun _ => S0) hfl  fun as M hp => ?_
  unfold S82 at hp ⊢
  split at hp
  case h_2 => exact hp.elim
  rename_i x
  obtain hp := hp
  refine ⟨Nat.le_of_ble_eq_true rfl, ?_⟩
  show Run (gT G) _ _ _ _ _ _ _ 0 [.val (.ref x)] [] M 0 0
  simp only [rX10_errorOffset_0, kX10_errorOffset_0, bk_c, if_true, if_false, wi_e, wl_e, wr_e, w1_i, w1_r, ldS_0, ldS_s, vi_e, vl_e, vr_e, dpL_u, dpL_i, dpL_r, dpL_l, stS_0, stS_1, stS_s, stL_0, stL_1, stL_s, bin_0, bin_1, bin_2, bin_3, bin_4, bin_5, bdv_0, bdv_1, lbin_0, lbin_1, lbin_2, cnd_0, cnd_1, cnd_2, cnd_3, cnd_4, cnd_5, aty_0, aty_1, aty_2, aty_3, aty_4, aty_5, c8_u, cn_0, cn_i, cn_r, cn_l, Nat.reduceAdd, Nat.reduceLeDiff, Nat.le_refl, adz, hnd_0, rcv_0, rcv_1, kLen_a, kLen_r, inB_e, inR_e, cpOK_e, swt_n, swt_c, List.take_succ_cons, List.take_zero, List.drop_succ_cons, List.drop_zero, List.reverse_cons, List.reverse_nil, List.nil_append, List.cons_append, List.length_cons, List.length_nil, Option.toList_some, Option.toList_none, det_e, det_x, tr_imp, fa_imp, implies_true, not_true, not_false_eq_true, and_true, true_and, nar_i, upd_s, st1_0, st1_1, st1_2, st1_3, st1_4, st1_5, st1_6, st1_7, st1_8, st1_9, st1_10, st1_11, st1_12, st1_13, st1_14, st1_15, st1_16, st1_17, st1_18, st1_19, st1_20, st1_21, st1_22, st1_23, st1_24, st1_25, st1_26, st1_27, st1_28, st1_29, st1_30, st1_31, st1_32, st1_33, st1_34, st1_35, st1_36, st1_37, st1_42, st1_43, st1_44, st1_46, st1_47, st1_48, st1_49, st1_50, st1_51, st1_52, st1_53, st1_54, st1_55, st1_56, st1_57, st1_58, st1_59, st1_60, hp.f]
def S77 : Sem := fun as M => match as with
  | [.ref x] => sV (XP M x) (some (.int (gI M (x + 37) 8))) M
  | _ => sF
set_option maxRecDepth 100000 in
set_option maxHeartbeats 4000000 in
theorem s_X10_canalCount {l : Launch} {G : Gt} (hfl : l.stackTraces = false) : SatM l G 77 S77 := by
  refine t_X10_canalCount (E := fun _ => S0) hfl  fun as M hp => ?_
  unfold S77 at hp ⊢
  split at hp
  case h_2 => exact hp.elim
  rename_i x
  obtain hp := hp
  refine ⟨Nat.le_of_ble_eq_true rfl, ?_⟩
  show Run (gT G) _ _ _ _ _ _ _ 0 [.val (.ref x)] [] M 0 0
  simp only [rX10_canalCount_0, kX10_canalCount_0, bk_c, if_true, if_false, wi_e, wl_e, wr_e, w1_i, w1_r, ldS_0, ldS_s, vi_e, vl_e, vr_e, dpL_u, dpL_i, dpL_r, dpL_l, stS_0, stS_1, stS_s, stL_0, stL_1, stL_s, bin_0, bin_1, bin_2, bin_3, bin_4, bin_5, bdv_0, bdv_1, lbin_0, lbin_1, lbin_2, cnd_0, cnd_1, cnd_2, cnd_3, cnd_4, cnd_5, aty_0, aty_1, aty_2, aty_3, aty_4, aty_5, c8_u, cn_0, cn_i, cn_r, cn_l, Nat.reduceAdd, Nat.reduceLeDiff, Nat.le_refl, adz, hnd_0, rcv_0, rcv_1, kLen_a, kLen_r, inB_e, inR_e, cpOK_e, swt_n, swt_c, List.take_succ_cons, List.take_zero, List.drop_succ_cons, List.drop_zero, List.reverse_cons, List.reverse_nil, List.nil_append, List.cons_append, List.length_cons, List.length_nil, Option.toList_some, Option.toList_none, det_e, det_x, tr_imp, fa_imp, implies_true, not_true, not_false_eq_true, and_true, true_and, nar_i, upd_s, st1_0, st1_1, st1_2, st1_3, st1_4, st1_5, st1_6, st1_7, st1_8, st1_9, st1_10, st1_11, st1_12, st1_13, st1_14, st1_15, st1_16, st1_17, st1_18, st1_19, st1_20, st1_21, st1_22, st1_23, st1_24, st1_25, st1_26, st1_27, st1_28, st1_29, st1_30, st1_31, st1_32, st1_33, st1_34, st1_35, st1_36, st1_37, st1_42, st1_43, st1_44, st1_46, st1_47, st1_48, st1_49, st1_50, st1_51, st1_52, st1_53, st1_54, st1_55, st1_56, st1_57, st1_58, st1_59, st1_60, hp.f, Nat.succ_ne_zero, ne_eq]
def S85 : Sem := fun as M => match as with
  | [.ref x] => sV (XP M x) (some (.int (gI M (x + 46) 11))) M
  | _ => sF
set_option maxRecDepth 100000 in
set_option maxHeartbeats 4000000 in
theorem s_X10_fieldCount {l : Launch} {G : Gt} (hfl : l.stackTraces = false) : SatM l G 85 S85 := by
  refine t_X10_fieldCount (E := fun _ => S0) hfl  fun as M hp => ?_
  unfold S85 at hp ⊢
  split at hp
  case h_2 => exact hp.elim
  rename_i x
  obtain hp := hp
  refine ⟨Nat.le_of_ble_eq_true rfl, ?_⟩
  show Run (gT G) _ _ _ _ _ _ _ 0 [.val (.ref x)] [] M 0 0
  simp only [rX10_fieldCount_0, kX10_fieldCount_0, bk_c, if_true, if_false, wi_e, wl_e, wr_e, w1_i, w1_r, ldS_0, ldS_s, vi_e, vl_e, vr_e, dpL_u, dpL_i, dpL_r, dpL_l, stS_0, stS_1, stS_s, stL_0, stL_1, stL_s, bin_0, bin_1, bin_2, bin_3, bin_4, bin_5, bdv_0, bdv_1, lbin_0, lbin_1, lbin_2, cnd_0, cnd_1, cnd_2, cnd_3, cnd_4, cnd_5, aty_0, aty_1, aty_2, aty_3, aty_4, aty_5, c8_u, cn_0, cn_i, cn_r, cn_l, Nat.reduceAdd, Nat.reduceLeDiff, Nat.le_refl, adz, hnd_0, rcv_0, rcv_1, kLen_a, kLen_r, inB_e, inR_e, cpOK_e, swt_n, swt_c, List.take_succ_cons, List.take_zero, List.drop_succ_cons, List.drop_zero, List.reverse_cons, List.reverse_nil, List.nil_append, List.cons_append, List.length_cons, List.length_nil, Option.toList_some, Option.toList_none, det_e, det_x, tr_imp, fa_imp, implies_true, not_true, not_false_eq_true, and_true, true_and, nar_i, upd_s, st1_0, st1_1, st1_2, st1_3, st1_4, st1_5, st1_6, st1_7, st1_8, st1_9, st1_10, st1_11, st1_12, st1_13, st1_14, st1_15, st1_16, st1_17, st1_18, st1_19, st1_20, st1_21, st1_22, st1_23, st1_24, st1_25, st1_26, st1_27, st1_28, st1_29, st1_30, st1_31, st1_32, st1_33, st1_34, st1_35, st1_36, st1_37, st1_42, st1_43, st1_44, st1_46, st1_47, st1_48, st1_49, st1_50, st1_51, st1_52, st1_53, st1_54, st1_55, st1_56, st1_57, st1_58, st1_59, st1_60, hp.f, Nat.succ_ne_zero, ne_eq]
def S79 : Sem := fun as M => match as with
  | [.ref x] => sV (XP M x) (some (.int (gI M (x + 36) 6))) M
  | _ => sF
set_option maxRecDepth 100000 in
set_option maxHeartbeats 4000000 in
theorem s_X10_clock {l : Launch} {G : Gt} (hfl : l.stackTraces = false) : SatM l G 79 S79 := by
  refine t_X10_clock (E := fun _ => S0) hfl  fun as M hp => ?_
  unfold S79 at hp ⊢
  split at hp
  case h_2 => exact hp.elim
  rename_i x
  obtain hp := hp
  refine ⟨Nat.le_of_ble_eq_true rfl, ?_⟩
  show Run (gT G) _ _ _ _ _ _ _ 0 [.val (.ref x)] [] M 0 0
  simp only [rX10_clock_0, kX10_clock_0, bk_c, if_true, if_false, wi_e, wl_e, wr_e, w1_i, w1_r, ldS_0, ldS_s, vi_e, vl_e, vr_e, dpL_u, dpL_i, dpL_r, dpL_l, stS_0, stS_1, stS_s, stL_0, stL_1, stL_s, bin_0, bin_1, bin_2, bin_3, bin_4, bin_5, bdv_0, bdv_1, lbin_0, lbin_1, lbin_2, cnd_0, cnd_1, cnd_2, cnd_3, cnd_4, cnd_5, aty_0, aty_1, aty_2, aty_3, aty_4, aty_5, c8_u, cn_0, cn_i, cn_r, cn_l, Nat.reduceAdd, Nat.reduceLeDiff, Nat.le_refl, adz, hnd_0, rcv_0, rcv_1, kLen_a, kLen_r, inB_e, inR_e, cpOK_e, swt_n, swt_c, List.take_succ_cons, List.take_zero, List.drop_succ_cons, List.drop_zero, List.reverse_cons, List.reverse_nil, List.nil_append, List.cons_append, List.length_cons, List.length_nil, Option.toList_some, Option.toList_none, det_e, det_x, tr_imp, fa_imp, implies_true, not_true, not_false_eq_true, and_true, true_and, nar_i, upd_s, st1_0, st1_1, st1_2, st1_3, st1_4, st1_5, st1_6, st1_7, st1_8, st1_9, st1_10, st1_11, st1_12, st1_13, st1_14, st1_15, st1_16, st1_17, st1_18, st1_19, st1_20, st1_21, st1_22, st1_23, st1_24, st1_25, st1_26, st1_27, st1_28, st1_29, st1_30, st1_31, st1_32, st1_33, st1_34, st1_35, st1_36, st1_37, st1_42, st1_43, st1_44, st1_46, st1_47, st1_48, st1_49, st1_50, st1_51, st1_52, st1_53, st1_54, st1_55, st1_56, st1_57, st1_58, st1_59, st1_60, hp.f, Nat.succ_ne_zero, ne_eq]
def S81 : Sem := fun as M => match as with
  | [.ref x] => sV (XP M x) (some (.int (gI M (x + 58) 3))) M
  | _ => sF
set_option maxRecDepth 100000 in
set_option maxHeartbeats 4000000 in
theorem s_X10_cycleLength {l : Launch} {G : Gt} (hfl : l.stackTraces = false) : SatM l G 81 S81 := by
  refine t_X10_cycleLength (E := fun _ => S0) hfl  fun as M hp => ?_
  unfold S81 at hp ⊢
  split at hp
  case h_2 => exact hp.elim
  rename_i x
  obtain hp := hp
  refine ⟨Nat.le_of_ble_eq_true rfl, ?_⟩
  show Run (gT G) _ _ _ _ _ _ _ 0 [.val (.ref x)] [] M 0 0
  simp only [rX10_cycleLength_0, kX10_cycleLength_0, bk_c, if_true, if_false, wi_e, wl_e, wr_e, w1_i, w1_r, ldS_0, ldS_s, vi_e, vl_e, vr_e, dpL_u, dpL_i, dpL_r, dpL_l, stS_0, stS_1, stS_s, stL_0, stL_1, stL_s, bin_0, bin_1, bin_2, bin_3, bin_4, bin_5, bdv_0, bdv_1, lbin_0, lbin_1, lbin_2, cnd_0, cnd_1, cnd_2, cnd_3, cnd_4, cnd_5, aty_0, aty_1, aty_2, aty_3, aty_4, aty_5, c8_u, cn_0, cn_i, cn_r, cn_l, Nat.reduceAdd, Nat.reduceLeDiff, Nat.le_refl, adz, hnd_0, rcv_0, rcv_1, kLen_a, kLen_r, inB_e, inR_e, cpOK_e, swt_n, swt_c, List.take_succ_cons, List.take_zero, List.drop_succ_cons, List.drop_zero, List.reverse_cons, List.reverse_nil, List.nil_append, List.cons_append, List.length_cons, List.length_nil, Option.toList_some, Option.toList_none, det_e, det_x, tr_imp, fa_imp, implies_true, not_true, not_false_eq_true, and_true, true_and, nar_i, upd_s, st1_0, st1_1, st1_2, st1_3, st1_4, st1_5, st1_6, st1_7, st1_8, st1_9, st1_10, st1_11, st1_12, st1_13, st1_14, st1_15, st1_16, st1_17, st1_18, st1_19, st1_20, st1_21, st1_22, st1_23, st1_24, st1_25, st1_26, st1_27, st1_28, st1_29, st1_30, st1_31, st1_32, st1_33, st1_34, st1_35, st1_36, st1_37, st1_42, st1_43, st1_44, st1_46, st1_47, st1_48, st1_49, st1_50, st1_51, st1_52, st1_53, st1_54, st1_55, st1_56, st1_57, st1_58, st1_59, st1_60, hp.f, Nat.succ_ne_zero, ne_eq]
theorem XP.lr {M : Mm} {x : Nat} (h : XP M x) : Lr M (x + 58) ∧ cnt (gI M (x + 58) 2) 12 := ⟨h.2.1.1.2.2.2.2.1, h.2.1.cR⟩
theorem XP.lm {M : Mm} {x : Nat} (h : XP M x) : Lm M (x + 63) ∧ cnt (gI M (x + 63) 2) 900 := ⟨h.2.1.1.2.2.2.2.2.2.1, h.2.1.cM⟩
theorem XP.lf {M : Mm} {x : Nat} (h : XP M x) : Lf M (x + 46) ∧ cnt (gI M (x + 46) 11) 12 := ⟨h.2.1.1.2.2.2.1, h.2.1.cF⟩
theorem XP.lc {M : Mm} {x : Nat} (h : XP M x) : Lc M (x + 37) ∧ cnt (gI M (x + 37) 8) 16 := ⟨h.2.1.1.2.2.1, h.2.1.cC⟩
theorem plP_ix {M : Mm} {b : Nat} (g : Ix M b) : plP M (b + 25) := by
  obtain ⟨h1, n, f, r, h, -, -, h3, h4, w, p, h5, h6, h7, h8, h9⟩ := g
  unfold plP
  rw [h8, h9]
  intro q
  have := (nI_ltI (by omega) (by omega)).mp q
  exact vp_in_nI (by omega) (by decide)
theorem XP.lg {M : Mm} {x : Nat} (h : XP M x) : Lg M (x + 61) ∧ plP M (x + 61) := ⟨h.2.1.1.2.2.2.2.2.1, plP_ix h.2.1⟩
def S105 : Sem := fun as M => match as with
  | [.ref x, .int t] => sTh (XP M x) (bR t 0 100000) (some (.int (villV M (x + 58) t))) M M
  | _ => sF
def eX10_turnAt : Nat → Sem := fun id => if id = 46 then S46 else S98
set_option maxRecDepth 100000 in
set_option maxHeartbeats 4000000 in
theorem s_X10_turnAt {l : Launch} {G : Gt} (hfl : l.stackTraces = false) : SatM l G 105 S105 := by
  refine t_X10_turnAt (E := eX10_turnAt) hfl (s_X6_villageIn hfl) (s_X10_requireRange hfl) fun as M hp => ?_
  unfold S105 at hp ⊢
  split at hp
  case h_2 => exact hp.elim
  rename_i x t
  obtain hp := hp
  refine ⟨Nat.le_of_ble_eq_true rfl, ?_⟩
  show Run (gT G) _ _ _ _ _ _ _ 0 [.val (.ref x), .val (.int t)] [] M 0 0
  simp only [rX10_turnAt_0, kX10_turnAt_0, eX10_turnAt, S46, S98, bk_c, if_true, if_false, wi_e, wl_e, wr_e, w1_i, w1_r, ldS_0, ldS_s, vi_e, vl_e, vr_e, dpL_u, dpL_i, dpL_r, dpL_l, stS_0, stS_1, stS_s, stL_0, stL_1, stL_s, bin_0, bin_1, bin_2, bin_3, bin_4, bin_5, bdv_0, bdv_1, lbin_0, lbin_1, lbin_2, cnd_0, cnd_1, cnd_2, cnd_3, cnd_4, cnd_5, aty_0, aty_1, aty_2, aty_3, aty_4, aty_5, c8_u, cn_0, cn_i, cn_r, cn_l, Nat.reduceAdd, Nat.reduceLeDiff, Nat.le_refl, adz, hnd_0, rcv_0, rcv_1, kLen_a, kLen_r, inB_e, inR_e, cpOK_e, swt_n, swt_c, List.take_succ_cons, List.take_zero, List.drop_succ_cons, List.drop_zero, List.reverse_cons, List.reverse_nil, List.nil_append, List.cons_append, List.length_cons, List.length_nil, Option.toList_some, Option.toList_none, det_e, det_x, tr_imp, fa_imp, implies_true, not_true, not_false_eq_true, and_true, true_and, nar_i, upd_s, st1_0, st1_1, st1_2, st1_3, st1_4, st1_5, st1_6, st1_7, st1_8, st1_9, st1_10, st1_11, st1_12, st1_13, st1_14, st1_15, st1_16, st1_17, st1_18, st1_19, st1_20, st1_21, st1_22, st1_23, st1_24, st1_25, st1_26, st1_27, st1_28, st1_29, st1_30, st1_31, st1_32, st1_33, st1_34, st1_35, st1_36, st1_37, st1_42, st1_43, st1_44, st1_46, st1_47, st1_48, st1_49, st1_50, st1_51, st1_52, st1_53, st1_54, st1_55, st1_56, st1_57, st1_58, st1_59, st1_60, Nat.reduceEqDiff, reduceIte, det_s, hp.f, Nat.succ_ne_zero, ne_eq, imp_self, sV, hp.lr]
def S91 : Sem := fun as M => match as with
  | [.ref x, .int t] => sTh (XP M x) (bR t 0 100000) (some (.int (fmV ((fmR M (x + 63) t (villV M (x + 58) t)).2 0)))) (sJ M (x + 65) (fmR M (x + 63) t (villV M (x + 58) t)).2) M
  | _ => sF
def eX10_inflow : Nat → Sem := fun id => if id = 29 then S29 else if id = 46 then S46 else S98
set_option maxRecDepth 100000 in
set_option maxHeartbeats 4000000 in
theorem s_X10_inflow {l : Launch} {G : Gt} (hfl : l.stackTraces = false) : SatM l G 91 S91 := by
  refine t_X10_inflow (E := eX10_inflow) hfl (s_X2_inflowIn hfl) (s_X6_villageIn hfl) (s_X10_requireRange hfl) fun as M hp => ?_
  unfold S91 at hp ⊢
  split at hp
  case h_2 => exact hp.elim
  rename_i x t
  obtain hp := hp
  refine ⟨Nat.le_of_ble_eq_true rfl, ?_⟩
  show Run (gT G) _ _ _ _ _ _ _ 0 [.val (.ref x), .val (.int t)] [] M 0 0
  simp only [rX10_inflow_0, kX10_inflow_0, eX10_inflow, S29, S46, S98, bk_c, if_true, if_false, wi_e, wl_e, wr_e, w1_i, w1_r, ldS_0, ldS_s, vi_e, vl_e, vr_e, dpL_u, dpL_i, dpL_r, dpL_l, stS_0, stS_1, stS_s, stL_0, stL_1, stL_s, bin_0, bin_1, bin_2, bin_3, bin_4, bin_5, bdv_0, bdv_1, lbin_0, lbin_1, lbin_2, cnd_0, cnd_1, cnd_2, cnd_3, cnd_4, cnd_5, aty_0, aty_1, aty_2, aty_3, aty_4, aty_5, c8_u, cn_0, cn_i, cn_r, cn_l, Nat.reduceAdd, Nat.reduceLeDiff, Nat.le_refl, adz, hnd_0, rcv_0, rcv_1, kLen_a, kLen_r, inB_e, inR_e, cpOK_e, swt_n, swt_c, List.take_succ_cons, List.take_zero, List.drop_succ_cons, List.drop_zero, List.reverse_cons, List.reverse_nil, List.nil_append, List.cons_append, List.length_cons, List.length_nil, Option.toList_some, Option.toList_none, det_e, det_x, tr_imp, fa_imp, implies_true, not_true, not_false_eq_true, and_true, true_and, nar_i, upd_s, st1_0, st1_1, st1_2, st1_3, st1_4, st1_5, st1_6, st1_7, st1_8, st1_9, st1_10, st1_11, st1_12, st1_13, st1_14, st1_15, st1_16, st1_17, st1_18, st1_19, st1_20, st1_21, st1_22, st1_23, st1_24, st1_25, st1_26, st1_27, st1_28, st1_29, st1_30, st1_31, st1_32, st1_33, st1_34, st1_35, st1_36, st1_37, st1_42, st1_43, st1_44, st1_46, st1_47, st1_48, st1_49, st1_50, st1_51, st1_52, st1_53, st1_54, st1_55, st1_56, st1_57, st1_58, st1_59, st1_60, Nat.add_assoc, Nat.reduceEqDiff, reduceIte, det_s, hp.f, Nat.succ_ne_zero, ne_eq, imp_self, sV, hp.lr, hp.lm]
def S89 : Sem := fun as M => match as with
  | [.ref x] => sV (XP M x) (some (.int (plM M (x + 61)))) M
  | _ => sF
set_option maxRecDepth 100000 in
set_option maxHeartbeats 4000000 in
theorem s_X10_guardAt {l : Launch} {G : Gt} (hfl : l.stackTraces = false) : SatM l G 89 S89 := by
  refine t_X10_guardAt (E := fun _ => S35) hfl (s_X3_place hfl) fun as M hp => ?_
  unfold S89 at hp ⊢
  split at hp
  case h_2 => exact hp.elim
  rename_i x
  obtain hp := hp
  refine ⟨Nat.le_of_ble_eq_true rfl, ?_⟩
  show Run (gT G) _ _ _ _ _ _ _ 0 [.val (.ref x)] [] M 0 0
  simp only [rX10_guardAt_0, kX10_guardAt_0, S35, Nat.reduceEqDiff, reduceIte, bk_c, if_true, if_false, wi_e, wl_e, wr_e, w1_i, w1_r, ldS_0, ldS_s, vi_e, vl_e, vr_e, dpL_u, dpL_i, dpL_r, dpL_l, stS_0, stS_1, stS_s, stL_0, stL_1, stL_s, bin_0, bin_1, bin_2, bin_3, bin_4, bin_5, bdv_0, bdv_1, lbin_0, lbin_1, lbin_2, cnd_0, cnd_1, cnd_2, cnd_3, cnd_4, cnd_5, aty_0, aty_1, aty_2, aty_3, aty_4, aty_5, c8_u, cn_0, cn_i, cn_r, cn_l, Nat.reduceAdd, Nat.reduceLeDiff, Nat.le_refl, adz, hnd_0, rcv_0, rcv_1, kLen_a, kLen_r, inB_e, inR_e, cpOK_e, swt_n, swt_c, List.take_succ_cons, List.take_zero, List.drop_succ_cons, List.drop_zero, List.reverse_cons, List.reverse_nil, List.nil_append, List.cons_append, List.length_cons, List.length_nil, Option.toList_some, Option.toList_none, det_e, det_x, tr_imp, fa_imp, implies_true, not_true, not_false_eq_true, and_true, true_and, nar_i, upd_s, st1_0, st1_1, st1_2, st1_3, st1_4, st1_5, st1_6, st1_7, st1_8, st1_9, st1_10, st1_11, st1_12, st1_13, st1_14, st1_15, st1_16, st1_17, st1_18, st1_19, st1_20, st1_21, st1_22, st1_23, st1_24, st1_25, st1_26, st1_27, st1_28, st1_29, st1_30, st1_31, st1_32, st1_33, st1_34, st1_35, st1_36, st1_37, st1_42, st1_43, st1_44, st1_46, st1_47, st1_48, st1_49, st1_50, st1_51, st1_52, st1_53, st1_54, st1_55, st1_56, st1_57, st1_58, st1_59, st1_60, hp.f, Nat.succ_ne_zero, ne_eq, sV, hp.lg]
def S96 : Sem := fun as M => match as with
  | [.ref x, .int c] => sTh (XP M x) (bI c (gI M (x + 37) 8)) (some (.int (gI M (x + 38) c.toNatClampNeg))) M M
  | _ => sF
set_option maxRecDepth 100000 in
set_option maxHeartbeats 4000000 in
theorem s_X10_parent {l : Launch} {G : Gt} (hfl : l.stackTraces = false) : SatM l G 96 S96 := by
  refine t_X10_parent (E := fun _ => S97) hfl (s_X10_requireIndex hfl) fun as M hp => ?_
  unfold S96 at hp ⊢
  split at hp
  case h_2 => exact hp.elim
  rename_i x c
  obtain hp := hp
  refine ⟨Nat.le_of_ble_eq_true rfl, ?_⟩
  show Run (gT G) _ _ _ _ _ _ _ 0 [.val (.ref x), .val (.int c)] [] M 0 0
  simp only [rX10_parent_0, kX10_parent_0, S97, Nat.reduceEqDiff, reduceIte, bk_c, if_true, if_false, wi_e, wl_e, wr_e, w1_i, w1_r, ldS_0, ldS_s, vi_e, vl_e, vr_e, dpL_u, dpL_i, dpL_r, dpL_l, stS_0, stS_1, stS_s, stL_0, stL_1, stL_s, bin_0, bin_1, bin_2, bin_3, bin_4, bin_5, bdv_0, bdv_1, lbin_0, lbin_1, lbin_2, cnd_0, cnd_1, cnd_2, cnd_3, cnd_4, cnd_5, aty_0, aty_1, aty_2, aty_3, aty_4, aty_5, c8_u, cn_0, cn_i, cn_r, cn_l, Nat.reduceAdd, Nat.reduceLeDiff, Nat.le_refl, adz, hnd_0, rcv_0, rcv_1, kLen_a, kLen_r, inB_e, inR_e, cpOK_e, swt_n, swt_c, List.take_succ_cons, List.take_zero, List.drop_succ_cons, List.drop_zero, List.reverse_cons, List.reverse_nil, List.nil_append, List.cons_append, List.length_cons, List.length_nil, Option.toList_some, Option.toList_none, det_e, det_x, tr_imp, fa_imp, implies_true, not_true, not_false_eq_true, and_true, true_and, nar_i, upd_s, st1_0, st1_1, st1_2, st1_3, st1_4, st1_5, st1_6, st1_7, st1_8, st1_9, st1_10, st1_11, st1_12, st1_13, st1_14, st1_15, st1_16, st1_17, st1_18, st1_19, st1_20, st1_21, st1_22, st1_23, st1_24, st1_25, st1_26, st1_27, st1_28, st1_29, st1_30, st1_31, st1_32, st1_33, st1_34, st1_35, st1_36, st1_37, st1_42, st1_43, st1_44, st1_46, st1_47, st1_48, st1_49, st1_50, st1_51, st1_52, st1_53, st1_54, st1_55, st1_56, st1_57, st1_58, st1_59, st1_60, det_s, hp.f, Nat.succ_ne_zero, ne_eq, imp_self]
  exact fun h => ⟨bI_c h hp.lc.2 (by decide), h⟩
def S76 : Sem := fun as M => match as with
  | [.ref x, .int c] => sTh (XP M x) (bI c (gI M (x + 37) 8)) (some (.int (gI M (x + 43) c.toNatClampNeg))) M M
  | _ => sF
set_option maxRecDepth 100000 in
set_option maxHeartbeats 4000000 in
theorem s_X10_arrived {l : Launch} {G : Gt} (hfl : l.stackTraces = false) : SatM l G 76 S76 := by
  refine t_X10_arrived (E := fun _ => S97) hfl (s_X10_requireIndex hfl) fun as M hp => ?_
  unfold S76 at hp ⊢
  split at hp
  case h_2 => exact hp.elim
  rename_i x c
  obtain hp := hp
  refine ⟨Nat.le_of_ble_eq_true rfl, ?_⟩
  show Run (gT G) _ _ _ _ _ _ _ 0 [.val (.ref x), .val (.int c)] [] M 0 0
  simp only [rX10_arrived_0, kX10_arrived_0, S97, Nat.reduceEqDiff, reduceIte, bk_c, if_true, if_false, wi_e, wl_e, wr_e, w1_i, w1_r, ldS_0, ldS_s, vi_e, vl_e, vr_e, dpL_u, dpL_i, dpL_r, dpL_l, stS_0, stS_1, stS_s, stL_0, stL_1, stL_s, bin_0, bin_1, bin_2, bin_3, bin_4, bin_5, bdv_0, bdv_1, lbin_0, lbin_1, lbin_2, cnd_0, cnd_1, cnd_2, cnd_3, cnd_4, cnd_5, aty_0, aty_1, aty_2, aty_3, aty_4, aty_5, c8_u, cn_0, cn_i, cn_r, cn_l, Nat.reduceAdd, Nat.reduceLeDiff, Nat.le_refl, adz, hnd_0, rcv_0, rcv_1, kLen_a, kLen_r, inB_e, inR_e, cpOK_e, swt_n, swt_c, List.take_succ_cons, List.take_zero, List.drop_succ_cons, List.drop_zero, List.reverse_cons, List.reverse_nil, List.nil_append, List.cons_append, List.length_cons, List.length_nil, Option.toList_some, Option.toList_none, det_e, det_x, tr_imp, fa_imp, implies_true, not_true, not_false_eq_true, and_true, true_and, nar_i, upd_s, st1_0, st1_1, st1_2, st1_3, st1_4, st1_5, st1_6, st1_7, st1_8, st1_9, st1_10, st1_11, st1_12, st1_13, st1_14, st1_15, st1_16, st1_17, st1_18, st1_19, st1_20, st1_21, st1_22, st1_23, st1_24, st1_25, st1_26, st1_27, st1_28, st1_29, st1_30, st1_31, st1_32, st1_33, st1_34, st1_35, st1_36, st1_37, st1_42, st1_43, st1_44, st1_46, st1_47, st1_48, st1_49, st1_50, st1_51, st1_52, st1_53, st1_54, st1_55, st1_56, st1_57, st1_58, st1_59, st1_60, det_s, hp.f, Nat.succ_ne_zero, ne_eq, imp_self]
  exact fun h => ⟨bI_c h hp.lc.2 (by decide), h⟩
def S93 : Sem := fun as M => match as with
  | [.ref x, .int c] => sTh (XP M x ∧ (∀ k, k < 12 → gI M (x + 57) k = 0 ∨ gI M (x + 57) k = 1)) (bI c (gI M (x + 46) 11)) (some (.int (gI M (x + 57) c.toNatClampNeg))) M M
  | _ => sF
theorem vp_cl {x : Int32} {N : Nat} (h : vp_in x N) (hN : N < 2 ^ 31) : x.toNatClampNeg < N := by
  obtain ⟨j, hj, rfl⟩ := vp_in_of h hN
  rw [nI_clamp (by omega)]
  exact hj
theorem nb_01 {x : Int32} (h : x = 0 ∨ x = 1) : vp_nar .boolean x = x := by
  rcases h with rfl | rfl <;> rfl
set_option maxRecDepth 100000 in
set_option maxHeartbeats 4000000 in
theorem s_X10_isForced {l : Launch} {G : Gt} (hfl : l.stackTraces = false) : SatM l G 93 S93 := by
  refine t_X10_isForced (E := fun _ => S97) hfl (s_X10_requireIndex hfl) fun as M hp => ?_
  unfold S93 at hp ⊢
  split at hp
  case h_2 => exact hp.elim
  rename_i x c
  obtain ⟨hp, hb⟩ := hp
  refine ⟨Nat.le_of_ble_eq_true rfl, ?_⟩
  show Run (gT G) _ _ _ _ _ _ _ 0 [.val (.ref x), .val (.int c)] [] M 0 0
  simp only [rX10_isForced_0, kX10_isForced_0, S97, Nat.reduceEqDiff, reduceIte, bk_c, if_true, if_false, wi_e, wl_e, wr_e, w1_i, w1_r, ldS_0, ldS_s, vi_e, vl_e, vr_e, dpL_u, dpL_i, dpL_r, dpL_l, stS_0, stS_1, stS_s, stL_0, stL_1, stL_s, bin_0, bin_1, bin_2, bin_3, bin_4, bin_5, bdv_0, bdv_1, lbin_0, lbin_1, lbin_2, cnd_0, cnd_1, cnd_2, cnd_3, cnd_4, cnd_5, aty_0, aty_1, aty_2, aty_3, aty_4, aty_5, c8_u, cn_0, cn_i, cn_r, cn_l, Nat.reduceAdd, Nat.reduceLeDiff, Nat.le_refl, adz, hnd_0, rcv_0, rcv_1, kLen_a, kLen_r, inB_e, inR_e, cpOK_e, swt_n, swt_c, List.take_succ_cons, List.take_zero, List.drop_succ_cons, List.drop_zero, List.reverse_cons, List.reverse_nil, List.nil_append, List.cons_append, List.length_cons, List.length_nil, Option.toList_some, Option.toList_none, det_e, det_x, tr_imp, fa_imp, implies_true, not_true, not_false_eq_true, and_true, true_and, nar_i, upd_s, st1_0, st1_1, st1_2, st1_3, st1_4, st1_5, st1_6, st1_7, st1_8, st1_9, st1_10, st1_11, st1_12, st1_13, st1_14, st1_15, st1_16, st1_17, st1_18, st1_19, st1_20, st1_21, st1_22, st1_23, st1_24, st1_25, st1_26, st1_27, st1_28, st1_29, st1_30, st1_31, st1_32, st1_33, st1_34, st1_35, st1_36, st1_37, st1_42, st1_43, st1_44, st1_46, st1_47, st1_48, st1_49, st1_50, st1_51, st1_52, st1_53, st1_54, st1_55, st1_56, st1_57, st1_58, st1_59, st1_60, det_s, hp.f, Nat.succ_ne_zero, ne_eq, imp_self]
  exact fun h => ⟨bI_c h hp.lf.2 (by decide), nb_01 (hb _ (vp_cl (bI_c h hp.lf.2 (by decide)) (by decide))), h⟩
def S107 : Sem := fun as M => match as with
  | [.ref x, .int c] => sTh (XP M x) (bI c (gI M (x + 46) 11)) (some (.int (gI M (x + 54) c.toNatClampNeg))) M M
  | _ => sF
set_option maxRecDepth 100000 in
set_option maxHeartbeats 4000000 in
theorem s_X10_water {l : Launch} {G : Gt} (hfl : l.stackTraces = false) : SatM l G 107 S107 := by
  refine t_X10_water (E := fun _ => S97) hfl (s_X10_requireIndex hfl) fun as M hp => ?_
  unfold S107 at hp ⊢
  split at hp
  case h_2 => exact hp.elim
  rename_i x c
  obtain hp := hp
  refine ⟨Nat.le_of_ble_eq_true rfl, ?_⟩
  show Run (gT G) _ _ _ _ _ _ _ 0 [.val (.ref x), .val (.int c)] [] M 0 0
  simp only [rX10_water_0, kX10_water_0, S97, Nat.reduceEqDiff, reduceIte, bk_c, if_true, if_false, wi_e, wl_e, wr_e, w1_i, w1_r, ldS_0, ldS_s, vi_e, vl_e, vr_e, dpL_u, dpL_i, dpL_r, dpL_l, stS_0, stS_1, stS_s, stL_0, stL_1, stL_s, bin_0, bin_1, bin_2, bin_3, bin_4, bin_5, bdv_0, bdv_1, lbin_0, lbin_1, lbin_2, cnd_0, cnd_1, cnd_2, cnd_3, cnd_4, cnd_5, aty_0, aty_1, aty_2, aty_3, aty_4, aty_5, c8_u, cn_0, cn_i, cn_r, cn_l, Nat.reduceAdd, Nat.reduceLeDiff, Nat.le_refl, adz, hnd_0, rcv_0, rcv_1, kLen_a, kLen_r, inB_e, inR_e, cpOK_e, swt_n, swt_c, List.take_succ_cons, List.take_zero, List.drop_succ_cons, List.drop_zero, List.reverse_cons, List.reverse_nil, List.nil_append, List.cons_append, List.length_cons, List.length_nil, Option.toList_some, Option.toList_none, det_e, det_x, tr_imp, fa_imp, implies_true, not_true, not_false_eq_true, and_true, true_and, nar_i, upd_s, st1_0, st1_1, st1_2, st1_3, st1_4, st1_5, st1_6, st1_7, st1_8, st1_9, st1_10, st1_11, st1_12, st1_13, st1_14, st1_15, st1_16, st1_17, st1_18, st1_19, st1_20, st1_21, st1_22, st1_23, st1_24, st1_25, st1_26, st1_27, st1_28, st1_29, st1_30, st1_31, st1_32, st1_33, st1_34, st1_35, st1_36, st1_37, st1_42, st1_43, st1_44, st1_46, st1_47, st1_48, st1_49, st1_50, st1_51, st1_52, st1_53, st1_54, st1_55, st1_56, st1_57, st1_58, st1_59, st1_60, det_s, hp.f, Nat.succ_ne_zero, ne_eq, imp_self]
  exact fun h => ⟨bI_c h hp.lf.2 (by decide), h⟩
def S103 : Sem := fun as M => match as with
  | [.ref x, .int c] => sTh (XP M x) (bI c (gI M (x + 46) 11)) (some (.int (gI M (x + 55) c.toNatClampNeg))) M M
  | _ => sF
set_option maxRecDepth 100000 in
set_option maxHeartbeats 4000000 in
theorem s_X10_taken {l : Launch} {G : Gt} (hfl : l.stackTraces = false) : SatM l G 103 S103 := by
  refine t_X10_taken (E := fun _ => S97) hfl (s_X10_requireIndex hfl) fun as M hp => ?_
  unfold S103 at hp ⊢
  split at hp
  case h_2 => exact hp.elim
  rename_i x c
  obtain hp := hp
  refine ⟨Nat.le_of_ble_eq_true rfl, ?_⟩
  show Run (gT G) _ _ _ _ _ _ _ 0 [.val (.ref x), .val (.int c)] [] M 0 0
  simp only [rX10_taken_0, kX10_taken_0, S97, Nat.reduceEqDiff, reduceIte, bk_c, if_true, if_false, wi_e, wl_e, wr_e, w1_i, w1_r, ldS_0, ldS_s, vi_e, vl_e, vr_e, dpL_u, dpL_i, dpL_r, dpL_l, stS_0, stS_1, stS_s, stL_0, stL_1, stL_s, bin_0, bin_1, bin_2, bin_3, bin_4, bin_5, bdv_0, bdv_1, lbin_0, lbin_1, lbin_2, cnd_0, cnd_1, cnd_2, cnd_3, cnd_4, cnd_5, aty_0, aty_1, aty_2, aty_3, aty_4, aty_5, c8_u, cn_0, cn_i, cn_r, cn_l, Nat.reduceAdd, Nat.reduceLeDiff, Nat.le_refl, adz, hnd_0, rcv_0, rcv_1, kLen_a, kLen_r, inB_e, inR_e, cpOK_e, swt_n, swt_c, List.take_succ_cons, List.take_zero, List.drop_succ_cons, List.drop_zero, List.reverse_cons, List.reverse_nil, List.nil_append, List.cons_append, List.length_cons, List.length_nil, Option.toList_some, Option.toList_none, det_e, det_x, tr_imp, fa_imp, implies_true, not_true, not_false_eq_true, and_true, true_and, nar_i, upd_s, st1_0, st1_1, st1_2, st1_3, st1_4, st1_5, st1_6, st1_7, st1_8, st1_9, st1_10, st1_11, st1_12, st1_13, st1_14, st1_15, st1_16, st1_17, st1_18, st1_19, st1_20, st1_21, st1_22, st1_23, st1_24, st1_25, st1_26, st1_27, st1_28, st1_29, st1_30, st1_31, st1_32, st1_33, st1_34, st1_35, st1_36, st1_37, st1_42, st1_43, st1_44, st1_46, st1_47, st1_48, st1_49, st1_50, st1_51, st1_52, st1_53, st1_54, st1_55, st1_56, st1_57, st1_58, st1_59, st1_60, det_s, hp.f, Nat.succ_ne_zero, ne_eq, imp_self]
  exact fun h => ⟨bI_c h hp.lf.2 (by decide), h⟩
def S100 : Sem := fun as M => match as with
  | [.ref x, .int c] => sTh (XP M x) (bI c (gI M (x + 46) 11)) (some (.int (gI M (x + 56) c.toNatClampNeg))) M M
  | _ => sF
set_option maxRecDepth 100000 in
set_option maxHeartbeats 4000000 in
theorem s_X10_stolen {l : Launch} {G : Gt} (hfl : l.stackTraces = false) : SatM l G 100 S100 := by
  refine t_X10_stolen (E := fun _ => S97) hfl (s_X10_requireIndex hfl) fun as M hp => ?_
  unfold S100 at hp ⊢
  split at hp
  case h_2 => exact hp.elim
  rename_i x c
  obtain hp := hp
  refine ⟨Nat.le_of_ble_eq_true rfl, ?_⟩
  show Run (gT G) _ _ _ _ _ _ _ 0 [.val (.ref x), .val (.int c)] [] M 0 0
  simp only [rX10_stolen_0, kX10_stolen_0, S97, Nat.reduceEqDiff, reduceIte, bk_c, if_true, if_false, wi_e, wl_e, wr_e, w1_i, w1_r, ldS_0, ldS_s, vi_e, vl_e, vr_e, dpL_u, dpL_i, dpL_r, dpL_l, stS_0, stS_1, stS_s, stL_0, stL_1, stL_s, bin_0, bin_1, bin_2, bin_3, bin_4, bin_5, bdv_0, bdv_1, lbin_0, lbin_1, lbin_2, cnd_0, cnd_1, cnd_2, cnd_3, cnd_4, cnd_5, aty_0, aty_1, aty_2, aty_3, aty_4, aty_5, c8_u, cn_0, cn_i, cn_r, cn_l, Nat.reduceAdd, Nat.reduceLeDiff, Nat.le_refl, adz, hnd_0, rcv_0, rcv_1, kLen_a, kLen_r, inB_e, inR_e, cpOK_e, swt_n, swt_c, List.take_succ_cons, List.take_zero, List.drop_succ_cons, List.drop_zero, List.reverse_cons, List.reverse_nil, List.nil_append, List.cons_append, List.length_cons, List.length_nil, Option.toList_some, Option.toList_none, det_e, det_x, tr_imp, fa_imp, implies_true, not_true, not_false_eq_true, and_true, true_and, nar_i, upd_s, st1_0, st1_1, st1_2, st1_3, st1_4, st1_5, st1_6, st1_7, st1_8, st1_9, st1_10, st1_11, st1_12, st1_13, st1_14, st1_15, st1_16, st1_17, st1_18, st1_19, st1_20, st1_21, st1_22, st1_23, st1_24, st1_25, st1_26, st1_27, st1_28, st1_29, st1_30, st1_31, st1_32, st1_33, st1_34, st1_35, st1_36, st1_37, st1_42, st1_43, st1_44, st1_46, st1_47, st1_48, st1_49, st1_50, st1_51, st1_52, st1_53, st1_54, st1_55, st1_56, st1_57, st1_58, st1_59, st1_60, det_s, hp.f, Nat.succ_ne_zero, ne_eq, imp_self]
  exact fun h => ⟨bI_c h hp.lf.2 (by decide), h⟩
def S86 : Sem := fun as M => match as with
  | [.ref x, .int c] => sTh (XP M x) (bI c 6) (some (.int (gI M (x + 67) c.toNatClampNeg))) M M
  | _ => sF
set_option maxRecDepth 100000 in
set_option maxHeartbeats 4000000 in
theorem s_X10_fines {l : Launch} {G : Gt} (hfl : l.stackTraces = false) : SatM l G 86 S86 := by
  refine t_X10_fines (E := fun _ => S97) hfl (s_X10_requireIndex hfl) fun as M hp => ?_
  unfold S86 at hp ⊢
  split at hp
  case h_2 => exact hp.elim
  rename_i x c
  obtain hp := hp
  refine ⟨Nat.le_of_ble_eq_true rfl, ?_⟩
  show Run (gT G) _ _ _ _ _ _ _ 0 [.val (.ref x), .val (.int c)] [] M 0 0
  simp only [rX10_fines_0, kX10_fines_0, S97, Nat.reduceEqDiff, reduceIte, bk_c, if_true, if_false, wi_e, wl_e, wr_e, w1_i, w1_r, ldS_0, ldS_s, vi_e, vl_e, vr_e, dpL_u, dpL_i, dpL_r, dpL_l, stS_0, stS_1, stS_s, stL_0, stL_1, stL_s, bin_0, bin_1, bin_2, bin_3, bin_4, bin_5, bdv_0, bdv_1, lbin_0, lbin_1, lbin_2, cnd_0, cnd_1, cnd_2, cnd_3, cnd_4, cnd_5, aty_0, aty_1, aty_2, aty_3, aty_4, aty_5, c8_u, cn_0, cn_i, cn_r, cn_l, Nat.reduceAdd, Nat.reduceLeDiff, Nat.le_refl, adz, hnd_0, rcv_0, rcv_1, kLen_a, kLen_r, inB_e, inR_e, cpOK_e, swt_n, swt_c, List.take_succ_cons, List.take_zero, List.drop_succ_cons, List.drop_zero, List.reverse_cons, List.reverse_nil, List.nil_append, List.cons_append, List.length_cons, List.length_nil, Option.toList_some, Option.toList_none, det_e, det_x, tr_imp, fa_imp, implies_true, not_true, not_false_eq_true, and_true, true_and, nar_i, upd_s, st1_0, st1_1, st1_2, st1_3, st1_4, st1_5, st1_6, st1_7, st1_8, st1_9, st1_10, st1_11, st1_12, st1_13, st1_14, st1_15, st1_16, st1_17, st1_18, st1_19, st1_20, st1_21, st1_22, st1_23, st1_24, st1_25, st1_26, st1_27, st1_28, st1_29, st1_30, st1_31, st1_32, st1_33, st1_34, st1_35, st1_36, st1_37, st1_42, st1_43, st1_44, st1_46, st1_47, st1_48, st1_49, st1_50, st1_51, st1_52, st1_53, st1_54, st1_55, st1_56, st1_57, st1_58, st1_59, st1_60, det_s, hp.f, Nat.succ_ne_zero, ne_eq, imp_self]
  exact fun h => ⟨bI_in (n := 6) h (Nat.le_refl 6) (by decide), h⟩
def S94 : Sem := fun as M => match as with
  | [.ref x, .int c] => sTh (XP M x) (bI c (gI M (x + 46) 11)) (some (.int (bG M (x + 46) c.toNatClampNeg (villV M (x + 58) (gI M (x + 36) 6))))) M M
  | _ => sF
def eX10_isOpen : Nat → Sem := fun id => if id = 17 then S17 else if id = 46 then S46 else S97
set_option maxRecDepth 100000 in
set_option maxHeartbeats 4000000 in
theorem s_X10_isOpen {l : Launch} {G : Gt} (hfl : l.stackTraces = false) : SatM l G 94 S94 := by
  refine t_X10_isOpen (E := eX10_isOpen) hfl (s_X1_hasOpenGate hfl) (s_X6_villageIn hfl) (s_X10_requireIndex hfl) fun as M hp => ?_
  unfold S94 at hp ⊢
  split at hp
  case h_2 => exact hp.elim
  rename_i x c
  obtain hp := hp
  refine ⟨Nat.le_of_ble_eq_true rfl, ?_⟩
  show Run (gT G) _ _ _ _ _ _ _ 0 [.val (.ref x), .val (.int c)] [] M 0 0
  simp only [rX10_isOpen_0, kX10_isOpen_0, eX10_isOpen, S17, S46, S97, bk_c, if_true, if_false, wi_e, wl_e, wr_e, w1_i, w1_r, ldS_0, ldS_s, vi_e, vl_e, vr_e, dpL_u, dpL_i, dpL_r, dpL_l, stS_0, stS_1, stS_s, stL_0, stL_1, stL_s, bin_0, bin_1, bin_2, bin_3, bin_4, bin_5, bdv_0, bdv_1, lbin_0, lbin_1, lbin_2, cnd_0, cnd_1, cnd_2, cnd_3, cnd_4, cnd_5, aty_0, aty_1, aty_2, aty_3, aty_4, aty_5, c8_u, cn_0, cn_i, cn_r, cn_l, Nat.reduceAdd, Nat.reduceLeDiff, Nat.le_refl, adz, hnd_0, rcv_0, rcv_1, kLen_a, kLen_r, inB_e, inR_e, cpOK_e, swt_n, swt_c, List.take_succ_cons, List.take_zero, List.drop_succ_cons, List.drop_zero, List.reverse_cons, List.reverse_nil, List.nil_append, List.cons_append, List.length_cons, List.length_nil, Option.toList_some, Option.toList_none, det_e, det_x, tr_imp, fa_imp, implies_true, not_true, not_false_eq_true, and_true, true_and, nar_i, upd_s, st1_0, st1_1, st1_2, st1_3, st1_4, st1_5, st1_6, st1_7, st1_8, st1_9, st1_10, st1_11, st1_12, st1_13, st1_14, st1_15, st1_16, st1_17, st1_18, st1_19, st1_20, st1_21, st1_22, st1_23, st1_24, st1_25, st1_26, st1_27, st1_28, st1_29, st1_30, st1_31, st1_32, st1_33, st1_34, st1_35, st1_36, st1_37, st1_42, st1_43, st1_44, st1_46, st1_47, st1_48, st1_49, st1_50, st1_51, st1_52, st1_53, st1_54, st1_55, st1_56, st1_57, st1_58, st1_59, st1_60, Nat.reduceEqDiff, reduceIte, det_s, hp.f, Nat.succ_ne_zero, ne_eq, imp_self, sV, hp.lr, hp.lf]
  exact fun h => ⟨bI_c h hp.lf.2 (by decide), nb_01 (bG_0 _ _ _ _), h⟩
def S84 : Sem := fun as M => match as with
  | [.ref x, .int c, .int h] => sTh (XP M x) (orE (bI c 6) (bR h 0 1000)) (some (.int (fpV M (x + 46) c h))) M M
  | _ => sF
theorem orE_i {a b : Option Nat} {P : Nat → Prop} : (∀ (e : Nat) (M' : Mm), (a = some e ∧ ∃ z, gZ M' ≤ z) → P e) → True := fun _ => trivial
def eX10_fairHours : Nat → Sem := fun id => if id = 16 then S16 else if id = 97 then S97 else S98
set_option maxRecDepth 100000 in
set_option maxHeartbeats 4000000 in
theorem s_X10_fairHours {l : Launch} {G : Gt} (hfl : l.stackTraces = false) : SatM l G 84 S84 := by
  refine t_X10_fairHours (E := eX10_fairHours) hfl (s_X1_fairPart hfl) (s_X10_requireIndex hfl) (s_X10_requireRange hfl) fun as M hp => ?_
  unfold S84 at hp ⊢
  split at hp
  case h_2 => exact hp.elim
  rename_i x c h
  obtain hp := hp
  refine ⟨Nat.le_of_ble_eq_true rfl, ?_⟩
  show Run (gT G) _ _ _ _ _ _ _ 0 [.val (.ref x), .val (.int c), .val (.int h)] [] M 0 0
  simp only [rX10_fairHours_0, kX10_fairHours_0, eX10_fairHours, S16, S97, S98, bk_c, if_true, if_false, wi_e, wl_e, wr_e, w1_i, w1_r, ldS_0, ldS_s, vi_e, vl_e, vr_e, dpL_u, dpL_i, dpL_r, dpL_l, stS_0, stS_1, stS_s, stL_0, stL_1, stL_s, bin_0, bin_1, bin_2, bin_3, bin_4, bin_5, bdv_0, bdv_1, lbin_0, lbin_1, lbin_2, cnd_0, cnd_1, cnd_2, cnd_3, cnd_4, cnd_5, aty_0, aty_1, aty_2, aty_3, aty_4, aty_5, c8_u, cn_0, cn_i, cn_r, cn_l, Nat.reduceAdd, Nat.reduceLeDiff, Nat.le_refl, adz, hnd_0, rcv_0, rcv_1, kLen_a, kLen_r, inB_e, inR_e, cpOK_e, swt_n, swt_c, List.take_succ_cons, List.take_zero, List.drop_succ_cons, List.drop_zero, List.reverse_cons, List.reverse_nil, List.nil_append, List.cons_append, List.length_cons, List.length_nil, Option.toList_some, Option.toList_none, det_e, det_x, tr_imp, fa_imp, implies_true, not_true, not_false_eq_true, and_true, true_and, nar_i, upd_s, st1_0, st1_1, st1_2, st1_3, st1_4, st1_5, st1_6, st1_7, st1_8, st1_9, st1_10, st1_11, st1_12, st1_13, st1_14, st1_15, st1_16, st1_17, st1_18, st1_19, st1_20, st1_21, st1_22, st1_23, st1_24, st1_25, st1_26, st1_27, st1_28, st1_29, st1_30, st1_31, st1_32, st1_33, st1_34, st1_35, st1_36, st1_37, st1_42, st1_43, st1_44, st1_46, st1_47, st1_48, st1_49, st1_50, st1_51, st1_52, st1_53, st1_54, st1_55, st1_56, st1_57, st1_58, st1_59, st1_60, Nat.reduceEqDiff, reduceIte, det_s, hp.f, Nat.succ_ne_zero, ne_eq, sV, hp.lf]
  refine ⟨fun h1 => ⟨fun h2 => ?_, fun e M' he => ?_⟩, fun e M' he => ?_⟩
  · rw [h1, h2]
    exact rfl
  · rw [h1]
    exact he
  · rw [he.1]
    exact ⟨rfl, he.2⟩
def S108 : Sem := fun as M => match as with
  | [.ref x, .int c, .int h] => sTh (XP M x) (orE (bI c (gI M (x + 37) 8)) (bR h 0 5)) (some (.int (if h < gI M (x + 39) c.toNatClampNeg then gI M (x + 45) (slotv c (gI M (x + 36) 6 + h)).toNatClampNeg else 0))) M M
  | _ => sF
theorem XP.h {M : Mm} {x : Nat} (h : XP M x) : ∃ t, t < 2 ^ 30 ∧ gI M (x + 36) 6 = nI t := by
  obtain ⟨-, ⟨-, n, f, r, t, h2, h3, -⟩, -⟩ := h
  exact ⟨t, h2.2.2.2, h3.2.2.2⟩
def eX10_waterIn : Nat → Sem := fun id => if id = 0 then S0 else if id = 97 then S97 else S98
set_option maxRecDepth 100000 in
set_option maxHeartbeats 4000000 in
theorem s_X10_waterIn {l : Launch} {G : Gt} (hfl : l.stackTraces = false) : SatM l G 108 S108 := by
  refine t_X10_waterIn (E := eX10_waterIn) hfl (s_X0_amountDue hfl) (s_X10_requireIndex hfl) (s_X10_requireRange hfl) fun as M hp => ?_
  unfold S108 at hp ⊢
  split at hp
  case h_2 => exact hp.elim
  rename_i x c h
  obtain hp := hp
  refine ⟨Nat.le_of_ble_eq_true rfl, ?_⟩
  show Run (gT G) _ _ _ _ _ _ _ 0 [.val (.ref x), .val (.int c), .val (.int h)] [] M 0 0
  simp only [rX10_waterIn_0, kX10_waterIn_0, eX10_waterIn, S0, S97, S98, bk_c, if_true, if_false, wi_e, wl_e, wr_e, w1_i, w1_r, ldS_0, ldS_s, vi_e, vl_e, vr_e, dpL_u, dpL_i, dpL_r, dpL_l, stS_0, stS_1, stS_s, stL_0, stL_1, stL_s, bin_0, bin_1, bin_2, bin_3, bin_4, bin_5, bdv_0, bdv_1, lbin_0, lbin_1, lbin_2, cnd_0, cnd_1, cnd_2, cnd_3, cnd_4, cnd_5, aty_0, aty_1, aty_2, aty_3, aty_4, aty_5, c8_u, cn_0, cn_i, cn_r, cn_l, Nat.reduceAdd, Nat.reduceLeDiff, Nat.le_refl, adz, hnd_0, rcv_0, rcv_1, kLen_a, kLen_r, inB_e, inR_e, cpOK_e, swt_n, swt_c, List.take_succ_cons, List.take_zero, List.drop_succ_cons, List.drop_zero, List.reverse_cons, List.reverse_nil, List.nil_append, List.cons_append, List.length_cons, List.length_nil, Option.toList_some, Option.toList_none, det_e, det_x, tr_imp, fa_imp, implies_true, not_true, not_false_eq_true, and_true, true_and, nar_i, upd_s, st1_0, st1_1, st1_2, st1_3, st1_4, st1_5, st1_6, st1_7, st1_8, st1_9, st1_10, st1_11, st1_12, st1_13, st1_14, st1_15, st1_16, st1_17, st1_18, st1_19, st1_20, st1_21, st1_22, st1_23, st1_24, st1_25, st1_26, st1_27, st1_28, st1_29, st1_30, st1_31, st1_32, st1_33, st1_34, st1_35, st1_36, st1_37, st1_42, st1_43, st1_44, st1_46, st1_47, st1_48, st1_49, st1_50, st1_51, st1_52, st1_53, st1_54, st1_55, st1_56, st1_57, st1_58, st1_59, st1_60, Nat.add_assoc, Nat.reduceEqDiff, reduceIte, det_s, hp.f, Nat.succ_ne_zero, ne_eq, sV, hp.lc]
  refine ⟨fun h1 => ⟨fun h2 => ⟨⟨bI_c h1 hp.lc.2 (by decide), fun _ => ?_⟩, ?_⟩, fun e M' he => ?_⟩, fun e M' he => ?_⟩
  · obtain ⟨t, ht, et⟩ := hp.h
    obtain ⟨j, hj, rfl⟩ := bR_c (n := 5) h2
    obtain ⟨i, hi, rfl⟩ := vp_in_of (bI_c h1 hp.lc.2 (by decide)) (by decide)
    rw [et, nI_add]
    exact slot_in hi (by omega)
  · rw [h1, h2]
    exact rfl
  · rw [h1]
    exact he
  · rw [he.1]
    exact ⟨rfl, he.2⟩
def toV (M : Mm) (x : Nat) (w : Int32) : Int64 := if w = 0 then gJ M (x + 66) 1 else if w = 1 then itr (wsA (gI M (x + 45))) ((gI M (x + 37) 8).toNatClampNeg * 7) 0 0 else if w = 2 then itr (wsA (gI M (x + 54))) (gI M (x + 46) 11).toNatClampNeg 0 0 else if w = 3 then gJ M (x + 66) 2 else if w = 4 then gJ M (x + 66) 3 else gJ M (x + 66) 4
def S104 : Sem := fun as M => match as with
  | [.ref x, .int w] => sTh (XP M x) (bR w 0 5) (some (.long (toV M x w))) M M
  | _ => sF
def eX10_total : Nat → Sem := fun id => if id = 12 then S12 else if id = 24 then S24 else S98
set_option maxRecDepth 100000 in
set_option maxHeartbeats 4000000 in
theorem s_X10_total {l : Launch} {G : Gt} (hfl : l.stackTraces = false) : SatM l G 104 S104 := by
  refine t_X10_total (E := eX10_total) hfl (s_X0_waterInAll hfl) (s_X1_waterInAll hfl) (s_X10_requireRange hfl) fun as M hp => ?_
  unfold S104 at hp ⊢
  split at hp
  case h_2 => exact hp.elim
  rename_i x w
  obtain hp := hp
  refine ⟨Nat.le_of_ble_eq_true rfl, ?_⟩
  show Run (gT G) _ _ _ _ _ _ _ 0 [.val (.ref x), .val (.int w)] [] M 0 0
  simp only [rX10_total_0, kX10_total_0, rX10_total_40, kX10_total_40, rX10_total_51, kX10_total_51, rX10_total_62, kX10_total_62, rX10_total_73, kX10_total_73, rX10_total_84, kX10_total_84, rX10_total_95, kX10_total_95, eX10_total, S12, S24, S98, bk_c, if_true, if_false, wi_e, wl_e, wr_e, w1_i, w1_r, ldS_0, ldS_s, vi_e, vl_e, vr_e, dpL_u, dpL_i, dpL_r, dpL_l, stS_0, stS_1, stS_s, stL_0, stL_1, stL_s, bin_0, bin_1, bin_2, bin_3, bin_4, bin_5, bdv_0, bdv_1, lbin_0, lbin_1, lbin_2, cnd_0, cnd_1, cnd_2, cnd_3, cnd_4, cnd_5, aty_0, aty_1, aty_2, aty_3, aty_4, aty_5, c8_u, cn_0, cn_i, cn_r, cn_l, Nat.reduceAdd, Nat.reduceLeDiff, Nat.le_refl, adz, hnd_0, rcv_0, rcv_1, kLen_a, kLen_r, inB_e, inR_e, cpOK_e, swt_n, swt_c, List.take_succ_cons, List.take_zero, List.drop_succ_cons, List.drop_zero, List.reverse_cons, List.reverse_nil, List.nil_append, List.cons_append, List.length_cons, List.length_nil, Option.toList_some, Option.toList_none, det_e, det_x, tr_imp, fa_imp, implies_true, not_true, not_false_eq_true, and_true, true_and, nar_i, upd_s, st1_0, st1_1, st1_2, st1_3, st1_4, st1_5, st1_6, st1_7, st1_8, st1_9, st1_10, st1_11, st1_12, st1_13, st1_14, st1_15, st1_16, st1_17, st1_18, st1_19, st1_20, st1_21, st1_22, st1_23, st1_24, st1_25, st1_26, st1_27, st1_28, st1_29, st1_30, st1_31, st1_32, st1_33, st1_34, st1_35, st1_36, st1_37, st1_42, st1_43, st1_44, st1_46, st1_47, st1_48, st1_49, st1_50, st1_51, st1_52, st1_53, st1_54, st1_55, st1_56, st1_57, st1_58, st1_59, st1_60, Nat.add_assoc, Nat.reduceEqDiff, reduceIte, det_s, hp.f, Nat.succ_ne_zero, ne_eq, sV, hp.lc, hp.lf, imp_self]
  intro h1
  obtain ⟨j, hj, rfl⟩ := bR_c (n := 5) h1
  rw [nI_toInt (by omega)]
  unfold toV
  rcases (show j = 0 ∨ j = 1 ∨ j = 2 ∨ j = 3 ∨ j = 4 ∨ j = 5 by omega) with rfl | rfl | rfl | rfl | rfl | rfl <;> refine ⟨fun g => ?_, fun g => ?_, fun g => ?_, fun g => ?_, fun g => ?_, fun g => ?_⟩ <;> first | exact absurd g (by decide) | exact ⟨h1, rfl⟩
