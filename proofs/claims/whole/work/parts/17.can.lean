/-! ===== Canals ===== -/
theorem det_e {a : Option Value} {b : Mm} {P : Option Value → Mm → Prop} : (∀ (v : Option Value) (M' : Mm), v = a ∧ M' = b → P v M') = P a b :=
  propext ⟨fun h => h _ _ ⟨rfl, rfl⟩, fun h v M' e => by rw [e.1, e.2]; exact h⟩
theorem det_x {P : Nat → Mm → Prop} : (∀ (e : Nat) (M' : Mm), False → P e M') = True := propext ⟨fun _ => trivial, fun _ _ _ h => h.elim⟩
theorem tr_imp (P : Prop) : (True → P) = P := propext ⟨fun h => h trivial, fun h _ => h⟩
theorem fa_imp (P : Prop) : (False → P) = True := propext ⟨fun _ => trivial, fun _ h => h.elim⟩
theorem upd_s (f : Nat → Int32) (k : Nat) (x : Int32) : upd f k x k = x := if_pos rfl
theorem upd_n (f : Nat → Int32) {k j : Nat} (x : Int32) (h : j ≠ k) : upd f k x j = f j := if_neg h
theorem up_q {α : Type} (f : Nat → α) (c i j : Nat) (v : α) : va_up f (c + i) v (c + j) = if j = i then v else f (c + j) := by
  unfold va_up
  by_cases h : j = i
  · rw [if_pos (by rw [h]), if_pos h]
  · rw [if_neg (by omega), if_neg h]
theorem up_q0 {α : Type} (f : Nat → α) (c i : Nat) (v : α) : va_up f (c + i) v c = if i = 0 then v else f c := by
  unfold va_up
  by_cases h : i = 0
  · rw [if_pos (by omega), if_pos h]
  · rw [if_neg (by omega), if_neg h]
theorem up_q1 {α : Type} (f : Nat → α) (c j : Nat) (v : α) : va_up f c v (c + j) = if j = 0 then v else f (c + j) := by
  unfold va_up
  by_cases h : j = 0
  · rw [if_pos (by omega), if_pos h]
  · rw [if_neg (by omega), if_neg h]
/-- a Canals at c: its rows behind it -/
def Lc (M : Mm) (c : Nat) : Prop := gK M c = kO 0 ∧ (gP M c 0 = c + 1 ∧ gP M c 1 = c + 2 ∧ gP M c 2 = c + 3 ∧ gP M c 3 = c + 4 ∧ gP M c 4 = c + 5 ∧ gP M c 5 = c + 6 ∧ gP M c 6 = c + 7 ∧ gP M c 7 = c + 8) ∧
  gK M (c + 1) = kA .int 16 ∧ gK M (c + 2) = kA .int 16 ∧ gK M (c + 3) = kA .int 16 ∧ gK M (c + 4) = kA .int 16 ∧ gK M (c + 5) = kA .int 16 ∧ gK M (c + 6) = kA .int 16 ∧ gK M (c + 7) = kA .boolean 16 ∧ gK M (c + 8) = kA .int 112
def sF : Prop × (Option Value → Mm → Prop) × (Nat → Mm → Prop) := (False, fun _ _ => False, fun _ _ => False)
/-- a contract that answers v and leaves M' -/
abbrev sV (pre : Prop) (v : Option Value) (N : Mm) : Prop × (Option Value → Mm → Prop) × (Nat → Mm → Prop) := (pre, fun v' M' => v' = v ∧ M' = N, fun _ _ => False)
def slotv (x y : Int32) : Int32 := x * 7 + (y - y / 7 * 7)
def S11 : Sem := fun as M => match as with
  | [.int x, .int y] => sV True (some (.int (slotv x y))) M
  | _ => sF
def S10 : Sem := fun as M => match as with
  | [.ref c, .int x, .int y, .int z] => sV (Lc M c ∧ vp_in x 16 ∧ vp_in (slotv x (y + gI M (c + 2) x.toNatClampNeg)) 112) none (sI M (c + 8) (upd (gI M (c + 8)) (slotv x (y + gI M (c + 2) x.toNatClampNeg)).toNatClampNeg z))
  | _ => sF
def S6 : Sem := fun as M => match as with
  | [.ref c, .int x, .int y] => sV (Lc M c ∧ vp_in x 16 ∧ vp_in (slotv x y) 112) (some (.int (gI M (c + 8) (slotv x y).toNatClampNeg))) (sI (sI M (c + 6) (upd (gI M (c + 6)) x.toNatClampNeg (gI M (c + 8) (slotv x y).toNatClampNeg))) (c + 8) (upd (gI M (c + 8)) (slotv x y).toNatClampNeg 0))
  | _ => sF
def S0 : Sem := fun as M => match as with
  | [.ref c, .int x, .int y, .int z] => sV (Lc M c ∧ vp_in x 16 ∧ (z < gI M (c + 2) x.toNatClampNeg → vp_in (slotv x (y + z)) 112)) (some (.int (if z < gI M (c + 2) x.toNatClampNeg then gI M (c + 8) (slotv x (y + z)).toNatClampNeg else 0))) M
  | _ => sF
def b9 (p : Prop) [Decidable p] : Int32 := if p then 1 else 0
theorem b9_t {p : Prop} [Decidable p] (h : p) : b9 p = 1 := if_pos h
theorem b9_f {p : Prop} [Decidable p] (h : ¬ p) : b9 p = 0 := if_neg h
theorem b9_n (p : Prop) [Decidable p] : vp_nar .boolean (b9 p) = b9 p := by
  unfold b9
  split <;> rfl
def S5 : Sem := fun as M => match as with
  | [.ref c, .int x, .int y] => sV (Lc M c ∧ vp_in x 16) (some (.int (b9 (gI M (c + 1) x.toNatClampNeg = y ∧ ¬ gI M (c + 7) x.toNatClampNeg = 0)))) M
  | _ => sF
def opA (M : Mm) (c : Nat) (x : Int32) : Nat → Int32 := if ¬ x < 0 ∧ x < gI M c 8 then upd (gI M (c + 7)) x.toNatClampNeg 1 else gI M (c + 7)
def S7 : Sem := fun as M => match as with
  | [.ref c, .int x] => sV (Lc M c ∧ ∃ n, n ≤ 16 ∧ gI M c 8 = nI n) none (sI M (c + 7) (opA M c x))
  | _ => sF
theorem sI_id (M : Mm) (a : Nat) : sI M a (gI M a) = M := by
  refine Mm_ext rfl ?_ rfl rfl rfl
  rw [gI_sI]
  funext q
  by_cases h : q = a
  · rw [h, up_s]
  · rw [up_n _ _ h]
theorem sI_sI (M : Mm) (a : Nat) (f g : Nat → Int32) : sI (sI M a f) a g = sI M a g := by
  refine Mm_ext rfl ?_ rfl rfl rfl
  rw [gI_sI, gI_sI, gI_sI]
  funext q
  by_cases h : q = a
  · rw [h, up_s, up_s]
  · rw [up_n _ _ h, up_n _ _ h, up_n _ _ h]
theorem vp_in_lt {x : Int32} {n N : Nat} (h0 : ¬ x < 0) (h1 : x < nI n) (hn : n ≤ N) (hN : N < 2 ^ 31) : vp_in x N := by
  obtain ⟨j, hj, rfl⟩ := nI_of h0
  exact vp_in_nI (by have := (nI_ltI hj (by omega)).mp h1; omega) hN
theorem s_X0_slot {l : Launch} {G : Gt} (hfl : l.stackTraces = false) : SatM l G 11 S11 := by
  refine t_X0_slot (E := fun _ => S11) hfl fun as M hp => ?_
  unfold S11 at hp ⊢
  split at hp
  · refine ⟨Nat.le_of_ble_eq_true rfl, ?_⟩
    rename_i x y
    show Run _ _ _ _ _ _ _ _ _ [.val (.int x), .val (.int y)] _ _ _ _
    simp only [rX0_slot_0, kX0_slot_0, bk_c, if_true, if_false, wi_e, wl_e, wr_e, w1_i, w1_r, ldS_0, ldS_s, vi_e, vl_e, vr_e, dpL_u, dpL_i, dpL_r, dpL_l, stS_0, stS_1, stS_s, stL_0, stL_1, stL_s, bin_0, bin_1, bin_2, bin_3, bin_4, bin_5, bdv_0, bdv_1, lbin_0, lbin_1, lbin_2, cnd_0, cnd_1, cnd_2, cnd_3, cnd_4, cnd_5, aty_0, aty_1, aty_2, aty_3, aty_4, aty_5, c8_u, cn_0, cn_i, cn_r, cn_l, Nat.reduceAdd, Nat.reduceLeDiff, Nat.le_refl, adz, hnd_0, rcv_0, rcv_1, kLen_a, kLen_r, inB_e, inR_e, cpOK_e, swt_n, swt_c, List.take_succ_cons, List.take_zero, List.drop_succ_cons, List.drop_zero, List.reverse_cons, List.reverse_nil, List.nil_append, List.cons_append, List.length_cons, List.length_nil, Option.toList_some, Option.toList_none, det_e, det_x, tr_imp, fa_imp, implies_true, not_true, not_false_eq_true, and_true, true_and, nar_i, upd_s, st1_0, st1_1, st1_2, st1_3, st1_4, st1_5, st1_6, st1_7, st1_8, st1_9, st1_10, st1_11, st1_12, st1_13, st1_14, st1_15, st1_16, st1_17, st1_18, st1_19, st1_20, st1_21, st1_22, st1_23, st1_24, st1_25, st1_26, st1_27, st1_28, st1_29, st1_30, st1_31, st1_32, st1_33, st1_34, st1_35, st1_36, st1_37, st1_42, st1_43, st1_44, st1_46, st1_47, st1_48, st1_49, st1_50, st1_51, st1_52, st1_53, st1_54, st1_55, st1_56, st1_57, st1_58, st1_59, st1_60]
    exact ⟨by decide, rfl⟩
  · exact hp.elim
theorem s_X0_send {l : Launch} {G : Gt} (hfl : l.stackTraces = false) : SatM l G 10 S10 := by
  refine t_X0_send (E := fun _ => S11) hfl (s_X0_slot hfl) fun as M hp => ?_
  unfold S10 at hp ⊢
  split at hp
  · rename_i c x y z
    obtain ⟨⟨k0, ⟨p0, p1, p2, p3, p4, p5, p6, p7⟩, k1, k2, k3, k4, k5, k6, k7, k8⟩, h1, h2⟩ := hp
    refine ⟨Nat.le_of_ble_eq_true rfl, ?_⟩
    show Run _ _ _ _ _ _ _ _ _ [.val (.ref c), .val (.int x), .val (.int y), .val (.int z)] _ _ _ _
    simp only [rX0_send_0, kX0_send_0, bk_c, if_true, if_false, wi_e, wl_e, wr_e, w1_i, w1_r, ldS_0, ldS_s, vi_e, vl_e, vr_e, dpL_u, dpL_i, dpL_r, dpL_l, stS_0, stS_1, stS_s, stL_0, stL_1, stL_s, bin_0, bin_1, bin_2, bin_3, bin_4, bin_5, bdv_0, bdv_1, lbin_0, lbin_1, lbin_2, cnd_0, cnd_1, cnd_2, cnd_3, cnd_4, cnd_5, aty_0, aty_1, aty_2, aty_3, aty_4, aty_5, c8_u, cn_0, cn_i, cn_r, cn_l, Nat.reduceAdd, Nat.reduceLeDiff, Nat.le_refl, adz, hnd_0, rcv_0, rcv_1, kLen_a, kLen_r, inB_e, inR_e, cpOK_e, swt_n, swt_c, List.take_succ_cons, List.take_zero, List.drop_succ_cons, List.drop_zero, List.reverse_cons, List.reverse_nil, List.nil_append, List.cons_append, List.length_cons, List.length_nil, Option.toList_some, Option.toList_none, det_e, det_x, tr_imp, fa_imp, implies_true, not_true, not_false_eq_true, and_true, true_and, nar_i, upd_s, st1_0, st1_1, st1_2, st1_3, st1_4, st1_5, st1_6, st1_7, st1_8, st1_9, st1_10, st1_11, st1_12, st1_13, st1_14, st1_15, st1_16, st1_17, st1_18, st1_19, st1_20, st1_21, st1_22, st1_23, st1_24, st1_25, st1_26, st1_27, st1_28, st1_29, st1_30, st1_31, st1_32, st1_33, st1_34, st1_35, st1_36, st1_37, st1_42, st1_43, st1_44, st1_46, st1_47, st1_48, st1_49, st1_50, st1_51, st1_52, st1_53, st1_54, st1_55, st1_56, st1_57, st1_58, st1_59, st1_60, k0, p7, k8, p1, k2, S11, sV]
    exact ⟨h1, h2⟩
  · exact hp.elim
theorem s_X0_letArrive {l : Launch} {G : Gt} (hfl : l.stackTraces = false) : SatM l G 6 S6 := by
  refine t_X0_letArrive (E := fun _ => S11) hfl (s_X0_slot hfl) fun as M hp => ?_
  unfold S6 at hp ⊢
  split at hp
  · rename_i c x y
    obtain ⟨⟨k0, ⟨p0, p1, p2, p3, p4, p5, p6, p7⟩, k1, k2, k3, k4, k5, k6, k7, k8⟩, h1, h2⟩ := hp
    refine ⟨Nat.le_of_ble_eq_true rfl, ?_⟩
    show Run _ _ _ _ _ _ _ _ _ [.val (.ref c), .val (.int x), .val (.int y), .unset] _ _ _ _
    simp only [rX0_letArrive_0, kX0_letArrive_0, bk_c, if_true, if_false, wi_e, wl_e, wr_e, w1_i, w1_r, ldS_0, ldS_s, vi_e, vl_e, vr_e, dpL_u, dpL_i, dpL_r, dpL_l, stS_0, stS_1, stS_s, stL_0, stL_1, stL_s, bin_0, bin_1, bin_2, bin_3, bin_4, bin_5, bdv_0, bdv_1, lbin_0, lbin_1, lbin_2, cnd_0, cnd_1, cnd_2, cnd_3, cnd_4, cnd_5, aty_0, aty_1, aty_2, aty_3, aty_4, aty_5, c8_u, cn_0, cn_i, cn_r, cn_l, Nat.reduceAdd, Nat.reduceLeDiff, Nat.le_refl, adz, hnd_0, rcv_0, rcv_1, kLen_a, kLen_r, inB_e, inR_e, cpOK_e, swt_n, swt_c, List.take_succ_cons, List.take_zero, List.drop_succ_cons, List.drop_zero, List.reverse_cons, List.reverse_nil, List.nil_append, List.cons_append, List.length_cons, List.length_nil, Option.toList_some, Option.toList_none, det_e, det_x, tr_imp, fa_imp, implies_true, not_true, not_false_eq_true, and_true, true_and, nar_i, upd_s, st1_0, st1_1, st1_2, st1_3, st1_4, st1_5, st1_6, st1_7, st1_8, st1_9, st1_10, st1_11, st1_12, st1_13, st1_14, st1_15, st1_16, st1_17, st1_18, st1_19, st1_20, st1_21, st1_22, st1_23, st1_24, st1_25, st1_26, st1_27, st1_28, st1_29, st1_30, st1_31, st1_32, st1_33, st1_34, st1_35, st1_36, st1_37, st1_42, st1_43, st1_44, st1_46, st1_47, st1_48, st1_49, st1_50, st1_51, st1_52, st1_53, st1_54, st1_55, st1_56, st1_57, st1_58, st1_59, st1_60, gK_sI, gK_sJ, gK_sP, gK_sZ, gI_sI, gI_sJ, gI_sP, gI_sZ, gJ_sI, gJ_sJ, gJ_sP, gJ_sZ, gP_sI, gP_sJ, gP_sP, gP_sZ, gZ_sI, gZ_sJ, gZ_sP, gZ_sZ, up_q, up_q0, up_q1, up_s, sI_sI, Nat.reduceEqDiff, reduceIte, Nat.succ_ne_zero, forall_const, false_imp_iff, k0, p7, k8, p5, k6, S11, sV]
    exact ⟨h2, h1, h2, h1⟩
  · exact hp.elim
theorem s_X0_amountDue {l : Launch} {G : Gt} (hfl : l.stackTraces = false) : SatM l G 0 S0 := by
  refine t_X0_amountDue (E := fun _ => S11) hfl (s_X0_slot hfl) fun as M hp => ?_
  unfold S0 at hp ⊢
  split at hp
  · rename_i c x y z
    obtain ⟨⟨k0, ⟨p0, p1, p2, p3, p4, p5, p6, p7⟩, k1, k2, k3, k4, k5, k6, k7, k8⟩, h1, h2⟩ := hp
    refine ⟨Nat.le_of_ble_eq_true rfl, ?_⟩
    show Run _ _ _ _ _ _ _ _ _ [.val (.ref c), .val (.int x), .val (.int y), .val (.int z)] _ _ _ _
    have h3 : z < gI M (c + 2) x.toNatClampNeg ↔ ¬ gI M (c + 2) x.toNatClampNeg ≤ z := Int32.not_le.symm
    by_cases hz : gI M (c + 2) x.toNatClampNeg ≤ z
    · simp only [rX0_amountDue_0, kX0_amountDue_0, rX0_amountDue_25, kX0_amountDue_25, rX0_amountDue_26, kX0_amountDue_26, bk_c, if_true, if_false, wi_e, wl_e, wr_e, w1_i, w1_r, ldS_0, ldS_s, vi_e, vl_e, vr_e, dpL_u, dpL_i, dpL_r, dpL_l, stS_0, stS_1, stS_s, stL_0, stL_1, stL_s, bin_0, bin_1, bin_2, bin_3, bin_4, bin_5, bdv_0, bdv_1, lbin_0, lbin_1, lbin_2, cnd_0, cnd_1, cnd_2, cnd_3, cnd_4, cnd_5, aty_0, aty_1, aty_2, aty_3, aty_4, aty_5, c8_u, cn_0, cn_i, cn_r, cn_l, Nat.reduceAdd, Nat.reduceLeDiff, Nat.le_refl, adz, hnd_0, rcv_0, rcv_1, kLen_a, kLen_r, inB_e, inR_e, cpOK_e, swt_n, swt_c, List.take_succ_cons, List.take_zero, List.drop_succ_cons, List.drop_zero, List.reverse_cons, List.reverse_nil, List.nil_append, List.cons_append, List.length_cons, List.length_nil, Option.toList_some, Option.toList_none, det_e, det_x, tr_imp, fa_imp, implies_true, not_true, not_false_eq_true, and_true, true_and, nar_i, upd_s, st1_0, st1_1, st1_2, st1_3, st1_4, st1_5, st1_6, st1_7, st1_8, st1_9, st1_10, st1_11, st1_12, st1_13, st1_14, st1_15, st1_16, st1_17, st1_18, st1_19, st1_20, st1_21, st1_22, st1_23, st1_24, st1_25, st1_26, st1_27, st1_28, st1_29, st1_30, st1_31, st1_32, st1_33, st1_34, st1_35, st1_36, st1_37, st1_42, st1_43, st1_44, st1_46, st1_47, st1_48, st1_49, st1_50, st1_51, st1_52, st1_53, st1_54, st1_55, st1_56, st1_57, st1_58, st1_59, st1_60, gK_sI, gK_sJ, gK_sP, gK_sZ, gI_sI, gI_sJ, gI_sP, gI_sZ, gJ_sI, gJ_sJ, gJ_sP, gJ_sZ, gP_sI, gP_sJ, gP_sP, gP_sZ, gZ_sI, gZ_sJ, gZ_sP, gZ_sZ, up_q, up_q0, up_q1, up_s, sI_sI, Nat.reduceEqDiff, reduceIte, Nat.succ_ne_zero, forall_const, false_imp_iff, k0, p7, k8, p1, k2, S11, sV, h3, hz]
      exact h1
    · simp only [rX0_amountDue_0, kX0_amountDue_0, rX0_amountDue_25, kX0_amountDue_25, rX0_amountDue_26, kX0_amountDue_26, bk_c, if_true, if_false, wi_e, wl_e, wr_e, w1_i, w1_r, ldS_0, ldS_s, vi_e, vl_e, vr_e, dpL_u, dpL_i, dpL_r, dpL_l, stS_0, stS_1, stS_s, stL_0, stL_1, stL_s, bin_0, bin_1, bin_2, bin_3, bin_4, bin_5, bdv_0, bdv_1, lbin_0, lbin_1, lbin_2, cnd_0, cnd_1, cnd_2, cnd_3, cnd_4, cnd_5, aty_0, aty_1, aty_2, aty_3, aty_4, aty_5, c8_u, cn_0, cn_i, cn_r, cn_l, Nat.reduceAdd, Nat.reduceLeDiff, Nat.le_refl, adz, hnd_0, rcv_0, rcv_1, kLen_a, kLen_r, inB_e, inR_e, cpOK_e, swt_n, swt_c, List.take_succ_cons, List.take_zero, List.drop_succ_cons, List.drop_zero, List.reverse_cons, List.reverse_nil, List.nil_append, List.cons_append, List.length_cons, List.length_nil, Option.toList_some, Option.toList_none, det_e, det_x, tr_imp, fa_imp, implies_true, not_true, not_false_eq_true, and_true, true_and, nar_i, upd_s, st1_0, st1_1, st1_2, st1_3, st1_4, st1_5, st1_6, st1_7, st1_8, st1_9, st1_10, st1_11, st1_12, st1_13, st1_14, st1_15, st1_16, st1_17, st1_18, st1_19, st1_20, st1_21, st1_22, st1_23, st1_24, st1_25, st1_26, st1_27, st1_28, st1_29, st1_30, st1_31, st1_32, st1_33, st1_34, st1_35, st1_36, st1_37, st1_42, st1_43, st1_44, st1_46, st1_47, st1_48, st1_49, st1_50, st1_51, st1_52, st1_53, st1_54, st1_55, st1_56, st1_57, st1_58, st1_59, st1_60, gK_sI, gK_sJ, gK_sP, gK_sZ, gI_sI, gI_sJ, gI_sP, gI_sZ, gJ_sI, gJ_sJ, gJ_sP, gJ_sZ, gP_sI, gP_sJ, gP_sP, gP_sZ, gZ_sI, gZ_sJ, gZ_sP, gZ_sZ, up_q, up_q0, up_q1, up_s, sI_sI, Nat.reduceEqDiff, reduceIte, Nat.succ_ne_zero, forall_const, false_imp_iff, k0, p7, k8, p1, k2, S11, sV, h3, hz]
      exact ⟨h1, h2 (h3.mpr hz)⟩
  · exact hp.elim
theorem s_X0_isOpenChild {l : Launch} {G : Gt} (hfl : l.stackTraces = false) : SatM l G 5 S5 := by
  refine t_X0_isOpenChild (E := fun _ => S11) hfl fun as M hp => ?_
  unfold S5 at hp ⊢
  split at hp
  · rename_i c x y
    obtain ⟨⟨k0, ⟨p0, p1, p2, p3, p4, p5, p6, p7⟩, k1, k2, k3, k4, k5, k6, k7, k8⟩, h1⟩ := hp
    refine ⟨Nat.le_of_ble_eq_true rfl, ?_⟩
    show Run _ _ _ _ _ _ _ _ _ [.val (.ref c), .val (.int x), .val (.int y)] _ _ _ _
    simp only [rX0_isOpenChild_0, kX0_isOpenChild_0, rX0_isOpenChild_23, kX0_isOpenChild_23, rX0_isOpenChild_24, kX0_isOpenChild_24, bk_c, if_true, if_false, wi_e, wl_e, wr_e, w1_i, w1_r, ldS_0, ldS_s, vi_e, vl_e, vr_e, dpL_u, dpL_i, dpL_r, dpL_l, stS_0, stS_1, stS_s, stL_0, stL_1, stL_s, bin_0, bin_1, bin_2, bin_3, bin_4, bin_5, bdv_0, bdv_1, lbin_0, lbin_1, lbin_2, cnd_0, cnd_1, cnd_2, cnd_3, cnd_4, cnd_5, aty_0, aty_1, aty_2, aty_3, aty_4, aty_5, c8_u, cn_0, cn_i, cn_r, cn_l, Nat.reduceAdd, Nat.reduceLeDiff, Nat.le_refl, adz, hnd_0, rcv_0, rcv_1, kLen_a, kLen_r, inB_e, inR_e, cpOK_e, swt_n, swt_c, List.take_succ_cons, List.take_zero, List.drop_succ_cons, List.drop_zero, List.reverse_cons, List.reverse_nil, List.nil_append, List.cons_append, List.length_cons, List.length_nil, Option.toList_some, Option.toList_none, det_e, det_x, tr_imp, fa_imp, implies_true, not_true, not_false_eq_true, and_true, true_and, nar_i, upd_s, st1_0, st1_1, st1_2, st1_3, st1_4, st1_5, st1_6, st1_7, st1_8, st1_9, st1_10, st1_11, st1_12, st1_13, st1_14, st1_15, st1_16, st1_17, st1_18, st1_19, st1_20, st1_21, st1_22, st1_23, st1_24, st1_25, st1_26, st1_27, st1_28, st1_29, st1_30, st1_31, st1_32, st1_33, st1_34, st1_35, st1_36, st1_37, st1_42, st1_43, st1_44, st1_46, st1_47, st1_48, st1_49, st1_50, st1_51, st1_52, st1_53, st1_54, st1_55, st1_56, st1_57, st1_58, st1_59, st1_60, gK_sI, gK_sJ, gK_sP, gK_sZ, gI_sI, gI_sJ, gI_sP, gI_sZ, gJ_sI, gJ_sJ, gJ_sP, gJ_sZ, gP_sI, gP_sJ, gP_sP, gP_sZ, gZ_sI, gZ_sJ, gZ_sP, gZ_sZ, up_q, up_q0, up_q1, up_s, sI_sI, Nat.reduceEqDiff, reduceIte, Nat.succ_ne_zero, forall_const, false_imp_iff, k0, p0, k1, p6, k7, sV]
    refine ⟨h1, fun e => ⟨rfl, ?_⟩, fun e => ⟨h1, fun e2 => ⟨rfl, ?_⟩, fun e2 => ⟨rfl, ?_⟩⟩⟩
    · rw [b9_f (fun q => e q.1)]
    · rw [b9_f (fun q => q.2 e2)]
    · rw [b9_t ⟨Decidable.not_not.mp e, e2⟩]
  · exact hp.elim
theorem s_X0_openAt {l : Launch} {G : Gt} (hfl : l.stackTraces = false) : SatM l G 7 S7 := by
  refine t_X0_openAt (E := fun _ => S11) hfl fun as M hp => ?_
  unfold S7 at hp ⊢
  split at hp
  · rename_i c x
    obtain ⟨⟨k0, ⟨p0, p1, p2, p3, p4, p5, p6, p7⟩, k1, k2, k3, k4, k5, k6, k7, k8⟩, n, hn, e8⟩ := hp
    refine ⟨Nat.le_of_ble_eq_true rfl, ?_⟩
    show Run _ _ _ _ _ _ _ _ _ [.val (.ref c), .val (.int x)] _ _ _ _
    simp only [rX0_openAt_0, kX0_openAt_0, rX0_openAt_19, kX0_openAt_19, bk_c, if_true, if_false, wi_e, wl_e, wr_e, w1_i, w1_r, ldS_0, ldS_s, vi_e, vl_e, vr_e, dpL_u, dpL_i, dpL_r, dpL_l, stS_0, stS_1, stS_s, stL_0, stL_1, stL_s, bin_0, bin_1, bin_2, bin_3, bin_4, bin_5, bdv_0, bdv_1, lbin_0, lbin_1, lbin_2, cnd_0, cnd_1, cnd_2, cnd_3, cnd_4, cnd_5, aty_0, aty_1, aty_2, aty_3, aty_4, aty_5, c8_u, cn_0, cn_i, cn_r, cn_l, Nat.reduceAdd, Nat.reduceLeDiff, Nat.le_refl, adz, hnd_0, rcv_0, rcv_1, kLen_a, kLen_r, inB_e, inR_e, cpOK_e, swt_n, swt_c, List.take_succ_cons, List.take_zero, List.drop_succ_cons, List.drop_zero, List.reverse_cons, List.reverse_nil, List.nil_append, List.cons_append, List.length_cons, List.length_nil, Option.toList_some, Option.toList_none, det_e, det_x, tr_imp, fa_imp, implies_true, not_true, not_false_eq_true, and_true, true_and, nar_i, upd_s, st1_0, st1_1, st1_2, st1_3, st1_4, st1_5, st1_6, st1_7, st1_8, st1_9, st1_10, st1_11, st1_12, st1_13, st1_14, st1_15, st1_16, st1_17, st1_18, st1_19, st1_20, st1_21, st1_22, st1_23, st1_24, st1_25, st1_26, st1_27, st1_28, st1_29, st1_30, st1_31, st1_32, st1_33, st1_34, st1_35, st1_36, st1_37, st1_42, st1_43, st1_44, st1_46, st1_47, st1_48, st1_49, st1_50, st1_51, st1_52, st1_53, st1_54, st1_55, st1_56, st1_57, st1_58, st1_59, st1_60, gK_sI, gK_sJ, gK_sP, gK_sZ, gI_sI, gI_sJ, gI_sP, gI_sZ, gJ_sI, gJ_sJ, gJ_sP, gJ_sZ, gP_sI, gP_sJ, gP_sP, gP_sZ, gZ_sI, gZ_sJ, gZ_sP, gZ_sZ, up_q, up_q0, up_q1, up_s, sI_sI, Nat.reduceEqDiff, reduceIte, Nat.succ_ne_zero, forall_const, false_imp_iff, k0, p6, k7, sV, opA]
    refine ⟨fun e => ?_, fun e => ⟨fun e2 => ?_, fun e2 => ⟨?_, ?_⟩⟩⟩
    · rw [if_neg (fun q => q.1 e), sI_id]
    · rw [if_neg (fun q => Int32.not_le.mpr q.2 e2), sI_id]
    · have h1 := Int32.not_le.mp e2
      rw [e8] at h1
      exact vp_in_lt e h1 hn (by decide)
    · rw [if_pos ⟨e, Int32.not_le.mp e2⟩]
      rfl
  · exact hp.elim
/-- n steps upwards from a -/
def itr {σ : Type} (f : Nat → σ → σ) : Nat → Nat → σ → σ
  | 0, _, s => s
  | n + 1, a, s => itr f n (a + 1) (f a s)
def fil (n : Nat) (v : Int32) (f : Nat → Int32) : Nat → Int32 := fun k => if k < n then v else f k
theorem fil_0 (v : Int32) (f : Nat → Int32) : fil 0 v f = f := by funext k; exact if_neg (Nat.not_lt_zero k)
theorem fil_s (n : Nat) (v : Int32) (f : Nat → Int32) : upd (fil n v f) n v = fil (n + 1) v f := by
  funext k
  unfold upd fil
  by_cases h : k = n
  · rw [if_pos h, if_pos (by omega)]
  · rw [if_neg h]
    by_cases h2 : k < n
    · rw [if_pos h2, if_pos (by omega)]
    · rw [if_neg h2, if_neg (by omega)]
def S1 : Sem := fun as M => match as with
  | [.ref c] => sV (Lc M c ∧ ∃ n, n ≤ 16 ∧ gI M c 8 = nI n) none (sI M (c + 7) (fil (gI M c 8).toNatClampNeg 0 (gI M (c + 7))))
  | _ => sF
/-- a counter below its bound -/
theorem lp_in {i n N : Nat} (h : i < n) (hn : n ≤ N) (hN : N < 2 ^ 31) : (nI n ≤ nI i) = False ∧ vp_in (nI i) N = True ∧ (nI i).toNatClampNeg = i ∧ (nI i < nI n) = True :=
  ⟨eq_false fun q => absurd ((nI_leI (by omega) (by omega)).mp q) (by omega), eq_true (vp_in_nI (by omega) hN), nI_clamp (by omega), eq_true ((nI_ltI (by omega) (by omega)).mpr h)⟩
theorem lp_out (n : Nat) : (nI n ≤ nI n) = True := eq_true (Int32.le_refl _)
theorem nI_m1 (n : Nat) : nI (n + 1) + -1 = nI n := pk_m1 n
set_option maxRecDepth 100000 in
set_option maxHeartbeats 4000000 in
theorem s_X0_closeAll {l : Launch} {G : Gt} (hfl : l.stackTraces = false) : SatM l G 1 S1 := by
  refine t_X0_closeAll (E := fun _ => S0) hfl  fun as M hp => ?_
  unfold S1 at hp ⊢
  split at hp
  case h_2 => exact hp.elim
  rename_i c
  obtain ⟨⟨k0, ⟨p0, p1, p2, p3, p4, p5, p6, p7⟩, k1, k2, k3, k4, k5, k6, k7, k8⟩, n, hn, e8⟩ := hp
  refine ⟨Nat.le_of_ble_eq_true rfl, ?_⟩
  show Run (gT G) _ _ _ _ _ _ _ 0 [.val (.ref c), .unset] [] M 0 0
  have cl : (nI n).toNatClampNeg = n := nI_clamp (by omega)
  have key : ∀ r i, i + r = n → Run (gT G) (fun _ => S0) 0 0 (fun _ _ => none) (fun v' M' => v' = none ∧ M' = sI M (c + 7) (fil n 0 (gI M (c + 7)))) (fun _ _ => False) kX0_closeAll 2 [.val (.ref c), .val (.int (nI i))] [] (sI M (c + 7) (fil i 0 (gI M (c + 7)))) 0 0 := by
    intro r
    induction r with
    | zero =>
      intro i hi
      have hi2 : i = n := hi
      subst hi2
      rw [rX0_closeAll_2]
      simp only [kX0_closeAll_2, rX0_closeAll_0, kX0_closeAll_0, rX0_closeAll_23, kX0_closeAll_23, bk_c, if_true, if_false, wi_e, wl_e, wr_e, w1_i, w1_r, ldS_0, ldS_s, vi_e, vl_e, vr_e, dpL_u, dpL_i, dpL_r, dpL_l, stS_0, stS_1, stS_s, stL_0, stL_1, stL_s, bin_0, bin_1, bin_2, bin_3, bin_4, bin_5, bdv_0, bdv_1, lbin_0, lbin_1, lbin_2, cnd_0, cnd_1, cnd_2, cnd_3, cnd_4, cnd_5, aty_0, aty_1, aty_2, aty_3, aty_4, aty_5, c8_u, cn_0, cn_i, cn_r, cn_l, Nat.reduceAdd, Nat.reduceLeDiff, Nat.le_refl, adz, hnd_0, rcv_0, rcv_1, kLen_a, kLen_r, inB_e, inR_e, cpOK_e, swt_n, swt_c, List.take_succ_cons, List.take_zero, List.drop_succ_cons, List.drop_zero, List.reverse_cons, List.reverse_nil, List.nil_append, List.cons_append, List.length_cons, List.length_nil, Option.toList_some, Option.toList_none, det_e, det_x, tr_imp, fa_imp, implies_true, not_true, not_false_eq_true, and_true, true_and, nar_i, upd_s, st1_0, st1_1, st1_2, st1_3, st1_4, st1_5, st1_6, st1_7, st1_8, st1_9, st1_10, st1_11, st1_12, st1_13, st1_14, st1_15, st1_16, st1_17, st1_18, st1_19, st1_20, st1_21, st1_22, st1_23, st1_24, st1_25, st1_26, st1_27, st1_28, st1_29, st1_30, st1_31, st1_32, st1_33, st1_34, st1_35, st1_36, st1_37, st1_42, st1_43, st1_44, st1_46, st1_47, st1_48, st1_49, st1_50, st1_51, st1_52, st1_53, st1_54, st1_55, st1_56, st1_57, st1_58, st1_59, st1_60, gK_sI, gK_sJ, gK_sP, gK_sZ, gI_sI, gI_sJ, gI_sP, gI_sZ, gJ_sI, gJ_sJ, gJ_sP, gJ_sZ, gP_sI, gP_sJ, gP_sP, gP_sZ, gZ_sI, gZ_sJ, gZ_sP, gZ_sZ, up_q, up_q0, up_q1, up_s, sI_sI, Nat.reduceEqDiff, reduceIte, Nat.succ_ne_zero, forall_const, false_imp_iff, k0, p6, k7, e8, lp_out]
    | succ r ih =>
      intro i hi
      obtain ⟨a1, a2, a3, -⟩ := lp_in (i := i) (n := n) (N := 16) (by omega) hn (by decide)
      rw [rX0_closeAll_2]
      simp only [kX0_closeAll_2, rX0_closeAll_0, kX0_closeAll_0, rX0_closeAll_23, kX0_closeAll_23, bk_c, if_true, if_false, wi_e, wl_e, wr_e, w1_i, w1_r, ldS_0, ldS_s, vi_e, vl_e, vr_e, dpL_u, dpL_i, dpL_r, dpL_l, stS_0, stS_1, stS_s, stL_0, stL_1, stL_s, bin_0, bin_1, bin_2, bin_3, bin_4, bin_5, bdv_0, bdv_1, lbin_0, lbin_1, lbin_2, cnd_0, cnd_1, cnd_2, cnd_3, cnd_4, cnd_5, aty_0, aty_1, aty_2, aty_3, aty_4, aty_5, c8_u, cn_0, cn_i, cn_r, cn_l, Nat.reduceAdd, Nat.reduceLeDiff, Nat.le_refl, adz, hnd_0, rcv_0, rcv_1, kLen_a, kLen_r, inB_e, inR_e, cpOK_e, swt_n, swt_c, List.take_succ_cons, List.take_zero, List.drop_succ_cons, List.drop_zero, List.reverse_cons, List.reverse_nil, List.nil_append, List.cons_append, List.length_cons, List.length_nil, Option.toList_some, Option.toList_none, det_e, det_x, tr_imp, fa_imp, implies_true, not_true, not_false_eq_true, and_true, true_and, nar_i, upd_s, st1_0, st1_1, st1_2, st1_3, st1_4, st1_5, st1_6, st1_7, st1_8, st1_9, st1_10, st1_11, st1_12, st1_13, st1_14, st1_15, st1_16, st1_17, st1_18, st1_19, st1_20, st1_21, st1_22, st1_23, st1_24, st1_25, st1_26, st1_27, st1_28, st1_29, st1_30, st1_31, st1_32, st1_33, st1_34, st1_35, st1_36, st1_37, st1_42, st1_43, st1_44, st1_46, st1_47, st1_48, st1_49, st1_50, st1_51, st1_52, st1_53, st1_54, st1_55, st1_56, st1_57, st1_58, st1_59, st1_60, gK_sI, gK_sJ, gK_sP, gK_sZ, gI_sI, gI_sJ, gI_sP, gI_sZ, gJ_sI, gJ_sJ, gJ_sP, gJ_sZ, gP_sI, gP_sJ, gP_sP, gP_sZ, gZ_sI, gZ_sJ, gZ_sP, gZ_sZ, up_q, up_q0, up_q1, up_s, sI_sI, Nat.reduceEqDiff, reduceIte, Nat.succ_ne_zero, forall_const, false_imp_iff, k0, p6, k7, e8, nI_1, a1, a2, a3, show vp_nar .boolean 0 = 0 from rfl, fil_s]
      exact ih (i + 1) (by omega)
  have h0 := key n 0 (Nat.zero_add n)
  rw [fil_0, sI_id] at h0
  simp only [rX0_closeAll_0, kX0_closeAll_0, rX0_closeAll_23, kX0_closeAll_23, bk_c, if_true, if_false, wi_e, wl_e, wr_e, w1_i, w1_r, ldS_0, ldS_s, vi_e, vl_e, vr_e, dpL_u, dpL_i, dpL_r, dpL_l, stS_0, stS_1, stS_s, stL_0, stL_1, stL_s, bin_0, bin_1, bin_2, bin_3, bin_4, bin_5, bdv_0, bdv_1, lbin_0, lbin_1, lbin_2, cnd_0, cnd_1, cnd_2, cnd_3, cnd_4, cnd_5, aty_0, aty_1, aty_2, aty_3, aty_4, aty_5, c8_u, cn_0, cn_i, cn_r, cn_l, Nat.reduceAdd, Nat.reduceLeDiff, Nat.le_refl, adz, hnd_0, rcv_0, rcv_1, kLen_a, kLen_r, inB_e, inR_e, cpOK_e, swt_n, swt_c, List.take_succ_cons, List.take_zero, List.drop_succ_cons, List.drop_zero, List.reverse_cons, List.reverse_nil, List.nil_append, List.cons_append, List.length_cons, List.length_nil, Option.toList_some, Option.toList_none, det_e, det_x, tr_imp, fa_imp, implies_true, not_true, not_false_eq_true, and_true, true_and, nar_i, upd_s, st1_0, st1_1, st1_2, st1_3, st1_4, st1_5, st1_6, st1_7, st1_8, st1_9, st1_10, st1_11, st1_12, st1_13, st1_14, st1_15, st1_16, st1_17, st1_18, st1_19, st1_20, st1_21, st1_22, st1_23, st1_24, st1_25, st1_26, st1_27, st1_28, st1_29, st1_30, st1_31, st1_32, st1_33, st1_34, st1_35, st1_36, st1_37, st1_42, st1_43, st1_44, st1_46, st1_47, st1_48, st1_49, st1_50, st1_51, st1_52, st1_53, st1_54, st1_55, st1_56, st1_57, st1_58, st1_59, st1_60, e8, cl]
  exact h0
/-- a bounded count -/
def cnt (x : Int32) (N : Nat) : Prop := ∃ n, n ≤ N ∧ x = nI n
def opP (M : Mm) (c : Nat) : Nat → Mm → Mm
  | 0, N => N
  | k + 1, N => if k = 0 then N else opP M c k (if gI N (c + 7) k = 0 then N else sI N (c + 7) (opA N c (gI M (c + 1) k)))
def S8 : Sem := fun as M => match as with
  | [.ref c] => sV (Lc M c ∧ cnt (gI M c 8) 16) none (opP M c (gI M c 8).toNatClampNeg M)
  | _ => sF
theorem opA_c (M : Mm) (c : Nat) (f : Nat → Int32) (x : Int32) : opA (sI M (c + 7) f) c x = if ¬ x < 0 ∧ x < gI M c 8 then upd f x.toNatClampNeg 1 else f := by
  unfold opA
  rw [gI_sI, up_s, up_q0]
  rfl
set_option maxRecDepth 100000 in
set_option maxHeartbeats 4000000 in
theorem s_X0_openParents {l : Launch} {G : Gt} (hfl : l.stackTraces = false) : SatM l G 8 S8 := by
  refine t_X0_openParents (E := fun _ => S7) hfl (s_X0_openAt hfl) fun as M hp => ?_
  unfold S8 at hp ⊢
  split at hp
  case h_2 => exact hp.elim
  rename_i c
  obtain ⟨⟨k0, ⟨p0, p1, p2, p3, p4, p5, p6, p7⟩, k1, k2, k3, k4, k5, k6, k7, k8⟩, n, hn, e8⟩ := hp
  refine ⟨Nat.le_of_ble_eq_true rfl, ?_⟩
  show Run (gT G) _ _ _ _ _ _ _ 0 [.val (.ref c), .unset] [] M 0 0
  have cl : (nI n).toNatClampNeg = n := nI_clamp (by omega)
  have key : ∀ r f, r + 1 ≤ 16 → Run (gT G) (fun _ => S7) 0 0 (fun _ _ => none) (fun v' M' => v' = none ∧ M' = opP M c (r + 1) (sI M (c + 7) f)) (fun _ _ => False) kX0_openParents 7 [.val (.ref c), .val (.int (nI r))] [] (sI M (c + 7) f) 0 0 := by
    intro r
    induction r with
    | zero =>
      intro f hr
      rw [rX0_openParents_7]
      simp only [kX0_openParents_7, rX0_openParents_0, kX0_openParents_0, rX0_openParents_30, kX0_openParents_30, rX0_openParents_36, kX0_openParents_36, bk_c, if_true, if_false, wi_e, wl_e, wr_e, w1_i, w1_r, ldS_0, ldS_s, vi_e, vl_e, vr_e, dpL_u, dpL_i, dpL_r, dpL_l, stS_0, stS_1, stS_s, stL_0, stL_1, stL_s, bin_0, bin_1, bin_2, bin_3, bin_4, bin_5, bdv_0, bdv_1, lbin_0, lbin_1, lbin_2, cnd_0, cnd_1, cnd_2, cnd_3, cnd_4, cnd_5, aty_0, aty_1, aty_2, aty_3, aty_4, aty_5, c8_u, cn_0, cn_i, cn_r, cn_l, Nat.reduceAdd, Nat.reduceLeDiff, Nat.le_refl, adz, hnd_0, rcv_0, rcv_1, kLen_a, kLen_r, inB_e, inR_e, cpOK_e, swt_n, swt_c, List.take_succ_cons, List.take_zero, List.drop_succ_cons, List.drop_zero, List.reverse_cons, List.reverse_nil, List.nil_append, List.cons_append, List.length_cons, List.length_nil, Option.toList_some, Option.toList_none, det_e, det_x, tr_imp, fa_imp, implies_true, not_true, not_false_eq_true, and_true, true_and, nar_i, upd_s, st1_0, st1_1, st1_2, st1_3, st1_4, st1_5, st1_6, st1_7, st1_8, st1_9, st1_10, st1_11, st1_12, st1_13, st1_14, st1_15, st1_16, st1_17, st1_18, st1_19, st1_20, st1_21, st1_22, st1_23, st1_24, st1_25, st1_26, st1_27, st1_28, st1_29, st1_30, st1_31, st1_32, st1_33, st1_34, st1_35, st1_36, st1_37, st1_42, st1_43, st1_44, st1_46, st1_47, st1_48, st1_49, st1_50, st1_51, st1_52, st1_53, st1_54, st1_55, st1_56, st1_57, st1_58, st1_59, st1_60, gK_sI, gK_sJ, gK_sP, gK_sZ, gI_sI, gI_sJ, gI_sP, gI_sZ, gJ_sI, gJ_sJ, gJ_sP, gJ_sZ, gP_sI, gP_sJ, gP_sP, gP_sZ, gZ_sI, gZ_sJ, gZ_sP, gZ_sZ, up_q, up_q0, up_q1, up_s, sI_sI, Nat.reduceEqDiff, reduceIte, Nat.succ_ne_zero, forall_const, false_imp_iff, k0, p6, k7, e8, show (nI 0 ≤ 0) = True from eq_true (by decide), tr_imp, fa_imp, opP]
    | succ r ih =>
      intro f hr
      obtain ⟨-, a2, a3, -⟩ := lp_in (i := r + 1) (n := 16) (N := 16) (by omega) (by decide) (by decide)
      have a4 : (nI (r + 1) ≤ 0) = False := eq_false (nI_nle (by omega) (by omega))
      have hL2 : ∀ g, Lc (sI M (c + 7) g) c := fun g => ⟨k0, ⟨p0, p1, p2, p3, p4, p5, p6, p7⟩, k1, k2, k3, k4, k5, k6, k7, k8⟩
      rw [rX0_openParents_7]
      simp only [kX0_openParents_7, rX0_openParents_0, kX0_openParents_0, rX0_openParents_30, kX0_openParents_30, rX0_openParents_36, kX0_openParents_36, bk_c, if_true, if_false, wi_e, wl_e, wr_e, w1_i, w1_r, ldS_0, ldS_s, vi_e, vl_e, vr_e, dpL_u, dpL_i, dpL_r, dpL_l, stS_0, stS_1, stS_s, stL_0, stL_1, stL_s, bin_0, bin_1, bin_2, bin_3, bin_4, bin_5, bdv_0, bdv_1, lbin_0, lbin_1, lbin_2, cnd_0, cnd_1, cnd_2, cnd_3, cnd_4, cnd_5, aty_0, aty_1, aty_2, aty_3, aty_4, aty_5, c8_u, cn_0, cn_i, cn_r, cn_l, Nat.reduceAdd, Nat.reduceLeDiff, Nat.le_refl, adz, hnd_0, rcv_0, rcv_1, kLen_a, kLen_r, inB_e, inR_e, cpOK_e, swt_n, swt_c, List.take_succ_cons, List.take_zero, List.drop_succ_cons, List.drop_zero, List.reverse_cons, List.reverse_nil, List.nil_append, List.cons_append, List.length_cons, List.length_nil, Option.toList_some, Option.toList_none, det_e, det_x, tr_imp, fa_imp, implies_true, not_true, not_false_eq_true, and_true, true_and, nar_i, upd_s, st1_0, st1_1, st1_2, st1_3, st1_4, st1_5, st1_6, st1_7, st1_8, st1_9, st1_10, st1_11, st1_12, st1_13, st1_14, st1_15, st1_16, st1_17, st1_18, st1_19, st1_20, st1_21, st1_22, st1_23, st1_24, st1_25, st1_26, st1_27, st1_28, st1_29, st1_30, st1_31, st1_32, st1_33, st1_34, st1_35, st1_36, st1_37, st1_42, st1_43, st1_44, st1_46, st1_47, st1_48, st1_49, st1_50, st1_51, st1_52, st1_53, st1_54, st1_55, st1_56, st1_57, st1_58, st1_59, st1_60, gK_sI, gK_sJ, gK_sP, gK_sZ, gI_sI, gI_sJ, gI_sP, gI_sZ, gJ_sI, gJ_sJ, gJ_sP, gJ_sZ, gP_sI, gP_sJ, gP_sP, gP_sZ, gZ_sI, gZ_sJ, gZ_sP, gZ_sZ, up_q, up_q0, up_q1, up_s, sI_sI, Nat.reduceEqDiff, reduceIte, Nat.succ_ne_zero, forall_const, false_imp_iff, k0, p6, k7, p0, k1, e8, S7, sV, a2, a3, a4, tr_imp, fa_imp, nI_m1, opA_c, hL2]
      refine ⟨fun h => ?_, fun h => ⟨⟨n, hn, rfl⟩, ?_⟩⟩
      · have h1 := ih f (by omega)
        rw [show opP M c (r + 1 + 1) (sI M (c + 7) f) = opP M c (r + 1) (sI M (c + 7) f) by
          rw [opP, if_neg (by omega), gI_sI, up_s, if_pos h]]
        exact h1
      · have h1 := ih (if ¬ gI M (c + 1) (r + 1) < 0 ∧ gI M (c + 1) (r + 1) < nI n then upd f (gI M (c + 1) (r + 1)).toNatClampNeg 1 else f) (by omega)
        rw [show opP M c (r + 1 + 1) (sI M (c + 7) f) = opP M c (r + 1) (sI M (c + 7) (if ¬ gI M (c + 1) (r + 1) < 0 ∧ gI M (c + 1) (r + 1) < nI n then upd f (gI M (c + 1) (r + 1)).toNatClampNeg 1 else f)) by
          rw [opP, if_neg (by omega), gI_sI, up_s, if_neg h, opA_c, sI_sI, e8]]
        exact h1
  simp only [rX0_openParents_0, kX0_openParents_0, rX0_openParents_30, kX0_openParents_30, rX0_openParents_36, kX0_openParents_36, bk_c, if_true, if_false, wi_e, wl_e, wr_e, w1_i, w1_r, ldS_0, ldS_s, vi_e, vl_e, vr_e, dpL_u, dpL_i, dpL_r, dpL_l, stS_0, stS_1, stS_s, stL_0, stL_1, stL_s, bin_0, bin_1, bin_2, bin_3, bin_4, bin_5, bdv_0, bdv_1, lbin_0, lbin_1, lbin_2, cnd_0, cnd_1, cnd_2, cnd_3, cnd_4, cnd_5, aty_0, aty_1, aty_2, aty_3, aty_4, aty_5, c8_u, cn_0, cn_i, cn_r, cn_l, Nat.reduceAdd, Nat.reduceLeDiff, Nat.le_refl, adz, hnd_0, rcv_0, rcv_1, kLen_a, kLen_r, inB_e, inR_e, cpOK_e, swt_n, swt_c, List.take_succ_cons, List.take_zero, List.drop_succ_cons, List.drop_zero, List.reverse_cons, List.reverse_nil, List.nil_append, List.cons_append, List.length_cons, List.length_nil, Option.toList_some, Option.toList_none, det_e, det_x, tr_imp, fa_imp, implies_true, not_true, not_false_eq_true, and_true, true_and, nar_i, upd_s, st1_0, st1_1, st1_2, st1_3, st1_4, st1_5, st1_6, st1_7, st1_8, st1_9, st1_10, st1_11, st1_12, st1_13, st1_14, st1_15, st1_16, st1_17, st1_18, st1_19, st1_20, st1_21, st1_22, st1_23, st1_24, st1_25, st1_26, st1_27, st1_28, st1_29, st1_30, st1_31, st1_32, st1_33, st1_34, st1_35, st1_36, st1_37, st1_42, st1_43, st1_44, st1_46, st1_47, st1_48, st1_49, st1_50, st1_51, st1_52, st1_53, st1_54, st1_55, st1_56, st1_57, st1_58, st1_59, st1_60, k0, e8, cl]
  cases n with
  | zero =>
    rw [rX0_openParents_7]
    simp only [kX0_openParents_7, rX0_openParents_0, kX0_openParents_0, rX0_openParents_30, kX0_openParents_30, rX0_openParents_36, kX0_openParents_36, bk_c, if_true, if_false, wi_e, wl_e, wr_e, w1_i, w1_r, ldS_0, ldS_s, vi_e, vl_e, vr_e, dpL_u, dpL_i, dpL_r, dpL_l, stS_0, stS_1, stS_s, stL_0, stL_1, stL_s, bin_0, bin_1, bin_2, bin_3, bin_4, bin_5, bdv_0, bdv_1, lbin_0, lbin_1, lbin_2, cnd_0, cnd_1, cnd_2, cnd_3, cnd_4, cnd_5, aty_0, aty_1, aty_2, aty_3, aty_4, aty_5, c8_u, cn_0, cn_i, cn_r, cn_l, Nat.reduceAdd, Nat.reduceLeDiff, Nat.le_refl, adz, hnd_0, rcv_0, rcv_1, kLen_a, kLen_r, inB_e, inR_e, cpOK_e, swt_n, swt_c, List.take_succ_cons, List.take_zero, List.drop_succ_cons, List.drop_zero, List.reverse_cons, List.reverse_nil, List.nil_append, List.cons_append, List.length_cons, List.length_nil, Option.toList_some, Option.toList_none, det_e, det_x, tr_imp, fa_imp, implies_true, not_true, not_false_eq_true, and_true, true_and, nar_i, upd_s, st1_0, st1_1, st1_2, st1_3, st1_4, st1_5, st1_6, st1_7, st1_8, st1_9, st1_10, st1_11, st1_12, st1_13, st1_14, st1_15, st1_16, st1_17, st1_18, st1_19, st1_20, st1_21, st1_22, st1_23, st1_24, st1_25, st1_26, st1_27, st1_28, st1_29, st1_30, st1_31, st1_32, st1_33, st1_34, st1_35, st1_36, st1_37, st1_42, st1_43, st1_44, st1_46, st1_47, st1_48, st1_49, st1_50, st1_51, st1_52, st1_53, st1_54, st1_55, st1_56, st1_57, st1_58, st1_59, st1_60, gK_sI, gK_sJ, gK_sP, gK_sZ, gI_sI, gI_sJ, gI_sP, gI_sZ, gJ_sI, gJ_sJ, gJ_sP, gJ_sZ, gP_sI, gP_sJ, gP_sP, gP_sZ, gZ_sI, gZ_sJ, gZ_sP, gZ_sZ, up_q, up_q0, up_q1, up_s, sI_sI, Nat.reduceEqDiff, reduceIte, Nat.succ_ne_zero, forall_const, false_imp_iff, show (nI 0 - 1 ≤ 0) = True from eq_true (by decide), tr_imp, fa_imp, opP]
  | succ n =>
    have h0 := key n (gI M (c + 7)) (by omega)
    rw [sI_id] at h0
    rw [nI_pred]
    exact h0
def shA (M : Mm) (c : Nat) (x : Int32) : Nat → Int32 → Int32 := fun k s => if gI M (c + 1) k = x ∧ ¬ gI M (c + 7) k = 0 then s + gI M (c + 5) k else s
def S9 : Sem := fun as M => match as with
  | [.ref c, .int x] => sV (Lc M c ∧ cnt (gI M c 8) 16 ∧ vp_in x 16) (some (.int (itr (shA M c x) ((gI M c 8).toNatClampNeg - (x.toNatClampNeg + 1)) (x.toNatClampNeg + 1) 0))) M
  | _ => sF
theorem b9_0 (p : Prop) [Decidable p] : (b9 p = 0) = ¬ p := by
  unfold b9
  split
  · rename_i h
    exact propext ⟨fun q => absurd q (by decide), fun q => absurd h q⟩
  · rename_i h
    exact propext ⟨fun _ => h, fun _ => rfl⟩
set_option maxRecDepth 100000 in
set_option maxHeartbeats 4000000 in
theorem s_X0_openShares {l : Launch} {G : Gt} (hfl : l.stackTraces = false) : SatM l G 9 S9 := by
  refine t_X0_openShares (E := fun _ => S5) hfl (s_X0_isOpenChild hfl) fun as M hp => ?_
  unfold S9 at hp ⊢
  split at hp
  case h_2 => exact hp.elim
  rename_i c x
  obtain ⟨⟨k0, ⟨p0, p1, p2, p3, p4, p5, p6, p7⟩, k1, k2, k3, k4, k5, k6, k7, k8⟩, ⟨n, hn, e8⟩, hx⟩ := hp
  refine ⟨Nat.le_of_ble_eq_true rfl, ?_⟩
  show Run (gT G) _ _ _ _ _ _ _ 0 [.val (.ref c), .val (.int x), .unset, .unset] [] M 0 0
  have cl : (nI n).toNatClampNeg = n := nI_clamp (by omega)
  obtain ⟨j, hj, rfl⟩ := vp_in_of hx (by decide)
  have cj : (nI j).toNatClampNeg = j := nI_clamp (by omega)
  have hL2 : Lc M c := ⟨k0, ⟨p0, p1, p2, p3, p4, p5, p6, p7⟩, k1, k2, k3, k4, k5, k6, k7, k8⟩
  have key : ∀ r i t, i + r = n ∨ (r = 0 ∧ n ≤ i ∧ i ≤ 16) → Run (gT G) (fun _ => S5) 0 0 (fun _ _ => none) (fun v' M' => v' = some (.int (itr (shA M c (nI j)) r i t)) ∧ M' = M) (fun _ _ => False) kX0_openShares 6 [.val (.ref c), .val (.int (nI j)), .val (.int t), .val (.int (nI i))] [] M 0 0 := by
    intro r
    induction r with
    | zero =>
      intro i t hi
      have a1 : (nI n ≤ nI i) = True := eq_true ((nI_leI (by omega) (by omega)).mpr (by omega))
      rw [rX0_openShares_6]
      simp only [kX0_openShares_6, rX0_openShares_0, kX0_openShares_0, rX0_openShares_32, kX0_openShares_32, rX0_openShares_38, kX0_openShares_38, bk_c, if_true, if_false, wi_e, wl_e, wr_e, w1_i, w1_r, ldS_0, ldS_s, vi_e, vl_e, vr_e, dpL_u, dpL_i, dpL_r, dpL_l, stS_0, stS_1, stS_s, stL_0, stL_1, stL_s, bin_0, bin_1, bin_2, bin_3, bin_4, bin_5, bdv_0, bdv_1, lbin_0, lbin_1, lbin_2, cnd_0, cnd_1, cnd_2, cnd_3, cnd_4, cnd_5, aty_0, aty_1, aty_2, aty_3, aty_4, aty_5, c8_u, cn_0, cn_i, cn_r, cn_l, Nat.reduceAdd, Nat.reduceLeDiff, Nat.le_refl, adz, hnd_0, rcv_0, rcv_1, kLen_a, kLen_r, inB_e, inR_e, cpOK_e, swt_n, swt_c, List.take_succ_cons, List.take_zero, List.drop_succ_cons, List.drop_zero, List.reverse_cons, List.reverse_nil, List.nil_append, List.cons_append, List.length_cons, List.length_nil, Option.toList_some, Option.toList_none, det_e, det_x, tr_imp, fa_imp, implies_true, not_true, not_false_eq_true, and_true, true_and, nar_i, upd_s, st1_0, st1_1, st1_2, st1_3, st1_4, st1_5, st1_6, st1_7, st1_8, st1_9, st1_10, st1_11, st1_12, st1_13, st1_14, st1_15, st1_16, st1_17, st1_18, st1_19, st1_20, st1_21, st1_22, st1_23, st1_24, st1_25, st1_26, st1_27, st1_28, st1_29, st1_30, st1_31, st1_32, st1_33, st1_34, st1_35, st1_36, st1_37, st1_42, st1_43, st1_44, st1_46, st1_47, st1_48, st1_49, st1_50, st1_51, st1_52, st1_53, st1_54, st1_55, st1_56, st1_57, st1_58, st1_59, st1_60, gK_sI, gK_sJ, gK_sP, gK_sZ, gI_sI, gI_sJ, gI_sP, gI_sZ, gJ_sI, gJ_sJ, gJ_sP, gJ_sZ, gP_sI, gP_sJ, gP_sP, gP_sZ, gZ_sI, gZ_sJ, gZ_sP, gZ_sZ, up_q, up_q0, up_q1, up_s, sI_sI, Nat.reduceEqDiff, reduceIte, Nat.succ_ne_zero, forall_const, false_imp_iff, k0, e8, a1, tr_imp, fa_imp, itr]
    | succ r ih =>
      intro i t hi
      obtain ⟨a1, a2, a3, -⟩ := lp_in (i := i) (n := n) (N := 16) (by omega) hn (by decide)
      rw [rX0_openShares_6]
      simp only [kX0_openShares_6, rX0_openShares_0, kX0_openShares_0, rX0_openShares_32, kX0_openShares_32, rX0_openShares_38, kX0_openShares_38, bk_c, if_true, if_false, wi_e, wl_e, wr_e, w1_i, w1_r, ldS_0, ldS_s, vi_e, vl_e, vr_e, dpL_u, dpL_i, dpL_r, dpL_l, stS_0, stS_1, stS_s, stL_0, stL_1, stL_s, bin_0, bin_1, bin_2, bin_3, bin_4, bin_5, bdv_0, bdv_1, lbin_0, lbin_1, lbin_2, cnd_0, cnd_1, cnd_2, cnd_3, cnd_4, cnd_5, aty_0, aty_1, aty_2, aty_3, aty_4, aty_5, c8_u, cn_0, cn_i, cn_r, cn_l, Nat.reduceAdd, Nat.reduceLeDiff, Nat.le_refl, adz, hnd_0, rcv_0, rcv_1, kLen_a, kLen_r, inB_e, inR_e, cpOK_e, swt_n, swt_c, List.take_succ_cons, List.take_zero, List.drop_succ_cons, List.drop_zero, List.reverse_cons, List.reverse_nil, List.nil_append, List.cons_append, List.length_cons, List.length_nil, Option.toList_some, Option.toList_none, det_e, det_x, tr_imp, fa_imp, implies_true, not_true, not_false_eq_true, and_true, true_and, nar_i, upd_s, st1_0, st1_1, st1_2, st1_3, st1_4, st1_5, st1_6, st1_7, st1_8, st1_9, st1_10, st1_11, st1_12, st1_13, st1_14, st1_15, st1_16, st1_17, st1_18, st1_19, st1_20, st1_21, st1_22, st1_23, st1_24, st1_25, st1_26, st1_27, st1_28, st1_29, st1_30, st1_31, st1_32, st1_33, st1_34, st1_35, st1_36, st1_37, st1_42, st1_43, st1_44, st1_46, st1_47, st1_48, st1_49, st1_50, st1_51, st1_52, st1_53, st1_54, st1_55, st1_56, st1_57, st1_58, st1_59, st1_60, gK_sI, gK_sJ, gK_sP, gK_sZ, gI_sI, gI_sJ, gI_sP, gI_sZ, gJ_sI, gJ_sJ, gJ_sP, gJ_sZ, gP_sI, gP_sJ, gP_sP, gP_sZ, gZ_sI, gZ_sJ, gZ_sP, gZ_sZ, up_q, up_q0, up_q1, up_s, sI_sI, Nat.reduceEqDiff, reduceIte, Nat.succ_ne_zero, forall_const, false_imp_iff, k0, p4, k5, e8, S5, sV, a1, a2, a3, b9_0, tr_imp, fa_imp, nI_1, hL2, itr]
      refine ⟨fun h => ?_, fun h => ?_⟩
      · rw [show shA M c (nI j) i t = t from if_neg h]
        exact ih (i + 1) t (by omega)
      · rw [show shA M c (nI j) i t = t + gI M (c + 5) i from if_pos (Decidable.not_not.mp h)]
        exact ih (i + 1) _ (by omega)
  simp only [rX0_openShares_0, kX0_openShares_0, rX0_openShares_32, kX0_openShares_32, rX0_openShares_38, kX0_openShares_38, bk_c, if_true, if_false, wi_e, wl_e, wr_e, w1_i, w1_r, ldS_0, ldS_s, vi_e, vl_e, vr_e, dpL_u, dpL_i, dpL_r, dpL_l, stS_0, stS_1, stS_s, stL_0, stL_1, stL_s, bin_0, bin_1, bin_2, bin_3, bin_4, bin_5, bdv_0, bdv_1, lbin_0, lbin_1, lbin_2, cnd_0, cnd_1, cnd_2, cnd_3, cnd_4, cnd_5, aty_0, aty_1, aty_2, aty_3, aty_4, aty_5, c8_u, cn_0, cn_i, cn_r, cn_l, Nat.reduceAdd, Nat.reduceLeDiff, Nat.le_refl, adz, hnd_0, rcv_0, rcv_1, kLen_a, kLen_r, inB_e, inR_e, cpOK_e, swt_n, swt_c, List.take_succ_cons, List.take_zero, List.drop_succ_cons, List.drop_zero, List.reverse_cons, List.reverse_nil, List.nil_append, List.cons_append, List.length_cons, List.length_nil, Option.toList_some, Option.toList_none, det_e, det_x, tr_imp, fa_imp, implies_true, not_true, not_false_eq_true, and_true, true_and, nar_i, upd_s, st1_0, st1_1, st1_2, st1_3, st1_4, st1_5, st1_6, st1_7, st1_8, st1_9, st1_10, st1_11, st1_12, st1_13, st1_14, st1_15, st1_16, st1_17, st1_18, st1_19, st1_20, st1_21, st1_22, st1_23, st1_24, st1_25, st1_26, st1_27, st1_28, st1_29, st1_30, st1_31, st1_32, st1_33, st1_34, st1_35, st1_36, st1_37, st1_42, st1_43, st1_44, st1_46, st1_47, st1_48, st1_49, st1_50, st1_51, st1_52, st1_53, st1_54, st1_55, st1_56, st1_57, st1_58, st1_59, st1_60, k0, e8, cl, cj, nI_1]
  exact key _ _ _ (by omega)
def foA (M : Mm) (c : Nat) (x : Int32) : Nat → Nat → Int32
  | 0, _ => -1
  | r + 1, i => if (gI M (c + 1) i = x ∧ ¬ gI M (c + 7) i = 0) ∧ 0 < gI M (c + 5) i then nI i else foA M c x r (i + 1)
def S3 : Sem := fun as M => match as with
  | [.ref c, .int x] => sV (Lc M c ∧ cnt (gI M c 8) 16 ∧ vp_in x 16) (some (.int (foA M c x ((gI M c 8).toNatClampNeg - (x.toNatClampNeg + 1)) (x.toNatClampNeg + 1)))) M
  | _ => sF
set_option maxRecDepth 100000 in
set_option maxHeartbeats 4000000 in
theorem s_X0_firstOpenChild {l : Launch} {G : Gt} (hfl : l.stackTraces = false) : SatM l G 3 S3 := by
  refine t_X0_firstOpenChild (E := fun _ => S5) hfl (s_X0_isOpenChild hfl) fun as M hp => ?_
  unfold S3 at hp ⊢
  split at hp
  case h_2 => exact hp.elim
  rename_i c x
  obtain ⟨⟨k0, ⟨p0, p1, p2, p3, p4, p5, p6, p7⟩, k1, k2, k3, k4, k5, k6, k7, k8⟩, ⟨n, hn, e8⟩, hx⟩ := hp
  refine ⟨Nat.le_of_ble_eq_true rfl, ?_⟩
  show Run (gT G) _ _ _ _ _ _ _ 0 [.val (.ref c), .val (.int x), .unset] [] M 0 0
  have cl : (nI n).toNatClampNeg = n := nI_clamp (by omega)
  obtain ⟨j, hj, rfl⟩ := vp_in_of hx (by decide)
  have cj : (nI j).toNatClampNeg = j := nI_clamp (by omega)
  have hL2 : Lc M c := ⟨k0, ⟨p0, p1, p2, p3, p4, p5, p6, p7⟩, k1, k2, k3, k4, k5, k6, k7, k8⟩
  have key : ∀ r i, i + r = n ∨ (r = 0 ∧ n ≤ i ∧ i ≤ 16) → Run (gT G) (fun _ => S5) 0 0 (fun _ _ => none) (fun v' M' => v' = some (.int (foA M c (nI j) r i)) ∧ M' = M) (fun _ _ => False) kX0_firstOpenChild 4 [.val (.ref c), .val (.int (nI j)), .val (.int (nI i))] [] M 0 0 := by
    intro r
    induction r with
    | zero =>
      intro i hi
      have a1 : (nI n ≤ nI i) = True := eq_true ((nI_leI (by omega) (by omega)).mpr (by omega))
      rw [rX0_firstOpenChild_4]
      simp only [kX0_firstOpenChild_4, rX0_firstOpenChild_0, kX0_firstOpenChild_0, rX0_firstOpenChild_32, kX0_firstOpenChild_32, rX0_firstOpenChild_38, kX0_firstOpenChild_38, bk_c, if_true, if_false, wi_e, wl_e, wr_e, w1_i, w1_r, ldS_0, ldS_s, vi_e, vl_e, vr_e, dpL_u, dpL_i, dpL_r, dpL_l, stS_0, stS_1, stS_s, stL_0, stL_1, stL_s, bin_0, bin_1, bin_2, bin_3, bin_4, bin_5, bdv_0, bdv_1, lbin_0, lbin_1, lbin_2, cnd_0, cnd_1, cnd_2, cnd_3, cnd_4, cnd_5, aty_0, aty_1, aty_2, aty_3, aty_4, aty_5, c8_u, cn_0, cn_i, cn_r, cn_l, Nat.reduceAdd, Nat.reduceLeDiff, Nat.le_refl, adz, hnd_0, rcv_0, rcv_1, kLen_a, kLen_r, inB_e, inR_e, cpOK_e, swt_n, swt_c, List.take_succ_cons, List.take_zero, List.drop_succ_cons, List.drop_zero, List.reverse_cons, List.reverse_nil, List.nil_append, List.cons_append, List.length_cons, List.length_nil, Option.toList_some, Option.toList_none, det_e, det_x, tr_imp, fa_imp, implies_true, not_true, not_false_eq_true, and_true, true_and, nar_i, upd_s, st1_0, st1_1, st1_2, st1_3, st1_4, st1_5, st1_6, st1_7, st1_8, st1_9, st1_10, st1_11, st1_12, st1_13, st1_14, st1_15, st1_16, st1_17, st1_18, st1_19, st1_20, st1_21, st1_22, st1_23, st1_24, st1_25, st1_26, st1_27, st1_28, st1_29, st1_30, st1_31, st1_32, st1_33, st1_34, st1_35, st1_36, st1_37, st1_42, st1_43, st1_44, st1_46, st1_47, st1_48, st1_49, st1_50, st1_51, st1_52, st1_53, st1_54, st1_55, st1_56, st1_57, st1_58, st1_59, st1_60, gK_sI, gK_sJ, gK_sP, gK_sZ, gI_sI, gI_sJ, gI_sP, gI_sZ, gJ_sI, gJ_sJ, gJ_sP, gJ_sZ, gP_sI, gP_sJ, gP_sP, gP_sZ, gZ_sI, gZ_sJ, gZ_sP, gZ_sZ, up_q, up_q0, up_q1, up_s, sI_sI, Nat.reduceEqDiff, reduceIte, Nat.succ_ne_zero, forall_const, false_imp_iff, k0, e8, a1, tr_imp, fa_imp, foA]
    | succ r ih =>
      intro i hi
      obtain ⟨a1, a2, a3, -⟩ := lp_in (i := i) (n := n) (N := 16) (by omega) hn (by decide)
      rw [rX0_firstOpenChild_4]
      simp only [kX0_firstOpenChild_4, rX0_firstOpenChild_0, kX0_firstOpenChild_0, rX0_firstOpenChild_32, kX0_firstOpenChild_32, rX0_firstOpenChild_38, kX0_firstOpenChild_38, bk_c, if_true, if_false, wi_e, wl_e, wr_e, w1_i, w1_r, ldS_0, ldS_s, vi_e, vl_e, vr_e, dpL_u, dpL_i, dpL_r, dpL_l, stS_0, stS_1, stS_s, stL_0, stL_1, stL_s, bin_0, bin_1, bin_2, bin_3, bin_4, bin_5, bdv_0, bdv_1, lbin_0, lbin_1, lbin_2, cnd_0, cnd_1, cnd_2, cnd_3, cnd_4, cnd_5, aty_0, aty_1, aty_2, aty_3, aty_4, aty_5, c8_u, cn_0, cn_i, cn_r, cn_l, Nat.reduceAdd, Nat.reduceLeDiff, Nat.le_refl, adz, hnd_0, rcv_0, rcv_1, kLen_a, kLen_r, inB_e, inR_e, cpOK_e, swt_n, swt_c, List.take_succ_cons, List.take_zero, List.drop_succ_cons, List.drop_zero, List.reverse_cons, List.reverse_nil, List.nil_append, List.cons_append, List.length_cons, List.length_nil, Option.toList_some, Option.toList_none, det_e, det_x, tr_imp, fa_imp, implies_true, not_true, not_false_eq_true, and_true, true_and, nar_i, upd_s, st1_0, st1_1, st1_2, st1_3, st1_4, st1_5, st1_6, st1_7, st1_8, st1_9, st1_10, st1_11, st1_12, st1_13, st1_14, st1_15, st1_16, st1_17, st1_18, st1_19, st1_20, st1_21, st1_22, st1_23, st1_24, st1_25, st1_26, st1_27, st1_28, st1_29, st1_30, st1_31, st1_32, st1_33, st1_34, st1_35, st1_36, st1_37, st1_42, st1_43, st1_44, st1_46, st1_47, st1_48, st1_49, st1_50, st1_51, st1_52, st1_53, st1_54, st1_55, st1_56, st1_57, st1_58, st1_59, st1_60, gK_sI, gK_sJ, gK_sP, gK_sZ, gI_sI, gI_sJ, gI_sP, gI_sZ, gJ_sI, gJ_sJ, gJ_sP, gJ_sZ, gP_sI, gP_sJ, gP_sP, gP_sZ, gZ_sI, gZ_sJ, gZ_sP, gZ_sZ, up_q, up_q0, up_q1, up_s, sI_sI, Nat.reduceEqDiff, reduceIte, Nat.succ_ne_zero, forall_const, false_imp_iff, k0, p4, k5, e8, S5, sV, a1, a2, a3, b9_0, tr_imp, fa_imp, nI_1, hL2, foA]
      refine ⟨fun h => ?_, fun h => ⟨fun h2 => ?_, fun h2 => ?_⟩⟩
      · rw [if_neg (fun q => h q.1)]
        exact ih (i + 1) (by omega)
      · rw [if_neg (fun q => Int32.not_lt.mpr h2 q.2)]
        exact ih (i + 1) (by omega)
      · rw [if_pos ⟨Decidable.not_not.mp h, Int32.not_le.mp h2⟩]
  simp only [rX0_firstOpenChild_0, kX0_firstOpenChild_0, rX0_firstOpenChild_32, kX0_firstOpenChild_32, rX0_firstOpenChild_38, kX0_firstOpenChild_38, bk_c, if_true, if_false, wi_e, wl_e, wr_e, w1_i, w1_r, ldS_0, ldS_s, vi_e, vl_e, vr_e, dpL_u, dpL_i, dpL_r, dpL_l, stS_0, stS_1, stS_s, stL_0, stL_1, stL_s, bin_0, bin_1, bin_2, bin_3, bin_4, bin_5, bdv_0, bdv_1, lbin_0, lbin_1, lbin_2, cnd_0, cnd_1, cnd_2, cnd_3, cnd_4, cnd_5, aty_0, aty_1, aty_2, aty_3, aty_4, aty_5, c8_u, cn_0, cn_i, cn_r, cn_l, Nat.reduceAdd, Nat.reduceLeDiff, Nat.le_refl, adz, hnd_0, rcv_0, rcv_1, kLen_a, kLen_r, inB_e, inR_e, cpOK_e, swt_n, swt_c, List.take_succ_cons, List.take_zero, List.drop_succ_cons, List.drop_zero, List.reverse_cons, List.reverse_nil, List.nil_append, List.cons_append, List.length_cons, List.length_nil, Option.toList_some, Option.toList_none, det_e, det_x, tr_imp, fa_imp, implies_true, not_true, not_false_eq_true, and_true, true_and, nar_i, upd_s, st1_0, st1_1, st1_2, st1_3, st1_4, st1_5, st1_6, st1_7, st1_8, st1_9, st1_10, st1_11, st1_12, st1_13, st1_14, st1_15, st1_16, st1_17, st1_18, st1_19, st1_20, st1_21, st1_22, st1_23, st1_24, st1_25, st1_26, st1_27, st1_28, st1_29, st1_30, st1_31, st1_32, st1_33, st1_34, st1_35, st1_36, st1_37, st1_42, st1_43, st1_44, st1_46, st1_47, st1_48, st1_49, st1_50, st1_51, st1_52, st1_53, st1_54, st1_55, st1_56, st1_57, st1_58, st1_59, st1_60, k0, e8, cl, cj, nI_1]
  exact key _ _ (by omega)
def wsA (f : Nat → Int32) : Nat → Int64 → Int64 := fun k s => s + (f k).toInt64
def S12 : Sem := fun as M => match as with
  | [.ref c] => sV (Lc M c ∧ cnt (gI M c 8) 16) (some (.long (itr (wsA (gI M (c + 8))) ((gI M c 8).toNatClampNeg * 7) 0 0))) M
  | _ => sF
set_option maxRecDepth 100000 in
set_option maxHeartbeats 4000000 in
theorem s_X0_waterInAll {l : Launch} {G : Gt} (hfl : l.stackTraces = false) : SatM l G 12 S12 := by
  refine t_X0_waterInAll (E := fun _ => S0) hfl  fun as M hp => ?_
  unfold S12 at hp ⊢
  split at hp
  case h_2 => exact hp.elim
  rename_i c
  obtain ⟨⟨k0, ⟨p0, p1, p2, p3, p4, p5, p6, p7⟩, k1, k2, k3, k4, k5, k6, k7, k8⟩, n, hn, e8⟩ := hp
  refine ⟨Nat.le_of_ble_eq_true rfl, ?_⟩
  show Run (gT G) _ _ _ _ _ _ _ 0 [.val (.ref c), .unset, .unset, .unset] [] M 0 0
  have cl : (nI n).toNatClampNeg = n := nI_clamp (by omega)
  have e7 : nI n * 7 = nI (n * 7) := pk_mul n 7
  have key : ∀ r i t, i + r = n * 7 → Run (gT G) (fun _ => S0) 0 0 (fun _ _ => none) (fun v' M' => v' = some (.long (itr (wsA (gI M (c + 8))) r i t)) ∧ M' = M) (fun _ _ => False) kX0_waterInAll 4 [.val (.ref c), .val (.long t), .unset, .val (.int (nI i))] [] M 0 0 := by
    intro r
    induction r with
    | zero =>
      intro i t hi
      have hi2 : i = n * 7 := hi
      subst hi2
      rw [rX0_waterInAll_4]
      simp only [kX0_waterInAll_4, rX0_waterInAll_0, kX0_waterInAll_0, rX0_waterInAll_31, kX0_waterInAll_31, bk_c, if_true, if_false, wi_e, wl_e, wr_e, w1_i, w1_r, ldS_0, ldS_s, vi_e, vl_e, vr_e, dpL_u, dpL_i, dpL_r, dpL_l, stS_0, stS_1, stS_s, stL_0, stL_1, stL_s, bin_0, bin_1, bin_2, bin_3, bin_4, bin_5, bdv_0, bdv_1, lbin_0, lbin_1, lbin_2, cnd_0, cnd_1, cnd_2, cnd_3, cnd_4, cnd_5, aty_0, aty_1, aty_2, aty_3, aty_4, aty_5, c8_u, cn_0, cn_i, cn_r, cn_l, Nat.reduceAdd, Nat.reduceLeDiff, Nat.le_refl, adz, hnd_0, rcv_0, rcv_1, kLen_a, kLen_r, inB_e, inR_e, cpOK_e, swt_n, swt_c, List.take_succ_cons, List.take_zero, List.drop_succ_cons, List.drop_zero, List.reverse_cons, List.reverse_nil, List.nil_append, List.cons_append, List.length_cons, List.length_nil, Option.toList_some, Option.toList_none, det_e, det_x, tr_imp, fa_imp, implies_true, not_true, not_false_eq_true, and_true, true_and, nar_i, upd_s, st1_0, st1_1, st1_2, st1_3, st1_4, st1_5, st1_6, st1_7, st1_8, st1_9, st1_10, st1_11, st1_12, st1_13, st1_14, st1_15, st1_16, st1_17, st1_18, st1_19, st1_20, st1_21, st1_22, st1_23, st1_24, st1_25, st1_26, st1_27, st1_28, st1_29, st1_30, st1_31, st1_32, st1_33, st1_34, st1_35, st1_36, st1_37, st1_42, st1_43, st1_44, st1_46, st1_47, st1_48, st1_49, st1_50, st1_51, st1_52, st1_53, st1_54, st1_55, st1_56, st1_57, st1_58, st1_59, st1_60, gK_sI, gK_sJ, gK_sP, gK_sZ, gI_sI, gI_sJ, gI_sP, gI_sZ, gJ_sI, gJ_sJ, gJ_sP, gJ_sZ, gP_sI, gP_sJ, gP_sP, gP_sZ, gZ_sI, gZ_sJ, gZ_sP, gZ_sZ, up_q, up_q0, up_q1, up_s, sI_sI, Nat.reduceEqDiff, reduceIte, Nat.succ_ne_zero, forall_const, false_imp_iff, k0, e8, e7, lp_out, tr_imp, fa_imp, itr]
    | succ r ih =>
      intro i t hi
      obtain ⟨a1, -, a3, -⟩ := lp_in (i := i) (n := n * 7) (N := n * 7) (by omega) (Nat.le_refl _) (by omega)
      have a2 : vp_in (nI i) 112 = True := eq_true (vp_in_nI (by omega) (by decide))
      rw [rX0_waterInAll_4]
      simp only [kX0_waterInAll_4, rX0_waterInAll_0, kX0_waterInAll_0, rX0_waterInAll_31, kX0_waterInAll_31, bk_c, if_true, if_false, wi_e, wl_e, wr_e, w1_i, w1_r, ldS_0, ldS_s, vi_e, vl_e, vr_e, dpL_u, dpL_i, dpL_r, dpL_l, stS_0, stS_1, stS_s, stL_0, stL_1, stL_s, bin_0, bin_1, bin_2, bin_3, bin_4, bin_5, bdv_0, bdv_1, lbin_0, lbin_1, lbin_2, cnd_0, cnd_1, cnd_2, cnd_3, cnd_4, cnd_5, aty_0, aty_1, aty_2, aty_3, aty_4, aty_5, c8_u, cn_0, cn_i, cn_r, cn_l, Nat.reduceAdd, Nat.reduceLeDiff, Nat.le_refl, adz, hnd_0, rcv_0, rcv_1, kLen_a, kLen_r, inB_e, inR_e, cpOK_e, swt_n, swt_c, List.take_succ_cons, List.take_zero, List.drop_succ_cons, List.drop_zero, List.reverse_cons, List.reverse_nil, List.nil_append, List.cons_append, List.length_cons, List.length_nil, Option.toList_some, Option.toList_none, det_e, det_x, tr_imp, fa_imp, implies_true, not_true, not_false_eq_true, and_true, true_and, nar_i, upd_s, st1_0, st1_1, st1_2, st1_3, st1_4, st1_5, st1_6, st1_7, st1_8, st1_9, st1_10, st1_11, st1_12, st1_13, st1_14, st1_15, st1_16, st1_17, st1_18, st1_19, st1_20, st1_21, st1_22, st1_23, st1_24, st1_25, st1_26, st1_27, st1_28, st1_29, st1_30, st1_31, st1_32, st1_33, st1_34, st1_35, st1_36, st1_37, st1_42, st1_43, st1_44, st1_46, st1_47, st1_48, st1_49, st1_50, st1_51, st1_52, st1_53, st1_54, st1_55, st1_56, st1_57, st1_58, st1_59, st1_60, gK_sI, gK_sJ, gK_sP, gK_sZ, gI_sI, gI_sJ, gI_sP, gI_sZ, gJ_sI, gJ_sJ, gJ_sP, gJ_sZ, gP_sI, gP_sJ, gP_sP, gP_sZ, gZ_sI, gZ_sJ, gZ_sP, gZ_sZ, up_q, up_q0, up_q1, up_s, sI_sI, Nat.reduceEqDiff, reduceIte, Nat.succ_ne_zero, forall_const, false_imp_iff, k0, p7, k8, e8, e7, a1, a2, a3, tr_imp, fa_imp, nI_1, itr]
      exact ih (i + 1) _ (by omega)
  simp only [rX0_waterInAll_0, kX0_waterInAll_0, rX0_waterInAll_31, kX0_waterInAll_31, bk_c, if_true, if_false, wi_e, wl_e, wr_e, w1_i, w1_r, ldS_0, ldS_s, vi_e, vl_e, vr_e, dpL_u, dpL_i, dpL_r, dpL_l, stS_0, stS_1, stS_s, stL_0, stL_1, stL_s, bin_0, bin_1, bin_2, bin_3, bin_4, bin_5, bdv_0, bdv_1, lbin_0, lbin_1, lbin_2, cnd_0, cnd_1, cnd_2, cnd_3, cnd_4, cnd_5, aty_0, aty_1, aty_2, aty_3, aty_4, aty_5, c8_u, cn_0, cn_i, cn_r, cn_l, Nat.reduceAdd, Nat.reduceLeDiff, Nat.le_refl, adz, hnd_0, rcv_0, rcv_1, kLen_a, kLen_r, inB_e, inR_e, cpOK_e, swt_n, swt_c, List.take_succ_cons, List.take_zero, List.drop_succ_cons, List.drop_zero, List.reverse_cons, List.reverse_nil, List.nil_append, List.cons_append, List.length_cons, List.length_nil, Option.toList_some, Option.toList_none, det_e, det_x, tr_imp, fa_imp, implies_true, not_true, not_false_eq_true, and_true, true_and, nar_i, upd_s, st1_0, st1_1, st1_2, st1_3, st1_4, st1_5, st1_6, st1_7, st1_8, st1_9, st1_10, st1_11, st1_12, st1_13, st1_14, st1_15, st1_16, st1_17, st1_18, st1_19, st1_20, st1_21, st1_22, st1_23, st1_24, st1_25, st1_26, st1_27, st1_28, st1_29, st1_30, st1_31, st1_32, st1_33, st1_34, st1_35, st1_36, st1_37, st1_42, st1_43, st1_44, st1_46, st1_47, st1_48, st1_49, st1_50, st1_51, st1_52, st1_53, st1_54, st1_55, st1_56, st1_57, st1_58, st1_59, st1_60, k0, e8, cl]
  exact key _ 0 0 (by omega)
