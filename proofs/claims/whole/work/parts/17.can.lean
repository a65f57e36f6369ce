/-! ===== Canals ===== -/
theorem det_e {a : Option Value} {b : Mm} {P : Option Value → Mm → Prop} : (∀ (v : Option Value) (M' : Mm), v = a ∧ M' = b → P v M') = P a b :=
  propext ⟨fun h => h _ _ ⟨rfl, rfl⟩, fun h v M' e => by rw [e.1, e.2]; exact h⟩
theorem det_x {P : Nat → Mm → Prop} : (∀ (e : Nat) (M' : Mm), False → P e M') = True := propext ⟨fun _ => trivial, fun _ _ _ h => h.elim⟩
theorem upd_s (f : Nat → Int32) (k : Nat) (x : Int32) : upd f k x k = x := if_pos rfl
theorem upd_n (f : Nat → Int32) {k j : Nat} (x : Int32) (h : j ≠ k) : upd f k x j = f j := if_neg h
theorem up_q {α : Type} (f : Nat → α) (c i j : Nat) (v : α) : va_up f (c + i) v (c + j) = if j = i then v else f (c + j) := by
  unfold va_up
  by_cases h : j = i
  · rw [if_pos (by rw [h]), if_pos h]
  · rw [if_neg (by omega), if_neg h]
theorem up_q0 {α : Type} (f : Nat → α) (c i : Nat) (v : α) : va_up f (c + i) v c = if i = 0 then v else f c := by
  unfold va_up
  by_cases h : i = 0
  · rw [if_pos (by omega), if_pos h]
  · rw [if_neg (by omega), if_neg h]
theorem up_q1 {α : Type} (f : Nat → α) (c j : Nat) (v : α) : va_up f c v (c + j) = if j = 0 then v else f (c + j) := by
  unfold va_up
  by_cases h : j = 0
  · rw [if_pos (by omega), if_pos h]
  · rw [if_neg (by omega), if_neg h]
/-- a Canals at c: its rows behind it -/
def Lc (M : Mm) (c : Nat) : Prop := gK M c = kO 0 ∧ (gP M c 0 = c + 1 ∧ gP M c 1 = c + 2 ∧ gP M c 2 = c + 3 ∧ gP M c 3 = c + 4 ∧ gP M c 4 = c + 5 ∧ gP M c 5 = c + 6 ∧ gP M c 6 = c + 7 ∧ gP M c 7 = c + 8) ∧
  gK M (c + 1) = kA .int 16 ∧ gK M (c + 2) = kA .int 16 ∧ gK M (c + 3) = kA .int 16 ∧ gK M (c + 4) = kA .int 16 ∧ gK M (c + 5) = kA .int 16 ∧ gK M (c + 6) = kA .int 16 ∧ gK M (c + 7) = kA .boolean 16 ∧ gK M (c + 8) = kA .int 112
def sF : Prop × (Option Value → Mm → Prop) × (Nat → Mm → Prop) := (False, fun _ _ => False, fun _ _ => False)
/-- a contract that answers v and leaves M' -/
abbrev sV (pre : Prop) (v : Option Value) (N : Mm) : Prop × (Option Value → Mm → Prop) × (Nat → Mm → Prop) := (pre, fun v' M' => v' = v ∧ M' = N, fun _ _ => False)
def slotv (x y : Int32) : Int32 := x * 7 + (y - y / 7 * 7)
def S11 : Sem := fun as M => match as with
  | [.int x, .int y] => sV True (some (.int (slotv x y))) M
  | _ => sF
def S10 : Sem := fun as M => match as with
  | [.ref c, .int x, .int y, .int z] => sV (Lc M c ∧ vp_in x 16 ∧ vp_in (slotv x (y + gI M (c + 2) x.toNatClampNeg)) 112) none (sI M (c + 8) (upd (gI M (c + 8)) (slotv x (y + gI M (c + 2) x.toNatClampNeg)).toNatClampNeg z))
  | _ => sF
def S6 : Sem := fun as M => match as with
  | [.ref c, .int x, .int y] => sV (Lc M c ∧ vp_in x 16 ∧ vp_in (slotv x y) 112) (some (.int (gI M (c + 8) (slotv x y).toNatClampNeg))) (sI (sI M (c + 6) (upd (gI M (c + 6)) x.toNatClampNeg (gI M (c + 8) (slotv x y).toNatClampNeg))) (c + 8) (upd (gI M (c + 8)) (slotv x y).toNatClampNeg 0))
  | _ => sF
def S0 : Sem := fun as M => match as with
  | [.ref c, .int x, .int y, .int z] => sV (Lc M c ∧ vp_in x 16 ∧ (z < gI M (c + 2) x.toNatClampNeg → vp_in (slotv x (y + z)) 112)) (some (.int (if z < gI M (c + 2) x.toNatClampNeg then gI M (c + 8) (slotv x (y + z)).toNatClampNeg else 0))) M
  | _ => sF
def b9 (p : Prop) [Decidable p] : Int32 := if p then 1 else 0
theorem b9_t {p : Prop} [Decidable p] (h : p) : b9 p = 1 := if_pos h
theorem b9_f {p : Prop} [Decidable p] (h : ¬ p) : b9 p = 0 := if_neg h
theorem b9_n (p : Prop) [Decidable p] : vp_nar .boolean (b9 p) = b9 p := by
  unfold b9
  split <;> rfl
def S5 : Sem := fun as M => match as with
  | [.ref c, .int x, .int y] => sV (Lc M c ∧ vp_in x 16) (some (.int (b9 (gI M (c + 1) x.toNatClampNeg = y ∧ ¬ gI M (c + 7) x.toNatClampNeg = 0)))) M
  | _ => sF
def opA (M : Mm) (c : Nat) (x : Int32) : Nat → Int32 := if ¬ x < 0 ∧ x < gI M c 8 then upd (gI M (c + 7)) x.toNatClampNeg 1 else gI M (c + 7)
def S7 : Sem := fun as M => match as with
  | [.ref c, .int x] => sV (Lc M c ∧ ∃ n, n ≤ 16 ∧ gI M c 8 = nI n) none (sI M (c + 7) (opA M c x))
  | _ => sF
theorem sI_id (M : Mm) (a : Nat) : sI M a (gI M a) = M := by
  refine Mm_ext rfl ?_ rfl rfl rfl
  rw [gI_sI]
  funext q
  by_cases h : q = a
  · rw [h, up_s]
  · rw [up_n _ _ h]
theorem s_X0_slot {l : Launch} {G : Gt} (hfl : l.stackTraces = false) : SatM l G 11 S11 := by
  refine t_X0_slot (E := fun _ => S11) hfl fun as M hp => ?_
  unfold S11 at hp ⊢
  split at hp
  · refine ⟨Nat.le_of_ble_eq_true rfl, ?_⟩

    rename_i x y
    show Run _ _ _ _ _ _ _ _ _ [.val (.int x), .val (.int y)] _ _ _ _
    simp only [rX0_slot_0, kX0_slot_0, bk_c, if_true, if_false, wi_e, wl_e, wr_e, w1_i, w1_r, ldS_0, ldS_s, vi_e, vl_e, vr_e, dpL_u, dpL_i, dpL_r, dpL_l, stS_0, stS_1, stS_s, stL_0, stL_1, stL_s, bin_0, bin_1, bin_2, bin_3, bin_4, bin_5, bdv_0, bdv_1, lbin_0, lbin_1, lbin_2, cnd_0, cnd_1, cnd_2, cnd_3, cnd_4, cnd_5, aty_0, aty_1, aty_2, aty_3, aty_4, aty_5, c8_u, cn_0, cn_i, cn_r, cn_l, Nat.reduceAdd, Nat.reduceLeDiff, Nat.le_refl, adz, hnd_0, rcv_0, rcv_1, kLen_a, kLen_r, inB_e, inR_e, cpOK_e, swt_n, swt_c, List.take_succ_cons, List.take_zero, List.drop_succ_cons, List.drop_zero, List.reverse_cons, List.reverse_nil, List.nil_append, List.cons_append, List.length_cons, List.length_nil, Option.toList_some, Option.toList_none, det_e, det_x, and_true, true_and, nar_i, upd_s, st1_0, st1_1, st1_2, st1_3, st1_4, st1_5, st1_6, st1_7, st1_8, st1_9, st1_10, st1_11, st1_12, st1_13, st1_14, st1_15, st1_16, st1_17, st1_18, st1_19, st1_20, st1_21, st1_22, st1_23, st1_24, st1_25, st1_26, st1_27, st1_28, st1_29, st1_30, st1_31, st1_32, st1_33, st1_34, st1_35, st1_36, st1_37, st1_42, st1_43, st1_44, st1_46, st1_47, st1_48, st1_49, st1_50, st1_51, st1_52, st1_53, st1_54, st1_55, st1_56, st1_57, st1_58, st1_59, st1_60]
    exact ⟨by decide, rfl⟩
  · exact hp.elim
theorem s_X0_send {l : Launch} {G : Gt} (hfl : l.stackTraces = false) : SatM l G 10 S10 := by
  refine t_X0_send (E := fun _ => S11) hfl (s_X0_slot hfl) fun as M hp => ?_
  unfold S10 at hp ⊢
  split at hp
  · rename_i c x y z
    obtain ⟨⟨k0, ⟨p0, p1, p2, p3, p4, p5, p6, p7⟩, k1, k2, k3, k4, k5, k6, k7, k8⟩, h1, h2⟩ := hp
    refine ⟨Nat.le_of_ble_eq_true rfl, ?_⟩
    show Run _ _ _ _ _ _ _ _ _ [.val (.ref c), .val (.int x), .val (.int y), .val (.int z)] _ _ _ _
    simp only [rX0_send_0, kX0_send_0, bk_c, if_true, if_false, wi_e, wl_e, wr_e, w1_i, w1_r, ldS_0, ldS_s, vi_e, vl_e, vr_e, dpL_u, dpL_i, dpL_r, dpL_l, stS_0, stS_1, stS_s, stL_0, stL_1, stL_s, bin_0, bin_1, bin_2, bin_3, bin_4, bin_5, bdv_0, bdv_1, lbin_0, lbin_1, lbin_2, cnd_0, cnd_1, cnd_2, cnd_3, cnd_4, cnd_5, aty_0, aty_1, aty_2, aty_3, aty_4, aty_5, c8_u, cn_0, cn_i, cn_r, cn_l, Nat.reduceAdd, Nat.reduceLeDiff, Nat.le_refl, adz, hnd_0, rcv_0, rcv_1, kLen_a, kLen_r, inB_e, inR_e, cpOK_e, swt_n, swt_c, List.take_succ_cons, List.take_zero, List.drop_succ_cons, List.drop_zero, List.reverse_cons, List.reverse_nil, List.nil_append, List.cons_append, List.length_cons, List.length_nil, Option.toList_some, Option.toList_none, det_e, det_x, and_true, true_and, nar_i, upd_s, st1_0, st1_1, st1_2, st1_3, st1_4, st1_5, st1_6, st1_7, st1_8, st1_9, st1_10, st1_11, st1_12, st1_13, st1_14, st1_15, st1_16, st1_17, st1_18, st1_19, st1_20, st1_21, st1_22, st1_23, st1_24, st1_25, st1_26, st1_27, st1_28, st1_29, st1_30, st1_31, st1_32, st1_33, st1_34, st1_35, st1_36, st1_37, st1_42, st1_43, st1_44, st1_46, st1_47, st1_48, st1_49, st1_50, st1_51, st1_52, st1_53, st1_54, st1_55, st1_56, st1_57, st1_58, st1_59, st1_60, k0, p7, k8, p1, k2, S11, sV]
    trace_state
    sorry
  · exact hp.elim
theorem s_X0_letArrive {l : Launch} {G : Gt} (hfl : l.stackTraces = false) : SatM l G 6 S6 := by
  refine t_X0_letArrive (E := fun _ => S11) hfl (s_X0_slot hfl) fun as M hp => ?_
  unfold S6 at hp ⊢
  split at hp
  · rename_i c x y
    obtain ⟨⟨k0, ⟨p0, p1, p2, p3, p4, p5, p6, p7⟩, k1, k2, k3, k4, k5, k6, k7, k8⟩, h1, h2⟩ := hp
    refine ⟨Nat.le_of_ble_eq_true rfl, ?_⟩
    show Run _ _ _ _ _ _ _ _ _ [.val (.ref c), .val (.int x), .val (.int y), .unset] _ _ _ _
    simp only [rX0_letArrive_0, kX0_letArrive_0, bk_c, if_true, if_false, wi_e, wl_e, wr_e, w1_i, w1_r, ldS_0, ldS_s, vi_e, vl_e, vr_e, dpL_u, dpL_i, dpL_r, dpL_l, stS_0, stS_1, stS_s, stL_0, stL_1, stL_s, bin_0, bin_1, bin_2, bin_3, bin_4, bin_5, bdv_0, bdv_1, lbin_0, lbin_1, lbin_2, cnd_0, cnd_1, cnd_2, cnd_3, cnd_4, cnd_5, aty_0, aty_1, aty_2, aty_3, aty_4, aty_5, c8_u, cn_0, cn_i, cn_r, cn_l, Nat.reduceAdd, Nat.reduceLeDiff, Nat.le_refl, adz, hnd_0, rcv_0, rcv_1, kLen_a, kLen_r, inB_e, inR_e, cpOK_e, swt_n, swt_c, List.take_succ_cons, List.take_zero, List.drop_succ_cons, List.drop_zero, List.reverse_cons, List.reverse_nil, List.nil_append, List.cons_append, List.length_cons, List.length_nil, Option.toList_some, Option.toList_none, det_e, det_x, and_true, true_and, nar_i, upd_s, st1_0, st1_1, st1_2, st1_3, st1_4, st1_5, st1_6, st1_7, st1_8, st1_9, st1_10, st1_11, st1_12, st1_13, st1_14, st1_15, st1_16, st1_17, st1_18, st1_19, st1_20, st1_21, st1_22, st1_23, st1_24, st1_25, st1_26, st1_27, st1_28, st1_29, st1_30, st1_31, st1_32, st1_33, st1_34, st1_35, st1_36, st1_37, st1_42, st1_43, st1_44, st1_46, st1_47, st1_48, st1_49, st1_50, st1_51, st1_52, st1_53, st1_54, st1_55, st1_56, st1_57, st1_58, st1_59, st1_60, gK_sI, gK_sJ, gK_sP, gK_sZ, gI_sI, gI_sJ, gI_sP, gI_sZ, gJ_sI, gJ_sJ, gJ_sP, gJ_sZ, gP_sI, gP_sJ, gP_sP, gP_sZ, gZ_sI, gZ_sJ, gZ_sP, gZ_sZ, k0, p7, k8, p5, k6, S11, sV]
    trace_state
    sorry
  · exact hp.elim
theorem s_X0_isOpenChild {l : Launch} {G : Gt} (hfl : l.stackTraces = false) : SatM l G 5 S5 := by
  refine t_X0_isOpenChild (E := fun _ => S11) hfl fun as M hp => ?_
  unfold S5 at hp ⊢
  split at hp
  · rename_i c x y
    obtain ⟨⟨k0, ⟨p0, p1, p2, p3, p4, p5, p6, p7⟩, k1, k2, k3, k4, k5, k6, k7, k8⟩, h1⟩ := hp
    refine ⟨Nat.le_of_ble_eq_true rfl, ?_⟩
    show Run _ _ _ _ _ _ _ _ _ [.val (.ref c), .val (.int x), .val (.int y)] _ _ _ _
    simp only [rX0_isOpenChild_0, kX0_isOpenChild_0, rX0_isOpenChild_23, kX0_isOpenChild_23, bk_c, if_true, if_false, wi_e, wl_e, wr_e, w1_i, w1_r, ldS_0, ldS_s, vi_e, vl_e, vr_e, dpL_u, dpL_i, dpL_r, dpL_l, stS_0, stS_1, stS_s, stL_0, stL_1, stL_s, bin_0, bin_1, bin_2, bin_3, bin_4, bin_5, bdv_0, bdv_1, lbin_0, lbin_1, lbin_2, cnd_0, cnd_1, cnd_2, cnd_3, cnd_4, cnd_5, aty_0, aty_1, aty_2, aty_3, aty_4, aty_5, c8_u, cn_0, cn_i, cn_r, cn_l, Nat.reduceAdd, Nat.reduceLeDiff, Nat.le_refl, adz, hnd_0, rcv_0, rcv_1, kLen_a, kLen_r, inB_e, inR_e, cpOK_e, swt_n, swt_c, List.take_succ_cons, List.take_zero, List.drop_succ_cons, List.drop_zero, List.reverse_cons, List.reverse_nil, List.nil_append, List.cons_append, List.length_cons, List.length_nil, Option.toList_some, Option.toList_none, det_e, det_x, and_true, true_and, nar_i, upd_s, st1_0, st1_1, st1_2, st1_3, st1_4, st1_5, st1_6, st1_7, st1_8, st1_9, st1_10, st1_11, st1_12, st1_13, st1_14, st1_15, st1_16, st1_17, st1_18, st1_19, st1_20, st1_21, st1_22, st1_23, st1_24, st1_25, st1_26, st1_27, st1_28, st1_29, st1_30, st1_31, st1_32, st1_33, st1_34, st1_35, st1_36, st1_37, st1_42, st1_43, st1_44, st1_46, st1_47, st1_48, st1_49, st1_50, st1_51, st1_52, st1_53, st1_54, st1_55, st1_56, st1_57, st1_58, st1_59, st1_60, gK_sI, gK_sJ, gK_sP, gK_sZ, gI_sI, gI_sJ, gI_sP, gI_sZ, gJ_sI, gJ_sJ, gJ_sP, gJ_sZ, gP_sI, gP_sJ, gP_sP, gP_sZ, gZ_sI, gZ_sJ, gZ_sP, gZ_sZ, k0, p0, k1, p6, k7, sV]
    trace_state
    sorry
  · exact hp.elim
