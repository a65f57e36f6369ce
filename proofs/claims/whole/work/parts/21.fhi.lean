/-! ===== fairPart, History ===== -/
def dmR (M : Mm) (f : Nat) (v : Int32) : Int32 := itr (dmA M f v) (gI M f 11).toNatClampNeg 0 0
def fpS (M : Mm) (f : Nat) : Int32 := itr (fun k s => s + dmR M f (nI k)) 6 0 0
def irm (x y : Int32) : Int32 := x - x / y * y
def fpA (M : Mm) (f : Nat) (s h al rm : Int32) (k : Nat) (z : Int32 × Int32) : Int32 × Int32 :=
  (z.1 - h * dmR M f (nI k) / al, z.2 + if rm < irm (h * dmR M f (nI k)) al ∨ irm (h * dmR M f (nI k)) al = rm ∧ nI k < s then 1 else 0)
def fpR (M : Mm) (f : Nat) (s h : Int32) : Int32 × Int32 := itr (fpA M f s h (fpS M f) (irm (h * dmR M f s) (fpS M f))) 6 0 (h, 0)
def fpV (M : Mm) (f : Nat) (s h : Int32) : Int32 := if fpS M f ≤ 0 then 0 else h * dmR M f s / fpS M f + if (fpR M f s h).2 < (fpR M f s h).1 then 1 else 0
def S16 : Sem := fun as M => match as with
  | [.ref f, .int s, .int h] => sV (Lf M f ∧ cnt (gI M f 11) 12) (some (.int (fpV M f s h))) M
  | _ => sF
set_option maxRecDepth 100000 in
set_option maxHeartbeats 4000000 in
theorem s_X1_fairPart {l : Launch} {G : Gt} (hfl : l.stackTraces = false) : SatM l G 16 S16 := by
  refine t_X1_fairPart (E := fun _ => S15) hfl (s_X1_demandOf hfl) fun as M hp => ?_
  unfold S16 at hp ⊢
  split at hp
  case h_2 => exact hp.elim
  rename_i f s h
  obtain ⟨hF, hn⟩ := hp
  refine ⟨Nat.le_of_ble_eq_true rfl, ?_⟩
  show Run (gT G) _ _ _ _ _ _ _ 0 [.val (.ref f), .val (.int s), .val (.int h), .unset, .unset, .unset, .unset, .unset, .unset, .unset, .unset, .unset] [] M 0 0
  have k0 := hF.1
  have hd : ∀ v, itr (dmA M f v) (gI M f 11).toNatClampNeg 0 0 = dmR M f v := fun v => rfl
  have hir : ∀ x y : Int32, x - x / y * y = irm x y := fun x y => rfl
  have key2 : ∀ r i (z : Int32 × Int32) (al rm : Int32) (u v w : Slot), ¬ al ≤ 0 → i + r = 6 → Run (gT G) (fun _ => S15) 0 0 (fun _ _ => none) (fun v' M' => v' = some (.int (h * dmR M f s / al + if (itr (fpA M f s h al rm) r i z).2 < (itr (fpA M f s h al rm) r i z).1 then 1 else 0)) ∧ M' = M) (fun _ _ => False) kX1_fairPart 57 [.val (.ref f), .val (.int s), .val (.int h), .val (.int al), .val (.int (h * dmR M f s)), .val (.int rm), .val (.int z.1), .val (.int z.2), .val (.int (nI i)), u, v, w] [] M 0 0 := by
    intro r
    induction r with
    | zero =>
      intro i z al rm u v w hal hi
      have hi2 : i = 6 := hi
      subst hi2
      have h0 : ¬ al = 0 := fun e => hal (by rw [e]; exact Int32.le_refl _)
      rw [show itr (fpA M f s h al rm) 0 6 z = z from rfl, rX1_fairPart_57]
      simp only [kX1_fairPart_57, rX1_fairPart_0, kX1_fairPart_0, rX1_fairPart_27, kX1_fairPart_27, rX1_fairPart_33, kX1_fairPart_33, rX1_fairPart_106, kX1_fairPart_106, rX1_fairPart_107, kX1_fairPart_107, rX1_fairPart_123, kX1_fairPart_123, rX1_fairPart_127, kX1_fairPart_127, rX1_fairPart_128, kX1_fairPart_128, rX1_fairPart_137, kX1_fairPart_137, rX1_fairPart_152, kX1_fairPart_152, rX1_fairPart_153, kX1_fairPart_153, bk_c, if_true, if_false, wi_e, wl_e, wr_e, w1_i, w1_r, ldS_0, ldS_s, vi_e, vl_e, vr_e, dpL_u, dpL_i, dpL_r, dpL_l, stS_0, stS_1, stS_s, stL_0, stL_1, stL_s, bin_0, bin_1, bin_2, bin_3, bin_4, bin_5, bdv_0, bdv_1, lbin_0, lbin_1, lbin_2, cnd_0, cnd_1, cnd_2, cnd_3, cnd_4, cnd_5, aty_0, aty_1, aty_2, aty_3, aty_4, aty_5, c8_u, cn_0, cn_i, cn_r, cn_l, Nat.reduceAdd, Nat.reduceLeDiff, Nat.le_refl, adz, hnd_0, rcv_0, rcv_1, kLen_a, kLen_r, inB_e, inR_e, cpOK_e, swt_n, swt_c, List.take_succ_cons, List.take_zero, List.drop_succ_cons, List.drop_zero, List.reverse_cons, List.reverse_nil, List.nil_append, List.cons_append, List.length_cons, List.length_nil, Option.toList_some, Option.toList_none, det_e, det_x, tr_imp, fa_imp, implies_true, not_true, not_false_eq_true, and_true, true_and, nar_i, upd_s, st1_0, st1_1, st1_2, st1_3, st1_4, st1_5, st1_6, st1_7, st1_8, st1_9, st1_10, st1_11, st1_12, st1_13, st1_14, st1_15, st1_16, st1_17, st1_18, st1_19, st1_20, st1_21, st1_22, st1_23, st1_24, st1_25, st1_26, st1_27, st1_28, st1_29, st1_30, st1_31, st1_32, st1_33, st1_34, st1_35, st1_36, st1_37, st1_42, st1_43, st1_44, st1_46, st1_47, st1_48, st1_49, st1_50, st1_51, st1_52, st1_53, st1_54, st1_55, st1_56, st1_57, st1_58, st1_59, st1_60, up_q, up_q0, up_q1, up_s, sI_sI, Nat.reduceEqDiff, reduceIte, Nat.succ_ne_zero, forall_const, false_imp_iff, k0, lp_out, nI_6]
      refine ⟨h0, fun h1 => ?_, fun h1 => ?_⟩
      · rw [if_neg (Int32.not_lt.mpr h1)]
      · rw [if_pos (Int32.not_le.mp h1)]
    | succ r ih =>
      intro i z al rm u v w hal hi
      obtain ⟨a1, a2, a3, -⟩ := lp_in (i := i) (n := 6) (N := 6) (by omega) (Nat.le_refl 6) (by decide)
      have h0 : ¬ al = 0 := fun e => hal (by rw [e]; exact Int32.le_refl _)
      rw [rX1_fairPart_57]
      simp only [kX1_fairPart_57, rX1_fairPart_0, kX1_fairPart_0, rX1_fairPart_27, kX1_fairPart_27, rX1_fairPart_33, kX1_fairPart_33, rX1_fairPart_106, kX1_fairPart_106, rX1_fairPart_107, kX1_fairPart_107, rX1_fairPart_123, kX1_fairPart_123, rX1_fairPart_127, kX1_fairPart_127, rX1_fairPart_128, kX1_fairPart_128, rX1_fairPart_137, kX1_fairPart_137, rX1_fairPart_152, kX1_fairPart_152, rX1_fairPart_153, kX1_fairPart_153, bk_c, if_true, if_false, wi_e, wl_e, wr_e, w1_i, w1_r, ldS_0, ldS_s, vi_e, vl_e, vr_e, dpL_u, dpL_i, dpL_r, dpL_l, stS_0, stS_1, stS_s, stL_0, stL_1, stL_s, bin_0, bin_1, bin_2, bin_3, bin_4, bin_5, bdv_0, bdv_1, lbin_0, lbin_1, lbin_2, cnd_0, cnd_1, cnd_2, cnd_3, cnd_4, cnd_5, aty_0, aty_1, aty_2, aty_3, aty_4, aty_5, c8_u, cn_0, cn_i, cn_r, cn_l, Nat.reduceAdd, Nat.reduceLeDiff, Nat.le_refl, adz, hnd_0, rcv_0, rcv_1, kLen_a, kLen_r, inB_e, inR_e, cpOK_e, swt_n, swt_c, List.take_succ_cons, List.take_zero, List.drop_succ_cons, List.drop_zero, List.reverse_cons, List.reverse_nil, List.nil_append, List.cons_append, List.length_cons, List.length_nil, Option.toList_some, Option.toList_none, det_e, det_x, tr_imp, fa_imp, implies_true, not_true, not_false_eq_true, and_true, true_and, nar_i, upd_s, st1_0, st1_1, st1_2, st1_3, st1_4, st1_5, st1_6, st1_7, st1_8, st1_9, st1_10, st1_11, st1_12, st1_13, st1_14, st1_15, st1_16, st1_17, st1_18, st1_19, st1_20, st1_21, st1_22, st1_23, st1_24, st1_25, st1_26, st1_27, st1_28, st1_29, st1_30, st1_31, st1_32, st1_33, st1_34, st1_35, st1_36, st1_37, st1_42, st1_43, st1_44, st1_46, st1_47, st1_48, st1_49, st1_50, st1_51, st1_52, st1_53, st1_54, st1_55, st1_56, st1_57, st1_58, st1_59, st1_60, up_q, up_q0, up_q1, up_s, sI_sI, Nat.reduceEqDiff, reduceIte, Nat.succ_ne_zero, forall_const, false_imp_iff, k0, a1, a2, a3, nI_1, itr, nI_6, S15, sV, hF, hn, hd, hir, h0]
      have cls : ∀ (c : Int32) u v w, (if rm < irm (h * dmR M f (nI i)) al ∨ irm (h * dmR M f (nI i)) al = rm ∧ nI i < s then 1 else 0) = c → Run (gT G) (fun _ => S15) 0 0 (fun _ _ => none) (fun v' M' => v' = some (.int (h * dmR M f s / al + if (itr (fpA M f s h al rm) r (i + 1) (fpA M f s h al rm i z)).2 < (itr (fpA M f s h al rm) r (i + 1) (fpA M f s h al rm i z)).1 then 1 else 0)) ∧ M' = M) (fun _ _ => False) kX1_fairPart 57 [.val (.ref f), .val (.int s), .val (.int h), .val (.int al), .val (.int (h * dmR M f s)), .val (.int rm), .val (.int (z.1 - h * dmR M f (nI i) / al)), .val (.int (z.2 + c)), .val (.int (nI (i + 1))), u, v, w] [] M 0 0 := by
        intro c u v w hc
        have h3 := ih (i + 1) (fpA M f s h al rm i z) al rm u v w hal (by omega)
        rw [← hc]
        exact h3
      refine ⟨fun h1 => ⟨fun h2 => cls 1 _ _ _ (if_pos (Or.inl h2)), fun h2 => cls 0 _ _ _ (if_neg (fun q => q.elim h2 (fun q => h1 q.1)))⟩, fun h1 => ⟨fun h4 => ⟨fun h2 => cls 1 _ _ _ (if_pos (Or.inl h2)), fun h2 => cls 0 _ _ _ (if_neg (fun q => q.elim h2 (fun q => Int32.not_lt.mpr h4 q.2)))⟩, fun h4 => ⟨fun h2 => cls 1 _ _ _ (if_pos (Or.inl h2)), fun h2 => ⟨fun h5 => absurd h5 (by decide), fun h5 => cls 1 _ _ _ (if_pos (Or.inr ⟨Decidable.not_not.mp h1, Int32.not_le.mp h4⟩))⟩⟩⟩⟩
  have key : ∀ r i (t : Int32), i + r = 6 → Run (gT G) (fun _ => S15) 0 0 (fun _ _ => none) (fun v' M' => v' = some (.int (if itr (fun k s => s + dmR M f (nI k)) r i t ≤ 0 then 0 else h * dmR M f s / itr (fun k s => s + dmR M f (nI k)) r i t + if (itr (fpA M f s h (itr (fun k s => s + dmR M f (nI k)) r i t) (irm (h * dmR M f s) (itr (fun k s => s + dmR M f (nI k)) r i t))) 6 0 (h, 0)).2 < (itr (fpA M f s h (itr (fun k s => s + dmR M f (nI k)) r i t) (irm (h * dmR M f s) (itr (fun k s => s + dmR M f (nI k)) r i t))) 6 0 (h, 0)).1 then 1 else 0)) ∧ M' = M) (fun _ _ => False) kX1_fairPart 5 [.val (.ref f), .val (.int s), .val (.int h), .val (.int t), .val (.int (nI i)), .unset, .unset, .unset, .unset, .unset, .unset, .unset] [] M 0 0 := by
    intro r
    induction r with
    | zero =>
      intro i t hi
      have hi2 : i = 6 := hi
      subst hi2
      rw [show itr (fun k s => s + dmR M f (nI k)) 0 6 t = t from rfl, rX1_fairPart_5]
      simp only [kX1_fairPart_5, rX1_fairPart_0, kX1_fairPart_0, rX1_fairPart_27, kX1_fairPart_27, rX1_fairPart_33, kX1_fairPart_33, rX1_fairPart_106, kX1_fairPart_106, rX1_fairPart_107, kX1_fairPart_107, rX1_fairPart_123, kX1_fairPart_123, rX1_fairPart_127, kX1_fairPart_127, rX1_fairPart_128, kX1_fairPart_128, rX1_fairPart_137, kX1_fairPart_137, rX1_fairPart_152, kX1_fairPart_152, rX1_fairPart_153, kX1_fairPart_153, bk_c, if_true, if_false, wi_e, wl_e, wr_e, w1_i, w1_r, ldS_0, ldS_s, vi_e, vl_e, vr_e, dpL_u, dpL_i, dpL_r, dpL_l, stS_0, stS_1, stS_s, stL_0, stL_1, stL_s, bin_0, bin_1, bin_2, bin_3, bin_4, bin_5, bdv_0, bdv_1, lbin_0, lbin_1, lbin_2, cnd_0, cnd_1, cnd_2, cnd_3, cnd_4, cnd_5, aty_0, aty_1, aty_2, aty_3, aty_4, aty_5, c8_u, cn_0, cn_i, cn_r, cn_l, Nat.reduceAdd, Nat.reduceLeDiff, Nat.le_refl, adz, hnd_0, rcv_0, rcv_1, kLen_a, kLen_r, inB_e, inR_e, cpOK_e, swt_n, swt_c, List.take_succ_cons, List.take_zero, List.drop_succ_cons, List.drop_zero, List.reverse_cons, List.reverse_nil, List.nil_append, List.cons_append, List.length_cons, List.length_nil, Option.toList_some, Option.toList_none, det_e, det_x, tr_imp, fa_imp, implies_true, not_true, not_false_eq_true, and_true, true_and, nar_i, upd_s, st1_0, st1_1, st1_2, st1_3, st1_4, st1_5, st1_6, st1_7, st1_8, st1_9, st1_10, st1_11, st1_12, st1_13, st1_14, st1_15, st1_16, st1_17, st1_18, st1_19, st1_20, st1_21, st1_22, st1_23, st1_24, st1_25, st1_26, st1_27, st1_28, st1_29, st1_30, st1_31, st1_32, st1_33, st1_34, st1_35, st1_36, st1_37, st1_42, st1_43, st1_44, st1_46, st1_47, st1_48, st1_49, st1_50, st1_51, st1_52, st1_53, st1_54, st1_55, st1_56, st1_57, st1_58, st1_59, st1_60, up_q, up_q0, up_q1, up_s, sI_sI, Nat.reduceEqDiff, reduceIte, Nat.succ_ne_zero, forall_const, false_imp_iff, k0, lp_out, nI_6, S15, sV, hF, hn, hd, hir]
      refine ⟨fun h1 => ⟨fun e => absurd h1 (by rw [e]; decide), ?_⟩, fun h1 => ?_⟩
      · rw [if_neg (Int32.not_le.mpr h1)]
        exact key2 6 0 (h, 0) t (irm (h * dmR M f s) t) .unset .unset .unset (Int32.not_le.mpr h1) rfl
      · rw [if_pos (Int32.not_lt.mp h1)]
    | succ r ih =>
      intro i t hi
      obtain ⟨a1, a2, a3, -⟩ := lp_in (i := i) (n := 6) (N := 6) (by omega) (Nat.le_refl 6) (by decide)
      rw [rX1_fairPart_5]
      simp only [kX1_fairPart_5, rX1_fairPart_0, kX1_fairPart_0, rX1_fairPart_27, kX1_fairPart_27, rX1_fairPart_33, kX1_fairPart_33, rX1_fairPart_106, kX1_fairPart_106, rX1_fairPart_107, kX1_fairPart_107, rX1_fairPart_123, kX1_fairPart_123, rX1_fairPart_127, kX1_fairPart_127, rX1_fairPart_128, kX1_fairPart_128, rX1_fairPart_137, kX1_fairPart_137, rX1_fairPart_152, kX1_fairPart_152, rX1_fairPart_153, kX1_fairPart_153, bk_c, if_true, if_false, wi_e, wl_e, wr_e, w1_i, w1_r, ldS_0, ldS_s, vi_e, vl_e, vr_e, dpL_u, dpL_i, dpL_r, dpL_l, stS_0, stS_1, stS_s, stL_0, stL_1, stL_s, bin_0, bin_1, bin_2, bin_3, bin_4, bin_5, bdv_0, bdv_1, lbin_0, lbin_1, lbin_2, cnd_0, cnd_1, cnd_2, cnd_3, cnd_4, cnd_5, aty_0, aty_1, aty_2, aty_3, aty_4, aty_5, c8_u, cn_0, cn_i, cn_r, cn_l, Nat.reduceAdd, Nat.reduceLeDiff, Nat.le_refl, adz, hnd_0, rcv_0, rcv_1, kLen_a, kLen_r, inB_e, inR_e, cpOK_e, swt_n, swt_c, List.take_succ_cons, List.take_zero, List.drop_succ_cons, List.drop_zero, List.reverse_cons, List.reverse_nil, List.nil_append, List.cons_append, List.length_cons, List.length_nil, Option.toList_some, Option.toList_none, det_e, det_x, tr_imp, fa_imp, implies_true, not_true, not_false_eq_true, and_true, true_and, nar_i, upd_s, st1_0, st1_1, st1_2, st1_3, st1_4, st1_5, st1_6, st1_7, st1_8, st1_9, st1_10, st1_11, st1_12, st1_13, st1_14, st1_15, st1_16, st1_17, st1_18, st1_19, st1_20, st1_21, st1_22, st1_23, st1_24, st1_25, st1_26, st1_27, st1_28, st1_29, st1_30, st1_31, st1_32, st1_33, st1_34, st1_35, st1_36, st1_37, st1_42, st1_43, st1_44, st1_46, st1_47, st1_48, st1_49, st1_50, st1_51, st1_52, st1_53, st1_54, st1_55, st1_56, st1_57, st1_58, st1_59, st1_60, up_q, up_q0, up_q1, up_s, sI_sI, Nat.reduceEqDiff, reduceIte, Nat.succ_ne_zero, forall_const, false_imp_iff, k0, a1, a2, a3, nI_1, itr, nI_6, S15, sV, hF, hn, hd]
      exact ih (i + 1) _ (by omega)
  simp only [rX1_fairPart_0, kX1_fairPart_0, rX1_fairPart_27, kX1_fairPart_27, rX1_fairPart_33, kX1_fairPart_33, rX1_fairPart_106, kX1_fairPart_106, rX1_fairPart_107, kX1_fairPart_107, rX1_fairPart_123, kX1_fairPart_123, rX1_fairPart_127, kX1_fairPart_127, rX1_fairPart_128, kX1_fairPart_128, rX1_fairPart_137, kX1_fairPart_137, rX1_fairPart_152, kX1_fairPart_152, rX1_fairPart_153, kX1_fairPart_153, bk_c, if_true, if_false, wi_e, wl_e, wr_e, w1_i, w1_r, ldS_0, ldS_s, vi_e, vl_e, vr_e, dpL_u, dpL_i, dpL_r, dpL_l, stS_0, stS_1, stS_s, stL_0, stL_1, stL_s, bin_0, bin_1, bin_2, bin_3, bin_4, bin_5, bdv_0, bdv_1, lbin_0, lbin_1, lbin_2, cnd_0, cnd_1, cnd_2, cnd_3, cnd_4, cnd_5, aty_0, aty_1, aty_2, aty_3, aty_4, aty_5, c8_u, cn_0, cn_i, cn_r, cn_l, Nat.reduceAdd, Nat.reduceLeDiff, Nat.le_refl, adz, hnd_0, rcv_0, rcv_1, kLen_a, kLen_r, inB_e, inR_e, cpOK_e, swt_n, swt_c, List.take_succ_cons, List.take_zero, List.drop_succ_cons, List.drop_zero, List.reverse_cons, List.reverse_nil, List.nil_append, List.cons_append, List.length_cons, List.length_nil, Option.toList_some, Option.toList_none, det_e, det_x, tr_imp, fa_imp, implies_true, not_true, not_false_eq_true, and_true, true_and, nar_i, upd_s, st1_0, st1_1, st1_2, st1_3, st1_4, st1_5, st1_6, st1_7, st1_8, st1_9, st1_10, st1_11, st1_12, st1_13, st1_14, st1_15, st1_16, st1_17, st1_18, st1_19, st1_20, st1_21, st1_22, st1_23, st1_24, st1_25, st1_26, st1_27, st1_28, st1_29, st1_30, st1_31, st1_32, st1_33, st1_34, st1_35, st1_36, st1_37, st1_42, st1_43, st1_44, st1_46, st1_47, st1_48, st1_49, st1_50, st1_51, st1_52, st1_53, st1_54, st1_55, st1_56, st1_57, st1_58, st1_59, st1_60]
  exact key 6 0 0 rfl
/-! == the states before a change == -/
/-- a History at h: its row, then eight States -/
def Lh (M : Mm) (h : Nat) : Prop := gK M h = kO 4 ∧ gP M h 0 = h + 1 ∧ gK M (h + 1) = kA (.object "IrrigationTurns$State") 8 ∧ ∀ i, i < 8 → gP M (h + 1) i = h + 2 + 32 * i ∧ Ls M (h + 2 + 32 * i)
theorem hs_lt (h j : Nat) : h < h + 2 + 32 * j := by omega
theorem hs_ne (h j : Nat) : (h + 2 + 32 * j = 0) = False := eq_false (by omega)
theorem hs_ap {h o j : Nat} (ha : apt h 258 o 32) (hj : j < 8) : apt (h + 2 + 32 * j) 32 o 32 := by unfold apt at *; omega
def svK (M : Mm) (h : Nat) : Int32 := gI M h 1
def svA (M : Mm) (h : Nat) : Nat := h + 2 + 32 * (gI M h 1).toNatClampNeg
def svM (M : Mm) (h o : Nat) : Mm :=
  let N := cpS M (svA M h) o
  sI N h (upd (upd (gI N h) 1 (if gI M h 1 + 1 < 8 then gI M h 1 + 1 else 0)) 2 (mnI (gI M h 2 + 1) 8))
def S39 : Sem := fun as M => match as with
  | [.ref h, .ref o] => sV (Lh M h ∧ vp_in (gI M h 1) 8 ∧ Ls M o ∧ cnt (gI M (o + 10) 11) 12 ∧ cnt (gI M (o + 27) 2) 900 ∧ apt h 258 o 32) none (svM M h o)
  | _ => sF
set_option maxRecDepth 100000 in
set_option maxHeartbeats 4000000 in
theorem s_X4_save {l : Launch} {G : Gt} (hfl : l.stackTraces = false) : SatM l G 39 S39 := by
  refine t_X4_save (E := fun _ => S64) hfl (s_X8_copyFrom hfl) fun as M hp => ?_
  unfold S39 at hp ⊢
  split at hp
  case h_2 => exact hp.elim
  rename_i h o
  obtain ⟨⟨k0, p0, k1, h1⟩, hx, hL, hc, hm, ha⟩ := hp
  refine ⟨Nat.le_of_ble_eq_true rfl, ?_⟩
  show Run (gT G) _ _ _ _ _ _ _ 0 [.val (.ref h), .val (.ref o)] [] M 0 0
  obtain ⟨j, hj, ej⟩ := vp_in_of hx (by decide)
  have cj : (nI j).toNatClampNeg = j := nI_clamp (by omega)
  obtain ⟨g1, g2⟩ := h1 j hj
  have hx2 : vp_in (nI j) 8 = True := eq_true (vp_in_nI hj (by decide))
  have hK : ∀ b o, gK (cpS M b o) = gK M := fun b o => (kp_S M b o).1
  have hI : ∀ o, gI (cpS M (h + 2 + 32 * j) o) h = gI M h := fun o => fs_S M (Or.inl (hs_lt h j))
  have ha2 : apt (h + 2 + 32 * j) 32 o 32 := hs_ap ha hj
  simp only [rX4_save_0, kX4_save_0, rX4_save_34, kX4_save_34, rX4_save_35, kX4_save_35, bk_c, if_true, if_false, wi_e, wl_e, wr_e, w1_i, w1_r, ldS_0, ldS_s, vi_e, vl_e, vr_e, dpL_u, dpL_i, dpL_r, dpL_l, stS_0, stS_1, stS_s, stL_0, stL_1, stL_s, bin_0, bin_1, bin_2, bin_3, bin_4, bin_5, bdv_0, bdv_1, lbin_0, lbin_1, lbin_2, cnd_0, cnd_1, cnd_2, cnd_3, cnd_4, cnd_5, aty_0, aty_1, aty_2, aty_3, aty_4, aty_5, c8_u, cn_0, cn_i, cn_r, cn_l, Nat.reduceAdd, Nat.reduceLeDiff, Nat.le_refl, adz, hnd_0, rcv_0, rcv_1, kLen_a, kLen_r, inB_e, inR_e, cpOK_e, swt_n, swt_c, List.take_succ_cons, List.take_zero, List.drop_succ_cons, List.drop_zero, List.reverse_cons, List.reverse_nil, List.nil_append, List.cons_append, List.length_cons, List.length_nil, Option.toList_some, Option.toList_none, det_e, det_x, tr_imp, fa_imp, implies_true, not_true, not_false_eq_true, and_true, true_and, nar_i, upd_s, st1_0, st1_1, st1_2, st1_3, st1_4, st1_5, st1_6, st1_7, st1_8, st1_9, st1_10, st1_11, st1_12, st1_13, st1_14, st1_15, st1_16, st1_17, st1_18, st1_19, st1_20, st1_21, st1_22, st1_23, st1_24, st1_25, st1_26, st1_27, st1_28, st1_29, st1_30, st1_31, st1_32, st1_33, st1_34, st1_35, st1_36, st1_37, st1_42, st1_43, st1_44, st1_46, st1_47, st1_48, st1_49, st1_50, st1_51, st1_52, st1_53, st1_54, st1_55, st1_56, st1_57, st1_58, st1_59, st1_60, gK_sI, gK_sJ, gK_sP, gK_sZ, gI_sI, gI_sJ, gI_sP, gI_sZ, gJ_sI, gJ_sJ, gJ_sP, gJ_sZ, gP_sI, gP_sJ, gP_sP, gP_sZ, gZ_sI, gZ_sJ, gZ_sP, gZ_sZ, up_q, up_q0, up_q1, up_s, sI_sI, Nat.reduceEqDiff, reduceIte, Nat.succ_ne_zero, forall_const, false_imp_iff, k0, p0, k1, ej, cj, hx2, g1, g2, S64, sV, hL, hc, hm, hK, hI, ha2, (hs_ne h j)]
  have h8 : ∀ x : Int32, (if 8 < x then 8 else x) = mnI x 8 := fun x => rfl
  have g3 : gK M (h + 2 + 32 * j) = kO 8 := g2.1
  have e1 : svA M h = h + 2 + 32 * j := by unfold svA; rw [ej, cj]
  refine ⟨fun e => absurd e (by rw [hs_ne]; exact id), g3, fun q => ?_, fun q => ?_⟩
  · unfold svM
    dsimp only
    rw [e1, hI, ej, if_neg (Int32.not_lt.mpr q), upd_n _ _ (show (2 : Nat) ≠ 1 by decide)]
    rfl
  · unfold svM
    dsimp only
    rw [e1, hI, ej, if_pos (Int32.not_le.mp q), upd_n _ _ (show (2 : Nat) ≠ 1 by decide)]
    rfl
def rsN (M : Mm) (h : Nat) : Int32 := if gI M h 1 ≤ 0 then 7 else gI M h 1 - 1
def rsM (M : Mm) (h o : Nat) : Mm :=
  if gI M h 2 = 0 then M else
  let M1 := sI M h (upd (gI M h) 1 (rsN M h))
  let N := cpS M1 o (h + 2 + 32 * (rsN M h).toNatClampNeg)
  sI N h (upd (gI N h) 2 (gI N h 2 - 1))
def S38 : Sem := fun as M => match as with
  | [.ref h, .ref o] => sV (Lh M h ∧ vp_in (gI M h 1) 8 ∧ Ls M o ∧ (∀ i, i < 8 → cnt (gI M (h + 2 + 32 * i + 10) 11) 12 ∧ cnt (gI M (h + 2 + 32 * i + 27) 2) 900) ∧ apt h 258 o 32) (some (.int (if gI M h 2 = 0 then 0 else 1))) (rsM M h o)
  | _ => sF
theorem hs_ap2 {h o j : Nat} (ha : apt h 258 o 32) (hj : j < 8) : apt o 32 (h + 2 + 32 * j) 32 := by unfold apt at *; omega
theorem hs_o {h o : Nat} (ha : apt h 258 o 32) : h < o ∨ o + 32 ≤ h := by unfold apt at *; omega
theorem hs_k (h j k : Nat) : h + 2 + 32 * j + k ≠ h := by omega
set_option maxRecDepth 100000 in
set_option maxHeartbeats 4000000 in
theorem s_X4_restore {l : Launch} {G : Gt} (hfl : l.stackTraces = false) : SatM l G 38 S38 := by
  refine t_X4_restore (E := fun _ => S64) hfl (s_X8_copyFrom hfl) fun as M hp => ?_
  unfold S38 at hp ⊢
  split at hp
  case h_2 => exact hp.elim
  rename_i h o
  obtain ⟨⟨k0, p0, k1, h1⟩, hx, hL, hcm, ha⟩ := hp
  refine ⟨Nat.le_of_ble_eq_true rfl, ?_⟩
  show Run (gT G) _ _ _ _ _ _ _ 0 [.val (.ref h), .val (.ref o)] [] M 0 0
  have hK : ∀ N b o, gK (cpS N b o) = gK N := fun N b o => (kp_S N b o).1
  have hn1 : vp_nar FieldType.boolean 1 = 1 := rfl
  have hL2 : ∀ g, Ls (sI M h g) o := fun g => hL
  simp only [rX4_restore_0, kX4_restore_0, rX4_restore_9, kX4_restore_9, rX4_restore_26, kX4_restore_26, rX4_restore_28, kX4_restore_28, bk_c, if_true, if_false, wi_e, wl_e, wr_e, w1_i, w1_r, ldS_0, ldS_s, vi_e, vl_e, vr_e, dpL_u, dpL_i, dpL_r, dpL_l, stS_0, stS_1, stS_s, stL_0, stL_1, stL_s, bin_0, bin_1, bin_2, bin_3, bin_4, bin_5, bdv_0, bdv_1, lbin_0, lbin_1, lbin_2, cnd_0, cnd_1, cnd_2, cnd_3, cnd_4, cnd_5, aty_0, aty_1, aty_2, aty_3, aty_4, aty_5, c8_u, cn_0, cn_i, cn_r, cn_l, Nat.reduceAdd, Nat.reduceLeDiff, Nat.le_refl, adz, hnd_0, rcv_0, rcv_1, kLen_a, kLen_r, inB_e, inR_e, cpOK_e, swt_n, swt_c, List.take_succ_cons, List.take_zero, List.drop_succ_cons, List.drop_zero, List.reverse_cons, List.reverse_nil, List.nil_append, List.cons_append, List.length_cons, List.length_nil, Option.toList_some, Option.toList_none, det_e, det_x, tr_imp, fa_imp, implies_true, not_true, not_false_eq_true, and_true, true_and, nar_i, upd_s, st1_0, st1_1, st1_2, st1_3, st1_4, st1_5, st1_6, st1_7, st1_8, st1_9, st1_10, st1_11, st1_12, st1_13, st1_14, st1_15, st1_16, st1_17, st1_18, st1_19, st1_20, st1_21, st1_22, st1_23, st1_24, st1_25, st1_26, st1_27, st1_28, st1_29, st1_30, st1_31, st1_32, st1_33, st1_34, st1_35, st1_36, st1_37, st1_42, st1_43, st1_44, st1_46, st1_47, st1_48, st1_49, st1_50, st1_51, st1_52, st1_53, st1_54, st1_55, st1_56, st1_57, st1_58, st1_59, st1_60, gK_sI, gK_sJ, gK_sP, gK_sZ, gI_sI, gI_sJ, gI_sP, gI_sZ, gJ_sI, gJ_sJ, gJ_sP, gJ_sZ, gP_sI, gP_sJ, gP_sP, gP_sZ, gZ_sI, gZ_sJ, gZ_sP, gZ_sZ, up_q, up_q0, up_q1, up_s, sI_sI, Nat.reduceEqDiff, reduceIte, Nat.succ_ne_zero, forall_const, false_imp_iff, k0, p0, k1, hx, S64, sV, hL, hL2, upd_s, hK, hn1]
  have cls : ∀ x, gI M h 2 ≠ 0 → vp_in x 8 → x = rsN M h → (vp_in x 8 ∧ gP M (h + 1) x.toNatClampNeg ≠ 0 ∧ gK M o = kO 8 ∧ (Ls (sI M h (upd (gI M h) 1 x)) (gP M (h + 1) x.toNatClampNeg) ∧ cnt (va_up (gI M) h (upd (gI M h) 1 x) (gP M (h + 1) x.toNatClampNeg + 10) 11) 12 ∧ cnt (va_up (gI M) h (upd (gI M h) 1 x) (gP M (h + 1) x.toNatClampNeg + 27) 2) 900 ∧ apt o 32 (gP M (h + 1) x.toNatClampNeg) 32) ∧ (some (Value.int 1) = some (Value.int (if gI M h 2 = 0 then 0 else 1)) ∧ sI (cpS (sI M h (upd (gI M h) 1 x)) o (gP M (h + 1) x.toNatClampNeg)) h (upd (gI (cpS (sI M h (upd (gI M h) 1 x)) o (gP M (h + 1) x.toNatClampNeg)) h) 2 (gI (cpS (sI M h (upd (gI M h) 1 x)) o (gP M (h + 1) x.toNatClampNeg)) h 2 - 1)) = rsM M h o)) := by
    intro x h2 hx8 hr
    obtain ⟨j, hj, rfl⟩ := vp_in_of hx8 (by decide)
    have cj : (nI j).toNatClampNeg = j := nI_clamp (by omega)
    obtain ⟨g1, g2⟩ := h1 j hj
    have g3 := hcm j hj
    rw [cj, g1]
    refine ⟨hx8, fun e => absurd e (by rw [hs_ne]; exact id), hL.1, ⟨g2, ?_, ?_, hs_ap2 ha hj⟩, ?_, ?_⟩
    · rw [up_f _ _ (hs_k h j 10)]
      exact g3.1
    · rw [up_f _ _ (hs_k h j 27)]
      exact g3.2
    · rw [if_neg h2]
    · unfold rsM
      rw [if_neg h2, ← hr, cj]
  have h0 : vp_nar FieldType.boolean 0 = 0 := rfl
  refine ⟨fun h2 => ⟨fun q => cls 7 h2 (show vp_in (nI 7) 8 from vp_in_nI (by decide) (by decide)) ?_, fun q => cls _ h2 ?_ ?_⟩, fun h2 => ⟨h0, ?_, ?_⟩⟩
  · unfold rsN
    rw [if_pos q]
  · obtain ⟨j, hj, ej⟩ := vp_in_of hx (by decide)
    rw [ej] at q ⊢
    rcases Nat.eq_zero_or_pos j with z | z
    · rw [z] at q
      exact absurd (Int32.le_refl _) q
    · obtain ⟨i, rfl⟩ : ∃ i, j = i + 1 := ⟨j - 1, by omega⟩
      rw [nI_sub1, nI_m1]
      exact vp_in_nI (by omega) (by decide)
  · unfold rsN
    rw [if_neg q]
  · rw [if_pos (Decidable.not_not.mp h2)]
  · unfold rsM
    rw [if_pos (Decidable.not_not.mp h2)]
