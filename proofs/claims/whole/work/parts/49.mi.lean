/-! ===== IrrigationTurnsModel: fairHours, checksum ===== -/
def faS (D : Nat → Int32) : Int32 := itr (fun k s => s + deD D (nI k)) 6 0 0
def faA (D : Nat → Int32) (v h al rm : Int32) (k : Nat) (z : Int32 × Int32) : Int32 × Int32 :=
  (z.1 - h * deD D (nI k) / al, if rm < irm (h * deD D (nI k)) al then z.2 + 1 else if irm (h * deD D (nI k)) al = rm ∧ nI k < v then z.2 + 1 else z.2)
def faV (D : Nat → Int32) (v h : Int32) : Int32 :=
  if faS D = 0 then 0 else h * deD D v / faS D + if (itr (faA D v h (faS D) (irm (h * deD D v) (faS D))) 6 0 (h, 0)).2 < (itr (faA D v h (faS D) (irm (h * deD D v) (faS D))) 6 0 (h, 0)).1 then 1 else 0
def kFh (v h : Int32) : Int32 := orK (ccK v 0 5 1) (ccK h 0 1000 2)
def S130 : Sem := fun as M => match as with
  | [.ref m, .int v, .int h] => sV (LM M m ∧ cnt (gI M (m + 2) 1) 12) (some (.int (if kFh v h = 0 then faV (gI M (m + 2)) v h else 0))) (tS M m (kFh v h))
  | _ => sF
theorem cc_or (x lo hi k : Int32) : (inI x lo hi ∧ ccK x lo hi k = 0) ∨ (¬ inI x lo hi ∧ ccK x lo hi k = k) := by
  by_cases h : inI x lo hi
  · exact Or.inl ⟨h, cc_0 h⟩
  · exact Or.inr ⟨h, cc_1 h⟩
def eX11_fairHours : Nat → Sem := fun id => if id = 120 then S120 else if id = 129 then S129 else if id = 139 then S139 else S154
set_option maxRecDepth 100000 in
set_option maxHeartbeats 4000000 in
theorem s_X11_fairHours {l : Launch} {G : Gt} (hfl : l.stackTraces = false) : SatM l G 130 S130 := by
  refine t_X11_fairHours (E := eX11_fairHours) hfl (s_X11_demand hfl) (s_X11_fails hfl) (s_X11_in hfl) (s_X11_noVillage hfl) fun as M hp => ?_
  unfold S130 at hp ⊢
  split at hp
  case h_2 => exact hp.elim
  rename_i m v h
  obtain ⟨hp, hc⟩ := hp
  refine ⟨Nat.le_of_ble_eq_true rfl, ?_⟩
  show Run (gT G) _ _ _ _ _ _ _ 0 [.val (.ref m), .val (.int v), .val (.int h), .unset, .unset, .unset, .unset, .unset, .unset] [] M 0 0
  unfold kFh
  rcases cc_or v 0 5 1 with ⟨-, h1⟩ | ⟨-, h1⟩
  · by_cases h2 : inI h 0 1000
    · have g2 : inI h 0 1000 = True := eq_true h2
      rw [h1, orK_0, cc_0 (k := 2) h2, if_pos rfl]
      have hir : ∀ x y : Int32, x - x / y * y = irm x y := fun x y => rfl
      have hpt := hp.t 0
      have key2 : ∀ r i (z : Int32 × Int32) (rm : Int32) (u : Slot), ¬ faS (gI M (m + 2)) = 0 → i + r = 6 → rm = irm (h * deD (gI M (m + 2)) v) (faS (gI M (m + 2))) → itr (faA (gI M (m + 2)) v h (faS (gI M (m + 2))) rm) r i z = itr (faA (gI M (m + 2)) v h (faS (gI M (m + 2))) (irm (h * deD (gI M (m + 2)) v) (faS (gI M (m + 2))))) 6 0 (h, 0) → Run (gT G) eX11_fairHours 0 0 (fun _ _ => none) (fun v' M' => v' = some (.int (faV (gI M (m + 2)) v h)) ∧ M' = tS M m 0) (fun _ _ => False) kX11_fairHours 92 [.val (.ref m), .val (.int v), .val (.int h), .val (.int (faS (gI M (m + 2)))), .val (.int z.1), .val (.int z.2), .val (.int rm), .val (.int (nI i)), u] [] (tS M m 0) 0 0 := by
        intro r
        induction r with
        | zero =>
          intro i z rm u hs hi hr hz
          have hi2 : i = 6 := hi
          subst hi2
          have hz2 : z = itr (faA (gI M (m + 2)) v h (faS (gI M (m + 2))) (irm (h * deD (gI M (m + 2)) v) (faS (gI M (m + 2))))) 6 0 (h, 0) := hz
          rw [rX11_fairHours_92]
          simp only [kX11_fairHours_92, rX11_fairHours_0, kX11_fairHours_0, rX11_fairHours_29, kX11_fairHours_29, rX11_fairHours_30, kX11_fairHours_30, rX11_fairHours_37, kX11_fairHours_37, rX11_fairHours_39, kX11_fairHours_39, rX11_fairHours_72, kX11_fairHours_72, rX11_fairHours_78, kX11_fairHours_78, rX11_fairHours_146, kX11_fairHours_146, rX11_fairHours_149, kX11_fairHours_149, rX11_fairHours_155, kX11_fairHours_155, rX11_fairHours_175, kX11_fairHours_175, rX11_fairHours_176, kX11_fairHours_176, eX11_fairHours, S120, S129, S139, S154, bk_c, if_true, if_false, wi_e, wl_e, wr_e, w1_i, w1_r, ldS_0, ldS_s, vi_e, vl_e, vr_e, dpL_u, dpL_i, dpL_r, dpL_l, stS_0, stS_1, stS_s, stL_0, stL_1, stL_s, bin_0, bin_1, bin_2, bin_3, bin_4, bin_5, bdv_0, bdv_1, lbin_0, lbin_1, lbin_2, cnd_0, cnd_1, cnd_2, cnd_3, cnd_4, cnd_5, aty_0, aty_1, aty_2, aty_3, aty_4, aty_5, c8_u, cn_0, cn_i, cn_r, cn_l, Nat.reduceAdd, Nat.reduceLeDiff, Nat.le_refl, adz, hnd_0, rcv_0, rcv_1, kLen_a, kLen_r, inB_e, inR_e, cpOK_e, swt_n, swt_c, List.take_succ_cons, List.take_zero, List.drop_succ_cons, List.drop_zero, List.reverse_cons, List.reverse_nil, List.nil_append, List.cons_append, List.length_cons, List.length_nil, Option.toList_some, Option.toList_none, det_e, det_x, tr_imp, fa_imp, implies_true, not_true, not_false_eq_true, and_true, true_and, nar_i, upd_s, st1_0, st1_1, st1_2, st1_3, st1_4, st1_5, st1_6, st1_7, st1_8, st1_9, st1_10, st1_11, st1_12, st1_13, st1_14, st1_15, st1_16, st1_17, st1_18, st1_19, st1_20, st1_21, st1_22, st1_23, st1_24, st1_25, st1_26, st1_27, st1_28, st1_29, st1_30, st1_31, st1_32, st1_33, st1_34, st1_35, st1_36, st1_37, st1_42, st1_43, st1_44, st1_46, st1_47, st1_48, st1_49, st1_50, st1_51, st1_52, st1_53, st1_54, st1_55, st1_56, st1_57, st1_58, st1_59, st1_60, Nat.reduceEqDiff, reduceIte, sV, tS_K, tS_P, t_2, hp.f, hpt, hc, nI_6, lp_out, hs]
          unfold faV
          rw [if_neg hs, ← hz2]
          exact ⟨fun g => by rw [if_neg (Int32.not_lt.mpr g)], fun g => by rw [if_pos (Int32.not_le.mp g)]⟩
        | succ r ih =>
          intro i z rm u hs hi hr hz
          obtain ⟨a1, a2, a3, -⟩ := lp_in (i := i) (n := 6) (N := 6) (by omega) (Nat.le_refl 6) (by decide)
          have hz3 : itr (faA (gI M (m + 2)) v h (faS (gI M (m + 2))) rm) r (i + 1) (faA (gI M (m + 2)) v h (faS (gI M (m + 2))) rm i z) = itr (faA (gI M (m + 2)) v h (faS (gI M (m + 2))) (irm (h * deD (gI M (m + 2)) v) (faS (gI M (m + 2))))) 6 0 (h, 0) := hz
          rw [rX11_fairHours_92]
          simp only [kX11_fairHours_92, rX11_fairHours_0, kX11_fairHours_0, rX11_fairHours_29, kX11_fairHours_29, rX11_fairHours_30, kX11_fairHours_30, rX11_fairHours_37, kX11_fairHours_37, rX11_fairHours_39, kX11_fairHours_39, rX11_fairHours_72, kX11_fairHours_72, rX11_fairHours_78, kX11_fairHours_78, rX11_fairHours_146, kX11_fairHours_146, rX11_fairHours_149, kX11_fairHours_149, rX11_fairHours_155, kX11_fairHours_155, rX11_fairHours_175, kX11_fairHours_175, rX11_fairHours_176, kX11_fairHours_176, eX11_fairHours, S120, S129, S139, S154, bk_c, if_true, if_false, wi_e, wl_e, wr_e, w1_i, w1_r, ldS_0, ldS_s, vi_e, vl_e, vr_e, dpL_u, dpL_i, dpL_r, dpL_l, stS_0, stS_1, stS_s, stL_0, stL_1, stL_s, bin_0, bin_1, bin_2, bin_3, bin_4, bin_5, bdv_0, bdv_1, lbin_0, lbin_1, lbin_2, cnd_0, cnd_1, cnd_2, cnd_3, cnd_4, cnd_5, aty_0, aty_1, aty_2, aty_3, aty_4, aty_5, c8_u, cn_0, cn_i, cn_r, cn_l, Nat.reduceAdd, Nat.reduceLeDiff, Nat.le_refl, adz, hnd_0, rcv_0, rcv_1, kLen_a, kLen_r, inB_e, inR_e, cpOK_e, swt_n, swt_c, List.take_succ_cons, List.take_zero, List.drop_succ_cons, List.drop_zero, List.reverse_cons, List.reverse_nil, List.nil_append, List.cons_append, List.length_cons, List.length_nil, Option.toList_some, Option.toList_none, det_e, det_x, tr_imp, fa_imp, implies_true, not_true, not_false_eq_true, and_true, true_and, nar_i, upd_s, st1_0, st1_1, st1_2, st1_3, st1_4, st1_5, st1_6, st1_7, st1_8, st1_9, st1_10, st1_11, st1_12, st1_13, st1_14, st1_15, st1_16, st1_17, st1_18, st1_19, st1_20, st1_21, st1_22, st1_23, st1_24, st1_25, st1_26, st1_27, st1_28, st1_29, st1_30, st1_31, st1_32, st1_33, st1_34, st1_35, st1_36, st1_37, st1_42, st1_43, st1_44, st1_46, st1_47, st1_48, st1_49, st1_50, st1_51, st1_52, st1_53, st1_54, st1_55, st1_56, st1_57, st1_58, st1_59, st1_60, Nat.reduceEqDiff, reduceIte, sV, tS_K, tS_P, t_2, hp.f, hpt, hc, nI_6, a1, hs, hir, nI_1]
          have fin : ∀ c u, (faA (gI M (m + 2)) v h (faS (gI M (m + 2))) rm i z).2 = c → Run (gT G) eX11_fairHours 0 0 (fun _ _ => none) (fun v' M' => v' = some (.int (faV (gI M (m + 2)) v h)) ∧ M' = tS M m 0) (fun _ _ => False) kX11_fairHours 92 [.val (.ref m), .val (.int v), .val (.int h), .val (.int (faS (gI M (m + 2)))), .val (.int (z.1 - h * deD (gI M (m + 2)) (nI i) / faS (gI M (m + 2)))), .val (.int c), .val (.int rm), .val (.int (nI (i + 1))), u] [] (tS M m 0) 0 0 := by
            intro c u hcc
            subst hcc
            exact ih (i + 1) _ rm u hs (by omega) hr hz3
          refine ⟨fun g => fin _ _ ?_, fun g => ⟨fun g2 => fin _ _ ?_, fun g2 => ⟨fun g3 => fin _ _ ?_, fun g3 => fin _ _ ?_⟩⟩⟩
          · unfold faA
            dsimp only
            rw [if_pos g]
          · unfold faA
            dsimp only
            rw [if_neg g, if_neg (fun q => g2 q.1)]
          · unfold faA
            dsimp only
            rw [if_neg g, if_neg (fun q => Int32.not_lt.mpr g3 q.2)]
          · unfold faA
            dsimp only
            rw [if_neg g, if_pos ⟨Decidable.not_not.mp g2, Int32.not_le.mp g3⟩]
      have key : ∀ r i s (u w : Slot), i + r = 6 → itr (fun k s => s + deD (gI M (m + 2)) (nI k)) r i s = faS (gI M (m + 2)) → Run (gT G) eX11_fairHours 0 0 (fun _ _ => none) (fun v' M' => v' = some (.int (faV (gI M (m + 2)) v h)) ∧ M' = tS M m 0) (fun _ _ => False) kX11_fairHours 50 [.val (.ref m), .val (.int v), .val (.int h), .val (.int s), .val (.int h), .val (.int 0), .val (.int (nI i)), u, w] [] (tS M m 0) 0 0 := by
        intro r
        induction r with
        | zero =>
          intro i s u w hi hs
          have hi2 : i = 6 := hi
          subst hi2
          have hs2 : s = faS (gI M (m + 2)) := hs
          subst hs2
          rw [rX11_fairHours_50]
          simp only [kX11_fairHours_50, rX11_fairHours_0, kX11_fairHours_0, rX11_fairHours_29, kX11_fairHours_29, rX11_fairHours_30, kX11_fairHours_30, rX11_fairHours_37, kX11_fairHours_37, rX11_fairHours_39, kX11_fairHours_39, rX11_fairHours_72, kX11_fairHours_72, rX11_fairHours_78, kX11_fairHours_78, rX11_fairHours_146, kX11_fairHours_146, rX11_fairHours_149, kX11_fairHours_149, rX11_fairHours_155, kX11_fairHours_155, rX11_fairHours_175, kX11_fairHours_175, rX11_fairHours_176, kX11_fairHours_176, eX11_fairHours, S120, S129, S139, S154, bk_c, if_true, if_false, wi_e, wl_e, wr_e, w1_i, w1_r, ldS_0, ldS_s, vi_e, vl_e, vr_e, dpL_u, dpL_i, dpL_r, dpL_l, stS_0, stS_1, stS_s, stL_0, stL_1, stL_s, bin_0, bin_1, bin_2, bin_3, bin_4, bin_5, bdv_0, bdv_1, lbin_0, lbin_1, lbin_2, cnd_0, cnd_1, cnd_2, cnd_3, cnd_4, cnd_5, aty_0, aty_1, aty_2, aty_3, aty_4, aty_5, c8_u, cn_0, cn_i, cn_r, cn_l, Nat.reduceAdd, Nat.reduceLeDiff, Nat.le_refl, adz, hnd_0, rcv_0, rcv_1, kLen_a, kLen_r, inB_e, inR_e, cpOK_e, swt_n, swt_c, List.take_succ_cons, List.take_zero, List.drop_succ_cons, List.drop_zero, List.reverse_cons, List.reverse_nil, List.nil_append, List.cons_append, List.length_cons, List.length_nil, Option.toList_some, Option.toList_none, det_e, det_x, tr_imp, fa_imp, implies_true, not_true, not_false_eq_true, and_true, true_and, nar_i, upd_s, st1_0, st1_1, st1_2, st1_3, st1_4, st1_5, st1_6, st1_7, st1_8, st1_9, st1_10, st1_11, st1_12, st1_13, st1_14, st1_15, st1_16, st1_17, st1_18, st1_19, st1_20, st1_21, st1_22, st1_23, st1_24, st1_25, st1_26, st1_27, st1_28, st1_29, st1_30, st1_31, st1_32, st1_33, st1_34, st1_35, st1_36, st1_37, st1_42, st1_43, st1_44, st1_46, st1_47, st1_48, st1_49, st1_50, st1_51, st1_52, st1_53, st1_54, st1_55, st1_56, st1_57, st1_58, st1_59, st1_60, Nat.reduceEqDiff, reduceIte, sV, tS_K, tS_P, t_2, hp.f, hpt, hc, nI_6, lp_out, hir]
          refine ⟨fun g => ⟨g, ?_⟩, fun g => ?_⟩
          · exact key2 6 0 (h, 0) _ w g rfl rfl rfl
          · unfold faV
            rw [if_pos (Decidable.not_not.mp g)]
        | succ r ih =>
          intro i s u w hi hs
          obtain ⟨a1, a2, a3, -⟩ := lp_in (i := i) (n := 6) (N := 6) (by omega) (Nat.le_refl 6) (by decide)
          rw [rX11_fairHours_50]
          simp only [kX11_fairHours_50, rX11_fairHours_0, kX11_fairHours_0, rX11_fairHours_29, kX11_fairHours_29, rX11_fairHours_30, kX11_fairHours_30, rX11_fairHours_37, kX11_fairHours_37, rX11_fairHours_39, kX11_fairHours_39, rX11_fairHours_72, kX11_fairHours_72, rX11_fairHours_78, kX11_fairHours_78, rX11_fairHours_146, kX11_fairHours_146, rX11_fairHours_149, kX11_fairHours_149, rX11_fairHours_155, kX11_fairHours_155, rX11_fairHours_175, kX11_fairHours_175, rX11_fairHours_176, kX11_fairHours_176, eX11_fairHours, S120, S129, S139, S154, bk_c, if_true, if_false, wi_e, wl_e, wr_e, w1_i, w1_r, ldS_0, ldS_s, vi_e, vl_e, vr_e, dpL_u, dpL_i, dpL_r, dpL_l, stS_0, stS_1, stS_s, stL_0, stL_1, stL_s, bin_0, bin_1, bin_2, bin_3, bin_4, bin_5, bdv_0, bdv_1, lbin_0, lbin_1, lbin_2, cnd_0, cnd_1, cnd_2, cnd_3, cnd_4, cnd_5, aty_0, aty_1, aty_2, aty_3, aty_4, aty_5, c8_u, cn_0, cn_i, cn_r, cn_l, Nat.reduceAdd, Nat.reduceLeDiff, Nat.le_refl, adz, hnd_0, rcv_0, rcv_1, kLen_a, kLen_r, inB_e, inR_e, cpOK_e, swt_n, swt_c, List.take_succ_cons, List.take_zero, List.drop_succ_cons, List.drop_zero, List.reverse_cons, List.reverse_nil, List.nil_append, List.cons_append, List.length_cons, List.length_nil, Option.toList_some, Option.toList_none, det_e, det_x, tr_imp, fa_imp, implies_true, not_true, not_false_eq_true, and_true, true_and, nar_i, upd_s, st1_0, st1_1, st1_2, st1_3, st1_4, st1_5, st1_6, st1_7, st1_8, st1_9, st1_10, st1_11, st1_12, st1_13, st1_14, st1_15, st1_16, st1_17, st1_18, st1_19, st1_20, st1_21, st1_22, st1_23, st1_24, st1_25, st1_26, st1_27, st1_28, st1_29, st1_30, st1_31, st1_32, st1_33, st1_34, st1_35, st1_36, st1_37, st1_42, st1_43, st1_44, st1_46, st1_47, st1_48, st1_49, st1_50, st1_51, st1_52, st1_53, st1_54, st1_55, st1_56, st1_57, st1_58, st1_59, st1_60, Nat.reduceEqDiff, reduceIte, sV, tS_K, tS_P, t_2, hp.f, hpt, hc, nI_6, a1, nI_1]
          exact ih (i + 1) _ u w (by omega) hs
      simp only [rX11_fairHours_0, kX11_fairHours_0, rX11_fairHours_29, kX11_fairHours_29, rX11_fairHours_30, kX11_fairHours_30, rX11_fairHours_37, kX11_fairHours_37, rX11_fairHours_39, kX11_fairHours_39, rX11_fairHours_72, kX11_fairHours_72, rX11_fairHours_78, kX11_fairHours_78, rX11_fairHours_146, kX11_fairHours_146, rX11_fairHours_149, kX11_fairHours_149, rX11_fairHours_155, kX11_fairHours_155, rX11_fairHours_175, kX11_fairHours_175, rX11_fairHours_176, kX11_fairHours_176, eX11_fairHours, S120, S129, S139, S154, bk_c, if_true, if_false, wi_e, wl_e, wr_e, w1_i, w1_r, ldS_0, ldS_s, vi_e, vl_e, vr_e, dpL_u, dpL_i, dpL_r, dpL_l, stS_0, stS_1, stS_s, stL_0, stL_1, stL_s, bin_0, bin_1, bin_2, bin_3, bin_4, bin_5, bdv_0, bdv_1, lbin_0, lbin_1, lbin_2, cnd_0, cnd_1, cnd_2, cnd_3, cnd_4, cnd_5, aty_0, aty_1, aty_2, aty_3, aty_4, aty_5, c8_u, cn_0, cn_i, cn_r, cn_l, Nat.reduceAdd, Nat.reduceLeDiff, Nat.le_refl, adz, hnd_0, rcv_0, rcv_1, kLen_a, kLen_r, inB_e, inR_e, cpOK_e, swt_n, swt_c, List.take_succ_cons, List.take_zero, List.drop_succ_cons, List.drop_zero, List.reverse_cons, List.reverse_nil, List.nil_append, List.cons_append, List.length_cons, List.length_nil, Option.toList_some, Option.toList_none, det_e, det_x, tr_imp, fa_imp, implies_true, not_true, not_false_eq_true, and_true, true_and, nar_i, upd_s, st1_0, st1_1, st1_2, st1_3, st1_4, st1_5, st1_6, st1_7, st1_8, st1_9, st1_10, st1_11, st1_12, st1_13, st1_14, st1_15, st1_16, st1_17, st1_18, st1_19, st1_20, st1_21, st1_22, st1_23, st1_24, st1_25, st1_26, st1_27, st1_28, st1_29, st1_30, st1_31, st1_32, st1_33, st1_34, st1_35, st1_36, st1_37, st1_42, st1_43, st1_44, st1_46, st1_47, st1_48, st1_49, st1_50, st1_51, st1_52, st1_53, st1_54, st1_55, st1_56, st1_57, st1_58, st1_59, st1_60, Nat.reduceEqDiff, reduceIte, sV, tS_e, tS_0, tS_t, tS_K, tS_P, t_2, hp.f, hp.t, h1, g2, b9_0, b9F, b9T, fsK_0]
      exact key 6 0 0 _ _ rfl rfl
    · have g2 : inI h 0 1000 = False := eq_false h2
      rw [h1, orK_0, cc_1 (k := 2) h2, if_neg (by decide)]
      simp only [rX11_fairHours_0, kX11_fairHours_0, rX11_fairHours_29, kX11_fairHours_29, rX11_fairHours_30, kX11_fairHours_30, rX11_fairHours_37, kX11_fairHours_37, rX11_fairHours_39, kX11_fairHours_39, rX11_fairHours_72, kX11_fairHours_72, rX11_fairHours_78, kX11_fairHours_78, rX11_fairHours_146, kX11_fairHours_146, rX11_fairHours_149, kX11_fairHours_149, rX11_fairHours_155, kX11_fairHours_155, rX11_fairHours_175, kX11_fairHours_175, rX11_fairHours_176, kX11_fairHours_176, eX11_fairHours, S120, S129, S139, S154, bk_c, if_true, if_false, wi_e, wl_e, wr_e, w1_i, w1_r, ldS_0, ldS_s, vi_e, vl_e, vr_e, dpL_u, dpL_i, dpL_r, dpL_l, stS_0, stS_1, stS_s, stL_0, stL_1, stL_s, bin_0, bin_1, bin_2, bin_3, bin_4, bin_5, bdv_0, bdv_1, lbin_0, lbin_1, lbin_2, cnd_0, cnd_1, cnd_2, cnd_3, cnd_4, cnd_5, aty_0, aty_1, aty_2, aty_3, aty_4, aty_5, c8_u, cn_0, cn_i, cn_r, cn_l, Nat.reduceAdd, Nat.reduceLeDiff, Nat.le_refl, adz, hnd_0, rcv_0, rcv_1, kLen_a, kLen_r, inB_e, inR_e, cpOK_e, swt_n, swt_c, List.take_succ_cons, List.take_zero, List.drop_succ_cons, List.drop_zero, List.reverse_cons, List.reverse_nil, List.nil_append, List.cons_append, List.length_cons, List.length_nil, Option.toList_some, Option.toList_none, det_e, det_x, tr_imp, fa_imp, implies_true, not_true, not_false_eq_true, and_true, true_and, nar_i, upd_s, st1_0, st1_1, st1_2, st1_3, st1_4, st1_5, st1_6, st1_7, st1_8, st1_9, st1_10, st1_11, st1_12, st1_13, st1_14, st1_15, st1_16, st1_17, st1_18, st1_19, st1_20, st1_21, st1_22, st1_23, st1_24, st1_25, st1_26, st1_27, st1_28, st1_29, st1_30, st1_31, st1_32, st1_33, st1_34, st1_35, st1_36, st1_37, st1_42, st1_43, st1_44, st1_46, st1_47, st1_48, st1_49, st1_50, st1_51, st1_52, st1_53, st1_54, st1_55, st1_56, st1_57, st1_58, st1_59, st1_60, Nat.reduceEqDiff, reduceIte, sV, tS_e, tS_0, tS_t, tS_K, tS_P, t_2, hp.f, hp.t, h1, g2, b9_0, b9F, b9T, i2f, fsK_1]
  · rw [h1, orK_1, if_neg (by decide)]
    simp only [rX11_fairHours_0, kX11_fairHours_0, rX11_fairHours_29, kX11_fairHours_29, rX11_fairHours_30, kX11_fairHours_30, rX11_fairHours_37, kX11_fairHours_37, rX11_fairHours_39, kX11_fairHours_39, rX11_fairHours_72, kX11_fairHours_72, rX11_fairHours_78, kX11_fairHours_78, rX11_fairHours_146, kX11_fairHours_146, rX11_fairHours_149, kX11_fairHours_149, rX11_fairHours_155, kX11_fairHours_155, rX11_fairHours_175, kX11_fairHours_175, rX11_fairHours_176, kX11_fairHours_176, eX11_fairHours, S120, S129, S139, S154, bk_c, if_true, if_false, wi_e, wl_e, wr_e, w1_i, w1_r, ldS_0, ldS_s, vi_e, vl_e, vr_e, dpL_u, dpL_i, dpL_r, dpL_l, stS_0, stS_1, stS_s, stL_0, stL_1, stL_s, bin_0, bin_1, bin_2, bin_3, bin_4, bin_5, bdv_0, bdv_1, lbin_0, lbin_1, lbin_2, cnd_0, cnd_1, cnd_2, cnd_3, cnd_4, cnd_5, aty_0, aty_1, aty_2, aty_3, aty_4, aty_5, c8_u, cn_0, cn_i, cn_r, cn_l, Nat.reduceAdd, Nat.reduceLeDiff, Nat.le_refl, adz, hnd_0, rcv_0, rcv_1, kLen_a, kLen_r, inB_e, inR_e, cpOK_e, swt_n, swt_c, List.take_succ_cons, List.take_zero, List.drop_succ_cons, List.drop_zero, List.reverse_cons, List.reverse_nil, List.nil_append, List.cons_append, List.length_cons, List.length_nil, Option.toList_some, Option.toList_none, det_e, det_x, tr_imp, fa_imp, implies_true, not_true, not_false_eq_true, and_true, true_and, nar_i, upd_s, st1_0, st1_1, st1_2, st1_3, st1_4, st1_5, st1_6, st1_7, st1_8, st1_9, st1_10, st1_11, st1_12, st1_13, st1_14, st1_15, st1_16, st1_17, st1_18, st1_19, st1_20, st1_21, st1_22, st1_23, st1_24, st1_25, st1_26, st1_27, st1_28, st1_29, st1_30, st1_31, st1_32, st1_33, st1_34, st1_35, st1_36, st1_37, st1_42, st1_43, st1_44, st1_46, st1_47, st1_48, st1_49, st1_50, st1_51, st1_52, st1_53, st1_54, st1_55, st1_56, st1_57, st1_58, st1_59, st1_60, Nat.reduceEqDiff, reduceIte, sV, tS_e, tS_0, tS_t, tS_K, tS_P, t_2, hp.f, hp.t, h1, b9F, b9T, i1f]
/-! == checksum == -/
def ksI (D : Nat → Int32) (c : Nat) : Nat → Int64 → Int64 := fun k s => 31 * s + (D (13 + 13 * c + 6 + k)).toInt64
def ksC (D : Nat → Int32) : Nat → Int64 → Int64 := fun c s => itr (ksI D c) (D (13 + 13 * c + 1)).toNatClampNeg 0 s
def ksF (D : Nat → Int32) : Nat → Int64 → Int64 := fun k s => 31 * (31 * (31 * (31 * s + (D (221 + 11 * k + 7)).toInt64) + (D (221 + 11 * k + 8)).toInt64) + (D (221 + 11 * k + 9)).toInt64) + (D (221 + 11 * k + 10)).toInt64
def ksV (D : Nat → Int32) : Nat → Int64 → Int64 := fun k s => 31 * s + (D (387 + k)).toInt64
def ksR (D : Nat → Int32) : Int64 := 31 * itr (ksV D) 6 0 (itr (ksF D) (D 1).toNatClampNeg 0 (itr (ksC D) (D 0).toNatClampNeg 0 (D 5).toInt64)) + (guD D).toInt64
def S115 : Sem := fun as M => match as with
  | [.ref m] => sV (LM M m ∧ ∃ n f r w g, WD (gI M (m + 2)) n f r w g) (some (.long (ksR (gI M (m + 2))))) (tS M m 0)
  | _ => sF
def eX11_checksum : Nat → Sem := fun id => if id = 113 then S113 else if id = 131 then S131 else S136
set_option maxRecDepth 100000 in
set_option maxHeartbeats 4000000 in
theorem s_X11_checksum {l : Launch} {G : Gt} (hfl : l.stackTraces = false) : SatM l G 115 S115 := by
  refine t_X11_checksum (E := eX11_checksum) hfl (s_X11_canal hfl) (s_X11_field hfl) (s_X11_guard hfl) fun as M hp => ?_
  unfold S115 at hp ⊢
  split at hp
  case h_2 => exact hp.elim
  rename_i m
  obtain ⟨hp, n, f, rr, w, g, hW⟩ := hp
  refine ⟨Nat.le_of_ble_eq_true rfl, ?_⟩
  show Run (gT G) _ _ _ _ _ _ _ 0 [.val (.ref m), .unset, .unset, .unset, .unset] [] M 0 0
  have hn : n ≤ 16 := hW.1.1
  have hf : f ≤ 12 := hW.1.2.1
  have en : gI M (m + 2) 0 = nI n := hW.2.1.1
  have ef : gI M (m + 2) 1 = nI f := hW.2.1.2.1
  have cn : (nI n).toNatClampNeg = n := nI_clamp (by omega)
  have cf : (nI f).toNatClampNeg = f := nI_clamp (by omega)
  have hg : ¬ gI M (m + 2) 3 = 0 → cnt (gI M (m + 2) 4) 9 := fun _ => ⟨g, hW.1.2.2.2.2, hW.2.1.2.2.2.2⟩
  have key4 : ∀ r i s (u : Slot), i + r = 6 → itr (ksV (gI M (m + 2))) r i s = itr (ksV (gI M (m + 2))) 6 0 (itr (ksF (gI M (m + 2))) (gI M (m + 2) 1).toNatClampNeg 0 (itr (ksC (gI M (m + 2))) (gI M (m + 2) 0).toNatClampNeg 0 (gI M (m + 2) 5).toInt64)) → Run (gT G) eX11_checksum 0 0 (fun _ _ => none) (fun v' M' => v' = some (.long (ksR (gI M (m + 2)))) ∧ M' = tS M m 0) (fun _ _ => False) kX11_checksum 177 [.val (.ref m), .val (.long s), .unset, .val (.int (nI i)), u] [] (tS M m 0) 0 0 := by
    intro r
    induction r with
    | zero =>
      intro i s u hi hs
      have hi2 : i = 6 := hi
      subst hi2
      have hs2 : s = itr (ksV (gI M (m + 2))) 6 0 (itr (ksF (gI M (m + 2))) (gI M (m + 2) 1).toNatClampNeg 0 (itr (ksC (gI M (m + 2))) (gI M (m + 2) 0).toNatClampNeg 0 (gI M (m + 2) 5).toInt64)) := hs
      rw [rX11_checksum_177]
      simp only [kX11_checksum_177, rX11_checksum_0, kX11_checksum_0, rX11_checksum_73, kX11_checksum_73, rX11_checksum_79, kX11_checksum_79, rX11_checksum_175, kX11_checksum_175, rX11_checksum_207, kX11_checksum_207, eX11_checksum, S113, S131, S136, bk_c, if_true, if_false, wi_e, wl_e, wr_e, w1_i, w1_r, ldS_0, ldS_s, vi_e, vl_e, vr_e, dpL_u, dpL_i, dpL_r, dpL_l, stS_0, stS_1, stS_s, stL_0, stL_1, stL_s, bin_0, bin_1, bin_2, bin_3, bin_4, bin_5, bdv_0, bdv_1, lbin_0, lbin_1, lbin_2, cnd_0, cnd_1, cnd_2, cnd_3, cnd_4, cnd_5, aty_0, aty_1, aty_2, aty_3, aty_4, aty_5, c8_u, cn_0, cn_i, cn_r, cn_l, Nat.reduceAdd, Nat.reduceLeDiff, Nat.le_refl, adz, hnd_0, rcv_0, rcv_1, kLen_a, kLen_r, inB_e, inR_e, cpOK_e, swt_n, swt_c, List.take_succ_cons, List.take_zero, List.drop_succ_cons, List.drop_zero, List.reverse_cons, List.reverse_nil, List.nil_append, List.cons_append, List.length_cons, List.length_nil, Option.toList_some, Option.toList_none, det_e, det_x, tr_imp, fa_imp, implies_true, not_true, not_false_eq_true, and_true, true_and, nar_i, upd_s, st1_0, st1_1, st1_2, st1_3, st1_4, st1_5, st1_6, st1_7, st1_8, st1_9, st1_10, st1_11, st1_12, st1_13, st1_14, st1_15, st1_16, st1_17, st1_18, st1_19, st1_20, st1_21, st1_22, st1_23, st1_24, st1_25, st1_26, st1_27, st1_28, st1_29, st1_30, st1_31, st1_32, st1_33, st1_34, st1_35, st1_36, st1_37, st1_42, st1_43, st1_44, st1_46, st1_47, st1_48, st1_49, st1_50, st1_51, st1_52, st1_53, st1_54, st1_55, st1_56, st1_57, st1_58, st1_59, st1_60, Nat.reduceEqDiff, reduceIte, sV, tS_K, tS_P, t_2, hp.f, nI_6, lp_out, Nat.succ_ne_zero, ne_eq]
      rw [hs2]
      exact ⟨hg, rfl⟩
    | succ r ih =>
      intro i s u hi hs
      obtain ⟨a1, a2, a3, -⟩ := lp_in (i := i) (n := 6) (N := 6) (by omega) (Nat.le_refl 6) (by decide)
      have y1 : vp_in (nI (387 + i)) 1793 = True := eq_true (vp_in_nI (by omega) (by decide))
      have y2 : (nI (387 + i)).toNatClampNeg = 387 + i := nI_clamp (by omega)
      rw [rX11_checksum_177]
      simp only [kX11_checksum_177, rX11_checksum_0, kX11_checksum_0, rX11_checksum_73, kX11_checksum_73, rX11_checksum_79, kX11_checksum_79, rX11_checksum_175, kX11_checksum_175, rX11_checksum_207, kX11_checksum_207, eX11_checksum, S113, S131, S136, bk_c, if_true, if_false, wi_e, wl_e, wr_e, w1_i, w1_r, ldS_0, ldS_s, vi_e, vl_e, vr_e, dpL_u, dpL_i, dpL_r, dpL_l, stS_0, stS_1, stS_s, stL_0, stL_1, stL_s, bin_0, bin_1, bin_2, bin_3, bin_4, bin_5, bdv_0, bdv_1, lbin_0, lbin_1, lbin_2, cnd_0, cnd_1, cnd_2, cnd_3, cnd_4, cnd_5, aty_0, aty_1, aty_2, aty_3, aty_4, aty_5, c8_u, cn_0, cn_i, cn_r, cn_l, Nat.reduceAdd, Nat.reduceLeDiff, Nat.le_refl, adz, hnd_0, rcv_0, rcv_1, kLen_a, kLen_r, inB_e, inR_e, cpOK_e, swt_n, swt_c, List.take_succ_cons, List.take_zero, List.drop_succ_cons, List.drop_zero, List.reverse_cons, List.reverse_nil, List.nil_append, List.cons_append, List.length_cons, List.length_nil, Option.toList_some, Option.toList_none, det_e, det_x, tr_imp, fa_imp, implies_true, not_true, not_false_eq_true, and_true, true_and, nar_i, upd_s, st1_0, st1_1, st1_2, st1_3, st1_4, st1_5, st1_6, st1_7, st1_8, st1_9, st1_10, st1_11, st1_12, st1_13, st1_14, st1_15, st1_16, st1_17, st1_18, st1_19, st1_20, st1_21, st1_22, st1_23, st1_24, st1_25, st1_26, st1_27, st1_28, st1_29, st1_30, st1_31, st1_32, st1_33, st1_34, st1_35, st1_36, st1_37, st1_42, st1_43, st1_44, st1_46, st1_47, st1_48, st1_49, st1_50, st1_51, st1_52, st1_53, st1_54, st1_55, st1_56, st1_57, st1_58, st1_59, st1_60, tS_K, tS_P, t_2, hp.f, nI_6, a1, ad_387, nI_1, y1, y2, Nat.succ_ne_zero, ne_eq]
      exact ih (i + 1) _ _ (by omega) hs
  have key3 : ∀ r i s (u : Slot), i + r = f → itr (ksF (gI M (m + 2))) r i s = itr (ksF (gI M (m + 2))) (gI M (m + 2) 1).toNatClampNeg 0 (itr (ksC (gI M (m + 2))) (gI M (m + 2) 0).toNatClampNeg 0 (gI M (m + 2) 5).toInt64) → Run (gT G) eX11_checksum 0 0 (fun _ _ => none) (fun v' M' => v' = some (.long (ksR (gI M (m + 2)))) ∧ M' = tS M m 0) (fun _ _ => False) kX11_checksum 81 [.val (.ref m), .val (.long s), .unset, .val (.int (nI i)), u] [] (tS M m 0) 0 0 := by
    intro r
    induction r with
    | zero =>
      intro i s u hi hs
      have hi2 : i = f := hi
      subst hi2
      rw [rX11_checksum_81]
      simp only [kX11_checksum_81, rX11_checksum_0, kX11_checksum_0, rX11_checksum_73, kX11_checksum_73, rX11_checksum_79, kX11_checksum_79, rX11_checksum_175, kX11_checksum_175, rX11_checksum_207, kX11_checksum_207, eX11_checksum, S113, S131, S136, bk_c, if_true, if_false, wi_e, wl_e, wr_e, w1_i, w1_r, ldS_0, ldS_s, vi_e, vl_e, vr_e, dpL_u, dpL_i, dpL_r, dpL_l, stS_0, stS_1, stS_s, stL_0, stL_1, stL_s, bin_0, bin_1, bin_2, bin_3, bin_4, bin_5, bdv_0, bdv_1, lbin_0, lbin_1, lbin_2, cnd_0, cnd_1, cnd_2, cnd_3, cnd_4, cnd_5, aty_0, aty_1, aty_2, aty_3, aty_4, aty_5, c8_u, cn_0, cn_i, cn_r, cn_l, Nat.reduceAdd, Nat.reduceLeDiff, Nat.le_refl, adz, hnd_0, rcv_0, rcv_1, kLen_a, kLen_r, inB_e, inR_e, cpOK_e, swt_n, swt_c, List.take_succ_cons, List.take_zero, List.drop_succ_cons, List.drop_zero, List.reverse_cons, List.reverse_nil, List.nil_append, List.cons_append, List.length_cons, List.length_nil, Option.toList_some, Option.toList_none, det_e, det_x, tr_imp, fa_imp, implies_true, not_true, not_false_eq_true, and_true, true_and, nar_i, upd_s, st1_0, st1_1, st1_2, st1_3, st1_4, st1_5, st1_6, st1_7, st1_8, st1_9, st1_10, st1_11, st1_12, st1_13, st1_14, st1_15, st1_16, st1_17, st1_18, st1_19, st1_20, st1_21, st1_22, st1_23, st1_24, st1_25, st1_26, st1_27, st1_28, st1_29, st1_30, st1_31, st1_32, st1_33, st1_34, st1_35, st1_36, st1_37, st1_42, st1_43, st1_44, st1_46, st1_47, st1_48, st1_49, st1_50, st1_51, st1_52, st1_53, st1_54, st1_55, st1_56, st1_57, st1_58, st1_59, st1_60, tS_K, tS_P, t_2, hp.f, xL0, xL1, ef, lp_out, Nat.succ_ne_zero, ne_eq]
      exact key4 6 0 s _ rfl (by rw [← hs]; rfl)
    | succ r ih =>
      intro i s u hi hs
      obtain ⟨a1, a2, a3, -⟩ := lp_in (i := i) (n := f) (N := 12) (by omega) hf (by decide)
      have hi12 : i < 12 := by omega
      have x7 := xF hi12 (show 7 ≤ 10 by decide)
      have x8 := xF hi12 (show 8 ≤ 10 by decide)
      have x9 := xF hi12 (show 9 ≤ 10 by decide)
      have x10 := xF hi12 (show 10 ≤ 10 by decide)
      rw [rX11_checksum_81]
      simp only [kX11_checksum_81, rX11_checksum_0, kX11_checksum_0, rX11_checksum_73, kX11_checksum_73, rX11_checksum_79, kX11_checksum_79, rX11_checksum_175, kX11_checksum_175, rX11_checksum_207, kX11_checksum_207, eX11_checksum, S113, S131, S136, bk_c, if_true, if_false, wi_e, wl_e, wr_e, w1_i, w1_r, ldS_0, ldS_s, vi_e, vl_e, vr_e, dpL_u, dpL_i, dpL_r, dpL_l, stS_0, stS_1, stS_s, stL_0, stL_1, stL_s, bin_0, bin_1, bin_2, bin_3, bin_4, bin_5, bdv_0, bdv_1, lbin_0, lbin_1, lbin_2, cnd_0, cnd_1, cnd_2, cnd_3, cnd_4, cnd_5, aty_0, aty_1, aty_2, aty_3, aty_4, aty_5, c8_u, cn_0, cn_i, cn_r, cn_l, Nat.reduceAdd, Nat.reduceLeDiff, Nat.le_refl, adz, hnd_0, rcv_0, rcv_1, kLen_a, kLen_r, inB_e, inR_e, cpOK_e, swt_n, swt_c, List.take_succ_cons, List.take_zero, List.drop_succ_cons, List.drop_zero, List.reverse_cons, List.reverse_nil, List.nil_append, List.cons_append, List.length_cons, List.length_nil, Option.toList_some, Option.toList_none, det_e, det_x, tr_imp, fa_imp, implies_true, not_true, not_false_eq_true, and_true, true_and, nar_i, upd_s, st1_0, st1_1, st1_2, st1_3, st1_4, st1_5, st1_6, st1_7, st1_8, st1_9, st1_10, st1_11, st1_12, st1_13, st1_14, st1_15, st1_16, st1_17, st1_18, st1_19, st1_20, st1_21, st1_22, st1_23, st1_24, st1_25, st1_26, st1_27, st1_28, st1_29, st1_30, st1_31, st1_32, st1_33, st1_34, st1_35, st1_36, st1_37, st1_42, st1_43, st1_44, st1_46, st1_47, st1_48, st1_49, st1_50, st1_51, st1_52, st1_53, st1_54, st1_55, st1_56, st1_57, st1_58, st1_59, st1_60, Nat.reduceEqDiff, reduceIte, sV, tS_K, tS_P, t_2, hp.f, xL0, xL1, ef, a1, f11, ad_7, ad_8, ad_9, ad_10, nI_1, x7, x8, x9, x10, Nat.succ_ne_zero, ne_eq]
      exact ih (i + 1) _ _ (by omega) hs
  have key2 : ∀ (Q : Option Value → Mm → Prop) (X : Nat → Mm → Prop) i d r z s, i < n → gI M (m + 2) (13 + 13 * i + 1) = nI d → d ≤ 6 → z + r = d → (∀ u, Run (gT G) eX11_checksum 0 0 (fun _ _ => none) Q X kX11_checksum 15 [.val (.ref m), .val (.long (itr (ksI (gI M (m + 2)) i) r z s)), .unset, .val (.int (nI (i + 1))), u] [] (tS M m 0) 0 0) → Run (gT G) eX11_checksum 0 0 (fun _ _ => none) Q X kX11_checksum 28 [.val (.ref m), .val (.long s), .unset, .val (.int (nI i)), .val (.int (nI z))] [] (tS M m 0) 0 0 := by
    intro Q X i d r
    induction r with
    | zero =>
      intro z s hi hd1 hd2 hz hk
      have hz2 : z = d := hz
      subst hz2
      have x1 := xC (show i < 16 by omega) (show 1 ≤ 12 by decide)
      rw [rX11_checksum_28]
      simp only [kX11_checksum_28, rX11_checksum_0, kX11_checksum_0, rX11_checksum_73, kX11_checksum_73, rX11_checksum_79, kX11_checksum_79, rX11_checksum_175, kX11_checksum_175, rX11_checksum_207, kX11_checksum_207, eX11_checksum, S113, S131, S136, bk_c, if_true, if_false, wi_e, wl_e, wr_e, w1_i, w1_r, ldS_0, ldS_s, vi_e, vl_e, vr_e, dpL_u, dpL_i, dpL_r, dpL_l, stS_0, stS_1, stS_s, stL_0, stL_1, stL_s, bin_0, bin_1, bin_2, bin_3, bin_4, bin_5, bdv_0, bdv_1, lbin_0, lbin_1, lbin_2, cnd_0, cnd_1, cnd_2, cnd_3, cnd_4, cnd_5, aty_0, aty_1, aty_2, aty_3, aty_4, aty_5, c8_u, cn_0, cn_i, cn_r, cn_l, Nat.reduceAdd, Nat.reduceLeDiff, Nat.le_refl, adz, hnd_0, rcv_0, rcv_1, kLen_a, kLen_r, inB_e, inR_e, cpOK_e, swt_n, swt_c, List.take_succ_cons, List.take_zero, List.drop_succ_cons, List.drop_zero, List.reverse_cons, List.reverse_nil, List.nil_append, List.cons_append, List.length_cons, List.length_nil, Option.toList_some, Option.toList_none, det_e, det_x, tr_imp, fa_imp, implies_true, not_true, not_false_eq_true, and_true, true_and, nar_i, upd_s, st1_0, st1_1, st1_2, st1_3, st1_4, st1_5, st1_6, st1_7, st1_8, st1_9, st1_10, st1_11, st1_12, st1_13, st1_14, st1_15, st1_16, st1_17, st1_18, st1_19, st1_20, st1_21, st1_22, st1_23, st1_24, st1_25, st1_26, st1_27, st1_28, st1_29, st1_30, st1_31, st1_32, st1_33, st1_34, st1_35, st1_36, st1_37, st1_42, st1_43, st1_44, st1_46, st1_47, st1_48, st1_49, st1_50, st1_51, st1_52, st1_53, st1_54, st1_55, st1_56, st1_57, st1_58, st1_59, st1_60, Nat.reduceEqDiff, reduceIte, sV, tS_K, tS_P, t_2, hp.f, c13, nI_1, x1, hd1, lp_out, Nat.succ_ne_zero, ne_eq]
      exact hk _
    | succ r ih =>
      intro z s hi hd1 hd2 hz hk
      obtain ⟨b1, -, b3, b4⟩ := lp_in (i := z) (n := d) (N := 6) (by omega) hd2 (by decide)
      have x1 := xC (show i < 16 by omega) (show 1 ≤ 12 by decide)
      have y1 : vp_in (nI (13 + 13 * i + 6 + z)) 1793 = True := eq_true (vp_in_nI (by omega) (by decide))
      have y2 : (nI (13 + 13 * i + 6 + z)).toNatClampNeg = 13 + 13 * i + 6 + z := nI_clamp (by omega)
      rw [rX11_checksum_28]
      simp only [kX11_checksum_28, rX11_checksum_0, kX11_checksum_0, rX11_checksum_73, kX11_checksum_73, rX11_checksum_79, kX11_checksum_79, rX11_checksum_175, kX11_checksum_175, rX11_checksum_207, kX11_checksum_207, eX11_checksum, S113, S131, S136, bk_c, if_true, if_false, wi_e, wl_e, wr_e, w1_i, w1_r, ldS_0, ldS_s, vi_e, vl_e, vr_e, dpL_u, dpL_i, dpL_r, dpL_l, stS_0, stS_1, stS_s, stL_0, stL_1, stL_s, bin_0, bin_1, bin_2, bin_3, bin_4, bin_5, bdv_0, bdv_1, lbin_0, lbin_1, lbin_2, cnd_0, cnd_1, cnd_2, cnd_3, cnd_4, cnd_5, aty_0, aty_1, aty_2, aty_3, aty_4, aty_5, c8_u, cn_0, cn_i, cn_r, cn_l, Nat.reduceAdd, Nat.reduceLeDiff, Nat.le_refl, adz, hnd_0, rcv_0, rcv_1, kLen_a, kLen_r, inB_e, inR_e, cpOK_e, swt_n, swt_c, List.take_succ_cons, List.take_zero, List.drop_succ_cons, List.drop_zero, List.reverse_cons, List.reverse_nil, List.nil_append, List.cons_append, List.length_cons, List.length_nil, Option.toList_some, Option.toList_none, det_e, det_x, tr_imp, fa_imp, implies_true, not_true, not_false_eq_true, and_true, true_and, nar_i, upd_s, st1_0, st1_1, st1_2, st1_3, st1_4, st1_5, st1_6, st1_7, st1_8, st1_9, st1_10, st1_11, st1_12, st1_13, st1_14, st1_15, st1_16, st1_17, st1_18, st1_19, st1_20, st1_21, st1_22, st1_23, st1_24, st1_25, st1_26, st1_27, st1_28, st1_29, st1_30, st1_31, st1_32, st1_33, st1_34, st1_35, st1_36, st1_37, st1_42, st1_43, st1_44, st1_46, st1_47, st1_48, st1_49, st1_50, st1_51, st1_52, st1_53, st1_54, st1_55, st1_56, st1_57, st1_58, st1_59, st1_60, Nat.reduceEqDiff, reduceIte, sV, tS_K, tS_P, t_2, hp.f, c13, ad_6, nI_1, nI_add, x1, hd1, b1, y1, y2, Nat.succ_ne_zero, ne_eq]
      exact ih (z + 1) _ hi hd1 hd2 (by omega) hk
  have key : ∀ r i s (u : Slot), i + r = n → itr (ksC (gI M (m + 2))) r i s = itr (ksC (gI M (m + 2))) (gI M (m + 2) 0).toNatClampNeg 0 (gI M (m + 2) 5).toInt64 → Run (gT G) eX11_checksum 0 0 (fun _ _ => none) (fun v' M' => v' = some (.long (ksR (gI M (m + 2)))) ∧ M' = tS M m 0) (fun _ _ => False) kX11_checksum 15 [.val (.ref m), .val (.long s), .unset, .val (.int (nI i)), u] [] (tS M m 0) 0 0 := by
    intro r
    induction r with
    | zero =>
      intro i s u hi hs
      have hi2 : i = n := hi
      subst hi2
      rw [rX11_checksum_15]
      simp only [kX11_checksum_15, rX11_checksum_0, kX11_checksum_0, rX11_checksum_73, kX11_checksum_73, rX11_checksum_79, kX11_checksum_79, rX11_checksum_175, kX11_checksum_175, rX11_checksum_207, kX11_checksum_207, eX11_checksum, S113, S131, S136, bk_c, if_true, if_false, wi_e, wl_e, wr_e, w1_i, w1_r, ldS_0, ldS_s, vi_e, vl_e, vr_e, dpL_u, dpL_i, dpL_r, dpL_l, stS_0, stS_1, stS_s, stL_0, stL_1, stL_s, bin_0, bin_1, bin_2, bin_3, bin_4, bin_5, bdv_0, bdv_1, lbin_0, lbin_1, lbin_2, cnd_0, cnd_1, cnd_2, cnd_3, cnd_4, cnd_5, aty_0, aty_1, aty_2, aty_3, aty_4, aty_5, c8_u, cn_0, cn_i, cn_r, cn_l, Nat.reduceAdd, Nat.reduceLeDiff, Nat.le_refl, adz, hnd_0, rcv_0, rcv_1, kLen_a, kLen_r, inB_e, inR_e, cpOK_e, swt_n, swt_c, List.take_succ_cons, List.take_zero, List.drop_succ_cons, List.drop_zero, List.reverse_cons, List.reverse_nil, List.nil_append, List.cons_append, List.length_cons, List.length_nil, Option.toList_some, Option.toList_none, det_e, det_x, tr_imp, fa_imp, implies_true, not_true, not_false_eq_true, and_true, true_and, nar_i, upd_s, st1_0, st1_1, st1_2, st1_3, st1_4, st1_5, st1_6, st1_7, st1_8, st1_9, st1_10, st1_11, st1_12, st1_13, st1_14, st1_15, st1_16, st1_17, st1_18, st1_19, st1_20, st1_21, st1_22, st1_23, st1_24, st1_25, st1_26, st1_27, st1_28, st1_29, st1_30, st1_31, st1_32, st1_33, st1_34, st1_35, st1_36, st1_37, st1_42, st1_43, st1_44, st1_46, st1_47, st1_48, st1_49, st1_50, st1_51, st1_52, st1_53, st1_54, st1_55, st1_56, st1_57, st1_58, st1_59, st1_60, tS_K, tS_P, t_2, hp.f, xL0, xL1, en, lp_out, Nat.succ_ne_zero, ne_eq]
      exact key3 f 0 s _ (Nat.zero_add f) (by rw [← hs, ef, cf]; rfl)
    | succ r ih =>
      intro i s u hi hs
      obtain ⟨a1, a2, a3, -⟩ := lp_in (i := i) (n := n) (N := 16) (by omega) hn (by decide)
      obtain ⟨d, d1, d2, d3⟩ := (hW.2.2.2.1 i (by omega)).1
      have cd : (nI d).toNatClampNeg = d := nI_clamp (by omega)
      rw [rX11_checksum_15]
      simp only [kX11_checksum_15, rX11_checksum_0, kX11_checksum_0, rX11_checksum_73, kX11_checksum_73, rX11_checksum_79, kX11_checksum_79, rX11_checksum_175, kX11_checksum_175, rX11_checksum_207, kX11_checksum_207, eX11_checksum, S113, S131, S136, bk_c, if_true, if_false, wi_e, wl_e, wr_e, w1_i, w1_r, ldS_0, ldS_s, vi_e, vl_e, vr_e, dpL_u, dpL_i, dpL_r, dpL_l, stS_0, stS_1, stS_s, stL_0, stL_1, stL_s, bin_0, bin_1, bin_2, bin_3, bin_4, bin_5, bdv_0, bdv_1, lbin_0, lbin_1, lbin_2, cnd_0, cnd_1, cnd_2, cnd_3, cnd_4, cnd_5, aty_0, aty_1, aty_2, aty_3, aty_4, aty_5, c8_u, cn_0, cn_i, cn_r, cn_l, Nat.reduceAdd, Nat.reduceLeDiff, Nat.le_refl, adz, hnd_0, rcv_0, rcv_1, kLen_a, kLen_r, inB_e, inR_e, cpOK_e, swt_n, swt_c, List.take_succ_cons, List.take_zero, List.drop_succ_cons, List.drop_zero, List.reverse_cons, List.reverse_nil, List.nil_append, List.cons_append, List.length_cons, List.length_nil, Option.toList_some, Option.toList_none, det_e, det_x, tr_imp, fa_imp, implies_true, not_true, not_false_eq_true, and_true, true_and, nar_i, upd_s, st1_0, st1_1, st1_2, st1_3, st1_4, st1_5, st1_6, st1_7, st1_8, st1_9, st1_10, st1_11, st1_12, st1_13, st1_14, st1_15, st1_16, st1_17, st1_18, st1_19, st1_20, st1_21, st1_22, st1_23, st1_24, st1_25, st1_26, st1_27, st1_28, st1_29, st1_30, st1_31, st1_32, st1_33, st1_34, st1_35, st1_36, st1_37, st1_42, st1_43, st1_44, st1_46, st1_47, st1_48, st1_49, st1_50, st1_51, st1_52, st1_53, st1_54, st1_55, st1_56, st1_57, st1_58, st1_59, st1_60, tS_K, tS_P, t_2, hp.f, xL0, xL1, en, a1, Nat.succ_ne_zero, ne_eq]
      refine key2 _ _ i d d 0 s (by omega) d3 d2 (Nat.zero_add d) fun u => ih (i + 1) _ u (by omega) ?_
      rw [← hs]
      show _ = itr (ksC (gI M (m + 2))) r (i + 1) (ksC (gI M (m + 2)) i s)
      unfold ksC
      rw [d3, cd]
  simp only [rX11_checksum_0, kX11_checksum_0, rX11_checksum_73, kX11_checksum_73, rX11_checksum_79, kX11_checksum_79, rX11_checksum_175, kX11_checksum_175, rX11_checksum_207, kX11_checksum_207, eX11_checksum, S113, S131, S136, bk_c, if_true, if_false, wi_e, wl_e, wr_e, w1_i, w1_r, ldS_0, ldS_s, vi_e, vl_e, vr_e, dpL_u, dpL_i, dpL_r, dpL_l, stS_0, stS_1, stS_s, stL_0, stL_1, stL_s, bin_0, bin_1, bin_2, bin_3, bin_4, bin_5, bdv_0, bdv_1, lbin_0, lbin_1, lbin_2, cnd_0, cnd_1, cnd_2, cnd_3, cnd_4, cnd_5, aty_0, aty_1, aty_2, aty_3, aty_4, aty_5, c8_u, cn_0, cn_i, cn_r, cn_l, Nat.reduceAdd, Nat.reduceLeDiff, Nat.le_refl, adz, hnd_0, rcv_0, rcv_1, kLen_a, kLen_r, inB_e, inR_e, cpOK_e, swt_n, swt_c, List.take_succ_cons, List.take_zero, List.drop_succ_cons, List.drop_zero, List.reverse_cons, List.reverse_nil, List.nil_append, List.cons_append, List.length_cons, List.length_nil, Option.toList_some, Option.toList_none, det_e, det_x, tr_imp, fa_imp, implies_true, not_true, not_false_eq_true, and_true, true_and, nar_i, upd_s, st1_0, st1_1, st1_2, st1_3, st1_4, st1_5, st1_6, st1_7, st1_8, st1_9, st1_10, st1_11, st1_12, st1_13, st1_14, st1_15, st1_16, st1_17, st1_18, st1_19, st1_20, st1_21, st1_22, st1_23, st1_24, st1_25, st1_26, st1_27, st1_28, st1_29, st1_30, st1_31, st1_32, st1_33, st1_34, st1_35, st1_36, st1_37, st1_42, st1_43, st1_44, st1_46, st1_47, st1_48, st1_49, st1_50, st1_51, st1_52, st1_53, st1_54, st1_55, st1_56, st1_57, st1_58, st1_59, st1_60, tS_e, tS_K, tS_P, t_2, hp.f, xL0, xL1, Nat.succ_ne_zero, ne_eq]
  exact key n 0 _ _ (Nat.zero_add n) (by rw [en, cn])
