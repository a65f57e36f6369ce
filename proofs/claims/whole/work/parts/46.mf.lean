/-! ===== IrrigationTurnsModel: the inflow, an hour ===== -/
def ioO (c v h t : Int32) : Int64 := if c = 0 then v.toInt64 else if v = 0 then h.toInt64 else if v = 1 then (h / 24).toInt64 else t.toInt64
def ioL (D : Nat → Int32) (h t : Int32) : Nat → Nat → Nat → (Nat → Int64) → Nat → Int64
  | 0, _, _, K => K
  | r + 1, i, top, K => if i < (D 7).toNatClampNeg then (if D (393 + i) ≤ 1 then ioL D h t r (i + 2) (top + 1) (vp_updL K top (ioO (D (393 + i)) (D (393 + (i + 1))) h t)) else ioL D h t r (i + 1) (top - 1) (vp_updL K (top - 2) (opM (D (393 + i)) (K (top - 2)) (K (top - 1))))) else K
def ioP (D : Nat → Int32) : Nat → Nat → Nat → Prop
  | 0, i, _ => ¬ i < (D 7).toNatClampNeg
  | r + 1, i, top => i < (D 7).toNatClampNeg → (D (393 + i) ≤ 1 → i + 1 < 1400 ∧ top < 1400 ∧ ioP D r (i + 2) (top + 1)) ∧ (¬ D (393 + i) ≤ 1 → 2 ≤ top ∧ ioP D r (i + 1) (top - 1))
def ioR (D : Nat → Int32) (h : Int32) (K : Nat → Int64) : Nat → Int64 := if D 6 = 0 then K else ioL D h (tuD D h) 1400 0 0 K
def ioF (x : Int64) : Int32 := if x < 0 then 0 else if 9999 < x then 9999 else x.toInt32
def ioV (D : Nat → Int32) (h : Int32) (K : Nat → Int64) : Int32 := if D 6 = 0 then 100 else ioF (ioR D h K 0)
def ioW (D : Nat → Int32) : Prop := ¬ D 6 = 0 → cnt (D 7) 1400 ∧ ioP D 1400 0 0
def S141 : Sem := fun as M => match as with
  | [.ref m, .ref q, .int h] => sV (LM M m ∧ gK M q = kA .int 1793 ∧ tuW (gI M q) h ∧ ioW (gI M q)) (some (.int (ioV (gI M q) h (gJ M (m + 14))))) (sJ M (m + 14) (ioR (gI M q) h (gJ M (m + 14))))
  | _ => sF
def eX11_inflowOf : Nat → Sem := fun id => if id = 157 then S157 else S180
set_option maxRecDepth 100000 in
set_option maxHeartbeats 4000000 in
theorem s_X11_inflowOf {l : Launch} {G : Gt} (hfl : l.stackTraces = false) : SatM l G 141 S141 := by
  refine t_X11_inflowOf (E := eX11_inflowOf) hfl (s_X11_operate hfl) (s_X11_turn hfl) fun as M hp => ?_
  unfold S141 at hp ⊢
  split at hp
  case h_2 => exact hp.elim
  rename_i m q h
  obtain ⟨hp, k0, hT, hW⟩ := hp
  refine ⟨Nat.le_of_ble_eq_true rfl, ?_⟩
  show Run (gT G) _ _ _ _ _ _ _ 0 [.val (.ref m), .val (.ref q), .val (.int h), .unset, .unset, .unset, .unset, .unset] [] M 0 0
  have hJ : ∀ K, gJ (sJ M (m + 14) K) (m + 14) = K := fun K => gJ_s _ _ _
  have n24 : ¬ (24 : Int32) = 0 := by decide
  have v0 : vp_in 0 1400 = True := eq_true (vp_in_nI (n := 0) (by decide) (by decide))
  by_cases h6 : gI M q 6 = 0
  · simp only [rX11_inflowOf_0, kX11_inflowOf_0, rX11_inflowOf_10, kX11_inflowOf_10, rX11_inflowOf_76, kX11_inflowOf_76, rX11_inflowOf_86, kX11_inflowOf_86, rX11_inflowOf_100, kX11_inflowOf_100, rX11_inflowOf_103, kX11_inflowOf_103, rX11_inflowOf_110, kX11_inflowOf_110, rX11_inflowOf_140, kX11_inflowOf_140, rX11_inflowOf_146, kX11_inflowOf_146, rX11_inflowOf_161, kX11_inflowOf_161, rX11_inflowOf_180, kX11_inflowOf_180, rX11_inflowOf_187, kX11_inflowOf_187, eX11_inflowOf, S157, S180, bk_c, if_true, if_false, wi_e, wl_e, wr_e, w1_i, w1_r, ldS_0, ldS_s, vi_e, vl_e, vr_e, dpL_u, dpL_i, dpL_r, dpL_l, stS_0, stS_1, stS_s, stL_0, stL_1, stL_s, bin_0, bin_1, bin_2, bin_3, bin_4, bin_5, bdv_0, bdv_1, lbin_0, lbin_1, lbin_2, cnd_0, cnd_1, cnd_2, cnd_3, cnd_4, cnd_5, aty_0, aty_1, aty_2, aty_3, aty_4, aty_5, c8_u, cn_0, cn_i, cn_r, cn_l, Nat.reduceAdd, Nat.reduceLeDiff, Nat.le_refl, adz, hnd_0, rcv_0, rcv_1, kLen_a, kLen_r, inB_e, inR_e, cpOK_e, swt_n, swt_c, List.take_succ_cons, List.take_zero, List.drop_succ_cons, List.drop_zero, List.reverse_cons, List.reverse_nil, List.nil_append, List.cons_append, List.length_cons, List.length_nil, Option.toList_some, Option.toList_none, det_e, det_x, tr_imp, fa_imp, implies_true, not_true, not_false_eq_true, and_true, true_and, nar_i, upd_s, st1_0, st1_1, st1_2, st1_3, st1_4, st1_5, st1_6, st1_7, st1_8, st1_9, st1_10, st1_11, st1_12, st1_13, st1_14, st1_15, st1_16, st1_17, st1_18, st1_19, st1_20, st1_21, st1_22, st1_23, st1_24, st1_25, st1_26, st1_27, st1_28, st1_29, st1_30, st1_31, st1_32, st1_33, st1_34, st1_35, st1_36, st1_37, st1_42, st1_43, st1_44, st1_46, st1_47, st1_48, st1_49, st1_50, st1_51, st1_52, st1_53, st1_54, st1_55, st1_56, st1_57, st1_58, st1_59, st1_60, k0, xL0, xL1, h6]
    unfold ioV ioR
    rw [if_pos h6, if_pos h6, sJ_id]
    exact ⟨rfl, rfl⟩
  obtain ⟨⟨n, hn, en⟩, hP⟩ := hW h6
  have cn : (nI n).toNatClampNeg = n := nI_clamp (by omega)
  have key : ∀ r i top K (u w : Slot), i ≤ 1400 → top ≤ 1400 → ioP (gI M q) r i top → ioL (gI M q) h (tuD (gI M q) h) r i top K = ioR (gI M q) h (gJ M (m + 14)) → Run (gT G) eX11_inflowOf 0 0 (fun _ _ => none) (fun v' M' => v' = some (.int (ioV (gI M q) h (gJ M (m + 14)))) ∧ M' = sJ M (m + 14) (ioR (gI M q) h (gJ M (m + 14)))) (fun _ _ => False) kX11_inflowOf 22 [.val (.ref m), .val (.ref q), .val (.int h), .val (.int (nI top)), .val (.int (tuD (gI M q) h)), .val (.int (nI i)), u, w] [] (sJ M (m + 14) K) 0 0 := by
    have stop : ∀ i top K (u w : Slot), i ≤ 1400 → n ≤ i → K = ioR (gI M q) h (gJ M (m + 14)) → Run (gT G) eX11_inflowOf 0 0 (fun _ _ => none) (fun v' M' => v' = some (.int (ioV (gI M q) h (gJ M (m + 14)))) ∧ M' = sJ M (m + 14) (ioR (gI M q) h (gJ M (m + 14)))) (fun _ _ => False) kX11_inflowOf 22 [.val (.ref m), .val (.ref q), .val (.int h), .val (.int (nI top)), .val (.int (tuD (gI M q) h)), .val (.int (nI i)), u, w] [] (sJ M (m + 14) K) 0 0 := by
      intro i top K u w hi hni hK
      have a1 : (nI n ≤ nI i) = True := eq_true ((nI_leI (by omega) (by omega)).mpr hni)
      rw [rX11_inflowOf_22]
      simp only [kX11_inflowOf_22, rX11_inflowOf_0, kX11_inflowOf_0, rX11_inflowOf_10, kX11_inflowOf_10, rX11_inflowOf_76, kX11_inflowOf_76, rX11_inflowOf_86, kX11_inflowOf_86, rX11_inflowOf_100, kX11_inflowOf_100, rX11_inflowOf_103, kX11_inflowOf_103, rX11_inflowOf_110, kX11_inflowOf_110, rX11_inflowOf_140, kX11_inflowOf_140, rX11_inflowOf_146, kX11_inflowOf_146, rX11_inflowOf_161, kX11_inflowOf_161, rX11_inflowOf_180, kX11_inflowOf_180, rX11_inflowOf_187, kX11_inflowOf_187, eX11_inflowOf, S157, S180, bk_c, if_true, if_false, wi_e, wl_e, wr_e, w1_i, w1_r, ldS_0, ldS_s, vi_e, vl_e, vr_e, dpL_u, dpL_i, dpL_r, dpL_l, stS_0, stS_1, stS_s, stL_0, stL_1, stL_s, bin_0, bin_1, bin_2, bin_3, bin_4, bin_5, bdv_0, bdv_1, lbin_0, lbin_1, lbin_2, cnd_0, cnd_1, cnd_2, cnd_3, cnd_4, cnd_5, aty_0, aty_1, aty_2, aty_3, aty_4, aty_5, c8_u, cn_0, cn_i, cn_r, cn_l, Nat.reduceAdd, Nat.reduceLeDiff, Nat.le_refl, adz, hnd_0, rcv_0, rcv_1, kLen_a, kLen_r, inB_e, inR_e, cpOK_e, swt_n, swt_c, List.take_succ_cons, List.take_zero, List.drop_succ_cons, List.drop_zero, List.reverse_cons, List.reverse_nil, List.nil_append, List.cons_append, List.length_cons, List.length_nil, Option.toList_some, Option.toList_none, det_e, det_x, tr_imp, fa_imp, implies_true, not_true, not_false_eq_true, and_true, true_and, nar_i, upd_s, st1_0, st1_1, st1_2, st1_3, st1_4, st1_5, st1_6, st1_7, st1_8, st1_9, st1_10, st1_11, st1_12, st1_13, st1_14, st1_15, st1_16, st1_17, st1_18, st1_19, st1_20, st1_21, st1_22, st1_23, st1_24, st1_25, st1_26, st1_27, st1_28, st1_29, st1_30, st1_31, st1_32, st1_33, st1_34, st1_35, st1_36, st1_37, st1_42, st1_43, st1_44, st1_46, st1_47, st1_48, st1_49, st1_50, st1_51, st1_52, st1_53, st1_54, st1_55, st1_56, st1_57, st1_58, st1_59, st1_60, gK_sJ, gP_sJ, gI_sJ, hJ, hp.f, k0, xL0, xL1, en, a1, v0, lgp_le, lgp_ge, Nat.succ_ne_zero, ne_eq]
      subst hK
      unfold ioV ioF
      refine ⟨fun g => ⟨fun g2 => ?_, fun g2 => ?_⟩, fun g => ?_⟩
      · rw [if_neg h6, if_neg (Int64.not_lt.mpr g), if_neg (Int64.not_lt.mpr g2)]
        exact ⟨rfl, rfl⟩
      · rw [if_neg h6, if_neg (Int64.not_lt.mpr g), if_pos (Int64.not_le.mp g2)]
        exact ⟨rfl, rfl⟩
      · rw [if_neg h6, if_pos (Int64.not_le.mp g)]
        exact ⟨rfl, rfl⟩
    intro r
    induction r with
    | zero =>
      intro i top K u w hi ht hP hK
      have hP2 : ¬ i < (gI M q 7).toNatClampNeg := hP
      rw [en, cn] at hP2
      exact stop i top K u w hi (by omega) hK
    | succ r ih =>
      intro i top K u w hi ht hP hK
      by_cases hin : i < n
      · have hPi := hP (by rw [en, cn]; exact hin)
        unfold ioL at hK
        rw [en, cn, if_pos hin] at hK
        obtain ⟨a1, -, -, -⟩ := lp_in (i := i) (n := n) (N := 1400) hin hn (by decide)
        have y1 : vp_in (nI (393 + i)) 1793 = True := eq_true (vp_in_nI (by omega) (by decide))
        have y2 : (nI (393 + i)).toNatClampNeg = 393 + i := nI_clamp (by omega)
        by_cases hc : gI M q (393 + i) ≤ 1
        · obtain ⟨b1, b2, b3⟩ := hPi.1 hc
          have hgt : (1 < gI M q (393 + i)) = False := eq_false (Int32.not_lt.mpr hc)
          rw [if_pos hc] at hK
          have y3 : vp_in (nI (393 + (i + 1))) 1793 = True := eq_true (vp_in_nI (by omega) (by decide))
          have y4 : (nI (393 + (i + 1))).toNatClampNeg = 393 + (i + 1) := nI_clamp (by omega)
          have t1 : vp_in (nI top) 1400 = True := eq_true (vp_in_nI b2 (by decide))
          have t2 : (nI top).toNatClampNeg = top := nI_clamp (by omega)
          have nx : ∀ v w, ioO (gI M q (393 + i)) (gI M q (393 + (i + 1))) h (tuD (gI M q) h) = v → Run (gT G) eX11_inflowOf 0 0 (fun _ _ => none) (fun v' M' => v' = some (.int (ioV (gI M q) h (gJ M (m + 14)))) ∧ M' = sJ M (m + 14) (ioR (gI M q) h (gJ M (m + 14)))) (fun _ _ => False) kX11_inflowOf 22 [.val (.ref m), .val (.ref q), .val (.int h), .val (.int (nI (top + 1))), .val (.int (tuD (gI M q) h)), .val (.int (nI (i + 1 + 1))), .val (.int (gI M q (393 + i))), w] [] (sJ M (m + 14) (vp_updL K top v)) 0 0 := by
            intro v w hv
            subst hv
            exact ih (i + 2) (top + 1) _ _ w (by omega) (by omega) b3 hK
          rw [rX11_inflowOf_22]
          simp only [kX11_inflowOf_22, rX11_inflowOf_0, kX11_inflowOf_0, rX11_inflowOf_10, kX11_inflowOf_10, rX11_inflowOf_76, kX11_inflowOf_76, rX11_inflowOf_86, kX11_inflowOf_86, rX11_inflowOf_100, kX11_inflowOf_100, rX11_inflowOf_103, kX11_inflowOf_103, rX11_inflowOf_110, kX11_inflowOf_110, rX11_inflowOf_140, kX11_inflowOf_140, rX11_inflowOf_146, kX11_inflowOf_146, rX11_inflowOf_161, kX11_inflowOf_161, rX11_inflowOf_180, kX11_inflowOf_180, rX11_inflowOf_187, kX11_inflowOf_187, eX11_inflowOf, S157, S180, bk_c, if_true, if_false, wi_e, wl_e, wr_e, w1_i, w1_r, ldS_0, ldS_s, vi_e, vl_e, vr_e, dpL_u, dpL_i, dpL_r, dpL_l, stS_0, stS_1, stS_s, stL_0, stL_1, stL_s, bin_0, bin_1, bin_2, bin_3, bin_4, bin_5, bdv_0, bdv_1, lbin_0, lbin_1, lbin_2, cnd_0, cnd_1, cnd_2, cnd_3, cnd_4, cnd_5, aty_0, aty_1, aty_2, aty_3, aty_4, aty_5, c8_u, cn_0, cn_i, cn_r, cn_l, Nat.reduceAdd, Nat.reduceLeDiff, Nat.le_refl, adz, hnd_0, rcv_0, rcv_1, kLen_a, kLen_r, inB_e, inR_e, cpOK_e, swt_n, swt_c, List.take_succ_cons, List.take_zero, List.drop_succ_cons, List.drop_zero, List.reverse_cons, List.reverse_nil, List.nil_append, List.cons_append, List.length_cons, List.length_nil, Option.toList_some, Option.toList_none, det_e, det_x, tr_imp, fa_imp, implies_true, not_true, not_false_eq_true, and_true, true_and, nar_i, upd_s, st1_0, st1_1, st1_2, st1_3, st1_4, st1_5, st1_6, st1_7, st1_8, st1_9, st1_10, st1_11, st1_12, st1_13, st1_14, st1_15, st1_16, st1_17, st1_18, st1_19, st1_20, st1_21, st1_22, st1_23, st1_24, st1_25, st1_26, st1_27, st1_28, st1_29, st1_30, st1_31, st1_32, st1_33, st1_34, st1_35, st1_36, st1_37, st1_42, st1_43, st1_44, st1_46, st1_47, st1_48, st1_49, st1_50, st1_51, st1_52, st1_53, st1_54, st1_55, st1_56, st1_57, st1_58, st1_59, st1_60, gK_sJ, gP_sJ, gI_sJ, hJ, sJ_sJ, hp.f, k0, xL0, xL1, en, a1, ad_393, nI_1, y1, y2, y3, y4, t1, t2, hgt, n24, Nat.succ_ne_zero, ne_eq]
          refine ⟨fun g => ⟨fun g2 => ⟨fun g3 => ?_, fun g3 => ?_⟩, fun g2 => ?_⟩, fun g => ?_⟩
          · refine nx _ _ ?_
            unfold ioO
            rw [if_neg g, if_neg g2, if_neg g3]
          · refine nx _ _ ?_
            unfold ioO
            rw [if_neg g, if_neg g2, if_pos (Decidable.not_not.mp g3)]
          · refine nx _ _ ?_
            unfold ioO
            rw [if_neg g, if_pos (Decidable.not_not.mp g2)]
          · refine nx _ _ ?_
            unfold ioO
            rw [if_pos (Decidable.not_not.mp g)]
        · obtain ⟨b1, b2⟩ := hPi.2 hc
          have hgt : (1 < gI M q (393 + i)) = True := eq_true (Int32.not_le.mp hc)
          rw [if_neg hc] at hK
          obtain ⟨t, rfl⟩ : ∃ t, top = t + 2 := ⟨top - 2, by omega⟩
          have t1 : vp_in (nI t) 1400 = True := eq_true (vp_in_nI (by omega) (by decide))
          have t2 : (nI t).toNatClampNeg = t := nI_clamp (by omega)
          have t3 : vp_in (nI (t + 1)) 1400 = True := eq_true (vp_in_nI (by omega) (by decide))
          have t4 : (nI (t + 1)).toNatClampNeg = t + 1 := nI_clamp (by omega)
          rw [rX11_inflowOf_22]
          simp only [kX11_inflowOf_22, rX11_inflowOf_0, kX11_inflowOf_0, rX11_inflowOf_10, kX11_inflowOf_10, rX11_inflowOf_76, kX11_inflowOf_76, rX11_inflowOf_86, kX11_inflowOf_86, rX11_inflowOf_100, kX11_inflowOf_100, rX11_inflowOf_103, kX11_inflowOf_103, rX11_inflowOf_110, kX11_inflowOf_110, rX11_inflowOf_140, kX11_inflowOf_140, rX11_inflowOf_146, kX11_inflowOf_146, rX11_inflowOf_161, kX11_inflowOf_161, rX11_inflowOf_180, kX11_inflowOf_180, rX11_inflowOf_187, kX11_inflowOf_187, eX11_inflowOf, S157, S180, bk_c, if_true, if_false, wi_e, wl_e, wr_e, w1_i, w1_r, ldS_0, ldS_s, vi_e, vl_e, vr_e, dpL_u, dpL_i, dpL_r, dpL_l, stS_0, stS_1, stS_s, stL_0, stL_1, stL_s, bin_0, bin_1, bin_2, bin_3, bin_4, bin_5, bdv_0, bdv_1, lbin_0, lbin_1, lbin_2, cnd_0, cnd_1, cnd_2, cnd_3, cnd_4, cnd_5, aty_0, aty_1, aty_2, aty_3, aty_4, aty_5, c8_u, cn_0, cn_i, cn_r, cn_l, Nat.reduceAdd, Nat.reduceLeDiff, Nat.le_refl, adz, hnd_0, rcv_0, rcv_1, kLen_a, kLen_r, inB_e, inR_e, cpOK_e, swt_n, swt_c, List.take_succ_cons, List.take_zero, List.drop_succ_cons, List.drop_zero, List.reverse_cons, List.reverse_nil, List.nil_append, List.cons_append, List.length_cons, List.length_nil, Option.toList_some, Option.toList_none, det_e, det_x, tr_imp, fa_imp, implies_true, not_true, not_false_eq_true, and_true, true_and, nar_i, upd_s, st1_0, st1_1, st1_2, st1_3, st1_4, st1_5, st1_6, st1_7, st1_8, st1_9, st1_10, st1_11, st1_12, st1_13, st1_14, st1_15, st1_16, st1_17, st1_18, st1_19, st1_20, st1_21, st1_22, st1_23, st1_24, st1_25, st1_26, st1_27, st1_28, st1_29, st1_30, st1_31, st1_32, st1_33, st1_34, st1_35, st1_36, st1_37, st1_42, st1_43, st1_44, st1_46, st1_47, st1_48, st1_49, st1_50, st1_51, st1_52, st1_53, st1_54, st1_55, st1_56, st1_57, st1_58, st1_59, st1_60, gK_sJ, gP_sJ, gI_sJ, hJ, sJ_sJ, Nat.reduceEqDiff, reduceIte, sV, hp.f, k0, xL0, xL1, en, a1, ad_393, nI_1, nI_m1, nI_pred, y1, y2, t1, t2, t3, t4, hgt, Nat.succ_ne_zero, ne_eq]
          exact ih (i + 1) (t + 1) _ _ _ (by omega) (by omega) b2 hK
      · have hK2 : K = ioR (gI M q) h (gJ M (m + 14)) := by
          unfold ioL at hK
          rw [en, cn, if_neg hin] at hK
          exact hK
        exact stop i top K u w hi (by omega) hK2
  have h0 := key 1400 0 0 (gJ M (m + 14)) .unset .unset (by decide) (by decide) hP (by unfold ioR; rw [if_neg h6])
  rw [sJ_id] at h0
  simp only [rX11_inflowOf_0, kX11_inflowOf_0, rX11_inflowOf_10, kX11_inflowOf_10, rX11_inflowOf_76, kX11_inflowOf_76, rX11_inflowOf_86, kX11_inflowOf_86, rX11_inflowOf_100, kX11_inflowOf_100, rX11_inflowOf_103, kX11_inflowOf_103, rX11_inflowOf_110, kX11_inflowOf_110, rX11_inflowOf_140, kX11_inflowOf_140, rX11_inflowOf_146, kX11_inflowOf_146, rX11_inflowOf_161, kX11_inflowOf_161, rX11_inflowOf_180, kX11_inflowOf_180, rX11_inflowOf_187, kX11_inflowOf_187, eX11_inflowOf, S157, S180, bk_c, if_true, if_false, wi_e, wl_e, wr_e, w1_i, w1_r, ldS_0, ldS_s, vi_e, vl_e, vr_e, dpL_u, dpL_i, dpL_r, dpL_l, stS_0, stS_1, stS_s, stL_0, stL_1, stL_s, bin_0, bin_1, bin_2, bin_3, bin_4, bin_5, bdv_0, bdv_1, lbin_0, lbin_1, lbin_2, cnd_0, cnd_1, cnd_2, cnd_3, cnd_4, cnd_5, aty_0, aty_1, aty_2, aty_3, aty_4, aty_5, c8_u, cn_0, cn_i, cn_r, cn_l, Nat.reduceAdd, Nat.reduceLeDiff, Nat.le_refl, adz, hnd_0, rcv_0, rcv_1, kLen_a, kLen_r, inB_e, inR_e, cpOK_e, swt_n, swt_c, List.take_succ_cons, List.take_zero, List.drop_succ_cons, List.drop_zero, List.reverse_cons, List.reverse_nil, List.nil_append, List.cons_append, List.length_cons, List.length_nil, Option.toList_some, Option.toList_none, det_e, det_x, tr_imp, fa_imp, implies_true, not_true, not_false_eq_true, and_true, true_and, nar_i, upd_s, st1_0, st1_1, st1_2, st1_3, st1_4, st1_5, st1_6, st1_7, st1_8, st1_9, st1_10, st1_11, st1_12, st1_13, st1_14, st1_15, st1_16, st1_17, st1_18, st1_19, st1_20, st1_21, st1_22, st1_23, st1_24, st1_25, st1_26, st1_27, st1_28, st1_29, st1_30, st1_31, st1_32, st1_33, st1_34, st1_35, st1_36, st1_37, st1_42, st1_43, st1_44, st1_46, st1_47, st1_48, st1_49, st1_50, st1_51, st1_52, st1_53, st1_54, st1_55, st1_56, st1_57, st1_58, st1_59, st1_60, Nat.reduceEqDiff, reduceIte, sV, k0, xL0, xL1, h6, hT]
  exact h0
/-! == an hour == -/
def caZ (O : Nat → Int32) (v : Int32) (c : Nat) (z : Nat → Int32) : Int32 × (Nat → Int32) := irR (upd z (13 + 13 * c + 5) (z (13 + 13 * c + 6))) O (nI c) (z (13 + 13 * c + 6)) v
def caD (O L : Nat → Int32) (v : Int32) (c : Nat) (z : Nat → Int32) : Nat → Int32 := dvD (caZ O v c z).2 L c (caZ O v c z).1
def drL : Nat → (Nat → Int32) → Nat → Int32
  | 0, D => D
  | k + 1, D => drL k (drD D k)
def shD (c : Nat) (D : Nat → Int32) : Nat → Int32 := upd (itr (fun k (z : Nat → Int32) => upd z (13 + 13 * c + 6 + k) (z (13 + 13 * c + 6 + (k + 1)))) 6 0 D) (13 + 13 * c + 6 + 6) 0
def sm1 (D : Nat → Int32) (F : Int32) : Nat → Int32 := enD (upd D 8 (D 8 + F)) 0 F
def sm2 (D O L : Nat → Int32) (F : Int32) : Nat → Int32 := itr (caD O L (tuD D (D 5))) (D 0).toNatClampNeg 0 (sm1 D F)
def sm3 (D O L : Nat → Int32) (F : Int32) : Nat → Int32 := drL (D 1).toNatClampNeg (sm2 D O L F)
def sm4 (D O L : Nat → Int32) (F : Int32) : Nat → Int32 := paD (sm3 D O L F)
def sm5 (D O L : Nat → Int32) (F : Int32) : Nat → Int32 := upd (sm4 D O L F) 5 (sm4 D O L F 5 + 1)
def sm6 (D O L : Nat → Int32) (F : Int32) : Nat → Int32 := itr shD (D 0).toNatClampNeg 0 (sm5 D O L F)
theorem sd_ir {D : Nat → Int32} {n f r w g : Nat} (h : WD D n f r w g) (O : Nat → Int32) (c a v : Int32) : SD D (irR D O c a v).2 := by
  have hf : f ≤ 12 := h.1.2.1
  unfold irR
  rw [h.2.1.2.1, nI_clamp (by omega)]
  exact SD.it2 f (fun z : Int32 × (Nat → Int32) => z.2) _ (fun k z hk hz => sd_irA O c v k z (by omega) hz) f 0 (a, D) (by omega) (SD.r D)
theorem sd_ca {D E : Nat → Int32} {n f r w g : Nat} (h : WD D n f r w g) (O L : Nat → Int32) (v : Int32) {c : Nat} (hc : c < n) (hE : SD D E) : SD D (caZ O v c E).2 ∧ SD D (caD O L v c E) := by
  have hn : n ≤ 16 := h.1.1
  have h1 : SD D (upd E (13 + 13 * c + 5) (E (13 + 13 * c + 6))) := hE.t (SD.u _ _ (ns_c (by omega) (by decide) (by decide)))
  have h2 : SD D (caZ O v c E).2 := h1.t (sd_ir (h.sd h1) O _ _ _)
  exact ⟨h2, h2.t (sd_dv (h.sd h2) L hc _)⟩
theorem sd_drL {D : Nat → Int32} {n f r w g : Nat} (h : WD D n f r w g) : ∀ k E, k ≤ f → SD D E → SD D (drL k E)
  | 0, _, _, hE => hE
  | k + 1, E, hk, hE => sd_drL h k _ (by omega) (hE.t (sd_dr (h.sd hE) (by omega)))
theorem sd_sh {D E : Nat → Int32} {c : Nat} (hc : c < 16) (hE : SD D E) : SD D (shD c E) := by
  unfold shD
  exact (SD.it2 6 id _ (fun k z hk hz => SD.t hz (SD.u _ _ (by unfold stI; omega))) 6 0 E (by omega) hE).t (SD.u _ _ (by unfold stI; omega))
/-- what an hour wants of a row -/
def SP (D : Nat → Int32) : Prop := (∃ n f r w g, WD D n f r w g ∧ 0 < n) ∧ tuW D (D 5) ∧ ioW D
def siF (M : Mm) (m q : Nat) : Int32 := ioV (gI M q) (gI M q 5) (gJ M (m + 14))
def siN (M : Mm) (m q : Nat) : Mm := sI (sI (sJ M (m + 14) (ioR (gI M q) (gI M q 5) (gJ M (m + 14)))) (m + 15) (foR (gI M q) (gI M (m + 15)) (gI M (m + 16))).1) (m + 16) (foL (gI M q) (gI M (m + 15)) (gI M (m + 16)))
def siO (M : Mm) (m q : Nat) : Nat → Int32 := (foR (gI M q) (gI M (m + 15)) (gI M (m + 16))).1
def siL (M : Mm) (m q : Nat) : Nat → Int32 := foL (gI M q) (gI M (m + 15)) (gI M (m + 16))
def siM (M : Mm) (m q : Nat) : Mm := sI (siN M m q) q (sm6 (gI M q) (siO M m q) (siL M m q) (siF M m q))
def S168 : Sem := fun as M => match as with
  | [.ref m, .ref q] => sV (LM M m ∧ (q = m + 2 ∨ q = m + 4) ∧ SP (gI M q)) none (siM M m q)
  | _ => sF
theorem si_ne {m q : Nat} (h : q = m + 2 ∨ q = m + 4) : q ≠ m ∧ q ≠ m + 14 ∧ q ≠ m + 15 ∧ q ≠ m + 16 := by omega
theorem si_n5 (m : Nat) : m + 15 ≠ m + 16 := by omega
theorem pa_0 {D : Nat → Int32} {n f r w g : Nat} (h : WD D n f r w g) : paD D 0 = nI n := by
  unfold paD
  split
  · exact h.2.1.1
  · rename_i q
    have h2 := pa_wd h q
    have hf : f ≤ 12 := h.1.2.1
    rw [h.2.1.2.1, nI_clamp (by omega)]
    exact (SD.it2 f id _ (fun k z hk hz => sd_paA h2 hk hz) f 0 (paG D) (by omega) (SD.r _) 0 (by unfold stI; omega)).trans h2.2.1.1
def eX11_simulate : Nat → Sem := fun id => if id = 113 then S113 else if id = 121 then S121 else if id = 122 then S122 else if id = 124 then S124 else if id = 133 then S133 else if id = 141 then S141 else if id = 143 then S143 else if id = 159 then S159 else S180
set_option maxRecDepth 100000 in
set_option maxHeartbeats 4000000 in
theorem s_X11_simulate {l : Launch} {G : Gt} (hfl : l.stackTraces = false) : SatM l G 168 S168 := by
  refine t_X11_simulate (E := eX11_simulate) hfl (s_X11_canal hfl) (s_X11_divide hfl) (s_X11_drain hfl) (s_X11_enter hfl) (s_X11_findOpen hfl) (s_X11_inflowOf hfl) (s_X11_irrigate hfl) (s_X11_patrol hfl) (s_X11_turn hfl) fun as M hp => ?_
  unfold S168 at hp ⊢
  split at hp
  case h_2 => exact hp.elim
  rename_i m q
  obtain ⟨hp, hq, ⟨n, f, rr, w, g, hW, hn0⟩, hT, hIo⟩ := hp
  refine ⟨Nat.le_of_ble_eq_true rfl, ?_⟩
  show Run (gT G) _ _ _ _ _ _ _ 0 [.val (.ref m), .val (.ref q), .unset, .unset, .unset, .unset, .unset] [] M 0 0
  have hn : n ≤ 16 := hW.1.1
  have hf : f ≤ 12 := hW.1.2.1
  have en : gI M q 0 = nI n := hW.2.1.1
  have ef : gI M q 1 = nI f := hW.2.1.2.1
  have cn : (nI n).toNatClampNeg = n := nI_clamp (by omega)
  have cf : (nI f).toNatClampNeg = f := nI_clamp (by omega)
  have k0 : gK M q = kA .int 1793 := by
    rcases hq with e | e <;> rw [e]
    · exact hp.2.2.1.2.1
    · exact hp.2.2.1.2.2.2.1
  obtain ⟨q0, q14, q15, q16⟩ := si_ne hq
  have fM : siM M m q = sI (siN M m q) q (sm6 (gI M q) (siO M m q) (siL M m q) (siF M m q)) := rfl
  rw [fM]
  have f1 : sI (sI (sJ M (m + 14) (ioR (gI M q) (gI M q 5) (gJ M (m + 14)))) (m + 15) (foR (gI M q) (gI M (m + 15)) (gI M (m + 16))).1) (m + 16) (foL (gI M q) (gI M (m + 15)) (gI M (m + 16))) = siN M m q := rfl
  have f0 : ioV (gI M q) (gI M q 5) (gJ M (m + 14)) = siF M m q := rfl
  have nK : gK (siN M m q) = gK M := rfl
  have nP : gP (siN M m q) = gP M := rfl
  have nL : LM (siN M m q) m := hp.kp nK nP
  have nq : gI (siN M m q) q = gI M q := by
    unfold siN
    rw [gI_f _ _ q16, gI_f _ _ q15, gI_J]
  have n15 : gI (siN M m q) (m + 15) = siO M m q := by
    unfold siN siO
    rw [gI_f _ _ (si_n5 m), gI_s]
  have n16 : gI (siN M m q) (m + 16) = siL M m q := by
    unfold siN siL
    rw [gI_s]
  generalize siN M m q = N at f1 nK nP nL nq n15 n16 ⊢
  generalize hF : siF M m q = F at f0 ⊢
  generalize hO : siO M m q = O at n15 ⊢
  generalize hLl : siL M m q = L at n16 ⊢
  have hL : ∀ a, LM (sI N q a) m := fun a => nL.kp rfl rfl
  have h15 : ∀ a, gI (sI N q a) (m + 15) = O := fun a => (gI_f _ _ q15.symm).trans n15
  have h16 : ∀ a, gI (sI N q a) (m + 16) = L := fun a => (gI_f _ _ q16.symm).trans n16
  have hLJ : LM (sJ M (m + 14) (ioR (gI M q) (gI M q 5) (gJ M (m + 14)))) m := hp.kp rfl rfl
  have key6 : ∀ (Q : Option Value → Mm → Prop) (X : Nat → Mm → Prop) r k i (z : Nat → Int32) (a b : Slot), i < 16 → k + r = 6 → (∀ b u v, Run (gT G) eX11_simulate 0 0 (fun _ _ => none) Q X kX11_simulate 131 [.val (.ref m), .val (.ref q), a, b, .val (.int (nI (i + 1))), u, v] [] (sI N q (upd (itr (fun k (z : Nat → Int32) => upd z (13 + 13 * i + 6 + k) (z (13 + 13 * i + 6 + (k + 1)))) r k z) (13 + 13 * i + 6 + 6) 0)) 0 0) → Run (gT G) eX11_simulate 0 0 (fun _ _ => none) Q X kX11_simulate 152 [.val (.ref m), .val (.ref q), a, b, .val (.int (nI i)), .val (.int (nI (13 + 13 * i + 6))), .val (.int (nI k))] [] (sI N q z) 0 0 := by
    intro Q X r
    induction r with
    | zero =>
      intro k i z a b hi hk hc
      have hk2 : k = 6 := hk
      subst hk2
      have y1 : vp_in (nI (13 + 13 * i + 6 + 6)) 1793 = True := eq_true (vp_in_nI (by omega) (by decide))
      have y2 : (nI (13 + 13 * i + 6 + 6)).toNatClampNeg = 13 + 13 * i + 6 + 6 := nI_clamp (by omega)
      rw [rX11_simulate_152]
      simp only [kX11_simulate_152, rX11_simulate_0, kX11_simulate_0, rX11_simulate_93, kX11_simulate_93, rX11_simulate_117, kX11_simulate_117, rX11_simulate_181, kX11_simulate_181, rX11_simulate_195, kX11_simulate_195, eX11_simulate, S113, S121, S122, S124, S133, S141, S143, S159, S180, bk_c, if_true, if_false, wi_e, wl_e, wr_e, w1_i, w1_r, ldS_0, ldS_s, vi_e, vl_e, vr_e, dpL_u, dpL_i, dpL_r, dpL_l, stS_0, stS_1, stS_s, stL_0, stL_1, stL_s, bin_0, bin_1, bin_2, bin_3, bin_4, bin_5, bdv_0, bdv_1, lbin_0, lbin_1, lbin_2, cnd_0, cnd_1, cnd_2, cnd_3, cnd_4, cnd_5, aty_0, aty_1, aty_2, aty_3, aty_4, aty_5, c8_u, cn_0, cn_i, cn_r, cn_l, Nat.reduceAdd, Nat.reduceLeDiff, Nat.le_refl, adz, hnd_0, rcv_0, rcv_1, kLen_a, kLen_r, inB_e, inR_e, cpOK_e, swt_n, swt_c, List.take_succ_cons, List.take_zero, List.drop_succ_cons, List.drop_zero, List.reverse_cons, List.reverse_nil, List.nil_append, List.cons_append, List.length_cons, List.length_nil, Option.toList_some, Option.toList_none, det_e, det_x, tr_imp, fa_imp, implies_true, not_true, not_false_eq_true, and_true, true_and, nar_i, upd_s, st1_0, st1_1, st1_2, st1_3, st1_4, st1_5, st1_6, st1_7, st1_8, st1_9, st1_10, st1_11, st1_12, st1_13, st1_14, st1_15, st1_16, st1_17, st1_18, st1_19, st1_20, st1_21, st1_22, st1_23, st1_24, st1_25, st1_26, st1_27, st1_28, st1_29, st1_30, st1_31, st1_32, st1_33, st1_34, st1_35, st1_36, st1_37, st1_42, st1_43, st1_44, st1_46, st1_47, st1_48, st1_49, st1_50, st1_51, st1_52, st1_53, st1_54, st1_55, st1_56, st1_57, st1_58, st1_59, st1_60, gK_sI, gI_s, sI_sI, nK, k0, nI_6, lp_out, nI_add, nI_1, y1, y2]
      exact hc _ _ _
    | succ r ih =>
      intro k i z a b hi hk hc
      obtain ⟨a1, -, -, -⟩ := lp_in (i := k) (n := 6) (N := 6) (by omega) (Nat.le_refl 6) (by decide)
      have y1 : vp_in (nI (13 + 13 * i + 6 + k)) 1793 = True := eq_true (vp_in_nI (by omega) (by decide))
      have y2 : (nI (13 + 13 * i + 6 + k)).toNatClampNeg = 13 + 13 * i + 6 + k := nI_clamp (by omega)
      have y3 : vp_in (nI (13 + 13 * i + 6 + k + 1)) 1793 = True := eq_true (vp_in_nI (by omega) (by decide))
      have y4 : (nI (13 + 13 * i + 6 + k + 1)).toNatClampNeg = 13 + 13 * i + 6 + k + 1 := nI_clamp (by omega)
      rw [rX11_simulate_152]
      simp only [kX11_simulate_152, rX11_simulate_0, kX11_simulate_0, rX11_simulate_93, kX11_simulate_93, rX11_simulate_117, kX11_simulate_117, rX11_simulate_181, kX11_simulate_181, rX11_simulate_195, kX11_simulate_195, eX11_simulate, S113, S121, S122, S124, S133, S141, S143, S159, S180, bk_c, if_true, if_false, wi_e, wl_e, wr_e, w1_i, w1_r, ldS_0, ldS_s, vi_e, vl_e, vr_e, dpL_u, dpL_i, dpL_r, dpL_l, stS_0, stS_1, stS_s, stL_0, stL_1, stL_s, bin_0, bin_1, bin_2, bin_3, bin_4, bin_5, bdv_0, bdv_1, lbin_0, lbin_1, lbin_2, cnd_0, cnd_1, cnd_2, cnd_3, cnd_4, cnd_5, aty_0, aty_1, aty_2, aty_3, aty_4, aty_5, c8_u, cn_0, cn_i, cn_r, cn_l, Nat.reduceAdd, Nat.reduceLeDiff, Nat.le_refl, adz, hnd_0, rcv_0, rcv_1, kLen_a, kLen_r, inB_e, inR_e, cpOK_e, swt_n, swt_c, List.take_succ_cons, List.take_zero, List.drop_succ_cons, List.drop_zero, List.reverse_cons, List.reverse_nil, List.nil_append, List.cons_append, List.length_cons, List.length_nil, Option.toList_some, Option.toList_none, det_e, det_x, tr_imp, fa_imp, implies_true, not_true, not_false_eq_true, and_true, true_and, nar_i, upd_s, st1_0, st1_1, st1_2, st1_3, st1_4, st1_5, st1_6, st1_7, st1_8, st1_9, st1_10, st1_11, st1_12, st1_13, st1_14, st1_15, st1_16, st1_17, st1_18, st1_19, st1_20, st1_21, st1_22, st1_23, st1_24, st1_25, st1_26, st1_27, st1_28, st1_29, st1_30, st1_31, st1_32, st1_33, st1_34, st1_35, st1_36, st1_37, st1_42, st1_43, st1_44, st1_46, st1_47, st1_48, st1_49, st1_50, st1_51, st1_52, st1_53, st1_54, st1_55, st1_56, st1_57, st1_58, st1_59, st1_60, gK_sI, gI_s, sI_sI, nK, k0, nI_6, a1, nI_add, nI_1, y1, y2, y3, y4]
      exact ih (k + 1) i _ a b hi (by omega) hc
  have key5 : ∀ r i (z : Nat → Int32) (a b u v : Slot), i + r = n → z 0 = nI n → itr shD r i z = sm6 (gI M q) O L F → Run (gT G) eX11_simulate 0 0 (fun _ _ => none) (fun v' M' => v' = none ∧ M' = sI N q (sm6 (gI M q) O L F)) (fun _ _ => False) kX11_simulate 131 [.val (.ref m), .val (.ref q), a, b, .val (.int (nI i)), u, v] [] (sI N q z) 0 0 := by
    intro r
    induction r with
    | zero =>
      intro i z a b u v hi h0 hz
      have hi2 : i = n := hi
      subst hi2
      have hz2 : z = sm6 (gI M q) O L F := hz
      rw [rX11_simulate_131]
      simp only [kX11_simulate_131, rX11_simulate_0, kX11_simulate_0, rX11_simulate_93, kX11_simulate_93, rX11_simulate_117, kX11_simulate_117, rX11_simulate_181, kX11_simulate_181, rX11_simulate_195, kX11_simulate_195, eX11_simulate, S113, S121, S122, S124, S133, S141, S143, S159, S180, bk_c, if_true, if_false, wi_e, wl_e, wr_e, w1_i, w1_r, ldS_0, ldS_s, vi_e, vl_e, vr_e, dpL_u, dpL_i, dpL_r, dpL_l, stS_0, stS_1, stS_s, stL_0, stL_1, stL_s, bin_0, bin_1, bin_2, bin_3, bin_4, bin_5, bdv_0, bdv_1, lbin_0, lbin_1, lbin_2, cnd_0, cnd_1, cnd_2, cnd_3, cnd_4, cnd_5, aty_0, aty_1, aty_2, aty_3, aty_4, aty_5, c8_u, cn_0, cn_i, cn_r, cn_l, Nat.reduceAdd, Nat.reduceLeDiff, Nat.le_refl, adz, hnd_0, rcv_0, rcv_1, kLen_a, kLen_r, inB_e, inR_e, cpOK_e, swt_n, swt_c, List.take_succ_cons, List.take_zero, List.drop_succ_cons, List.drop_zero, List.reverse_cons, List.reverse_nil, List.nil_append, List.cons_append, List.length_cons, List.length_nil, Option.toList_some, Option.toList_none, det_e, det_x, tr_imp, fa_imp, implies_true, not_true, not_false_eq_true, and_true, true_and, nar_i, upd_s, st1_0, st1_1, st1_2, st1_3, st1_4, st1_5, st1_6, st1_7, st1_8, st1_9, st1_10, st1_11, st1_12, st1_13, st1_14, st1_15, st1_16, st1_17, st1_18, st1_19, st1_20, st1_21, st1_22, st1_23, st1_24, st1_25, st1_26, st1_27, st1_28, st1_29, st1_30, st1_31, st1_32, st1_33, st1_34, st1_35, st1_36, st1_37, st1_42, st1_43, st1_44, st1_46, st1_47, st1_48, st1_49, st1_50, st1_51, st1_52, st1_53, st1_54, st1_55, st1_56, st1_57, st1_58, st1_59, st1_60, gK_sI, gI_s, nK, k0, xL0, xL1, h0, lp_out]
      rw [hz2]
    | succ r ih =>
      intro i z a b u v hi h0 hz
      obtain ⟨a1, -, -, -⟩ := lp_in (i := i) (n := n) (N := 16) (by omega) hn (by decide)
      rw [rX11_simulate_131]
      simp only [kX11_simulate_131, rX11_simulate_0, kX11_simulate_0, rX11_simulate_93, kX11_simulate_93, rX11_simulate_117, kX11_simulate_117, rX11_simulate_181, kX11_simulate_181, rX11_simulate_195, kX11_simulate_195, eX11_simulate, S113, S121, S122, S124, S133, S141, S143, S159, S180, bk_c, if_true, if_false, wi_e, wl_e, wr_e, w1_i, w1_r, ldS_0, ldS_s, vi_e, vl_e, vr_e, dpL_u, dpL_i, dpL_r, dpL_l, stS_0, stS_1, stS_s, stL_0, stL_1, stL_s, bin_0, bin_1, bin_2, bin_3, bin_4, bin_5, bdv_0, bdv_1, lbin_0, lbin_1, lbin_2, cnd_0, cnd_1, cnd_2, cnd_3, cnd_4, cnd_5, aty_0, aty_1, aty_2, aty_3, aty_4, aty_5, c8_u, cn_0, cn_i, cn_r, cn_l, Nat.reduceAdd, Nat.reduceLeDiff, Nat.le_refl, adz, hnd_0, rcv_0, rcv_1, kLen_a, kLen_r, inB_e, inR_e, cpOK_e, swt_n, swt_c, List.take_succ_cons, List.take_zero, List.drop_succ_cons, List.drop_zero, List.reverse_cons, List.reverse_nil, List.nil_append, List.cons_append, List.length_cons, List.length_nil, Option.toList_some, Option.toList_none, det_e, det_x, tr_imp, fa_imp, implies_true, not_true, not_false_eq_true, and_true, true_and, nar_i, upd_s, st1_0, st1_1, st1_2, st1_3, st1_4, st1_5, st1_6, st1_7, st1_8, st1_9, st1_10, st1_11, st1_12, st1_13, st1_14, st1_15, st1_16, st1_17, st1_18, st1_19, st1_20, st1_21, st1_22, st1_23, st1_24, st1_25, st1_26, st1_27, st1_28, st1_29, st1_30, st1_31, st1_32, st1_33, st1_34, st1_35, st1_36, st1_37, st1_42, st1_43, st1_44, st1_46, st1_47, st1_48, st1_49, st1_50, st1_51, st1_52, st1_53, st1_54, st1_55, st1_56, st1_57, st1_58, st1_59, st1_60, Nat.reduceEqDiff, reduceIte, sV, gK_sI, gI_s, nK, k0, xL0, xL1, h0, a1, c13, ad_6]
      refine key6 _ _ 6 0 i z a b (by omega) rfl fun b u v => ih (i + 1) _ a b u v (by omega) ?_ hz
      show shD i z 0 = nI n
      rw [(sd_sh (c := i) (by omega) (SD.r z)) 0 (by unfold stI; omega)]
      exact h0
  have key4 : ∀ k (z : Nat → Int32) (a b u v : Slot), k ≤ f → SD (gI M q) z → drL k z = sm3 (gI M q) O L F → Run (gT G) eX11_simulate 0 0 (fun _ _ => none) (fun v' M' => v' = none ∧ M' = sI N q (sm6 (gI M q) O L F)) (fun _ _ => False) kX11_simulate 100 [.val (.ref m), .val (.ref q), a, b, .val (.int (nI k + -1)), u, v] [] (sI N q z) 0 0 := by
    intro k
    induction k with
    | zero =>
      intro z a b u v hk hz hd
      have a1 : (nI 0 + -1 < 0) = True := eq_true (by decide)
      have hd2 : z = sm3 (gI M q) O L F := hd
      have hWz := hW.sd hz
      have hpre : (∃ n f r w g, WD z n f r w g) = True := eq_true ⟨n, f, rr, w, g, hWz⟩
      rw [rX11_simulate_100]
      simp only [kX11_simulate_100, rX11_simulate_0, kX11_simulate_0, rX11_simulate_93, kX11_simulate_93, rX11_simulate_117, kX11_simulate_117, rX11_simulate_181, kX11_simulate_181, rX11_simulate_195, kX11_simulate_195, eX11_simulate, S113, S121, S122, S124, S133, S141, S143, S159, S180, bk_c, if_true, if_false, wi_e, wl_e, wr_e, w1_i, w1_r, ldS_0, ldS_s, vi_e, vl_e, vr_e, dpL_u, dpL_i, dpL_r, dpL_l, stS_0, stS_1, stS_s, stL_0, stL_1, stL_s, bin_0, bin_1, bin_2, bin_3, bin_4, bin_5, bdv_0, bdv_1, lbin_0, lbin_1, lbin_2, cnd_0, cnd_1, cnd_2, cnd_3, cnd_4, cnd_5, aty_0, aty_1, aty_2, aty_3, aty_4, aty_5, c8_u, cn_0, cn_i, cn_r, cn_l, Nat.reduceAdd, Nat.reduceLeDiff, Nat.le_refl, adz, hnd_0, rcv_0, rcv_1, kLen_a, kLen_r, inB_e, inR_e, cpOK_e, swt_n, swt_c, List.take_succ_cons, List.take_zero, List.drop_succ_cons, List.drop_zero, List.reverse_cons, List.reverse_nil, List.nil_append, List.cons_append, List.length_cons, List.length_nil, Option.toList_some, Option.toList_none, det_e, det_x, tr_imp, fa_imp, implies_true, not_true, not_false_eq_true, and_true, true_and, nar_i, upd_s, st1_0, st1_1, st1_2, st1_3, st1_4, st1_5, st1_6, st1_7, st1_8, st1_9, st1_10, st1_11, st1_12, st1_13, st1_14, st1_15, st1_16, st1_17, st1_18, st1_19, st1_20, st1_21, st1_22, st1_23, st1_24, st1_25, st1_26, st1_27, st1_28, st1_29, st1_30, st1_31, st1_32, st1_33, st1_34, st1_35, st1_36, st1_37, st1_42, st1_43, st1_44, st1_46, st1_47, st1_48, st1_49, st1_50, st1_51, st1_52, st1_53, st1_54, st1_55, st1_56, st1_57, st1_58, st1_59, st1_60, Nat.reduceEqDiff, reduceIte, sV, gK_sI, gI_s, sI_sI, nK, k0, xL0, xL1, a1, hpre]
      refine key5 n 0 _ a _ u v (Nat.zero_add n) ?_ ?_
      · rw [upd_n _ _ (by decide)]
        exact pa_0 hWz
      · rw [hd2]
        unfold sm6
        rw [en, cn]
        rfl
    | succ k ih =>
      intro z a b u v hk hz hd
      have a1 : (nI k < 0) = False := eq_false (nI_pos (by omega))
      have a3 : (nI k).toNatClampNeg = k := nI_clamp (by omega)
      have hWz := hW.sd hz
      have hpre : (∃ n f r w g, WD z n f r w g ∧ ∃ j, j < f ∧ nI k = nI j) = True := eq_true ⟨n, f, rr, w, g, hWz, k, by omega, rfl⟩
      rw [rX11_simulate_100]
      simp only [kX11_simulate_100, rX11_simulate_0, kX11_simulate_0, rX11_simulate_93, kX11_simulate_93, rX11_simulate_117, kX11_simulate_117, rX11_simulate_181, kX11_simulate_181, rX11_simulate_195, kX11_simulate_195, eX11_simulate, S113, S121, S122, S124, S133, S141, S143, S159, S180, bk_c, if_true, if_false, wi_e, wl_e, wr_e, w1_i, w1_r, ldS_0, ldS_s, vi_e, vl_e, vr_e, dpL_u, dpL_i, dpL_r, dpL_l, stS_0, stS_1, stS_s, stL_0, stL_1, stL_s, bin_0, bin_1, bin_2, bin_3, bin_4, bin_5, bdv_0, bdv_1, lbin_0, lbin_1, lbin_2, cnd_0, cnd_1, cnd_2, cnd_3, cnd_4, cnd_5, aty_0, aty_1, aty_2, aty_3, aty_4, aty_5, c8_u, cn_0, cn_i, cn_r, cn_l, Nat.reduceAdd, Nat.reduceLeDiff, Nat.le_refl, adz, hnd_0, rcv_0, rcv_1, kLen_a, kLen_r, inB_e, inR_e, cpOK_e, swt_n, swt_c, List.take_succ_cons, List.take_zero, List.drop_succ_cons, List.drop_zero, List.reverse_cons, List.reverse_nil, List.nil_append, List.cons_append, List.length_cons, List.length_nil, Option.toList_some, Option.toList_none, det_e, det_x, tr_imp, fa_imp, implies_true, not_true, not_false_eq_true, and_true, true_and, nar_i, upd_s, st1_0, st1_1, st1_2, st1_3, st1_4, st1_5, st1_6, st1_7, st1_8, st1_9, st1_10, st1_11, st1_12, st1_13, st1_14, st1_15, st1_16, st1_17, st1_18, st1_19, st1_20, st1_21, st1_22, st1_23, st1_24, st1_25, st1_26, st1_27, st1_28, st1_29, st1_30, st1_31, st1_32, st1_33, st1_34, st1_35, st1_36, st1_37, st1_42, st1_43, st1_44, st1_46, st1_47, st1_48, st1_49, st1_50, st1_51, st1_52, st1_53, st1_54, st1_55, st1_56, st1_57, st1_58, st1_59, st1_60, Nat.reduceEqDiff, reduceIte, sV, gK_sI, gI_s, sI_sI, nK, k0, nI_m1, a1, a3, hpre]
      exact ih (drD z k) a _ u v (by omega) (hz.t (sd_dr hWz (by omega))) hd
  have key3 : ∀ r i (z : Nat → Int32) (u v : Slot), i + r = n → SD (gI M q) z → itr (caD O L (tuD (gI M q) (gI M q 5))) r i z = sm2 (gI M q) O L F → Run (gT G) eX11_simulate 0 0 (fun _ _ => none) (fun v' M' => v' = none ∧ M' = sI N q (sm6 (gI M q) O L F)) (fun _ _ => False) kX11_simulate 39 [.val (.ref m), .val (.ref q), .val (.int (tuD (gI M q) (gI M q 5))), .val (.int F), .val (.int (nI i)), u, v] [] (sI N q z) 0 0 := by
    intro r
    induction r with
    | zero =>
      intro i z u v hi hz hs
      have hi2 : i = n := hi
      subst hi2
      have hs2 : z = sm2 (gI M q) O L F := hs
      have e0 : z 0 = nI i := (hz 0 (by unfold stI; omega)).trans en
      have e1 : z 1 = nI f := (hz 1 (by unfold stI; omega)).trans ef
      rw [rX11_simulate_39]
      simp only [kX11_simulate_39, rX11_simulate_0, kX11_simulate_0, rX11_simulate_93, kX11_simulate_93, rX11_simulate_117, kX11_simulate_117, rX11_simulate_181, kX11_simulate_181, rX11_simulate_195, kX11_simulate_195, eX11_simulate, S113, S121, S122, S124, S133, S141, S143, S159, S180, bk_c, if_true, if_false, wi_e, wl_e, wr_e, w1_i, w1_r, ldS_0, ldS_s, vi_e, vl_e, vr_e, dpL_u, dpL_i, dpL_r, dpL_l, stS_0, stS_1, stS_s, stL_0, stL_1, stL_s, bin_0, bin_1, bin_2, bin_3, bin_4, bin_5, bdv_0, bdv_1, lbin_0, lbin_1, lbin_2, cnd_0, cnd_1, cnd_2, cnd_3, cnd_4, cnd_5, aty_0, aty_1, aty_2, aty_3, aty_4, aty_5, c8_u, cn_0, cn_i, cn_r, cn_l, Nat.reduceAdd, Nat.reduceLeDiff, Nat.le_refl, adz, hnd_0, rcv_0, rcv_1, kLen_a, kLen_r, inB_e, inR_e, cpOK_e, swt_n, swt_c, List.take_succ_cons, List.take_zero, List.drop_succ_cons, List.drop_zero, List.reverse_cons, List.reverse_nil, List.nil_append, List.cons_append, List.length_cons, List.length_nil, Option.toList_some, Option.toList_none, det_e, det_x, tr_imp, fa_imp, implies_true, not_true, not_false_eq_true, and_true, true_and, nar_i, upd_s, st1_0, st1_1, st1_2, st1_3, st1_4, st1_5, st1_6, st1_7, st1_8, st1_9, st1_10, st1_11, st1_12, st1_13, st1_14, st1_15, st1_16, st1_17, st1_18, st1_19, st1_20, st1_21, st1_22, st1_23, st1_24, st1_25, st1_26, st1_27, st1_28, st1_29, st1_30, st1_31, st1_32, st1_33, st1_34, st1_35, st1_36, st1_37, st1_42, st1_43, st1_44, st1_46, st1_47, st1_48, st1_49, st1_50, st1_51, st1_52, st1_53, st1_54, st1_55, st1_56, st1_57, st1_58, st1_59, st1_60, gK_sI, gI_s, nK, k0, xL0, xL1, e0, e1, lp_out, nI_sub1]
      refine key4 f z _ _ _ _ (Nat.le_refl f) hz ?_
      unfold sm3
      rw [ef, cf, hs2]
    | succ r ih =>
      intro i z u v hi hz hs
      obtain ⟨a1, -, a3, -⟩ := lp_in (i := i) (n := n) (N := 16) (by omega) hn (by decide)
      have hi16 : i < 16 := by omega
      have x5 := xC hi16 (show 5 ≤ 12 by decide)
      have x6 := xC hi16 (show 6 ≤ 12 by decide)
      have e0 : z 0 = nI n := (hz 0 (by unfold stI; omega)).trans en
      have e1 : z 1 = nI f := (hz 1 (by unfold stI; omega)).trans ef
      have p1 : cnt (upd z (13 + 13 * i + 5) (z (13 + 13 * i + 6)) 1) 12 := ⟨f, hf, by rw [upd_n _ _ (by omega)]; exact e1⟩
      have hca := sd_ca hW O L (tuD (gI M q) (gI M q 5)) (show i < n by omega) hz
      have p2 : (∃ n f r w g, WD (caZ O (tuD (gI M q) (gI M q 5)) i z).2 n f r w g ∧ ∃ k, k < n ∧ nI i = nI k) = True := eq_true ⟨n, f, rr, w, g, hW.sd hca.1, i, by omega, rfl⟩
      have fz : irR (upd z (13 + 13 * i + 5) (z (13 + 13 * i + 6))) O (nI i) (z (13 + 13 * i + 6)) (tuD (gI M q) (gI M q 5)) = caZ O (tuD (gI M q) (gI M q 5)) i z := rfl
      rw [rX11_simulate_39]
      simp only [kX11_simulate_39, rX11_simulate_0, kX11_simulate_0, rX11_simulate_93, kX11_simulate_93, rX11_simulate_117, kX11_simulate_117, rX11_simulate_181, kX11_simulate_181, rX11_simulate_195, kX11_simulate_195, eX11_simulate, S113, S121, S122, S124, S133, S141, S143, S159, S180, bk_c, if_true, if_false, wi_e, wl_e, wr_e, w1_i, w1_r, ldS_0, ldS_s, vi_e, vl_e, vr_e, dpL_u, dpL_i, dpL_r, dpL_l, stS_0, stS_1, stS_s, stL_0, stL_1, stL_s, bin_0, bin_1, bin_2, bin_3, bin_4, bin_5, bdv_0, bdv_1, lbin_0, lbin_1, lbin_2, cnd_0, cnd_1, cnd_2, cnd_3, cnd_4, cnd_5, aty_0, aty_1, aty_2, aty_3, aty_4, aty_5, c8_u, cn_0, cn_i, cn_r, cn_l, Nat.reduceAdd, Nat.reduceLeDiff, Nat.le_refl, adz, hnd_0, rcv_0, rcv_1, kLen_a, kLen_r, inB_e, inR_e, cpOK_e, swt_n, swt_c, List.take_succ_cons, List.take_zero, List.drop_succ_cons, List.drop_zero, List.reverse_cons, List.reverse_nil, List.nil_append, List.cons_append, List.length_cons, List.length_nil, Option.toList_some, Option.toList_none, det_e, det_x, tr_imp, fa_imp, implies_true, not_true, not_false_eq_true, and_true, true_and, nar_i, upd_s, st1_0, st1_1, st1_2, st1_3, st1_4, st1_5, st1_6, st1_7, st1_8, st1_9, st1_10, st1_11, st1_12, st1_13, st1_14, st1_15, st1_16, st1_17, st1_18, st1_19, st1_20, st1_21, st1_22, st1_23, st1_24, st1_25, st1_26, st1_27, st1_28, st1_29, st1_30, st1_31, st1_32, st1_33, st1_34, st1_35, st1_36, st1_37, st1_42, st1_43, st1_44, st1_46, st1_47, st1_48, st1_49, st1_50, st1_51, st1_52, st1_53, st1_54, st1_55, st1_56, st1_57, st1_58, st1_59, st1_60, Nat.reduceEqDiff, reduceIte, sV, gK_sI, gI_s, sI_sI, nK, k0, c13, ad_5, ad_6, xL0, xL1, x5, x6, e0, a1, a3, hp.f, hL, h15, h16, q0, q15, q16, p1, p2, fz, nI_1, ne_eq, not_false_eq_true]
      exact ih (i + 1) (caD O L (tuD (gI M q) (gI M q 5)) i z) _ _ (by omega) hca.2 hs
  have f3 : enD (upd (gI M q) 8 (gI M q 8 + F)) 0 F = sm1 (gI M q) F := rfl
  have s8 : SD (gI M q) (upd (gI M q) 8 (gI M q 8 + F)) := SD.u _ _ (by unfold stI; omega)
  obtain ⟨d, d1, d2, d3⟩ := (hW.2.2.2.1 0 hn0).1
  have hen : (∃ k, k < 16 ∧ (0 : Int32) = nI k ∧ ∃ d, d ≤ 6 ∧ upd (gI M q) 8 (gI M q 8 + F) (13 + 13 * k + 1) = nI d) = True := eq_true ⟨0, by decide, rfl, d, d2, d3⟩
  have hw0 : (∃ n f r w g, WD (gI M q) n f r w g) = True := eq_true ⟨n, f, rr, w, g, hW⟩
  have h1 := key3 n 0 (sm1 (gI M q) F) .unset .unset (Nat.zero_add n) (s8.t (sd_en _ F (c := 0) (by decide) d3 d2)) (by unfold sm2; rw [en, cn])
  simp only [rX11_simulate_0, kX11_simulate_0, rX11_simulate_93, kX11_simulate_93, rX11_simulate_117, kX11_simulate_117, rX11_simulate_181, kX11_simulate_181, rX11_simulate_195, kX11_simulate_195, eX11_simulate, S113, S121, S122, S124, S133, S141, S143, S159, S180, bk_c, if_true, if_false, wi_e, wl_e, wr_e, w1_i, w1_r, ldS_0, ldS_s, vi_e, vl_e, vr_e, dpL_u, dpL_i, dpL_r, dpL_l, stS_0, stS_1, stS_s, stL_0, stL_1, stL_s, bin_0, bin_1, bin_2, bin_3, bin_4, bin_5, bdv_0, bdv_1, lbin_0, lbin_1, lbin_2, cnd_0, cnd_1, cnd_2, cnd_3, cnd_4, cnd_5, aty_0, aty_1, aty_2, aty_3, aty_4, aty_5, c8_u, cn_0, cn_i, cn_r, cn_l, Nat.reduceAdd, Nat.reduceLeDiff, Nat.le_refl, adz, hnd_0, rcv_0, rcv_1, kLen_a, kLen_r, inB_e, inR_e, cpOK_e, swt_n, swt_c, List.take_succ_cons, List.take_zero, List.drop_succ_cons, List.drop_zero, List.reverse_cons, List.reverse_nil, List.nil_append, List.cons_append, List.length_cons, List.length_nil, Option.toList_some, Option.toList_none, det_e, det_x, tr_imp, fa_imp, implies_true, not_true, not_false_eq_true, and_true, true_and, nar_i, upd_s, st1_0, st1_1, st1_2, st1_3, st1_4, st1_5, st1_6, st1_7, st1_8, st1_9, st1_10, st1_11, st1_12, st1_13, st1_14, st1_15, st1_16, st1_17, st1_18, st1_19, st1_20, st1_21, st1_22, st1_23, st1_24, st1_25, st1_26, st1_27, st1_28, st1_29, st1_30, st1_31, st1_32, st1_33, st1_34, st1_35, st1_36, st1_37, st1_42, st1_43, st1_44, st1_46, st1_47, st1_48, st1_49, st1_50, st1_51, st1_52, st1_53, st1_54, st1_55, st1_56, st1_57, st1_58, st1_59, st1_60, Nat.reduceEqDiff, reduceIte, sV, gK_sI, gK_sJ, gP_sJ, gI_sJ, gI_s, sI_sI, k0, nK, nq, xL0, xL1, hp.f, hp, hLJ, hT, hIo, hw0, q0, q14, q15, q16, f0, f1, f3, hen, ne_eq, not_false_eq_true]
  exact h1
