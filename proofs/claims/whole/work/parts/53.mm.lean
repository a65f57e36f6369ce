/-! ===== IrrigationTurnsModel: swapTurns, undo, append, its constructor ===== -/
def swA (i j k : Nat) (D : Nat → Int32) : Nat → Int32 := upd (upd D (353 + 2 * i + k) (D (353 + 2 * j + k))) (353 + 2 * j + k) (D (353 + 2 * i + k))
def swD (D : Nat → Int32) (i j : Nat) : Nat → Int32 := swA i j 1 (swA i j 0 D)
def kSw (M : Mm) (m : Nat) (a b : Int32) : Int32 := orK (ccK a 0 (gI M (m + 2) 2 - 1) 1) (ccK b 0 (gI M (m + 2) 2 - 1) 1)
def swN (M : Mm) (m : Nat) (a b : Int32) : Mm := sI (rmR M m) (m + 2) (swD (gI M (m + 2)) a.toNatClampNeg b.toNatClampNeg)
def S173 : Sem := fun as M => match as with
  | [.ref m, .int a, .int b] => sV (LM M m ∧ cnt (gI M m 12) 8 ∧ cnt (gI M (m + 2) 2) 12 ∧ (kSw M m a b = 0 → tuW (swD (gI M (m + 2)) a.toNatClampNeg b.toNatClampNeg) (swD (gI M (m + 2)) a.toNatClampNeg b.toNatClampNeg 5))) (some (.int (if kSw M m a b = 0 then tuD (swD (gI M (m + 2)) a.toNatClampNeg b.toNatClampNeg) (swD (gI M (m + 2)) a.toNatClampNeg b.toNatClampNeg 5) else 0))) (if kSw M m a b = 0 then swN M m a b else tS M m (kSw M m a b))
  | _ => sF
def eX11_swapTurns : Nat → Sem := fun id => if id = 129 then S129 else if id = 139 then S139 else if id = 165 then S165 else S180
set_option maxRecDepth 100000 in
set_option maxHeartbeats 4000000 in
theorem s_X11_swapTurns {l : Launch} {G : Gt} (hfl : l.stackTraces = false) : SatM l G 173 S173 := by
  refine t_X11_swapTurns (E := eX11_swapTurns) hfl (s_X11_fails hfl) (s_X11_in hfl) (s_X11_remember hfl) (s_X11_turn hfl) fun as M hp => ?_
  unfold S173 at hp ⊢
  split at hp
  case h_2 => exact hp.elim
  rename_i m a b
  obtain ⟨hp, hu, hc, hA⟩ := hp
  refine ⟨Nat.le_of_ble_eq_true rfl, ?_⟩
  show Run (gT G) _ _ _ _ _ _ _ 0 [.val (.ref m), .val (.int a), .val (.int b), .unset, .unset] [] M 0 0
  unfold kSw at hA ⊢
  have hu0 : cnt (gI (tS M m 0) m 12) 8 := by rw [tS_n _ _ _ (by decide)]; exact hu
  obtain ⟨n, hn, en⟩ := hc
  have bad : ∀ k, k = orK (ccK a 0 (gI M (m + 2) 2 - 1) 1) (ccK b 0 (gI M (m + 2) 2 - 1) 1) → k = 1 → Run (gT G) eX11_swapTurns 0 0 (fun _ _ => none) (fun v' M' => v' = some (.int 0) ∧ M' = tS M m 1) (fun _ _ => False) kX11_swapTurns 0 [.val (.ref m), .val (.int a), .val (.int b), .unset, .unset] [] M 0 0 := by
    intro k hk h1
    rw [rX11_swapTurns_0]
    rcases cc_or a 0 (gI M (m + 2) 2 - 1) 1 with ⟨h2, h3⟩ | ⟨h2, h3⟩
    · rcases cc_or b 0 (gI M (m + 2) 2 - 1) 1 with ⟨h4, h5⟩ | ⟨h4, h5⟩
      · rw [h3, h5, orK_0, h1] at hk
        exact absurd hk (by decide)
      · have g2 : inI a 0 (gI M (m + 2) 2 - 1) = True := eq_true h2
        have g4 : inI b 0 (gI M (m + 2) 2 - 1) = False := eq_false h4
        simp only [kX11_swapTurns_0, rX11_swapTurns_0, kX11_swapTurns_0, rX11_swapTurns_38, kX11_swapTurns_38, rX11_swapTurns_42, kX11_swapTurns_42, rX11_swapTurns_43, kX11_swapTurns_43, rX11_swapTurns_52, kX11_swapTurns_52, rX11_swapTurns_129, kX11_swapTurns_129, eX11_swapTurns, S129, S139, S165, S180, bk_c, if_true, if_false, wi_e, wl_e, wr_e, w1_i, w1_r, ldS_0, ldS_s, vi_e, vl_e, vr_e, dpL_u, dpL_i, dpL_r, dpL_l, stS_0, stS_1, stS_s, stL_0, stL_1, stL_s, bin_0, bin_1, bin_2, bin_3, bin_4, bin_5, bdv_0, bdv_1, lbin_0, lbin_1, lbin_2, cnd_0, cnd_1, cnd_2, cnd_3, cnd_4, cnd_5, aty_0, aty_1, aty_2, aty_3, aty_4, aty_5, c8_u, cn_0, cn_i, cn_r, cn_l, Nat.reduceAdd, Nat.reduceLeDiff, Nat.le_refl, adz, hnd_0, rcv_0, rcv_1, kLen_a, kLen_r, inB_e, inR_e, cpOK_e, swt_n, swt_c, List.take_succ_cons, List.take_zero, List.drop_succ_cons, List.drop_zero, List.reverse_cons, List.reverse_nil, List.nil_append, List.cons_append, List.length_cons, List.length_nil, Option.toList_some, Option.toList_none, det_e, det_x, tr_imp, fa_imp, implies_true, not_true, not_false_eq_true, and_true, true_and, nar_i, upd_s, st1_0, st1_1, st1_2, st1_3, st1_4, st1_5, st1_6, st1_7, st1_8, st1_9, st1_10, st1_11, st1_12, st1_13, st1_14, st1_15, st1_16, st1_17, st1_18, st1_19, st1_20, st1_21, st1_22, st1_23, st1_24, st1_25, st1_26, st1_27, st1_28, st1_29, st1_30, st1_31, st1_32, st1_33, st1_34, st1_35, st1_36, st1_37, st1_42, st1_43, st1_44, st1_46, st1_47, st1_48, st1_49, st1_50, st1_51, st1_52, st1_53, st1_54, st1_55, st1_56, st1_57, st1_58, st1_59, st1_60, Nat.reduceEqDiff, reduceIte, sV, tS_e, tS_0, tS_t, tS_K, tS_P, t_2, hp.f, hp.t, xL0, xL1, g2, g4, b9_0, b9F, b9T, i1f, fsK_1, Nat.succ_ne_zero, ne_eq]
    · have g2 : inI a 0 (gI M (m + 2) 2 - 1) = False := eq_false h2
      simp only [kX11_swapTurns_0, rX11_swapTurns_0, kX11_swapTurns_0, rX11_swapTurns_38, kX11_swapTurns_38, rX11_swapTurns_42, kX11_swapTurns_42, rX11_swapTurns_43, kX11_swapTurns_43, rX11_swapTurns_52, kX11_swapTurns_52, rX11_swapTurns_129, kX11_swapTurns_129, eX11_swapTurns, S129, S139, S165, S180, bk_c, if_true, if_false, wi_e, wl_e, wr_e, w1_i, w1_r, ldS_0, ldS_s, vi_e, vl_e, vr_e, dpL_u, dpL_i, dpL_r, dpL_l, stS_0, stS_1, stS_s, stL_0, stL_1, stL_s, bin_0, bin_1, bin_2, bin_3, bin_4, bin_5, bdv_0, bdv_1, lbin_0, lbin_1, lbin_2, cnd_0, cnd_1, cnd_2, cnd_3, cnd_4, cnd_5, aty_0, aty_1, aty_2, aty_3, aty_4, aty_5, c8_u, cn_0, cn_i, cn_r, cn_l, Nat.reduceAdd, Nat.reduceLeDiff, Nat.le_refl, adz, hnd_0, rcv_0, rcv_1, kLen_a, kLen_r, inB_e, inR_e, cpOK_e, swt_n, swt_c, List.take_succ_cons, List.take_zero, List.drop_succ_cons, List.drop_zero, List.reverse_cons, List.reverse_nil, List.nil_append, List.cons_append, List.length_cons, List.length_nil, Option.toList_some, Option.toList_none, det_e, det_x, tr_imp, fa_imp, implies_true, not_true, not_false_eq_true, and_true, true_and, nar_i, upd_s, st1_0, st1_1, st1_2, st1_3, st1_4, st1_5, st1_6, st1_7, st1_8, st1_9, st1_10, st1_11, st1_12, st1_13, st1_14, st1_15, st1_16, st1_17, st1_18, st1_19, st1_20, st1_21, st1_22, st1_23, st1_24, st1_25, st1_26, st1_27, st1_28, st1_29, st1_30, st1_31, st1_32, st1_33, st1_34, st1_35, st1_36, st1_37, st1_42, st1_43, st1_44, st1_46, st1_47, st1_48, st1_49, st1_50, st1_51, st1_52, st1_53, st1_54, st1_55, st1_56, st1_57, st1_58, st1_59, st1_60, Nat.reduceEqDiff, reduceIte, sV, tS_e, tS_0, tS_t, tS_K, tS_P, t_2, hp.f, hp.t, xL0, xL1, g2, b9_0, b9F, b9T, i1f, fsK_1, Nat.succ_ne_zero, ne_eq]
  rcases cc_or a 0 (gI M (m + 2) 2 - 1) 1 with ⟨h2, h3⟩ | ⟨h2, h3⟩
  · rcases cc_or b 0 (gI M (m + 2) 2 - 1) 1 with ⟨h4, h5⟩ | ⟨h4, h5⟩
    · have g2 : inI a 0 (gI M (m + 2) 2 - 1) = True := eq_true h2
      have g4 : inI b 0 (gI M (m + 2) 2 - 1) = True := eq_true h4
      rw [h3, h5, orK_0] at hA ⊢
      have hT := hA rfl
      have h2' := h2
      have h4' := h4
      rw [en] at h2' h4'
      obtain ⟨i, hi, ei⟩ := in_n h2' hn (by decide)
      obtain ⟨j, hj, ej⟩ := in_n h4' hn (by decide)
      have ci : (nI i).toNatClampNeg = i := nI_clamp (by omega)
      have cj : (nI j).toNatClampNeg = j := nI_clamp (by omega)
      rw [if_pos rfl, if_pos rfl]
      have hL := hp.rmR
      have e2 : gI (rmR M m) (m + 2) = gI M (m + 2) := rmR_2 hu
      have fR : rmM (tS M m 0) m = rmR M m := rfl
      have step : ∀ (Q : Option Value → Mm → Prop) (X : Nat → Mm → Prop) (k : Nat) (D : Nat → Int32) (u : Slot), k < 2 → (∀ u, Run (gT G) eX11_swapTurns 0 0 (fun _ _ => none) Q X kX11_swapTurns 58 [.val (.ref m), .val (.int a), .val (.int b), .val (.int (nI (k + 1))), u] [] (sI (rmR M m) (m + 2) (swA i j k D)) 0 0) → Run (gT G) eX11_swapTurns 0 0 (fun _ _ => none) Q X kX11_swapTurns 58 [.val (.ref m), .val (.int a), .val (.int b), .val (.int (nI k)), u] [] (sI (rmR M m) (m + 2) D) 0 0 := by
        intro Q X k D u hk hc
        have a1 : ((2 : Int32) ≤ nI k) = False := eq_false (fun q => absurd ((nI_leI (a := 2) (by decide) (by omega)).mp q) (by omega))
        have y1 : vp_in (nI (353 + 2 * i + k)) 1793 = True := eq_true (vp_in_nI (by omega) (by decide))
        have y2 : (nI (353 + 2 * i + k)).toNatClampNeg = 353 + 2 * i + k := nI_clamp (by omega)
        have y3 : vp_in (nI (353 + 2 * j + k)) 1793 = True := eq_true (vp_in_nI (by omega) (by decide))
        have y4 : (nI (353 + 2 * j + k)).toNatClampNeg = 353 + 2 * j + k := nI_clamp (by omega)
        have hc2 := hc
        rw [ei, ej] at hc2 ⊢
        rw [rX11_swapTurns_58]
        simp only [kX11_swapTurns_58, rX11_swapTurns_129, kX11_swapTurns_129, eX11_swapTurns, S129, S139, S165, S180, bk_c, if_true, if_false, wi_e, wl_e, wr_e, w1_i, w1_r, ldS_0, ldS_s, vi_e, vl_e, vr_e, dpL_u, dpL_i, dpL_r, dpL_l, stS_0, stS_1, stS_s, stL_0, stL_1, stL_s, bin_0, bin_1, bin_2, bin_3, bin_4, bin_5, bdv_0, bdv_1, lbin_0, lbin_1, lbin_2, cnd_0, cnd_1, cnd_2, cnd_3, cnd_4, cnd_5, aty_0, aty_1, aty_2, aty_3, aty_4, aty_5, c8_u, cn_0, cn_i, cn_r, cn_l, Nat.reduceAdd, Nat.reduceLeDiff, Nat.le_refl, adz, hnd_0, rcv_0, rcv_1, kLen_a, kLen_r, inB_e, inR_e, cpOK_e, swt_n, swt_c, List.take_succ_cons, List.take_zero, List.drop_succ_cons, List.drop_zero, List.reverse_cons, List.reverse_nil, List.nil_append, List.cons_append, List.length_cons, List.length_nil, Option.toList_some, Option.toList_none, det_e, det_x, tr_imp, fa_imp, implies_true, not_true, not_false_eq_true, and_true, true_and, nar_i, upd_s, st1_0, st1_1, st1_2, st1_3, st1_4, st1_5, st1_6, st1_7, st1_8, st1_9, st1_10, st1_11, st1_12, st1_13, st1_14, st1_15, st1_16, st1_17, st1_18, st1_19, st1_20, st1_21, st1_22, st1_23, st1_24, st1_25, st1_26, st1_27, st1_28, st1_29, st1_30, st1_31, st1_32, st1_33, st1_34, st1_35, st1_36, st1_37, st1_42, st1_43, st1_44, st1_46, st1_47, st1_48, st1_49, st1_50, st1_51, st1_52, st1_53, st1_54, st1_55, st1_56, st1_57, st1_58, st1_59, st1_60, gK_sI, gP_sI, gI_s, sI_sI, hL.f, t35, nI_add, nI_1, a1, y1, y2, y3, y4, Nat.succ_ne_zero, ne_eq]
        exact hc2 _
      simp only [rX11_swapTurns_0, kX11_swapTurns_0, rX11_swapTurns_38, kX11_swapTurns_38, rX11_swapTurns_42, kX11_swapTurns_42, rX11_swapTurns_43, kX11_swapTurns_43, rX11_swapTurns_52, kX11_swapTurns_52, rX11_swapTurns_129, kX11_swapTurns_129, eX11_swapTurns, S129, S139, S165, S180, bk_c, if_true, if_false, wi_e, wl_e, wr_e, w1_i, w1_r, ldS_0, ldS_s, vi_e, vl_e, vr_e, dpL_u, dpL_i, dpL_r, dpL_l, stS_0, stS_1, stS_s, stL_0, stL_1, stL_s, bin_0, bin_1, bin_2, bin_3, bin_4, bin_5, bdv_0, bdv_1, lbin_0, lbin_1, lbin_2, cnd_0, cnd_1, cnd_2, cnd_3, cnd_4, cnd_5, aty_0, aty_1, aty_2, aty_3, aty_4, aty_5, c8_u, cn_0, cn_i, cn_r, cn_l, Nat.reduceAdd, Nat.reduceLeDiff, Nat.le_refl, adz, hnd_0, rcv_0, rcv_1, kLen_a, kLen_r, inB_e, inR_e, cpOK_e, swt_n, swt_c, List.take_succ_cons, List.take_zero, List.drop_succ_cons, List.drop_zero, List.reverse_cons, List.reverse_nil, List.nil_append, List.cons_append, List.length_cons, List.length_nil, Option.toList_some, Option.toList_none, det_e, det_x, tr_imp, fa_imp, implies_true, not_true, not_false_eq_true, and_true, true_and, nar_i, upd_s, st1_0, st1_1, st1_2, st1_3, st1_4, st1_5, st1_6, st1_7, st1_8, st1_9, st1_10, st1_11, st1_12, st1_13, st1_14, st1_15, st1_16, st1_17, st1_18, st1_19, st1_20, st1_21, st1_22, st1_23, st1_24, st1_25, st1_26, st1_27, st1_28, st1_29, st1_30, st1_31, st1_32, st1_33, st1_34, st1_35, st1_36, st1_37, st1_42, st1_43, st1_44, st1_46, st1_47, st1_48, st1_49, st1_50, st1_51, st1_52, st1_53, st1_54, st1_55, st1_56, st1_57, st1_58, st1_59, st1_60, Nat.reduceEqDiff, reduceIte, sV, tS_e, tS_0, tS_t, tS_K, tS_P, t_2, hp.f, hp.t, xL0, xL1, g2, g4, b9_0, b9F, b9T, fsK_0, hu0, fR, Nat.succ_ne_zero, ne_eq]
      have hR0 : rmR M m = sI (rmR M m) (m + 2) (gI M (m + 2)) := by rw [← e2, sI_id]
      rw [hR0]
      refine step _ _ 0 _ _ (by decide) fun u => ?_
      refine step _ _ 1 _ u (by decide) fun u => ?_
      have a1 : ((2 : Int32) ≤ nI (1 + 1)) = True := eq_true (by decide)
      have hs : swA i j 1 (swA i j 0 (gI M (m + 2))) = swD (gI M (m + 2)) a.toNatClampNeg b.toNatClampNeg := by
        unfold swD
        rw [ei, ej, ci, cj]
      rw [hs]
      rw [rX11_swapTurns_58]
      simp only [kX11_swapTurns_58, rX11_swapTurns_129, kX11_swapTurns_129, eX11_swapTurns, S129, S139, S165, S180, bk_c, if_true, if_false, wi_e, wl_e, wr_e, w1_i, w1_r, ldS_0, ldS_s, vi_e, vl_e, vr_e, dpL_u, dpL_i, dpL_r, dpL_l, stS_0, stS_1, stS_s, stL_0, stL_1, stL_s, bin_0, bin_1, bin_2, bin_3, bin_4, bin_5, bdv_0, bdv_1, lbin_0, lbin_1, lbin_2, cnd_0, cnd_1, cnd_2, cnd_3, cnd_4, cnd_5, aty_0, aty_1, aty_2, aty_3, aty_4, aty_5, c8_u, cn_0, cn_i, cn_r, cn_l, Nat.reduceAdd, Nat.reduceLeDiff, Nat.le_refl, adz, hnd_0, rcv_0, rcv_1, kLen_a, kLen_r, inB_e, inR_e, cpOK_e, swt_n, swt_c, List.take_succ_cons, List.take_zero, List.drop_succ_cons, List.drop_zero, List.reverse_cons, List.reverse_nil, List.nil_append, List.cons_append, List.length_cons, List.length_nil, Option.toList_some, Option.toList_none, det_e, det_x, tr_imp, fa_imp, implies_true, not_true, not_false_eq_true, and_true, true_and, nar_i, upd_s, st1_0, st1_1, st1_2, st1_3, st1_4, st1_5, st1_6, st1_7, st1_8, st1_9, st1_10, st1_11, st1_12, st1_13, st1_14, st1_15, st1_16, st1_17, st1_18, st1_19, st1_20, st1_21, st1_22, st1_23, st1_24, st1_25, st1_26, st1_27, st1_28, st1_29, st1_30, st1_31, st1_32, st1_33, st1_34, st1_35, st1_36, st1_37, st1_42, st1_43, st1_44, st1_46, st1_47, st1_48, st1_49, st1_50, st1_51, st1_52, st1_53, st1_54, st1_55, st1_56, st1_57, st1_58, st1_59, st1_60, Nat.reduceEqDiff, reduceIte, sV, gK_sI, gP_sI, gI_s, sI_sI, hL.f, a1, xL0, xL1, hT, Nat.succ_ne_zero, ne_eq]
      exact rfl
    · have hb := bad _ rfl (by rw [h3, h5, orK_0])
      rw [h3, h5, orK_0, if_neg (by decide), if_neg (by decide)]
      exact hb
  · have hb := bad _ rfl (by rw [h3, orK_1])
    rw [h3, orK_1, if_neg (by decide), if_neg (by decide)]
    exact hb
theorem am3 (m : Nat) : ¬ m = m + 2 := by omega
/-! == undo == -/
def unU (M : Mm) (m : Nat) : Nat := (gI M m 12 - 1).toNatClampNeg
def unM (M : Mm) (m : Nat) : Mm := sI (sI (tS M m 0) m (upd (gI (tS M m 0) m) 12 (gI M m 12 - 1))) (m + 2) (cpy 1793 (gI M (m + 6 + unU M m)) (gI M (m + 2)))
def S182 : Sem := fun as M => match as with
  | [.ref m] => sV (LM M m ∧ cnt (gI M m 12) 8) (some (.int (if gI M m 12 = 0 then -1 else gI M m 12 - 1))) (if gI M m 12 = 0 then tS M m 0 else unM M m)
  | _ => sF
set_option maxRecDepth 100000 in
set_option maxHeartbeats 4000000 in
theorem s_X11_undo {l : Launch} {G : Gt} (hfl : l.stackTraces = false) : SatM l G 182 S182 := by
  refine t_X11_undo (E := fun _ => S117) hfl (s_X11_copy hfl) fun as M hp => ?_
  unfold S182 at hp ⊢
  split at hp
  case h_2 => exact hp.elim
  rename_i m
  obtain ⟨hp, n, hn, en⟩ := hp
  refine ⟨Nat.le_of_ble_eq_true rfl, ?_⟩
  show Run (gT G) _ _ _ _ _ _ _ 0 [.val (.ref m)] [] M 0 0
  rcases Nat.eq_zero_or_pos n with e | e
  · subst e
    have e0 : gI M m 12 = 0 := en
    rw [if_pos e0, if_pos e0]
    simp only [rX11_undo_0, kX11_undo_0, rX11_undo_14, kX11_undo_14, S117, Nat.reduceEqDiff, reduceIte, bk_c, if_true, if_false, wi_e, wl_e, wr_e, w1_i, w1_r, ldS_0, ldS_s, vi_e, vl_e, vr_e, dpL_u, dpL_i, dpL_r, dpL_l, stS_0, stS_1, stS_s, stL_0, stL_1, stL_s, bin_0, bin_1, bin_2, bin_3, bin_4, bin_5, bdv_0, bdv_1, lbin_0, lbin_1, lbin_2, cnd_0, cnd_1, cnd_2, cnd_3, cnd_4, cnd_5, aty_0, aty_1, aty_2, aty_3, aty_4, aty_5, c8_u, cn_0, cn_i, cn_r, cn_l, Nat.reduceAdd, Nat.reduceLeDiff, Nat.le_refl, adz, hnd_0, rcv_0, rcv_1, kLen_a, kLen_r, inB_e, inR_e, cpOK_e, swt_n, swt_c, List.take_succ_cons, List.take_zero, List.drop_succ_cons, List.drop_zero, List.reverse_cons, List.reverse_nil, List.nil_append, List.cons_append, List.length_cons, List.length_nil, Option.toList_some, Option.toList_none, det_e, det_x, tr_imp, fa_imp, implies_true, not_true, not_false_eq_true, and_true, true_and, nar_i, upd_s, st1_0, st1_1, st1_2, st1_3, st1_4, st1_5, st1_6, st1_7, st1_8, st1_9, st1_10, st1_11, st1_12, st1_13, st1_14, st1_15, st1_16, st1_17, st1_18, st1_19, st1_20, st1_21, st1_22, st1_23, st1_24, st1_25, st1_26, st1_27, st1_28, st1_29, st1_30, st1_31, st1_32, st1_33, st1_34, st1_35, st1_36, st1_37, st1_42, st1_43, st1_44, st1_46, st1_47, st1_48, st1_49, st1_50, st1_51, st1_52, st1_53, st1_54, st1_55, st1_56, st1_57, st1_58, st1_59, st1_60, tS_e, tS_K, tS_P, tS_n M m 0 (show 12 ≠ 0 by decide), hp.f, e0, Nat.succ_ne_zero, ne_eq]
  · obtain ⟨w, rfl⟩ : ∃ w, n = w + 1 := ⟨n - 1, by omega⟩
    have e0 : ¬ gI M m 12 = 0 := by rw [en]; exact nI_ne0 (by omega) (by omega)
    obtain ⟨g1, g2⟩ := hp.2.2.2 w (by omega)
    have cw : (nI w).toNatClampNeg = w := nI_clamp (by omega)
    have w8 : vp_in (nI w) 8 = True := eq_true (vp_in_nI (by omega) (by decide))
    have nz : (nI (w + 1) = 0) = False := eq_false (nI_ne0 (by omega) (by omega))
    have f1 : gI (sI (tS M m 0) m (upd (gI (tS M m 0) m) 12 (nI w))) (m + 2) = gI M (m + 2) := by rw [gI_f _ _ (by omega), t_2]
    have f2 : gI (sI (tS M m 0) m (upd (gI (tS M m 0) m) 12 (nI w))) (m + 6 + w) = gI M (m + 6 + w) := by rw [gI_f _ _ (by omega), tS_f _ _ (by omega)]
    have hne : ¬ m = m + 2 := am3 m
    rw [if_neg e0, if_neg e0]
    unfold unM unU
    simp only [rX11_undo_0, kX11_undo_0, rX11_undo_14, kX11_undo_14, S117, Nat.reduceEqDiff, reduceIte, bk_c, if_true, if_false, wi_e, wl_e, wr_e, w1_i, w1_r, ldS_0, ldS_s, vi_e, vl_e, vr_e, dpL_u, dpL_i, dpL_r, dpL_l, stS_0, stS_1, stS_s, stL_0, stL_1, stL_s, bin_0, bin_1, bin_2, bin_3, bin_4, bin_5, bdv_0, bdv_1, lbin_0, lbin_1, lbin_2, cnd_0, cnd_1, cnd_2, cnd_3, cnd_4, cnd_5, aty_0, aty_1, aty_2, aty_3, aty_4, aty_5, c8_u, cn_0, cn_i, cn_r, cn_l, Nat.reduceAdd, Nat.reduceLeDiff, Nat.le_refl, adz, hnd_0, rcv_0, rcv_1, kLen_a, kLen_r, inB_e, inR_e, cpOK_e, swt_n, swt_c, List.take_succ_cons, List.take_zero, List.drop_succ_cons, List.drop_zero, List.reverse_cons, List.reverse_nil, List.nil_append, List.cons_append, List.length_cons, List.length_nil, Option.toList_some, Option.toList_none, det_e, det_x, tr_imp, fa_imp, implies_true, not_true, not_false_eq_true, and_true, true_and, nar_i, upd_s, st1_0, st1_1, st1_2, st1_3, st1_4, st1_5, st1_6, st1_7, st1_8, st1_9, st1_10, st1_11, st1_12, st1_13, st1_14, st1_15, st1_16, st1_17, st1_18, st1_19, st1_20, st1_21, st1_22, st1_23, st1_24, st1_25, st1_26, st1_27, st1_28, st1_29, st1_30, st1_31, st1_32, st1_33, st1_34, st1_35, st1_36, st1_37, st1_42, st1_43, st1_44, st1_46, st1_47, st1_48, st1_49, st1_50, st1_51, st1_52, st1_53, st1_54, st1_55, st1_56, st1_57, st1_58, st1_59, st1_60, sV, gK_sI, gP_sI, gI_s, upd_s, tS_e, tS_K, tS_P, tS_n M m 0 (show 12 ≠ 0 by decide), hp.f, en, nz, nI_pred, g1, g2, r6, cw, w8, f1, f2, gI_f _ _ hne, Nat.succ_ne_zero, ne_eq]
/-! == append == -/
def apB (w : Int32) (k : Nat) : Int32 := w >>> (nI (24 - 8 * (k % 4)) &&& 31) &&& 255
def apW (a b c d e : Int32) (k : Nat) : Int32 := if k < 4 then a else if k < 8 then b else if k < 12 then c else if k < 16 then d else e
def apG (a b c d e : Int32) (f : Nat) (k : Nat) (B : Nat → Int32) : Nat → Int32 := upd B (f + k) (apB (apW a b c d e k) k)
def amM (M : Mm) (m : Nat) (a b c d e : Int32) : Mm := if gI M m 2 + 20 ≤ 900 then sI (sI (tS M m 0) (m + 1) (itr (apG a b c d e (gI M m 2).toNatClampNeg) 20 0 (gI M (m + 1)))) m (upd (gI (tS M m 0) m) 2 (gI M m 2 + 20)) else tS M m 0
def S109 : Sem := fun as M => match as with
  | [.ref m, .int a, .int b, .int c, .int d, .int e] => sV (LM M m ∧ cnt (gI M m 2) 900) (some (.int (if gI M m 2 + 20 ≤ 900 then gI M m 2 + 20 else -1))) (amM M m a b c d e)
  | _ => sF
theorem am1 (m : Nat) : ¬ m + 1 = m := by omega
theorem am2 (m : Nat) : ¬ m = m + 1 := by omega
set_option maxRecDepth 100000 in
set_option maxHeartbeats 4000000 in
theorem s_X11_append {l : Launch} {G : Gt} (hfl : l.stackTraces = false) : SatM l G 109 S109 := by
  refine t_X11_append (E := fun _ => S0) hfl  fun as M hp => ?_
  unfold S109 at hp ⊢
  split at hp
  case h_2 => exact hp.elim
  rename_i m a b c d e
  obtain ⟨hp, f, hf, ef⟩ := hp
  refine ⟨Nat.le_of_ble_eq_true rfl, ?_⟩
  show Run (gT G) _ _ _ _ _ _ _ 0 [.val (.ref m), .val (.int a), .val (.int b), .val (.int c), .val (.int d), .val (.int e), .unset, .unset] [] M 0 0
  have n4 : ¬ (4 : Int32) = 0 := by decide
  by_cases h : gI M m 2 + 20 ≤ 900
  · have hg := h
    rw [ef, show (20 : Int32) = nI 20 from rfl, nI_add] at hg
    have hf2 : f + 20 ≤ 900 := (nI_leI (a := f + 20) (b := 900) (by omega) (by decide)).mp hg
    have hT : (gI M m 2 + 20 ≤ 900) = True := eq_true h
    have key : ∀ r k (B : Nat → Int32) (u : Slot), k + r = 20 → itr (apG a b c d e f) r k B = itr (apG a b c d e f) 20 0 (gI M (m + 1)) → Run (gT G) (fun _ => S0) 0 0 (fun _ _ => none) (fun v' M' => v' = some (.int (gI M m 2 + 20)) ∧ M' = amM M m a b c d e) (fun _ _ => False) kX11_append 23 [.val (.ref m), .val (.int a), .val (.int b), .val (.int c), .val (.int d), .val (.int e), .val (.int (nI k)), u] [] (sI (sI (tS M m 0) (m + 1) B) m (upd (gI (tS M m 0) m) 2 (nI (f + k)))) 0 0 := by
      intro r
      induction r with
      | zero =>
        intro k B u hk hB
        have hk2 : k = 20 := hk
        subst hk2
        have a1 : ((20 : Int32) ≤ nI 20) = True := lp_out 20
        have hB2 : B = itr (apG a b c d e f) 20 0 (gI M (m + 1)) := hB
        rw [rX11_append_23]
        simp only [kX11_append_23, rX11_append_0, kX11_append_0, rX11_append_20, kX11_append_20, rX11_append_40, kX11_append_40, rX11_append_51, kX11_append_51, rX11_append_62, kX11_append_62, rX11_append_74, kX11_append_74, rX11_append_76, kX11_append_76, rX11_append_120, kX11_append_120, bk_c, if_true, if_false, wi_e, wl_e, wr_e, w1_i, w1_r, ldS_0, ldS_s, vi_e, vl_e, vr_e, dpL_u, dpL_i, dpL_r, dpL_l, stS_0, stS_1, stS_s, stL_0, stL_1, stL_s, bin_0, bin_1, bin_2, bin_3, bin_4, bin_5, bdv_0, bdv_1, lbin_0, lbin_1, lbin_2, cnd_0, cnd_1, cnd_2, cnd_3, cnd_4, cnd_5, aty_0, aty_1, aty_2, aty_3, aty_4, aty_5, c8_u, cn_0, cn_i, cn_r, cn_l, Nat.reduceAdd, Nat.reduceLeDiff, Nat.le_refl, adz, hnd_0, rcv_0, rcv_1, kLen_a, kLen_r, inB_e, inR_e, cpOK_e, swt_n, swt_c, List.take_succ_cons, List.take_zero, List.drop_succ_cons, List.drop_zero, List.reverse_cons, List.reverse_nil, List.nil_append, List.cons_append, List.length_cons, List.length_nil, Option.toList_some, Option.toList_none, det_e, det_x, tr_imp, fa_imp, implies_true, not_true, not_false_eq_true, and_true, true_and, nar_i, upd_s, st1_0, st1_1, st1_2, st1_3, st1_4, st1_5, st1_6, st1_7, st1_8, st1_9, st1_10, st1_11, st1_12, st1_13, st1_14, st1_15, st1_16, st1_17, st1_18, st1_19, st1_20, st1_21, st1_22, st1_23, st1_24, st1_25, st1_26, st1_27, st1_28, st1_29, st1_30, st1_31, st1_32, st1_33, st1_34, st1_35, st1_36, st1_37, st1_42, st1_43, st1_44, st1_46, st1_47, st1_48, st1_49, st1_50, st1_51, st1_52, st1_53, st1_54, st1_55, st1_56, st1_57, st1_58, st1_59, st1_60, gK_sI, gP_sI, gI_s, upd_s, tS_K, tS_P, hp.f, a1]
        unfold amM
        rw [if_pos h, ef, nI_clamp (by omega), hB2, show (20 : Int32) = nI 20 from rfl, nI_add]
        exact ⟨rfl, rfl⟩
      | succ r ih =>
        intro k B u hk hB
        have a1 : ((20 : Int32) ≤ nI k) = False := eq_false (fun q => absurd ((nI_leI (a := 20) (by decide) (by omega)).mp q) (by omega))
        have hB2 : itr (apG a b c d e f) r (k + 1) (apG a b c d e f k B) = itr (apG a b c d e f) 20 0 (gI M (m + 1)) := hB
        have w1 : vp_in (nI (f + k)) 900 = True := eq_true (vp_in_nI (by omega) (by decide))
        have w2 : (nI (f + k)).toNatClampNeg = f + k := nI_clamp (by omega)
        have hr4 : nI k - nI k / 4 * 4 = nI (k % 4) := pk_rem (d := 4) (by omega) (by decide) (by decide)
        have hm4 := Nat.mod_lt k (show 4 > 0 by decide)
        have hs : (24 : Int32) - 8 * nI (k % 4) = nI (24 - 8 * (k % 4)) := by
          rw [show (24 : Int32) = nI 24 from rfl, show (8 : Int32) = nI 8 from rfl, pk_mul, pk_sub (by omega)]
        have hcm : ∀ B g B', sI (sI (sI (tS M m 0) (m + 1) B) m g) (m + 1) B' = sI (sI (tS M m 0) (m + 1) B') m g := fun B g B' => by rw [sI_cm _ _ _ (am2 m), sI_sI]
        have hI1 : ∀ B g, gI (sI (sI (tS M m 0) (m + 1) B) m g) (m + 1) = B := fun B g => by rw [gI_f _ _ (am1 m), gI_s]
        have nx : ∀ w, apW a b c d e k = w → Run (gT G) (fun _ => S0) 0 0 (fun _ _ => none) (fun v' M' => v' = some (.int (gI M m 2 + 20)) ∧ M' = amM M m a b c d e) (fun _ _ => False) kX11_append 23 [.val (.ref m), .val (.int a), .val (.int b), .val (.int c), .val (.int d), .val (.int e), .val (.int (nI (k + 1))), .val (.int w)] [] (sI (sI (tS M m 0) (m + 1) (upd B (f + k) (w >>> (nI (24 - 8 * (k % 4)) &&& 31) &&& 255))) m (upd (gI (tS M m 0) m) 2 (nI (f + k + 1)))) 0 0 := by
          intro w hw
          subst hw
          exact ih (k + 1) _ _ (by omega) hB2
        rw [rX11_append_23]
        simp only [kX11_append_23, rX11_append_0, kX11_append_0, rX11_append_20, kX11_append_20, rX11_append_40, kX11_append_40, rX11_append_51, kX11_append_51, rX11_append_62, kX11_append_62, rX11_append_74, kX11_append_74, rX11_append_76, kX11_append_76, rX11_append_120, kX11_append_120, bk_c, if_true, if_false, wi_e, wl_e, wr_e, w1_i, w1_r, ldS_0, ldS_s, vi_e, vl_e, vr_e, dpL_u, dpL_i, dpL_r, dpL_l, stS_0, stS_1, stS_s, stL_0, stL_1, stL_s, bin_0, bin_1, bin_2, bin_3, bin_4, bin_5, bdv_0, bdv_1, lbin_0, lbin_1, lbin_2, cnd_0, cnd_1, cnd_2, cnd_3, cnd_4, cnd_5, aty_0, aty_1, aty_2, aty_3, aty_4, aty_5, c8_u, cn_0, cn_i, cn_r, cn_l, Nat.reduceAdd, Nat.reduceLeDiff, Nat.le_refl, adz, hnd_0, rcv_0, rcv_1, kLen_a, kLen_r, inB_e, inR_e, cpOK_e, swt_n, swt_c, List.take_succ_cons, List.take_zero, List.drop_succ_cons, List.drop_zero, List.reverse_cons, List.reverse_nil, List.nil_append, List.cons_append, List.length_cons, List.length_nil, Option.toList_some, Option.toList_none, det_e, det_x, tr_imp, fa_imp, implies_true, not_true, not_false_eq_true, and_true, true_and, nar_i, upd_s, st1_0, st1_1, st1_2, st1_3, st1_4, st1_5, st1_6, st1_7, st1_8, st1_9, st1_10, st1_11, st1_12, st1_13, st1_14, st1_15, st1_16, st1_17, st1_18, st1_19, st1_20, st1_21, st1_22, st1_23, st1_24, st1_25, st1_26, st1_27, st1_28, st1_29, st1_30, st1_31, st1_32, st1_33, st1_34, st1_35, st1_36, st1_37, st1_42, st1_43, st1_44, st1_46, st1_47, st1_48, st1_49, st1_50, st1_51, st1_52, st1_53, st1_54, st1_55, st1_56, st1_57, st1_58, st1_59, st1_60, gK_sI, gP_sI, gI_s, upd_s, upd_upd, sI_sI, hcm, hI1, tS_K, tS_P, hp.f, a1, n4, hr4, hs, w1, w2, nI_1, Nat.succ_ne_zero, ne_eq]
        have k4 : ∀ j, j < 30 → ((nI j ≤ nI k) = (j ≤ k)) := fun j hj => propext (nI_leI (by omega) (by omega))
        refine ⟨fun g => ⟨fun g2 => ⟨fun g3 => ⟨fun g4 => nx _ ?_, fun g4 => nx _ ?_⟩, fun g3 => nx _ ?_⟩, fun g2 => nx _ ?_⟩, fun g => nx _ ?_⟩
        · have e1 := (nI_leI (a := 4) (by decide) (by omega)).mp g
          have e2 := (nI_leI (a := 8) (by decide) (by omega)).mp g2
          have e3 := (nI_leI (a := 12) (by decide) (by omega)).mp g3
          have e4 := (nI_leI (a := 16) (by decide) (by omega)).mp g4
          unfold apW
          rw [if_neg (by omega), if_neg (by omega), if_neg (by omega), if_neg (by omega)]
        · have e1 := (nI_leI (a := 4) (by decide) (by omega)).mp g
          have e2 := (nI_leI (a := 8) (by decide) (by omega)).mp g2
          have e3 := (nI_leI (a := 12) (by decide) (by omega)).mp g3
          have e4 : ¬ 16 ≤ k := fun q => g4 ((nI_leI (a := 16) (by decide) (by omega)).mpr q)
          unfold apW
          rw [if_neg (by omega), if_neg (by omega), if_neg (by omega), if_pos (by omega)]
        · have e1 := (nI_leI (a := 4) (by decide) (by omega)).mp g
          have e2 := (nI_leI (a := 8) (by decide) (by omega)).mp g2
          have e3 : ¬ 12 ≤ k := fun q => g3 ((nI_leI (a := 12) (by decide) (by omega)).mpr q)
          unfold apW
          rw [if_neg (by omega), if_neg (by omega), if_pos (by omega)]
        · have e1 := (nI_leI (a := 4) (by decide) (by omega)).mp g
          have e2 : ¬ 8 ≤ k := fun q => g2 ((nI_leI (a := 8) (by decide) (by omega)).mpr q)
          unfold apW
          rw [if_neg (by omega), if_pos (by omega)]
        · have e1 : ¬ 4 ≤ k := fun q => g ((nI_leI (a := 4) (by decide) (by omega)).mpr q)
          unfold apW
          rw [if_pos (by omega)]
    rw [if_pos h]
    simp only [rX11_append_0, kX11_append_0, rX11_append_20, kX11_append_20, rX11_append_40, kX11_append_40, rX11_append_51, kX11_append_51, rX11_append_62, kX11_append_62, rX11_append_74, kX11_append_74, rX11_append_76, kX11_append_76, rX11_append_120, kX11_append_120, bk_c, if_true, if_false, wi_e, wl_e, wr_e, w1_i, w1_r, ldS_0, ldS_s, vi_e, vl_e, vr_e, dpL_u, dpL_i, dpL_r, dpL_l, stS_0, stS_1, stS_s, stL_0, stL_1, stL_s, bin_0, bin_1, bin_2, bin_3, bin_4, bin_5, bdv_0, bdv_1, lbin_0, lbin_1, lbin_2, cnd_0, cnd_1, cnd_2, cnd_3, cnd_4, cnd_5, aty_0, aty_1, aty_2, aty_3, aty_4, aty_5, c8_u, cn_0, cn_i, cn_r, cn_l, Nat.reduceAdd, Nat.reduceLeDiff, Nat.le_refl, adz, hnd_0, rcv_0, rcv_1, kLen_a, kLen_r, inB_e, inR_e, cpOK_e, swt_n, swt_c, List.take_succ_cons, List.take_zero, List.drop_succ_cons, List.drop_zero, List.reverse_cons, List.reverse_nil, List.nil_append, List.cons_append, List.length_cons, List.length_nil, Option.toList_some, Option.toList_none, det_e, det_x, tr_imp, fa_imp, implies_true, not_true, not_false_eq_true, and_true, true_and, nar_i, upd_s, st1_0, st1_1, st1_2, st1_3, st1_4, st1_5, st1_6, st1_7, st1_8, st1_9, st1_10, st1_11, st1_12, st1_13, st1_14, st1_15, st1_16, st1_17, st1_18, st1_19, st1_20, st1_21, st1_22, st1_23, st1_24, st1_25, st1_26, st1_27, st1_28, st1_29, st1_30, st1_31, st1_32, st1_33, st1_34, st1_35, st1_36, st1_37, st1_42, st1_43, st1_44, st1_46, st1_47, st1_48, st1_49, st1_50, st1_51, st1_52, st1_53, st1_54, st1_55, st1_56, st1_57, st1_58, st1_59, st1_60, tS_e, tS_K, tS_P, tS_n M m 0 (show 2 ≠ 0 by decide), hp.f, hT]
    have h0 := key 20 0 (gI M (m + 1)) .unset rfl rfl
    have e0 : sI (sI (tS M m 0) (m + 1) (gI M (m + 1))) m (upd (gI (tS M m 0) m) 2 (nI (f + 0))) = tS M m 0 := by
      rw [← t_1 M m 0, sI_id, Nat.add_zero, ← ef, ← tS_n M m 0 (show 2 ≠ 0 by decide), upd_id, sI_id]
    rw [e0] at h0
    exact h0
  · have hF : (gI M m 2 + 20 ≤ 900) = False := eq_false h
    rw [if_neg h]
    simp only [rX11_append_0, kX11_append_0, rX11_append_20, kX11_append_20, rX11_append_40, kX11_append_40, rX11_append_51, kX11_append_51, rX11_append_62, kX11_append_62, rX11_append_74, kX11_append_74, rX11_append_76, kX11_append_76, rX11_append_120, kX11_append_120, bk_c, if_true, if_false, wi_e, wl_e, wr_e, w1_i, w1_r, ldS_0, ldS_s, vi_e, vl_e, vr_e, dpL_u, dpL_i, dpL_r, dpL_l, stS_0, stS_1, stS_s, stL_0, stL_1, stL_s, bin_0, bin_1, bin_2, bin_3, bin_4, bin_5, bdv_0, bdv_1, lbin_0, lbin_1, lbin_2, cnd_0, cnd_1, cnd_2, cnd_3, cnd_4, cnd_5, aty_0, aty_1, aty_2, aty_3, aty_4, aty_5, c8_u, cn_0, cn_i, cn_r, cn_l, Nat.reduceAdd, Nat.reduceLeDiff, Nat.le_refl, adz, hnd_0, rcv_0, rcv_1, kLen_a, kLen_r, inB_e, inR_e, cpOK_e, swt_n, swt_c, List.take_succ_cons, List.take_zero, List.drop_succ_cons, List.drop_zero, List.reverse_cons, List.reverse_nil, List.nil_append, List.cons_append, List.length_cons, List.length_nil, Option.toList_some, Option.toList_none, det_e, det_x, tr_imp, fa_imp, implies_true, not_true, not_false_eq_true, and_true, true_and, nar_i, upd_s, st1_0, st1_1, st1_2, st1_3, st1_4, st1_5, st1_6, st1_7, st1_8, st1_9, st1_10, st1_11, st1_12, st1_13, st1_14, st1_15, st1_16, st1_17, st1_18, st1_19, st1_20, st1_21, st1_22, st1_23, st1_24, st1_25, st1_26, st1_27, st1_28, st1_29, st1_30, st1_31, st1_32, st1_33, st1_34, st1_35, st1_36, st1_37, st1_42, st1_43, st1_44, st1_46, st1_47, st1_48, st1_49, st1_50, st1_51, st1_52, st1_53, st1_54, st1_55, st1_56, st1_57, st1_58, st1_59, st1_60, tS_e, tS_K, tS_P, tS_n M m 0 (show 2 ≠ 0 by decide), hp.f, hF]
    unfold amM
    rw [if_neg h]
