/-! ===== IrrigationTurnsModel: expect, number, emit ===== -/
theorem nx_e {M : Mm} {m : Nat} : gI (nxN M m) m 4 = nI (nxp M m) ∧ gI (nxN M m) (m + 1) = gI M (m + 1) ∧ gI (nxN M m) (m + 3) = gI M (m + 3) ∧ gK (nxN M m) = gK M ∧ gP (nxN M m) = gP M := ⟨ps_4 _ _ _, ps_1 _ _ _, ps_3 _ _ _, rfl, rfl⟩
theorem LM.nx {M : Mm} {m : Nat} (g : LM M m) : LM (nxN M m) m := g.kp rfl rfl
def xpN (M : Mm) (m : Nat) (c : Int32) : Mm := if ¬ gI M m 5 = 0 then M else if nxc M m = c then psM M m (nxp M m + 1) else reN (nxN M m) m (-2) (nI (nxp M m))
def S126 : Sem := fun as M => match as with
  | [.ref m, .int c] => sV (LM M m ∧ PJ M m) none (xpN M m c)
  | _ => sF
def eX11_expect : Nat → Sem := fun id => if id = 146 then S146 else if id = 151 then S151 else S166
set_option maxRecDepth 100000 in
set_option maxHeartbeats 4000000 in
theorem s_X11_expect {l : Launch} {G : Gt} (hfl : l.stackTraces = false) : SatM l G 126 S126 := by
  refine t_X11_expect (E := eX11_expect) hfl (s_X11_isGood hfl) (s_X11_next hfl) (s_X11_report hfl) fun as M hp => ?_
  unfold S126 at hp ⊢
  split at hp
  case h_2 => exact hp.elim
  rename_i m c
  obtain ⟨hp, hJ⟩ := hp
  refine ⟨Nat.le_of_ble_eq_true rfl, ?_⟩
  show Run (gT G) _ _ _ _ _ _ _ 0 [.val (.ref m), .val (.int c)] [] M 0 0
  unfold xpN
  by_cases he : gI M m 5 = 0
  · have he1 : (gI M m 5 = 0) = True := eq_true he
    rw [if_neg (fun z => z he)]
    have f1 : sI (nxN M m) m (upd (gI (nxN M m) m) 4 (nI (nxp M m + 1))) = psM M m (nxp M m + 1) := ps_ps M m _ _
    simp only [rX11_expect_0, kX11_expect_0, rX11_expect_8, kX11_expect_8, rX11_expect_29, kX11_expect_29, rX11_expect_39, kX11_expect_39, eX11_expect, S146, S151, S166, bk_c, if_true, if_false, wi_e, wl_e, wr_e, w1_i, w1_r, ldS_0, ldS_s, vi_e, vl_e, vr_e, dpL_u, dpL_i, dpL_r, dpL_l, stS_0, stS_1, stS_s, stL_0, stL_1, stL_s, bin_0, bin_1, bin_2, bin_3, bin_4, bin_5, bdv_0, bdv_1, lbin_0, lbin_1, lbin_2, cnd_0, cnd_1, cnd_2, cnd_3, cnd_4, cnd_5, aty_0, aty_1, aty_2, aty_3, aty_4, aty_5, c8_u, cn_0, cn_i, cn_r, cn_l, Nat.reduceAdd, Nat.reduceLeDiff, Nat.le_refl, adz, hnd_0, rcv_0, rcv_1, kLen_a, kLen_r, inB_e, inR_e, cpOK_e, swt_n, swt_c, List.take_succ_cons, List.take_zero, List.drop_succ_cons, List.drop_zero, List.reverse_cons, List.reverse_nil, List.nil_append, List.cons_append, List.length_cons, List.length_nil, Option.toList_some, Option.toList_none, det_e, det_x, tr_imp, fa_imp, implies_true, not_true, not_false_eq_true, and_true, true_and, nar_i, upd_s, st1_0, st1_1, st1_2, st1_3, st1_4, st1_5, st1_6, st1_7, st1_8, st1_9, st1_10, st1_11, st1_12, st1_13, st1_14, st1_15, st1_16, st1_17, st1_18, st1_19, st1_20, st1_21, st1_22, st1_23, st1_24, st1_25, st1_26, st1_27, st1_28, st1_29, st1_30, st1_31, st1_32, st1_33, st1_34, st1_35, st1_36, st1_37, st1_42, st1_43, st1_44, st1_46, st1_47, st1_48, st1_49, st1_50, st1_51, st1_52, st1_53, st1_54, st1_55, st1_56, st1_57, st1_58, st1_59, st1_60, Nat.reduceEqDiff, reduceIte, sV, hp, hp.f, hp.nx, hJ, b9_0, he1, nx_e, nI_1, f1]
    exact ⟨fun g => by rw [if_neg g], fun g => by rw [if_pos (Decidable.not_not.mp g)]⟩
  · have he1 : (gI M m 5 = 0) = False := eq_false he
    rw [if_pos he]
    simp only [rX11_expect_0, kX11_expect_0, rX11_expect_8, kX11_expect_8, rX11_expect_29, kX11_expect_29, rX11_expect_39, kX11_expect_39, eX11_expect, S146, S151, S166, bk_c, if_true, if_false, wi_e, wl_e, wr_e, w1_i, w1_r, ldS_0, ldS_s, vi_e, vl_e, vr_e, dpL_u, dpL_i, dpL_r, dpL_l, stS_0, stS_1, stS_s, stL_0, stL_1, stL_s, bin_0, bin_1, bin_2, bin_3, bin_4, bin_5, bdv_0, bdv_1, lbin_0, lbin_1, lbin_2, cnd_0, cnd_1, cnd_2, cnd_3, cnd_4, cnd_5, aty_0, aty_1, aty_2, aty_3, aty_4, aty_5, c8_u, cn_0, cn_i, cn_r, cn_l, Nat.reduceAdd, Nat.reduceLeDiff, Nat.le_refl, adz, hnd_0, rcv_0, rcv_1, kLen_a, kLen_r, inB_e, inR_e, cpOK_e, swt_n, swt_c, List.take_succ_cons, List.take_zero, List.drop_succ_cons, List.drop_zero, List.reverse_cons, List.reverse_nil, List.nil_append, List.cons_append, List.length_cons, List.length_nil, Option.toList_some, Option.toList_none, det_e, det_x, tr_imp, fa_imp, implies_true, not_true, not_false_eq_true, and_true, true_and, nar_i, upd_s, st1_0, st1_1, st1_2, st1_3, st1_4, st1_5, st1_6, st1_7, st1_8, st1_9, st1_10, st1_11, st1_12, st1_13, st1_14, st1_15, st1_16, st1_17, st1_18, st1_19, st1_20, st1_21, st1_22, st1_23, st1_24, st1_25, st1_26, st1_27, st1_28, st1_29, st1_30, st1_31, st1_32, st1_33, st1_34, st1_35, st1_36, st1_37, st1_42, st1_43, st1_44, st1_46, st1_47, st1_48, st1_49, st1_50, st1_51, st1_52, st1_53, st1_54, st1_55, st1_56, st1_57, st1_58, st1_59, st1_60, Nat.reduceEqDiff, reduceIte, sV, hp, hp.f, b9_0, he1]
/-! == a number == -/
def nmL (Y : Nat → Int32) (L : Nat) : Nat → Nat → Int32 → Int32 × Nat
  | 0, p, v => (v, p)
  | r + 1, p, v => if inI (bA Y L p) 48 57 then nmL Y L r (p + 1) (mnM 1000000 (10 * v + bA Y L p - 48)) else (v, p)
theorem nmL_b (Y : Nat → Int32) (L : Nat) : ∀ r p v, p ≤ (nmL Y L r p v).2 ∧ (nmL Y L r p v).2 ≤ p + r
  | 0, p, v => ⟨Nat.le_refl _, Nat.le_refl _⟩
  | r + 1, p, v => by
    unfold nmL
    split
    · have := nmL_b Y L r (p + 1) (mnM 1000000 (10 * v + bA Y L p - 48))
      omega
    · exact ⟨Nat.le_refl _, Nat.le_add_right _ _⟩
def nm1 (M : Mm) (m : Nat) : Mm := sI M m (upd (upd (gI M m) 4 (nI (nxp M m))) 13 (nI (nxp M m)))
def nmV (M : Mm) (m : Nat) : Int32 × Nat := nmL (gI M (m + 1)) (mTL M m) (mTL M m - nxp M m) (nxp M m) 0
def nm2 (M : Mm) (m : Nat) : Mm := psM (nm1 M m) m (nmV M m).2
def nuN (M : Mm) (m : Nat) (lo hi : Int32) : Int32 × Mm :=
  if ¬ gI M m 5 = 0 then (0, M)
  else if ¬ inI (nxc M m) 48 57 then (0, reN (nxN M m) m (-2) (nI (nxp M m)))
  else ((nmV M m).1, if inI (nmV M m).1 lo hi then nm2 M m else reN (nm2 M m) m (-3) (nI (nxp M m)))
def S155 : Sem := fun as M => match as with
  | [.ref m, .int lo, .int hi] => sV (LM M m ∧ PJ M m) (some (.int (nuN M m lo hi).1)) (nuN M m lo hi).2
  | _ => sF
theorem in_9 : inI (-1) 48 57 = False := eq_false (by decide)
def eX11_number : Nat → Sem := fun id => if id = 112 then S112 else if id = 139 then S139 else if id = 144 then S144 else if id = 146 then S146 else if id = 150 then S150 else if id = 151 then S151 else S166
set_option maxRecDepth 100000 in
set_option maxHeartbeats 4000000 in
theorem s_X11_number {l : Launch} {G : Gt} (hfl : l.stackTraces = false) : SatM l G 155 S155 := by
  refine t_X11_number (E := eX11_number) hfl (s_X11_byteAt hfl) (s_X11_in hfl) (s_X11_isDigit hfl) (s_X11_isGood hfl) (s_X11_min hfl) (s_X11_next hfl) (s_X11_report hfl) fun as M hp => ?_
  unfold S155 at hp ⊢
  split at hp
  case h_2 => exact hp.elim
  rename_i m lo hi
  obtain ⟨hp, hJ⟩ := hp
  refine ⟨Nat.le_of_ble_eq_true rfl, ?_⟩
  show Run (gT G) _ _ _ _ _ _ _ 0 [.val (.ref m), .val (.int lo), .val (.int hi), .unset] [] M 0 0
  unfold nuN
  by_cases he : gI M m 5 = 0
  · have he1 : (gI M m 5 = 0) = True := eq_true he
    rw [if_neg (fun z => z he)]
    by_cases hd : inI (nxc M m) 48 57
    · have hd1 : inI (nxc M m) 48 57 = True := eq_true hd
      rw [if_neg (fun z => z hd)]
      obtain ⟨L, p, hL, hpL, eL, ep⟩ := id hJ
      have hb := nxp_b hL hpL eL ep
      have cL : (nI L).toNatClampNeg = L := nI_clamp (by omega)
      have L1 : ∀ q, LM (psM (nm1 M m) m q) m := fun q => hp.kp rfl rfl
      have e3 : ∀ q, gI (psM (nm1 M m) m q) m 3 = nI L := fun q => by rw [ps_n _ _ _ (by decide)]; unfold nm1; rw [gI_s, upd_n _ _ (by decide), upd_n _ _ (by decide)]; exact eL
      have e13 : ∀ q, gI (psM (nm1 M m) m q) m 13 = nI (nxp M m) := fun q => by rw [ps_n _ _ _ (by decide)]; unfold nm1; rw [gI_s, upd_s]
      have e1 : ∀ q, gI (psM (nm1 M m) m q) (m + 1) = gI M (m + 1) := fun q => by rw [ps_1]; unfold nm1; exact gI_f _ _ (by omega)
      have key : ∀ r p v, p + r = L → nmL (gI M (m + 1)) L r p v = nmV M m → Run (gT G) eX11_number 0 0 (fun _ _ => none) (fun v' M' => v' = some (.int (nmV M m).1) ∧ M' = if inI (nmV M m).1 lo hi then nm2 M m else reN (nm2 M m) m (-3) (nI (nxp M m))) (fun _ _ => False) kX11_number 41 [.val (.ref m), .val (.int lo), .val (.int hi), .val (.int v)] [] (psM (nm1 M m) m p) 0 0 := by
        intro r
        have stop : ∀ p v, p ≤ L → ¬ inI (bA (gI M (m + 1)) L p) 48 57 → (v, p) = nmV M m → Run (gT G) eX11_number 0 0 (fun _ _ => none) (fun v' M' => v' = some (.int (nmV M m).1) ∧ M' = if inI (nmV M m).1 lo hi then nm2 M m else reN (nm2 M m) m (-3) (nI (nxp M m))) (fun _ _ => False) kX11_number 41 [.val (.ref m), .val (.int lo), .val (.int hi), .val (.int v)] [] (psM (nm1 M m) m p) 0 0 := by
          intro p v hpL hn hv
          have cp : (nI p).toNatClampNeg = p := nI_clamp (by omega)
          have hA := bA_p (p := p) hL (by omega)
          have hn1 : inI (bA (gI M (m + 1)) L p) 48 57 = False := eq_false hn
          have hv1 : (nmV M m).1 = v := by rw [← hv]
          have hv2 : nm2 M m = psM (nm1 M m) m p := by unfold nm2; rw [← hv]
          rw [hv1, hv2, rX11_number_41]
          simp only [kX11_number_41, rX11_number_90, kX11_number_90, rX11_number_109, kX11_number_109, eX11_number, S112, S139, S144, S146, S150, S151, S166, bk_c, if_true, if_false, wi_e, wl_e, wr_e, w1_i, w1_r, ldS_0, ldS_s, vi_e, vl_e, vr_e, dpL_u, dpL_i, dpL_r, dpL_l, stS_0, stS_1, stS_s, stL_0, stL_1, stL_s, bin_0, bin_1, bin_2, bin_3, bin_4, bin_5, bdv_0, bdv_1, lbin_0, lbin_1, lbin_2, cnd_0, cnd_1, cnd_2, cnd_3, cnd_4, cnd_5, aty_0, aty_1, aty_2, aty_3, aty_4, aty_5, c8_u, cn_0, cn_i, cn_r, cn_l, Nat.reduceAdd, Nat.reduceLeDiff, Nat.le_refl, adz, hnd_0, rcv_0, rcv_1, kLen_a, kLen_r, inB_e, inR_e, cpOK_e, swt_n, swt_c, List.take_succ_cons, List.take_zero, List.drop_succ_cons, List.drop_zero, List.reverse_cons, List.reverse_nil, List.nil_append, List.cons_append, List.length_cons, List.length_nil, Option.toList_some, Option.toList_none, det_e, det_x, tr_imp, fa_imp, implies_true, not_true, not_false_eq_true, and_true, true_and, nar_i, upd_s, st1_0, st1_1, st1_2, st1_3, st1_4, st1_5, st1_6, st1_7, st1_8, st1_9, st1_10, st1_11, st1_12, st1_13, st1_14, st1_15, st1_16, st1_17, st1_18, st1_19, st1_20, st1_21, st1_22, st1_23, st1_24, st1_25, st1_26, st1_27, st1_28, st1_29, st1_30, st1_31, st1_32, st1_33, st1_34, st1_35, st1_36, st1_37, st1_42, st1_43, st1_44, st1_46, st1_47, st1_48, st1_49, st1_50, st1_51, st1_52, st1_53, st1_54, st1_55, st1_56, st1_57, st1_58, st1_59, st1_60, Nat.reduceEqDiff, reduceIte, sV, L1, (L1 p).f, hA, ps_4, e1, e3, e13, cL, cp, b9_0, hn1]
          exact ⟨fun g => by rw [if_pos (Decidable.not_not.mp g)], fun g => by rw [if_neg (fun z => g (fun q => q z))]⟩
        induction r with
        | zero =>
          intro p v hpr hv
          have hp2 : p = L := hpr
          subst hp2
          exact stop p v (Nat.le_refl p) (by rw [bA_o (Nat.lt_irrefl p)]; exact of_eq_false in_9) hv
        | succ r ih =>
          intro p v hpr hv
          by_cases hc : inI (bA (gI M (m + 1)) L p) 48 57
          · have hc1 : inI (bA (gI M (m + 1)) L p) 48 57 = True := eq_true hc
            have cp : (nI p).toNatClampNeg = p := nI_clamp (by omega)
            have hA := bA_p (p := p) hL (by omega)
            have f1 : sI (psM (nm1 M m) m p) m (upd (gI (psM (nm1 M m) m p) m) 4 (nI (p + 1))) = psM (nm1 M m) m (p + 1) := ps_ps _ m _ _
            unfold nmL at hv
            rw [if_pos hc] at hv
            rw [rX11_number_41]
            simp only [kX11_number_41, rX11_number_90, kX11_number_90, eX11_number, S112, S139, S144, S146, S150, S151, S166, bk_c, if_true, if_false, wi_e, wl_e, wr_e, w1_i, w1_r, ldS_0, ldS_s, vi_e, vl_e, vr_e, dpL_u, dpL_i, dpL_r, dpL_l, stS_0, stS_1, stS_s, stL_0, stL_1, stL_s, bin_0, bin_1, bin_2, bin_3, bin_4, bin_5, bdv_0, bdv_1, lbin_0, lbin_1, lbin_2, cnd_0, cnd_1, cnd_2, cnd_3, cnd_4, cnd_5, aty_0, aty_1, aty_2, aty_3, aty_4, aty_5, c8_u, cn_0, cn_i, cn_r, cn_l, Nat.reduceAdd, Nat.reduceLeDiff, Nat.le_refl, adz, hnd_0, rcv_0, rcv_1, kLen_a, kLen_r, inB_e, inR_e, cpOK_e, swt_n, swt_c, List.take_succ_cons, List.take_zero, List.drop_succ_cons, List.drop_zero, List.reverse_cons, List.reverse_nil, List.nil_append, List.cons_append, List.length_cons, List.length_nil, Option.toList_some, Option.toList_none, det_e, det_x, tr_imp, fa_imp, implies_true, not_true, not_false_eq_true, and_true, true_and, nar_i, upd_s, st1_0, st1_1, st1_2, st1_3, st1_4, st1_5, st1_6, st1_7, st1_8, st1_9, st1_10, st1_11, st1_12, st1_13, st1_14, st1_15, st1_16, st1_17, st1_18, st1_19, st1_20, st1_21, st1_22, st1_23, st1_24, st1_25, st1_26, st1_27, st1_28, st1_29, st1_30, st1_31, st1_32, st1_33, st1_34, st1_35, st1_36, st1_37, st1_42, st1_43, st1_44, st1_46, st1_47, st1_48, st1_49, st1_50, st1_51, st1_52, st1_53, st1_54, st1_55, st1_56, st1_57, st1_58, st1_59, st1_60, Nat.reduceEqDiff, reduceIte, sV, L1, (L1 p).f, hA, ps_4, e1, e3, e13, cL, cp, b9_0, hc1, nI_1, f1]
            exact ih (p + 1) _ (by omega) hv
          · unfold nmL at hv
            rw [if_neg hc] at hv
            exact stop p v (by omega) hc hv
      have f1 : sI (nxN M m) m (upd (gI (nxN M m) m) 13 (nI (nxp M m))) = nm1 M m := by
        unfold nxN psM nm1
        rw [gI_s, sI_sI]
      have h0 := key (L - nxp M m) (nxp M m) 0 (by omega) (by unfold nmV; rw [hb.2.2.1])
      have f2 : psM (nm1 M m) m (nxp M m) = nm1 M m := ps_id (by unfold nm1; rw [gI_s, upd_n _ _ (by decide), upd_s])
      rw [f2] at h0
      simp only [rX11_number_0, kX11_number_0, rX11_number_9, kX11_number_9, rX11_number_31, kX11_number_31, eX11_number, S112, S139, S144, S146, S150, S151, S166, bk_c, if_true, if_false, wi_e, wl_e, wr_e, w1_i, w1_r, ldS_0, ldS_s, vi_e, vl_e, vr_e, dpL_u, dpL_i, dpL_r, dpL_l, stS_0, stS_1, stS_s, stL_0, stL_1, stL_s, bin_0, bin_1, bin_2, bin_3, bin_4, bin_5, bdv_0, bdv_1, lbin_0, lbin_1, lbin_2, cnd_0, cnd_1, cnd_2, cnd_3, cnd_4, cnd_5, aty_0, aty_1, aty_2, aty_3, aty_4, aty_5, c8_u, cn_0, cn_i, cn_r, cn_l, Nat.reduceAdd, Nat.reduceLeDiff, Nat.le_refl, adz, hnd_0, rcv_0, rcv_1, kLen_a, kLen_r, inB_e, inR_e, cpOK_e, swt_n, swt_c, List.take_succ_cons, List.take_zero, List.drop_succ_cons, List.drop_zero, List.reverse_cons, List.reverse_nil, List.nil_append, List.cons_append, List.length_cons, List.length_nil, Option.toList_some, Option.toList_none, det_e, det_x, tr_imp, fa_imp, implies_true, not_true, not_false_eq_true, and_true, true_and, nar_i, upd_s, st1_0, st1_1, st1_2, st1_3, st1_4, st1_5, st1_6, st1_7, st1_8, st1_9, st1_10, st1_11, st1_12, st1_13, st1_14, st1_15, st1_16, st1_17, st1_18, st1_19, st1_20, st1_21, st1_22, st1_23, st1_24, st1_25, st1_26, st1_27, st1_28, st1_29, st1_30, st1_31, st1_32, st1_33, st1_34, st1_35, st1_36, st1_37, st1_42, st1_43, st1_44, st1_46, st1_47, st1_48, st1_49, st1_50, st1_51, st1_52, st1_53, st1_54, st1_55, st1_56, st1_57, st1_58, st1_59, st1_60, Nat.reduceEqDiff, reduceIte, sV, hp, hp.f, hJ, hp.nx, b9_0, he1, hd1, nx_e, f1]
      exact h0
    · have hd1 : inI (nxc M m) 48 57 = False := eq_false hd
      rw [if_pos hd]
      simp only [rX11_number_0, kX11_number_0, rX11_number_9, kX11_number_9, rX11_number_31, kX11_number_31, eX11_number, S112, S139, S144, S146, S150, S151, S166, bk_c, if_true, if_false, wi_e, wl_e, wr_e, w1_i, w1_r, ldS_0, ldS_s, vi_e, vl_e, vr_e, dpL_u, dpL_i, dpL_r, dpL_l, stS_0, stS_1, stS_s, stL_0, stL_1, stL_s, bin_0, bin_1, bin_2, bin_3, bin_4, bin_5, bdv_0, bdv_1, lbin_0, lbin_1, lbin_2, cnd_0, cnd_1, cnd_2, cnd_3, cnd_4, cnd_5, aty_0, aty_1, aty_2, aty_3, aty_4, aty_5, c8_u, cn_0, cn_i, cn_r, cn_l, Nat.reduceAdd, Nat.reduceLeDiff, Nat.le_refl, adz, hnd_0, rcv_0, rcv_1, kLen_a, kLen_r, inB_e, inR_e, cpOK_e, swt_n, swt_c, List.take_succ_cons, List.take_zero, List.drop_succ_cons, List.drop_zero, List.reverse_cons, List.reverse_nil, List.nil_append, List.cons_append, List.length_cons, List.length_nil, Option.toList_some, Option.toList_none, det_e, det_x, tr_imp, fa_imp, implies_true, not_true, not_false_eq_true, and_true, true_and, nar_i, upd_s, st1_0, st1_1, st1_2, st1_3, st1_4, st1_5, st1_6, st1_7, st1_8, st1_9, st1_10, st1_11, st1_12, st1_13, st1_14, st1_15, st1_16, st1_17, st1_18, st1_19, st1_20, st1_21, st1_22, st1_23, st1_24, st1_25, st1_26, st1_27, st1_28, st1_29, st1_30, st1_31, st1_32, st1_33, st1_34, st1_35, st1_36, st1_37, st1_42, st1_43, st1_44, st1_46, st1_47, st1_48, st1_49, st1_50, st1_51, st1_52, st1_53, st1_54, st1_55, st1_56, st1_57, st1_58, st1_59, st1_60, Nat.reduceEqDiff, reduceIte, sV, hp, hp.f, hJ, hp.nx, b9_0, he1, hd1, nx_e]
  · have he1 : (gI M m 5 = 0) = False := eq_false he
    rw [if_pos he]
    simp only [rX11_number_0, kX11_number_0, rX11_number_9, kX11_number_9, eX11_number, S112, S139, S144, S146, S150, S151, S166, bk_c, if_true, if_false, wi_e, wl_e, wr_e, w1_i, w1_r, ldS_0, ldS_s, vi_e, vl_e, vr_e, dpL_u, dpL_i, dpL_r, dpL_l, stS_0, stS_1, stS_s, stL_0, stL_1, stL_s, bin_0, bin_1, bin_2, bin_3, bin_4, bin_5, bdv_0, bdv_1, lbin_0, lbin_1, lbin_2, cnd_0, cnd_1, cnd_2, cnd_3, cnd_4, cnd_5, aty_0, aty_1, aty_2, aty_3, aty_4, aty_5, c8_u, cn_0, cn_i, cn_r, cn_l, Nat.reduceAdd, Nat.reduceLeDiff, Nat.le_refl, adz, hnd_0, rcv_0, rcv_1, kLen_a, kLen_r, inB_e, inR_e, cpOK_e, swt_n, swt_c, List.take_succ_cons, List.take_zero, List.drop_succ_cons, List.drop_zero, List.reverse_cons, List.reverse_nil, List.nil_append, List.cons_append, List.length_cons, List.length_nil, Option.toList_some, Option.toList_none, det_e, det_x, tr_imp, fa_imp, implies_true, not_true, not_false_eq_true, and_true, true_and, nar_i, upd_s, st1_0, st1_1, st1_2, st1_3, st1_4, st1_5, st1_6, st1_7, st1_8, st1_9, st1_10, st1_11, st1_12, st1_13, st1_14, st1_15, st1_16, st1_17, st1_18, st1_19, st1_20, st1_21, st1_22, st1_23, st1_24, st1_25, st1_26, st1_27, st1_28, st1_29, st1_30, st1_31, st1_32, st1_33, st1_34, st1_35, st1_36, st1_37, st1_42, st1_43, st1_44, st1_46, st1_47, st1_48, st1_49, st1_50, st1_51, st1_52, st1_53, st1_54, st1_55, st1_56, st1_57, st1_58, st1_59, st1_60, Nat.reduceEqDiff, reduceIte, sV, hp, hp.f, hJ, b9_0, he1]
/-! == a code == -/
def emN (M : Mm) (m : Nat) (v : Int32) : Mm := if ¬ gI M m 5 = 0 then M else sI M (m + 3) (upd (upd (gI M (m + 3)) (393 + (gI M (m + 3) 7).toNatClampNeg) v) 7 (gI M (m + 3) 7 + 1))
def S123 : Sem := fun as M => match as with
  | [.ref m, .int v] => sV (LM M m ∧ (gI M m 5 = 0 → cnt (gI M (m + 3) 7) 1399)) none (emN M m v)
  | _ => sF
set_option maxRecDepth 100000 in
set_option maxHeartbeats 4000000 in
theorem s_X11_emit {l : Launch} {G : Gt} (hfl : l.stackTraces = false) : SatM l G 123 S123 := by
  refine t_X11_emit (E := fun _ => S146) hfl (s_X11_isGood hfl) fun as M hp => ?_
  unfold S123 at hp ⊢
  split at hp
  case h_2 => exact hp.elim
  rename_i m v
  obtain ⟨hp, hc⟩ := hp
  refine ⟨Nat.le_of_ble_eq_true rfl, ?_⟩
  show Run (gT G) _ _ _ _ _ _ _ 0 [.val (.ref m), .val (.int v)] [] M 0 0
  unfold emN
  by_cases he : gI M m 5 = 0
  · have he1 : (gI M m 5 = 0) = True := eq_true he
    obtain ⟨k, hk, ek⟩ := hc he
    have ck : (nI k).toNatClampNeg = k := nI_clamp (by omega)
    have y1 : vp_in (nI (393 + k)) 1793 = True := eq_true (vp_in_nI (by omega) (by decide))
    have y2 : (nI (393 + k)).toNatClampNeg = 393 + k := nI_clamp (by omega)
    have u7 : ∀ f x, upd f (393 + k) x 7 = f 7 := fun f x => upd_n _ _ (by omega)
    rw [if_neg (fun z => z he), ek, ck]
    simp only [rX11_emit_0, kX11_emit_0, rX11_emit_8, kX11_emit_8, S146, Nat.reduceEqDiff, reduceIte, bk_c, if_true, if_false, wi_e, wl_e, wr_e, w1_i, w1_r, ldS_0, ldS_s, vi_e, vl_e, vr_e, dpL_u, dpL_i, dpL_r, dpL_l, stS_0, stS_1, stS_s, stL_0, stL_1, stL_s, bin_0, bin_1, bin_2, bin_3, bin_4, bin_5, bdv_0, bdv_1, lbin_0, lbin_1, lbin_2, cnd_0, cnd_1, cnd_2, cnd_3, cnd_4, cnd_5, aty_0, aty_1, aty_2, aty_3, aty_4, aty_5, c8_u, cn_0, cn_i, cn_r, cn_l, Nat.reduceAdd, Nat.reduceLeDiff, Nat.le_refl, adz, hnd_0, rcv_0, rcv_1, kLen_a, kLen_r, inB_e, inR_e, cpOK_e, swt_n, swt_c, List.take_succ_cons, List.take_zero, List.drop_succ_cons, List.drop_zero, List.reverse_cons, List.reverse_nil, List.nil_append, List.cons_append, List.length_cons, List.length_nil, Option.toList_some, Option.toList_none, det_e, det_x, tr_imp, fa_imp, implies_true, not_true, not_false_eq_true, and_true, true_and, nar_i, upd_s, st1_0, st1_1, st1_2, st1_3, st1_4, st1_5, st1_6, st1_7, st1_8, st1_9, st1_10, st1_11, st1_12, st1_13, st1_14, st1_15, st1_16, st1_17, st1_18, st1_19, st1_20, st1_21, st1_22, st1_23, st1_24, st1_25, st1_26, st1_27, st1_28, st1_29, st1_30, st1_31, st1_32, st1_33, st1_34, st1_35, st1_36, st1_37, st1_42, st1_43, st1_44, st1_46, st1_47, st1_48, st1_49, st1_50, st1_51, st1_52, st1_53, st1_54, st1_55, st1_56, st1_57, st1_58, st1_59, st1_60, sV, gK_sI, gP_sI, gI_s, sI_sI, hp, hp.f, b9_0, he1, xL0, xL1, ek, ad_393, y1, y2, u7, Nat.succ_ne_zero, ne_eq]
  · have he1 : (gI M m 5 = 0) = False := eq_false he
    rw [if_pos he]
    simp only [rX11_emit_0, kX11_emit_0, rX11_emit_8, kX11_emit_8, S146, Nat.reduceEqDiff, reduceIte, bk_c, if_true, if_false, wi_e, wl_e, wr_e, w1_i, w1_r, ldS_0, ldS_s, vi_e, vl_e, vr_e, dpL_u, dpL_i, dpL_r, dpL_l, stS_0, stS_1, stS_s, stL_0, stL_1, stL_s, bin_0, bin_1, bin_2, bin_3, bin_4, bin_5, bdv_0, bdv_1, lbin_0, lbin_1, lbin_2, cnd_0, cnd_1, cnd_2, cnd_3, cnd_4, cnd_5, aty_0, aty_1, aty_2, aty_3, aty_4, aty_5, c8_u, cn_0, cn_i, cn_r, cn_l, Nat.reduceAdd, Nat.reduceLeDiff, Nat.le_refl, adz, hnd_0, rcv_0, rcv_1, kLen_a, kLen_r, inB_e, inR_e, cpOK_e, swt_n, swt_c, List.take_succ_cons, List.take_zero, List.drop_succ_cons, List.drop_zero, List.reverse_cons, List.reverse_nil, List.nil_append, List.cons_append, List.length_cons, List.length_nil, Option.toList_some, Option.toList_none, det_e, det_x, tr_imp, fa_imp, implies_true, not_true, not_false_eq_true, and_true, true_and, nar_i, upd_s, st1_0, st1_1, st1_2, st1_3, st1_4, st1_5, st1_6, st1_7, st1_8, st1_9, st1_10, st1_11, st1_12, st1_13, st1_14, st1_15, st1_16, st1_17, st1_18, st1_19, st1_20, st1_21, st1_22, st1_23, st1_24, st1_25, st1_26, st1_27, st1_28, st1_29, st1_30, st1_31, st1_32, st1_33, st1_34, st1_35, st1_36, st1_37, st1_42, st1_43, st1_44, st1_46, st1_47, st1_48, st1_49, st1_50, st1_51, st1_52, st1_53, st1_54, st1_55, st1_56, st1_57, st1_58, st1_59, st1_60, sV, hp, hp.f, b9_0, he1]
