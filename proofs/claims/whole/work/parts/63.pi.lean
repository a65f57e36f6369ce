/-! ===== IrrigationTurnsModel: readGuard, readInflow ===== -/
def ga1 (N : Mm) (m : Nat) : Mm := if gI N (m + 3) 3 = 10 then reN (nuN N m 0 (gI N (m + 3) 0 - 1)).2 m (-4) (gI (nuN N m 0 (gI N (m + 3) 0 - 1)).2 m 13) else (nuN N m 0 (gI N (m + 3) 0 - 1)).2
def ga2 (N : Mm) (m : Nat) : Mm := sI (ga1 N m) (m + 3) (upd (upd (gI N (m + 3)) (377 + (gI N (m + 3) 3).toNatClampNeg) (nuN N m 0 (gI N (m + 3) 0 - 1)).1) 3 (gI N (m + 3) 3 + 1))
def gaL (m : Nat) : Nat → Mm → Mm
  | 0, N => ga1 N m
  | r + 1, N => if ¬ gI (ga1 N m) m 5 = 0 then ga1 N m else if inI (nxc (ga2 N m) m) 48 57 then gaL m r (nxN (ga2 N m) m) else nxN (ga2 N m) m
def st2N (M : Mm) (m i : Nat) (s : Int32) : Mm := if gI M (m + 3) i = 1 then reN M m (-2) s else M
def guM (M : Mm) (m : Nat) (s : Int32) : Mm := gaL m (10 - (gI M (m + 3) 3).toNatClampNeg) (puV m (st2N M m 12 s) 12 1)
theorem rd_s2 (M : Mm) (m i : Nat) (s : Int32) : RD (st2N M m i s) M m := by
  unfold st2N
  split
  · exact rd_re _ _ _ _
  · exact RD.r _ _
theorem s2_d (M : Mm) (m i : Nat) (s : Int32) : gI (st2N M m i s) (m + 3) = gI M (m + 3) := by
  unfold st2N
  split
  · exact re_d _ _ _ _
  · rfl
theorem rd_a1 (N : Mm) (m : Nat) : RD (ga1 N m) N m := by
  unfold ga1
  split
  · exact (rd_re _ _ _ _).t (rd_nu _ _ _ _)
  · exact rd_nu _ _ _ _
theorem a1_d (N : Mm) (m : Nat) : gI (ga1 N m) (m + 3) = gI N (m + 3) := by
  unfold ga1
  split
  · rw [re_d, nu_d]
  · rw [nu_d]
theorem rd_a2 (N : Mm) (m : Nat) : RD (ga2 N m) N m := (rd_d _ _ _).t (rd_a1 N m)
theorem rd_aL (m : Nat) : ∀ r N, RD (gaL m r N) N m
  | 0, N => rd_a1 N m
  | r + 1, N => by
    unfold gaL
    split
    · exact rd_a1 N m
    · split
      · exact (rd_aL m r _).t ((rd_nx _ _).t (rd_a2 N m))
      · exact (rd_nx _ _).t (rd_a2 N m)
theorem rd_gu (M : Mm) (m : Nat) (s : Int32) : RD (guM M m s) M m := (rd_aL m _ _).t (rd_pv (rd_s2 _ _ _ _) _ _)
theorem xL12 : vp_in 12 1793 = True ∧ (12 : Int32).toNatClampNeg = 12 := ⟨eq_true (vp_in_nI (N := 1793) (by decide) (by decide)), rfl⟩
def S162 : Sem := fun as M => match as with
  | [.ref m, .int s] => sV (LM M m ∧ PJ M m ∧ cnt (gI M (m + 3) 3) 10) none (guM M m s)
  | _ => sF
def eX11_readGuard : Nat → Sem := fun id => if id = 144 then S144 else if id = 146 then S146 else if id = 151 then S151 else if id = 155 then S155 else S166
set_option maxRecDepth 100000 in
set_option maxHeartbeats 4000000 in
theorem s_X11_readGuard {l : Launch} {G : Gt} (hfl : l.stackTraces = false) : SatM l G 162 S162 := by
  refine t_X11_readGuard (E := eX11_readGuard) hfl (s_X11_isDigit hfl) (s_X11_isGood hfl) (s_X11_next hfl) (s_X11_number hfl) (s_X11_report hfl) fun as M hp => ?_
  unfold S162 at hp ⊢
  split at hp
  case h_2 => exact hp.elim
  rename_i m s
  obtain ⟨hp, hJ, n, hn, en⟩ := hp
  refine ⟨Nat.le_of_ble_eq_true rfl, ?_⟩
  show Run (gT G) _ _ _ _ _ _ _ 0 [.val (.ref m), .val (.int s), .unset] [] M 0 0
  have cn : (nI n).toNatClampNeg = n := nI_clamp (by omega)
  have fold : ∀ N (k : Nat), gI N (m + 3) 3 = nI k → sI (ga1 N m) (m + 3) (upd (upd (gI N (m + 3)) (377 + k) (nuN N m 0 (gI N (m + 3) 0 - 1)).1) 3 (nI (k + 1))) = ga2 N m ∨ 2 ^ 30 ≤ k := by
    intro N k hk
    rcases Nat.lt_or_ge k (2 ^ 30) with z | z
    · left
      unfold ga2
      rw [hk, nI_clamp (Nat.lt_trans z (by decide)), nI_1]
    · exact Or.inr z
  have key : ∀ r k N (w : Slot) (Q : Option Value → Mm → Prop), k + r = 10 → RD N M m → gI N (m + 3) 3 = nI k → Q none (gaL m r N) → Run (gT G) (eX11_readGuard) 0 0 (fun _ _ => none) Q (fun _ _ => False) kX11_readGuard 26 [.val (.ref m), .val (.int s), w] [] N 0 0 := by
    intro r
    induction r with
    | zero =>
      intro k N w Q hkr rN ek hq
      have hk10 : k = 10 := hkr
      subst hk10
      have L0 := hp.rd rN
      have J0 := rN.2.2.2.2 hJ
      have L0n := L0.rd (rd_nu N m 0 (gI N (m + 3) 0 - 1))
      have ek2 : gI (nuN N m 0 (gI N (m + 3) 0 - 1)).2 (m + 3) 3 = nI 10 := by rw [nu_d]; exact ek
      have ek10 : (nI 10 = 10) = True := eq_true rfl
      have f1 : reN (nuN N m 0 (gI N (m + 3) 0 - 1)).2 m (-4) (gI (nuN N m 0 (gI N (m + 3) 0 - 1)).2 m 13) = ga1 N m := by unfold ga1; rw [if_pos (show gI N (m + 3) 3 = 10 from ek)]
      have L1 := L0.rd (rd_a1 N m)
      have g1 : (gI (ga1 N m) m 5 = 0) = False := eq_false (by rw [← f1]; exact re_5 (by decide))
      rw [rX11_readGuard_26]
      simp only [kX11_readGuard_26, rX11_readGuard_61, kX11_readGuard_61, eX11_readGuard, S144, S146, S151, S155, S166, bk_c, if_true, if_false, wi_e, wl_e, wr_e, w1_i, w1_r, ldS_0, ldS_s, vi_e, vl_e, vr_e, dpL_u, dpL_i, dpL_r, dpL_l, stS_0, stS_1, stS_s, stL_0, stL_1, stL_s, bin_0, bin_1, bin_2, bin_3, bin_4, bin_5, bdv_0, bdv_1, lbin_0, lbin_1, lbin_2, cnd_0, cnd_1, cnd_2, cnd_3, cnd_4, cnd_5, aty_0, aty_1, aty_2, aty_3, aty_4, aty_5, c8_u, cn_0, cn_i, cn_r, cn_l, Nat.reduceAdd, Nat.reduceLeDiff, Nat.le_refl, adz, hnd_0, rcv_0, rcv_1, kLen_a, kLen_r, inB_e, inR_e, cpOK_e, swt_n, swt_c, List.take_succ_cons, List.take_zero, List.drop_succ_cons, List.drop_zero, List.reverse_cons, List.reverse_nil, List.nil_append, List.cons_append, List.length_cons, List.length_nil, Option.toList_some, Option.toList_none, det_e, det_x, tr_imp, fa_imp, implies_true, not_true, not_false_eq_true, and_true, true_and, nar_i, upd_s, st1_0, st1_1, st1_2, st1_3, st1_4, st1_5, st1_6, st1_7, st1_8, st1_9, st1_10, st1_11, st1_12, st1_13, st1_14, st1_15, st1_16, st1_17, st1_18, st1_19, st1_20, st1_21, st1_22, st1_23, st1_24, st1_25, st1_26, st1_27, st1_28, st1_29, st1_30, st1_31, st1_32, st1_33, st1_34, st1_35, st1_36, st1_37, st1_42, st1_43, st1_44, st1_46, st1_47, st1_48, st1_49, st1_50, st1_51, st1_52, st1_53, st1_54, st1_55, st1_56, st1_57, st1_58, st1_59, st1_60, Nat.reduceEqDiff, reduceIte, sV, L0, L0.f, J0, xL0, xL1, L0n, L0n.f, ek2, ek10, f1, L1, L1.f, b9_0, g1, Nat.succ_ne_zero, ne_eq]
      exact hq
    | succ r ih =>
      intro k N w Q hkr rN ek hq
      have L0 := hp.rd rN
      have J0 := rN.2.2.2.2 hJ
      have L0n := L0.rd (rd_nu N m 0 (gI N (m + 3) 0 - 1))
      have hne : ¬ nI k = 10 := fun q => by
        have := (nI_eq (a := k) (b := 10) (by omega) (by decide)).mp q
        omega
      have ek10 : (nI k = 10) = False := eq_false hne
      have f1 : (nuN N m 0 (gI N (m + 3) 0 - 1)).2 = ga1 N m := by unfold ga1; rw [if_neg (by rw [ek]; exact hne)]
      have r1 := rd_a1 N m
      have L1 := L0.rd r1
      have ed : gI (ga1 N m) (m + 3) = gI N (m + 3) := a1_d N m
      have ck : (nI (377 + k)).toNatClampNeg = 377 + k := nI_clamp (by omega)
      have ci : vp_in (nI (377 + k)) 1793 = True := eq_true (vp_in_nI (by omega) (by decide))
      have u3 : ∀ f x, upd f (377 + k) x 3 = f 3 := fun f x => upd_n _ _ (by omega)
      have f2 := (fold N k ek).resolve_right (by omega)
      have r2 := rd_a2 N m
      have L2 := L0.rd r2
      have J2 := r2.2.2.2.2 J0
      have e2 : gI (nxN (ga2 N m) m) (m + 3) 3 = nI (k + 1) := by rw [nx_e.2.2.1]; unfold ga2; rw [gI_s, upd_s, ek, nI_1]
      unfold gaL at hq
      by_cases he : gI (ga1 N m) m 5 = 0
      · have g1 : (gI (ga1 N m) m 5 = 0) = True := eq_true he
        rw [if_neg (fun z => z he)] at hq
        by_cases hd : inI (nxc (ga2 N m) m) 48 57
        · have hd1 : inI (nxc (ga2 N m) m) 48 57 = True := eq_true hd
          rw [if_pos hd] at hq
          rw [rX11_readGuard_26]
          simp only [kX11_readGuard_26, rX11_readGuard_61, kX11_readGuard_61, rX11_readGuard_69, kX11_readGuard_69, eX11_readGuard, S144, S146, S151, S155, S166, bk_c, if_true, if_false, wi_e, wl_e, wr_e, w1_i, w1_r, ldS_0, ldS_s, vi_e, vl_e, vr_e, dpL_u, dpL_i, dpL_r, dpL_l, stS_0, stS_1, stS_s, stL_0, stL_1, stL_s, bin_0, bin_1, bin_2, bin_3, bin_4, bin_5, bdv_0, bdv_1, lbin_0, lbin_1, lbin_2, cnd_0, cnd_1, cnd_2, cnd_3, cnd_4, cnd_5, aty_0, aty_1, aty_2, aty_3, aty_4, aty_5, c8_u, cn_0, cn_i, cn_r, cn_l, Nat.reduceAdd, Nat.reduceLeDiff, Nat.le_refl, adz, hnd_0, rcv_0, rcv_1, kLen_a, kLen_r, inB_e, inR_e, cpOK_e, swt_n, swt_c, List.take_succ_cons, List.take_zero, List.drop_succ_cons, List.drop_zero, List.reverse_cons, List.reverse_nil, List.nil_append, List.cons_append, List.length_cons, List.length_nil, Option.toList_some, Option.toList_none, det_e, det_x, tr_imp, fa_imp, implies_true, not_true, not_false_eq_true, and_true, true_and, nar_i, upd_s, st1_0, st1_1, st1_2, st1_3, st1_4, st1_5, st1_6, st1_7, st1_8, st1_9, st1_10, st1_11, st1_12, st1_13, st1_14, st1_15, st1_16, st1_17, st1_18, st1_19, st1_20, st1_21, st1_22, st1_23, st1_24, st1_25, st1_26, st1_27, st1_28, st1_29, st1_30, st1_31, st1_32, st1_33, st1_34, st1_35, st1_36, st1_37, st1_42, st1_43, st1_44, st1_46, st1_47, st1_48, st1_49, st1_50, st1_51, st1_52, st1_53, st1_54, st1_55, st1_56, st1_57, st1_58, st1_59, st1_60, Nat.reduceEqDiff, reduceIte, sV, L0, L0.f, J0, xL0, xL1, f1, L1, L1.f, ed, ek, ek10, b9_0, g1, ad_377, ck, ci, gK_sI, gP_sI, gI_s, sI_sI, u3, nI_1, f2, L2, L2.f, J2, hd1, Nat.succ_ne_zero, ne_eq]
          exact ih (k + 1) _ _ Q (by omega) (((rd_nx _ _).t r2).t rN) e2 hq
        · have hd1 : inI (nxc (ga2 N m) m) 48 57 = False := eq_false hd
          rw [if_neg hd] at hq
          rw [rX11_readGuard_26]
          simp only [kX11_readGuard_26, rX11_readGuard_61, kX11_readGuard_61, rX11_readGuard_69, kX11_readGuard_69, eX11_readGuard, S144, S146, S151, S155, S166, bk_c, if_true, if_false, wi_e, wl_e, wr_e, w1_i, w1_r, ldS_0, ldS_s, vi_e, vl_e, vr_e, dpL_u, dpL_i, dpL_r, dpL_l, stS_0, stS_1, stS_s, stL_0, stL_1, stL_s, bin_0, bin_1, bin_2, bin_3, bin_4, bin_5, bdv_0, bdv_1, lbin_0, lbin_1, lbin_2, cnd_0, cnd_1, cnd_2, cnd_3, cnd_4, cnd_5, aty_0, aty_1, aty_2, aty_3, aty_4, aty_5, c8_u, cn_0, cn_i, cn_r, cn_l, Nat.reduceAdd, Nat.reduceLeDiff, Nat.le_refl, adz, hnd_0, rcv_0, rcv_1, kLen_a, kLen_r, inB_e, inR_e, cpOK_e, swt_n, swt_c, List.take_succ_cons, List.take_zero, List.drop_succ_cons, List.drop_zero, List.reverse_cons, List.reverse_nil, List.nil_append, List.cons_append, List.length_cons, List.length_nil, Option.toList_some, Option.toList_none, det_e, det_x, tr_imp, fa_imp, implies_true, not_true, not_false_eq_true, and_true, true_and, nar_i, upd_s, st1_0, st1_1, st1_2, st1_3, st1_4, st1_5, st1_6, st1_7, st1_8, st1_9, st1_10, st1_11, st1_12, st1_13, st1_14, st1_15, st1_16, st1_17, st1_18, st1_19, st1_20, st1_21, st1_22, st1_23, st1_24, st1_25, st1_26, st1_27, st1_28, st1_29, st1_30, st1_31, st1_32, st1_33, st1_34, st1_35, st1_36, st1_37, st1_42, st1_43, st1_44, st1_46, st1_47, st1_48, st1_49, st1_50, st1_51, st1_52, st1_53, st1_54, st1_55, st1_56, st1_57, st1_58, st1_59, st1_60, Nat.reduceEqDiff, reduceIte, sV, L0, L0.f, J0, xL0, xL1, f1, L1, L1.f, ed, ek, ek10, b9_0, g1, ad_377, ck, ci, gK_sI, gP_sI, gI_s, sI_sI, u3, nI_1, f2, L2, L2.f, J2, hd1, Nat.succ_ne_zero, ne_eq]
          exact hq
      · have g1 : (gI (ga1 N m) m 5 = 0) = False := eq_false he
        rw [if_pos he] at hq
        rw [rX11_readGuard_26]
        simp only [kX11_readGuard_26, rX11_readGuard_61, kX11_readGuard_61, eX11_readGuard, S144, S146, S151, S155, S166, bk_c, if_true, if_false, wi_e, wl_e, wr_e, w1_i, w1_r, ldS_0, ldS_s, vi_e, vl_e, vr_e, dpL_u, dpL_i, dpL_r, dpL_l, stS_0, stS_1, stS_s, stL_0, stL_1, stL_s, bin_0, bin_1, bin_2, bin_3, bin_4, bin_5, bdv_0, bdv_1, lbin_0, lbin_1, lbin_2, cnd_0, cnd_1, cnd_2, cnd_3, cnd_4, cnd_5, aty_0, aty_1, aty_2, aty_3, aty_4, aty_5, c8_u, cn_0, cn_i, cn_r, cn_l, Nat.reduceAdd, Nat.reduceLeDiff, Nat.le_refl, adz, hnd_0, rcv_0, rcv_1, kLen_a, kLen_r, inB_e, inR_e, cpOK_e, swt_n, swt_c, List.take_succ_cons, List.take_zero, List.drop_succ_cons, List.drop_zero, List.reverse_cons, List.reverse_nil, List.nil_append, List.cons_append, List.length_cons, List.length_nil, Option.toList_some, Option.toList_none, det_e, det_x, tr_imp, fa_imp, implies_true, not_true, not_false_eq_true, and_true, true_and, nar_i, upd_s, st1_0, st1_1, st1_2, st1_3, st1_4, st1_5, st1_6, st1_7, st1_8, st1_9, st1_10, st1_11, st1_12, st1_13, st1_14, st1_15, st1_16, st1_17, st1_18, st1_19, st1_20, st1_21, st1_22, st1_23, st1_24, st1_25, st1_26, st1_27, st1_28, st1_29, st1_30, st1_31, st1_32, st1_33, st1_34, st1_35, st1_36, st1_37, st1_42, st1_43, st1_44, st1_46, st1_47, st1_48, st1_49, st1_50, st1_51, st1_52, st1_53, st1_54, st1_55, st1_56, st1_57, st1_58, st1_59, st1_60, Nat.reduceEqDiff, reduceIte, sV, L0, L0.f, J0, xL0, xL1, f1, L1, L1.f, ed, ek, ek10, b9_0, g1, Nat.succ_ne_zero, ne_eq]
        exact hq
  have fin : ∀ N, N = puV m (st2N M m 12 s) 12 1 → Run (gT G) (eX11_readGuard) 0 0 (fun _ _ => none) (fun v' M' => v' = none ∧ M' = guM M m s) (fun _ _ => False) kX11_readGuard 26 [.val (.ref m), .val (.int s), .unset] [] N 0 0 := by
    intro N hN
    subst hN
    refine key (10 - n) n _ _ _ (by omega) (rd_pv (rd_s2 _ _ _ _) _ _) ?_ ?_
    · rw [pv_3, upd_n _ _ (by decide), s2_d]
      exact en
    · refine ⟨rfl, ?_⟩
      unfold guM
      rw [en, cn]
  by_cases h1 : gI M (m + 3) 12 = 1
  · have h1t : (gI M (m + 3) 12 = 1) = True := eq_true h1
    have f1 : reN M m (-2) s = st2N M m 12 s := by unfold st2N; rw [if_pos h1]
    have L1 := hp.rd (rd_s2 M m 12 s)
    simp only [rX11_readGuard_0, kX11_readGuard_0, rX11_readGuard_18, kX11_readGuard_18, eX11_readGuard, S144, S146, S151, S155, S166, bk_c, if_true, if_false, wi_e, wl_e, wr_e, w1_i, w1_r, ldS_0, ldS_s, vi_e, vl_e, vr_e, dpL_u, dpL_i, dpL_r, dpL_l, stS_0, stS_1, stS_s, stL_0, stL_1, stL_s, bin_0, bin_1, bin_2, bin_3, bin_4, bin_5, bdv_0, bdv_1, lbin_0, lbin_1, lbin_2, cnd_0, cnd_1, cnd_2, cnd_3, cnd_4, cnd_5, aty_0, aty_1, aty_2, aty_3, aty_4, aty_5, c8_u, cn_0, cn_i, cn_r, cn_l, Nat.reduceAdd, Nat.reduceLeDiff, Nat.le_refl, adz, hnd_0, rcv_0, rcv_1, kLen_a, kLen_r, inB_e, inR_e, cpOK_e, swt_n, swt_c, List.take_succ_cons, List.take_zero, List.drop_succ_cons, List.drop_zero, List.reverse_cons, List.reverse_nil, List.nil_append, List.cons_append, List.length_cons, List.length_nil, Option.toList_some, Option.toList_none, det_e, det_x, tr_imp, fa_imp, implies_true, not_true, not_false_eq_true, and_true, true_and, nar_i, upd_s, st1_0, st1_1, st1_2, st1_3, st1_4, st1_5, st1_6, st1_7, st1_8, st1_9, st1_10, st1_11, st1_12, st1_13, st1_14, st1_15, st1_16, st1_17, st1_18, st1_19, st1_20, st1_21, st1_22, st1_23, st1_24, st1_25, st1_26, st1_27, st1_28, st1_29, st1_30, st1_31, st1_32, st1_33, st1_34, st1_35, st1_36, st1_37, st1_42, st1_43, st1_44, st1_46, st1_47, st1_48, st1_49, st1_50, st1_51, st1_52, st1_53, st1_54, st1_55, st1_56, st1_57, st1_58, st1_59, st1_60, Nat.reduceEqDiff, reduceIte, sV, hp, hp.f, xL0, xL1, xL12, h1t, f1, L1, L1.f, Nat.succ_ne_zero, ne_eq]
    exact fin _ rfl
  · have h1t : (gI M (m + 3) 12 = 1) = False := eq_false h1
    have f1 : M = st2N M m 12 s := by unfold st2N; rw [if_neg h1]
    simp only [rX11_readGuard_0, kX11_readGuard_0, rX11_readGuard_18, kX11_readGuard_18, eX11_readGuard, S144, S146, S151, S155, S166, bk_c, if_true, if_false, wi_e, wl_e, wr_e, w1_i, w1_r, ldS_0, ldS_s, vi_e, vl_e, vr_e, dpL_u, dpL_i, dpL_r, dpL_l, stS_0, stS_1, stS_s, stL_0, stL_1, stL_s, bin_0, bin_1, bin_2, bin_3, bin_4, bin_5, bdv_0, bdv_1, lbin_0, lbin_1, lbin_2, cnd_0, cnd_1, cnd_2, cnd_3, cnd_4, cnd_5, aty_0, aty_1, aty_2, aty_3, aty_4, aty_5, c8_u, cn_0, cn_i, cn_r, cn_l, Nat.reduceAdd, Nat.reduceLeDiff, Nat.le_refl, adz, hnd_0, rcv_0, rcv_1, kLen_a, kLen_r, inB_e, inR_e, cpOK_e, swt_n, swt_c, List.take_succ_cons, List.take_zero, List.drop_succ_cons, List.drop_zero, List.reverse_cons, List.reverse_nil, List.nil_append, List.cons_append, List.length_cons, List.length_nil, Option.toList_some, Option.toList_none, det_e, det_x, tr_imp, fa_imp, implies_true, not_true, not_false_eq_true, and_true, true_and, nar_i, upd_s, st1_0, st1_1, st1_2, st1_3, st1_4, st1_5, st1_6, st1_7, st1_8, st1_9, st1_10, st1_11, st1_12, st1_13, st1_14, st1_15, st1_16, st1_17, st1_18, st1_19, st1_20, st1_21, st1_22, st1_23, st1_24, st1_25, st1_26, st1_27, st1_28, st1_29, st1_30, st1_31, st1_32, st1_33, st1_34, st1_35, st1_36, st1_37, st1_42, st1_43, st1_44, st1_46, st1_47, st1_48, st1_49, st1_50, st1_51, st1_52, st1_53, st1_54, st1_55, st1_56, st1_57, st1_58, st1_59, st1_60, Nat.reduceEqDiff, reduceIte, sV, hp, hp.f, xL0, xL1, xL12, h1t, Nat.succ_ne_zero, ne_eq]
    exact fin _ (by rw [← f1]; rfl)
/-! == the inflow == -/
def rfI (M : Mm) (m : Nat) (s : Int32) : Mm := smZ m (facK m 5) (puV m (st2N M m 6 s) 6 1)
def S163 (T : Nat → Nat) : Sem := fun as M => match as with
  | [.ref m, .int s] => sV (LM M m ∧ GZ M m ∧ STR T M ∧ gI M m 14 = 0) none (rfI M m s)
  | _ => sF
abbrev S6171 (T : Nat → Nat) : Sem := S171 T 5
def eX11_readInflow (T : Nat → Nat) : Nat → Sem := fun id => if id = 166 then S166 else (S6171 T)
set_option maxRecDepth 100000 in
set_option maxHeartbeats 4000000 in
theorem s_X11_readInflow {l : Launch} {G : Gt} (hfl : l.stackTraces = false) : SatM l G 163 (S163 (gT G)) := by
  refine t_X11_readInflow (E := eX11_readInflow (gT G)) hfl (s_X11_report hfl) (s_msum_6 hfl) fun as M hp => ?_
  unfold S163 at hp ⊢
  split at hp
  case h_2 => exact hp.elim
  rename_i m s
  obtain ⟨hp, hG, hs, h14⟩ := hp
  refine ⟨Nat.le_of_ble_eq_true rfl, ?_⟩
  show Run (gT G) _ _ _ _ _ _ _ 0 [.val (.ref m), .val (.int s)] [] M 0 0
  have L1 := hp.rd (rd_s2 M m 6 s)
  have r2 := rd_pv (rd_s2 M m 6 s) 6 1
  have L2 := hp.rd r2
  have s2 : STR (gT G) (puV m (st2N M m 6 s) 6 1) := hs.kp r2.1
  have n2 : nstP 5 (puV m (st2N M m 6 s) 6 1) m := ⟨(r2.2.2.2.1 14 (by decide) (by decide) (by decide) (by decide)).trans h14, fun e => absurd e (by decide)⟩
  have G2 : GZ (puV m (st2N M m 6 s) 6 1) m := by
    obtain ⟨L, p, k, h1, h2, h3, h4, h5, h6⟩ := hG
    refine ⟨L, p, k, h1, h2, h3, ?_, ?_, ?_⟩
    · rw [r2.2.2.2.1 3 (by decide) (by decide) (by decide) (by decide)]; exact h4
    · unfold puV
      rw [gI_f _ _ (by omega)]
      unfold st2N
      split
      · rw [re_n _ _ _ _ (by decide) (by decide)]; exact h5
      · exact h5
    · rw [pv_3, upd_n _ _ (by decide), s2_d]; exact h6
  have fv : sI (st2N M m 6 s) (m + 3) (upd (gI (st2N M m 6 s) (m + 3)) 6 1) = puV m (st2N M m 6 s) 6 1 := rfl
  by_cases h1 : gI M (m + 3) 6 = 1
  · have h1t : (gI M (m + 3) 6 = 1) = True := eq_true h1
    have f1 : reN M m (-2) s = st2N M m 6 s := by unfold st2N; rw [if_pos h1]
    simp only [rX11_readInflow_0, kX11_readInflow_0, rX11_readInflow_18, kX11_readInflow_18, eX11_readInflow, S166, S6171, S171, bk_c, if_true, if_false, wi_e, wl_e, wr_e, w1_i, w1_r, ldS_0, ldS_s, vi_e, vl_e, vr_e, dpL_u, dpL_i, dpL_r, dpL_l, stS_0, stS_1, stS_s, stL_0, stL_1, stL_s, bin_0, bin_1, bin_2, bin_3, bin_4, bin_5, bdv_0, bdv_1, lbin_0, lbin_1, lbin_2, cnd_0, cnd_1, cnd_2, cnd_3, cnd_4, cnd_5, aty_0, aty_1, aty_2, aty_3, aty_4, aty_5, c8_u, cn_0, cn_i, cn_r, cn_l, Nat.reduceAdd, Nat.reduceLeDiff, Nat.le_refl, adz, hnd_0, rcv_0, rcv_1, kLen_a, kLen_r, inB_e, inR_e, cpOK_e, swt_n, swt_c, List.take_succ_cons, List.take_zero, List.drop_succ_cons, List.drop_zero, List.reverse_cons, List.reverse_nil, List.nil_append, List.cons_append, List.length_cons, List.length_nil, Option.toList_some, Option.toList_none, det_e, det_x, tr_imp, fa_imp, implies_true, not_true, not_false_eq_true, and_true, true_and, nar_i, upd_s, st1_0, st1_1, st1_2, st1_3, st1_4, st1_5, st1_6, st1_7, st1_8, st1_9, st1_10, st1_11, st1_12, st1_13, st1_14, st1_15, st1_16, st1_17, st1_18, st1_19, st1_20, st1_21, st1_22, st1_23, st1_24, st1_25, st1_26, st1_27, st1_28, st1_29, st1_30, st1_31, st1_32, st1_33, st1_34, st1_35, st1_36, st1_37, st1_42, st1_43, st1_44, st1_46, st1_47, st1_48, st1_49, st1_50, st1_51, st1_52, st1_53, st1_54, st1_55, st1_56, st1_57, st1_58, st1_59, st1_60, Nat.reduceEqDiff, reduceIte, sV, hp, hp.f, xL0, xL1, h1t, f1, L1, L1.f, fv, L2, L2.f, s2, n2, G2, Nat.succ_ne_zero, ne_eq]
    exact rfl
  · have h1t : (gI M (m + 3) 6 = 1) = False := eq_false h1
    have f1 : M = st2N M m 6 s := by unfold st2N; rw [if_neg h1]
    have fv' : sI M (m + 3) (upd (gI M (m + 3)) 6 1) = puV m (st2N M m 6 s) 6 1 := by rw [← f1]; rfl
    simp only [rX11_readInflow_0, kX11_readInflow_0, rX11_readInflow_18, kX11_readInflow_18, eX11_readInflow, S166, S6171, S171, bk_c, if_true, if_false, wi_e, wl_e, wr_e, w1_i, w1_r, ldS_0, ldS_s, vi_e, vl_e, vr_e, dpL_u, dpL_i, dpL_r, dpL_l, stS_0, stS_1, stS_s, stL_0, stL_1, stL_s, bin_0, bin_1, bin_2, bin_3, bin_4, bin_5, bdv_0, bdv_1, lbin_0, lbin_1, lbin_2, cnd_0, cnd_1, cnd_2, cnd_3, cnd_4, cnd_5, aty_0, aty_1, aty_2, aty_3, aty_4, aty_5, c8_u, cn_0, cn_i, cn_r, cn_l, Nat.reduceAdd, Nat.reduceLeDiff, Nat.le_refl, adz, hnd_0, rcv_0, rcv_1, kLen_a, kLen_r, inB_e, inR_e, cpOK_e, swt_n, swt_c, List.take_succ_cons, List.take_zero, List.drop_succ_cons, List.drop_zero, List.reverse_cons, List.reverse_nil, List.nil_append, List.cons_append, List.length_cons, List.length_nil, Option.toList_some, Option.toList_none, det_e, det_x, tr_imp, fa_imp, implies_true, not_true, not_false_eq_true, and_true, true_and, nar_i, upd_s, st1_0, st1_1, st1_2, st1_3, st1_4, st1_5, st1_6, st1_7, st1_8, st1_9, st1_10, st1_11, st1_12, st1_13, st1_14, st1_15, st1_16, st1_17, st1_18, st1_19, st1_20, st1_21, st1_22, st1_23, st1_24, st1_25, st1_26, st1_27, st1_28, st1_29, st1_30, st1_31, st1_32, st1_33, st1_34, st1_35, st1_36, st1_37, st1_42, st1_43, st1_44, st1_46, st1_47, st1_48, st1_49, st1_50, st1_51, st1_52, st1_53, st1_54, st1_55, st1_56, st1_57, st1_58, st1_59, st1_60, Nat.reduceEqDiff, reduceIte, sV, hp, hp.f, xL0, xL1, h1t, fv', L2, L2.f, s2, n2, G2, Nat.succ_ne_zero, ne_eq]
    exact rfl
