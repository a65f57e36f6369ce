/-! ===== IrrigationTurnsModel: readField ===== -/
def mg1 (N : Mm) (m n : Nat) : Mm := puN m (nuN N m 0 (gI N (m + 3) 0 - 1)) (221 + 11 * n)
def mg2 (N : Mm) (m n : Nat) : Mm := puN m (nuN N m 0 5) (221 + 11 * n + 1)
def mg3 (N : Mm) (m n : Nat) : Mm := puN m (nuN N m 1 999) (221 + 11 * n + 2)
def mg4 (N : Mm) (m n : Nat) : Mm := puN m (nuN N m 0 9999) (221 + 11 * n + 3)
def mg5 (N : Mm) (m n : Nat) : Mm := puN m (nuN N m 1 9999) (221 + 11 * n + 4)
def mg6 (N : Mm) (m n : Nat) : Mm := puN m (nuN N m 0 99) (221 + 11 * n + 5)
def mg7 (N : Mm) (m n : Nat) : Mm := if (twN N m 4).1 = 0 then puV m (twN N m 4).2 (221 + 11 * n + 6) (-1) else puN m (nuN (twN N m 4).2 m 0 (nI n - 1)) (221 + 11 * n + 6)
def mgT (N : Mm) (m n : Nat) : Mm := up1 m (mg7 (mg6 (mg5 (mg4 (mg3 (mg2 (mg1 N m n) m n) m n) m n) m n) m n) m n) 1
def mgM (M : Mm) (m : Nat) (s : Int32) : Mm :=
  if ¬ gI (st1N M m 1 12 s) m 5 = 0 then st1N M m 1 12 s else mgT M m (gI M (m + 3) 1).toNatClampNeg
theorem rd_g1 (N : Mm) (m n : Nat) : RD (mg1 N m n) N m := rd_pu (rd_nu _ _ _ _) _
theorem rd_g2 (N : Mm) (m n : Nat) : RD (mg2 N m n) N m := rd_pu (rd_nu _ _ _ _) _
theorem rd_g3 (N : Mm) (m n : Nat) : RD (mg3 N m n) N m := rd_pu (rd_nu _ _ _ _) _
theorem rd_g4 (N : Mm) (m n : Nat) : RD (mg4 N m n) N m := rd_pu (rd_nu _ _ _ _) _
theorem rd_g5 (N : Mm) (m n : Nat) : RD (mg5 N m n) N m := rd_pu (rd_nu _ _ _ _) _
theorem rd_g6 (N : Mm) (m n : Nat) : RD (mg6 N m n) N m := rd_pu (rd_nu _ _ _ _) _
theorem rd_g7 (N : Mm) (m n : Nat) : RD (mg7 N m n) N m := by
  unfold mg7
  split
  · exact rd_pv (rd_tw N m (by decide)) _ _
  · exact rd_pu ((rd_nu _ _ _ _).t (rd_tw N m (by decide))) _
theorem rd_gT (M : Mm) (m n : Nat) : RD (mgT M m n) M m := (rd_up _ _ _).t ((rd_g7 _ _ _).t ((rd_g6 _ _ _).t ((rd_g5 _ _ _).t ((rd_g4 _ _ _).t ((rd_g3 _ _ _).t ((rd_g2 _ _ _).t (rd_g1 _ _ _)))))))
theorem rd_mg (M : Mm) (m : Nat) (s : Int32) : RD (mgM M m s) M m := by
  unfold mgM
  split
  · exact rd_st _ _ _ _ _
  · exact rd_gT _ _ _
/-- the counts of the draft stand under numbers that go elsewhere -/
theorem pn_1 (N : Mm) (m : Nat) (lo hi : Int32) {i j : Nat} (h : j ≠ i) : gI (puN m (nuN N m lo hi) i) (m + 3) j = gI N (m + 3) j := by
  rw [pu_d, nu_d, upd_n _ _ h]
def S161 (T : Nat → Nat) : Sem := fun as M => match as with
  | [.ref m, .int s] => sV (LM M m ∧ PJ M m ∧ STR T M ∧ cnt (gI M (m + 3) 1) 12) none (mgM M m s)
  | _ => sF
def eX11_readField : Nat → Sem := fun id => if id = 131 then S131 else if id = 146 then S146 else if id = 155 then S155 else if id = 166 then S166 else S174
set_option maxRecDepth 100000 in
set_option maxHeartbeats 4000000 in
theorem s_X11_readField {l : Launch} {G : Gt} (hfl : l.stackTraces = false) : SatM l G 161 (S161 (gT G)) := by
  refine t_X11_readField (E := eX11_readField) hfl (s_X11_field hfl) (s_X11_isGood hfl) (s_X11_number hfl) (s_X11_report hfl) (s_X11_takeWord hfl) fun as M hp => ?_
  unfold S161 at hp ⊢
  split at hp
  case h_2 => exact hp.elim
  rename_i m s
  obtain ⟨hp, hJ, hs, n, hn, en⟩ := hp
  refine ⟨Nat.le_of_ble_eq_true rfl, ?_⟩
  show Run (gT G) _ _ _ _ _ _ _ 0 [.val (.ref m), .val (.int s), .unset] [] M 0 0
  have cn : (nI n).toNatClampNeg = n := nI_clamp (by omega)
  have w4 : (∃ i, i < 10 ∧ kS 4 = kS i) = True := eq_true ⟨4, by decide, rfl⟩
  have mid : n < 12 → Run (gT G) (eX11_readField) 0 0 (fun _ _ => none) (fun v' M' => v' = none ∧ M' = mgT M m n) (fun _ _ => False) kX11_readField 36 [.val (.ref m), .val (.int s), .val (.int (nI (221 + 11 * n)))] [] M 0 0 := by
    intro hlt
    have a0 := xF0 (i := n) hlt
    have a1 := xF (i := n) (j := 1) hlt (by decide)
    have a2 := xF (i := n) (j := 2) hlt (by decide)
    have a3 := xF (i := n) (j := 3) hlt (by decide)
    have a4 := xF (i := n) (j := 4) hlt (by decide)
    have a5 := xF (i := n) (j := 5) hlt (by decide)
    have a6 := xF (i := n) (j := 6) hlt (by decide)
    have L0n := hp.rd (rd_nu M m 0 (gI M (m + 3) 0 - 1))
    have f1 : puN m (nuN M m 0 (gI M (m + 3) 0 - 1)) (221 + 11 * n) = mg1 M m n := rfl
    have r1 := rd_g1 M m n
    have L1 := hp.rd r1
    have J1 := r1.2.2.2.2 hJ
    have e1 : gI (mg1 M m n) (m + 3) 1 = nI n := by unfold mg1; rw [pn_1 _ _ _ _ (by omega)]; exact en
    generalize eA : mg1 M m n = A at f1 r1 L1 J1 e1
    have L1n := L1.rd (rd_nu A m 0 5)
    have f2 : puN m (nuN A m 0 5) (221 + 11 * n + 1) = mg2 A m n := rfl
    have r2 := (rd_g2 A m n).t r1
    have L2 := hp.rd r2
    have J2 := r2.2.2.2.2 hJ
    have e2 : gI (mg2 A m n) (m + 3) 1 = nI n := by unfold mg2; rw [pn_1 _ _ _ _ (by omega)]; exact e1
    generalize eB : mg2 A m n = B at f2 r2 L2 J2 e2
    have L2n := L2.rd (rd_nu B m 1 999)
    have f3 : puN m (nuN B m 1 999) (221 + 11 * n + 2) = mg3 B m n := rfl
    have r3 := (rd_g3 B m n).t r2
    have L3 := hp.rd r3
    have J3 := r3.2.2.2.2 hJ
    have e3 : gI (mg3 B m n) (m + 3) 1 = nI n := by unfold mg3; rw [pn_1 _ _ _ _ (by omega)]; exact e2
    generalize eC : mg3 B m n = C at f3 r3 L3 J3 e3
    have L3n := L3.rd (rd_nu C m 0 9999)
    have f4 : puN m (nuN C m 0 9999) (221 + 11 * n + 3) = mg4 C m n := rfl
    have r4 := (rd_g4 C m n).t r3
    have L4 := hp.rd r4
    have J4 := r4.2.2.2.2 hJ
    have e4 : gI (mg4 C m n) (m + 3) 1 = nI n := by unfold mg4; rw [pn_1 _ _ _ _ (by omega)]; exact e3
    generalize eD : mg4 C m n = D at f4 r4 L4 J4 e4
    have L4n := L4.rd (rd_nu D m 1 9999)
    have f5 : puN m (nuN D m 1 9999) (221 + 11 * n + 4) = mg5 D m n := rfl
    have r5 := (rd_g5 D m n).t r4
    have L5 := hp.rd r5
    have J5 := r5.2.2.2.2 hJ
    have e5 : gI (mg5 D m n) (m + 3) 1 = nI n := by unfold mg5; rw [pn_1 _ _ _ _ (by omega)]; exact e4
    generalize eF : mg5 D m n = F at f5 r5 L5 J5 e5
    have L5n := L5.rd (rd_nu F m 0 99)
    have f6 : puN m (nuN F m 0 99) (221 + 11 * n + 5) = mg6 F m n := rfl
    have r6 := (rd_g6 F m n).t r5
    have L6 := hp.rd r6
    have J6 := r6.2.2.2.2 hJ
    have e6 : gI (mg6 F m n) (m + 3) 1 = nI n := by unfold mg6; rw [pn_1 _ _ _ _ (by omega)]; exact e5
    generalize eH : mg6 F m n = H at f6 r6 L6 J6 e6
    have q4 : gK H (gT G 4) = kS 4 := by rw [r6.1.1]; exact hs 4 (by decide)
    have rt := rd_tw H m (w := 4) (by decide)
    have Lt := L6.rd rt
    have Jt := rt.2.2.2.2 J6
    have et : gI (twN H m 4).2 (m + 3) 1 = nI n := by rw [tw_d]; exact e6
    have Ltn := Lt.rd (rd_nu (twN H m 4).2 m 0 (nI n - 1))
    have r7 := (rd_g7 H m n).t r6
    have L7 := hp.rd r7
    unfold mgT
    rw [eA, eB, eC, eD, eF, eH]
    have fu : ∀ D, sI D (m + 3) (upd (gI D (m + 3)) 1 (gI D (m + 3) 1 + 1)) = up1 m D 1 := fun _ => rfl
    by_cases ht : (twN H m 4).1 = 0
    · have f7 : sI (twN H m 4).2 (m + 3) (upd (gI (twN H m 4).2 (m + 3)) (221 + 11 * n + 6) (-1)) = mg7 H m n := by unfold mg7; rw [if_pos ht]; rfl
      have ht1 : ((twN H m 4).1 = 0) = True := eq_true ht
      simp only [rX11_readField_36, kX11_readField_36, rX11_readField_165, kX11_readField_165, rX11_readField_166, kX11_readField_166, eX11_readField, S131, S146, S155, S166, S174, bk_c, if_true, if_false, wi_e, wl_e, wr_e, w1_i, w1_r, ldS_0, ldS_s, vi_e, vl_e, vr_e, dpL_u, dpL_i, dpL_r, dpL_l, stS_0, stS_1, stS_s, stL_0, stL_1, stL_s, bin_0, bin_1, bin_2, bin_3, bin_4, bin_5, bdv_0, bdv_1, lbin_0, lbin_1, lbin_2, cnd_0, cnd_1, cnd_2, cnd_3, cnd_4, cnd_5, aty_0, aty_1, aty_2, aty_3, aty_4, aty_5, c8_u, cn_0, cn_i, cn_r, cn_l, Nat.reduceAdd, Nat.reduceLeDiff, Nat.le_refl, adz, hnd_0, rcv_0, rcv_1, kLen_a, kLen_r, inB_e, inR_e, cpOK_e, swt_n, swt_c, List.take_succ_cons, List.take_zero, List.drop_succ_cons, List.drop_zero, List.reverse_cons, List.reverse_nil, List.nil_append, List.cons_append, List.length_cons, List.length_nil, Option.toList_some, Option.toList_none, det_e, det_x, tr_imp, fa_imp, implies_true, not_true, not_false_eq_true, and_true, true_and, nar_i, upd_s, st1_0, st1_1, st1_2, st1_3, st1_4, st1_5, st1_6, st1_7, st1_8, st1_9, st1_10, st1_11, st1_12, st1_13, st1_14, st1_15, st1_16, st1_17, st1_18, st1_19, st1_20, st1_21, st1_22, st1_23, st1_24, st1_25, st1_26, st1_27, st1_28, st1_29, st1_30, st1_31, st1_32, st1_33, st1_34, st1_35, st1_36, st1_37, st1_42, st1_43, st1_44, st1_46, st1_47, st1_48, st1_49, st1_50, st1_51, st1_52, st1_53, st1_54, st1_55, st1_56, st1_57, st1_58, st1_59, st1_60, Nat.reduceEqDiff, reduceIte, sV, w4, q4, kSi_e, ht1, hp, hp.f, hJ, L0n.f, L1, L1.f, L1n.f, J1, L2, L2.f, L2n.f, J2, L3, L3.f, L3n.f, J3, L4, L4.f, L4n.f, J4, L5, L5.f, L5n.f, J5, L6, L6.f, J6, Lt.f, L7.f, nI_1, ad_2, ad_3, ad_4, ad_5, ad_6, a0, a1, a2, a3, a4, a5, a6, pu_3, f1, f2, f3, f4, f5, f6, f7, xL0, xL1, fu, Nat.succ_ne_zero, ne_eq]
    · have f7 : puN m (nuN (twN H m 4).2 m 0 (nI n - 1)) (221 + 11 * n + 6) = mg7 H m n := by unfold mg7; rw [if_neg ht]
      have ht1 : ((twN H m 4).1 = 0) = False := eq_false ht
      simp only [rX11_readField_36, kX11_readField_36, rX11_readField_165, kX11_readField_165, rX11_readField_166, kX11_readField_166, eX11_readField, S131, S146, S155, S166, S174, bk_c, if_true, if_false, wi_e, wl_e, wr_e, w1_i, w1_r, ldS_0, ldS_s, vi_e, vl_e, vr_e, dpL_u, dpL_i, dpL_r, dpL_l, stS_0, stS_1, stS_s, stL_0, stL_1, stL_s, bin_0, bin_1, bin_2, bin_3, bin_4, bin_5, bdv_0, bdv_1, lbin_0, lbin_1, lbin_2, cnd_0, cnd_1, cnd_2, cnd_3, cnd_4, cnd_5, aty_0, aty_1, aty_2, aty_3, aty_4, aty_5, c8_u, cn_0, cn_i, cn_r, cn_l, Nat.reduceAdd, Nat.reduceLeDiff, Nat.le_refl, adz, hnd_0, rcv_0, rcv_1, kLen_a, kLen_r, inB_e, inR_e, cpOK_e, swt_n, swt_c, List.take_succ_cons, List.take_zero, List.drop_succ_cons, List.drop_zero, List.reverse_cons, List.reverse_nil, List.nil_append, List.cons_append, List.length_cons, List.length_nil, Option.toList_some, Option.toList_none, det_e, det_x, tr_imp, fa_imp, implies_true, not_true, not_false_eq_true, and_true, true_and, nar_i, upd_s, st1_0, st1_1, st1_2, st1_3, st1_4, st1_5, st1_6, st1_7, st1_8, st1_9, st1_10, st1_11, st1_12, st1_13, st1_14, st1_15, st1_16, st1_17, st1_18, st1_19, st1_20, st1_21, st1_22, st1_23, st1_24, st1_25, st1_26, st1_27, st1_28, st1_29, st1_30, st1_31, st1_32, st1_33, st1_34, st1_35, st1_36, st1_37, st1_42, st1_43, st1_44, st1_46, st1_47, st1_48, st1_49, st1_50, st1_51, st1_52, st1_53, st1_54, st1_55, st1_56, st1_57, st1_58, st1_59, st1_60, Nat.reduceEqDiff, reduceIte, sV, w4, q4, kSi_e, ht1, hp, hp.f, hJ, L0n.f, L1, L1.f, L1n.f, J1, L2, L2.f, L2n.f, J2, L3, L3.f, L3n.f, J3, L4, L4.f, L4n.f, J4, L5, L5.f, L5n.f, J5, L6, L6.f, J6, Lt, Lt.f, Jt, et, Ltn.f, L7.f, nI_1, ad_2, ad_3, ad_4, ad_5, ad_6, a0, a1, a2, a3, a4, a5, a6, pu_3, f1, f2, f3, f4, f5, f6, f7, xL0, xL1, fu, Nat.succ_ne_zero, ne_eq]
  unfold mgM st1N
  rw [show (1 : Int32).toNatClampNeg = 1 from rfl, en, cn]
  by_cases h16 : nI n = 12
  · have h16t : (nI n = 12) = True := eq_true h16
    rw [if_pos h16, if_pos (re_5 (by decide))]
    have g1 : (gI (reN M m (-4) s) m 5 = 0) = False := eq_false (re_5 (by decide))
    have L1 := hp.rd (rd_re M m (-4) s)
    simp only [rX11_readField_0, kX11_readField_0, rX11_readField_28, kX11_readField_28, eX11_readField, S131, S146, S155, S166, S174, bk_c, if_true, if_false, wi_e, wl_e, wr_e, w1_i, w1_r, ldS_0, ldS_s, vi_e, vl_e, vr_e, dpL_u, dpL_i, dpL_r, dpL_l, stS_0, stS_1, stS_s, stL_0, stL_1, stL_s, bin_0, bin_1, bin_2, bin_3, bin_4, bin_5, bdv_0, bdv_1, lbin_0, lbin_1, lbin_2, cnd_0, cnd_1, cnd_2, cnd_3, cnd_4, cnd_5, aty_0, aty_1, aty_2, aty_3, aty_4, aty_5, c8_u, cn_0, cn_i, cn_r, cn_l, Nat.reduceAdd, Nat.reduceLeDiff, Nat.le_refl, adz, hnd_0, rcv_0, rcv_1, kLen_a, kLen_r, inB_e, inR_e, cpOK_e, swt_n, swt_c, List.take_succ_cons, List.take_zero, List.drop_succ_cons, List.drop_zero, List.reverse_cons, List.reverse_nil, List.nil_append, List.cons_append, List.length_cons, List.length_nil, Option.toList_some, Option.toList_none, det_e, det_x, tr_imp, fa_imp, implies_true, not_true, not_false_eq_true, and_true, true_and, nar_i, upd_s, st1_0, st1_1, st1_2, st1_3, st1_4, st1_5, st1_6, st1_7, st1_8, st1_9, st1_10, st1_11, st1_12, st1_13, st1_14, st1_15, st1_16, st1_17, st1_18, st1_19, st1_20, st1_21, st1_22, st1_23, st1_24, st1_25, st1_26, st1_27, st1_28, st1_29, st1_30, st1_31, st1_32, st1_33, st1_34, st1_35, st1_36, st1_37, st1_42, st1_43, st1_44, st1_46, st1_47, st1_48, st1_49, st1_50, st1_51, st1_52, st1_53, st1_54, st1_55, st1_56, st1_57, st1_58, st1_59, st1_60, Nat.reduceEqDiff, reduceIte, sV, hp.f, hp, xL0, xL1, en, f11, h16t, L1, L1.f, b9_0, g1, Nat.succ_ne_zero, ne_eq]
  · have h16f : (nI n = 12) = False := eq_false h16
    rw [if_neg h16]
    have hlt : n < 12 := by
      rcases Nat.lt_or_ge n 12 with z | z
      · exact z
      · exact absurd (show nI n = 12 by rw [show n = 12 by omega]; rfl) h16
    by_cases he : gI M m 5 = 0
    · have he1 : (gI M m 5 = 0) = True := eq_true he
      rw [if_neg (fun q => q he)]
      simp only [rX11_readField_0, kX11_readField_0, rX11_readField_28, kX11_readField_28, eX11_readField, S131, S146, S155, S166, S174, bk_c, if_true, if_false, wi_e, wl_e, wr_e, w1_i, w1_r, ldS_0, ldS_s, vi_e, vl_e, vr_e, dpL_u, dpL_i, dpL_r, dpL_l, stS_0, stS_1, stS_s, stL_0, stL_1, stL_s, bin_0, bin_1, bin_2, bin_3, bin_4, bin_5, bdv_0, bdv_1, lbin_0, lbin_1, lbin_2, cnd_0, cnd_1, cnd_2, cnd_3, cnd_4, cnd_5, aty_0, aty_1, aty_2, aty_3, aty_4, aty_5, c8_u, cn_0, cn_i, cn_r, cn_l, Nat.reduceAdd, Nat.reduceLeDiff, Nat.le_refl, adz, hnd_0, rcv_0, rcv_1, kLen_a, kLen_r, inB_e, inR_e, cpOK_e, swt_n, swt_c, List.take_succ_cons, List.take_zero, List.drop_succ_cons, List.drop_zero, List.reverse_cons, List.reverse_nil, List.nil_append, List.cons_append, List.length_cons, List.length_nil, Option.toList_some, Option.toList_none, det_e, det_x, tr_imp, fa_imp, implies_true, not_true, not_false_eq_true, and_true, true_and, nar_i, upd_s, st1_0, st1_1, st1_2, st1_3, st1_4, st1_5, st1_6, st1_7, st1_8, st1_9, st1_10, st1_11, st1_12, st1_13, st1_14, st1_15, st1_16, st1_17, st1_18, st1_19, st1_20, st1_21, st1_22, st1_23, st1_24, st1_25, st1_26, st1_27, st1_28, st1_29, st1_30, st1_31, st1_32, st1_33, st1_34, st1_35, st1_36, st1_37, st1_42, st1_43, st1_44, st1_46, st1_47, st1_48, st1_49, st1_50, st1_51, st1_52, st1_53, st1_54, st1_55, st1_56, st1_57, st1_58, st1_59, st1_60, Nat.reduceEqDiff, reduceIte, sV, hp.f, hp, xL0, xL1, en, f11, h16f, b9_0, he1, Nat.succ_ne_zero, ne_eq]
      exact mid hlt
    · have he1 : (gI M m 5 = 0) = False := eq_false he
      rw [if_pos he]
      simp only [rX11_readField_0, kX11_readField_0, rX11_readField_28, kX11_readField_28, eX11_readField, S131, S146, S155, S166, S174, bk_c, if_true, if_false, wi_e, wl_e, wr_e, w1_i, w1_r, ldS_0, ldS_s, vi_e, vl_e, vr_e, dpL_u, dpL_i, dpL_r, dpL_l, stS_0, stS_1, stS_s, stL_0, stL_1, stL_s, bin_0, bin_1, bin_2, bin_3, bin_4, bin_5, bdv_0, bdv_1, lbin_0, lbin_1, lbin_2, cnd_0, cnd_1, cnd_2, cnd_3, cnd_4, cnd_5, aty_0, aty_1, aty_2, aty_3, aty_4, aty_5, c8_u, cn_0, cn_i, cn_r, cn_l, Nat.reduceAdd, Nat.reduceLeDiff, Nat.le_refl, adz, hnd_0, rcv_0, rcv_1, kLen_a, kLen_r, inB_e, inR_e, cpOK_e, swt_n, swt_c, List.take_succ_cons, List.take_zero, List.drop_succ_cons, List.drop_zero, List.reverse_cons, List.reverse_nil, List.nil_append, List.cons_append, List.length_cons, List.length_nil, Option.toList_some, Option.toList_none, det_e, det_x, tr_imp, fa_imp, implies_true, not_true, not_false_eq_true, and_true, true_and, nar_i, upd_s, st1_0, st1_1, st1_2, st1_3, st1_4, st1_5, st1_6, st1_7, st1_8, st1_9, st1_10, st1_11, st1_12, st1_13, st1_14, st1_15, st1_16, st1_17, st1_18, st1_19, st1_20, st1_21, st1_22, st1_23, st1_24, st1_25, st1_26, st1_27, st1_28, st1_29, st1_30, st1_31, st1_32, st1_33, st1_34, st1_35, st1_36, st1_37, st1_42, st1_43, st1_44, st1_46, st1_47, st1_48, st1_49, st1_50, st1_51, st1_52, st1_53, st1_54, st1_55, st1_56, st1_57, st1_58, st1_59, st1_60, Nat.reduceEqDiff, reduceIte, sV, hp.f, hp, xL0, xL1, en, f11, h16f, b9_0, he1, Nat.succ_ne_zero, ne_eq]
