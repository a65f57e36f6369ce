/-! ===== IrrigationTurnsModel: readCanal, readField ===== -/
/-- a value into a place of the draft -/
def puV (m : Nat) (M : Mm) (i : Nat) (v : Int32) : Mm := sI M (m + 3) (upd (gI M (m + 3)) i v)
theorem rd_pv {N M : Mm} {m : Nat} (h : RD N M m) (i : Nat) (v : Int32) : RD (puV m N i v) M m := (rd_d _ _ _).t h
theorem pv_3 (m : Nat) (M : Mm) (i : Nat) (v : Int32) : gI (puV m M i v) (m + 3) = upd (gI M (m + 3)) i v := gI_s _ _ _
theorem pu_d (m : Nat) (x : Int32 × Mm) (i : Nat) : gI (puN m x i) (m + 3) = upd (gI x.2 (m + 3)) i x.1 := gI_s _ _ _
def xfN (M : Mm) (m : Nat) : Mm := if (twN M m 1).1 = 0 then reN (twN M m 1).2 m (-2) (gI (twN M m 1).2 m 4) else (twN M m 1).2
theorem rd_xf (M : Mm) (m : Nat) : RD (xfN M m) M m := by
  unfold xfN
  split
  · exact (rd_re _ _ _ _).t (rd_tw M m (by decide))
  · exact rd_tw M m (by decide)
theorem xf_d (M : Mm) (m : Nat) : gI (xfN M m) (m + 3) = gI M (m + 3) := by
  unfold xfN
  split
  · rw [re_d, tw_d]
  · rw [tw_d]
def mc2 (M : Mm) (m n : Nat) : Mm := if n = 0 then puV m M (13 + 13 * n) (-1) else puN m (nuN (xfN (puV m M (13 + 13 * n) (-1)) m) m 0 (nI n - 1)) (13 + 13 * n)
def mc3 (N : Mm) (m n : Nat) : Mm := puN m (nuN N m 1 6) (13 + 13 * n + 1)
def mc4 (N : Mm) (m n : Nat) : Mm := puN m (nuN N m 0 50) (13 + 13 * n + 2)
def mc5 (N : Mm) (m n : Nat) : Mm := puN m (nuN N m 1 9999) (13 + 13 * n + 3)
def mc6 (N : Mm) (m n : Nat) : Mm := if (twN N m 2).1 = 0 then puV m (twN N m 2).2 (13 + 13 * n + 4) 1 else puN m (nuN (twN N m 2).2 m 0 99) (13 + 13 * n + 4)
def mcT (N : Mm) (m n : Nat) : Mm := up1 m (mc6 (mc5 (mc4 (mc3 N m n) m n) m n) m n) 0
def mcM (M : Mm) (m : Nat) (s : Int32) : Mm :=
  if ¬ gI (st1N M m 0 16 s) m 5 = 0 then st1N M m 0 16 s else mcT (mc2 M m (gI M (m + 3) 0).toNatClampNeg) m (gI M (m + 3) 0).toNatClampNeg
theorem rd_c3 (N : Mm) (m n : Nat) : RD (mc3 N m n) N m := rd_pu (rd_nu _ _ _ _) _
theorem rd_c4 (N : Mm) (m n : Nat) : RD (mc4 N m n) N m := rd_pu (rd_nu _ _ _ _) _
theorem rd_c5 (N : Mm) (m n : Nat) : RD (mc5 N m n) N m := rd_pu (rd_nu _ _ _ _) _
theorem rd_c6 (N : Mm) (m n : Nat) : RD (mc6 N m n) N m := by
  unfold mc6
  split
  · exact rd_pv (rd_tw N m (by decide)) _ _
  · exact rd_pu ((rd_nu _ _ _ _).t (rd_tw N m (by decide))) _
theorem rd_c2 (N : Mm) (m n : Nat) : RD (mc2 N m n) N m := by
  unfold mc2
  split
  · exact rd_pv (RD.r _ _) _ _
  · exact rd_pu ((rd_nu _ _ _ _).t ((rd_xf _ _).t (rd_pv (RD.r _ _) _ _))) _
theorem rd_up (N : Mm) (m i : Nat) : RD (up1 m N i) N m := rd_d _ _ _
theorem rd_mc (M : Mm) (m : Nat) (s : Int32) : RD (mcM M m s) M m := by
  unfold mcM mcT
  split
  · exact rd_st _ _ _ _ _
  · exact (rd_up _ _ _).t ((rd_c6 _ _ _).t ((rd_c5 _ _ _).t ((rd_c4 _ _ _).t ((rd_c3 _ _ _).t (rd_c2 _ _ _)))))
def S160 (T : Nat → Nat) : Sem := fun as M => match as with
  | [.ref m, .int s] => sV (LM M m ∧ PJ M m ∧ STR T M ∧ cnt (gI M (m + 3) 0) 16) none (mcM M m s)
  | _ => sF
theorem tw_y {N : Mm} {m w : Nat} (h : ¬ (twN N m w).1 = 0) : (twN N m w).1 = 1 := (tw_or N m w).resolve_left h
def eX11_readCanal : Nat → Sem := fun id => if id = 113 then S113 else if id = 146 then S146 else if id = 155 then S155 else if id = 166 then S166 else S174
set_option maxRecDepth 100000 in
set_option maxHeartbeats 4000000 in
theorem s_X11_readCanal {l : Launch} {G : Gt} (hfl : l.stackTraces = false) : SatM l G 160 (S160 (gT G)) := by
  refine t_X11_readCanal (E := eX11_readCanal) hfl (s_X11_canal hfl) (s_X11_isGood hfl) (s_X11_number hfl) (s_X11_report hfl) (s_X11_takeWord hfl) fun as M hp => ?_
  unfold S160 at hp ⊢
  split at hp
  case h_2 => exact hp.elim
  rename_i m s
  obtain ⟨hp, hJ, hs, n, hn, en⟩ := hp
  refine ⟨Nat.le_of_ble_eq_true rfl, ?_⟩
  show Run (gT G) _ _ _ _ _ _ _ 0 [.val (.ref m), .val (.int s), .unset] [] M 0 0
  have cn : (nI n).toNatClampNeg = n := nI_clamp (by omega)
  have w1 : (∃ i, i < 10 ∧ kS 1 = kS i) = True := eq_true ⟨1, by decide, rfl⟩
  have w2 : (∃ i, i < 10 ∧ kS 2 = kS i) = True := eq_true ⟨2, by decide, rfl⟩
  have fin : ∀ N, n < 16 → RD N M m → Run (gT G) (eX11_readCanal) 0 0 (fun _ _ => none) (fun v' M' => v' = none ∧ M' = mcT N m n) (fun _ _ => False) kX11_readCanal 90 [.val (.ref m), .val (.int s), .val (.int (nI (13 + 13 * n)))] [] N 0 0 := by
    intro N hlt rN
    have a1 := xC (i := n) (j := 1) hlt (by decide)
    have a2 := xC (i := n) (j := 2) hlt (by decide)
    have a3 := xC (i := n) (j := 3) hlt (by decide)
    have a4 := xC (i := n) (j := 4) hlt (by decide)
    have f3 : puN m (nuN N m 1 6) (13 + 13 * n + 1) = mc3 N m n := rfl
    have L0 := hp.rd rN
    have J0 := rN.2.2.2.2 hJ
    have L0n := L0.rd (rd_nu N m 1 6)
    have r3 := (rd_c3 N m n).t rN
    have L3 := hp.rd r3
    have J3 := r3.2.2.2.2 hJ
    generalize eA : mc3 N m n = A at f3 r3 L3 J3
    have L3n := L3.rd (rd_nu A m 0 50)
    have f4 : puN m (nuN A m 0 50) (13 + 13 * n + 2) = mc4 A m n := rfl
    have r4 := (rd_c4 A m n).t r3
    have L4 := hp.rd r4
    have J4 := r4.2.2.2.2 hJ
    generalize eB : mc4 A m n = B at f4 r4 L4 J4
    have L4n := L4.rd (rd_nu B m 1 9999)
    have f5 : puN m (nuN B m 1 9999) (13 + 13 * n + 3) = mc5 B m n := rfl
    have r5 := (rd_c5 B m n).t r4
    have L5 := hp.rd r5
    have J5 := r5.2.2.2.2 hJ
    generalize eC : mc5 B m n = C at f5 r5 L5 J5
    have q2 : gK C (gT G 2) = kS 2 := by rw [r5.1.1]; exact hs 2 (by decide)
    have rt := rd_tw C m (w := 2) (by decide)
    have Lt := L5.rd rt
    have Jt := rt.2.2.2.2 J5
    have Ltn := Lt.rd (rd_nu (twN C m 2).2 m 0 99)
    have r6 := (rd_c6 C m n).t r5
    have L6 := hp.rd r6
    unfold mcT
    rw [eA, eB, eC]
    have fu : ∀ D, sI D (m + 3) (upd (gI D (m + 3)) 0 (gI D (m + 3) 0 + 1)) = up1 m D 0 := fun _ => rfl
    by_cases ht : (twN C m 2).1 = 0
    · have f6 : sI (twN C m 2).2 (m + 3) (upd (gI (twN C m 2).2 (m + 3)) (13 + 13 * n + 4) 1) = mc6 C m n := by unfold mc6; rw [if_pos ht]; rfl
      have ht1 : ((twN C m 2).1 = 0) = True := eq_true ht
      simp only [rX11_readCanal_90, kX11_readCanal_90, rX11_readCanal_162, kX11_readCanal_162, rX11_readCanal_163, kX11_readCanal_163, eX11_readCanal, S113, S146, S155, S166, S174, bk_c, if_true, if_false, wi_e, wl_e, wr_e, w1_i, w1_r, ldS_0, ldS_s, vi_e, vl_e, vr_e, dpL_u, dpL_i, dpL_r, dpL_l, stS_0, stS_1, stS_s, stL_0, stL_1, stL_s, bin_0, bin_1, bin_2, bin_3, bin_4, bin_5, bdv_0, bdv_1, lbin_0, lbin_1, lbin_2, cnd_0, cnd_1, cnd_2, cnd_3, cnd_4, cnd_5, aty_0, aty_1, aty_2, aty_3, aty_4, aty_5, c8_u, cn_0, cn_i, cn_r, cn_l, Nat.reduceAdd, Nat.reduceLeDiff, Nat.le_refl, adz, hnd_0, rcv_0, rcv_1, kLen_a, kLen_r, inB_e, inR_e, cpOK_e, swt_n, swt_c, List.take_succ_cons, List.take_zero, List.drop_succ_cons, List.drop_zero, List.reverse_cons, List.reverse_nil, List.nil_append, List.cons_append, List.length_cons, List.length_nil, Option.toList_some, Option.toList_none, det_e, det_x, tr_imp, fa_imp, implies_true, not_true, not_false_eq_true, and_true, true_and, nar_i, upd_s, st1_0, st1_1, st1_2, st1_3, st1_4, st1_5, st1_6, st1_7, st1_8, st1_9, st1_10, st1_11, st1_12, st1_13, st1_14, st1_15, st1_16, st1_17, st1_18, st1_19, st1_20, st1_21, st1_22, st1_23, st1_24, st1_25, st1_26, st1_27, st1_28, st1_29, st1_30, st1_31, st1_32, st1_33, st1_34, st1_35, st1_36, st1_37, st1_42, st1_43, st1_44, st1_46, st1_47, st1_48, st1_49, st1_50, st1_51, st1_52, st1_53, st1_54, st1_55, st1_56, st1_57, st1_58, st1_59, st1_60, Nat.reduceEqDiff, reduceIte, sV, w2, q2, kSi_e, ht1, hp.f, L0, L0.f, L0n.f, J0, L3, L3.f, L3n.f, J3, L4, L4.f, L4n.f, J4, L5, L5.f, J5, Lt.f, L6.f, nI_1, ad_2, ad_3, ad_4, a1, a2, a3, a4, pu_3, f3, f4, f5, f6, xL0, xL1, fu, Nat.succ_ne_zero, ne_eq]
    · have f6 : puN m (nuN (twN C m 2).2 m 0 99) (13 + 13 * n + 4) = mc6 C m n := by unfold mc6; rw [if_neg ht]
      have ht1 : ((twN C m 2).1 = 0) = False := eq_false ht
      simp only [rX11_readCanal_90, kX11_readCanal_90, rX11_readCanal_162, kX11_readCanal_162, rX11_readCanal_163, kX11_readCanal_163, eX11_readCanal, S113, S146, S155, S166, S174, bk_c, if_true, if_false, wi_e, wl_e, wr_e, w1_i, w1_r, ldS_0, ldS_s, vi_e, vl_e, vr_e, dpL_u, dpL_i, dpL_r, dpL_l, stS_0, stS_1, stS_s, stL_0, stL_1, stL_s, bin_0, bin_1, bin_2, bin_3, bin_4, bin_5, bdv_0, bdv_1, lbin_0, lbin_1, lbin_2, cnd_0, cnd_1, cnd_2, cnd_3, cnd_4, cnd_5, aty_0, aty_1, aty_2, aty_3, aty_4, aty_5, c8_u, cn_0, cn_i, cn_r, cn_l, Nat.reduceAdd, Nat.reduceLeDiff, Nat.le_refl, adz, hnd_0, rcv_0, rcv_1, kLen_a, kLen_r, inB_e, inR_e, cpOK_e, swt_n, swt_c, List.take_succ_cons, List.take_zero, List.drop_succ_cons, List.drop_zero, List.reverse_cons, List.reverse_nil, List.nil_append, List.cons_append, List.length_cons, List.length_nil, Option.toList_some, Option.toList_none, det_e, det_x, tr_imp, fa_imp, implies_true, not_true, not_false_eq_true, and_true, true_and, nar_i, upd_s, st1_0, st1_1, st1_2, st1_3, st1_4, st1_5, st1_6, st1_7, st1_8, st1_9, st1_10, st1_11, st1_12, st1_13, st1_14, st1_15, st1_16, st1_17, st1_18, st1_19, st1_20, st1_21, st1_22, st1_23, st1_24, st1_25, st1_26, st1_27, st1_28, st1_29, st1_30, st1_31, st1_32, st1_33, st1_34, st1_35, st1_36, st1_37, st1_42, st1_43, st1_44, st1_46, st1_47, st1_48, st1_49, st1_50, st1_51, st1_52, st1_53, st1_54, st1_55, st1_56, st1_57, st1_58, st1_59, st1_60, Nat.reduceEqDiff, reduceIte, sV, w2, q2, kSi_e, ht1, hp.f, L0, L0.f, L0n.f, J0, L3, L3.f, L3n.f, J3, L4, L4.f, L4n.f, J4, L5, L5.f, J5, Lt, Lt.f, Jt, Ltn.f, L6.f, nI_1, ad_2, ad_3, ad_4, a1, a2, a3, a4, pu_3, f3, f4, f5, f6, xL0, xL1, fu, Nat.succ_ne_zero, ne_eq]
  have mid : n < 16 → Run (gT G) (eX11_readCanal) 0 0 (fun _ _ => none) (fun v' M' => v' = none ∧ M' = mcT (mc2 M m n) m n) (fun _ _ => False) kX11_readCanal 36 [.val (.ref m), .val (.int s), .val (.int (nI (13 + 13 * n)))] [] M 0 0 := by
    intro hlt
    have a0 := xC0 (i := n) hlt
    have z0 : upd (gI M (m + 3)) (13 + 13 * n) (-1) 0 = nI n := by rw [upd_n _ _ (by omega)]; exact en
    have rA := rd_pv (RD.r M m) (13 + 13 * n) (-1)
    have LA := hp.rd rA
    have JA := rA.2.2.2.2 hJ
    have fA : sI M (m + 3) (upd (gI M (m + 3)) (13 + 13 * n) (-1)) = puV m M (13 + 13 * n) (-1) := rfl
    have zA : gI (puV m M (13 + 13 * n) (-1)) (m + 3) 0 = nI n := by rw [pv_3]; exact z0
    have hK := hs 1 (by decide)
    by_cases h0 : n = 0
    · have f2 : puV m M (13 + 13 * n) (-1) = mc2 M m n := by unfold mc2; rw [if_pos h0]
      have h01 : (nI n ≤ 0) = True := eq_true (by rw [h0]; decide)
      rw [f2] at fA zA LA rA
      simp only [rX11_readCanal_36, kX11_readCanal_36, eX11_readCanal, S113, S146, S155, S166, S174, bk_c, if_true, if_false, wi_e, wl_e, wr_e, w1_i, w1_r, ldS_0, ldS_s, vi_e, vl_e, vr_e, dpL_u, dpL_i, dpL_r, dpL_l, stS_0, stS_1, stS_s, stL_0, stL_1, stL_s, bin_0, bin_1, bin_2, bin_3, bin_4, bin_5, bdv_0, bdv_1, lbin_0, lbin_1, lbin_2, cnd_0, cnd_1, cnd_2, cnd_3, cnd_4, cnd_5, aty_0, aty_1, aty_2, aty_3, aty_4, aty_5, c8_u, cn_0, cn_i, cn_r, cn_l, Nat.reduceAdd, Nat.reduceLeDiff, Nat.le_refl, adz, hnd_0, rcv_0, rcv_1, kLen_a, kLen_r, inB_e, inR_e, cpOK_e, swt_n, swt_c, List.take_succ_cons, List.take_zero, List.drop_succ_cons, List.drop_zero, List.reverse_cons, List.reverse_nil, List.nil_append, List.cons_append, List.length_cons, List.length_nil, Option.toList_some, Option.toList_none, det_e, det_x, tr_imp, fa_imp, implies_true, not_true, not_false_eq_true, and_true, true_and, nar_i, upd_s, st1_0, st1_1, st1_2, st1_3, st1_4, st1_5, st1_6, st1_7, st1_8, st1_9, st1_10, st1_11, st1_12, st1_13, st1_14, st1_15, st1_16, st1_17, st1_18, st1_19, st1_20, st1_21, st1_22, st1_23, st1_24, st1_25, st1_26, st1_27, st1_28, st1_29, st1_30, st1_31, st1_32, st1_33, st1_34, st1_35, st1_36, st1_37, st1_42, st1_43, st1_44, st1_46, st1_47, st1_48, st1_49, st1_50, st1_51, st1_52, st1_53, st1_54, st1_55, st1_56, st1_57, st1_58, st1_59, st1_60, Nat.reduceEqDiff, reduceIte, sV, hp.f, a0, fA, LA.f, xL0, xL1, zA, h01, Nat.succ_ne_zero, ne_eq]
      exact fin _ hlt rA
    · have h01 : (nI n ≤ 0) = False := eq_false (fun q => h0 (by
        have := (nI_leI (a := n) (b := 0) (by omega) (by decide)).mp q
        omega))
      generalize eA : puV m M (13 + 13 * n) (-1) = A at fA zA LA rA JA
      have q1 : gK A (gT G 1) = kS 1 := by rw [rA.1.1]; exact hK
      have rt := rd_tw A m (w := 1) (by decide)
      have Lt := LA.rd rt
      have rx := rd_xf A m
      have Lx := LA.rd rx
      have Jx := rx.2.2.2.2 JA
      have zx : gI (xfN A m) (m + 3) 0 = nI n := by rw [xf_d]; exact zA
      have Lxn := Lx.rd (rd_nu (xfN A m) m 0 (nI n - 1))
      have f2 : puN m (nuN (xfN A m) m 0 (nI n - 1)) (13 + 13 * n) = mc2 M m n := by unfold mc2; rw [if_neg h0, eA]
      have r2 : RD (mc2 M m n) M m := rd_c2 M m n
      by_cases ht : (twN A m 1).1 = 0
      · have ht1 : ((twN A m 1).1 = 0) = True := eq_true ht
        have f1 : reN (twN A m 1).2 m (-2) (gI (twN A m 1).2 m 4) = xfN A m := by unfold xfN; rw [if_pos ht]
        simp only [rX11_readCanal_36, kX11_readCanal_36, rX11_readCanal_71, kX11_readCanal_71, eX11_readCanal, S113, S146, S155, S166, S174, bk_c, if_true, if_false, wi_e, wl_e, wr_e, w1_i, w1_r, ldS_0, ldS_s, vi_e, vl_e, vr_e, dpL_u, dpL_i, dpL_r, dpL_l, stS_0, stS_1, stS_s, stL_0, stL_1, stL_s, bin_0, bin_1, bin_2, bin_3, bin_4, bin_5, bdv_0, bdv_1, lbin_0, lbin_1, lbin_2, cnd_0, cnd_1, cnd_2, cnd_3, cnd_4, cnd_5, aty_0, aty_1, aty_2, aty_3, aty_4, aty_5, c8_u, cn_0, cn_i, cn_r, cn_l, Nat.reduceAdd, Nat.reduceLeDiff, Nat.le_refl, adz, hnd_0, rcv_0, rcv_1, kLen_a, kLen_r, inB_e, inR_e, cpOK_e, swt_n, swt_c, List.take_succ_cons, List.take_zero, List.drop_succ_cons, List.drop_zero, List.reverse_cons, List.reverse_nil, List.nil_append, List.cons_append, List.length_cons, List.length_nil, Option.toList_some, Option.toList_none, det_e, det_x, tr_imp, fa_imp, implies_true, not_true, not_false_eq_true, and_true, true_and, nar_i, upd_s, st1_0, st1_1, st1_2, st1_3, st1_4, st1_5, st1_6, st1_7, st1_8, st1_9, st1_10, st1_11, st1_12, st1_13, st1_14, st1_15, st1_16, st1_17, st1_18, st1_19, st1_20, st1_21, st1_22, st1_23, st1_24, st1_25, st1_26, st1_27, st1_28, st1_29, st1_30, st1_31, st1_32, st1_33, st1_34, st1_35, st1_36, st1_37, st1_42, st1_43, st1_44, st1_46, st1_47, st1_48, st1_49, st1_50, st1_51, st1_52, st1_53, st1_54, st1_55, st1_56, st1_57, st1_58, st1_59, st1_60, Nat.reduceEqDiff, reduceIte, sV, hp.f, a0, fA, LA, LA.f, JA, w1, q1, kSi_e, ht1, Lt, Lt.f, f1, Lx, Lx.f, Jx, zx, Lxn.f, pu_3, f2, xL0, xL1, zA, h01, Nat.succ_ne_zero, ne_eq]
        have z := fin _ hlt r2
        simp only [rX11_readCanal_90, kX11_readCanal_90, eX11_readCanal, S113, S146, S155, S166, S174, bk_c, if_true, if_false, wi_e, wl_e, wr_e, w1_i, w1_r, ldS_0, ldS_s, vi_e, vl_e, vr_e, dpL_u, dpL_i, dpL_r, dpL_l, stS_0, stS_1, stS_s, stL_0, stL_1, stL_s, bin_0, bin_1, bin_2, bin_3, bin_4, bin_5, bdv_0, bdv_1, lbin_0, lbin_1, lbin_2, cnd_0, cnd_1, cnd_2, cnd_3, cnd_4, cnd_5, aty_0, aty_1, aty_2, aty_3, aty_4, aty_5, c8_u, cn_0, cn_i, cn_r, cn_l, Nat.reduceAdd, Nat.reduceLeDiff, Nat.le_refl, adz, hnd_0, rcv_0, rcv_1, kLen_a, kLen_r, inB_e, inR_e, cpOK_e, swt_n, swt_c, List.take_succ_cons, List.take_zero, List.drop_succ_cons, List.drop_zero, List.reverse_cons, List.reverse_nil, List.nil_append, List.cons_append, List.length_cons, List.length_nil, Option.toList_some, Option.toList_none, det_e, det_x, tr_imp, fa_imp, implies_true, not_true, not_false_eq_true, and_true, true_and, nar_i, upd_s, st1_0, st1_1, st1_2, st1_3, st1_4, st1_5, st1_6, st1_7, st1_8, st1_9, st1_10, st1_11, st1_12, st1_13, st1_14, st1_15, st1_16, st1_17, st1_18, st1_19, st1_20, st1_21, st1_22, st1_23, st1_24, st1_25, st1_26, st1_27, st1_28, st1_29, st1_30, st1_31, st1_32, st1_33, st1_34, st1_35, st1_36, st1_37, st1_42, st1_43, st1_44, st1_46, st1_47, st1_48, st1_49, st1_50, st1_51, st1_52, st1_53, st1_54, st1_55, st1_56, st1_57, st1_58, st1_59, st1_60, Nat.reduceEqDiff, reduceIte, sV, hp.f, a0, fA, LA, LA.f, JA, w1, q1, kSi_e, ht1, Lt, Lt.f, f1, Lx, Lx.f, Jx, zx, Lxn.f, pu_3, f2, xL0, xL1, zA, h01, Nat.succ_ne_zero, ne_eq] at z
        exact z
      · have ht1 : ((twN A m 1).1 = 0) = False := eq_false ht
        have f1 : (twN A m 1).2 = xfN A m := by unfold xfN; rw [if_neg ht]
        simp only [rX11_readCanal_36, kX11_readCanal_36, rX11_readCanal_71, kX11_readCanal_71, eX11_readCanal, S113, S146, S155, S166, S174, bk_c, if_true, if_false, wi_e, wl_e, wr_e, w1_i, w1_r, ldS_0, ldS_s, vi_e, vl_e, vr_e, dpL_u, dpL_i, dpL_r, dpL_l, stS_0, stS_1, stS_s, stL_0, stL_1, stL_s, bin_0, bin_1, bin_2, bin_3, bin_4, bin_5, bdv_0, bdv_1, lbin_0, lbin_1, lbin_2, cnd_0, cnd_1, cnd_2, cnd_3, cnd_4, cnd_5, aty_0, aty_1, aty_2, aty_3, aty_4, aty_5, c8_u, cn_0, cn_i, cn_r, cn_l, Nat.reduceAdd, Nat.reduceLeDiff, Nat.le_refl, adz, hnd_0, rcv_0, rcv_1, kLen_a, kLen_r, inB_e, inR_e, cpOK_e, swt_n, swt_c, List.take_succ_cons, List.take_zero, List.drop_succ_cons, List.drop_zero, List.reverse_cons, List.reverse_nil, List.nil_append, List.cons_append, List.length_cons, List.length_nil, Option.toList_some, Option.toList_none, det_e, det_x, tr_imp, fa_imp, implies_true, not_true, not_false_eq_true, and_true, true_and, nar_i, upd_s, st1_0, st1_1, st1_2, st1_3, st1_4, st1_5, st1_6, st1_7, st1_8, st1_9, st1_10, st1_11, st1_12, st1_13, st1_14, st1_15, st1_16, st1_17, st1_18, st1_19, st1_20, st1_21, st1_22, st1_23, st1_24, st1_25, st1_26, st1_27, st1_28, st1_29, st1_30, st1_31, st1_32, st1_33, st1_34, st1_35, st1_36, st1_37, st1_42, st1_43, st1_44, st1_46, st1_47, st1_48, st1_49, st1_50, st1_51, st1_52, st1_53, st1_54, st1_55, st1_56, st1_57, st1_58, st1_59, st1_60, Nat.reduceEqDiff, reduceIte, sV, hp.f, a0, fA, LA, LA.f, JA, w1, q1, kSi_e, ht1, f1, Lx, Lx.f, Jx, zx, Lxn.f, pu_3, f2, xL0, xL1, zA, h01, Nat.succ_ne_zero, ne_eq]
        have z := fin _ hlt r2
        simp only [rX11_readCanal_90, kX11_readCanal_90, eX11_readCanal, S113, S146, S155, S166, S174, bk_c, if_true, if_false, wi_e, wl_e, wr_e, w1_i, w1_r, ldS_0, ldS_s, vi_e, vl_e, vr_e, dpL_u, dpL_i, dpL_r, dpL_l, stS_0, stS_1, stS_s, stL_0, stL_1, stL_s, bin_0, bin_1, bin_2, bin_3, bin_4, bin_5, bdv_0, bdv_1, lbin_0, lbin_1, lbin_2, cnd_0, cnd_1, cnd_2, cnd_3, cnd_4, cnd_5, aty_0, aty_1, aty_2, aty_3, aty_4, aty_5, c8_u, cn_0, cn_i, cn_r, cn_l, Nat.reduceAdd, Nat.reduceLeDiff, Nat.le_refl, adz, hnd_0, rcv_0, rcv_1, kLen_a, kLen_r, inB_e, inR_e, cpOK_e, swt_n, swt_c, List.take_succ_cons, List.take_zero, List.drop_succ_cons, List.drop_zero, List.reverse_cons, List.reverse_nil, List.nil_append, List.cons_append, List.length_cons, List.length_nil, Option.toList_some, Option.toList_none, det_e, det_x, tr_imp, fa_imp, implies_true, not_true, not_false_eq_true, and_true, true_and, nar_i, upd_s, st1_0, st1_1, st1_2, st1_3, st1_4, st1_5, st1_6, st1_7, st1_8, st1_9, st1_10, st1_11, st1_12, st1_13, st1_14, st1_15, st1_16, st1_17, st1_18, st1_19, st1_20, st1_21, st1_22, st1_23, st1_24, st1_25, st1_26, st1_27, st1_28, st1_29, st1_30, st1_31, st1_32, st1_33, st1_34, st1_35, st1_36, st1_37, st1_42, st1_43, st1_44, st1_46, st1_47, st1_48, st1_49, st1_50, st1_51, st1_52, st1_53, st1_54, st1_55, st1_56, st1_57, st1_58, st1_59, st1_60, Nat.reduceEqDiff, reduceIte, sV, hp.f, a0, fA, LA, LA.f, JA, w1, q1, kSi_e, ht1, f1, Lx, Lx.f, Jx, zx, Lxn.f, pu_3, f2, xL0, xL1, zA, h01, Nat.succ_ne_zero, ne_eq] at z
        exact z
  unfold mcM st1N
  rw [show (0 : Int32).toNatClampNeg = 0 from rfl, en, cn]
  by_cases h16 : nI n = 16
  · have h16t : (nI n = 16) = True := eq_true h16
    rw [if_pos h16, if_pos (re_5 (by decide))]
    have g1 : (gI (reN M m (-4) s) m 5 = 0) = False := eq_false (re_5 (by decide))
    have L1 := hp.rd (rd_re M m (-4) s)
    simp only [rX11_readCanal_0, kX11_readCanal_0, rX11_readCanal_28, kX11_readCanal_28, eX11_readCanal, S113, S146, S155, S166, S174, bk_c, if_true, if_false, wi_e, wl_e, wr_e, w1_i, w1_r, ldS_0, ldS_s, vi_e, vl_e, vr_e, dpL_u, dpL_i, dpL_r, dpL_l, stS_0, stS_1, stS_s, stL_0, stL_1, stL_s, bin_0, bin_1, bin_2, bin_3, bin_4, bin_5, bdv_0, bdv_1, lbin_0, lbin_1, lbin_2, cnd_0, cnd_1, cnd_2, cnd_3, cnd_4, cnd_5, aty_0, aty_1, aty_2, aty_3, aty_4, aty_5, c8_u, cn_0, cn_i, cn_r, cn_l, Nat.reduceAdd, Nat.reduceLeDiff, Nat.le_refl, adz, hnd_0, rcv_0, rcv_1, kLen_a, kLen_r, inB_e, inR_e, cpOK_e, swt_n, swt_c, List.take_succ_cons, List.take_zero, List.drop_succ_cons, List.drop_zero, List.reverse_cons, List.reverse_nil, List.nil_append, List.cons_append, List.length_cons, List.length_nil, Option.toList_some, Option.toList_none, det_e, det_x, tr_imp, fa_imp, implies_true, not_true, not_false_eq_true, and_true, true_and, nar_i, upd_s, st1_0, st1_1, st1_2, st1_3, st1_4, st1_5, st1_6, st1_7, st1_8, st1_9, st1_10, st1_11, st1_12, st1_13, st1_14, st1_15, st1_16, st1_17, st1_18, st1_19, st1_20, st1_21, st1_22, st1_23, st1_24, st1_25, st1_26, st1_27, st1_28, st1_29, st1_30, st1_31, st1_32, st1_33, st1_34, st1_35, st1_36, st1_37, st1_42, st1_43, st1_44, st1_46, st1_47, st1_48, st1_49, st1_50, st1_51, st1_52, st1_53, st1_54, st1_55, st1_56, st1_57, st1_58, st1_59, st1_60, Nat.reduceEqDiff, reduceIte, sV, hp.f, hp, xL0, xL1, en, c13, h16t, L1, L1.f, b9_0, g1, Nat.succ_ne_zero, ne_eq]
  · have h16f : (nI n = 16) = False := eq_false h16
    rw [if_neg h16]
    have hlt : n < 16 := by
      rcases Nat.lt_or_ge n 16 with z | z
      · exact z
      · exact absurd (show nI n = 16 by rw [show n = 16 by omega]; rfl) h16
    by_cases he : gI M m 5 = 0
    · have he1 : (gI M m 5 = 0) = True := eq_true he
      rw [if_neg (fun q => q he)]
      simp only [rX11_readCanal_0, kX11_readCanal_0, rX11_readCanal_28, kX11_readCanal_28, eX11_readCanal, S113, S146, S155, S166, S174, bk_c, if_true, if_false, wi_e, wl_e, wr_e, w1_i, w1_r, ldS_0, ldS_s, vi_e, vl_e, vr_e, dpL_u, dpL_i, dpL_r, dpL_l, stS_0, stS_1, stS_s, stL_0, stL_1, stL_s, bin_0, bin_1, bin_2, bin_3, bin_4, bin_5, bdv_0, bdv_1, lbin_0, lbin_1, lbin_2, cnd_0, cnd_1, cnd_2, cnd_3, cnd_4, cnd_5, aty_0, aty_1, aty_2, aty_3, aty_4, aty_5, c8_u, cn_0, cn_i, cn_r, cn_l, Nat.reduceAdd, Nat.reduceLeDiff, Nat.le_refl, adz, hnd_0, rcv_0, rcv_1, kLen_a, kLen_r, inB_e, inR_e, cpOK_e, swt_n, swt_c, List.take_succ_cons, List.take_zero, List.drop_succ_cons, List.drop_zero, List.reverse_cons, List.reverse_nil, List.nil_append, List.cons_append, List.length_cons, List.length_nil, Option.toList_some, Option.toList_none, det_e, det_x, tr_imp, fa_imp, implies_true, not_true, not_false_eq_true, and_true, true_and, nar_i, upd_s, st1_0, st1_1, st1_2, st1_3, st1_4, st1_5, st1_6, st1_7, st1_8, st1_9, st1_10, st1_11, st1_12, st1_13, st1_14, st1_15, st1_16, st1_17, st1_18, st1_19, st1_20, st1_21, st1_22, st1_23, st1_24, st1_25, st1_26, st1_27, st1_28, st1_29, st1_30, st1_31, st1_32, st1_33, st1_34, st1_35, st1_36, st1_37, st1_42, st1_43, st1_44, st1_46, st1_47, st1_48, st1_49, st1_50, st1_51, st1_52, st1_53, st1_54, st1_55, st1_56, st1_57, st1_58, st1_59, st1_60, Nat.reduceEqDiff, reduceIte, sV, hp.f, hp, xL0, xL1, en, c13, h16f, b9_0, he1, Nat.succ_ne_zero, ne_eq]
      exact mid hlt
    · have he1 : (gI M m 5 = 0) = False := eq_false he
      rw [if_pos he]
      simp only [rX11_readCanal_0, kX11_readCanal_0, rX11_readCanal_28, kX11_readCanal_28, eX11_readCanal, S113, S146, S155, S166, S174, bk_c, if_true, if_false, wi_e, wl_e, wr_e, w1_i, w1_r, ldS_0, ldS_s, vi_e, vl_e, vr_e, dpL_u, dpL_i, dpL_r, dpL_l, stS_0, stS_1, stS_s, stL_0, stL_1, stL_s, bin_0, bin_1, bin_2, bin_3, bin_4, bin_5, bdv_0, bdv_1, lbin_0, lbin_1, lbin_2, cnd_0, cnd_1, cnd_2, cnd_3, cnd_4, cnd_5, aty_0, aty_1, aty_2, aty_3, aty_4, aty_5, c8_u, cn_0, cn_i, cn_r, cn_l, Nat.reduceAdd, Nat.reduceLeDiff, Nat.le_refl, adz, hnd_0, rcv_0, rcv_1, kLen_a, kLen_r, inB_e, inR_e, cpOK_e, swt_n, swt_c, List.take_succ_cons, List.take_zero, List.drop_succ_cons, List.drop_zero, List.reverse_cons, List.reverse_nil, List.nil_append, List.cons_append, List.length_cons, List.length_nil, Option.toList_some, Option.toList_none, det_e, det_x, tr_imp, fa_imp, implies_true, not_true, not_false_eq_true, and_true, true_and, nar_i, upd_s, st1_0, st1_1, st1_2, st1_3, st1_4, st1_5, st1_6, st1_7, st1_8, st1_9, st1_10, st1_11, st1_12, st1_13, st1_14, st1_15, st1_16, st1_17, st1_18, st1_19, st1_20, st1_21, st1_22, st1_23, st1_24, st1_25, st1_26, st1_27, st1_28, st1_29, st1_30, st1_31, st1_32, st1_33, st1_34, st1_35, st1_36, st1_37, st1_42, st1_43, st1_44, st1_46, st1_47, st1_48, st1_49, st1_50, st1_51, st1_52, st1_53, st1_54, st1_55, st1_56, st1_57, st1_58, st1_59, st1_60, Nat.reduceEqDiff, reduceIte, sV, hp.f, hp, xL0, xL1, en, c13, h16f, b9_0, he1, Nat.succ_ne_zero, ne_eq]
