/-! ===== IrrigationTurnsModel: a statement ===== -/
def w7N (N : Mm) (m : Nat) (s : Int32) : Mm := if (twN N m 7).1 = 0 then reN (twN N m 7).2 m (-2) s else rfI (twN N m 7).2 m s
def w6N (N : Mm) (m : Nat) (s : Int32) : Mm := if (twN N m 6).1 = 0 then w7N (twN N m 6).2 m s else guM (twN N m 6).2 m s
def w5N (N : Mm) (m : Nat) (s : Int32) : Mm := if (twN N m 5).1 = 0 then w6N (twN N m 5).2 m s else mtM (twN N m 5).2 m s
def w3N (N : Mm) (m : Nat) (s : Int32) : Mm := if (twN N m 3).1 = 0 then w5N (twN N m 3).2 m s else mgM (twN N m 3).2 m s
def w0N (N : Mm) (m : Nat) (s : Int32) : Mm := if (twN N m 0).1 = 0 then w3N (twN N m 0).2 m s else mcM (twN N m 0).2 m s
def stX (N : Mm) (m : Nat) : Mm := sI (xpN N m 59) m (upd (gI (xpN N m 59) m) 15 (gI (xpN N m 59) m 15 + 1))
def sgS (M : Mm) (m : Nat) : Mm := stX (w0N (nxN M m) m (nI (nxp M m))) m
def IS (T : Nat → Nat) (M : Mm) (m : Nat) : Prop := LM M m ∧ GZ M m ∧ STR T M ∧ gI M m 14 = 0 ∧ CN M m
theorem IS.z {T : Nat → Nat} {M N : Mm} {m a b : Nat} (h : IS T M m) (g : RZ a b N M m) (hb : b ≤ a) (hc : CN N m) : IS T N m :=
  ⟨h.1.rz g, h.2.1.z g hb, h.2.2.1.kp g.1, (g.2.2.2.1 14 (by decide) (by decide) (by decide) (by decide)).trans h.2.2.2.1, hc⟩
theorem IS.nx {T : Nat → Nat} {M : Mm} {m : Nat} (h : IS T M m) : IS T (nxN M m) m := h.z (rz_nx M m) (by decide) (h.2.2.2.2.e nx_e.2.2.1)
theorem IS.tw {T : Nat → Nat} {M : Mm} {m w : Nat} (hw : w < 10) (h : IS T M m) : IS T (twN M m w).2 m := h.z (rz_tw M m hw).1 (by decide) (h.2.2.2.2.e (tw_d _ _ _))
theorem IS.J {T : Nat → Nat} {M : Mm} {m : Nat} (h : IS T M m) : PJ M m := (h.2.1.c (RZ.r M m) (by decide)).2
theorem rz_w7 (N : Mm) (m : Nat) (s : Int32) : RZ 0 0 (w7N N m s) N m ∧ (gI (w7N N m s) m 5 = 0 → RZ 3 0 (w7N N m s) N m) := by
  have t := rz_tw N m (w := 7) (by decide)
  unfold w7N
  split
  · exact ⟨(rz_re _ _ _ _).t t.1, fun h => absurd h (re_5 (by decide))⟩
  · rename_i g
    have h := (rz_rf (twN N m 7).2 m s).t (t.2 g)
    exact ⟨h.w (by omega), fun _ => h.w (by omega)⟩
theorem rz_ww {N A B : Mm} {m w : Nat} (hw : w < 10) (hA : RZ 0 0 A (twN N m w).2 m ∧ (gI A m 5 = 0 → RZ 3 0 A (twN N m w).2 m)) (hB : RZ 0 0 B (twN N m w).2 m) : RZ 0 0 (if (twN N m w).1 = 0 then A else B) N m ∧ (gI (if (twN N m w).1 = 0 then A else B) m 5 = 0 → RZ 3 0 (if (twN N m w).1 = 0 then A else B) N m) := by
  have t := rz_tw N m hw
  split
  · exact ⟨(hA.1.t t.1).w (by omega), fun h => ((hA.2 h).t t.1).w (by omega)⟩
  · rename_i g
    have h := hB.t (t.2 g)
    exact ⟨h.w (by omega), fun _ => h.w (by omega)⟩
theorem rz_w6 (N : Mm) (m : Nat) (s : Int32) : RZ 0 0 (w6N N m s) N m ∧ (gI (w6N N m s) m 5 = 0 → RZ 3 0 (w6N N m s) N m) := rz_ww (by decide) (rz_w7 _ _ _) (rz_gu _ _ _)
theorem rz_w5 (N : Mm) (m : Nat) (s : Int32) : RZ 0 0 (w5N N m s) N m ∧ (gI (w5N N m s) m 5 = 0 → RZ 3 0 (w5N N m s) N m) := rz_ww (by decide) (rz_w6 _ _ _) (rz_mt _ _ _)
theorem rz_w3 (N : Mm) (m : Nat) (s : Int32) : RZ 0 0 (w3N N m s) N m ∧ (gI (w3N N m s) m 5 = 0 → RZ 3 0 (w3N N m s) N m) := rz_ww (by decide) (rz_w5 _ _ _) (rz_mg _ _ _)
theorem rz_w0 (N : Mm) (m : Nat) (s : Int32) : RZ 0 0 (w0N N m s) N m ∧ (gI (w0N N m s) m 5 = 0 → RZ 3 0 (w0N N m s) N m) := rz_ww (by decide) (rz_w3 _ _ _) (rz_mc _ _ _)
theorem cn_w7 {N : Mm} {m : Nat} (h : CN N m) (s : Int32) : CN (w7N N m s) m := by
  unfold w7N
  split
  · exact (h.e (tw_d _ _ _)).e (re_d _ _ _ _)
  · exact (h.e (tw_d _ _ _)).rf s
theorem cn_w6 {N : Mm} {m : Nat} (h : CN N m) (s : Int32) : CN (w6N N m s) m := by
  unfold w6N
  split
  · exact cn_w7 (h.e (tw_d _ _ _)) s
  · exact (h.e (tw_d _ _ _)).gu s
theorem cn_w5 {N : Mm} {m : Nat} (h : CN N m) (s : Int32) : CN (w5N N m s) m := by
  unfold w5N
  split
  · exact cn_w6 (h.e (tw_d _ _ _)) s
  · exact (h.e (tw_d _ _ _)).mt s
theorem cn_w3 {N : Mm} {m : Nat} (h : CN N m) (s : Int32) : CN (w3N N m s) m := by
  unfold w3N
  split
  · exact cn_w5 (h.e (tw_d _ _ _)) s
  · exact (h.e (tw_d _ _ _)).mg s
theorem cn_w0 {N : Mm} {m : Nat} (h : CN N m) (s : Int32) : CN (w0N N m s) m := by
  unfold w0N
  split
  · exact cn_w3 (h.e (tw_d _ _ _)) s
  · exact (h.e (tw_d _ _ _)).mc s
theorem IS.w0 {T : Nat → Nat} {M : Mm} {m : Nat} (h : IS T M m) (s : Int32) : IS T (w0N M m s) m := h.z (rz_w0 M m s).1 (by decide) (cn_w0 h.2.2.2.2 s)
theorem IS.sx {T : Nat → Nat} {M : Mm} {m : Nat} (h : IS T M m) : IS T (stX M m) m := by
  have h1 : IS T (xpN M m 59) m := h.z (rz_xp M m (by decide)) (by decide) (h.2.2.2.2.e (xp_d _ _ _))
  generalize hN : xpN M m 59 = N at h1
  unfold stX
  rw [hN]
  obtain ⟨a, ⟨L, p, k, b1, b2, b3, b4, b5, b6⟩, c, d, e⟩ := h1
  refine ⟨a.kp rfl rfl, ⟨L, p, k, b1, b2, b3, ?_, ?_, ?_⟩, c, ?_, e.e (gI_f _ _ (by omega))⟩
  · rw [gI_s, upd_n _ _ (by decide)]; exact b4
  · rw [gI_s, upd_n _ _ (by decide)]; exact b5
  · rw [gI_f _ _ (by omega)]; exact b6
  · rw [gI_s, upd_n _ _ (by decide)]; exact d
theorem IS.st {T : Nat → Nat} {M : Mm} {m : Nat} (h : IS T M m) : IS T (sgS M m) m := (h.nx.w0 _).sx
def S169 (T : Nat → Nat) : Sem := fun as M => match as with
  | [.ref m] => sV (IS T M m) none (sgS M m)
  | _ => sF
theorem kss (i : Nat) (h : i < 10) : (∃ j, j < 10 ∧ kS i = kS j) = True := eq_true ⟨i, h, rfl⟩
def eX11_statement (T : Nat → Nat) : Nat → Sem := fun id => if id = 126 then S126 else if id = 151 then S151 else if id = 160 then (S160 T) else if id = 161 then (S161 T) else if id = 162 then S162 else if id = 163 then (S163 T) else if id = 164 then S164 else if id = 166 then S166 else S174
set_option maxRecDepth 100000 in
set_option maxHeartbeats 4000000 in
theorem s_X11_statement {l : Launch} {G : Gt} (hfl : l.stackTraces = false) : SatM l G 169 (S169 (gT G)) := by
  refine t_X11_statement (E := eX11_statement (gT G)) hfl (s_X11_expect hfl) (s_X11_next hfl) (s_X11_readCanal hfl) (s_X11_readField hfl) (s_X11_readGuard hfl) (s_X11_readInflow hfl) (s_X11_readTurn hfl) (s_X11_report hfl) (s_X11_takeWord hfl) fun as M hp => ?_
  unfold S169 at hp ⊢
  split at hp
  case h_2 => exact hp.elim
  rename_i m
  obtain ⟨hL0, hR0⟩ := hp
  refine ⟨Nat.le_of_ble_eq_true rfl, ?_⟩
  show Run (gT G) _ _ _ _ _ _ _ 0 [.val (.ref m), .unset] [] M 0 0
  have hI : IS (gT G) M m := ⟨hL0, hR0⟩
  have w0 := kss 0 (by decide)
  have w3 := kss 3 (by decide)
  have w5 := kss 5 (by decide)
  have w6 := kss 6 (by decide)
  have w7 := kss 7 (by decide)
  have i10 : ((1 : Int32) = 0) = False := eq_false (by decide)
  have fin : ∀ N s (Q : Option Value → Mm → Prop), LM N m → PJ N m → Q none (stX N m) → Run (gT G) (eX11_statement (gT G)) 0 0 (fun _ _ => none) Q (fun _ _ => False) kX11_statement 102 [.val (.ref m), .val (.int s)] [] N 0 0 := by
    intro N s Q hL hJ hq
    have Lx : LM (xpN N m 59) m := hL.rz (rz_xp N m (by decide))
    rw [rX11_statement_102]
    simp only [kX11_statement_102, eX11_statement, S126, S151, S160, S161, S162, S163, S164, S166, S174, bk_c, if_true, if_false, wi_e, wl_e, wr_e, w1_i, w1_r, ldS_0, ldS_s, vi_e, vl_e, vr_e, dpL_u, dpL_i, dpL_r, dpL_l, stS_0, stS_1, stS_s, stL_0, stL_1, stL_s, bin_0, bin_1, bin_2, bin_3, bin_4, bin_5, bdv_0, bdv_1, lbin_0, lbin_1, lbin_2, cnd_0, cnd_1, cnd_2, cnd_3, cnd_4, cnd_5, aty_0, aty_1, aty_2, aty_3, aty_4, aty_5, c8_u, cn_0, cn_i, cn_r, cn_l, Nat.reduceAdd, Nat.reduceLeDiff, Nat.le_refl, adz, hnd_0, rcv_0, rcv_1, kLen_a, kLen_r, inB_e, inR_e, cpOK_e, swt_n, swt_c, List.take_succ_cons, List.take_zero, List.drop_succ_cons, List.drop_zero, List.reverse_cons, List.reverse_nil, List.nil_append, List.cons_append, List.length_cons, List.length_nil, Option.toList_some, Option.toList_none, det_e, det_x, tr_imp, fa_imp, implies_true, not_true, not_false_eq_true, and_true, true_and, nar_i, upd_s, st1_0, st1_1, st1_2, st1_3, st1_4, st1_5, st1_6, st1_7, st1_8, st1_9, st1_10, st1_11, st1_12, st1_13, st1_14, st1_15, st1_16, st1_17, st1_18, st1_19, st1_20, st1_21, st1_22, st1_23, st1_24, st1_25, st1_26, st1_27, st1_28, st1_29, st1_30, st1_31, st1_32, st1_33, st1_34, st1_35, st1_36, st1_37, st1_42, st1_43, st1_44, st1_46, st1_47, st1_48, st1_49, st1_50, st1_51, st1_52, st1_53, st1_54, st1_55, st1_56, st1_57, st1_58, st1_59, st1_60, Nat.reduceEqDiff, reduceIte, sV, hL, hL.f, hJ, Lx.f]
    exact hq
  have b95 : ∀ N s (Q : Option Value → Mm → Prop), IS (gT G) N m → Q none (stX (reN N m (-2) s) m) → Run (gT G) (eX11_statement (gT G)) 0 0 (fun _ _ => none) Q (fun _ _ => False) kX11_statement 95 [.val (.ref m), .val (.int s)] [] N 0 0 := by
    intro N s Q hN hq
    have z := rz_re N m (-2) s
    have f := fin (reN N m (-2) s) s Q (hN.1.rz z) (hN.2.1.c z (by decide)).2 hq
    simp only [rX11_statement_102, kX11_statement_102, eX11_statement, S126, S151, S160, S161, S162, S163, S164, S166, S174, bk_c, if_true, if_false, wi_e, wl_e, wr_e, w1_i, w1_r, ldS_0, ldS_s, vi_e, vl_e, vr_e, dpL_u, dpL_i, dpL_r, dpL_l, stS_0, stS_1, stS_s, stL_0, stL_1, stL_s, bin_0, bin_1, bin_2, bin_3, bin_4, bin_5, bdv_0, bdv_1, lbin_0, lbin_1, lbin_2, cnd_0, cnd_1, cnd_2, cnd_3, cnd_4, cnd_5, aty_0, aty_1, aty_2, aty_3, aty_4, aty_5, c8_u, cn_0, cn_i, cn_r, cn_l, Nat.reduceAdd, Nat.reduceLeDiff, Nat.le_refl, adz, hnd_0, rcv_0, rcv_1, kLen_a, kLen_r, inB_e, inR_e, cpOK_e, swt_n, swt_c, List.take_succ_cons, List.take_zero, List.drop_succ_cons, List.drop_zero, List.reverse_cons, List.reverse_nil, List.nil_append, List.cons_append, List.length_cons, List.length_nil, Option.toList_some, Option.toList_none, det_e, det_x, tr_imp, fa_imp, implies_true, not_true, not_false_eq_true, and_true, true_and, nar_i, upd_s, st1_0, st1_1, st1_2, st1_3, st1_4, st1_5, st1_6, st1_7, st1_8, st1_9, st1_10, st1_11, st1_12, st1_13, st1_14, st1_15, st1_16, st1_17, st1_18, st1_19, st1_20, st1_21, st1_22, st1_23, st1_24, st1_25, st1_26, st1_27, st1_28, st1_29, st1_30, st1_31, st1_32, st1_33, st1_34, st1_35, st1_36, st1_37, st1_42, st1_43, st1_44, st1_46, st1_47, st1_48, st1_49, st1_50, st1_51, st1_52, st1_53, st1_54, st1_55, st1_56, st1_57, st1_58, st1_59, st1_60, Nat.reduceEqDiff, reduceIte, sV] at f
    rw [rX11_statement_95]
    simp only [kX11_statement_95, eX11_statement, S126, S151, S160, S161, S162, S163, S164, S166, S174, bk_c, if_true, if_false, wi_e, wl_e, wr_e, w1_i, w1_r, ldS_0, ldS_s, vi_e, vl_e, vr_e, dpL_u, dpL_i, dpL_r, dpL_l, stS_0, stS_1, stS_s, stL_0, stL_1, stL_s, bin_0, bin_1, bin_2, bin_3, bin_4, bin_5, bdv_0, bdv_1, lbin_0, lbin_1, lbin_2, cnd_0, cnd_1, cnd_2, cnd_3, cnd_4, cnd_5, aty_0, aty_1, aty_2, aty_3, aty_4, aty_5, c8_u, cn_0, cn_i, cn_r, cn_l, Nat.reduceAdd, Nat.reduceLeDiff, Nat.le_refl, adz, hnd_0, rcv_0, rcv_1, kLen_a, kLen_r, inB_e, inR_e, cpOK_e, swt_n, swt_c, List.take_succ_cons, List.take_zero, List.drop_succ_cons, List.drop_zero, List.reverse_cons, List.reverse_nil, List.nil_append, List.cons_append, List.length_cons, List.length_nil, Option.toList_some, Option.toList_none, det_e, det_x, tr_imp, fa_imp, implies_true, not_true, not_false_eq_true, and_true, true_and, nar_i, upd_s, st1_0, st1_1, st1_2, st1_3, st1_4, st1_5, st1_6, st1_7, st1_8, st1_9, st1_10, st1_11, st1_12, st1_13, st1_14, st1_15, st1_16, st1_17, st1_18, st1_19, st1_20, st1_21, st1_22, st1_23, st1_24, st1_25, st1_26, st1_27, st1_28, st1_29, st1_30, st1_31, st1_32, st1_33, st1_34, st1_35, st1_36, st1_37, st1_42, st1_43, st1_44, st1_46, st1_47, st1_48, st1_49, st1_50, st1_51, st1_52, st1_53, st1_54, st1_55, st1_56, st1_57, st1_58, st1_59, st1_60, Nat.reduceEqDiff, reduceIte, sV, hN.1, hN.1.f]
    exact f
  have b78 : ∀ N s (Q : Option Value → Mm → Prop), IS (gT G) N m → Q none (stX (w7N N m s) m) → Run (gT G) (eX11_statement (gT G)) 0 0 (fun _ _ => none) Q (fun _ _ => False) kX11_statement 78 [.val (.ref m), .val (.int s)] [] N 0 0 := by
    intro N s Q hN hq
    have h2 := hN.tw (w := 7) (by decide)
    have qs := hN.2.2.1 7 (by decide)
    unfold w7N at hq
    rw [rX11_statement_78]
    rcases tw_or N m 7 with t | t
    · rw [if_pos t] at hq
      simp only [kX11_statement_78, eX11_statement, S126, S151, S160, S161, S162, S163, S164, S166, S174, bk_c, if_true, if_false, wi_e, wl_e, wr_e, w1_i, w1_r, ldS_0, ldS_s, vi_e, vl_e, vr_e, dpL_u, dpL_i, dpL_r, dpL_l, stS_0, stS_1, stS_s, stL_0, stL_1, stL_s, bin_0, bin_1, bin_2, bin_3, bin_4, bin_5, bdv_0, bdv_1, lbin_0, lbin_1, lbin_2, cnd_0, cnd_1, cnd_2, cnd_3, cnd_4, cnd_5, aty_0, aty_1, aty_2, aty_3, aty_4, aty_5, c8_u, cn_0, cn_i, cn_r, cn_l, Nat.reduceAdd, Nat.reduceLeDiff, Nat.le_refl, adz, hnd_0, rcv_0, rcv_1, kLen_a, kLen_r, inB_e, inR_e, cpOK_e, swt_n, swt_c, List.take_succ_cons, List.take_zero, List.drop_succ_cons, List.drop_zero, List.reverse_cons, List.reverse_nil, List.nil_append, List.cons_append, List.length_cons, List.length_nil, Option.toList_some, Option.toList_none, det_e, det_x, tr_imp, fa_imp, implies_true, not_true, not_false_eq_true, and_true, true_and, nar_i, upd_s, st1_0, st1_1, st1_2, st1_3, st1_4, st1_5, st1_6, st1_7, st1_8, st1_9, st1_10, st1_11, st1_12, st1_13, st1_14, st1_15, st1_16, st1_17, st1_18, st1_19, st1_20, st1_21, st1_22, st1_23, st1_24, st1_25, st1_26, st1_27, st1_28, st1_29, st1_30, st1_31, st1_32, st1_33, st1_34, st1_35, st1_36, st1_37, st1_42, st1_43, st1_44, st1_46, st1_47, st1_48, st1_49, st1_50, st1_51, st1_52, st1_53, st1_54, st1_55, st1_56, st1_57, st1_58, st1_59, st1_60, Nat.reduceEqDiff, reduceIte, sV, hN.1, hN.1.f, hN.J, w7, qs, kSi_e, t]
      exact b95 _ s Q h2 hq
    · rw [if_neg (by rw [t]; decide)] at hq
      have z := rz_rf (twN N m 7).2 m s
      simp only [kX11_statement_78, eX11_statement, S126, S151, S160, S161, S162, S163, S164, S166, S174, bk_c, if_true, if_false, wi_e, wl_e, wr_e, w1_i, w1_r, ldS_0, ldS_s, vi_e, vl_e, vr_e, dpL_u, dpL_i, dpL_r, dpL_l, stS_0, stS_1, stS_s, stL_0, stL_1, stL_s, bin_0, bin_1, bin_2, bin_3, bin_4, bin_5, bdv_0, bdv_1, lbin_0, lbin_1, lbin_2, cnd_0, cnd_1, cnd_2, cnd_3, cnd_4, cnd_5, aty_0, aty_1, aty_2, aty_3, aty_4, aty_5, c8_u, cn_0, cn_i, cn_r, cn_l, Nat.reduceAdd, Nat.reduceLeDiff, Nat.le_refl, adz, hnd_0, rcv_0, rcv_1, kLen_a, kLen_r, inB_e, inR_e, cpOK_e, swt_n, swt_c, List.take_succ_cons, List.take_zero, List.drop_succ_cons, List.drop_zero, List.reverse_cons, List.reverse_nil, List.nil_append, List.cons_append, List.length_cons, List.length_nil, Option.toList_some, Option.toList_none, det_e, det_x, tr_imp, fa_imp, implies_true, not_true, not_false_eq_true, and_true, true_and, nar_i, upd_s, st1_0, st1_1, st1_2, st1_3, st1_4, st1_5, st1_6, st1_7, st1_8, st1_9, st1_10, st1_11, st1_12, st1_13, st1_14, st1_15, st1_16, st1_17, st1_18, st1_19, st1_20, st1_21, st1_22, st1_23, st1_24, st1_25, st1_26, st1_27, st1_28, st1_29, st1_30, st1_31, st1_32, st1_33, st1_34, st1_35, st1_36, st1_37, st1_42, st1_43, st1_44, st1_46, st1_47, st1_48, st1_49, st1_50, st1_51, st1_52, st1_53, st1_54, st1_55, st1_56, st1_57, st1_58, st1_59, st1_60, Nat.reduceEqDiff, reduceIte, sV, hN.1, hN.1.f, hN.J, w7, qs, kSi_e, t, i10, h2.1, h2.1.f, h2.2.1, h2.2.2.1, h2.2.2.2.1]
      exact fin _ s Q (h2.1.rz z) (h2.2.1.c z (by decide)).2 hq
  have b61 : ∀ N s (Q : Option Value → Mm → Prop), IS (gT G) N m → Q none (stX (w6N N m s) m) → Run (gT G) (eX11_statement (gT G)) 0 0 (fun _ _ => none) Q (fun _ _ => False) kX11_statement 61 [.val (.ref m), .val (.int s)] [] N 0 0 := by
    intro N s Q hN hq
    have h2 := hN.tw (w := 6) (by decide)
    have qs := hN.2.2.1 6 (by decide)
    unfold w6N at hq
    rw [rX11_statement_61]
    rcases tw_or N m 6 with t | t
    · rw [if_pos t] at hq
      simp only [kX11_statement_61, eX11_statement, S126, S151, S160, S161, S162, S163, S164, S166, S174, bk_c, if_true, if_false, wi_e, wl_e, wr_e, w1_i, w1_r, ldS_0, ldS_s, vi_e, vl_e, vr_e, dpL_u, dpL_i, dpL_r, dpL_l, stS_0, stS_1, stS_s, stL_0, stL_1, stL_s, bin_0, bin_1, bin_2, bin_3, bin_4, bin_5, bdv_0, bdv_1, lbin_0, lbin_1, lbin_2, cnd_0, cnd_1, cnd_2, cnd_3, cnd_4, cnd_5, aty_0, aty_1, aty_2, aty_3, aty_4, aty_5, c8_u, cn_0, cn_i, cn_r, cn_l, Nat.reduceAdd, Nat.reduceLeDiff, Nat.le_refl, adz, hnd_0, rcv_0, rcv_1, kLen_a, kLen_r, inB_e, inR_e, cpOK_e, swt_n, swt_c, List.take_succ_cons, List.take_zero, List.drop_succ_cons, List.drop_zero, List.reverse_cons, List.reverse_nil, List.nil_append, List.cons_append, List.length_cons, List.length_nil, Option.toList_some, Option.toList_none, det_e, det_x, tr_imp, fa_imp, implies_true, not_true, not_false_eq_true, and_true, true_and, nar_i, upd_s, st1_0, st1_1, st1_2, st1_3, st1_4, st1_5, st1_6, st1_7, st1_8, st1_9, st1_10, st1_11, st1_12, st1_13, st1_14, st1_15, st1_16, st1_17, st1_18, st1_19, st1_20, st1_21, st1_22, st1_23, st1_24, st1_25, st1_26, st1_27, st1_28, st1_29, st1_30, st1_31, st1_32, st1_33, st1_34, st1_35, st1_36, st1_37, st1_42, st1_43, st1_44, st1_46, st1_47, st1_48, st1_49, st1_50, st1_51, st1_52, st1_53, st1_54, st1_55, st1_56, st1_57, st1_58, st1_59, st1_60, Nat.reduceEqDiff, reduceIte, sV, hN.1, hN.1.f, hN.J, w6, qs, kSi_e, t]
      exact b78 _ s Q h2 hq
    · rw [if_neg (by rw [t]; decide)] at hq
      have z := rz_gu (twN N m 6).2 m s
      simp only [kX11_statement_61, eX11_statement, S126, S151, S160, S161, S162, S163, S164, S166, S174, bk_c, if_true, if_false, wi_e, wl_e, wr_e, w1_i, w1_r, ldS_0, ldS_s, vi_e, vl_e, vr_e, dpL_u, dpL_i, dpL_r, dpL_l, stS_0, stS_1, stS_s, stL_0, stL_1, stL_s, bin_0, bin_1, bin_2, bin_3, bin_4, bin_5, bdv_0, bdv_1, lbin_0, lbin_1, lbin_2, cnd_0, cnd_1, cnd_2, cnd_3, cnd_4, cnd_5, aty_0, aty_1, aty_2, aty_3, aty_4, aty_5, c8_u, cn_0, cn_i, cn_r, cn_l, Nat.reduceAdd, Nat.reduceLeDiff, Nat.le_refl, adz, hnd_0, rcv_0, rcv_1, kLen_a, kLen_r, inB_e, inR_e, cpOK_e, swt_n, swt_c, List.take_succ_cons, List.take_zero, List.drop_succ_cons, List.drop_zero, List.reverse_cons, List.reverse_nil, List.nil_append, List.cons_append, List.length_cons, List.length_nil, Option.toList_some, Option.toList_none, det_e, det_x, tr_imp, fa_imp, implies_true, not_true, not_false_eq_true, and_true, true_and, nar_i, upd_s, st1_0, st1_1, st1_2, st1_3, st1_4, st1_5, st1_6, st1_7, st1_8, st1_9, st1_10, st1_11, st1_12, st1_13, st1_14, st1_15, st1_16, st1_17, st1_18, st1_19, st1_20, st1_21, st1_22, st1_23, st1_24, st1_25, st1_26, st1_27, st1_28, st1_29, st1_30, st1_31, st1_32, st1_33, st1_34, st1_35, st1_36, st1_37, st1_42, st1_43, st1_44, st1_46, st1_47, st1_48, st1_49, st1_50, st1_51, st1_52, st1_53, st1_54, st1_55, st1_56, st1_57, st1_58, st1_59, st1_60, Nat.reduceEqDiff, reduceIte, sV, hN.1, hN.1.f, hN.J, w6, qs, kSi_e, t, i10, h2.1, h2.1.f, h2.J, h2.2.2.2.2.2.2.2]
      exact fin _ s Q (h2.1.rz z) (h2.2.1.c z (by decide)).2 hq
  have b44 : ∀ N s (Q : Option Value → Mm → Prop), IS (gT G) N m → Q none (stX (w5N N m s) m) → Run (gT G) (eX11_statement (gT G)) 0 0 (fun _ _ => none) Q (fun _ _ => False) kX11_statement 44 [.val (.ref m), .val (.int s)] [] N 0 0 := by
    intro N s Q hN hq
    have h2 := hN.tw (w := 5) (by decide)
    have qs := hN.2.2.1 5 (by decide)
    unfold w5N at hq
    rw [rX11_statement_44]
    rcases tw_or N m 5 with t | t
    · rw [if_pos t] at hq
      simp only [kX11_statement_44, eX11_statement, S126, S151, S160, S161, S162, S163, S164, S166, S174, bk_c, if_true, if_false, wi_e, wl_e, wr_e, w1_i, w1_r, ldS_0, ldS_s, vi_e, vl_e, vr_e, dpL_u, dpL_i, dpL_r, dpL_l, stS_0, stS_1, stS_s, stL_0, stL_1, stL_s, bin_0, bin_1, bin_2, bin_3, bin_4, bin_5, bdv_0, bdv_1, lbin_0, lbin_1, lbin_2, cnd_0, cnd_1, cnd_2, cnd_3, cnd_4, cnd_5, aty_0, aty_1, aty_2, aty_3, aty_4, aty_5, c8_u, cn_0, cn_i, cn_r, cn_l, Nat.reduceAdd, Nat.reduceLeDiff, Nat.le_refl, adz, hnd_0, rcv_0, rcv_1, kLen_a, kLen_r, inB_e, inR_e, cpOK_e, swt_n, swt_c, List.take_succ_cons, List.take_zero, List.drop_succ_cons, List.drop_zero, List.reverse_cons, List.reverse_nil, List.nil_append, List.cons_append, List.length_cons, List.length_nil, Option.toList_some, Option.toList_none, det_e, det_x, tr_imp, fa_imp, implies_true, not_true, not_false_eq_true, and_true, true_and, nar_i, upd_s, st1_0, st1_1, st1_2, st1_3, st1_4, st1_5, st1_6, st1_7, st1_8, st1_9, st1_10, st1_11, st1_12, st1_13, st1_14, st1_15, st1_16, st1_17, st1_18, st1_19, st1_20, st1_21, st1_22, st1_23, st1_24, st1_25, st1_26, st1_27, st1_28, st1_29, st1_30, st1_31, st1_32, st1_33, st1_34, st1_35, st1_36, st1_37, st1_42, st1_43, st1_44, st1_46, st1_47, st1_48, st1_49, st1_50, st1_51, st1_52, st1_53, st1_54, st1_55, st1_56, st1_57, st1_58, st1_59, st1_60, Nat.reduceEqDiff, reduceIte, sV, hN.1, hN.1.f, hN.J, w5, qs, kSi_e, t]
      exact b61 _ s Q h2 hq
    · rw [if_neg (by rw [t]; decide)] at hq
      have z := rz_mt (twN N m 5).2 m s
      simp only [kX11_statement_44, eX11_statement, S126, S151, S160, S161, S162, S163, S164, S166, S174, bk_c, if_true, if_false, wi_e, wl_e, wr_e, w1_i, w1_r, ldS_0, ldS_s, vi_e, vl_e, vr_e, dpL_u, dpL_i, dpL_r, dpL_l, stS_0, stS_1, stS_s, stL_0, stL_1, stL_s, bin_0, bin_1, bin_2, bin_3, bin_4, bin_5, bdv_0, bdv_1, lbin_0, lbin_1, lbin_2, cnd_0, cnd_1, cnd_2, cnd_3, cnd_4, cnd_5, aty_0, aty_1, aty_2, aty_3, aty_4, aty_5, c8_u, cn_0, cn_i, cn_r, cn_l, Nat.reduceAdd, Nat.reduceLeDiff, Nat.le_refl, adz, hnd_0, rcv_0, rcv_1, kLen_a, kLen_r, inB_e, inR_e, cpOK_e, swt_n, swt_c, List.take_succ_cons, List.take_zero, List.drop_succ_cons, List.drop_zero, List.reverse_cons, List.reverse_nil, List.nil_append, List.cons_append, List.length_cons, List.length_nil, Option.toList_some, Option.toList_none, det_e, det_x, tr_imp, fa_imp, implies_true, not_true, not_false_eq_true, and_true, true_and, nar_i, upd_s, st1_0, st1_1, st1_2, st1_3, st1_4, st1_5, st1_6, st1_7, st1_8, st1_9, st1_10, st1_11, st1_12, st1_13, st1_14, st1_15, st1_16, st1_17, st1_18, st1_19, st1_20, st1_21, st1_22, st1_23, st1_24, st1_25, st1_26, st1_27, st1_28, st1_29, st1_30, st1_31, st1_32, st1_33, st1_34, st1_35, st1_36, st1_37, st1_42, st1_43, st1_44, st1_46, st1_47, st1_48, st1_49, st1_50, st1_51, st1_52, st1_53, st1_54, st1_55, st1_56, st1_57, st1_58, st1_59, st1_60, Nat.reduceEqDiff, reduceIte, sV, hN.1, hN.1.f, hN.J, w5, qs, kSi_e, t, i10, h2.1, h2.1.f, h2.J, h2.2.2.2.2.2.2.1]
      exact fin _ s Q (h2.1.rz z) (h2.2.1.c z (by decide)).2 hq
  have b27 : ∀ N s (Q : Option Value → Mm → Prop), IS (gT G) N m → Q none (stX (w3N N m s) m) → Run (gT G) (eX11_statement (gT G)) 0 0 (fun _ _ => none) Q (fun _ _ => False) kX11_statement 27 [.val (.ref m), .val (.int s)] [] N 0 0 := by
    intro N s Q hN hq
    have h2 := hN.tw (w := 3) (by decide)
    have qs := hN.2.2.1 3 (by decide)
    unfold w3N at hq
    rw [rX11_statement_27]
    rcases tw_or N m 3 with t | t
    · rw [if_pos t] at hq
      simp only [kX11_statement_27, eX11_statement, S126, S151, S160, S161, S162, S163, S164, S166, S174, bk_c, if_true, if_false, wi_e, wl_e, wr_e, w1_i, w1_r, ldS_0, ldS_s, vi_e, vl_e, vr_e, dpL_u, dpL_i, dpL_r, dpL_l, stS_0, stS_1, stS_s, stL_0, stL_1, stL_s, bin_0, bin_1, bin_2, bin_3, bin_4, bin_5, bdv_0, bdv_1, lbin_0, lbin_1, lbin_2, cnd_0, cnd_1, cnd_2, cnd_3, cnd_4, cnd_5, aty_0, aty_1, aty_2, aty_3, aty_4, aty_5, c8_u, cn_0, cn_i, cn_r, cn_l, Nat.reduceAdd, Nat.reduceLeDiff, Nat.le_refl, adz, hnd_0, rcv_0, rcv_1, kLen_a, kLen_r, inB_e, inR_e, cpOK_e, swt_n, swt_c, List.take_succ_cons, List.take_zero, List.drop_succ_cons, List.drop_zero, List.reverse_cons, List.reverse_nil, List.nil_append, List.cons_append, List.length_cons, List.length_nil, Option.toList_some, Option.toList_none, det_e, det_x, tr_imp, fa_imp, implies_true, not_true, not_false_eq_true, and_true, true_and, nar_i, upd_s, st1_0, st1_1, st1_2, st1_3, st1_4, st1_5, st1_6, st1_7, st1_8, st1_9, st1_10, st1_11, st1_12, st1_13, st1_14, st1_15, st1_16, st1_17, st1_18, st1_19, st1_20, st1_21, st1_22, st1_23, st1_24, st1_25, st1_26, st1_27, st1_28, st1_29, st1_30, st1_31, st1_32, st1_33, st1_34, st1_35, st1_36, st1_37, st1_42, st1_43, st1_44, st1_46, st1_47, st1_48, st1_49, st1_50, st1_51, st1_52, st1_53, st1_54, st1_55, st1_56, st1_57, st1_58, st1_59, st1_60, Nat.reduceEqDiff, reduceIte, sV, hN.1, hN.1.f, hN.J, w3, qs, kSi_e, t]
      exact b44 _ s Q h2 hq
    · rw [if_neg (by rw [t]; decide)] at hq
      have z := rz_mg (twN N m 3).2 m s
      simp only [kX11_statement_27, eX11_statement, S126, S151, S160, S161, S162, S163, S164, S166, S174, bk_c, if_true, if_false, wi_e, wl_e, wr_e, w1_i, w1_r, ldS_0, ldS_s, vi_e, vl_e, vr_e, dpL_u, dpL_i, dpL_r, dpL_l, stS_0, stS_1, stS_s, stL_0, stL_1, stL_s, bin_0, bin_1, bin_2, bin_3, bin_4, bin_5, bdv_0, bdv_1, lbin_0, lbin_1, lbin_2, cnd_0, cnd_1, cnd_2, cnd_3, cnd_4, cnd_5, aty_0, aty_1, aty_2, aty_3, aty_4, aty_5, c8_u, cn_0, cn_i, cn_r, cn_l, Nat.reduceAdd, Nat.reduceLeDiff, Nat.le_refl, adz, hnd_0, rcv_0, rcv_1, kLen_a, kLen_r, inB_e, inR_e, cpOK_e, swt_n, swt_c, List.take_succ_cons, List.take_zero, List.drop_succ_cons, List.drop_zero, List.reverse_cons, List.reverse_nil, List.nil_append, List.cons_append, List.length_cons, List.length_nil, Option.toList_some, Option.toList_none, det_e, det_x, tr_imp, fa_imp, implies_true, not_true, not_false_eq_true, and_true, true_and, nar_i, upd_s, st1_0, st1_1, st1_2, st1_3, st1_4, st1_5, st1_6, st1_7, st1_8, st1_9, st1_10, st1_11, st1_12, st1_13, st1_14, st1_15, st1_16, st1_17, st1_18, st1_19, st1_20, st1_21, st1_22, st1_23, st1_24, st1_25, st1_26, st1_27, st1_28, st1_29, st1_30, st1_31, st1_32, st1_33, st1_34, st1_35, st1_36, st1_37, st1_42, st1_43, st1_44, st1_46, st1_47, st1_48, st1_49, st1_50, st1_51, st1_52, st1_53, st1_54, st1_55, st1_56, st1_57, st1_58, st1_59, st1_60, Nat.reduceEqDiff, reduceIte, sV, hN.1, hN.1.f, hN.J, w3, qs, kSi_e, t, i10, h2.1, h2.1.f, h2.J, h2.2.2.1, h2.2.2.2.2.2.1]
      exact fin _ s Q (h2.1.rz z) (h2.2.1.c z (by decide)).2 hq
  have hN := hI.nx
  have h2 := hN.tw (w := 0) (by decide)
  have qs := hN.2.2.1 0 (by decide)
  have e4 : gI (nxN M m) m 4 = nI (nxp M m) := nx_e.1
  have wS : sgS M m = stX (if (twN (nxN M m) m 0).1 = 0 then w3N (twN (nxN M m) m 0).2 m (nI (nxp M m)) else mcM (twN (nxN M m) m 0).2 m (nI (nxp M m))) m := rfl
  rcases tw_or (nxN M m) m 0 with t | t
  · rw [if_pos t] at wS
    simp only [rX11_statement_0, kX11_statement_0, eX11_statement, S126, S151, S160, S161, S162, S163, S164, S166, S174, bk_c, if_true, if_false, wi_e, wl_e, wr_e, w1_i, w1_r, ldS_0, ldS_s, vi_e, vl_e, vr_e, dpL_u, dpL_i, dpL_r, dpL_l, stS_0, stS_1, stS_s, stL_0, stL_1, stL_s, bin_0, bin_1, bin_2, bin_3, bin_4, bin_5, bdv_0, bdv_1, lbin_0, lbin_1, lbin_2, cnd_0, cnd_1, cnd_2, cnd_3, cnd_4, cnd_5, aty_0, aty_1, aty_2, aty_3, aty_4, aty_5, c8_u, cn_0, cn_i, cn_r, cn_l, Nat.reduceAdd, Nat.reduceLeDiff, Nat.le_refl, adz, hnd_0, rcv_0, rcv_1, kLen_a, kLen_r, inB_e, inR_e, cpOK_e, swt_n, swt_c, List.take_succ_cons, List.take_zero, List.drop_succ_cons, List.drop_zero, List.reverse_cons, List.reverse_nil, List.nil_append, List.cons_append, List.length_cons, List.length_nil, Option.toList_some, Option.toList_none, det_e, det_x, tr_imp, fa_imp, implies_true, not_true, not_false_eq_true, and_true, true_and, nar_i, upd_s, st1_0, st1_1, st1_2, st1_3, st1_4, st1_5, st1_6, st1_7, st1_8, st1_9, st1_10, st1_11, st1_12, st1_13, st1_14, st1_15, st1_16, st1_17, st1_18, st1_19, st1_20, st1_21, st1_22, st1_23, st1_24, st1_25, st1_26, st1_27, st1_28, st1_29, st1_30, st1_31, st1_32, st1_33, st1_34, st1_35, st1_36, st1_37, st1_42, st1_43, st1_44, st1_46, st1_47, st1_48, st1_49, st1_50, st1_51, st1_52, st1_53, st1_54, st1_55, st1_56, st1_57, st1_58, st1_59, st1_60, Nat.reduceEqDiff, reduceIte, sV, hI.1, hI.1.f, hI.J, hN.1, hN.1.f, hN.J, e4, w0, qs, kSi_e, t]
    exact b27 _ _ _ h2 ⟨rfl, wS.symm⟩
  · rw [if_neg (by rw [t]; decide)] at wS
    have z := rz_mc (twN (nxN M m) m 0).2 m (nI (nxp M m))
    simp only [rX11_statement_0, kX11_statement_0, eX11_statement, S126, S151, S160, S161, S162, S163, S164, S166, S174, bk_c, if_true, if_false, wi_e, wl_e, wr_e, w1_i, w1_r, ldS_0, ldS_s, vi_e, vl_e, vr_e, dpL_u, dpL_i, dpL_r, dpL_l, stS_0, stS_1, stS_s, stL_0, stL_1, stL_s, bin_0, bin_1, bin_2, bin_3, bin_4, bin_5, bdv_0, bdv_1, lbin_0, lbin_1, lbin_2, cnd_0, cnd_1, cnd_2, cnd_3, cnd_4, cnd_5, aty_0, aty_1, aty_2, aty_3, aty_4, aty_5, c8_u, cn_0, cn_i, cn_r, cn_l, Nat.reduceAdd, Nat.reduceLeDiff, Nat.le_refl, adz, hnd_0, rcv_0, rcv_1, kLen_a, kLen_r, inB_e, inR_e, cpOK_e, swt_n, swt_c, List.take_succ_cons, List.take_zero, List.drop_succ_cons, List.drop_zero, List.reverse_cons, List.reverse_nil, List.nil_append, List.cons_append, List.length_cons, List.length_nil, Option.toList_some, Option.toList_none, det_e, det_x, tr_imp, fa_imp, implies_true, not_true, not_false_eq_true, and_true, true_and, nar_i, upd_s, st1_0, st1_1, st1_2, st1_3, st1_4, st1_5, st1_6, st1_7, st1_8, st1_9, st1_10, st1_11, st1_12, st1_13, st1_14, st1_15, st1_16, st1_17, st1_18, st1_19, st1_20, st1_21, st1_22, st1_23, st1_24, st1_25, st1_26, st1_27, st1_28, st1_29, st1_30, st1_31, st1_32, st1_33, st1_34, st1_35, st1_36, st1_37, st1_42, st1_43, st1_44, st1_46, st1_47, st1_48, st1_49, st1_50, st1_51, st1_52, st1_53, st1_54, st1_55, st1_56, st1_57, st1_58, st1_59, st1_60, Nat.reduceEqDiff, reduceIte, sV, hI.1, hI.1.f, hI.J, hN.1, hN.1.f, hN.J, e4, w0, qs, kSi_e, t, i10, h2.1, h2.1.f, h2.J, h2.2.2.1, h2.2.2.2.2.1]
    exact fin _ _ _ (h2.1.rz z) (h2.2.1.c z (by decide)).2 ⟨rfl, wS.symm⟩
