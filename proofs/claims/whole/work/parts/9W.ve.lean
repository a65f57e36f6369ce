/-! ===== the law's run ===== -/
section LOOP9
variable {T : Nat → Nat} {s x m o n : Nat}
theorem lw_exit {i : Nat} (hn : n ≤ 3072) (hi : i ≤ 4000) (h : n < i + 6) : nI n - 6 < nI i := by
  have e6 : (6 : Int32).toInt = 6 := rfl
  rw [t_lt, t_sub (by rw [t_nI (by omega), e6]; omega) (by rw [t_nI (by omega), e6]; omega), t_nI (by omega), t_nI (by omega), e6]
  omega
theorem lw_stay {i : Nat} (hn : n ≤ 3072) (h : i + 6 ≤ n) : ¬ nI n - 6 < nI i := by
  have e6 : (6 : Int32).toInt = 6 := rfl
  rw [t_lt, t_sub (by rw [t_nI (by omega), e6]; omega) (by rw [t_nI (by omega), e6]; omega), t_nI (by omega), t_nI (by omega), e6]
  omega
theorem lw_end (M : Mm) (nc ns : Nat) (L : List Slot) : RR T 1573 L [] M nc ns := by
  unfold RR
  rw [rW_law_1573]
  simp only [kW_law_1573, bk_c, if_true, if_false, wi_e, wl_e, wr_e, w1_i, w1_r, ldS_0, ldS_s, vi_e, vl_e, vr_e, dpL_u, dpL_i, dpL_r, dpL_l, stS_0, stS_1, stS_s, stL_0, stL_1, stL_s, bin_0, bin_1, bin_2, bin_3, bin_4, bin_5, bdv_0, bdv_1, lbin_0, lbin_1, lbin_2, cnd_0, cnd_1, cnd_2, cnd_3, cnd_4, cnd_5, aty_0, aty_1, aty_2, aty_3, aty_4, aty_5, c8_u, cn_0, cn_i, cn_r, cn_l, Nat.reduceAdd, Nat.reduceLeDiff, Nat.le_refl, adz, hnd_0, rcv_0, rcv_1, kLen_a, kLen_r, inB_e, inR_e, cpOK_e, swt_n, swt_c, List.take_succ_cons, List.take_zero, List.drop_succ_cons, List.drop_zero, List.reverse_cons, List.reverse_nil, List.nil_append, List.cons_append, List.length_cons, List.length_nil, Option.toList_some, Option.toList_none, det_e, det_x, tr_imp, fa_imp, implies_true, not_true, not_false_eq_true, and_true, true_and, nar_i, upd_s, st1_0, st1_1, st1_2, st1_3, st1_4, st1_5, st1_6, st1_7, st1_8, st1_9, st1_10, st1_11, st1_12, st1_13, st1_14, st1_15, st1_16, st1_17, st1_18, st1_19, st1_20, st1_21, st1_22, st1_23, st1_24, st1_25, st1_26, st1_27, st1_28, st1_29, st1_30, st1_31, st1_32, st1_33, st1_34, st1_35, st1_36, st1_37, st1_42, st1_43, st1_44, st1_46, st1_47, st1_48, st1_49, st1_50, st1_51, st1_52, st1_53, st1_54, st1_55, st1_56, st1_57, st1_58, st1_59, st1_60]
  exact rfl
theorem lw_loop (hn : n ≤ 3072) : ∀ r i M nc ns a b c, n ≤ i + 6 * r → i ≤ 4000 → LI T M s x m o n → nc + 2 * r ≤ 601024 → ns + 12 * r ≤ 7293034 → RR T 23 [.val (.ref s), .val (.ref x), .val (.ref m), .val (.ref o), .val (.int (nI i)), a, b, c] [] M nc ns := by
  intro r
  induction r with
  | zero =>
    intro i M nc ns a b c h1 h2 hI h3 h4
    have ks := hI.2.2.1
    have g : (nI n - 6 < nI i) = True := eq_true (lw_exit hn h2 (by omega))
    unfold RR
    rw [rW_law_23]
    simp only [kW_law_23, bk_c, if_true, if_false, wi_e, wl_e, wr_e, w1_i, w1_r, ldS_0, ldS_s, vi_e, vl_e, vr_e, dpL_u, dpL_i, dpL_r, dpL_l, stS_0, stS_1, stS_s, stL_0, stL_1, stL_s, bin_0, bin_1, bin_2, bin_3, bin_4, bin_5, bdv_0, bdv_1, lbin_0, lbin_1, lbin_2, cnd_0, cnd_1, cnd_2, cnd_3, cnd_4, cnd_5, aty_0, aty_1, aty_2, aty_3, aty_4, aty_5, c8_u, cn_0, cn_i, cn_r, cn_l, Nat.reduceAdd, Nat.reduceLeDiff, Nat.le_refl, adz, hnd_0, rcv_0, rcv_1, kLen_a, kLen_r, inB_e, inR_e, cpOK_e, swt_n, swt_c, List.take_succ_cons, List.take_zero, List.drop_succ_cons, List.drop_zero, List.reverse_cons, List.reverse_nil, List.nil_append, List.cons_append, List.length_cons, List.length_nil, Option.toList_some, Option.toList_none, det_e, det_x, tr_imp, fa_imp, implies_true, not_true, not_false_eq_true, and_true, true_and, nar_i, upd_s, st1_0, st1_1, st1_2, st1_3, st1_4, st1_5, st1_6, st1_7, st1_8, st1_9, st1_10, st1_11, st1_12, st1_13, st1_14, st1_15, st1_16, st1_17, st1_18, st1_19, st1_20, st1_21, st1_22, st1_23, st1_24, st1_25, st1_26, st1_27, st1_28, st1_29, st1_30, st1_31, st1_32, st1_33, st1_34, st1_35, st1_36, st1_37, st1_42, st1_43, st1_44, st1_46, st1_47, st1_48, st1_49, st1_50, st1_51, st1_52, st1_53, st1_54, st1_55, st1_56, st1_57, st1_58, st1_59, st1_60, ks, g]
    exact lw_end _ _ _ _
  | succ r ih =>
    intro i M nc ns a b c h1 h2 hI h3 h4
    have ks := hI.2.2.1
    by_cases hi : i + 6 ≤ n
    · have g : (nI n - 6 < nI i) = False := eq_false (lw_stay hn hi)
      have b0 : inR (kR n) (nI i) = True := eq_true (vp_in_nI (show i < n by omega) (by omega))
      have nx : NX9 T s x m o n i nc ns := by
        intro M' a b c nc' ns' hI' h5 h6
        unfold RR
        rw [rW_law_1567]
        simp only [kW_law_1567, bk_c, if_true, if_false, wi_e, wl_e, wr_e, w1_i, w1_r, ldS_0, ldS_s, vi_e, vl_e, vr_e, dpL_u, dpL_i, dpL_r, dpL_l, stS_0, stS_1, stS_s, stL_0, stL_1, stL_s, bin_0, bin_1, bin_2, bin_3, bin_4, bin_5, bdv_0, bdv_1, lbin_0, lbin_1, lbin_2, cnd_0, cnd_1, cnd_2, cnd_3, cnd_4, cnd_5, aty_0, aty_1, aty_2, aty_3, aty_4, aty_5, c8_u, cn_0, cn_i, cn_r, cn_l, Nat.reduceAdd, Nat.reduceLeDiff, Nat.le_refl, adz, hnd_0, rcv_0, rcv_1, kLen_a, kLen_r, inB_e, inR_e, cpOK_e, swt_n, swt_c, List.take_succ_cons, List.take_zero, List.drop_succ_cons, List.drop_zero, List.reverse_cons, List.reverse_nil, List.nil_append, List.cons_append, List.length_cons, List.length_nil, Option.toList_some, Option.toList_none, det_e, det_x, tr_imp, fa_imp, implies_true, not_true, not_false_eq_true, and_true, true_and, nar_i, upd_s, st1_0, st1_1, st1_2, st1_3, st1_4, st1_5, st1_6, st1_7, st1_8, st1_9, st1_10, st1_11, st1_12, st1_13, st1_14, st1_15, st1_16, st1_17, st1_18, st1_19, st1_20, st1_21, st1_22, st1_23, st1_24, st1_25, st1_26, st1_27, st1_28, st1_29, st1_30, st1_31, st1_32, st1_33, st1_34, st1_35, st1_36, st1_37, st1_42, st1_43, st1_44, st1_46, st1_47, st1_48, st1_49, st1_50, st1_51, st1_52, st1_53, st1_54, st1_55, st1_56, st1_57, st1_58, st1_59, st1_60]
        rw [show nI i + 6 = nI (i + 6) from nI_add i 6]
        exact ih (i + 6) M' nc' ns' a b c (by omega) (by omega) hI' (by omega) (by omega)
      have hc : nc + 2 ≤ 601024 := by omega
      have hs : ns + 12 ≤ 7293034 := by omega
      unfold RR
      rw [rW_law_23]
      simp only [kW_law_23, bk_c, if_true, if_false, wi_e, wl_e, wr_e, w1_i, w1_r, ldS_0, ldS_s, vi_e, vl_e, vr_e, dpL_u, dpL_i, dpL_r, dpL_l, stS_0, stS_1, stS_s, stL_0, stL_1, stL_s, bin_0, bin_1, bin_2, bin_3, bin_4, bin_5, bdv_0, bdv_1, lbin_0, lbin_1, lbin_2, cnd_0, cnd_1, cnd_2, cnd_3, cnd_4, cnd_5, aty_0, aty_1, aty_2, aty_3, aty_4, aty_5, c8_u, cn_0, cn_i, cn_r, cn_l, Nat.reduceAdd, Nat.reduceLeDiff, Nat.le_refl, adz, hnd_0, rcv_0, rcv_1, kLen_a, kLen_r, inB_e, inR_e, cpOK_e, swt_n, swt_c, List.take_succ_cons, List.take_zero, List.drop_succ_cons, List.drop_zero, List.reverse_cons, List.reverse_nil, List.nil_append, List.cons_append, List.length_cons, List.length_nil, Option.toList_some, Option.toList_none, det_e, det_x, tr_imp, fa_imp, implies_true, not_true, not_false_eq_true, and_true, true_and, nar_i, upd_s, st1_0, st1_1, st1_2, st1_3, st1_4, st1_5, st1_6, st1_7, st1_8, st1_9, st1_10, st1_11, st1_12, st1_13, st1_14, st1_15, st1_16, st1_17, st1_18, st1_19, st1_20, st1_21, st1_22, st1_23, st1_24, st1_25, st1_26, st1_27, st1_28, st1_29, st1_30, st1_31, st1_32, st1_33, st1_34, st1_35, st1_36, st1_37, st1_42, st1_43, st1_44, st1_46, st1_47, st1_48, st1_49, st1_50, st1_51, st1_52, st1_53, st1_54, st1_55, st1_56, st1_57, st1_58, st1_59, st1_60, ks, g, b0]
      exact ⟨fun _ => nx _ _ _ _ _ _ hI (by omega) (by omega), fun _ => lw_172 hI hi hn hc hs a b c nx, fun _ => lw_245 hI hi hn hc hs a b c nx, fun _ => lw_301 hI hi hn hc hs a b c nx, fun _ => lw_314 hI hi hn hc hs a b c nx, fun _ => lw_327 hI hi hn hc hs a b c nx, fun _ => lw_340 hI hi hn hc hs a b c nx, fun _ => lw_353 hI hi hn hc hs a b c nx, fun _ => lw_366 hI hi hn hc hs a b c nx, fun _ => lw_422 hI hi hn hc hs a b c nx, fun _ => lw_478 hI hi hn hc hs a b c nx, fun _ => lw_491 hI hi hn hc hs a b c nx, fun _ => lw_547 hI hi hn hc hs a b c nx, fun _ => lw_615 hI hi hn hc hs a b c nx, fun _ => lw_671 hI hi hn hc hs a b c nx, fun _ => lw_734 hI hi hn hc hs a b c nx, fun _ => lw_797 hI hi hn hc hs a b c nx, fun _ => lw_853 hI hi hn hc hs a b c nx, fun _ => lw_909 hI hi hn hc hs a b c nx, fun _ => lw_965 hI hi hn hc hs a b c nx, fun _ => lw_1021 hI hi hn hc hs a b c nx, fun _ => lw_1076 hI hi hn hc hs a b c nx, fun _ => lw_1144 hI hi hn hc hs a b c nx, fun _ => lw_1212 hI hi hn hc hs a b c nx, fun _ => lw_1280 hI hi hn hc hs a b c nx, fun _ => lw_1360 hI hi hn hc hs a b c nx, fun _ => lw_1416 hI hi hn hc hs a b c nx, fun _ => lw_1472 hI hi hn hc hs a b c nx, fun _ => lw_1540 hI hi hn hc hs a b c nx, fun _ => lw_1553 hI hi hn hc hs a b c nx⟩
    · have g : (nI n - 6 < nI i) = True := eq_true (lw_exit hn h2 (by omega))
      unfold RR
      rw [rW_law_23]
      simp only [kW_law_23, bk_c, if_true, if_false, wi_e, wl_e, wr_e, w1_i, w1_r, ldS_0, ldS_s, vi_e, vl_e, vr_e, dpL_u, dpL_i, dpL_r, dpL_l, stS_0, stS_1, stS_s, stL_0, stL_1, stL_s, bin_0, bin_1, bin_2, bin_3, bin_4, bin_5, bdv_0, bdv_1, lbin_0, lbin_1, lbin_2, cnd_0, cnd_1, cnd_2, cnd_3, cnd_4, cnd_5, aty_0, aty_1, aty_2, aty_3, aty_4, aty_5, c8_u, cn_0, cn_i, cn_r, cn_l, Nat.reduceAdd, Nat.reduceLeDiff, Nat.le_refl, adz, hnd_0, rcv_0, rcv_1, kLen_a, kLen_r, inB_e, inR_e, cpOK_e, swt_n, swt_c, List.take_succ_cons, List.take_zero, List.drop_succ_cons, List.drop_zero, List.reverse_cons, List.reverse_nil, List.nil_append, List.cons_append, List.length_cons, List.length_nil, Option.toList_some, Option.toList_none, det_e, det_x, tr_imp, fa_imp, implies_true, not_true, not_false_eq_true, and_true, true_and, nar_i, upd_s, st1_0, st1_1, st1_2, st1_3, st1_4, st1_5, st1_6, st1_7, st1_8, st1_9, st1_10, st1_11, st1_12, st1_13, st1_14, st1_15, st1_16, st1_17, st1_18, st1_19, st1_20, st1_21, st1_22, st1_23, st1_24, st1_25, st1_26, st1_27, st1_28, st1_29, st1_30, st1_31, st1_32, st1_33, st1_34, st1_35, st1_36, st1_37, st1_42, st1_43, st1_44, st1_46, st1_47, st1_48, st1_49, st1_50, st1_51, st1_52, st1_53, st1_54, st1_55, st1_56, st1_57, st1_58, st1_59, st1_60, ks, g]
      exact lw_end _ _ _ _
end LOOP9
theorem LM.l {M N : Mm} {m : Nat} (h : LM M m) (e : ∀ q, q < m + 17 → gK N q = gK M q ∧ gP N q = gP M q) : LM N m := by
  obtain ⟨h1, h2, ⟨a1, a2, a3, a4, a5, a6, a7, a8⟩, h4⟩ := h
  refine ⟨(e _ (by omega)).1.trans h1, by rw [(e m (by omega)).2]; exact h2, ⟨(e _ (by omega)).1.trans a1, (e _ (by omega)).1.trans a2, (e _ (by omega)).1.trans a3, (e _ (by omega)).1.trans a4, (e _ (by omega)).1.trans a5, (e _ (by omega)).1.trans a6, (e _ (by omega)).1.trans a7, (e _ (by omega)).1.trans a8⟩, fun i hi => ⟨?_, (e _ (by omega)).1.trans (h4 i hi).2⟩⟩
  rw [(e (m + 5) (by omega)).2]
  exact (h4 i hi).1
theorem nO_o (M : Mm) (k : Kd) {q : Nat} (h : q < gZ M) : gK (nO M k) q = gK M q ∧ gI (nO M k) q = gI M q ∧ gJ (nO M k) q = gJ M q ∧ gP (nO M k) q = gP M q := by
  have hn : q ≠ gZ M := by omega
  rw [gK_nO, gI_nO, gJ_nO, gP_nO, up_n _ _ hn, up_n _ _ hn, up_n _ _ hn, up_n _ _ hn]
  exact ⟨rfl, rfl, rfl, rfl⟩
/-- both objects and the answer's cell are there -/
theorem lw_li {T : Nat → Nat} {M N1 N3 : Mm} {s n : Nat} (hT : ∀ i, i < 10 → T i < gZ M) (hST : STR T M) (ks : gK M s = kR n) (hs : s < gZ M) (h1 : NX (nO M (kO 10)) N1 (gZ M)) (h3 : NM (nO N1 (kO 11)) N3 (gZ M + 358)) : LI T (nO N3 (kA .long 1)) s (gZ M) (gZ M + 358) (gZ M + 358 + 17) n := by
  have z1 : gZ N1 = gZ M + 358 := h1.1
  have z3 : gZ N3 = gZ M + 358 + 17 := h3.1
  have b1 : ∀ q, q < gZ M → gK N1 q = gK M q := fun q hq => (h1.2.1 q hq).1.trans (nO_o M _ hq).1
  have b3 : ∀ q, q < gZ M + 358 → gK N3 q = gK N1 q ∧ gI N3 q = gI N1 q ∧ gJ N3 q = gJ N1 q ∧ gP N3 q = gP N1 q := fun q hq => by
    obtain ⟨a1, a2, a3, a4⟩ := h3.2.1 q hq
    obtain ⟨c1, c2, c3, c4⟩ := nO_o N1 (kO 11) (show q < gZ N1 by omega)
    exact ⟨a1.trans c1, a2.trans c2, a3.trans c3, a4.trans c4⟩
  have b4 : ∀ q, q < gZ M + 358 + 17 → gK (nO N3 (kA .long 1)) q = gK N3 q ∧ gI (nO N3 (kA .long 1)) q = gI N3 q ∧ gJ (nO N3 (kA .long 1)) q = gJ N3 q ∧ gP (nO N3 (kA .long 1)) q = gP N3 q := fun q hq => nO_o N3 _ (by omega)
  have kk : ∀ q, q < gZ M → gK (nO N3 (kA .long 1)) q = gK M q := fun q hq => (b4 q (by omega)).1.trans ((b3 q (by omega)).1.trans (b1 q hq))
  obtain ⟨-, -, hLM, om, or⟩ := h3
  refine ⟨(xs_new h1 (fun q hq => ?_) (hLM.l (fun q hq => ⟨(b4 q hq).1, (b4 q hq).2.2.2⟩)) ?_ (fun i a b c => ?_)).1, fun i hi => ?_, ?_, ?_, hs, Nat.le_refl _⟩
  · obtain ⟨a1, a2, a3, a4⟩ := b4 q (by omega)
    obtain ⟨c1, c2, c3, c4⟩ := b3 q hq
    exact ⟨a1.trans c1, a2.trans c2, a3.trans c3, a4.trans c4⟩
  · exact (b4 _ (by omega)).2.1.trans om
  · exact (b4 _ (by omega)).2.1.trans (or i a b c)
  · exact (kk _ (hT i hi)).trans (hST i hi)
  · exact (kk _ hs).trans ks
  · rw [gK_nO, z3, up_s]
theorem lw_run {T : Nat → Nat} {M : Mm} {s n : Nat} (hn : n ≤ 3072) (hT : ∀ i, i < 10 → T i < gZ M) (hST : STR T M) (ks : gK M s = kR n) (hs : s < gZ M) : RR T 0 [.val (.ref s), .unset, .unset, .unset, .unset, .unset, .unset, .unset] [] M 0 0 := by
  have ta : (1 : Int32).toNatClampNeg = 1 := rfl
  unfold RR
  rw [rW_law_0]
  simp only [kW_law_0, eW_law, S92, S142, bk_c, if_true, if_false, wi_e, wl_e, wr_e, w1_i, w1_r, ldS_0, ldS_s, vi_e, vl_e, vr_e, dpL_u, dpL_i, dpL_r, dpL_l, stS_0, stS_1, stS_s, stL_0, stL_1, stL_s, bin_0, bin_1, bin_2, bin_3, bin_4, bin_5, bdv_0, bdv_1, lbin_0, lbin_1, lbin_2, cnd_0, cnd_1, cnd_2, cnd_3, cnd_4, cnd_5, aty_0, aty_1, aty_2, aty_3, aty_4, aty_5, c8_u, cn_0, cn_i, cn_r, cn_l, Nat.reduceAdd, Nat.reduceLeDiff, Nat.le_refl, adz, hnd_0, rcv_0, rcv_1, kLen_a, kLen_r, inB_e, inR_e, cpOK_e, swt_n, swt_c, List.take_succ_cons, List.take_zero, List.drop_succ_cons, List.drop_zero, List.reverse_cons, List.reverse_nil, List.nil_append, List.cons_append, List.length_cons, List.length_nil, Option.toList_some, Option.toList_none, det_e, det_x, tr_imp, fa_imp, implies_true, not_true, not_false_eq_true, and_true, true_and, nar_i, upd_s, st1_0, st1_1, st1_2, st1_3, st1_4, st1_5, st1_6, st1_7, st1_8, st1_9, st1_10, st1_11, st1_12, st1_13, st1_14, st1_15, st1_16, st1_17, st1_18, st1_19, st1_20, st1_21, st1_22, st1_23, st1_24, st1_25, st1_26, st1_27, st1_28, st1_29, st1_30, st1_31, st1_32, st1_33, st1_34, st1_35, st1_36, st1_37, st1_42, st1_43, st1_44, st1_46, st1_47, st1_48, st1_49, st1_50, st1_51, st1_52, st1_53, st1_54, st1_55, st1_56, st1_57, st1_58, st1_59, st1_60, Nat.reduceEqDiff, reduceIte, det_r, Nat.zero_add, Nat.reduceLeDiff, Nat.reduceMul, ta]
  refine ⟨FO.n M 10 rfl, fun N1 h1 => ?_⟩
  have z1 : gZ N1 = gZ M + 358 := h1.1
  rw [z1]
  refine ⟨FO.n N1 11 z1, fun N3 h3 => ⟨by decide, ?_⟩⟩
  have z3 : gZ N3 = gZ M + 358 + 17 := h3.1
  rw [z3]
  exact lw_loop hn 512 0 _ _ _ _ _ _ (by omega) (by omega) (lw_li hT hST ks hs h1 h3) (by omega) (by omega)
