/-! ===== History's constructor: its loop ===== -/
def HI (M N : Mm) (h i : Nat) : Prop := gZ N = h + 2 + 32 * i ∧ (∀ q, q < h → gK N q = gK M q ∧ gI N q = gI M q ∧ gJ N q = gJ M q ∧ gP N q = gP M q) ∧ gK N h = kO 4 ∧ gP N h 0 = h + 1 ∧ gK N (h + 1) = kA (.object "IrrigationTurns$State") 8 ∧ gI N h = z32 ∧ gI N (h + 1) = z32 ∧
  ∀ j, j < i → gP N (h + 1) j = h + 2 + 32 * j ∧ Ls N (h + 2 + 32 * j) ∧ DF N (h + 2 + 32 * j)
theorem HI.s {M N N1 : Mm} {h i : Nat} (g : HI M N h i) (o : OK2 N N1 (h + 1) (h + 2 + 32 * i) 32 i) (hL : Ls N1 (h + 2 + 32 * i)) (hD : DF N1 (h + 2 + 32 * i)) : HI M N1 h (i + 1) := by
  obtain ⟨g1, g2, g3, g4, g5, g6, g7, g8⟩ := g
  obtain ⟨o1, o2, o3⟩ := o
  refine ⟨by rw [o1]; omega, fun q hq => ⟨(o2 q (by omega)).1.trans (g2 q hq).1, (o2 q (by omega)).2.1.trans (g2 q hq).2.1, (o2 q (by omega)).2.2.1.trans (g2 q hq).2.2.1, ((o2 q (by omega)).2.2.2 (by omega)).trans (g2 q hq).2.2.2⟩, (o2 h (by omega)).1.trans g3, ?_, (o2 (h + 1) (by omega)).1.trans g5, (o2 h (by omega)).2.1.trans g6, (o2 (h + 1) (by omega)).2.1.trans g7, fun j hj => ?_⟩
  · rw [(o2 h (by omega)).2.2.2 (by omega)]
    exact g4
  · rw [o3]
    by_cases e : j = i
    · subst e
      exact ⟨up_s _ _ _, hL, hD⟩
    · rw [up_f _ _ e]
      have := g8 j (by omega)
      exact ⟨this.1, this.2.1.ag o2 (by omega) (by omega), DF.ag o2 (by omega) this.2.2⟩
theorem lt_hi (h i : Nat) : h + 1 < h + 2 + 32 * i := by omega
theorem hi_0 {M N : Mm} {h : Nat} (g : CI M N h 4 [kA (.object "IrrigationTurns$State") 8]) : HI M N h 0 := by
  obtain ⟨⟨g1, g2, g3⟩, g4, g5⟩ := g
  exact ⟨g1, g2, g4, (g5 0 (by decide)).1, (g5 0 (by decide)).2, (g3 h (by omega) (by show h < h + 2; omega)).1, (g3 (h + 1) (by omega) (by show h + 1 < h + 2; omega)).1, fun j hj => absurd hj (Nat.not_lt_zero j)⟩
def S37 : Sem := fun as M => match as with
  | [.ref h] => (FO M h 4, fun v N => v = none ∧ HI M N h 8, fun _ _ => False)
  | _ => sF
set_option maxRecDepth 100000 in
set_option maxHeartbeats 4000000 in
theorem s_X4_init {l : Launch} {G : Gt} (hfl : l.stackTraces = false) : SatM l G 37 S37 := by
  refine t_X4_init (E := fun _ => S68) hfl (s_X8_init hfl) fun as M hp => ?_
  unfold S37 at hp ⊢
  split at hp
  case h_2 => exact hp.elim
  rename_i h
  obtain ⟨hz, k0, i0, j0⟩ := hp
  refine ⟨Nat.le_of_ble_eq_true rfl, ?_⟩
  show Run (gT G) _ _ _ _ _ _ _ 0 [.val (.ref h), .unset] [] M 0 0
  have key : ∀ v i N, i + v = 8 → HI M N h i → Run (gT G) (fun _ => S68) 257 10808 (fun _ _ => none) (fun v' M' => v' = none ∧ HI M M' h 8) (fun _ _ => False) kX4_init 15 [.val (.ref h), .val (.int (nI i))] [] N (1 + 32 * i) (8 + 1350 * i) := by
    intro v
    induction v with
    | zero =>
      intro i N hi hN
      have hi2 : i = 8 := hi
      subst hi2
      have a1 : (8 ≤ nI 8) = True := eq_true (by decide)
      rw [rX4_init_15]
      simp only [kX4_init_15, rX4_init_0, kX4_init_0, rX4_init_40, kX4_init_40, bk_c, if_true, if_false, wi_e, wl_e, wr_e, w1_i, w1_r, ldS_0, ldS_s, vi_e, vl_e, vr_e, dpL_u, dpL_i, dpL_r, dpL_l, stS_0, stS_1, stS_s, stL_0, stL_1, stL_s, bin_0, bin_1, bin_2, bin_3, bin_4, bin_5, bdv_0, bdv_1, lbin_0, lbin_1, lbin_2, cnd_0, cnd_1, cnd_2, cnd_3, cnd_4, cnd_5, aty_0, aty_1, aty_2, aty_3, aty_4, aty_5, c8_u, cn_0, cn_i, cn_r, cn_l, Nat.reduceAdd, Nat.reduceLeDiff, Nat.le_refl, adz, hnd_0, rcv_0, rcv_1, kLen_a, kLen_r, inB_e, inR_e, cpOK_e, swt_n, swt_c, List.take_succ_cons, List.take_zero, List.drop_succ_cons, List.drop_zero, List.reverse_cons, List.reverse_nil, List.nil_append, List.cons_append, List.length_cons, List.length_nil, Option.toList_some, Option.toList_none, det_e, det_x, tr_imp, fa_imp, implies_true, not_true, not_false_eq_true, and_true, true_and, nar_i, upd_s, st1_0, st1_1, st1_2, st1_3, st1_4, st1_5, st1_6, st1_7, st1_8, st1_9, st1_10, st1_11, st1_12, st1_13, st1_14, st1_15, st1_16, st1_17, st1_18, st1_19, st1_20, st1_21, st1_22, st1_23, st1_24, st1_25, st1_26, st1_27, st1_28, st1_29, st1_30, st1_31, st1_32, st1_33, st1_34, st1_35, st1_36, st1_37, st1_42, st1_43, st1_44, st1_46, st1_47, st1_48, st1_49, st1_50, st1_51, st1_52, st1_53, st1_54, st1_55, st1_56, st1_57, st1_58, st1_59, st1_60, a1, hN]
    | succ v ih =>
      intro i N hi hN
      have a1 : (8 ≤ nI i) = False := eq_false (fun q => absurd ((nI_leI (a := 8) (by decide) (by omega)).mp q) (by omega))
      have a2 : vp_in (nI i) 8 = True := eq_true (vp_in_nI (by omega) (by decide))
      have a3 : (nI i).toNatClampNeg = i := nI_clamp (by omega)
      rw [rX4_init_15]
      simp only [kX4_init_15, rX4_init_0, kX4_init_0, rX4_init_40, kX4_init_40, bk_c, if_true, if_false, wi_e, wl_e, wr_e, w1_i, w1_r, ldS_0, ldS_s, vi_e, vl_e, vr_e, dpL_u, dpL_i, dpL_r, dpL_l, stS_0, stS_1, stS_s, stL_0, stL_1, stL_s, bin_0, bin_1, bin_2, bin_3, bin_4, bin_5, bdv_0, bdv_1, lbin_0, lbin_1, lbin_2, cnd_0, cnd_1, cnd_2, cnd_3, cnd_4, cnd_5, aty_0, aty_1, aty_2, aty_3, aty_4, aty_5, c8_u, cn_0, cn_i, cn_r, cn_l, Nat.reduceAdd, Nat.reduceLeDiff, Nat.le_refl, adz, hnd_0, rcv_0, rcv_1, kLen_a, kLen_r, inB_e, inR_e, cpOK_e, swt_n, swt_c, List.take_succ_cons, List.take_zero, List.drop_succ_cons, List.drop_zero, List.reverse_cons, List.reverse_nil, List.nil_append, List.cons_append, List.length_cons, List.length_nil, Option.toList_some, Option.toList_none, det_e, det_x, tr_imp, fa_imp, implies_true, not_true, not_false_eq_true, and_true, true_and, nar_i, upd_s, st1_0, st1_1, st1_2, st1_3, st1_4, st1_5, st1_6, st1_7, st1_8, st1_9, st1_10, st1_11, st1_12, st1_13, st1_14, st1_15, st1_16, st1_17, st1_18, st1_19, st1_20, st1_21, st1_22, st1_23, st1_24, st1_25, st1_26, st1_27, st1_28, st1_29, st1_30, st1_31, st1_32, st1_33, st1_34, st1_35, st1_36, st1_37, st1_42, st1_43, st1_44, st1_46, st1_47, st1_48, st1_49, st1_50, st1_51, st1_52, st1_53, st1_54, st1_55, st1_56, st1_57, st1_58, st1_59, st1_60, Nat.reduceEqDiff, reduceIte, S68, det_r, a1, a2, a3, hN.2.2.1, hN.2.2.2.1, Nat.succ_ne_zero, ne_eq, nI_1]
      rw [hN.1]
      refine ⟨by omega, by omega, FO.n N 8 hN.1, by omega, by omega, fun A hA => ?_⟩
      obtain ⟨b1, b2, b3, b4⟩ := hA
      have o := ok2 (i := i) hN.1 (lt_hi h i) b1 b2
      have e : gK A (h + 1) = kA (.object "IrrigationTurns$State") 8 := ((o.2.1 (h + 1) (lt_hi h i)).1).trans hN.2.2.2.2.1
      refine ⟨by rw [e, inB_e, a2]; exact ⟨rfl, trivial⟩, b3.1, ?_⟩
      have h3 := ih (i + 1) _ (by omega) (hN.s o (b3.ag (ag_sP A (h + 1) (h + 2 + 32 * i + 32) _) (lt_hi h i) (Nat.le_refl _)) (DF.ag (ag_sP A (h + 1) (h + 2 + 32 * i + 32) _) (Nat.le_refl _) b4))
      rw [show 1 + 32 * i + 1 + 31 = 1 + 32 * (i + 1) from by omega, show 8 + 1350 * i + 7 + 1343 = 8 + 1350 * (i + 1) from by omega]
      exact h3
  simp only [rX4_init_0, kX4_init_0, rX4_init_40, kX4_init_40, bk_c, if_true, if_false, wi_e, wl_e, wr_e, w1_i, w1_r, ldS_0, ldS_s, vi_e, vl_e, vr_e, dpL_u, dpL_i, dpL_r, dpL_l, stS_0, stS_1, stS_s, stL_0, stL_1, stL_s, bin_0, bin_1, bin_2, bin_3, bin_4, bin_5, bdv_0, bdv_1, lbin_0, lbin_1, lbin_2, cnd_0, cnd_1, cnd_2, cnd_3, cnd_4, cnd_5, aty_0, aty_1, aty_2, aty_3, aty_4, aty_5, c8_u, cn_0, cn_i, cn_r, cn_l, Nat.reduceAdd, Nat.reduceLeDiff, Nat.le_refl, adz, hnd_0, rcv_0, rcv_1, kLen_a, kLen_r, inB_e, inR_e, cpOK_e, swt_n, swt_c, List.take_succ_cons, List.take_zero, List.drop_succ_cons, List.drop_zero, List.reverse_cons, List.reverse_nil, List.nil_append, List.cons_append, List.length_cons, List.length_nil, Option.toList_some, Option.toList_none, det_e, det_x, tr_imp, fa_imp, implies_true, not_true, not_false_eq_true, and_true, true_and, nar_i, upd_s, st1_0, st1_1, st1_2, st1_3, st1_4, st1_5, st1_6, st1_7, st1_8, st1_9, st1_10, st1_11, st1_12, st1_13, st1_14, st1_15, st1_16, st1_17, st1_18, st1_19, st1_20, st1_21, st1_22, st1_23, st1_24, st1_25, st1_26, st1_27, st1_28, st1_29, st1_30, st1_31, st1_32, st1_33, st1_34, st1_35, st1_36, st1_37, st1_42, st1_43, st1_44, st1_46, st1_47, st1_48, st1_49, st1_50, st1_51, st1_52, st1_53, st1_54, st1_55, st1_56, st1_57, st1_58, st1_59, st1_60]
  have h0 : CI M M h 4 [] := CI.z ⟨hz, k0, i0, j0⟩
  have h1 := h0.s (kA (.object "IrrigationTurns$State") 8)
  have c0 : gK (nO M (kA (.object "IrrigationTurns$State") 8)) h = kO 4 := by rw [gK_nO, up_f _ _ (Nat.ne_of_lt (by rw [hz]; exact Nat.lt_succ_self h))]; exact k0
  refine ⟨by decide, by decide, by decide, c0, by rw [hz]; exact Nat.succ_ne_zero _, ?_⟩
  exact key 8 0 _ rfl (hi_0 h1)
