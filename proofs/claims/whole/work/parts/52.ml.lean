/-! ===== IrrigationTurnsModel: run, force, swapTurns, undo ===== -/
def taD (D : Nat → Int32) : Int32 := itr (fun k s => s + D (221 + 11 * k + 8)) (D 1).toNatClampNeg 0 0
def S176 : Sem := fun as M => match as with
  | [.ref m] => sV (LM M m ∧ cnt (gI M (m + 2) 1) 12) (some (.int (taD (gI M (m + 2))))) M
  | _ => sF
set_option maxRecDepth 100000 in
set_option maxHeartbeats 4000000 in
theorem s_X11_takenByAll {l : Launch} {G : Gt} (hfl : l.stackTraces = false) : SatM l G 176 S176 := by
  refine t_X11_takenByAll (E := fun _ => S131) hfl (s_X11_field hfl) fun as M hp => ?_
  unfold S176 at hp ⊢
  split at hp
  case h_2 => exact hp.elim
  rename_i m
  obtain ⟨hp, f, hf, ef⟩ := hp
  refine ⟨Nat.le_of_ble_eq_true rfl, ?_⟩
  show Run (gT G) _ _ _ _ _ _ _ 0 [.val (.ref m), .unset, .unset] [] M 0 0
  have cf : (nI f).toNatClampNeg = f := nI_clamp (by omega)
  have key : ∀ r i s, i + r = f → Run (gT G) (fun _ => S131) 0 0 (fun _ _ => none) (fun v' M' => v' = some (.int (itr (fun k s => s + gI M (m + 2) (221 + 11 * k + 8)) r i s)) ∧ M' = M) (fun _ _ => False) kX11_takenByAll 4 [.val (.ref m), .val (.int s), .val (.int (nI i))] [] M 0 0 := by
    intro r
    induction r with
    | zero =>
      intro i s hi
      have hi2 : i = f := hi
      subst hi2
      rw [rX11_takenByAll_4]
      simp only [kX11_takenByAll_4, rX11_takenByAll_0, kX11_takenByAll_0, rX11_takenByAll_35, kX11_takenByAll_35, S131, Nat.reduceEqDiff, reduceIte, bk_c, if_true, if_false, wi_e, wl_e, wr_e, w1_i, w1_r, ldS_0, ldS_s, vi_e, vl_e, vr_e, dpL_u, dpL_i, dpL_r, dpL_l, stS_0, stS_1, stS_s, stL_0, stL_1, stL_s, bin_0, bin_1, bin_2, bin_3, bin_4, bin_5, bdv_0, bdv_1, lbin_0, lbin_1, lbin_2, cnd_0, cnd_1, cnd_2, cnd_3, cnd_4, cnd_5, aty_0, aty_1, aty_2, aty_3, aty_4, aty_5, c8_u, cn_0, cn_i, cn_r, cn_l, Nat.reduceAdd, Nat.reduceLeDiff, Nat.le_refl, adz, hnd_0, rcv_0, rcv_1, kLen_a, kLen_r, inB_e, inR_e, cpOK_e, swt_n, swt_c, List.take_succ_cons, List.take_zero, List.drop_succ_cons, List.drop_zero, List.reverse_cons, List.reverse_nil, List.nil_append, List.cons_append, List.length_cons, List.length_nil, Option.toList_some, Option.toList_none, det_e, det_x, tr_imp, fa_imp, implies_true, not_true, not_false_eq_true, and_true, true_and, nar_i, upd_s, st1_0, st1_1, st1_2, st1_3, st1_4, st1_5, st1_6, st1_7, st1_8, st1_9, st1_10, st1_11, st1_12, st1_13, st1_14, st1_15, st1_16, st1_17, st1_18, st1_19, st1_20, st1_21, st1_22, st1_23, st1_24, st1_25, st1_26, st1_27, st1_28, st1_29, st1_30, st1_31, st1_32, st1_33, st1_34, st1_35, st1_36, st1_37, st1_42, st1_43, st1_44, st1_46, st1_47, st1_48, st1_49, st1_50, st1_51, st1_52, st1_53, st1_54, st1_55, st1_56, st1_57, st1_58, st1_59, st1_60, hp.f, xL0, xL1, ef, lp_out, itr, Nat.succ_ne_zero, ne_eq]
    | succ r ih =>
      intro i s hi
      obtain ⟨a1, a2, a3, -⟩ := lp_in (i := i) (n := f) (N := 12) (by omega) hf (by decide)
      have x8 := xF (show i < 12 by omega) (show 8 ≤ 10 by decide)
      rw [rX11_takenByAll_4]
      simp only [kX11_takenByAll_4, rX11_takenByAll_0, kX11_takenByAll_0, rX11_takenByAll_35, kX11_takenByAll_35, S131, Nat.reduceEqDiff, reduceIte, bk_c, if_true, if_false, wi_e, wl_e, wr_e, w1_i, w1_r, ldS_0, ldS_s, vi_e, vl_e, vr_e, dpL_u, dpL_i, dpL_r, dpL_l, stS_0, stS_1, stS_s, stL_0, stL_1, stL_s, bin_0, bin_1, bin_2, bin_3, bin_4, bin_5, bdv_0, bdv_1, lbin_0, lbin_1, lbin_2, cnd_0, cnd_1, cnd_2, cnd_3, cnd_4, cnd_5, aty_0, aty_1, aty_2, aty_3, aty_4, aty_5, c8_u, cn_0, cn_i, cn_r, cn_l, Nat.reduceAdd, Nat.reduceLeDiff, Nat.le_refl, adz, hnd_0, rcv_0, rcv_1, kLen_a, kLen_r, inB_e, inR_e, cpOK_e, swt_n, swt_c, List.take_succ_cons, List.take_zero, List.drop_succ_cons, List.drop_zero, List.reverse_cons, List.reverse_nil, List.nil_append, List.cons_append, List.length_cons, List.length_nil, Option.toList_some, Option.toList_none, det_e, det_x, tr_imp, fa_imp, implies_true, not_true, not_false_eq_true, and_true, true_and, nar_i, upd_s, st1_0, st1_1, st1_2, st1_3, st1_4, st1_5, st1_6, st1_7, st1_8, st1_9, st1_10, st1_11, st1_12, st1_13, st1_14, st1_15, st1_16, st1_17, st1_18, st1_19, st1_20, st1_21, st1_22, st1_23, st1_24, st1_25, st1_26, st1_27, st1_28, st1_29, st1_30, st1_31, st1_32, st1_33, st1_34, st1_35, st1_36, st1_37, st1_42, st1_43, st1_44, st1_46, st1_47, st1_48, st1_49, st1_50, st1_51, st1_52, st1_53, st1_54, st1_55, st1_56, st1_57, st1_58, st1_59, st1_60, sV, hp.f, xL0, xL1, ef, a1, f11, ad_8, nI_1, x8, itr, Nat.succ_ne_zero, ne_eq]
      exact ih (i + 1) _ (by omega)
  simp only [rX11_takenByAll_0, kX11_takenByAll_0, rX11_takenByAll_35, kX11_takenByAll_35, S131, Nat.reduceEqDiff, reduceIte, bk_c, if_true, if_false, wi_e, wl_e, wr_e, w1_i, w1_r, ldS_0, ldS_s, vi_e, vl_e, vr_e, dpL_u, dpL_i, dpL_r, dpL_l, stS_0, stS_1, stS_s, stL_0, stL_1, stL_s, bin_0, bin_1, bin_2, bin_3, bin_4, bin_5, bdv_0, bdv_1, lbin_0, lbin_1, lbin_2, cnd_0, cnd_1, cnd_2, cnd_3, cnd_4, cnd_5, aty_0, aty_1, aty_2, aty_3, aty_4, aty_5, c8_u, cn_0, cn_i, cn_r, cn_l, Nat.reduceAdd, Nat.reduceLeDiff, Nat.le_refl, adz, hnd_0, rcv_0, rcv_1, kLen_a, kLen_r, inB_e, inR_e, cpOK_e, swt_n, swt_c, List.take_succ_cons, List.take_zero, List.drop_succ_cons, List.drop_zero, List.reverse_cons, List.reverse_nil, List.nil_append, List.cons_append, List.length_cons, List.length_nil, Option.toList_some, Option.toList_none, det_e, det_x, tr_imp, fa_imp, implies_true, not_true, not_false_eq_true, and_true, true_and, nar_i, upd_s, st1_0, st1_1, st1_2, st1_3, st1_4, st1_5, st1_6, st1_7, st1_8, st1_9, st1_10, st1_11, st1_12, st1_13, st1_14, st1_15, st1_16, st1_17, st1_18, st1_19, st1_20, st1_21, st1_22, st1_23, st1_24, st1_25, st1_26, st1_27, st1_28, st1_29, st1_30, st1_31, st1_32, st1_33, st1_34, st1_35, st1_36, st1_37, st1_42, st1_43, st1_44, st1_46, st1_47, st1_48, st1_49, st1_50, st1_51, st1_52, st1_53, st1_54, st1_55, st1_56, st1_57, st1_58, st1_59, st1_60]
  unfold taD
  rw [ef, cf]
  exact key f 0 0 (Nat.zero_add f)
/-! == run == -/
def siK (m : Nat) : Nat → Mm → Mm
  | 0, N => N
  | r + 1, N => siK m r (siM N m (m + 2))
def kRb (M : Mm) (m : Nat) (h : Int32) : Int32 := if gI M (m + 2) 0 = 0 ∨ 100000 < gI M (m + 2) 5 + h then 2 else 0
def kRu (M : Mm) (m : Nat) (h : Int32) : Int32 := orK (ccK h 1 100 1) (kRb M m h)
def rmR (M : Mm) (m : Nat) : Mm := rmM (tS M m 0) m
def rnK (M : Mm) (m : Nat) (h : Int32) : Mm := siK m h.toNatClampNeg (rmR M m)
theorem rmR_k (M : Mm) (m : Nat) : kpI (rmR M m) M := by
  unfold rmR
  exact (rm_k _ m).t (kpI.i _ _ _)
theorem LM.rmR {M : Mm} {m : Nat} (g : LM M m) : LM (rmR M m) m := g.kp (rmR_k M m).1 (rmR_k M m).2.1
theorem rmR_2 {M : Mm} {m : Nat} (h : cnt (gI M m 12) 8) : gI (rmR M m) (m + 2) = gI M (m + 2) := by
  unfold CIrrigationTurnsLaw_law_r8594_1cb289.rmR
  rw [rm_f (by rw [tS_n _ _ _ (by decide)]; exact h) (by omega), t_2]
theorem kRb_t (M : Mm) (m : Nat) (h k : Int32) : kRb (tS M m k) m h = kRb M m h := by unfold kRb; rw [t_2]
def S167 : Sem := fun as M => match as with
  | [.ref m, .int h] => sV (LM M m ∧ cnt (gI M m 12) 8 ∧ cnt (gI M (m + 2) 1) 12 ∧ (kRu M m h = 0 → arP m (m + 2) h.toNatClampNeg (rmR M m) ∧ cnt (gI (rnK M m h) (m + 2) 1) 12)) (some (.int (if kRu M m h = 0 then taD (gI (rnK M m h) (m + 2)) - taD (gI M (m + 2)) else 0))) (if kRu M m h = 0 then rnK M m h else tS M m (kRu M m h))
  | _ => sF
def eX11_run : Nat → Sem := fun id => if id = 129 then S129 else if id = 139 then S139 else if id = 165 then S165 else if id = 168 then S168 else S176
set_option maxRecDepth 100000 in
set_option maxHeartbeats 4000000 in
theorem s_X11_run {l : Launch} {G : Gt} (hfl : l.stackTraces = false) : SatM l G 167 S167 := by
  refine t_X11_run (E := eX11_run) hfl (s_X11_fails hfl) (s_X11_in hfl) (s_X11_remember hfl) (s_X11_simulate hfl) (s_X11_takenByAll hfl) fun as M hp => ?_
  unfold S167 at hp ⊢
  split at hp
  case h_2 => exact hp.elim
  rename_i m h
  obtain ⟨hp, hu, hc, hA⟩ := hp
  refine ⟨Nat.le_of_ble_eq_true rfl, ?_⟩
  show Run (gT G) _ _ _ _ _ _ _ 0 [.val (.ref m), .val (.int h), .unset, .unset] [] M 0 0
  unfold kRu at hA ⊢
  have hu0 : cnt (gI (tS M m 0) m 12) 8 := by rw [tS_n _ _ _ (by decide)]; exact hu
  by_cases h2 : inI h 1 100
  · have g2 : inI h 1 100 = True := eq_true h2
    rw [cc_0 (k := 1) h2, orK_0] at hA ⊢
    have fR : rmM (tS M m 0) m = rmR M m := rfl
    have hL := hp.rmR
    have e2 : gI (rmR M m) (m + 2) = gI M (m + 2) := rmR_2 hu
    by_cases h3 : gI M (m + 2) 0 = 0 ∨ 100000 < gI M (m + 2) 5 + h
    · have e3 : kRb M m h = 2 := if_pos h3
      rw [e3, if_neg (by decide), if_neg (by decide)]
      have g3 : gI M (m + 2) 0 = 0 → True := fun _ => trivial
      simp only [rX11_run_0, kX11_run_0, rX11_run_20, kX11_run_20, rX11_run_21, kX11_run_21, rX11_run_51, kX11_run_51, rX11_run_55, kX11_run_55, rX11_run_56, kX11_run_56, rX11_run_63, kX11_run_63, rX11_run_65, kX11_run_65, rX11_run_95, kX11_run_95, eX11_run, S129, S139, S165, S168, S176, bk_c, if_true, if_false, wi_e, wl_e, wr_e, w1_i, w1_r, ldS_0, ldS_s, vi_e, vl_e, vr_e, dpL_u, dpL_i, dpL_r, dpL_l, stS_0, stS_1, stS_s, stL_0, stL_1, stL_s, bin_0, bin_1, bin_2, bin_3, bin_4, bin_5, bdv_0, bdv_1, lbin_0, lbin_1, lbin_2, cnd_0, cnd_1, cnd_2, cnd_3, cnd_4, cnd_5, aty_0, aty_1, aty_2, aty_3, aty_4, aty_5, c8_u, cn_0, cn_i, cn_r, cn_l, Nat.reduceAdd, Nat.reduceLeDiff, Nat.le_refl, adz, hnd_0, rcv_0, rcv_1, kLen_a, kLen_r, inB_e, inR_e, cpOK_e, swt_n, swt_c, List.take_succ_cons, List.take_zero, List.drop_succ_cons, List.drop_zero, List.reverse_cons, List.reverse_nil, List.nil_append, List.cons_append, List.length_cons, List.length_nil, Option.toList_some, Option.toList_none, det_e, det_x, tr_imp, fa_imp, implies_true, not_true, not_false_eq_true, and_true, true_and, nar_i, upd_s, st1_0, st1_1, st1_2, st1_3, st1_4, st1_5, st1_6, st1_7, st1_8, st1_9, st1_10, st1_11, st1_12, st1_13, st1_14, st1_15, st1_16, st1_17, st1_18, st1_19, st1_20, st1_21, st1_22, st1_23, st1_24, st1_25, st1_26, st1_27, st1_28, st1_29, st1_30, st1_31, st1_32, st1_33, st1_34, st1_35, st1_36, st1_37, st1_42, st1_43, st1_44, st1_46, st1_47, st1_48, st1_49, st1_50, st1_51, st1_52, st1_53, st1_54, st1_55, st1_56, st1_57, st1_58, st1_59, st1_60, Nat.reduceEqDiff, reduceIte, sV, tS_e, tS_0, tS_t, tS_K, tS_P, t_2, hp.f, hp.t, xL0, xL1, g2, b9_0, b9F, b9T, i2f, fsK_0, fsK_1, hu0, Nat.succ_ne_zero, ne_eq]
      exact fun g g4 => absurd h3 (fun q => q.elim g (Int32.not_lt.mpr g4))
    · have e3 : kRb M m h = 0 := if_neg h3
      rw [e3] at hA ⊢
      obtain ⟨hA1, hA2⟩ := hA rfl
      obtain ⟨n, hn, en⟩ := in_1 (n := 100) h2
      have cn : (nI n).toNatClampNeg = n := nI_clamp (by omega)
      rw [if_pos rfl, if_pos rfl]
      have i0 : ¬ gI M (m + 2) 0 = 0 := fun q => h3 (Or.inl q)
      have i5 : gI M (m + 2) 5 + h ≤ 100000 := Int32.not_lt.mp (fun q => h3 (Or.inr q))
      have key : ∀ r i N, i + r = n → LM N m → arP m (m + 2) r N → siK m r N = rnK M m h → Run (gT G) eX11_run 0 0 (fun _ _ => none) (fun v' M' => v' = some (.int (taD (gI (rnK M m h) (m + 2)) - taD (gI M (m + 2)))) ∧ M' = rnK M m h) (fun _ _ => False) kX11_run 76 [.val (.ref m), .val (.int h), .val (.int (taD (gI M (m + 2)))), .val (.int (nI i))] [] N 0 0 := by
        intro r
        induction r with
        | zero =>
          intro i N hi hN hA hr
          have hi2 : i = n := hi
          subst hi2
          have hr2 : N = rnK M m h := hr
          subst hr2
          have b1 : (h ≤ nI i) = True := by rw [en]; exact lp_out i
          rw [rX11_run_76]
          simp only [kX11_run_76, rX11_run_0, kX11_run_0, rX11_run_20, kX11_run_20, rX11_run_21, kX11_run_21, rX11_run_51, kX11_run_51, rX11_run_55, kX11_run_55, rX11_run_56, kX11_run_56, rX11_run_63, kX11_run_63, rX11_run_65, kX11_run_65, rX11_run_95, kX11_run_95, eX11_run, S129, S139, S165, S168, S176, bk_c, if_true, if_false, wi_e, wl_e, wr_e, w1_i, w1_r, ldS_0, ldS_s, vi_e, vl_e, vr_e, dpL_u, dpL_i, dpL_r, dpL_l, stS_0, stS_1, stS_s, stL_0, stL_1, stL_s, bin_0, bin_1, bin_2, bin_3, bin_4, bin_5, bdv_0, bdv_1, lbin_0, lbin_1, lbin_2, cnd_0, cnd_1, cnd_2, cnd_3, cnd_4, cnd_5, aty_0, aty_1, aty_2, aty_3, aty_4, aty_5, c8_u, cn_0, cn_i, cn_r, cn_l, Nat.reduceAdd, Nat.reduceLeDiff, Nat.le_refl, adz, hnd_0, rcv_0, rcv_1, kLen_a, kLen_r, inB_e, inR_e, cpOK_e, swt_n, swt_c, List.take_succ_cons, List.take_zero, List.drop_succ_cons, List.drop_zero, List.reverse_cons, List.reverse_nil, List.nil_append, List.cons_append, List.length_cons, List.length_nil, Option.toList_some, Option.toList_none, det_e, det_x, tr_imp, fa_imp, implies_true, not_true, not_false_eq_true, and_true, true_and, nar_i, upd_s, st1_0, st1_1, st1_2, st1_3, st1_4, st1_5, st1_6, st1_7, st1_8, st1_9, st1_10, st1_11, st1_12, st1_13, st1_14, st1_15, st1_16, st1_17, st1_18, st1_19, st1_20, st1_21, st1_22, st1_23, st1_24, st1_25, st1_26, st1_27, st1_28, st1_29, st1_30, st1_31, st1_32, st1_33, st1_34, st1_35, st1_36, st1_37, st1_42, st1_43, st1_44, st1_46, st1_47, st1_48, st1_49, st1_50, st1_51, st1_52, st1_53, st1_54, st1_55, st1_56, st1_57, st1_58, st1_59, st1_60, Nat.reduceEqDiff, reduceIte, sV, hN, hN.f, hA2, b1]
        | succ r ih =>
          intro i N hi hN hA hr
          obtain ⟨a1, a2, a3, -⟩ := lp_in (i := i) (n := n) (N := 100) (by omega) hn (by decide)
          have hS := hA.1
          have b1 : (h ≤ nI i) = False := by rw [en]; exact a1
          rw [rX11_run_76]
          simp only [kX11_run_76, rX11_run_0, kX11_run_0, rX11_run_20, kX11_run_20, rX11_run_21, kX11_run_21, rX11_run_51, kX11_run_51, rX11_run_55, kX11_run_55, rX11_run_56, kX11_run_56, rX11_run_63, kX11_run_63, rX11_run_65, kX11_run_65, rX11_run_95, kX11_run_95, eX11_run, S129, S139, S165, S168, S176, bk_c, if_true, if_false, wi_e, wl_e, wr_e, w1_i, w1_r, ldS_0, ldS_s, vi_e, vl_e, vr_e, dpL_u, dpL_i, dpL_r, dpL_l, stS_0, stS_1, stS_s, stL_0, stL_1, stL_s, bin_0, bin_1, bin_2, bin_3, bin_4, bin_5, bdv_0, bdv_1, lbin_0, lbin_1, lbin_2, cnd_0, cnd_1, cnd_2, cnd_3, cnd_4, cnd_5, aty_0, aty_1, aty_2, aty_3, aty_4, aty_5, c8_u, cn_0, cn_i, cn_r, cn_l, Nat.reduceAdd, Nat.reduceLeDiff, Nat.le_refl, adz, hnd_0, rcv_0, rcv_1, kLen_a, kLen_r, inB_e, inR_e, cpOK_e, swt_n, swt_c, List.take_succ_cons, List.take_zero, List.drop_succ_cons, List.drop_zero, List.reverse_cons, List.reverse_nil, List.nil_append, List.cons_append, List.length_cons, List.length_nil, Option.toList_some, Option.toList_none, det_e, det_x, tr_imp, fa_imp, implies_true, not_true, not_false_eq_true, and_true, true_and, nar_i, upd_s, st1_0, st1_1, st1_2, st1_3, st1_4, st1_5, st1_6, st1_7, st1_8, st1_9, st1_10, st1_11, st1_12, st1_13, st1_14, st1_15, st1_16, st1_17, st1_18, st1_19, st1_20, st1_21, st1_22, st1_23, st1_24, st1_25, st1_26, st1_27, st1_28, st1_29, st1_30, st1_31, st1_32, st1_33, st1_34, st1_35, st1_36, st1_37, st1_42, st1_43, st1_44, st1_46, st1_47, st1_48, st1_49, st1_50, st1_51, st1_52, st1_53, st1_54, st1_55, st1_56, st1_57, st1_58, st1_59, st1_60, Nat.reduceEqDiff, reduceIte, sV, hN, hN.f, true_or, hS, b1, nI_1, Nat.succ_ne_zero, ne_eq]
          exact ih (i + 1) _ (by omega) (hN.si _) hA.2 hr
      simp only [rX11_run_0, kX11_run_0, rX11_run_20, kX11_run_20, rX11_run_21, kX11_run_21, rX11_run_51, kX11_run_51, rX11_run_55, kX11_run_55, rX11_run_56, kX11_run_56, rX11_run_63, kX11_run_63, rX11_run_65, kX11_run_65, rX11_run_95, kX11_run_95, eX11_run, S129, S139, S165, S168, S176, bk_c, if_true, if_false, wi_e, wl_e, wr_e, w1_i, w1_r, ldS_0, ldS_s, vi_e, vl_e, vr_e, dpL_u, dpL_i, dpL_r, dpL_l, stS_0, stS_1, stS_s, stL_0, stL_1, stL_s, bin_0, bin_1, bin_2, bin_3, bin_4, bin_5, bdv_0, bdv_1, lbin_0, lbin_1, lbin_2, cnd_0, cnd_1, cnd_2, cnd_3, cnd_4, cnd_5, aty_0, aty_1, aty_2, aty_3, aty_4, aty_5, c8_u, cn_0, cn_i, cn_r, cn_l, Nat.reduceAdd, Nat.reduceLeDiff, Nat.le_refl, adz, hnd_0, rcv_0, rcv_1, kLen_a, kLen_r, inB_e, inR_e, cpOK_e, swt_n, swt_c, List.take_succ_cons, List.take_zero, List.drop_succ_cons, List.drop_zero, List.reverse_cons, List.reverse_nil, List.nil_append, List.cons_append, List.length_cons, List.length_nil, Option.toList_some, Option.toList_none, det_e, det_x, tr_imp, fa_imp, implies_true, not_true, not_false_eq_true, and_true, true_and, nar_i, upd_s, st1_0, st1_1, st1_2, st1_3, st1_4, st1_5, st1_6, st1_7, st1_8, st1_9, st1_10, st1_11, st1_12, st1_13, st1_14, st1_15, st1_16, st1_17, st1_18, st1_19, st1_20, st1_21, st1_22, st1_23, st1_24, st1_25, st1_26, st1_27, st1_28, st1_29, st1_30, st1_31, st1_32, st1_33, st1_34, st1_35, st1_36, st1_37, st1_42, st1_43, st1_44, st1_46, st1_47, st1_48, st1_49, st1_50, st1_51, st1_52, st1_53, st1_54, st1_55, st1_56, st1_57, st1_58, st1_59, st1_60, Nat.reduceEqDiff, reduceIte, sV, tS_e, tS_0, tS_t, tS_K, tS_P, t_2, hp.f, hp.t, xL0, xL1, g2, b9_0, b9F, b9T, fsK_0, i0, i5, hu0, fR, hL, hL.f, e2, hc, Nat.succ_ne_zero, ne_eq]
      exact key n 0 (rmR M m) (Nat.zero_add n) hL (by rw [en, cn] at hA1; exact hA1) (by unfold rnK; rw [en, cn])
  · have g2 : inI h 1 100 = False := eq_false h2
    rw [cc_1 (k := 1) h2, orK_1, if_neg (by decide), if_neg (by decide)]
    simp only [rX11_run_0, kX11_run_0, rX11_run_20, kX11_run_20, rX11_run_21, kX11_run_21, rX11_run_51, kX11_run_51, rX11_run_55, kX11_run_55, rX11_run_56, kX11_run_56, rX11_run_63, kX11_run_63, rX11_run_65, kX11_run_65, rX11_run_95, kX11_run_95, eX11_run, S129, S139, S165, S168, S176, bk_c, if_true, if_false, wi_e, wl_e, wr_e, w1_i, w1_r, ldS_0, ldS_s, vi_e, vl_e, vr_e, dpL_u, dpL_i, dpL_r, dpL_l, stS_0, stS_1, stS_s, stL_0, stL_1, stL_s, bin_0, bin_1, bin_2, bin_3, bin_4, bin_5, bdv_0, bdv_1, lbin_0, lbin_1, lbin_2, cnd_0, cnd_1, cnd_2, cnd_3, cnd_4, cnd_5, aty_0, aty_1, aty_2, aty_3, aty_4, aty_5, c8_u, cn_0, cn_i, cn_r, cn_l, Nat.reduceAdd, Nat.reduceLeDiff, Nat.le_refl, adz, hnd_0, rcv_0, rcv_1, kLen_a, kLen_r, inB_e, inR_e, cpOK_e, swt_n, swt_c, List.take_succ_cons, List.take_zero, List.drop_succ_cons, List.drop_zero, List.reverse_cons, List.reverse_nil, List.nil_append, List.cons_append, List.length_cons, List.length_nil, Option.toList_some, Option.toList_none, det_e, det_x, tr_imp, fa_imp, implies_true, not_true, not_false_eq_true, and_true, true_and, nar_i, upd_s, st1_0, st1_1, st1_2, st1_3, st1_4, st1_5, st1_6, st1_7, st1_8, st1_9, st1_10, st1_11, st1_12, st1_13, st1_14, st1_15, st1_16, st1_17, st1_18, st1_19, st1_20, st1_21, st1_22, st1_23, st1_24, st1_25, st1_26, st1_27, st1_28, st1_29, st1_30, st1_31, st1_32, st1_33, st1_34, st1_35, st1_36, st1_37, st1_42, st1_43, st1_44, st1_46, st1_47, st1_48, st1_49, st1_50, st1_51, st1_52, st1_53, st1_54, st1_55, st1_56, st1_57, st1_58, st1_59, st1_60, Nat.reduceEqDiff, reduceIte, sV, tS_e, tS_0, tS_t, tS_K, tS_P, t_2, hp.f, hp.t, g2, b9_0, b9F, b9T, i1f, fsK_1, Nat.succ_ne_zero, ne_eq]
/-! == force == -/
def foM (M : Mm) (m : Nat) (f : Int32) : Mm := sI (rmR M m) (m + 2) (upd (gI (rmR M m) (m + 2)) (221 + 11 * f.toNatClampNeg + 10) 1)
def kFo (M : Mm) (m : Nat) (f : Int32) : Int32 := orK (kFi M m f) (if gI M (m + 2) (221 + 11 * f.toNatClampNeg + 10) = 1 then 2 else 0)
def coD (D : Nat → Int32) : Int32 := itr (fun k s => s + D (221 + 11 * k + 10)) (D 1).toNatClampNeg 0 0
def S135 : Sem := fun as M => match as with
  | [.ref m, .int f] => sV (LM M m ∧ cnt (gI M m 12) 8 ∧ cnt (gI M (m + 2) 1) 12) (some (.int (if kFo M m f = 0 then coD (gI (foM M m f) (m + 2)) else 0))) (if kFo M m f = 0 then foM M m f else tS M m (kFo M m f))
  | _ => sF
def eX11_force : Nat → Sem := fun id => if id = 129 then S129 else if id = 131 then S131 else if id = 153 then S153 else S165
set_option maxRecDepth 100000 in
set_option maxHeartbeats 4000000 in
theorem s_X11_force {l : Launch} {G : Gt} (hfl : l.stackTraces = false) : SatM l G 135 S135 := by
  refine t_X11_force (E := eX11_force) hfl (s_X11_fails hfl) (s_X11_field hfl) (s_X11_noField hfl) (s_X11_remember hfl) fun as M hp => ?_
  unfold S135 at hp ⊢
  split at hp
  case h_2 => exact hp.elim
  rename_i m f
  obtain ⟨hp, hu, hc⟩ := hp
  refine ⟨Nat.le_of_ble_eq_true rfl, ?_⟩
  show Run (gT G) _ _ _ _ _ _ _ 0 [.val (.ref m), .val (.int f), .unset, .unset] [] M 0 0
  unfold kFo
  have hu0 : cnt (gI (tS M m 0) m 12) 8 := by rw [tS_n _ _ _ (by decide)]; exact hu
  rcases kFi_or M m f with h1 | h1
  · obtain ⟨j, hj, ej⟩ := kFi_in h1 hc
    have cj : (nI j).toNatClampNeg = j := nI_clamp (by omega)
    have x10 := xF hj (show 10 ≤ 10 by decide)
    have h1e : kFi M m (nI j) = 0 := ej ▸ h1
    rw [h1, orK_0, ej, cj]
    by_cases h3 : gI M (m + 2) (221 + 11 * j + 10) = 1
    · have g3 : (gI M (m + 2) (221 + 11 * j + 10) = 1) = True := eq_true h3
      rw [if_pos h3, if_neg (by decide), if_neg (by decide)]
      simp only [rX11_force_0, kX11_force_0, rX11_force_34, kX11_force_34, rX11_force_35, kX11_force_35, rX11_force_42, kX11_force_42, rX11_force_44, kX11_force_44, rX11_force_96, kX11_force_96, eX11_force, S129, S131, S153, S165, bk_c, if_true, if_false, wi_e, wl_e, wr_e, w1_i, w1_r, ldS_0, ldS_s, vi_e, vl_e, vr_e, dpL_u, dpL_i, dpL_r, dpL_l, stS_0, stS_1, stS_s, stL_0, stL_1, stL_s, bin_0, bin_1, bin_2, bin_3, bin_4, bin_5, bdv_0, bdv_1, lbin_0, lbin_1, lbin_2, cnd_0, cnd_1, cnd_2, cnd_3, cnd_4, cnd_5, aty_0, aty_1, aty_2, aty_3, aty_4, aty_5, c8_u, cn_0, cn_i, cn_r, cn_l, Nat.reduceAdd, Nat.reduceLeDiff, Nat.le_refl, adz, hnd_0, rcv_0, rcv_1, kLen_a, kLen_r, inB_e, inR_e, cpOK_e, swt_n, swt_c, List.take_succ_cons, List.take_zero, List.drop_succ_cons, List.drop_zero, List.reverse_cons, List.reverse_nil, List.nil_append, List.cons_append, List.length_cons, List.length_nil, Option.toList_some, Option.toList_none, det_e, det_x, tr_imp, fa_imp, implies_true, not_true, not_false_eq_true, and_true, true_and, nar_i, upd_s, st1_0, st1_1, st1_2, st1_3, st1_4, st1_5, st1_6, st1_7, st1_8, st1_9, st1_10, st1_11, st1_12, st1_13, st1_14, st1_15, st1_16, st1_17, st1_18, st1_19, st1_20, st1_21, st1_22, st1_23, st1_24, st1_25, st1_26, st1_27, st1_28, st1_29, st1_30, st1_31, st1_32, st1_33, st1_34, st1_35, st1_36, st1_37, st1_42, st1_43, st1_44, st1_46, st1_47, st1_48, st1_49, st1_50, st1_51, st1_52, st1_53, st1_54, st1_55, st1_56, st1_57, st1_58, st1_59, st1_60, Nat.reduceEqDiff, reduceIte, sV, tS_e, tS_0, tS_t, tS_K, tS_P, t_2, hp.f, hp.t, kFi_e, kFi_t, h1e, b9F, b9T, i1f, i2f, fsK_1, f11, ad_10, x10, g3, Nat.succ_ne_zero, ne_eq]
    · have g3 : (gI M (m + 2) (221 + 11 * j + 10) = 1) = False := eq_false h3
      rw [if_neg h3, if_pos rfl, if_pos rfl]
      have fR : rmM (tS M m 0) m = rmR M m := rfl
      have hL := hp.rmR
      have e2 : gI (rmR M m) (m + 2) = gI M (m + 2) := rmR_2 hu
      obtain ⟨n, hn, en⟩ := hc
      have cn : (nI n).toNatClampNeg = n := nI_clamp (by omega)
      have f2 : sI (rmR M m) (m + 2) (upd (gI M (m + 2)) (221 + 11 * j + 10) 1) = foM M m (nI j) := by unfold foM; rw [e2, cj]
      have hLf : LM (foM M m (nI j)) m := by unfold foM; exact hL.kp rfl rfl
      have e1 : gI (foM M m (nI j)) (m + 2) 1 = nI n := by
        unfold foM
        rw [gI_s, e2, upd_n _ _ (by omega)]
        exact en
      have key : ∀ r i s, i + r = n → itr (fun k s => s + gI (foM M m (nI j)) (m + 2) (221 + 11 * k + 10)) r i s = coD (gI (foM M m (nI j)) (m + 2)) → Run (gT G) eX11_force 0 0 (fun _ _ => none) (fun v' M' => v' = some (.int (coD (gI (foM M m (nI j)) (m + 2)))) ∧ M' = foM M m (nI j)) (fun _ _ => False) kX11_force 65 [.val (.ref m), .val (.int (nI j)), .val (.int s), .val (.int (nI i))] [] (foM M m (nI j)) 0 0 := by
        intro r
        induction r with
        | zero =>
          intro i s hi hs
          have hi2 : i = n := hi
          subst hi2
          have hs2 : s = coD (gI (foM M m (nI j)) (m + 2)) := hs
          rw [rX11_force_65]
          simp only [kX11_force_65, rX11_force_0, kX11_force_0, rX11_force_34, kX11_force_34, rX11_force_35, kX11_force_35, rX11_force_42, kX11_force_42, rX11_force_44, kX11_force_44, rX11_force_96, kX11_force_96, eX11_force, S129, S131, S153, S165, bk_c, if_true, if_false, wi_e, wl_e, wr_e, w1_i, w1_r, ldS_0, ldS_s, vi_e, vl_e, vr_e, dpL_u, dpL_i, dpL_r, dpL_l, stS_0, stS_1, stS_s, stL_0, stL_1, stL_s, bin_0, bin_1, bin_2, bin_3, bin_4, bin_5, bdv_0, bdv_1, lbin_0, lbin_1, lbin_2, cnd_0, cnd_1, cnd_2, cnd_3, cnd_4, cnd_5, aty_0, aty_1, aty_2, aty_3, aty_4, aty_5, c8_u, cn_0, cn_i, cn_r, cn_l, Nat.reduceAdd, Nat.reduceLeDiff, Nat.le_refl, adz, hnd_0, rcv_0, rcv_1, kLen_a, kLen_r, inB_e, inR_e, cpOK_e, swt_n, swt_c, List.take_succ_cons, List.take_zero, List.drop_succ_cons, List.drop_zero, List.reverse_cons, List.reverse_nil, List.nil_append, List.cons_append, List.length_cons, List.length_nil, Option.toList_some, Option.toList_none, det_e, det_x, tr_imp, fa_imp, implies_true, not_true, not_false_eq_true, and_true, true_and, nar_i, upd_s, st1_0, st1_1, st1_2, st1_3, st1_4, st1_5, st1_6, st1_7, st1_8, st1_9, st1_10, st1_11, st1_12, st1_13, st1_14, st1_15, st1_16, st1_17, st1_18, st1_19, st1_20, st1_21, st1_22, st1_23, st1_24, st1_25, st1_26, st1_27, st1_28, st1_29, st1_30, st1_31, st1_32, st1_33, st1_34, st1_35, st1_36, st1_37, st1_42, st1_43, st1_44, st1_46, st1_47, st1_48, st1_49, st1_50, st1_51, st1_52, st1_53, st1_54, st1_55, st1_56, st1_57, st1_58, st1_59, st1_60, hLf.f, xL0, xL1, e1, lp_out, Nat.succ_ne_zero, ne_eq]
          rw [hs2]
        | succ r ih =>
          intro i s hi hs
          obtain ⟨a1, a2, a3, -⟩ := lp_in (i := i) (n := n) (N := 12) (by omega) hn (by decide)
          have y10 := xF (show i < 12 by omega) (show 10 ≤ 10 by decide)
          rw [rX11_force_65]
          simp only [kX11_force_65, rX11_force_0, kX11_force_0, rX11_force_34, kX11_force_34, rX11_force_35, kX11_force_35, rX11_force_42, kX11_force_42, rX11_force_44, kX11_force_44, rX11_force_96, kX11_force_96, eX11_force, S129, S131, S153, S165, bk_c, if_true, if_false, wi_e, wl_e, wr_e, w1_i, w1_r, ldS_0, ldS_s, vi_e, vl_e, vr_e, dpL_u, dpL_i, dpL_r, dpL_l, stS_0, stS_1, stS_s, stL_0, stL_1, stL_s, bin_0, bin_1, bin_2, bin_3, bin_4, bin_5, bdv_0, bdv_1, lbin_0, lbin_1, lbin_2, cnd_0, cnd_1, cnd_2, cnd_3, cnd_4, cnd_5, aty_0, aty_1, aty_2, aty_3, aty_4, aty_5, c8_u, cn_0, cn_i, cn_r, cn_l, Nat.reduceAdd, Nat.reduceLeDiff, Nat.le_refl, adz, hnd_0, rcv_0, rcv_1, kLen_a, kLen_r, inB_e, inR_e, cpOK_e, swt_n, swt_c, List.take_succ_cons, List.take_zero, List.drop_succ_cons, List.drop_zero, List.reverse_cons, List.reverse_nil, List.nil_append, List.cons_append, List.length_cons, List.length_nil, Option.toList_some, Option.toList_none, det_e, det_x, tr_imp, fa_imp, implies_true, not_true, not_false_eq_true, and_true, true_and, nar_i, upd_s, st1_0, st1_1, st1_2, st1_3, st1_4, st1_5, st1_6, st1_7, st1_8, st1_9, st1_10, st1_11, st1_12, st1_13, st1_14, st1_15, st1_16, st1_17, st1_18, st1_19, st1_20, st1_21, st1_22, st1_23, st1_24, st1_25, st1_26, st1_27, st1_28, st1_29, st1_30, st1_31, st1_32, st1_33, st1_34, st1_35, st1_36, st1_37, st1_42, st1_43, st1_44, st1_46, st1_47, st1_48, st1_49, st1_50, st1_51, st1_52, st1_53, st1_54, st1_55, st1_56, st1_57, st1_58, st1_59, st1_60, Nat.reduceEqDiff, reduceIte, sV, hLf.f, xL0, xL1, e1, a1, f11, ad_10, y10, nI_1, Nat.succ_ne_zero, ne_eq]
          exact ih (i + 1) _ (by omega) hs
      simp only [rX11_force_0, kX11_force_0, rX11_force_34, kX11_force_34, rX11_force_35, kX11_force_35, rX11_force_42, kX11_force_42, rX11_force_44, kX11_force_44, rX11_force_96, kX11_force_96, eX11_force, S129, S131, S153, S165, bk_c, if_true, if_false, wi_e, wl_e, wr_e, w1_i, w1_r, ldS_0, ldS_s, vi_e, vl_e, vr_e, dpL_u, dpL_i, dpL_r, dpL_l, stS_0, stS_1, stS_s, stL_0, stL_1, stL_s, bin_0, bin_1, bin_2, bin_3, bin_4, bin_5, bdv_0, bdv_1, lbin_0, lbin_1, lbin_2, cnd_0, cnd_1, cnd_2, cnd_3, cnd_4, cnd_5, aty_0, aty_1, aty_2, aty_3, aty_4, aty_5, c8_u, cn_0, cn_i, cn_r, cn_l, Nat.reduceAdd, Nat.reduceLeDiff, Nat.le_refl, adz, hnd_0, rcv_0, rcv_1, kLen_a, kLen_r, inB_e, inR_e, cpOK_e, swt_n, swt_c, List.take_succ_cons, List.take_zero, List.drop_succ_cons, List.drop_zero, List.reverse_cons, List.reverse_nil, List.nil_append, List.cons_append, List.length_cons, List.length_nil, Option.toList_some, Option.toList_none, det_e, det_x, tr_imp, fa_imp, implies_true, not_true, not_false_eq_true, and_true, true_and, nar_i, upd_s, st1_0, st1_1, st1_2, st1_3, st1_4, st1_5, st1_6, st1_7, st1_8, st1_9, st1_10, st1_11, st1_12, st1_13, st1_14, st1_15, st1_16, st1_17, st1_18, st1_19, st1_20, st1_21, st1_22, st1_23, st1_24, st1_25, st1_26, st1_27, st1_28, st1_29, st1_30, st1_31, st1_32, st1_33, st1_34, st1_35, st1_36, st1_37, st1_42, st1_43, st1_44, st1_46, st1_47, st1_48, st1_49, st1_50, st1_51, st1_52, st1_53, st1_54, st1_55, st1_56, st1_57, st1_58, st1_59, st1_60, Nat.reduceEqDiff, reduceIte, sV, tS_e, tS_0, tS_t, tS_K, tS_P, t_2, hp.f, hp.t, kFi_e, kFi_t, h1e, b9F, b9T, fsK_0, f11, ad_10, x10, g3, hu0, fR, hL, hL.f, e2, f2, Nat.succ_ne_zero, ne_eq]
      refine key n 0 0 (Nat.zero_add n) ?_
      unfold coD
      rw [e1, cn]
  · rw [h1, orK_1, if_neg (by decide), if_neg (by decide)]
    simp only [rX11_force_0, kX11_force_0, rX11_force_34, kX11_force_34, rX11_force_35, kX11_force_35, rX11_force_42, kX11_force_42, rX11_force_44, kX11_force_44, rX11_force_96, kX11_force_96, eX11_force, S129, S131, S153, S165, bk_c, if_true, if_false, wi_e, wl_e, wr_e, w1_i, w1_r, ldS_0, ldS_s, vi_e, vl_e, vr_e, dpL_u, dpL_i, dpL_r, dpL_l, stS_0, stS_1, stS_s, stL_0, stL_1, stL_s, bin_0, bin_1, bin_2, bin_3, bin_4, bin_5, bdv_0, bdv_1, lbin_0, lbin_1, lbin_2, cnd_0, cnd_1, cnd_2, cnd_3, cnd_4, cnd_5, aty_0, aty_1, aty_2, aty_3, aty_4, aty_5, c8_u, cn_0, cn_i, cn_r, cn_l, Nat.reduceAdd, Nat.reduceLeDiff, Nat.le_refl, adz, hnd_0, rcv_0, rcv_1, kLen_a, kLen_r, inB_e, inR_e, cpOK_e, swt_n, swt_c, List.take_succ_cons, List.take_zero, List.drop_succ_cons, List.drop_zero, List.reverse_cons, List.reverse_nil, List.nil_append, List.cons_append, List.length_cons, List.length_nil, Option.toList_some, Option.toList_none, det_e, det_x, tr_imp, fa_imp, implies_true, not_true, not_false_eq_true, and_true, true_and, nar_i, upd_s, st1_0, st1_1, st1_2, st1_3, st1_4, st1_5, st1_6, st1_7, st1_8, st1_9, st1_10, st1_11, st1_12, st1_13, st1_14, st1_15, st1_16, st1_17, st1_18, st1_19, st1_20, st1_21, st1_22, st1_23, st1_24, st1_25, st1_26, st1_27, st1_28, st1_29, st1_30, st1_31, st1_32, st1_33, st1_34, st1_35, st1_36, st1_37, st1_42, st1_43, st1_44, st1_46, st1_47, st1_48, st1_49, st1_50, st1_51, st1_52, st1_53, st1_54, st1_55, st1_56, st1_57, st1_58, st1_59, st1_60, Nat.reduceEqDiff, reduceIte, sV, tS_e, tS_0, tS_t, tS_K, tS_P, t_2, hp.f, hp.t, kFi_e, kFi_t, h1, b9F, b9T, i1f, Nat.succ_ne_zero, ne_eq]
