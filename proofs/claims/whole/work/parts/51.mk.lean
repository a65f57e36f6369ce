/-! ===== IrrigationTurnsModel: changes ===== -/
def rmA (m : Nat) (k : Nat) (N : Mm) : Mm := sI N (m + 6 + k) (cpy 1793 (gI N (m + 6 + (k + 1))) (gI N (m + 6 + k)))
def rm1 (M : Mm) (m : Nat) : Mm := if gI M m 12 = 8 then sI (itr (rmA m) 7 0 M) m (upd (gI (itr (rmA m) 7 0 M) m) 12 7) else M
def rmM (M : Mm) (m : Nat) : Mm :=
  let N := sI (rm1 M m) (m + 6 + (gI (rm1 M m) m 12).toNatClampNeg) (cpy 1793 (gI (rm1 M m) (m + 2)) (gI (rm1 M m) (m + 6 + (gI (rm1 M m) m 12).toNatClampNeg)))
  sI N m (upd (gI N m) 12 (gI N m 12 + 1))
theorem rmA_k (m k : Nat) (N : Mm) : kpI (rmA m k N) N := kpI.i _ _ _
theorem rmA_it (m : Nat) : ∀ r k N, kpI (itr (rmA m) r k N) N
  | 0, _, _ => kpI.r _
  | r + 1, k, N => (rmA_it m r _ _).t (rmA_k m k N)
theorem rm1_k (M : Mm) (m : Nat) : kpI (rm1 M m) M := by
  unfold rm1
  split
  · exact (kpI.i _ _ _).t (rmA_it m 7 0 M)
  · exact kpI.r _
theorem rm_k (M : Mm) (m : Nat) : kpI (rmM M m) M := by
  unfold rmM
  exact (kpI.i _ _ _).t ((kpI.i _ _ _).t (rm1_k M m))
/-- rows outside the history -/
theorem rmA_f (m : Nat) {q : Nat} : ∀ r k N, k + r ≤ 7 → (q < m + 6 ∨ m + 14 ≤ q) → gI (itr (rmA m) r k N) q = gI N q
  | 0, _, _, _, _ => rfl
  | r + 1, k, N, h, hq => by
    have := rmA_f m (q := q) r (k + 1) (rmA m k N) (by omega) hq
    refine this.trans ?_
    unfold rmA
    exact gI_f _ _ (by omega)
theorem rm1_f (M : Mm) (m : Nat) {q : Nat} (hq : q < m ∨ (m < q ∧ q < m + 6) ∨ m + 14 ≤ q) : gI (rm1 M m) q = gI M q := by
  unfold rm1
  split
  · rw [gI_f _ _ (by omega)]
    exact rmA_f m 7 0 M (by decide) (by omega)
  · rfl
theorem rm1_u {M : Mm} {m : Nat} (h : cnt (gI M m 12) 8) : ∃ u, u < 8 ∧ gI (rm1 M m) m 12 = nI u := by
  obtain ⟨n, hn, en⟩ := h
  unfold rm1
  by_cases e : gI M m 12 = 8
  · rw [if_pos e, gI_s, upd_s]
    exact ⟨7, by decide, rfl⟩
  · rw [if_neg e]
    refine ⟨n, ?_, en⟩
    rcases Nat.lt_or_ge n 8 with z | z
    · exact z
    · have : n = 8 := by omega
      subst this
      exact absurd en e
theorem rm_f {M : Mm} {m : Nat} (h : cnt (gI M m 12) 8) {q : Nat} (hq : q < m ∨ (m < q ∧ q < m + 6) ∨ m + 14 ≤ q) : gI (rmM M m) q = gI M q := by
  obtain ⟨u, hu, eu⟩ := rm1_u h
  unfold rmM
  dsimp only
  rw [gI_f _ _ (by omega), eu, nI_clamp (by omega), gI_f _ _ (by omega)]
  exact rm1_f M m hq
def S165 : Sem := fun as M => match as with
  | [.ref m] => sV (LM M m ∧ cnt (gI M m 12) 8) none (rmM M m)
  | _ => sF
theorem r6n (m k : Nat) : ¬ m = m + 6 + k := by omega
theorem r6 (m k : Nat) : (m + 6 + k = 0) = False := eq_false (by omega)
set_option maxRecDepth 100000 in
set_option maxHeartbeats 4000000 in
theorem s_X11_remember {l : Launch} {G : Gt} (hfl : l.stackTraces = false) : SatM l G 165 S165 := by
  refine t_X11_remember (E := fun _ => S117) hfl (s_X11_copy hfl) fun as M hp => ?_
  unfold S165 at hp ⊢
  split at hp
  case h_2 => exact hp.elim
  rename_i m
  obtain ⟨hp, hc⟩ := hp
  refine ⟨Nat.le_of_ble_eq_true rfl, ?_⟩
  show Run (gT G) _ _ _ _ _ _ _ 0 [.val (.ref m), .unset] [] M 0 0
  have fin : ∀ (Q : Option Value → Mm → Prop) (X : Nat → Mm → Prop) (N : Mm) (u : Slot), rm1 M m = N → Q none (rmM M m) → Run (gT G) (fun _ => S117) 0 0 (fun _ _ => none) Q X kX11_remember 50 [.val (.ref m), u] [] N 0 0 := by
    intro Q X N u hN hq
    obtain ⟨w, hw, ew⟩ := rm1_u hc
    have hk := rm1_k M m
    rw [hN] at hk ew
    have hL : LM N m := hp.kp hk.1 hk.2.1
    have cw : (nI w).toNatClampNeg = w := nI_clamp (by omega)
    have w8 : vp_in (nI w) 8 = True := eq_true (vp_in_nI hw (by decide))
    obtain ⟨g1, g2⟩ := hL.2.2.2 w hw
    have hne : ¬ m = m + 6 + w := r6n m w
    unfold rmM at hq
    dsimp only at hq
    rw [hN, ew, cw] at hq
    rw [rX11_remember_50]
    simp only [kX11_remember_50, S117, Nat.reduceEqDiff, reduceIte, bk_c, if_true, if_false, wi_e, wl_e, wr_e, w1_i, w1_r, ldS_0, ldS_s, vi_e, vl_e, vr_e, dpL_u, dpL_i, dpL_r, dpL_l, stS_0, stS_1, stS_s, stL_0, stL_1, stL_s, bin_0, bin_1, bin_2, bin_3, bin_4, bin_5, bdv_0, bdv_1, lbin_0, lbin_1, lbin_2, cnd_0, cnd_1, cnd_2, cnd_3, cnd_4, cnd_5, aty_0, aty_1, aty_2, aty_3, aty_4, aty_5, c8_u, cn_0, cn_i, cn_r, cn_l, Nat.reduceAdd, Nat.reduceLeDiff, Nat.le_refl, adz, hnd_0, rcv_0, rcv_1, kLen_a, kLen_r, inB_e, inR_e, cpOK_e, swt_n, swt_c, List.take_succ_cons, List.take_zero, List.drop_succ_cons, List.drop_zero, List.reverse_cons, List.reverse_nil, List.nil_append, List.cons_append, List.length_cons, List.length_nil, Option.toList_some, Option.toList_none, det_e, det_x, tr_imp, fa_imp, implies_true, not_true, not_false_eq_true, and_true, true_and, nar_i, upd_s, st1_0, st1_1, st1_2, st1_3, st1_4, st1_5, st1_6, st1_7, st1_8, st1_9, st1_10, st1_11, st1_12, st1_13, st1_14, st1_15, st1_16, st1_17, st1_18, st1_19, st1_20, st1_21, st1_22, st1_23, st1_24, st1_25, st1_26, st1_27, st1_28, st1_29, st1_30, st1_31, st1_32, st1_33, st1_34, st1_35, st1_36, st1_37, st1_42, st1_43, st1_44, st1_46, st1_47, st1_48, st1_49, st1_50, st1_51, st1_52, st1_53, st1_54, st1_55, st1_56, st1_57, st1_58, st1_59, st1_60, gK_sI, gP_sI, gI_f _ _ hne, hL.f, hL.2.2.1.2.1, g1, g2, r6, ew, cw, w8, sV, Nat.succ_ne_zero, ne_eq]
    rw [gI_f _ _ hne, ew] at hq
    exact hq
  have key : ∀ r k N, k + r = 7 → kpI N M → gI N m = gI M m → (rm1 M m = sI (itr (rmA m) r k N) m (upd (gI (itr (rmA m) r k N) m) 12 7)) → gI M m 12 = 8 → Run (gT G) (fun _ => S117) 0 0 (fun _ _ => none) (fun v' M' => v' = none ∧ M' = rmM M m) (fun _ _ => False) kX11_remember 11 [.val (.ref m), .val (.int (nI (k + 1)))] [] N 0 0 := by
    intro r
    induction r with
    | zero =>
      intro k N hk hN hm hr h8
      have hk2 : k = 7 := hk
      subst hk2
      have a1 : ((8 : Int32) ≤ nI (7 + 1)) = True := eq_true (by decide)
      have hL : LM N m := hp.kp hN.1 hN.2.1
      have fN : sI N m (upd (gI N m) 12 (gI N m 12 - 1)) = rm1 M m := by
        rw [hr, show itr (rmA m) 0 7 N = N from rfl, hm, h8]
        rfl
      obtain ⟨w, hw, ew⟩ := rm1_u hc
      have hk1 := rm1_k M m
      have hL1 : LM (rm1 M m) m := hp.kp hk1.1 hk1.2.1
      have cw : (nI w).toNatClampNeg = w := nI_clamp (by omega)
      have w8 : vp_in (nI w) 8 = True := eq_true (vp_in_nI hw (by decide))
      obtain ⟨g1, g2⟩ := hL1.2.2.2 w hw
      have hne : ¬ m = m + 6 + w := r6n m w
      obtain ⟨g3, g4⟩ := hL.2.2.2 w hw
      rw [rX11_remember_11]
      simp only [kX11_remember_11, rX11_remember_40, kX11_remember_40, S117, Nat.reduceEqDiff, reduceIte, bk_c, if_true, if_false, wi_e, wl_e, wr_e, w1_i, w1_r, ldS_0, ldS_s, vi_e, vl_e, vr_e, dpL_u, dpL_i, dpL_r, dpL_l, stS_0, stS_1, stS_s, stL_0, stL_1, stL_s, bin_0, bin_1, bin_2, bin_3, bin_4, bin_5, bdv_0, bdv_1, lbin_0, lbin_1, lbin_2, cnd_0, cnd_1, cnd_2, cnd_3, cnd_4, cnd_5, aty_0, aty_1, aty_2, aty_3, aty_4, aty_5, c8_u, cn_0, cn_i, cn_r, cn_l, Nat.reduceAdd, Nat.reduceLeDiff, Nat.le_refl, adz, hnd_0, rcv_0, rcv_1, kLen_a, kLen_r, inB_e, inR_e, cpOK_e, swt_n, swt_c, List.take_succ_cons, List.take_zero, List.drop_succ_cons, List.drop_zero, List.reverse_cons, List.reverse_nil, List.nil_append, List.cons_append, List.length_cons, List.length_nil, Option.toList_some, Option.toList_none, det_e, det_x, tr_imp, fa_imp, implies_true, not_true, not_false_eq_true, and_true, true_and, nar_i, upd_s, st1_0, st1_1, st1_2, st1_3, st1_4, st1_5, st1_6, st1_7, st1_8, st1_9, st1_10, st1_11, st1_12, st1_13, st1_14, st1_15, st1_16, st1_17, st1_18, st1_19, st1_20, st1_21, st1_22, st1_23, st1_24, st1_25, st1_26, st1_27, st1_28, st1_29, st1_30, st1_31, st1_32, st1_33, st1_34, st1_35, st1_36, st1_37, st1_42, st1_43, st1_44, st1_46, st1_47, st1_48, st1_49, st1_50, st1_51, st1_52, st1_53, st1_54, st1_55, st1_56, st1_57, st1_58, st1_59, st1_60, hL.f, a1, fN, gK_sI, gP_sI, gI_f _ _ hne, hL1.f, g1, g2, g3, g4, r6, ew, cw, w8, sV, Nat.succ_ne_zero, ne_eq]
      unfold rmM
      dsimp only
      rw [ew, cw, gI_f _ _ hne, ew]
    | succ r ih =>
      intro k N hk hN hm hr h8
      have a1 : ((8 : Int32) ≤ nI (k + 1)) = False := eq_false (fun q => absurd ((nI_leI (a := 8) (by decide) (by omega)).mp q) (by omega))
      have hL : LM N m := hp.kp hN.1 hN.2.1
      obtain ⟨g1, g2⟩ := hL.2.2.2 k (by omega)
      obtain ⟨g3, g4⟩ := hL.2.2.2 (k + 1) (by omega)
      have c1 : (nI (k + 1)).toNatClampNeg = k + 1 := nI_clamp (by omega)
      have c2 : (nI k).toNatClampNeg = k := nI_clamp (by omega)
      have w1 : vp_in (nI (k + 1)) 8 = True := eq_true (vp_in_nI (by omega) (by decide))
      have w2 : vp_in (nI k) 8 = True := eq_true (vp_in_nI (by omega) (by decide))
      rw [rX11_remember_11]
      simp only [kX11_remember_11, rX11_remember_40, kX11_remember_40, S117, Nat.reduceEqDiff, reduceIte, bk_c, if_true, if_false, wi_e, wl_e, wr_e, w1_i, w1_r, ldS_0, ldS_s, vi_e, vl_e, vr_e, dpL_u, dpL_i, dpL_r, dpL_l, stS_0, stS_1, stS_s, stL_0, stL_1, stL_s, bin_0, bin_1, bin_2, bin_3, bin_4, bin_5, bdv_0, bdv_1, lbin_0, lbin_1, lbin_2, cnd_0, cnd_1, cnd_2, cnd_3, cnd_4, cnd_5, aty_0, aty_1, aty_2, aty_3, aty_4, aty_5, c8_u, cn_0, cn_i, cn_r, cn_l, Nat.reduceAdd, Nat.reduceLeDiff, Nat.le_refl, adz, hnd_0, rcv_0, rcv_1, kLen_a, kLen_r, inB_e, inR_e, cpOK_e, swt_n, swt_c, List.take_succ_cons, List.take_zero, List.drop_succ_cons, List.drop_zero, List.reverse_cons, List.reverse_nil, List.nil_append, List.cons_append, List.length_cons, List.length_nil, Option.toList_some, Option.toList_none, det_e, det_x, tr_imp, fa_imp, implies_true, not_true, not_false_eq_true, and_true, true_and, nar_i, upd_s, st1_0, st1_1, st1_2, st1_3, st1_4, st1_5, st1_6, st1_7, st1_8, st1_9, st1_10, st1_11, st1_12, st1_13, st1_14, st1_15, st1_16, st1_17, st1_18, st1_19, st1_20, st1_21, st1_22, st1_23, st1_24, st1_25, st1_26, st1_27, st1_28, st1_29, st1_30, st1_31, st1_32, st1_33, st1_34, st1_35, st1_36, st1_37, st1_42, st1_43, st1_44, st1_46, st1_47, st1_48, st1_49, st1_50, st1_51, st1_52, st1_53, st1_54, st1_55, st1_56, st1_57, st1_58, st1_59, st1_60, hL.f, a1, c1, c2, w1, w2, g1, g2, g3, g4, r6, nI_pred, nI_1, sV, Nat.succ_ne_zero, ne_eq]
      refine ih (k + 1) _ (by omega) ((kpI.i _ _ _).t hN) ?_ hr h8
      rw [gI_f _ _ (by omega)]
      exact hm
  simp only [rX11_remember_0, kX11_remember_0, S117, Nat.reduceEqDiff, reduceIte, bk_c, if_true, if_false, wi_e, wl_e, wr_e, w1_i, w1_r, ldS_0, ldS_s, vi_e, vl_e, vr_e, dpL_u, dpL_i, dpL_r, dpL_l, stS_0, stS_1, stS_s, stL_0, stL_1, stL_s, bin_0, bin_1, bin_2, bin_3, bin_4, bin_5, bdv_0, bdv_1, lbin_0, lbin_1, lbin_2, cnd_0, cnd_1, cnd_2, cnd_3, cnd_4, cnd_5, aty_0, aty_1, aty_2, aty_3, aty_4, aty_5, c8_u, cn_0, cn_i, cn_r, cn_l, Nat.reduceAdd, Nat.reduceLeDiff, Nat.le_refl, adz, hnd_0, rcv_0, rcv_1, kLen_a, kLen_r, inB_e, inR_e, cpOK_e, swt_n, swt_c, List.take_succ_cons, List.take_zero, List.drop_succ_cons, List.drop_zero, List.reverse_cons, List.reverse_nil, List.nil_append, List.cons_append, List.length_cons, List.length_nil, Option.toList_some, Option.toList_none, det_e, det_x, tr_imp, fa_imp, implies_true, not_true, not_false_eq_true, and_true, true_and, nar_i, upd_s, st1_0, st1_1, st1_2, st1_3, st1_4, st1_5, st1_6, st1_7, st1_8, st1_9, st1_10, st1_11, st1_12, st1_13, st1_14, st1_15, st1_16, st1_17, st1_18, st1_19, st1_20, st1_21, st1_22, st1_23, st1_24, st1_25, st1_26, st1_27, st1_28, st1_29, st1_30, st1_31, st1_32, st1_33, st1_34, st1_35, st1_36, st1_37, st1_42, st1_43, st1_44, st1_46, st1_47, st1_48, st1_49, st1_50, st1_51, st1_52, st1_53, st1_54, st1_55, st1_56, st1_57, st1_58, st1_59, st1_60, hp.f]
  refine ⟨fun g => ?_, fun g => ?_⟩
  · refine fin (fun v' M' => v' = none ∧ M' = rmM M m) (fun _ _ => False) _ _ ?_ ⟨rfl, rfl⟩
    unfold rm1
    rw [if_neg g]
  · have g8 := Decidable.not_not.mp g
    refine key 7 0 M rfl (kpI.r _) rfl ?_ g8
    unfold rm1
    rw [if_pos g8]
