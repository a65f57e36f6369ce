/-! ===== IrrigationTurnsModel: its parser's small methods ===== -/
def S146 : Sem := fun as M => match as with
  | [.ref m] => sV (LM M m) (some (.int (b9 (gI M m 5 = 0)))) M
  | _ => sF
set_option maxRecDepth 100000 in
set_option maxHeartbeats 4000000 in
theorem s_X11_isGood {l : Launch} {G : Gt} (hfl : l.stackTraces = false) : SatM l G 146 S146 := by
  refine t_X11_isGood (E := fun _ => S0) hfl  fun as M hp => ?_
  unfold S146 at hp ⊢
  split at hp
  case h_2 => exact hp.elim
  rename_i m
  obtain hp := hp
  refine ⟨Nat.le_of_ble_eq_true rfl, ?_⟩
  show Run (gT G) _ _ _ _ _ _ _ 0 [.val (.ref m)] [] M 0 0
  simp only [rX11_isGood_0, kX11_isGood_0, rX11_isGood_11, kX11_isGood_11, rX11_isGood_12, kX11_isGood_12, bk_c, if_true, if_false, wi_e, wl_e, wr_e, w1_i, w1_r, ldS_0, ldS_s, vi_e, vl_e, vr_e, dpL_u, dpL_i, dpL_r, dpL_l, stS_0, stS_1, stS_s, stL_0, stL_1, stL_s, bin_0, bin_1, bin_2, bin_3, bin_4, bin_5, bdv_0, bdv_1, lbin_0, lbin_1, lbin_2, cnd_0, cnd_1, cnd_2, cnd_3, cnd_4, cnd_5, aty_0, aty_1, aty_2, aty_3, aty_4, aty_5, c8_u, cn_0, cn_i, cn_r, cn_l, Nat.reduceAdd, Nat.reduceLeDiff, Nat.le_refl, adz, hnd_0, rcv_0, rcv_1, kLen_a, kLen_r, inB_e, inR_e, cpOK_e, swt_n, swt_c, List.take_succ_cons, List.take_zero, List.drop_succ_cons, List.drop_zero, List.reverse_cons, List.reverse_nil, List.nil_append, List.cons_append, List.length_cons, List.length_nil, Option.toList_some, Option.toList_none, det_e, det_x, tr_imp, fa_imp, implies_true, not_true, not_false_eq_true, and_true, true_and, nar_i, upd_s, st1_0, st1_1, st1_2, st1_3, st1_4, st1_5, st1_6, st1_7, st1_8, st1_9, st1_10, st1_11, st1_12, st1_13, st1_14, st1_15, st1_16, st1_17, st1_18, st1_19, st1_20, st1_21, st1_22, st1_23, st1_24, st1_25, st1_26, st1_27, st1_28, st1_29, st1_30, st1_31, st1_32, st1_33, st1_34, st1_35, st1_36, st1_37, st1_42, st1_43, st1_44, st1_46, st1_47, st1_48, st1_49, st1_50, st1_51, st1_52, st1_53, st1_54, st1_55, st1_56, st1_57, st1_58, st1_59, st1_60, hp.f, nb0, nb1]
  exact ⟨fun h => by rw [b9_f h], fun h => by rw [b9_t (Decidable.not_not.mp h)]⟩
def S144 : Sem := fun as M => match as with
  | [.int c] => sV True (some (.int (b9 (inI c 48 57)))) M
  | _ => sF
set_option maxRecDepth 100000 in
set_option maxHeartbeats 4000000 in
theorem s_X11_isDigit {l : Launch} {G : Gt} (hfl : l.stackTraces = false) : SatM l G 144 S144 := by
  refine t_X11_isDigit (E := fun _ => S139) hfl (s_X11_in hfl) fun as M hp => ?_
  unfold S144 at hp ⊢
  split at hp
  case h_2 => exact hp.elim
  rename_i c
  obtain _ := hp
  refine ⟨Nat.le_of_ble_eq_true rfl, ?_⟩
  show Run (gT G) _ _ _ _ _ _ _ 0 [.val (.int c)] [] M 0 0
  simp only [rX11_isDigit_0, kX11_isDigit_0, S139, Nat.reduceEqDiff, reduceIte, bk_c, if_true, if_false, wi_e, wl_e, wr_e, w1_i, w1_r, ldS_0, ldS_s, vi_e, vl_e, vr_e, dpL_u, dpL_i, dpL_r, dpL_l, stS_0, stS_1, stS_s, stL_0, stL_1, stL_s, bin_0, bin_1, bin_2, bin_3, bin_4, bin_5, bdv_0, bdv_1, lbin_0, lbin_1, lbin_2, cnd_0, cnd_1, cnd_2, cnd_3, cnd_4, cnd_5, aty_0, aty_1, aty_2, aty_3, aty_4, aty_5, c8_u, cn_0, cn_i, cn_r, cn_l, Nat.reduceAdd, Nat.reduceLeDiff, Nat.le_refl, adz, hnd_0, rcv_0, rcv_1, kLen_a, kLen_r, inB_e, inR_e, cpOK_e, swt_n, swt_c, List.take_succ_cons, List.take_zero, List.drop_succ_cons, List.drop_zero, List.reverse_cons, List.reverse_nil, List.nil_append, List.cons_append, List.length_cons, List.length_nil, Option.toList_some, Option.toList_none, det_e, det_x, tr_imp, fa_imp, implies_true, not_true, not_false_eq_true, and_true, true_and, nar_i, upd_s, st1_0, st1_1, st1_2, st1_3, st1_4, st1_5, st1_6, st1_7, st1_8, st1_9, st1_10, st1_11, st1_12, st1_13, st1_14, st1_15, st1_16, st1_17, st1_18, st1_19, st1_20, st1_21, st1_22, st1_23, st1_24, st1_25, st1_26, st1_27, st1_28, st1_29, st1_30, st1_31, st1_32, st1_33, st1_34, st1_35, st1_36, st1_37, st1_42, st1_43, st1_44, st1_46, st1_47, st1_48, st1_49, st1_50, st1_51, st1_52, st1_53, st1_54, st1_55, st1_56, st1_57, st1_58, st1_59, st1_60, sV, b9_n]
def bA (Y : Nat → Int32) (L p : Nat) : Int32 := if p < L then Y p else -1
def S112 : Sem := fun as M => match as with
  | [.ref m, .int k] => sV (LM M m ∧ ∃ L p, L ≤ 900 ∧ p < 2 ^ 30 ∧ gI M m 3 = nI L ∧ k = nI p) (some (.int (bA (gI M (m + 1)) (gI M m 3).toNatClampNeg k.toNatClampNeg))) M
  | _ => sF
set_option maxRecDepth 100000 in
set_option maxHeartbeats 4000000 in
theorem s_X11_byteAt {l : Launch} {G : Gt} (hfl : l.stackTraces = false) : SatM l G 112 S112 := by
  refine t_X11_byteAt (E := fun _ => S0) hfl  fun as M hp => ?_
  unfold S112 at hp ⊢
  split at hp
  case h_2 => exact hp.elim
  rename_i m k
  obtain ⟨hp, L, p, hL, hpb, eL, ek⟩ := hp
  refine ⟨Nat.le_of_ble_eq_true rfl, ?_⟩
  show Run (gT G) _ _ _ _ _ _ _ 0 [.val (.ref m), .val (.int k)] [] M 0 0
  subst ek
  have cL : (nI L).toNatClampNeg = L := nI_clamp (by omega)
  have cp : (nI p).toNatClampNeg = p := nI_clamp (by omega)
  unfold bA
  rw [eL, cL, cp]
  by_cases h : p < L
  · obtain ⟨a1, a2, a3, -⟩ := lp_in (i := p) (n := L) (N := 900) h hL (by decide)
    rw [if_pos h]
    simp only [rX11_byteAt_0, kX11_byteAt_0, rX11_byteAt_17, kX11_byteAt_17, rX11_byteAt_18, kX11_byteAt_18, bk_c, if_true, if_false, wi_e, wl_e, wr_e, w1_i, w1_r, ldS_0, ldS_s, vi_e, vl_e, vr_e, dpL_u, dpL_i, dpL_r, dpL_l, stS_0, stS_1, stS_s, stL_0, stL_1, stL_s, bin_0, bin_1, bin_2, bin_3, bin_4, bin_5, bdv_0, bdv_1, lbin_0, lbin_1, lbin_2, cnd_0, cnd_1, cnd_2, cnd_3, cnd_4, cnd_5, aty_0, aty_1, aty_2, aty_3, aty_4, aty_5, c8_u, cn_0, cn_i, cn_r, cn_l, Nat.reduceAdd, Nat.reduceLeDiff, Nat.le_refl, adz, hnd_0, rcv_0, rcv_1, kLen_a, kLen_r, inB_e, inR_e, cpOK_e, swt_n, swt_c, List.take_succ_cons, List.take_zero, List.drop_succ_cons, List.drop_zero, List.reverse_cons, List.reverse_nil, List.nil_append, List.cons_append, List.length_cons, List.length_nil, Option.toList_some, Option.toList_none, det_e, det_x, tr_imp, fa_imp, implies_true, not_true, not_false_eq_true, and_true, true_and, nar_i, upd_s, st1_0, st1_1, st1_2, st1_3, st1_4, st1_5, st1_6, st1_7, st1_8, st1_9, st1_10, st1_11, st1_12, st1_13, st1_14, st1_15, st1_16, st1_17, st1_18, st1_19, st1_20, st1_21, st1_22, st1_23, st1_24, st1_25, st1_26, st1_27, st1_28, st1_29, st1_30, st1_31, st1_32, st1_33, st1_34, st1_35, st1_36, st1_37, st1_42, st1_43, st1_44, st1_46, st1_47, st1_48, st1_49, st1_50, st1_51, st1_52, st1_53, st1_54, st1_55, st1_56, st1_57, st1_58, st1_59, st1_60, hp.f, eL, a1, a2, a3, Nat.succ_ne_zero, ne_eq]
  · have a1 : (nI L ≤ nI p) = True := eq_true ((nI_leI (by omega) (by omega)).mpr (by omega))
    rw [if_neg h]
    simp only [rX11_byteAt_0, kX11_byteAt_0, rX11_byteAt_17, kX11_byteAt_17, rX11_byteAt_18, kX11_byteAt_18, bk_c, if_true, if_false, wi_e, wl_e, wr_e, w1_i, w1_r, ldS_0, ldS_s, vi_e, vl_e, vr_e, dpL_u, dpL_i, dpL_r, dpL_l, stS_0, stS_1, stS_s, stL_0, stL_1, stL_s, bin_0, bin_1, bin_2, bin_3, bin_4, bin_5, bdv_0, bdv_1, lbin_0, lbin_1, lbin_2, cnd_0, cnd_1, cnd_2, cnd_3, cnd_4, cnd_5, aty_0, aty_1, aty_2, aty_3, aty_4, aty_5, c8_u, cn_0, cn_i, cn_r, cn_l, Nat.reduceAdd, Nat.reduceLeDiff, Nat.le_refl, adz, hnd_0, rcv_0, rcv_1, kLen_a, kLen_r, inB_e, inR_e, cpOK_e, swt_n, swt_c, List.take_succ_cons, List.take_zero, List.drop_succ_cons, List.drop_zero, List.reverse_cons, List.reverse_nil, List.nil_append, List.cons_append, List.length_cons, List.length_nil, Option.toList_some, Option.toList_none, det_e, det_x, tr_imp, fa_imp, implies_true, not_true, not_false_eq_true, and_true, true_and, nar_i, upd_s, st1_0, st1_1, st1_2, st1_3, st1_4, st1_5, st1_6, st1_7, st1_8, st1_9, st1_10, st1_11, st1_12, st1_13, st1_14, st1_15, st1_16, st1_17, st1_18, st1_19, st1_20, st1_21, st1_22, st1_23, st1_24, st1_25, st1_26, st1_27, st1_28, st1_29, st1_30, st1_31, st1_32, st1_33, st1_34, st1_35, st1_36, st1_37, st1_42, st1_43, st1_44, st1_46, st1_47, st1_48, st1_49, st1_50, st1_51, st1_52, st1_53, st1_54, st1_55, st1_56, st1_57, st1_58, st1_59, st1_60, hp.f, eL, a1]
/-- where a text's reading stands -/
def PJ (M : Mm) (m : Nat) : Prop := ∃ L p, L ≤ 900 ∧ p ≤ L ∧ gI M m 3 = nI L ∧ gI M m 4 = nI p
def psM (M : Mm) (m p : Nat) : Mm := sI M m (upd (gI M m) 4 (nI p))
theorem ps_k (M : Mm) (m p : Nat) : kpI (psM M m p) M := kpI.i _ _ _
theorem ps_4 (M : Mm) (m p : Nat) : gI (psM M m p) m 4 = nI p := by unfold psM; rw [gI_s, upd_s]
theorem ps_n (M : Mm) (m p : Nat) {j : Nat} (h : j ≠ 4) : gI (psM M m p) m j = gI M m j := by unfold psM; rw [gI_s, upd_n _ _ h]
theorem ps_f (M : Mm) {m p q : Nat} (h : q ≠ m) : gI (psM M m p) q = gI M q := gI_f _ _ h
theorem ps_ps (M : Mm) (m a b : Nat) : psM (psM M m a) m b = psM M m b := by unfold psM; rw [gI_s, sI_sI, upd_upd]
theorem ps_e (M : Mm) (m p : Nat) : sI M m (upd (gI M m) 4 (nI p)) = psM M m p := rfl
theorem ps_id {M : Mm} {m p : Nat} (h : gI M m 4 = nI p) : psM M m p = M := by unfold psM; rw [← h, upd_id, sI_id]
theorem LM.ps {M : Mm} {m : Nat} (g : LM M m) (p : Nat) : LM (psM M m p) m := g.kp rfl rfl
def skq (Y : Nat → Int32) (L : Nat) : Nat → Nat → Nat
  | 0, p => p
  | r + 1, p => if bA Y L p = 32 then skq Y L r (p + 1) else p
theorem skq_b (Y : Nat → Int32) (L : Nat) : ∀ r p, p ≤ skq Y L r p ∧ skq Y L r p ≤ p + r
  | 0, p => ⟨Nat.le_refl _, Nat.le_refl _⟩
  | r + 1, p => by
    unfold skq
    split
    · have := skq_b Y L r (p + 1)
      omega
    · omega
def mTL (M : Mm) (m : Nat) : Nat := (gI M m 3).toNatClampNeg
def mPo (M : Mm) (m : Nat) : Nat := (gI M m 4).toNatClampNeg
def nxp (M : Mm) (m : Nat) : Nat := skq (gI M (m + 1)) (mTL M m) (mTL M m - mPo M m) (mPo M m)
def nxc (M : Mm) (m : Nat) : Int32 := bA (gI M (m + 1)) (mTL M m) (nxp M m)
def nxN (M : Mm) (m : Nat) : Mm := psM M m (nxp M m)
theorem nxp_b {M : Mm} {m L p : Nat} (hL : L ≤ 900) (hp : p ≤ L) (eL : gI M m 3 = nI L) (ep : gI M m 4 = nI p) : p ≤ nxp M m ∧ nxp M m ≤ L ∧ mTL M m = L ∧ mPo M m = p := by
  have cL : (nI L).toNatClampNeg = L := nI_clamp (by omega)
  have cp : (nI p).toNatClampNeg = p := nI_clamp (by omega)
  unfold nxp mTL mPo
  rw [eL, ep, cL, cp]
  have := skq_b (gI M (m + 1)) L (L - p) p
  omega
theorem PJ.nx {M : Mm} {m : Nat} (h : PJ M m) : PJ (nxN M m) m := by
  obtain ⟨L, p, h1, h2, h3, h4⟩ := h
  have hb := nxp_b h1 h2 h3 h4
  exact ⟨L, nxp M m, h1, hb.2.1, by unfold nxN; rw [ps_n _ _ _ (by decide)]; exact h3, ps_4 _ _ _⟩
def S151 : Sem := fun as M => match as with
  | [.ref m] => sV (LM M m ∧ PJ M m) (some (.int (nxc M m))) (nxN M m)
  | _ => sF
theorem bA_p {L p : Nat} (hL : L ≤ 900) (hp : p < 2 ^ 30) : (∃ L' p', L' ≤ 900 ∧ p' < 2 ^ 30 ∧ nI L = nI L' ∧ nI p = nI p') = True := eq_true ⟨L, p, hL, hp, rfl, rfl⟩
theorem ps_1 (M : Mm) (m p : Nat) : gI (psM M m p) (m + 1) = gI M (m + 1) := ps_f M (by omega)
theorem ps_3 (M : Mm) (m p : Nat) : gI (psM M m p) (m + 3) = gI M (m + 3) := ps_f M (by omega)
theorem ps_K (M : Mm) (m p : Nat) : gK (psM M m p) = gK M := rfl
theorem ps_P (M : Mm) (m p : Nat) : gP (psM M m p) = gP M := rfl
theorem bA_o {Y : Nat → Int32} {L p : Nat} (h : ¬ p < L) : bA Y L p = -1 := if_neg h
set_option maxRecDepth 100000 in
set_option maxHeartbeats 4000000 in
theorem s_X11_next {l : Launch} {G : Gt} (hfl : l.stackTraces = false) : SatM l G 151 S151 := by
  refine t_X11_next (E := fun _ => S112) hfl (s_X11_byteAt hfl) fun as M hp => ?_
  unfold S151 at hp ⊢
  split at hp
  case h_2 => exact hp.elim
  rename_i m
  obtain ⟨hp, L, p, hL, hpL, eL, ep⟩ := hp
  refine ⟨Nat.le_of_ble_eq_true rfl, ?_⟩
  show Run (gT G) _ _ _ _ _ _ _ 0 [.val (.ref m)] [] M 0 0
  have cL : (nI L).toNatClampNeg = L := nI_clamp (by omega)
  have key : ∀ r p, p + r = L → Run (gT G) (fun _ => S112) 0 0 (fun _ _ => none) (fun v' M' => v' = some (.int (bA (gI M (m + 1)) L (skq (gI M (m + 1)) L r p))) ∧ M' = psM M m (skq (gI M (m + 1)) L r p)) (fun _ _ => False) kX11_next 0 [.val (.ref m)] [] (psM M m p) 0 0 := by
    intro r
    induction r with
    | zero =>
      intro p hpr
      have hp2 : p = L := hpr
      subst hp2
      have e3 : gI (psM M m p) m 3 = nI p := by rw [ps_n _ _ _ (by decide)]; exact eL
      have hA := bA_p hL (show p < 2 ^ 30 by omega)
      have hb : bA (gI M (m + 1)) p p = -1 := bA_o (Nat.lt_irrefl p)
      rw [rX11_next_0]
      simp only [kX11_next_0, rX11_next_26, kX11_next_26, S112, Nat.reduceEqDiff, reduceIte, bk_c, if_true, if_false, wi_e, wl_e, wr_e, w1_i, w1_r, ldS_0, ldS_s, vi_e, vl_e, vr_e, dpL_u, dpL_i, dpL_r, dpL_l, stS_0, stS_1, stS_s, stL_0, stL_1, stL_s, bin_0, bin_1, bin_2, bin_3, bin_4, bin_5, bdv_0, bdv_1, lbin_0, lbin_1, lbin_2, cnd_0, cnd_1, cnd_2, cnd_3, cnd_4, cnd_5, aty_0, aty_1, aty_2, aty_3, aty_4, aty_5, c8_u, cn_0, cn_i, cn_r, cn_l, Nat.reduceAdd, Nat.reduceLeDiff, Nat.le_refl, adz, hnd_0, rcv_0, rcv_1, kLen_a, kLen_r, inB_e, inR_e, cpOK_e, swt_n, swt_c, List.take_succ_cons, List.take_zero, List.drop_succ_cons, List.drop_zero, List.reverse_cons, List.reverse_nil, List.nil_append, List.cons_append, List.length_cons, List.length_nil, Option.toList_some, Option.toList_none, det_e, det_x, tr_imp, fa_imp, implies_true, not_true, not_false_eq_true, and_true, true_and, nar_i, upd_s, st1_0, st1_1, st1_2, st1_3, st1_4, st1_5, st1_6, st1_7, st1_8, st1_9, st1_10, st1_11, st1_12, st1_13, st1_14, st1_15, st1_16, st1_17, st1_18, st1_19, st1_20, st1_21, st1_22, st1_23, st1_24, st1_25, st1_26, st1_27, st1_28, st1_29, st1_30, st1_31, st1_32, st1_33, st1_34, st1_35, st1_36, st1_37, st1_42, st1_43, st1_44, st1_46, st1_47, st1_48, st1_49, st1_50, st1_51, st1_52, st1_53, st1_54, st1_55, st1_56, st1_57, st1_58, st1_59, st1_60, sV, ps_K, hp.f, hp.ps p, hA, ps_4, ps_1, e3, cL, hb, show ((-1 : Int32) = 32) = False from eq_false (by decide), skq]
    | succ r ih =>
      intro p hpr
      have e3 : gI (psM M m p) m 3 = nI L := by rw [ps_n _ _ _ (by decide)]; exact eL
      have hA := bA_p hL (show p < 2 ^ 30 by omega)
      have cp : (nI p).toNatClampNeg = p := nI_clamp (by omega)
      have f1 : sI (psM M m p) m (upd (gI (psM M m p) m) 4 (nI (p + 1))) = psM M m (p + 1) := ps_ps M m p (p + 1)
      rw [rX11_next_0]
      simp only [kX11_next_0, rX11_next_26, kX11_next_26, S112, Nat.reduceEqDiff, reduceIte, bk_c, if_true, if_false, wi_e, wl_e, wr_e, w1_i, w1_r, ldS_0, ldS_s, vi_e, vl_e, vr_e, dpL_u, dpL_i, dpL_r, dpL_l, stS_0, stS_1, stS_s, stL_0, stL_1, stL_s, bin_0, bin_1, bin_2, bin_3, bin_4, bin_5, bdv_0, bdv_1, lbin_0, lbin_1, lbin_2, cnd_0, cnd_1, cnd_2, cnd_3, cnd_4, cnd_5, aty_0, aty_1, aty_2, aty_3, aty_4, aty_5, c8_u, cn_0, cn_i, cn_r, cn_l, Nat.reduceAdd, Nat.reduceLeDiff, Nat.le_refl, adz, hnd_0, rcv_0, rcv_1, kLen_a, kLen_r, inB_e, inR_e, cpOK_e, swt_n, swt_c, List.take_succ_cons, List.take_zero, List.drop_succ_cons, List.drop_zero, List.reverse_cons, List.reverse_nil, List.nil_append, List.cons_append, List.length_cons, List.length_nil, Option.toList_some, Option.toList_none, det_e, det_x, tr_imp, fa_imp, implies_true, not_true, not_false_eq_true, and_true, true_and, nar_i, upd_s, st1_0, st1_1, st1_2, st1_3, st1_4, st1_5, st1_6, st1_7, st1_8, st1_9, st1_10, st1_11, st1_12, st1_13, st1_14, st1_15, st1_16, st1_17, st1_18, st1_19, st1_20, st1_21, st1_22, st1_23, st1_24, st1_25, st1_26, st1_27, st1_28, st1_29, st1_30, st1_31, st1_32, st1_33, st1_34, st1_35, st1_36, st1_37, st1_42, st1_43, st1_44, st1_46, st1_47, st1_48, st1_49, st1_50, st1_51, st1_52, st1_53, st1_54, st1_55, st1_56, st1_57, st1_58, st1_59, st1_60, sV, ps_K, hp.f, hp.ps p, hA, ps_4, ps_1, e3, cL, cp, nI_1, f1, skq]
      refine ⟨fun h => ?_, fun h => ?_⟩
      · rw [if_neg h]
        exact ⟨rfl, rfl⟩
      · rw [if_pos (Decidable.not_not.mp h)]
        exact ih (p + 1) (by omega)
  have h0 := key (L - p) p (by omega)
  have hb := nxp_b hL hpL eL ep
  rw [ps_id ep] at h0
  unfold nxN nxc nxp
  rw [hb.2.2.1, hb.2.2.2]
  exact h0
def reN (M : Mm) (m : Nat) (k o : Int32) : Mm := if gI M m 5 = 0 then sI M m (upd (upd (gI M m) 5 k) 6 o) else M
def S166 : Sem := fun as M => match as with
  | [.ref m, .int k, .int o] => sV (LM M m) none (reN M m k o)
  | _ => sF
set_option maxRecDepth 100000 in
set_option maxHeartbeats 4000000 in
theorem s_X11_report {l : Launch} {G : Gt} (hfl : l.stackTraces = false) : SatM l G 166 S166 := by
  refine t_X11_report (E := fun _ => S0) hfl  fun as M hp => ?_
  unfold S166 at hp ⊢
  split at hp
  case h_2 => exact hp.elim
  rename_i m k o
  obtain hp := hp
  refine ⟨Nat.le_of_ble_eq_true rfl, ?_⟩
  show Run (gT G) _ _ _ _ _ _ _ 0 [.val (.ref m), .val (.int k), .val (.int o)] [] M 0 0
  simp only [rX11_report_0, kX11_report_0, rX11_report_8, kX11_report_8, bk_c, if_true, if_false, wi_e, wl_e, wr_e, w1_i, w1_r, ldS_0, ldS_s, vi_e, vl_e, vr_e, dpL_u, dpL_i, dpL_r, dpL_l, stS_0, stS_1, stS_s, stL_0, stL_1, stL_s, bin_0, bin_1, bin_2, bin_3, bin_4, bin_5, bdv_0, bdv_1, lbin_0, lbin_1, lbin_2, cnd_0, cnd_1, cnd_2, cnd_3, cnd_4, cnd_5, aty_0, aty_1, aty_2, aty_3, aty_4, aty_5, c8_u, cn_0, cn_i, cn_r, cn_l, Nat.reduceAdd, Nat.reduceLeDiff, Nat.le_refl, adz, hnd_0, rcv_0, rcv_1, kLen_a, kLen_r, inB_e, inR_e, cpOK_e, swt_n, swt_c, List.take_succ_cons, List.take_zero, List.drop_succ_cons, List.drop_zero, List.reverse_cons, List.reverse_nil, List.nil_append, List.cons_append, List.length_cons, List.length_nil, Option.toList_some, Option.toList_none, det_e, det_x, tr_imp, fa_imp, implies_true, not_true, not_false_eq_true, and_true, true_and, nar_i, upd_s, st1_0, st1_1, st1_2, st1_3, st1_4, st1_5, st1_6, st1_7, st1_8, st1_9, st1_10, st1_11, st1_12, st1_13, st1_14, st1_15, st1_16, st1_17, st1_18, st1_19, st1_20, st1_21, st1_22, st1_23, st1_24, st1_25, st1_26, st1_27, st1_28, st1_29, st1_30, st1_31, st1_32, st1_33, st1_34, st1_35, st1_36, st1_37, st1_42, st1_43, st1_44, st1_46, st1_47, st1_48, st1_49, st1_50, st1_51, st1_52, st1_53, st1_54, st1_55, st1_56, st1_57, st1_58, st1_59, st1_60, gK_sI, gI_s, sI_sI, hp.f]
  unfold reN
  exact ⟨fun h => by rw [if_pos h], fun h => by rw [if_neg h]⟩
theorem re_k (M : Mm) (m : Nat) (k o : Int32) : kpI (reN M m k o) M := by
  unfold reN
  split
  · exact kpI.i _ _ _
  · exact kpI.r _
theorem re_n (M : Mm) (m : Nat) (k o : Int32) {j : Nat} (h : j ≠ 5) (h2 : j ≠ 6) : gI (reN M m k o) m j = gI M m j := by
  unfold reN
  split
  · rw [gI_s, upd_n _ _ h2, upd_n _ _ h]
  · rfl
theorem re_f (M : Mm) {m q : Nat} (k o : Int32) (h : q ≠ m) : gI (reN M m k o) q = gI M q := by
  unfold reN
  split
  · exact gI_f _ _ h
  · rfl
theorem PJ.re {M : Mm} {m : Nat} (h : PJ M m) (k o : Int32) : PJ (reN M m k o) m := by
  unfold PJ
  rw [re_n _ _ _ _ (by decide) (by decide), re_n _ _ _ _ (by decide) (by decide)]
  exact h
/-! == a word == -/
def mtQ (Y : Nat → Int32) (L : Nat) : List Int32 → Nat → Int32
  | [], p => if inI (bA Y L p) 97 122 then 0 else 1
  | c :: cs, p => if bA Y L p = c then mtQ Y L cs (p + 1) else 0
def twN (M : Mm) (m w : Nat) : Int32 × Mm := if ¬ gI M m 5 = 0 then (0, M) else if mtQ (gI M (m + 1)) (mTL M m) (sB.getD w []) (nxp M m) = 0 then (0, nxN M m) else (1, psM M m (nxp M m + (sB.getD w []).length))
def S174 : Sem := fun as M => match as with
  | [.ref m, .ref q] => sV (LM M m ∧ PJ M m ∧ ∃ i, i < 10 ∧ gK M q = kS i) (some (.int (twN M m (kSi (gK M q))).1)) (twN M m (kSi (gK M q))).2
  | _ => sF
def eX11_takeWord : Nat → Sem := fun id => if id = 112 then S112 else if id = 139 then S139 else if id = 146 then S146 else if id = 151 then S151 else if id = 900 then S900 else S901
set_option maxRecDepth 100000 in
set_option maxHeartbeats 4000000 in
theorem s_X11_takeWord {l : Launch} {G : Gt} (hfl : l.stackTraces = false) : SatM l G 174 S174 := by
  refine t_X11_takeWord (E := eX11_takeWord) hfl (s_X11_byteAt hfl) (s_X11_in hfl) (s_X11_isGood hfl) (s_X11_next hfl) (s_JS_length hfl) (s_JS_charAt hfl) fun as M hp => ?_
  unfold S174 at hp ⊢
  split at hp
  case h_2 => exact hp.elim
  rename_i m q
  obtain ⟨hp, hJ, w, hw, kw⟩ := hp
  refine ⟨Nat.le_of_ble_eq_true rfl, ?_⟩
  show Run (gT G) _ _ _ _ _ _ _ 0 [.val (.ref m), .val (.ref q), .unset] [] M 0 0
  obtain ⟨g1, g2⟩ := sNB w hw
  rw [kw, kSi_e]
  unfold twN
  by_cases he : gI M m 5 = 0
  · have he1 : (gI M m 5 = 0) = True := eq_true he
    rw [if_neg (fun z => z he)]
    obtain ⟨L, p, hL, hpL, eL, ep⟩ := id hJ
    have hb := nxp_b hL hpL eL ep
    have cL : (nI L).toNatClampNeg = L := nI_clamp (by omega)
    have e3 : gI (nxN M m) m 3 = nI L := by unfold nxN; rw [ps_n _ _ _ (by decide)]; exact eL
    have e4 : gI (nxN M m) m 4 = nI (nxp M m) := ps_4 _ _ _
    have e1 : gI (nxN M m) (m + 1) = gI M (m + 1) := ps_1 _ _ _
    have nK : gK (nxN M m) = gK M := rfl
    have hL2 : LM (nxN M m) m := hp.ps _
    rw [hb.2.2.1]
    have key : ∀ (l : List Int32) k (Q : Option Value → Mm → Prop) (X : Nat → Mm → Prop), k + l.length = (sB.getD w []).length → (sB.getD w []).drop k = l → Q (some (.int (if mtQ (gI M (m + 1)) L l (nxp M m + k) = 0 then 0 else 1))) (if mtQ (gI M (m + 1)) L l (nxp M m + k) = 0 then nxN M m else psM M m (nxp M m + (sB.getD w []).length)) → Run (gT G) eX11_takeWord 0 0 (fun _ _ => none) Q X kX11_takeWord 16 [.val (.ref m), .val (.ref q), .val (.int (nI k))] [] (nxN M m) 0 0 := by
      intro l
      induction l with
      | nil =>
        intro k Q X hk hd hq
        have hk2 : k = (sB.getD w []).length := hk
        subst hk2
        have hA := bA_p (p := nxp M m + (sB.getD w []).length) hL (by omega)
        have cA : (nI (nxp M m + (sB.getD w []).length)).toNatClampNeg = nxp M m + (sB.getD w []).length := nI_clamp (by omega)
        have nlt : (nI (sB.getD w []).length < nI (sB.getD w []).length) = False := eq_false (Int32.lt_irrefl)
        have f1 : sI (nxN M m) m (upd (gI (nxN M m) m) 4 (nI (nxp M m + (sB.getD w []).length))) = psM M m (nxp M m + (sB.getD w []).length) := ps_ps M m _ _
        rw [rX11_takeWord_16]
        simp only [kX11_takeWord_16, rX11_takeWord_48, kX11_takeWord_48, rX11_takeWord_76, kX11_takeWord_76, rX11_takeWord_78, kX11_takeWord_78, eX11_takeWord, S112, S139, S146, S151, S900, S901, bk_c, if_true, if_false, wi_e, wl_e, wr_e, w1_i, w1_r, ldS_0, ldS_s, vi_e, vl_e, vr_e, dpL_u, dpL_i, dpL_r, dpL_l, stS_0, stS_1, stS_s, stL_0, stL_1, stL_s, bin_0, bin_1, bin_2, bin_3, bin_4, bin_5, bdv_0, bdv_1, lbin_0, lbin_1, lbin_2, cnd_0, cnd_1, cnd_2, cnd_3, cnd_4, cnd_5, aty_0, aty_1, aty_2, aty_3, aty_4, aty_5, c8_u, cn_0, cn_i, cn_r, cn_l, Nat.reduceAdd, Nat.reduceLeDiff, Nat.le_refl, adz, hnd_0, rcv_0, rcv_1, kLen_a, kLen_r, inB_e, inR_e, cpOK_e, swt_n, swt_c, List.take_succ_cons, List.take_zero, List.drop_succ_cons, List.drop_zero, List.reverse_cons, List.reverse_nil, List.nil_append, List.cons_append, List.length_cons, List.length_nil, Option.toList_some, Option.toList_none, det_e, det_x, tr_imp, fa_imp, implies_true, not_true, not_false_eq_true, and_true, true_and, nar_i, upd_s, st1_0, st1_1, st1_2, st1_3, st1_4, st1_5, st1_6, st1_7, st1_8, st1_9, st1_10, st1_11, st1_12, st1_13, st1_14, st1_15, st1_16, st1_17, st1_18, st1_19, st1_20, st1_21, st1_22, st1_23, st1_24, st1_25, st1_26, st1_27, st1_28, st1_29, st1_30, st1_31, st1_32, st1_33, st1_34, st1_35, st1_36, st1_37, st1_42, st1_43, st1_44, st1_46, st1_47, st1_48, st1_49, st1_50, st1_51, st1_52, st1_53, st1_54, st1_55, st1_56, st1_57, st1_58, st1_59, st1_60, Nat.reduceEqDiff, reduceIte, nK, kw, isS_e, kSi_e, sV, g1, lp_out, nlt, hL2.f, hL2, hA, e1, e3, e4, nI_add, cA, cL, b9_0, f1, nb0, nb1]
        unfold mtQ at hq
        refine ⟨fun g => ?_, fun g => ?_⟩
        · rw [if_neg g, if_neg (by decide), if_neg (by decide)] at hq
          exact hq
        · rw [if_pos (Decidable.not_not.mp g), if_pos rfl, if_pos rfl] at hq
          exact hq
      | cons c cs ih =>
        intro k Q X hk hd hq
        rw [List.length_cons] at hk
        obtain ⟨a1, a2, a3, a4⟩ := lp_in (i := k) (n := (sB.getD w []).length) (N := (sB.getD w []).length) (by omega) (Nat.le_refl _) (by omega)
        have hA := bA_p (p := nxp M m + k) hL (by omega)
        have cA : (nI (nxp M m + k)).toNatClampNeg = nxp M m + k := nI_clamp (by omega)
        have a6 : (sB.getD w []).getD k 0 = c := by
          have := congrArg (fun z => z.getD 0 (0 : Int32)) hd
          simpa [List.getD, List.getElem?_drop] using this
        unfold mtQ at hq
        rw [rX11_takeWord_16]
        simp only [kX11_takeWord_16, rX11_takeWord_48, kX11_takeWord_48, rX11_takeWord_76, kX11_takeWord_76, eX11_takeWord, S112, S139, S146, S151, S900, S901, bk_c, if_true, if_false, wi_e, wl_e, wr_e, w1_i, w1_r, ldS_0, ldS_s, vi_e, vl_e, vr_e, dpL_u, dpL_i, dpL_r, dpL_l, stS_0, stS_1, stS_s, stL_0, stL_1, stL_s, bin_0, bin_1, bin_2, bin_3, bin_4, bin_5, bdv_0, bdv_1, lbin_0, lbin_1, lbin_2, cnd_0, cnd_1, cnd_2, cnd_3, cnd_4, cnd_5, aty_0, aty_1, aty_2, aty_3, aty_4, aty_5, c8_u, cn_0, cn_i, cn_r, cn_l, Nat.reduceAdd, Nat.reduceLeDiff, Nat.le_refl, adz, hnd_0, rcv_0, rcv_1, kLen_a, kLen_r, inB_e, inR_e, cpOK_e, swt_n, swt_c, List.take_succ_cons, List.take_zero, List.drop_succ_cons, List.drop_zero, List.reverse_cons, List.reverse_nil, List.nil_append, List.cons_append, List.length_cons, List.length_nil, Option.toList_some, Option.toList_none, det_e, det_x, tr_imp, fa_imp, implies_true, not_true, not_false_eq_true, and_true, true_and, nar_i, upd_s, st1_0, st1_1, st1_2, st1_3, st1_4, st1_5, st1_6, st1_7, st1_8, st1_9, st1_10, st1_11, st1_12, st1_13, st1_14, st1_15, st1_16, st1_17, st1_18, st1_19, st1_20, st1_21, st1_22, st1_23, st1_24, st1_25, st1_26, st1_27, st1_28, st1_29, st1_30, st1_31, st1_32, st1_33, st1_34, st1_35, st1_36, st1_37, st1_42, st1_43, st1_44, st1_46, st1_47, st1_48, st1_49, st1_50, st1_51, st1_52, st1_53, st1_54, st1_55, st1_56, st1_57, st1_58, st1_59, st1_60, Nat.reduceEqDiff, reduceIte, nK, kw, isS_e, kSi_e, sV, g1, a1, a2, a3, a4, a6, hL2.f, hL2, hA, e1, e3, e4, nI_add, cA, cL, nI_1, nb0]
        refine ⟨fun g => ?_, fun g => ?_⟩
        · rw [if_neg g, if_pos rfl, if_pos rfl] at hq
          exact hq
        · rw [if_pos (Decidable.not_not.mp g)] at hq
          refine ih (k + 1) Q X (by omega) ?_ hq
          have := congrArg List.tail hd
          rw [List.tail_drop] at this
          exact this
    simp only [rX11_takeWord_0, kX11_takeWord_0, rX11_takeWord_9, kX11_takeWord_9, eX11_takeWord, S112, S139, S146, S151, S900, S901, bk_c, if_true, if_false, wi_e, wl_e, wr_e, w1_i, w1_r, ldS_0, ldS_s, vi_e, vl_e, vr_e, dpL_u, dpL_i, dpL_r, dpL_l, stS_0, stS_1, stS_s, stL_0, stL_1, stL_s, bin_0, bin_1, bin_2, bin_3, bin_4, bin_5, bdv_0, bdv_1, lbin_0, lbin_1, lbin_2, cnd_0, cnd_1, cnd_2, cnd_3, cnd_4, cnd_5, aty_0, aty_1, aty_2, aty_3, aty_4, aty_5, c8_u, cn_0, cn_i, cn_r, cn_l, Nat.reduceAdd, Nat.reduceLeDiff, Nat.le_refl, adz, hnd_0, rcv_0, rcv_1, kLen_a, kLen_r, inB_e, inR_e, cpOK_e, swt_n, swt_c, List.take_succ_cons, List.take_zero, List.drop_succ_cons, List.drop_zero, List.reverse_cons, List.reverse_nil, List.nil_append, List.cons_append, List.length_cons, List.length_nil, Option.toList_some, Option.toList_none, det_e, det_x, tr_imp, fa_imp, implies_true, not_true, not_false_eq_true, and_true, true_and, nar_i, upd_s, st1_0, st1_1, st1_2, st1_3, st1_4, st1_5, st1_6, st1_7, st1_8, st1_9, st1_10, st1_11, st1_12, st1_13, st1_14, st1_15, st1_16, st1_17, st1_18, st1_19, st1_20, st1_21, st1_22, st1_23, st1_24, st1_25, st1_26, st1_27, st1_28, st1_29, st1_30, st1_31, st1_32, st1_33, st1_34, st1_35, st1_36, st1_37, st1_42, st1_43, st1_44, st1_46, st1_47, st1_48, st1_49, st1_50, st1_51, st1_52, st1_53, st1_54, st1_55, st1_56, st1_57, st1_58, st1_59, st1_60, Nat.reduceEqDiff, reduceIte, sV, hp.f, hp, hJ, b9_0, he1]
    refine key (sB.getD w []) 0 _ _ (Nat.zero_add _) rfl ?_
    by_cases hm : mtQ (gI M (m + 1)) L (sB.getD w []) (nxp M m) = 0
    · have hm2 : mtQ (gI M (m + 1)) L (sB.getD w []) (nxp M m + 0) = 0 := hm
      rw [if_pos hm, if_pos hm2, if_pos hm2]
      exact ⟨rfl, rfl⟩
    · have hm2 : ¬ mtQ (gI M (m + 1)) L (sB.getD w []) (nxp M m + 0) = 0 := hm
      rw [if_neg hm, if_neg hm2, if_neg hm2]
      exact ⟨rfl, rfl⟩
  · have he1 : (gI M m 5 = 0) = False := eq_false he
    rw [if_pos he]
    simp only [rX11_takeWord_0, kX11_takeWord_0, rX11_takeWord_9, kX11_takeWord_9, eX11_takeWord, S112, S139, S146, S151, S900, S901, bk_c, if_true, if_false, wi_e, wl_e, wr_e, w1_i, w1_r, ldS_0, ldS_s, vi_e, vl_e, vr_e, dpL_u, dpL_i, dpL_r, dpL_l, stS_0, stS_1, stS_s, stL_0, stL_1, stL_s, bin_0, bin_1, bin_2, bin_3, bin_4, bin_5, bdv_0, bdv_1, lbin_0, lbin_1, lbin_2, cnd_0, cnd_1, cnd_2, cnd_3, cnd_4, cnd_5, aty_0, aty_1, aty_2, aty_3, aty_4, aty_5, c8_u, cn_0, cn_i, cn_r, cn_l, Nat.reduceAdd, Nat.reduceLeDiff, Nat.le_refl, adz, hnd_0, rcv_0, rcv_1, kLen_a, kLen_r, inB_e, inR_e, cpOK_e, swt_n, swt_c, List.take_succ_cons, List.take_zero, List.drop_succ_cons, List.drop_zero, List.reverse_cons, List.reverse_nil, List.nil_append, List.cons_append, List.length_cons, List.length_nil, Option.toList_some, Option.toList_none, det_e, det_x, tr_imp, fa_imp, implies_true, not_true, not_false_eq_true, and_true, true_and, nar_i, upd_s, st1_0, st1_1, st1_2, st1_3, st1_4, st1_5, st1_6, st1_7, st1_8, st1_9, st1_10, st1_11, st1_12, st1_13, st1_14, st1_15, st1_16, st1_17, st1_18, st1_19, st1_20, st1_21, st1_22, st1_23, st1_24, st1_25, st1_26, st1_27, st1_28, st1_29, st1_30, st1_31, st1_32, st1_33, st1_34, st1_35, st1_36, st1_37, st1_42, st1_43, st1_44, st1_46, st1_47, st1_48, st1_49, st1_50, st1_51, st1_52, st1_53, st1_54, st1_55, st1_56, st1_57, st1_58, st1_59, st1_60, Nat.reduceEqDiff, reduceIte, sV, hp.f, hp, hJ, b9_0, he1, nb0]
