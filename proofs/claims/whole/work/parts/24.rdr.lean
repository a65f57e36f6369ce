/-! ===== SetupReader: its small methods ===== -/
def Lu (M : Mm) (r : Nat) : Prop := gK M r = kO 7 ∧ (gP M r 0 = r + 1 ∧ gP M r 1 = r + 3) ∧ Lt M (r + 1) ∧ Ls M (r + 3)
def TJ (M : Mm) (t : Nat) : Prop := ∃ L s p, L ≤ 900 ∧ s ≤ p ∧ p ≤ L ∧ gI M t 5 = nI L ∧ gI M t 3 = nI s ∧ gI M t 6 = nI p
/-- what holds while a text is read, also behind an error -/
def UI (M : Mm) (r : Nat) : Prop := Lu M r ∧ TJ M (r + 1) ∧ cnt (gI M (r + 4) 8) 16 ∧ cnt (gI M (r + 13) 11) 12 ∧ cnt (gI M (r + 25) 2) 12 ∧ cnt (gI M (r + 28) 1) 10 ∧ cnt (gI M (r + 30) 2) 900
def kpI (N M : Mm) : Prop := gK N = gK M ∧ gP N = gP M ∧ gZ N = gZ M
theorem kpI.r (M : Mm) : kpI M M := ⟨rfl, rfl, rfl⟩
theorem kpI.t {A B C : Mm} (h : kpI A B) (g : kpI B C) : kpI A C := ⟨h.1.trans g.1, h.2.1.trans g.2.1, h.2.2.trans g.2.2⟩
theorem kpI.i (M : Mm) (a : Nat) (f : Nat → Int32) : kpI (sI M a f) M := ⟨rfl, rfl, rfl⟩
theorem Lt.kp {M N : Mm} {t : Nat} (h : kpI N M) (g : Lt M t) : Lt N t := by unfold Lt at g ⊢; rw [h.1, h.2.1]; exact g
theorem Lu.kp {M N : Mm} {r : Nat} (h : kpI N M) (g : Lu M r) : Lu N r := ⟨by rw [h.1]; exact g.1, by rw [h.2.1]; exact g.2.1, g.2.2.1.kp h, Ls.ss h.1 h.2.1 g.2.2.2⟩
theorem skp_b (Y : Nat → Int32) : ∀ r p, p ≤ skp Y r p ∧ skp Y r p ≤ p + r
  | 0, p => ⟨Nat.le_refl _, Nat.le_refl _⟩
  | r + 1, p => by
    unfold skp
    split
    · have := skp_b Y r (p + 1)
      omega
    · omega
theorem spd_b (Y : Nat → Int32) : ∀ r p, p ≤ spd Y r p ∧ spd Y r p ≤ p + r
  | 0, p => ⟨Nat.le_refl _, Nat.le_refl _⟩
  | r + 1, p => by
    unfold spd
    split
    · have := spd_b Y r (p + 1)
      omega
    · omega
theorem spl_b (Y : Nat → Int32) : ∀ r p, p ≤ spl Y r p ∧ spl Y r p ≤ p + r
  | 0, p => ⟨Nat.le_refl _, Nat.le_refl _⟩
  | r + 1, p => by
    unfold spl
    split
    · have := spl_b Y r (p + 1)
      omega
    · omega
theorem tkE_b (Y : Nat → Int32) {L s : Nat} (c : Int32) (h : s ≤ L) : s ≤ (tkE Y L c s).2.2 ∧ (tkE Y L c s).2.2 ≤ L := by
  unfold tkE
  split
  · exact ⟨Nat.le_refl _, h⟩
  · split
    · have := spd_b Y (L - s) s
      exact ⟨this.1, by have h2 := this.2; show spd Y (L - s) s ≤ L; omega⟩
    · split
      · have := spl_b Y (L - s) s
        exact ⟨this.1, by have h2 := this.2; show spl Y (L - s) s ≤ L; omega⟩
      · exact ⟨Nat.le_succ s, by show s + 1 ≤ L; omega⟩
theorem TJ.p {M : Mm} {t : Nat} (h : TJ M t) : ∃ L p, L ≤ 900 ∧ p ≤ L ∧ gI M t 5 = nI L ∧ gI M t 6 = nI p := by
  obtain ⟨L, s, p, h1, h2, h3, h4, h5, h6⟩ := h
  exact ⟨L, p, h1, h3, h4, h6⟩
theorem TJ.w {M : Mm} {t : Nat} (h : TJ M t) : ∃ s p, s ≤ p ∧ p ≤ 900 ∧ gI M t 3 = nI s ∧ gI M t 6 = nI p := by
  obtain ⟨L, s, p, h1, h2, h3, h4, h5, h6⟩ := h
  exact ⟨s, p, h2, by omega, h5, h6⟩
theorem tj_nx {M : Mm} {t : Nat} (h : ∃ L p, L ≤ 900 ∧ p ≤ L ∧ gI M t 5 = nI L ∧ gI M t 6 = nI p) : TJ (nxM M t) t := by
  obtain ⟨L, p, h1, h2, h3, h4⟩ := h
  have cL : (nI L).toNatClampNeg = L := nI_clamp (by omega)
  have cp : (nI p).toNatClampNeg = p := nI_clamp (by omega)
  have hs : p ≤ nxS M t ∧ nxS M t ≤ L := by
    unfold nxS
    rw [h3, h4, cL, cp]
    have := skp_b (gI M (t + 1)) (L - p) p
    omega
  have he : nxS M t ≤ (nxE M t).2.2 ∧ (nxE M t).2.2 ≤ L := by
    unfold nxE
    rw [h3, cL]
    exact tkE_b _ _ hs.2
  refine ⟨L, nxS M t, (nxE M t).2.2, h1, he.1, he.2, ?_, ?_, ?_⟩
  · unfold nxM
    rw [gI_s, tk4_e5, h3]
  · unfold nxM
    rw [gI_s, tk4_e3]
  · unfold nxM
    rw [gI_s, tk4_e6]
theorem gI_nx (M : Mm) {t q : Nat} (h : q ≠ t) : gI (nxM M t) q = gI M q := gI_f _ _ h
theorem kp_nx (M : Mm) (t : Nat) : kpI (nxM M t) M := ⟨rfl, rfl, rfl⟩
/-- a change of what lies outside the counts and the tokens -/
theorem UI.kp {M N : Mm} {r : Nat} (h : UI M r) (hk : kpI N M) (h1 : TJ N (r + 1)) (h2 : cnt (gI N (r + 4) 8) 16) (h3 : cnt (gI N (r + 13) 11) 12) (h4 : cnt (gI N (r + 25) 2) 12) (h5 : cnt (gI N (r + 28) 1) 10) (h6 : cnt (gI N (r + 30) 2) 900) : UI N r :=
  ⟨h.1.kp hk, h1, h2, h3, h4, h5, h6⟩
theorem UI.nx {M : Mm} {r : Nat} (h : UI M r) : UI (nxM M (r + 1)) r := by
  refine h.kp (kp_nx _ _) (tj_nx h.2.1.p) ?_ ?_ ?_ ?_ ?_
  · rw [gI_nx _ (by omega)]; exact h.2.2.1
  · rw [gI_nx _ (by omega)]; exact h.2.2.2.1
  · rw [gI_nx _ (by omega)]; exact h.2.2.2.2.1
  · rw [gI_nx _ (by omega)]; exact h.2.2.2.2.2.1
  · rw [gI_nx _ (by omega)]; exact h.2.2.2.2.2.2
/-- a change of the reader's own slots -/
theorem UI.own {M : Mm} {r : Nat} (h : UI M r) (f : Nat → Int32) : UI (sI M r f) r := by
  refine h.kp (kpI.i _ _ _) ?_ ?_ ?_ ?_ ?_ ?_
  · unfold TJ
    rw [gI_f _ _ (by omega)]
    exact h.2.1
  · rw [gI_f _ _ (by omega)]; exact h.2.2.1
  · rw [gI_f _ _ (by omega)]; exact h.2.2.2.1
  · rw [gI_f _ _ (by omega)]; exact h.2.2.2.2.1
  · rw [gI_f _ _ (by omega)]; exact h.2.2.2.2.2.1
  · rw [gI_f _ _ (by omega)]; exact h.2.2.2.2.2.2
def flM (M : Mm) (r : Nat) (c : Int32) : Mm := if gI M r 3 = 0 then sI M r (upd (upd (gI M r) 3 c) 2 (gI M (r + 1) 3)) else M
theorem UI.fl {M : Mm} {r : Nat} (h : UI M r) (c : Int32) : UI (flM M r c) r := by
  unfold flM
  split
  · exact h.own _
  · exact h
theorem gI_fl (M : Mm) {r q : Nat} (c : Int32) (h : q ≠ r) : gI (flM M r c) q = gI M q := by
  unfold flM
  split
  · exact gI_f _ _ h
  · rfl
theorem kp_fl (M : Mm) (r : Nat) (c : Int32) : kpI (flM M r c) M := by
  unfold flM
  split
  · exact kpI.i _ _ _
  · exact kpI.r _
def S48 : Sem := fun as M => match as with
  | [.ref r, .int c] => sV (UI M r) none (flM M r c)
  | _ => sF
set_option maxRecDepth 100000 in
set_option maxHeartbeats 4000000 in
theorem s_X7_fail {l : Launch} {G : Gt} (hfl : l.stackTraces = false) : SatM l G 48 S48 := by
  refine t_X7_fail (E := fun _ => S0) hfl  fun as M hp => ?_
  unfold S48 at hp ⊢
  split at hp
  case h_2 => exact hp.elim
  rename_i r c
  obtain ⟨⟨k0, ⟨p0, p1⟩, hT, hS⟩, hU⟩ := hp
  refine ⟨Nat.le_of_ble_eq_true rfl, ?_⟩
  show Run (gT G) _ _ _ _ _ _ _ 0 [.val (.ref r), .val (.int c)] [] M 0 0
  simp only [rX7_fail_0, kX7_fail_0, rX7_fail_23, kX7_fail_23, bk_c, if_true, if_false, wi_e, wl_e, wr_e, w1_i, w1_r, ldS_0, ldS_s, vi_e, vl_e, vr_e, dpL_u, dpL_i, dpL_r, dpL_l, stS_0, stS_1, stS_s, stL_0, stL_1, stL_s, bin_0, bin_1, bin_2, bin_3, bin_4, bin_5, bdv_0, bdv_1, lbin_0, lbin_1, lbin_2, cnd_0, cnd_1, cnd_2, cnd_3, cnd_4, cnd_5, aty_0, aty_1, aty_2, aty_3, aty_4, aty_5, c8_u, cn_0, cn_i, cn_r, cn_l, Nat.reduceAdd, Nat.reduceLeDiff, Nat.le_refl, adz, hnd_0, rcv_0, rcv_1, kLen_a, kLen_r, inB_e, inR_e, cpOK_e, swt_n, swt_c, List.take_succ_cons, List.take_zero, List.drop_succ_cons, List.drop_zero, List.reverse_cons, List.reverse_nil, List.nil_append, List.cons_append, List.length_cons, List.length_nil, Option.toList_some, Option.toList_none, det_e, det_x, tr_imp, fa_imp, implies_true, not_true, not_false_eq_true, and_true, true_and, nar_i, upd_s, st1_0, st1_1, st1_2, st1_3, st1_4, st1_5, st1_6, st1_7, st1_8, st1_9, st1_10, st1_11, st1_12, st1_13, st1_14, st1_15, st1_16, st1_17, st1_18, st1_19, st1_20, st1_21, st1_22, st1_23, st1_24, st1_25, st1_26, st1_27, st1_28, st1_29, st1_30, st1_31, st1_32, st1_33, st1_34, st1_35, st1_36, st1_37, st1_42, st1_43, st1_44, st1_46, st1_47, st1_48, st1_49, st1_50, st1_51, st1_52, st1_53, st1_54, st1_55, st1_56, st1_57, st1_58, st1_59, st1_60, gK_sI, gK_sJ, gK_sP, gK_sZ, gI_sI, gI_sJ, gI_sP, gI_sZ, gJ_sI, gJ_sJ, gJ_sP, gJ_sZ, gP_sI, gP_sJ, gP_sP, gP_sZ, gZ_sI, gZ_sJ, gZ_sP, gZ_sZ, up_q, up_q0, up_q1, up_s, sI_sI, Nat.reduceEqDiff, reduceIte, Nat.succ_ne_zero, forall_const, false_imp_iff, k0, p0, hT.1]
  refine ⟨fun h => ?_, fun h => ?_⟩
  · unfold flM
    rw [if_neg h]
  · unfold flM
    rw [if_pos (Decidable.not_not.mp h)]
def skM (M : Mm) (r : Nat) (c : Int32) : Mm := if gI M (r + 1) 2 = c then nxM M (r + 1) else flM M r (-2)
theorem UI.sk {M : Mm} {r : Nat} (h : UI M r) (c : Int32) : UI (skM M r c) r := by
  unfold skM
  split
  · exact h.nx
  · exact h.fl _
def S62 : Sem := fun as M => match as with
  | [.ref r, .int c] => sV (UI M r) none (skM M r c)
  | _ => sF
def eX7_skipSign : Nat → Sem := fun id => if id = 48 then S48 else S74
set_option maxRecDepth 100000 in
set_option maxHeartbeats 4000000 in
theorem s_X7_skipSign {l : Launch} {G : Gt} (hfl : l.stackTraces = false) : SatM l G 62 S62 := by
  refine t_X7_skipSign (E := eX7_skipSign) hfl (s_X7_fail hfl) (s_X9_next hfl) fun as M hp => ?_
  unfold S62 at hp ⊢
  split at hp
  case h_2 => exact hp.elim
  rename_i r c
  obtain ⟨⟨k0, ⟨p0, p1⟩, hT, hS⟩, hU⟩ := hp
  refine ⟨Nat.le_of_ble_eq_true rfl, ?_⟩
  show Run (gT G) _ _ _ _ _ _ _ 0 [.val (.ref r), .val (.int c)] [] M 0 0
  have hI : UI M r := ⟨⟨k0, ⟨p0, p1⟩, hT, hS⟩, hU⟩
  simp only [rX7_skipSign_0, kX7_skipSign_0, rX7_skipSign_20, kX7_skipSign_20, rX7_skipSign_27, kX7_skipSign_27, eX7_skipSign, S48, S74, bk_c, if_true, if_false, wi_e, wl_e, wr_e, w1_i, w1_r, ldS_0, ldS_s, vi_e, vl_e, vr_e, dpL_u, dpL_i, dpL_r, dpL_l, stS_0, stS_1, stS_s, stL_0, stL_1, stL_s, bin_0, bin_1, bin_2, bin_3, bin_4, bin_5, bdv_0, bdv_1, lbin_0, lbin_1, lbin_2, cnd_0, cnd_1, cnd_2, cnd_3, cnd_4, cnd_5, aty_0, aty_1, aty_2, aty_3, aty_4, aty_5, c8_u, cn_0, cn_i, cn_r, cn_l, Nat.reduceAdd, Nat.reduceLeDiff, Nat.le_refl, adz, hnd_0, rcv_0, rcv_1, kLen_a, kLen_r, inB_e, inR_e, cpOK_e, swt_n, swt_c, List.take_succ_cons, List.take_zero, List.drop_succ_cons, List.drop_zero, List.reverse_cons, List.reverse_nil, List.nil_append, List.cons_append, List.length_cons, List.length_nil, Option.toList_some, Option.toList_none, det_e, det_x, tr_imp, fa_imp, implies_true, not_true, not_false_eq_true, and_true, true_and, nar_i, upd_s, st1_0, st1_1, st1_2, st1_3, st1_4, st1_5, st1_6, st1_7, st1_8, st1_9, st1_10, st1_11, st1_12, st1_13, st1_14, st1_15, st1_16, st1_17, st1_18, st1_19, st1_20, st1_21, st1_22, st1_23, st1_24, st1_25, st1_26, st1_27, st1_28, st1_29, st1_30, st1_31, st1_32, st1_33, st1_34, st1_35, st1_36, st1_37, st1_42, st1_43, st1_44, st1_46, st1_47, st1_48, st1_49, st1_50, st1_51, st1_52, st1_53, st1_54, st1_55, st1_56, st1_57, st1_58, st1_59, st1_60, gK_sI, gK_sJ, gK_sP, gK_sZ, gI_sI, gI_sJ, gI_sP, gI_sZ, gJ_sI, gJ_sJ, gJ_sP, gJ_sZ, gP_sI, gP_sJ, gP_sP, gP_sZ, gZ_sI, gZ_sJ, gZ_sP, gZ_sZ, up_q, up_q0, up_q1, up_s, sI_sI, Nat.reduceEqDiff, reduceIte, Nat.succ_ne_zero, forall_const, false_imp_iff, k0, p0, hT.1, sV, hT, hU.1.p, hI]
  refine ⟨fun h => ?_, fun h => ?_⟩
  · unfold skM
    rw [if_pos h]
  · unfold skM
    rw [if_neg h]
/-- the error that a number between two bounds makes -/
def rbM (M : Mm) (r : Nat) (lo hi : Int32) : Mm := if ¬ gI M (r + 1) 2 = -2 then flM M r (-2) else if gI M (r + 1) 4 < lo ∨ hi < gI M (r + 1) 4 then flM M r (-3) else M
def rnM (M : Mm) (r : Nat) (lo hi : Int32) : Int32 × Mm := if gI (rbM M r lo hi) r 3 = 0 then (gI M (r + 1) 4, nxM (rbM M r lo hi) (r + 1)) else (-1, rbM M r lo hi)
theorem UI.rb {M : Mm} {r : Nat} (h : UI M r) (lo hi : Int32) : UI (rbM M r lo hi) r := by
  unfold rbM
  split
  · exact h.fl _
  · split
    · exact h.fl _
    · exact h
theorem UI.rn {M : Mm} {r : Nat} (h : UI M r) (lo hi : Int32) : UI (rnM M r lo hi).2 r := by
  unfold rnM
  split
  · exact (h.rb _ _).nx
  · exact h.rb _ _
theorem gI_rb (M : Mm) {r q : Nat} (lo hi : Int32) (h : q ≠ r) : gI (rbM M r lo hi) q = gI M q := by
  unfold rbM
  split
  · exact gI_fl _ _ h
  · split
    · exact gI_fl _ _ h
    · rfl
theorem kp_rb (M : Mm) (r : Nat) (lo hi : Int32) : kpI (rbM M r lo hi) M := by
  unfold rbM
  split
  · exact kp_fl _ _ _
  · split
    · exact kp_fl _ _ _
    · exact kpI.r _
theorem kp_rn (M : Mm) (r : Nat) (lo hi : Int32) : kpI (rnM M r lo hi).2 M := by
  unfold rnM
  split
  · exact (kp_nx _ _).t (kp_rb _ _ _ _)
  · exact kp_rb _ _ _ _
theorem gI_rn (M : Mm) {r q : Nat} (lo hi : Int32) (h : q ≠ r) (h1 : q ≠ r + 1) : gI (rnM M r lo hi).2 q = gI M q := by
  unfold rnM
  split
  · exact (gI_nx _ h1).trans (gI_rb _ _ _ h)
  · exact gI_rb _ _ _ h
def S54 : Sem := fun as M => match as with
  | [.ref r, .int lo, .int hi] => sV (UI M r) (some (.int (rnM M r lo hi).1)) (rnM M r lo hi).2
  | _ => sF
def eX7_readNumber : Nat → Sem := fun id => if id = 48 then S48 else S74
set_option maxRecDepth 100000 in
set_option maxHeartbeats 4000000 in
theorem s_X7_readNumber {l : Launch} {G : Gt} (hfl : l.stackTraces = false) : SatM l G 54 S54 := by
  refine t_X7_readNumber (E := eX7_readNumber) hfl (s_X7_fail hfl) (s_X9_next hfl) fun as M hp => ?_
  unfold S54 at hp ⊢
  split at hp
  case h_2 => exact hp.elim
  rename_i r lo hi
  obtain ⟨⟨k0, ⟨p0, p1⟩, hT, hS⟩, hU⟩ := hp
  refine ⟨Nat.le_of_ble_eq_true rfl, ?_⟩
  show Run (gT G) _ _ _ _ _ _ _ 0 [.val (.ref r), .val (.int lo), .val (.int hi), .unset] [] M 0 0
  have hI : UI M r := ⟨⟨k0, ⟨p0, p1⟩, hT, hS⟩, hU⟩
  have fK : ∀ c, gK (flM M r c) = gK M := fun c => (kp_fl M r c).1
  have fP : ∀ c, gP (flM M r c) = gP M := fun c => (kp_fl M r c).2.1
  have f1 : ∀ c, gI (flM M r c) (r + 1) = gI M (r + 1) := fun c => gI_fl _ _ (fun e => ne01 r e.symm)
  have fU : ∀ c, Lt (flM M r c) (r + 1) := fun c => hT.kp (kp_fl M r c)
  simp only [rX7_readNumber_0, kX7_readNumber_0, rX7_readNumber_21, kX7_readNumber_21, rX7_readNumber_43, kX7_readNumber_43, rX7_readNumber_49, kX7_readNumber_49, rX7_readNumber_58, kX7_readNumber_58, eX7_readNumber, S48, S74, bk_c, if_true, if_false, wi_e, wl_e, wr_e, w1_i, w1_r, ldS_0, ldS_s, vi_e, vl_e, vr_e, dpL_u, dpL_i, dpL_r, dpL_l, stS_0, stS_1, stS_s, stL_0, stL_1, stL_s, bin_0, bin_1, bin_2, bin_3, bin_4, bin_5, bdv_0, bdv_1, lbin_0, lbin_1, lbin_2, cnd_0, cnd_1, cnd_2, cnd_3, cnd_4, cnd_5, aty_0, aty_1, aty_2, aty_3, aty_4, aty_5, c8_u, cn_0, cn_i, cn_r, cn_l, Nat.reduceAdd, Nat.reduceLeDiff, Nat.le_refl, adz, hnd_0, rcv_0, rcv_1, kLen_a, kLen_r, inB_e, inR_e, cpOK_e, swt_n, swt_c, List.take_succ_cons, List.take_zero, List.drop_succ_cons, List.drop_zero, List.reverse_cons, List.reverse_nil, List.nil_append, List.cons_append, List.length_cons, List.length_nil, Option.toList_some, Option.toList_none, det_e, det_x, tr_imp, fa_imp, implies_true, not_true, not_false_eq_true, and_true, true_and, nar_i, upd_s, st1_0, st1_1, st1_2, st1_3, st1_4, st1_5, st1_6, st1_7, st1_8, st1_9, st1_10, st1_11, st1_12, st1_13, st1_14, st1_15, st1_16, st1_17, st1_18, st1_19, st1_20, st1_21, st1_22, st1_23, st1_24, st1_25, st1_26, st1_27, st1_28, st1_29, st1_30, st1_31, st1_32, st1_33, st1_34, st1_35, st1_36, st1_37, st1_42, st1_43, st1_44, st1_46, st1_47, st1_48, st1_49, st1_50, st1_51, st1_52, st1_53, st1_54, st1_55, st1_56, st1_57, st1_58, st1_59, st1_60, gK_sI, gK_sJ, gK_sP, gK_sZ, gI_sI, gI_sJ, gI_sP, gI_sZ, gJ_sI, gJ_sJ, gJ_sP, gJ_sZ, gP_sI, gP_sJ, gP_sP, gP_sZ, gZ_sI, gZ_sJ, gZ_sP, gZ_sZ, up_q, up_q0, up_q1, up_s, sI_sI, Nat.reduceEqDiff, reduceIte, Nat.succ_ne_zero, forall_const, false_imp_iff, k0, p0, hT.1, sV, hT, hU.1.p, hI, fK, fP, f1, fU]
  have cls : ∀ N, rbM M r lo hi = N → (gI N r 3 = 0 → some (Value.int (gI M (r + 1) 4)) = some (Value.int (rnM M r lo hi).1) ∧ nxM N (r + 1) = (rnM M r lo hi).2) ∧ (¬ gI N r 3 = 0 → some (Value.int (-1)) = some (Value.int (rnM M r lo hi).1) ∧ N = (rnM M r lo hi).2) := by
    intro N e
    subst e
    unfold rnM
    exact ⟨fun h => by rw [if_pos h]; exact ⟨rfl, rfl⟩, fun h => by rw [if_neg h]; exact ⟨rfl, rfl⟩⟩
  refine ⟨fun h => ⟨fun h2 => cls _ ?_, fun h2 => ⟨fun h3 => cls _ ?_, fun h3 => cls _ ?_⟩⟩, fun h => cls _ ?_⟩
  · unfold rbM
    rw [if_neg (fun q => q h), if_pos (Or.inl h2)]
  · unfold rbM
    rw [if_neg (fun q => q h), if_neg (fun q => q.elim h2 (Int32.not_lt.mpr h3))]
  · unfold rbM
    rw [if_neg (fun q => q h), if_pos (Or.inr (Int32.not_le.mp h3))]
  · unfold rbM
    rw [if_pos h]
/-! == a number behind a word, if the word is there == -/
def roM (M : Mm) (r w : Nat) (hi ms : Int32) : Int32 × Mm := if ¬ gI M r 3 = 0 ∨ iwI M (r + 1) w = 0 then (ms, M) else rnM (nxM M (r + 1)) r 0 hi
theorem UI.ro {M : Mm} {r : Nat} (h : UI M r) (q : Nat) (hi ms : Int32) : UI (roM M r q hi ms).2 r := by
  unfold roM
  split
  · exact h
  · exact h.nx.rn _ _
theorem kp_ro (M : Mm) (r q : Nat) (hi ms : Int32) : kpI (roM M r q hi ms).2 M := by
  unfold roM
  split
  · exact kpI.r _
  · exact (kp_rn _ _ _ _).t (kp_nx _ _)
theorem gI_ro (M : Mm) {r p : Nat} (q : Nat) (hi ms : Int32) (h : p ≠ r) (h1 : p ≠ r + 1) : gI (roM M r q hi ms).2 p = gI M p := by
  unfold roM
  split
  · rfl
  · exact (gI_rn _ _ _ h h1).trans (gI_nx _ h1)
def S55 : Sem := fun as M => match as with
  | [.ref r, .ref q, .int hi, .int ms] => sV (UI M r ∧ ∃ i, i < 10 ∧ gK M q = kS i) (some (.int (roM M r (kSi (gK M q)) hi ms).1)) (roM M r (kSi (gK M q)) hi ms).2
  | _ => sF
def eX7_readOptional : Nat → Sem := fun id => if id = 54 then S54 else if id = 73 then S73 else S74
set_option maxRecDepth 100000 in
set_option maxHeartbeats 4000000 in
theorem s_X7_readOptional {l : Launch} {G : Gt} (hfl : l.stackTraces = false) : SatM l G 55 S55 := by
  refine t_X7_readOptional (E := eX7_readOptional) hfl (s_X7_readNumber hfl) (s_X9_isWord hfl) (s_X9_next hfl) fun as M hp => ?_
  unfold S55 at hp ⊢
  split at hp
  case h_2 => exact hp.elim
  rename_i r q hi ms
  obtain ⟨⟨⟨k0, ⟨p0, p1⟩, hT, hS⟩, hU⟩, hw⟩ := hp
  refine ⟨Nat.le_of_ble_eq_true rfl, ?_⟩
  show Run (gT G) _ _ _ _ _ _ _ 0 [.val (.ref r), .val (.ref q), .val (.int hi), .val (.int ms)] [] M 0 0
  have hI : UI M r := ⟨⟨k0, ⟨p0, p1⟩, hT, hS⟩, hU⟩
  simp only [rX7_readOptional_0, kX7_readOptional_0, rX7_readOptional_18, kX7_readOptional_18, rX7_readOptional_20, kX7_readOptional_20, eX7_readOptional, S54, S73, S74, bk_c, if_true, if_false, wi_e, wl_e, wr_e, w1_i, w1_r, ldS_0, ldS_s, vi_e, vl_e, vr_e, dpL_u, dpL_i, dpL_r, dpL_l, stS_0, stS_1, stS_s, stL_0, stL_1, stL_s, bin_0, bin_1, bin_2, bin_3, bin_4, bin_5, bdv_0, bdv_1, lbin_0, lbin_1, lbin_2, cnd_0, cnd_1, cnd_2, cnd_3, cnd_4, cnd_5, aty_0, aty_1, aty_2, aty_3, aty_4, aty_5, c8_u, cn_0, cn_i, cn_r, cn_l, Nat.reduceAdd, Nat.reduceLeDiff, Nat.le_refl, adz, hnd_0, rcv_0, rcv_1, kLen_a, kLen_r, inB_e, inR_e, cpOK_e, swt_n, swt_c, List.take_succ_cons, List.take_zero, List.drop_succ_cons, List.drop_zero, List.reverse_cons, List.reverse_nil, List.nil_append, List.cons_append, List.length_cons, List.length_nil, Option.toList_some, Option.toList_none, det_e, det_x, tr_imp, fa_imp, implies_true, not_true, not_false_eq_true, and_true, true_and, nar_i, upd_s, st1_0, st1_1, st1_2, st1_3, st1_4, st1_5, st1_6, st1_7, st1_8, st1_9, st1_10, st1_11, st1_12, st1_13, st1_14, st1_15, st1_16, st1_17, st1_18, st1_19, st1_20, st1_21, st1_22, st1_23, st1_24, st1_25, st1_26, st1_27, st1_28, st1_29, st1_30, st1_31, st1_32, st1_33, st1_34, st1_35, st1_36, st1_37, st1_42, st1_43, st1_44, st1_46, st1_47, st1_48, st1_49, st1_50, st1_51, st1_52, st1_53, st1_54, st1_55, st1_56, st1_57, st1_58, st1_59, st1_60, gK_sI, gK_sJ, gK_sP, gK_sZ, gI_sI, gI_sJ, gI_sP, gI_sZ, gJ_sI, gJ_sJ, gJ_sP, gJ_sZ, gP_sI, gP_sJ, gP_sP, gP_sZ, gZ_sI, gZ_sJ, gZ_sP, gZ_sZ, up_q, up_q0, up_q1, up_s, sI_sI, Nat.reduceEqDiff, reduceIte, Nat.succ_ne_zero, forall_const, false_imp_iff, k0, p0, hT.1, sV, hT, hU.1.p, hU.1.w, hI, hw, (kp_nx M (r + 1)).1, (kp_nx M (r + 1)).2.1, hI.nx]
  unfold iwV roM
  refine ⟨fun h => ?_, fun h => ⟨fun h2 => ?_, fun h2 => ?_⟩⟩
  · rw [if_pos (Or.inl h)]
    exact ⟨rfl, rfl⟩
  · rw [if_neg (fun q => q.elim h h2)]
    exact ⟨rfl, rfl⟩
  · rw [if_pos (Or.inr (Decidable.not_not.mp h2))]
    exact ⟨rfl, rfl⟩
def S47 : Sem := fun as M => match as with
  | [.ref r, .int c] => sV (UI M r) none (nxM (adM M (r + 30) c) (r + 1))
  | _ => sF
theorem gI_ad (M : Mm) {q p : Nat} (c : Int32) (h : p ≠ q) (h1 : p ≠ q + 1) : gI (adM M q c) p = gI M p := by
  unfold adM
  split
  · exact (gI_f _ _ h).trans (gI_f _ _ h1)
  · rfl
theorem kp_ad (M : Mm) (q : Nat) (c : Int32) : kpI (adM M q c) M := by
  unfold adM
  split
  · exact (kpI.i _ _ _).t (kpI.i _ _ _)
  · exact kpI.r _
theorem cnt_ad {M : Mm} {q : Nat} (c : Int32) (h : cnt (gI M q 2) 900) : cnt (gI (adM M q c) q 2) 900 := by
  obtain ⟨n, hn, e⟩ := h
  unfold adM
  rw [e]
  split
  · rename_i h1
    have := (nI_ltI (a := n) (b := 900) (by omega) (by decide)).mp h1
    exact ⟨n + 1, by omega, by rw [gI_s, upd_s, nI_1]⟩
  · exact ⟨n, hn, e⟩
theorem UI.ad {M : Mm} {r : Nat} (h : UI M r) (c : Int32) : UI (adM M (r + 30) c) r := by
  refine h.kp (kp_ad _ _ _) ?_ ?_ ?_ ?_ ?_ (cnt_ad c h.2.2.2.2.2.2)
  · unfold TJ
    rw [gI_ad _ _ (by omega) (by omega)]
    exact h.2.1
  · rw [gI_ad _ _ (by omega) (by omega)]; exact h.2.2.1
  · rw [gI_ad _ _ (by omega) (by omega)]; exact h.2.2.2.1
  · rw [gI_ad _ _ (by omega) (by omega)]; exact h.2.2.2.2.1
  · rw [gI_ad _ _ (by omega) (by omega)]; exact h.2.2.2.2.2.1
def eX7_addOperand : Nat → Sem := fun id => if id = 25 then S25 else S74
set_option maxRecDepth 100000 in
set_option maxHeartbeats 4000000 in
theorem s_X7_addOperand {l : Launch} {G : Gt} (hfl : l.stackTraces = false) : SatM l G 47 S47 := by
  refine t_X7_addOperand (E := eX7_addOperand) hfl (s_X2_add hfl) (s_X9_next hfl) fun as M hp => ?_
  unfold S47 at hp ⊢
  split at hp
  case h_2 => exact hp.elim
  rename_i r c
  obtain ⟨⟨k0, ⟨p0, p1⟩, hT, hS⟩, hU⟩ := hp
  refine ⟨Nat.le_of_ble_eq_true rfl, ?_⟩
  show Run (gT G) _ _ _ _ _ _ _ 0 [.val (.ref r), .val (.int c)] [] M 0 0
  have hI : UI M r := ⟨⟨k0, ⟨p0, p1⟩, hT, hS⟩, hU⟩
  have s0 := hS.1
  have s1 := hS.2.1.2.2.2.2.1
  have s2 : Lm M (r + 30) := hS.2.2.2.2.2.2.1
  have aU := (hI.ad c).1.2.2.1
  have aT := (hI.ad c).2.1.p
  simp only [rX7_addOperand_0, kX7_addOperand_0, eX7_addOperand, S25, S74, bk_c, if_true, if_false, wi_e, wl_e, wr_e, w1_i, w1_r, ldS_0, ldS_s, vi_e, vl_e, vr_e, dpL_u, dpL_i, dpL_r, dpL_l, stS_0, stS_1, stS_s, stL_0, stL_1, stL_s, bin_0, bin_1, bin_2, bin_3, bin_4, bin_5, bdv_0, bdv_1, lbin_0, lbin_1, lbin_2, cnd_0, cnd_1, cnd_2, cnd_3, cnd_4, cnd_5, aty_0, aty_1, aty_2, aty_3, aty_4, aty_5, c8_u, cn_0, cn_i, cn_r, cn_l, Nat.reduceAdd, Nat.reduceLeDiff, Nat.le_refl, adz, hnd_0, rcv_0, rcv_1, kLen_a, kLen_r, inB_e, inR_e, cpOK_e, swt_n, swt_c, List.take_succ_cons, List.take_zero, List.drop_succ_cons, List.drop_zero, List.reverse_cons, List.reverse_nil, List.nil_append, List.cons_append, List.length_cons, List.length_nil, Option.toList_some, Option.toList_none, det_e, det_x, tr_imp, fa_imp, implies_true, not_true, not_false_eq_true, and_true, true_and, nar_i, upd_s, st1_0, st1_1, st1_2, st1_3, st1_4, st1_5, st1_6, st1_7, st1_8, st1_9, st1_10, st1_11, st1_12, st1_13, st1_14, st1_15, st1_16, st1_17, st1_18, st1_19, st1_20, st1_21, st1_22, st1_23, st1_24, st1_25, st1_26, st1_27, st1_28, st1_29, st1_30, st1_31, st1_32, st1_33, st1_34, st1_35, st1_36, st1_37, st1_42, st1_43, st1_44, st1_46, st1_47, st1_48, st1_49, st1_50, st1_51, st1_52, st1_53, st1_54, st1_55, st1_56, st1_57, st1_58, st1_59, st1_60, gK_sI, gK_sJ, gK_sP, gK_sZ, gI_sI, gI_sJ, gI_sP, gI_sZ, gJ_sI, gJ_sJ, gJ_sP, gJ_sZ, gP_sI, gP_sJ, gP_sP, gP_sZ, gZ_sI, gZ_sJ, gZ_sP, gZ_sZ, up_q, up_q0, up_q1, up_s, sI_sI, Nat.reduceEqDiff, reduceIte, Nat.succ_ne_zero, forall_const, false_imp_iff, Nat.add_assoc, k0, p0, p1, sV, s0, s1, s2, s2.1, hU.2.2.2.2.2, (kp_ad M (r + 30) c).1, (kp_ad M (r + 30) c).2.1, hT.1, aU, aT]
/-! == the parent == -/
def STR (T : Nat → Nat) (M : Mm) : Prop := ∀ i, i < 10 → gK M (T i) = kS i
theorem STR.kp {T : Nat → Nat} {M N : Mm} (h : kpI N M) (g : STR T M) : STR T N := fun i hi => by rw [h.1]; exact g i hi
theorem STR.w {T : Nat → Nat} {M : Mm} (g : STR T M) {i : Nat} (hi : i < 10) : ∃ j, j < 10 ∧ gK M (T i) = kS j := ⟨i, hi, g i hi⟩
def rpA (M : Mm) (r : Nat) : Mm := if iwI M (r + 1) 1 = 0 then flM M r (-2) else M
def rpM (M : Mm) (r : Nat) (c : Int32) : Int32 × Mm := roM (rpA M r) r 1 (c - 1) (-1)
theorem ui_rpA {M : Mm} {r : Nat} (h : UI M r) : UI (rpA M r) r := by
  unfold rpA
  split
  · exact h.fl _
  · exact h
def S56 (T : Nat → Nat) : Sem := fun as M => match as with
  | [.ref r, .int c] => sV (UI M r ∧ STR T M) (some (.int (rpM M r c).1)) (rpM M r c).2
  | _ => sF
def eX7_readParent : Nat → Sem := fun id => if id = 48 then S48 else if id = 55 then S55 else S73
set_option maxRecDepth 100000 in
set_option maxHeartbeats 4000000 in
theorem s_X7_readParent {l : Launch} {G : Gt} (hfl : l.stackTraces = false) : SatM l G 56 (S56 (gT G)) := by
  refine t_X7_readParent (E := eX7_readParent) hfl (s_X7_fail hfl) (s_X7_readOptional hfl) (s_X9_isWord hfl) fun as M hp => ?_
  unfold S56 at hp ⊢
  split at hp
  case h_2 => exact hp.elim
  rename_i r c
  obtain ⟨⟨⟨k0, ⟨p0, p1⟩, hT, hS⟩, hU⟩, hs⟩ := hp
  refine ⟨Nat.le_of_ble_eq_true rfl, ?_⟩
  show Run (gT G) _ _ _ _ _ _ _ 0 [.val (.ref r), .val (.int c)] [] M 0 0
  have hI : UI M r := ⟨⟨k0, ⟨p0, p1⟩, hT, hS⟩, hU⟩
  simp only [rX7_readParent_0, kX7_readParent_0, rX7_readParent_18, kX7_readParent_18, eX7_readParent, S48, S55, S73, bk_c, if_true, if_false, wi_e, wl_e, wr_e, w1_i, w1_r, ldS_0, ldS_s, vi_e, vl_e, vr_e, dpL_u, dpL_i, dpL_r, dpL_l, stS_0, stS_1, stS_s, stL_0, stL_1, stL_s, bin_0, bin_1, bin_2, bin_3, bin_4, bin_5, bdv_0, bdv_1, lbin_0, lbin_1, lbin_2, cnd_0, cnd_1, cnd_2, cnd_3, cnd_4, cnd_5, aty_0, aty_1, aty_2, aty_3, aty_4, aty_5, c8_u, cn_0, cn_i, cn_r, cn_l, Nat.reduceAdd, Nat.reduceLeDiff, Nat.le_refl, adz, hnd_0, rcv_0, rcv_1, kLen_a, kLen_r, inB_e, inR_e, cpOK_e, swt_n, swt_c, List.take_succ_cons, List.take_zero, List.drop_succ_cons, List.drop_zero, List.reverse_cons, List.reverse_nil, List.nil_append, List.cons_append, List.length_cons, List.length_nil, Option.toList_some, Option.toList_none, det_e, det_x, tr_imp, fa_imp, implies_true, not_true, not_false_eq_true, and_true, true_and, nar_i, upd_s, st1_0, st1_1, st1_2, st1_3, st1_4, st1_5, st1_6, st1_7, st1_8, st1_9, st1_10, st1_11, st1_12, st1_13, st1_14, st1_15, st1_16, st1_17, st1_18, st1_19, st1_20, st1_21, st1_22, st1_23, st1_24, st1_25, st1_26, st1_27, st1_28, st1_29, st1_30, st1_31, st1_32, st1_33, st1_34, st1_35, st1_36, st1_37, st1_42, st1_43, st1_44, st1_46, st1_47, st1_48, st1_49, st1_50, st1_51, st1_52, st1_53, st1_54, st1_55, st1_56, st1_57, st1_58, st1_59, st1_60, gK_sI, gK_sJ, gK_sP, gK_sZ, gI_sI, gI_sJ, gI_sP, gI_sZ, gJ_sI, gJ_sJ, gJ_sP, gJ_sZ, gP_sI, gP_sJ, gP_sP, gP_sZ, gZ_sI, gZ_sJ, gZ_sP, gZ_sZ, up_q, up_q0, up_q1, up_s, sI_sI, Nat.reduceEqDiff, reduceIte, Nat.succ_ne_zero, forall_const, false_imp_iff, k0, p0, hT.1, sV, hT, hU.1.p, hU.1.w, hI, hs.w, (kp_fl M r (-2)).1, hI.fl, hs 1 (by decide), hs.w (show 1 < 10 by decide), kSi_e, iwV]
  refine ⟨⟨1, by decide, rfl⟩, fun h => ⟨⟨1, by decide, rfl⟩, ?_⟩, fun h => ⟨⟨1, by decide, rfl⟩, ?_⟩⟩
  · unfold rpM rpA
    rw [if_neg h]
    exact ⟨rfl, rfl⟩
  · unfold rpM rpA
    rw [if_pos (Decidable.not_not.mp h)]
    exact ⟨rfl, rfl⟩
