/-! ===== readSetup ===== -/
/-- statements up to the end or the first error -/
def rsL (r : Nat) : Nat → Int32 → Mm → Int32 × Mm
  | 0, n, N => (n, N)
  | f + 1, n, N => if gI N r 3 = 0 ∧ ¬ gI N (r + 1) 2 = -1 then rsL r f (n + 1) (skM (rsS N r) r 59) else (n, N)
def rzM (M : Mm) (r : Nat) (x : Int32) : Mm :=
  let N := fgS M (r + 3)
  let N2 := sI N r (upd (upd (upd (gI N r) 3 0) 2 (-1)) 4 0)
  nxM (sI N2 (r + 1) (upd (upd (gI N2 (r + 1)) 5 (mnI x (gI N2 (r + 1) 1))) 6 0)) (r + 1)
def rzR (M : Mm) (r : Nat) (x : Int32) : Int32 × Mm := rsL r 901 0 (rzM M r x)
theorem kp_fg (M : Mm) (b : Nat) : kpI (fgS M b) M := by
  unfold kpI fgS
  simp only [gK_sI, gP_sI, gZ_sI, true_and]
theorem fg_g (M : Mm) (b : Nat) : gI (fgS M b) (b + 1) 8 = 0 ∧ gI (fgS M b) (b + 10) 11 = 0 ∧ gI (fgS M b) (b + 22) 2 = 0 ∧ gI (fgS M b) (b + 25) 1 = 0 ∧ gI (fgS M b) (b + 27) 2 = 1 := by
  unfold fgS
  simp only [gI_q, gI_s, upd_s, Nat.reduceEqDiff, reduceIte, true_and, and_true]
  rfl
theorem fg_f (M : Mm) {b q : Nat} (h : q < b ∨ b + 32 ≤ q) : gI (fgS M b) q = gI M q := by
  unfold fgS
  dsimp only
  rw [gI_f _ _ (show q ≠ b + 28 by omega), gI_f _ _ (show q ≠ b + 27 by omega), gI_f _ _ (show q ≠ b + 25 by omega), gI_f _ _ (show q ≠ b + 22 by omega), gI_f _ _ (show q ≠ b + 10 by omega), gI_f _ _ (show q ≠ b + 1 by omega)]
theorem rz_ok {M : Mm} {r : Nat} {x : Int32} (hL : Lu M r) (hx : cnt x 900) (hf : cnt (gI M (r + 1) 1) 900) : UI (rzM M r x) r ∧ kpI (rzM M r x) M := by
  have hk : kpI (rzM M r x) M := (kp_nx _ _).t ((kpI.i _ _ _).t ((kpI.i _ _ _).t (kp_fg _ _)))
  obtain ⟨n, hn, rfl⟩ := hx
  obtain ⟨f, hf9, ef⟩ := hf
  have e1 : gI (fgS M (r + 3)) (r + 1) = gI M (r + 1) := fg_f M (by omega)
  have hm : ∃ L, L ≤ 900 ∧ mnI (nI n) (nI f) = nI L := by
    unfold mnI
    split
    · exact ⟨f, hf9, rfl⟩
    · exact ⟨n, hn, rfl⟩
  obtain ⟨L, hL9, eL⟩ := hm
  have g := fg_g M (r + 3)
  refine ⟨⟨hL.kp hk, ?_, ?_, ?_, ?_, ?_, ?_⟩, hk⟩
  · refine tj_nx ⟨L, 0, hL9, Nat.zero_le _, ?_, ?_⟩
    · rw [gI_s, upd_n _ _ (show (5 : Nat) ≠ 6 by decide), upd_s, gI_f _ _ (show r + 1 ≠ r by omega), e1, ef, eL]
    · rw [gI_s, upd_s]
      rfl
  · unfold rzM
    dsimp only
    rw [gI_nx _ (show r + 4 ≠ r + 1 by omega), gI_f _ _ (show r + 4 ≠ r + 1 by omega), gI_f _ _ (show r + 4 ≠ r by omega)]
    exact ⟨0, by decide, g.1⟩
  · unfold rzM
    dsimp only
    rw [gI_nx _ (show r + 13 ≠ r + 1 by omega), gI_f _ _ (show r + 13 ≠ r + 1 by omega), gI_f _ _ (show r + 13 ≠ r by omega)]
    exact ⟨0, by decide, g.2.1⟩
  · unfold rzM
    dsimp only
    rw [gI_nx _ (show r + 25 ≠ r + 1 by omega), gI_f _ _ (show r + 25 ≠ r + 1 by omega), gI_f _ _ (show r + 25 ≠ r by omega)]
    exact ⟨0, by decide, g.2.2.1⟩
  · unfold rzM
    dsimp only
    rw [gI_nx _ (show r + 28 ≠ r + 1 by omega), gI_f _ _ (show r + 28 ≠ r + 1 by omega), gI_f _ _ (show r + 28 ≠ r by omega)]
    exact ⟨0, by decide, g.2.2.2.1⟩
  · unfold rzM
    dsimp only
    rw [gI_nx _ (show r + 30 ≠ r + 1 by omega), gI_f _ _ (show r + 30 ≠ r + 1 by omega), gI_f _ _ (show r + 30 ≠ r by omega)]
    exact ⟨1, by decide, g.2.2.2.2⟩
theorem gdd_sk (r : Nat) (c : Int32) : gdd r (fun M => skM M r c) := fun M hu => ⟨hu.sk _, by
  show kpI (skM M r c) M
  unfold skM
  split
  · exact kp_nx _ _
  · exact kp_fl _ _ _⟩
theorem rsL_ok {r : Nat} : ∀ f n N, UI N r → UI (rsL r f n N).2 r ∧ kpI (rsL r f n N).2 N
  | 0, _, N, h => ⟨h, kpI.r _⟩
  | f + 1, n, N, h => by
    unfold rsL
    split
    · have h1 := gdd_rs N h
      have h2 := gdd_sk r 59 _ h1.1
      have h3 := rsL_ok f (n + 1) _ h2.1
      exact ⟨h3.1, h3.2.t (h2.2.t h1.2)⟩
    · exact ⟨h, kpI.r _⟩
def rsV (r : Nat) (z : Int32 × Mm) : Int32 := if gI z.2 r 3 = 0 then z.1 else gI z.2 r 3
theorem rsV_0 {r : Nat} {n : Int32} {N : Mm} (h : gI N r 3 = 0) : rsV r (n, N) = n := if_pos h
theorem rsV_1 {r : Nat} {n : Int32} {N : Mm} (h : ¬ gI N r 3 = 0) : rsV r (n, N) = gI N r 3 := if_neg h
theorem lt13 (r : Nat) : r + 1 < r + 3 := by omega
def S57 (T : Nat → Nat) : Sem := fun as M => match as with
  | [.ref r, .int x] => sV (Lu M r ∧ STR T M ∧ cnt x 900 ∧ cnt (gI M (r + 1) 1) 900) (some (.int (rsV r (rzR M r x)))) (rzR M r x).2
  | _ => sF
def eX7_readSetup (T : Nat → Nat) : Nat → Sem := fun id => if id = 58 then (S58 T) else if id = 62 then S62 else if id = 67 then S67 else S71
set_option maxRecDepth 100000 in
set_option maxHeartbeats 4000000 in
theorem s_X7_readSetup {l : Launch} {G : Gt} (hfl : l.stackTraces = false) : SatM l G 57 (S57 (gT G)) := by
  refine t_X7_readSetup (E := eX7_readSetup (gT G)) hfl (s_X7_readStatement hfl) (s_X7_skipSign hfl) (s_X8_forgetSetup hfl) (s_X9_begin hfl) fun as M hp => ?_
  unfold S57 at hp ⊢
  split at hp
  case h_2 => exact hp.elim
  rename_i r x
  obtain ⟨hL, hs, hx, hf⟩ := hp
  refine ⟨Nat.le_of_ble_eq_true rfl, ?_⟩
  show Run (gT G) _ _ _ _ _ _ _ 0 [.val (.ref r), .val (.int x), .unset] [] M 0 0
  have k0 := hL.1
  have p0 := hL.2.1.1
  have p1 := hL.2.1.2
  have hT := hL.2.2.1
  have d0 := hL.2.2.2
  have fK : gK (fgS M (r + 3)) = gK M := (kp_fg M (r + 3)).1
  have fP : gP (fgS M (r + 3)) = gP M := (kp_fg M (r + 3)).2.1
  have fL : ∀ g, Lt (sI (fgS M (r + 3)) r g) (r + 1) := fun g => hT.kp ((kpI.i _ _ _).t (kp_fg _ _))
  have e1 : ∀ g, gI (sI (fgS M (r + 3)) r g) (r + 1) = gI M (r + 1) := fun g => (gI_f _ _ (fun e => ne01 r e.symm)).trans (fg_f M (Or.inl (lt13 r)))
  have fz : nxM (sI (sI (fgS M (r + 3)) r (upd (upd (upd (gI (fgS M (r + 3)) r) 3 0) 2 (-1)) 4 0)) (r + 1) (upd (upd (gI M (r + 1)) 5 (mnI x (gI M (r + 1) 1))) 6 0)) (r + 1) = rzM M r x := by
    unfold rzM
    dsimp only
    rw [e1]
  have hz := rz_ok hL hx hf
  have key : ∀ f i (N : Mm), i + f = 901 → UI N r → kpI N M → Run (gT G) (eX7_readSetup (gT G)) 0 0 (fun _ _ => none) (fun v' M' => v' = some (.int (rsV r (rsL r f (nI i) N))) ∧ M' = (rsL r f (nI i) N).2) (fun _ _ => False) kX7_readSetup 32 [.val (.ref r), .val (.int x), .val (.int (nI i))] [] N 0 0 := by
    intro f
    induction f with
    | zero =>
      intro i N hi hN hk
      have hi2 : i = 901 := hi
      subst hi2
      have a1 : ((900 : Int32) < nI 901) = True := eq_true (by decide)
      rw [show rsL r 0 (nI 901) N = (nI 901, N) from rfl, rX7_readSetup_32]
      simp only [kX7_readSetup_32, rX7_readSetup_0, kX7_readSetup_0, rX7_readSetup_73, kX7_readSetup_73, rX7_readSetup_84, kX7_readSetup_84, rX7_readSetup_88, kX7_readSetup_88, bk_c, if_true, if_false, wi_e, wl_e, wr_e, w1_i, w1_r, ldS_0, ldS_s, vi_e, vl_e, vr_e, dpL_u, dpL_i, dpL_r, dpL_l, stS_0, stS_1, stS_s, stL_0, stL_1, stL_s, bin_0, bin_1, bin_2, bin_3, bin_4, bin_5, bdv_0, bdv_1, lbin_0, lbin_1, lbin_2, cnd_0, cnd_1, cnd_2, cnd_3, cnd_4, cnd_5, aty_0, aty_1, aty_2, aty_3, aty_4, aty_5, c8_u, cn_0, cn_i, cn_r, cn_l, Nat.reduceAdd, Nat.reduceLeDiff, Nat.le_refl, adz, hnd_0, rcv_0, rcv_1, kLen_a, kLen_r, inB_e, inR_e, cpOK_e, swt_n, swt_c, List.take_succ_cons, List.take_zero, List.drop_succ_cons, List.drop_zero, List.reverse_cons, List.reverse_nil, List.nil_append, List.cons_append, List.length_cons, List.length_nil, Option.toList_some, Option.toList_none, det_e, det_x, tr_imp, fa_imp, implies_true, not_true, not_false_eq_true, and_true, true_and, nar_i, upd_s, st1_0, st1_1, st1_2, st1_3, st1_4, st1_5, st1_6, st1_7, st1_8, st1_9, st1_10, st1_11, st1_12, st1_13, st1_14, st1_15, st1_16, st1_17, st1_18, st1_19, st1_20, st1_21, st1_22, st1_23, st1_24, st1_25, st1_26, st1_27, st1_28, st1_29, st1_30, st1_31, st1_32, st1_33, st1_34, st1_35, st1_36, st1_37, st1_42, st1_43, st1_44, st1_46, st1_47, st1_48, st1_49, st1_50, st1_51, st1_52, st1_53, st1_54, st1_55, st1_56, st1_57, st1_58, st1_59, st1_60, up_q, up_q0, up_q1, up_s, sI_sI, Nat.reduceEqDiff, reduceIte, Nat.succ_ne_zero, forall_const, false_imp_iff, a1, hk.1, k0]
      refine ⟨fun h => ?_, fun h => ?_⟩
      · rw [rsV_1 h]
      · rw [rsV_0 (Decidable.not_not.mp h)]
    | succ f ih =>
      intro i N hi hN hk
      have a1 : ((900 : Int32) < nI i) = False := eq_false (fun q => absurd ((nI_ltI (a := 900) (by decide) (by omega)).mp q) (by omega))
      have h1 := gdd_rs N hN
      have h2x := gdd_sk r 59 _ h1.1
      have g1 : gK (rsS N r) = gK M := h1.2.1.trans hk.1
      have s1 : STR (gT G) N := hs.kp hk
      rw [rX7_readSetup_32]
      simp only [kX7_readSetup_32, rX7_readSetup_0, kX7_readSetup_0, rX7_readSetup_73, kX7_readSetup_73, rX7_readSetup_84, kX7_readSetup_84, rX7_readSetup_88, kX7_readSetup_88, eX7_readSetup, S58, S62, S67, S71, bk_c, if_true, if_false, wi_e, wl_e, wr_e, w1_i, w1_r, ldS_0, ldS_s, vi_e, vl_e, vr_e, dpL_u, dpL_i, dpL_r, dpL_l, stS_0, stS_1, stS_s, stL_0, stL_1, stL_s, bin_0, bin_1, bin_2, bin_3, bin_4, bin_5, bdv_0, bdv_1, lbin_0, lbin_1, lbin_2, cnd_0, cnd_1, cnd_2, cnd_3, cnd_4, cnd_5, aty_0, aty_1, aty_2, aty_3, aty_4, aty_5, c8_u, cn_0, cn_i, cn_r, cn_l, Nat.reduceAdd, Nat.reduceLeDiff, Nat.le_refl, adz, hnd_0, rcv_0, rcv_1, kLen_a, kLen_r, inB_e, inR_e, cpOK_e, swt_n, swt_c, List.take_succ_cons, List.take_zero, List.drop_succ_cons, List.drop_zero, List.reverse_cons, List.reverse_nil, List.nil_append, List.cons_append, List.length_cons, List.length_nil, Option.toList_some, Option.toList_none, det_e, det_x, tr_imp, fa_imp, implies_true, not_true, not_false_eq_true, and_true, true_and, nar_i, upd_s, st1_0, st1_1, st1_2, st1_3, st1_4, st1_5, st1_6, st1_7, st1_8, st1_9, st1_10, st1_11, st1_12, st1_13, st1_14, st1_15, st1_16, st1_17, st1_18, st1_19, st1_20, st1_21, st1_22, st1_23, st1_24, st1_25, st1_26, st1_27, st1_28, st1_29, st1_30, st1_31, st1_32, st1_33, st1_34, st1_35, st1_36, st1_37, st1_42, st1_43, st1_44, st1_46, st1_47, st1_48, st1_49, st1_50, st1_51, st1_52, st1_53, st1_54, st1_55, st1_56, st1_57, st1_58, st1_59, st1_60, up_q, up_q0, up_q1, up_s, sI_sI, Nat.reduceEqDiff, reduceIte, Nat.succ_ne_zero, forall_const, false_imp_iff, Nat.add_assoc, Nat.reduceEqDiff, reduceIte, sV, a1, hk.1, hk.2.1, k0, p0, hT.1, hN, s1, h1.1, g1, nI_1]
      have e0 : rsL r (f + 1) (nI i) N = if gI N r 3 = 0 ∧ ¬ gI N (r + 1) 2 = -1 then rsL r f (nI i + 1) (skM (rsS N r) r 59) else (nI i, N) := rfl
      refine ⟨fun h => ⟨fun _ => ?_, fun h2 => absurd h h2⟩, fun h => ⟨fun h2 => ⟨fun h3 => absurd h3 h, fun _ => ?_⟩, fun h2 => ?_⟩⟩
      · rw [e0, if_neg (fun q => h q.1), rsV_1 h]
        exact ⟨rfl, rfl⟩
      · rw [e0, if_neg (fun q => q.2 h2), rsV_0 (Decidable.not_not.mp h)]
        exact ⟨rfl, rfl⟩
      · rw [e0, if_pos ⟨Decidable.not_not.mp h, h2⟩, nI_1]
        exact ih (i + 1) _ (by omega) h2x.1 (h2x.2.t (h1.2.t hk))
  have h0 := key 901 0 (rzM M r x) rfl hz.1 hz.2
  simp only [rX7_readSetup_0, kX7_readSetup_0, rX7_readSetup_73, kX7_readSetup_73, rX7_readSetup_84, kX7_readSetup_84, rX7_readSetup_88, kX7_readSetup_88, eX7_readSetup, S58, S62, S67, S71, bk_c, if_true, if_false, wi_e, wl_e, wr_e, w1_i, w1_r, ldS_0, ldS_s, vi_e, vl_e, vr_e, dpL_u, dpL_i, dpL_r, dpL_l, stS_0, stS_1, stS_s, stL_0, stL_1, stL_s, bin_0, bin_1, bin_2, bin_3, bin_4, bin_5, bdv_0, bdv_1, lbin_0, lbin_1, lbin_2, cnd_0, cnd_1, cnd_2, cnd_3, cnd_4, cnd_5, aty_0, aty_1, aty_2, aty_3, aty_4, aty_5, c8_u, cn_0, cn_i, cn_r, cn_l, Nat.reduceAdd, Nat.reduceLeDiff, Nat.le_refl, adz, hnd_0, rcv_0, rcv_1, kLen_a, kLen_r, inB_e, inR_e, cpOK_e, swt_n, swt_c, List.take_succ_cons, List.take_zero, List.drop_succ_cons, List.drop_zero, List.reverse_cons, List.reverse_nil, List.nil_append, List.cons_append, List.length_cons, List.length_nil, Option.toList_some, Option.toList_none, det_e, det_x, tr_imp, fa_imp, implies_true, not_true, not_false_eq_true, and_true, true_and, nar_i, upd_s, st1_0, st1_1, st1_2, st1_3, st1_4, st1_5, st1_6, st1_7, st1_8, st1_9, st1_10, st1_11, st1_12, st1_13, st1_14, st1_15, st1_16, st1_17, st1_18, st1_19, st1_20, st1_21, st1_22, st1_23, st1_24, st1_25, st1_26, st1_27, st1_28, st1_29, st1_30, st1_31, st1_32, st1_33, st1_34, st1_35, st1_36, st1_37, st1_42, st1_43, st1_44, st1_46, st1_47, st1_48, st1_49, st1_50, st1_51, st1_52, st1_53, st1_54, st1_55, st1_56, st1_57, st1_58, st1_59, st1_60, up_q, up_q0, up_q1, up_s, sI_sI, Nat.reduceEqDiff, reduceIte, Nat.succ_ne_zero, forall_const, false_imp_iff, Nat.add_assoc, Nat.reduceEqDiff, reduceIte, gK_sI, gP_sI, gI_s, sI_sI, sV, k0, p0, p1, hT, hT.1, d0, d0.1, hs, fK, fP, fL, e1, hx, hf, fz, nb0]
  exact h0
