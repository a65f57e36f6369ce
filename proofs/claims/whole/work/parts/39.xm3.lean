/-! ===== IrrigationTurns: changes ===== -/
/-- nothing but the History at h has changed -/
def FH (N M : Mm) (h : Nat) : Prop := gK N = gK M ∧ gP N = gP M ∧ gZ N = gZ M ∧ ∀ q, (q < h ∨ h + 258 ≤ q) → gI N q = gI M q ∧ gJ N q = gJ M q
theorem fh_sv {M : Mm} {h o : Nat} (hx : vp_in (gI M h 1) 8) : FH (svM M h o) M h := by
  have hl := vp_cl hx (by decide)
  unfold svM svA
  dsimp only
  refine ⟨?_, ?_, ?_, fun q hq => ⟨?_, ?_⟩⟩
  · rw [gK_sI, (kp_S _ _ _).1]
  · rw [gP_sI, (kp_S _ _ _).2.1]
  · rw [gZ_sI, (kp_S _ _ _).2.2]
  · rw [gI_f _ _ (by omega), fs_S M (by omega)]
  · rw [gJ_I, fj_S M (by omega)]
theorem Ix.q {M N : Mm} {b : Nat} (h : Ix M b) (hK : gK N = gK M) (hP : gP N = gP M) (hI : ∀ k, k < 32 → gI N (b + k) = gI M (b + k)) : Ix N b := by
  obtain ⟨h1, h2⟩ := h
  have e0 : gI N b = gI M b := hI 0 (by decide)
  unfold Ix
  rw [hI 1 (by decide), hI 10 (by decide), hI 22 (by decide), e0, hI 27 (by decide), hI 3 (by decide), hI 25 (by decide)]
  exact ⟨h1.ss hK hP, h2⟩
theorem gI_sv0 {M : Mm} {h o : Nat} (k : Nat) (h1 : k ≠ 1) (h2 : k ≠ 2) : gI (svM M h o) h k = gI M h k := by
  unfold svM svA
  dsimp only
  rw [gI_s, upd_n _ _ h2, upd_n _ _ h1, fs_S M (by omega)]
theorem gI_sv1 (M : Mm) (h o : Nat) : gI (svM M h o) h 1 = if gI M h 1 + 1 < 8 then gI M h 1 + 1 else 0 := by
  unfold svM
  dsimp only
  rw [gI_s, upd_n _ _ (by decide), upd_s]
theorem gI_sv2 (M : Mm) (h o : Nat) : gI (svM M h o) h 2 = mnI (gI M h 2 + 1) 8 := by
  unfold svM
  dsimp only
  rw [gI_s, upd_s]
theorem sv_nx {M : Mm} {h o : Nat} (hx : vp_in (gI M h 1) 8) : vp_in (gI (svM M h o) h 1) 8 := by
  obtain ⟨j, hj, ej⟩ := vp_in_of hx (by decide)
  rw [gI_sv1, ej, nI_1]
  split
  · rename_i q
    exact vp_in_nI ((nI_ltI (b := 8) (by omega) (by decide)).mp q) (by decide)
  · exact vp_in_nI (n := 0) (by decide) (by decide)
/-- what the history holds behind a save -/
theorem gI_svs {M : Mm} {h o : Nat} {q : Nat} (hq : q ≠ h) : gI (svM M h o) q = gI (cpS M (svA M h) o) q := by
  unfold svM
  dsimp only
  rw [gI_f _ _ hq]
theorem XP.sv {M : Mm} {x : Nat} (g : XP M x) : XP (svM M (x + 100) (x + 36)) x ∧ FH (svM M (x + 100) (x + 36)) M (x + 100) := by
  obtain ⟨g1, g2, g3, g4, g5⟩ := g
  have hF := fh_sv (o := x + 36) g4
  obtain ⟨hK, hP, hZ, hI⟩ := id hF
  refine ⟨⟨g1.kp hK hP hZ, g2.q hK hP (fun k hk => (hI _ (by omega)).1), by rw [(hI _ (by omega)).1]; exact g3, sv_nx g4, fun i hi => ?_⟩, hF⟩
  have hl := vp_cl g4 (by decide)
  rw [gI_svs (by omega), gI_svs (by omega)]
  by_cases e : i = (gI M (x + 100) 1).toNatClampNeg
  · have ha : apt (svA M (x + 100)) 32 (x + 36) 32 := by unfold apt svA; omega
    obtain ⟨c1, c2, c3, c4, c5, c6, c7, c8, c9, c10, c11, c12, c13, c14, c15, c16, c17⟩ := ce_S M ha
    rw [show x + 100 + 2 + 32 * i = svA M (x + 100) by unfold svA; rw [e], c6, c14]
    exact ⟨g2.cF, g2.cM⟩
  · rw [fs_S M (by unfold svA; omega), fs_S M (by unfold svA; omega)]
    exact g5 i hi
theorem XP.ss {M : Mm} {x : Nat} (h : XP M x) : Lh M (x + 100) ∧ vp_in (gI M (x + 100) 1) 8 ∧ Ls M (x + 36) ∧ cnt (gI M (x + 46) 11) 12 ∧ cnt (gI M (x + 63) 2) 900 ∧ apt (x + 100) 258 (x + 36) 32 := ⟨h.1.2.2.2.2.2, h.2.2.2.1, h.1.2.2.2.1, h.2.1.cF, h.2.1.cM, by unfold apt; omega⟩
theorem XP.sn {M : Mm} {x : Nat} (h : XP M x) : XP (svM M (x + 100) (x + 36)) x := h.sv.1
/-- a change in the present State that keeps it running -/
theorem XP.pr {M N : Mm} {x : Nat} (h : FR N M (x + 36)) (hI2 : Ix N (x + 36)) (g : XP M x) : XP N x := by
  obtain ⟨hK, hP, hZ, hI⟩ := h
  obtain ⟨g1, g2, g3, g4, g5⟩ := g
  refine ⟨g1.kp hK hP hZ, hI2, by rw [(hI _ (by omega)).1]; exact g3, by rw [(hI _ (by omega)).1]; exact g4, fun i hi => ?_⟩
  rw [(hI _ (by omega)).1, (hI (x + 100 + 2 + 32 * i + 27) (by omega)).1]
  exact g5 i hi
/-! == run == -/
def ruL (b : Nat) : Nat → Mm → Int32 → Int32 × Mm
  | 0, N, s => (s, N)
  | n + 1, N, s => ruL b n (phM N b) (s + (ph5 N b).2)
def ruR (M : Mm) (x : Nat) (h : Int32) : Int32 × Mm := ruL (x + 36) h.toNatClampNeg (svM M (x + 100) (x + 36)) 0
def ruB (M : Mm) (x : Nat) (h : Int32) : Option Nat := if gI M (x + 37) 8 = 0 ∨ 100000 < gI M (x + 36) 6 + h then some 2 else none
def S99 : Sem := fun as M => match as with
  | [.ref x, .int h] => sTh (XH M x) (orE (bR h 1 100) (ruB M x h)) (some (.int (ruR M x h).1)) (ruR M x h).2 M
  | _ => sF
def eX10_run : Nat → Sem := fun id => if id = 39 then S39 else if id = 69 then S69 else S98
set_option maxRecDepth 100000 in
set_option maxHeartbeats 4000000 in
theorem s_X10_run {l : Launch} {G : Gt} (hfl : l.stackTraces = false) : SatM l G 99 S99 := by
  refine t_X10_run (E := eX10_run) hfl (s_X4_save hfl) (s_X8_passHour hfl) (s_X10_requireRange hfl) fun as M hp => ?_
  unfold S99 at hp ⊢
  split at hp
  case h_2 => exact hp.elim
  rename_i x h
  obtain hp := hp
  refine ⟨Nat.le_of_ble_eq_true rfl, ?_⟩
  show Run (gT G) _ _ _ _ _ _ _ 0 [.val (.ref x), .val (.int h), .unset, .unset] [] M 0 0
  have hp1 := hp.1
  have hsv := hp1.sn
  have hs0 := hp1.ss
  simp only [rX10_run_0, kX10_run_0, rX10_run_34, kX10_run_34, rX10_run_42, kX10_run_42, rX10_run_78, kX10_run_78, eX10_run, S39, S69, S98, bk_c, if_true, if_false, wi_e, wl_e, wr_e, w1_i, w1_r, ldS_0, ldS_s, vi_e, vl_e, vr_e, dpL_u, dpL_i, dpL_r, dpL_l, stS_0, stS_1, stS_s, stL_0, stL_1, stL_s, bin_0, bin_1, bin_2, bin_3, bin_4, bin_5, bdv_0, bdv_1, lbin_0, lbin_1, lbin_2, cnd_0, cnd_1, cnd_2, cnd_3, cnd_4, cnd_5, aty_0, aty_1, aty_2, aty_3, aty_4, aty_5, c8_u, cn_0, cn_i, cn_r, cn_l, Nat.reduceAdd, Nat.reduceLeDiff, Nat.le_refl, adz, hnd_0, rcv_0, rcv_1, kLen_a, kLen_r, inB_e, inR_e, cpOK_e, swt_n, swt_c, List.take_succ_cons, List.take_zero, List.drop_succ_cons, List.drop_zero, List.reverse_cons, List.reverse_nil, List.nil_append, List.cons_append, List.length_cons, List.length_nil, Option.toList_some, Option.toList_none, det_e, det_x, tr_imp, fa_imp, implies_true, not_true, not_false_eq_true, and_true, true_and, nar_i, upd_s, st1_0, st1_1, st1_2, st1_3, st1_4, st1_5, st1_6, st1_7, st1_8, st1_9, st1_10, st1_11, st1_12, st1_13, st1_14, st1_15, st1_16, st1_17, st1_18, st1_19, st1_20, st1_21, st1_22, st1_23, st1_24, st1_25, st1_26, st1_27, st1_28, st1_29, st1_30, st1_31, st1_32, st1_33, st1_34, st1_35, st1_36, st1_37, st1_42, st1_43, st1_44, st1_46, st1_47, st1_48, st1_49, st1_50, st1_51, st1_52, st1_53, st1_54, st1_55, st1_56, st1_57, st1_58, st1_59, st1_60, Nat.add_assoc, Nat.reduceEqDiff, reduceIte, det_s, hp1.f, hs0, hsv.f, Nat.succ_ne_zero, ne_eq, sV]
  refine ⟨fun h1 => ?_, fun e M' he => ?_⟩
  · have hhh := (bR_1 (n := 100) h1 (by decide)).1
    obtain ⟨n, hn, rfl⟩ := hhh
    have cn : (nI n).toNatClampNeg = n := nI_clamp (by omega)
    have key : ∀ (Q : Option Value → Mm → Prop) (X : Nat → Mm → Prop) r i N s (t : Nat), i + r = n → XP N x → gI N (x + 36) 6 = nI t → t + r < 2 ^ 30 → Q (some (.int (ruL (x + 36) r N s).1)) (ruL (x + 36) r N s).2 → Run (gT G) eX10_run 2 12 (fun _ _ => none) Q X kX10_run 57 [.val (.ref x), .val (.int (nI n)), .val (.int s), .val (.int (nI i))] [] N 1 6 := by
      intro Q X r
      induction r with
      | zero =>
        intro i N s t hi hN ht hb hq
        have hi2 : i = n := hi
        subst hi2
        unfold ruL at hq
        rw [rX10_run_57]
        simp only [kX10_run_57, rX10_run_0, kX10_run_0, rX10_run_34, kX10_run_34, rX10_run_42, kX10_run_42, rX10_run_78, kX10_run_78, eX10_run, S39, S69, S98, bk_c, if_true, if_false, wi_e, wl_e, wr_e, w1_i, w1_r, ldS_0, ldS_s, vi_e, vl_e, vr_e, dpL_u, dpL_i, dpL_r, dpL_l, stS_0, stS_1, stS_s, stL_0, stL_1, stL_s, bin_0, bin_1, bin_2, bin_3, bin_4, bin_5, bdv_0, bdv_1, lbin_0, lbin_1, lbin_2, cnd_0, cnd_1, cnd_2, cnd_3, cnd_4, cnd_5, aty_0, aty_1, aty_2, aty_3, aty_4, aty_5, c8_u, cn_0, cn_i, cn_r, cn_l, Nat.reduceAdd, Nat.reduceLeDiff, Nat.le_refl, adz, hnd_0, rcv_0, rcv_1, kLen_a, kLen_r, inB_e, inR_e, cpOK_e, swt_n, swt_c, List.take_succ_cons, List.take_zero, List.drop_succ_cons, List.drop_zero, List.reverse_cons, List.reverse_nil, List.nil_append, List.cons_append, List.length_cons, List.length_nil, Option.toList_some, Option.toList_none, det_e, det_x, tr_imp, fa_imp, implies_true, not_true, not_false_eq_true, and_true, true_and, nar_i, upd_s, st1_0, st1_1, st1_2, st1_3, st1_4, st1_5, st1_6, st1_7, st1_8, st1_9, st1_10, st1_11, st1_12, st1_13, st1_14, st1_15, st1_16, st1_17, st1_18, st1_19, st1_20, st1_21, st1_22, st1_23, st1_24, st1_25, st1_26, st1_27, st1_28, st1_29, st1_30, st1_31, st1_32, st1_33, st1_34, st1_35, st1_36, st1_37, st1_42, st1_43, st1_44, st1_46, st1_47, st1_48, st1_49, st1_50, st1_51, st1_52, st1_53, st1_54, st1_55, st1_56, st1_57, st1_58, st1_59, st1_60, lp_out]
        exact hq
      | succ r ih =>
        intro i N s t hi hN ht hb hq
        obtain ⟨a1, a2, a3, -⟩ := lp_in (i := i) (n := n) (N := 100) (by omega) hn (by decide)
        have hI2 := hN.2.1.ph ht (by omega)
        unfold ruL at hq
        rw [rX10_run_57]
        simp only [kX10_run_57, rX10_run_0, kX10_run_0, rX10_run_34, kX10_run_34, rX10_run_42, kX10_run_42, rX10_run_78, kX10_run_78, eX10_run, S39, S69, S98, bk_c, if_true, if_false, wi_e, wl_e, wr_e, w1_i, w1_r, ldS_0, ldS_s, vi_e, vl_e, vr_e, dpL_u, dpL_i, dpL_r, dpL_l, stS_0, stS_1, stS_s, stL_0, stL_1, stL_s, bin_0, bin_1, bin_2, bin_3, bin_4, bin_5, bdv_0, bdv_1, lbin_0, lbin_1, lbin_2, cnd_0, cnd_1, cnd_2, cnd_3, cnd_4, cnd_5, aty_0, aty_1, aty_2, aty_3, aty_4, aty_5, c8_u, cn_0, cn_i, cn_r, cn_l, Nat.reduceAdd, Nat.reduceLeDiff, Nat.le_refl, adz, hnd_0, rcv_0, rcv_1, kLen_a, kLen_r, inB_e, inR_e, cpOK_e, swt_n, swt_c, List.take_succ_cons, List.take_zero, List.drop_succ_cons, List.drop_zero, List.reverse_cons, List.reverse_nil, List.nil_append, List.cons_append, List.length_cons, List.length_nil, Option.toList_some, Option.toList_none, det_e, det_x, tr_imp, fa_imp, implies_true, not_true, not_false_eq_true, and_true, true_and, nar_i, upd_s, st1_0, st1_1, st1_2, st1_3, st1_4, st1_5, st1_6, st1_7, st1_8, st1_9, st1_10, st1_11, st1_12, st1_13, st1_14, st1_15, st1_16, st1_17, st1_18, st1_19, st1_20, st1_21, st1_22, st1_23, st1_24, st1_25, st1_26, st1_27, st1_28, st1_29, st1_30, st1_31, st1_32, st1_33, st1_34, st1_35, st1_36, st1_37, st1_42, st1_43, st1_44, st1_46, st1_47, st1_48, st1_49, st1_50, st1_51, st1_52, st1_53, st1_54, st1_55, st1_56, st1_57, st1_58, st1_59, st1_60, Nat.add_assoc, Nat.reduceEqDiff, reduceIte, hN.f, a1, nI_1, hN.2.1, Nat.succ_ne_zero, ne_eq, sV]
        exact ih (i + 1) (phM N (x + 36)) _ (t + 1) (by omega) (hN.pr (fr_ph N _) hI2.1) hI2.2 (by omega) hq
    obtain ⟨t, ht, et⟩ := hp.2
    rw [h1]
    refine ⟨fun g z hz => ⟨if_pos (Or.inl g), z, hz, rfl⟩, fun g => ⟨fun g2 => ?_, fun g2 z hz => ⟨if_pos (Or.inr (Int32.not_le.mp g2)), z, hz, rfl⟩⟩⟩
    refine key _ _ n 0 _ 0 t (Nat.zero_add n) hsv ?_ (by omega) ?_
    · rw [(hp1.sv.2.2.2.2 (x + 36) (by omega)).1]
      exact et
    · refine ⟨if_neg (fun q => q.elim g (Int32.not_lt.mpr g2)), ?_⟩
      unfold ruR
      rw [cn]
      exact ⟨rfl, rfl⟩
  · rw [he.1]
    exact ⟨rfl, he.2⟩
/-! == force, swapTurns, undo == -/
def fcM (M : Mm) (x : Nat) (f : Int32) : Mm := sI (svM M (x + 100) (x + 36)) (x + 57) (upd (gI (svM M (x + 100) (x + 36)) (x + 57)) f.toNatClampNeg 1)
def fcB (M : Mm) (x : Nat) (f : Int32) : Option Nat := if gI M (x + 57) f.toNatClampNeg = 0 then none else some 2
def S87 : Sem := fun as M => match as with
  | [.ref x, .int f] => sTh (XP M x) (orE (bI f (gI M (x + 46) 11)) (fcB M x f)) (some (.int (itr (cfA (fcM M x f) (x + 46)) (gI (fcM M x f) (x + 46) 11).toNatClampNeg 0 0))) (fcM M x f) M
  | _ => sF
theorem fc_l {M : Mm} {x : Nat} (f : Int32) (h : XP (svM M (x + 100) (x + 36)) x) : Lf (fcM M x f) (x + 46) ∧ cnt (gI (fcM M x f) (x + 46) 11) 12 ∧ gK (fcM M x f) = gK (svM M (x + 100) (x + 36)) ∧ gP (fcM M x f) = gP (svM M (x + 100) (x + 36)) := by
  unfold fcM
  generalize svM M (x + 100) (x + 36) = N at h ⊢
  refine ⟨h.lf.1.eq (kpI.i _ _ _), ?_, rfl, rfl⟩
  rw [gI_f _ _ (by omega)]
  exact h.lf.2
def eX10_force : Nat → Sem := fun id => if id = 14 then S14 else if id = 39 then S39 else S97
set_option maxRecDepth 100000 in
set_option maxHeartbeats 4000000 in
theorem s_X10_force {l : Launch} {G : Gt} (hfl : l.stackTraces = false) : SatM l G 87 S87 := by
  refine t_X10_force (E := eX10_force) hfl (s_X1_countForced hfl) (s_X4_save hfl) (s_X10_requireIndex hfl) fun as M hp => ?_
  unfold S87 at hp ⊢
  split at hp
  case h_2 => exact hp.elim
  rename_i x f
  obtain hp := hp
  refine ⟨Nat.le_of_ble_eq_true rfl, ?_⟩
  show Run (gT G) _ _ _ _ _ _ _ 0 [.val (.ref x), .val (.int f)] [] M 0 0
  have hsv := hp.sn
  have hs0 := hp.ss
  have hfc := fc_l f hsv
  have f1 : sI (svM M (x + 100) (x + 36)) (x + 57) (upd (gI (svM M (x + 100) (x + 36)) (x + 57)) f.toNatClampNeg (vp_nar .boolean 1)) = fcM M x f := rfl
  simp only [rX10_force_0, kX10_force_0, rX10_force_37, kX10_force_37, eX10_force, S14, S39, S97, bk_c, if_true, if_false, wi_e, wl_e, wr_e, w1_i, w1_r, ldS_0, ldS_s, vi_e, vl_e, vr_e, dpL_u, dpL_i, dpL_r, dpL_l, stS_0, stS_1, stS_s, stL_0, stL_1, stL_s, bin_0, bin_1, bin_2, bin_3, bin_4, bin_5, bdv_0, bdv_1, lbin_0, lbin_1, lbin_2, cnd_0, cnd_1, cnd_2, cnd_3, cnd_4, cnd_5, aty_0, aty_1, aty_2, aty_3, aty_4, aty_5, c8_u, cn_0, cn_i, cn_r, cn_l, Nat.reduceAdd, Nat.reduceLeDiff, Nat.le_refl, adz, hnd_0, rcv_0, rcv_1, kLen_a, kLen_r, inB_e, inR_e, cpOK_e, swt_n, swt_c, List.take_succ_cons, List.take_zero, List.drop_succ_cons, List.drop_zero, List.reverse_cons, List.reverse_nil, List.nil_append, List.cons_append, List.length_cons, List.length_nil, Option.toList_some, Option.toList_none, det_e, det_x, tr_imp, fa_imp, implies_true, not_true, not_false_eq_true, and_true, true_and, nar_i, upd_s, st1_0, st1_1, st1_2, st1_3, st1_4, st1_5, st1_6, st1_7, st1_8, st1_9, st1_10, st1_11, st1_12, st1_13, st1_14, st1_15, st1_16, st1_17, st1_18, st1_19, st1_20, st1_21, st1_22, st1_23, st1_24, st1_25, st1_26, st1_27, st1_28, st1_29, st1_30, st1_31, st1_32, st1_33, st1_34, st1_35, st1_36, st1_37, st1_42, st1_43, st1_44, st1_46, st1_47, st1_48, st1_49, st1_50, st1_51, st1_52, st1_53, st1_54, st1_55, st1_56, st1_57, st1_58, st1_59, st1_60, Nat.add_assoc, Nat.reduceEqDiff, reduceIte, det_s, hp.f, hs0, hsv.f, f1, hfc, Nat.succ_ne_zero, ne_eq, sV]
  refine ⟨fun h1 => ⟨bI_c h1 hp.lf.2 (by decide), fun g => ⟨bI_c h1 hp.lf.2 (by decide), ?_⟩, fun g => ?_⟩, fun e M' he => ?_⟩
  · rw [h1]
    unfold fcB
    rw [if_pos g]
    exact rfl
  · intro z hz
    refine ⟨?_, z, hz, rfl⟩
    rw [h1]
    unfold fcB
    rw [if_neg g]
    rfl
  · rw [he.1]
    exact ⟨rfl, he.2⟩
def swM (M : Mm) (x : Nat) (i j : Int32) : Mm := xcM (svM M (x + 100) (x + 36)) (x + 58) i.toNatClampNeg j.toNatClampNeg
def S102 : Sem := fun as M => match as with
  | [.ref x, .int i, .int j] => sTh (XP M x) (orE (bI i (gI M (x + 58) 2)) (bI j (gI M (x + 58) 2))) (some (.int (villV (swM M x i j) (x + 58) (gI (swM M x i j) (x + 36) 6)))) (swM M x i j) M
  | _ => sF
theorem xc_k (M : Mm) (r i j : Nat) : gK (xcM M r i j) = gK M ∧ gP (xcM M r i j) = gP M ∧ gZ (xcM M r i j) = gZ M := ⟨rfl, rfl, rfl⟩
theorem xc_i (M : Mm) {r q : Nat} (i j : Nat) (h : q ≠ r + 1) (h2 : q ≠ r + 2) : gI (xcM M r i j) q = gI M q := by
  unfold xcM
  rw [gI_f _ _ h2, gI_f _ _ h]
theorem sw_l {M : Mm} {x : Nat} (i j : Int32) (h : XP (svM M (x + 100) (x + 36)) x) : Lr (swM M x i j) (x + 58) ∧ cnt (gI (swM M x i j) (x + 58) 2) 12 ∧ gK (swM M x i j) = gK (svM M (x + 100) (x + 36)) ∧ gP (swM M x i j) = gP (svM M (x + 100) (x + 36)) := by
  unfold swM
  generalize svM M (x + 100) (x + 36) = N at h ⊢
  refine ⟨h.lr.1.eq (xc_k _ _ _ _), ?_, (xc_k _ _ _ _).1, (xc_k _ _ _ _).2.1⟩
  rw [xc_i _ _ _ (by omega) (by omega)]
  exact h.lr.2
def eX10_swapTurns : Nat → Sem := fun id => if id = 39 then S39 else if id = 44 then S44 else if id = 46 then S46 else S97
set_option maxRecDepth 100000 in
set_option maxHeartbeats 4000000 in
theorem s_X10_swapTurns {l : Launch} {G : Gt} (hfl : l.stackTraces = false) : SatM l G 102 S102 := by
  refine t_X10_swapTurns (E := eX10_swapTurns) hfl (s_X4_save hfl) (s_X6_exchange hfl) (s_X6_villageIn hfl) (s_X10_requireIndex hfl) fun as M hp => ?_
  unfold S102 at hp ⊢
  split at hp
  case h_2 => exact hp.elim
  rename_i x i j
  obtain hp := hp
  refine ⟨Nat.le_of_ble_eq_true rfl, ?_⟩
  show Run (gT G) _ _ _ _ _ _ _ 0 [.val (.ref x), .val (.int i), .val (.int j)] [] M 0 0
  have hsv := hp.sn
  have hs0 := hp.ss
  have f1 : xcM (svM M (x + 100) (x + 36)) (x + 58) i.toNatClampNeg j.toNatClampNeg = swM M x i j := rfl
  have hsw := sw_l i j hsv
  simp only [rX10_swapTurns_0, kX10_swapTurns_0, eX10_swapTurns, S39, S44, S46, S97, bk_c, if_true, if_false, wi_e, wl_e, wr_e, w1_i, w1_r, ldS_0, ldS_s, vi_e, vl_e, vr_e, dpL_u, dpL_i, dpL_r, dpL_l, stS_0, stS_1, stS_s, stL_0, stL_1, stL_s, bin_0, bin_1, bin_2, bin_3, bin_4, bin_5, bdv_0, bdv_1, lbin_0, lbin_1, lbin_2, cnd_0, cnd_1, cnd_2, cnd_3, cnd_4, cnd_5, aty_0, aty_1, aty_2, aty_3, aty_4, aty_5, c8_u, cn_0, cn_i, cn_r, cn_l, Nat.reduceAdd, Nat.reduceLeDiff, Nat.le_refl, adz, hnd_0, rcv_0, rcv_1, kLen_a, kLen_r, inB_e, inR_e, cpOK_e, swt_n, swt_c, List.take_succ_cons, List.take_zero, List.drop_succ_cons, List.drop_zero, List.reverse_cons, List.reverse_nil, List.nil_append, List.cons_append, List.length_cons, List.length_nil, Option.toList_some, Option.toList_none, det_e, det_x, tr_imp, fa_imp, implies_true, not_true, not_false_eq_true, and_true, true_and, nar_i, upd_s, st1_0, st1_1, st1_2, st1_3, st1_4, st1_5, st1_6, st1_7, st1_8, st1_9, st1_10, st1_11, st1_12, st1_13, st1_14, st1_15, st1_16, st1_17, st1_18, st1_19, st1_20, st1_21, st1_22, st1_23, st1_24, st1_25, st1_26, st1_27, st1_28, st1_29, st1_30, st1_31, st1_32, st1_33, st1_34, st1_35, st1_36, st1_37, st1_42, st1_43, st1_44, st1_46, st1_47, st1_48, st1_49, st1_50, st1_51, st1_52, st1_53, st1_54, st1_55, st1_56, st1_57, st1_58, st1_59, st1_60, Nat.add_assoc, Nat.reduceEqDiff, reduceIte, det_s, hp.f, hs0, hsv.f, hsv.lr, f1, hsw, Nat.succ_ne_zero, ne_eq, sV]
  refine ⟨fun h1 => ⟨fun h2 => ⟨⟨bI_c h1 hp.lr.2 (by decide), bI_c h2 hp.lr.2 (by decide)⟩, ?_⟩, fun e M' he => ?_⟩, fun e M' he => ?_⟩
  · rw [h1, h2]
    exact rfl
  · rw [h1]
    exact he
  · rw [he.1]
    exact ⟨rfl, he.2⟩
def S106 : Sem := fun as M => match as with
  | [.ref x] => sV (XP M x) (some (.int (if gI M (x + 100) 2 = 0 then -1 else gI (rsM M (x + 100) (x + 36)) (x + 100) 2))) (rsM M (x + 100) (x + 36))
  | _ => sF
theorem rs_k (M : Mm) (h o : Nat) : gK (rsM M h o) = gK M ∧ gP (rsM M h o) = gP M ∧ gZ (rsM M h o) = gZ M := by
  unfold rsM
  split
  · exact ⟨rfl, rfl, rfl⟩
  · dsimp only
    refine ⟨?_, ?_, ?_⟩
    · rw [gK_sI, (kp_S _ _ _).1, gK_sI]
    · rw [gP_sI, (kp_S _ _ _).2.1, gP_sI]
    · rw [gZ_sI, (kp_S _ _ _).2.2, gZ_sI]
theorem i10' (p : Prop) [Decidable p] : ((if p then (0 : Int32) else 1) = 0) = p := by
  split
  · rename_i h; exact propext ⟨fun _ => h, fun _ => rfl⟩
  · rename_i h; exact propext ⟨fun q => absurd q (by decide), fun q => absurd q h⟩
set_option maxRecDepth 100000 in
set_option maxHeartbeats 4000000 in
theorem s_X10_undo {l : Launch} {G : Gt} (hfl : l.stackTraces = false) : SatM l G 106 S106 := by
  refine t_X10_undo (E := fun _ => S38) hfl (s_X4_restore hfl) fun as M hp => ?_
  unfold S106 at hp ⊢
  split at hp
  case h_2 => exact hp.elim
  rename_i x
  obtain hp := hp
  refine ⟨Nat.le_of_ble_eq_true rfl, ?_⟩
  show Run (gT G) _ _ _ _ _ _ _ 0 [.val (.ref x)] [] M 0 0
  have hs0 := hp.ss
  have hc := hp.2.2.2.2
  simp only [rX10_undo_0, kX10_undo_0, rX10_undo_24, kX10_undo_24, rX10_undo_25, kX10_undo_25, S38, Nat.reduceEqDiff, reduceIte, bk_c, if_true, if_false, wi_e, wl_e, wr_e, w1_i, w1_r, ldS_0, ldS_s, vi_e, vl_e, vr_e, dpL_u, dpL_i, dpL_r, dpL_l, stS_0, stS_1, stS_s, stL_0, stL_1, stL_s, bin_0, bin_1, bin_2, bin_3, bin_4, bin_5, bdv_0, bdv_1, lbin_0, lbin_1, lbin_2, cnd_0, cnd_1, cnd_2, cnd_3, cnd_4, cnd_5, aty_0, aty_1, aty_2, aty_3, aty_4, aty_5, c8_u, cn_0, cn_i, cn_r, cn_l, Nat.reduceAdd, Nat.reduceLeDiff, Nat.le_refl, adz, hnd_0, rcv_0, rcv_1, kLen_a, kLen_r, inB_e, inR_e, cpOK_e, swt_n, swt_c, List.take_succ_cons, List.take_zero, List.drop_succ_cons, List.drop_zero, List.reverse_cons, List.reverse_nil, List.nil_append, List.cons_append, List.length_cons, List.length_nil, Option.toList_some, Option.toList_none, det_e, det_x, tr_imp, fa_imp, implies_true, not_true, not_false_eq_true, and_true, true_and, nar_i, upd_s, st1_0, st1_1, st1_2, st1_3, st1_4, st1_5, st1_6, st1_7, st1_8, st1_9, st1_10, st1_11, st1_12, st1_13, st1_14, st1_15, st1_16, st1_17, st1_18, st1_19, st1_20, st1_21, st1_22, st1_23, st1_24, st1_25, st1_26, st1_27, st1_28, st1_29, st1_30, st1_31, st1_32, st1_33, st1_34, st1_35, st1_36, st1_37, st1_42, st1_43, st1_44, st1_46, st1_47, st1_48, st1_49, st1_50, st1_51, st1_52, st1_53, st1_54, st1_55, st1_56, st1_57, st1_58, st1_59, st1_60, Nat.add_assoc, Nat.reduceEqDiff, reduceIte, hp.f, hs0, (rs_k M (x + 100) (x + 36)).1, (rs_k M (x + 100) (x + 36)).2.1, Nat.succ_ne_zero, ne_eq, sV, i10']
  refine ⟨fun i hi => ?_, fun g => ?_, fun g => ?_⟩
  · have := hc i hi
    simpa only [Nat.add_assoc] using this
  · rw [if_pos g]
  · rw [if_neg g]
/-! == checksum == -/
def ckI (M : Mm) (x k : Nat) : Nat → Int64 → Int64 := fun z s => 31 * s + (gI M (x + 45) (slotv (nI k) (gI M (x + 36) 6 + nI z)).toNatClampNeg).toInt64
def ckC (M : Mm) (x : Nat) : Nat → Int64 → Int64 := fun k s => itr (ckI M x k) (gI M (x + 39) k).toNatClampNeg 0 s
def ckF (M : Mm) (x : Nat) : Nat → Int64 → Int64 := fun k s => 31 * (31 * (31 * (31 * s + (gI M (x + 54) k).toInt64) + (gI M (x + 55) k).toInt64) + (gI M (x + 56) k).toInt64) + if gI M (x + 57) k = 0 then Int32.toInt64 0 else Int32.toInt64 1
def ckV (M : Mm) (x : Nat) : Nat → Int64 → Int64 := fun k s => 31 * s + (gI M (x + 67) k).toInt64
def ckR (M : Mm) (x : Nat) : Int64 := 31 * itr (ckV M x) 6 0 (itr (ckF M x) (gI M (x + 46) 11).toNatClampNeg 0 (itr (ckC M x) (gI M (x + 37) 8).toNatClampNeg 0 (gI M (x + 36) 6).toInt64)) + (plM M (x + 61)).toInt64
def S78 : Sem := fun as M => match as with
  | [.ref x] => sV (XP M x) (some (.long (ckR M x))) M
  | _ => sF
def eX10_checksum : Nat → Sem := fun id => if id = 0 then S0 else S35
set_option maxRecDepth 100000 in
set_option maxHeartbeats 4000000 in
theorem s_X10_checksum {l : Launch} {G : Gt} (hfl : l.stackTraces = false) : SatM l G 78 S78 := by
  refine t_X10_checksum (E := eX10_checksum) hfl (s_X0_amountDue hfl) (s_X3_place hfl) fun as M hp => ?_
  unfold S78 at hp ⊢
  split at hp
  case h_2 => exact hp.elim
  rename_i x
  obtain hp := hp
  refine ⟨Nat.le_of_ble_eq_true rfl, ?_⟩
  show Run (gT G) _ _ _ _ _ _ _ 0 [.val (.ref x), .unset, .unset, .unset, .unset, .unset] [] M 0 0
  have hIx := hp.2.1
  obtain ⟨-, n, f, r, t, ⟨g1, g2, g3, g4⟩, ⟨e1, e2, e3, e4⟩, -, hd, -⟩ := id hIx
  have e1' : gI M (x + 37) 8 = nI n := e1
  have e2' : gI M (x + 46) 11 = nI f := e2
  have hd' : ∀ k, k < n → ∃ d, 1 ≤ d ∧ d ≤ 6 ∧ gI M (x + 39) k = nI d := hd
  have cln : (nI n).toNatClampNeg = n := nI_clamp (by omega)
  have clf : (nI f).toNatClampNeg = f := nI_clamp (by omega)
  have key4 : ∀ r i s (u v : Slot), i + r = 6 → itr (ckV M x) r i s = itr (ckV M x) 6 0 (itr (ckF M x) (gI M (x + 46) 11).toNatClampNeg 0 (itr (ckC M x) (gI M (x + 37) 8).toNatClampNeg 0 (gI M (x + 36) 6).toInt64)) → Run (gT G) eX10_checksum 0 0 (fun _ _ => none) (fun v' M' => v' = some (.long (ckR M x)) ∧ M' = M) (fun _ _ => False) kX10_checksum 182 [.val (.ref x), .val (.long s), .unset, u, v, .val (.int (nI i))] [] M 0 0 := by
    intro r
    induction r with
    | zero =>
      intro i s u v hi hs
      have hi2 : i = 6 := hi
      subst hi2
      have hs2 : s = itr (ckV M x) 6 0 (itr (ckF M x) (gI M (x + 46) 11).toNatClampNeg 0 (itr (ckC M x) (gI M (x + 37) 8).toNatClampNeg 0 (gI M (x + 36) 6).toInt64)) := hs
      rw [rX10_checksum_182]
      simp only [kX10_checksum_182, rX10_checksum_0, kX10_checksum_0, rX10_checksum_73, kX10_checksum_73, rX10_checksum_79, kX10_checksum_79, rX10_checksum_169, kX10_checksum_169, rX10_checksum_170, kX10_checksum_170, rX10_checksum_179, kX10_checksum_179, rX10_checksum_216, kX10_checksum_216, eX10_checksum, S0, S35, bk_c, if_true, if_false, wi_e, wl_e, wr_e, w1_i, w1_r, ldS_0, ldS_s, vi_e, vl_e, vr_e, dpL_u, dpL_i, dpL_r, dpL_l, stS_0, stS_1, stS_s, stL_0, stL_1, stL_s, bin_0, bin_1, bin_2, bin_3, bin_4, bin_5, bdv_0, bdv_1, lbin_0, lbin_1, lbin_2, cnd_0, cnd_1, cnd_2, cnd_3, cnd_4, cnd_5, aty_0, aty_1, aty_2, aty_3, aty_4, aty_5, c8_u, cn_0, cn_i, cn_r, cn_l, Nat.reduceAdd, Nat.reduceLeDiff, Nat.le_refl, adz, hnd_0, rcv_0, rcv_1, kLen_a, kLen_r, inB_e, inR_e, cpOK_e, swt_n, swt_c, List.take_succ_cons, List.take_zero, List.drop_succ_cons, List.drop_zero, List.reverse_cons, List.reverse_nil, List.nil_append, List.cons_append, List.length_cons, List.length_nil, Option.toList_some, Option.toList_none, det_e, det_x, tr_imp, fa_imp, implies_true, not_true, not_false_eq_true, and_true, true_and, nar_i, upd_s, st1_0, st1_1, st1_2, st1_3, st1_4, st1_5, st1_6, st1_7, st1_8, st1_9, st1_10, st1_11, st1_12, st1_13, st1_14, st1_15, st1_16, st1_17, st1_18, st1_19, st1_20, st1_21, st1_22, st1_23, st1_24, st1_25, st1_26, st1_27, st1_28, st1_29, st1_30, st1_31, st1_32, st1_33, st1_34, st1_35, st1_36, st1_37, st1_42, st1_43, st1_44, st1_46, st1_47, st1_48, st1_49, st1_50, st1_51, st1_52, st1_53, st1_54, st1_55, st1_56, st1_57, st1_58, st1_59, st1_60, Nat.add_assoc, Nat.reduceEqDiff, reduceIte, hp.f, hp.lg, lp_out, nI_6, Nat.succ_ne_zero, ne_eq, sV]
      rw [hs2]
      exact rfl
    | succ r ih =>
      intro i s u v hi hs
      obtain ⟨a1, a2, a3, -⟩ := lp_in (i := i) (n := 6) (N := 6) (by omega) (Nat.le_refl 6) (by decide)
      rw [rX10_checksum_182]
      simp only [kX10_checksum_182, rX10_checksum_0, kX10_checksum_0, rX10_checksum_73, kX10_checksum_73, rX10_checksum_79, kX10_checksum_79, rX10_checksum_169, kX10_checksum_169, rX10_checksum_170, kX10_checksum_170, rX10_checksum_179, kX10_checksum_179, rX10_checksum_216, kX10_checksum_216, eX10_checksum, S0, S35, bk_c, if_true, if_false, wi_e, wl_e, wr_e, w1_i, w1_r, ldS_0, ldS_s, vi_e, vl_e, vr_e, dpL_u, dpL_i, dpL_r, dpL_l, stS_0, stS_1, stS_s, stL_0, stL_1, stL_s, bin_0, bin_1, bin_2, bin_3, bin_4, bin_5, bdv_0, bdv_1, lbin_0, lbin_1, lbin_2, cnd_0, cnd_1, cnd_2, cnd_3, cnd_4, cnd_5, aty_0, aty_1, aty_2, aty_3, aty_4, aty_5, c8_u, cn_0, cn_i, cn_r, cn_l, Nat.reduceAdd, Nat.reduceLeDiff, Nat.le_refl, adz, hnd_0, rcv_0, rcv_1, kLen_a, kLen_r, inB_e, inR_e, cpOK_e, swt_n, swt_c, List.take_succ_cons, List.take_zero, List.drop_succ_cons, List.drop_zero, List.reverse_cons, List.reverse_nil, List.nil_append, List.cons_append, List.length_cons, List.length_nil, Option.toList_some, Option.toList_none, det_e, det_x, tr_imp, fa_imp, implies_true, not_true, not_false_eq_true, and_true, true_and, nar_i, upd_s, st1_0, st1_1, st1_2, st1_3, st1_4, st1_5, st1_6, st1_7, st1_8, st1_9, st1_10, st1_11, st1_12, st1_13, st1_14, st1_15, st1_16, st1_17, st1_18, st1_19, st1_20, st1_21, st1_22, st1_23, st1_24, st1_25, st1_26, st1_27, st1_28, st1_29, st1_30, st1_31, st1_32, st1_33, st1_34, st1_35, st1_36, st1_37, st1_42, st1_43, st1_44, st1_46, st1_47, st1_48, st1_49, st1_50, st1_51, st1_52, st1_53, st1_54, st1_55, st1_56, st1_57, st1_58, st1_59, st1_60, Nat.add_assoc, Nat.reduceEqDiff, reduceIte, hp.f, a1, a2, a3, nI_6, nI_1, Nat.succ_ne_zero, ne_eq]
      exact ih (i + 1) _ u _ (by omega) hs
  have key3 : ∀ r i s (u : Slot), i + r = f → itr (ckF M x) r i s = itr (ckF M x) (gI M (x + 46) 11).toNatClampNeg 0 (itr (ckC M x) (gI M (x + 37) 8).toNatClampNeg 0 (gI M (x + 36) 6).toInt64) → Run (gT G) eX10_checksum 0 0 (fun _ _ => none) (fun v' M' => v' = some (.long (ckR M x)) ∧ M' = M) (fun _ _ => False) kX10_checksum 91 [.val (.ref x), .val (.long s), .unset, u, .val (.ref (x + 46)), .val (.int (nI i))] [] M 0 0 := by
    intro r
    induction r with
    | zero =>
      intro i s u hi hs
      have hi2 : i = f := hi
      subst hi2
      rw [rX10_checksum_91]
      simp only [kX10_checksum_91, rX10_checksum_0, kX10_checksum_0, rX10_checksum_73, kX10_checksum_73, rX10_checksum_79, kX10_checksum_79, rX10_checksum_169, kX10_checksum_169, rX10_checksum_170, kX10_checksum_170, rX10_checksum_179, kX10_checksum_179, rX10_checksum_216, kX10_checksum_216, eX10_checksum, S0, S35, bk_c, if_true, if_false, wi_e, wl_e, wr_e, w1_i, w1_r, ldS_0, ldS_s, vi_e, vl_e, vr_e, dpL_u, dpL_i, dpL_r, dpL_l, stS_0, stS_1, stS_s, stL_0, stL_1, stL_s, bin_0, bin_1, bin_2, bin_3, bin_4, bin_5, bdv_0, bdv_1, lbin_0, lbin_1, lbin_2, cnd_0, cnd_1, cnd_2, cnd_3, cnd_4, cnd_5, aty_0, aty_1, aty_2, aty_3, aty_4, aty_5, c8_u, cn_0, cn_i, cn_r, cn_l, Nat.reduceAdd, Nat.reduceLeDiff, Nat.le_refl, adz, hnd_0, rcv_0, rcv_1, kLen_a, kLen_r, inB_e, inR_e, cpOK_e, swt_n, swt_c, List.take_succ_cons, List.take_zero, List.drop_succ_cons, List.drop_zero, List.reverse_cons, List.reverse_nil, List.nil_append, List.cons_append, List.length_cons, List.length_nil, Option.toList_some, Option.toList_none, det_e, det_x, tr_imp, fa_imp, implies_true, not_true, not_false_eq_true, and_true, true_and, nar_i, upd_s, st1_0, st1_1, st1_2, st1_3, st1_4, st1_5, st1_6, st1_7, st1_8, st1_9, st1_10, st1_11, st1_12, st1_13, st1_14, st1_15, st1_16, st1_17, st1_18, st1_19, st1_20, st1_21, st1_22, st1_23, st1_24, st1_25, st1_26, st1_27, st1_28, st1_29, st1_30, st1_31, st1_32, st1_33, st1_34, st1_35, st1_36, st1_37, st1_42, st1_43, st1_44, st1_46, st1_47, st1_48, st1_49, st1_50, st1_51, st1_52, st1_53, st1_54, st1_55, st1_56, st1_57, st1_58, st1_59, st1_60, hp.f, e2', lp_out, Nat.succ_ne_zero, ne_eq]
      exact key4 6 0 s u _ rfl (by rw [← hs]; rfl)
    | succ r ih =>
      intro i s u hi hs
      obtain ⟨a1, a2, a3, -⟩ := lp_in (i := i) (n := f) (N := 12) (by omega) g2 (by decide)
      have hs3 : itr (ckF M x) r (i + 1) (ckF M x i s) = itr (ckF M x) (gI M (x + 46) 11).toNatClampNeg 0 (itr (ckC M x) (gI M (x + 37) 8).toNatClampNeg 0 (gI M (x + 36) 6).toInt64) := hs
      unfold ckF at hs3
      rw [rX10_checksum_91]
      simp only [kX10_checksum_91, rX10_checksum_0, kX10_checksum_0, rX10_checksum_73, kX10_checksum_73, rX10_checksum_79, kX10_checksum_79, rX10_checksum_169, kX10_checksum_169, rX10_checksum_170, kX10_checksum_170, rX10_checksum_179, kX10_checksum_179, rX10_checksum_216, kX10_checksum_216, eX10_checksum, S0, S35, bk_c, if_true, if_false, wi_e, wl_e, wr_e, w1_i, w1_r, ldS_0, ldS_s, vi_e, vl_e, vr_e, dpL_u, dpL_i, dpL_r, dpL_l, stS_0, stS_1, stS_s, stL_0, stL_1, stL_s, bin_0, bin_1, bin_2, bin_3, bin_4, bin_5, bdv_0, bdv_1, lbin_0, lbin_1, lbin_2, cnd_0, cnd_1, cnd_2, cnd_3, cnd_4, cnd_5, aty_0, aty_1, aty_2, aty_3, aty_4, aty_5, c8_u, cn_0, cn_i, cn_r, cn_l, Nat.reduceAdd, Nat.reduceLeDiff, Nat.le_refl, adz, hnd_0, rcv_0, rcv_1, kLen_a, kLen_r, inB_e, inR_e, cpOK_e, swt_n, swt_c, List.take_succ_cons, List.take_zero, List.drop_succ_cons, List.drop_zero, List.reverse_cons, List.reverse_nil, List.nil_append, List.cons_append, List.length_cons, List.length_nil, Option.toList_some, Option.toList_none, det_e, det_x, tr_imp, fa_imp, implies_true, not_true, not_false_eq_true, and_true, true_and, nar_i, upd_s, st1_0, st1_1, st1_2, st1_3, st1_4, st1_5, st1_6, st1_7, st1_8, st1_9, st1_10, st1_11, st1_12, st1_13, st1_14, st1_15, st1_16, st1_17, st1_18, st1_19, st1_20, st1_21, st1_22, st1_23, st1_24, st1_25, st1_26, st1_27, st1_28, st1_29, st1_30, st1_31, st1_32, st1_33, st1_34, st1_35, st1_36, st1_37, st1_42, st1_43, st1_44, st1_46, st1_47, st1_48, st1_49, st1_50, st1_51, st1_52, st1_53, st1_54, st1_55, st1_56, st1_57, st1_58, st1_59, st1_60, Nat.add_assoc, Nat.reduceEqDiff, reduceIte, hp.f, e2', a1, a2, a3, nI_1, Nat.succ_ne_zero, ne_eq]
      refine ⟨fun g => ?_, fun g => ?_⟩
      · rw [if_pos g] at hs3
        exact ih (i + 1) _ u (by omega) hs3
      · rw [if_neg g] at hs3
        exact ih (i + 1) _ u (by omega) hs3
  have key2 : ∀ (Q : Option Value → Mm → Prop) (X : Nat → Mm → Prop) i d r z s, i < n → gI M (x + 39) i = nI d → d ≤ 6 → z + r = d → (∀ u, Run (gT G) eX10_checksum 0 0 (fun _ _ => none) Q X kX10_checksum 20 [.val (.ref x), .val (.long (itr (ckI M x i) r z s)), .unset, .val (.ref (x + 37)), .val (.int (nI (i + 1))), u] [] M 0 0) → Run (gT G) eX10_checksum 0 0 (fun _ _ => none) Q X kX10_checksum 32 [.val (.ref x), .val (.long s), .unset, .val (.ref (x + 37)), .val (.int (nI i)), .val (.int (nI z))] [] M 0 0 := by
    intro Q X i d r
    induction r with
    | zero =>
      intro z s hi hd1 hd2 hz hk
      have hz2 : z = d := hz
      subst hz2
      obtain ⟨a1, a2, a3, -⟩ := lp_in (i := i) (n := n) (N := 16) hi g1 (by decide)
      rw [rX10_checksum_32]
      simp only [kX10_checksum_32, rX10_checksum_0, kX10_checksum_0, rX10_checksum_73, kX10_checksum_73, rX10_checksum_79, kX10_checksum_79, rX10_checksum_169, kX10_checksum_169, rX10_checksum_170, kX10_checksum_170, rX10_checksum_179, kX10_checksum_179, rX10_checksum_216, kX10_checksum_216, eX10_checksum, S0, S35, bk_c, if_true, if_false, wi_e, wl_e, wr_e, w1_i, w1_r, ldS_0, ldS_s, vi_e, vl_e, vr_e, dpL_u, dpL_i, dpL_r, dpL_l, stS_0, stS_1, stS_s, stL_0, stL_1, stL_s, bin_0, bin_1, bin_2, bin_3, bin_4, bin_5, bdv_0, bdv_1, lbin_0, lbin_1, lbin_2, cnd_0, cnd_1, cnd_2, cnd_3, cnd_4, cnd_5, aty_0, aty_1, aty_2, aty_3, aty_4, aty_5, c8_u, cn_0, cn_i, cn_r, cn_l, Nat.reduceAdd, Nat.reduceLeDiff, Nat.le_refl, adz, hnd_0, rcv_0, rcv_1, kLen_a, kLen_r, inB_e, inR_e, cpOK_e, swt_n, swt_c, List.take_succ_cons, List.take_zero, List.drop_succ_cons, List.drop_zero, List.reverse_cons, List.reverse_nil, List.nil_append, List.cons_append, List.length_cons, List.length_nil, Option.toList_some, Option.toList_none, det_e, det_x, tr_imp, fa_imp, implies_true, not_true, not_false_eq_true, and_true, true_and, nar_i, upd_s, st1_0, st1_1, st1_2, st1_3, st1_4, st1_5, st1_6, st1_7, st1_8, st1_9, st1_10, st1_11, st1_12, st1_13, st1_14, st1_15, st1_16, st1_17, st1_18, st1_19, st1_20, st1_21, st1_22, st1_23, st1_24, st1_25, st1_26, st1_27, st1_28, st1_29, st1_30, st1_31, st1_32, st1_33, st1_34, st1_35, st1_36, st1_37, st1_42, st1_43, st1_44, st1_46, st1_47, st1_48, st1_49, st1_50, st1_51, st1_52, st1_53, st1_54, st1_55, st1_56, st1_57, st1_58, st1_59, st1_60, hp.f, a2, a3, hd1, lp_out, nI_1, Nat.succ_ne_zero, ne_eq]
      exact hk _
    | succ r ih =>
      intro z s hi hd1 hd2 hz hk
      obtain ⟨a1, a2, a3, -⟩ := lp_in (i := i) (n := n) (N := 16) hi g1 (by decide)
      obtain ⟨b1, -, b3, b4⟩ := lp_in (i := z) (n := d) (N := 6) (by omega) hd2 (by decide)
      rw [rX10_checksum_32]
      simp only [kX10_checksum_32, rX10_checksum_0, kX10_checksum_0, rX10_checksum_73, kX10_checksum_73, rX10_checksum_79, kX10_checksum_79, rX10_checksum_169, kX10_checksum_169, rX10_checksum_170, kX10_checksum_170, rX10_checksum_179, kX10_checksum_179, rX10_checksum_216, kX10_checksum_216, eX10_checksum, S0, S35, bk_c, if_true, if_false, wi_e, wl_e, wr_e, w1_i, w1_r, ldS_0, ldS_s, vi_e, vl_e, vr_e, dpL_u, dpL_i, dpL_r, dpL_l, stS_0, stS_1, stS_s, stL_0, stL_1, stL_s, bin_0, bin_1, bin_2, bin_3, bin_4, bin_5, bdv_0, bdv_1, lbin_0, lbin_1, lbin_2, cnd_0, cnd_1, cnd_2, cnd_3, cnd_4, cnd_5, aty_0, aty_1, aty_2, aty_3, aty_4, aty_5, c8_u, cn_0, cn_i, cn_r, cn_l, Nat.reduceAdd, Nat.reduceLeDiff, Nat.le_refl, adz, hnd_0, rcv_0, rcv_1, kLen_a, kLen_r, inB_e, inR_e, cpOK_e, swt_n, swt_c, List.take_succ_cons, List.take_zero, List.drop_succ_cons, List.drop_zero, List.reverse_cons, List.reverse_nil, List.nil_append, List.cons_append, List.length_cons, List.length_nil, Option.toList_some, Option.toList_none, det_e, det_x, tr_imp, fa_imp, implies_true, not_true, not_false_eq_true, and_true, true_and, nar_i, upd_s, st1_0, st1_1, st1_2, st1_3, st1_4, st1_5, st1_6, st1_7, st1_8, st1_9, st1_10, st1_11, st1_12, st1_13, st1_14, st1_15, st1_16, st1_17, st1_18, st1_19, st1_20, st1_21, st1_22, st1_23, st1_24, st1_25, st1_26, st1_27, st1_28, st1_29, st1_30, st1_31, st1_32, st1_33, st1_34, st1_35, st1_36, st1_37, st1_42, st1_43, st1_44, st1_46, st1_47, st1_48, st1_49, st1_50, st1_51, st1_52, st1_53, st1_54, st1_55, st1_56, st1_57, st1_58, st1_59, st1_60, Nat.add_assoc, Nat.reduceEqDiff, reduceIte, hp.f, hp.lc, a2, a3, hd1, b1, b4, nI_1, Nat.succ_ne_zero, ne_eq, sV]
      refine ⟨?_, ih (z + 1) _ hi hd1 hd2 (by omega) hk⟩
      rw [show gI M (x + 36) 6 = nI t from e4, nI_add]
      exact slot_in (by omega) (by omega)
  have key : ∀ r i s (u : Slot), i + r = n → itr (ckC M x) r i s = itr (ckC M x) (gI M (x + 37) 8).toNatClampNeg 0 (gI M (x + 36) 6).toInt64 → Run (gT G) eX10_checksum 0 0 (fun _ _ => none) (fun v' M' => v' = some (.long (ckR M x)) ∧ M' = M) (fun _ _ => False) kX10_checksum 20 [.val (.ref x), .val (.long s), .unset, .val (.ref (x + 37)), .val (.int (nI i)), u] [] M 0 0 := by
    intro r
    induction r with
    | zero =>
      intro i s u hi hs
      have hi2 : i = n := hi
      subst hi2
      rw [rX10_checksum_20]
      simp only [kX10_checksum_20, rX10_checksum_0, kX10_checksum_0, rX10_checksum_73, kX10_checksum_73, rX10_checksum_79, kX10_checksum_79, rX10_checksum_169, kX10_checksum_169, rX10_checksum_170, kX10_checksum_170, rX10_checksum_179, kX10_checksum_179, rX10_checksum_216, kX10_checksum_216, eX10_checksum, S0, S35, bk_c, if_true, if_false, wi_e, wl_e, wr_e, w1_i, w1_r, ldS_0, ldS_s, vi_e, vl_e, vr_e, dpL_u, dpL_i, dpL_r, dpL_l, stS_0, stS_1, stS_s, stL_0, stL_1, stL_s, bin_0, bin_1, bin_2, bin_3, bin_4, bin_5, bdv_0, bdv_1, lbin_0, lbin_1, lbin_2, cnd_0, cnd_1, cnd_2, cnd_3, cnd_4, cnd_5, aty_0, aty_1, aty_2, aty_3, aty_4, aty_5, c8_u, cn_0, cn_i, cn_r, cn_l, Nat.reduceAdd, Nat.reduceLeDiff, Nat.le_refl, adz, hnd_0, rcv_0, rcv_1, kLen_a, kLen_r, inB_e, inR_e, cpOK_e, swt_n, swt_c, List.take_succ_cons, List.take_zero, List.drop_succ_cons, List.drop_zero, List.reverse_cons, List.reverse_nil, List.nil_append, List.cons_append, List.length_cons, List.length_nil, Option.toList_some, Option.toList_none, det_e, det_x, tr_imp, fa_imp, implies_true, not_true, not_false_eq_true, and_true, true_and, nar_i, upd_s, st1_0, st1_1, st1_2, st1_3, st1_4, st1_5, st1_6, st1_7, st1_8, st1_9, st1_10, st1_11, st1_12, st1_13, st1_14, st1_15, st1_16, st1_17, st1_18, st1_19, st1_20, st1_21, st1_22, st1_23, st1_24, st1_25, st1_26, st1_27, st1_28, st1_29, st1_30, st1_31, st1_32, st1_33, st1_34, st1_35, st1_36, st1_37, st1_42, st1_43, st1_44, st1_46, st1_47, st1_48, st1_49, st1_50, st1_51, st1_52, st1_53, st1_54, st1_55, st1_56, st1_57, st1_58, st1_59, st1_60, hp.f, e1', lp_out, Nat.succ_ne_zero, ne_eq]
      exact key3 f 0 s _ (Nat.zero_add f) (by rw [← hs, e2', clf]; rfl)
    | succ r ih =>
      intro i s u hi hs
      obtain ⟨a1, a2, a3, -⟩ := lp_in (i := i) (n := n) (N := 16) (by omega) g1 (by decide)
      obtain ⟨d, d1, d2, d3⟩ := hd' i (by omega)
      have cd : (nI d).toNatClampNeg = d := nI_clamp (by omega)
      rw [rX10_checksum_20]
      simp only [kX10_checksum_20, rX10_checksum_0, kX10_checksum_0, rX10_checksum_73, kX10_checksum_73, rX10_checksum_79, kX10_checksum_79, rX10_checksum_169, kX10_checksum_169, rX10_checksum_170, kX10_checksum_170, rX10_checksum_179, kX10_checksum_179, rX10_checksum_216, kX10_checksum_216, eX10_checksum, S0, S35, bk_c, if_true, if_false, wi_e, wl_e, wr_e, w1_i, w1_r, ldS_0, ldS_s, vi_e, vl_e, vr_e, dpL_u, dpL_i, dpL_r, dpL_l, stS_0, stS_1, stS_s, stL_0, stL_1, stL_s, bin_0, bin_1, bin_2, bin_3, bin_4, bin_5, bdv_0, bdv_1, lbin_0, lbin_1, lbin_2, cnd_0, cnd_1, cnd_2, cnd_3, cnd_4, cnd_5, aty_0, aty_1, aty_2, aty_3, aty_4, aty_5, c8_u, cn_0, cn_i, cn_r, cn_l, Nat.reduceAdd, Nat.reduceLeDiff, Nat.le_refl, adz, hnd_0, rcv_0, rcv_1, kLen_a, kLen_r, inB_e, inR_e, cpOK_e, swt_n, swt_c, List.take_succ_cons, List.take_zero, List.drop_succ_cons, List.drop_zero, List.reverse_cons, List.reverse_nil, List.nil_append, List.cons_append, List.length_cons, List.length_nil, Option.toList_some, Option.toList_none, det_e, det_x, tr_imp, fa_imp, implies_true, not_true, not_false_eq_true, and_true, true_and, nar_i, upd_s, st1_0, st1_1, st1_2, st1_3, st1_4, st1_5, st1_6, st1_7, st1_8, st1_9, st1_10, st1_11, st1_12, st1_13, st1_14, st1_15, st1_16, st1_17, st1_18, st1_19, st1_20, st1_21, st1_22, st1_23, st1_24, st1_25, st1_26, st1_27, st1_28, st1_29, st1_30, st1_31, st1_32, st1_33, st1_34, st1_35, st1_36, st1_37, st1_42, st1_43, st1_44, st1_46, st1_47, st1_48, st1_49, st1_50, st1_51, st1_52, st1_53, st1_54, st1_55, st1_56, st1_57, st1_58, st1_59, st1_60, hp.f, e1', a1, Nat.succ_ne_zero, ne_eq]
      refine key2 _ _ i d d 0 s (by omega) d3 d2 (Nat.zero_add d) fun u => ih (i + 1) _ u (by omega) ?_
      rw [← hs]
      show _ = itr (ckC M x) r (i + 1) (ckC M x i s)
      unfold ckC
      rw [d3, cd]
  simp only [rX10_checksum_0, kX10_checksum_0, rX10_checksum_73, kX10_checksum_73, rX10_checksum_79, kX10_checksum_79, rX10_checksum_169, kX10_checksum_169, rX10_checksum_170, kX10_checksum_170, rX10_checksum_179, kX10_checksum_179, rX10_checksum_216, kX10_checksum_216, eX10_checksum, S0, S35, bk_c, if_true, if_false, wi_e, wl_e, wr_e, w1_i, w1_r, ldS_0, ldS_s, vi_e, vl_e, vr_e, dpL_u, dpL_i, dpL_r, dpL_l, stS_0, stS_1, stS_s, stL_0, stL_1, stL_s, bin_0, bin_1, bin_2, bin_3, bin_4, bin_5, bdv_0, bdv_1, lbin_0, lbin_1, lbin_2, cnd_0, cnd_1, cnd_2, cnd_3, cnd_4, cnd_5, aty_0, aty_1, aty_2, aty_3, aty_4, aty_5, c8_u, cn_0, cn_i, cn_r, cn_l, Nat.reduceAdd, Nat.reduceLeDiff, Nat.le_refl, adz, hnd_0, rcv_0, rcv_1, kLen_a, kLen_r, inB_e, inR_e, cpOK_e, swt_n, swt_c, List.take_succ_cons, List.take_zero, List.drop_succ_cons, List.drop_zero, List.reverse_cons, List.reverse_nil, List.nil_append, List.cons_append, List.length_cons, List.length_nil, Option.toList_some, Option.toList_none, det_e, det_x, tr_imp, fa_imp, implies_true, not_true, not_false_eq_true, and_true, true_and, nar_i, upd_s, st1_0, st1_1, st1_2, st1_3, st1_4, st1_5, st1_6, st1_7, st1_8, st1_9, st1_10, st1_11, st1_12, st1_13, st1_14, st1_15, st1_16, st1_17, st1_18, st1_19, st1_20, st1_21, st1_22, st1_23, st1_24, st1_25, st1_26, st1_27, st1_28, st1_29, st1_30, st1_31, st1_32, st1_33, st1_34, st1_35, st1_36, st1_37, st1_42, st1_43, st1_44, st1_46, st1_47, st1_48, st1_49, st1_50, st1_51, st1_52, st1_53, st1_54, st1_55, st1_56, st1_57, st1_58, st1_59, st1_60, hp.f, Nat.succ_ne_zero, ne_eq]
  exact key n 0 _ _ (Nat.zero_add n) (by rw [e1', cln])
