/-! ===== the five levels; the outermost is 6 ===== -/
theorem s_none {l : Launch} {G : Gt} (id : Nat) : SatM l G id (fun _ _ => sF) := fun _ _ h => h.elim
def eFac (T : Nat → Nat) (sm : Sem) : Nat → Sem := fun id => if id = 25 then S25 else if id = 47 then S47 else if id = 48 then S48 else if id = 54 then S54 else if id = 62 then S62 else if id = 73 then S73 else if id = 74 then S74 else sm
def eOp (x : Sem) : Nat → Sem := fun id => if id = 25 then S25 else if id = 74 then S74 else x
section LEV
variable {l : Launch} {G : Gt}
theorem s_fac_2 (hfl : l.stackTraces = false) : SatM l G 2051 (S51 (gT G) 0) := t_X7_readFactor_2 (E := eFac (gT G) fun _ _ => sF) hfl (s_X2_add hfl) (s_X7_addOperand hfl) (s_X7_fail hfl) (s_X7_readNumber hfl) (s_none 1059) (s_X7_skipSign hfl) (s_X9_isWord hfl) (s_X9_next hfl) (g_fac0 (d := 2) rfl rfl rfl rfl rfl)
theorem s_ter_2 (hfl : l.stackTraces = false) : SatM l G 2060 (S60 (gT G) 0) := t_X7_readTerm_2 (E := eOp (S51 (gT G) 0)) hfl (s_X2_add hfl) (s_fac_2 hfl) (s_X9_next hfl) (g_term (d := 2) rfl rfl rfl)
theorem s_sum_2 (hfl : l.stackTraces = false) : SatM l G 2059 (S59 (gT G) 0) := t_X7_readSum_2 (E := eOp (S60 (gT G) 0)) hfl (s_X2_add hfl) (s_ter_2 hfl) (s_X9_next hfl) (g_sum (d := 2) rfl rfl rfl)
theorem s_fac_3 (hfl : l.stackTraces = false) : SatM l G 3051 (S51 (gT G) 1) := t_X7_readFactor_3 (E := eFac (gT G) (S59 (gT G) 0)) hfl (s_X2_add hfl) (s_X7_addOperand hfl) (s_X7_fail hfl) (s_X7_readNumber hfl) (s_sum_2 hfl) (s_X7_skipSign hfl) (s_X9_isWord hfl) (s_X9_next hfl) (g_facS (d := 3) (by decide) rfl rfl rfl rfl rfl rfl rfl rfl)
theorem s_ter_3 (hfl : l.stackTraces = false) : SatM l G 3060 (S60 (gT G) 1) := t_X7_readTerm_3 (E := eOp (S51 (gT G) 1)) hfl (s_X2_add hfl) (s_fac_3 hfl) (s_X9_next hfl) (g_term (d := 3) rfl rfl rfl)
theorem s_sum_3 (hfl : l.stackTraces = false) : SatM l G 3059 (S59 (gT G) 1) := t_X7_readSum_3 (E := eOp (S60 (gT G) 1)) hfl (s_X2_add hfl) (s_ter_3 hfl) (s_X9_next hfl) (g_sum (d := 3) rfl rfl rfl)
theorem s_fac_4 (hfl : l.stackTraces = false) : SatM l G 4051 (S51 (gT G) 2) := t_X7_readFactor_4 (E := eFac (gT G) (S59 (gT G) 1)) hfl (s_X2_add hfl) (s_X7_addOperand hfl) (s_X7_fail hfl) (s_X7_readNumber hfl) (s_sum_3 hfl) (s_X7_skipSign hfl) (s_X9_isWord hfl) (s_X9_next hfl) (g_facS (d := 4) (by decide) rfl rfl rfl rfl rfl rfl rfl rfl)
theorem s_ter_4 (hfl : l.stackTraces = false) : SatM l G 4060 (S60 (gT G) 2) := t_X7_readTerm_4 (E := eOp (S51 (gT G) 2)) hfl (s_X2_add hfl) (s_fac_4 hfl) (s_X9_next hfl) (g_term (d := 4) rfl rfl rfl)
theorem s_sum_4 (hfl : l.stackTraces = false) : SatM l G 4059 (S59 (gT G) 2) := t_X7_readSum_4 (E := eOp (S60 (gT G) 2)) hfl (s_X2_add hfl) (s_ter_4 hfl) (s_X9_next hfl) (g_sum (d := 4) rfl rfl rfl)
theorem s_fac_5 (hfl : l.stackTraces = false) : SatM l G 5051 (S51 (gT G) 3) := t_X7_readFactor_5 (E := eFac (gT G) (S59 (gT G) 2)) hfl (s_X2_add hfl) (s_X7_addOperand hfl) (s_X7_fail hfl) (s_X7_readNumber hfl) (s_sum_4 hfl) (s_X7_skipSign hfl) (s_X9_isWord hfl) (s_X9_next hfl) (g_facS (d := 5) (by decide) rfl rfl rfl rfl rfl rfl rfl rfl)
theorem s_ter_5 (hfl : l.stackTraces = false) : SatM l G 5060 (S60 (gT G) 3) := t_X7_readTerm_5 (E := eOp (S51 (gT G) 3)) hfl (s_X2_add hfl) (s_fac_5 hfl) (s_X9_next hfl) (g_term (d := 5) rfl rfl rfl)
theorem s_sum_5 (hfl : l.stackTraces = false) : SatM l G 5059 (S59 (gT G) 3) := t_X7_readSum_5 (E := eOp (S60 (gT G) 3)) hfl (s_X2_add hfl) (s_ter_5 hfl) (s_X9_next hfl) (g_sum (d := 5) rfl rfl rfl)
theorem s_fac_6 (hfl : l.stackTraces = false) : SatM l G 6051 (S51 (gT G) 4) := t_X7_readFactor_6 (E := eFac (gT G) (S59 (gT G) 3)) hfl (s_X2_add hfl) (s_X7_addOperand hfl) (s_X7_fail hfl) (s_X7_readNumber hfl) (s_sum_5 hfl) (s_X7_skipSign hfl) (s_X9_isWord hfl) (s_X9_next hfl) (g_facS (d := 6) (by decide) rfl rfl rfl rfl rfl rfl rfl rfl)
theorem s_ter_6 (hfl : l.stackTraces = false) : SatM l G 6060 (S60 (gT G) 4) := t_X7_readTerm_6 (E := eOp (S51 (gT G) 4)) hfl (s_X2_add hfl) (s_fac_6 hfl) (s_X9_next hfl) (g_term (d := 6) rfl rfl rfl)
theorem s_sum_6 (hfl : l.stackTraces = false) : SatM l G 6059 (S59 (gT G) 4) := t_X7_readSum_6 (E := eOp (S60 (gT G) 4)) hfl (s_X2_add hfl) (s_ter_6 hfl) (s_X9_next hfl) (g_sum (d := 6) rfl rfl rfl)
end LEV
/-! == a statement, a whole text == -/
def riM (M : Mm) (r : Nat) : Mm :=
  let N := sI M r (upd (gI M r) 4 1)
  smM r (faN r 4) (nxM (sI N (r + 30) (upd (gI N (r + 30)) 2 0)) (r + 1))
def rsS (M : Mm) (r : Nat) : Mm :=
  if ¬ iwI M (r + 1) 0 = 0 then rcM M r
  else if ¬ iwI M (r + 1) 3 = 0 then rfM M r
  else if ¬ iwI M (r + 1) 5 = 0 then rtM M r
  else if ¬ iwI M (r + 1) 6 = 0 ∧ gI M (r + 28) 1 = 0 then gdM M r
  else if ¬ iwI M (r + 1) 7 = 0 ∧ gI M r 4 = 0 then riM M r
  else flM M r (-2)
theorem UI.clr {M : Mm} {r : Nat} (h : UI M r) (f : Nat → Int32) (hf : cnt (f 2) 900) : UI (sI M (r + 30) f) r := by
  refine h.kp (kpI.i _ _ _) ?_ ?_ ?_ ?_ ?_ ?_
  · unfold TJ
    rw [gI_f _ _ (by omega)]
    exact h.2.1
  · rw [gI_f _ _ (by omega)]; exact h.2.2.1
  · rw [gI_f _ _ (by omega)]; exact h.2.2.2.1
  · rw [gI_f _ _ (by omega)]; exact h.2.2.2.2.1
  · rw [gI_f _ _ (by omega)]; exact h.2.2.2.2.2.1
  · rw [gI_s]; exact hf
theorem gdd_ri {r : Nat} : gdd r (fun M => riM M r) := by
  intro M hu
  have h0 : UI (sI M r (upd (gI M r) 4 1)) r := hu.own _
  have h1 : UI (sI (sI M r (upd (gI M r) 4 1)) (r + 30) (upd (gI (sI M r (upd (gI M r) 4 1)) (r + 30)) 2 0)) r := h0.clr _ ⟨0, by decide, by rw [upd_s]; rfl⟩
  have h2 := gdd_sm (gdd_fa r 4) _ h1.nx
  exact ⟨h2.1, h2.2.t ((kp_nx _ _).t ((kpI.i _ _ _).t (kpI.i _ _ _)))⟩
theorem gdd_rs {r : Nat} : gdd r (fun M => rsS M r) := by
  intro M hu
  show UI (rsS M r) r ∧ kpI (rsS M r) M
  unfold rsS
  split
  · exact ⟨hu.rc, kp_rc _ _⟩
  · split
    · exact ⟨hu.rf, kp_rf _ _⟩
    · split
      · exact ⟨hu.rt, kp_rt _ _⟩
      · split
        · exact ⟨hu.gd, kp_gd _ _⟩
        · split
          · exact gdd_ri M hu
          · exact ⟨hu.fl _, kp_fl _ _ _⟩
def S58 (T : Nat → Nat) : Sem := fun as M => match as with
  | [.ref r] => sV (UI M r ∧ STR T M) none (rsS M r)
  | _ => sF
abbrev S6059 (T : Nat → Nat) : Sem := S59 T 4
theorem nI44 : (0 : Int32) = nI (4 - 4) := rfl
def eX7_readStatement (T : Nat → Nat) : Nat → Sem := fun id => if id = 26 then S26 else if id = 48 then S48 else if id = 50 then (S50 T) else if id = 52 then (S52 T) else if id = 53 then S53 else if id = 61 then S61 else if id = 73 then S73 else if id = 74 then S74 else (S6059 T)
set_option maxRecDepth 100000 in
set_option maxHeartbeats 4000000 in
theorem s_X7_readStatement {l : Launch} {G : Gt} (hfl : l.stackTraces = false) : SatM l G 58 (S58 (gT G)) := by
  refine t_X7_readStatement (E := eX7_readStatement (gT G)) hfl (s_X2_clear hfl) (s_X7_fail hfl) (s_X7_readCanal hfl) (s_X7_readField hfl) (s_X7_readGuard hfl) (s_X7_readTurn hfl) (s_X9_isWord hfl) (s_X9_next hfl) (s_sum_6 hfl) fun as M hp => ?_
  unfold S58 at hp ⊢
  split at hp
  case h_2 => exact hp.elim
  rename_i r
  obtain ⟨hI, hs⟩ := hp
  refine ⟨Nat.le_of_ble_eq_true rfl, ?_⟩
  show Run (gT G) _ _ _ _ _ _ _ 0 [.val (.ref r)] [] M 0 0
  have k0 := hI.1.1
  have p0 := hI.1.2.1.1
  have p1 := hI.1.2.1.2
  have hT := hI.1.2.2.1.1
  have d0 := hI.1.2.2.2.1
  have d1 := hI.1.2.2.2.2.1
  have d3 : Lg M (r + 28) := hI.1.2.2.2.2.2.2.2.2.1
  have d2 : Lm M (r + 30) := hI.1.2.2.2.2.2.2.2.2.2.1
  have d4 : Lc M (r + 4) := hI.1.2.2.2.2.2.1
  have d5 : Lf M (r + 13) := hI.1.2.2.2.2.2.2.1
  have d6 : Lr M (r + 25) := hI.1.2.2.2.2.2.2.2.1
  simp only [Nat.add_assoc, Nat.reduceAdd] at d0 d1
  have q0 := hs 0 (by decide)
  have q3 := hs 3 (by decide)
  have q5 := hs 5 (by decide)
  have q6 := hs 6 (by decide)
  have q7 := hs 7 (by decide)
  have w0 : ∀ j, j < 10 → (∃ i, i < 10 ∧ kS j = kS i) = True := fun j h => eq_true ⟨j, h, rfl⟩
  have h0 : UI (sI M r (upd (gI M r) 4 1)) r := hI.own _
  have h1 : UI (sI (sI M r (upd (gI M r) 4 1)) (r + 30) (upd (gI (sI M r (upd (gI M r) 4 1)) (r + 30)) 2 0)) r := h0.clr _ ⟨0, by decide, by rw [upd_s]; rfl⟩
  have d2a : Lm (sI M r (upd (gI M r) 4 1)) (r + 30) := d2
  have sN1 : STR (gT G) (nxM (sI (sI M r (upd (gI M r) 4 1)) (r + 30) (upd (gI (sI M r (upd (gI M r) 4 1)) (r + 30)) 2 0)) (r + 1)) := hs
  have zf : ((0 : Int32) = nI (4 - 4)) = True := eq_true rfl
  have fi : smM r (faN r 4) (nxM (sI (sI M r (upd (gI M r) 4 1)) (r + 30) (upd (gI (sI M r (upd (gI M r) 4 1)) (r + 30)) 2 0)) (r + 1)) = riM M r := rfl
  simp only [rX7_readStatement_0, kX7_readStatement_0, rX7_readStatement_26, kX7_readStatement_26, rX7_readStatement_52, kX7_readStatement_52, rX7_readStatement_78, kX7_readStatement_78, rX7_readStatement_117, kX7_readStatement_117, rX7_readStatement_166, kX7_readStatement_166, rX7_readStatement_172, kX7_readStatement_172, eX7_readStatement, S26, S48, S50, S52, S53, S61, S73, S74, S6059, bk_c, if_true, if_false, wi_e, wl_e, wr_e, w1_i, w1_r, ldS_0, ldS_s, vi_e, vl_e, vr_e, dpL_u, dpL_i, dpL_r, dpL_l, stS_0, stS_1, stS_s, stL_0, stL_1, stL_s, bin_0, bin_1, bin_2, bin_3, bin_4, bin_5, bdv_0, bdv_1, lbin_0, lbin_1, lbin_2, cnd_0, cnd_1, cnd_2, cnd_3, cnd_4, cnd_5, aty_0, aty_1, aty_2, aty_3, aty_4, aty_5, c8_u, cn_0, cn_i, cn_r, cn_l, Nat.reduceAdd, Nat.reduceLeDiff, Nat.le_refl, adz, hnd_0, rcv_0, rcv_1, kLen_a, kLen_r, inB_e, inR_e, cpOK_e, swt_n, swt_c, List.take_succ_cons, List.take_zero, List.drop_succ_cons, List.drop_zero, List.reverse_cons, List.reverse_nil, List.nil_append, List.cons_append, List.length_cons, List.length_nil, Option.toList_some, Option.toList_none, det_e, det_x, tr_imp, fa_imp, implies_true, not_true, not_false_eq_true, and_true, true_and, nar_i, upd_s, st1_0, st1_1, st1_2, st1_3, st1_4, st1_5, st1_6, st1_7, st1_8, st1_9, st1_10, st1_11, st1_12, st1_13, st1_14, st1_15, st1_16, st1_17, st1_18, st1_19, st1_20, st1_21, st1_22, st1_23, st1_24, st1_25, st1_26, st1_27, st1_28, st1_29, st1_30, st1_31, st1_32, st1_33, st1_34, st1_35, st1_36, st1_37, st1_42, st1_43, st1_44, st1_46, st1_47, st1_48, st1_49, st1_50, st1_51, st1_52, st1_53, st1_54, st1_55, st1_56, st1_57, st1_58, st1_59, st1_60, up_q, up_q0, up_q1, up_s, sI_sI, Nat.reduceEqDiff, reduceIte, Nat.succ_ne_zero, forall_const, false_imp_iff, Nat.add_assoc, gK_sI, gP_sI, sV, S6059, S59, zf, iwV, kSi_e, k0, p0, p1, hT, d0, d1, d3.1, d2.1, d4.1, d5.1, d6.1, d2a, hI, hs, h1, h1.nx, h1.1.2.2.1, h1.2.1.p, sN1, q0, q3, q5, q6, q7, w0 0 (by decide), w0 3 (by decide), w0 5 (by decide), w0 6 (by decide), w0 7 (by decide), hI.1.2.2.1, hI.2.1.w, gK_nx, nb1, fi]
  have tail : (iwI M (r + 1) 0 = 0) → (iwI M (r + 1) 3 = 0) → (iwI M (r + 1) 5 = 0) → ¬ (¬ iwI M (r + 1) 6 = 0 ∧ gI M (r + 28) 1 = 0) → (iwI M (r + 1) 7 = 0 → flM M r (-2) = rsS M r) ∧ (¬ iwI M (r + 1) 7 = 0 → (¬ gI M r 4 = 0 → flM M r (-2) = rsS M r) ∧ (¬ ¬ gI M r 4 = 0 → riM M r = rsS M r)) := by
    intro a0 a3 a5 a6
    refine ⟨fun a7 => ?_, fun a7 => ⟨fun a8 => ?_, fun a8 => ?_⟩⟩
    · unfold rsS
      rw [if_neg (fun q => q a0), if_neg (fun q => q a3), if_neg (fun q => q a5), if_neg a6, if_neg (fun q => q.1 a7)]
    · unfold rsS
      rw [if_neg (fun q => q a0), if_neg (fun q => q a3), if_neg (fun q => q a5), if_neg a6, if_neg (fun q => a8 q.2)]
    · unfold rsS
      rw [if_neg (fun q => q a0), if_neg (fun q => q a3), if_neg (fun q => q a5), if_neg a6, if_pos ⟨a7, Decidable.not_not.mp a8⟩]
  refine ⟨fun a0 => ⟨fun a3 => ⟨fun a5 => ⟨fun a6 => tail a0 a3 a5 (fun q => q.1 a6), fun a6 => ⟨fun a7 => tail a0 a3 a5 (fun q => a7 q.2), fun a7 => ?_⟩⟩, fun a5 => ?_⟩, fun a3 => ?_⟩, fun a0 => ?_⟩
  · unfold rsS
    rw [if_neg (fun q => q a0), if_neg (fun q => q a3), if_neg (fun q => q a5), if_pos ⟨a6, Decidable.not_not.mp a7⟩]
  · unfold rsS
    rw [if_neg (fun q => q a0), if_neg (fun q => q a3), if_pos a5]
  · unfold rsS
    rw [if_neg (fun q => q a0), if_pos a3]
  · unfold rsS
    rw [if_pos a0]
