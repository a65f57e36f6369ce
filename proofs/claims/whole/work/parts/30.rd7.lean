/-! ===== readSetup ===== -/
/-- statements up to the end or the first error -/
def rsL (r : Nat) : Nat → Int32 → Mm → Int32 × Mm
  | 0, n, N => (n, N)
  | f + 1, n, N => if gI N r 3 = 0 ∧ ¬ gI N (r + 1) 2 = -1 then rsL r f (n + 1) (skM (rsS N r) r 59) else (n, N)
def rzM (M : Mm) (r : Nat) (x : Int32) : Mm :=
  let N := fgS M (r + 3)
  let N2 := sI N r (upd (upd (upd (gI N r) 3 0) 2 (-1)) 4 0)
  nxM (sI N2 (r + 1) (upd (upd (gI N2 (r + 1)) 5 (mnI x (gI N2 (r + 1) 1))) 6 0)) (r + 1)
def rzR (M : Mm) (r : Nat) (x : Int32) : Int32 × Mm := rsL r 901 0 (rzM M r x)
def S57 (T : Nat → Nat) : Sem := fun as M => match as with
  | [.ref r, .int x] => sV (Lu M r ∧ STR T M ∧ cnt x 900 ∧ cnt (gI M (r + 1) 1) 900) (some (.int (if gI (rzR M r x).2 r 3 = 0 then (rzR M r x).1 else gI (rzR M r x).2 r 3))) (rzR M r x).2
  | _ => sF
def eX7_readSetup (T : Nat → Nat) : Nat → Sem := fun id => if id = 58 then (S58 T) else if id = 62 then S62 else if id = 67 then S67 else S71
set_option maxRecDepth 100000 in
set_option maxHeartbeats 4000000 in
theorem s_X7_readSetup {l : Launch} {G : Gt} (hfl : l.stackTraces = false) : SatM l G 57 (S57 (gT G)) := by
  refine t_X7_readSetup (E := eX7_readSetup (gT G)) hfl (s_X7_readStatement hfl) (s_X7_skipSign hfl) (s_X8_forgetSetup hfl) (s_X9_begin hfl) fun as M hp => ?_
  unfold S57 at hp ⊢
  split at hp
  case h_2 => exact hp.elim
  rename_i r x
  obtain ⟨hL, hs, hx, hf⟩ := hp
  refine ⟨Nat.le_of_ble_eq_true rfl, ?_⟩
  show Run (gT G) _ _ _ _ _ _ _ 0 [.val (.ref r), .val (.int x), .unset] [] M 0 0
  have k0 := hL.1
  have p0 := hL.2.1.1
  have p1 := hL.2.1.2
  have hT := hL.2.2.1
  have d0 := hL.2.2.2
  simp only [rX7_readSetup_0, kX7_readSetup_0, rX7_readSetup_73, kX7_readSetup_73, rX7_readSetup_84, kX7_readSetup_84, rX7_readSetup_88, kX7_readSetup_88, eX7_readSetup, S58, S62, S67, S71, bk_c, if_true, if_false, wi_e, wl_e, wr_e, w1_i, w1_r, ldS_0, ldS_s, vi_e, vl_e, vr_e, dpL_u, dpL_i, dpL_r, dpL_l, stS_0, stS_1, stS_s, stL_0, stL_1, stL_s, bin_0, bin_1, bin_2, bin_3, bin_4, bin_5, bdv_0, bdv_1, lbin_0, lbin_1, lbin_2, cnd_0, cnd_1, cnd_2, cnd_3, cnd_4, cnd_5, aty_0, aty_1, aty_2, aty_3, aty_4, aty_5, c8_u, cn_0, cn_i, cn_r, cn_l, Nat.reduceAdd, Nat.reduceLeDiff, Nat.le_refl, adz, hnd_0, rcv_0, rcv_1, kLen_a, kLen_r, inB_e, inR_e, cpOK_e, swt_n, swt_c, List.take_succ_cons, List.take_zero, List.drop_succ_cons, List.drop_zero, List.reverse_cons, List.reverse_nil, List.nil_append, List.cons_append, List.length_cons, List.length_nil, Option.toList_some, Option.toList_none, det_e, det_x, tr_imp, fa_imp, implies_true, not_true, not_false_eq_true, and_true, true_and, nar_i, upd_s, st1_0, st1_1, st1_2, st1_3, st1_4, st1_5, st1_6, st1_7, st1_8, st1_9, st1_10, st1_11, st1_12, st1_13, st1_14, st1_15, st1_16, st1_17, st1_18, st1_19, st1_20, st1_21, st1_22, st1_23, st1_24, st1_25, st1_26, st1_27, st1_28, st1_29, st1_30, st1_31, st1_32, st1_33, st1_34, st1_35, st1_36, st1_37, st1_42, st1_43, st1_44, st1_46, st1_47, st1_48, st1_49, st1_50, st1_51, st1_52, st1_53, st1_54, st1_55, st1_56, st1_57, st1_58, st1_59, st1_60, up_q, up_q0, up_q1, up_s, sI_sI, Nat.reduceEqDiff, reduceIte, Nat.succ_ne_zero, forall_const, false_imp_iff, Nat.add_assoc, gK_sI, gP_sI, gI_s, sI_sI, sV, k0, p0, p1, hT, d0, hs]
  trace_state
  sorry
