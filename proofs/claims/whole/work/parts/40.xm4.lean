/-! ===== IrrigationTurns: append, load, its constructor ===== -/
theorem aw_k (M : Mm) (t : Nat) (w : Int32) : kpI (awM M t w) M := ⟨rfl, rfl, rfl⟩
theorem aw_1 (M : Mm) (t : Nat) (w : Int32) : gI (awM M t w) t 1 = nI ((gI M t 1).toNatClampNeg + 4) := by
  unfold awM
  dsimp only
  rw [gI_s, upd_s]
theorem aw_n {M : Mm} {t f : Nat} (w : Int32) (h : gI M t 1 = nI f) (hf : f + 4 ≤ 900) : gI (awM M t w) t 1 = nI (f + 4) := by
  rw [aw_1, h, nI_clamp (by omega)]
def apL (M : Mm) (t : Nat) : List Int32 → Mm
  | [] => M
  | w :: ws => apL (awM M t w) t ws
def apM (M : Mm) (x : Nat) (ws : List Int32) : Mm := if gI M (x + 2) 1 + 20 ≤ 900 then apL M (x + 2) ws else M
def S75 : Sem := fun as M => match as with
  | [.ref x, .int a, .int b, .int c, .int d, .int e] => sV (XP M x) (some (.int (if gI M (x + 2) 1 + 20 ≤ 900 then gI (apM M x [a, b, c, d, e]) (x + 2) 1 else -1))) (apM M x [a, b, c, d, e])
  | _ => sF
theorem aw_p {M : Mm} {t f : Nat} (hL : Lt M t) (h : gI M t 1 = nI f) (hf : f + 4 ≤ 900) : (Lt M t ∧ ∃ f, f ≤ 896 ∧ gI M t 1 = nI f) = True := eq_true ⟨hL, f, by omega, h⟩
set_option maxRecDepth 100000 in
set_option maxHeartbeats 4000000 in
theorem s_X10_append {l : Launch} {G : Gt} (hfl : l.stackTraces = false) : SatM l G 75 S75 := by
  refine t_X10_append (E := fun _ => S70) hfl (s_X9_addWord hfl) fun as M hp => ?_
  unfold S75 at hp ⊢
  split at hp
  case h_2 => exact hp.elim
  rename_i x a b c d e
  obtain hp := hp
  refine ⟨Nat.le_of_ble_eq_true rfl, ?_⟩
  show Run (gT G) _ _ _ _ _ _ _ 0 [.val (.ref x), .val (.int a), .val (.int b), .val (.int c), .val (.int d), .val (.int e), .unset] [] M 0 0
  obtain ⟨f, hf, ef⟩ := hp.2.2.1
  have hT : Lt M (x + 2) := hp.1.2.2.1.2.2.1
  have cK : ∀ N w, gK (awM N (x + 2) w) = gK N := fun _ _ => rfl
  simp only [rX10_append_0, kX10_append_0, rX10_append_25, kX10_append_25, bk_c, if_true, if_false, wi_e, wl_e, wr_e, w1_i, w1_r, ldS_0, ldS_s, vi_e, vl_e, vr_e, dpL_u, dpL_i, dpL_r, dpL_l, stS_0, stS_1, stS_s, stL_0, stL_1, stL_s, bin_0, bin_1, bin_2, bin_3, bin_4, bin_5, bdv_0, bdv_1, lbin_0, lbin_1, lbin_2, cnd_0, cnd_1, cnd_2, cnd_3, cnd_4, cnd_5, aty_0, aty_1, aty_2, aty_3, aty_4, aty_5, c8_u, cn_0, cn_i, cn_r, cn_l, Nat.reduceAdd, Nat.reduceLeDiff, Nat.le_refl, adz, hnd_0, rcv_0, rcv_1, kLen_a, kLen_r, inB_e, inR_e, cpOK_e, swt_n, swt_c, List.take_succ_cons, List.take_zero, List.drop_succ_cons, List.drop_zero, List.reverse_cons, List.reverse_nil, List.nil_append, List.cons_append, List.length_cons, List.length_nil, Option.toList_some, Option.toList_none, det_e, det_x, tr_imp, fa_imp, implies_true, not_true, not_false_eq_true, and_true, true_and, nar_i, upd_s, st1_0, st1_1, st1_2, st1_3, st1_4, st1_5, st1_6, st1_7, st1_8, st1_9, st1_10, st1_11, st1_12, st1_13, st1_14, st1_15, st1_16, st1_17, st1_18, st1_19, st1_20, st1_21, st1_22, st1_23, st1_24, st1_25, st1_26, st1_27, st1_28, st1_29, st1_30, st1_31, st1_32, st1_33, st1_34, st1_35, st1_36, st1_37, st1_42, st1_43, st1_44, st1_46, st1_47, st1_48, st1_49, st1_50, st1_51, st1_52, st1_53, st1_54, st1_55, st1_56, st1_57, st1_58, st1_59, st1_60, hp.f, Nat.succ_ne_zero, ne_eq]
  refine ⟨fun h => ?_, fun h => ?_⟩
  · have h2 : f + 20 ≤ 900 := (nI_leI (by omega) (by decide)).mp (by rw [ef, show (20 : Int32) = nI 20 from rfl, nI_add] at h; exact h)
    have e1 := aw_n (t := x + 2) a ef (by omega)
    have e2 := aw_n (t := x + 2) b e1 (by omega)
    have e3 := aw_n (t := x + 2) c e2 (by omega)
    have e4 := aw_n (t := x + 2) d e3 (by omega)
    have L1 : Lt (awM M (x + 2) a) (x + 2) := hT
    have L2 : Lt (awM (awM M (x + 2) a) (x + 2) b) (x + 2) := hT
    have L3 : Lt (awM (awM (awM M (x + 2) a) (x + 2) b) (x + 2) c) (x + 2) := hT
    have L4 : Lt (awM (awM (awM (awM M (x + 2) a) (x + 2) b) (x + 2) c) (x + 2) d) (x + 2) := hT
    simp only [cK, hp.f, S70, sV, Nat.reduceEqDiff, reduceIte, aw_p hT ef (by omega), aw_p L1 e1 (by omega), aw_p L2 e2 (by omega), aw_p L3 e3 (by omega), aw_p L4 e4 (by omega), bk_c, if_true, if_false, wi_e, wl_e, wr_e, w1_i, w1_r, ldS_0, ldS_s, vi_e, vl_e, vr_e, dpL_u, dpL_i, dpL_r, dpL_l, stS_0, stS_1, stS_s, stL_0, stL_1, stL_s, bin_0, bin_1, bin_2, bin_3, bin_4, bin_5, bdv_0, bdv_1, lbin_0, lbin_1, lbin_2, cnd_0, cnd_1, cnd_2, cnd_3, cnd_4, cnd_5, aty_0, aty_1, aty_2, aty_3, aty_4, aty_5, c8_u, cn_0, cn_i, cn_r, cn_l, Nat.reduceAdd, Nat.reduceLeDiff, Nat.le_refl, adz, hnd_0, rcv_0, rcv_1, kLen_a, kLen_r, inB_e, inR_e, cpOK_e, swt_n, swt_c, List.take_succ_cons, List.take_zero, List.drop_succ_cons, List.drop_zero, List.reverse_cons, List.reverse_nil, List.nil_append, List.cons_append, List.length_cons, List.length_nil, Option.toList_some, Option.toList_none, det_e, det_x, tr_imp, fa_imp, implies_true, not_true, not_false_eq_true, and_true, true_and, nar_i, upd_s, st1_0, st1_1, st1_2, st1_3, st1_4, st1_5, st1_6, st1_7, st1_8, st1_9, st1_10, st1_11, st1_12, st1_13, st1_14, st1_15, st1_16, st1_17, st1_18, st1_19, st1_20, st1_21, st1_22, st1_23, st1_24, st1_25, st1_26, st1_27, st1_28, st1_29, st1_30, st1_31, st1_32, st1_33, st1_34, st1_35, st1_36, st1_37, st1_42, st1_43, st1_44, st1_46, st1_47, st1_48, st1_49, st1_50, st1_51, st1_52, st1_53, st1_54, st1_55, st1_56, st1_57, st1_58, st1_59, st1_60]
    unfold apM
    rw [if_pos h, if_pos h]
    exact ⟨rfl, rfl⟩
  · unfold apM
    rw [if_neg h, if_neg h]
    exact ⟨rfl, rfl⟩
/-! == load == -/
def ldV (M : Mm) (x : Nat) (n : Int32) : Int32 := rsV (x + 1) (rzR M (x + 1) n)
def ld1 (M : Mm) (x : Nat) (n : Int32) : Mm := sI (rzR M (x + 1) n).2 (x + 2) (upd (gI (rzR M (x + 1) n).2 (x + 2)) 1 0)
def ld2 (M : Mm) (x : Nat) (n : Int32) : Mm := sI (ld1 M x n) x (upd (gI (ld1 M x n) x) 4 (gI (ld1 M x n) (x + 1) 2))
def ldM (M : Mm) (x : Nat) (n : Int32) : Mm := if ldV M x n < 0 then ld2 M x n else cpS (svM (ld2 M x n) (x + 100) (x + 36)) (x + 36) (x + 4)
def S95 (T : Nat → Nat) : Sem := fun as M => match as with
  | [.ref x, .int n] => sTh (XP M x ∧ STR T M) (bR n 0 (gI M (x + 2) 1)) (some (.int (ldV M x n))) (ldM M x n) M
  | _ => sF
theorem ld_ui {M : Mm} {x : Nat} {n : Int32} (g : XP M x) (hn : cnt n 900) : UI (rzR M (x + 1) n).2 (x + 1) ∧ kpI (rzR M (x + 1) n).2 M := by
  have h1 := rz_ok (x := n) g.1.2.2.1 hn g.2.2.1
  have h2 := rsL_ok 901 0 _ h1.1
  exact ⟨h2.1, h2.2.t h1.2⟩
/-- a change in the reader alone -/
theorem XP.rd {M N : Mm} {x : Nat} (hk : kpI N M) (hI : ∀ q, x + 36 ≤ q → gI N q = gI M q) (hc : cnt (gI N (x + 2) 1) 900) (g : XP M x) : XP N x := by
  obtain ⟨g1, g2, g3, g4, g5⟩ := g
  refine ⟨g1.kp hk.1 hk.2.1 hk.2.2, g2.q hk.1 hk.2.1 (fun k hk => hI _ (by omega)), hc, by rw [hI _ (by omega)]; exact g4, fun i hi => ?_⟩
  rw [hI _ (by omega), hI _ (by omega)]
  exact g5 i hi
theorem ld2_k {M : Mm} {x : Nat} {n : Int32} (g : XP M x) (hn : cnt n 900) : XP (ld2 M x n) x ∧ kpI (ld2 M x n) M ∧ (∀ q, x + 36 ≤ q → gI (ld2 M x n) q = gI M q) ∧ ∀ q, q ≠ x → q ≠ x + 2 → gI (ld2 M x n) q = gI (rzR M (x + 1) n).2 q := by
  have h := ld_ui g hn
  have hf := fq_rR M (x + 1) n
  have e : ∀ q, q ≠ x → q ≠ x + 2 → gI (ld2 M x n) q = gI (rzR M (x + 1) n).2 q := fun q h1 h2 => by
    unfold ld2
    rw [gI_f _ _ h1]
    unfold ld1
    rw [gI_f _ _ h2]
  have e2 : ∀ q, x + 36 ≤ q → gI (ld2 M x n) q = gI M q := fun q hq => by
    rw [e q (by omega) (by omega)]
    exact hf.2.2 q (by unfold wRd; omega) (by omega)
  have hk : kpI (ld2 M x n) M := (kpI.i _ _ _).t ((kpI.i _ _ _).t h.2)
  refine ⟨g.rd hk e2 ?_, hk, e2, e⟩
  unfold ld2
  rw [gI_f _ _ (by omega)]
  unfold ld1
  rw [gI_s, upd_s]
  exact ⟨0, by decide, rfl⟩
theorem ld_c {M : Mm} {x : Nat} {n : Int32} (g : XP M x) (hn : cnt n 900) : Ls (svM (ld2 M x n) (x + 100) (x + 36)) (x + 36) ∧ Ls (svM (ld2 M x n) (x + 100) (x + 36)) (x + 4) ∧ cnt (gI (svM (ld2 M x n) (x + 100) (x + 36)) (x + 14) 11) 12 ∧ cnt (gI (svM (ld2 M x n) (x + 100) (x + 36)) (x + 31) 2) 900 ∧ apt (x + 36) 32 (x + 4) 32 := by
  have h := ld2_k g hn
  have hu := (ld_ui g hn).1
  have hs := h.1.sv
  have f1 : gI (svM (ld2 M x n) (x + 100) (x + 36)) (x + 14) = gI (rzR M (x + 1) n).2 (x + 14) := (hs.2.2.2.2 _ (by omega)).1.trans (h.2.2.2 _ (by omega) (by omega))
  have f2 : gI (svM (ld2 M x n) (x + 100) (x + 36)) (x + 31) = gI (rzR M (x + 1) n).2 (x + 31) := (hs.2.2.2.2 _ (by omega)).1.trans (h.2.2.2 _ (by omega) (by omega))
  rw [f1, f2]
  exact ⟨hs.1.1.2.2.2.1, hs.1.1.2.2.1.2.2.2, hu.2.2.2.1, hu.2.2.2.2.2.2, by unfold apt; omega⟩
def eX10_load (T : Nat → Nat) : Nat → Sem := fun id => if id = 39 then S39 else if id = 57 then (S57 T) else if id = 64 then S64 else S98
set_option maxRecDepth 100000 in
set_option maxHeartbeats 4000000 in
theorem s_X10_load {l : Launch} {G : Gt} (hfl : l.stackTraces = false) : SatM l G 95 (S95 (gT G)) := by
  refine t_X10_load (E := eX10_load (gT G)) hfl (s_X4_save hfl) (s_X7_readSetup hfl) (s_X8_copyFrom hfl) (s_X10_requireRange hfl) fun as M hp => ?_
  unfold S95 at hp ⊢
  split at hp
  case h_2 => exact hp.elim
  rename_i x n
  obtain ⟨hp, hstr⟩ := hp
  refine ⟨Nat.le_of_ble_eq_true rfl, ?_⟩
  show Run (gT G) _ _ _ _ _ _ _ 0 [.val (.ref x), .val (.int n), .unset] [] M 0 0
  have hU := hp.1.2.2.1
  simp only [rX10_load_0, kX10_load_0, rX10_load_75, kX10_load_75, eX10_load, S39, S57, S64, S98, bk_c, if_true, if_false, wi_e, wl_e, wr_e, w1_i, w1_r, ldS_0, ldS_s, vi_e, vl_e, vr_e, dpL_u, dpL_i, dpL_r, dpL_l, stS_0, stS_1, stS_s, stL_0, stL_1, stL_s, bin_0, bin_1, bin_2, bin_3, bin_4, bin_5, bdv_0, bdv_1, lbin_0, lbin_1, lbin_2, cnd_0, cnd_1, cnd_2, cnd_3, cnd_4, cnd_5, aty_0, aty_1, aty_2, aty_3, aty_4, aty_5, c8_u, cn_0, cn_i, cn_r, cn_l, Nat.reduceAdd, Nat.reduceLeDiff, Nat.le_refl, adz, hnd_0, rcv_0, rcv_1, kLen_a, kLen_r, inB_e, inR_e, cpOK_e, swt_n, swt_c, List.take_succ_cons, List.take_zero, List.drop_succ_cons, List.drop_zero, List.reverse_cons, List.reverse_nil, List.nil_append, List.cons_append, List.length_cons, List.length_nil, Option.toList_some, Option.toList_none, det_e, det_x, tr_imp, fa_imp, implies_true, not_true, not_false_eq_true, and_true, true_and, nar_i, upd_s, st1_0, st1_1, st1_2, st1_3, st1_4, st1_5, st1_6, st1_7, st1_8, st1_9, st1_10, st1_11, st1_12, st1_13, st1_14, st1_15, st1_16, st1_17, st1_18, st1_19, st1_20, st1_21, st1_22, st1_23, st1_24, st1_25, st1_26, st1_27, st1_28, st1_29, st1_30, st1_31, st1_32, st1_33, st1_34, st1_35, st1_36, st1_37, st1_42, st1_43, st1_44, st1_46, st1_47, st1_48, st1_49, st1_50, st1_51, st1_52, st1_53, st1_54, st1_55, st1_56, st1_57, st1_58, st1_59, st1_60, Nat.add_assoc, Nat.reduceEqDiff, reduceIte, det_s, hp.f, hU, hstr, Nat.succ_ne_zero, ne_eq, sV, hp.2.2.1]
  refine ⟨fun h1 => ?_, fun e M' he => he⟩
  obtain ⟨F, hF, eF⟩ := hp.2.2.1
  have hn : cnt n 900 := by
    rw [eF] at h1
    exact (bR_c h1).m hF
  have hu := ld_ui hp hn
  have h2 := ld2_k hp hn
  have h3 := ld_c hp hn
  have h4 := h2.1.ss
  have uK : gK (rzR M (x + 1) n).2 = gK M := hu.2.1
  have uP : gP (rzR M (x + 1) n).2 = gP M := hu.2.2.1
  have f1 : sI (rzR M (x + 1) n).2 (x + 2) (upd (gI (rzR M (x + 1) n).2 (x + 2)) 1 0) = ld1 M x n := rfl
  have f2 : sI (ld1 M x n) x (upd (gI (ld1 M x n) x) 4 (gI (ld1 M x n) (x + 1) 2)) = ld2 M x n := rfl
  have k1 : gK (ld1 M x n) = gK M := hu.2.1
  have p1 : gP (ld1 M x n) = gP M := hu.2.2.1
  simp only [bk_c, if_true, if_false, wi_e, wl_e, wr_e, w1_i, w1_r, ldS_0, ldS_s, vi_e, vl_e, vr_e, dpL_u, dpL_i, dpL_r, dpL_l, stS_0, stS_1, stS_s, stL_0, stL_1, stL_s, bin_0, bin_1, bin_2, bin_3, bin_4, bin_5, bdv_0, bdv_1, lbin_0, lbin_1, lbin_2, cnd_0, cnd_1, cnd_2, cnd_3, cnd_4, cnd_5, aty_0, aty_1, aty_2, aty_3, aty_4, aty_5, c8_u, cn_0, cn_i, cn_r, cn_l, Nat.reduceAdd, Nat.reduceLeDiff, Nat.le_refl, adz, hnd_0, rcv_0, rcv_1, kLen_a, kLen_r, inB_e, inR_e, cpOK_e, swt_n, swt_c, List.take_succ_cons, List.take_zero, List.drop_succ_cons, List.drop_zero, List.reverse_cons, List.reverse_nil, List.nil_append, List.cons_append, List.length_cons, List.length_nil, Option.toList_some, Option.toList_none, det_e, det_x, tr_imp, fa_imp, implies_true, not_true, not_false_eq_true, and_true, true_and, nar_i, upd_s, st1_0, st1_1, st1_2, st1_3, st1_4, st1_5, st1_6, st1_7, st1_8, st1_9, st1_10, st1_11, st1_12, st1_13, st1_14, st1_15, st1_16, st1_17, st1_18, st1_19, st1_20, st1_21, st1_22, st1_23, st1_24, st1_25, st1_26, st1_27, st1_28, st1_29, st1_30, st1_31, st1_32, st1_33, st1_34, st1_35, st1_36, st1_37, st1_42, st1_43, st1_44, st1_46, st1_47, st1_48, st1_49, st1_50, st1_51, st1_52, st1_53, st1_54, st1_55, st1_56, st1_57, st1_58, st1_59, st1_60, hn, uK, uP, f1, f2, k1, p1, h2.2.1.1, h2.2.1.2.1, hp.f, h4, h3, (h2.1.sv).2.1, (h2.1.sv).2.2.1, Nat.succ_ne_zero, ne_eq, sV, h1]
  have fv : rsV (x + 1) (rzR M (x + 1) n) = ldV M x n := rfl
  rw [fv]
  refine ⟨fun g => ?_, fun g => ?_⟩
  · unfold ldM
    rw [if_pos g]
    exact ⟨rfl, rfl⟩
  · unfold ldM
    rw [if_neg g]
    exact ⟨rfl, rfl⟩
/-! == the constructor == -/
/-- an IrrigationTurns made at x -/
def NX (M N : Mm) (x : Nat) : Prop := gZ N = x + 358 ∧ (∀ q, q < x → gK N q = gK M q ∧ gI N q = gI M q ∧ gJ N q = gJ M q ∧ gP N q = gP M q) ∧ Lx N x ∧ gI N x = upd z32 4 (-1) ∧ gI N (x + 1) = z32 ∧ gI N (x + 2) = z32 ∧ gI N (x + 3) = z32 ∧ DF N (x + 4) ∧ DF N (x + 36) ∧ DF N (x + 68) ∧ gI N (x + 100) = z32 ∧ ∀ j, j < 8 → DF N (x + 100 + 2 + 32 * j)
theorem Lu.ag {A B : Mm} {b z c : Nat} (h : AG A B b z) (hb : b < c) (hc : c + 35 ≤ z) (g : Lu A c) : Lu B c := by
  obtain ⟨k0, p, hT, hS⟩ := g
  refine ⟨(h c (by omega)).1.trans k0, ?_, hT.ag h (by omega) (by omega), hS.ag h (by omega) (by omega)⟩
  rw [(h c (by omega)).2.2.2 (by omega)]
  exact p
theorem nx_fin {M N1 N2 N3 N4 : Mm} {x : Nat} (hF : FO M x 10) (o1 : OK2 M N1 x (x + 1) 35 0) (o2 : OK2 N1 N2 x (x + 36) 32 1) (o3 : OK2 N2 N3 x (x + 68) 32 2) (o4 : OK2 N3 N4 x (x + 100) 258 3)
    (r1 : Lu N1 (x + 1) ∧ gI N1 (x + 1) = z32 ∧ gI N1 (x + 2) = z32 ∧ gI N1 (x + 3) = z32 ∧ DF N1 (x + 4)) (r2 : Ls N2 (x + 36) ∧ DF N2 (x + 36)) (r3 : Ls N3 (x + 68) ∧ DF N3 (x + 68))
    (r4 : Lh N4 (x + 100) ∧ gI N4 (x + 100) = z32 ∧ ∀ j, j < 8 → DF N4 (x + 100 + 2 + 32 * j)) : NX M (sI N4 x (upd (gI N4 x) 4 (-1))) x := by
  have g3 : AG N3 N4 x (x + 100) := o4.2.1
  have g2 : AG N2 N4 x (x + 68) := o3.2.1.t g3 (by omega)
  have g1 : AG N1 N4 x (x + 36) := o2.2.1.t g2 (by omega)
  have g0 : AG M N4 x (x + 1) := o1.2.1.t g1 (by omega)
  have eP : gP N4 x = va_up (va_up (va_up (va_up (gP M x) 0 (x + 1)) 1 (x + 36)) 2 (x + 68)) 3 (x + 100) := by rw [o4.2.2, o3.2.2, o2.2.2, o1.2.2]
  have hI : ∀ q, q ≠ x → gI (sI N4 x (upd (gI N4 x) 4 (-1))) q = gI N4 q := fun q hq => gI_f _ _ hq
  have d0 : ∀ c, x < c → DF N4 c → DF (sI N4 x (upd (gI N4 x) 4 (-1))) c := fun c hc d => ⟨d.1, fun k a b e => (hI _ (by omega)).trans (d.2.1 k a b e), (hI _ (by omega)).trans d.2.2.1, (hI _ (by omega)).trans d.2.2.2⟩
  refine ⟨o4.1, fun q hq => ⟨(g0 q (by omega)).1, (hI q (by omega)).trans (g0 q (by omega)).2.1, (g0 q (by omega)).2.2.1, (g0 q (by omega)).2.2.2 (by omega)⟩, ?_, ?_, ?_, ?_, ?_, d0 _ (by omega) (DF.ag g1 (by omega) r1.2.2.2.2), d0 _ (by omega) (DF.ag g2 (by omega) r2.2), d0 _ (by omega) (DF.ag g3 (by omega) r3.2), ?_, fun j hj => d0 _ (by omega) (r4.2.2 j hj)⟩
  · refine Lx.kp (M := N4) rfl rfl rfl ⟨(g0 x (by omega)).1.trans hF.2.1, ?_, r1.1.ag g1 (by omega) (by omega), r2.1.ag g2 (by omega) (by omega), r3.1.ag g3 (by omega) (by omega), r4.1⟩
    rw [eP]
    exact ⟨rfl, rfl, rfl, rfl⟩
  · rw [gI_s, (g0 x (by omega)).2.1, hF.2.2.1]
  · rw [hI _ (by omega), (g1 (x + 1) (by omega)).2.1]; exact r1.2.1
  · rw [hI _ (by omega), (g1 (x + 2) (by omega)).2.1]; exact r1.2.2.1
  · rw [hI _ (by omega), (g1 (x + 3) (by omega)).2.1]; exact r1.2.2.2.1
  · rw [hI _ (by omega)]; exact r4.2.1
def S92 : Sem := fun as M => match as with
  | [.ref x] => (FO M x 10, fun v N => v = none ∧ NX M N x, fun _ _ => False)
  | _ => sF
def eX10_init : Nat → Sem := fun id => if id = 37 then S37 else if id = 49 then S49 else S68
set_option maxRecDepth 100000 in
set_option maxHeartbeats 4000000 in
theorem s_X10_init {l : Launch} {G : Gt} (hfl : l.stackTraces = false) : SatM l G 92 S92 := by
  refine t_X10_init (E := eX10_init) hfl (s_X4_init hfl) (s_X7_init hfl) (s_X8_init hfl) fun as M hp => ?_
  unfold S92 at hp ⊢
  split at hp
  case h_2 => exact hp.elim
  rename_i b
  obtain ⟨hz, k0, i0, j0⟩ := hp
  refine ⟨Nat.le_of_ble_eq_true rfl, ?_⟩
  show Run (gT G) _ _ _ _ _ _ _ 0 [.val (.ref b)] [] M 0 0
  simp only [rX10_init_0, kX10_init_0, eX10_init, S37, S49, S68, bk_c, if_true, if_false, wi_e, wl_e, wr_e, w1_i, w1_r, ldS_0, ldS_s, vi_e, vl_e, vr_e, dpL_u, dpL_i, dpL_r, dpL_l, stS_0, stS_1, stS_s, stL_0, stL_1, stL_s, bin_0, bin_1, bin_2, bin_3, bin_4, bin_5, bdv_0, bdv_1, lbin_0, lbin_1, lbin_2, cnd_0, cnd_1, cnd_2, cnd_3, cnd_4, cnd_5, aty_0, aty_1, aty_2, aty_3, aty_4, aty_5, c8_u, cn_0, cn_i, cn_r, cn_l, Nat.reduceAdd, Nat.reduceLeDiff, Nat.le_refl, adz, hnd_0, rcv_0, rcv_1, kLen_a, kLen_r, inB_e, inR_e, cpOK_e, swt_n, swt_c, List.take_succ_cons, List.take_zero, List.drop_succ_cons, List.drop_zero, List.reverse_cons, List.reverse_nil, List.nil_append, List.cons_append, List.length_cons, List.length_nil, Option.toList_some, Option.toList_none, det_e, det_x, tr_imp, fa_imp, implies_true, not_true, not_false_eq_true, and_true, true_and, nar_i, upd_s, st1_0, st1_1, st1_2, st1_3, st1_4, st1_5, st1_6, st1_7, st1_8, st1_9, st1_10, st1_11, st1_12, st1_13, st1_14, st1_15, st1_16, st1_17, st1_18, st1_19, st1_20, st1_21, st1_22, st1_23, st1_24, st1_25, st1_26, st1_27, st1_28, st1_29, st1_30, st1_31, st1_32, st1_33, st1_34, st1_35, st1_36, st1_37, st1_42, st1_43, st1_44, st1_46, st1_47, st1_48, st1_49, st1_50, st1_51, st1_52, st1_53, st1_54, st1_55, st1_56, st1_57, st1_58, st1_59, st1_60, Nat.reduceEqDiff, reduceIte, det_r]
  have hz1 : gZ M = b + 1 := hz
  rw [hz1]
  refine ⟨FO.n M 7 hz1, fun A1 h1 => ?_⟩
  obtain ⟨a1, a2, a3, a4, a5, a6, a7⟩ := h1
  have o1 := ok2 (i := 0) hz1 (Nat.lt_add_of_pos_right (by decide)) a1 a2
  have r1 : Lu (sP A1 b (upN (gP A1 b) 0 (b + 1))) (b + 1) := a3.ag (ag_sP A1 b (b + 36) _) (Nat.lt_add_of_pos_right (by decide)) (Nat.le_refl _)
  have d1 : DF (sP A1 b (upN (gP A1 b) 0 (b + 1))) (b + 4) := DF.ag (ag_sP A1 b (b + 36) _) (Nat.le_refl _) a7
  have w1 : gI (sP A1 b (upN (gP A1 b) 0 (b + 1))) (b + 1) = z32 := a4
  have w2 : gI (sP A1 b (upN (gP A1 b) 0 (b + 1))) (b + 2) = z32 := a5
  have w3 : gI (sP A1 b (upN (gP A1 b) 0 (b + 1))) (b + 3) = z32 := a6
  refine ⟨((o1.2.1 b (Nat.lt_add_of_pos_right (by decide))).1).trans k0, Nat.succ_ne_zero _, ?_⟩
  generalize hN1 : sP A1 b (upN (gP A1 b) 0 (b + 1)) = N1 at o1 r1 d1 w1 w2 w3 ⊢
  have z1 : gZ N1 = b + 36 := o1.1
  have kb1 : gK N1 b = kO 10 := ((o1.2.1 b (Nat.lt_add_of_pos_right (by decide))).1).trans k0
  rw [z1]
  refine ⟨FO.n N1 8 z1, fun A2 h2 => ?_⟩
  obtain ⟨b1, b2, b3, b4⟩ := h2
  have o2 := ok2 (i := 1) z1 (Nat.lt_add_of_pos_right (by decide)) b1 b2
  have r2 : Ls (sP A2 b (upN (gP A2 b) 1 (b + 36))) (b + 36) ∧ DF (sP A2 b (upN (gP A2 b) 1 (b + 36))) (b + 36) := ⟨b3.ag (ag_sP A2 b (b + 68) _) (Nat.lt_add_of_pos_right (by decide)) (Nat.le_refl _), DF.ag (ag_sP A2 b (b + 68) _) (Nat.le_refl _) b4⟩
  refine ⟨((o2.2.1 b (Nat.lt_add_of_pos_right (by decide))).1).trans kb1, Nat.succ_ne_zero _, ?_⟩
  generalize hN2 : sP A2 b (upN (gP A2 b) 1 (b + 36)) = N2 at o2 r2 ⊢
  have z2 : gZ N2 = b + 68 := o2.1
  have kb2 : gK N2 b = kO 10 := ((o2.2.1 b (Nat.lt_add_of_pos_right (by decide))).1).trans kb1
  rw [z2]
  refine ⟨FO.n N2 8 z2, fun A3 h3 => ?_⟩
  obtain ⟨c1, c2, c3, c4⟩ := h3
  have o3 := ok2 (i := 2) z2 (Nat.lt_add_of_pos_right (by decide)) c1 c2
  have r3 : Ls (sP A3 b (upN (gP A3 b) 2 (b + 68))) (b + 68) ∧ DF (sP A3 b (upN (gP A3 b) 2 (b + 68))) (b + 68) := ⟨c3.ag (ag_sP A3 b (b + 100) _) (Nat.lt_add_of_pos_right (by decide)) (Nat.le_refl _), DF.ag (ag_sP A3 b (b + 100) _) (Nat.le_refl _) c4⟩
  refine ⟨((o3.2.1 b (Nat.lt_add_of_pos_right (by decide))).1).trans kb2, Nat.succ_ne_zero _, ?_⟩
  generalize hN3 : sP A3 b (upN (gP A3 b) 2 (b + 68)) = N3 at o3 r3 ⊢
  have z3 : gZ N3 = b + 100 := o3.1
  have kb3 : gK N3 b = kO 10 := ((o3.2.1 b (Nat.lt_add_of_pos_right (by decide))).1).trans kb2
  rw [z3]
  refine ⟨FO.n N3 4 z3, fun A4 h4 => ?_⟩
  obtain ⟨e1, e2, e3, e4, e5, e6, e7, e8⟩ := h4
  have o4 := ok2 (m := 258) (i := 3) z3 (Nat.lt_add_of_pos_right (by decide)) (by rw [e1]) e2
  have ag4 := ag_sP A4 b (b + 358) (upN (gP A4 b) 3 (b + 100))
  have r4 : Lh (sP A4 b (upN (gP A4 b) 3 (b + 100))) (b + 100) ∧ gI (sP A4 b (upN (gP A4 b) 3 (b + 100))) (b + 100) = z32 ∧ ∀ j, j < 8 → DF (sP A4 b (upN (gP A4 b) 3 (b + 100))) (b + 100 + 2 + 32 * j) := by
    have p0 : gP (sP A4 b (upN (gP A4 b) 3 (b + 100))) (b + 100) = gP A4 (b + 100) := (ag4 (b + 100) (by omega)).2.2.2 (by omega)
    have p1 : gP (sP A4 b (upN (gP A4 b) 3 (b + 100))) (b + 100 + 1) = gP A4 (b + 100 + 1) := (ag4 (b + 100 + 1) (by omega)).2.2.2 (by omega)
    refine ⟨⟨e3, by rw [p0]; exact e4, e5, fun i hi => ?_⟩, e6, fun j hj => DF.ag ag4 (by omega) (e8 j hj).2.2⟩
    rw [p1]
    exact ⟨(e8 i hi).1, (e8 i hi).2.1.ag ag4 (by omega) (by omega)⟩
  refine ⟨((o4.2.1 b (Nat.lt_add_of_pos_right (by decide))).1).trans kb3, Nat.succ_ne_zero _, ?_⟩
  generalize hN4 : sP A4 b (upN (gP A4 b) 3 (b + 100)) = N4 at o4 r4 ⊢
  refine ⟨((o4.2.1 b (Nat.lt_add_of_pos_right (by decide))).1).trans kb3, ?_⟩
  exact nx_fin ⟨hz, k0, i0, j0⟩ o1 o2 o3 o4 ⟨r1, w1, w2, w3, d1⟩ r2 r3 r4
