/-! ===== IrrigationTurnsModel: load ===== -/
def zrD (k : Nat) (D : Nat → Int32) : Nat → Int32 := fun j => if j < k then 0 else D j
theorem zrD_0 (D : Nat → Int32) : zrD 0 D = D := by funext j; unfold zrD; rw [if_neg (by omega)]
theorem zrD_s (k : Nat) (D : Nat → Int32) : upd (zrD k D) k 0 = zrD (k + 1) D := by
  funext j
  unfold upd zrD
  by_cases h : j = k
  · subst h
    rw [if_pos rfl, if_pos (by omega)]
  · rw [if_neg h]
    by_cases h2 : j < k
    · rw [if_pos h2, if_pos (by omega)]
    · rw [if_neg h2, if_neg (by omega)]
def ldO (D : Nat → Int32) (n : Int32) : Nat → Int32 := upd (upd (upd (upd (upd (upd (upd (upd D 0 0) 2 0) 3 n) 4 0) 5 0) 6 (-1)) 14 0) 15 0
def ldZ (M : Mm) (m : Nat) (n : Int32) (k : Nat) : Mm := sI (sI M m (ldO (gI M m) n)) (m + 3) (zrD k (gI M (m + 3)))
def ldL (m : Nat) : Nat → Mm → Mm
  | 0, N => if gI N m 5 = 0 then nxN N m else N
  | r + 1, N => if gI N m 5 = 0 ∧ ¬ nxc N m = -1 then ldL m r (sgS (nxN N m) m) else if gI N m 5 = 0 then nxN N m else N
def ldR (M : Mm) (m : Nat) (n : Int32) : Mm := ldL m n.toNatClampNeg (ldZ M m n 1793)
def ldE (N : Mm) (m : Nat) : Mm := sI N m (upd (gI N m) 7 (gI N m 6))
def ldC (N : Mm) (m : Nat) : Mm := sI (rmM N m) (m + 2) (cpy 1793 (gI (rmM N m) (m + 3)) (gI (rmM N m) (m + 2)))
def ldF (M : Mm) (m : Nat) (n : Int32) : Mm := if ¬ gI (ldE (ldR M m n) m) m 5 = 0 then ldE (ldR M m n) m else ldC (ldE (ldR M m n) m) m
def ldW (M : Mm) (m : Nat) (n : Int32) : Int32 := if ¬ gI (ldE (ldR M m n) m) m 5 = 0 then gI (ldE (ldR M m n) m) m 5 else gI (ldC (ldE (ldR M m n) m) m) m 15
/-- what the loop of a load leaves alone -/
def RW (N M : Mm) (m : Nat) : Prop := kpI N M ∧ gJ N = gJ M ∧ (∀ q, q ≠ m → q ≠ m + 3 → gI N q = gI M q) ∧ ∀ j, j ≠ 4 → j ≠ 5 → j ≠ 6 → j ≠ 13 → j ≠ 15 → gI N m j = gI M m j
theorem RW.r (M : Mm) (m : Nat) : RW M M m := ⟨kpI.r _, rfl, fun _ _ _ => rfl, fun _ _ _ _ _ _ => rfl⟩
theorem RW.t {A B C : Mm} {m : Nat} (h : RW A B m) (g : RW B C m) : RW A C m := ⟨h.1.t g.1, h.2.1.trans g.2.1, fun q a b => (h.2.2.1 q a b).trans (g.2.2.1 q a b), fun j a b c d e => (h.2.2.2 j a b c d e).trans (g.2.2.2 j a b c d e)⟩
theorem RZ.rw {a b m : Nat} {N M : Mm} (h : RZ a b N M m) : RW N M m := ⟨h.1, h.2.1, h.2.2.1, fun j a b c d _ => h.2.2.2.1 j a b c d⟩
theorem rw_sx (N : Mm) (m : Nat) : RW (stX N m) N m := by
  refine RW.t ⟨kpI.i _ _ _, rfl, fun q h _ => gI_f _ _ h, fun j _ _ _ _ h => ?_⟩ (rz_xp N m (c := 59) (by decide)).rw
  unfold stX
  rw [gI_s, upd_n _ _ h]
theorem rw_sg (N : Mm) (m : Nat) : RW (sgS N m) N m := (rw_sx _ _).t ((rz_w0 _ _ _).1.rw.t (rz_nx N m).rw)
theorem rw_ld (m : Nat) : ∀ r N, RW (ldL m r N) N m
  | 0, N => by
    unfold ldL
    split
    · exact (rz_nx N m).rw
    · exact RW.r _ _
  | r + 1, N => by
    unfold ldL
    split
    · exact (rw_ld m r _).t ((rw_sg _ _).t (rz_nx N m).rw)
    · split
      · exact (rz_nx N m).rw
      · exact RW.r _ _
theorem xp_5 {N : Mm} {m : Nat} {c : Int32} (h : gI (xpN N m c) m 5 = 0) : gI N m 5 = 0 := by
  unfold xpN at h
  split at h
  · exact h
  · rename_i g
    exact Decidable.not_not.mp g
theorem rz_xp3 {M : Mm} {m : Nat} {c : Int32} (hc : ¬ c = -1) (h : gI (xpN M m c) m 5 = 0) : RZ 3 0 (xpN M m c) M m := by
  have h5 := xp_5 h
  unfold xpN at h ⊢
  rw [if_neg (fun q => q h5)] at h ⊢
  split at h
  · rename_i g
    rw [if_pos g]
    exact rz_c (by rw [g]; exact hc)
  · exact absurd h (re_5 (by decide))
/-- a statement without a mistake goes on in the text -/
theorem sg_p {N : Mm} {m L p k : Nat} (hL : L ≤ 900) (hp : p ≤ L) (e3 : gI N m 3 = nI L) (e4 : gI N m 4 = nI p) (e7 : gI N (m + 3) 7 = nI k) : ∃ p', gI (sgS N m) m 4 = nI p' ∧ p ≤ p' ∧ p' ≤ L ∧ (gI (sgS N m) m 5 = 0 → p + 1 ≤ p') := by
  have hx : gI (sgS N m) m 4 = gI (xpN (w0N (nxN N m) m (nI (nxp N m))) m 59) m 4 := by
    unfold sgS stX
    rw [gI_s, upd_n _ _ (by decide)]
  have hx5 : gI (sgS N m) m 5 = gI (xpN (w0N (nxN N m) m (nI (nxp N m))) m 59) m 5 := by
    unfold sgS stX
    rw [gI_s, upd_n _ _ (by decide)]
  have hw := rz_w0 (nxN N m) m (nI (nxp N m))
  have z0 := (rz_xp (w0N (nxN N m) m (nI (nxp N m))) m (c := 59) (by decide)).t (hw.1.t (rz_nx N m))
  rw [hx, hx5]
  by_cases h5 : gI (xpN (w0N (nxN N m) m (nI (nxp N m))) m 59) m 5 = 0
  · have z3 := (rz_xp3 (by decide) h5).t (hw.1.t (rz_nx N m))
    obtain ⟨p1, k1, a1, a2, a3, a4, a5, a6⟩ := z3.2.2.2.2 L p k hL hp e3 e4 e7
    exact ⟨p1, a4, a1, a2, fun _ => by omega⟩
  · obtain ⟨p1, k1, a1, a2, a3, a4, a5, a6⟩ := z0.2.2.2.2 L p k hL hp e3 e4 e7
    exact ⟨p1, a4, a1, a2, fun h => absurd h h5⟩
theorem ldL_e {m : Nat} {N : Mm} (h : ¬ gI N m 5 = 0) : ∀ r, ldL m r N = N
  | 0 => if_neg h
  | r + 1 => by unfold ldL; rw [if_neg (fun g => h g.1), if_neg h]
def S149 (T : Nat → Nat) : Sem := fun as M => match as with
  | [.ref m, .int n] => sV (LM M m ∧ STR T M ∧ cnt (gI M m 2) 900 ∧ cnt (gI M m 12) 8) (some (.int (if inI n 0 (gI M m 2) then ldW M m n else 0))) (if inI n 0 (gI M m 2) then ldF M m n else tS M m 1)
  | _ => sF
def eX11_load (T : Nat → Nat) : Nat → Sem := fun id => if id = 117 then S117 else if id = 129 then S129 else if id = 139 then S139 else if id = 146 then S146 else if id = 151 then S151 else if id = 165 then S165 else (S169 T)
set_option maxRecDepth 100000 in
set_option maxHeartbeats 4000000 in
theorem s_X11_load {l : Launch} {G : Gt} (hfl : l.stackTraces = false) : SatM l G 149 (S149 (gT G)) := by
  refine t_X11_load (E := eX11_load (gT G)) hfl (s_X11_copy hfl) (s_X11_fails hfl) (s_X11_in hfl) (s_X11_isGood hfl) (s_X11_next hfl) (s_X11_remember hfl) (s_X11_statement hfl) fun as M hp => ?_
  unfold S149 at hp ⊢
  split at hp
  case h_2 => exact hp.elim
  rename_i m n
  obtain ⟨hp, hs, hb, hu⟩ := hp
  refine ⟨Nat.le_of_ble_eq_true rfl, ?_⟩
  show Run (gT G) _ _ _ _ _ _ _ 0 [.val (.ref m), .val (.int n), .unset] [] M 0 0
  by_cases hn : inI n 0 (gI M m 2)
  · rw [if_pos hn, if_pos hn]
    have hn1 : inI n 0 (gI M m 2) = True := eq_true hn
    obtain ⟨c, hc, ec⟩ := hb
    obtain ⟨L, hL, eL⟩ : ∃ L, L ≤ 900 ∧ n = nI L := by
      obtain ⟨L, h1, h2⟩ := nI_of hn.1
      refine ⟨L, ?_, h2⟩
      have h3 := hn.2
      rw [ec, h2] at h3
      have := (nI_leI (by omega) (by omega)).mp (Int32.not_lt.mp h3)
      omega
    subst eL
    have cL : (nI L).toNatClampNeg = L := nI_clamp (by omega)
    have fin : ∀ N (w : Slot) (Q : Option Value → Mm → Prop), LM N m → cnt (gI N m 12) 8 → (∀ R, R = ldE N m → Q (some (.int (if ¬ gI R m 5 = 0 then gI R m 5 else gI (ldC R m) m 15))) (if ¬ gI R m 5 = 0 then R else ldC R m)) → Run (gT G) (eX11_load (gT G)) 0 0 (fun _ _ => none) Q (fun _ _ => False) kX11_load 111 [.val (.ref m), .val (.int (nI L)), w] [] N 0 0 := by
      intro N w Q hN hc8 hq
      have hq1 := hq _ rfl
      have f1 : sI N m (upd (gI N m) 7 (gI N m 6)) = ldE N m := rfl
      have LE : LM (ldE N m) m := hN.kp rfl rfl
      have c12 : cnt (gI (ldE N m) m 12) 8 := by unfold ldE; rw [gI_s, upd_n _ _ (by decide)]; exact hc8
      rw [rX11_load_111]
      by_cases h5 : gI (ldE N m) m 5 = 0
      · have g5 : (gI (ldE N m) m 5 = 0) = True := eq_true h5
        rw [if_neg (fun z => z h5), if_neg (fun z => z h5)] at hq1
        have LR : LM (rmM (ldE N m) m) m := LE.kp (rm_k _ _).1 (rm_k _ _).2.1
        have f2 : sI (rmM (ldE N m) m) (m + 2) (cpy 1793 (gI (rmM (ldE N m) m) (m + 3)) (gI (rmM (ldE N m) m) (m + 2))) = ldC (ldE N m) m := rfl
        have LC : LM (ldC (ldE N m) m) m := LR.kp rfl rfl
        simp only [kX11_load_111, rX11_load_131, kX11_load_131, eX11_load, S117, S129, S139, S146, S151, S165, S169, bk_c, if_true, if_false, wi_e, wl_e, wr_e, w1_i, w1_r, ldS_0, ldS_s, vi_e, vl_e, vr_e, dpL_u, dpL_i, dpL_r, dpL_l, stS_0, stS_1, stS_s, stL_0, stL_1, stL_s, bin_0, bin_1, bin_2, bin_3, bin_4, bin_5, bdv_0, bdv_1, lbin_0, lbin_1, lbin_2, cnd_0, cnd_1, cnd_2, cnd_3, cnd_4, cnd_5, aty_0, aty_1, aty_2, aty_3, aty_4, aty_5, c8_u, cn_0, cn_i, cn_r, cn_l, Nat.reduceAdd, Nat.reduceLeDiff, Nat.le_refl, adz, hnd_0, rcv_0, rcv_1, kLen_a, kLen_r, inB_e, inR_e, cpOK_e, swt_n, swt_c, List.take_succ_cons, List.take_zero, List.drop_succ_cons, List.drop_zero, List.reverse_cons, List.reverse_nil, List.nil_append, List.cons_append, List.length_cons, List.length_nil, Option.toList_some, Option.toList_none, det_e, det_x, tr_imp, fa_imp, implies_true, not_true, not_false_eq_true, and_true, true_and, nar_i, upd_s, st1_0, st1_1, st1_2, st1_3, st1_4, st1_5, st1_6, st1_7, st1_8, st1_9, st1_10, st1_11, st1_12, st1_13, st1_14, st1_15, st1_16, st1_17, st1_18, st1_19, st1_20, st1_21, st1_22, st1_23, st1_24, st1_25, st1_26, st1_27, st1_28, st1_29, st1_30, st1_31, st1_32, st1_33, st1_34, st1_35, st1_36, st1_37, st1_42, st1_43, st1_44, st1_46, st1_47, st1_48, st1_49, st1_50, st1_51, st1_52, st1_53, st1_54, st1_55, st1_56, st1_57, st1_58, st1_59, st1_60, Nat.reduceEqDiff, reduceIte, sV, hN.f, f1, LE, LE.f, c12, b9_0, g5, LR, LR.f, f2, LC.f]
        exact hq1
      · have g5 : (gI (ldE N m) m 5 = 0) = False := eq_false h5
        rw [if_pos h5, if_pos h5] at hq1
        simp only [kX11_load_111, rX11_load_131, kX11_load_131, eX11_load, S117, S129, S139, S146, S151, S165, S169, bk_c, if_true, if_false, wi_e, wl_e, wr_e, w1_i, w1_r, ldS_0, ldS_s, vi_e, vl_e, vr_e, dpL_u, dpL_i, dpL_r, dpL_l, stS_0, stS_1, stS_s, stL_0, stL_1, stL_s, bin_0, bin_1, bin_2, bin_3, bin_4, bin_5, bdv_0, bdv_1, lbin_0, lbin_1, lbin_2, cnd_0, cnd_1, cnd_2, cnd_3, cnd_4, cnd_5, aty_0, aty_1, aty_2, aty_3, aty_4, aty_5, c8_u, cn_0, cn_i, cn_r, cn_l, Nat.reduceAdd, Nat.reduceLeDiff, Nat.le_refl, adz, hnd_0, rcv_0, rcv_1, kLen_a, kLen_r, inB_e, inR_e, cpOK_e, swt_n, swt_c, List.take_succ_cons, List.take_zero, List.drop_succ_cons, List.drop_zero, List.reverse_cons, List.reverse_nil, List.nil_append, List.cons_append, List.length_cons, List.length_nil, Option.toList_some, Option.toList_none, det_e, det_x, tr_imp, fa_imp, implies_true, not_true, not_false_eq_true, and_true, true_and, nar_i, upd_s, st1_0, st1_1, st1_2, st1_3, st1_4, st1_5, st1_6, st1_7, st1_8, st1_9, st1_10, st1_11, st1_12, st1_13, st1_14, st1_15, st1_16, st1_17, st1_18, st1_19, st1_20, st1_21, st1_22, st1_23, st1_24, st1_25, st1_26, st1_27, st1_28, st1_29, st1_30, st1_31, st1_32, st1_33, st1_34, st1_35, st1_36, st1_37, st1_42, st1_43, st1_44, st1_46, st1_47, st1_48, st1_49, st1_50, st1_51, st1_52, st1_53, st1_54, st1_55, st1_56, st1_57, st1_58, st1_59, st1_60, Nat.reduceEqDiff, reduceIte, sV, hN.f, f1, LE, LE.f, c12, b9_0, g5]
        exact hq1
    -- the loop of statements
    have loop : ∀ r N p (w : Slot) (Q : Option Value → Mm → Prop), IS (gT G) N m → gI N m 3 = nI L → p ≤ L → gI N m 4 = nI p → (gI N m 5 = 0 → L ≤ p + r) → cnt (gI N m 12) 8 → (∀ R, R = ldE (ldL m r N) m → Q (some (.int (if ¬ gI R m 5 = 0 then gI R m 5 else gI (ldC R m) m 15))) (if ¬ gI R m 5 = 0 then R else ldC R m)) → Run (gT G) (eX11_load (gT G)) 0 0 (fun _ _ => none) Q (fun _ _ => False) kX11_load 89 [.val (.ref m), .val (.int (nI L)), w] [] N 0 0 := by
      intro r
      induction r with
      | zero =>
        intro N p w Q hI e3 hpL e4 hg hc8 hq
        rw [rX11_load_89]
        by_cases h5 : gI N m 5 = 0
        · have g5 : (gI N m 5 = 0) = True := eq_true h5
          have hpe : p = L := by have := hg h5; omega
          subst hpe
          have hb := nxp_b hL (Nat.le_refl p) e3 e4
          have hm : (nxc N m = -1) = True := eq_true (by
            unfold nxc
            rw [hb.2.2.1]
            exact bA_o (by omega))
          have hq2 : ∀ R, R = ldE (nxN N m) m → Q (some (.int (if ¬ gI R m 5 = 0 then gI R m 5 else gI (ldC R m) m 15))) (if ¬ gI R m 5 = 0 then R else ldC R m) := by
            unfold ldL at hq
            rw [if_pos h5] at hq
            exact hq
          simp only [kX11_load_89, eX11_load, S117, S129, S139, S146, S151, S165, S169, bk_c, if_true, if_false, wi_e, wl_e, wr_e, w1_i, w1_r, ldS_0, ldS_s, vi_e, vl_e, vr_e, dpL_u, dpL_i, dpL_r, dpL_l, stS_0, stS_1, stS_s, stL_0, stL_1, stL_s, bin_0, bin_1, bin_2, bin_3, bin_4, bin_5, bdv_0, bdv_1, lbin_0, lbin_1, lbin_2, cnd_0, cnd_1, cnd_2, cnd_3, cnd_4, cnd_5, aty_0, aty_1, aty_2, aty_3, aty_4, aty_5, c8_u, cn_0, cn_i, cn_r, cn_l, Nat.reduceAdd, Nat.reduceLeDiff, Nat.le_refl, adz, hnd_0, rcv_0, rcv_1, kLen_a, kLen_r, inB_e, inR_e, cpOK_e, swt_n, swt_c, List.take_succ_cons, List.take_zero, List.drop_succ_cons, List.drop_zero, List.reverse_cons, List.reverse_nil, List.nil_append, List.cons_append, List.length_cons, List.length_nil, Option.toList_some, Option.toList_none, det_e, det_x, tr_imp, fa_imp, implies_true, not_true, not_false_eq_true, and_true, true_and, nar_i, upd_s, st1_0, st1_1, st1_2, st1_3, st1_4, st1_5, st1_6, st1_7, st1_8, st1_9, st1_10, st1_11, st1_12, st1_13, st1_14, st1_15, st1_16, st1_17, st1_18, st1_19, st1_20, st1_21, st1_22, st1_23, st1_24, st1_25, st1_26, st1_27, st1_28, st1_29, st1_30, st1_31, st1_32, st1_33, st1_34, st1_35, st1_36, st1_37, st1_42, st1_43, st1_44, st1_46, st1_47, st1_48, st1_49, st1_50, st1_51, st1_52, st1_53, st1_54, st1_55, st1_56, st1_57, st1_58, st1_59, st1_60, Nat.reduceEqDiff, reduceIte, sV, hI.1, hI.1.f, hI.J, b9_0, g5, hm]
          exact fin _ w Q hI.1.nx (by rw [(rz_nx N m).2.2.2.1 12 (by decide) (by decide) (by decide) (by decide)]; exact hc8) hq2
        · have g5 : (gI N m 5 = 0) = False := eq_false h5
          rw [ldL_e h5] at hq
          simp only [kX11_load_89, eX11_load, S117, S129, S139, S146, S151, S165, S169, bk_c, if_true, if_false, wi_e, wl_e, wr_e, w1_i, w1_r, ldS_0, ldS_s, vi_e, vl_e, vr_e, dpL_u, dpL_i, dpL_r, dpL_l, stS_0, stS_1, stS_s, stL_0, stL_1, stL_s, bin_0, bin_1, bin_2, bin_3, bin_4, bin_5, bdv_0, bdv_1, lbin_0, lbin_1, lbin_2, cnd_0, cnd_1, cnd_2, cnd_3, cnd_4, cnd_5, aty_0, aty_1, aty_2, aty_3, aty_4, aty_5, c8_u, cn_0, cn_i, cn_r, cn_l, Nat.reduceAdd, Nat.reduceLeDiff, Nat.le_refl, adz, hnd_0, rcv_0, rcv_1, kLen_a, kLen_r, inB_e, inR_e, cpOK_e, swt_n, swt_c, List.take_succ_cons, List.take_zero, List.drop_succ_cons, List.drop_zero, List.reverse_cons, List.reverse_nil, List.nil_append, List.cons_append, List.length_cons, List.length_nil, Option.toList_some, Option.toList_none, det_e, det_x, tr_imp, fa_imp, implies_true, not_true, not_false_eq_true, and_true, true_and, nar_i, upd_s, st1_0, st1_1, st1_2, st1_3, st1_4, st1_5, st1_6, st1_7, st1_8, st1_9, st1_10, st1_11, st1_12, st1_13, st1_14, st1_15, st1_16, st1_17, st1_18, st1_19, st1_20, st1_21, st1_22, st1_23, st1_24, st1_25, st1_26, st1_27, st1_28, st1_29, st1_30, st1_31, st1_32, st1_33, st1_34, st1_35, st1_36, st1_37, st1_42, st1_43, st1_44, st1_46, st1_47, st1_48, st1_49, st1_50, st1_51, st1_52, st1_53, st1_54, st1_55, st1_56, st1_57, st1_58, st1_59, st1_60, Nat.reduceEqDiff, reduceIte, sV, hI.1, hI.1.f, hI.J, b9_0, g5]
          exact fin _ w Q hI.1 hc8 hq
      | succ r ih =>
        intro N p w Q hI e3 hpL e4 hg hc8 hq
        rw [rX11_load_89]
        by_cases h5 : gI N m 5 = 0
        · have g5 : (gI N m 5 = 0) = True := eq_true h5
          by_cases hm : nxc N m = -1
          · have hm1 : (nxc N m = -1) = True := eq_true hm
            have hq2 : ∀ R, R = ldE (nxN N m) m → Q (some (.int (if ¬ gI R m 5 = 0 then gI R m 5 else gI (ldC R m) m 15))) (if ¬ gI R m 5 = 0 then R else ldC R m) := by
              unfold ldL at hq
              rw [if_neg (fun z => z.2 hm), if_pos h5] at hq
              exact hq
            simp only [kX11_load_89, eX11_load, S117, S129, S139, S146, S151, S165, S169, bk_c, if_true, if_false, wi_e, wl_e, wr_e, w1_i, w1_r, ldS_0, ldS_s, vi_e, vl_e, vr_e, dpL_u, dpL_i, dpL_r, dpL_l, stS_0, stS_1, stS_s, stL_0, stL_1, stL_s, bin_0, bin_1, bin_2, bin_3, bin_4, bin_5, bdv_0, bdv_1, lbin_0, lbin_1, lbin_2, cnd_0, cnd_1, cnd_2, cnd_3, cnd_4, cnd_5, aty_0, aty_1, aty_2, aty_3, aty_4, aty_5, c8_u, cn_0, cn_i, cn_r, cn_l, Nat.reduceAdd, Nat.reduceLeDiff, Nat.le_refl, adz, hnd_0, rcv_0, rcv_1, kLen_a, kLen_r, inB_e, inR_e, cpOK_e, swt_n, swt_c, List.take_succ_cons, List.take_zero, List.drop_succ_cons, List.drop_zero, List.reverse_cons, List.reverse_nil, List.nil_append, List.cons_append, List.length_cons, List.length_nil, Option.toList_some, Option.toList_none, det_e, det_x, tr_imp, fa_imp, implies_true, not_true, not_false_eq_true, and_true, true_and, nar_i, upd_s, st1_0, st1_1, st1_2, st1_3, st1_4, st1_5, st1_6, st1_7, st1_8, st1_9, st1_10, st1_11, st1_12, st1_13, st1_14, st1_15, st1_16, st1_17, st1_18, st1_19, st1_20, st1_21, st1_22, st1_23, st1_24, st1_25, st1_26, st1_27, st1_28, st1_29, st1_30, st1_31, st1_32, st1_33, st1_34, st1_35, st1_36, st1_37, st1_42, st1_43, st1_44, st1_46, st1_47, st1_48, st1_49, st1_50, st1_51, st1_52, st1_53, st1_54, st1_55, st1_56, st1_57, st1_58, st1_59, st1_60, Nat.reduceEqDiff, reduceIte, sV, hI.1, hI.1.f, hI.J, b9_0, g5, hm1]
            exact fin _ w Q hI.1.nx (by rw [(rz_nx N m).2.2.2.1 12 (by decide) (by decide) (by decide) (by decide)]; exact hc8) hq2
          · have hm1 : (nxc N m = -1) = False := eq_false hm
            have hq2 : ∀ R, R = ldE (ldL m r (sgS (nxN N m) m)) m → Q (some (.int (if ¬ gI R m 5 = 0 then gI R m 5 else gI (ldC R m) m 15))) (if ¬ gI R m 5 = 0 then R else ldC R m) := by
              unfold ldL at hq
              rw [if_pos ⟨h5, hm⟩] at hq
              exact hq
            have hI1 := hI.nx
            have rwn := (rw_sg (nxN N m) m).t (rz_nx N m).rw
            have hb := nxp_b hL hpL e3 e4
            obtain ⟨L', p', k', b1, b2, b3, b4, b5, b6⟩ := hI1.2.1
            have e3n : gI (nxN N m) m 3 = nI L := by rw [(rz_nx N m).2.2.2.1 3 (by decide) (by decide) (by decide) (by decide)]; exact e3
            obtain ⟨p2, q1, q2, q3, q4⟩ := sg_p hL hb.2.1 e3n nx_e.1 b6
            simp only [kX11_load_89, eX11_load, S117, S129, S139, S146, S151, S165, S169, bk_c, if_true, if_false, wi_e, wl_e, wr_e, w1_i, w1_r, ldS_0, ldS_s, vi_e, vl_e, vr_e, dpL_u, dpL_i, dpL_r, dpL_l, stS_0, stS_1, stS_s, stL_0, stL_1, stL_s, bin_0, bin_1, bin_2, bin_3, bin_4, bin_5, bdv_0, bdv_1, lbin_0, lbin_1, lbin_2, cnd_0, cnd_1, cnd_2, cnd_3, cnd_4, cnd_5, aty_0, aty_1, aty_2, aty_3, aty_4, aty_5, c8_u, cn_0, cn_i, cn_r, cn_l, Nat.reduceAdd, Nat.reduceLeDiff, Nat.le_refl, adz, hnd_0, rcv_0, rcv_1, kLen_a, kLen_r, inB_e, inR_e, cpOK_e, swt_n, swt_c, List.take_succ_cons, List.take_zero, List.drop_succ_cons, List.drop_zero, List.reverse_cons, List.reverse_nil, List.nil_append, List.cons_append, List.length_cons, List.length_nil, Option.toList_some, Option.toList_none, det_e, det_x, tr_imp, fa_imp, implies_true, not_true, not_false_eq_true, and_true, true_and, nar_i, upd_s, st1_0, st1_1, st1_2, st1_3, st1_4, st1_5, st1_6, st1_7, st1_8, st1_9, st1_10, st1_11, st1_12, st1_13, st1_14, st1_15, st1_16, st1_17, st1_18, st1_19, st1_20, st1_21, st1_22, st1_23, st1_24, st1_25, st1_26, st1_27, st1_28, st1_29, st1_30, st1_31, st1_32, st1_33, st1_34, st1_35, st1_36, st1_37, st1_42, st1_43, st1_44, st1_46, st1_47, st1_48, st1_49, st1_50, st1_51, st1_52, st1_53, st1_54, st1_55, st1_56, st1_57, st1_58, st1_59, st1_60, Nat.reduceEqDiff, reduceIte, sV, hI.1, hI.1.f, hI.J, hI1, hI1.1.f, b9_0, g5, hm1]
            refine ih _ p2 w Q hI1.st ?_ q3 q1 (fun z => ?_) ?_ hq2
            · rw [rwn.2.2.2 3 (by decide) (by decide) (by decide) (by decide) (by decide)]; exact e3
            · have a1 := q4 z
              have a2 := hg h5
              omega
            · rw [rwn.2.2.2 12 (by decide) (by decide) (by decide) (by decide) (by decide)]; exact hc8
        · have g5 : (gI N m 5 = 0) = False := eq_false h5
          rw [ldL_e h5] at hq
          simp only [kX11_load_89, eX11_load, S117, S129, S139, S146, S151, S165, S169, bk_c, if_true, if_false, wi_e, wl_e, wr_e, w1_i, w1_r, ldS_0, ldS_s, vi_e, vl_e, vr_e, dpL_u, dpL_i, dpL_r, dpL_l, stS_0, stS_1, stS_s, stL_0, stL_1, stL_s, bin_0, bin_1, bin_2, bin_3, bin_4, bin_5, bdv_0, bdv_1, lbin_0, lbin_1, lbin_2, cnd_0, cnd_1, cnd_2, cnd_3, cnd_4, cnd_5, aty_0, aty_1, aty_2, aty_3, aty_4, aty_5, c8_u, cn_0, cn_i, cn_r, cn_l, Nat.reduceAdd, Nat.reduceLeDiff, Nat.le_refl, adz, hnd_0, rcv_0, rcv_1, kLen_a, kLen_r, inB_e, inR_e, cpOK_e, swt_n, swt_c, List.take_succ_cons, List.take_zero, List.drop_succ_cons, List.drop_zero, List.reverse_cons, List.reverse_nil, List.nil_append, List.cons_append, List.length_cons, List.length_nil, Option.toList_some, Option.toList_none, det_e, det_x, tr_imp, fa_imp, implies_true, not_true, not_false_eq_true, and_true, true_and, nar_i, upd_s, st1_0, st1_1, st1_2, st1_3, st1_4, st1_5, st1_6, st1_7, st1_8, st1_9, st1_10, st1_11, st1_12, st1_13, st1_14, st1_15, st1_16, st1_17, st1_18, st1_19, st1_20, st1_21, st1_22, st1_23, st1_24, st1_25, st1_26, st1_27, st1_28, st1_29, st1_30, st1_31, st1_32, st1_33, st1_34, st1_35, st1_36, st1_37, st1_42, st1_43, st1_44, st1_46, st1_47, st1_48, st1_49, st1_50, st1_51, st1_52, st1_53, st1_54, st1_55, st1_56, st1_57, st1_58, st1_59, st1_60, Nat.reduceEqDiff, reduceIte, sV, hI.1, hI.1.f, hI.J, b9_0, g5]
          exact fin _ w Q hI.1 hc8 hq
    -- the draft is cleared
    have zero : ∀ r k, k + r = 1793 → Run (gT G) (eX11_load (gT G)) 0 0 (fun _ _ => none) (fun v' M' => v' = some (.int (ldW M m (nI L))) ∧ M' = ldF M m (nI L)) (fun _ _ => False) kX11_load 69 [.val (.ref m), .val (.int (nI L)), .val (.int (nI k))] [] (ldZ M m (nI L) k) 0 0 := by
      intro r
      induction r with
      | zero =>
        intro k hk
        have hk2 : k = 1793 := hk
        subst hk2
        have LZ : LM (ldZ M m (nI L) 1793) m := hp.kp rfl rfl
        have hO : ∀ j, gI (ldZ M m (nI L) 1793) m j = ldO (gI M m) (nI L) j := fun j => by unfold ldZ; rw [gI_f _ _ (by omega), gI_s]
        have hD : ∀ j, j < 1793 → gI (ldZ M m (nI L) 1793) (m + 3) j = 0 := fun j hj => by unfold ldZ; rw [gI_s]; unfold zrD; rw [if_pos hj]
        have hIZ : IS (gT G) (ldZ M m (nI L) 1793) m := by
          refine ⟨LZ, ⟨L, 0, 0, hL, Nat.zero_le _, by decide, ?_, ?_, ?_⟩, hs, ?_, ⟨0, by decide, ?_⟩, ⟨0, by decide, ?_⟩, ⟨0, by decide, ?_⟩, ⟨0, by decide, ?_⟩⟩
          · rw [hO]; rfl
          · rw [hO]; rfl
          · rw [hD _ (by decide)]; rfl
          · rw [hO]; rfl
          · rw [hD _ (by decide)]; rfl
          · rw [hD _ (by decide)]; rfl
          · rw [hD _ (by decide)]; rfl
          · rw [hD _ (by decide)]; rfl
        have l := loop L (ldZ M m (nI L) 1793) 0 (.val (.int (nI 1793))) (fun v' M' => v' = some (.int (ldW M m (nI L))) ∧ M' = ldF M m (nI L)) hIZ (by rw [hO]; rfl) (Nat.zero_le _) (by rw [hO]; rfl) (fun _ => by omega) (by rw [hO]; exact hu) (fun R hR => by
          have e : R = ldE (ldR M m (nI L)) m := by rw [hR]; unfold ldR; rw [cL]
          subst e
          exact ⟨rfl, rfl⟩)
        rw [rX11_load_69]
        simp only [kX11_load_69, bk_c, if_true, if_false, wi_e, wl_e, wr_e, w1_i, w1_r, ldS_0, ldS_s, vi_e, vl_e, vr_e, dpL_u, dpL_i, dpL_r, dpL_l, stS_0, stS_1, stS_s, stL_0, stL_1, stL_s, bin_0, bin_1, bin_2, bin_3, bin_4, bin_5, bdv_0, bdv_1, lbin_0, lbin_1, lbin_2, cnd_0, cnd_1, cnd_2, cnd_3, cnd_4, cnd_5, aty_0, aty_1, aty_2, aty_3, aty_4, aty_5, c8_u, cn_0, cn_i, cn_r, cn_l, Nat.reduceAdd, Nat.reduceLeDiff, Nat.le_refl, adz, hnd_0, rcv_0, rcv_1, kLen_a, kLen_r, inB_e, inR_e, cpOK_e, swt_n, swt_c, List.take_succ_cons, List.take_zero, List.drop_succ_cons, List.drop_zero, List.reverse_cons, List.reverse_nil, List.nil_append, List.cons_append, List.length_cons, List.length_nil, Option.toList_some, Option.toList_none, det_e, det_x, tr_imp, fa_imp, implies_true, not_true, not_false_eq_true, and_true, true_and, nar_i, upd_s, st1_0, st1_1, st1_2, st1_3, st1_4, st1_5, st1_6, st1_7, st1_8, st1_9, st1_10, st1_11, st1_12, st1_13, st1_14, st1_15, st1_16, st1_17, st1_18, st1_19, st1_20, st1_21, st1_22, st1_23, st1_24, st1_25, st1_26, st1_27, st1_28, st1_29, st1_30, st1_31, st1_32, st1_33, st1_34, st1_35, st1_36, st1_37, st1_42, st1_43, st1_44, st1_46, st1_47, st1_48, st1_49, st1_50, st1_51, st1_52, st1_53, st1_54, st1_55, st1_56, st1_57, st1_58, st1_59, st1_60, show ((1793 : Int32) ≤ nI 1793) = True from lp_out 1793]
        exact l
      | succ r ih =>
        intro k hk
        obtain ⟨a1, a2, a3, -⟩ := lp_in (i := k) (n := 1793) (N := 1793) (by omega) (Nat.le_refl _) (by decide)
        have a1' : ((1793 : Int32) ≤ nI k) = False := a1
        have LZ : LM (ldZ M m (nI L) k) m := hp.kp rfl rfl
        have f1 : sI (ldZ M m (nI L) k) (m + 3) (upd (gI (ldZ M m (nI L) k) (m + 3)) k 0) = ldZ M m (nI L) (k + 1) := by
          unfold ldZ
          rw [gI_s, sI_sI, zrD_s]
        rw [rX11_load_69]
        simp only [kX11_load_69, bk_c, if_true, if_false, wi_e, wl_e, wr_e, w1_i, w1_r, ldS_0, ldS_s, vi_e, vl_e, vr_e, dpL_u, dpL_i, dpL_r, dpL_l, stS_0, stS_1, stS_s, stL_0, stL_1, stL_s, bin_0, bin_1, bin_2, bin_3, bin_4, bin_5, bdv_0, bdv_1, lbin_0, lbin_1, lbin_2, cnd_0, cnd_1, cnd_2, cnd_3, cnd_4, cnd_5, aty_0, aty_1, aty_2, aty_3, aty_4, aty_5, c8_u, cn_0, cn_i, cn_r, cn_l, Nat.reduceAdd, Nat.reduceLeDiff, Nat.le_refl, adz, hnd_0, rcv_0, rcv_1, kLen_a, kLen_r, inB_e, inR_e, cpOK_e, swt_n, swt_c, List.take_succ_cons, List.take_zero, List.drop_succ_cons, List.drop_zero, List.reverse_cons, List.reverse_nil, List.nil_append, List.cons_append, List.length_cons, List.length_nil, Option.toList_some, Option.toList_none, det_e, det_x, tr_imp, fa_imp, implies_true, not_true, not_false_eq_true, and_true, true_and, nar_i, upd_s, st1_0, st1_1, st1_2, st1_3, st1_4, st1_5, st1_6, st1_7, st1_8, st1_9, st1_10, st1_11, st1_12, st1_13, st1_14, st1_15, st1_16, st1_17, st1_18, st1_19, st1_20, st1_21, st1_22, st1_23, st1_24, st1_25, st1_26, st1_27, st1_28, st1_29, st1_30, st1_31, st1_32, st1_33, st1_34, st1_35, st1_36, st1_37, st1_42, st1_43, st1_44, st1_46, st1_47, st1_48, st1_49, st1_50, st1_51, st1_52, st1_53, st1_54, st1_55, st1_56, st1_57, st1_58, st1_59, st1_60, LZ.f, a1', a2, a3, nI_1, show ∀ z, vp_nar FieldType.int z = z from fun _ => rfl, f1]
        exact ih (k + 1) (by omega)
    have f0 : sI (tS M m 0) m (upd (upd (upd (upd (upd (upd (upd (gI (tS M m 0) m) 2 0) 3 (nI L)) 4 0) 5 0) 6 (-1)) 14 0) 15 0) = ldZ M m (nI L) 0 := by
      have e : gI (sI M m (ldO (gI M m) (nI L))) (m + 3) = gI M (m + 3) := gI_f _ _ (Nat.ne_of_gt (Nat.lt_add_of_pos_right (by decide)))
      unfold ldZ
      rw [zrD_0, ← e, sI_id]
      unfold tS ldO
      rw [gI_s, sI_sI]
    have z := zero 1793 0 rfl
    simp only [rX11_load_0, kX11_load_0, rX11_load_22, kX11_load_22, rX11_load_23, kX11_load_23, rX11_load_32, kX11_load_32, eX11_load, S117, S129, S139, S146, S151, S165, S169, bk_c, if_true, if_false, wi_e, wl_e, wr_e, w1_i, w1_r, ldS_0, ldS_s, vi_e, vl_e, vr_e, dpL_u, dpL_i, dpL_r, dpL_l, stS_0, stS_1, stS_s, stL_0, stL_1, stL_s, bin_0, bin_1, bin_2, bin_3, bin_4, bin_5, bdv_0, bdv_1, lbin_0, lbin_1, lbin_2, cnd_0, cnd_1, cnd_2, cnd_3, cnd_4, cnd_5, aty_0, aty_1, aty_2, aty_3, aty_4, aty_5, c8_u, cn_0, cn_i, cn_r, cn_l, Nat.reduceAdd, Nat.reduceLeDiff, Nat.le_refl, adz, hnd_0, rcv_0, rcv_1, kLen_a, kLen_r, inB_e, inR_e, cpOK_e, swt_n, swt_c, List.take_succ_cons, List.take_zero, List.drop_succ_cons, List.drop_zero, List.reverse_cons, List.reverse_nil, List.nil_append, List.cons_append, List.length_cons, List.length_nil, Option.toList_some, Option.toList_none, det_e, det_x, tr_imp, fa_imp, implies_true, not_true, not_false_eq_true, and_true, true_and, nar_i, upd_s, st1_0, st1_1, st1_2, st1_3, st1_4, st1_5, st1_6, st1_7, st1_8, st1_9, st1_10, st1_11, st1_12, st1_13, st1_14, st1_15, st1_16, st1_17, st1_18, st1_19, st1_20, st1_21, st1_22, st1_23, st1_24, st1_25, st1_26, st1_27, st1_28, st1_29, st1_30, st1_31, st1_32, st1_33, st1_34, st1_35, st1_36, st1_37, st1_42, st1_43, st1_44, st1_46, st1_47, st1_48, st1_49, st1_50, st1_51, st1_52, st1_53, st1_54, st1_55, st1_56, st1_57, st1_58, st1_59, st1_60, Nat.reduceEqDiff, reduceIte, sV, tS_e, tS_0, tS_t, tS_K, tS_P, tS_f, tS_n, t_2, hp.f, hp.t, hn1, b9_0, b9F, b9T, i1f, fsK_0, fsK_1, Nat.succ_ne_zero, ne_eq, gK_sI, gI_s, sI_sI]
    rw [f0]
    exact z
  · rw [if_neg hn, if_neg hn]
    have hn1 : inI n 0 (gI M m 2) = False := eq_false hn
    simp only [rX11_load_0, kX11_load_0, rX11_load_22, kX11_load_22, rX11_load_23, kX11_load_23, eX11_load, S117, S129, S139, S146, S151, S165, S169, bk_c, if_true, if_false, wi_e, wl_e, wr_e, w1_i, w1_r, ldS_0, ldS_s, vi_e, vl_e, vr_e, dpL_u, dpL_i, dpL_r, dpL_l, stS_0, stS_1, stS_s, stL_0, stL_1, stL_s, bin_0, bin_1, bin_2, bin_3, bin_4, bin_5, bdv_0, bdv_1, lbin_0, lbin_1, lbin_2, cnd_0, cnd_1, cnd_2, cnd_3, cnd_4, cnd_5, aty_0, aty_1, aty_2, aty_3, aty_4, aty_5, c8_u, cn_0, cn_i, cn_r, cn_l, Nat.reduceAdd, Nat.reduceLeDiff, Nat.le_refl, adz, hnd_0, rcv_0, rcv_1, kLen_a, kLen_r, inB_e, inR_e, cpOK_e, swt_n, swt_c, List.take_succ_cons, List.take_zero, List.drop_succ_cons, List.drop_zero, List.reverse_cons, List.reverse_nil, List.nil_append, List.cons_append, List.length_cons, List.length_nil, Option.toList_some, Option.toList_none, det_e, det_x, tr_imp, fa_imp, implies_true, not_true, not_false_eq_true, and_true, true_and, nar_i, upd_s, st1_0, st1_1, st1_2, st1_3, st1_4, st1_5, st1_6, st1_7, st1_8, st1_9, st1_10, st1_11, st1_12, st1_13, st1_14, st1_15, st1_16, st1_17, st1_18, st1_19, st1_20, st1_21, st1_22, st1_23, st1_24, st1_25, st1_26, st1_27, st1_28, st1_29, st1_30, st1_31, st1_32, st1_33, st1_34, st1_35, st1_36, st1_37, st1_42, st1_43, st1_44, st1_46, st1_47, st1_48, st1_49, st1_50, st1_51, st1_52, st1_53, st1_54, st1_55, st1_56, st1_57, st1_58, st1_59, st1_60, Nat.reduceEqDiff, reduceIte, sV, tS_e, tS_0, tS_t, tS_K, tS_P, tS_f, tS_n, t_2, hp.f, hp.t, hn1, b9_0, b9F, b9T, i1f, fsK_1, Nat.succ_ne_zero, ne_eq]
