/-! ===== IrrigationTurns: predictions ===== -/
def XH (M : Mm) (x : Nat) : Prop := XP M x ∧ ∃ t, t ≤ 100000 ∧ gI M (x + 36) 6 = nI t
theorem XH.fr {M N : Mm} {x : Nat} (h : FR N M (x + 68)) (g : XH M x) : XH N x := ⟨g.1.fr h, by rw [(h.2.2.2 (x + 36) (by omega)).1]; exact g.2⟩
theorem apt_36 (x : Nat) : apt (x + 68) 32 (x + 36) 32 := by unfold apt; omega
theorem XH.c {M : Mm} {x : Nat} (g : XH M x) : Ix (cpS M (x + 68) (x + 36)) (x + 68) ∧ ∃ t, t ≤ 100000 ∧ gI (cpS M (x + 68) (x + 36)) (x + 68) 6 = nI t := by
  obtain ⟨⟨g1, g2, -⟩, t, ht, et⟩ := g
  refine ⟨g2.cp g1.2.2.2.2.1 (apt_36 x), t, ht, ?_⟩
  obtain ⟨c1, c2, c3, c4, c5, c6, c7, c8, c9, c10, c11, c12, c13, c14, c15, c16, c17⟩ := ce_S M (apt_36 x)
  exact c17.trans et
theorem XH.s {M : Mm} {x : Nat} (g : XH M x) : Ls M (x + 68) ∧ Ls M (x + 36) ∧ cnt (gI M (x + 46) 11) 12 ∧ cnt (gI M (x + 63) 2) 900 ∧ apt (x + 68) 32 (x + 36) 32 := ⟨g.1.1.2.2.2.2.1, g.1.1.2.2.2.1, g.1.2.1.cF, g.1.2.1.cM, apt_36 x⟩
theorem i10 (p : Prop) [Decidable p] : ((if p then (1 : Int32) else 0) = 0) = ¬ p := by
  split
  · rename_i h; exact propext ⟨fun q => absurd q (by decide), fun q => absurd h q⟩
  · rename_i h; exact propext ⟨fun _ => h, fun _ => rfl⟩
/-- how many hours until a field holds its demand -/
def huL (b f : Nat) : Nat → Nat → Mm → Int32 × Mm
  | 0, i, N => (if gI N (b + 14) f ≤ gI N (b + 18) f then nI i else -1, N)
  | r + 1, i, N => if gI N (b + 14) f ≤ gI N (b + 18) f then (nI i, N) else huL b f r (i + 1) (phM N b)
def huR (M : Mm) (x : Nat) (f h : Int32) : Int32 × Mm := huL (x + 68) f.toNatClampNeg h.toNatClampNeg 0 (cpS M (x + 68) (x + 36))
def S90 : Sem := fun as M => match as with
  | [.ref x, .int f, .int h] => sTh (XH M x) (orE (bI f (gI M (x + 46) 11)) (bR h 0 100)) (some (.int (huR M x f h).1)) (huR M x f h).2 M
  | _ => sF
def eX10_hoursUntil : Nat → Sem := fun id => if id = 20 then S20 else if id = 64 then S64 else if id = 69 then S69 else if id = 97 then S97 else S98
set_option maxRecDepth 100000 in
set_option maxHeartbeats 4000000 in
theorem s_X10_hoursUntil {l : Launch} {G : Gt} (hfl : l.stackTraces = false) : SatM l G 90 S90 := by
  refine t_X10_hoursUntil (E := eX10_hoursUntil) hfl (s_X1_meetsDemand hfl) (s_X8_copyFrom hfl) (s_X8_passHour hfl) (s_X10_requireIndex hfl) (s_X10_requireRange hfl) fun as M hp => ?_
  unfold S90 at hp ⊢
  split at hp
  case h_2 => exact hp.elim
  rename_i x f h
  obtain hp := hp
  refine ⟨Nat.le_of_ble_eq_true rfl, ?_⟩
  show Run (gT G) _ _ _ _ _ _ _ 0 [.val (.ref x), .val (.int f), .val (.int h), .unset] [] M 0 0
  have hS := hp.s
  have hp1 := hp.1
  simp only [rX10_hoursUntil_0, kX10_hoursUntil_0, rX10_hoursUntil_55, kX10_hoursUntil_55, rX10_hoursUntil_69, kX10_hoursUntil_69, rX10_hoursUntil_87, kX10_hoursUntil_87, rX10_hoursUntil_88, kX10_hoursUntil_88, eX10_hoursUntil, S20, S64, S69, S97, S98, bk_c, if_true, if_false, wi_e, wl_e, wr_e, w1_i, w1_r, ldS_0, ldS_s, vi_e, vl_e, vr_e, dpL_u, dpL_i, dpL_r, dpL_l, stS_0, stS_1, stS_s, stL_0, stL_1, stL_s, bin_0, bin_1, bin_2, bin_3, bin_4, bin_5, bdv_0, bdv_1, lbin_0, lbin_1, lbin_2, cnd_0, cnd_1, cnd_2, cnd_3, cnd_4, cnd_5, aty_0, aty_1, aty_2, aty_3, aty_4, aty_5, c8_u, cn_0, cn_i, cn_r, cn_l, Nat.reduceAdd, Nat.reduceLeDiff, Nat.le_refl, adz, hnd_0, rcv_0, rcv_1, kLen_a, kLen_r, inB_e, inR_e, cpOK_e, swt_n, swt_c, List.take_succ_cons, List.take_zero, List.drop_succ_cons, List.drop_zero, List.reverse_cons, List.reverse_nil, List.nil_append, List.cons_append, List.length_cons, List.length_nil, Option.toList_some, Option.toList_none, det_e, det_x, tr_imp, fa_imp, implies_true, not_true, not_false_eq_true, and_true, true_and, nar_i, upd_s, st1_0, st1_1, st1_2, st1_3, st1_4, st1_5, st1_6, st1_7, st1_8, st1_9, st1_10, st1_11, st1_12, st1_13, st1_14, st1_15, st1_16, st1_17, st1_18, st1_19, st1_20, st1_21, st1_22, st1_23, st1_24, st1_25, st1_26, st1_27, st1_28, st1_29, st1_30, st1_31, st1_32, st1_33, st1_34, st1_35, st1_36, st1_37, st1_42, st1_43, st1_44, st1_46, st1_47, st1_48, st1_49, st1_50, st1_51, st1_52, st1_53, st1_54, st1_55, st1_56, st1_57, st1_58, st1_59, st1_60, Nat.add_assoc, Nat.reduceEqDiff, reduceIte, det_s, hp1.f, hS, Nat.succ_ne_zero, ne_eq, sV, (fr_cp M (x + 68) (x + 36)).1, (fr_cp M (x + 68) (x + 36)).2.1]
  refine ⟨fun h1 => ⟨fun h2 => ?_, fun e M' he => ?_⟩, fun e M' he => ?_⟩
  · obtain ⟨n, hn, rfl⟩ := bR_c (n := 100) h2
    obtain ⟨j, hj, rfl⟩ := vp_in_of (bI_c h1 hp1.lf.2 (by decide)) (by decide)
    have cn : (nI n).toNatClampNeg = n := nI_clamp (by omega)
    have cj : (nI j).toNatClampNeg = j := nI_clamp (by omega)
    have hj2 : vp_in (nI j) 12 = True := eq_true (vp_in_nI hj (by decide))
    have key : ∀ (Q : Option Value → Mm → Prop) (X : Nat → Mm → Prop) r i N (t : Nat), i + r = n → FR N M (x + 68) → Ix N (x + 68) → gI N (x + 68) 6 = nI t → t + r < 2 ^ 30 → Q (some (.int (huL (x + 68) j r i N).1)) (huL (x + 68) j r i N).2 → Run (gT G) eX10_hoursUntil 2 12 (fun _ _ => none) Q X kX10_hoursUntil 34 [.val (.ref x), .val (.int (nI j)), .val (.int (nI n)), .val (.int (nI i))] [] N 2 12 := by
      intro Q X r
      induction r with
      | zero =>
        intro i N t hi hN hI ht hb hq
        have hi2 : i = n := hi
        subst hi2
        have hF : Lf N (x + 78) := hI.1.2.2.2.1
        unfold huL at hq
        rw [rX10_hoursUntil_34]
        simp only [kX10_hoursUntil_34, rX10_hoursUntil_0, kX10_hoursUntil_0, rX10_hoursUntil_55, kX10_hoursUntil_55, rX10_hoursUntil_69, kX10_hoursUntil_69, rX10_hoursUntil_87, kX10_hoursUntil_87, rX10_hoursUntil_88, kX10_hoursUntil_88, eX10_hoursUntil, S20, S64, S69, S97, S98, bk_c, if_true, if_false, wi_e, wl_e, wr_e, w1_i, w1_r, ldS_0, ldS_s, vi_e, vl_e, vr_e, dpL_u, dpL_i, dpL_r, dpL_l, stS_0, stS_1, stS_s, stL_0, stL_1, stL_s, bin_0, bin_1, bin_2, bin_3, bin_4, bin_5, bdv_0, bdv_1, lbin_0, lbin_1, lbin_2, cnd_0, cnd_1, cnd_2, cnd_3, cnd_4, cnd_5, aty_0, aty_1, aty_2, aty_3, aty_4, aty_5, c8_u, cn_0, cn_i, cn_r, cn_l, Nat.reduceAdd, Nat.reduceLeDiff, Nat.le_refl, adz, hnd_0, rcv_0, rcv_1, kLen_a, kLen_r, inB_e, inR_e, cpOK_e, swt_n, swt_c, List.take_succ_cons, List.take_zero, List.drop_succ_cons, List.drop_zero, List.reverse_cons, List.reverse_nil, List.nil_append, List.cons_append, List.length_cons, List.length_nil, Option.toList_some, Option.toList_none, det_e, det_x, tr_imp, fa_imp, implies_true, not_true, not_false_eq_true, and_true, true_and, nar_i, upd_s, st1_0, st1_1, st1_2, st1_3, st1_4, st1_5, st1_6, st1_7, st1_8, st1_9, st1_10, st1_11, st1_12, st1_13, st1_14, st1_15, st1_16, st1_17, st1_18, st1_19, st1_20, st1_21, st1_22, st1_23, st1_24, st1_25, st1_26, st1_27, st1_28, st1_29, st1_30, st1_31, st1_32, st1_33, st1_34, st1_35, st1_36, st1_37, st1_42, st1_43, st1_44, st1_46, st1_47, st1_48, st1_49, st1_50, st1_51, st1_52, st1_53, st1_54, st1_55, st1_56, st1_57, st1_58, st1_59, st1_60, Nat.add_assoc, Nat.reduceEqDiff, reduceIte, (hp1.fr hN).f, hF, hj2, cj, lp_out, Nat.succ_ne_zero, ne_eq, sV, i10]
        exact ⟨fun g => by rw [if_neg g] at hq; exact hq, fun g => by rw [if_pos (Decidable.not_not.mp g)] at hq; exact hq⟩
      | succ r ih =>
        intro i N t hi hN hI ht hb hq
        obtain ⟨a1, a2, a3, -⟩ := lp_in (i := i) (n := n) (N := 100) (by omega) hn (by decide)
        have hF : Lf N (x + 78) := hI.1.2.2.2.1
        unfold huL at hq
        rw [rX10_hoursUntil_34]
        simp only [kX10_hoursUntil_34, rX10_hoursUntil_0, kX10_hoursUntil_0, rX10_hoursUntil_55, kX10_hoursUntil_55, rX10_hoursUntil_69, kX10_hoursUntil_69, rX10_hoursUntil_87, kX10_hoursUntil_87, rX10_hoursUntil_88, kX10_hoursUntil_88, eX10_hoursUntil, S20, S64, S69, S97, S98, bk_c, if_true, if_false, wi_e, wl_e, wr_e, w1_i, w1_r, ldS_0, ldS_s, vi_e, vl_e, vr_e, dpL_u, dpL_i, dpL_r, dpL_l, stS_0, stS_1, stS_s, stL_0, stL_1, stL_s, bin_0, bin_1, bin_2, bin_3, bin_4, bin_5, bdv_0, bdv_1, lbin_0, lbin_1, lbin_2, cnd_0, cnd_1, cnd_2, cnd_3, cnd_4, cnd_5, aty_0, aty_1, aty_2, aty_3, aty_4, aty_5, c8_u, cn_0, cn_i, cn_r, cn_l, Nat.reduceAdd, Nat.reduceLeDiff, Nat.le_refl, adz, hnd_0, rcv_0, rcv_1, kLen_a, kLen_r, inB_e, inR_e, cpOK_e, swt_n, swt_c, List.take_succ_cons, List.take_zero, List.drop_succ_cons, List.drop_zero, List.reverse_cons, List.reverse_nil, List.nil_append, List.cons_append, List.length_cons, List.length_nil, Option.toList_some, Option.toList_none, det_e, det_x, tr_imp, fa_imp, implies_true, not_true, not_false_eq_true, and_true, true_and, nar_i, upd_s, st1_0, st1_1, st1_2, st1_3, st1_4, st1_5, st1_6, st1_7, st1_8, st1_9, st1_10, st1_11, st1_12, st1_13, st1_14, st1_15, st1_16, st1_17, st1_18, st1_19, st1_20, st1_21, st1_22, st1_23, st1_24, st1_25, st1_26, st1_27, st1_28, st1_29, st1_30, st1_31, st1_32, st1_33, st1_34, st1_35, st1_36, st1_37, st1_42, st1_43, st1_44, st1_46, st1_47, st1_48, st1_49, st1_50, st1_51, st1_52, st1_53, st1_54, st1_55, st1_56, st1_57, st1_58, st1_59, st1_60, Nat.add_assoc, Nat.reduceEqDiff, reduceIte, (hp1.fr hN).f, hF, hj2, cj, a1, nI_1, hI, Nat.succ_ne_zero, ne_eq, sV, i10]
        refine ⟨fun g => ?_, fun g => ?_⟩
        · rw [if_neg g] at hq
          exact ih (i + 1) (phM N (x + 68)) (t + 1) (by omega) ((fr_ph N _).t hN) (hI.ph ht (by omega)).1 (hI.ph ht (by omega)).2 (by omega) hq
        · rw [if_pos (Decidable.not_not.mp g)] at hq
          exact hq
    obtain ⟨hI, t, ht, et⟩ := hp.c
    refine key _ _ n 0 _ t (Nat.zero_add n) (fr_cp M _ _) hI et (by omega) ?_
    unfold huR
    rw [h1, h2, cj, cn]
    exact ⟨rfl, rfl, rfl⟩
  · rw [h1]
    exact he
  · rw [he.1]
    exact ⟨rfl, he.2⟩
/-- what arrives at the end of a canal -/
def faL (b c : Nat) : Nat → Mm → Int32 → Int32 × Mm
  | 0, N, s => (s, N)
  | n + 1, N, s => faL b c n (phM N b) (s + gI (phM N b) (b + 7) c)
def faI (M : Mm) (x : Nat) (f : Int32) : Mm := if ¬ f < 0 ∧ f < gI (cpS M (x + 68) (x + 36)) (x + 78) 11 then sI (cpS M (x + 68) (x + 36)) (x + 89) (upd (gI (cpS M (x + 68) (x + 36)) (x + 89)) f.toNatClampNeg 1) else cpS M (x + 68) (x + 36)
def faR (M : Mm) (x : Nat) (c h f : Int32) : Int32 × Mm := faL (x + 68) c.toNatClampNeg h.toNatClampNeg (faI M x f) 0
def S88 : Sem := fun as M => match as with
  | [.ref x, .int c, .int h, .int f] => sV (XH M x ∧ vp_in c 16 ∧ cnt h 100) (some (.int (faR M x c h f).1)) (faR M x c h f).2
  | _ => sF
theorem fr_fI (M : Mm) (x : Nat) (f : Int32) : FR (faI M x f) M (x + 68) := by
  unfold faI
  split
  · exact (FR.i _ _ ⟨by omega, by omega⟩).t (fr_cp _ _ _)
  · exact fr_cp _ _ _
theorem XH.fI {M : Mm} {x : Nat} (g : XH M x) (f : Int32) : Ix (faI M x f) (x + 68) ∧ ∃ t, t ≤ 100000 ∧ gI (faI M x f) (x + 68) 6 = nI t := by
  obtain ⟨h1, t, ht, et⟩ := g.c
  unfold faI
  split
  · refine ⟨h1.ss (SS.i _ (x + 68) 21 _ (by decide) rfl), t, ht, ?_⟩
    rw [gI_f _ _ (by omega)]
    exact et
  · exact ⟨h1, t, ht, et⟩
theorem fr_fL (b c : Nat) : ∀ n N s, FR (faL b c n N s).2 N b
  | 0, _, _ => FR.r _ _
  | n + 1, N, s => (fr_fL b c n _ _).t (fr_ph N b)
theorem fr_fR (M : Mm) (x : Nat) (c h f : Int32) : FR (faR M x c h f).2 M (x + 68) := (fr_fL _ _ _ _ _).t (fr_fI M x f)
def eX10_forecastArrivals : Nat → Sem := fun id => if id = 64 then S64 else S69
set_option maxRecDepth 100000 in
set_option maxHeartbeats 4000000 in
theorem s_X10_forecastArrivals {l : Launch} {G : Gt} (hfl : l.stackTraces = false) : SatM l G 88 S88 := by
  refine t_X10_forecastArrivals (E := eX10_forecastArrivals) hfl (s_X8_copyFrom hfl) (s_X8_passHour hfl) fun as M hp => ?_
  unfold S88 at hp ⊢
  split at hp
  case h_2 => exact hp.elim
  rename_i x c h f
  obtain ⟨hp, hc, hh⟩ := hp
  refine ⟨Nat.le_of_ble_eq_true rfl, ?_⟩
  show Run (gT G) _ _ _ _ _ _ _ 0 [.val (.ref x), .val (.int c), .val (.int h), .val (.int f), .unset, .unset] [] M 0 0
  have hS := hp.s
  have hp1 := hp.1
  obtain ⟨n, hn, rfl⟩ := hh
  obtain ⟨j, hj, rfl⟩ := vp_in_of hc (by decide)
  have cn : (nI n).toNatClampNeg = n := nI_clamp (by omega)
  have cj : (nI j).toNatClampNeg = j := nI_clamp (by omega)
  have hj2 : vp_in (nI j) 16 = True := eq_true (vp_in_nI hj (by decide))
  have key : ∀ (Q : Option Value → Mm → Prop) (X : Nat → Mm → Prop) r i N s (t : Nat), i + r = n → FR N M (x + 68) → Ix N (x + 68) → gI N (x + 68) 6 = nI t → t + r < 2 ^ 30 → Q (some (.int (faL (x + 68) j r N s).1)) (faL (x + 68) j r N s).2 → Run (gT G) eX10_forecastArrivals 0 0 (fun _ _ => none) Q X kX10_forecastArrivals 48 [.val (.ref x), .val (.int (nI j)), .val (.int (nI n)), .val (.int f), .val (.int s), .val (.int (nI i))] [] N 0 0 := by
    intro Q X r
    induction r with
    | zero =>
      intro i N s t hi hN hI ht hb hq
      have hi2 : i = n := hi
      subst hi2
      unfold faL at hq
      rw [rX10_forecastArrivals_48]
      simp only [kX10_forecastArrivals_48, rX10_forecastArrivals_0, kX10_forecastArrivals_0, rX10_forecastArrivals_42, kX10_forecastArrivals_42, rX10_forecastArrivals_85, kX10_forecastArrivals_85, eX10_forecastArrivals, S64, S69, bk_c, if_true, if_false, wi_e, wl_e, wr_e, w1_i, w1_r, ldS_0, ldS_s, vi_e, vl_e, vr_e, dpL_u, dpL_i, dpL_r, dpL_l, stS_0, stS_1, stS_s, stL_0, stL_1, stL_s, bin_0, bin_1, bin_2, bin_3, bin_4, bin_5, bdv_0, bdv_1, lbin_0, lbin_1, lbin_2, cnd_0, cnd_1, cnd_2, cnd_3, cnd_4, cnd_5, aty_0, aty_1, aty_2, aty_3, aty_4, aty_5, c8_u, cn_0, cn_i, cn_r, cn_l, Nat.reduceAdd, Nat.reduceLeDiff, Nat.le_refl, adz, hnd_0, rcv_0, rcv_1, kLen_a, kLen_r, inB_e, inR_e, cpOK_e, swt_n, swt_c, List.take_succ_cons, List.take_zero, List.drop_succ_cons, List.drop_zero, List.reverse_cons, List.reverse_nil, List.nil_append, List.cons_append, List.length_cons, List.length_nil, Option.toList_some, Option.toList_none, det_e, det_x, tr_imp, fa_imp, implies_true, not_true, not_false_eq_true, and_true, true_and, nar_i, upd_s, st1_0, st1_1, st1_2, st1_3, st1_4, st1_5, st1_6, st1_7, st1_8, st1_9, st1_10, st1_11, st1_12, st1_13, st1_14, st1_15, st1_16, st1_17, st1_18, st1_19, st1_20, st1_21, st1_22, st1_23, st1_24, st1_25, st1_26, st1_27, st1_28, st1_29, st1_30, st1_31, st1_32, st1_33, st1_34, st1_35, st1_36, st1_37, st1_42, st1_43, st1_44, st1_46, st1_47, st1_48, st1_49, st1_50, st1_51, st1_52, st1_53, st1_54, st1_55, st1_56, st1_57, st1_58, st1_59, st1_60, lp_out]
      exact hq
    | succ r ih =>
      intro i N s t hi hN hI ht hb hq
      obtain ⟨a1, a2, a3, -⟩ := lp_in (i := i) (n := n) (N := 100) (by omega) hn (by decide)
      unfold faL at hq
      have hI2 := hI.ph ht (by omega)
      have hN2 : FR (phM N (x + 68)) M (x + 68) := (fr_ph N _).t hN
      rw [rX10_forecastArrivals_48]
      simp only [kX10_forecastArrivals_48, rX10_forecastArrivals_0, kX10_forecastArrivals_0, rX10_forecastArrivals_42, kX10_forecastArrivals_42, rX10_forecastArrivals_85, kX10_forecastArrivals_85, eX10_forecastArrivals, S64, S69, bk_c, if_true, if_false, wi_e, wl_e, wr_e, w1_i, w1_r, ldS_0, ldS_s, vi_e, vl_e, vr_e, dpL_u, dpL_i, dpL_r, dpL_l, stS_0, stS_1, stS_s, stL_0, stL_1, stL_s, bin_0, bin_1, bin_2, bin_3, bin_4, bin_5, bdv_0, bdv_1, lbin_0, lbin_1, lbin_2, cnd_0, cnd_1, cnd_2, cnd_3, cnd_4, cnd_5, aty_0, aty_1, aty_2, aty_3, aty_4, aty_5, c8_u, cn_0, cn_i, cn_r, cn_l, Nat.reduceAdd, Nat.reduceLeDiff, Nat.le_refl, adz, hnd_0, rcv_0, rcv_1, kLen_a, kLen_r, inB_e, inR_e, cpOK_e, swt_n, swt_c, List.take_succ_cons, List.take_zero, List.drop_succ_cons, List.drop_zero, List.reverse_cons, List.reverse_nil, List.nil_append, List.cons_append, List.length_cons, List.length_nil, Option.toList_some, Option.toList_none, det_e, det_x, tr_imp, fa_imp, implies_true, not_true, not_false_eq_true, and_true, true_and, nar_i, upd_s, st1_0, st1_1, st1_2, st1_3, st1_4, st1_5, st1_6, st1_7, st1_8, st1_9, st1_10, st1_11, st1_12, st1_13, st1_14, st1_15, st1_16, st1_17, st1_18, st1_19, st1_20, st1_21, st1_22, st1_23, st1_24, st1_25, st1_26, st1_27, st1_28, st1_29, st1_30, st1_31, st1_32, st1_33, st1_34, st1_35, st1_36, st1_37, st1_42, st1_43, st1_44, st1_46, st1_47, st1_48, st1_49, st1_50, st1_51, st1_52, st1_53, st1_54, st1_55, st1_56, st1_57, st1_58, st1_59, st1_60, Nat.add_assoc, Nat.reduceEqDiff, reduceIte, (hp1.fr hN).f, (hp1.fr hN2).f, hj2, cj, a1, nI_1, hI, Nat.succ_ne_zero, ne_eq, sV]
      exact ih (i + 1) (phM N (x + 68)) _ (t + 1) (by omega) hN2 hI2.1 hI2.2 (by omega) hq
  obtain ⟨hI, t, ht, et⟩ := hp.fI f
  have fin : ∀ N, faI M x f = N → Run (gT G) eX10_forecastArrivals 0 0 (fun _ _ => none) (fun v' M' => v' = some (.int (faR M x (nI j) (nI n) f).1) ∧ M' = (faR M x (nI j) (nI n) f).2) (fun _ _ => False) kX10_forecastArrivals 48 [.val (.ref x), .val (.int (nI j)), .val (.int (nI n)), .val (.int f), .val (.int 0), .val (.int (nI 0))] [] N 0 0 := by
    intro N hN
    subst hN
    refine key _ _ n 0 _ 0 t (Nat.zero_add n) (fr_fI M x f) hI et (by omega) ?_
    unfold faR
    rw [cj, cn]
    exact ⟨rfl, rfl⟩
  have hc12 : cnt (gI (cpS M (x + 68) (x + 36)) (x + 78) 11) 12 := hp.c.1.cF
  simp only [rX10_forecastArrivals_0, kX10_forecastArrivals_0, rX10_forecastArrivals_42, kX10_forecastArrivals_42, rX10_forecastArrivals_85, kX10_forecastArrivals_85, eX10_forecastArrivals, S64, S69, bk_c, if_true, if_false, wi_e, wl_e, wr_e, w1_i, w1_r, ldS_0, ldS_s, vi_e, vl_e, vr_e, dpL_u, dpL_i, dpL_r, dpL_l, stS_0, stS_1, stS_s, stL_0, stL_1, stL_s, bin_0, bin_1, bin_2, bin_3, bin_4, bin_5, bdv_0, bdv_1, lbin_0, lbin_1, lbin_2, cnd_0, cnd_1, cnd_2, cnd_3, cnd_4, cnd_5, aty_0, aty_1, aty_2, aty_3, aty_4, aty_5, c8_u, cn_0, cn_i, cn_r, cn_l, Nat.reduceAdd, Nat.reduceLeDiff, Nat.le_refl, adz, hnd_0, rcv_0, rcv_1, kLen_a, kLen_r, inB_e, inR_e, cpOK_e, swt_n, swt_c, List.take_succ_cons, List.take_zero, List.drop_succ_cons, List.drop_zero, List.reverse_cons, List.reverse_nil, List.nil_append, List.cons_append, List.length_cons, List.length_nil, Option.toList_some, Option.toList_none, det_e, det_x, tr_imp, fa_imp, implies_true, not_true, not_false_eq_true, and_true, true_and, nar_i, upd_s, st1_0, st1_1, st1_2, st1_3, st1_4, st1_5, st1_6, st1_7, st1_8, st1_9, st1_10, st1_11, st1_12, st1_13, st1_14, st1_15, st1_16, st1_17, st1_18, st1_19, st1_20, st1_21, st1_22, st1_23, st1_24, st1_25, st1_26, st1_27, st1_28, st1_29, st1_30, st1_31, st1_32, st1_33, st1_34, st1_35, st1_36, st1_37, st1_42, st1_43, st1_44, st1_46, st1_47, st1_48, st1_49, st1_50, st1_51, st1_52, st1_53, st1_54, st1_55, st1_56, st1_57, st1_58, st1_59, st1_60, Nat.add_assoc, Nat.reduceEqDiff, reduceIte, (hp1.fr (fr_cp M _ _)).f, hp1.f, hS, Nat.succ_ne_zero, ne_eq, sV]
  refine ⟨fun h1 => fin _ ?_, fun h1 => ⟨fun h2 => fin _ ?_, fun h2 => ⟨?_, fin _ ?_⟩⟩⟩
  · unfold faI
    rw [if_neg (fun q => q.1 h1)]
  · unfold faI
    rw [if_neg (fun q => Int32.not_lt.mpr h2 q.2)]
  · obtain ⟨k, hk, ek⟩ := hc12
    rw [ek] at h2
    exact vp_in_lt h1 (Int32.not_le.mp h2) hk (by decide)
  · unfold faI
    rw [if_pos ⟨h1, Int32.not_le.mp h2⟩]
    rfl
def S83 : Sem := fun as M => match as with
  | [.ref x, .int c, .int h] => sTh (XH M x) (orE (bI c (gI M (x + 37) 8)) (bR h 0 100)) (some (.int (faR M x c h (-1)).1)) (faR M x c h (-1)).2 M
  | _ => sF
def eX10_expected : Nat → Sem := fun id => if id = 88 then S88 else if id = 97 then S97 else S98
set_option maxRecDepth 100000 in
set_option maxHeartbeats 4000000 in
theorem s_X10_expected {l : Launch} {G : Gt} (hfl : l.stackTraces = false) : SatM l G 83 S83 := by
  refine t_X10_expected (E := eX10_expected) hfl (s_X10_forecastArrivals hfl) (s_X10_requireIndex hfl) (s_X10_requireRange hfl) fun as M hp => ?_
  unfold S83 at hp ⊢
  split at hp
  case h_2 => exact hp.elim
  rename_i x c h
  obtain hp := hp
  refine ⟨Nat.le_of_ble_eq_true rfl, ?_⟩
  show Run (gT G) _ _ _ _ _ _ _ 0 [.val (.ref x), .val (.int c), .val (.int h)] [] M 0 0
  have hp1 := hp.1
  simp only [rX10_expected_0, kX10_expected_0, eX10_expected, S88, S97, S98, bk_c, if_true, if_false, wi_e, wl_e, wr_e, w1_i, w1_r, ldS_0, ldS_s, vi_e, vl_e, vr_e, dpL_u, dpL_i, dpL_r, dpL_l, stS_0, stS_1, stS_s, stL_0, stL_1, stL_s, bin_0, bin_1, bin_2, bin_3, bin_4, bin_5, bdv_0, bdv_1, lbin_0, lbin_1, lbin_2, cnd_0, cnd_1, cnd_2, cnd_3, cnd_4, cnd_5, aty_0, aty_1, aty_2, aty_3, aty_4, aty_5, c8_u, cn_0, cn_i, cn_r, cn_l, Nat.reduceAdd, Nat.reduceLeDiff, Nat.le_refl, adz, hnd_0, rcv_0, rcv_1, kLen_a, kLen_r, inB_e, inR_e, cpOK_e, swt_n, swt_c, List.take_succ_cons, List.take_zero, List.drop_succ_cons, List.drop_zero, List.reverse_cons, List.reverse_nil, List.nil_append, List.cons_append, List.length_cons, List.length_nil, Option.toList_some, Option.toList_none, det_e, det_x, tr_imp, fa_imp, implies_true, not_true, not_false_eq_true, and_true, true_and, nar_i, upd_s, st1_0, st1_1, st1_2, st1_3, st1_4, st1_5, st1_6, st1_7, st1_8, st1_9, st1_10, st1_11, st1_12, st1_13, st1_14, st1_15, st1_16, st1_17, st1_18, st1_19, st1_20, st1_21, st1_22, st1_23, st1_24, st1_25, st1_26, st1_27, st1_28, st1_29, st1_30, st1_31, st1_32, st1_33, st1_34, st1_35, st1_36, st1_37, st1_42, st1_43, st1_44, st1_46, st1_47, st1_48, st1_49, st1_50, st1_51, st1_52, st1_53, st1_54, st1_55, st1_56, st1_57, st1_58, st1_59, st1_60, Nat.add_assoc, Nat.reduceEqDiff, reduceIte, det_s, hp1.f, Nat.succ_ne_zero, ne_eq, sV]
  refine ⟨fun h1 => ⟨fun h2 => ?_, fun e M' he => ?_⟩, fun e M' he => ?_⟩
  · refine ⟨⟨hp, bI_c h1 hp1.lc.2 (by decide), bR_c (n := 100) h2⟩, ?_⟩
    rw [h1, h2]
    exact rfl
  · rw [h1]
    exact he
  · rw [he.1]
    exact ⟨rfl, he.2⟩
/-- which forced gate explains an amount -/
def suL (x : Nat) (c h a : Int32) : Nat → Nat → Mm → Int32 × Mm
  | 0, _, N => (-1, N)
  | r + 1, k, N => if ¬ gI N (x + 57) k = 0 then suL x c h a r (k + 1) N else if (faR N x c h (nI k)).1 = a then (nI k, (faR N x c h (nI k)).2) else suL x c h a r (k + 1) (faR N x c h (nI k)).2
def suR (M : Mm) (x : Nat) (c h a : Int32) : Int32 × Mm := if (faR M x c h (-1)).1 = a then (-2, (faR M x c h (-1)).2) else suL x c h a (gI M (x + 46) 11).toNatClampNeg 0 (faR M x c h (-1)).2
def S101 : Sem := fun as M => match as with
  | [.ref x, .int c, .int h, .int a] => sTh (XH M x) (orE (bI c (gI M (x + 37) 8)) (bR h 1 50)) (some (.int (suR M x c h a).1)) (suR M x c h a).2 M
  | _ => sF
theorem bR_1 {x lo : Int32} {n : Nat} (h : bR x lo (nI n) = none) (hl : 0 < lo) : cnt x n ∧ ¬ x < lo := by
  unfold bR at h
  split at h
  · cases h
  · rename_i q
    have h0 : ¬ x < 0 := fun z => q (Or.inl (Int32.lt_trans z hl))
    obtain ⟨j, hj, rfl⟩ := nI_of h0
    rcases Nat.lt_or_ge n j with z | z
    · exact absurd (Or.inr (nI_lt z hj)) q
    · exact ⟨⟨j, z, rfl⟩, fun z => q (Or.inl z)⟩
theorem cnt.m {x : Int32} {n m : Nat} (h : cnt x n) (hn : n ≤ m) : cnt x m := by
  obtain ⟨k, h1, h2⟩ := h
  exact ⟨k, by omega, h2⟩
def eX10_suspect : Nat → Sem := fun id => if id = 88 then S88 else if id = 97 then S97 else S98
set_option maxRecDepth 100000 in
set_option maxHeartbeats 4000000 in
theorem s_X10_suspect {l : Launch} {G : Gt} (hfl : l.stackTraces = false) : SatM l G 101 S101 := by
  refine t_X10_suspect (E := eX10_suspect) hfl (s_X10_forecastArrivals hfl) (s_X10_requireIndex hfl) (s_X10_requireRange hfl) fun as M hp => ?_
  unfold S101 at hp ⊢
  split at hp
  case h_2 => exact hp.elim
  rename_i x c h a
  obtain hp := hp
  refine ⟨Nat.le_of_ble_eq_true rfl, ?_⟩
  show Run (gT G) _ _ _ _ _ _ _ 0 [.val (.ref x), .val (.int c), .val (.int h), .val (.int a), .unset] [] M 0 0
  have hp1 := hp.1
  simp only [rX10_suspect_0, kX10_suspect_0, rX10_suspect_35, kX10_suspect_35, rX10_suspect_84, kX10_suspect_84, rX10_suspect_90, kX10_suspect_90, eX10_suspect, S88, S97, S98, bk_c, if_true, if_false, wi_e, wl_e, wr_e, w1_i, w1_r, ldS_0, ldS_s, vi_e, vl_e, vr_e, dpL_u, dpL_i, dpL_r, dpL_l, stS_0, stS_1, stS_s, stL_0, stL_1, stL_s, bin_0, bin_1, bin_2, bin_3, bin_4, bin_5, bdv_0, bdv_1, lbin_0, lbin_1, lbin_2, cnd_0, cnd_1, cnd_2, cnd_3, cnd_4, cnd_5, aty_0, aty_1, aty_2, aty_3, aty_4, aty_5, c8_u, cn_0, cn_i, cn_r, cn_l, Nat.reduceAdd, Nat.reduceLeDiff, Nat.le_refl, adz, hnd_0, rcv_0, rcv_1, kLen_a, kLen_r, inB_e, inR_e, cpOK_e, swt_n, swt_c, List.take_succ_cons, List.take_zero, List.drop_succ_cons, List.drop_zero, List.reverse_cons, List.reverse_nil, List.nil_append, List.cons_append, List.length_cons, List.length_nil, Option.toList_some, Option.toList_none, det_e, det_x, tr_imp, fa_imp, implies_true, not_true, not_false_eq_true, and_true, true_and, nar_i, upd_s, st1_0, st1_1, st1_2, st1_3, st1_4, st1_5, st1_6, st1_7, st1_8, st1_9, st1_10, st1_11, st1_12, st1_13, st1_14, st1_15, st1_16, st1_17, st1_18, st1_19, st1_20, st1_21, st1_22, st1_23, st1_24, st1_25, st1_26, st1_27, st1_28, st1_29, st1_30, st1_31, st1_32, st1_33, st1_34, st1_35, st1_36, st1_37, st1_42, st1_43, st1_44, st1_46, st1_47, st1_48, st1_49, st1_50, st1_51, st1_52, st1_53, st1_54, st1_55, st1_56, st1_57, st1_58, st1_59, st1_60, Nat.add_assoc, Nat.reduceEqDiff, reduceIte, det_s, hp1.f, Nat.succ_ne_zero, ne_eq, sV]
  refine ⟨fun h1 => ⟨fun h2 => ?_, fun e M' he => ?_⟩, fun e M' he => ?_⟩
  · have hcc := bI_c h1 hp1.lc.2 (by decide)
    have hhh := (bR_1 (n := 50) h2 (by decide)).1.m (show 50 ≤ 100 by decide)
    obtain ⟨n, hn, en⟩ := hp1.lf.2
    have cn : (nI n).toNatClampNeg = n := nI_clamp (by omega)
    have key : ∀ (Q : Option Value → Mm → Prop) (X : Nat → Mm → Prop) r i N, i + r = n → FR N M (x + 68) → Q (some (.int (suL x c h a r i N).1)) (suL x c h a r i N).2 → Run (gT G) eX10_suspect 2 12 (fun _ _ => none) Q X kX10_suspect 38 [.val (.ref x), .val (.int c), .val (.int h), .val (.int a), .val (.int (nI i))] [] N 2 12 := by
      intro Q X r
      induction r with
      | zero =>
        intro i N hi hN hq
        have hi2 : i = n := hi
        subst hi2
        unfold suL at hq
        have e1 : gI N (x + 46) = gI M (x + 46) := (hN.2.2.2 _ (by omega)).1
        rw [rX10_suspect_38]
        simp only [kX10_suspect_38, rX10_suspect_0, kX10_suspect_0, rX10_suspect_35, kX10_suspect_35, rX10_suspect_84, kX10_suspect_84, rX10_suspect_90, kX10_suspect_90, eX10_suspect, S88, S97, S98, bk_c, if_true, if_false, wi_e, wl_e, wr_e, w1_i, w1_r, ldS_0, ldS_s, vi_e, vl_e, vr_e, dpL_u, dpL_i, dpL_r, dpL_l, stS_0, stS_1, stS_s, stL_0, stL_1, stL_s, bin_0, bin_1, bin_2, bin_3, bin_4, bin_5, bdv_0, bdv_1, lbin_0, lbin_1, lbin_2, cnd_0, cnd_1, cnd_2, cnd_3, cnd_4, cnd_5, aty_0, aty_1, aty_2, aty_3, aty_4, aty_5, c8_u, cn_0, cn_i, cn_r, cn_l, Nat.reduceAdd, Nat.reduceLeDiff, Nat.le_refl, adz, hnd_0, rcv_0, rcv_1, kLen_a, kLen_r, inB_e, inR_e, cpOK_e, swt_n, swt_c, List.take_succ_cons, List.take_zero, List.drop_succ_cons, List.drop_zero, List.reverse_cons, List.reverse_nil, List.nil_append, List.cons_append, List.length_cons, List.length_nil, Option.toList_some, Option.toList_none, det_e, det_x, tr_imp, fa_imp, implies_true, not_true, not_false_eq_true, and_true, true_and, nar_i, upd_s, st1_0, st1_1, st1_2, st1_3, st1_4, st1_5, st1_6, st1_7, st1_8, st1_9, st1_10, st1_11, st1_12, st1_13, st1_14, st1_15, st1_16, st1_17, st1_18, st1_19, st1_20, st1_21, st1_22, st1_23, st1_24, st1_25, st1_26, st1_27, st1_28, st1_29, st1_30, st1_31, st1_32, st1_33, st1_34, st1_35, st1_36, st1_37, st1_42, st1_43, st1_44, st1_46, st1_47, st1_48, st1_49, st1_50, st1_51, st1_52, st1_53, st1_54, st1_55, st1_56, st1_57, st1_58, st1_59, st1_60, (hp1.fr hN).f, e1, en, lp_out, Nat.succ_ne_zero, ne_eq]
        exact hq
      | succ r ih =>
        intro i N hi hN hq
        obtain ⟨a1, a2, a3, -⟩ := lp_in (i := i) (n := n) (N := 12) (by omega) hn (by decide)
        have e1 : gI N (x + 46) = gI M (x + 46) := (hN.2.2.2 _ (by omega)).1
        have hN2 : FR (faR N x c h (nI i)).2 M (x + 68) := (fr_fR N x c h (nI i)).t hN
        unfold suL at hq
        rw [rX10_suspect_38]
        simp only [kX10_suspect_38, rX10_suspect_0, kX10_suspect_0, rX10_suspect_35, kX10_suspect_35, rX10_suspect_84, kX10_suspect_84, rX10_suspect_90, kX10_suspect_90, eX10_suspect, S88, S97, S98, bk_c, if_true, if_false, wi_e, wl_e, wr_e, w1_i, w1_r, ldS_0, ldS_s, vi_e, vl_e, vr_e, dpL_u, dpL_i, dpL_r, dpL_l, stS_0, stS_1, stS_s, stL_0, stL_1, stL_s, bin_0, bin_1, bin_2, bin_3, bin_4, bin_5, bdv_0, bdv_1, lbin_0, lbin_1, lbin_2, cnd_0, cnd_1, cnd_2, cnd_3, cnd_4, cnd_5, aty_0, aty_1, aty_2, aty_3, aty_4, aty_5, c8_u, cn_0, cn_i, cn_r, cn_l, Nat.reduceAdd, Nat.reduceLeDiff, Nat.le_refl, adz, hnd_0, rcv_0, rcv_1, kLen_a, kLen_r, inB_e, inR_e, cpOK_e, swt_n, swt_c, List.take_succ_cons, List.take_zero, List.drop_succ_cons, List.drop_zero, List.reverse_cons, List.reverse_nil, List.nil_append, List.cons_append, List.length_cons, List.length_nil, Option.toList_some, Option.toList_none, det_e, det_x, tr_imp, fa_imp, implies_true, not_true, not_false_eq_true, and_true, true_and, nar_i, upd_s, st1_0, st1_1, st1_2, st1_3, st1_4, st1_5, st1_6, st1_7, st1_8, st1_9, st1_10, st1_11, st1_12, st1_13, st1_14, st1_15, st1_16, st1_17, st1_18, st1_19, st1_20, st1_21, st1_22, st1_23, st1_24, st1_25, st1_26, st1_27, st1_28, st1_29, st1_30, st1_31, st1_32, st1_33, st1_34, st1_35, st1_36, st1_37, st1_42, st1_43, st1_44, st1_46, st1_47, st1_48, st1_49, st1_50, st1_51, st1_52, st1_53, st1_54, st1_55, st1_56, st1_57, st1_58, st1_59, st1_60, Nat.add_assoc, Nat.reduceEqDiff, reduceIte, (hp1.fr hN).f, e1, en, a1, a2, a3, nI_1, Nat.succ_ne_zero, ne_eq, sV]
        refine ⟨fun g => ?_, fun g => ⟨⟨hp.fr hN, hcc, hhh⟩, fun g2 => ?_, fun g2 => ?_⟩⟩
        · rw [if_pos g] at hq
          exact ih (i + 1) N (by omega) hN hq
        · rw [if_neg g, if_neg g2] at hq
          exact ih (i + 1) _ (by omega) hN2 hq
        · rw [if_neg g, if_pos (Decidable.not_not.mp g2)] at hq
          exact hq
    refine ⟨⟨hp, hcc, hhh⟩, fun g => ?_, fun g => ?_⟩
    · refine key _ _ n 0 _ (Nat.zero_add n) (fr_fR M x c h (-1)) ?_
      unfold suR
      rw [h1, h2, if_neg g, en, cn]
      exact ⟨rfl, rfl, rfl⟩
    · unfold suR
      rw [h1, h2, if_pos (Decidable.not_not.mp g)]
      exact ⟨rfl, rfl, rfl⟩
  · rw [h1]
    exact he
  · rw [he.1]
    exact ⟨rfl, he.2⟩
