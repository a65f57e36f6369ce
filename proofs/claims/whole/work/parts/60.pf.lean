/-! ===== IrrigationTurnsModel: readTurn, readCanal, readField ===== -/
/-- a number into a place of the draft -/
def puN (m : Nat) (x : Int32 × Mm) (i : Nat) : Mm := sI x.2 (m + 3) (upd (gI x.2 (m + 3)) i x.1)
theorem pu_3 (m : Nat) (x : Int32 × Mm) (i : Nat) : sI x.2 (m + 3) (upd (gI x.2 (m + 3)) i x.1) = puN m x i := rfl
/-- what the reading of a statement leaves alone; the codes aside -/
def RD (N M : Mm) (m : Nat) : Prop := kpI N M ∧ gJ N = gJ M ∧ (∀ q, q ≠ m → q ≠ m + 3 → gI N q = gI M q) ∧ (∀ j, j ≠ 4 → j ≠ 5 → j ≠ 6 → j ≠ 13 → gI N m j = gI M m j) ∧ (PJ M m → PJ N m)
theorem RD.r (M : Mm) (m : Nat) : RD M M m := ⟨kpI.r _, rfl, fun _ _ _ => rfl, fun _ _ _ _ _ => rfl, id⟩
theorem RD.t {A B C : Mm} {m : Nat} (h : RD A B m) (g : RD B C m) : RD A C m := ⟨h.1.t g.1, h.2.1.trans g.2.1, fun q a b => (h.2.2.1 q a b).trans (g.2.2.1 q a b), fun j a b c d => (h.2.2.2.1 j a b c d).trans (g.2.2.2.1 j a b c d), fun z => h.2.2.2.2 (g.2.2.2.2 z)⟩
theorem LM.rd {M N : Mm} {m : Nat} (g : LM M m) (h : RD N M m) : LM N m := g.kp h.1.1 h.1.2.1
theorem rd_d (M : Mm) (m : Nat) (f : Nat → Int32) : RD (sI M (m + 3) f) M m := ⟨kpI.i _ _ _, rfl, fun q _ h => gI_f _ _ h, fun j _ _ _ _ => by rw [gI_f _ _ (by omega)], fun h => by unfold PJ at h ⊢; rw [gI_f _ _ (by omega)]; exact h⟩
theorem rd_re (M : Mm) (m : Nat) (k o : Int32) : RD (reN M m k o) M m := ⟨re_k _ _ _ _, by unfold reN; split <;> rfl, fun q h _ => re_f _ _ _ h, fun j _ h5 h6 _ => re_n _ _ _ _ h5 h6, fun h => h.re _ _⟩
theorem rd_ps {M : Mm} {m : Nat} (q : Nat) (hq : PJ M m → ∃ L, L ≤ 900 ∧ q ≤ L ∧ gI M m 3 = nI L) : RD (psM M m q) M m := ⟨ps_k _ _ _, rfl, fun p hp _ => ps_f M hp, fun j h4 _ _ _ => ps_n M m q h4, fun h => by
  obtain ⟨L, h1, h2, h3⟩ := hq h
  exact ⟨L, q, h1, h2, by rw [ps_n _ _ _ (by decide)]; exact h3, ps_4 _ _ _⟩⟩
theorem rd_nx (M : Mm) (m : Nat) : RD (nxN M m) M m := rd_ps _ fun ⟨L, p, h1, h2, h3, h4⟩ => ⟨L, h1, (nxp_b h1 h2 h3 h4).2.1, h3⟩
theorem rd_xp (M : Mm) (m : Nat) {c : Int32} (hc : ¬ c = -1) : RD (xpN M m c) M m := by
  unfold xpN
  split
  · exact RD.r _ _
  · split
    · rename_i g
      refine rd_ps _ fun ⟨L, p, h1, h2, h3, h4⟩ => ⟨L, h1, ?_, h3⟩
      have hb := nxp_b h1 h2 h3 h4
      unfold nxc at g
      rw [hb.2.2.1] at g
      exact bA_lt (fun e => hc (g.symm.trans e))
    · exact (rd_re _ _ _ _).t (rd_nx M m)
theorem rd_nu (M : Mm) (m : Nat) (lo hi : Int32) : RD (nuN M m lo hi).2 M m := by
  unfold nuN
  split
  · exact RD.r _ _
  · split
    · exact (rd_re _ _ _ _).t (rd_nx M m)
    · dsimp only
      have h2 : RD (nm2 M m) M m := by
        rw [nm2_e]
        refine RD.t ⟨kpI.i _ _ _, rfl, fun q h _ => gI_f _ _ h, fun j _ _ _ h13 => by rw [gI_s, upd_n _ _ h13], fun h => ?_⟩ (rd_ps (nmV M m).2 fun ⟨L, p, h1, h2, h3, h4⟩ => ⟨L, h1, (nm_b h1 h2 h3 h4).2, h3⟩)
        unfold PJ at h ⊢
        rw [gI_s, upd_n _ _ (by decide), upd_n _ _ (by decide)]
        exact h
      split
      · exact h2
      · exact (rd_re _ _ _ _).t h2
theorem rd_tw (M : Mm) (m : Nat) {w : Nat} (hw : w < 10) : RD (twN M m w).2 M m := by
  unfold twN
  split
  · exact RD.r _ _
  · split
    · exact rd_nx M m
    · rename_i g
      refine rd_ps _ fun ⟨L, p, h1, h2, h3, h4⟩ => ⟨L, h1, ?_, h3⟩
      obtain ⟨o1, o2⟩ := sB_ok w hw
      have hb := nxp_b h1 h2 h3 h4
      rw [hb.2.2.1] at g
      exact mtQ_b _ L _ _ g o1 (fun e => by rw [e] at o2; exact absurd o2 (by decide))
theorem rd_pu {x : Int32 × Mm} {M : Mm} {m : Nat} (h : RD x.2 M m) (i : Nat) : RD (puN m x i) M m := (rd_d _ _ _).t h
/-- numbers change no place of the draft -/
theorem nu_d (M : Mm) (m : Nat) (lo hi : Int32) : gI (nuN M m lo hi).2 (m + 3) = gI M (m + 3) := by
  unfold nuN
  split
  · rfl
  · split
    · rw [re_f _ _ _ (by omega)]; exact ps_3 _ _ _
    · dsimp only
      have h2 : gI (nm2 M m) (m + 3) = gI M (m + 3) := by
        unfold nm2 nm1
        rw [ps_3, gI_f _ _ (by omega)]
      split
      · exact h2
      · rw [re_f _ _ _ (by omega)]; exact h2
theorem tw_d (M : Mm) (m w : Nat) : gI (twN M m w).2 (m + 3) = gI M (m + 3) := by
  unfold twN
  split
  · rfl
  · split
    · exact ps_3 _ _ _
    · exact ps_3 _ _ _
theorem re_d (M : Mm) (m : Nat) (k o : Int32) : gI (reN M m k o) (m + 3) = gI M (m + 3) := re_f _ _ _ (by omega)
def up1 (m : Nat) (N : Mm) (i : Nat) : Mm := sI N (m + 3) (upd (gI N (m + 3)) i (gI N (m + 3) i + 1))
/-! == a turn == -/
def st1N (M : Mm) (m : Nat) (c n : Int32) (s : Int32) : Mm := if gI M (m + 3) c.toNatClampNeg = n then reN M m (-4) s else M
def mt2 (M : Mm) (m k : Nat) : Mm := puN m (nuN (puN m (nuN M m 0 5) (353 + 2 * k)) m 1 99) (353 + 2 * k + 1)
def mtM (M : Mm) (m : Nat) (s : Int32) : Mm :=
  if ¬ gI (st1N M m 2 12 s) m 5 = 0 then st1N M m 2 12 s else up1 m (mt2 M m (gI M (m + 3) 2).toNatClampNeg) 2
def S164 : Sem := fun as M => match as with
  | [.ref m, .int s] => sV (LM M m ∧ PJ M m ∧ cnt (gI M (m + 3) 2) 12) none (mtM M m s)
  | _ => sF
theorem rd_st (M : Mm) (m : Nat) (c n s : Int32) : RD (st1N M m c n s) M m := by
  unfold st1N
  split
  · exact rd_re _ _ _ _
  · exact RD.r _ _
theorem up_351 (f : Nat → Int32) (k : Nat) (x : Int32) : upd f (353 + 2 * k) x 2 = f 2 := upd_n _ _ (by omega)
theorem up_352 (f : Nat → Int32) (k : Nat) (x : Int32) : upd f (353 + 2 * k + 1) x 2 = f 2 := upd_n _ _ (by omega)
def eX11_readTurn : Nat → Sem := fun id => if id = 146 then S146 else if id = 155 then S155 else S166
set_option maxRecDepth 100000 in
set_option maxHeartbeats 4000000 in
theorem s_X11_readTurn {l : Launch} {G : Gt} (hfl : l.stackTraces = false) : SatM l G 164 S164 := by
  refine t_X11_readTurn (E := eX11_readTurn) hfl (s_X11_isGood hfl) (s_X11_number hfl) (s_X11_report hfl) fun as M hp => ?_
  unfold S164 at hp ⊢
  split at hp
  case h_2 => exact hp.elim
  rename_i m s
  obtain ⟨hp, hJ, n, hn, en⟩ := hp
  refine ⟨Nat.le_of_ble_eq_true rfl, ?_⟩
  show Run (gT G) _ _ _ _ _ _ _ 0 [.val (.ref m), .val (.int s), .unset] [] M 0 0
  have cn : (nI n).toNatClampNeg = n := nI_clamp (by omega)
  have i12 : ((12 : Int32) = nI 12) := rfl
  have fin : ∀ N, N = M → n < 12 → gI M m 5 = 0 → Run (gT G) eX11_readTurn 0 0 (fun _ _ => none) (fun v' M' => v' = none ∧ M' = up1 m (mt2 M m n) 2) (fun _ _ => False) kX11_readTurn 39 [.val (.ref m), .val (.int s), .val (.int (nI (353 + 2 * n)))] [] N 0 0 := by
    intro N hN hlt _
    subst hN
    have a1 := xTn hlt
    have L1 := hp.rd (rd_nu N m 0 5)
    have J1 := (rd_nu N m 0 5).2.2.2.2 hJ
    have r2 := rd_pu (rd_nu N m 0 5) (353 + 2 * n)
    have L2 := hp.rd r2
    have J2 := r2.2.2.2.2 hJ
    have r3 := (rd_nu (puN m (nuN N m 0 5) (353 + 2 * n)) m 1 99).t r2
    have L3 := hp.rd r3
    have r4 := rd_pu r3 (353 + 2 * n + 1)
    have L4 := hp.rd r4
    have e4 : puN m (nuN (puN m (nuN N m 0 5) (353 + 2 * n)) m 1 99) (353 + 2 * n + 1) = mt2 N m n := rfl
    have e5 : sI (mt2 N m n) (m + 3) (upd (gI (mt2 N m n) (m + 3)) 2 (gI (mt2 N m n) (m + 3) 2 + 1)) = up1 m (mt2 N m n) 2 := rfl
    rw [e4] at L4
    rw [rX11_readTurn_39]
    simp only [kX11_readTurn_39, eX11_readTurn, S146, S155, S166, bk_c, if_true, if_false, wi_e, wl_e, wr_e, w1_i, w1_r, ldS_0, ldS_s, vi_e, vl_e, vr_e, dpL_u, dpL_i, dpL_r, dpL_l, stS_0, stS_1, stS_s, stL_0, stL_1, stL_s, bin_0, bin_1, bin_2, bin_3, bin_4, bin_5, bdv_0, bdv_1, lbin_0, lbin_1, lbin_2, cnd_0, cnd_1, cnd_2, cnd_3, cnd_4, cnd_5, aty_0, aty_1, aty_2, aty_3, aty_4, aty_5, c8_u, cn_0, cn_i, cn_r, cn_l, Nat.reduceAdd, Nat.reduceLeDiff, Nat.le_refl, adz, hnd_0, rcv_0, rcv_1, kLen_a, kLen_r, inB_e, inR_e, cpOK_e, swt_n, swt_c, List.take_succ_cons, List.take_zero, List.drop_succ_cons, List.drop_zero, List.reverse_cons, List.reverse_nil, List.nil_append, List.cons_append, List.length_cons, List.length_nil, Option.toList_some, Option.toList_none, det_e, det_x, tr_imp, fa_imp, implies_true, not_true, not_false_eq_true, and_true, true_and, nar_i, upd_s, st1_0, st1_1, st1_2, st1_3, st1_4, st1_5, st1_6, st1_7, st1_8, st1_9, st1_10, st1_11, st1_12, st1_13, st1_14, st1_15, st1_16, st1_17, st1_18, st1_19, st1_20, st1_21, st1_22, st1_23, st1_24, st1_25, st1_26, st1_27, st1_28, st1_29, st1_30, st1_31, st1_32, st1_33, st1_34, st1_35, st1_36, st1_37, st1_42, st1_43, st1_44, st1_46, st1_47, st1_48, st1_49, st1_50, st1_51, st1_52, st1_53, st1_54, st1_55, st1_56, st1_57, st1_58, st1_59, st1_60, Nat.reduceEqDiff, reduceIte, sV, hp.f, hp, hJ, L1.f, nI_1, a1, pu_3, L2, L2.f, J2, L3.f, e4, L4.f, xL0, xL1, e5, Nat.succ_ne_zero, ne_eq]
  unfold mtM st1N
  rw [show (2 : Int32).toNatClampNeg = 2 from rfl, en, cn]
  by_cases h12 : nI n = 12
  · have h12t : (nI n = 12) = True := eq_true h12
    rw [if_pos h12, if_pos (re_5 (by decide))]
    have g1 : (gI (reN M m (-4) s) m 5 = 0) = False := eq_false (re_5 (by decide))
    have L1 := hp.rd (rd_re M m (-4) s)
    simp only [rX11_readTurn_0, kX11_readTurn_0, rX11_readTurn_31, kX11_readTurn_31, eX11_readTurn, S146, S155, S166, bk_c, if_true, if_false, wi_e, wl_e, wr_e, w1_i, w1_r, ldS_0, ldS_s, vi_e, vl_e, vr_e, dpL_u, dpL_i, dpL_r, dpL_l, stS_0, stS_1, stS_s, stL_0, stL_1, stL_s, bin_0, bin_1, bin_2, bin_3, bin_4, bin_5, bdv_0, bdv_1, lbin_0, lbin_1, lbin_2, cnd_0, cnd_1, cnd_2, cnd_3, cnd_4, cnd_5, aty_0, aty_1, aty_2, aty_3, aty_4, aty_5, c8_u, cn_0, cn_i, cn_r, cn_l, Nat.reduceAdd, Nat.reduceLeDiff, Nat.le_refl, adz, hnd_0, rcv_0, rcv_1, kLen_a, kLen_r, inB_e, inR_e, cpOK_e, swt_n, swt_c, List.take_succ_cons, List.take_zero, List.drop_succ_cons, List.drop_zero, List.reverse_cons, List.reverse_nil, List.nil_append, List.cons_append, List.length_cons, List.length_nil, Option.toList_some, Option.toList_none, det_e, det_x, tr_imp, fa_imp, implies_true, not_true, not_false_eq_true, and_true, true_and, nar_i, upd_s, st1_0, st1_1, st1_2, st1_3, st1_4, st1_5, st1_6, st1_7, st1_8, st1_9, st1_10, st1_11, st1_12, st1_13, st1_14, st1_15, st1_16, st1_17, st1_18, st1_19, st1_20, st1_21, st1_22, st1_23, st1_24, st1_25, st1_26, st1_27, st1_28, st1_29, st1_30, st1_31, st1_32, st1_33, st1_34, st1_35, st1_36, st1_37, st1_42, st1_43, st1_44, st1_46, st1_47, st1_48, st1_49, st1_50, st1_51, st1_52, st1_53, st1_54, st1_55, st1_56, st1_57, st1_58, st1_59, st1_60, Nat.reduceEqDiff, reduceIte, sV, hp.f, hp, xL0, xL1, en, t35, h12t, L1, L1.f, b9_0, g1, Nat.succ_ne_zero, ne_eq]
  · have h12f : (nI n = 12) = False := eq_false h12
    rw [if_neg h12]
    have hlt : n < 12 := by
      rcases Nat.lt_or_ge n 12 with z | z
      · exact z
      · exact absurd (show nI n = 12 by rw [show n = 12 by omega]; rfl) h12
    by_cases he : gI M m 5 = 0
    · have he1 : (gI M m 5 = 0) = True := eq_true he
      rw [if_neg (fun q => q he)]
      simp only [rX11_readTurn_0, kX11_readTurn_0, rX11_readTurn_31, kX11_readTurn_31, eX11_readTurn, S146, S155, S166, bk_c, if_true, if_false, wi_e, wl_e, wr_e, w1_i, w1_r, ldS_0, ldS_s, vi_e, vl_e, vr_e, dpL_u, dpL_i, dpL_r, dpL_l, stS_0, stS_1, stS_s, stL_0, stL_1, stL_s, bin_0, bin_1, bin_2, bin_3, bin_4, bin_5, bdv_0, bdv_1, lbin_0, lbin_1, lbin_2, cnd_0, cnd_1, cnd_2, cnd_3, cnd_4, cnd_5, aty_0, aty_1, aty_2, aty_3, aty_4, aty_5, c8_u, cn_0, cn_i, cn_r, cn_l, Nat.reduceAdd, Nat.reduceLeDiff, Nat.le_refl, adz, hnd_0, rcv_0, rcv_1, kLen_a, kLen_r, inB_e, inR_e, cpOK_e, swt_n, swt_c, List.take_succ_cons, List.take_zero, List.drop_succ_cons, List.drop_zero, List.reverse_cons, List.reverse_nil, List.nil_append, List.cons_append, List.length_cons, List.length_nil, Option.toList_some, Option.toList_none, det_e, det_x, tr_imp, fa_imp, implies_true, not_true, not_false_eq_true, and_true, true_and, nar_i, upd_s, st1_0, st1_1, st1_2, st1_3, st1_4, st1_5, st1_6, st1_7, st1_8, st1_9, st1_10, st1_11, st1_12, st1_13, st1_14, st1_15, st1_16, st1_17, st1_18, st1_19, st1_20, st1_21, st1_22, st1_23, st1_24, st1_25, st1_26, st1_27, st1_28, st1_29, st1_30, st1_31, st1_32, st1_33, st1_34, st1_35, st1_36, st1_37, st1_42, st1_43, st1_44, st1_46, st1_47, st1_48, st1_49, st1_50, st1_51, st1_52, st1_53, st1_54, st1_55, st1_56, st1_57, st1_58, st1_59, st1_60, Nat.reduceEqDiff, reduceIte, sV, hp.f, hp, xL0, xL1, en, t35, h12f, b9_0, he1, Nat.succ_ne_zero, ne_eq]
      exact fin M rfl hlt he
    · have he1 : (gI M m 5 = 0) = False := eq_false he
      rw [if_pos he]
      simp only [rX11_readTurn_0, kX11_readTurn_0, rX11_readTurn_31, kX11_readTurn_31, eX11_readTurn, S146, S155, S166, bk_c, if_true, if_false, wi_e, wl_e, wr_e, w1_i, w1_r, ldS_0, ldS_s, vi_e, vl_e, vr_e, dpL_u, dpL_i, dpL_r, dpL_l, stS_0, stS_1, stS_s, stL_0, stL_1, stL_s, bin_0, bin_1, bin_2, bin_3, bin_4, bin_5, bdv_0, bdv_1, lbin_0, lbin_1, lbin_2, cnd_0, cnd_1, cnd_2, cnd_3, cnd_4, cnd_5, aty_0, aty_1, aty_2, aty_3, aty_4, aty_5, c8_u, cn_0, cn_i, cn_r, cn_l, Nat.reduceAdd, Nat.reduceLeDiff, Nat.le_refl, adz, hnd_0, rcv_0, rcv_1, kLen_a, kLen_r, inB_e, inR_e, cpOK_e, swt_n, swt_c, List.take_succ_cons, List.take_zero, List.drop_succ_cons, List.drop_zero, List.reverse_cons, List.reverse_nil, List.nil_append, List.cons_append, List.length_cons, List.length_nil, Option.toList_some, Option.toList_none, det_e, det_x, tr_imp, fa_imp, implies_true, not_true, not_false_eq_true, and_true, true_and, nar_i, upd_s, st1_0, st1_1, st1_2, st1_3, st1_4, st1_5, st1_6, st1_7, st1_8, st1_9, st1_10, st1_11, st1_12, st1_13, st1_14, st1_15, st1_16, st1_17, st1_18, st1_19, st1_20, st1_21, st1_22, st1_23, st1_24, st1_25, st1_26, st1_27, st1_28, st1_29, st1_30, st1_31, st1_32, st1_33, st1_34, st1_35, st1_36, st1_37, st1_42, st1_43, st1_44, st1_46, st1_47, st1_48, st1_49, st1_50, st1_51, st1_52, st1_53, st1_54, st1_55, st1_56, st1_57, st1_58, st1_59, st1_60, Nat.reduceEqDiff, reduceIte, sV, hp.f, hp, xL0, xL1, en, t35, h12f, b9_0, he1, Nat.succ_ne_zero, ne_eq]
