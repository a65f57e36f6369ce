/-! ===== IrrigationTurnsModel: predictions ===== -/
theorem si_k (M : Mm) (m q : Nat) : gK (siM M m q) = gK M ∧ gP (siM M m q) = gP M ∧ gZ (siM M m q) = gZ M := ⟨rfl, rfl, rfl⟩
theorem LM.si {M : Mm} {m : Nat} (g : LM M m) (q : Nat) : LM (siM M m q) m := g.kp rfl rfl
theorem si_f (M : Mm) {m q p : Nat} (h : p ≠ q) (h1 : p ≠ m + 15) (h2 : p ≠ m + 16) : gI (siM M m q) p = gI M p := by
  unfold siM siN
  rw [gI_f _ _ h, gI_f _ _ h2, gI_f _ _ h1, gI_J]
/-- the rows that the reference may write -/
def FM (N M : Mm) (m : Nat) : Prop := gK N = gK M ∧ gP N = gP M ∧ gZ N = gZ M ∧ ∀ q, (q ≠ m + 4 ∧ q ≠ m + 15 ∧ q ≠ m + 16) → gI N q = gI M q
theorem FM.r (M : Mm) (m : Nat) : FM M M m := ⟨rfl, rfl, rfl, fun _ _ => rfl⟩
theorem FM.t {A B C : Mm} {m : Nat} (h : FM A B m) (g : FM B C m) : FM A C m := ⟨h.1.trans g.1, h.2.1.trans g.2.1, h.2.2.1.trans g.2.2.1, fun q hq => (h.2.2.2 q hq).trans (g.2.2.2 q hq)⟩
theorem fm_si (M : Mm) (m : Nat) : FM (siM M m (m + 4)) M m := ⟨rfl, rfl, rfl, fun q hq => si_f M hq.1 hq.2.1 hq.2.2⟩
theorem fm_4 (M : Mm) (m : Nat) (f : Nat → Int32) : FM (sI M (m + 4) f) M m := ⟨rfl, rfl, rfl, fun q hq => gI_f _ _ hq.1⟩
theorem LM.fm {M N : Mm} {m : Nat} (h : FM N M m) (g : LM M m) : LM N m := g.kp h.1 h.2.1
/-- hours that can be simulated on the row q -/
def arP (m q : Nat) : Nat → Mm → Prop
  | 0, _ => True
  | r + 1, N => SP (gI N q) ∧ arP m q r (siM N m q)
def arL (m c : Nat) : Nat → Mm → Int32 → Int32 × Mm
  | 0, N, s => (s, N)
  | r + 1, N, s => arL m c r (siM N m (m + 4)) (s + gI (siM N m (m + 4)) (m + 4) (13 + 13 * c + 5))
theorem fm_ar (m c : Nat) : ∀ r N s, FM (arL m c r N s).2 N m
  | 0, _, _ => FM.r _ _
  | r + 1, N, s => (fm_ar m c r _ _).t (fm_si N m)
def S111 : Sem := fun as M => match as with
  | [.ref m, .int c, .int h] => sV (LM M m ∧ (∃ j, j < 16 ∧ c = nI j) ∧ cnt h 100 ∧ arP m (m + 4) h.toNatClampNeg M) (some (.int (arL m c.toNatClampNeg h.toNatClampNeg M 0).1)) (arL m c.toNatClampNeg h.toNatClampNeg M 0).2
  | _ => sF
theorem or_4 (m : Nat) : (m + 4 = m + 2 ∨ m + 4 = m + 4) = True := eq_true (Or.inr rfl)
theorem or_2 (m : Nat) : (m + 2 = m + 2 ∨ m + 2 = m + 4) = True := eq_true (Or.inl rfl)
def eX11_arrives : Nat → Sem := fun id => if id = 113 then S113 else S168
set_option maxRecDepth 100000 in
set_option maxHeartbeats 4000000 in
theorem s_X11_arrives {l : Launch} {G : Gt} (hfl : l.stackTraces = false) : SatM l G 111 S111 := by
  refine t_X11_arrives (E := eX11_arrives) hfl (s_X11_canal hfl) (s_X11_simulate hfl) fun as M hp => ?_
  unfold S111 at hp ⊢
  split at hp
  case h_2 => exact hp.elim
  rename_i m c h
  obtain ⟨hp, ⟨j, hj, ej⟩, ⟨n, hn, en⟩, hA⟩ := hp
  refine ⟨Nat.le_of_ble_eq_true rfl, ?_⟩
  show Run (gT G) _ _ _ _ _ _ _ 0 [.val (.ref m), .val (.int c), .val (.int h), .unset, .unset] [] M 0 0
  subst ej en
  have cn : (nI n).toNatClampNeg = n := nI_clamp (by omega)
  have cj : (nI j).toNatClampNeg = j := nI_clamp (by omega)
  have x5 := xC hj (show 5 ≤ 12 by decide)
  rw [cn] at hA
  have key : ∀ r i N s, i + r = n → LM N m → arP m (m + 4) r N → Run (gT G) eX11_arrives 0 0 (fun _ _ => none) (fun v' M' => v' = some (.int (arL m j r N s).1) ∧ M' = (arL m j r N s).2) (fun _ _ => False) kX11_arrives 5 [.val (.ref m), .val (.int (nI j)), .val (.int (nI n)), .val (.int s), .val (.int (nI i))] [] N 0 0 := by
    intro r
    induction r with
    | zero =>
      intro i N s hi hN hA
      have hi2 : i = n := hi
      subst hi2
      rw [rX11_arrives_5]
      simp only [kX11_arrives_5, rX11_arrives_0, kX11_arrives_0, rX11_arrives_39, kX11_arrives_39, eX11_arrives, S113, S168, bk_c, if_true, if_false, wi_e, wl_e, wr_e, w1_i, w1_r, ldS_0, ldS_s, vi_e, vl_e, vr_e, dpL_u, dpL_i, dpL_r, dpL_l, stS_0, stS_1, stS_s, stL_0, stL_1, stL_s, bin_0, bin_1, bin_2, bin_3, bin_4, bin_5, bdv_0, bdv_1, lbin_0, lbin_1, lbin_2, cnd_0, cnd_1, cnd_2, cnd_3, cnd_4, cnd_5, aty_0, aty_1, aty_2, aty_3, aty_4, aty_5, c8_u, cn_0, cn_i, cn_r, cn_l, Nat.reduceAdd, Nat.reduceLeDiff, Nat.le_refl, adz, hnd_0, rcv_0, rcv_1, kLen_a, kLen_r, inB_e, inR_e, cpOK_e, swt_n, swt_c, List.take_succ_cons, List.take_zero, List.drop_succ_cons, List.drop_zero, List.reverse_cons, List.reverse_nil, List.nil_append, List.cons_append, List.length_cons, List.length_nil, Option.toList_some, Option.toList_none, det_e, det_x, tr_imp, fa_imp, implies_true, not_true, not_false_eq_true, and_true, true_and, nar_i, upd_s, st1_0, st1_1, st1_2, st1_3, st1_4, st1_5, st1_6, st1_7, st1_8, st1_9, st1_10, st1_11, st1_12, st1_13, st1_14, st1_15, st1_16, st1_17, st1_18, st1_19, st1_20, st1_21, st1_22, st1_23, st1_24, st1_25, st1_26, st1_27, st1_28, st1_29, st1_30, st1_31, st1_32, st1_33, st1_34, st1_35, st1_36, st1_37, st1_42, st1_43, st1_44, st1_46, st1_47, st1_48, st1_49, st1_50, st1_51, st1_52, st1_53, st1_54, st1_55, st1_56, st1_57, st1_58, st1_59, st1_60, lp_out, arL]
    | succ r ih =>
      intro i N s hi hN hA
      obtain ⟨a1, a2, a3, -⟩ := lp_in (i := i) (n := n) (N := 100) (by omega) hn (by decide)
      have hN2 := hN.si (m + 4)
      have hS := hA.1
      rw [rX11_arrives_5]
      simp only [kX11_arrives_5, rX11_arrives_0, kX11_arrives_0, rX11_arrives_39, kX11_arrives_39, eX11_arrives, S113, S168, bk_c, if_true, if_false, wi_e, wl_e, wr_e, w1_i, w1_r, ldS_0, ldS_s, vi_e, vl_e, vr_e, dpL_u, dpL_i, dpL_r, dpL_l, stS_0, stS_1, stS_s, stL_0, stL_1, stL_s, bin_0, bin_1, bin_2, bin_3, bin_4, bin_5, bdv_0, bdv_1, lbin_0, lbin_1, lbin_2, cnd_0, cnd_1, cnd_2, cnd_3, cnd_4, cnd_5, aty_0, aty_1, aty_2, aty_3, aty_4, aty_5, c8_u, cn_0, cn_i, cn_r, cn_l, Nat.reduceAdd, Nat.reduceLeDiff, Nat.le_refl, adz, hnd_0, rcv_0, rcv_1, kLen_a, kLen_r, inB_e, inR_e, cpOK_e, swt_n, swt_c, List.take_succ_cons, List.take_zero, List.drop_succ_cons, List.drop_zero, List.reverse_cons, List.reverse_nil, List.nil_append, List.cons_append, List.length_cons, List.length_nil, Option.toList_some, Option.toList_none, det_e, det_x, tr_imp, fa_imp, implies_true, not_true, not_false_eq_true, and_true, true_and, nar_i, upd_s, st1_0, st1_1, st1_2, st1_3, st1_4, st1_5, st1_6, st1_7, st1_8, st1_9, st1_10, st1_11, st1_12, st1_13, st1_14, st1_15, st1_16, st1_17, st1_18, st1_19, st1_20, st1_21, st1_22, st1_23, st1_24, st1_25, st1_26, st1_27, st1_28, st1_29, st1_30, st1_31, st1_32, st1_33, st1_34, st1_35, st1_36, st1_37, st1_42, st1_43, st1_44, st1_46, st1_47, st1_48, st1_49, st1_50, st1_51, st1_52, st1_53, st1_54, st1_55, st1_56, st1_57, st1_58, st1_59, st1_60, Nat.reduceEqDiff, reduceIte, sV, hN, hN.f, hN2.f, or_true, hS, a1, c13, ad_5, x5, nI_1, Nat.succ_ne_zero, ne_eq, arL]
      exact ih (i + 1) _ _ (by omega) hN2 hA.2
  simp only [rX11_arrives_0, kX11_arrives_0, rX11_arrives_39, kX11_arrives_39, eX11_arrives, S113, S168, bk_c, if_true, if_false, wi_e, wl_e, wr_e, w1_i, w1_r, ldS_0, ldS_s, vi_e, vl_e, vr_e, dpL_u, dpL_i, dpL_r, dpL_l, stS_0, stS_1, stS_s, stL_0, stL_1, stL_s, bin_0, bin_1, bin_2, bin_3, bin_4, bin_5, bdv_0, bdv_1, lbin_0, lbin_1, lbin_2, cnd_0, cnd_1, cnd_2, cnd_3, cnd_4, cnd_5, aty_0, aty_1, aty_2, aty_3, aty_4, aty_5, c8_u, cn_0, cn_i, cn_r, cn_l, Nat.reduceAdd, Nat.reduceLeDiff, Nat.le_refl, adz, hnd_0, rcv_0, rcv_1, kLen_a, kLen_r, inB_e, inR_e, cpOK_e, swt_n, swt_c, List.take_succ_cons, List.take_zero, List.drop_succ_cons, List.drop_zero, List.reverse_cons, List.reverse_nil, List.nil_append, List.cons_append, List.length_cons, List.length_nil, Option.toList_some, Option.toList_none, det_e, det_x, tr_imp, fa_imp, implies_true, not_true, not_false_eq_true, and_true, true_and, nar_i, upd_s, st1_0, st1_1, st1_2, st1_3, st1_4, st1_5, st1_6, st1_7, st1_8, st1_9, st1_10, st1_11, st1_12, st1_13, st1_14, st1_15, st1_16, st1_17, st1_18, st1_19, st1_20, st1_21, st1_22, st1_23, st1_24, st1_25, st1_26, st1_27, st1_28, st1_29, st1_30, st1_31, st1_32, st1_33, st1_34, st1_35, st1_36, st1_37, st1_42, st1_43, st1_44, st1_46, st1_47, st1_48, st1_49, st1_50, st1_51, st1_52, st1_53, st1_54, st1_55, st1_56, st1_57, st1_58, st1_59, st1_60]
  rw [cn, cj]
  exact key n 0 M 0 (Nat.zero_add n) hp hA
/-! == the future == -/
def ag9 (A B : Nat → Int32) : Prop := ∀ k, k < 1793 → A k = B k
def exF (M : Mm) (m : Nat) : Mm := sI M (m + 4) (cpy 1793 (gI M (m + 2)) (gI M (m + 4)))
theorem ex_ag (M : Mm) (m : Nat) : ag9 (gI (exF M m) (m + 4)) (gI M (m + 2)) := fun k hk => by
  unfold exF
  rw [gI_s, cpy_in _ _ hk]
theorem fm_ex (M : Mm) (m : Nat) : FM (exF M m) M m := fm_4 _ _ _
/-- rows from which h hours can be simulated -/
def arQ (m q h : Nat) (D : Nat → Int32) : Prop := ∀ N, LM N m → ag9 (gI N q) D → arP m q h N
def kEx (M : Mm) (m : Nat) (c h lo hi : Int32) : Int32 := orK (kCa M m c) (ccK h lo hi 2)
def exR (M : Mm) (m : Nat) (c h : Int32) : Int32 × Mm := arL m c.toNatClampNeg h.toNatClampNeg (exF (tS M m 0) m) 0
def S127 : Sem := fun as M => match as with
  | [.ref m, .int c, .int h] => sV (LM M m ∧ cnt (gI M (m + 2) 0) 16 ∧ (kEx M m c h 0 100 = 0 → arQ m (m + 4) h.toNatClampNeg (gI M (m + 2)))) (some (.int (if kEx M m c h 0 100 = 0 then (exR M m c h).1 else 0))) (if kEx M m c h 0 100 = 0 then (exR M m c h).2 else tS M m (kEx M m c h 0 100))
  | _ => sF
def eX11_expected : Nat → Sem := fun id => if id = 111 then S111 else if id = 117 then S117 else if id = 129 then S129 else if id = 139 then S139 else S152
set_option maxRecDepth 100000 in
set_option maxHeartbeats 4000000 in
theorem s_X11_expected {l : Launch} {G : Gt} (hfl : l.stackTraces = false) : SatM l G 127 S127 := by
  refine t_X11_expected (E := eX11_expected) hfl (s_X11_arrives hfl) (s_X11_copy hfl) (s_X11_fails hfl) (s_X11_in hfl) (s_X11_noCanal hfl) fun as M hp => ?_
  unfold S127 at hp ⊢
  split at hp
  case h_2 => exact hp.elim
  rename_i m c h
  obtain ⟨hp, hc, hA⟩ := hp
  refine ⟨Nat.le_of_ble_eq_true rfl, ?_⟩
  show Run (gT G) _ _ _ _ _ _ _ 0 [.val (.ref m), .val (.int c), .val (.int h)] [] M 0 0
  unfold kEx at hA ⊢
  rcases kCa_or M m c with h1 | h1
  · by_cases h2 : inI h 0 100
    · have g2 : inI h 0 100 = True := eq_true h2
      rw [h1, orK_0, cc_0 (k := 2) h2] at hA ⊢
      have hA2 := hA rfl (exF (tS M m 0) m) (hp.fm (m := m) ⟨rfl, rfl, rfl, fun _ _ => rfl⟩ |>.kp rfl rfl) (fun k hk => by rw [ex_ag _ _ k hk, t_2])
      have hLe : LM (exF (tS M m 0) m) m := hp.kp rfl rfl
      have hin := kCa_in h1 hc
      have hcn := in_c (n := 100) h2
      have f1 : sI (tS M m 0) (m + 4) (cpy 1793 (gI M (m + 2)) (gI M (m + 4))) = exF (tS M m 0) m := by unfold exF; rw [t_2, t_4]
      rw [if_pos rfl, if_pos rfl]
      unfold exR
      simp only [rX11_expected_0, kX11_expected_0, rX11_expected_28, kX11_expected_28, rX11_expected_29, kX11_expected_29, rX11_expected_36, kX11_expected_36, rX11_expected_38, kX11_expected_38, eX11_expected, S111, S117, S129, S139, S152, bk_c, if_true, if_false, wi_e, wl_e, wr_e, w1_i, w1_r, ldS_0, ldS_s, vi_e, vl_e, vr_e, dpL_u, dpL_i, dpL_r, dpL_l, stS_0, stS_1, stS_s, stL_0, stL_1, stL_s, bin_0, bin_1, bin_2, bin_3, bin_4, bin_5, bdv_0, bdv_1, lbin_0, lbin_1, lbin_2, cnd_0, cnd_1, cnd_2, cnd_3, cnd_4, cnd_5, aty_0, aty_1, aty_2, aty_3, aty_4, aty_5, c8_u, cn_0, cn_i, cn_r, cn_l, Nat.reduceAdd, Nat.reduceLeDiff, Nat.le_refl, adz, hnd_0, rcv_0, rcv_1, kLen_a, kLen_r, inB_e, inR_e, cpOK_e, swt_n, swt_c, List.take_succ_cons, List.take_zero, List.drop_succ_cons, List.drop_zero, List.reverse_cons, List.reverse_nil, List.nil_append, List.cons_append, List.length_cons, List.length_nil, Option.toList_some, Option.toList_none, det_e, det_x, tr_imp, fa_imp, implies_true, not_true, not_false_eq_true, and_true, true_and, nar_i, upd_s, st1_0, st1_1, st1_2, st1_3, st1_4, st1_5, st1_6, st1_7, st1_8, st1_9, st1_10, st1_11, st1_12, st1_13, st1_14, st1_15, st1_16, st1_17, st1_18, st1_19, st1_20, st1_21, st1_22, st1_23, st1_24, st1_25, st1_26, st1_27, st1_28, st1_29, st1_30, st1_31, st1_32, st1_33, st1_34, st1_35, st1_36, st1_37, st1_42, st1_43, st1_44, st1_46, st1_47, st1_48, st1_49, st1_50, st1_51, st1_52, st1_53, st1_54, st1_55, st1_56, st1_57, st1_58, st1_59, st1_60, Nat.reduceEqDiff, reduceIte, sV, tS_e, tS_0, tS_t, tS_K, tS_P, t_2, t_4, hp.f, hp.t, kCa_e, kCa_t, h1, g2, b9_0, b9F, b9T, fsK_0, f1, hLe.f, hLe, hin, hcn, hA2, Nat.succ_ne_zero, ne_eq]
    · have g2 : inI h 0 100 = False := eq_false h2
      rw [h1, orK_0, cc_1 (k := 2) h2, if_neg (by decide), if_neg (by decide)]
      simp only [rX11_expected_0, kX11_expected_0, rX11_expected_28, kX11_expected_28, rX11_expected_29, kX11_expected_29, rX11_expected_36, kX11_expected_36, rX11_expected_38, kX11_expected_38, eX11_expected, S111, S117, S129, S139, S152, bk_c, if_true, if_false, wi_e, wl_e, wr_e, w1_i, w1_r, ldS_0, ldS_s, vi_e, vl_e, vr_e, dpL_u, dpL_i, dpL_r, dpL_l, stS_0, stS_1, stS_s, stL_0, stL_1, stL_s, bin_0, bin_1, bin_2, bin_3, bin_4, bin_5, bdv_0, bdv_1, lbin_0, lbin_1, lbin_2, cnd_0, cnd_1, cnd_2, cnd_3, cnd_4, cnd_5, aty_0, aty_1, aty_2, aty_3, aty_4, aty_5, c8_u, cn_0, cn_i, cn_r, cn_l, Nat.reduceAdd, Nat.reduceLeDiff, Nat.le_refl, adz, hnd_0, rcv_0, rcv_1, kLen_a, kLen_r, inB_e, inR_e, cpOK_e, swt_n, swt_c, List.take_succ_cons, List.take_zero, List.drop_succ_cons, List.drop_zero, List.reverse_cons, List.reverse_nil, List.nil_append, List.cons_append, List.length_cons, List.length_nil, Option.toList_some, Option.toList_none, det_e, det_x, tr_imp, fa_imp, implies_true, not_true, not_false_eq_true, and_true, true_and, nar_i, upd_s, st1_0, st1_1, st1_2, st1_3, st1_4, st1_5, st1_6, st1_7, st1_8, st1_9, st1_10, st1_11, st1_12, st1_13, st1_14, st1_15, st1_16, st1_17, st1_18, st1_19, st1_20, st1_21, st1_22, st1_23, st1_24, st1_25, st1_26, st1_27, st1_28, st1_29, st1_30, st1_31, st1_32, st1_33, st1_34, st1_35, st1_36, st1_37, st1_42, st1_43, st1_44, st1_46, st1_47, st1_48, st1_49, st1_50, st1_51, st1_52, st1_53, st1_54, st1_55, st1_56, st1_57, st1_58, st1_59, st1_60, Nat.reduceEqDiff, reduceIte, sV, tS_e, tS_0, tS_t, tS_K, tS_P, t_2, hp.f, hp.t, kCa_e, kCa_t, h1, g2, b9_0, b9F, b9T, i2f, fsK_1, Nat.succ_ne_zero, ne_eq]
  · rw [h1, orK_1, if_neg (by decide), if_neg (by decide)]
    simp only [rX11_expected_0, kX11_expected_0, rX11_expected_28, kX11_expected_28, rX11_expected_29, kX11_expected_29, rX11_expected_36, kX11_expected_36, rX11_expected_38, kX11_expected_38, eX11_expected, S111, S117, S129, S139, S152, bk_c, if_true, if_false, wi_e, wl_e, wr_e, w1_i, w1_r, ldS_0, ldS_s, vi_e, vl_e, vr_e, dpL_u, dpL_i, dpL_r, dpL_l, stS_0, stS_1, stS_s, stL_0, stL_1, stL_s, bin_0, bin_1, bin_2, bin_3, bin_4, bin_5, bdv_0, bdv_1, lbin_0, lbin_1, lbin_2, cnd_0, cnd_1, cnd_2, cnd_3, cnd_4, cnd_5, aty_0, aty_1, aty_2, aty_3, aty_4, aty_5, c8_u, cn_0, cn_i, cn_r, cn_l, Nat.reduceAdd, Nat.reduceLeDiff, Nat.le_refl, adz, hnd_0, rcv_0, rcv_1, kLen_a, kLen_r, inB_e, inR_e, cpOK_e, swt_n, swt_c, List.take_succ_cons, List.take_zero, List.drop_succ_cons, List.drop_zero, List.reverse_cons, List.reverse_nil, List.nil_append, List.cons_append, List.length_cons, List.length_nil, Option.toList_some, Option.toList_none, det_e, det_x, tr_imp, fa_imp, implies_true, not_true, not_false_eq_true, and_true, true_and, nar_i, upd_s, st1_0, st1_1, st1_2, st1_3, st1_4, st1_5, st1_6, st1_7, st1_8, st1_9, st1_10, st1_11, st1_12, st1_13, st1_14, st1_15, st1_16, st1_17, st1_18, st1_19, st1_20, st1_21, st1_22, st1_23, st1_24, st1_25, st1_26, st1_27, st1_28, st1_29, st1_30, st1_31, st1_32, st1_33, st1_34, st1_35, st1_36, st1_37, st1_42, st1_43, st1_44, st1_46, st1_47, st1_48, st1_49, st1_50, st1_51, st1_52, st1_53, st1_54, st1_55, st1_56, st1_57, st1_58, st1_59, st1_60, Nat.reduceEqDiff, reduceIte, sV, tS_e, tS_0, tS_t, tS_K, tS_P, t_2, hp.f, hp.t, kCa_e, kCa_t, h1, b9F, b9T, i1f, Nat.succ_ne_zero, ne_eq]
/-! == hoursUntil == -/
def hmL (m f : Nat) : Nat → Nat → Mm → Int32 × Mm
  | 0, _, N => (-1, N)
  | r + 1, n, N => if gI N (m + 4) (221 + 11 * f + 3) ≤ gI N (m + 4) (221 + 11 * f + 7) then (nI n, N) else hmL m f r (n + 1) (siM N m (m + 4))
def kHu (M : Mm) (m : Nat) (f h : Int32) : Int32 := orK (kFi M m f) (ccK h 0 100 2)
def hmR (M : Mm) (m : Nat) (f h : Int32) : Int32 × Mm := hmL m f.toNatClampNeg (h.toNatClampNeg + 1) 0 (exF (tS M m 0) m)
theorem fm_hm (m f : Nat) : ∀ r n N, FM (hmL m f r n N).2 N m
  | 0, _, _ => FM.r _ _
  | r + 1, n, N => by
    unfold hmL
    split
    · exact FM.r _ _
    · exact (fm_hm m f r _ _).t (fm_si N m)
def S138 : Sem := fun as M => match as with
  | [.ref m, .int f, .int h] => sV (LM M m ∧ cnt (gI M (m + 2) 1) 12 ∧ (kHu M m f h = 0 → arQ m (m + 4) (h.toNatClampNeg + 1) (gI M (m + 2)))) (some (.int (if kHu M m f h = 0 then (hmR M m f h).1 else 0))) (if kHu M m f h = 0 then (hmR M m f h).2 else tS M m (kHu M m f h))
  | _ => sF
def eX11_hoursUntil : Nat → Sem := fun id => if id = 117 then S117 else if id = 129 then S129 else if id = 131 then S131 else if id = 139 then S139 else if id = 153 then S153 else S168
set_option maxRecDepth 100000 in
set_option maxHeartbeats 4000000 in
theorem s_X11_hoursUntil {l : Launch} {G : Gt} (hfl : l.stackTraces = false) : SatM l G 138 S138 := by
  refine t_X11_hoursUntil (E := eX11_hoursUntil) hfl (s_X11_copy hfl) (s_X11_fails hfl) (s_X11_field hfl) (s_X11_in hfl) (s_X11_noField hfl) (s_X11_simulate hfl) fun as M hp => ?_
  unfold S138 at hp ⊢
  split at hp
  case h_2 => exact hp.elim
  rename_i m f h
  obtain ⟨hp, hc, hA⟩ := hp
  refine ⟨Nat.le_of_ble_eq_true rfl, ?_⟩
  show Run (gT G) _ _ _ _ _ _ _ 0 [.val (.ref m), .val (.int f), .val (.int h), .unset, .unset] [] M 0 0
  unfold kHu at hA ⊢
  rcases kFi_or M m f with h1 | h1
  · by_cases h2 : inI h 0 100
    · have g2 : inI h 0 100 = True := eq_true h2
      rw [h1, orK_0, cc_0 (k := 2) h2] at hA ⊢
      have hLe : LM (exF (tS M m 0) m) m := hp.kp rfl rfl
      have hA2 := hA rfl (exF (tS M m 0) m) hLe (fun k hk => by rw [ex_ag _ _ k hk, t_2])
      obtain ⟨j, hj, ej⟩ := kFi_in h1 hc
      obtain ⟨n, hn, en⟩ := in_c (n := 100) h2
      have cn : (nI n).toNatClampNeg = n := nI_clamp (by omega)
      have cj : (nI j).toNatClampNeg = j := nI_clamp (by omega)
      have x3 := xF hj (show 3 ≤ 10 by decide)
      have x7 := xF hj (show 7 ≤ 10 by decide)
      have f1 : sI (tS M m 0) (m + 4) (cpy 1793 (gI M (m + 2)) (gI M (m + 4))) = exF (tS M m 0) m := by unfold exF; rw [t_2, t_4]
      have key : ∀ r i N, i + r = n + 1 → LM N m → arP m (m + 4) r N → Run (gT G) eX11_hoursUntil 0 0 (fun _ _ => none) (fun v' M' => v' = some (.int (hmL m j r i N).1) ∧ M' = (hmL m j r i N).2) (fun _ _ => False) kX11_hoursUntil 57 [.val (.ref m), .val (.int f), .val (.int (nI n)), .val (.int (nI (221 + 11 * j))), .val (.int (nI i))] [] N 0 0 := by
        intro r
        induction r with
        | zero =>
          intro i N hi hN hA
          have hi2 : i = n + 1 := hi
          subst hi2
          have a1 : (nI n < nI (n + 1)) = True := eq_true (nI_lt (by omega) (by omega))
          rw [rX11_hoursUntil_57]
          simp only [kX11_hoursUntil_57, rX11_hoursUntil_0, kX11_hoursUntil_0, rX11_hoursUntil_28, kX11_hoursUntil_28, rX11_hoursUntil_29, kX11_hoursUntil_29, rX11_hoursUntil_36, kX11_hoursUntil_36, rX11_hoursUntil_38, kX11_hoursUntil_38, rX11_hoursUntil_86, kX11_hoursUntil_86, rX11_hoursUntil_100, kX11_hoursUntil_100, eX11_hoursUntil, S117, S129, S131, S139, S153, S168, bk_c, if_true, if_false, wi_e, wl_e, wr_e, w1_i, w1_r, ldS_0, ldS_s, vi_e, vl_e, vr_e, dpL_u, dpL_i, dpL_r, dpL_l, stS_0, stS_1, stS_s, stL_0, stL_1, stL_s, bin_0, bin_1, bin_2, bin_3, bin_4, bin_5, bdv_0, bdv_1, lbin_0, lbin_1, lbin_2, cnd_0, cnd_1, cnd_2, cnd_3, cnd_4, cnd_5, aty_0, aty_1, aty_2, aty_3, aty_4, aty_5, c8_u, cn_0, cn_i, cn_r, cn_l, Nat.reduceAdd, Nat.reduceLeDiff, Nat.le_refl, adz, hnd_0, rcv_0, rcv_1, kLen_a, kLen_r, inB_e, inR_e, cpOK_e, swt_n, swt_c, List.take_succ_cons, List.take_zero, List.drop_succ_cons, List.drop_zero, List.reverse_cons, List.reverse_nil, List.nil_append, List.cons_append, List.length_cons, List.length_nil, Option.toList_some, Option.toList_none, det_e, det_x, tr_imp, fa_imp, implies_true, not_true, not_false_eq_true, and_true, true_and, nar_i, upd_s, st1_0, st1_1, st1_2, st1_3, st1_4, st1_5, st1_6, st1_7, st1_8, st1_9, st1_10, st1_11, st1_12, st1_13, st1_14, st1_15, st1_16, st1_17, st1_18, st1_19, st1_20, st1_21, st1_22, st1_23, st1_24, st1_25, st1_26, st1_27, st1_28, st1_29, st1_30, st1_31, st1_32, st1_33, st1_34, st1_35, st1_36, st1_37, st1_42, st1_43, st1_44, st1_46, st1_47, st1_48, st1_49, st1_50, st1_51, st1_52, st1_53, st1_54, st1_55, st1_56, st1_57, st1_58, st1_59, st1_60, a1, hmL]
        | succ r ih =>
          intro i N hi hN hA
          have a1 : (nI n < nI i) = False := eq_false (nI_nlt (by omega) (by omega))
          have hS := hA.1
          rw [rX11_hoursUntil_57]
          simp only [kX11_hoursUntil_57, rX11_hoursUntil_0, kX11_hoursUntil_0, rX11_hoursUntil_28, kX11_hoursUntil_28, rX11_hoursUntil_29, kX11_hoursUntil_29, rX11_hoursUntil_36, kX11_hoursUntil_36, rX11_hoursUntil_38, kX11_hoursUntil_38, rX11_hoursUntil_86, kX11_hoursUntil_86, rX11_hoursUntil_100, kX11_hoursUntil_100, eX11_hoursUntil, S117, S129, S131, S139, S153, S168, bk_c, if_true, if_false, wi_e, wl_e, wr_e, w1_i, w1_r, ldS_0, ldS_s, vi_e, vl_e, vr_e, dpL_u, dpL_i, dpL_r, dpL_l, stS_0, stS_1, stS_s, stL_0, stL_1, stL_s, bin_0, bin_1, bin_2, bin_3, bin_4, bin_5, bdv_0, bdv_1, lbin_0, lbin_1, lbin_2, cnd_0, cnd_1, cnd_2, cnd_3, cnd_4, cnd_5, aty_0, aty_1, aty_2, aty_3, aty_4, aty_5, c8_u, cn_0, cn_i, cn_r, cn_l, Nat.reduceAdd, Nat.reduceLeDiff, Nat.le_refl, adz, hnd_0, rcv_0, rcv_1, kLen_a, kLen_r, inB_e, inR_e, cpOK_e, swt_n, swt_c, List.take_succ_cons, List.take_zero, List.drop_succ_cons, List.drop_zero, List.reverse_cons, List.reverse_nil, List.nil_append, List.cons_append, List.length_cons, List.length_nil, Option.toList_some, Option.toList_none, det_e, det_x, tr_imp, fa_imp, implies_true, not_true, not_false_eq_true, and_true, true_and, nar_i, upd_s, st1_0, st1_1, st1_2, st1_3, st1_4, st1_5, st1_6, st1_7, st1_8, st1_9, st1_10, st1_11, st1_12, st1_13, st1_14, st1_15, st1_16, st1_17, st1_18, st1_19, st1_20, st1_21, st1_22, st1_23, st1_24, st1_25, st1_26, st1_27, st1_28, st1_29, st1_30, st1_31, st1_32, st1_33, st1_34, st1_35, st1_36, st1_37, st1_42, st1_43, st1_44, st1_46, st1_47, st1_48, st1_49, st1_50, st1_51, st1_52, st1_53, st1_54, st1_55, st1_56, st1_57, st1_58, st1_59, st1_60, Nat.reduceEqDiff, reduceIte, sV, hN, hN.f, or_true, hS, a1, ad_3, ad_7, x3, x7, nI_1, Nat.succ_ne_zero, ne_eq, hmL]
          refine ⟨fun g => ?_, fun g => ?_⟩
          · rw [if_neg (Int32.not_le.mpr g)]
            exact ih (i + 1) _ (by omega) (hN.si _) hA.2
          · rw [if_pos (Int32.not_lt.mp g)]
            exact ⟨rfl, rfl⟩
      rw [if_pos rfl, if_pos rfl]
      unfold hmR
      rw [ej, en, cn, cj]
      have h1e : kFi M m (nI j) = 0 := ej ▸ h1
      have g2e : inI (nI n) 0 100 = True := en ▸ g2
      simp only [rX11_hoursUntil_0, kX11_hoursUntil_0, rX11_hoursUntil_28, kX11_hoursUntil_28, rX11_hoursUntil_29, kX11_hoursUntil_29, rX11_hoursUntil_36, kX11_hoursUntil_36, rX11_hoursUntil_38, kX11_hoursUntil_38, rX11_hoursUntil_86, kX11_hoursUntil_86, rX11_hoursUntil_100, kX11_hoursUntil_100, eX11_hoursUntil, S117, S129, S131, S139, S153, S168, bk_c, if_true, if_false, wi_e, wl_e, wr_e, w1_i, w1_r, ldS_0, ldS_s, vi_e, vl_e, vr_e, dpL_u, dpL_i, dpL_r, dpL_l, stS_0, stS_1, stS_s, stL_0, stL_1, stL_s, bin_0, bin_1, bin_2, bin_3, bin_4, bin_5, bdv_0, bdv_1, lbin_0, lbin_1, lbin_2, cnd_0, cnd_1, cnd_2, cnd_3, cnd_4, cnd_5, aty_0, aty_1, aty_2, aty_3, aty_4, aty_5, c8_u, cn_0, cn_i, cn_r, cn_l, Nat.reduceAdd, Nat.reduceLeDiff, Nat.le_refl, adz, hnd_0, rcv_0, rcv_1, kLen_a, kLen_r, inB_e, inR_e, cpOK_e, swt_n, swt_c, List.take_succ_cons, List.take_zero, List.drop_succ_cons, List.drop_zero, List.reverse_cons, List.reverse_nil, List.nil_append, List.cons_append, List.length_cons, List.length_nil, Option.toList_some, Option.toList_none, det_e, det_x, tr_imp, fa_imp, implies_true, not_true, not_false_eq_true, and_true, true_and, nar_i, upd_s, st1_0, st1_1, st1_2, st1_3, st1_4, st1_5, st1_6, st1_7, st1_8, st1_9, st1_10, st1_11, st1_12, st1_13, st1_14, st1_15, st1_16, st1_17, st1_18, st1_19, st1_20, st1_21, st1_22, st1_23, st1_24, st1_25, st1_26, st1_27, st1_28, st1_29, st1_30, st1_31, st1_32, st1_33, st1_34, st1_35, st1_36, st1_37, st1_42, st1_43, st1_44, st1_46, st1_47, st1_48, st1_49, st1_50, st1_51, st1_52, st1_53, st1_54, st1_55, st1_56, st1_57, st1_58, st1_59, st1_60, Nat.reduceEqDiff, reduceIte, sV, tS_e, tS_0, tS_t, tS_K, tS_P, t_2, t_4, hp.f, hp.t, kFi_e, kFi_t, h1e, g2e, b9_0, b9F, b9T, fsK_0, f1, f11, Nat.succ_ne_zero, ne_eq]
      rw [en, cn] at hA2
      have hk := key (n + 1) 0 _ (Nat.zero_add _) hLe hA2
      rw [ej] at hk
      exact hk
    · have g2 : inI h 0 100 = False := eq_false h2
      rw [h1, orK_0, cc_1 (k := 2) h2, if_neg (by decide), if_neg (by decide)]
      simp only [rX11_hoursUntil_0, kX11_hoursUntil_0, rX11_hoursUntil_28, kX11_hoursUntil_28, rX11_hoursUntil_29, kX11_hoursUntil_29, rX11_hoursUntil_36, kX11_hoursUntil_36, rX11_hoursUntil_38, kX11_hoursUntil_38, rX11_hoursUntil_86, kX11_hoursUntil_86, rX11_hoursUntil_100, kX11_hoursUntil_100, eX11_hoursUntil, S117, S129, S131, S139, S153, S168, bk_c, if_true, if_false, wi_e, wl_e, wr_e, w1_i, w1_r, ldS_0, ldS_s, vi_e, vl_e, vr_e, dpL_u, dpL_i, dpL_r, dpL_l, stS_0, stS_1, stS_s, stL_0, stL_1, stL_s, bin_0, bin_1, bin_2, bin_3, bin_4, bin_5, bdv_0, bdv_1, lbin_0, lbin_1, lbin_2, cnd_0, cnd_1, cnd_2, cnd_3, cnd_4, cnd_5, aty_0, aty_1, aty_2, aty_3, aty_4, aty_5, c8_u, cn_0, cn_i, cn_r, cn_l, Nat.reduceAdd, Nat.reduceLeDiff, Nat.le_refl, adz, hnd_0, rcv_0, rcv_1, kLen_a, kLen_r, inB_e, inR_e, cpOK_e, swt_n, swt_c, List.take_succ_cons, List.take_zero, List.drop_succ_cons, List.drop_zero, List.reverse_cons, List.reverse_nil, List.nil_append, List.cons_append, List.length_cons, List.length_nil, Option.toList_some, Option.toList_none, det_e, det_x, tr_imp, fa_imp, implies_true, not_true, not_false_eq_true, and_true, true_and, nar_i, upd_s, st1_0, st1_1, st1_2, st1_3, st1_4, st1_5, st1_6, st1_7, st1_8, st1_9, st1_10, st1_11, st1_12, st1_13, st1_14, st1_15, st1_16, st1_17, st1_18, st1_19, st1_20, st1_21, st1_22, st1_23, st1_24, st1_25, st1_26, st1_27, st1_28, st1_29, st1_30, st1_31, st1_32, st1_33, st1_34, st1_35, st1_36, st1_37, st1_42, st1_43, st1_44, st1_46, st1_47, st1_48, st1_49, st1_50, st1_51, st1_52, st1_53, st1_54, st1_55, st1_56, st1_57, st1_58, st1_59, st1_60, Nat.reduceEqDiff, reduceIte, sV, tS_e, tS_0, tS_t, tS_K, tS_P, t_2, hp.f, hp.t, kFi_e, kFi_t, h1, g2, b9_0, b9F, b9T, i2f, fsK_1, Nat.succ_ne_zero, ne_eq]
  · rw [h1, orK_1, if_neg (by decide), if_neg (by decide)]
    simp only [rX11_hoursUntil_0, kX11_hoursUntil_0, rX11_hoursUntil_28, kX11_hoursUntil_28, rX11_hoursUntil_29, kX11_hoursUntil_29, rX11_hoursUntil_36, kX11_hoursUntil_36, rX11_hoursUntil_38, kX11_hoursUntil_38, rX11_hoursUntil_86, kX11_hoursUntil_86, rX11_hoursUntil_100, kX11_hoursUntil_100, eX11_hoursUntil, S117, S129, S131, S139, S153, S168, bk_c, if_true, if_false, wi_e, wl_e, wr_e, w1_i, w1_r, ldS_0, ldS_s, vi_e, vl_e, vr_e, dpL_u, dpL_i, dpL_r, dpL_l, stS_0, stS_1, stS_s, stL_0, stL_1, stL_s, bin_0, bin_1, bin_2, bin_3, bin_4, bin_5, bdv_0, bdv_1, lbin_0, lbin_1, lbin_2, cnd_0, cnd_1, cnd_2, cnd_3, cnd_4, cnd_5, aty_0, aty_1, aty_2, aty_3, aty_4, aty_5, c8_u, cn_0, cn_i, cn_r, cn_l, Nat.reduceAdd, Nat.reduceLeDiff, Nat.le_refl, adz, hnd_0, rcv_0, rcv_1, kLen_a, kLen_r, inB_e, inR_e, cpOK_e, swt_n, swt_c, List.take_succ_cons, List.take_zero, List.drop_succ_cons, List.drop_zero, List.reverse_cons, List.reverse_nil, List.nil_append, List.cons_append, List.length_cons, List.length_nil, Option.toList_some, Option.toList_none, det_e, det_x, tr_imp, fa_imp, implies_true, not_true, not_false_eq_true, and_true, true_and, nar_i, upd_s, st1_0, st1_1, st1_2, st1_3, st1_4, st1_5, st1_6, st1_7, st1_8, st1_9, st1_10, st1_11, st1_12, st1_13, st1_14, st1_15, st1_16, st1_17, st1_18, st1_19, st1_20, st1_21, st1_22, st1_23, st1_24, st1_25, st1_26, st1_27, st1_28, st1_29, st1_30, st1_31, st1_32, st1_33, st1_34, st1_35, st1_36, st1_37, st1_42, st1_43, st1_44, st1_46, st1_47, st1_48, st1_49, st1_50, st1_51, st1_52, st1_53, st1_54, st1_55, st1_56, st1_57, st1_58, st1_59, st1_60, Nat.reduceEqDiff, reduceIte, sV, tS_e, tS_0, tS_t, tS_K, tS_P, t_2, hp.f, hp.t, kFi_e, kFi_t, h1, b9F, b9T, i1f, Nat.succ_ne_zero, ne_eq]
/-! == suspect == -/
def suF (N : Mm) (m f : Nat) : Mm := sI (exF N m) (m + 4) (upd (gI (exF N m) (m + 4)) (221 + 11 * f + 10) 1)
def suM (m : Nat) (c h : Nat) (a : Int32) : Nat → Nat → Mm → Int32 × Mm
  | 0, _, N => (-1, N)
  | r + 1, f, N => if gI N (m + 2) (221 + 11 * f + 10) = 1 then suM m c h a r (f + 1) N else if (arL m c h (suF N m f) 0).1 = a then (nI f, (arL m c h (suF N m f) 0).2) else suM m c h a r (f + 1) (arL m c h (suF N m f) 0).2
def suT (M : Mm) (m : Nat) (c h a : Int32) : Int32 × Mm := if (exR M m c h).1 = a then (-2, (exR M m c h).2) else suM m c.toNatClampNeg h.toNatClampNeg a (gI M (m + 2) 1).toNatClampNeg 0 (exR M m c h).2
theorem fm_sF (N : Mm) (m f : Nat) : FM (suF N m f) N m := (fm_4 _ _ _).t (fm_ex N m)
def S172 : Sem := fun as M => match as with
  | [.ref m, .int c, .int h, .int a] => sV (LM M m ∧ cnt (gI M (m + 2) 0) 16 ∧ cnt (gI M (m + 2) 1) 12 ∧ (kEx M m c h 1 50 = 0 → arQ m (m + 4) h.toNatClampNeg (gI M (m + 2)) ∧ ∀ f, f < (gI M (m + 2) 1).toNatClampNeg → arQ m (m + 4) h.toNatClampNeg (upd (gI M (m + 2)) (221 + 11 * f + 10) 1))) (some (.int (if kEx M m c h 1 50 = 0 then (suT M m c h a).1 else 0))) (if kEx M m c h 1 50 = 0 then (suT M m c h a).2 else tS M m (kEx M m c h 1 50))
  | _ => sF
theorem in_1 {x : Int32} {n : Nat} (h : inI x 1 (nI n)) : cnt x n := in_c ⟨fun q => h.1 (Int32.lt_trans q (by decide)), h.2⟩
def eX11_suspect : Nat → Sem := fun id => if id = 111 then S111 else if id = 117 then S117 else if id = 129 then S129 else if id = 131 then S131 else if id = 139 then S139 else S152
set_option maxRecDepth 100000 in
set_option maxHeartbeats 4000000 in
theorem s_X11_suspect {l : Launch} {G : Gt} (hfl : l.stackTraces = false) : SatM l G 172 S172 := by
  refine t_X11_suspect (E := eX11_suspect) hfl (s_X11_arrives hfl) (s_X11_copy hfl) (s_X11_fails hfl) (s_X11_field hfl) (s_X11_in hfl) (s_X11_noCanal hfl) fun as M hp => ?_
  unfold S172 at hp ⊢
  split at hp
  case h_2 => exact hp.elim
  rename_i m c h a
  obtain ⟨hp, hc, hcf, hA⟩ := hp
  refine ⟨Nat.le_of_ble_eq_true rfl, ?_⟩
  show Run (gT G) _ _ _ _ _ _ _ 0 [.val (.ref m), .val (.int c), .val (.int h), .val (.int a), .unset] [] M 0 0
  unfold kEx at hA ⊢
  rcases kCa_or M m c with h1 | h1
  · by_cases h2 : inI h 1 50
    · have g2 : inI h 1 50 = True := eq_true h2
      rw [h1, orK_0, cc_0 (k := 2) h2] at hA ⊢
      obtain ⟨hA1, hA3⟩ := hA rfl
      have hLe : LM (exF (tS M m 0) m) m := hp.kp rfl rfl
      have hA2 := hA1 (exF (tS M m 0) m) hLe (fun k hk => by rw [ex_ag _ _ k hk, t_2])
      have hin := kCa_in h1 hc
      have hcn : cnt h 100 := (in_1 (n := 50) h2).m (by decide)
      have f1 : sI (tS M m 0) (m + 4) (cpy 1793 (gI M (m + 2)) (gI M (m + 4))) = exF (tS M m 0) m := by unfold exF; rw [t_2, t_4]
      obtain ⟨f, hf, ef⟩ := hcf
      have cf : (nI f).toNatClampNeg = f := nI_clamp (by omega)
      rw [ef, cf] at hA3
      have key : ∀ (Q : Option Value → Mm → Prop) (X : Nat → Mm → Prop) r i N, i + r = f → FM N (tS M m 0) m → Q (some (.int (suM m c.toNatClampNeg h.toNatClampNeg a r i N).1)) (suM m c.toNatClampNeg h.toNatClampNeg a r i N).2 → Run (gT G) eX11_suspect 0 0 (fun _ _ => none) Q X kX11_suspect 65 [.val (.ref m), .val (.int c), .val (.int h), .val (.int a), .val (.int (nI i))] [] N 0 0 := by
        intro Q X r
        induction r with
        | zero =>
          intro i N hi hN hq
          have hi2 : i = f := hi
          subst hi2
          unfold suM at hq
          have hL : LM N m := (hp.t 0).fm hN
          have e2 : gI N (m + 2) = gI M (m + 2) := (hN.2.2.2 (m + 2) (by omega)).trans (t_2 M m 0)
          rw [rX11_suspect_65]
          simp only [kX11_suspect_65, rX11_suspect_0, kX11_suspect_0, rX11_suspect_28, kX11_suspect_28, rX11_suspect_29, kX11_suspect_29, rX11_suspect_36, kX11_suspect_36, rX11_suspect_38, kX11_suspect_38, rX11_suspect_62, kX11_suspect_62, rX11_suspect_96, kX11_suspect_96, rX11_suspect_134, kX11_suspect_134, rX11_suspect_140, kX11_suspect_140, eX11_suspect, S111, S117, S129, S131, S139, S152, bk_c, if_true, if_false, wi_e, wl_e, wr_e, w1_i, w1_r, ldS_0, ldS_s, vi_e, vl_e, vr_e, dpL_u, dpL_i, dpL_r, dpL_l, stS_0, stS_1, stS_s, stL_0, stL_1, stL_s, bin_0, bin_1, bin_2, bin_3, bin_4, bin_5, bdv_0, bdv_1, lbin_0, lbin_1, lbin_2, cnd_0, cnd_1, cnd_2, cnd_3, cnd_4, cnd_5, aty_0, aty_1, aty_2, aty_3, aty_4, aty_5, c8_u, cn_0, cn_i, cn_r, cn_l, Nat.reduceAdd, Nat.reduceLeDiff, Nat.le_refl, adz, hnd_0, rcv_0, rcv_1, kLen_a, kLen_r, inB_e, inR_e, cpOK_e, swt_n, swt_c, List.take_succ_cons, List.take_zero, List.drop_succ_cons, List.drop_zero, List.reverse_cons, List.reverse_nil, List.nil_append, List.cons_append, List.length_cons, List.length_nil, Option.toList_some, Option.toList_none, det_e, det_x, tr_imp, fa_imp, implies_true, not_true, not_false_eq_true, and_true, true_and, nar_i, upd_s, st1_0, st1_1, st1_2, st1_3, st1_4, st1_5, st1_6, st1_7, st1_8, st1_9, st1_10, st1_11, st1_12, st1_13, st1_14, st1_15, st1_16, st1_17, st1_18, st1_19, st1_20, st1_21, st1_22, st1_23, st1_24, st1_25, st1_26, st1_27, st1_28, st1_29, st1_30, st1_31, st1_32, st1_33, st1_34, st1_35, st1_36, st1_37, st1_42, st1_43, st1_44, st1_46, st1_47, st1_48, st1_49, st1_50, st1_51, st1_52, st1_53, st1_54, st1_55, st1_56, st1_57, st1_58, st1_59, st1_60, hL.f, e2, xL0, xL1, ef, lp_out, Nat.succ_ne_zero, ne_eq]
          exact hq
        | succ r ih =>
          intro i N hi hN hq
          obtain ⟨a1, a2, a3, -⟩ := lp_in (i := i) (n := f) (N := 12) (by omega) hf (by decide)
          have hL : LM N m := (hp.t 0).fm hN
          have e2 : gI N (m + 2) = gI M (m + 2) := (hN.2.2.2 (m + 2) (by omega)).trans (t_2 M m 0)
          have x10 := xF (show i < 12 by omega) (show 10 ≤ 10 by decide)
          have hLe2 : LM (suF N m i) m := hL.fm (fm_sF N m i)
          have hA4 := hA3 i (by omega) (suF N m i) hLe2 (fun k hk => by
            unfold suF
            rw [gI_s]
            by_cases e : k = 221 + 11 * i + 10
            · rw [e, upd_s, upd_s]
            · rw [upd_n _ _ e, upd_n _ _ e, ex_ag N m k hk, e2])
          have f2 : sI N (m + 4) (upd (cpy 1793 (gI M (m + 2)) (gI N (m + 4))) (221 + 11 * i + 10) 1) = suF N m i := by
            unfold suF exF
            rw [gI_s, sI_sI, e2]
          have hN2 : FM (arL m c.toNatClampNeg h.toNatClampNeg (suF N m i) 0).2 (tS M m 0) m := (fm_ar _ _ _ _ _).t ((fm_sF N m i).t hN)
          unfold suM at hq
          rw [e2] at hq
          rw [rX11_suspect_65]
          simp only [kX11_suspect_65, rX11_suspect_0, kX11_suspect_0, rX11_suspect_28, kX11_suspect_28, rX11_suspect_29, kX11_suspect_29, rX11_suspect_36, kX11_suspect_36, rX11_suspect_38, kX11_suspect_38, rX11_suspect_62, kX11_suspect_62, rX11_suspect_96, kX11_suspect_96, rX11_suspect_134, kX11_suspect_134, rX11_suspect_140, kX11_suspect_140, eX11_suspect, S111, S117, S129, S131, S139, S152, bk_c, if_true, if_false, wi_e, wl_e, wr_e, w1_i, w1_r, ldS_0, ldS_s, vi_e, vl_e, vr_e, dpL_u, dpL_i, dpL_r, dpL_l, stS_0, stS_1, stS_s, stL_0, stL_1, stL_s, bin_0, bin_1, bin_2, bin_3, bin_4, bin_5, bdv_0, bdv_1, lbin_0, lbin_1, lbin_2, cnd_0, cnd_1, cnd_2, cnd_3, cnd_4, cnd_5, aty_0, aty_1, aty_2, aty_3, aty_4, aty_5, c8_u, cn_0, cn_i, cn_r, cn_l, Nat.reduceAdd, Nat.reduceLeDiff, Nat.le_refl, adz, hnd_0, rcv_0, rcv_1, kLen_a, kLen_r, inB_e, inR_e, cpOK_e, swt_n, swt_c, List.take_succ_cons, List.take_zero, List.drop_succ_cons, List.drop_zero, List.reverse_cons, List.reverse_nil, List.nil_append, List.cons_append, List.length_cons, List.length_nil, Option.toList_some, Option.toList_none, det_e, det_x, tr_imp, fa_imp, implies_true, not_true, not_false_eq_true, and_true, true_and, nar_i, upd_s, st1_0, st1_1, st1_2, st1_3, st1_4, st1_5, st1_6, st1_7, st1_8, st1_9, st1_10, st1_11, st1_12, st1_13, st1_14, st1_15, st1_16, st1_17, st1_18, st1_19, st1_20, st1_21, st1_22, st1_23, st1_24, st1_25, st1_26, st1_27, st1_28, st1_29, st1_30, st1_31, st1_32, st1_33, st1_34, st1_35, st1_36, st1_37, st1_42, st1_43, st1_44, st1_46, st1_47, st1_48, st1_49, st1_50, st1_51, st1_52, st1_53, st1_54, st1_55, st1_56, st1_57, st1_58, st1_59, st1_60, Nat.reduceEqDiff, reduceIte, sV, gK_sI, gP_sI, gI_s, sI_sI, hL.f, e2, xL0, xL1, ef, a1, f11, ad_10, x10, f2, hLe2, hin, hcn, hA4, nI_1, Nat.succ_ne_zero, ne_eq]
          refine ⟨fun g => ⟨fun g2 => ?_, fun g2 => ?_⟩, fun g => ?_⟩
          · rw [if_neg g, if_neg g2] at hq
            exact ih (i + 1) _ (by omega) hN2 hq
          · rw [if_neg g, if_pos (Decidable.not_not.mp g2)] at hq
            exact hq
          · rw [if_pos (Decidable.not_not.mp g)] at hq
            exact ih (i + 1) N (by omega) hN hq
      rw [if_pos rfl, if_pos rfl]
      simp only [rX11_suspect_0, kX11_suspect_0, rX11_suspect_28, kX11_suspect_28, rX11_suspect_29, kX11_suspect_29, rX11_suspect_36, kX11_suspect_36, rX11_suspect_38, kX11_suspect_38, rX11_suspect_62, kX11_suspect_62, rX11_suspect_96, kX11_suspect_96, rX11_suspect_134, kX11_suspect_134, rX11_suspect_140, kX11_suspect_140, eX11_suspect, S111, S117, S129, S131, S139, S152, bk_c, if_true, if_false, wi_e, wl_e, wr_e, w1_i, w1_r, ldS_0, ldS_s, vi_e, vl_e, vr_e, dpL_u, dpL_i, dpL_r, dpL_l, stS_0, stS_1, stS_s, stL_0, stL_1, stL_s, bin_0, bin_1, bin_2, bin_3, bin_4, bin_5, bdv_0, bdv_1, lbin_0, lbin_1, lbin_2, cnd_0, cnd_1, cnd_2, cnd_3, cnd_4, cnd_5, aty_0, aty_1, aty_2, aty_3, aty_4, aty_5, c8_u, cn_0, cn_i, cn_r, cn_l, Nat.reduceAdd, Nat.reduceLeDiff, Nat.le_refl, adz, hnd_0, rcv_0, rcv_1, kLen_a, kLen_r, inB_e, inR_e, cpOK_e, swt_n, swt_c, List.take_succ_cons, List.take_zero, List.drop_succ_cons, List.drop_zero, List.reverse_cons, List.reverse_nil, List.nil_append, List.cons_append, List.length_cons, List.length_nil, Option.toList_some, Option.toList_none, det_e, det_x, tr_imp, fa_imp, implies_true, not_true, not_false_eq_true, and_true, true_and, nar_i, upd_s, st1_0, st1_1, st1_2, st1_3, st1_4, st1_5, st1_6, st1_7, st1_8, st1_9, st1_10, st1_11, st1_12, st1_13, st1_14, st1_15, st1_16, st1_17, st1_18, st1_19, st1_20, st1_21, st1_22, st1_23, st1_24, st1_25, st1_26, st1_27, st1_28, st1_29, st1_30, st1_31, st1_32, st1_33, st1_34, st1_35, st1_36, st1_37, st1_42, st1_43, st1_44, st1_46, st1_47, st1_48, st1_49, st1_50, st1_51, st1_52, st1_53, st1_54, st1_55, st1_56, st1_57, st1_58, st1_59, st1_60, Nat.reduceEqDiff, reduceIte, sV, tS_e, tS_0, tS_t, tS_K, tS_P, t_2, t_4, hp.f, hp.t, kCa_e, kCa_t, h1, g2, b9_0, b9F, b9T, fsK_0, f1, hLe.f, hLe, hin, hcn, hA2, Nat.succ_ne_zero, ne_eq]
      have fe : arL m c.toNatClampNeg h.toNatClampNeg (exF (tS M m 0) m) 0 = exR M m c h := rfl
      rw [fe]
      unfold suT
      refine ⟨fun g => ?_, fun g => ?_⟩
      · rw [if_neg g, ef, cf]
        exact key _ _ f 0 _ (Nat.zero_add f) (by rw [← fe]; exact (fm_ar _ _ _ _ _).t (fm_ex _ m)) ⟨rfl, rfl⟩
      · rw [if_pos (Decidable.not_not.mp g)]
        exact ⟨rfl, rfl⟩
    · have g2 : inI h 1 50 = False := eq_false h2
      rw [h1, orK_0, cc_1 (k := 2) h2, if_neg (by decide), if_neg (by decide)]
      simp only [rX11_suspect_0, kX11_suspect_0, rX11_suspect_28, kX11_suspect_28, rX11_suspect_29, kX11_suspect_29, rX11_suspect_36, kX11_suspect_36, rX11_suspect_38, kX11_suspect_38, rX11_suspect_62, kX11_suspect_62, rX11_suspect_96, kX11_suspect_96, rX11_suspect_134, kX11_suspect_134, rX11_suspect_140, kX11_suspect_140, eX11_suspect, S111, S117, S129, S131, S139, S152, bk_c, if_true, if_false, wi_e, wl_e, wr_e, w1_i, w1_r, ldS_0, ldS_s, vi_e, vl_e, vr_e, dpL_u, dpL_i, dpL_r, dpL_l, stS_0, stS_1, stS_s, stL_0, stL_1, stL_s, bin_0, bin_1, bin_2, bin_3, bin_4, bin_5, bdv_0, bdv_1, lbin_0, lbin_1, lbin_2, cnd_0, cnd_1, cnd_2, cnd_3, cnd_4, cnd_5, aty_0, aty_1, aty_2, aty_3, aty_4, aty_5, c8_u, cn_0, cn_i, cn_r, cn_l, Nat.reduceAdd, Nat.reduceLeDiff, Nat.le_refl, adz, hnd_0, rcv_0, rcv_1, kLen_a, kLen_r, inB_e, inR_e, cpOK_e, swt_n, swt_c, List.take_succ_cons, List.take_zero, List.drop_succ_cons, List.drop_zero, List.reverse_cons, List.reverse_nil, List.nil_append, List.cons_append, List.length_cons, List.length_nil, Option.toList_some, Option.toList_none, det_e, det_x, tr_imp, fa_imp, implies_true, not_true, not_false_eq_true, and_true, true_and, nar_i, upd_s, st1_0, st1_1, st1_2, st1_3, st1_4, st1_5, st1_6, st1_7, st1_8, st1_9, st1_10, st1_11, st1_12, st1_13, st1_14, st1_15, st1_16, st1_17, st1_18, st1_19, st1_20, st1_21, st1_22, st1_23, st1_24, st1_25, st1_26, st1_27, st1_28, st1_29, st1_30, st1_31, st1_32, st1_33, st1_34, st1_35, st1_36, st1_37, st1_42, st1_43, st1_44, st1_46, st1_47, st1_48, st1_49, st1_50, st1_51, st1_52, st1_53, st1_54, st1_55, st1_56, st1_57, st1_58, st1_59, st1_60, Nat.reduceEqDiff, reduceIte, sV, tS_e, tS_0, tS_t, tS_K, tS_P, t_2, hp.f, hp.t, kCa_e, kCa_t, h1, g2, b9_0, b9F, b9T, i2f, fsK_1, Nat.succ_ne_zero, ne_eq]
  · rw [h1, orK_1, if_neg (by decide), if_neg (by decide)]
    simp only [rX11_suspect_0, kX11_suspect_0, rX11_suspect_28, kX11_suspect_28, rX11_suspect_29, kX11_suspect_29, rX11_suspect_36, kX11_suspect_36, rX11_suspect_38, kX11_suspect_38, rX11_suspect_62, kX11_suspect_62, rX11_suspect_96, kX11_suspect_96, rX11_suspect_134, kX11_suspect_134, rX11_suspect_140, kX11_suspect_140, eX11_suspect, S111, S117, S129, S131, S139, S152, bk_c, if_true, if_false, wi_e, wl_e, wr_e, w1_i, w1_r, ldS_0, ldS_s, vi_e, vl_e, vr_e, dpL_u, dpL_i, dpL_r, dpL_l, stS_0, stS_1, stS_s, stL_0, stL_1, stL_s, bin_0, bin_1, bin_2, bin_3, bin_4, bin_5, bdv_0, bdv_1, lbin_0, lbin_1, lbin_2, cnd_0, cnd_1, cnd_2, cnd_3, cnd_4, cnd_5, aty_0, aty_1, aty_2, aty_3, aty_4, aty_5, c8_u, cn_0, cn_i, cn_r, cn_l, Nat.reduceAdd, Nat.reduceLeDiff, Nat.le_refl, adz, hnd_0, rcv_0, rcv_1, kLen_a, kLen_r, inB_e, inR_e, cpOK_e, swt_n, swt_c, List.take_succ_cons, List.take_zero, List.drop_succ_cons, List.drop_zero, List.reverse_cons, List.reverse_nil, List.nil_append, List.cons_append, List.length_cons, List.length_nil, Option.toList_some, Option.toList_none, det_e, det_x, tr_imp, fa_imp, implies_true, not_true, not_false_eq_true, and_true, true_and, nar_i, upd_s, st1_0, st1_1, st1_2, st1_3, st1_4, st1_5, st1_6, st1_7, st1_8, st1_9, st1_10, st1_11, st1_12, st1_13, st1_14, st1_15, st1_16, st1_17, st1_18, st1_19, st1_20, st1_21, st1_22, st1_23, st1_24, st1_25, st1_26, st1_27, st1_28, st1_29, st1_30, st1_31, st1_32, st1_33, st1_34, st1_35, st1_36, st1_37, st1_42, st1_43, st1_44, st1_46, st1_47, st1_48, st1_49, st1_50, st1_51, st1_52, st1_53, st1_54, st1_55, st1_56, st1_57, st1_58, st1_59, st1_60, Nat.reduceEqDiff, reduceIte, sV, tS_e, tS_0, tS_t, tS_K, tS_P, t_2, hp.f, hp.t, kCa_e, kCa_t, h1, b9F, b9T, i1f, Nat.succ_ne_zero, ne_eq]
