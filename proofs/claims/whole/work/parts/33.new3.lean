/-! ===== the constructors of SetupReader, History, IrrigationTurns ===== -/
theorem Ls.ag {A B : Mm} {b z c : Nat} (h : AG A B b z) (hb : b < c) (hc : c + 32 ≤ z) (g : Ls A c) : Ls B c := by
  obtain ⟨k0, p, hC, hF, hR, hG, hM, hQ⟩ := g
  refine ⟨(h c (by omega)).1.trans k0, ?_, hC.ag h (by omega) (by omega), hF.ag h (by omega) (by omega), hR.ag h (by omega) (by omega), hG.ag h (by omega) (by omega), hM.ag h (by omega) (by omega), hQ.ag h (by omega) (by omega)⟩
  rw [(h c (by omega)).2.2.2 (by omega)]
  exact p
theorem Lt.ag {A B : Mm} {b z c : Nat} (h : AG A B b z) (hb : b < c) (hc : c + 2 ≤ z) (g : Lt A c) : Lt B c := by
  unfold Lt at g ⊢
  rw [(h c (by omega)).1, (h c (by omega)).2.2.2 (by omega), (h (c + 1) (by omega)).1]
  exact g
/-- the numbers of a State just made -/
def DF (N : Mm) (b : Nat) : Prop := (∀ k, k < 32 → gJ N (b + k) = z64) ∧ (∀ k, k < 32 → k ≠ 27 → k ≠ 28 → gI N (b + k) = z32) ∧ gI N (b + 27) = upd z32 2 1 ∧ gI N (b + 28) = upd z32 0 100
theorem DF.ag {A B : Mm} {b z c : Nat} (h : AG A B b z) (hc : c + 32 ≤ z) (g : DF A c) : DF B c :=
  ⟨fun k hk => (h _ (by omega)).2.2.1.trans (g.1 k hk), fun k hk h1 h2 => (h _ (by omega)).2.1.trans (g.2.1 k hk h1 h2), (h _ (by omega)).2.1.trans g.2.2.1, (h _ (by omega)).2.1.trans g.2.2.2⟩
def OK2 (N N1 : Mm) (b z m i : Nat) : Prop := gZ N1 = z + m ∧ AG N N1 b z ∧ gP N1 b = va_up (gP N b) i z
theorem ok2 {N N' : Mm} {k : Kd} {b z m i : Nat} (hz : gZ N = z) (hb : b < z) (h1 : gZ N' = z + m) (h2 : ∀ q, q < z → gK N' q = gK (nO N k) q ∧ gI N' q = gI (nO N k) q ∧ gJ N' q = gJ (nO N k) q ∧ gP N' q = gP (nO N k) q) : OK2 N (sP N' b (upN (gP N' b) i z)) b z m i := by
  refine ⟨h1, fun q hq => ⟨?_, ?_, ?_, fun e => ?_⟩, ?_⟩
  · rw [gK_sP, (h2 q hq).1, gK_nO, up_f _ _ (show q ≠ gZ N by omega)]
  · rw [gI_sP, (h2 q hq).2.1, gI_nO, up_f _ _ (show q ≠ gZ N by omega)]
  · rw [gJ_sP, (h2 q hq).2.2.1, gJ_nO, up_f _ _ (show q ≠ gZ N by omega)]
  · rw [gP_sP, up_f _ _ e, (h2 q hq).2.2.2, gP_nO, up_f _ _ (show q ≠ gZ N by omega)]
  · rw [gP_sP, up_s, (h2 b hb).2.2.2, gP_nO, up_f _ _ (show b ≠ gZ N by omega)]
    rfl
/-- a SetupReader made at r -/
def NR (M N : Mm) (r : Nat) : Prop := gZ N = r + 35 ∧ (∀ q, q < r → gK N q = gK M q ∧ gI N q = gI M q ∧ gJ N q = gJ M q ∧ gP N q = gP M q) ∧ Lu N r ∧ gI N r = z32 ∧ gI N (r + 1) = z32 ∧ gI N (r + 2) = z32 ∧ DF N (r + 3)
theorem nr_fin {M N1 N2 : Mm} {r : Nat} (hF : FO M r 7) (o1 : OK1 M N1 r (r + 1) 2 0) (o2 : OK2 N1 N2 r (r + 3) 32 1) (l1 : Lt N1 (r + 1)) (l2 : Ls N2 (r + 3)) (d2 : DF N2 (r + 3)) : NR M N2 r := by
  have g0 : AG M N2 r (r + 1) := o1.2.1.t o2.2.1 (by omega)
  have eP : gP N2 r = va_up (va_up (gP M r) 0 (r + 1)) 1 (r + 3) := by rw [o2.2.2, o1.2.2.1]
  refine ⟨o2.1, fun q hq => ⟨(g0 q (by omega)).1, (g0 q (by omega)).2.1, (g0 q (by omega)).2.2.1, (g0 q (by omega)).2.2.2 (by omega)⟩, ⟨(g0 r (by omega)).1.trans hF.2.1, ?_, l1.ag o2.2.1 (by omega) (by omega), l2⟩, (g0 r (by omega)).2.1.trans hF.2.2.1, (o2.2.1 (r + 1) (by omega)).2.1.trans (o1.2.2.2 (r + 1) (by omega) (by omega)).1, (o2.2.1 (r + 2) (by omega)).2.1.trans (o1.2.2.2 (r + 2) (by omega) (by omega)).1, d2⟩
  rw [eP]
  exact ⟨rfl, rfl⟩
def S49 : Sem := fun as M => match as with
  | [.ref r] => (FO M r 7, fun v N => v = none ∧ NR M N r, fun _ _ => False)
  | _ => sF
def eX7_init : Nat → Sem := fun id => if id = 68 then S68 else S72
set_option maxRecDepth 100000 in
set_option maxHeartbeats 4000000 in
theorem s_X7_init {l : Launch} {G : Gt} (hfl : l.stackTraces = false) : SatM l G 49 S49 := by
  refine t_X7_init (E := eX7_init) hfl (s_X8_init hfl) (s_X9_init hfl) fun as M hp => ?_
  unfold S49 at hp ⊢
  split at hp
  case h_2 => exact hp.elim
  rename_i b
  obtain ⟨hz, k0, i0, j0⟩ := hp
  refine ⟨Nat.le_of_ble_eq_true rfl, ?_⟩
  show Run (gT G) _ _ _ _ _ _ _ 0 [.val (.ref b)] [] M 0 0
  simp only [rX7_init_0, kX7_init_0, eX7_init, S68, S72, bk_c, if_true, if_false, wi_e, wl_e, wr_e, w1_i, w1_r, ldS_0, ldS_s, vi_e, vl_e, vr_e, dpL_u, dpL_i, dpL_r, dpL_l, stS_0, stS_1, stS_s, stL_0, stL_1, stL_s, bin_0, bin_1, bin_2, bin_3, bin_4, bin_5, bdv_0, bdv_1, lbin_0, lbin_1, lbin_2, cnd_0, cnd_1, cnd_2, cnd_3, cnd_4, cnd_5, aty_0, aty_1, aty_2, aty_3, aty_4, aty_5, c8_u, cn_0, cn_i, cn_r, cn_l, Nat.reduceAdd, Nat.reduceLeDiff, Nat.le_refl, adz, hnd_0, rcv_0, rcv_1, kLen_a, kLen_r, inB_e, inR_e, cpOK_e, swt_n, swt_c, List.take_succ_cons, List.take_zero, List.drop_succ_cons, List.drop_zero, List.reverse_cons, List.reverse_nil, List.nil_append, List.cons_append, List.length_cons, List.length_nil, Option.toList_some, Option.toList_none, det_e, det_x, tr_imp, fa_imp, implies_true, not_true, not_false_eq_true, and_true, true_and, nar_i, upd_s, st1_0, st1_1, st1_2, st1_3, st1_4, st1_5, st1_6, st1_7, st1_8, st1_9, st1_10, st1_11, st1_12, st1_13, st1_14, st1_15, st1_16, st1_17, st1_18, st1_19, st1_20, st1_21, st1_22, st1_23, st1_24, st1_25, st1_26, st1_27, st1_28, st1_29, st1_30, st1_31, st1_32, st1_33, st1_34, st1_35, st1_36, st1_37, st1_42, st1_43, st1_44, st1_46, st1_47, st1_48, st1_49, st1_50, st1_51, st1_52, st1_53, st1_54, st1_55, st1_56, st1_57, st1_58, st1_59, st1_60, Nat.reduceEqDiff, reduceIte, det_r]
  have hz1 : gZ M = b + 1 := hz
  rw [hz1]
  refine ⟨FO.n M 9 hz1, fun A1 h1 => ?_⟩
  have o1 := ok1 (i := 0) hz1 (Nat.lt_add_of_pos_right (by decide)) h1.1
  have l1 : Lt (sP A1 b (upN (gP A1 b) 0 (b + 1))) (b + 1) := h1.2.ag (ag_sP A1 b (b + 3) _) (Nat.lt_add_of_pos_right (by decide)) (Nat.le_refl _)
  refine ⟨((o1.2.1 b (Nat.lt_add_of_pos_right (by decide))).1).trans k0, Nat.succ_ne_zero _, ?_⟩
  generalize hN1 : sP A1 b (upN (gP A1 b) 0 (b + 1)) = N1 at o1 l1 ⊢
  have z1 : gZ N1 = b + 3 := o1.1
  have kb1 : gK N1 b = kO 7 := ((o1.2.1 b (Nat.lt_add_of_pos_right (by decide))).1).trans k0
  rw [z1]
  refine ⟨FO.n N1 8 z1, fun A2 h2 => ?_⟩
  obtain ⟨a1, a2, a3, a4⟩ := h2
  have o2 := ok2 (i := 1) z1 (Nat.lt_add_of_pos_right (by decide)) a1 a2
  refine ⟨((o2.2.1 b (Nat.lt_add_of_pos_right (by decide))).1).trans kb1, Nat.succ_ne_zero _, ?_⟩
  exact nr_fin ⟨hz, k0, i0, j0⟩ o1 o2 l1 (a3.ag (ag_sP A2 b (b + 35) _) (Nat.lt_add_of_pos_right (by decide)) (Nat.le_refl _)) (DF.ag (ag_sP A2 b (b + 35) _) (Nat.le_refl _) a4)
