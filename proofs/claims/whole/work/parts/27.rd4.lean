/-! ===== SetupReader: sums, terms, factors; k is how many levels of parentheses may still open ===== -/
def facM (r : Nat) (last : Bool) (inner : Mm → Mm) (M : Mm) : Mm :=
  if gI M (r + 1) 2 = 40 then (if last then flM M r (-5) else skM (inner (nxM M (r + 1))) r 41)
  else if ¬ iwI M (r + 1) 8 = 0 then nxM (adM M (r + 30) (-1)) (r + 1)
  else if ¬ iwI M (r + 1) 9 = 0 then nxM (adM M (r + 30) (-2)) (r + 1)
  else if ¬ iwI M (r + 1) 5 = 0 then nxM (adM M (r + 30) (-3)) (r + 1)
  else adM (rnM M r 0 9999).2 (r + 30) (rnM M r 0 9999).1
/-- what is read behind a first operand: two signs, their codes -/
def opL (r : Nat) (a b ca cb : Int32) (g : Mm → Mm) : Nat → Mm → Mm
  | 0, N => N
  | f + 1, N => if gI N r 3 = 0 ∧ (gI N (r + 1) 2 = a ∨ gI N (r + 1) 2 = b) then opL r a b ca cb g f (adM (g (nxM N (r + 1))) (r + 30) (if gI N (r + 1) 2 = a then ca else cb)) else N
def teM (r : Nat) (g : Mm → Mm) (M : Mm) : Mm := opL r 42 47 (-6) (-7) g 900 (g M)
def smM (r : Nat) (g : Mm → Mm) (M : Mm) : Mm := opL r 43 45 (-4) (-5) (teM r g) 900 (teM r g M)
def faN (r : Nat) : Nat → Mm → Mm
  | 0, M => facM r true id M
  | k + 1, M => facM r false (smM r (faN r k)) M
def gdd (r : Nat) (g : Mm → Mm) : Prop := ∀ M, UI M r → UI (g M) r ∧ kpI (g M) M
theorem gdd_fac {r : Nat} {last : Bool} {g : Mm → Mm} (h : last = false → gdd r g) : gdd r (facM r last g) := by
  intro M hu
  unfold facM
  split
  · split
    · exact ⟨hu.fl _, kp_fl _ _ _⟩
    · rename_i hl
      have h1 := h (by cases last <;> simp_all) _ hu.nx
      refine ⟨h1.1.sk _, ?_⟩
      refine kpI.t ?_ (h1.2.t (kp_nx _ _))
      unfold skM
      split
      · exact kp_nx _ _
      · exact kp_fl _ _ _
  · split
    · exact ⟨(hu.ad _).nx, (kp_nx _ _).t (kp_ad _ _ _)⟩
    · split
      · exact ⟨(hu.ad _).nx, (kp_nx _ _).t (kp_ad _ _ _)⟩
      · split
        · exact ⟨(hu.ad _).nx, (kp_nx _ _).t (kp_ad _ _ _)⟩
        · exact ⟨(hu.rn _ _).ad _, (kp_ad _ _ _).t (kp_rn _ _ _ _)⟩
theorem gdd_op {r : Nat} {a b ca cb : Int32} {g : Mm → Mm} (h : gdd r g) : ∀ f, gdd r (opL r a b ca cb g f)
  | 0 => fun M hu => ⟨hu, kpI.r _⟩
  | f + 1 => fun M hu => by
    unfold opL
    split
    · have h1 := h _ hu.nx
      have h2 := gdd_op (a := a) (b := b) (ca := ca) (cb := cb) h f _ (h1.1.ad (if gI M (r + 1) 2 = a then ca else cb))
      exact ⟨h2.1, h2.2.t ((kp_ad _ _ _).t (h1.2.t (kp_nx _ _)))⟩
    · exact ⟨hu, kpI.r _⟩
theorem gdd_te {r : Nat} {g : Mm → Mm} (h : gdd r g) : gdd r (teM r g) := fun M hu => ⟨(gdd_op h _ _ (h M hu).1).1, (gdd_op h _ _ (h M hu).1).2.t (h M hu).2⟩
theorem gdd_sm {r : Nat} {g : Mm → Mm} (h : gdd r g) : gdd r (smM r g) := fun M hu => ⟨(gdd_op (gdd_te h) _ _ (gdd_te h M hu).1).1, (gdd_op (gdd_te h) _ _ (gdd_te h M hu).1).2.t (gdd_te h M hu).2⟩
theorem gdd_fa (r : Nat) : ∀ k, gdd r (faN r k)
  | 0 => gdd_fac (fun h => by cases h)
  | k + 1 => gdd_fac (fun _ => gdd_sm (gdd_fa r k))
def S51 (T : Nat → Nat) (k : Nat) : Sem := fun as M => match as with
  | [.ref r, .int c] => sV (UI M r ∧ STR T M ∧ c = nI (4 - k)) none (faN r k M)
  | _ => sF
def S60 (T : Nat → Nat) (k : Nat) : Sem := fun as M => match as with
  | [.ref r, .int c] => sV (UI M r ∧ STR T M ∧ c = nI (4 - k)) none (teM r (faN r k) M)
  | _ => sF
def S59 (T : Nat → Nat) (k : Nat) : Sem := fun as M => match as with
  | [.ref r, .int c] => sV (UI M r ∧ STR T M ∧ c = nI (4 - k)) none (smM r (faN r k) M)
  | _ => sF
set_option maxRecDepth 100000 in
set_option maxHeartbeats 4000000 in
theorem g_term {G : Gt} {E : Nat → Sem} {d k : Nat} (e51 : E (51 + 1000 * d) = S51 (gT G) k) (e25 : E 25 = S25) (e74 : E 74 = S74) (as : List Value) (M : Mm) (hp : (S60 (gT G) k as M).1) : (lg_sl as).length ≤ 4 ∧ Run (gT G) E 0 0 (fun _ _ => none) (S60 (gT G) k as M).2.1 (S60 (gT G) k as M).2.2 (kX7_readTerm d) 0 (ent as 4) [] M 0 0 := by
  unfold S60 at hp ⊢
  split at hp
  case h_2 => exact hp.elim
  rename_i r c
  obtain ⟨hI, hs, hc⟩ := hp
  subst hc
  refine ⟨Nat.le_of_ble_eq_true rfl, ?_⟩
  show Run (gT G) _ _ _ _ _ _ _ 0 [.val (.ref r), .val (.int (nI (4 - k))), .unset, .unset] [] M 0 0
  have k0 := hI.1.1
  have p0 := hI.1.2.1.1
  have p1 := hI.1.2.1.2
  have hT := hI.1.2.2.1.1
  have d0 := hI.1.2.2.2.1
  have d1 := hI.1.2.2.2.2.1.2.2.2.2.1
  have d2 : Lm M (r + 30) := hI.1.2.2.2.2.2.2.2.2.2.1
  simp only [Nat.add_assoc, Nat.reduceAdd] at d0 d1 d2
  have hg := gdd_fa r k
  have hm : ∀ N, UI N r → Lm N (r + 30) ∧ cnt (gI N (r + 30) 2) 900 := fun N h => ⟨h.1.2.2.2.2.2.2.2.2.2.1, h.2.2.2.2.2.2⟩
  have key : ∀ f i (N : Mm) (u : Slot), i + f = 900 → UI N r → kpI N M → Run (gT G) E 0 0 (fun _ _ => none) (fun v' M' => v' = none ∧ M' = opL r 42 47 (-6) (-7) (faN r k) f N) (fun _ _ => False) (kX7_readTerm d) 7 [.val (.ref r), .val (.int (nI (4 - k))), .val (.int (nI i)), u] [] N 0 0 := by
    intro f
    induction f with
    | zero =>
      intro i N u hi hN hk
      have hi2 : i = 900 := hi
      subst hi2
      have a1 : ((900 : Int32) ≤ nI 900) = True := eq_true (by decide)
      rw [rX7_readTerm_7]
      simp only [kX7_readTerm_7, rX7_readTerm_0, kX7_readTerm_0, rX7_readTerm_42, kX7_readTerm_42, rX7_readTerm_72, kX7_readTerm_72, rX7_readTerm_74, kX7_readTerm_74, rX7_readTerm_83, kX7_readTerm_83, bk_c, if_true, if_false, wi_e, wl_e, wr_e, w1_i, w1_r, ldS_0, ldS_s, vi_e, vl_e, vr_e, dpL_u, dpL_i, dpL_r, dpL_l, stS_0, stS_1, stS_s, stL_0, stL_1, stL_s, bin_0, bin_1, bin_2, bin_3, bin_4, bin_5, bdv_0, bdv_1, lbin_0, lbin_1, lbin_2, cnd_0, cnd_1, cnd_2, cnd_3, cnd_4, cnd_5, aty_0, aty_1, aty_2, aty_3, aty_4, aty_5, c8_u, cn_0, cn_i, cn_r, cn_l, Nat.reduceAdd, Nat.reduceLeDiff, Nat.le_refl, adz, hnd_0, rcv_0, rcv_1, kLen_a, kLen_r, inB_e, inR_e, cpOK_e, swt_n, swt_c, List.take_succ_cons, List.take_zero, List.drop_succ_cons, List.drop_zero, List.reverse_cons, List.reverse_nil, List.nil_append, List.cons_append, List.length_cons, List.length_nil, Option.toList_some, Option.toList_none, det_e, det_x, tr_imp, fa_imp, implies_true, not_true, not_false_eq_true, and_true, true_and, nar_i, upd_s, st1_0, st1_1, st1_2, st1_3, st1_4, st1_5, st1_6, st1_7, st1_8, st1_9, st1_10, st1_11, st1_12, st1_13, st1_14, st1_15, st1_16, st1_17, st1_18, st1_19, st1_20, st1_21, st1_22, st1_23, st1_24, st1_25, st1_26, st1_27, st1_28, st1_29, st1_30, st1_31, st1_32, st1_33, st1_34, st1_35, st1_36, st1_37, st1_42, st1_43, st1_44, st1_46, st1_47, st1_48, st1_49, st1_50, st1_51, st1_52, st1_53, st1_54, st1_55, st1_56, st1_57, st1_58, st1_59, st1_60, a1, opL]
    | succ f ih =>
      intro i N u hi hN hk
      have a1 : ((900 : Int32) ≤ nI i) = False := eq_false (fun q => absurd ((nI_leI (a := 900) (by decide) (by omega)).mp q) (by omega))
      have h1 := hg _ hN.nx
      have g1 : gK (faN r k (nxM N (r + 1))) = gK M ∧ gP (faN r k (nxM N (r + 1))) = gP M := ⟨h1.2.1.trans hk.1, h1.2.2.1.trans hk.2.1⟩
      have s1 : STR (gT G) (nxM N (r + 1)) := hs.kp ((kp_nx _ _).t hk)
      rw [rX7_readTerm_7]
      simp only [kX7_readTerm_7, rX7_readTerm_0, kX7_readTerm_0, rX7_readTerm_42, kX7_readTerm_42, rX7_readTerm_72, kX7_readTerm_72, rX7_readTerm_74, kX7_readTerm_74, rX7_readTerm_83, kX7_readTerm_83, bk_c, if_true, if_false, wi_e, wl_e, wr_e, w1_i, w1_r, ldS_0, ldS_s, vi_e, vl_e, vr_e, dpL_u, dpL_i, dpL_r, dpL_l, stS_0, stS_1, stS_s, stL_0, stL_1, stL_s, bin_0, bin_1, bin_2, bin_3, bin_4, bin_5, bdv_0, bdv_1, lbin_0, lbin_1, lbin_2, cnd_0, cnd_1, cnd_2, cnd_3, cnd_4, cnd_5, aty_0, aty_1, aty_2, aty_3, aty_4, aty_5, c8_u, cn_0, cn_i, cn_r, cn_l, Nat.reduceAdd, Nat.reduceLeDiff, Nat.le_refl, adz, hnd_0, rcv_0, rcv_1, kLen_a, kLen_r, inB_e, inR_e, cpOK_e, swt_n, swt_c, List.take_succ_cons, List.take_zero, List.drop_succ_cons, List.drop_zero, List.reverse_cons, List.reverse_nil, List.nil_append, List.cons_append, List.length_cons, List.length_nil, Option.toList_some, Option.toList_none, det_e, det_x, tr_imp, fa_imp, implies_true, not_true, not_false_eq_true, and_true, true_and, nar_i, upd_s, st1_0, st1_1, st1_2, st1_3, st1_4, st1_5, st1_6, st1_7, st1_8, st1_9, st1_10, st1_11, st1_12, st1_13, st1_14, st1_15, st1_16, st1_17, st1_18, st1_19, st1_20, st1_21, st1_22, st1_23, st1_24, st1_25, st1_26, st1_27, st1_28, st1_29, st1_30, st1_31, st1_32, st1_33, st1_34, st1_35, st1_36, st1_37, st1_42, st1_43, st1_44, st1_46, st1_47, st1_48, st1_49, st1_50, st1_51, st1_52, st1_53, st1_54, st1_55, st1_56, st1_57, st1_58, st1_59, st1_60, up_q, up_q0, up_q1, up_s, sI_sI, Nat.reduceEqDiff, reduceIte, Nat.succ_ne_zero, forall_const, false_imp_iff, Nat.add_assoc, e51, e25, e74, S51, S25, S74, sV, hk.1, hk.2.1, k0, p0, p1, hT, d0, d1, d2.1, a1, g1, gK_nx, gP_nx, hN.nx, s1, hN.1.2.2.1, hN.2.1.p, hm _ h1.1, nI_1]
      have e0 : opL r 42 47 (-6) (-7) (faN r k) (f + 1) N = if gI N r 3 = 0 ∧ (gI N (r + 1) 2 = 42 ∨ gI N (r + 1) 2 = 47) then opL r 42 47 (-6) (-7) (faN r k) f (adM (faN r k (nxM N (r + 1))) (r + 30) (if gI N (r + 1) 2 = 42 then -6 else -7)) else N := rfl
      have go : ∀ x : Int32, (if gI N (r + 1) 2 = 42 then -6 else -7) = x → gI N r 3 = 0 → (gI N (r + 1) 2 = 42 ∨ gI N (r + 1) 2 = 47) → Run (gT G) E 0 0 (fun _ _ => none) (fun v' M' => v' = none ∧ M' = opL r 42 47 (-6) (-7) (faN r k) (f + 1) N) (fun _ _ => False) (kX7_readTerm d) 7 [.val (.ref r), .val (.int (nI (4 - k))), .val (.int (nI (i + 1))), .val (.int (gI N (r + 1) 2))] [] (adM (faN r k (nxM N (r + 1))) (r + 30) x) 0 0 := fun x hx h2 h3 => by
        rw [e0, if_pos ⟨h2, h3⟩, hx]
        exact ih (i + 1) _ _ (by omega) (h1.1.ad _) ((kp_ad _ _ _).t (h1.2.t ((kp_nx _ _).t hk)))
      refine ⟨fun h2 => ?_, fun h2 => ⟨fun h3 => ⟨fun h4 => absurd h3 h4, fun h4 => ?_⟩, fun h3 => ⟨fun h4 => ⟨fun h5 => ?_, fun h5 => absurd h3 h5⟩, fun h4 => ?_⟩⟩⟩
      · rw [e0, if_neg (fun q => h2 q.1)]
      · exact go _ (if_pos h3) (Decidable.not_not.mp h2) (Or.inl h3)
      · exact go _ (if_neg h3) (Decidable.not_not.mp h2) (Or.inr h4)
      · rw [e0, if_neg (fun q => q.2.elim h3 h4)]
  simp only [rX7_readTerm_0, kX7_readTerm_0, rX7_readTerm_42, kX7_readTerm_42, rX7_readTerm_72, kX7_readTerm_72, rX7_readTerm_74, kX7_readTerm_74, rX7_readTerm_83, kX7_readTerm_83, bk_c, if_true, if_false, wi_e, wl_e, wr_e, w1_i, w1_r, ldS_0, ldS_s, vi_e, vl_e, vr_e, dpL_u, dpL_i, dpL_r, dpL_l, stS_0, stS_1, stS_s, stL_0, stL_1, stL_s, bin_0, bin_1, bin_2, bin_3, bin_4, bin_5, bdv_0, bdv_1, lbin_0, lbin_1, lbin_2, cnd_0, cnd_1, cnd_2, cnd_3, cnd_4, cnd_5, aty_0, aty_1, aty_2, aty_3, aty_4, aty_5, c8_u, cn_0, cn_i, cn_r, cn_l, Nat.reduceAdd, Nat.reduceLeDiff, Nat.le_refl, adz, hnd_0, rcv_0, rcv_1, kLen_a, kLen_r, inB_e, inR_e, cpOK_e, swt_n, swt_c, List.take_succ_cons, List.take_zero, List.drop_succ_cons, List.drop_zero, List.reverse_cons, List.reverse_nil, List.nil_append, List.cons_append, List.length_cons, List.length_nil, Option.toList_some, Option.toList_none, det_e, det_x, tr_imp, fa_imp, implies_true, not_true, not_false_eq_true, and_true, true_and, nar_i, upd_s, st1_0, st1_1, st1_2, st1_3, st1_4, st1_5, st1_6, st1_7, st1_8, st1_9, st1_10, st1_11, st1_12, st1_13, st1_14, st1_15, st1_16, st1_17, st1_18, st1_19, st1_20, st1_21, st1_22, st1_23, st1_24, st1_25, st1_26, st1_27, st1_28, st1_29, st1_30, st1_31, st1_32, st1_33, st1_34, st1_35, st1_36, st1_37, st1_42, st1_43, st1_44, st1_46, st1_47, st1_48, st1_49, st1_50, st1_51, st1_52, st1_53, st1_54, st1_55, st1_56, st1_57, st1_58, st1_59, st1_60, e51, S51, sV, k0, hI, hs, Nat.reduceEqDiff, reduceIte]
  exact key 900 0 _ .unset rfl (hg M hI).1 (hg M hI).2
set_option maxRecDepth 100000 in
set_option maxHeartbeats 4000000 in
theorem g_sum {G : Gt} {E : Nat → Sem} {d k : Nat} (e60 : E (60 + 1000 * d) = S60 (gT G) k) (e25 : E 25 = S25) (e74 : E 74 = S74) (as : List Value) (M : Mm) (hp : (S59 (gT G) k as M).1) : (lg_sl as).length ≤ 4 ∧ Run (gT G) E 0 0 (fun _ _ => none) (S59 (gT G) k as M).2.1 (S59 (gT G) k as M).2.2 (kX7_readSum d) 0 (ent as 4) [] M 0 0 := by
  unfold S59 at hp ⊢
  split at hp
  case h_2 => exact hp.elim
  rename_i r c
  obtain ⟨hI, hs, hc⟩ := hp
  subst hc
  refine ⟨Nat.le_of_ble_eq_true rfl, ?_⟩
  show Run (gT G) _ _ _ _ _ _ _ 0 [.val (.ref r), .val (.int (nI (4 - k))), .unset, .unset] [] M 0 0
  have k0 := hI.1.1
  have p0 := hI.1.2.1.1
  have p1 := hI.1.2.1.2
  have hT := hI.1.2.2.1.1
  have d0 := hI.1.2.2.2.1
  have d1 := hI.1.2.2.2.2.1.2.2.2.2.1
  have d2 : Lm M (r + 30) := hI.1.2.2.2.2.2.2.2.2.2.1
  simp only [Nat.add_assoc, Nat.reduceAdd] at d0 d1 d2
  have hg := gdd_te (gdd_fa r k)
  have hm : ∀ N, UI N r → Lm N (r + 30) ∧ cnt (gI N (r + 30) 2) 900 := fun N h => ⟨h.1.2.2.2.2.2.2.2.2.2.1, h.2.2.2.2.2.2⟩
  have key : ∀ f i (N : Mm) (u : Slot), i + f = 900 → UI N r → kpI N M → Run (gT G) E 0 0 (fun _ _ => none) (fun v' M' => v' = none ∧ M' = opL r 43 45 (-4) (-5) (teM r (faN r k)) f N) (fun _ _ => False) (kX7_readSum d) 7 [.val (.ref r), .val (.int (nI (4 - k))), .val (.int (nI i)), u] [] N 0 0 := by
    intro f
    induction f with
    | zero =>
      intro i N u hi hN hk
      have hi2 : i = 900 := hi
      subst hi2
      have a1 : ((900 : Int32) ≤ nI 900) = True := eq_true (by decide)
      rw [rX7_readSum_7]
      simp only [kX7_readSum_7, rX7_readSum_0, kX7_readSum_0, rX7_readSum_42, kX7_readSum_42, rX7_readSum_72, kX7_readSum_72, rX7_readSum_74, kX7_readSum_74, rX7_readSum_83, kX7_readSum_83, bk_c, if_true, if_false, wi_e, wl_e, wr_e, w1_i, w1_r, ldS_0, ldS_s, vi_e, vl_e, vr_e, dpL_u, dpL_i, dpL_r, dpL_l, stS_0, stS_1, stS_s, stL_0, stL_1, stL_s, bin_0, bin_1, bin_2, bin_3, bin_4, bin_5, bdv_0, bdv_1, lbin_0, lbin_1, lbin_2, cnd_0, cnd_1, cnd_2, cnd_3, cnd_4, cnd_5, aty_0, aty_1, aty_2, aty_3, aty_4, aty_5, c8_u, cn_0, cn_i, cn_r, cn_l, Nat.reduceAdd, Nat.reduceLeDiff, Nat.le_refl, adz, hnd_0, rcv_0, rcv_1, kLen_a, kLen_r, inB_e, inR_e, cpOK_e, swt_n, swt_c, List.take_succ_cons, List.take_zero, List.drop_succ_cons, List.drop_zero, List.reverse_cons, List.reverse_nil, List.nil_append, List.cons_append, List.length_cons, List.length_nil, Option.toList_some, Option.toList_none, det_e, det_x, tr_imp, fa_imp, implies_true, not_true, not_false_eq_true, and_true, true_and, nar_i, upd_s, st1_0, st1_1, st1_2, st1_3, st1_4, st1_5, st1_6, st1_7, st1_8, st1_9, st1_10, st1_11, st1_12, st1_13, st1_14, st1_15, st1_16, st1_17, st1_18, st1_19, st1_20, st1_21, st1_22, st1_23, st1_24, st1_25, st1_26, st1_27, st1_28, st1_29, st1_30, st1_31, st1_32, st1_33, st1_34, st1_35, st1_36, st1_37, st1_42, st1_43, st1_44, st1_46, st1_47, st1_48, st1_49, st1_50, st1_51, st1_52, st1_53, st1_54, st1_55, st1_56, st1_57, st1_58, st1_59, st1_60, a1, opL]
    | succ f ih =>
      intro i N u hi hN hk
      have a1 : ((900 : Int32) ≤ nI i) = False := eq_false (fun q => absurd ((nI_leI (a := 900) (by decide) (by omega)).mp q) (by omega))
      have h1 := hg _ hN.nx
      have g1 : gK (teM r (faN r k) (nxM N (r + 1))) = gK M ∧ gP (teM r (faN r k) (nxM N (r + 1))) = gP M := ⟨h1.2.1.trans hk.1, h1.2.2.1.trans hk.2.1⟩
      have s1 : STR (gT G) (nxM N (r + 1)) := hs.kp ((kp_nx _ _).t hk)
      rw [rX7_readSum_7]
      simp only [kX7_readSum_7, rX7_readSum_0, kX7_readSum_0, rX7_readSum_42, kX7_readSum_42, rX7_readSum_72, kX7_readSum_72, rX7_readSum_74, kX7_readSum_74, rX7_readSum_83, kX7_readSum_83, bk_c, if_true, if_false, wi_e, wl_e, wr_e, w1_i, w1_r, ldS_0, ldS_s, vi_e, vl_e, vr_e, dpL_u, dpL_i, dpL_r, dpL_l, stS_0, stS_1, stS_s, stL_0, stL_1, stL_s, bin_0, bin_1, bin_2, bin_3, bin_4, bin_5, bdv_0, bdv_1, lbin_0, lbin_1, lbin_2, cnd_0, cnd_1, cnd_2, cnd_3, cnd_4, cnd_5, aty_0, aty_1, aty_2, aty_3, aty_4, aty_5, c8_u, cn_0, cn_i, cn_r, cn_l, Nat.reduceAdd, Nat.reduceLeDiff, Nat.le_refl, adz, hnd_0, rcv_0, rcv_1, kLen_a, kLen_r, inB_e, inR_e, cpOK_e, swt_n, swt_c, List.take_succ_cons, List.take_zero, List.drop_succ_cons, List.drop_zero, List.reverse_cons, List.reverse_nil, List.nil_append, List.cons_append, List.length_cons, List.length_nil, Option.toList_some, Option.toList_none, det_e, det_x, tr_imp, fa_imp, implies_true, not_true, not_false_eq_true, and_true, true_and, nar_i, upd_s, st1_0, st1_1, st1_2, st1_3, st1_4, st1_5, st1_6, st1_7, st1_8, st1_9, st1_10, st1_11, st1_12, st1_13, st1_14, st1_15, st1_16, st1_17, st1_18, st1_19, st1_20, st1_21, st1_22, st1_23, st1_24, st1_25, st1_26, st1_27, st1_28, st1_29, st1_30, st1_31, st1_32, st1_33, st1_34, st1_35, st1_36, st1_37, st1_42, st1_43, st1_44, st1_46, st1_47, st1_48, st1_49, st1_50, st1_51, st1_52, st1_53, st1_54, st1_55, st1_56, st1_57, st1_58, st1_59, st1_60, up_q, up_q0, up_q1, up_s, sI_sI, Nat.reduceEqDiff, reduceIte, Nat.succ_ne_zero, forall_const, false_imp_iff, Nat.add_assoc, e60, e25, e74, S60, S25, S74, sV, hk.1, hk.2.1, k0, p0, p1, hT, d0, d1, d2.1, a1, g1, gK_nx, gP_nx, hN.nx, s1, hN.1.2.2.1, hN.2.1.p, hm _ h1.1, nI_1]
      have e0 : opL r 43 45 (-4) (-5) (teM r (faN r k)) (f + 1) N = if gI N r 3 = 0 ∧ (gI N (r + 1) 2 = 43 ∨ gI N (r + 1) 2 = 45) then opL r 43 45 (-4) (-5) (teM r (faN r k)) f (adM (teM r (faN r k) (nxM N (r + 1))) (r + 30) (if gI N (r + 1) 2 = 43 then -4 else -5)) else N := rfl
      have go : ∀ x : Int32, (if gI N (r + 1) 2 = 43 then -4 else -5) = x → gI N r 3 = 0 → (gI N (r + 1) 2 = 43 ∨ gI N (r + 1) 2 = 45) → Run (gT G) E 0 0 (fun _ _ => none) (fun v' M' => v' = none ∧ M' = opL r 43 45 (-4) (-5) (teM r (faN r k)) (f + 1) N) (fun _ _ => False) (kX7_readSum d) 7 [.val (.ref r), .val (.int (nI (4 - k))), .val (.int (nI (i + 1))), .val (.int (gI N (r + 1) 2))] [] (adM (teM r (faN r k) (nxM N (r + 1))) (r + 30) x) 0 0 := fun x hx h2 h3 => by
        rw [e0, if_pos ⟨h2, h3⟩, hx]
        exact ih (i + 1) _ _ (by omega) (h1.1.ad _) ((kp_ad _ _ _).t (h1.2.t ((kp_nx _ _).t hk)))
      refine ⟨fun h2 => ?_, fun h2 => ⟨fun h3 => ⟨fun h4 => absurd h3 h4, fun h4 => ?_⟩, fun h3 => ⟨fun h4 => ⟨fun h5 => ?_, fun h5 => absurd h3 h5⟩, fun h4 => ?_⟩⟩⟩
      · rw [e0, if_neg (fun q => h2 q.1)]
      · exact go _ (if_pos h3) (Decidable.not_not.mp h2) (Or.inl h3)
      · exact go _ (if_neg h3) (Decidable.not_not.mp h2) (Or.inr h4)
      · rw [e0, if_neg (fun q => q.2.elim h3 h4)]
  simp only [rX7_readSum_0, kX7_readSum_0, rX7_readSum_42, kX7_readSum_42, rX7_readSum_72, kX7_readSum_72, rX7_readSum_74, kX7_readSum_74, rX7_readSum_83, kX7_readSum_83, bk_c, if_true, if_false, wi_e, wl_e, wr_e, w1_i, w1_r, ldS_0, ldS_s, vi_e, vl_e, vr_e, dpL_u, dpL_i, dpL_r, dpL_l, stS_0, stS_1, stS_s, stL_0, stL_1, stL_s, bin_0, bin_1, bin_2, bin_3, bin_4, bin_5, bdv_0, bdv_1, lbin_0, lbin_1, lbin_2, cnd_0, cnd_1, cnd_2, cnd_3, cnd_4, cnd_5, aty_0, aty_1, aty_2, aty_3, aty_4, aty_5, c8_u, cn_0, cn_i, cn_r, cn_l, Nat.reduceAdd, Nat.reduceLeDiff, Nat.le_refl, adz, hnd_0, rcv_0, rcv_1, kLen_a, kLen_r, inB_e, inR_e, cpOK_e, swt_n, swt_c, List.take_succ_cons, List.take_zero, List.drop_succ_cons, List.drop_zero, List.reverse_cons, List.reverse_nil, List.nil_append, List.cons_append, List.length_cons, List.length_nil, Option.toList_some, Option.toList_none, det_e, det_x, tr_imp, fa_imp, implies_true, not_true, not_false_eq_true, and_true, true_and, nar_i, upd_s, st1_0, st1_1, st1_2, st1_3, st1_4, st1_5, st1_6, st1_7, st1_8, st1_9, st1_10, st1_11, st1_12, st1_13, st1_14, st1_15, st1_16, st1_17, st1_18, st1_19, st1_20, st1_21, st1_22, st1_23, st1_24, st1_25, st1_26, st1_27, st1_28, st1_29, st1_30, st1_31, st1_32, st1_33, st1_34, st1_35, st1_36, st1_37, st1_42, st1_43, st1_44, st1_46, st1_47, st1_48, st1_49, st1_50, st1_51, st1_52, st1_53, st1_54, st1_55, st1_56, st1_57, st1_58, st1_59, st1_60, e60, S60, sV, k0, hI, hs, Nat.reduceEqDiff, reduceIte]
  exact key 900 0 _ .unset rfl (hg M hI).1 (hg M hI).2
