/-! ===== Tokens ===== -/
def Lt (M : Mm) (t : Nat) : Prop := gK M t = kO 9 ∧ gP M t 0 = t + 1 ∧ gK M (t + 1) = kA .byte 900
abbrev isp (y : Int32) : Prop := y = 32
abbrev dig (y : Int32) : Prop := ¬ y < 48 ∧ ¬ 57 < y
abbrev low (y : Int32) : Prop := ¬ y < 97 ∧ ¬ 122 < y
def skp (Y : Nat → Int32) : Nat → Nat → Nat
  | 0, p => p
  | r + 1, p => if isp (Y p) then skp Y r (p + 1) else p
def spd (Y : Nat → Int32) : Nat → Nat → Nat
  | 0, p => p
  | r + 1, p => if dig (Y p) then spd Y r (p + 1) else p
def spl (Y : Nat → Int32) : Nat → Nat → Nat
  | 0, p => p
  | r + 1, p => if low (Y p) then spl Y r (p + 1) else p
def num (Y : Nat → Int32) : Nat → Nat → Int32 → Int32
  | 0, _, v => v
  | r + 1, p, v => if dig (Y p) then num Y r (p + 1) (mnI 1000000 (v * 10 + Y p - 48)) else v
def tk4 (g : Nat → Int32) (a b c d : Int32) : Nat → Int32 := fun k => if k = 2 then a else if k = 3 then b else if k = 4 then c else if k = 6 then d else g k
theorem tk4_2 (g : Nat → Int32) (a b c d x : Int32) : upd (tk4 g a b c d) 2 x = tk4 g x b c d := by
  funext k
  unfold upd tk4
  by_cases h : k = 2
  · rw [if_pos h, if_pos h]
  · rw [if_neg h, if_neg h, if_neg h]
theorem tk4_3 (g : Nat → Int32) (a b c d x : Int32) : upd (tk4 g a b c d) 3 x = tk4 g a x c d := by
  funext k
  unfold upd tk4
  by_cases h : k = 3
  · subst h
    rfl
  · rw [if_neg h, if_neg h, if_neg h]
theorem tk4_4 (g : Nat → Int32) (a b c d x : Int32) : upd (tk4 g a b c d) 4 x = tk4 g a b x d := by
  funext k
  unfold upd tk4
  by_cases h : k = 4
  · subst h
    rfl
  · rw [if_neg h, if_neg h, if_neg h]
theorem tk4_6 (g : Nat → Int32) (a b c d x : Int32) : upd (tk4 g a b c d) 6 x = tk4 g a b c x := by
  funext k
  unfold upd tk4
  by_cases h : k = 6
  · subst h
    rfl
  · rw [if_neg h, if_neg h, if_neg h]
theorem tk4_e2 (g : Nat → Int32) (a b c d : Int32) : tk4 g a b c d 2 = a := rfl
theorem tk4_e3 (g : Nat → Int32) (a b c d : Int32) : tk4 g a b c d 3 = b := rfl
theorem tk4_e4 (g : Nat → Int32) (a b c d : Int32) : tk4 g a b c d 4 = c := rfl
theorem tk4_e6 (g : Nat → Int32) (a b c d : Int32) : tk4 g a b c d 6 = d := rfl
theorem tk4_e5 (g : Nat → Int32) (a b c d : Int32) : tk4 g a b c d 5 = g 5 := rfl
theorem tk4_e1 (g : Nat → Int32) (a b c d : Int32) : tk4 g a b c d 1 = g 1 := rfl
theorem tk4_id (g : Nat → Int32) : tk4 g (g 2) (g 3) (g 4) (g 6) = g := by
  funext k
  unfold tk4
  split
  · rename_i h; rw [h]
  · split
    · rename_i h; rw [h]
    · split
      · rename_i h; rw [h]
      · split
        · rename_i h; rw [h]
        · rfl
/-- the token that begins at s: its kind, its value (an old one where there is none), its end -/
def tkE (Y : Nat → Int32) (L : Nat) (c : Int32) (s : Nat) : Int32 × Int32 × Nat :=
  if L ≤ s then (-1, c, s) else if dig (Y s) then (-2, num Y (L - s) s 0, spd Y (L - s) s) else if low (Y s) then (-3, c, spl Y (L - s) s) else (Y s &&& 255, c, s + 1)
def nxS (M : Mm) (t : Nat) : Nat := skp (gI M (t + 1)) ((gI M t 5).toNatClampNeg - (gI M t 6).toNatClampNeg) (gI M t 6).toNatClampNeg
def nxE (M : Mm) (t : Nat) : Int32 × Int32 × Nat := tkE (gI M (t + 1)) (gI M t 5).toNatClampNeg (gI M t 4) (nxS M t)
def nxM (M : Mm) (t : Nat) : Mm := sI M t (tk4 (gI M t) (nxE M t).1 (nI (nxS M t)) (nxE M t).2.1 (nI (nxE M t).2.2))
def S74 : Sem := fun as M => match as with
  | [.ref t] => sV (Lt M t ∧ ∃ L p, L ≤ 900 ∧ p ≤ L ∧ gI M t 5 = nI L ∧ gI M t 6 = nI p) none (nxM M t)
  | _ => sF
set_option maxRecDepth 100000 in
set_option maxHeartbeats 4000000 in
theorem s_X9_next {l : Launch} {G : Gt} (hfl : l.stackTraces = false) : SatM l G 74 S74 := by
  refine t_X9_next (E := fun _ => S0) hfl  fun as M hp => ?_
  unfold S74 at hp ⊢
  split at hp
  case h_2 => exact hp.elim
  rename_i t
  obtain ⟨⟨k0, p0, k1⟩, L, p, hL, hp, e5, e6⟩ := hp
  refine ⟨Nat.le_of_ble_eq_true rfl, ?_⟩
  show Run (gT G) _ _ _ _ _ _ _ 0 [.val (.ref t)] [] M 0 0
  have cL : (nI L).toNatClampNeg = L := nI_clamp (by omega)
  have cp : (nI p).toNatClampNeg = p := nI_clamp (by omega)
  have hI : ∀ g, gI (sI M t g) (t + 1) = gI M (t + 1) := fun g => gI_q1 M t 1 g
  have key2 : ∀ r p a b c, p + r = L → Run (gT G) (fun _ => S0) 0 0 (fun _ _ => none) (fun v' M' => v' = none ∧ M' = sI M t (tk4 (gI M t) a b (num (gI M (t + 1)) r p c) (nI (spd (gI M (t + 1)) r p)))) (fun _ _ => False) kX9_next 104 [.val (.ref t)] [] (sI M t (tk4 (gI M t) a b c (nI p))) 0 0 := by
    intro r
    induction r with
    | zero =>
      intro p a b c hpr
      have hp2 : p = L := hpr
      subst hp2
      rw [rX9_next_104]
      simp only [kX9_next_104, rX9_next_38, kX9_next_38, rX9_next_65, kX9_next_65, rX9_next_185, kX9_next_185, rX9_next_271, kX9_next_271, rX9_next_298, kX9_next_298, bk_c, if_true, if_false, wi_e, wl_e, wr_e, w1_i, w1_r, ldS_0, ldS_s, vi_e, vl_e, vr_e, dpL_u, dpL_i, dpL_r, dpL_l, stS_0, stS_1, stS_s, stL_0, stL_1, stL_s, bin_0, bin_1, bin_2, bin_3, bin_4, bin_5, bdv_0, bdv_1, lbin_0, lbin_1, lbin_2, cnd_0, cnd_1, cnd_2, cnd_3, cnd_4, cnd_5, aty_0, aty_1, aty_2, aty_3, aty_4, aty_5, c8_u, cn_0, cn_i, cn_r, cn_l, Nat.reduceAdd, Nat.reduceLeDiff, Nat.le_refl, adz, hnd_0, rcv_0, rcv_1, kLen_a, kLen_r, inB_e, inR_e, cpOK_e, swt_n, swt_c, List.take_succ_cons, List.take_zero, List.drop_succ_cons, List.drop_zero, List.reverse_cons, List.reverse_nil, List.nil_append, List.cons_append, List.length_cons, List.length_nil, Option.toList_some, Option.toList_none, det_e, det_x, tr_imp, fa_imp, implies_true, not_true, not_false_eq_true, and_true, true_and, nar_i, upd_s, st1_0, st1_1, st1_2, st1_3, st1_4, st1_5, st1_6, st1_7, st1_8, st1_9, st1_10, st1_11, st1_12, st1_13, st1_14, st1_15, st1_16, st1_17, st1_18, st1_19, st1_20, st1_21, st1_22, st1_23, st1_24, st1_25, st1_26, st1_27, st1_28, st1_29, st1_30, st1_31, st1_32, st1_33, st1_34, st1_35, st1_36, st1_37, st1_42, st1_43, st1_44, st1_46, st1_47, st1_48, st1_49, st1_50, st1_51, st1_52, st1_53, st1_54, st1_55, st1_56, st1_57, st1_58, st1_59, st1_60, gK_sI, gP_sI, gI_s, hI, sI_sI, k0, p0, k1, e5, tk4_2, tk4_3, tk4_4, tk4_6, tk4_e2, tk4_e3, tk4_e4, tk4_e5, tk4_e6, lp_out, num, spd]
    | succ r ih =>
      intro p a b c hpr
      obtain ⟨a1, a2, a3, -⟩ := lp_in (i := p) (n := L) (N := 900) (by omega) hL (by decide)
      rw [rX9_next_104]
      simp only [kX9_next_104, rX9_next_38, kX9_next_38, rX9_next_65, kX9_next_65, rX9_next_185, kX9_next_185, rX9_next_271, kX9_next_271, rX9_next_298, kX9_next_298, bk_c, if_true, if_false, wi_e, wl_e, wr_e, w1_i, w1_r, ldS_0, ldS_s, vi_e, vl_e, vr_e, dpL_u, dpL_i, dpL_r, dpL_l, stS_0, stS_1, stS_s, stL_0, stL_1, stL_s, bin_0, bin_1, bin_2, bin_3, bin_4, bin_5, bdv_0, bdv_1, lbin_0, lbin_1, lbin_2, cnd_0, cnd_1, cnd_2, cnd_3, cnd_4, cnd_5, aty_0, aty_1, aty_2, aty_3, aty_4, aty_5, c8_u, cn_0, cn_i, cn_r, cn_l, Nat.reduceAdd, Nat.reduceLeDiff, Nat.le_refl, adz, hnd_0, rcv_0, rcv_1, kLen_a, kLen_r, inB_e, inR_e, cpOK_e, swt_n, swt_c, List.take_succ_cons, List.take_zero, List.drop_succ_cons, List.drop_zero, List.reverse_cons, List.reverse_nil, List.nil_append, List.cons_append, List.length_cons, List.length_nil, Option.toList_some, Option.toList_none, det_e, det_x, tr_imp, fa_imp, implies_true, not_true, not_false_eq_true, and_true, true_and, nar_i, upd_s, st1_0, st1_1, st1_2, st1_3, st1_4, st1_5, st1_6, st1_7, st1_8, st1_9, st1_10, st1_11, st1_12, st1_13, st1_14, st1_15, st1_16, st1_17, st1_18, st1_19, st1_20, st1_21, st1_22, st1_23, st1_24, st1_25, st1_26, st1_27, st1_28, st1_29, st1_30, st1_31, st1_32, st1_33, st1_34, st1_35, st1_36, st1_37, st1_42, st1_43, st1_44, st1_46, st1_47, st1_48, st1_49, st1_50, st1_51, st1_52, st1_53, st1_54, st1_55, st1_56, st1_57, st1_58, st1_59, st1_60, gK_sI, gP_sI, gI_s, hI, sI_sI, k0, p0, k1, e5, tk4_2, tk4_3, tk4_4, tk4_6, tk4_e2, tk4_e3, tk4_e4, tk4_e5, tk4_e6, a1, a2, a3, nI_1, Nat.succ_ne_zero, num, spd]
      refine ⟨fun h => ?_, fun h => ⟨fun h2 => ?_, fun h2 => ?_⟩⟩
      · rw [if_neg (fun q => q.1 h), if_neg (fun q => q.1 h)]
      · rw [if_neg (fun q => q.2 h2), if_neg (fun q => q.2 h2)]
      · rw [if_pos ⟨h, h2⟩, if_pos ⟨h, h2⟩]
        exact ih (p + 1) a b _ (by omega)
  have key3 : ∀ r p a b c, p + r = L → Run (gT G) (fun _ => S0) 0 0 (fun _ _ => none) (fun v' M' => v' = none ∧ M' = sI M t (tk4 (gI M t) a b c (nI (spl (gI M (t + 1)) r p)))) (fun _ _ => False) kX9_next 219 [.val (.ref t)] [] (sI M t (tk4 (gI M t) a b c (nI p))) 0 0 := by
    intro r
    induction r with
    | zero =>
      intro p a b c hpr
      have hp2 : p = L := hpr
      subst hp2
      rw [rX9_next_219]
      simp only [kX9_next_219, rX9_next_38, kX9_next_38, rX9_next_65, kX9_next_65, rX9_next_185, kX9_next_185, rX9_next_271, kX9_next_271, rX9_next_298, kX9_next_298, bk_c, if_true, if_false, wi_e, wl_e, wr_e, w1_i, w1_r, ldS_0, ldS_s, vi_e, vl_e, vr_e, dpL_u, dpL_i, dpL_r, dpL_l, stS_0, stS_1, stS_s, stL_0, stL_1, stL_s, bin_0, bin_1, bin_2, bin_3, bin_4, bin_5, bdv_0, bdv_1, lbin_0, lbin_1, lbin_2, cnd_0, cnd_1, cnd_2, cnd_3, cnd_4, cnd_5, aty_0, aty_1, aty_2, aty_3, aty_4, aty_5, c8_u, cn_0, cn_i, cn_r, cn_l, Nat.reduceAdd, Nat.reduceLeDiff, Nat.le_refl, adz, hnd_0, rcv_0, rcv_1, kLen_a, kLen_r, inB_e, inR_e, cpOK_e, swt_n, swt_c, List.take_succ_cons, List.take_zero, List.drop_succ_cons, List.drop_zero, List.reverse_cons, List.reverse_nil, List.nil_append, List.cons_append, List.length_cons, List.length_nil, Option.toList_some, Option.toList_none, det_e, det_x, tr_imp, fa_imp, implies_true, not_true, not_false_eq_true, and_true, true_and, nar_i, upd_s, st1_0, st1_1, st1_2, st1_3, st1_4, st1_5, st1_6, st1_7, st1_8, st1_9, st1_10, st1_11, st1_12, st1_13, st1_14, st1_15, st1_16, st1_17, st1_18, st1_19, st1_20, st1_21, st1_22, st1_23, st1_24, st1_25, st1_26, st1_27, st1_28, st1_29, st1_30, st1_31, st1_32, st1_33, st1_34, st1_35, st1_36, st1_37, st1_42, st1_43, st1_44, st1_46, st1_47, st1_48, st1_49, st1_50, st1_51, st1_52, st1_53, st1_54, st1_55, st1_56, st1_57, st1_58, st1_59, st1_60, gK_sI, gP_sI, gI_s, hI, sI_sI, k0, p0, k1, e5, tk4_2, tk4_3, tk4_4, tk4_6, tk4_e2, tk4_e3, tk4_e4, tk4_e5, tk4_e6, lp_out, spl]
    | succ r ih =>
      intro p a b c hpr
      obtain ⟨a1, a2, a3, -⟩ := lp_in (i := p) (n := L) (N := 900) (by omega) hL (by decide)
      rw [rX9_next_219]
      simp only [kX9_next_219, rX9_next_38, kX9_next_38, rX9_next_65, kX9_next_65, rX9_next_185, kX9_next_185, rX9_next_271, kX9_next_271, rX9_next_298, kX9_next_298, bk_c, if_true, if_false, wi_e, wl_e, wr_e, w1_i, w1_r, ldS_0, ldS_s, vi_e, vl_e, vr_e, dpL_u, dpL_i, dpL_r, dpL_l, stS_0, stS_1, stS_s, stL_0, stL_1, stL_s, bin_0, bin_1, bin_2, bin_3, bin_4, bin_5, bdv_0, bdv_1, lbin_0, lbin_1, lbin_2, cnd_0, cnd_1, cnd_2, cnd_3, cnd_4, cnd_5, aty_0, aty_1, aty_2, aty_3, aty_4, aty_5, c8_u, cn_0, cn_i, cn_r, cn_l, Nat.reduceAdd, Nat.reduceLeDiff, Nat.le_refl, adz, hnd_0, rcv_0, rcv_1, kLen_a, kLen_r, inB_e, inR_e, cpOK_e, swt_n, swt_c, List.take_succ_cons, List.take_zero, List.drop_succ_cons, List.drop_zero, List.reverse_cons, List.reverse_nil, List.nil_append, List.cons_append, List.length_cons, List.length_nil, Option.toList_some, Option.toList_none, det_e, det_x, tr_imp, fa_imp, implies_true, not_true, not_false_eq_true, and_true, true_and, nar_i, upd_s, st1_0, st1_1, st1_2, st1_3, st1_4, st1_5, st1_6, st1_7, st1_8, st1_9, st1_10, st1_11, st1_12, st1_13, st1_14, st1_15, st1_16, st1_17, st1_18, st1_19, st1_20, st1_21, st1_22, st1_23, st1_24, st1_25, st1_26, st1_27, st1_28, st1_29, st1_30, st1_31, st1_32, st1_33, st1_34, st1_35, st1_36, st1_37, st1_42, st1_43, st1_44, st1_46, st1_47, st1_48, st1_49, st1_50, st1_51, st1_52, st1_53, st1_54, st1_55, st1_56, st1_57, st1_58, st1_59, st1_60, gK_sI, gP_sI, gI_s, hI, sI_sI, k0, p0, k1, e5, tk4_2, tk4_3, tk4_4, tk4_6, tk4_e2, tk4_e3, tk4_e4, tk4_e5, tk4_e6, a1, a2, a3, nI_1, Nat.succ_ne_zero, spl]
      refine ⟨fun h => ?_, fun h => ⟨fun h2 => ?_, fun h2 => ?_⟩⟩
      · rw [if_neg (fun q => q.1 h)]
      · rw [if_neg (fun q => q.2 h2)]
      · rw [if_pos ⟨h, h2⟩]
        exact ih (p + 1) a b _ (by omega)
  have key38 : ∀ s a b c, s ≤ L → Run (gT G) (fun _ => S0) 0 0 (fun _ _ => none) (fun v' M' => v' = none ∧ M' = sI M t (tk4 (gI M t) (tkE (gI M (t + 1)) L c s).1 (nI s) (tkE (gI M (t + 1)) L c s).2.1 (nI (tkE (gI M (t + 1)) L c s).2.2))) (fun _ _ => False) kX9_next 38 [.val (.ref t)] [] (sI M t (tk4 (gI M t) a b c (nI s))) 0 0 := by
    intro s a b c hs
    rw [rX9_next_38]
    rcases Nat.lt_or_ge s L with q | q
    · obtain ⟨a1, a2, a3, a4⟩ := lp_in (i := s) (n := L) (N := 900) q hL (by decide)
      have n1 : ¬ L ≤ s := by omega
      simp only [kX9_next_38, rX9_next_38, kX9_next_38, rX9_next_65, kX9_next_65, rX9_next_185, kX9_next_185, rX9_next_271, kX9_next_271, rX9_next_298, kX9_next_298, bk_c, if_true, if_false, wi_e, wl_e, wr_e, w1_i, w1_r, ldS_0, ldS_s, vi_e, vl_e, vr_e, dpL_u, dpL_i, dpL_r, dpL_l, stS_0, stS_1, stS_s, stL_0, stL_1, stL_s, bin_0, bin_1, bin_2, bin_3, bin_4, bin_5, bdv_0, bdv_1, lbin_0, lbin_1, lbin_2, cnd_0, cnd_1, cnd_2, cnd_3, cnd_4, cnd_5, aty_0, aty_1, aty_2, aty_3, aty_4, aty_5, c8_u, cn_0, cn_i, cn_r, cn_l, Nat.reduceAdd, Nat.reduceLeDiff, Nat.le_refl, adz, hnd_0, rcv_0, rcv_1, kLen_a, kLen_r, inB_e, inR_e, cpOK_e, swt_n, swt_c, List.take_succ_cons, List.take_zero, List.drop_succ_cons, List.drop_zero, List.reverse_cons, List.reverse_nil, List.nil_append, List.cons_append, List.length_cons, List.length_nil, Option.toList_some, Option.toList_none, det_e, det_x, tr_imp, fa_imp, implies_true, not_true, not_false_eq_true, and_true, true_and, nar_i, upd_s, st1_0, st1_1, st1_2, st1_3, st1_4, st1_5, st1_6, st1_7, st1_8, st1_9, st1_10, st1_11, st1_12, st1_13, st1_14, st1_15, st1_16, st1_17, st1_18, st1_19, st1_20, st1_21, st1_22, st1_23, st1_24, st1_25, st1_26, st1_27, st1_28, st1_29, st1_30, st1_31, st1_32, st1_33, st1_34, st1_35, st1_36, st1_37, st1_42, st1_43, st1_44, st1_46, st1_47, st1_48, st1_49, st1_50, st1_51, st1_52, st1_53, st1_54, st1_55, st1_56, st1_57, st1_58, st1_59, st1_60, gK_sI, gP_sI, gI_s, hI, sI_sI, k0, p0, k1, e5, tk4_2, tk4_3, tk4_4, tk4_6, tk4_e2, tk4_e3, tk4_e4, tk4_e5, tk4_e6, a1, a2, a3, a4, nI_1, Nat.succ_ne_zero]
      have tO : ¬ dig (gI M (t + 1) s) → ¬ low (gI M (t + 1) s) → tkE (gI M (t + 1)) L c s = (gI M (t + 1) s &&& 255, c, s + 1) := fun h1 h2 => by unfold tkE; rw [if_neg n1, if_neg h1, if_neg h2]
      have tL : ¬ dig (gI M (t + 1) s) → low (gI M (t + 1) s) → tkE (gI M (t + 1)) L c s = (-3, c, spl (gI M (t + 1)) (L - s) s) := fun h1 h2 => by unfold tkE; rw [if_neg n1, if_neg h1, if_pos h2]
      have tD : dig (gI M (t + 1) s) → tkE (gI M (t + 1)) L c s = (-2, num (gI M (t + 1)) (L - s) s 0, spd (gI M (t + 1)) (L - s) s) := fun h1 => by unfold tkE; rw [if_neg n1, if_pos h1]
      refine ⟨fun d => ⟨fun h => ?_, fun h => ⟨fun h2 => ?_, fun h2 => ?_⟩⟩, fun d => ⟨fun d2 => ⟨fun h => ?_, fun h => ⟨fun h2 => ?_, fun h2 => ?_⟩⟩, fun d2 => ?_⟩⟩
      · rw [tO (fun q => q.1 d) (fun q => q.1 h)]
      · rw [tO (fun q => q.1 d) (fun q => q.2 h2)]
      · rw [tL (fun q => q.1 d) ⟨h, h2⟩]
        exact key3 _ _ _ _ _ (by omega)
      · rw [tO (fun q => q.2 d2) (fun q => q.1 h)]
      · rw [tO (fun q => q.2 d2) (fun q => q.2 h2)]
      · rw [tL (fun q => q.2 d2) ⟨h, h2⟩]
        exact key3 _ _ _ _ _ (by omega)
      · rw [tD ⟨d, d2⟩]
        exact key2 _ _ _ _ _ (by omega)
    · have hs2 : s = L := by omega
      subst hs2
      have a4 : (nI s < nI s) = False := eq_false (Int32.not_lt.mpr (Int32.le_refl _))
      simp only [kX9_next_38, rX9_next_38, kX9_next_38, rX9_next_65, kX9_next_65, rX9_next_185, kX9_next_185, rX9_next_271, kX9_next_271, rX9_next_298, kX9_next_298, bk_c, if_true, if_false, wi_e, wl_e, wr_e, w1_i, w1_r, ldS_0, ldS_s, vi_e, vl_e, vr_e, dpL_u, dpL_i, dpL_r, dpL_l, stS_0, stS_1, stS_s, stL_0, stL_1, stL_s, bin_0, bin_1, bin_2, bin_3, bin_4, bin_5, bdv_0, bdv_1, lbin_0, lbin_1, lbin_2, cnd_0, cnd_1, cnd_2, cnd_3, cnd_4, cnd_5, aty_0, aty_1, aty_2, aty_3, aty_4, aty_5, c8_u, cn_0, cn_i, cn_r, cn_l, Nat.reduceAdd, Nat.reduceLeDiff, Nat.le_refl, adz, hnd_0, rcv_0, rcv_1, kLen_a, kLen_r, inB_e, inR_e, cpOK_e, swt_n, swt_c, List.take_succ_cons, List.take_zero, List.drop_succ_cons, List.drop_zero, List.reverse_cons, List.reverse_nil, List.nil_append, List.cons_append, List.length_cons, List.length_nil, Option.toList_some, Option.toList_none, det_e, det_x, tr_imp, fa_imp, implies_true, not_true, not_false_eq_true, and_true, true_and, nar_i, upd_s, st1_0, st1_1, st1_2, st1_3, st1_4, st1_5, st1_6, st1_7, st1_8, st1_9, st1_10, st1_11, st1_12, st1_13, st1_14, st1_15, st1_16, st1_17, st1_18, st1_19, st1_20, st1_21, st1_22, st1_23, st1_24, st1_25, st1_26, st1_27, st1_28, st1_29, st1_30, st1_31, st1_32, st1_33, st1_34, st1_35, st1_36, st1_37, st1_42, st1_43, st1_44, st1_46, st1_47, st1_48, st1_49, st1_50, st1_51, st1_52, st1_53, st1_54, st1_55, st1_56, st1_57, st1_58, st1_59, st1_60, gK_sI, gP_sI, gI_s, hI, sI_sI, k0, p0, k1, e5, tk4_2, tk4_3, tk4_4, tk4_6, tk4_e2, tk4_e3, tk4_e4, tk4_e5, tk4_e6, a4]
      unfold tkE
      rw [if_pos (Nat.le_refl s)]
  have key1 : ∀ r p a b c, p + r = L → Run (gT G) (fun _ => S0) 0 0 (fun _ _ => none) (fun v' M' => v' = none ∧ M' = sI M t (tk4 (gI M t) (tkE (gI M (t + 1)) L c (skp (gI M (t + 1)) r p)).1 (nI (skp (gI M (t + 1)) r p)) (tkE (gI M (t + 1)) L c (skp (gI M (t + 1)) r p)).2.1 (nI (tkE (gI M (t + 1)) L c (skp (gI M (t + 1)) r p)).2.2))) (fun _ _ => False) kX9_next 0 [.val (.ref t)] [] (sI M t (tk4 (gI M t) a b c (nI p))) 0 0 := by
    intro r
    induction r with
    | zero =>
      intro p a b c hpr
      have hp2 : p = L := hpr
      subst hp2
      rw [rX9_next_0]
      simp only [kX9_next_0, bk_c, if_true, if_false, wi_e, wl_e, wr_e, w1_i, w1_r, ldS_0, ldS_s, vi_e, vl_e, vr_e, dpL_u, dpL_i, dpL_r, dpL_l, stS_0, stS_1, stS_s, stL_0, stL_1, stL_s, bin_0, bin_1, bin_2, bin_3, bin_4, bin_5, bdv_0, bdv_1, lbin_0, lbin_1, lbin_2, cnd_0, cnd_1, cnd_2, cnd_3, cnd_4, cnd_5, aty_0, aty_1, aty_2, aty_3, aty_4, aty_5, c8_u, cn_0, cn_i, cn_r, cn_l, Nat.reduceAdd, Nat.reduceLeDiff, Nat.le_refl, adz, hnd_0, rcv_0, rcv_1, kLen_a, kLen_r, inB_e, inR_e, cpOK_e, swt_n, swt_c, List.take_succ_cons, List.take_zero, List.drop_succ_cons, List.drop_zero, List.reverse_cons, List.reverse_nil, List.nil_append, List.cons_append, List.length_cons, List.length_nil, Option.toList_some, Option.toList_none, det_e, det_x, tr_imp, fa_imp, implies_true, not_true, not_false_eq_true, and_true, true_and, nar_i, upd_s, st1_0, st1_1, st1_2, st1_3, st1_4, st1_5, st1_6, st1_7, st1_8, st1_9, st1_10, st1_11, st1_12, st1_13, st1_14, st1_15, st1_16, st1_17, st1_18, st1_19, st1_20, st1_21, st1_22, st1_23, st1_24, st1_25, st1_26, st1_27, st1_28, st1_29, st1_30, st1_31, st1_32, st1_33, st1_34, st1_35, st1_36, st1_37, st1_42, st1_43, st1_44, st1_46, st1_47, st1_48, st1_49, st1_50, st1_51, st1_52, st1_53, st1_54, st1_55, st1_56, st1_57, st1_58, st1_59, st1_60, gK_sI, gP_sI, gI_s, hI, sI_sI, k0, p0, k1, e5, tk4_2, tk4_3, tk4_4, tk4_6, tk4_e2, tk4_e3, tk4_e4, tk4_e5, tk4_e6, lp_out, skp]
      exact key38 _ _ _ _ (Nat.le_refl _)
    | succ r ih =>
      intro p a b c hpr
      obtain ⟨a1, a2, a3, -⟩ := lp_in (i := p) (n := L) (N := 900) (by omega) hL (by decide)
      rw [rX9_next_0]
      simp only [kX9_next_0, bk_c, if_true, if_false, wi_e, wl_e, wr_e, w1_i, w1_r, ldS_0, ldS_s, vi_e, vl_e, vr_e, dpL_u, dpL_i, dpL_r, dpL_l, stS_0, stS_1, stS_s, stL_0, stL_1, stL_s, bin_0, bin_1, bin_2, bin_3, bin_4, bin_5, bdv_0, bdv_1, lbin_0, lbin_1, lbin_2, cnd_0, cnd_1, cnd_2, cnd_3, cnd_4, cnd_5, aty_0, aty_1, aty_2, aty_3, aty_4, aty_5, c8_u, cn_0, cn_i, cn_r, cn_l, Nat.reduceAdd, Nat.reduceLeDiff, Nat.le_refl, adz, hnd_0, rcv_0, rcv_1, kLen_a, kLen_r, inB_e, inR_e, cpOK_e, swt_n, swt_c, List.take_succ_cons, List.take_zero, List.drop_succ_cons, List.drop_zero, List.reverse_cons, List.reverse_nil, List.nil_append, List.cons_append, List.length_cons, List.length_nil, Option.toList_some, Option.toList_none, det_e, det_x, tr_imp, fa_imp, implies_true, not_true, not_false_eq_true, and_true, true_and, nar_i, upd_s, st1_0, st1_1, st1_2, st1_3, st1_4, st1_5, st1_6, st1_7, st1_8, st1_9, st1_10, st1_11, st1_12, st1_13, st1_14, st1_15, st1_16, st1_17, st1_18, st1_19, st1_20, st1_21, st1_22, st1_23, st1_24, st1_25, st1_26, st1_27, st1_28, st1_29, st1_30, st1_31, st1_32, st1_33, st1_34, st1_35, st1_36, st1_37, st1_42, st1_43, st1_44, st1_46, st1_47, st1_48, st1_49, st1_50, st1_51, st1_52, st1_53, st1_54, st1_55, st1_56, st1_57, st1_58, st1_59, st1_60, gK_sI, gP_sI, gI_s, hI, sI_sI, k0, p0, k1, e5, tk4_2, tk4_3, tk4_4, tk4_6, tk4_e2, tk4_e3, tk4_e4, tk4_e5, tk4_e6, a1, a2, a3, nI_1, Nat.succ_ne_zero, skp]
      refine ⟨fun h => ?_, fun h => ?_⟩
      · rw [if_neg h]
        exact key38 _ _ _ _ (by omega)
      · rw [if_pos (Decidable.not_not.mp h)]
        exact ih (p + 1) a b c (by omega)
  have h0 := key1 (L - p) p (gI M t 2) (gI M t 3) (gI M t 4) (by omega)
  rw [← e6, tk4_id, sI_id] at h0
  unfold nxM nxE nxS
  rw [e5, cL, e6, cp]
  exact h0
def S71 : Sem := fun as M => match as with
  | [.ref t, .int x] => sV (Lt M t ∧ cnt x 900 ∧ cnt (gI M t 1) 900) none (nxM (sI M t (upd (upd (gI M t) 5 (mnI x (gI M t 1))) 6 0)) t)
  | _ => sF
set_option maxRecDepth 100000 in
set_option maxHeartbeats 4000000 in
theorem s_X9_begin {l : Launch} {G : Gt} (hfl : l.stackTraces = false) : SatM l G 71 S71 := by
  refine t_X9_begin (E := fun _ => S74) hfl (s_X9_next hfl) fun as M hp => ?_
  unfold S71 at hp ⊢
  split at hp
  case h_2 => exact hp.elim
  rename_i t x
  obtain ⟨⟨k0, p0, k1⟩, ⟨n, hn, ex⟩, f, hf, e1⟩ := hp
  refine ⟨Nat.le_of_ble_eq_true rfl, ?_⟩
  show Run (gT G) _ _ _ _ _ _ _ 0 [.val (.ref t), .val (.int x)] [] M 0 0
  subst ex
  have hm : ∀ x y : Int32, (if y < x then y else x) = mnI x y := fun x y => rfl
  have hL : ∀ g, Lt (sI M t g) t := fun g => ⟨k0, p0, k1⟩
  have hmn : ∃ L, L ≤ 900 ∧ mnI (nI n) (nI f) = nI L := by
    unfold mnI
    split
    · exact ⟨f, hf, rfl⟩
    · exact ⟨n, hn, rfl⟩
  obtain ⟨L, hL9, eL⟩ := hmn
  simp only [rX9_begin_0, kX9_begin_0, bk_c, if_true, if_false, wi_e, wl_e, wr_e, w1_i, w1_r, ldS_0, ldS_s, vi_e, vl_e, vr_e, dpL_u, dpL_i, dpL_r, dpL_l, stS_0, stS_1, stS_s, stL_0, stL_1, stL_s, bin_0, bin_1, bin_2, bin_3, bin_4, bin_5, bdv_0, bdv_1, lbin_0, lbin_1, lbin_2, cnd_0, cnd_1, cnd_2, cnd_3, cnd_4, cnd_5, aty_0, aty_1, aty_2, aty_3, aty_4, aty_5, c8_u, cn_0, cn_i, cn_r, cn_l, Nat.reduceAdd, Nat.reduceLeDiff, Nat.le_refl, adz, hnd_0, rcv_0, rcv_1, kLen_a, kLen_r, inB_e, inR_e, cpOK_e, swt_n, swt_c, List.take_succ_cons, List.take_zero, List.drop_succ_cons, List.drop_zero, List.reverse_cons, List.reverse_nil, List.nil_append, List.cons_append, List.length_cons, List.length_nil, Option.toList_some, Option.toList_none, det_e, det_x, tr_imp, fa_imp, implies_true, not_true, not_false_eq_true, and_true, true_and, nar_i, upd_s, st1_0, st1_1, st1_2, st1_3, st1_4, st1_5, st1_6, st1_7, st1_8, st1_9, st1_10, st1_11, st1_12, st1_13, st1_14, st1_15, st1_16, st1_17, st1_18, st1_19, st1_20, st1_21, st1_22, st1_23, st1_24, st1_25, st1_26, st1_27, st1_28, st1_29, st1_30, st1_31, st1_32, st1_33, st1_34, st1_35, st1_36, st1_37, st1_42, st1_43, st1_44, st1_46, st1_47, st1_48, st1_49, st1_50, st1_51, st1_52, st1_53, st1_54, st1_55, st1_56, st1_57, st1_58, st1_59, st1_60, gK_sI, gP_sI, gI_s, sI_sI, k0, e1, hm, eL, S74, sV, hL, Nat.reduceEqDiff, reduceIte]
  refine ⟨L, 0, hL9, Nat.zero_le _, ?_, ?_⟩
  · rw [upd_n _ _ (show (5 : Nat) ≠ 6 by decide), upd_s]
  · rfl
theorem ne01 (t : Nat) : t ≠ t + 1 := by omega
def wB (w : Int32) (s : Int32) : Int32 := vp_nar .byte (w.toUInt32 >>> (s.toUInt32 &&& Int32.toUInt32 31)).toInt32.toInt8.toInt32
def awM (M : Mm) (t : Nat) (w : Int32) : Mm :=
  let f := (gI M t 1).toNatClampNeg
  sI (sI M (t + 1) (upd (upd (upd (upd (gI M (t + 1)) f (wB w 24)) (f + 1) (wB w 16)) (f + 2) (wB w 8)) (f + 3) (wB w 0))) t (upd (gI M t) 1 (nI (f + 4)))
def S70 : Sem := fun as M => match as with
  | [.ref t, .int w] => sV (Lt M t ∧ ∃ f, f + 4 ≤ 900 ∧ gI M t 1 = nI f) none (awM M t w)
  | _ => sF
set_option maxRecDepth 100000 in
set_option maxHeartbeats 4000000 in
theorem s_X9_addWord {l : Launch} {G : Gt} (hfl : l.stackTraces = false) : SatM l G 70 S70 := by
  refine t_X9_addWord (E := fun _ => S0) hfl  fun as M hp => ?_
  unfold S70 at hp ⊢
  split at hp
  case h_2 => exact hp.elim
  rename_i t w
  obtain ⟨⟨k0, p0, k1⟩, f, hf, e1⟩ := hp
  refine ⟨Nat.le_of_ble_eq_true rfl, ?_⟩
  show Run (gT G) _ _ _ _ _ _ _ 0 [.val (.ref t), .val (.int w), .unset] [] M 0 0
  have cf : (nI f).toNatClampNeg = f := nI_clamp (by omega)
  have hw : ∀ s : Int32, vp_nar .byte (w.toUInt32 >>> (s.toUInt32 &&& Int32.toUInt32 31)).toInt32.toInt8.toInt32 = wB w s := fun s => rfl
  have step : ∀ (Q : Option Value → Mm → Prop) (s : Int32) (i : Nat) (g : Nat → Int32), i < 900 → ¬ s < 0 → Run (gT G) (fun _ => S0) 0 0 (fun _ _ => none) Q (fun _ _ => False) kX9_addWord 3 [.val (.ref t), .val (.int w), .val (.int (s + -8))] [] (sI (sI M (t + 1) (upd g i (wB w s))) t (upd (gI M t) 1 (nI (i + 1)))) 0 0 → Run (gT G) (fun _ => S0) 0 0 (fun _ _ => none) Q (fun _ _ => False) kX9_addWord 3 [.val (.ref t), .val (.int w), .val (.int s)] [] (sI (sI M (t + 1) g) t (upd (gI M t) 1 (nI i))) 0 0 := by
    intro Q s i g hi hs hr
    have a0 : (s < 0) = False := eq_false hs
    have ci : (nI i).toNatClampNeg = i := nI_clamp (by omega)
    have a1 : (nI 900 ≤ nI i) = False := eq_false (fun q => absurd ((nI_leI (by decide) (by omega)).mp q) (by omega))
    have a2 : vp_in (nI i) 900 = True := eq_true (vp_in_nI hi (by decide))
    have hcm : ∀ f g h, sI (sI (sI M (t + 1) f) t g) (t + 1) h = sI (sI M (t + 1) h) t g := fun f g h => by rw [sI_cm _ _ _ (ne01 t), sI_sI]
    have hI1 : ∀ N g, gI (sI N t g) (t + 1) = gI N (t + 1) := fun N g => gI_q1 N t 1 g
    rw [rX9_addWord_3]
    simp only [kX9_addWord_3, rX9_addWord_0, kX9_addWord_0, rX9_addWord_42, kX9_addWord_42, rX9_addWord_48, kX9_addWord_48, bk_c, if_true, if_false, wi_e, wl_e, wr_e, w1_i, w1_r, ldS_0, ldS_s, vi_e, vl_e, vr_e, dpL_u, dpL_i, dpL_r, dpL_l, stS_0, stS_1, stS_s, stL_0, stL_1, stL_s, bin_0, bin_1, bin_2, bin_3, bin_4, bin_5, bdv_0, bdv_1, lbin_0, lbin_1, lbin_2, cnd_0, cnd_1, cnd_2, cnd_3, cnd_4, cnd_5, aty_0, aty_1, aty_2, aty_3, aty_4, aty_5, c8_u, cn_0, cn_i, cn_r, cn_l, Nat.reduceAdd, Nat.reduceLeDiff, Nat.le_refl, adz, hnd_0, rcv_0, rcv_1, kLen_a, kLen_r, inB_e, inR_e, cpOK_e, swt_n, swt_c, List.take_succ_cons, List.take_zero, List.drop_succ_cons, List.drop_zero, List.reverse_cons, List.reverse_nil, List.nil_append, List.cons_append, List.length_cons, List.length_nil, Option.toList_some, Option.toList_none, det_e, det_x, tr_imp, fa_imp, implies_true, not_true, not_false_eq_true, and_true, true_and, nar_i, upd_s, st1_0, st1_1, st1_2, st1_3, st1_4, st1_5, st1_6, st1_7, st1_8, st1_9, st1_10, st1_11, st1_12, st1_13, st1_14, st1_15, st1_16, st1_17, st1_18, st1_19, st1_20, st1_21, st1_22, st1_23, st1_24, st1_25, st1_26, st1_27, st1_28, st1_29, st1_30, st1_31, st1_32, st1_33, st1_34, st1_35, st1_36, st1_37, st1_42, st1_43, st1_44, st1_46, st1_47, st1_48, st1_49, st1_50, st1_51, st1_52, st1_53, st1_54, st1_55, st1_56, st1_57, st1_58, st1_59, st1_60, gK_sI, gP_sI, gI_s, hI1, hcm, sI_sI, upd_s, upd_upd, k0, p0, k1, a0, a1, a2, ci, hw, nI_1, Nat.succ_ne_zero]
    exact hr
  have h0 : sI (sI M (t + 1) (gI M (t + 1))) t (upd (gI M t) 1 (nI f)) = M := by
    rw [sI_id, show upd (gI M t) 1 (nI f) = gI M t from by rw [← e1]; funext k; unfold upd; split; rename_i h; rw [h]; rfl, sI_id]
  simp only [rX9_addWord_0, kX9_addWord_0, rX9_addWord_42, kX9_addWord_42, rX9_addWord_48, kX9_addWord_48, bk_c, if_true, if_false, wi_e, wl_e, wr_e, w1_i, w1_r, ldS_0, ldS_s, vi_e, vl_e, vr_e, dpL_u, dpL_i, dpL_r, dpL_l, stS_0, stS_1, stS_s, stL_0, stL_1, stL_s, bin_0, bin_1, bin_2, bin_3, bin_4, bin_5, bdv_0, bdv_1, lbin_0, lbin_1, lbin_2, cnd_0, cnd_1, cnd_2, cnd_3, cnd_4, cnd_5, aty_0, aty_1, aty_2, aty_3, aty_4, aty_5, c8_u, cn_0, cn_i, cn_r, cn_l, Nat.reduceAdd, Nat.reduceLeDiff, Nat.le_refl, adz, hnd_0, rcv_0, rcv_1, kLen_a, kLen_r, inB_e, inR_e, cpOK_e, swt_n, swt_c, List.take_succ_cons, List.take_zero, List.drop_succ_cons, List.drop_zero, List.reverse_cons, List.reverse_nil, List.nil_append, List.cons_append, List.length_cons, List.length_nil, Option.toList_some, Option.toList_none, det_e, det_x, tr_imp, fa_imp, implies_true, not_true, not_false_eq_true, and_true, true_and, nar_i, upd_s, st1_0, st1_1, st1_2, st1_3, st1_4, st1_5, st1_6, st1_7, st1_8, st1_9, st1_10, st1_11, st1_12, st1_13, st1_14, st1_15, st1_16, st1_17, st1_18, st1_19, st1_20, st1_21, st1_22, st1_23, st1_24, st1_25, st1_26, st1_27, st1_28, st1_29, st1_30, st1_31, st1_32, st1_33, st1_34, st1_35, st1_36, st1_37, st1_42, st1_43, st1_44, st1_46, st1_47, st1_48, st1_49, st1_50, st1_51, st1_52, st1_53, st1_54, st1_55, st1_56, st1_57, st1_58, st1_59, st1_60]
  rw [show kX9_addWord = kX9_addWord from rfl]
  have h1 : Run (gT G) (fun _ => S0) 0 0 (fun _ _ => none) (fun v' M' => v' = none ∧ M' = awM M t w) (fun _ _ => False) kX9_addWord 3 [.val (.ref t), .val (.int w), .val (.int 24)] [] (sI (sI M (t + 1) (gI M (t + 1))) t (upd (gI M t) 1 (nI f))) 0 0 := by
    refine step _ 24 f _ (by omega) (by decide) ?_
    refine step _ 16 (f + 1) _ (by omega) (by decide) ?_
    refine step _ 8 (f + 2) _ (by omega) (by decide) ?_
    refine step _ 0 (f + 3) _ (by omega) (by decide) ?_
    have a0 : ((0 : Int32) + -8 < 0) = True := eq_true (by decide)
    rw [rX9_addWord_3]
    simp only [kX9_addWord_3, rX9_addWord_0, kX9_addWord_0, rX9_addWord_42, kX9_addWord_42, rX9_addWord_48, kX9_addWord_48, bk_c, if_true, if_false, wi_e, wl_e, wr_e, w1_i, w1_r, ldS_0, ldS_s, vi_e, vl_e, vr_e, dpL_u, dpL_i, dpL_r, dpL_l, stS_0, stS_1, stS_s, stL_0, stL_1, stL_s, bin_0, bin_1, bin_2, bin_3, bin_4, bin_5, bdv_0, bdv_1, lbin_0, lbin_1, lbin_2, cnd_0, cnd_1, cnd_2, cnd_3, cnd_4, cnd_5, aty_0, aty_1, aty_2, aty_3, aty_4, aty_5, c8_u, cn_0, cn_i, cn_r, cn_l, Nat.reduceAdd, Nat.reduceLeDiff, Nat.le_refl, adz, hnd_0, rcv_0, rcv_1, kLen_a, kLen_r, inB_e, inR_e, cpOK_e, swt_n, swt_c, List.take_succ_cons, List.take_zero, List.drop_succ_cons, List.drop_zero, List.reverse_cons, List.reverse_nil, List.nil_append, List.cons_append, List.length_cons, List.length_nil, Option.toList_some, Option.toList_none, det_e, det_x, tr_imp, fa_imp, implies_true, not_true, not_false_eq_true, and_true, true_and, nar_i, upd_s, st1_0, st1_1, st1_2, st1_3, st1_4, st1_5, st1_6, st1_7, st1_8, st1_9, st1_10, st1_11, st1_12, st1_13, st1_14, st1_15, st1_16, st1_17, st1_18, st1_19, st1_20, st1_21, st1_22, st1_23, st1_24, st1_25, st1_26, st1_27, st1_28, st1_29, st1_30, st1_31, st1_32, st1_33, st1_34, st1_35, st1_36, st1_37, st1_42, st1_43, st1_44, st1_46, st1_47, st1_48, st1_49, st1_50, st1_51, st1_52, st1_53, st1_54, st1_55, st1_56, st1_57, st1_58, st1_59, st1_60, a0]
    unfold awM
    rw [e1, cf]
  rw [h0] at h1
  exact h1
