/-! ===== IrrigationTurnsModel: dividing what is left; draining; the guard ===== -/
theorem sd_en (D : Nat → Int32) {c d : Nat} (a : Int32) (hc : c < 16) (hd : D (13 + 13 * c + 1) = nI d) (hd6 : d ≤ 6) : SD D (enD D c a) := by
  unfold enD
  rw [hd, nI_clamp (by omega)]
  exact ((SD.u _ _ (by unfold stI; omega)).t (SD.u _ _ (by unfold stI; omega))).t (SD.u _ _ (by unfold stI; omega))
/-- an open child, in the reference's words -/
abbrev chD (D L : Nat → Int32) (c : Int32) (k : Nat) : Prop := D (13 + 13 * k) = c ∧ ¬ L k = 0
def ddA (D L : Nat → Int32) (c : Int32) (k : Nat) (z : Int32 × Int32) : Int32 × Int32 := if chD D L c k then (z.1 + D (13 + 13 * k + 4), if 0 < D (13 + 13 * k + 4) then nI k else z.2) else z
def ddL (D L : Nat → Int32) (c : Nat) : Nat → Int32 × Int32 → Int32 × Int32
  | 0, z => z
  | k + 1, z => if c < k + 1 then ddL D L c k (ddA D L (nI c) (k + 1) z) else z
def ddG (D L : Nat → Int32) (c a s : Int32) (k : Nat) (z : Int32) : Int32 := if chD D L c k then z + a * D (13 + 13 * k + 4) / s else z
def ddE (L : Nat → Int32) (c a s fi gi : Int32) (k : Nat) (D : Nat → Int32) : Nat → Int32 := if chD D L c k then enD D k (a * D (13 + 13 * k + 4) / s + if nI k = fi then a - gi else 0) else D
def dvD (D L : Nat → Int32) (c : Nat) (a : Int32) : Nat → Int32 :=
  let z := ddL D L c ((D 0).toNatClampNeg - 1) (0, -1)
  let g := itr (ddG D L (nI c) a z.1) ((D 0).toNatClampNeg - (c + 1)) (c + 1) 0
  if z.1 = 0 then upd D 9 (D 9 + a) else itr (ddE L (nI c) a z.1 z.2 g) ((D 0).toNatClampNeg - (c + 1)) (c + 1) D
theorem sd_ddE {D E : Nat → Int32} {n f r w g : Nat} (h : WD D n f r w g) (L : Nat → Int32) (c a s fi gi : Int32) (k : Nat) (hk : k < n) (hE : SD D E) : SD D (ddE L c a s fi gi k E) := by
  obtain ⟨d, d1, d2, d3⟩ := ((h.sd hE).2.2.2.1 k hk).1
  have hn : n ≤ 16 := h.1.1
  unfold ddE
  split
  · exact hE.t (sd_en E _ (by omega) d3 d2)
  · exact hE
theorem sd_dv {D : Nat → Int32} {n f r w g : Nat} (h : WD D n f r w g) (L : Nat → Int32) {c : Nat} (hc : c < n) (a : Int32) : SD D (dvD D L c a) := by
  have hn : n ≤ 16 := h.1.1
  unfold dvD
  dsimp only
  rw [h.2.1.1, nI_clamp (by omega)]
  split
  · exact SD.u _ _ (by unfold stI; omega)
  · exact SD.it2 n id _ (fun k z hk hz => sd_ddE h L _ _ _ _ _ k hk hz) _ _ D (by omega) (SD.r D)
def S121 : Sem := fun as M => match as with
  | [.ref m, .ref q, .int c, .int a] => sV (LM M m ∧ q ≠ m ∧ q ≠ m + 16 ∧ gK M q = kA .int 1793 ∧ ∃ n f r w g, WD (gI M q) n f r w g ∧ ∃ k, k < n ∧ c = nI k) none (sI M q (dvD (gI M q) (gI M (m + 16)) c.toNatClampNeg a))
  | _ => sF
def eX11_divide : Nat → Sem := fun id => if id = 113 then S113 else S124
set_option maxRecDepth 100000 in
set_option maxHeartbeats 4000000 in
theorem s_X11_divide {l : Launch} {G : Gt} (hfl : l.stackTraces = false) : SatM l G 121 S121 := by
  refine t_X11_divide (E := eX11_divide) hfl (s_X11_canal hfl) (s_X11_enter hfl) fun as M hp => ?_
  unfold S121 at hp ⊢
  split at hp
  case h_2 => exact hp.elim
  rename_i m q c a
  obtain ⟨hp, hq, hq16, k0, n, f, rr, w, g, hW, k, hk, ec⟩ := hp
  refine ⟨Nat.le_of_ble_eq_true rfl, ?_⟩
  show Run (gT G) _ _ _ _ _ _ _ 0 [.val (.ref m), .val (.ref q), .val (.int c), .val (.int a), .unset, .unset, .unset, .unset] [] M 0 0
  subst ec
  have hn : n ≤ 16 := hW.1.1
  have en : gI M q 0 = nI n := hW.2.1.1
  have cn : (nI n).toNatClampNeg = n := nI_clamp (by omega)
  have ck : (nI k).toNatClampNeg = k := nI_clamp (by omega)
  have hO : ∀ g, gI (sI M q g) (m + 16) = gI M (m + 16) := fun g => gI_f _ _ (fun e => hq16 e.symm)
  have hI : ∀ g, gI (sI M q g) m = gI M m := fun g => gI_f _ _ (fun e => hq e.symm)
  -- the third loop
  have key3 : ∀ r i (D : Nat → Int32) (s fi gi : Int32), ¬ s = 0 → i + r = n ∨ (r = 0 ∧ n ≤ i ∧ i ≤ 17) → SD (gI M q) D → Run (gT G) eX11_divide 0 0 (fun _ _ => none) (fun v' M' => v' = none ∧ M' = sI M q (itr (ddE (gI M (m + 16)) (nI k) a s fi gi) r i D)) (fun _ _ => False) kX11_divide 160 [.val (.ref m), .val (.ref q), .val (.int (nI k)), .val (.int a), .val (.int s), .val (.int fi), .val (.int gi), .val (.int (nI i))] [] (sI M q D) 0 0 := by
    intro r
    induction r with
    | zero =>
      intro i D s fi gi hs hi hD
      have a1 : (nI n ≤ nI i) = True := eq_true ((nI_leI (by omega) (by omega)).mpr (by omega))
      have e1 : D 0 = nI n := (hD 0 (by unfold stI; omega)).trans en
      rw [rX11_divide_160]
      simp only [kX11_divide_160, rX11_divide_0, kX11_divide_0, rX11_divide_46, kX11_divide_46, rX11_divide_76, kX11_divide_76, rX11_divide_82, kX11_divide_82, rX11_divide_96, kX11_divide_96, rX11_divide_149, kX11_divide_149, rX11_divide_155, kX11_divide_155, rX11_divide_220, kX11_divide_220, rX11_divide_221, kX11_divide_221, rX11_divide_225, kX11_divide_225, rX11_divide_231, kX11_divide_231, eX11_divide, S113, S124, bk_c, if_true, if_false, wi_e, wl_e, wr_e, w1_i, w1_r, ldS_0, ldS_s, vi_e, vl_e, vr_e, dpL_u, dpL_i, dpL_r, dpL_l, stS_0, stS_1, stS_s, stL_0, stL_1, stL_s, bin_0, bin_1, bin_2, bin_3, bin_4, bin_5, bdv_0, bdv_1, lbin_0, lbin_1, lbin_2, cnd_0, cnd_1, cnd_2, cnd_3, cnd_4, cnd_5, aty_0, aty_1, aty_2, aty_3, aty_4, aty_5, c8_u, cn_0, cn_i, cn_r, cn_l, Nat.reduceAdd, Nat.reduceLeDiff, Nat.le_refl, adz, hnd_0, rcv_0, rcv_1, kLen_a, kLen_r, inB_e, inR_e, cpOK_e, swt_n, swt_c, List.take_succ_cons, List.take_zero, List.drop_succ_cons, List.drop_zero, List.reverse_cons, List.reverse_nil, List.nil_append, List.cons_append, List.length_cons, List.length_nil, Option.toList_some, Option.toList_none, det_e, det_x, tr_imp, fa_imp, implies_true, not_true, not_false_eq_true, and_true, true_and, nar_i, upd_s, st1_0, st1_1, st1_2, st1_3, st1_4, st1_5, st1_6, st1_7, st1_8, st1_9, st1_10, st1_11, st1_12, st1_13, st1_14, st1_15, st1_16, st1_17, st1_18, st1_19, st1_20, st1_21, st1_22, st1_23, st1_24, st1_25, st1_26, st1_27, st1_28, st1_29, st1_30, st1_31, st1_32, st1_33, st1_34, st1_35, st1_36, st1_37, st1_42, st1_43, st1_44, st1_46, st1_47, st1_48, st1_49, st1_50, st1_51, st1_52, st1_53, st1_54, st1_55, st1_56, st1_57, st1_58, st1_59, st1_60, gK_sI, gI_s, k0, xL0, xL1, e1, a1, itr]
    | succ r ih =>
      intro i D s fi gi hs hi hD
      obtain ⟨a1, a2, a3, -⟩ := lp_in (i := i) (n := n) (N := 16) (by omega) hn (by decide)
      have e1 : D 0 = nI n := (hD 0 (by unfold stI; omega)).trans en
      have hi16 : i < 16 := by omega
      have x0 := xC0 hi16
      have x4 := xC hi16 (show 4 ≤ 12 by decide)
      obtain ⟨d, d1, d2, d3⟩ := ((hW.sd hD).2.2.2.1 i (by omega)).1
      have hpre : ∃ k, k < 16 ∧ nI i = nI k ∧ ∃ d, d ≤ 6 ∧ D (13 + 13 * k + 1) = nI d := ⟨i, hi16, rfl, d, d2, d3⟩
      rw [rX11_divide_160]
      simp only [kX11_divide_160, rX11_divide_0, kX11_divide_0, rX11_divide_46, kX11_divide_46, rX11_divide_76, kX11_divide_76, rX11_divide_82, kX11_divide_82, rX11_divide_96, kX11_divide_96, rX11_divide_149, kX11_divide_149, rX11_divide_155, kX11_divide_155, rX11_divide_220, kX11_divide_220, rX11_divide_221, kX11_divide_221, rX11_divide_225, kX11_divide_225, rX11_divide_231, kX11_divide_231, eX11_divide, S113, S124, bk_c, if_true, if_false, wi_e, wl_e, wr_e, w1_i, w1_r, ldS_0, ldS_s, vi_e, vl_e, vr_e, dpL_u, dpL_i, dpL_r, dpL_l, stS_0, stS_1, stS_s, stL_0, stL_1, stL_s, bin_0, bin_1, bin_2, bin_3, bin_4, bin_5, bdv_0, bdv_1, lbin_0, lbin_1, lbin_2, cnd_0, cnd_1, cnd_2, cnd_3, cnd_4, cnd_5, aty_0, aty_1, aty_2, aty_3, aty_4, aty_5, c8_u, cn_0, cn_i, cn_r, cn_l, Nat.reduceAdd, Nat.reduceLeDiff, Nat.le_refl, adz, hnd_0, rcv_0, rcv_1, kLen_a, kLen_r, inB_e, inR_e, cpOK_e, swt_n, swt_c, List.take_succ_cons, List.take_zero, List.drop_succ_cons, List.drop_zero, List.reverse_cons, List.reverse_nil, List.nil_append, List.cons_append, List.length_cons, List.length_nil, Option.toList_some, Option.toList_none, det_e, det_x, tr_imp, fa_imp, implies_true, not_true, not_false_eq_true, and_true, true_and, nar_i, upd_s, st1_0, st1_1, st1_2, st1_3, st1_4, st1_5, st1_6, st1_7, st1_8, st1_9, st1_10, st1_11, st1_12, st1_13, st1_14, st1_15, st1_16, st1_17, st1_18, st1_19, st1_20, st1_21, st1_22, st1_23, st1_24, st1_25, st1_26, st1_27, st1_28, st1_29, st1_30, st1_31, st1_32, st1_33, st1_34, st1_35, st1_36, st1_37, st1_42, st1_43, st1_44, st1_46, st1_47, st1_48, st1_49, st1_50, st1_51, st1_52, st1_53, st1_54, st1_55, st1_56, st1_57, st1_58, st1_59, st1_60, gK_sI, gP_sI, gI_s, sI_sI, hO, hp.f, Nat.reduceEqDiff, reduceIte, sV, k0, c13, ad_4, nI_1, xL0, xL1, x0, x4, Nat.succ_ne_zero, ne_eq, e1, a1, a2, a3, hs, itr, hpre]
      refine ⟨fun h => ?_, fun h => ⟨fun h2 => ?_, fun h2 => ⟨fun h3 => ?_, fun h3 => ?_⟩⟩⟩
      · rw [show ddE (gI M (m + 16)) (nI k) a s fi gi i D = D from if_neg (fun q => h q.1)]
        exact ih (i + 1) D s fi gi hs (by omega) hD
      · rw [show ddE (gI M (m + 16)) (nI k) a s fi gi i D = D from if_neg (fun q => q.2 h2)]
        exact ih (i + 1) D s fi gi hs (by omega) hD
      · have e := ih (i + 1) (ddE (gI M (m + 16)) (nI k) a s fi gi i D) s fi gi hs (by omega) (sd_ddE hW _ _ _ _ _ _ _ (by omega) hD)
        rw [show ddE (gI M (m + 16)) (nI k) a s fi gi i D = enD D i (a * D (13 + 13 * i + 4) / s + 0) from by unfold ddE; rw [if_pos ⟨Decidable.not_not.mp h, h2⟩, if_neg h3]] at e ⊢
        exact e
      · have e := ih (i + 1) (ddE (gI M (m + 16)) (nI k) a s fi gi i D) s fi gi hs (by omega) (sd_ddE hW _ _ _ _ _ _ _ (by omega) hD)
        rw [show ddE (gI M (m + 16)) (nI k) a s fi gi i D = enD D i (a * D (13 + 13 * i + 4) / s + (a - gi)) from by unfold ddE; rw [if_pos ⟨Decidable.not_not.mp h, h2⟩, if_pos (Decidable.not_not.mp h3)]] at e ⊢
        exact e
  have key2 : ∀ (Q : Option Value → Mm → Prop) (X : Nat → Mm → Prop) r i (s fi gi : Int32), ¬ s = 0 → i + r = n → Run (gT G) eX11_divide 0 0 (fun _ _ => none) Q X kX11_divide 160 [.val (.ref m), .val (.ref q), .val (.int (nI k)), .val (.int a), .val (.int s), .val (.int fi), .val (.int (itr (ddG (gI M q) (gI M (m + 16)) (nI k) a s) r i gi)), .val (.int (nI (k + 1)))] [] M 0 0 → Run (gT G) eX11_divide 0 0 (fun _ _ => none) Q X kX11_divide 101 [.val (.ref m), .val (.ref q), .val (.int (nI k)), .val (.int a), .val (.int s), .val (.int fi), .val (.int gi), .val (.int (nI i))] [] M 0 0 := by
    intro Q X r
    induction r with
    | zero =>
      intro i s fi gi hs hi hk2
      have hi2 : i = n := hi
      subst hi2
      rw [rX11_divide_101]
      simp only [kX11_divide_101, rX11_divide_0, kX11_divide_0, rX11_divide_46, kX11_divide_46, rX11_divide_76, kX11_divide_76, rX11_divide_82, kX11_divide_82, rX11_divide_96, kX11_divide_96, rX11_divide_149, kX11_divide_149, rX11_divide_155, kX11_divide_155, rX11_divide_220, kX11_divide_220, rX11_divide_221, kX11_divide_221, rX11_divide_225, kX11_divide_225, rX11_divide_231, kX11_divide_231, eX11_divide, S113, S124, bk_c, if_true, if_false, wi_e, wl_e, wr_e, w1_i, w1_r, ldS_0, ldS_s, vi_e, vl_e, vr_e, dpL_u, dpL_i, dpL_r, dpL_l, stS_0, stS_1, stS_s, stL_0, stL_1, stL_s, bin_0, bin_1, bin_2, bin_3, bin_4, bin_5, bdv_0, bdv_1, lbin_0, lbin_1, lbin_2, cnd_0, cnd_1, cnd_2, cnd_3, cnd_4, cnd_5, aty_0, aty_1, aty_2, aty_3, aty_4, aty_5, c8_u, cn_0, cn_i, cn_r, cn_l, Nat.reduceAdd, Nat.reduceLeDiff, Nat.le_refl, adz, hnd_0, rcv_0, rcv_1, kLen_a, kLen_r, inB_e, inR_e, cpOK_e, swt_n, swt_c, List.take_succ_cons, List.take_zero, List.drop_succ_cons, List.drop_zero, List.reverse_cons, List.reverse_nil, List.nil_append, List.cons_append, List.length_cons, List.length_nil, Option.toList_some, Option.toList_none, det_e, det_x, tr_imp, fa_imp, implies_true, not_true, not_false_eq_true, and_true, true_and, nar_i, upd_s, st1_0, st1_1, st1_2, st1_3, st1_4, st1_5, st1_6, st1_7, st1_8, st1_9, st1_10, st1_11, st1_12, st1_13, st1_14, st1_15, st1_16, st1_17, st1_18, st1_19, st1_20, st1_21, st1_22, st1_23, st1_24, st1_25, st1_26, st1_27, st1_28, st1_29, st1_30, st1_31, st1_32, st1_33, st1_34, st1_35, st1_36, st1_37, st1_42, st1_43, st1_44, st1_46, st1_47, st1_48, st1_49, st1_50, st1_51, st1_52, st1_53, st1_54, st1_55, st1_56, st1_57, st1_58, st1_59, st1_60, k0, xL0, xL1, en, lp_out, nI_1]
      exact hk2
    | succ r ih =>
      intro i s fi gi hs hi hk2
      obtain ⟨a1, a2, a3, -⟩ := lp_in (i := i) (n := n) (N := 16) (by omega) hn (by decide)
      have hi16 : i < 16 := by omega
      have x0 := xC0 hi16
      have x4 := xC hi16 (show 4 ≤ 12 by decide)
      rw [rX11_divide_101]
      simp only [kX11_divide_101, rX11_divide_0, kX11_divide_0, rX11_divide_46, kX11_divide_46, rX11_divide_76, kX11_divide_76, rX11_divide_82, kX11_divide_82, rX11_divide_96, kX11_divide_96, rX11_divide_149, kX11_divide_149, rX11_divide_155, kX11_divide_155, rX11_divide_220, kX11_divide_220, rX11_divide_221, kX11_divide_221, rX11_divide_225, kX11_divide_225, rX11_divide_231, kX11_divide_231, eX11_divide, S113, S124, bk_c, if_true, if_false, wi_e, wl_e, wr_e, w1_i, w1_r, ldS_0, ldS_s, vi_e, vl_e, vr_e, dpL_u, dpL_i, dpL_r, dpL_l, stS_0, stS_1, stS_s, stL_0, stL_1, stL_s, bin_0, bin_1, bin_2, bin_3, bin_4, bin_5, bdv_0, bdv_1, lbin_0, lbin_1, lbin_2, cnd_0, cnd_1, cnd_2, cnd_3, cnd_4, cnd_5, aty_0, aty_1, aty_2, aty_3, aty_4, aty_5, c8_u, cn_0, cn_i, cn_r, cn_l, Nat.reduceAdd, Nat.reduceLeDiff, Nat.le_refl, adz, hnd_0, rcv_0, rcv_1, kLen_a, kLen_r, inB_e, inR_e, cpOK_e, swt_n, swt_c, List.take_succ_cons, List.take_zero, List.drop_succ_cons, List.drop_zero, List.reverse_cons, List.reverse_nil, List.nil_append, List.cons_append, List.length_cons, List.length_nil, Option.toList_some, Option.toList_none, det_e, det_x, tr_imp, fa_imp, implies_true, not_true, not_false_eq_true, and_true, true_and, nar_i, upd_s, st1_0, st1_1, st1_2, st1_3, st1_4, st1_5, st1_6, st1_7, st1_8, st1_9, st1_10, st1_11, st1_12, st1_13, st1_14, st1_15, st1_16, st1_17, st1_18, st1_19, st1_20, st1_21, st1_22, st1_23, st1_24, st1_25, st1_26, st1_27, st1_28, st1_29, st1_30, st1_31, st1_32, st1_33, st1_34, st1_35, st1_36, st1_37, st1_42, st1_43, st1_44, st1_46, st1_47, st1_48, st1_49, st1_50, st1_51, st1_52, st1_53, st1_54, st1_55, st1_56, st1_57, st1_58, st1_59, st1_60, hp.f, Nat.reduceEqDiff, reduceIte, sV, k0, c13, ad_4, nI_1, xL0, xL1, x0, x4, Nat.succ_ne_zero, ne_eq, en, a1, a2, a3, hs]
      refine ⟨fun h => ?_, fun h => ⟨fun h2 => ?_, fun h2 => ?_⟩⟩
      · refine ih (i + 1) s fi gi hs (by omega) ?_
        have e : ddG (gI M q) (gI M (m + 16)) (nI k) a s i gi = gi := if_neg (fun q => h q.1)
        unfold itr at hk2
        rw [e] at hk2
        exact hk2
      · refine ih (i + 1) s fi gi hs (by omega) ?_
        have e : ddG (gI M q) (gI M (m + 16)) (nI k) a s i gi = gi := if_neg (fun q => q.2 h2)
        unfold itr at hk2
        rw [e] at hk2
        exact hk2
      · refine ih (i + 1) s fi _ hs (by omega) ?_
        have e : ddG (gI M q) (gI M (m + 16)) (nI k) a s i gi = gi + a * gI M q (13 + 13 * i + 4) / s := if_pos ⟨Decidable.not_not.mp h, h2⟩
        unfold itr at hk2
        rw [e] at hk2
        exact hk2
  have fin : ∀ (z : Int32 × Int32) (u : Slot), ddL (gI M q) (gI M (m + 16)) k ((gI M q 0).toNatClampNeg - 1) (0, -1) = z → Run (gT G) eX11_divide 0 0 (fun _ _ => none) (fun v' M' => v' = none ∧ M' = sI M q (dvD (gI M q) (gI M (m + 16)) k a)) (fun _ _ => False) kX11_divide 82 [.val (.ref m), .val (.ref q), .val (.int (nI k)), .val (.int a), .val (.int z.1), .val (.int z.2), .val (.int 0), u] [] M 0 0 := by
    intro z u hz
    rw [rX11_divide_82]
    simp only [kX11_divide_82, rX11_divide_0, kX11_divide_0, rX11_divide_46, kX11_divide_46, rX11_divide_76, kX11_divide_76, rX11_divide_82, kX11_divide_82, rX11_divide_96, kX11_divide_96, rX11_divide_149, kX11_divide_149, rX11_divide_155, kX11_divide_155, rX11_divide_220, kX11_divide_220, rX11_divide_221, kX11_divide_221, rX11_divide_225, kX11_divide_225, rX11_divide_231, kX11_divide_231, eX11_divide, S113, S124, bk_c, if_true, if_false, wi_e, wl_e, wr_e, w1_i, w1_r, ldS_0, ldS_s, vi_e, vl_e, vr_e, dpL_u, dpL_i, dpL_r, dpL_l, stS_0, stS_1, stS_s, stL_0, stL_1, stL_s, bin_0, bin_1, bin_2, bin_3, bin_4, bin_5, bdv_0, bdv_1, lbin_0, lbin_1, lbin_2, cnd_0, cnd_1, cnd_2, cnd_3, cnd_4, cnd_5, aty_0, aty_1, aty_2, aty_3, aty_4, aty_5, c8_u, cn_0, cn_i, cn_r, cn_l, Nat.reduceAdd, Nat.reduceLeDiff, Nat.le_refl, adz, hnd_0, rcv_0, rcv_1, kLen_a, kLen_r, inB_e, inR_e, cpOK_e, swt_n, swt_c, List.take_succ_cons, List.take_zero, List.drop_succ_cons, List.drop_zero, List.reverse_cons, List.reverse_nil, List.nil_append, List.cons_append, List.length_cons, List.length_nil, Option.toList_some, Option.toList_none, det_e, det_x, tr_imp, fa_imp, implies_true, not_true, not_false_eq_true, and_true, true_and, nar_i, upd_s, st1_0, st1_1, st1_2, st1_3, st1_4, st1_5, st1_6, st1_7, st1_8, st1_9, st1_10, st1_11, st1_12, st1_13, st1_14, st1_15, st1_16, st1_17, st1_18, st1_19, st1_20, st1_21, st1_22, st1_23, st1_24, st1_25, st1_26, st1_27, st1_28, st1_29, st1_30, st1_31, st1_32, st1_33, st1_34, st1_35, st1_36, st1_37, st1_42, st1_43, st1_44, st1_46, st1_47, st1_48, st1_49, st1_50, st1_51, st1_52, st1_53, st1_54, st1_55, st1_56, st1_57, st1_58, st1_59, st1_60, k0, xL0, xL1, nI_1]
    refine ⟨fun h => ?_, fun h => ?_⟩
    · refine key2 _ _ (n - (k + 1)) (k + 1) z.1 z.2 0 h (by omega) ?_
      have h3 := key3 (n - (k + 1)) (k + 1) (gI M q) z.1 z.2 (itr (ddG (gI M q) (gI M (m + 16)) (nI k) a z.1) (n - (k + 1)) (k + 1) 0) h (by omega) (SD.r _)
      rw [sI_id] at h3
      unfold dvD
      dsimp only
      rw [hz, if_neg h, en, cn]
      exact h3
    · unfold dvD
      dsimp only
      rw [hz, if_pos (Decidable.not_not.mp h)]
  have key1 : ∀ i (z : Int32 × Int32), i < n → k ≤ i → ddL (gI M q) (gI M (m + 16)) k i z = ddL (gI M q) (gI M (m + 16)) k ((gI M q 0).toNatClampNeg - 1) (0, -1) → Run (gT G) eX11_divide 0 0 (fun _ _ => none) (fun v' M' => v' = none ∧ M' = sI M q (dvD (gI M q) (gI M (m + 16)) k a)) (fun _ _ => False) kX11_divide 16 [.val (.ref m), .val (.ref q), .val (.int (nI k)), .val (.int a), .val (.int z.1), .val (.int z.2), .val (.int 0), .val (.int (nI i))] [] M 0 0 := by
    intro i
    induction i with
    | zero =>
      intro z hi hki hz
      have a1 : (nI 0 ≤ nI k) = True := eq_true ((nI_leI (by omega) (by omega)).mpr (by omega))
      rw [rX11_divide_16]
      simp only [kX11_divide_16, bk_c, if_true, if_false, wi_e, wl_e, wr_e, w1_i, w1_r, ldS_0, ldS_s, vi_e, vl_e, vr_e, dpL_u, dpL_i, dpL_r, dpL_l, stS_0, stS_1, stS_s, stL_0, stL_1, stL_s, bin_0, bin_1, bin_2, bin_3, bin_4, bin_5, bdv_0, bdv_1, lbin_0, lbin_1, lbin_2, cnd_0, cnd_1, cnd_2, cnd_3, cnd_4, cnd_5, aty_0, aty_1, aty_2, aty_3, aty_4, aty_5, c8_u, cn_0, cn_i, cn_r, cn_l, Nat.reduceAdd, Nat.reduceLeDiff, Nat.le_refl, adz, hnd_0, rcv_0, rcv_1, kLen_a, kLen_r, inB_e, inR_e, cpOK_e, swt_n, swt_c, List.take_succ_cons, List.take_zero, List.drop_succ_cons, List.drop_zero, List.reverse_cons, List.reverse_nil, List.nil_append, List.cons_append, List.length_cons, List.length_nil, Option.toList_some, Option.toList_none, det_e, det_x, tr_imp, fa_imp, implies_true, not_true, not_false_eq_true, and_true, true_and, nar_i, upd_s, st1_0, st1_1, st1_2, st1_3, st1_4, st1_5, st1_6, st1_7, st1_8, st1_9, st1_10, st1_11, st1_12, st1_13, st1_14, st1_15, st1_16, st1_17, st1_18, st1_19, st1_20, st1_21, st1_22, st1_23, st1_24, st1_25, st1_26, st1_27, st1_28, st1_29, st1_30, st1_31, st1_32, st1_33, st1_34, st1_35, st1_36, st1_37, st1_42, st1_43, st1_44, st1_46, st1_47, st1_48, st1_49, st1_50, st1_51, st1_52, st1_53, st1_54, st1_55, st1_56, st1_57, st1_58, st1_59, st1_60, a1]
      exact fin z _ hz.symm
    | succ i ih =>
      intro z hi hki hz
      by_cases e : k = i + 1
      · have a1 : (nI (i + 1) ≤ nI k) = True := eq_true ((nI_leI (by omega) (by omega)).mpr (by omega))
        rw [rX11_divide_16]
        simp only [kX11_divide_16, bk_c, if_true, if_false, wi_e, wl_e, wr_e, w1_i, w1_r, ldS_0, ldS_s, vi_e, vl_e, vr_e, dpL_u, dpL_i, dpL_r, dpL_l, stS_0, stS_1, stS_s, stL_0, stL_1, stL_s, bin_0, bin_1, bin_2, bin_3, bin_4, bin_5, bdv_0, bdv_1, lbin_0, lbin_1, lbin_2, cnd_0, cnd_1, cnd_2, cnd_3, cnd_4, cnd_5, aty_0, aty_1, aty_2, aty_3, aty_4, aty_5, c8_u, cn_0, cn_i, cn_r, cn_l, Nat.reduceAdd, Nat.reduceLeDiff, Nat.le_refl, adz, hnd_0, rcv_0, rcv_1, kLen_a, kLen_r, inB_e, inR_e, cpOK_e, swt_n, swt_c, List.take_succ_cons, List.take_zero, List.drop_succ_cons, List.drop_zero, List.reverse_cons, List.reverse_nil, List.nil_append, List.cons_append, List.length_cons, List.length_nil, Option.toList_some, Option.toList_none, det_e, det_x, tr_imp, fa_imp, implies_true, not_true, not_false_eq_true, and_true, true_and, nar_i, upd_s, st1_0, st1_1, st1_2, st1_3, st1_4, st1_5, st1_6, st1_7, st1_8, st1_9, st1_10, st1_11, st1_12, st1_13, st1_14, st1_15, st1_16, st1_17, st1_18, st1_19, st1_20, st1_21, st1_22, st1_23, st1_24, st1_25, st1_26, st1_27, st1_28, st1_29, st1_30, st1_31, st1_32, st1_33, st1_34, st1_35, st1_36, st1_37, st1_42, st1_43, st1_44, st1_46, st1_47, st1_48, st1_49, st1_50, st1_51, st1_52, st1_53, st1_54, st1_55, st1_56, st1_57, st1_58, st1_59, st1_60, a1]
        refine fin z _ (hz.symm.trans ?_)
        unfold ddL
        rw [if_neg (by omega)]
      · have a1 : (nI (i + 1) ≤ nI k) = False := eq_false (fun q => absurd ((nI_leI (by omega) (by omega)).mp q) (by omega))
        have hi16 : i + 1 < 16 := by omega
        have x0 := xC0 hi16
        have x4 := xC hi16 (show 4 ≤ 12 by decide)
        have a2 : vp_in (nI (i + 1)) 16 = True := eq_true (vp_in_nI hi16 (by decide))
        have a3 : (nI (i + 1)).toNatClampNeg = i + 1 := nI_clamp (by omega)
        have hz2 : ddL (gI M q) (gI M (m + 16)) k i (ddA (gI M q) (gI M (m + 16)) (nI k) (i + 1) z) = ddL (gI M q) (gI M (m + 16)) k ((gI M q 0).toNatClampNeg - 1) (0, -1) := by
          rw [← hz]
          show _ = if k < i + 1 then _ else _
          rw [if_pos (by omega)]
        rw [rX11_divide_16]
        simp only [kX11_divide_16, rX11_divide_0, kX11_divide_0, rX11_divide_46, kX11_divide_46, rX11_divide_76, kX11_divide_76, rX11_divide_82, kX11_divide_82, rX11_divide_96, kX11_divide_96, rX11_divide_149, kX11_divide_149, rX11_divide_155, kX11_divide_155, rX11_divide_220, kX11_divide_220, rX11_divide_221, kX11_divide_221, rX11_divide_225, kX11_divide_225, rX11_divide_231, kX11_divide_231, eX11_divide, S113, S124, bk_c, if_true, if_false, wi_e, wl_e, wr_e, w1_i, w1_r, ldS_0, ldS_s, vi_e, vl_e, vr_e, dpL_u, dpL_i, dpL_r, dpL_l, stS_0, stS_1, stS_s, stL_0, stL_1, stL_s, bin_0, bin_1, bin_2, bin_3, bin_4, bin_5, bdv_0, bdv_1, lbin_0, lbin_1, lbin_2, cnd_0, cnd_1, cnd_2, cnd_3, cnd_4, cnd_5, aty_0, aty_1, aty_2, aty_3, aty_4, aty_5, c8_u, cn_0, cn_i, cn_r, cn_l, Nat.reduceAdd, Nat.reduceLeDiff, Nat.le_refl, adz, hnd_0, rcv_0, rcv_1, kLen_a, kLen_r, inB_e, inR_e, cpOK_e, swt_n, swt_c, List.take_succ_cons, List.take_zero, List.drop_succ_cons, List.drop_zero, List.reverse_cons, List.reverse_nil, List.nil_append, List.cons_append, List.length_cons, List.length_nil, Option.toList_some, Option.toList_none, det_e, det_x, tr_imp, fa_imp, implies_true, not_true, not_false_eq_true, and_true, true_and, nar_i, upd_s, st1_0, st1_1, st1_2, st1_3, st1_4, st1_5, st1_6, st1_7, st1_8, st1_9, st1_10, st1_11, st1_12, st1_13, st1_14, st1_15, st1_16, st1_17, st1_18, st1_19, st1_20, st1_21, st1_22, st1_23, st1_24, st1_25, st1_26, st1_27, st1_28, st1_29, st1_30, st1_31, st1_32, st1_33, st1_34, st1_35, st1_36, st1_37, st1_42, st1_43, st1_44, st1_46, st1_47, st1_48, st1_49, st1_50, st1_51, st1_52, st1_53, st1_54, st1_55, st1_56, st1_57, st1_58, st1_59, st1_60, hp.f, Nat.reduceEqDiff, reduceIte, sV, k0, c13, ad_4, nI_m1, xL0, xL1, x0, x4, Nat.succ_ne_zero, ne_eq, a1, a2, a3]
        refine ⟨fun h => ?_, fun h => ⟨fun h2 => ⟨fun h3 => ?_, fun h3 => ?_⟩, fun h2 => ?_⟩⟩
        · have e2 : ddA (gI M q) (gI M (m + 16)) (nI k) (i + 1) z = z := if_neg (fun q => h q.1)
          rw [e2] at hz2
          exact ih z (by omega) (by omega) hz2
        · have e2 : ddA (gI M q) (gI M (m + 16)) (nI k) (i + 1) z = (z.1 + gI M q (13 + 13 * (i + 1) + 4), z.2) := by unfold ddA; rw [if_pos ⟨Decidable.not_not.mp h, h2⟩, if_neg (Int32.not_lt.mpr h3)]
          rw [e2] at hz2
          exact ih (_, _) (by omega) (by omega) hz2
        · have e2 : ddA (gI M q) (gI M (m + 16)) (nI k) (i + 1) z = (z.1 + gI M q (13 + 13 * (i + 1) + 4), nI (i + 1)) := by unfold ddA; rw [if_pos ⟨Decidable.not_not.mp h, h2⟩, if_pos (Int32.not_le.mp h3)]
          rw [e2] at hz2
          exact ih (_, _) (by omega) (by omega) hz2
        · have e2 : ddA (gI M q) (gI M (m + 16)) (nI k) (i + 1) z = z := if_neg (fun q => q.2 (Decidable.not_not.mp h2))
          rw [e2] at hz2
          exact ih z (by omega) (by omega) hz2
  obtain ⟨n', rfl⟩ : ∃ n', n = n' + 1 := ⟨n - 1, by omega⟩
  simp only [rX11_divide_0, kX11_divide_0, rX11_divide_46, kX11_divide_46, rX11_divide_76, kX11_divide_76, rX11_divide_82, kX11_divide_82, rX11_divide_96, kX11_divide_96, rX11_divide_149, kX11_divide_149, rX11_divide_155, kX11_divide_155, rX11_divide_220, kX11_divide_220, rX11_divide_221, kX11_divide_221, rX11_divide_225, kX11_divide_225, rX11_divide_231, kX11_divide_231, eX11_divide, S113, S124, bk_c, if_true, if_false, wi_e, wl_e, wr_e, w1_i, w1_r, ldS_0, ldS_s, vi_e, vl_e, vr_e, dpL_u, dpL_i, dpL_r, dpL_l, stS_0, stS_1, stS_s, stL_0, stL_1, stL_s, bin_0, bin_1, bin_2, bin_3, bin_4, bin_5, bdv_0, bdv_1, lbin_0, lbin_1, lbin_2, cnd_0, cnd_1, cnd_2, cnd_3, cnd_4, cnd_5, aty_0, aty_1, aty_2, aty_3, aty_4, aty_5, c8_u, cn_0, cn_i, cn_r, cn_l, Nat.reduceAdd, Nat.reduceLeDiff, Nat.le_refl, adz, hnd_0, rcv_0, rcv_1, kLen_a, kLen_r, inB_e, inR_e, cpOK_e, swt_n, swt_c, List.take_succ_cons, List.take_zero, List.drop_succ_cons, List.drop_zero, List.reverse_cons, List.reverse_nil, List.nil_append, List.cons_append, List.length_cons, List.length_nil, Option.toList_some, Option.toList_none, det_e, det_x, tr_imp, fa_imp, implies_true, not_true, not_false_eq_true, and_true, true_and, nar_i, upd_s, st1_0, st1_1, st1_2, st1_3, st1_4, st1_5, st1_6, st1_7, st1_8, st1_9, st1_10, st1_11, st1_12, st1_13, st1_14, st1_15, st1_16, st1_17, st1_18, st1_19, st1_20, st1_21, st1_22, st1_23, st1_24, st1_25, st1_26, st1_27, st1_28, st1_29, st1_30, st1_31, st1_32, st1_33, st1_34, st1_35, st1_36, st1_37, st1_42, st1_43, st1_44, st1_46, st1_47, st1_48, st1_49, st1_50, st1_51, st1_52, st1_53, st1_54, st1_55, st1_56, st1_57, st1_58, st1_59, st1_60, k0, xL0, xL1, en, nI_pred, ck]
  exact key1 n' (0, -1) (by omega) (by omega) (by rw [en, cn]; rfl)
