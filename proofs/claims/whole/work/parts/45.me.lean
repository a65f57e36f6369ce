/-! ===== IrrigationTurnsModel: draining, the guard, open gates ===== -/
def drS (D : Nat → Int32) (f : Nat) : Int32 := mnM (D (221 + 11 * f + 5)) (D (221 + 11 * f + 7))
def dr2 (D : Nat → Int32) (f : Nat) : Nat → Int32 := upd (upd D (221 + 11 * f + 7) (D (221 + 11 * f + 7) - drS D f)) 11 (D 11 + drS D f)
def drA (D : Nat → Int32) (f : Nat) : Int32 := D (221 + 11 * f + 7) - drS D f - D (221 + 11 * f + 4)
def dr3 (D : Nat → Int32) (f : Nat) : Nat → Int32 := upd (dr2 D f) (221 + 11 * f + 7) (D (221 + 11 * f + 7) - drS D f - drA D f)
def drD (D : Nat → Int32) (f : Nat) : Nat → Int32 :=
  if ¬ 0 < drA D f then dr2 D f
  else if D (221 + 11 * f + 6) < 0 then upd (dr3 D f) 9 (D 9 + drA D f)
  else upd (dr3 D f) (221 + 11 * (D (221 + 11 * f + 6)).toNatClampNeg + 7) (dr3 D f (221 + 11 * (D (221 + 11 * f + 6)).toNatClampNeg + 7) + drA D f)
theorem sd_dr {D : Nat → Int32} {n f r w g : Nat} (h : WD D n f r w g) {k : Nat} (hk : k < f) : SD D (drD D k) := by
  have hf : f ≤ 12 := h.1.2.1
  have h2 : SD D (dr2 D k) := (SD.u _ _ (ns_f (by omega) (by decide) (by decide))).t (SD.u _ _ (by unfold stI; omega))
  have h3 : SD D (dr3 D k) := h2.t (SD.u _ _ (ns_f (by omega) (by decide) (by decide)))
  unfold drD
  split
  · exact h2
  · split
    · exact h3.t (SD.u _ _ (by unfold stI; omega))
    · rename_i q
      rcases (h.2.2.2.2.1 k hk).2.2 with e | ⟨j, hj, e⟩
      · rw [e] at q
        exact absurd (show (-1 : Int32) < 0 by decide) q
      · rw [e, nI_clamp (by omega)]
        exact h3.t (SD.u _ _ (ns_f (by omega) (by decide) (by decide)))
def S122 : Sem := fun as M => match as with
  | [.ref q, .int k] => sV (gK M q = kA .int 1793 ∧ ∃ n f r w g, WD (gI M q) n f r w g ∧ ∃ j, j < f ∧ k = nI j) none (sI M q (drD (gI M q) k.toNatClampNeg))
  | _ => sF
theorem u_11 (f : Nat → Int32) (x : Int32) (t j : Nat) : upd f 11 x (221 + t + j) = f (221 + t + j) := upd_n _ _ (by omega)
def eX11_drain : Nat → Sem := fun id => if id = 131 then S131 else S150
set_option maxRecDepth 100000 in
set_option maxHeartbeats 4000000 in
theorem s_X11_drain {l : Launch} {G : Gt} (hfl : l.stackTraces = false) : SatM l G 122 S122 := by
  refine t_X11_drain (E := eX11_drain) hfl (s_X11_field hfl) (s_X11_min hfl) fun as M hp => ?_
  unfold S122 at hp ⊢
  split at hp
  case h_2 => exact hp.elim
  rename_i q k
  obtain ⟨k0, n, f, rr, w, g, hW, j, hj, ek⟩ := hp
  refine ⟨Nat.le_of_ble_eq_true rfl, ?_⟩
  show Run (gT G) _ _ _ _ _ _ _ 0 [.val (.ref q), .val (.int k), .unset, .unset, .unset] [] M 0 0
  subst ek
  have hf : f ≤ 12 := hW.1.2.1
  have hj12 : j < 12 := by omega
  have cj : (nI j).toNatClampNeg = j := nI_clamp (by omega)
  have x4 := xF hj12 (show 4 ≤ 10 by decide)
  have x5 := xF hj12 (show 5 ≤ 10 by decide)
  have x6 := xF hj12 (show 6 ≤ 10 by decide)
  have x7 := xF hj12 (show 7 ≤ 10 by decide)
  have f1 : upd (upd (gI M q) (221 + 11 * j + 7) (gI M q (221 + 11 * j + 7) - drS (gI M q) j)) 11 (gI M q 11 + drS (gI M q) j) = dr2 (gI M q) j := rfl
  have f2 : gI M q (221 + 11 * j + 7) - drS (gI M q) j - gI M q (221 + 11 * j + 4) = drA (gI M q) j := rfl
  have f3 : upd (dr2 (gI M q) j) (221 + 11 * j + 7) (gI M q (221 + 11 * j + 7) - drS (gI M q) j - drA (gI M q) j) = dr3 (gI M q) j := rfl
  have f0 : mnM (gI M q (221 + 11 * j + 5)) (gI M q (221 + 11 * j + 7)) = drS (gI M q) j := rfl
  have g2 : ∀ i, dr2 (gI M q) j (221 + 11 * j + i) = if i = 7 then gI M q (221 + 11 * j + 7) - drS (gI M q) j else gI M q (221 + 11 * j + i) := fun i => by
    unfold dr2
    rw [u_11, ud_q]
  have g3 : ∀ i, dr3 (gI M q) j (221 + 11 * j + i) = if i = 7 then gI M q (221 + 11 * j + 7) - drS (gI M q) j - drA (gI M q) j else gI M q (221 + 11 * j + i) := fun i => by
    unfold dr3
    rw [ud_q, g2]
    by_cases h : i = 7 <;> simp only [h, if_true, if_false]
  have g9 : dr3 (gI M q) j 9 = gI M q 9 := by
    unfold dr3 dr2
    rw [v22b _ _ _ _ _ (by decide), show ∀ f x, upd f 11 x 9 = f 9 from fun _ _ => rfl, v22b _ _ _ _ _ (by decide)]
  simp only [rX11_drain_0, kX11_drain_0, rX11_drain_58, kX11_drain_58, rX11_drain_90, kX11_drain_90, rX11_drain_109, kX11_drain_109, eX11_drain, S131, S150, bk_c, if_true, if_false, wi_e, wl_e, wr_e, w1_i, w1_r, ldS_0, ldS_s, vi_e, vl_e, vr_e, dpL_u, dpL_i, dpL_r, dpL_l, stS_0, stS_1, stS_s, stL_0, stL_1, stL_s, bin_0, bin_1, bin_2, bin_3, bin_4, bin_5, bdv_0, bdv_1, lbin_0, lbin_1, lbin_2, cnd_0, cnd_1, cnd_2, cnd_3, cnd_4, cnd_5, aty_0, aty_1, aty_2, aty_3, aty_4, aty_5, c8_u, cn_0, cn_i, cn_r, cn_l, Nat.reduceAdd, Nat.reduceLeDiff, Nat.le_refl, adz, hnd_0, rcv_0, rcv_1, kLen_a, kLen_r, inB_e, inR_e, cpOK_e, swt_n, swt_c, List.take_succ_cons, List.take_zero, List.drop_succ_cons, List.drop_zero, List.reverse_cons, List.reverse_nil, List.nil_append, List.cons_append, List.length_cons, List.length_nil, Option.toList_some, Option.toList_none, det_e, det_x, tr_imp, fa_imp, implies_true, not_true, not_false_eq_true, and_true, true_and, nar_i, upd_s, st1_0, st1_1, st1_2, st1_3, st1_4, st1_5, st1_6, st1_7, st1_8, st1_9, st1_10, st1_11, st1_12, st1_13, st1_14, st1_15, st1_16, st1_17, st1_18, st1_19, st1_20, st1_21, st1_22, st1_23, st1_24, st1_25, st1_26, st1_27, st1_28, st1_29, st1_30, st1_31, st1_32, st1_33, st1_34, st1_35, st1_36, st1_37, st1_42, st1_43, st1_44, st1_46, st1_47, st1_48, st1_49, st1_50, st1_51, st1_52, st1_53, st1_54, st1_55, st1_56, st1_57, st1_58, st1_59, st1_60, gK_sI, gI_s, sI_sI, Nat.reduceEqDiff, reduceIte, sV, k0, f11, ad_4, ad_5, ad_6, ad_7, nI_1, xL0, xL1, x4, x5, x6, x7, ud_q, u_11, v22b _ 11 _ _ _ (by decide), f0, f1, f2, f3, g2, g3, g9, cj]
  unfold drD
  refine ⟨fun h => ⟨fun h2 => ?_, fun h2 => ?_⟩, fun h => ?_⟩
  · rw [if_neg (fun q => q h), if_neg (Int32.not_lt.mpr h2)]
    rcases (hW.2.2.2.2.1 j hj).2.2 with e | ⟨i, hi, e⟩
    · rw [e] at h2
      exact absurd h2 (by decide)
    · have y7 := xF (show i < 12 by omega) (show 7 ≤ 10 by decide)
      rw [e, nI_clamp (show i < 2 ^ 31 by omega), f11, ad_7, y7.2]
      exact ⟨of_eq_true y7.1, of_eq_true y7.1, rfl⟩
  · rw [if_neg (fun q => q h), if_pos (Int32.not_le.mp h2)]
  · rw [if_pos h]
/-! == the guard goes on == -/
def paA (f : Nat) (z : Nat → Int32) : Nat → Int32 := if z (221 + 11 * f) = guD z ∧ ¬ z (221 + 11 * f + 10) = 0 then upd (upd z (221 + 11 * f + 10) 0) (387 + (z (221 + 11 * f + 1)).toNatClampNeg) (upd z (221 + 11 * f + 10) 0 (387 + (z (221 + 11 * f + 1)).toNatClampNeg) + 1) else z
def paG (D : Nat → Int32) : Nat → Int32 := upd D 4 (irm (D 4 + 1) (D 3))
def paD (D : Nat → Int32) : Nat → Int32 := if D 3 = 0 then D else itr paA (D 1).toNatClampNeg 0 (paG D)
theorem pa_wd {D : Nat → Int32} {n f r w g : Nat} (h : WD D n f r w g) (hw : ¬ D 3 = 0) : WD (paG D) n f r w ((g + 1) % w) := by
  obtain ⟨⟨h1, h2, h3, h4, h5⟩, ⟨e0, e1, e2, e3, e4⟩, h6, h7, h8, h9⟩ := h
  have w0 : 0 < w := by
    rcases Nat.eq_zero_or_pos w with e | e
    · rw [e3, e] at hw
      exact absurd rfl hw
    · exact e
  have hm := Nat.mod_lt (g + 1) w0
  have eg : paG D 4 = nI ((g + 1) % w) := by
    unfold paG irm
    rw [upd_s, e3, e4, nI_1, pk_rem (by omega) w0 (by omega)]
  have eo : ∀ i, i ≠ 4 → paG D i = D i := fun i hi => upd_n _ _ hi
  refine ⟨⟨h1, h2, h3, h4, by omega⟩, ⟨(eo 0 (by decide)).trans e0, (eo 1 (by decide)).trans e1, (eo 2 (by decide)).trans e2, (eo 3 (by decide)).trans e3, eg⟩, Or.inr hm, fun c hc => ?_, fun k hk => ?_, fun k hk => ?_⟩
  · rw [eo _ (by omega), eo (13 + 13 * c) (by omega)]
    exact h7 c hc
  · rw [eo (221 + 11 * k) (by omega), eo _ (by omega), eo _ (by omega)]
    exact h8 k hk
  · rw [eo _ (by omega)]
    exact h9 k hk
theorem sd_paA {D E : Nat → Int32} {n f r w g : Nat} (h : WD D n f r w g) {k : Nat} (hk : k < f) (hE : SD D E) : SD D (paA k E) := by
  have hf : f ≤ 12 := h.1.2.1
  unfold paA
  split
  · obtain ⟨v, hv, ev⟩ := ((h.sd hE).2.2.2.2.1 k hk).2.1
    rw [ev, nI_clamp (by omega)]
    exact (hE.t (SD.u _ _ (ns_f (by omega) (by decide) (by decide)))).t (SD.u _ _ (by unfold stI; omega))
  · exact hE
def S159 : Sem := fun as M => match as with
  | [.ref q] => sV (gK M q = kA .int 1793 ∧ ∃ n f r w g, WD (gI M q) n f r w g) none (sI M q (paD (gI M q)))
  | _ => sF
def eX11_patrol : Nat → Sem := fun id => if id = 131 then S131 else S136
set_option maxRecDepth 100000 in
set_option maxHeartbeats 4000000 in
theorem s_X11_patrol {l : Launch} {G : Gt} (hfl : l.stackTraces = false) : SatM l G 159 S159 := by
  refine t_X11_patrol (E := eX11_patrol) hfl (s_X11_field hfl) (s_X11_guard hfl) fun as M hp => ?_
  unfold S159 at hp ⊢
  split at hp
  case h_2 => exact hp.elim
  rename_i q
  obtain ⟨k0, n, f, rr, w, g, hW⟩ := hp
  refine ⟨Nat.le_of_ble_eq_true rfl, ?_⟩
  show Run (gT G) _ _ _ _ _ _ _ 0 [.val (.ref q), .unset, .unset] [] M 0 0
  have hf : f ≤ 12 := hW.1.2.1
  have ef : gI M q 1 = nI f := hW.2.1.2.1
  have cf : (nI f).toNatClampNeg = f := nI_clamp (by omega)
  have key : ∀ r i (D : Nat → Int32) (u : Slot) (g : Nat), i + r = f → WD D n f rr w g → ¬ D 3 = 0 → Run (gT G) eX11_patrol 0 0 (fun _ _ => none) (fun v' M' => v' = none ∧ M' = sI M q (itr paA r i D)) (fun _ _ => False) kX11_patrol 21 [.val (.ref q), .val (.int (nI i)), u] [] (sI M q D) 0 0 := by
    intro r
    induction r with
    | zero =>
      intro i D u g hi hD hw
      have hi2 : i = f := hi
      subst hi2
      have e1 : D 1 = nI i := hD.2.1.2.1
      rw [rX11_patrol_21]
      simp only [kX11_patrol_21, rX11_patrol_0, kX11_patrol_0, rX11_patrol_7, kX11_patrol_7, rX11_patrol_55, kX11_patrol_55, rX11_patrol_77, kX11_patrol_77, rX11_patrol_83, kX11_patrol_83, eX11_patrol, S131, S136, bk_c, if_true, if_false, wi_e, wl_e, wr_e, w1_i, w1_r, ldS_0, ldS_s, vi_e, vl_e, vr_e, dpL_u, dpL_i, dpL_r, dpL_l, stS_0, stS_1, stS_s, stL_0, stL_1, stL_s, bin_0, bin_1, bin_2, bin_3, bin_4, bin_5, bdv_0, bdv_1, lbin_0, lbin_1, lbin_2, cnd_0, cnd_1, cnd_2, cnd_3, cnd_4, cnd_5, aty_0, aty_1, aty_2, aty_3, aty_4, aty_5, c8_u, cn_0, cn_i, cn_r, cn_l, Nat.reduceAdd, Nat.reduceLeDiff, Nat.le_refl, adz, hnd_0, rcv_0, rcv_1, kLen_a, kLen_r, inB_e, inR_e, cpOK_e, swt_n, swt_c, List.take_succ_cons, List.take_zero, List.drop_succ_cons, List.drop_zero, List.reverse_cons, List.reverse_nil, List.nil_append, List.cons_append, List.length_cons, List.length_nil, Option.toList_some, Option.toList_none, det_e, det_x, tr_imp, fa_imp, implies_true, not_true, not_false_eq_true, and_true, true_and, nar_i, upd_s, st1_0, st1_1, st1_2, st1_3, st1_4, st1_5, st1_6, st1_7, st1_8, st1_9, st1_10, st1_11, st1_12, st1_13, st1_14, st1_15, st1_16, st1_17, st1_18, st1_19, st1_20, st1_21, st1_22, st1_23, st1_24, st1_25, st1_26, st1_27, st1_28, st1_29, st1_30, st1_31, st1_32, st1_33, st1_34, st1_35, st1_36, st1_37, st1_42, st1_43, st1_44, st1_46, st1_47, st1_48, st1_49, st1_50, st1_51, st1_52, st1_53, st1_54, st1_55, st1_56, st1_57, st1_58, st1_59, st1_60, gK_sI, gI_s, k0, xL0, xL1, e1, lp_out, itr]
    | succ r ih =>
      intro i D u g hi hD hw
      obtain ⟨a1, a2, a3, -⟩ := lp_in (i := i) (n := f) (N := 12) (by omega) hf (by decide)
      have e1 : D 1 = nI f := hD.2.1.2.1
      have hi12 : i < 12 := by omega
      have x0 := xF0 hi12
      have x1 := xF hi12 (show 1 ≤ 10 by decide)
      have x10 := xF hi12 (show 10 ≤ 10 by decide)
      obtain ⟨v, hv, ev⟩ := (hD.2.2.2.2.1 i (by omega)).2.1
      have cv : (nI v).toNatClampNeg = v := nI_clamp (by omega)
      have y1 : vp_in (nI (387 + v)) 1793 = True := eq_true (vp_in_nI (by omega) (by decide))
      have y2 : (nI (387 + v)).toNatClampNeg = 387 + v := nI_clamp (by omega)
      have hgp : cnt (D 4) 9 := ⟨g, hD.1.2.2.2.2, hD.2.1.2.2.2.2⟩
      have hs := sd_paA hD (show i < f by omega) (SD.r D)
      rw [rX11_patrol_21]
      simp only [kX11_patrol_21, rX11_patrol_0, kX11_patrol_0, rX11_patrol_7, kX11_patrol_7, rX11_patrol_55, kX11_patrol_55, rX11_patrol_77, kX11_patrol_77, rX11_patrol_83, kX11_patrol_83, eX11_patrol, S131, S136, bk_c, if_true, if_false, wi_e, wl_e, wr_e, w1_i, w1_r, ldS_0, ldS_s, vi_e, vl_e, vr_e, dpL_u, dpL_i, dpL_r, dpL_l, stS_0, stS_1, stS_s, stL_0, stL_1, stL_s, bin_0, bin_1, bin_2, bin_3, bin_4, bin_5, bdv_0, bdv_1, lbin_0, lbin_1, lbin_2, cnd_0, cnd_1, cnd_2, cnd_3, cnd_4, cnd_5, aty_0, aty_1, aty_2, aty_3, aty_4, aty_5, c8_u, cn_0, cn_i, cn_r, cn_l, Nat.reduceAdd, Nat.reduceLeDiff, Nat.le_refl, adz, hnd_0, rcv_0, rcv_1, kLen_a, kLen_r, inB_e, inR_e, cpOK_e, swt_n, swt_c, List.take_succ_cons, List.take_zero, List.drop_succ_cons, List.drop_zero, List.reverse_cons, List.reverse_nil, List.nil_append, List.cons_append, List.length_cons, List.length_nil, Option.toList_some, Option.toList_none, det_e, det_x, tr_imp, fa_imp, implies_true, not_true, not_false_eq_true, and_true, true_and, nar_i, upd_s, st1_0, st1_1, st1_2, st1_3, st1_4, st1_5, st1_6, st1_7, st1_8, st1_9, st1_10, st1_11, st1_12, st1_13, st1_14, st1_15, st1_16, st1_17, st1_18, st1_19, st1_20, st1_21, st1_22, st1_23, st1_24, st1_25, st1_26, st1_27, st1_28, st1_29, st1_30, st1_31, st1_32, st1_33, st1_34, st1_35, st1_36, st1_37, st1_42, st1_43, st1_44, st1_46, st1_47, st1_48, st1_49, st1_50, st1_51, st1_52, st1_53, st1_54, st1_55, st1_56, st1_57, st1_58, st1_59, st1_60, gK_sI, gI_s, sI_sI, Nat.reduceEqDiff, reduceIte, sV, k0, f11, ad_10, nI_1, ad_387, xL0, xL1, x0, x1, x10, ud_q, e1, a1, hw, hgp, ev, y1, y2, itr]
      refine ⟨fun h => ?_, fun h => ⟨fun h2 => ?_, fun h2 => ?_⟩⟩
      · rw [show paA i D = D from if_neg (fun q => h q.1)]
        exact ih (i + 1) D _ g (by omega) hD hw
      · have e := ih (i + 1) (paA i D) (.val (.int (nI (221 + 11 * i)))) g (by omega) (hD.sd hs) (by rw [hs 3 (by unfold stI; omega)]; exact hw)
        rw [show paA i D = upd (upd D (221 + 11 * i + 10) 0) (387 + v) (upd D (221 + 11 * i + 10) 0 (387 + v) + 1) from by unfold paA; rw [if_pos ⟨Decidable.not_not.mp h, h2⟩, ev, cv]] at e ⊢
        exact e
      · rw [show paA i D = D from if_neg (fun q => q.2 (Decidable.not_not.mp h2))]
        exact ih (i + 1) D _ g (by omega) hD hw
  simp only [rX11_patrol_0, kX11_patrol_0, rX11_patrol_7, kX11_patrol_7, rX11_patrol_55, kX11_patrol_55, rX11_patrol_77, kX11_patrol_77, rX11_patrol_83, kX11_patrol_83, eX11_patrol, S131, S136, bk_c, if_true, if_false, wi_e, wl_e, wr_e, w1_i, w1_r, ldS_0, ldS_s, vi_e, vl_e, vr_e, dpL_u, dpL_i, dpL_r, dpL_l, stS_0, stS_1, stS_s, stL_0, stL_1, stL_s, bin_0, bin_1, bin_2, bin_3, bin_4, bin_5, bdv_0, bdv_1, lbin_0, lbin_1, lbin_2, cnd_0, cnd_1, cnd_2, cnd_3, cnd_4, cnd_5, aty_0, aty_1, aty_2, aty_3, aty_4, aty_5, c8_u, cn_0, cn_i, cn_r, cn_l, Nat.reduceAdd, Nat.reduceLeDiff, Nat.le_refl, adz, hnd_0, rcv_0, rcv_1, kLen_a, kLen_r, inB_e, inR_e, cpOK_e, swt_n, swt_c, List.take_succ_cons, List.take_zero, List.drop_succ_cons, List.drop_zero, List.reverse_cons, List.reverse_nil, List.nil_append, List.cons_append, List.length_cons, List.length_nil, Option.toList_some, Option.toList_none, det_e, det_x, tr_imp, fa_imp, implies_true, not_true, not_false_eq_true, and_true, true_and, nar_i, upd_s, st1_0, st1_1, st1_2, st1_3, st1_4, st1_5, st1_6, st1_7, st1_8, st1_9, st1_10, st1_11, st1_12, st1_13, st1_14, st1_15, st1_16, st1_17, st1_18, st1_19, st1_20, st1_21, st1_22, st1_23, st1_24, st1_25, st1_26, st1_27, st1_28, st1_29, st1_30, st1_31, st1_32, st1_33, st1_34, st1_35, st1_36, st1_37, st1_42, st1_43, st1_44, st1_46, st1_47, st1_48, st1_49, st1_50, st1_51, st1_52, st1_53, st1_54, st1_55, st1_56, st1_57, st1_58, st1_59, st1_60, gK_sI, gI_s, k0, xL0, xL1]
  refine ⟨fun h => ⟨h, ?_⟩, fun h => ?_⟩
  · have hw2 := pa_wd hW h
    have h0 := key f 0 (paG (gI M q)) .unset _ (Nat.zero_add f) hw2 (by rw [show paG (gI M q) 3 = gI M q 3 from rfl]; exact h)
    unfold paD
    rw [if_neg h, ef, cf]
    exact h0
  · unfold paD
    rw [if_pos (Decidable.not_not.mp h), sI_id]
/-! == which gates are open, which canals lead to one == -/
def foD (D : Nat → Int32) (f : Nat) (z : (Nat → Int32) × (Nat → Int32)) : (Nat → Int32) × (Nat → Int32) := (upd z.1 f (oqI D f), if oqI D f = 0 then z.2 else upd z.2 (D (221 + 11 * f)).toNatClampNeg 1)
def fuP (D : Nat → Int32) : Nat → (Nat → Int32) → Nat → Int32
  | 0, L => L
  | k + 1, L => if k = 0 then L else fuP D k (if L k = 0 then L else upd L (D (13 + 13 * k)).toNatClampNeg 1)
def foR (D O L : Nat → Int32) : (Nat → Int32) × (Nat → Int32) := itr (foD D) (D 1).toNatClampNeg 0 (O, fil (D 0).toNatClampNeg 0 L)
def foL (D O L : Nat → Int32) : Nat → Int32 := fuP D (D 0).toNatClampNeg (foR D O L).2
def S133 : Sem := fun as M => match as with
  | [.ref m, .ref q] => sV (LM M m ∧ q ≠ m ∧ q ≠ m + 15 ∧ q ≠ m + 16 ∧ gK M q = kA .int 1793 ∧ (∃ n f r w g, WD (gI M q) n f r w g) ∧ tuW (gI M q) (gI M q 5)) none (sI (sI M (m + 15) (foR (gI M q) (gI M (m + 15)) (gI M (m + 16))).1) (m + 16) (foL (gI M q) (gI M (m + 15)) (gI M (m + 16))))
  | _ => sF
theorem oqI_01 (D : Nat → Int32) (f : Nat) : oqI D f = 0 ∨ oqI D f = 1 := by
  unfold oqI
  split
  · exact Or.inr rfl
  · split
    · exact Or.inr rfl
    · exact Or.inl rfl
def eX11_findOpen : Nat → Sem := fun id => if id = 113 then S113 else if id = 131 then S131 else S156
set_option maxRecDepth 100000 in
set_option maxHeartbeats 4000000 in
theorem s_X11_findOpen {l : Launch} {G : Gt} (hfl : l.stackTraces = false) : SatM l G 133 S133 := by
  refine t_X11_findOpen (E := eX11_findOpen) hfl (s_X11_canal hfl) (s_X11_field hfl) (s_X11_open hfl) fun as M hp => ?_
  unfold S133 at hp ⊢
  split at hp
  case h_2 => exact hp.elim
  rename_i m q
  obtain ⟨hp, hq, hq15, hq16, k0, ⟨n, f, rr, w, g, hW⟩, hT⟩ := hp
  refine ⟨Nat.le_of_ble_eq_true rfl, ?_⟩
  show Run (gT G) _ _ _ _ _ _ _ 0 [.val (.ref m), .val (.ref q), .unset] [] M 0 0
  have hn : n ≤ 16 := hW.1.1
  have hf : f ≤ 12 := hW.1.2.1
  have en : gI M q 0 = nI n := hW.2.1.1
  have ef : gI M q 1 = nI f := hW.2.1.2.1
  have cn : (nI n).toNatClampNeg = n := nI_clamp (by omega)
  have cf : (nI f).toNatClampNeg = f := nI_clamp (by omega)
  have hQ : ∀ a b, gI (sI (sI M (m + 15) a) (m + 16) b) q = gI M q := fun a b => (gI_f _ _ hq16).trans (gI_f _ _ hq15)
  have hQ2 : ∀ b, gI (sI M (m + 16) b) q = gI M q := fun b => gI_f _ _ hq16
  have h15 : ∀ a b, gI (sI (sI M (m + 15) a) (m + 16) b) (m + 15) = a := fun a b => (gI_f _ _ (by omega)).trans (gI_s _ _ _)
  have h15s : ∀ a b c, sI (sI (sI M (m + 15) a) (m + 16) b) (m + 15) c = sI (sI M (m + 15) c) (m + 16) b := fun a b c => by rw [sI_cm (sI M (m + 15) a) _ _ (by omega), sI_sI]
  have key3 : ∀ i a b, i + 1 ≤ n → fuP (gI M q) (i + 1) b = foL (gI M q) (gI M (m + 15)) (gI M (m + 16)) → a = (foR (gI M q) (gI M (m + 15)) (gI M (m + 16))).1 → Run (gT G) eX11_findOpen 0 0 (fun _ _ => none) (fun v' M' => v' = none ∧ M' = sI (sI M (m + 15) (foR (gI M q) (gI M (m + 15)) (gI M (m + 16))).1) (m + 16) (foL (gI M q) (gI M (m + 15)) (gI M (m + 16)))) (fun _ _ => False) kX11_findOpen 75 [.val (.ref m), .val (.ref q), .val (.int (nI i))] [] (sI (sI M (m + 15) a) (m + 16) b) 0 0 := by
    intro i
    induction i with
    | zero =>
      intro a b hi hb ha
      have a1 : (nI 0 ≤ 0) = True := eq_true (by decide)
      rw [rX11_findOpen_75]
      simp only [kX11_findOpen_75, rX11_findOpen_0, kX11_findOpen_0, rX11_findOpen_22, kX11_findOpen_22, rX11_findOpen_63, kX11_findOpen_63, rX11_findOpen_69, kX11_findOpen_69, rX11_findOpen_100, kX11_findOpen_100, rX11_findOpen_106, kX11_findOpen_106, eX11_findOpen, S113, S131, S156, bk_c, if_true, if_false, wi_e, wl_e, wr_e, w1_i, w1_r, ldS_0, ldS_s, vi_e, vl_e, vr_e, dpL_u, dpL_i, dpL_r, dpL_l, stS_0, stS_1, stS_s, stL_0, stL_1, stL_s, bin_0, bin_1, bin_2, bin_3, bin_4, bin_5, bdv_0, bdv_1, lbin_0, lbin_1, lbin_2, cnd_0, cnd_1, cnd_2, cnd_3, cnd_4, cnd_5, aty_0, aty_1, aty_2, aty_3, aty_4, aty_5, c8_u, cn_0, cn_i, cn_r, cn_l, Nat.reduceAdd, Nat.reduceLeDiff, Nat.le_refl, adz, hnd_0, rcv_0, rcv_1, kLen_a, kLen_r, inB_e, inR_e, cpOK_e, swt_n, swt_c, List.take_succ_cons, List.take_zero, List.drop_succ_cons, List.drop_zero, List.reverse_cons, List.reverse_nil, List.nil_append, List.cons_append, List.length_cons, List.length_nil, Option.toList_some, Option.toList_none, det_e, det_x, tr_imp, fa_imp, implies_true, not_true, not_false_eq_true, and_true, true_and, nar_i, upd_s, st1_0, st1_1, st1_2, st1_3, st1_4, st1_5, st1_6, st1_7, st1_8, st1_9, st1_10, st1_11, st1_12, st1_13, st1_14, st1_15, st1_16, st1_17, st1_18, st1_19, st1_20, st1_21, st1_22, st1_23, st1_24, st1_25, st1_26, st1_27, st1_28, st1_29, st1_30, st1_31, st1_32, st1_33, st1_34, st1_35, st1_36, st1_37, st1_42, st1_43, st1_44, st1_46, st1_47, st1_48, st1_49, st1_50, st1_51, st1_52, st1_53, st1_54, st1_55, st1_56, st1_57, st1_58, st1_59, st1_60, a1]
      rw [← hb, ha]
      rfl
    | succ i ih =>
      intro a b hi hb ha
      have a1 : (nI (i + 1) ≤ 0) = False := eq_false (nI_nle (by omega) (by omega))
      have hi16 : i + 1 < 16 := by omega
      have x0 := xC0 hi16
      have a2 : vp_in (nI (i + 1)) 16 = True := eq_true (vp_in_nI hi16 (by decide))
      have a3 : (nI (i + 1)).toNatClampNeg = i + 1 := nI_clamp (by omega)
      obtain ⟨p, hp1, hp2⟩ := (hW.2.2.2.1 (i + 1) (by omega)).2 (by omega)
      have p1 : vp_in (nI p) 16 = True := eq_true (vp_in_nI (by omega) (by decide))
      have p2 : (nI p).toNatClampNeg = p := nI_clamp (by omega)
      have hb2 : fuP (gI M q) (i + 1) (if b (i + 1) = 0 then b else upd b (gI M q (13 + 13 * (i + 1))).toNatClampNeg 1) = foL (gI M q) (gI M (m + 15)) (gI M (m + 16)) := by
        rw [← hb]
        exact (if_neg (show ¬ i + 1 = 0 by omega)).symm
      rw [rX11_findOpen_75]
      simp only [kX11_findOpen_75, rX11_findOpen_0, kX11_findOpen_0, rX11_findOpen_22, kX11_findOpen_22, rX11_findOpen_63, kX11_findOpen_63, rX11_findOpen_69, kX11_findOpen_69, rX11_findOpen_100, kX11_findOpen_100, rX11_findOpen_106, kX11_findOpen_106, eX11_findOpen, S113, S131, S156, bk_c, if_true, if_false, wi_e, wl_e, wr_e, w1_i, w1_r, ldS_0, ldS_s, vi_e, vl_e, vr_e, dpL_u, dpL_i, dpL_r, dpL_l, stS_0, stS_1, stS_s, stL_0, stL_1, stL_s, bin_0, bin_1, bin_2, bin_3, bin_4, bin_5, bdv_0, bdv_1, lbin_0, lbin_1, lbin_2, cnd_0, cnd_1, cnd_2, cnd_3, cnd_4, cnd_5, aty_0, aty_1, aty_2, aty_3, aty_4, aty_5, c8_u, cn_0, cn_i, cn_r, cn_l, Nat.reduceAdd, Nat.reduceLeDiff, Nat.le_refl, adz, hnd_0, rcv_0, rcv_1, kLen_a, kLen_r, inB_e, inR_e, cpOK_e, swt_n, swt_c, List.take_succ_cons, List.take_zero, List.drop_succ_cons, List.drop_zero, List.reverse_cons, List.reverse_nil, List.nil_append, List.cons_append, List.length_cons, List.length_nil, Option.toList_some, Option.toList_none, det_e, det_x, tr_imp, fa_imp, implies_true, not_true, not_false_eq_true, and_true, true_and, nar_i, upd_s, st1_0, st1_1, st1_2, st1_3, st1_4, st1_5, st1_6, st1_7, st1_8, st1_9, st1_10, st1_11, st1_12, st1_13, st1_14, st1_15, st1_16, st1_17, st1_18, st1_19, st1_20, st1_21, st1_22, st1_23, st1_24, st1_25, st1_26, st1_27, st1_28, st1_29, st1_30, st1_31, st1_32, st1_33, st1_34, st1_35, st1_36, st1_37, st1_42, st1_43, st1_44, st1_46, st1_47, st1_48, st1_49, st1_50, st1_51, st1_52, st1_53, st1_54, st1_55, st1_56, st1_57, st1_58, st1_59, st1_60, gK_sI, gP_sI, gI_s, sI_sI, hQ, hp.f, Nat.reduceEqDiff, reduceIte, sV, k0, c13, nI_m1, xL0, xL1, x0, Nat.succ_ne_zero, ne_eq, a1, a2, a3, hp2, p1, p2, nb1]
      refine ⟨fun h => ?_, fun h => ?_⟩
      · rw [if_pos h] at hb2
        exact ih a b (by omega) hb2 ha
      · rw [if_neg h, hp2, p2] at hb2
        exact ih a _ (by omega) hb2 ha
  have key2 : ∀ r i (z : (Nat → Int32) × (Nat → Int32)), i + r = f → itr (foD (gI M q)) r i z = foR (gI M q) (gI M (m + 15)) (gI M (m + 16)) → Run (gT G) eX11_findOpen 0 0 (fun _ _ => none) (fun v' M' => v' = none ∧ M' = sI (sI M (m + 15) (foR (gI M q) (gI M (m + 15)) (gI M (m + 16))).1) (m + 16) (foL (gI M q) (gI M (m + 15)) (gI M (m + 16)))) (fun _ _ => False) kX11_findOpen 24 [.val (.ref m), .val (.ref q), .val (.int (nI i))] [] (sI (sI M (m + 15) z.1) (m + 16) z.2) 0 0 := by
    intro r
    induction r with
    | zero =>
      intro i z hi hz
      have hi2 : i = f := hi
      subst hi2
      have hz2 : z = foR (gI M q) (gI M (m + 15)) (gI M (m + 16)) := hz
      rw [rX11_findOpen_24]
      simp only [kX11_findOpen_24, rX11_findOpen_0, kX11_findOpen_0, rX11_findOpen_22, kX11_findOpen_22, rX11_findOpen_63, kX11_findOpen_63, rX11_findOpen_69, kX11_findOpen_69, rX11_findOpen_100, kX11_findOpen_100, rX11_findOpen_106, kX11_findOpen_106, eX11_findOpen, S113, S131, S156, bk_c, if_true, if_false, wi_e, wl_e, wr_e, w1_i, w1_r, ldS_0, ldS_s, vi_e, vl_e, vr_e, dpL_u, dpL_i, dpL_r, dpL_l, stS_0, stS_1, stS_s, stL_0, stL_1, stL_s, bin_0, bin_1, bin_2, bin_3, bin_4, bin_5, bdv_0, bdv_1, lbin_0, lbin_1, lbin_2, cnd_0, cnd_1, cnd_2, cnd_3, cnd_4, cnd_5, aty_0, aty_1, aty_2, aty_3, aty_4, aty_5, c8_u, cn_0, cn_i, cn_r, cn_l, Nat.reduceAdd, Nat.reduceLeDiff, Nat.le_refl, adz, hnd_0, rcv_0, rcv_1, kLen_a, kLen_r, inB_e, inR_e, cpOK_e, swt_n, swt_c, List.take_succ_cons, List.take_zero, List.drop_succ_cons, List.drop_zero, List.reverse_cons, List.reverse_nil, List.nil_append, List.cons_append, List.length_cons, List.length_nil, Option.toList_some, Option.toList_none, det_e, det_x, tr_imp, fa_imp, implies_true, not_true, not_false_eq_true, and_true, true_and, nar_i, upd_s, st1_0, st1_1, st1_2, st1_3, st1_4, st1_5, st1_6, st1_7, st1_8, st1_9, st1_10, st1_11, st1_12, st1_13, st1_14, st1_15, st1_16, st1_17, st1_18, st1_19, st1_20, st1_21, st1_22, st1_23, st1_24, st1_25, st1_26, st1_27, st1_28, st1_29, st1_30, st1_31, st1_32, st1_33, st1_34, st1_35, st1_36, st1_37, st1_42, st1_43, st1_44, st1_46, st1_47, st1_48, st1_49, st1_50, st1_51, st1_52, st1_53, st1_54, st1_55, st1_56, st1_57, st1_58, st1_59, st1_60, gK_sI, gP_sI, hQ, k0, xL0, xL1, ef, en, lp_out]
      rcases Nat.eq_zero_or_pos n with e | e
      · subst e
        have a1 : (nI 0 - 1 ≤ 0) = True := eq_true (by decide)
        rw [rX11_findOpen_75]
        simp only [kX11_findOpen_75, rX11_findOpen_0, kX11_findOpen_0, rX11_findOpen_22, kX11_findOpen_22, rX11_findOpen_63, kX11_findOpen_63, rX11_findOpen_69, kX11_findOpen_69, rX11_findOpen_100, kX11_findOpen_100, rX11_findOpen_106, kX11_findOpen_106, eX11_findOpen, S113, S131, S156, bk_c, if_true, if_false, wi_e, wl_e, wr_e, w1_i, w1_r, ldS_0, ldS_s, vi_e, vl_e, vr_e, dpL_u, dpL_i, dpL_r, dpL_l, stS_0, stS_1, stS_s, stL_0, stL_1, stL_s, bin_0, bin_1, bin_2, bin_3, bin_4, bin_5, bdv_0, bdv_1, lbin_0, lbin_1, lbin_2, cnd_0, cnd_1, cnd_2, cnd_3, cnd_4, cnd_5, aty_0, aty_1, aty_2, aty_3, aty_4, aty_5, c8_u, cn_0, cn_i, cn_r, cn_l, Nat.reduceAdd, Nat.reduceLeDiff, Nat.le_refl, adz, hnd_0, rcv_0, rcv_1, kLen_a, kLen_r, inB_e, inR_e, cpOK_e, swt_n, swt_c, List.take_succ_cons, List.take_zero, List.drop_succ_cons, List.drop_zero, List.reverse_cons, List.reverse_nil, List.nil_append, List.cons_append, List.length_cons, List.length_nil, Option.toList_some, Option.toList_none, det_e, det_x, tr_imp, fa_imp, implies_true, not_true, not_false_eq_true, and_true, true_and, nar_i, upd_s, st1_0, st1_1, st1_2, st1_3, st1_4, st1_5, st1_6, st1_7, st1_8, st1_9, st1_10, st1_11, st1_12, st1_13, st1_14, st1_15, st1_16, st1_17, st1_18, st1_19, st1_20, st1_21, st1_22, st1_23, st1_24, st1_25, st1_26, st1_27, st1_28, st1_29, st1_30, st1_31, st1_32, st1_33, st1_34, st1_35, st1_36, st1_37, st1_42, st1_43, st1_44, st1_46, st1_47, st1_48, st1_49, st1_50, st1_51, st1_52, st1_53, st1_54, st1_55, st1_56, st1_57, st1_58, st1_59, st1_60, a1]
        unfold foL
        rw [en, hz2]
        rfl
      · obtain ⟨n', rfl⟩ : ∃ n', n = n' + 1 := ⟨n - 1, by omega⟩
        rw [nI_pred]
        refine key3 n' z.1 z.2 (Nat.le_refl _) ?_ (by rw [hz2])
        unfold foL
        rw [en, cn, hz2]
    | succ r ih =>
      intro i z hi hz
      obtain ⟨a1, a2, a3, -⟩ := lp_in (i := i) (n := f) (N := 12) (by omega) hf (by decide)
      have hi12 : i < 12 := by omega
      have x0 := xF0 hi12
      obtain ⟨c, hc1, hc2⟩ := (hW.2.2.2.2.1 i (by omega)).1
      have p1 : vp_in (nI c) 16 = True := eq_true (vp_in_nI (by omega) (by decide))
      have p2 : (nI c).toNatClampNeg = c := nI_clamp (by omega)
      have nbo : vp_nar .boolean (oqI (gI M q) i) = oqI (gI M q) i := nb_01 (oqI_01 _ _)
      have hz2 : itr (foD (gI M q)) r (i + 1) (foD (gI M q) i z) = foR (gI M q) (gI M (m + 15)) (gI M (m + 16)) := hz
      unfold foD at hz2
      rw [rX11_findOpen_24]
      simp only [kX11_findOpen_24, rX11_findOpen_0, kX11_findOpen_0, rX11_findOpen_22, kX11_findOpen_22, rX11_findOpen_63, kX11_findOpen_63, rX11_findOpen_69, kX11_findOpen_69, rX11_findOpen_100, kX11_findOpen_100, rX11_findOpen_106, kX11_findOpen_106, eX11_findOpen, S113, S131, S156, bk_c, if_true, if_false, wi_e, wl_e, wr_e, w1_i, w1_r, ldS_0, ldS_s, vi_e, vl_e, vr_e, dpL_u, dpL_i, dpL_r, dpL_l, stS_0, stS_1, stS_s, stL_0, stL_1, stL_s, bin_0, bin_1, bin_2, bin_3, bin_4, bin_5, bdv_0, bdv_1, lbin_0, lbin_1, lbin_2, cnd_0, cnd_1, cnd_2, cnd_3, cnd_4, cnd_5, aty_0, aty_1, aty_2, aty_3, aty_4, aty_5, c8_u, cn_0, cn_i, cn_r, cn_l, Nat.reduceAdd, Nat.reduceLeDiff, Nat.le_refl, adz, hnd_0, rcv_0, rcv_1, kLen_a, kLen_r, inB_e, inR_e, cpOK_e, swt_n, swt_c, List.take_succ_cons, List.take_zero, List.drop_succ_cons, List.drop_zero, List.reverse_cons, List.reverse_nil, List.nil_append, List.cons_append, List.length_cons, List.length_nil, Option.toList_some, Option.toList_none, det_e, det_x, tr_imp, fa_imp, implies_true, not_true, not_false_eq_true, and_true, true_and, nar_i, upd_s, st1_0, st1_1, st1_2, st1_3, st1_4, st1_5, st1_6, st1_7, st1_8, st1_9, st1_10, st1_11, st1_12, st1_13, st1_14, st1_15, st1_16, st1_17, st1_18, st1_19, st1_20, st1_21, st1_22, st1_23, st1_24, st1_25, st1_26, st1_27, st1_28, st1_29, st1_30, st1_31, st1_32, st1_33, st1_34, st1_35, st1_36, st1_37, st1_42, st1_43, st1_44, st1_46, st1_47, st1_48, st1_49, st1_50, st1_51, st1_52, st1_53, st1_54, st1_55, st1_56, st1_57, st1_58, st1_59, st1_60, gK_sI, gP_sI, gI_s, sI_sI, hQ, h15, h15s, upd_s, hp.f, Nat.reduceEqDiff, reduceIte, sV, k0, f11, nI_1, xL0, xL1, x0, Nat.succ_ne_zero, ne_eq, ef, hT, a1, a2, a3, nbo, hc2, p1, p2, nb1]
      refine ⟨fun h => ?_, fun h => ?_⟩
      · rw [if_pos h] at hz2
        exact ih (i + 1) (_, _) (by omega) hz2
      · rw [if_neg h, hc2, p2] at hz2
        exact ih (i + 1) (_, _) (by omega) hz2
  have key1 : ∀ r i, i + r = n → Run (gT G) eX11_findOpen 0 0 (fun _ _ => none) (fun v' M' => v' = none ∧ M' = sI (sI M (m + 15) (foR (gI M q) (gI M (m + 15)) (gI M (m + 16))).1) (m + 16) (foL (gI M q) (gI M (m + 15)) (gI M (m + 16)))) (fun _ _ => False) kX11_findOpen 2 [.val (.ref m), .val (.ref q), .val (.int (nI i))] [] (sI M (m + 16) (fil i 0 (gI M (m + 16)))) 0 0 := by
    intro r
    induction r with
    | zero =>
      intro i hi
      have hi2 : i = n := hi
      subst hi2
      rw [rX11_findOpen_2]
      simp only [kX11_findOpen_2, rX11_findOpen_0, kX11_findOpen_0, rX11_findOpen_22, kX11_findOpen_22, rX11_findOpen_63, kX11_findOpen_63, rX11_findOpen_69, kX11_findOpen_69, rX11_findOpen_100, kX11_findOpen_100, rX11_findOpen_106, kX11_findOpen_106, eX11_findOpen, S113, S131, S156, bk_c, if_true, if_false, wi_e, wl_e, wr_e, w1_i, w1_r, ldS_0, ldS_s, vi_e, vl_e, vr_e, dpL_u, dpL_i, dpL_r, dpL_l, stS_0, stS_1, stS_s, stL_0, stL_1, stL_s, bin_0, bin_1, bin_2, bin_3, bin_4, bin_5, bdv_0, bdv_1, lbin_0, lbin_1, lbin_2, cnd_0, cnd_1, cnd_2, cnd_3, cnd_4, cnd_5, aty_0, aty_1, aty_2, aty_3, aty_4, aty_5, c8_u, cn_0, cn_i, cn_r, cn_l, Nat.reduceAdd, Nat.reduceLeDiff, Nat.le_refl, adz, hnd_0, rcv_0, rcv_1, kLen_a, kLen_r, inB_e, inR_e, cpOK_e, swt_n, swt_c, List.take_succ_cons, List.take_zero, List.drop_succ_cons, List.drop_zero, List.reverse_cons, List.reverse_nil, List.nil_append, List.cons_append, List.length_cons, List.length_nil, Option.toList_some, Option.toList_none, det_e, det_x, tr_imp, fa_imp, implies_true, not_true, not_false_eq_true, and_true, true_and, nar_i, upd_s, st1_0, st1_1, st1_2, st1_3, st1_4, st1_5, st1_6, st1_7, st1_8, st1_9, st1_10, st1_11, st1_12, st1_13, st1_14, st1_15, st1_16, st1_17, st1_18, st1_19, st1_20, st1_21, st1_22, st1_23, st1_24, st1_25, st1_26, st1_27, st1_28, st1_29, st1_30, st1_31, st1_32, st1_33, st1_34, st1_35, st1_36, st1_37, st1_42, st1_43, st1_44, st1_46, st1_47, st1_48, st1_49, st1_50, st1_51, st1_52, st1_53, st1_54, st1_55, st1_56, st1_57, st1_58, st1_59, st1_60, gK_sI, gP_sI, hQ2, k0, xL0, xL1, en, lp_out]
      have h2 := key2 f 0 (gI M (m + 15), fil i 0 (gI M (m + 16))) (Nat.zero_add f) (by unfold foR; rw [ef, cf, en, cn])
      simp only [sI_id] at h2
      exact h2
    | succ r ih =>
      intro i hi
      obtain ⟨a1, a2, a3, -⟩ := lp_in (i := i) (n := n) (N := 16) (by omega) hn (by decide)
      rw [rX11_findOpen_2]
      simp only [kX11_findOpen_2, rX11_findOpen_0, kX11_findOpen_0, rX11_findOpen_22, kX11_findOpen_22, rX11_findOpen_63, kX11_findOpen_63, rX11_findOpen_69, kX11_findOpen_69, rX11_findOpen_100, kX11_findOpen_100, rX11_findOpen_106, kX11_findOpen_106, eX11_findOpen, S113, S131, S156, bk_c, if_true, if_false, wi_e, wl_e, wr_e, w1_i, w1_r, ldS_0, ldS_s, vi_e, vl_e, vr_e, dpL_u, dpL_i, dpL_r, dpL_l, stS_0, stS_1, stS_s, stL_0, stL_1, stL_s, bin_0, bin_1, bin_2, bin_3, bin_4, bin_5, bdv_0, bdv_1, lbin_0, lbin_1, lbin_2, cnd_0, cnd_1, cnd_2, cnd_3, cnd_4, cnd_5, aty_0, aty_1, aty_2, aty_3, aty_4, aty_5, c8_u, cn_0, cn_i, cn_r, cn_l, Nat.reduceAdd, Nat.reduceLeDiff, Nat.le_refl, adz, hnd_0, rcv_0, rcv_1, kLen_a, kLen_r, inB_e, inR_e, cpOK_e, swt_n, swt_c, List.take_succ_cons, List.take_zero, List.drop_succ_cons, List.drop_zero, List.reverse_cons, List.reverse_nil, List.nil_append, List.cons_append, List.length_cons, List.length_nil, Option.toList_some, Option.toList_none, det_e, det_x, tr_imp, fa_imp, implies_true, not_true, not_false_eq_true, and_true, true_and, nar_i, upd_s, st1_0, st1_1, st1_2, st1_3, st1_4, st1_5, st1_6, st1_7, st1_8, st1_9, st1_10, st1_11, st1_12, st1_13, st1_14, st1_15, st1_16, st1_17, st1_18, st1_19, st1_20, st1_21, st1_22, st1_23, st1_24, st1_25, st1_26, st1_27, st1_28, st1_29, st1_30, st1_31, st1_32, st1_33, st1_34, st1_35, st1_36, st1_37, st1_42, st1_43, st1_44, st1_46, st1_47, st1_48, st1_49, st1_50, st1_51, st1_52, st1_53, st1_54, st1_55, st1_56, st1_57, st1_58, st1_59, st1_60, gK_sI, gP_sI, gI_s, sI_sI, hQ2, hp.f, k0, xL0, xL1, Nat.succ_ne_zero, ne_eq, en, a1, a2, a3, nb0, fil_s, nI_1]
      exact ih (i + 1) (by omega)
  have h0 := key1 n 0 (Nat.zero_add n)
  rw [fil_0, sI_id] at h0
  simp only [rX11_findOpen_0, kX11_findOpen_0, rX11_findOpen_22, kX11_findOpen_22, rX11_findOpen_63, kX11_findOpen_63, rX11_findOpen_69, kX11_findOpen_69, rX11_findOpen_100, kX11_findOpen_100, rX11_findOpen_106, kX11_findOpen_106, eX11_findOpen, S113, S131, S156, bk_c, if_true, if_false, wi_e, wl_e, wr_e, w1_i, w1_r, ldS_0, ldS_s, vi_e, vl_e, vr_e, dpL_u, dpL_i, dpL_r, dpL_l, stS_0, stS_1, stS_s, stL_0, stL_1, stL_s, bin_0, bin_1, bin_2, bin_3, bin_4, bin_5, bdv_0, bdv_1, lbin_0, lbin_1, lbin_2, cnd_0, cnd_1, cnd_2, cnd_3, cnd_4, cnd_5, aty_0, aty_1, aty_2, aty_3, aty_4, aty_5, c8_u, cn_0, cn_i, cn_r, cn_l, Nat.reduceAdd, Nat.reduceLeDiff, Nat.le_refl, adz, hnd_0, rcv_0, rcv_1, kLen_a, kLen_r, inB_e, inR_e, cpOK_e, swt_n, swt_c, List.take_succ_cons, List.take_zero, List.drop_succ_cons, List.drop_zero, List.reverse_cons, List.reverse_nil, List.nil_append, List.cons_append, List.length_cons, List.length_nil, Option.toList_some, Option.toList_none, det_e, det_x, tr_imp, fa_imp, implies_true, not_true, not_false_eq_true, and_true, true_and, nar_i, upd_s, st1_0, st1_1, st1_2, st1_3, st1_4, st1_5, st1_6, st1_7, st1_8, st1_9, st1_10, st1_11, st1_12, st1_13, st1_14, st1_15, st1_16, st1_17, st1_18, st1_19, st1_20, st1_21, st1_22, st1_23, st1_24, st1_25, st1_26, st1_27, st1_28, st1_29, st1_30, st1_31, st1_32, st1_33, st1_34, st1_35, st1_36, st1_37, st1_42, st1_43, st1_44, st1_46, st1_47, st1_48, st1_49, st1_50, st1_51, st1_52, st1_53, st1_54, st1_55, st1_56, st1_57, st1_58, st1_59, st1_60]
  exact h0
