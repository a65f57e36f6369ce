/-! ===== Strings: the JDK's own length and charAt (yet to be walked) ===== -/
def kSi (k : Kd) : Nat := match k with
  | some (.inr (.inr (.inr i))) => i
  | _ => 0
theorem kSi_e (i : Nat) : kSi (kS i) = i := rfl
theorem isS_e (i : Nat) : isS (kS i) = True := rfl
theorem isS_of {k : Kd} (h : isS k) : ∃ i, k = kS i := by
  rcases kd_cases k with h1 | ⟨ci, h1⟩ | ⟨ty, n, h1⟩ | ⟨n, h1⟩ | ⟨i, h1⟩
  · rw [h1] at h; exact h.elim
  · rw [h1] at h; exact h.elim
  · rw [h1] at h; exact h.elim
  · rw [h1] at h; exact h.elim
  · exact ⟨i, h1⟩
def S900 : Sem := fun as M => match as with
  | [.ref q] => sV (isS (gK M q)) (some (.int (nI (sN.getD (kSi (gK M q)) 0)))) M
  | _ => sF
def S901 : Sem := fun as M => match as with
  | [.ref q, .int k] => sV (isS (gK M q) ∧ vp_in k (sN.getD (kSi (gK M q)) 0)) (some (.int ((sB.getD (kSi (gK M q)) []).getD k.toNatClampNeg 0))) M
  | _ => sF
theorem s_JS_length {l : Launch} {G : Gt} (hfl : l.stackTraces = false) : SatM l G 900 S900 := by
  sorry
theorem s_JS_charAt {l : Launch} {G : Gt} (hfl : l.stackTraces = false) : SatM l G 901 S901 := by
  sorry
theorem nb0 : vp_nar FieldType.boolean 0 = 0 := rfl
theorem nb1 : vp_nar FieldType.boolean 1 = 1 := rfl
/-! ===== isWord ===== -/
def mtc (Y : Nat → Int32) : List Int32 → Nat → Int32
  | [], _ => 1
  | c :: cs, s => if Y s = c then mtc Y cs (s + 1) else 0
theorem sNB : ∀ i, i < 10 → sN.getD i 0 = (sB.getD i []).length ∧ (sB.getD i []).length < 100 := by decide +kernel
def iwI (M : Mm) (t w : Nat) : Int32 := if ¬ gI M t 2 = -3 ∨ ¬ gI M t 6 - gI M t 3 = nI (sN.getD w 0) then 0 else mtc (gI M (t + 1)) (sB.getD w []) (gI M t 3).toNatClampNeg
def iwV (M : Mm) (t q : Nat) : Int32 := iwI M t (kSi (gK M q))
def S73 : Sem := fun as M => match as with
  | [.ref t, .ref q] => sV (Lt M t ∧ (∃ i, i < 10 ∧ gK M q = kS i) ∧ ∃ s p, s ≤ p ∧ p ≤ 900 ∧ gI M t 3 = nI s ∧ gI M t 6 = nI p) (some (.int (iwV M t q))) M
  | _ => sF
def eX9_isWord : Nat → Sem := fun id => if id = 900 then S900 else S901
set_option maxRecDepth 100000 in
set_option maxHeartbeats 4000000 in
theorem s_X9_isWord {l : Launch} {G : Gt} (hfl : l.stackTraces = false) : SatM l G 73 S73 := by
  refine t_X9_isWord (E := eX9_isWord) hfl (s_JS_length hfl) (s_JS_charAt hfl) fun as M hp => ?_
  unfold S73 at hp ⊢
  split at hp
  case h_2 => exact hp.elim
  rename_i t q
  obtain ⟨⟨k0, p0, k1⟩, ⟨w, hw, kw⟩, s, p, hs, hp, e3, e6⟩ := hp
  refine ⟨Nat.le_of_ble_eq_true rfl, ?_⟩
  show Run (gT G) _ _ _ _ _ _ _ 0 [.val (.ref t), .val (.ref q), .unset] [] M 0 0
  obtain ⟨g1, g2⟩ := sNB w hw
  have cs : (nI s).toNatClampNeg = s := nI_clamp (by omega)
  have hlen : nI p - nI s = nI (p - s) := by
    obtain ⟨d, rfl⟩ : ∃ d, p = s + d := ⟨p - s, by omega⟩
    rw [Nat.add_sub_cancel_left, ← nI_add, Int32.add_comm, Int32.add_sub_cancel]
  have key : ∀ (l : List Int32) k, k + l.length = (sB.getD w []).length → (sB.getD w []).drop k = l → s + (sB.getD w []).length ≤ 900 → Run (gT G) eX9_isWord 0 0 (fun _ _ => none) (fun v' M' => v' = some (.int (mtc (gI M (t + 1)) l (s + k))) ∧ M' = M) (fun _ _ => False) kX9_isWord 29 [.val (.ref t), .val (.ref q), .val (.int (nI k))] [] M 0 0 := by
    intro l
    induction l with
    | nil =>
      intro k hk hd hL
      have hk2 : k = (sB.getD w []).length := hk
      rw [rX9_isWord_29]
      simp only [kX9_isWord_29, rX9_isWord_0, kX9_isWord_0, rX9_isWord_25, kX9_isWord_25, rX9_isWord_27, kX9_isWord_27, rX9_isWord_58, kX9_isWord_58, rX9_isWord_64, kX9_isWord_64, eX9_isWord, S900, S901, bk_c, if_true, if_false, wi_e, wl_e, wr_e, w1_i, w1_r, ldS_0, ldS_s, vi_e, vl_e, vr_e, dpL_u, dpL_i, dpL_r, dpL_l, stS_0, stS_1, stS_s, stL_0, stL_1, stL_s, bin_0, bin_1, bin_2, bin_3, bin_4, bin_5, bdv_0, bdv_1, lbin_0, lbin_1, lbin_2, cnd_0, cnd_1, cnd_2, cnd_3, cnd_4, cnd_5, aty_0, aty_1, aty_2, aty_3, aty_4, aty_5, c8_u, cn_0, cn_i, cn_r, cn_l, Nat.reduceAdd, Nat.reduceLeDiff, Nat.le_refl, adz, hnd_0, rcv_0, rcv_1, kLen_a, kLen_r, inB_e, inR_e, cpOK_e, swt_n, swt_c, List.take_succ_cons, List.take_zero, List.drop_succ_cons, List.drop_zero, List.reverse_cons, List.reverse_nil, List.nil_append, List.cons_append, List.length_cons, List.length_nil, Option.toList_some, Option.toList_none, det_e, det_x, tr_imp, fa_imp, implies_true, not_true, not_false_eq_true, and_true, true_and, nar_i, upd_s, st1_0, st1_1, st1_2, st1_3, st1_4, st1_5, st1_6, st1_7, st1_8, st1_9, st1_10, st1_11, st1_12, st1_13, st1_14, st1_15, st1_16, st1_17, st1_18, st1_19, st1_20, st1_21, st1_22, st1_23, st1_24, st1_25, st1_26, st1_27, st1_28, st1_29, st1_30, st1_31, st1_32, st1_33, st1_34, st1_35, st1_36, st1_37, st1_42, st1_43, st1_44, st1_46, st1_47, st1_48, st1_49, st1_50, st1_51, st1_52, st1_53, st1_54, st1_55, st1_56, st1_57, st1_58, st1_59, st1_60, Nat.reduceEqDiff, reduceIte, kw, isS_e, kSi_e, sV, g1, hk2, lp_out, nb1, mtc]
    | cons c cs2 ih =>
      intro k hk hd hL
      rw [List.length_cons] at hk
      obtain ⟨a1, a2, a3, -⟩ := lp_in (i := k) (n := (sB.getD w []).length) (N := (sB.getD w []).length) (by omega) (Nat.le_refl _) (by omega)
      have a4 : vp_in (nI (s + k)) 900 = True := eq_true (vp_in_nI (by omega) (by decide))
      have a5 : (nI (s + k)).toNatClampNeg = s + k := nI_clamp (by omega)
      have a6 : (sB.getD w []).getD k 0 = c := by
        have := congrArg (fun z => z.getD 0 (0 : Int32)) hd
        simpa [List.getD, List.getElem?_drop] using this
      rw [rX9_isWord_29]
      simp only [kX9_isWord_29, rX9_isWord_0, kX9_isWord_0, rX9_isWord_25, kX9_isWord_25, rX9_isWord_27, kX9_isWord_27, rX9_isWord_58, kX9_isWord_58, rX9_isWord_64, kX9_isWord_64, eX9_isWord, S900, S901, bk_c, if_true, if_false, wi_e, wl_e, wr_e, w1_i, w1_r, ldS_0, ldS_s, vi_e, vl_e, vr_e, dpL_u, dpL_i, dpL_r, dpL_l, stS_0, stS_1, stS_s, stL_0, stL_1, stL_s, bin_0, bin_1, bin_2, bin_3, bin_4, bin_5, bdv_0, bdv_1, lbin_0, lbin_1, lbin_2, cnd_0, cnd_1, cnd_2, cnd_3, cnd_4, cnd_5, aty_0, aty_1, aty_2, aty_3, aty_4, aty_5, c8_u, cn_0, cn_i, cn_r, cn_l, Nat.reduceAdd, Nat.reduceLeDiff, Nat.le_refl, adz, hnd_0, rcv_0, rcv_1, kLen_a, kLen_r, inB_e, inR_e, cpOK_e, swt_n, swt_c, List.take_succ_cons, List.take_zero, List.drop_succ_cons, List.drop_zero, List.reverse_cons, List.reverse_nil, List.nil_append, List.cons_append, List.length_cons, List.length_nil, Option.toList_some, Option.toList_none, det_e, det_x, tr_imp, fa_imp, implies_true, not_true, not_false_eq_true, and_true, true_and, nar_i, upd_s, st1_0, st1_1, st1_2, st1_3, st1_4, st1_5, st1_6, st1_7, st1_8, st1_9, st1_10, st1_11, st1_12, st1_13, st1_14, st1_15, st1_16, st1_17, st1_18, st1_19, st1_20, st1_21, st1_22, st1_23, st1_24, st1_25, st1_26, st1_27, st1_28, st1_29, st1_30, st1_31, st1_32, st1_33, st1_34, st1_35, st1_36, st1_37, st1_42, st1_43, st1_44, st1_46, st1_47, st1_48, st1_49, st1_50, st1_51, st1_52, st1_53, st1_54, st1_55, st1_56, st1_57, st1_58, st1_59, st1_60, Nat.reduceEqDiff, reduceIte, kw, isS_e, kSi_e, sV, g1, a1, a2, a3, e3, nI_add, a4, a5, a6, k0, p0, k1, nI_1, Nat.succ_ne_zero, nb0, mtc]
      refine ⟨fun h => ?_, fun h => ?_⟩
      · rw [if_pos h]
        refine ih (k + 1) (by omega) ?_ hL
        have := congrArg List.tail hd
        rw [List.tail_drop] at this
        exact this
      · rw [if_neg h]
  simp only [rX9_isWord_0, kX9_isWord_0, rX9_isWord_25, kX9_isWord_25, rX9_isWord_27, kX9_isWord_27, rX9_isWord_58, kX9_isWord_58, rX9_isWord_64, kX9_isWord_64, eX9_isWord, S900, S901, bk_c, if_true, if_false, wi_e, wl_e, wr_e, w1_i, w1_r, ldS_0, ldS_s, vi_e, vl_e, vr_e, dpL_u, dpL_i, dpL_r, dpL_l, stS_0, stS_1, stS_s, stL_0, stL_1, stL_s, bin_0, bin_1, bin_2, bin_3, bin_4, bin_5, bdv_0, bdv_1, lbin_0, lbin_1, lbin_2, cnd_0, cnd_1, cnd_2, cnd_3, cnd_4, cnd_5, aty_0, aty_1, aty_2, aty_3, aty_4, aty_5, c8_u, cn_0, cn_i, cn_r, cn_l, Nat.reduceAdd, Nat.reduceLeDiff, Nat.le_refl, adz, hnd_0, rcv_0, rcv_1, kLen_a, kLen_r, inB_e, inR_e, cpOK_e, swt_n, swt_c, List.take_succ_cons, List.take_zero, List.drop_succ_cons, List.drop_zero, List.reverse_cons, List.reverse_nil, List.nil_append, List.cons_append, List.length_cons, List.length_nil, Option.toList_some, Option.toList_none, det_e, det_x, tr_imp, fa_imp, implies_true, not_true, not_false_eq_true, and_true, true_and, nar_i, upd_s, st1_0, st1_1, st1_2, st1_3, st1_4, st1_5, st1_6, st1_7, st1_8, st1_9, st1_10, st1_11, st1_12, st1_13, st1_14, st1_15, st1_16, st1_17, st1_18, st1_19, st1_20, st1_21, st1_22, st1_23, st1_24, st1_25, st1_26, st1_27, st1_28, st1_29, st1_30, st1_31, st1_32, st1_33, st1_34, st1_35, st1_36, st1_37, st1_42, st1_43, st1_44, st1_46, st1_47, st1_48, st1_49, st1_50, st1_51, st1_52, st1_53, st1_54, st1_55, st1_56, st1_57, st1_58, st1_59, st1_60, Nat.reduceEqDiff, reduceIte, kw, isS_e, kSi_e, sV, e3, e6, k0, nb0]
  refine ⟨fun h => ?_, fun h => ⟨fun h2 => ?_, fun h2 => ?_⟩⟩
  · unfold iwV iwI
    rw [if_pos (Or.inl h)]
  · unfold iwV iwI
    rw [e6, e3, kw, kSi_e, cs, if_neg (fun z => z.elim h (fun z => z h2))]
    rw [hlen, g1] at h2
    have h3 : p - s = (sB.getD w []).length := by
      have := congrArg Int32.toNatClampNeg h2
      rwa [nI_clamp (by omega), nI_clamp (by omega)] at this
    exact key _ 0 (Nat.zero_add _) rfl (by omega)
  · unfold iwV iwI
    rw [e6, e3, kw, kSi_e, if_pos (Or.inr h2)]
