/-! ===== SetupReader: the statements ===== -/
theorem gK_nx (M : Mm) (t : Nat) : gK (nxM M t) = gK M := rfl
theorem gP_nx (M : Mm) (t : Nat) : gP (nxM M t) = gP M := rfl
theorem gK_fl (M : Mm) (r : Nat) (c : Int32) : gK (flM M r c) = gK M := (kp_fl M r c).1
theorem gP_fl (M : Mm) (r : Nat) (c : Int32) : gP (flM M r c) = gP M := (kp_fl M r c).2.1
theorem gK_rn (M : Mm) (r : Nat) (a b : Int32) : gK (rnM M r a b).2 = gK M := (kp_rn M r a b).1
theorem gP_rn (M : Mm) (r : Nat) (a b : Int32) : gP (rnM M r a b).2 = gP M := (kp_rn M r a b).2.1
theorem gK_ro (M : Mm) (r w : Nat) (a b : Int32) : gK (roM M r w a b).2 = gK M := (kp_ro M r w a b).1
theorem gP_ro (M : Mm) (r w : Nat) (a b : Int32) : gP (roM M r w a b).2 = gP M := (kp_ro M r w a b).2.1
theorem gK_ad (M : Mm) (q : Nat) (c : Int32) : gK (adM M q c) = gK M := (kp_ad M q c).1
theorem gP_ad (M : Mm) (q : Nat) (c : Int32) : gP (adM M q c) = gP M := (kp_ad M q c).2.1
theorem kp_rp (M : Mm) (r : Nat) (c : Int32) : kpI (rpM M r c).2 M := by
  unfold rpM rpA
  split
  · exact (kp_ro _ _ _ _ _).t (kp_fl _ _ _)
  · exact kp_ro _ _ _ _ _
theorem gK_rp (M : Mm) (r : Nat) (c : Int32) : gK (rpM M r c).2 = gK M := (kp_rp M r c).1
theorem gP_rp (M : Mm) (r : Nat) (c : Int32) : gP (rpM M r c).2 = gP M := (kp_rp M r c).2.1
theorem gI_rp (M : Mm) {r p : Nat} (c : Int32) (h : p ≠ r) (h1 : p ≠ r + 1) : gI (rpM M r c).2 p = gI M p := by
  unfold rpM rpA
  split
  · exact (gI_ro _ _ _ _ h h1).trans (gI_fl _ _ h)
  · exact gI_ro _ _ _ _ h h1
theorem UI.rp {M : Mm} {r : Nat} (h : UI M r) (c : Int32) : UI (rpM M r c).2 r := by
  unfold rpM
  exact (ui_rpA h).ro _ _ _
/-- a number put into a row of the draft -/
def pu (x : Int32 × Mm) (a k : Nat) : Mm := sI x.2 a (upd (gI x.2 a) k x.1)
theorem gK_pu (x : Int32 × Mm) (a k : Nat) : gK (pu x a k) = gK x.2 := rfl
theorem gP_pu (x : Int32 × Mm) (a k : Nat) : gP (pu x a k) = gP x.2 := rfl
theorem pu_e (x : Int32 × Mm) (a k : Nat) : sI x.2 a (upd (gI x.2 a) k x.1) = pu x a k := rfl
def okk (k : Nat) : Bool := 4 < k && k < 35 && k != 13 && k != 25 && k != 28 && k != 30
theorem UI.row {M : Mm} {r k : Nat} (h : UI M r) (hk : okk k = true) (f : Nat → Int32) : UI (sI M (r + k) f) r := by
  have hk2 : 4 < k ∧ k ≠ 13 ∧ k ≠ 25 ∧ k ≠ 28 ∧ k ≠ 30 := by
    unfold okk at hk
    simp only [Bool.and_eq_true, decide_eq_true_eq, bne_iff_ne, ne_eq] at hk
    omega
  refine h.kp (kpI.i _ _ _) ?_ ?_ ?_ ?_ ?_ ?_
  · unfold TJ
    rw [gI_f _ _ (by omega)]
    exact h.2.1
  · rw [gI_f _ _ (by omega)]; exact h.2.2.1
  · rw [gI_f _ _ (by omega)]; exact h.2.2.2.1
  · rw [gI_f _ _ (by omega)]; exact h.2.2.2.2.1
  · rw [gI_f _ _ (by omega)]; exact h.2.2.2.2.2.1
  · rw [gI_f _ _ (by omega)]; exact h.2.2.2.2.2.2
theorem UI.put {x : Int32 × Mm} {r k : Nat} (h : UI x.2 r) (hk : okk k = true) (j : Nat) : UI (pu x (r + k) j) r := h.row hk _
/-- the count of entries stays a count -/
theorem UI.rot {M : Mm} {r : Nat} (h : UI M r) (f : Nat → Int32) (hf : cnt (f 2) 12) : UI (sI M (r + 25) f) r := by
  refine h.kp (kpI.i _ _ _) ?_ ?_ ?_ ?_ ?_ ?_
  · unfold TJ
    rw [gI_f _ _ (by omega)]
    exact h.2.1
  · rw [gI_f _ _ (by omega)]; exact h.2.2.1
  · rw [gI_f _ _ (by omega)]; exact h.2.2.2.1
  · rw [gI_s]; exact hf
  · rw [gI_f _ _ (by omega)]; exact h.2.2.2.2.2.1
  · rw [gI_f _ _ (by omega)]; exact h.2.2.2.2.2.2
theorem UI.can {M : Mm} {r : Nat} (h : UI M r) (f : Nat → Int32) (hf : cnt (f 8) 16) : UI (sI M (r + 4) f) r := by
  refine h.kp (kpI.i _ _ _) ?_ ?_ ?_ ?_ ?_ ?_
  · unfold TJ
    rw [gI_f _ _ (by omega)]
    exact h.2.1
  · rw [gI_s]; exact hf
  · rw [gI_f _ _ (by omega)]; exact h.2.2.2.1
  · rw [gI_f _ _ (by omega)]; exact h.2.2.2.2.1
  · rw [gI_f _ _ (by omega)]; exact h.2.2.2.2.2.1
  · rw [gI_f _ _ (by omega)]; exact h.2.2.2.2.2.2
theorem UI.fie {M : Mm} {r : Nat} (h : UI M r) (f : Nat → Int32) (hf : cnt (f 11) 12) : UI (sI M (r + 13) f) r := by
  refine h.kp (kpI.i _ _ _) ?_ ?_ ?_ ?_ ?_ ?_
  · unfold TJ
    rw [gI_f _ _ (by omega)]
    exact h.2.1
  · rw [gI_f _ _ (by omega)]; exact h.2.2.1
  · rw [gI_s]; exact hf
  · rw [gI_f _ _ (by omega)]; exact h.2.2.2.2.1
  · rw [gI_f _ _ (by omega)]; exact h.2.2.2.2.2.1
  · rw [gI_f _ _ (by omega)]; exact h.2.2.2.2.2.2
theorem UI.gua {M : Mm} {r : Nat} (h : UI M r) (f : Nat → Int32) (hf : cnt (f 1) 10) : UI (sI M (r + 28) f) r := by
  refine h.kp (kpI.i _ _ _) ?_ ?_ ?_ ?_ ?_ ?_
  · unfold TJ
    rw [gI_f _ _ (by omega)]
    exact h.2.1
  · rw [gI_f _ _ (by omega)]; exact h.2.2.1
  · rw [gI_f _ _ (by omega)]; exact h.2.2.2.1
  · rw [gI_f _ _ (by omega)]; exact h.2.2.2.2.1
  · rw [gI_s]; exact hf
  · rw [gI_f _ _ (by omega)]; exact h.2.2.2.2.2.2
def rt1 (M : Mm) (r k : Nat) : Mm := pu (rnM (nxM M (r + 1)) r 0 5) (r + 26) k
def rt2 (M : Mm) (r k : Nat) : Mm := pu (rnM (rt1 M r k) r 1 99) (r + 27) k
def rtM (M : Mm) (r : Nat) : Mm :=
  if gI M (r + 25) 2 < 12 then
    let N := rt2 M r (gI M (r + 25) 2).toNatClampNeg
    sI N (r + 25) (upd (upd (gI N (r + 25)) 3 (gI N (r + 25) 3 + gI N (r + 27) (gI M (r + 25) 2).toNatClampNeg)) 2 (gI N (r + 25) 2 + 1))
  else flM M r (-4)
def S61 : Sem := fun as M => match as with
  | [.ref r, .ref q] => sV (UI M r ∧ q = r + 25) none (rtM M r)
  | _ => sF
def eX7_readTurn : Nat → Sem := fun id => if id = 48 then S48 else if id = 54 then S54 else S74
set_option maxRecDepth 100000 in
set_option maxHeartbeats 4000000 in
theorem s_X7_readTurn {l : Launch} {G : Gt} (hfl : l.stackTraces = false) : SatM l G 61 S61 := by
  refine t_X7_readTurn (E := eX7_readTurn) hfl (s_X7_fail hfl) (s_X7_readNumber hfl) (s_X9_next hfl) fun as M hp => ?_
  unfold S61 at hp ⊢
  split at hp
  case h_2 => exact hp.elim
  rename_i r q
  obtain ⟨⟨⟨k0, ⟨p0, p1⟩, hT, hS⟩, hU⟩, hq⟩ := hp
  refine ⟨Nat.le_of_ble_eq_true rfl, ?_⟩
  show Run (gT G) _ _ _ _ _ _ _ 0 [.val (.ref r), .val (.ref q), .unset] [] M 0 0
  have hI : UI M r := ⟨⟨k0, ⟨p0, p1⟩, hT, hS⟩, hU⟩
  subst hq
  obtain ⟨n, hn, en⟩ := hU.2.2.2.1
  have cl : (nI n).toNatClampNeg = n := nI_clamp (by omega)
  obtain ⟨r0, ⟨r1, r2⟩, r3, r4⟩ : Lr M (r + 25) := hS.2.2.2.2.1
  have f1 : pu (rnM (nxM M (r + 1)) r 0 5) (r + 26) n = rt1 M r n := rfl
  have f2 : pu (rnM (rt1 M r n) r 1 99) (r + 27) n = rt2 M r n := rfl
  have u1 : UI (rt1 M r n) r := (hI.nx.rn _ _).put rfl _
  have u2 : UI (rt2 M r n) r := (u1.rn _ _).put rfl _
  have g1 : gK (rt1 M r n) = gK M ∧ gP (rt1 M r n) = gP M := ⟨gK_rn _ _ _ _, gP_rn _ _ _ _⟩
  have g2 : gK (rt2 M r n) = gK M ∧ gP (rt2 M r n) = gP M := ⟨(gK_rn _ _ _ _).trans g1.1, (gP_rn _ _ _ _).trans g1.2⟩
  simp only [Nat.add_assoc, Nat.reduceAdd] at r0 r1 r2 r3 r4
  have u32 : ∀ (f : Nat → Int32) x, upd f 3 x 2 = f 2 := fun f x => rfl
  simp only [rX7_readTurn_0, kX7_readTurn_0, rX7_readTurn_18, kX7_readTurn_18, eX7_readTurn, S48, S54, S74, bk_c, if_true, if_false, wi_e, wl_e, wr_e, w1_i, w1_r, ldS_0, ldS_s, vi_e, vl_e, vr_e, dpL_u, dpL_i, dpL_r, dpL_l, stS_0, stS_1, stS_s, stL_0, stL_1, stL_s, bin_0, bin_1, bin_2, bin_3, bin_4, bin_5, bdv_0, bdv_1, lbin_0, lbin_1, lbin_2, cnd_0, cnd_1, cnd_2, cnd_3, cnd_4, cnd_5, aty_0, aty_1, aty_2, aty_3, aty_4, aty_5, c8_u, cn_0, cn_i, cn_r, cn_l, Nat.reduceAdd, Nat.reduceLeDiff, Nat.le_refl, adz, hnd_0, rcv_0, rcv_1, kLen_a, kLen_r, inB_e, inR_e, cpOK_e, swt_n, swt_c, List.take_succ_cons, List.take_zero, List.drop_succ_cons, List.drop_zero, List.reverse_cons, List.reverse_nil, List.nil_append, List.cons_append, List.length_cons, List.length_nil, Option.toList_some, Option.toList_none, det_e, det_x, tr_imp, fa_imp, implies_true, not_true, not_false_eq_true, and_true, true_and, nar_i, upd_s, st1_0, st1_1, st1_2, st1_3, st1_4, st1_5, st1_6, st1_7, st1_8, st1_9, st1_10, st1_11, st1_12, st1_13, st1_14, st1_15, st1_16, st1_17, st1_18, st1_19, st1_20, st1_21, st1_22, st1_23, st1_24, st1_25, st1_26, st1_27, st1_28, st1_29, st1_30, st1_31, st1_32, st1_33, st1_34, st1_35, st1_36, st1_37, st1_42, st1_43, st1_44, st1_46, st1_47, st1_48, st1_49, st1_50, st1_51, st1_52, st1_53, st1_54, st1_55, st1_56, st1_57, st1_58, st1_59, st1_60, up_q, up_q0, up_q1, up_s, sI_sI, Nat.reduceEqDiff, reduceIte, Nat.succ_ne_zero, forall_const, false_imp_iff, Nat.add_assoc, gK_nx, gP_nx, gK_rn, gP_rn, gK_sI, gP_sI, gI_s, sI_sI, u32, pu_e, f1, f2, g1, g2, sV, k0, p0, hT, hT.1, hU.1.p, hI, hI.nx, u1, r0, r1, r2, r3, r4, en, cl]
  refine ⟨fun h => ?_, fun h => ?_⟩
  · have hin : vp_in (nI n) 12 := vp_in_nI ((nI_ltI (by omega) (by decide)).mp (show nI n < nI 12 from h)) (by decide)
    refine ⟨hin, hin, hin, ?_⟩
    unfold rtM
    rw [en, if_pos h, cl]
  · unfold rtM
    rw [en, if_neg h]
theorem UI.rt {M : Mm} {r : Nat} (h : UI M r) : UI (rtM M r) r := by
  obtain ⟨n, hn, en⟩ := h.2.2.2.2.1
  unfold rtM
  split
  · rename_i h1
    rw [en] at h1
    have h2 := (nI_ltI (by omega) (by decide)).mp (show nI n < nI 12 from h1)
    have u2 : UI (rt2 M r (gI M (r + 25) 2).toNatClampNeg) r := (((h.nx.rn _ _).put rfl _).rn _ _).put rfl _
    refine u2.rot _ ?_
    rw [upd_s]
    have e2 : gI (rt2 M r (gI M (r + 25) 2).toNatClampNeg) (r + 25) = gI M (r + 25) := by
      unfold rt2 pu
      rw [gI_f _ _ (by omega), gI_rn _ _ _ (by omega) (by omega)]
      unfold rt1 pu
      rw [gI_f _ _ (by omega), gI_rn _ _ _ (by omega) (by omega), gI_nx _ (by omega)]
    rw [e2, en, nI_1]
    exact ⟨n + 1, h2, rfl⟩
  · exact h.fl _
theorem kp_pu {x : Int32 × Mm} {M : Mm} (h : kpI x.2 M) (a k : Nat) : kpI (pu x a k) M := ⟨h.1, h.2.1, h.2.2⟩
theorem kp_rt1 (M : Mm) (r k : Nat) : kpI (rt1 M r k) M := kp_pu ((kp_rn _ _ _ _).t (kp_nx _ _)) _ _
theorem kp_rt2 (M : Mm) (r k : Nat) : kpI (rt2 M r k) M := kp_pu ((kp_rn _ _ _ _).t (kp_rt1 M r k)) _ _
theorem kp_rt (M : Mm) (r : Nat) : kpI (rtM M r) M := by
  unfold rtM
  split
  · exact (kpI.i _ _ _).t (kp_rt2 M r _)
  · exact kp_fl _ _ _
def rc1 (M : Mm) (r k : Nat) : Mm := pu (if gI M (r + 4) 8 = 0 then ((-1 : Int32), (nxM M (r + 1))) else rpM (nxM M (r + 1)) r (gI M (r + 4) 8)) (r + 5) k
def rc2 (M : Mm) (r k : Nat) : Mm := pu (rnM (rc1 M r k) r 1 6) (r + 6) k
def rc3 (M : Mm) (r k : Nat) : Mm := pu (rnM (rc2 M r k) r 0 50) (r + 7) k
def rc4 (M : Mm) (r k : Nat) : Mm := pu (rnM (rc3 M r k) r 1 9999) (r + 8) k
def rc5 (M : Mm) (r k : Nat) : Mm := pu (roM (rc4 M r k) r 2 99 1) (r + 9) k
def rcM (M : Mm) (r : Nat) : Mm :=
  if gI M (r + 4) 8 < 16 then
    let N := rc5 M r (gI M (r + 4) 8).toNatClampNeg
    sI N (r + 4) (upd (gI N (r + 4)) 8 (gI N (r + 4) 8 + 1))
  else flM M r (-4)
theorem kp_rc1 (M : Mm) (r k : Nat) : kpI (rc1 M r k) M := by
  refine kp_pu ?_ _ _
  split
  · exact kp_nx _ _
  · exact (kp_rp _ _ _).t (kp_nx _ _)
theorem ui_rc1 {M : Mm} {r : Nat} (h : UI M r) (k : Nat) : UI (rc1 M r k) r := by
  refine UI.put ?_ rfl _
  split
  · exact h.nx
  · exact h.nx.rp _
theorem gi_rc1 (M : Mm) (r k : Nat) : gI (rc1 M r k) (r + 4) = gI M (r + 4) := by
  unfold rc1 pu
  rw [gI_f _ _ (by omega)]
  split
  · exact gI_nx _ (by omega)
  · exact (gI_rp _ _ (by omega) (by omega)).trans (gI_nx _ (by omega))
theorem kp_rc2 (M : Mm) (r k : Nat) : kpI (rc2 M r k) M := kp_pu ((kp_rn _ _ _ _).t (kp_rc1 M r k)) _ _
theorem ui_rc2 {M : Mm} {r : Nat} (h : UI M r) (k : Nat) : UI (rc2 M r k) r := UI.put (UI.rn (ui_rc1 h k) _ _) rfl _
theorem gi_rc2 (M : Mm) (r k : Nat) : gI (rc2 M r k) (r + 4) = gI M (r + 4) := by
  unfold rc2 pu
  rw [gI_f _ _ (by omega), gI_rn _ _ _ (by omega) (by omega)]
  exact gi_rc1 M r k
theorem kp_rc3 (M : Mm) (r k : Nat) : kpI (rc3 M r k) M := kp_pu ((kp_rn _ _ _ _).t (kp_rc2 M r k)) _ _
theorem ui_rc3 {M : Mm} {r : Nat} (h : UI M r) (k : Nat) : UI (rc3 M r k) r := UI.put (UI.rn (ui_rc2 h k) _ _) rfl _
theorem gi_rc3 (M : Mm) (r k : Nat) : gI (rc3 M r k) (r + 4) = gI M (r + 4) := by
  unfold rc3 pu
  rw [gI_f _ _ (by omega), gI_rn _ _ _ (by omega) (by omega)]
  exact gi_rc2 M r k
theorem kp_rc4 (M : Mm) (r k : Nat) : kpI (rc4 M r k) M := kp_pu ((kp_rn _ _ _ _).t (kp_rc3 M r k)) _ _
theorem ui_rc4 {M : Mm} {r : Nat} (h : UI M r) (k : Nat) : UI (rc4 M r k) r := UI.put (UI.rn (ui_rc3 h k) _ _) rfl _
theorem gi_rc4 (M : Mm) (r k : Nat) : gI (rc4 M r k) (r + 4) = gI M (r + 4) := by
  unfold rc4 pu
  rw [gI_f _ _ (by omega), gI_rn _ _ _ (by omega) (by omega)]
  exact gi_rc3 M r k
theorem kp_rc5 (M : Mm) (r k : Nat) : kpI (rc5 M r k) M := kp_pu ((kp_ro _ _ _ _ _).t (kp_rc4 M r k)) _ _
theorem ui_rc5 {M : Mm} {r : Nat} (h : UI M r) (k : Nat) : UI (rc5 M r k) r := UI.put (UI.ro (ui_rc4 h k) _ _ _) rfl _
theorem gi_rc5 (M : Mm) (r k : Nat) : gI (rc5 M r k) (r + 4) = gI M (r + 4) := by
  unfold rc5 pu
  rw [gI_f _ _ (by omega), gI_ro _ _ _ _ (by omega) (by omega)]
  exact gi_rc4 M r k
theorem UI.rc {M : Mm} {r : Nat} (h : UI M r) : UI (rcM M r) r := by
  obtain ⟨n, hn, en⟩ := h.2.2.1
  unfold rcM
  split
  · rename_i h1
    rw [en] at h1
    have h2 := (nI_ltI (by omega) (by decide)).mp (show nI n < nI 16 from h1)
    refine (ui_rc5 h _).can _ ?_
    rw [upd_s, gi_rc5, en, nI_1]
    exact ⟨n + 1, h2, rfl⟩
  · exact h.fl _
theorem kp_rc (M : Mm) (r : Nat) : kpI (rcM M r) M := by
  unfold rcM
  split
  · exact (kpI.i _ _ _).t (kp_rc5 M r _)
  · exact kp_fl _ _ _
def rf1 (M : Mm) (r k : Nat) : Mm := pu (rnM (nxM M (r + 1)) r 0 (gI M (r + 4) 8 - 1)) (r + 14) k
def rf2 (M : Mm) (r k : Nat) : Mm := pu (rnM (rf1 M r k) r 0 5) (r + 15) k
def rf3 (M : Mm) (r k : Nat) : Mm := pu (rnM (rf2 M r k) r 1 999) (r + 16) k
def rf4 (M : Mm) (r k : Nat) : Mm := pu (rnM (rf3 M r k) r 0 9999) (r + 17) k
def rf5 (M : Mm) (r k : Nat) : Mm := pu (rnM (rf4 M r k) r 1 9999) (r + 18) k
def rf6 (M : Mm) (r k : Nat) : Mm := pu (rnM (rf5 M r k) r 0 99) (r + 19) k
def rf7 (M : Mm) (r k : Nat) : Mm := pu (roM (rf6 M r k) r 4 (gI M (r + 13) 11 - 1) (-1)) (r + 20) k
def rfM (M : Mm) (r : Nat) : Mm :=
  if gI M (r + 13) 11 < 12 then
    let N := rf7 M r (gI M (r + 13) 11).toNatClampNeg
    sI N (r + 13) (upd (gI N (r + 13)) 11 (gI N (r + 13) 11 + 1))
  else flM M r (-4)
theorem kp_rf1 (M : Mm) (r k : Nat) : kpI (rf1 M r k) M := kp_pu ((kp_rn _ _ _ _).t (kp_nx _ _)) _ _
theorem ui_rf1 {M : Mm} {r : Nat} (h : UI M r) (k : Nat) : UI (rf1 M r k) r := UI.put (UI.rn h.nx _ _) rfl _
theorem gi_rf1 (M : Mm) (r k : Nat) : gI (rf1 M r k) (r + 13) = gI M (r + 13) := by
  unfold rf1 pu
  rw [gI_f _ _ (by omega), gI_rn _ _ _ (by omega) (by omega)]
  exact gI_nx _ (by omega)
theorem kp_rf2 (M : Mm) (r k : Nat) : kpI (rf2 M r k) M := kp_pu ((kp_rn _ _ _ _).t (kp_rf1 M r k)) _ _
theorem ui_rf2 {M : Mm} {r : Nat} (h : UI M r) (k : Nat) : UI (rf2 M r k) r := UI.put (UI.rn (ui_rf1 h k) _ _) rfl _
theorem gi_rf2 (M : Mm) (r k : Nat) : gI (rf2 M r k) (r + 13) = gI M (r + 13) := by
  unfold rf2 pu
  rw [gI_f _ _ (by omega), gI_rn _ _ _ (by omega) (by omega)]
  exact gi_rf1 M r k
theorem kp_rf3 (M : Mm) (r k : Nat) : kpI (rf3 M r k) M := kp_pu ((kp_rn _ _ _ _).t (kp_rf2 M r k)) _ _
theorem ui_rf3 {M : Mm} {r : Nat} (h : UI M r) (k : Nat) : UI (rf3 M r k) r := UI.put (UI.rn (ui_rf2 h k) _ _) rfl _
theorem gi_rf3 (M : Mm) (r k : Nat) : gI (rf3 M r k) (r + 13) = gI M (r + 13) := by
  unfold rf3 pu
  rw [gI_f _ _ (by omega), gI_rn _ _ _ (by omega) (by omega)]
  exact gi_rf2 M r k
theorem kp_rf4 (M : Mm) (r k : Nat) : kpI (rf4 M r k) M := kp_pu ((kp_rn _ _ _ _).t (kp_rf3 M r k)) _ _
theorem ui_rf4 {M : Mm} {r : Nat} (h : UI M r) (k : Nat) : UI (rf4 M r k) r := UI.put (UI.rn (ui_rf3 h k) _ _) rfl _
theorem gi_rf4 (M : Mm) (r k : Nat) : gI (rf4 M r k) (r + 13) = gI M (r + 13) := by
  unfold rf4 pu
  rw [gI_f _ _ (by omega), gI_rn _ _ _ (by omega) (by omega)]
  exact gi_rf3 M r k
theorem kp_rf5 (M : Mm) (r k : Nat) : kpI (rf5 M r k) M := kp_pu ((kp_rn _ _ _ _).t (kp_rf4 M r k)) _ _
theorem ui_rf5 {M : Mm} {r : Nat} (h : UI M r) (k : Nat) : UI (rf5 M r k) r := UI.put (UI.rn (ui_rf4 h k) _ _) rfl _
theorem gi_rf5 (M : Mm) (r k : Nat) : gI (rf5 M r k) (r + 13) = gI M (r + 13) := by
  unfold rf5 pu
  rw [gI_f _ _ (by omega), gI_rn _ _ _ (by omega) (by omega)]
  exact gi_rf4 M r k
theorem kp_rf6 (M : Mm) (r k : Nat) : kpI (rf6 M r k) M := kp_pu ((kp_rn _ _ _ _).t (kp_rf5 M r k)) _ _
theorem ui_rf6 {M : Mm} {r : Nat} (h : UI M r) (k : Nat) : UI (rf6 M r k) r := UI.put (UI.rn (ui_rf5 h k) _ _) rfl _
theorem gi_rf6 (M : Mm) (r k : Nat) : gI (rf6 M r k) (r + 13) = gI M (r + 13) := by
  unfold rf6 pu
  rw [gI_f _ _ (by omega), gI_rn _ _ _ (by omega) (by omega)]
  exact gi_rf5 M r k
theorem kp_rf7 (M : Mm) (r k : Nat) : kpI (rf7 M r k) M := kp_pu ((kp_ro _ _ _ _ _).t (kp_rf6 M r k)) _ _
theorem ui_rf7 {M : Mm} {r : Nat} (h : UI M r) (k : Nat) : UI (rf7 M r k) r := UI.put (UI.ro (ui_rf6 h k) _ _ _) rfl _
theorem gi_rf7 (M : Mm) (r k : Nat) : gI (rf7 M r k) (r + 13) = gI M (r + 13) := by
  unfold rf7 pu
  rw [gI_f _ _ (by omega), gI_ro _ _ _ _ (by omega) (by omega)]
  exact gi_rf6 M r k
theorem UI.rf {M : Mm} {r : Nat} (h : UI M r) : UI (rfM M r) r := by
  obtain ⟨n, hn, en⟩ := h.2.2.2.1
  unfold rfM
  split
  · rename_i h1
    rw [en] at h1
    have h2 := (nI_ltI (by omega) (by decide)).mp (show nI n < nI 12 from h1)
    refine (ui_rf7 h _).fie _ ?_
    rw [upd_s, gi_rf7, en, nI_1]
    exact ⟨n + 1, h2, rfl⟩
  · exact h.fl _
theorem kp_rf (M : Mm) (r : Nat) : kpI (rfM M r) M := by
  unfold rfM
  split
  · exact (kpI.i _ _ _).t (kp_rf7 M r _)
  · exact kp_fl _ _ _
theorem ne43 (r : Nat) : r + 4 ≠ r + 1 := by omega
def S50 (T : Nat → Nat) : Sem := fun as M => match as with
  | [.ref r, .ref q] => sV (UI M r ∧ STR T M ∧ q = r + 4) none (rcM M r)
  | _ => sF
def eX7_readCanal (T : Nat → Nat) : Nat → Sem := fun id => if id = 48 then S48 else if id = 54 then S54 else if id = 55 then S55 else if id = 56 then (S56 T) else S74
set_option maxRecDepth 100000 in
set_option maxHeartbeats 4000000 in
theorem s_X7_readCanal {l : Launch} {G : Gt} (hfl : l.stackTraces = false) : SatM l G 50 (S50 (gT G)) := by
  refine t_X7_readCanal (E := eX7_readCanal (gT G)) hfl (s_X7_fail hfl) (s_X7_readNumber hfl) (s_X7_readOptional hfl) (s_X7_readParent hfl) (s_X9_next hfl) fun as M hp => ?_
  unfold S50 at hp ⊢
  split at hp
  case h_2 => exact hp.elim
  rename_i r q
  obtain ⟨⟨⟨k0, ⟨p0, p1⟩, hT, hS⟩, hU⟩, hs, hq⟩ := hp
  refine ⟨Nat.le_of_ble_eq_true rfl, ?_⟩
  show Run (gT G) _ _ _ _ _ _ _ 0 [.val (.ref r), .val (.ref q), .unset] [] M 0 0
  have hI : UI M r := ⟨⟨k0, ⟨p0, p1⟩, hT, hS⟩, hU⟩
  subst hq
  obtain ⟨n, hn, en⟩ := hU.2.1
  have cl : (nI n).toNatClampNeg = n := nI_clamp (by omega)
  obtain ⟨c0, ⟨q0, q1, q2, q3, q4, q5, q6, q7⟩, c1, c2, c3, c4, c5, c6, c7, c8⟩ : Lc M (r + 4) := hS.2.2.1
  simp only [Nat.add_assoc, Nat.reduceAdd] at c0 q0 q1 q2 q3 q4 q5 q6 q7 c1 c2 c3 c4 c5 c6 c7 c8
  have f2 : pu (rnM (rc1 M r n) r 1 6) (r + 6) n = rc2 M r n := rfl
  have f3 : pu (rnM (rc2 M r n) r 0 50) (r + 7) n = rc3 M r n := rfl
  have f4 : pu (rnM (rc3 M r n) r 1 9999) (r + 8) n = rc4 M r n := rfl
  have f5 : pu (roM (rc4 M r n) r 2 99 1) (r + 9) n = rc5 M r n := rfl
  have hn0 : gI (nxM M (r + 1)) (r + 4) = gI M (r + 4) := gI_nx _ (ne43 r)
  have k1 : gK (rc1 M r n) = gK M ∧ gP (rc1 M r n) = gP M := ⟨(kp_rc1 M r n).1, (kp_rc1 M r n).2.1⟩
  have k2 : gK (rc2 M r n) = gK M ∧ gP (rc2 M r n) = gP M := ⟨(kp_rc2 M r n).1, (kp_rc2 M r n).2.1⟩
  have k3 : gK (rc3 M r n) = gK M ∧ gP (rc3 M r n) = gP M := ⟨(kp_rc3 M r n).1, (kp_rc3 M r n).2.1⟩
  have k4 : gK (rc4 M r n) = gK M ∧ gP (rc4 M r n) = gP M := ⟨(kp_rc4 M r n).1, (kp_rc4 M r n).2.1⟩
  have k5 : gK (rc5 M r n) = gK M ∧ gP (rc5 M r n) = gP M := ⟨(kp_rc5 M r n).1, (kp_rc5 M r n).2.1⟩
  have u1 := ui_rc1 hI n
  have u2 := ui_rc2 hI n
  have u3 := ui_rc3 hI n
  have u4 := ui_rc4 hI n
  have s9 : ∀ {N : Mm}, gK N = gK M → STR (gT G) N := fun h i hi => by rw [h]; exact hs i hi
  have s0 : STR (gT G) (nxM M (r + 1)) := s9 rfl
  have s4 : ∃ i, i < 10 ∧ gK M (gT G 2) = kS i := hs.w (by decide)
  have e4 : kSi (gK M (gT G 2)) = 2 := by rw [hs 2 (by decide)]; rfl
  by_cases h : nI n < 16
  · have hin : vp_in (nI n) 16 = True := eq_true (vp_in_nI ((nI_ltI (by omega) (by decide)).mp (show nI n < nI 16 from h)) (by decide))
    have hM : sI (rc5 M r n) (r + 4) (upd (gI (rc5 M r n) (r + 4)) 8 (gI (rc5 M r n) (r + 4) 8 + 1)) = rcM M r := by
      unfold rcM
      rw [en, if_pos h, cl]
    by_cases h0 : nI n = 0
    · have f1 : sI (nxM M (r + 1)) (r + 5) (upd (gI (nxM M (r + 1)) (r + 5)) n (-1)) = rc1 M r n := by
        unfold rc1
        rw [en, if_pos h0]
        rfl
      have h9 : (nI n = 0) = True := eq_true h0
      simp only [rX7_readCanal_0, kX7_readCanal_0, rX7_readCanal_18, kX7_readCanal_18, rX7_readCanal_38, kX7_readCanal_38, rX7_readCanal_43, kX7_readCanal_43, eX7_readCanal, S48, S54, S55, S56, S74, bk_c, if_true, if_false, wi_e, wl_e, wr_e, w1_i, w1_r, ldS_0, ldS_s, vi_e, vl_e, vr_e, dpL_u, dpL_i, dpL_r, dpL_l, stS_0, stS_1, stS_s, stL_0, stL_1, stL_s, bin_0, bin_1, bin_2, bin_3, bin_4, bin_5, bdv_0, bdv_1, lbin_0, lbin_1, lbin_2, cnd_0, cnd_1, cnd_2, cnd_3, cnd_4, cnd_5, aty_0, aty_1, aty_2, aty_3, aty_4, aty_5, c8_u, cn_0, cn_i, cn_r, cn_l, Nat.reduceAdd, Nat.reduceLeDiff, Nat.le_refl, adz, hnd_0, rcv_0, rcv_1, kLen_a, kLen_r, inB_e, inR_e, cpOK_e, swt_n, swt_c, List.take_succ_cons, List.take_zero, List.drop_succ_cons, List.drop_zero, List.reverse_cons, List.reverse_nil, List.nil_append, List.cons_append, List.length_cons, List.length_nil, Option.toList_some, Option.toList_none, det_e, det_x, tr_imp, fa_imp, implies_true, not_true, not_false_eq_true, and_true, true_and, nar_i, upd_s, st1_0, st1_1, st1_2, st1_3, st1_4, st1_5, st1_6, st1_7, st1_8, st1_9, st1_10, st1_11, st1_12, st1_13, st1_14, st1_15, st1_16, st1_17, st1_18, st1_19, st1_20, st1_21, st1_22, st1_23, st1_24, st1_25, st1_26, st1_27, st1_28, st1_29, st1_30, st1_31, st1_32, st1_33, st1_34, st1_35, st1_36, st1_37, st1_42, st1_43, st1_44, st1_46, st1_47, st1_48, st1_49, st1_50, st1_51, st1_52, st1_53, st1_54, st1_55, st1_56, st1_57, st1_58, st1_59, st1_60, up_q, up_q0, up_q1, up_s, sI_sI, Nat.reduceEqDiff, reduceIte, Nat.succ_ne_zero, forall_const, false_imp_iff, Nat.add_assoc, gK_nx, gP_nx, gK_rn, gP_rn, gK_ro, gP_ro, gK_sI, gP_sI, pu_e, f1, f2, f3, f4, f5, k1, k2, k3, k4, k5, sV, k0, p0, hT, hT.1, hU.1.p, hI, hI.nx, u1, u2, u3, u4, s0, s4, e4, c0, q0, q1, q2, q3, q4, c1, c2, c3, c4, c5, en, cl, h, h9, hin, hM]
    · have f1 : pu (rpM (nxM M (r + 1)) r (nI n)) (r + 5) n = rc1 M r n := by
        unfold rc1
        rw [en, if_neg h0]
      simp only [rX7_readCanal_0, kX7_readCanal_0, rX7_readCanal_18, kX7_readCanal_18, rX7_readCanal_38, kX7_readCanal_38, rX7_readCanal_43, kX7_readCanal_43, eX7_readCanal, S48, S54, S55, S56, S74, bk_c, if_true, if_false, wi_e, wl_e, wr_e, w1_i, w1_r, ldS_0, ldS_s, vi_e, vl_e, vr_e, dpL_u, dpL_i, dpL_r, dpL_l, stS_0, stS_1, stS_s, stL_0, stL_1, stL_s, bin_0, bin_1, bin_2, bin_3, bin_4, bin_5, bdv_0, bdv_1, lbin_0, lbin_1, lbin_2, cnd_0, cnd_1, cnd_2, cnd_3, cnd_4, cnd_5, aty_0, aty_1, aty_2, aty_3, aty_4, aty_5, c8_u, cn_0, cn_i, cn_r, cn_l, Nat.reduceAdd, Nat.reduceLeDiff, Nat.le_refl, adz, hnd_0, rcv_0, rcv_1, kLen_a, kLen_r, inB_e, inR_e, cpOK_e, swt_n, swt_c, List.take_succ_cons, List.take_zero, List.drop_succ_cons, List.drop_zero, List.reverse_cons, List.reverse_nil, List.nil_append, List.cons_append, List.length_cons, List.length_nil, Option.toList_some, Option.toList_none, det_e, det_x, tr_imp, fa_imp, implies_true, not_true, not_false_eq_true, and_true, true_and, nar_i, upd_s, st1_0, st1_1, st1_2, st1_3, st1_4, st1_5, st1_6, st1_7, st1_8, st1_9, st1_10, st1_11, st1_12, st1_13, st1_14, st1_15, st1_16, st1_17, st1_18, st1_19, st1_20, st1_21, st1_22, st1_23, st1_24, st1_25, st1_26, st1_27, st1_28, st1_29, st1_30, st1_31, st1_32, st1_33, st1_34, st1_35, st1_36, st1_37, st1_42, st1_43, st1_44, st1_46, st1_47, st1_48, st1_49, st1_50, st1_51, st1_52, st1_53, st1_54, st1_55, st1_56, st1_57, st1_58, st1_59, st1_60, up_q, up_q0, up_q1, up_s, sI_sI, Nat.reduceEqDiff, reduceIte, Nat.succ_ne_zero, forall_const, false_imp_iff, Nat.add_assoc, gK_nx, gP_nx, gK_rn, gP_rn, gK_ro, gP_ro, gK_rp, gP_rp, gK_sI, gP_sI, pu_e, f1, f2, f3, f4, f5, k1, k2, k3, k4, k5, sV, k0, p0, hT, hT.1, hU.1.p, hI, hI.nx, u1, u2, u3, u4, s0, s4, e4, c0, q0, q1, q2, q3, q4, c1, c2, c3, c4, c5, en, cl, h, h0, hin, hM]
  · simp only [rX7_readCanal_0, kX7_readCanal_0, rX7_readCanal_18, kX7_readCanal_18, rX7_readCanal_38, kX7_readCanal_38, rX7_readCanal_43, kX7_readCanal_43, eX7_readCanal, S48, S54, S55, S56, S74, bk_c, if_true, if_false, wi_e, wl_e, wr_e, w1_i, w1_r, ldS_0, ldS_s, vi_e, vl_e, vr_e, dpL_u, dpL_i, dpL_r, dpL_l, stS_0, stS_1, stS_s, stL_0, stL_1, stL_s, bin_0, bin_1, bin_2, bin_3, bin_4, bin_5, bdv_0, bdv_1, lbin_0, lbin_1, lbin_2, cnd_0, cnd_1, cnd_2, cnd_3, cnd_4, cnd_5, aty_0, aty_1, aty_2, aty_3, aty_4, aty_5, c8_u, cn_0, cn_i, cn_r, cn_l, Nat.reduceAdd, Nat.reduceLeDiff, Nat.le_refl, adz, hnd_0, rcv_0, rcv_1, kLen_a, kLen_r, inB_e, inR_e, cpOK_e, swt_n, swt_c, List.take_succ_cons, List.take_zero, List.drop_succ_cons, List.drop_zero, List.reverse_cons, List.reverse_nil, List.nil_append, List.cons_append, List.length_cons, List.length_nil, Option.toList_some, Option.toList_none, det_e, det_x, tr_imp, fa_imp, implies_true, not_true, not_false_eq_true, and_true, true_and, nar_i, upd_s, st1_0, st1_1, st1_2, st1_3, st1_4, st1_5, st1_6, st1_7, st1_8, st1_9, st1_10, st1_11, st1_12, st1_13, st1_14, st1_15, st1_16, st1_17, st1_18, st1_19, st1_20, st1_21, st1_22, st1_23, st1_24, st1_25, st1_26, st1_27, st1_28, st1_29, st1_30, st1_31, st1_32, st1_33, st1_34, st1_35, st1_36, st1_37, st1_42, st1_43, st1_44, st1_46, st1_47, st1_48, st1_49, st1_50, st1_51, st1_52, st1_53, st1_54, st1_55, st1_56, st1_57, st1_58, st1_59, st1_60, up_q, up_q0, up_q1, up_s, sI_sI, Nat.reduceEqDiff, reduceIte, Nat.succ_ne_zero, forall_const, false_imp_iff, Nat.add_assoc, sV, k0, p0, hI, c0, en, h]
    unfold rcM
    rw [en, if_neg h]
def S52 (T : Nat → Nat) : Sem := fun as M => match as with
  | [.ref r, .ref q] => sV (UI M r ∧ STR T M ∧ q = r + 13) none (rfM M r)
  | _ => sF
theorem ne45 (r : Nat) : r + 4 ≠ r := by omega
theorem ne1a (r k : Nat) (h : 2 ≤ k) : r + k ≠ r + 1 := by omega
def eX7_readField : Nat → Sem := fun id => if id = 48 then S48 else if id = 54 then S54 else if id = 55 then S55 else S74
set_option maxRecDepth 100000 in
set_option maxHeartbeats 4000000 in
theorem s_X7_readField {l : Launch} {G : Gt} (hfl : l.stackTraces = false) : SatM l G 52 (S52 (gT G)) := by
  refine t_X7_readField (E := eX7_readField) hfl (s_X7_fail hfl) (s_X7_readNumber hfl) (s_X7_readOptional hfl) (s_X9_next hfl) fun as M hp => ?_
  unfold S52 at hp ⊢
  split at hp
  case h_2 => exact hp.elim
  rename_i r q
  obtain ⟨⟨⟨k0, ⟨p0, p1⟩, hT, hS⟩, hU⟩, hs, hq⟩ := hp
  refine ⟨Nat.le_of_ble_eq_true rfl, ?_⟩
  show Run (gT G) _ _ _ _ _ _ _ 0 [.val (.ref r), .val (.ref q), .unset] [] M 0 0
  have hI : UI M r := ⟨⟨k0, ⟨p0, p1⟩, hT, hS⟩, hU⟩
  subst hq
  obtain ⟨n, hn, en⟩ := hU.2.2.1
  have cl : (nI n).toNatClampNeg = n := nI_clamp (by omega)
  obtain ⟨c0, ⟨q0, q1, q2, q3, q4, q5, q6, q7, q8, q9, q10⟩, c1, c2, c3, c4, c5, c6, c7, c8, c9, c10, c11⟩ : Lf M (r + 13) := hS.2.2.2.1
  have d0 := hS.1
  have d1 := hS.2.1.1
  have d2 := hS.2.2.1.1
  simp only [Nat.add_assoc, Nat.reduceAdd] at c0 q0 q1 q2 q3 q4 q5 q6 q7 q8 q9 q10 c1 c2 c3 c4 c5 c6 c7 c8 c9 c10 c11 d0 d1 d2
  have g0 : gI (nxM M (r + 1)) (r + 4) = gI M (r + 4) := gI_nx _ (ne43 r)
  have f1 : pu (rnM (nxM M (r + 1)) r 0 (gI M (r + 4) 8 - 1)) (r + 14) n = rf1 M r n := rfl
  have f2 : pu (rnM (rf1 M r n) r 0 5) (r + 15) n = rf2 M r n := rfl
  have f3 : pu (rnM (rf2 M r n) r 1 999) (r + 16) n = rf3 M r n := rfl
  have f4 : pu (rnM (rf3 M r n) r 0 9999) (r + 17) n = rf4 M r n := rfl
  have f5 : pu (rnM (rf4 M r n) r 1 9999) (r + 18) n = rf5 M r n := rfl
  have f6 : pu (rnM (rf5 M r n) r 0 99) (r + 19) n = rf6 M r n := rfl
  have f7 : pu (roM (rf6 M r n) r 4 (nI n - 1) (-1)) (r + 20) n = rf7 M r n := by unfold rf7; rw [en]
  have k1 : gK (rf1 M r n) = gK M ∧ gP (rf1 M r n) = gP M := ⟨(kp_rf1 M r n).1, (kp_rf1 M r n).2.1⟩
  have k2 : gK (rf2 M r n) = gK M ∧ gP (rf2 M r n) = gP M := ⟨(kp_rf2 M r n).1, (kp_rf2 M r n).2.1⟩
  have k3 : gK (rf3 M r n) = gK M ∧ gP (rf3 M r n) = gP M := ⟨(kp_rf3 M r n).1, (kp_rf3 M r n).2.1⟩
  have k4 : gK (rf4 M r n) = gK M ∧ gP (rf4 M r n) = gP M := ⟨(kp_rf4 M r n).1, (kp_rf4 M r n).2.1⟩
  have k5 : gK (rf5 M r n) = gK M ∧ gP (rf5 M r n) = gP M := ⟨(kp_rf5 M r n).1, (kp_rf5 M r n).2.1⟩
  have k6 : gK (rf6 M r n) = gK M ∧ gP (rf6 M r n) = gP M := ⟨(kp_rf6 M r n).1, (kp_rf6 M r n).2.1⟩
  have k7 : gK (rf7 M r n) = gK M ∧ gP (rf7 M r n) = gP M := ⟨(kp_rf7 M r n).1, (kp_rf7 M r n).2.1⟩
  have u1 := ui_rf1 hI n
  have u2 := ui_rf2 hI n
  have u3 := ui_rf3 hI n
  have u4 := ui_rf4 hI n
  have u5 := ui_rf5 hI n
  have u6 := ui_rf6 hI n
  have s4 : ∃ i, i < 10 ∧ gK M (gT G 4) = kS i := hs.w (by decide)
  have e4 : kSi (gK M (gT G 4)) = 4 := by rw [hs 4 (by decide)]; rfl
  by_cases h : nI n < 12
  · have hin : vp_in (nI n) 12 = True := eq_true (vp_in_nI ((nI_ltI (by omega) (by decide)).mp (show nI n < nI 12 from h)) (by decide))
    have hM : sI (rf7 M r n) (r + 13) (upd (gI (rf7 M r n) (r + 13)) 11 (gI (rf7 M r n) (r + 13) 11 + 1)) = rfM M r := by
      unfold rfM
      rw [en, if_pos h, cl]
    simp only [rX7_readField_0, kX7_readField_0, rX7_readField_18, kX7_readField_18, eX7_readField, S48, S54, S55, S74, bk_c, if_true, if_false, wi_e, wl_e, wr_e, w1_i, w1_r, ldS_0, ldS_s, vi_e, vl_e, vr_e, dpL_u, dpL_i, dpL_r, dpL_l, stS_0, stS_1, stS_s, stL_0, stL_1, stL_s, bin_0, bin_1, bin_2, bin_3, bin_4, bin_5, bdv_0, bdv_1, lbin_0, lbin_1, lbin_2, cnd_0, cnd_1, cnd_2, cnd_3, cnd_4, cnd_5, aty_0, aty_1, aty_2, aty_3, aty_4, aty_5, c8_u, cn_0, cn_i, cn_r, cn_l, Nat.reduceAdd, Nat.reduceLeDiff, Nat.le_refl, adz, hnd_0, rcv_0, rcv_1, kLen_a, kLen_r, inB_e, inR_e, cpOK_e, swt_n, swt_c, List.take_succ_cons, List.take_zero, List.drop_succ_cons, List.drop_zero, List.reverse_cons, List.reverse_nil, List.nil_append, List.cons_append, List.length_cons, List.length_nil, Option.toList_some, Option.toList_none, det_e, det_x, tr_imp, fa_imp, implies_true, not_true, not_false_eq_true, and_true, true_and, nar_i, upd_s, st1_0, st1_1, st1_2, st1_3, st1_4, st1_5, st1_6, st1_7, st1_8, st1_9, st1_10, st1_11, st1_12, st1_13, st1_14, st1_15, st1_16, st1_17, st1_18, st1_19, st1_20, st1_21, st1_22, st1_23, st1_24, st1_25, st1_26, st1_27, st1_28, st1_29, st1_30, st1_31, st1_32, st1_33, st1_34, st1_35, st1_36, st1_37, st1_42, st1_43, st1_44, st1_46, st1_47, st1_48, st1_49, st1_50, st1_51, st1_52, st1_53, st1_54, st1_55, st1_56, st1_57, st1_58, st1_59, st1_60, up_q, up_q0, up_q1, up_s, sI_sI, Nat.reduceEqDiff, reduceIte, Nat.succ_ne_zero, forall_const, false_imp_iff, Nat.add_assoc, gK_nx, gP_nx, gK_rn, gP_rn, gK_ro, gP_ro, gK_sI, gP_sI, pu_e, g0, f1, f2, f3, f4, f5, f6, f7, k1, k2, k3, k4, k5, k6, k7, sV, k0, p0, p1, d0, d1, d2, hT, hT.1, hU.1.p, hI, hI.nx, u1, u2, u3, u4, u5, u6, s4, e4, c0, q0, q1, q2, q3, q4, q5, q6, c1, c2, c3, c4, c5, c6, c7, en, cl, h, hin, hM]
  · simp only [rX7_readField_0, kX7_readField_0, rX7_readField_18, kX7_readField_18, eX7_readField, S48, S54, S55, S74, bk_c, if_true, if_false, wi_e, wl_e, wr_e, w1_i, w1_r, ldS_0, ldS_s, vi_e, vl_e, vr_e, dpL_u, dpL_i, dpL_r, dpL_l, stS_0, stS_1, stS_s, stL_0, stL_1, stL_s, bin_0, bin_1, bin_2, bin_3, bin_4, bin_5, bdv_0, bdv_1, lbin_0, lbin_1, lbin_2, cnd_0, cnd_1, cnd_2, cnd_3, cnd_4, cnd_5, aty_0, aty_1, aty_2, aty_3, aty_4, aty_5, c8_u, cn_0, cn_i, cn_r, cn_l, Nat.reduceAdd, Nat.reduceLeDiff, Nat.le_refl, adz, hnd_0, rcv_0, rcv_1, kLen_a, kLen_r, inB_e, inR_e, cpOK_e, swt_n, swt_c, List.take_succ_cons, List.take_zero, List.drop_succ_cons, List.drop_zero, List.reverse_cons, List.reverse_nil, List.nil_append, List.cons_append, List.length_cons, List.length_nil, Option.toList_some, Option.toList_none, det_e, det_x, tr_imp, fa_imp, implies_true, not_true, not_false_eq_true, and_true, true_and, nar_i, upd_s, st1_0, st1_1, st1_2, st1_3, st1_4, st1_5, st1_6, st1_7, st1_8, st1_9, st1_10, st1_11, st1_12, st1_13, st1_14, st1_15, st1_16, st1_17, st1_18, st1_19, st1_20, st1_21, st1_22, st1_23, st1_24, st1_25, st1_26, st1_27, st1_28, st1_29, st1_30, st1_31, st1_32, st1_33, st1_34, st1_35, st1_36, st1_37, st1_42, st1_43, st1_44, st1_46, st1_47, st1_48, st1_49, st1_50, st1_51, st1_52, st1_53, st1_54, st1_55, st1_56, st1_57, st1_58, st1_59, st1_60, up_q, up_q0, up_q1, up_s, sI_sI, Nat.reduceEqDiff, reduceIte, Nat.succ_ne_zero, forall_const, false_imp_iff, Nat.add_assoc, sV, k0, p0, hI, c0, en, h]
    unfold rfM
    rw [en, if_neg h]
