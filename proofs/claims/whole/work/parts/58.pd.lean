/-! ===== IrrigationTurnsModel: terms and sums ===== -/
def GZ (M : Mm) (m : Nat) : Prop := ∃ L p k, L ≤ 900 ∧ p ≤ L ∧ 2 * k ≤ 3 * p ∧ gI M m 3 = nI L ∧ gI M m 4 = nI p ∧ gI M (m + 3) 7 = nI k
theorem GZ.z {a b m : Nat} {M N : Mm} (h : GZ M m) (g : RZ a b N M m) (hb : b ≤ a) : GZ N m := by
  obtain ⟨L, p, k, h1, h2, h3, h4, h5, h6⟩ := h
  obtain ⟨p', k', a1, a2, a3, a4, a5, a6⟩ := g.2.2.2.2 L p k h1 h2 h4 h5 h6
  exact ⟨L, p', k', h1, a2, by omega, (g.2.2.2.1 3 (by decide) (by decide) (by decide) (by decide)).trans h4, a4, a5⟩
theorem GZ.c {a b m : Nat} {M N : Mm} (h : GZ M m) (g : RZ a b N M m) (hb : b ≤ 90) : cnt (gI N (m + 3) 7) 1399 ∧ PJ N m := by
  obtain ⟨L, p, k, h1, h2, h3, h4, h5, h6⟩ := h
  obtain ⟨p', k', a1, a2, a3, a4, a5, a6⟩ := g.2.2.2.2 L p k h1 h2 h4 h5 h6
  exact ⟨⟨k', by omega, a5⟩, L, p', h1, a2, (g.2.2.2.1 3 (by decide) (by decide) (by decide) (by decide)).trans h4, a4⟩
theorem skq_n {Y : Nat → Int32} {L : Nat} : ∀ r p, p + r = L → ¬ bA Y L (skq Y L r p) = 32
  | 0, p, h => by
    unfold skq
    rw [bA_o (by omega)]
    decide
  | r + 1, p, h => by
    unfold skq
    split
    · exact skq_n r (p + 1) (by omega)
    · assumption
theorem skq_e {Y : Nat → Int32} {L p : Nat} (h : ¬ bA Y L p = 32) : ∀ r, skq Y L r p = p
  | 0 => rfl
  | r + 1 => by unfold skq; rw [if_neg h]
theorem nx_2 {M : Mm} {m : Nat} (h : PJ M m) : nxp (nxN M m) m = nxp M m ∧ nxc (nxN M m) m = nxc M m ∧ nxN (nxN M m) m = nxN M m := by
  obtain ⟨L, p, h1, h2, h3, h4⟩ := h
  have hb := nxp_b h1 h2 h3 h4
  have e3 : gI (nxN M m) m 3 = nI L := by unfold nxN; rw [ps_n _ _ _ (by decide)]; exact h3
  have e4 : gI (nxN M m) m 4 = nI (nxp M m) := ps_4 _ _ _
  have hb2 := nxp_b h1 hb.2.1 e3 e4
  have e1 : gI (nxN M m) (m + 1) = gI M (m + 1) := ps_1 _ _ _
  have hn : ¬ bA (gI M (m + 1)) L (nxp M m) = 32 := by
    have e : nxp M m = skq (gI M (m + 1)) L (L - p) p := by
      show skq (gI M (m + 1)) (mTL M m) (mTL M m - mPo M m) (mPo M m) = _
      rw [hb.2.2.1, hb.2.2.2]
    rw [e]
    exact skq_n (L - p) p (by omega)
  have r1 : nxp (nxN M m) m = nxp M m := by
    show skq (gI (nxN M m) (m + 1)) (mTL (nxN M m) m) (mTL (nxN M m) m - mPo (nxN M m) m) (mPo (nxN M m) m) = _
    rw [hb2.2.2.1, hb2.2.2.2, e1]
    exact skq_e hn _
  refine ⟨r1, ?_, ?_⟩
  · unfold nxc
    rw [r1, e1, hb2.2.2.1, hb.2.2.1]
  · show psM (nxN M m) m (nxp (nxN M m) m) = _
    rw [r1]
    exact ps_ps M m _ _
def nstP (k : Nat) (M : Mm) (m : Nat) : Prop := gI M m 14 = nI (5 - k) ∧ (k = 0 → ¬ gI M m 5 = 0)
def S128 (T : Nat → Nat) (k : Nat) : Sem := fun as M => match as with
  | [.ref m] => sV (LM M m ∧ GZ M m ∧ STR T M ∧ nstP k M m) none (facK m k M)
  | _ => sF
def S177 (T : Nat → Nat) (k : Nat) : Sem := fun as M => match as with
  | [.ref m] => sV (LM M m ∧ GZ M m ∧ STR T M ∧ nstP k M m) none (teZ m (facK m k) M)
  | _ => sF
def S171 (T : Nat → Nat) (k : Nat) : Sem := fun as M => match as with
  | [.ref m] => sV (LM M m ∧ GZ M m ∧ STR T M ∧ nstP k M m) none (smZ m (facK m k) M)
  | _ => sF
theorem LM.rz {a b m : Nat} {M N : Mm} (g : LM M m) (h : RZ a b N M m) : LM N m := g.kp h.1.1 h.1.2.1
set_option maxRecDepth 100000 in
set_option maxHeartbeats 4000000 in
theorem g_mterm {G : Gt} {E : Nat → Sem} {d k : Nat} (ef : E (128 + 1000 * d) = S128 (gT G) k) (e123 : E 123 = S123) (e146 : E 146 = S146) (e151 : E 151 = S151) (as : List Value) (M : Mm) (hp : (S177 (gT G) k as M).1) : (lg_sl as).length ≤ 2 ∧ Run (gT G) E 0 0 (fun _ _ => none) (S177 (gT G) k as M).2.1 (S177 (gT G) k as M).2.2 (kX11_term d) 0 (ent as 2) [] M 0 0 := by
  unfold S177 at hp ⊢
  split at hp
  case h_2 => exact hp.elim
  rename_i m
  obtain ⟨hL, hG, hs, hN⟩ := hp
  refine ⟨Nat.le_of_ble_eq_true rfl, ?_⟩
  show Run (gT G) _ _ _ _ _ _ _ 0 [.val (.ref m), .unset] [] M 0 0
  have hg : gdz m (facK m k) := gdz_fa m k
  have hK : gdz m (facK m k) := hg
  have key : ∀ r (N : Mm) (u : Slot), RZ 0 1 N M m → (∃ L p, PJ N m ∧ gI N m 3 = nI L ∧ L ≤ 900 ∧ gI N m 4 = nI p ∧ p ≤ L ∧ L ≤ p + r) → (k = 0 → ¬ gI N m 5 = 0) → Run (gT G) E 0 0 (fun _ _ => none) (fun v' M' => v' = none ∧ M' = opZ m 42 47 4 5 (facK m k) r N) (fun _ _ => False) (kX11_term d) 4 [.val (.ref m), u] [] N 0 0 := by
    intro r
    induction r with
    | zero =>
      intro N u hN2 hb h0
      obtain ⟨L, p, hJ, eL, hL9, ep, hpL, hLp⟩ := hb
      have hLN := hL.rz hN2
      by_cases he : gI N m 5 = 0
      · have he1 : (gI N m 5 = 0) = True := eq_true he
        have n2 := nx_2 hJ
        have hbb := nxp_b hL9 hpL eL ep
        have hc : nxc N m = -1 := by
          unfold nxc
          rw [hbb.2.2.1]
          exact bA_o (by omega)
        have i1 : ((-1 : Int32) = 42) = False := eq_false (by decide)
        have i2 : ((-1 : Int32) = 47) = False := eq_false (by decide)
        unfold opZ
        rw [if_pos he]
        rw [rX11_term_4]
        simp only [kX11_term_4, rX11_term_0, kX11_term_0, rX11_term_29, kX11_term_29, rX11_term_42, kX11_term_42, rX11_term_43, kX11_term_43, rX11_term_67, kX11_term_67, rX11_term_68, kX11_term_68, rX11_term_74, kX11_term_74, bk_c, if_true, if_false, wi_e, wl_e, wr_e, w1_i, w1_r, ldS_0, ldS_s, vi_e, vl_e, vr_e, dpL_u, dpL_i, dpL_r, dpL_l, stS_0, stS_1, stS_s, stL_0, stL_1, stL_s, bin_0, bin_1, bin_2, bin_3, bin_4, bin_5, bdv_0, bdv_1, lbin_0, lbin_1, lbin_2, cnd_0, cnd_1, cnd_2, cnd_3, cnd_4, cnd_5, aty_0, aty_1, aty_2, aty_3, aty_4, aty_5, c8_u, cn_0, cn_i, cn_r, cn_l, Nat.reduceAdd, Nat.reduceLeDiff, Nat.le_refl, adz, hnd_0, rcv_0, rcv_1, kLen_a, kLen_r, inB_e, inR_e, cpOK_e, swt_n, swt_c, List.take_succ_cons, List.take_zero, List.drop_succ_cons, List.drop_zero, List.reverse_cons, List.reverse_nil, List.nil_append, List.cons_append, List.length_cons, List.length_nil, Option.toList_some, Option.toList_none, det_e, det_x, tr_imp, fa_imp, implies_true, not_true, not_false_eq_true, and_true, true_and, nar_i, upd_s, st1_0, st1_1, st1_2, st1_3, st1_4, st1_5, st1_6, st1_7, st1_8, st1_9, st1_10, st1_11, st1_12, st1_13, st1_14, st1_15, st1_16, st1_17, st1_18, st1_19, st1_20, st1_21, st1_22, st1_23, st1_24, st1_25, st1_26, st1_27, st1_28, st1_29, st1_30, st1_31, st1_32, st1_33, st1_34, st1_35, st1_36, st1_37, st1_42, st1_43, st1_44, st1_46, st1_47, st1_48, st1_49, st1_50, st1_51, st1_52, st1_53, st1_54, st1_55, st1_56, st1_57, st1_58, st1_59, st1_60, Nat.reduceEqDiff, reduceIte, e123, e146, e151, S123, S146, S151, sV, hLN.f, hLN, hLN.nx, hJ, hJ.nx, b9_0, he1, n2, hc, i1, i2, nx_e]
      · have he1 : (gI N m 5 = 0) = False := eq_false he
        unfold opZ
        rw [if_neg he]
        rw [rX11_term_4]
        simp only [kX11_term_4, rX11_term_0, kX11_term_0, rX11_term_29, kX11_term_29, rX11_term_42, kX11_term_42, rX11_term_43, kX11_term_43, rX11_term_67, kX11_term_67, rX11_term_68, kX11_term_68, rX11_term_74, kX11_term_74, bk_c, if_true, if_false, wi_e, wl_e, wr_e, w1_i, w1_r, ldS_0, ldS_s, vi_e, vl_e, vr_e, dpL_u, dpL_i, dpL_r, dpL_l, stS_0, stS_1, stS_s, stL_0, stL_1, stL_s, bin_0, bin_1, bin_2, bin_3, bin_4, bin_5, bdv_0, bdv_1, lbin_0, lbin_1, lbin_2, cnd_0, cnd_1, cnd_2, cnd_3, cnd_4, cnd_5, aty_0, aty_1, aty_2, aty_3, aty_4, aty_5, c8_u, cn_0, cn_i, cn_r, cn_l, Nat.reduceAdd, Nat.reduceLeDiff, Nat.le_refl, adz, hnd_0, rcv_0, rcv_1, kLen_a, kLen_r, inB_e, inR_e, cpOK_e, swt_n, swt_c, List.take_succ_cons, List.take_zero, List.drop_succ_cons, List.drop_zero, List.reverse_cons, List.reverse_nil, List.nil_append, List.cons_append, List.length_cons, List.length_nil, Option.toList_some, Option.toList_none, det_e, det_x, tr_imp, fa_imp, implies_true, not_true, not_false_eq_true, and_true, true_and, nar_i, upd_s, st1_0, st1_1, st1_2, st1_3, st1_4, st1_5, st1_6, st1_7, st1_8, st1_9, st1_10, st1_11, st1_12, st1_13, st1_14, st1_15, st1_16, st1_17, st1_18, st1_19, st1_20, st1_21, st1_22, st1_23, st1_24, st1_25, st1_26, st1_27, st1_28, st1_29, st1_30, st1_31, st1_32, st1_33, st1_34, st1_35, st1_36, st1_37, st1_42, st1_43, st1_44, st1_46, st1_47, st1_48, st1_49, st1_50, st1_51, st1_52, st1_53, st1_54, st1_55, st1_56, st1_57, st1_58, st1_59, st1_60, Nat.reduceEqDiff, reduceIte, e123, e146, e151, S123, S146, S151, sV, hLN.f, hLN, b9_0, he1]
    | succ r ih =>
      intro N u hN2 hb h0
      obtain ⟨L, p, hJ, eL, hL9, ep, hpL, hLp⟩ := hb
      have hLN := hL.rz hN2
      by_cases he : gI N m 5 = 0
      · have he1 : (gI N m 5 = 0) = True := eq_true he
        have k0 : ¬ k = 0 := fun e => h0 e he
        have n2 := nx_2 hJ
        have hbb := nxp_b hL9 hpL eL ep
        have f1 : sI (nxN N m) m (upd (gI (nxN N m) m) 4 (nI (nxp N m + 1))) = psM N m (nxp N m + 1) := ps_ps N m _ _
        have stop : ¬ nxc N m = 42 → ¬ nxc N m = 47 → opZ m 42 47 4 5 (facK m k) (r + 1) N = nxN N m := fun h1 h2 => by
          unfold opZ
          rw [if_neg (fun q => q.2.elim h1 h2), if_pos he]
        have go : ∀ x : Int32, (if nxc N m = 42 then 4 else 5) = x → (nxc N m = 42 ∨ nxc N m = 47) → opZ m 42 47 4 5 (facK m k) (r + 1) N = opZ m 42 47 4 5 (facK m k) r (emN ((facK m k) (psM N m (nxp N m + 1))) m x) ∧ (∀ u, Run (gT G) E 0 0 (fun _ _ => none) (fun v' M' => v' = none ∧ M' = opZ m 42 47 4 5 (facK m k) r (emN ((facK m k) (psM N m (nxp N m + 1))) m x)) (fun _ _ => False) (kX11_term d) 4 [.val (.ref m), u] [] (emN ((facK m k) (psM N m (nxp N m + 1))) m x) 0 0) := by
          intro x hx hor
          have hn : ¬ nxc N m = -1 := by
            rcases hor with e | e <;> rw [e] <;> decide
          refine ⟨?_, fun u => ?_⟩
          · show (if gI N m 5 = 0 ∧ (nxc N m = 42 ∨ nxc N m = 47) then _ else _) = _
            rw [if_pos ⟨he, hor⟩, hx]
          · have z1 := (rz_em ((facK m k) (psM N m (nxp N m + 1))) m x).t ((hg (psM N m (nxp N m + 1))).t (rz_c hn))
            have z2 : RZ 0 1 (emN ((facK m k) (psM N m (nxp N m + 1))) m x) M m := (z1.t hN2).w (by omega)
            have hlt : nxp N m < L := by
              have h := hn
              unfold nxc at h
              rw [hbb.2.2.1] at h
              exact bA_lt h
            have zz := (rz_em ((facK m k) (psM N m (nxp N m + 1))) m x).t (hg (psM N m (nxp N m + 1)))
            obtain ⟨L0, p0, k0', g1, g2, g3, g4, g5, g6⟩ := id hG
            obtain ⟨pN, kN, n1, n2, n3, n4, n5, n6⟩ := hN2.2.2.2.2 L0 p0 k0' g1 g2 g4 g5 g6
            have eL0 : gI N m 3 = nI L0 := (hN2.2.2.2.1 3 (by decide) (by decide) (by decide) (by decide)).trans g4
            have hLL : L0 = L := (nI_eq (by omega) (by omega)).mp (eL0.symm.trans eL)
            subst hLL
            obtain ⟨p2, k2, q1, q2, q3, q4, q5, q6⟩ := zz.2.2.2.2 L0 (nxp N m + 1) kN g1 (by omega) (by rw [ps_n _ _ _ (by decide)]; exact eL) (ps_4 _ _ _) (by rw [ps_3]; exact n5)
            have e3 : gI (emN ((facK m k) (psM N m (nxp N m + 1))) m x) m 3 = nI L0 := (z2.2.2.2.1 3 (by decide) (by decide) (by decide) (by decide)).trans g4
            exact ih _ u z2 ⟨L0, p2, ⟨L0, p2, g1, q2, e3, q4⟩, e3, g1, q4, q2, by omega⟩ (fun e => absurd e k0)
        have pre : ∀ hn : ¬ nxc N m = -1, (LM (psM N m (nxp N m + 1)) m ∧ GZ (psM N m (nxp N m + 1)) m ∧ STR (gT G) (psM N m (nxp N m + 1)) ∧ nstP k (psM N m (nxp N m + 1)) m) ∧ LM ((facK m k) (psM N m (nxp N m + 1))) m ∧ (gI ((facK m k) (psM N m (nxp N m + 1))) m 5 = 0 → cnt (gI ((facK m k) (psM N m (nxp N m + 1))) (m + 3) 7) 1399) ∧ gK ((facK m k) (psM N m (nxp N m + 1))) m = kO 11 := by
          intro hn
          have z1 := (rz_c hn).t hN2
          have z2 := (hg (psM N m (nxp N m + 1))).t z1
          have hl := hL.rz z1
          exact ⟨⟨hl, hG.z z1 (by omega), hs.kp z1.1, by rw [z1.2.2.2.1 14 (by decide) (by decide) (by decide) (by decide)]; exact hN.1, fun e => absurd e k0⟩, hL.rz z2, fun _ => (hG.c z2 (by omega)).1, (hL.rz z2).1⟩
        have a1 : ¬ (42 : Int32) = -1 := by decide
        have b1 : ¬ (47 : Int32) = -1 := by decide
        have ba : ((47 : Int32) = 42) = False := eq_false (by decide)
        rw [rX11_term_4]
        by_cases hA : nxc N m = 42
        · obtain ⟨o1, o2⟩ := go 4 (if_pos hA) (Or.inl hA)
          obtain ⟨p1, p2, p3, p4⟩ := pre (by rw [hA]; exact a1)
          rw [o1]
          simp only [kX11_term_4, rX11_term_0, kX11_term_0, rX11_term_29, kX11_term_29, rX11_term_42, kX11_term_42, rX11_term_43, kX11_term_43, rX11_term_67, kX11_term_67, rX11_term_68, kX11_term_68, rX11_term_74, kX11_term_74, bk_c, if_true, if_false, wi_e, wl_e, wr_e, w1_i, w1_r, ldS_0, ldS_s, vi_e, vl_e, vr_e, dpL_u, dpL_i, dpL_r, dpL_l, stS_0, stS_1, stS_s, stL_0, stL_1, stL_s, bin_0, bin_1, bin_2, bin_3, bin_4, bin_5, bdv_0, bdv_1, lbin_0, lbin_1, lbin_2, cnd_0, cnd_1, cnd_2, cnd_3, cnd_4, cnd_5, aty_0, aty_1, aty_2, aty_3, aty_4, aty_5, c8_u, cn_0, cn_i, cn_r, cn_l, Nat.reduceAdd, Nat.reduceLeDiff, Nat.le_refl, adz, hnd_0, rcv_0, rcv_1, kLen_a, kLen_r, inB_e, inR_e, cpOK_e, swt_n, swt_c, List.take_succ_cons, List.take_zero, List.drop_succ_cons, List.drop_zero, List.reverse_cons, List.reverse_nil, List.nil_append, List.cons_append, List.length_cons, List.length_nil, Option.toList_some, Option.toList_none, det_e, det_x, tr_imp, fa_imp, implies_true, not_true, not_false_eq_true, and_true, true_and, nar_i, upd_s, st1_0, st1_1, st1_2, st1_3, st1_4, st1_5, st1_6, st1_7, st1_8, st1_9, st1_10, st1_11, st1_12, st1_13, st1_14, st1_15, st1_16, st1_17, st1_18, st1_19, st1_20, st1_21, st1_22, st1_23, st1_24, st1_25, st1_26, st1_27, st1_28, st1_29, st1_30, st1_31, st1_32, st1_33, st1_34, st1_35, st1_36, st1_37, st1_42, st1_43, st1_44, st1_46, st1_47, st1_48, st1_49, st1_50, st1_51, st1_52, st1_53, st1_54, st1_55, st1_56, st1_57, st1_58, st1_59, st1_60, Nat.reduceEqDiff, reduceIte, ef, e123, e146, e151, S123, S146, S151, S128, sV, hLN.f, hLN, hLN.nx, hJ, hJ.nx, b9_0, he1, n2, hA, nx_e, nI_1, f1, p1, p2, p4, show ((1 : Int32) = 0) = False from eq_false (by decide)]
          exact ⟨p1.1.1, p3, o2 _⟩
        · by_cases hB : nxc N m = 47
          · obtain ⟨o1, o2⟩ := go 5 (if_neg hA) (Or.inr hB)
            obtain ⟨p1, p2, p3, p4⟩ := pre (by rw [hB]; exact b1)
            rw [o1]
            simp only [kX11_term_4, rX11_term_0, kX11_term_0, rX11_term_29, kX11_term_29, rX11_term_42, kX11_term_42, rX11_term_43, kX11_term_43, rX11_term_67, kX11_term_67, rX11_term_68, kX11_term_68, rX11_term_74, kX11_term_74, bk_c, if_true, if_false, wi_e, wl_e, wr_e, w1_i, w1_r, ldS_0, ldS_s, vi_e, vl_e, vr_e, dpL_u, dpL_i, dpL_r, dpL_l, stS_0, stS_1, stS_s, stL_0, stL_1, stL_s, bin_0, bin_1, bin_2, bin_3, bin_4, bin_5, bdv_0, bdv_1, lbin_0, lbin_1, lbin_2, cnd_0, cnd_1, cnd_2, cnd_3, cnd_4, cnd_5, aty_0, aty_1, aty_2, aty_3, aty_4, aty_5, c8_u, cn_0, cn_i, cn_r, cn_l, Nat.reduceAdd, Nat.reduceLeDiff, Nat.le_refl, adz, hnd_0, rcv_0, rcv_1, kLen_a, kLen_r, inB_e, inR_e, cpOK_e, swt_n, swt_c, List.take_succ_cons, List.take_zero, List.drop_succ_cons, List.drop_zero, List.reverse_cons, List.reverse_nil, List.nil_append, List.cons_append, List.length_cons, List.length_nil, Option.toList_some, Option.toList_none, det_e, det_x, tr_imp, fa_imp, implies_true, not_true, not_false_eq_true, and_true, true_and, nar_i, upd_s, st1_0, st1_1, st1_2, st1_3, st1_4, st1_5, st1_6, st1_7, st1_8, st1_9, st1_10, st1_11, st1_12, st1_13, st1_14, st1_15, st1_16, st1_17, st1_18, st1_19, st1_20, st1_21, st1_22, st1_23, st1_24, st1_25, st1_26, st1_27, st1_28, st1_29, st1_30, st1_31, st1_32, st1_33, st1_34, st1_35, st1_36, st1_37, st1_42, st1_43, st1_44, st1_46, st1_47, st1_48, st1_49, st1_50, st1_51, st1_52, st1_53, st1_54, st1_55, st1_56, st1_57, st1_58, st1_59, st1_60, Nat.reduceEqDiff, reduceIte, ef, e123, e146, e151, S123, S146, S151, S128, sV, hLN.f, hLN, hLN.nx, hJ, hJ.nx, b9_0, he1, n2, hB, ba, nx_e, nI_1, f1, p1, p2, p4, show ((1 : Int32) = 0) = False from eq_false (by decide)]
            exact ⟨p1.1.1, p3, o2 _⟩
          · rw [stop hA hB]
            have hA1 : (nxc N m = 42) = False := eq_false hA
            have hB1 : (nxc N m = 47) = False := eq_false hB
            simp only [kX11_term_4, rX11_term_0, kX11_term_0, rX11_term_29, kX11_term_29, rX11_term_42, kX11_term_42, rX11_term_43, kX11_term_43, rX11_term_67, kX11_term_67, rX11_term_68, kX11_term_68, rX11_term_74, kX11_term_74, bk_c, if_true, if_false, wi_e, wl_e, wr_e, w1_i, w1_r, ldS_0, ldS_s, vi_e, vl_e, vr_e, dpL_u, dpL_i, dpL_r, dpL_l, stS_0, stS_1, stS_s, stL_0, stL_1, stL_s, bin_0, bin_1, bin_2, bin_3, bin_4, bin_5, bdv_0, bdv_1, lbin_0, lbin_1, lbin_2, cnd_0, cnd_1, cnd_2, cnd_3, cnd_4, cnd_5, aty_0, aty_1, aty_2, aty_3, aty_4, aty_5, c8_u, cn_0, cn_i, cn_r, cn_l, Nat.reduceAdd, Nat.reduceLeDiff, Nat.le_refl, adz, hnd_0, rcv_0, rcv_1, kLen_a, kLen_r, inB_e, inR_e, cpOK_e, swt_n, swt_c, List.take_succ_cons, List.take_zero, List.drop_succ_cons, List.drop_zero, List.reverse_cons, List.reverse_nil, List.nil_append, List.cons_append, List.length_cons, List.length_nil, Option.toList_some, Option.toList_none, det_e, det_x, tr_imp, fa_imp, implies_true, not_true, not_false_eq_true, and_true, true_and, nar_i, upd_s, st1_0, st1_1, st1_2, st1_3, st1_4, st1_5, st1_6, st1_7, st1_8, st1_9, st1_10, st1_11, st1_12, st1_13, st1_14, st1_15, st1_16, st1_17, st1_18, st1_19, st1_20, st1_21, st1_22, st1_23, st1_24, st1_25, st1_26, st1_27, st1_28, st1_29, st1_30, st1_31, st1_32, st1_33, st1_34, st1_35, st1_36, st1_37, st1_42, st1_43, st1_44, st1_46, st1_47, st1_48, st1_49, st1_50, st1_51, st1_52, st1_53, st1_54, st1_55, st1_56, st1_57, st1_58, st1_59, st1_60, Nat.reduceEqDiff, reduceIte, e123, e146, e151, S123, S146, S151, sV, hLN.f, hLN, hLN.nx, hJ, hJ.nx, b9_0, he1, n2, hA1, hB1, nx_e]
      · have he1 : (gI N m 5 = 0) = False := eq_false he
        unfold opZ
        rw [if_neg (fun q => he q.1), if_neg he]
        rw [rX11_term_4]
        simp only [kX11_term_4, rX11_term_0, kX11_term_0, rX11_term_29, kX11_term_29, rX11_term_42, kX11_term_42, rX11_term_43, kX11_term_43, rX11_term_67, kX11_term_67, rX11_term_68, kX11_term_68, rX11_term_74, kX11_term_74, bk_c, if_true, if_false, wi_e, wl_e, wr_e, w1_i, w1_r, ldS_0, ldS_s, vi_e, vl_e, vr_e, dpL_u, dpL_i, dpL_r, dpL_l, stS_0, stS_1, stS_s, stL_0, stL_1, stL_s, bin_0, bin_1, bin_2, bin_3, bin_4, bin_5, bdv_0, bdv_1, lbin_0, lbin_1, lbin_2, cnd_0, cnd_1, cnd_2, cnd_3, cnd_4, cnd_5, aty_0, aty_1, aty_2, aty_3, aty_4, aty_5, c8_u, cn_0, cn_i, cn_r, cn_l, Nat.reduceAdd, Nat.reduceLeDiff, Nat.le_refl, adz, hnd_0, rcv_0, rcv_1, kLen_a, kLen_r, inB_e, inR_e, cpOK_e, swt_n, swt_c, List.take_succ_cons, List.take_zero, List.drop_succ_cons, List.drop_zero, List.reverse_cons, List.reverse_nil, List.nil_append, List.cons_append, List.length_cons, List.length_nil, Option.toList_some, Option.toList_none, det_e, det_x, tr_imp, fa_imp, implies_true, not_true, not_false_eq_true, and_true, true_and, nar_i, upd_s, st1_0, st1_1, st1_2, st1_3, st1_4, st1_5, st1_6, st1_7, st1_8, st1_9, st1_10, st1_11, st1_12, st1_13, st1_14, st1_15, st1_16, st1_17, st1_18, st1_19, st1_20, st1_21, st1_22, st1_23, st1_24, st1_25, st1_26, st1_27, st1_28, st1_29, st1_30, st1_31, st1_32, st1_33, st1_34, st1_35, st1_36, st1_37, st1_42, st1_43, st1_44, st1_46, st1_47, st1_48, st1_49, st1_50, st1_51, st1_52, st1_53, st1_54, st1_55, st1_56, st1_57, st1_58, st1_59, st1_60, Nat.reduceEqDiff, reduceIte, e123, e146, e151, S123, S146, S151, sV, hLN.f, hLN, b9_0, he1]
  have z0 := hg M
  obtain ⟨L, p, k', h1, h2, h3, h4, h5, h6⟩ := id hG
  obtain ⟨p1, k1, c1, c2, c3, c4, c5, c6⟩ := z0.2.2.2.2 L p k' h1 h2 h4 h5 h6
  have e3 : gI ((facK m k) M) m 3 = nI L := (z0.2.2.2.1 3 (by decide) (by decide) (by decide) (by decide)).trans h4
  simp only [rX11_term_0, kX11_term_0, rX11_term_29, kX11_term_29, rX11_term_42, kX11_term_42, rX11_term_43, kX11_term_43, rX11_term_67, kX11_term_67, rX11_term_68, kX11_term_68, rX11_term_74, kX11_term_74, bk_c, if_true, if_false, wi_e, wl_e, wr_e, w1_i, w1_r, ldS_0, ldS_s, vi_e, vl_e, vr_e, dpL_u, dpL_i, dpL_r, dpL_l, stS_0, stS_1, stS_s, stL_0, stL_1, stL_s, bin_0, bin_1, bin_2, bin_3, bin_4, bin_5, bdv_0, bdv_1, lbin_0, lbin_1, lbin_2, cnd_0, cnd_1, cnd_2, cnd_3, cnd_4, cnd_5, aty_0, aty_1, aty_2, aty_3, aty_4, aty_5, c8_u, cn_0, cn_i, cn_r, cn_l, Nat.reduceAdd, Nat.reduceLeDiff, Nat.le_refl, adz, hnd_0, rcv_0, rcv_1, kLen_a, kLen_r, inB_e, inR_e, cpOK_e, swt_n, swt_c, List.take_succ_cons, List.take_zero, List.drop_succ_cons, List.drop_zero, List.reverse_cons, List.reverse_nil, List.nil_append, List.cons_append, List.length_cons, List.length_nil, Option.toList_some, Option.toList_none, det_e, det_x, tr_imp, fa_imp, implies_true, not_true, not_false_eq_true, and_true, true_and, nar_i, upd_s, st1_0, st1_1, st1_2, st1_3, st1_4, st1_5, st1_6, st1_7, st1_8, st1_9, st1_10, st1_11, st1_12, st1_13, st1_14, st1_15, st1_16, st1_17, st1_18, st1_19, st1_20, st1_21, st1_22, st1_23, st1_24, st1_25, st1_26, st1_27, st1_28, st1_29, st1_30, st1_31, st1_32, st1_33, st1_34, st1_35, st1_36, st1_37, st1_42, st1_43, st1_44, st1_46, st1_47, st1_48, st1_49, st1_50, st1_51, st1_52, st1_53, st1_54, st1_55, st1_56, st1_57, st1_58, st1_59, st1_60, Nat.reduceEqDiff, reduceIte, ef, S128, sV, hL.f, hL, hG, hs, hN]
  exact key 900 _ .unset z0 ⟨L, p1, ⟨L, p1, h1, c2, e3, c4⟩, e3, h1, c4, c2, by omega⟩ (fun e => by subst e; exact hN.2 rfl)
theorem op_0 {m : Nat} {a b ca cb : Int32} {f : Mm → Mm} {N : Mm} (h : ¬ gI N m 5 = 0) : ∀ r, opZ m a b ca cb f r N = N
  | 0 => if_neg h
  | r + 1 => (if_neg (fun q => h q.1)).trans (if_neg h)
theorem te_0 {m : Nat} {N : Mm} (h : ¬ gI N m 5 = 0) : teZ m (facK m 0) N = N := op_0 h 900
set_option maxRecDepth 100000 in
set_option maxHeartbeats 4000000 in
theorem g_msum {G : Gt} {E : Nat → Sem} {d k : Nat} (ef : E (177 + 1000 * d) = S177 (gT G) k) (e123 : E 123 = S123) (e146 : E 146 = S146) (e151 : E 151 = S151) (as : List Value) (M : Mm) (hp : (S171 (gT G) k as M).1) : (lg_sl as).length ≤ 2 ∧ Run (gT G) E 0 0 (fun _ _ => none) (S171 (gT G) k as M).2.1 (S171 (gT G) k as M).2.2 (kX11_sum d) 0 (ent as 2) [] M 0 0 := by
  unfold S171 at hp ⊢
  split at hp
  case h_2 => exact hp.elim
  rename_i m
  obtain ⟨hL, hG, hs, hN⟩ := hp
  refine ⟨Nat.le_of_ble_eq_true rfl, ?_⟩
  show Run (gT G) _ _ _ _ _ _ _ 0 [.val (.ref m), .unset] [] M 0 0
  have hg : gdz m (teZ m (facK m k)) := gdz_te (gdz_fa m k)
  have hK : gdz m (teZ m (facK m k)) := hg
  have key : ∀ r (N : Mm) (u : Slot), RZ 0 1 N M m → (∃ L p, PJ N m ∧ gI N m 3 = nI L ∧ L ≤ 900 ∧ gI N m 4 = nI p ∧ p ≤ L ∧ L ≤ p + r) → (k = 0 → ¬ gI N m 5 = 0) → Run (gT G) E 0 0 (fun _ _ => none) (fun v' M' => v' = none ∧ M' = opZ m 43 45 2 3 (teZ m (facK m k)) r N) (fun _ _ => False) (kX11_sum d) 4 [.val (.ref m), u] [] N 0 0 := by
    intro r
    induction r with
    | zero =>
      intro N u hN2 hb h0
      obtain ⟨L, p, hJ, eL, hL9, ep, hpL, hLp⟩ := hb
      have hLN := hL.rz hN2
      by_cases he : gI N m 5 = 0
      · have he1 : (gI N m 5 = 0) = True := eq_true he
        have n2 := nx_2 hJ
        have hbb := nxp_b hL9 hpL eL ep
        have hc : nxc N m = -1 := by
          unfold nxc
          rw [hbb.2.2.1]
          exact bA_o (by omega)
        have i1 : ((-1 : Int32) = 43) = False := eq_false (by decide)
        have i2 : ((-1 : Int32) = 45) = False := eq_false (by decide)
        unfold opZ
        rw [if_pos he]
        rw [rX11_sum_4]
        simp only [kX11_sum_4, rX11_sum_0, kX11_sum_0, rX11_sum_29, kX11_sum_29, rX11_sum_42, kX11_sum_42, rX11_sum_43, kX11_sum_43, rX11_sum_67, kX11_sum_67, rX11_sum_68, kX11_sum_68, rX11_sum_74, kX11_sum_74, bk_c, if_true, if_false, wi_e, wl_e, wr_e, w1_i, w1_r, ldS_0, ldS_s, vi_e, vl_e, vr_e, dpL_u, dpL_i, dpL_r, dpL_l, stS_0, stS_1, stS_s, stL_0, stL_1, stL_s, bin_0, bin_1, bin_2, bin_3, bin_4, bin_5, bdv_0, bdv_1, lbin_0, lbin_1, lbin_2, cnd_0, cnd_1, cnd_2, cnd_3, cnd_4, cnd_5, aty_0, aty_1, aty_2, aty_3, aty_4, aty_5, c8_u, cn_0, cn_i, cn_r, cn_l, Nat.reduceAdd, Nat.reduceLeDiff, Nat.le_refl, adz, hnd_0, rcv_0, rcv_1, kLen_a, kLen_r, inB_e, inR_e, cpOK_e, swt_n, swt_c, List.take_succ_cons, List.take_zero, List.drop_succ_cons, List.drop_zero, List.reverse_cons, List.reverse_nil, List.nil_append, List.cons_append, List.length_cons, List.length_nil, Option.toList_some, Option.toList_none, det_e, det_x, tr_imp, fa_imp, implies_true, not_true, not_false_eq_true, and_true, true_and, nar_i, upd_s, st1_0, st1_1, st1_2, st1_3, st1_4, st1_5, st1_6, st1_7, st1_8, st1_9, st1_10, st1_11, st1_12, st1_13, st1_14, st1_15, st1_16, st1_17, st1_18, st1_19, st1_20, st1_21, st1_22, st1_23, st1_24, st1_25, st1_26, st1_27, st1_28, st1_29, st1_30, st1_31, st1_32, st1_33, st1_34, st1_35, st1_36, st1_37, st1_42, st1_43, st1_44, st1_46, st1_47, st1_48, st1_49, st1_50, st1_51, st1_52, st1_53, st1_54, st1_55, st1_56, st1_57, st1_58, st1_59, st1_60, Nat.reduceEqDiff, reduceIte, e123, e146, e151, S123, S146, S151, sV, hLN.f, hLN, hLN.nx, hJ, hJ.nx, b9_0, he1, n2, hc, i1, i2, nx_e]
      · have he1 : (gI N m 5 = 0) = False := eq_false he
        unfold opZ
        rw [if_neg he]
        rw [rX11_sum_4]
        simp only [kX11_sum_4, rX11_sum_0, kX11_sum_0, rX11_sum_29, kX11_sum_29, rX11_sum_42, kX11_sum_42, rX11_sum_43, kX11_sum_43, rX11_sum_67, kX11_sum_67, rX11_sum_68, kX11_sum_68, rX11_sum_74, kX11_sum_74, bk_c, if_true, if_false, wi_e, wl_e, wr_e, w1_i, w1_r, ldS_0, ldS_s, vi_e, vl_e, vr_e, dpL_u, dpL_i, dpL_r, dpL_l, stS_0, stS_1, stS_s, stL_0, stL_1, stL_s, bin_0, bin_1, bin_2, bin_3, bin_4, bin_5, bdv_0, bdv_1, lbin_0, lbin_1, lbin_2, cnd_0, cnd_1, cnd_2, cnd_3, cnd_4, cnd_5, aty_0, aty_1, aty_2, aty_3, aty_4, aty_5, c8_u, cn_0, cn_i, cn_r, cn_l, Nat.reduceAdd, Nat.reduceLeDiff, Nat.le_refl, adz, hnd_0, rcv_0, rcv_1, kLen_a, kLen_r, inB_e, inR_e, cpOK_e, swt_n, swt_c, List.take_succ_cons, List.take_zero, List.drop_succ_cons, List.drop_zero, List.reverse_cons, List.reverse_nil, List.nil_append, List.cons_append, List.length_cons, List.length_nil, Option.toList_some, Option.toList_none, det_e, det_x, tr_imp, fa_imp, implies_true, not_true, not_false_eq_true, and_true, true_and, nar_i, upd_s, st1_0, st1_1, st1_2, st1_3, st1_4, st1_5, st1_6, st1_7, st1_8, st1_9, st1_10, st1_11, st1_12, st1_13, st1_14, st1_15, st1_16, st1_17, st1_18, st1_19, st1_20, st1_21, st1_22, st1_23, st1_24, st1_25, st1_26, st1_27, st1_28, st1_29, st1_30, st1_31, st1_32, st1_33, st1_34, st1_35, st1_36, st1_37, st1_42, st1_43, st1_44, st1_46, st1_47, st1_48, st1_49, st1_50, st1_51, st1_52, st1_53, st1_54, st1_55, st1_56, st1_57, st1_58, st1_59, st1_60, Nat.reduceEqDiff, reduceIte, e123, e146, e151, S123, S146, S151, sV, hLN.f, hLN, b9_0, he1]
    | succ r ih =>
      intro N u hN2 hb h0
      obtain ⟨L, p, hJ, eL, hL9, ep, hpL, hLp⟩ := hb
      have hLN := hL.rz hN2
      by_cases he : gI N m 5 = 0
      · have he1 : (gI N m 5 = 0) = True := eq_true he
        have k0 : ¬ k = 0 := fun e => h0 e he
        have n2 := nx_2 hJ
        have hbb := nxp_b hL9 hpL eL ep
        have f1 : sI (nxN N m) m (upd (gI (nxN N m) m) 4 (nI (nxp N m + 1))) = psM N m (nxp N m + 1) := ps_ps N m _ _
        have stop : ¬ nxc N m = 43 → ¬ nxc N m = 45 → opZ m 43 45 2 3 (teZ m (facK m k)) (r + 1) N = nxN N m := fun h1 h2 => by
          unfold opZ
          rw [if_neg (fun q => q.2.elim h1 h2), if_pos he]
        have go : ∀ x : Int32, (if nxc N m = 43 then 2 else 3) = x → (nxc N m = 43 ∨ nxc N m = 45) → opZ m 43 45 2 3 (teZ m (facK m k)) (r + 1) N = opZ m 43 45 2 3 (teZ m (facK m k)) r (emN ((teZ m (facK m k)) (psM N m (nxp N m + 1))) m x) ∧ (∀ u, Run (gT G) E 0 0 (fun _ _ => none) (fun v' M' => v' = none ∧ M' = opZ m 43 45 2 3 (teZ m (facK m k)) r (emN ((teZ m (facK m k)) (psM N m (nxp N m + 1))) m x)) (fun _ _ => False) (kX11_sum d) 4 [.val (.ref m), u] [] (emN ((teZ m (facK m k)) (psM N m (nxp N m + 1))) m x) 0 0) := by
          intro x hx hor
          have hn : ¬ nxc N m = -1 := by
            rcases hor with e | e <;> rw [e] <;> decide
          refine ⟨?_, fun u => ?_⟩
          · show (if gI N m 5 = 0 ∧ (nxc N m = 43 ∨ nxc N m = 45) then _ else _) = _
            rw [if_pos ⟨he, hor⟩, hx]
          · have z1 := (rz_em ((teZ m (facK m k)) (psM N m (nxp N m + 1))) m x).t ((hg (psM N m (nxp N m + 1))).t (rz_c hn))
            have z2 : RZ 0 1 (emN ((teZ m (facK m k)) (psM N m (nxp N m + 1))) m x) M m := (z1.t hN2).w (by omega)
            have hlt : nxp N m < L := by
              have h := hn
              unfold nxc at h
              rw [hbb.2.2.1] at h
              exact bA_lt h
            have zz := (rz_em ((teZ m (facK m k)) (psM N m (nxp N m + 1))) m x).t (hg (psM N m (nxp N m + 1)))
            obtain ⟨L0, p0, k0', g1, g2, g3, g4, g5, g6⟩ := id hG
            obtain ⟨pN, kN, n1, n2, n3, n4, n5, n6⟩ := hN2.2.2.2.2 L0 p0 k0' g1 g2 g4 g5 g6
            have eL0 : gI N m 3 = nI L0 := (hN2.2.2.2.1 3 (by decide) (by decide) (by decide) (by decide)).trans g4
            have hLL : L0 = L := (nI_eq (by omega) (by omega)).mp (eL0.symm.trans eL)
            subst hLL
            obtain ⟨p2, k2, q1, q2, q3, q4, q5, q6⟩ := zz.2.2.2.2 L0 (nxp N m + 1) kN g1 (by omega) (by rw [ps_n _ _ _ (by decide)]; exact eL) (ps_4 _ _ _) (by rw [ps_3]; exact n5)
            have e3 : gI (emN ((teZ m (facK m k)) (psM N m (nxp N m + 1))) m x) m 3 = nI L0 := (z2.2.2.2.1 3 (by decide) (by decide) (by decide) (by decide)).trans g4
            exact ih _ u z2 ⟨L0, p2, ⟨L0, p2, g1, q2, e3, q4⟩, e3, g1, q4, q2, by omega⟩ (fun e => absurd e k0)
        have pre : ∀ hn : ¬ nxc N m = -1, (LM (psM N m (nxp N m + 1)) m ∧ GZ (psM N m (nxp N m + 1)) m ∧ STR (gT G) (psM N m (nxp N m + 1)) ∧ nstP k (psM N m (nxp N m + 1)) m) ∧ LM ((teZ m (facK m k)) (psM N m (nxp N m + 1))) m ∧ (gI ((teZ m (facK m k)) (psM N m (nxp N m + 1))) m 5 = 0 → cnt (gI ((teZ m (facK m k)) (psM N m (nxp N m + 1))) (m + 3) 7) 1399) ∧ gK ((teZ m (facK m k)) (psM N m (nxp N m + 1))) m = kO 11 := by
          intro hn
          have z1 := (rz_c hn).t hN2
          have z2 := (hg (psM N m (nxp N m + 1))).t z1
          have hl := hL.rz z1
          exact ⟨⟨hl, hG.z z1 (by omega), hs.kp z1.1, by rw [z1.2.2.2.1 14 (by decide) (by decide) (by decide) (by decide)]; exact hN.1, fun e => absurd e k0⟩, hL.rz z2, fun _ => (hG.c z2 (by omega)).1, (hL.rz z2).1⟩
        have a1 : ¬ (43 : Int32) = -1 := by decide
        have b1 : ¬ (45 : Int32) = -1 := by decide
        have ba : ((45 : Int32) = 43) = False := eq_false (by decide)
        rw [rX11_sum_4]
        by_cases hA : nxc N m = 43
        · obtain ⟨o1, o2⟩ := go 2 (if_pos hA) (Or.inl hA)
          obtain ⟨p1, p2, p3, p4⟩ := pre (by rw [hA]; exact a1)
          rw [o1]
          simp only [kX11_sum_4, rX11_sum_0, kX11_sum_0, rX11_sum_29, kX11_sum_29, rX11_sum_42, kX11_sum_42, rX11_sum_43, kX11_sum_43, rX11_sum_67, kX11_sum_67, rX11_sum_68, kX11_sum_68, rX11_sum_74, kX11_sum_74, bk_c, if_true, if_false, wi_e, wl_e, wr_e, w1_i, w1_r, ldS_0, ldS_s, vi_e, vl_e, vr_e, dpL_u, dpL_i, dpL_r, dpL_l, stS_0, stS_1, stS_s, stL_0, stL_1, stL_s, bin_0, bin_1, bin_2, bin_3, bin_4, bin_5, bdv_0, bdv_1, lbin_0, lbin_1, lbin_2, cnd_0, cnd_1, cnd_2, cnd_3, cnd_4, cnd_5, aty_0, aty_1, aty_2, aty_3, aty_4, aty_5, c8_u, cn_0, cn_i, cn_r, cn_l, Nat.reduceAdd, Nat.reduceLeDiff, Nat.le_refl, adz, hnd_0, rcv_0, rcv_1, kLen_a, kLen_r, inB_e, inR_e, cpOK_e, swt_n, swt_c, List.take_succ_cons, List.take_zero, List.drop_succ_cons, List.drop_zero, List.reverse_cons, List.reverse_nil, List.nil_append, List.cons_append, List.length_cons, List.length_nil, Option.toList_some, Option.toList_none, det_e, det_x, tr_imp, fa_imp, implies_true, not_true, not_false_eq_true, and_true, true_and, nar_i, upd_s, st1_0, st1_1, st1_2, st1_3, st1_4, st1_5, st1_6, st1_7, st1_8, st1_9, st1_10, st1_11, st1_12, st1_13, st1_14, st1_15, st1_16, st1_17, st1_18, st1_19, st1_20, st1_21, st1_22, st1_23, st1_24, st1_25, st1_26, st1_27, st1_28, st1_29, st1_30, st1_31, st1_32, st1_33, st1_34, st1_35, st1_36, st1_37, st1_42, st1_43, st1_44, st1_46, st1_47, st1_48, st1_49, st1_50, st1_51, st1_52, st1_53, st1_54, st1_55, st1_56, st1_57, st1_58, st1_59, st1_60, Nat.reduceEqDiff, reduceIte, ef, e123, e146, e151, S123, S146, S151, S177, sV, hLN.f, hLN, hLN.nx, hJ, hJ.nx, b9_0, he1, n2, hA, nx_e, nI_1, f1, p1, p2, p4, show ((1 : Int32) = 0) = False from eq_false (by decide)]
          exact ⟨p1.1.1, p3, o2 _⟩
        · by_cases hB : nxc N m = 45
          · obtain ⟨o1, o2⟩ := go 3 (if_neg hA) (Or.inr hB)
            obtain ⟨p1, p2, p3, p4⟩ := pre (by rw [hB]; exact b1)
            rw [o1]
            simp only [kX11_sum_4, rX11_sum_0, kX11_sum_0, rX11_sum_29, kX11_sum_29, rX11_sum_42, kX11_sum_42, rX11_sum_43, kX11_sum_43, rX11_sum_67, kX11_sum_67, rX11_sum_68, kX11_sum_68, rX11_sum_74, kX11_sum_74, bk_c, if_true, if_false, wi_e, wl_e, wr_e, w1_i, w1_r, ldS_0, ldS_s, vi_e, vl_e, vr_e, dpL_u, dpL_i, dpL_r, dpL_l, stS_0, stS_1, stS_s, stL_0, stL_1, stL_s, bin_0, bin_1, bin_2, bin_3, bin_4, bin_5, bdv_0, bdv_1, lbin_0, lbin_1, lbin_2, cnd_0, cnd_1, cnd_2, cnd_3, cnd_4, cnd_5, aty_0, aty_1, aty_2, aty_3, aty_4, aty_5, c8_u, cn_0, cn_i, cn_r, cn_l, Nat.reduceAdd, Nat.reduceLeDiff, Nat.le_refl, adz, hnd_0, rcv_0, rcv_1, kLen_a, kLen_r, inB_e, inR_e, cpOK_e, swt_n, swt_c, List.take_succ_cons, List.take_zero, List.drop_succ_cons, List.drop_zero, List.reverse_cons, List.reverse_nil, List.nil_append, List.cons_append, List.length_cons, List.length_nil, Option.toList_some, Option.toList_none, det_e, det_x, tr_imp, fa_imp, implies_true, not_true, not_false_eq_true, and_true, true_and, nar_i, upd_s, st1_0, st1_1, st1_2, st1_3, st1_4, st1_5, st1_6, st1_7, st1_8, st1_9, st1_10, st1_11, st1_12, st1_13, st1_14, st1_15, st1_16, st1_17, st1_18, st1_19, st1_20, st1_21, st1_22, st1_23, st1_24, st1_25, st1_26, st1_27, st1_28, st1_29, st1_30, st1_31, st1_32, st1_33, st1_34, st1_35, st1_36, st1_37, st1_42, st1_43, st1_44, st1_46, st1_47, st1_48, st1_49, st1_50, st1_51, st1_52, st1_53, st1_54, st1_55, st1_56, st1_57, st1_58, st1_59, st1_60, Nat.reduceEqDiff, reduceIte, ef, e123, e146, e151, S123, S146, S151, S177, sV, hLN.f, hLN, hLN.nx, hJ, hJ.nx, b9_0, he1, n2, hB, ba, nx_e, nI_1, f1, p1, p2, p4, show ((1 : Int32) = 0) = False from eq_false (by decide)]
            exact ⟨p1.1.1, p3, o2 _⟩
          · rw [stop hA hB]
            have hA1 : (nxc N m = 43) = False := eq_false hA
            have hB1 : (nxc N m = 45) = False := eq_false hB
            simp only [kX11_sum_4, rX11_sum_0, kX11_sum_0, rX11_sum_29, kX11_sum_29, rX11_sum_42, kX11_sum_42, rX11_sum_43, kX11_sum_43, rX11_sum_67, kX11_sum_67, rX11_sum_68, kX11_sum_68, rX11_sum_74, kX11_sum_74, bk_c, if_true, if_false, wi_e, wl_e, wr_e, w1_i, w1_r, ldS_0, ldS_s, vi_e, vl_e, vr_e, dpL_u, dpL_i, dpL_r, dpL_l, stS_0, stS_1, stS_s, stL_0, stL_1, stL_s, bin_0, bin_1, bin_2, bin_3, bin_4, bin_5, bdv_0, bdv_1, lbin_0, lbin_1, lbin_2, cnd_0, cnd_1, cnd_2, cnd_3, cnd_4, cnd_5, aty_0, aty_1, aty_2, aty_3, aty_4, aty_5, c8_u, cn_0, cn_i, cn_r, cn_l, Nat.reduceAdd, Nat.reduceLeDiff, Nat.le_refl, adz, hnd_0, rcv_0, rcv_1, kLen_a, kLen_r, inB_e, inR_e, cpOK_e, swt_n, swt_c, List.take_succ_cons, List.take_zero, List.drop_succ_cons, List.drop_zero, List.reverse_cons, List.reverse_nil, List.nil_append, List.cons_append, List.length_cons, List.length_nil, Option.toList_some, Option.toList_none, det_e, det_x, tr_imp, fa_imp, implies_true, not_true, not_false_eq_true, and_true, true_and, nar_i, upd_s, st1_0, st1_1, st1_2, st1_3, st1_4, st1_5, st1_6, st1_7, st1_8, st1_9, st1_10, st1_11, st1_12, st1_13, st1_14, st1_15, st1_16, st1_17, st1_18, st1_19, st1_20, st1_21, st1_22, st1_23, st1_24, st1_25, st1_26, st1_27, st1_28, st1_29, st1_30, st1_31, st1_32, st1_33, st1_34, st1_35, st1_36, st1_37, st1_42, st1_43, st1_44, st1_46, st1_47, st1_48, st1_49, st1_50, st1_51, st1_52, st1_53, st1_54, st1_55, st1_56, st1_57, st1_58, st1_59, st1_60, Nat.reduceEqDiff, reduceIte, e123, e146, e151, S123, S146, S151, sV, hLN.f, hLN, hLN.nx, hJ, hJ.nx, b9_0, he1, n2, hA1, hB1, nx_e]
      · have he1 : (gI N m 5 = 0) = False := eq_false he
        unfold opZ
        rw [if_neg (fun q => he q.1), if_neg he]
        rw [rX11_sum_4]
        simp only [kX11_sum_4, rX11_sum_0, kX11_sum_0, rX11_sum_29, kX11_sum_29, rX11_sum_42, kX11_sum_42, rX11_sum_43, kX11_sum_43, rX11_sum_67, kX11_sum_67, rX11_sum_68, kX11_sum_68, rX11_sum_74, kX11_sum_74, bk_c, if_true, if_false, wi_e, wl_e, wr_e, w1_i, w1_r, ldS_0, ldS_s, vi_e, vl_e, vr_e, dpL_u, dpL_i, dpL_r, dpL_l, stS_0, stS_1, stS_s, stL_0, stL_1, stL_s, bin_0, bin_1, bin_2, bin_3, bin_4, bin_5, bdv_0, bdv_1, lbin_0, lbin_1, lbin_2, cnd_0, cnd_1, cnd_2, cnd_3, cnd_4, cnd_5, aty_0, aty_1, aty_2, aty_3, aty_4, aty_5, c8_u, cn_0, cn_i, cn_r, cn_l, Nat.reduceAdd, Nat.reduceLeDiff, Nat.le_refl, adz, hnd_0, rcv_0, rcv_1, kLen_a, kLen_r, inB_e, inR_e, cpOK_e, swt_n, swt_c, List.take_succ_cons, List.take_zero, List.drop_succ_cons, List.drop_zero, List.reverse_cons, List.reverse_nil, List.nil_append, List.cons_append, List.length_cons, List.length_nil, Option.toList_some, Option.toList_none, det_e, det_x, tr_imp, fa_imp, implies_true, not_true, not_false_eq_true, and_true, true_and, nar_i, upd_s, st1_0, st1_1, st1_2, st1_3, st1_4, st1_5, st1_6, st1_7, st1_8, st1_9, st1_10, st1_11, st1_12, st1_13, st1_14, st1_15, st1_16, st1_17, st1_18, st1_19, st1_20, st1_21, st1_22, st1_23, st1_24, st1_25, st1_26, st1_27, st1_28, st1_29, st1_30, st1_31, st1_32, st1_33, st1_34, st1_35, st1_36, st1_37, st1_42, st1_43, st1_44, st1_46, st1_47, st1_48, st1_49, st1_50, st1_51, st1_52, st1_53, st1_54, st1_55, st1_56, st1_57, st1_58, st1_59, st1_60, Nat.reduceEqDiff, reduceIte, e123, e146, e151, S123, S146, S151, sV, hLN.f, hLN, b9_0, he1]
  have z0 := hg M
  obtain ⟨L, p, k', h1, h2, h3, h4, h5, h6⟩ := id hG
  obtain ⟨p1, k1, c1, c2, c3, c4, c5, c6⟩ := z0.2.2.2.2 L p k' h1 h2 h4 h5 h6
  have e3 : gI ((teZ m (facK m k)) M) m 3 = nI L := (z0.2.2.2.1 3 (by decide) (by decide) (by decide) (by decide)).trans h4
  simp only [rX11_sum_0, kX11_sum_0, rX11_sum_29, kX11_sum_29, rX11_sum_42, kX11_sum_42, rX11_sum_43, kX11_sum_43, rX11_sum_67, kX11_sum_67, rX11_sum_68, kX11_sum_68, rX11_sum_74, kX11_sum_74, bk_c, if_true, if_false, wi_e, wl_e, wr_e, w1_i, w1_r, ldS_0, ldS_s, vi_e, vl_e, vr_e, dpL_u, dpL_i, dpL_r, dpL_l, stS_0, stS_1, stS_s, stL_0, stL_1, stL_s, bin_0, bin_1, bin_2, bin_3, bin_4, bin_5, bdv_0, bdv_1, lbin_0, lbin_1, lbin_2, cnd_0, cnd_1, cnd_2, cnd_3, cnd_4, cnd_5, aty_0, aty_1, aty_2, aty_3, aty_4, aty_5, c8_u, cn_0, cn_i, cn_r, cn_l, Nat.reduceAdd, Nat.reduceLeDiff, Nat.le_refl, adz, hnd_0, rcv_0, rcv_1, kLen_a, kLen_r, inB_e, inR_e, cpOK_e, swt_n, swt_c, List.take_succ_cons, List.take_zero, List.drop_succ_cons, List.drop_zero, List.reverse_cons, List.reverse_nil, List.nil_append, List.cons_append, List.length_cons, List.length_nil, Option.toList_some, Option.toList_none, det_e, det_x, tr_imp, fa_imp, implies_true, not_true, not_false_eq_true, and_true, true_and, nar_i, upd_s, st1_0, st1_1, st1_2, st1_3, st1_4, st1_5, st1_6, st1_7, st1_8, st1_9, st1_10, st1_11, st1_12, st1_13, st1_14, st1_15, st1_16, st1_17, st1_18, st1_19, st1_20, st1_21, st1_22, st1_23, st1_24, st1_25, st1_26, st1_27, st1_28, st1_29, st1_30, st1_31, st1_32, st1_33, st1_34, st1_35, st1_36, st1_37, st1_42, st1_43, st1_44, st1_46, st1_47, st1_48, st1_49, st1_50, st1_51, st1_52, st1_53, st1_54, st1_55, st1_56, st1_57, st1_58, st1_59, st1_60, Nat.reduceEqDiff, reduceIte, ef, S177, sV, hL.f, hL, hG, hs, hN]
  exact key 900 _ .unset z0 ⟨L, p1, ⟨L, p1, h1, c2, e3, c4⟩, e3, h1, c4, c2, by omega⟩ (fun e => by subst e; rw [te_0 (hN.2 rfl)]; exact hN.2 rfl)
