/-! ===== the constructors of Formula, State, History ===== -/
def fmI (N : Mm) (c : Nat) : Mm := sI (sI N (c + 1) (upd (gI N (c + 1)) 0 100)) c (upd (gI N c) 2 1)
def S30 : Sem := fun as M => match as with
  | [.ref c] => (FO M c 2, fun v N => v = none ∧ ∃ N2, ST M N2 c 3 ∧ Lm N2 c ∧ N = fmI N2 c, fun _ _ => False)
  | _ => sF
set_option maxRecDepth 100000 in
set_option maxHeartbeats 4000000 in
theorem s_X2_init {l : Launch} {G : Gt} (hfl : l.stackTraces = false) : SatM l G 30 S30 := by
  refine t_X2_init (E := fun _ => S0) hfl  fun as M hp => ?_
  unfold S30 at hp ⊢
  split at hp
  case h_2 => exact hp.elim
  rename_i c
  obtain ⟨hz, k0, i0, j0⟩ := hp
  refine ⟨Nat.le_of_ble_eq_true rfl, ?_⟩
  show Run (gT G) _ _ _ _ _ _ _ 0 [.val (.ref c)] [] M 0 0
  have h0 : CI M M c 2 [] := CI.z ⟨hz, k0, i0, j0⟩
  have h1 := h0.s (kA .int 900)
  have h2 := h1.s (kA .long 11)
  have fw : ∀ N k i, sP (nO N k) c (upN (gP (nO N k) c) i (gZ N)) = nw N k c i := fun N k i => rfl
  have z0 : (gZ M = 0) = False := eq_false (by rw [hz]; exact Nat.succ_ne_zero _)
  have zw : ∀ N k i, (gZ (nw N k c i) = 0) = False := fun N k i => eq_false (Nat.succ_ne_zero _)
  have t900 : (900 : Int32).toNatClampNeg = 900 := rfl
  have n900 : ((900 : Int32) < 0) = False := eq_false (by decide)
  have t11 : (11 : Int32).toNatClampNeg = 11 := rfl
  have n11 : ((11 : Int32) < 0) = False := eq_false (by decide)
  have kc : ∀ N k, gK N c = kO 2 → c < gZ N → gK (nO N k) c = kO 2 := fun N k h h2 => by rw [gK_nO, up_f _ _ (Nat.ne_of_lt h2)]; exact h
  have c0 := kc _ (kA .int 900) h0.2.1 (by rw [h0.1.1]; exact Nat.lt_add_of_pos_right (Nat.succ_pos _))
  have c1 := kc _ (kA .long 11) h1.2.1 (by rw [h1.1.1]; exact Nat.lt_add_of_pos_right (Nat.succ_pos _))
  simp only [List.length_nil, List.length_singleton, List.nil_append, List.cons_append, List.length_cons, Nat.reduceAdd, Nat.zero_add] at h1 h2 c0 c1
  have e0 : gK (nw (nw M (kA .int 900) c 0) (kA .long 11) c 1) c = kO 2 := h2.2.1
  have e1 : gP (nw (nw M (kA .int 900) c 0) (kA .long 11) c 1) c 0 = c + 1 := (h2.2.2 0 (by decide)).1
  have e2 : gK (nw (nw M (kA .int 900) c 0) (kA .long 11) c 1) (c + 1) = kA .int 900 := (h2.2.2 0 (by decide)).2
  have v0 : vp_in 0 900 := vp_in_nI (n := 0) (by decide) (by decide)
  simp only [rX2_init_0, kX2_init_0, bk_c, if_true, if_false, wi_e, wl_e, wr_e, w1_i, w1_r, ldS_0, ldS_s, vi_e, vl_e, vr_e, dpL_u, dpL_i, dpL_r, dpL_l, stS_0, stS_1, stS_s, stL_0, stL_1, stL_s, bin_0, bin_1, bin_2, bin_3, bin_4, bin_5, bdv_0, bdv_1, lbin_0, lbin_1, lbin_2, cnd_0, cnd_1, cnd_2, cnd_3, cnd_4, cnd_5, aty_0, aty_1, aty_2, aty_3, aty_4, aty_5, c8_u, cn_0, cn_i, cn_r, cn_l, Nat.reduceAdd, Nat.reduceLeDiff, Nat.le_refl, adz, hnd_0, rcv_0, rcv_1, kLen_a, kLen_r, inB_e, inR_e, cpOK_e, swt_n, swt_c, List.take_succ_cons, List.take_zero, List.drop_succ_cons, List.drop_zero, List.reverse_cons, List.reverse_nil, List.nil_append, List.cons_append, List.length_cons, List.length_nil, Option.toList_some, Option.toList_none, det_e, det_x, tr_imp, fa_imp, implies_true, not_true, not_false_eq_true, and_true, true_and, nar_i, upd_s, st1_0, st1_1, st1_2, st1_3, st1_4, st1_5, st1_6, st1_7, st1_8, st1_9, st1_10, st1_11, st1_12, st1_13, st1_14, st1_15, st1_16, st1_17, st1_18, st1_19, st1_20, st1_21, st1_22, st1_23, st1_24, st1_25, st1_26, st1_27, st1_28, st1_29, st1_30, st1_31, st1_32, st1_33, st1_34, st1_35, st1_36, st1_37, st1_42, st1_43, st1_44, st1_46, st1_47, st1_48, st1_49, st1_50, st1_51, st1_52, st1_53, st1_54, st1_55, st1_56, st1_57, st1_58, st1_59, st1_60, ne_eq, gK_sI, gP_sI, fw, z0, zw, c0, c1, t900, n900, t11, n11, e0, e1, e2, v0, cl0, Nat.reduceMul, Nat.zero_add, Nat.reduceAdd, Nat.reduceLeDiff, Nat.succ_ne_zero]
  refine ⟨_, h2.1, ⟨h2.2.1, ⟨(h2.2.2 0 (by decide)).1, (h2.2.2 1 (by decide)).1⟩, (h2.2.2 0 (by decide)).2, (h2.2.2 1 (by decide)).2⟩, ?_⟩
  unfold fmI
  rw [gI_f _ _ (ne01 c)]
theorem det_r {a : Option Value} {R : Mm → Prop} {P : Option Value → Mm → Prop} : (∀ (v : Option Value) (M' : Mm), v = a ∧ R M' → P v M') = ∀ M', R M' → P a M' :=
  propext ⟨fun h M' hr => h a M' ⟨rfl, hr⟩, fun h v M' hr => by rw [hr.1]; exact h M' hr.2⟩
/-- a State made at b -/
def NS (M N : Mm) (b : Nat) : Prop := gZ N = b + 32 ∧ (∀ q, q < b → gK N q = gK M q ∧ gI N q = gI M q ∧ gJ N q = gJ M q ∧ gP N q = gP M q) ∧ Ls N b ∧ (∀ k, k < 32 → gJ N (b + k) = z64) ∧ (∀ k, k < 32 → k ≠ 27 → k ≠ 28 → gI N (b + k) = z32) ∧ gI N (b + 27) = upd z32 2 1 ∧ gI N (b + 28) = upd z32 0 100
def AG (A B : Mm) (b z : Nat) : Prop := ∀ q, q < z → gK B q = gK A q ∧ gI B q = gI A q ∧ gJ B q = gJ A q ∧ (q ≠ b → gP B q = gP A q)
theorem AG.t {A B C : Mm} {b z w : Nat} (h : AG A B b z) (g : AG B C b w) (hz : z ≤ w) : AG A C b z := fun q hq =>
  ⟨(g q (by omega)).1.trans (h q hq).1, (g q (by omega)).2.1.trans (h q hq).2.1, (g q (by omega)).2.2.1.trans (h q hq).2.2.1, fun e => ((g q (by omega)).2.2.2 e).trans ((h q hq).2.2.2 e)⟩
theorem AG.m {A B : Mm} {b z w : Nat} (h : AG A B b z) (hw : w ≤ z) : AG A B b w := fun q hq => h q (by omega)
/-- one component made and put into slot i of b -/
def OK1 (N N1 : Mm) (b z m i : Nat) : Prop := gZ N1 = z + m ∧ AG N N1 b z ∧ gP N1 b = va_up (gP N b) i z ∧ ∀ q, z ≤ q → q < z + m → gI N1 q = z32 ∧ gJ N1 q = z64
theorem ok1 {N N' : Mm} {k : Kd} {b z m i : Nat} (hz : gZ N = z) (hb : b < z) (h : ST (nO N k) N' z m) : OK1 N (sP N' b (upN (gP N' b) i z)) b z m i := by
  obtain ⟨h1, h2, h3⟩ := h
  refine ⟨h1, fun q hq => ⟨?_, ?_, ?_, fun e => ?_⟩, ?_, fun q a c => h3 q a c⟩
  · rw [gK_sP, (h2 q hq).1, gK_nO, up_f _ _ (show q ≠ gZ N by omega)]
  · rw [gI_sP, (h2 q hq).2.1, gI_nO, up_f _ _ (show q ≠ gZ N by omega)]
  · rw [gJ_sP, (h2 q hq).2.2.1, gJ_nO, up_f _ _ (show q ≠ gZ N by omega)]
  · rw [gP_sP, up_f _ _ e, (h2 q hq).2.2.2, gP_nO, up_f _ _ (show q ≠ gZ N by omega)]
  · rw [gP_sP, up_s, (h2 b hb).2.2.2, gP_nO, up_f _ _ (show b ≠ gZ N by omega)]
    rfl
theorem FO.n (N : Mm) (ci : Nat) {z : Nat} (hz : gZ N = z) : FO (nO N (kO ci)) z ci := by
  subst hz
  exact ⟨rfl, by rw [gK_nO, up_s], by rw [gI_nO, up_s]; rfl, by rw [gJ_nO, up_s]; rfl⟩
theorem Lc.ag {A B : Mm} {b z c : Nat} (h : AG A B b z) (hb : b < c) (hc : c + 9 ≤ z) (g : Lc A c) : Lc B c := by
  unfold Lc at g ⊢
  have e : ∀ k, k < 9 → gK B (c + k) = gK A (c + k) := fun k hk => (h _ (by omega)).1
  have e0 : gK B c = gK A c := e 0 (by decide)
  have p0 : gP B c = gP A c := (h c (by omega)).2.2.2 (by omega)
  rw [e0, p0, e 1 (by decide), e 2 (by decide), e 3 (by decide), e 4 (by decide), e 5 (by decide), e 6 (by decide), e 7 (by decide), e 8 (by decide)]
  exact g
theorem Lf.ag {A B : Mm} {b z c : Nat} (h : AG A B b z) (hb : b < c) (hc : c + 12 ≤ z) (g : Lf A c) : Lf B c := by
  unfold Lf at g ⊢
  have e : ∀ k, k < 12 → gK B (c + k) = gK A (c + k) := fun k hk => (h _ (by omega)).1
  have e0 : gK B c = gK A c := e 0 (by decide)
  have p0 : gP B c = gP A c := (h c (by omega)).2.2.2 (by omega)
  rw [e0, p0, e 1 (by decide), e 2 (by decide), e 3 (by decide), e 4 (by decide), e 5 (by decide), e 6 (by decide), e 7 (by decide), e 8 (by decide), e 9 (by decide), e 10 (by decide), e 11 (by decide)]
  exact g
theorem Lr.ag {A B : Mm} {b z c : Nat} (h : AG A B b z) (hb : b < c) (hc : c + 3 ≤ z) (g : Lr A c) : Lr B c := by
  unfold Lr at g ⊢
  rw [(h c (by omega)).1, (h c (by omega)).2.2.2 (by omega), (h (c + 1) (by omega)).1, (h (c + 2) (by omega)).1]
  exact g
theorem Lm.ag {A B : Mm} {b z c : Nat} (h : AG A B b z) (hb : b < c) (hc : c + 3 ≤ z) (g : Lm A c) : Lm B c := by
  unfold Lm at g ⊢
  rw [(h c (by omega)).1, (h c (by omega)).2.2.2 (by omega), (h (c + 1) (by omega)).1, (h (c + 2) (by omega)).1]
  exact g
theorem Lg.ag {A B : Mm} {b z c : Nat} (h : AG A B b z) (hb : b < c) (hc : c + 2 ≤ z) (g : Lg A c) : Lg B c := by
  unfold Lg at g ⊢
  rw [(h c (by omega)).1, (h c (by omega)).2.2.2 (by omega), (h (c + 1) (by omega)).1]
  exact g
theorem Lq.ag {A B : Mm} {b z c : Nat} (h : AG A B b z) (hb : b < c) (hc : c + 2 ≤ z) (g : Lq A c) : Lq B c := by
  unfold Lq at g ⊢
  rw [(h c (by omega)).1, (h c (by omega)).2.2.2 (by omega), (h (c + 1) (by omega)).1]
  exact g
theorem ag_sP (N : Mm) (b w : Nat) (f : Nat → Nat) : AG N (sP N b f) b w := fun q _ => ⟨rfl, rfl, rfl, fun e => by rw [gP_sP, up_f _ _ e]⟩
theorem ag_fm (Y : Mm) (b c : Nat) : AG Y (fmI Y c) b c := fun q hq => by
  unfold fmI
  exact ⟨rfl, by rw [gI_f _ _ (by omega), gI_f _ _ (by omega)], rfl, fun _ => rfl⟩
theorem ns_fin {M N1 N2 N3 N4 Y N6 : Mm} {b : Nat} (hF : FO M b 8) (o1 : OK1 M N1 b (b + 1) 9 0) (o2 : OK1 N1 N2 b (b + 10) 12 1) (o3 : OK1 N2 N3 b (b + 22) 3 2) (o4 : OK1 N3 N4 b (b + 25) 2 3) (o5 : OK1 N4 Y b (b + 27) 3 4) (o6 : OK1 (fmI Y (b + 27)) N6 b (b + 30) 2 5)
    (l1 : Lc N1 (b + 1)) (l2 : Lf N2 (b + 10)) (l3 : Lr N3 (b + 22)) (l4 : Lg N4 (b + 25)) (l5 : Lm Y (b + 27)) (l6 : Lq N6 (b + 30)) : NS M N6 b := by
  have gY : AG Y N6 b (b + 27) := (ag_fm Y b (b + 27)).t o6.2.1 (by omega)
  have g4 : AG N4 N6 b (b + 27) := o5.2.1.t gY (by omega)
  have g3 : AG N3 N6 b (b + 25) := o4.2.1.t g4 (by omega)
  have g2 : AG N2 N6 b (b + 22) := o3.2.1.t g3 (by omega)
  have g1 : AG N1 N6 b (b + 10) := o2.2.1.t g2 (by omega)
  have g0 : AG M N6 b (b + 1) := o1.2.1.t g1 (by omega)
  have eP : gP N6 b = va_up (va_up (va_up (va_up (va_up (va_up (gP M b) 0 (b + 1)) 1 (b + 10)) 2 (b + 22)) 3 (b + 25)) 4 (b + 27)) 5 (b + 30) := by
    rw [o6.2.2.1, show gP (fmI Y (b + 27)) b = gP Y b from rfl, o5.2.2.1, o4.2.2.1, o3.2.2.1, o2.2.2.1, o1.2.2.1]
  have f27 : gI (fmI Y (b + 27)) (b + 27) = upd z32 2 1 := by
    unfold fmI
    rw [gI_s, (o5.2.2.2 (b + 27) (by omega) (by omega)).1]
  have f28 : gI (fmI Y (b + 27)) (b + 28) = upd z32 0 100 := by
    unfold fmI
    rw [gI_f _ _ (by omega), gI_s, (o5.2.2.2 (b + 27 + 1) (by omega) (by omega)).1]
  have f29 : gI (fmI Y (b + 27)) (b + 29) = z32 := by
    unfold fmI
    rw [gI_f _ _ (by omega), gI_f _ _ (by omega)]
    exact (o5.2.2.2 (b + 29) (by omega) (by omega)).1
  refine ⟨o6.1, fun q hq => ⟨(g0 q (by omega)).1, (g0 q (by omega)).2.1, (g0 q (by omega)).2.2.1, (g0 q (by omega)).2.2.2 (by omega)⟩, ⟨(g0 b (by omega)).1.trans hF.2.1, ?_, l1.ag g1 (by omega) (by omega), l2.ag g2 (by omega) (by omega), l3.ag g3 (by omega) (by omega), l4.ag g4 (by omega) (by omega), ?_, l6⟩, fun k hk => ?_, fun k hk h27 h28 => ?_, ?_, ?_⟩
  · rw [eP]
    exact ⟨rfl, rfl, rfl, rfl, rfl, rfl⟩
  · exact Lm.ag (A := fmI Y (b + 27)) o6.2.1 (by omega) (by omega) l5
  · by_cases c0 : k = 0
    · subst c0
      exact (g0 b (by omega)).2.2.1.trans hF.2.2.2
    · by_cases c1 : k < 10
      · exact (g1 (b + k) (by omega)).2.2.1.trans (o1.2.2.2 (b + k) (by omega) (by omega)).2
      · by_cases c2 : k < 22
        · exact (g2 (b + k) (by omega)).2.2.1.trans (o2.2.2.2 (b + k) (by omega) (by omega)).2
        · by_cases c3 : k < 25
          · exact (g3 (b + k) (by omega)).2.2.1.trans (o3.2.2.2 (b + k) (by omega) (by omega)).2
          · by_cases c4 : k < 27
            · exact (g4 (b + k) (by omega)).2.2.1.trans (o4.2.2.2 (b + k) (by omega) (by omega)).2
            · by_cases c5 : k < 30
              · exact (o6.2.1 (b + k) (by omega)).2.2.1.trans (o5.2.2.2 (b + k) (by omega) (by omega)).2
              · exact (o6.2.2.2 (b + k) (by omega) (by omega)).2
  · by_cases c0 : k = 0
    · subst c0
      exact (g0 b (by omega)).2.1.trans hF.2.2.1
    · by_cases c1 : k < 10
      · exact (g1 (b + k) (by omega)).2.1.trans (o1.2.2.2 (b + k) (by omega) (by omega)).1
      · by_cases c2 : k < 22
        · exact (g2 (b + k) (by omega)).2.1.trans (o2.2.2.2 (b + k) (by omega) (by omega)).1
        · by_cases c3 : k < 25
          · exact (g3 (b + k) (by omega)).2.1.trans (o3.2.2.2 (b + k) (by omega) (by omega)).1
          · by_cases c4 : k < 27
            · exact (g4 (b + k) (by omega)).2.1.trans (o4.2.2.2 (b + k) (by omega) (by omega)).1
            · by_cases c5 : k < 30
              · have : k = 29 := by omega
                subst this
                exact (o6.2.1 (b + 29) (by omega)).2.1.trans f29
              · exact (o6.2.2.2 (b + k) (by omega) (by omega)).1
  · exact (o6.2.1 (b + 27) (by omega)).2.1.trans f27
  · exact (o6.2.1 (b + 28) (by omega)).2.1.trans f28
def S68 : Sem := fun as M => match as with
  | [.ref b] => (FO M b 8, fun v N => v = none ∧ NS M N b, fun _ _ => False)
  | _ => sF
def eX8_init : Nat → Sem := fun id => if id = 4 then S4 else if id = 18 then S18 else if id = 30 then S30 else if id = 34 then S34 else if id = 42 then S42 else S45
set_option maxRecDepth 100000 in
set_option maxHeartbeats 4000000 in
theorem s_X8_init {l : Launch} {G : Gt} (hfl : l.stackTraces = false) : SatM l G 68 S68 := by
  refine t_X8_init (E := eX8_init) hfl (s_X0_init hfl) (s_X1_init hfl) (s_X2_init hfl) (s_X3_init hfl) (s_X5_init hfl) (s_X6_init hfl) fun as M hp => ?_
  unfold S68 at hp ⊢
  split at hp
  case h_2 => exact hp.elim
  rename_i b
  obtain ⟨hz, k0, i0, j0⟩ := hp
  refine ⟨Nat.le_of_ble_eq_true rfl, ?_⟩
  show Run (gT G) _ _ _ _ _ _ _ 0 [.val (.ref b)] [] M 0 0
  simp only [rX8_init_0, kX8_init_0, eX8_init, S4, S18, S30, S34, S42, S45, bk_c, if_true, if_false, wi_e, wl_e, wr_e, w1_i, w1_r, ldS_0, ldS_s, vi_e, vl_e, vr_e, dpL_u, dpL_i, dpL_r, dpL_l, stS_0, stS_1, stS_s, stL_0, stL_1, stL_s, bin_0, bin_1, bin_2, bin_3, bin_4, bin_5, bdv_0, bdv_1, lbin_0, lbin_1, lbin_2, cnd_0, cnd_1, cnd_2, cnd_3, cnd_4, cnd_5, aty_0, aty_1, aty_2, aty_3, aty_4, aty_5, c8_u, cn_0, cn_i, cn_r, cn_l, Nat.reduceAdd, Nat.reduceLeDiff, Nat.le_refl, adz, hnd_0, rcv_0, rcv_1, kLen_a, kLen_r, inB_e, inR_e, cpOK_e, swt_n, swt_c, List.take_succ_cons, List.take_zero, List.drop_succ_cons, List.drop_zero, List.reverse_cons, List.reverse_nil, List.nil_append, List.cons_append, List.length_cons, List.length_nil, Option.toList_some, Option.toList_none, det_e, det_x, tr_imp, fa_imp, implies_true, not_true, not_false_eq_true, and_true, true_and, nar_i, upd_s, st1_0, st1_1, st1_2, st1_3, st1_4, st1_5, st1_6, st1_7, st1_8, st1_9, st1_10, st1_11, st1_12, st1_13, st1_14, st1_15, st1_16, st1_17, st1_18, st1_19, st1_20, st1_21, st1_22, st1_23, st1_24, st1_25, st1_26, st1_27, st1_28, st1_29, st1_30, st1_31, st1_32, st1_33, st1_34, st1_35, st1_36, st1_37, st1_42, st1_43, st1_44, st1_46, st1_47, st1_48, st1_49, st1_50, st1_51, st1_52, st1_53, st1_54, st1_55, st1_56, st1_57, st1_58, st1_59, st1_60, Nat.reduceEqDiff, reduceIte, det_r]
  have hz1 : gZ M = b + 1 := hz
  rw [hz1]
  refine ⟨FO.n M 0 hz1, fun A1 h1 => ?_⟩
  have o1 := ok1 (i := 0) hz1 (Nat.lt_add_of_pos_right (by decide)) h1.1
  have l1 : Lc (sP A1 b (upN (gP A1 b) 0 (b + 1))) (b + 1) := h1.2.ag (ag_sP A1 b (b + 10) _) (Nat.lt_add_of_pos_right (by decide)) (Nat.le_refl _)
  refine ⟨((o1.2.1 b (Nat.lt_add_of_pos_right (by decide))).1).trans k0, Nat.succ_ne_zero _, ?_⟩
  generalize hN1 : sP A1 b (upN (gP A1 b) 0 (b + 1)) = N1 at o1 l1 ⊢
  have z1 : gZ N1 = b + 10 := o1.1
  have kb1 : gK N1 b = kO 8 := ((o1.2.1 b (Nat.lt_add_of_pos_right (by decide))).1).trans k0
  rw [z1]
  refine ⟨FO.n N1 1 z1, fun A2 h2 => ?_⟩
  have o2 := ok1 (i := 1) z1 (Nat.lt_add_of_pos_right (by decide)) h2.1
  have l2 : Lf (sP A2 b (upN (gP A2 b) 1 (b + 10))) (b + 10) := h2.2.ag (ag_sP A2 b (b + 22) _) (Nat.lt_add_of_pos_right (by decide)) (Nat.le_refl _)
  refine ⟨((o2.2.1 b (Nat.lt_add_of_pos_right (by decide))).1).trans kb1, Nat.succ_ne_zero _, ?_⟩
  generalize hN2 : sP A2 b (upN (gP A2 b) 1 (b + 10)) = N2 at o2 l2 ⊢
  have z2 : gZ N2 = b + 22 := o2.1
  have kb2 : gK N2 b = kO 8 := ((o2.2.1 b (Nat.lt_add_of_pos_right (by decide))).1).trans kb1
  rw [z2]
  refine ⟨FO.n N2 6 z2, fun A3 h3 => ?_⟩
  have o3 := ok1 (i := 2) z2 (Nat.lt_add_of_pos_right (by decide)) h3.1
  have l3 : Lr (sP A3 b (upN (gP A3 b) 2 (b + 22))) (b + 22) := h3.2.ag (ag_sP A3 b (b + 25) _) (Nat.lt_add_of_pos_right (by decide)) (Nat.le_refl _)
  refine ⟨((o3.2.1 b (Nat.lt_add_of_pos_right (by decide))).1).trans kb2, Nat.succ_ne_zero _, ?_⟩
  generalize hN3 : sP A3 b (upN (gP A3 b) 2 (b + 22)) = N3 at o3 l3 ⊢
  have z3 : gZ N3 = b + 25 := o3.1
  have kb3 : gK N3 b = kO 8 := ((o3.2.1 b (Nat.lt_add_of_pos_right (by decide))).1).trans kb2
  rw [z3]
  refine ⟨FO.n N3 3 z3, fun A4 h4 => ?_⟩
  have o4 := ok1 (i := 3) z3 (Nat.lt_add_of_pos_right (by decide)) h4.1
  have l4 : Lg (sP A4 b (upN (gP A4 b) 3 (b + 25))) (b + 25) := h4.2.ag (ag_sP A4 b (b + 27) _) (Nat.lt_add_of_pos_right (by decide)) (Nat.le_refl _)
  refine ⟨((o4.2.1 b (Nat.lt_add_of_pos_right (by decide))).1).trans kb3, Nat.succ_ne_zero _, ?_⟩
  generalize hN4 : sP A4 b (upN (gP A4 b) 3 (b + 25)) = N4 at o4 l4 ⊢
  have z4 : gZ N4 = b + 27 := o4.1
  have kb4 : gK N4 b = kO 8 := ((o4.2.1 b (Nat.lt_add_of_pos_right (by decide))).1).trans kb3
  rw [z4]
  refine ⟨FO.n N4 2 z4, fun A5 h5 => ?_⟩
  obtain ⟨X, hX, lX, e5⟩ := h5
  have o5 := ok1 (i := 4) z4 (Nat.lt_add_of_pos_right (by decide)) hX
  have l5 : Lm (sP X b (upN (gP X b) 4 (b + 27))) (b + 27) := lX.ag (ag_sP X b (b + 30) _) (Nat.lt_add_of_pos_right (by decide)) (Nat.le_refl _)
  have e5' : sP A5 b (upN (gP A5 b) 4 (b + 27)) = fmI (sP X b (upN (gP X b) 4 (b + 27))) (b + 27) := by rw [e5]; rfl
  have kb5 : gK A5 b = kO 8 := by rw [e5]; exact ((o5.2.1 b (Nat.lt_add_of_pos_right (by decide))).1).trans kb4
  refine ⟨kb5, Nat.succ_ne_zero _, ?_⟩
  rw [e5']
  generalize hY : sP X b (upN (gP X b) 4 (b + 27)) = Y at o5 l5 ⊢
  have z5 : gZ (fmI Y (b + 27)) = b + 30 := o5.1
  rw [z5]
  refine ⟨FO.n _ 5 z5, fun A6 h6 => ?_⟩
  have o6 := ok1 (i := 5) z5 (Nat.lt_add_of_pos_right (by decide)) h6.1
  have l6 : Lq (sP A6 b (upN (gP A6 b) 5 (b + 30))) (b + 30) := h6.2.ag (ag_sP A6 b (b + 32) _) (Nat.lt_add_of_pos_right (by decide)) (Nat.le_refl _)
  have kbY : gK (fmI Y (b + 27)) b = kO 8 := ((o5.2.1 b (Nat.lt_add_of_pos_right (by decide))).1).trans kb4
  refine ⟨((o6.2.1 b (Nat.lt_add_of_pos_right (by decide))).1).trans kbY, Nat.succ_ne_zero _, ?_⟩
  exact ns_fin ⟨hz, k0, i0, j0⟩ o1 o2 o3 o4 o5 o6 l1 l2 l3 l4 l5 l6
