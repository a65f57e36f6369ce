/-! ===== constructors of x's small classes ===== -/
def z32 : Nat → Int32 := fun _ => 0
def z64 : Nat → Int64 := fun _ => 0
/-- from M on, the n cells at c were made: all their numbers are 0, nothing before c has changed -/
def ST (M N : Mm) (c n : Nat) : Prop := gZ N = c + n ∧ (∀ q, q < c → gK N q = gK M q ∧ gI N q = gI M q ∧ gJ N q = gJ M q ∧ gP N q = gP M q) ∧ ∀ q, c ≤ q → q < c + n → gI N q = z32 ∧ gJ N q = z64
/-- a fresh object -/
def FO (M : Mm) (c ci : Nat) : Prop := gZ M = c + 1 ∧ gK M c = kO ci ∧ gI M c = z32 ∧ gJ M c = z64
theorem ST.z {M : Mm} {c ci : Nat} (h : FO M c ci) : ST M M c 1 := ⟨h.1, fun _ _ => ⟨rfl, rfl, rfl, rfl⟩, fun q h1 h2 => by
  have : q = c := by omega
  subst this
  exact ⟨h.2.2.1, h.2.2.2⟩⟩
theorem ST.s {M N : Mm} {c n : Nat} (h : ST M N c n) (hn : 0 < n) (k : Kd) (f : Nat → Nat) : ST M (sP (nO N k) c f) c (n + 1) := by
  obtain ⟨h1, h2, h3⟩ := h
  refine ⟨?_, fun q hq => ⟨?_, ?_, ?_, ?_⟩, fun q h4 h5 => ⟨?_, ?_⟩⟩
  · rw [gZ_sP, gZ_nO, h1]
    omega
  · rw [gK_sP, gK_nO, up_f _ _ (show q ≠ gZ N by omega)]
    exact (h2 q hq).1
  · rw [gI_sP, gI_nO, up_f _ _ (show q ≠ gZ N by omega)]
    exact (h2 q hq).2.1
  · rw [gJ_sP, gJ_nO, up_f _ _ (show q ≠ gZ N by omega)]
    exact (h2 q hq).2.2.1
  · rw [gP_sP, up_f _ _ (show q ≠ c by omega), gP_nO, up_f _ _ (show q ≠ gZ N by omega)]
    exact (h2 q hq).2.2.2
  · rw [gI_sP, gI_nO]
    by_cases e : q = gZ N
    · rw [e, up_s]
      rfl
    · rw [up_f _ _ e]
      exact (h3 q h4 (by omega)).1
  · rw [gJ_sP, gJ_nO]
    by_cases e : q = gZ N
    · rw [e, up_s]
      rfl
    · rw [up_f _ _ e]
      exact (h3 q h4 (by omega)).2
def nw (N : Mm) (k : Kd) (c i : Nat) : Mm := sP (nO N k) c (upN (gP (nO N k) c) i (gZ N))
/-- the object at c with the rows that it has so far -/
def CI (M N : Mm) (c ci : Nat) (ks : List Kd) : Prop := ST M N c (ks.length + 1) ∧ gK N c = kO ci ∧ ∀ i, i < ks.length → gP N c i = c + 1 + i ∧ gK N (c + 1 + i) = ks.getD i none
theorem CI.z {M : Mm} {c ci : Nat} (h : FO M c ci) : CI M M c ci [] := ⟨ST.z h, h.2.1, fun i hi => absurd hi (Nat.not_lt_zero i)⟩
theorem CI.s {M N : Mm} {c ci : Nat} {ks : List Kd} (h : CI M N c ci ks) (k : Kd) : CI M (nw N k c ks.length) c ci (ks ++ [k]) := by
  obtain ⟨h1, h2, h3⟩ := h
  have hz := h1.1
  have e0 : gK (nw N k c ks.length) c = gK N c := by
    unfold nw
    rw [gK_sP, gK_nO, up_f _ _ (show c ≠ gZ N by omega)]
  refine ⟨?_, e0.trans h2, fun i hi => ?_⟩
  · rw [List.length_append]
    exact h1.s (Nat.succ_pos _) k _
  · rw [List.length_append, List.length_singleton] at hi
    have eP : gP (nw N k c ks.length) c = va_up (gP N c) ks.length (gZ N) := by
      unfold nw
      rw [gP_sP, up_s, gP_nO, up_f _ _ (show c ≠ gZ N by omega)]
      rfl
    have eK : gK (nw N k c ks.length) (c + 1 + i) = va_up (gK N) (gZ N) k (c + 1 + i) := by
      unfold nw
      rw [gK_sP, gK_nO]
    rw [eP, eK, hz]
    by_cases e : i = ks.length
    · subst e
      rw [up_s, show c + (ks.length + 1) = c + 1 + ks.length by omega, up_s]
      exact ⟨rfl, by simp [List.getD]⟩
    · rw [up_f _ _ e, up_f _ _ (show c + 1 + i ≠ c + (ks.length + 1) by omega)]
      have := h3 i (by omega)
      exact ⟨this.1, by rw [this.2]; simp [List.getD, List.getElem?_append_left (show i < ks.length by omega)]⟩
def S42 : Sem := fun as M => match as with
  | [.ref c] => (FO M c 5, fun v N => v = none ∧ ST M N c 2 ∧ Lq N c, fun _ _ => False)
  | _ => sF
set_option maxRecDepth 100000 in
set_option maxHeartbeats 4000000 in
theorem s_X5_init {l : Launch} {G : Gt} (hfl : l.stackTraces = false) : SatM l G 42 S42 := by
  refine t_X5_init (E := fun _ => S0) hfl  fun as M hp => ?_
  unfold S42 at hp ⊢
  split at hp
  case h_2 => exact hp.elim
  rename_i c
  obtain ⟨hz, k0, i0, j0⟩ := hp
  refine ⟨Nat.le_of_ble_eq_true rfl, ?_⟩
  show Run (gT G) _ _ _ _ _ _ _ 0 [.val (.ref c)] [] M 0 0
  have h0 : CI M M c 5 [] := CI.z ⟨hz, k0, i0, j0⟩
  have h1 := h0.s (kA .int 6)
  have fw : ∀ N k i, sP (nO N k) c (upN (gP (nO N k) c) i (gZ N)) = nw N k c i := fun N k i => rfl
  have z0 : (gZ M = 0) = False := eq_false (by rw [hz]; exact Nat.succ_ne_zero _)
  have zw : ∀ N k i, (gZ (nw N k c i) = 0) = False := fun N k i => eq_false (Nat.succ_ne_zero _)
  have t6 : (6 : Int32).toNatClampNeg = 6 := rfl
  have n6 : ((6 : Int32) < 0) = False := eq_false (by decide)
  have kc : ∀ N k, gK N c = kO 5 → c < gZ N → gK (nO N k) c = kO 5 := fun N k h h2 => by rw [gK_nO, up_f _ _ (Nat.ne_of_lt h2)]; exact h
  have c0 := kc _ (kA .int 6) h0.2.1 (by rw [h0.1.1]; exact Nat.lt_add_of_pos_right (Nat.succ_pos _))
  simp only [List.length_nil, List.length_singleton, List.nil_append, List.cons_append, List.length_cons, Nat.reduceAdd, Nat.zero_add] at h1 c0
  simp only [rX5_init_0, kX5_init_0, bk_c, if_true, if_false, wi_e, wl_e, wr_e, w1_i, w1_r, ldS_0, ldS_s, vi_e, vl_e, vr_e, dpL_u, dpL_i, dpL_r, dpL_l, stS_0, stS_1, stS_s, stL_0, stL_1, stL_s, bin_0, bin_1, bin_2, bin_3, bin_4, bin_5, bdv_0, bdv_1, lbin_0, lbin_1, lbin_2, cnd_0, cnd_1, cnd_2, cnd_3, cnd_4, cnd_5, aty_0, aty_1, aty_2, aty_3, aty_4, aty_5, c8_u, cn_0, cn_i, cn_r, cn_l, Nat.reduceAdd, Nat.reduceLeDiff, Nat.le_refl, adz, hnd_0, rcv_0, rcv_1, kLen_a, kLen_r, inB_e, inR_e, cpOK_e, swt_n, swt_c, List.take_succ_cons, List.take_zero, List.drop_succ_cons, List.drop_zero, List.reverse_cons, List.reverse_nil, List.nil_append, List.cons_append, List.length_cons, List.length_nil, Option.toList_some, Option.toList_none, det_e, det_x, tr_imp, fa_imp, implies_true, not_true, not_false_eq_true, and_true, true_and, nar_i, upd_s, st1_0, st1_1, st1_2, st1_3, st1_4, st1_5, st1_6, st1_7, st1_8, st1_9, st1_10, st1_11, st1_12, st1_13, st1_14, st1_15, st1_16, st1_17, st1_18, st1_19, st1_20, st1_21, st1_22, st1_23, st1_24, st1_25, st1_26, st1_27, st1_28, st1_29, st1_30, st1_31, st1_32, st1_33, st1_34, st1_35, st1_36, st1_37, st1_42, st1_43, st1_44, st1_46, st1_47, st1_48, st1_49, st1_50, st1_51, st1_52, st1_53, st1_54, st1_55, st1_56, st1_57, st1_58, st1_59, st1_60, ne_eq, fw, z0, zw, c0, t6, n6, Nat.reduceMul, Nat.zero_add, Nat.reduceAdd, Nat.reduceLeDiff]
  exact ⟨h1.1, h1.2.1, (h1.2.2 0 (by decide)).1, (h1.2.2 0 (by decide)).2⟩
def S4 : Sem := fun as M => match as with
  | [.ref c] => (FO M c 0, fun v N => v = none ∧ ST M N c 9 ∧ Lc N c, fun _ _ => False)
  | _ => sF
set_option maxRecDepth 100000 in
set_option maxHeartbeats 4000000 in
theorem s_X0_init {l : Launch} {G : Gt} (hfl : l.stackTraces = false) : SatM l G 4 S4 := by
  refine t_X0_init (E := fun _ => S0) hfl  fun as M hp => ?_
  unfold S4 at hp ⊢
  split at hp
  case h_2 => exact hp.elim
  rename_i c
  obtain ⟨hz, k0, i0, j0⟩ := hp
  refine ⟨Nat.le_of_ble_eq_true rfl, ?_⟩
  show Run (gT G) _ _ _ _ _ _ _ 0 [.val (.ref c)] [] M 0 0
  have h0 : CI M M c 0 [] := CI.z ⟨hz, k0, i0, j0⟩
  have h1 := h0.s (kA .int 16)
  have h2 := h1.s (kA .int 16)
  have h3 := h2.s (kA .int 16)
  have h4 := h3.s (kA .int 16)
  have h5 := h4.s (kA .int 16)
  have h6 := h5.s (kA .int 16)
  have h7 := h6.s (kA .boolean 16)
  have h8 := h7.s (kA .int 112)
  have fw : ∀ N k i, sP (nO N k) c (upN (gP (nO N k) c) i (gZ N)) = nw N k c i := fun N k i => rfl
  have z0 : (gZ M = 0) = False := eq_false (by rw [hz]; exact Nat.succ_ne_zero _)
  have zw : ∀ N k i, (gZ (nw N k c i) = 0) = False := fun N k i => eq_false (Nat.succ_ne_zero _)
  have t16 : (16 : Int32).toNatClampNeg = 16 := rfl
  have n16 : ((16 : Int32) < 0) = False := eq_false (by decide)
  have t112 : (112 : Int32).toNatClampNeg = 112 := rfl
  have n112 : ((112 : Int32) < 0) = False := eq_false (by decide)
  have kc : ∀ N k, gK N c = kO 0 → c < gZ N → gK (nO N k) c = kO 0 := fun N k h h2 => by rw [gK_nO, up_f _ _ (Nat.ne_of_lt h2)]; exact h
  have c0 := kc _ (kA .int 16) h0.2.1 (by rw [h0.1.1]; exact Nat.lt_add_of_pos_right (Nat.succ_pos _))
  have c1 := kc _ (kA .int 16) h1.2.1 (by rw [h1.1.1]; exact Nat.lt_add_of_pos_right (Nat.succ_pos _))
  have c2 := kc _ (kA .int 16) h2.2.1 (by rw [h2.1.1]; exact Nat.lt_add_of_pos_right (Nat.succ_pos _))
  have c3 := kc _ (kA .int 16) h3.2.1 (by rw [h3.1.1]; exact Nat.lt_add_of_pos_right (Nat.succ_pos _))
  have c4 := kc _ (kA .int 16) h4.2.1 (by rw [h4.1.1]; exact Nat.lt_add_of_pos_right (Nat.succ_pos _))
  have c5 := kc _ (kA .int 16) h5.2.1 (by rw [h5.1.1]; exact Nat.lt_add_of_pos_right (Nat.succ_pos _))
  have c6 := kc _ (kA .boolean 16) h6.2.1 (by rw [h6.1.1]; exact Nat.lt_add_of_pos_right (Nat.succ_pos _))
  have c7 := kc _ (kA .int 112) h7.2.1 (by rw [h7.1.1]; exact Nat.lt_add_of_pos_right (Nat.succ_pos _))
  simp only [List.length_nil, List.length_singleton, List.nil_append, List.cons_append, List.length_cons, Nat.reduceAdd, Nat.zero_add] at h1 h2 h3 h4 h5 h6 h7 h8 c0 c1 c2 c3 c4 c5 c6 c7
  simp only [rX0_init_0, kX0_init_0, bk_c, if_true, if_false, wi_e, wl_e, wr_e, w1_i, w1_r, ldS_0, ldS_s, vi_e, vl_e, vr_e, dpL_u, dpL_i, dpL_r, dpL_l, stS_0, stS_1, stS_s, stL_0, stL_1, stL_s, bin_0, bin_1, bin_2, bin_3, bin_4, bin_5, bdv_0, bdv_1, lbin_0, lbin_1, lbin_2, cnd_0, cnd_1, cnd_2, cnd_3, cnd_4, cnd_5, aty_0, aty_1, aty_2, aty_3, aty_4, aty_5, c8_u, cn_0, cn_i, cn_r, cn_l, Nat.reduceAdd, Nat.reduceLeDiff, Nat.le_refl, adz, hnd_0, rcv_0, rcv_1, kLen_a, kLen_r, inB_e, inR_e, cpOK_e, swt_n, swt_c, List.take_succ_cons, List.take_zero, List.drop_succ_cons, List.drop_zero, List.reverse_cons, List.reverse_nil, List.nil_append, List.cons_append, List.length_cons, List.length_nil, Option.toList_some, Option.toList_none, det_e, det_x, tr_imp, fa_imp, implies_true, not_true, not_false_eq_true, and_true, true_and, nar_i, upd_s, st1_0, st1_1, st1_2, st1_3, st1_4, st1_5, st1_6, st1_7, st1_8, st1_9, st1_10, st1_11, st1_12, st1_13, st1_14, st1_15, st1_16, st1_17, st1_18, st1_19, st1_20, st1_21, st1_22, st1_23, st1_24, st1_25, st1_26, st1_27, st1_28, st1_29, st1_30, st1_31, st1_32, st1_33, st1_34, st1_35, st1_36, st1_37, st1_42, st1_43, st1_44, st1_46, st1_47, st1_48, st1_49, st1_50, st1_51, st1_52, st1_53, st1_54, st1_55, st1_56, st1_57, st1_58, st1_59, st1_60, ne_eq, fw, z0, zw, c0, c1, c2, c3, c4, c5, c6, c7, t16, n16, t112, n112, Nat.reduceMul, Nat.zero_add, Nat.reduceAdd, Nat.reduceLeDiff]
  exact ⟨h8.1, h8.2.1, ⟨(h8.2.2 0 (by decide)).1, (h8.2.2 1 (by decide)).1, (h8.2.2 2 (by decide)).1, (h8.2.2 3 (by decide)).1, (h8.2.2 4 (by decide)).1, (h8.2.2 5 (by decide)).1, (h8.2.2 6 (by decide)).1, (h8.2.2 7 (by decide)).1⟩, (h8.2.2 0 (by decide)).2, (h8.2.2 1 (by decide)).2, (h8.2.2 2 (by decide)).2, (h8.2.2 3 (by decide)).2, (h8.2.2 4 (by decide)).2, (h8.2.2 5 (by decide)).2, (h8.2.2 6 (by decide)).2, (h8.2.2 7 (by decide)).2⟩
def S18 : Sem := fun as M => match as with
  | [.ref c] => (FO M c 1, fun v N => v = none ∧ ST M N c 12 ∧ Lf N c, fun _ _ => False)
  | _ => sF
set_option maxRecDepth 100000 in
set_option maxHeartbeats 4000000 in
theorem s_X1_init {l : Launch} {G : Gt} (hfl : l.stackTraces = false) : SatM l G 18 S18 := by
  refine t_X1_init (E := fun _ => S0) hfl  fun as M hp => ?_
  unfold S18 at hp ⊢
  split at hp
  case h_2 => exact hp.elim
  rename_i c
  obtain ⟨hz, k0, i0, j0⟩ := hp
  refine ⟨Nat.le_of_ble_eq_true rfl, ?_⟩
  show Run (gT G) _ _ _ _ _ _ _ 0 [.val (.ref c)] [] M 0 0
  have h0 : CI M M c 1 [] := CI.z ⟨hz, k0, i0, j0⟩
  have h1 := h0.s (kA .int 12)
  have h2 := h1.s (kA .int 12)
  have h3 := h2.s (kA .int 12)
  have h4 := h3.s (kA .int 12)
  have h5 := h4.s (kA .int 12)
  have h6 := h5.s (kA .int 12)
  have h7 := h6.s (kA .int 12)
  have h8 := h7.s (kA .int 12)
  have h9 := h8.s (kA .int 12)
  have h10 := h9.s (kA .int 12)
  have h11 := h10.s (kA .boolean 12)
  have fw : ∀ N k i, sP (nO N k) c (upN (gP (nO N k) c) i (gZ N)) = nw N k c i := fun N k i => rfl
  have z0 : (gZ M = 0) = False := eq_false (by rw [hz]; exact Nat.succ_ne_zero _)
  have zw : ∀ N k i, (gZ (nw N k c i) = 0) = False := fun N k i => eq_false (Nat.succ_ne_zero _)
  have t12 : (12 : Int32).toNatClampNeg = 12 := rfl
  have n12 : ((12 : Int32) < 0) = False := eq_false (by decide)
  have kc : ∀ N k, gK N c = kO 1 → c < gZ N → gK (nO N k) c = kO 1 := fun N k h h2 => by rw [gK_nO, up_f _ _ (Nat.ne_of_lt h2)]; exact h
  have c0 := kc _ (kA .int 12) h0.2.1 (by rw [h0.1.1]; exact Nat.lt_add_of_pos_right (Nat.succ_pos _))
  have c1 := kc _ (kA .int 12) h1.2.1 (by rw [h1.1.1]; exact Nat.lt_add_of_pos_right (Nat.succ_pos _))
  have c2 := kc _ (kA .int 12) h2.2.1 (by rw [h2.1.1]; exact Nat.lt_add_of_pos_right (Nat.succ_pos _))
  have c3 := kc _ (kA .int 12) h3.2.1 (by rw [h3.1.1]; exact Nat.lt_add_of_pos_right (Nat.succ_pos _))
  have c4 := kc _ (kA .int 12) h4.2.1 (by rw [h4.1.1]; exact Nat.lt_add_of_pos_right (Nat.succ_pos _))
  have c5 := kc _ (kA .int 12) h5.2.1 (by rw [h5.1.1]; exact Nat.lt_add_of_pos_right (Nat.succ_pos _))
  have c6 := kc _ (kA .int 12) h6.2.1 (by rw [h6.1.1]; exact Nat.lt_add_of_pos_right (Nat.succ_pos _))
  have c7 := kc _ (kA .int 12) h7.2.1 (by rw [h7.1.1]; exact Nat.lt_add_of_pos_right (Nat.succ_pos _))
  have c8 := kc _ (kA .int 12) h8.2.1 (by rw [h8.1.1]; exact Nat.lt_add_of_pos_right (Nat.succ_pos _))
  have c9 := kc _ (kA .int 12) h9.2.1 (by rw [h9.1.1]; exact Nat.lt_add_of_pos_right (Nat.succ_pos _))
  have c10 := kc _ (kA .boolean 12) h10.2.1 (by rw [h10.1.1]; exact Nat.lt_add_of_pos_right (Nat.succ_pos _))
  simp only [List.length_nil, List.length_singleton, List.nil_append, List.cons_append, List.length_cons, Nat.reduceAdd, Nat.zero_add] at h1 h2 h3 h4 h5 h6 h7 h8 h9 h10 h11 c0 c1 c2 c3 c4 c5 c6 c7 c8 c9 c10
  simp only [rX1_init_0, kX1_init_0, bk_c, if_true, if_false, wi_e, wl_e, wr_e, w1_i, w1_r, ldS_0, ldS_s, vi_e, vl_e, vr_e, dpL_u, dpL_i, dpL_r, dpL_l, stS_0, stS_1, stS_s, stL_0, stL_1, stL_s, bin_0, bin_1, bin_2, bin_3, bin_4, bin_5, bdv_0, bdv_1, lbin_0, lbin_1, lbin_2, cnd_0, cnd_1, cnd_2, cnd_3, cnd_4, cnd_5, aty_0, aty_1, aty_2, aty_3, aty_4, aty_5, c8_u, cn_0, cn_i, cn_r, cn_l, Nat.reduceAdd, Nat.reduceLeDiff, Nat.le_refl, adz, hnd_0, rcv_0, rcv_1, kLen_a, kLen_r, inB_e, inR_e, cpOK_e, swt_n, swt_c, List.take_succ_cons, List.take_zero, List.drop_succ_cons, List.drop_zero, List.reverse_cons, List.reverse_nil, List.nil_append, List.cons_append, List.length_cons, List.length_nil, Option.toList_some, Option.toList_none, det_e, det_x, tr_imp, fa_imp, implies_true, not_true, not_false_eq_true, and_true, true_and, nar_i, upd_s, st1_0, st1_1, st1_2, st1_3, st1_4, st1_5, st1_6, st1_7, st1_8, st1_9, st1_10, st1_11, st1_12, st1_13, st1_14, st1_15, st1_16, st1_17, st1_18, st1_19, st1_20, st1_21, st1_22, st1_23, st1_24, st1_25, st1_26, st1_27, st1_28, st1_29, st1_30, st1_31, st1_32, st1_33, st1_34, st1_35, st1_36, st1_37, st1_42, st1_43, st1_44, st1_46, st1_47, st1_48, st1_49, st1_50, st1_51, st1_52, st1_53, st1_54, st1_55, st1_56, st1_57, st1_58, st1_59, st1_60, ne_eq, fw, z0, zw, c0, c1, c2, c3, c4, c5, c6, c7, c8, c9, c10, t12, n12, Nat.reduceMul, Nat.zero_add, Nat.reduceAdd, Nat.reduceLeDiff]
  exact ⟨h11.1, h11.2.1, ⟨(h11.2.2 0 (by decide)).1, (h11.2.2 1 (by decide)).1, (h11.2.2 2 (by decide)).1, (h11.2.2 3 (by decide)).1, (h11.2.2 4 (by decide)).1, (h11.2.2 5 (by decide)).1, (h11.2.2 6 (by decide)).1, (h11.2.2 7 (by decide)).1, (h11.2.2 8 (by decide)).1, (h11.2.2 9 (by decide)).1, (h11.2.2 10 (by decide)).1⟩, (h11.2.2 0 (by decide)).2, (h11.2.2 1 (by decide)).2, (h11.2.2 2 (by decide)).2, (h11.2.2 3 (by decide)).2, (h11.2.2 4 (by decide)).2, (h11.2.2 5 (by decide)).2, (h11.2.2 6 (by decide)).2, (h11.2.2 7 (by decide)).2, (h11.2.2 8 (by decide)).2, (h11.2.2 9 (by decide)).2, (h11.2.2 10 (by decide)).2⟩
def S45 : Sem := fun as M => match as with
  | [.ref c] => (FO M c 6, fun v N => v = none ∧ ST M N c 3 ∧ Lr N c, fun _ _ => False)
  | _ => sF
set_option maxRecDepth 100000 in
set_option maxHeartbeats 4000000 in
theorem s_X6_init {l : Launch} {G : Gt} (hfl : l.stackTraces = false) : SatM l G 45 S45 := by
  refine t_X6_init (E := fun _ => S0) hfl  fun as M hp => ?_
  unfold S45 at hp ⊢
  split at hp
  case h_2 => exact hp.elim
  rename_i c
  obtain ⟨hz, k0, i0, j0⟩ := hp
  refine ⟨Nat.le_of_ble_eq_true rfl, ?_⟩
  show Run (gT G) _ _ _ _ _ _ _ 0 [.val (.ref c)] [] M 0 0
  have h0 : CI M M c 6 [] := CI.z ⟨hz, k0, i0, j0⟩
  have h1 := h0.s (kA .int 12)
  have h2 := h1.s (kA .int 12)
  have fw : ∀ N k i, sP (nO N k) c (upN (gP (nO N k) c) i (gZ N)) = nw N k c i := fun N k i => rfl
  have z0 : (gZ M = 0) = False := eq_false (by rw [hz]; exact Nat.succ_ne_zero _)
  have zw : ∀ N k i, (gZ (nw N k c i) = 0) = False := fun N k i => eq_false (Nat.succ_ne_zero _)
  have t12 : (12 : Int32).toNatClampNeg = 12 := rfl
  have n12 : ((12 : Int32) < 0) = False := eq_false (by decide)
  have kc : ∀ N k, gK N c = kO 6 → c < gZ N → gK (nO N k) c = kO 6 := fun N k h h2 => by rw [gK_nO, up_f _ _ (Nat.ne_of_lt h2)]; exact h
  have c0 := kc _ (kA .int 12) h0.2.1 (by rw [h0.1.1]; exact Nat.lt_add_of_pos_right (Nat.succ_pos _))
  have c1 := kc _ (kA .int 12) h1.2.1 (by rw [h1.1.1]; exact Nat.lt_add_of_pos_right (Nat.succ_pos _))
  simp only [List.length_nil, List.length_singleton, List.nil_append, List.cons_append, List.length_cons, Nat.reduceAdd, Nat.zero_add] at h1 h2 c0 c1
  simp only [rX6_init_0, kX6_init_0, bk_c, if_true, if_false, wi_e, wl_e, wr_e, w1_i, w1_r, ldS_0, ldS_s, vi_e, vl_e, vr_e, dpL_u, dpL_i, dpL_r, dpL_l, stS_0, stS_1, stS_s, stL_0, stL_1, stL_s, bin_0, bin_1, bin_2, bin_3, bin_4, bin_5, bdv_0, bdv_1, lbin_0, lbin_1, lbin_2, cnd_0, cnd_1, cnd_2, cnd_3, cnd_4, cnd_5, aty_0, aty_1, aty_2, aty_3, aty_4, aty_5, c8_u, cn_0, cn_i, cn_r, cn_l, Nat.reduceAdd, Nat.reduceLeDiff, Nat.le_refl, adz, hnd_0, rcv_0, rcv_1, kLen_a, kLen_r, inB_e, inR_e, cpOK_e, swt_n, swt_c, List.take_succ_cons, List.take_zero, List.drop_succ_cons, List.drop_zero, List.reverse_cons, List.reverse_nil, List.nil_append, List.cons_append, List.length_cons, List.length_nil, Option.toList_some, Option.toList_none, det_e, det_x, tr_imp, fa_imp, implies_true, not_true, not_false_eq_true, and_true, true_and, nar_i, upd_s, st1_0, st1_1, st1_2, st1_3, st1_4, st1_5, st1_6, st1_7, st1_8, st1_9, st1_10, st1_11, st1_12, st1_13, st1_14, st1_15, st1_16, st1_17, st1_18, st1_19, st1_20, st1_21, st1_22, st1_23, st1_24, st1_25, st1_26, st1_27, st1_28, st1_29, st1_30, st1_31, st1_32, st1_33, st1_34, st1_35, st1_36, st1_37, st1_42, st1_43, st1_44, st1_46, st1_47, st1_48, st1_49, st1_50, st1_51, st1_52, st1_53, st1_54, st1_55, st1_56, st1_57, st1_58, st1_59, st1_60, ne_eq, fw, z0, zw, c0, c1, t12, n12, Nat.reduceMul, Nat.zero_add, Nat.reduceAdd, Nat.reduceLeDiff]
  exact ⟨h2.1, h2.2.1, ⟨(h2.2.2 0 (by decide)).1, (h2.2.2 1 (by decide)).1⟩, (h2.2.2 0 (by decide)).2, (h2.2.2 1 (by decide)).2⟩
def S34 : Sem := fun as M => match as with
  | [.ref c] => (FO M c 3, fun v N => v = none ∧ ST M N c 2 ∧ Lg N c, fun _ _ => False)
  | _ => sF
set_option maxRecDepth 100000 in
set_option maxHeartbeats 4000000 in
theorem s_X3_init {l : Launch} {G : Gt} (hfl : l.stackTraces = false) : SatM l G 34 S34 := by
  refine t_X3_init (E := fun _ => S0) hfl  fun as M hp => ?_
  unfold S34 at hp ⊢
  split at hp
  case h_2 => exact hp.elim
  rename_i c
  obtain ⟨hz, k0, i0, j0⟩ := hp
  refine ⟨Nat.le_of_ble_eq_true rfl, ?_⟩
  show Run (gT G) _ _ _ _ _ _ _ 0 [.val (.ref c)] [] M 0 0
  have h0 : CI M M c 3 [] := CI.z ⟨hz, k0, i0, j0⟩
  have h1 := h0.s (kA .int 10)
  have fw : ∀ N k i, sP (nO N k) c (upN (gP (nO N k) c) i (gZ N)) = nw N k c i := fun N k i => rfl
  have z0 : (gZ M = 0) = False := eq_false (by rw [hz]; exact Nat.succ_ne_zero _)
  have zw : ∀ N k i, (gZ (nw N k c i) = 0) = False := fun N k i => eq_false (Nat.succ_ne_zero _)
  have t10 : (10 : Int32).toNatClampNeg = 10 := rfl
  have n10 : ((10 : Int32) < 0) = False := eq_false (by decide)
  have kc : ∀ N k, gK N c = kO 3 → c < gZ N → gK (nO N k) c = kO 3 := fun N k h h2 => by rw [gK_nO, up_f _ _ (Nat.ne_of_lt h2)]; exact h
  have c0 := kc _ (kA .int 10) h0.2.1 (by rw [h0.1.1]; exact Nat.lt_add_of_pos_right (Nat.succ_pos _))
  simp only [List.length_nil, List.length_singleton, List.nil_append, List.cons_append, List.length_cons, Nat.reduceAdd, Nat.zero_add] at h1 c0
  simp only [rX3_init_0, kX3_init_0, bk_c, if_true, if_false, wi_e, wl_e, wr_e, w1_i, w1_r, ldS_0, ldS_s, vi_e, vl_e, vr_e, dpL_u, dpL_i, dpL_r, dpL_l, stS_0, stS_1, stS_s, stL_0, stL_1, stL_s, bin_0, bin_1, bin_2, bin_3, bin_4, bin_5, bdv_0, bdv_1, lbin_0, lbin_1, lbin_2, cnd_0, cnd_1, cnd_2, cnd_3, cnd_4, cnd_5, aty_0, aty_1, aty_2, aty_3, aty_4, aty_5, c8_u, cn_0, cn_i, cn_r, cn_l, Nat.reduceAdd, Nat.reduceLeDiff, Nat.le_refl, adz, hnd_0, rcv_0, rcv_1, kLen_a, kLen_r, inB_e, inR_e, cpOK_e, swt_n, swt_c, List.take_succ_cons, List.take_zero, List.drop_succ_cons, List.drop_zero, List.reverse_cons, List.reverse_nil, List.nil_append, List.cons_append, List.length_cons, List.length_nil, Option.toList_some, Option.toList_none, det_e, det_x, tr_imp, fa_imp, implies_true, not_true, not_false_eq_true, and_true, true_and, nar_i, upd_s, st1_0, st1_1, st1_2, st1_3, st1_4, st1_5, st1_6, st1_7, st1_8, st1_9, st1_10, st1_11, st1_12, st1_13, st1_14, st1_15, st1_16, st1_17, st1_18, st1_19, st1_20, st1_21, st1_22, st1_23, st1_24, st1_25, st1_26, st1_27, st1_28, st1_29, st1_30, st1_31, st1_32, st1_33, st1_34, st1_35, st1_36, st1_37, st1_42, st1_43, st1_44, st1_46, st1_47, st1_48, st1_49, st1_50, st1_51, st1_52, st1_53, st1_54, st1_55, st1_56, st1_57, st1_58, st1_59, st1_60, ne_eq, fw, z0, zw, c0, t10, n10, Nat.reduceMul, Nat.zero_add, Nat.reduceAdd, Nat.reduceLeDiff]
  exact ⟨h1.1, h1.2.1, (h1.2.2 0 (by decide)).1, (h1.2.2 0 (by decide)).2⟩
def S72 : Sem := fun as M => match as with
  | [.ref c] => (FO M c 9, fun v N => v = none ∧ ST M N c 2 ∧ Lt N c, fun _ _ => False)
  | _ => sF
set_option maxRecDepth 100000 in
set_option maxHeartbeats 4000000 in
theorem s_X9_init {l : Launch} {G : Gt} (hfl : l.stackTraces = false) : SatM l G 72 S72 := by
  refine t_X9_init (E := fun _ => S0) hfl  fun as M hp => ?_
  unfold S72 at hp ⊢
  split at hp
  case h_2 => exact hp.elim
  rename_i c
  obtain ⟨hz, k0, i0, j0⟩ := hp
  refine ⟨Nat.le_of_ble_eq_true rfl, ?_⟩
  show Run (gT G) _ _ _ _ _ _ _ 0 [.val (.ref c)] [] M 0 0
  have h0 : CI M M c 9 [] := CI.z ⟨hz, k0, i0, j0⟩
  have h1 := h0.s (kA .byte 900)
  have fw : ∀ N k i, sP (nO N k) c (upN (gP (nO N k) c) i (gZ N)) = nw N k c i := fun N k i => rfl
  have z0 : (gZ M = 0) = False := eq_false (by rw [hz]; exact Nat.succ_ne_zero _)
  have zw : ∀ N k i, (gZ (nw N k c i) = 0) = False := fun N k i => eq_false (Nat.succ_ne_zero _)
  have t900 : (900 : Int32).toNatClampNeg = 900 := rfl
  have n900 : ((900 : Int32) < 0) = False := eq_false (by decide)
  have kc : ∀ N k, gK N c = kO 9 → c < gZ N → gK (nO N k) c = kO 9 := fun N k h h2 => by rw [gK_nO, up_f _ _ (Nat.ne_of_lt h2)]; exact h
  have c0 := kc _ (kA .byte 900) h0.2.1 (by rw [h0.1.1]; exact Nat.lt_add_of_pos_right (Nat.succ_pos _))
  simp only [List.length_nil, List.length_singleton, List.nil_append, List.cons_append, List.length_cons, Nat.reduceAdd, Nat.zero_add] at h1 c0
  simp only [rX9_init_0, kX9_init_0, bk_c, if_true, if_false, wi_e, wl_e, wr_e, w1_i, w1_r, ldS_0, ldS_s, vi_e, vl_e, vr_e, dpL_u, dpL_i, dpL_r, dpL_l, stS_0, stS_1, stS_s, stL_0, stL_1, stL_s, bin_0, bin_1, bin_2, bin_3, bin_4, bin_5, bdv_0, bdv_1, lbin_0, lbin_1, lbin_2, cnd_0, cnd_1, cnd_2, cnd_3, cnd_4, cnd_5, aty_0, aty_1, aty_2, aty_3, aty_4, aty_5, c8_u, cn_0, cn_i, cn_r, cn_l, Nat.reduceAdd, Nat.reduceLeDiff, Nat.le_refl, adz, hnd_0, rcv_0, rcv_1, kLen_a, kLen_r, inB_e, inR_e, cpOK_e, swt_n, swt_c, List.take_succ_cons, List.take_zero, List.drop_succ_cons, List.drop_zero, List.reverse_cons, List.reverse_nil, List.nil_append, List.cons_append, List.length_cons, List.length_nil, Option.toList_some, Option.toList_none, det_e, det_x, tr_imp, fa_imp, implies_true, not_true, not_false_eq_true, and_true, true_and, nar_i, upd_s, st1_0, st1_1, st1_2, st1_3, st1_4, st1_5, st1_6, st1_7, st1_8, st1_9, st1_10, st1_11, st1_12, st1_13, st1_14, st1_15, st1_16, st1_17, st1_18, st1_19, st1_20, st1_21, st1_22, st1_23, st1_24, st1_25, st1_26, st1_27, st1_28, st1_29, st1_30, st1_31, st1_32, st1_33, st1_34, st1_35, st1_36, st1_37, st1_42, st1_43, st1_44, st1_46, st1_47, st1_48, st1_49, st1_50, st1_51, st1_52, st1_53, st1_54, st1_55, st1_56, st1_57, st1_58, st1_59, st1_60, ne_eq, fw, z0, zw, c0, t900, n900, Nat.reduceMul, Nat.zero_add, Nat.reduceAdd, Nat.reduceLeDiff]
  exact ⟨h1.1, h1.2.1, (h1.2.2 0 (by decide)).1, (h1.2.2 0 (by decide)).2⟩
