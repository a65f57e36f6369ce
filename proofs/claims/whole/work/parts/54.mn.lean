/-! ===== IrrigationTurnsModel: its constructor ===== -/
def hisP (m : Nat) : Nat → Nat := fun i => if i < 8 then m + 5 + 1 + i else 0
/-- n cells made from m on: the object's references, the cells' kinds, the object's numbers -/
def QM (M N : Mm) (m n : Nat) (p : Nat → Nat) (kk : Nat → Kd) (g : Nat → Int32) : Prop :=
  gZ N = m + n ∧ (∀ q, q < m → gK N q = gK M q ∧ gI N q = gI M q ∧ gJ N q = gJ M q ∧ gP N q = gP M q) ∧ gP N m = p ∧ gI N m = g ∧ (∀ i, i < n → gK N (m + i) = kk i) ∧
  (∀ i, 1 ≤ i → i < n → i ≠ 5 → gI N (m + i) = z32) ∧ (5 < n → gP N (m + 5) = hisP m)
theorem QM.s {M N : Mm} {m n : Nat} {p : Nat → Nat} {kk : Nat → Kd} {g : Nat → Int32} (h : QM M N m n p kk g) (hn : 1 ≤ n) (h5n : n ≠ 5) (k : Kd) (s : Nat) : QM M (sP (nO N k) m (upN (gP (nO N k) m) s (m + n))) m (n + 1) (va_up p s (m + n)) (va_up kk n k) g := by
  obtain ⟨h1, h2, h3, h4, h5, h6, h7⟩ := h
  refine ⟨?_, fun q hq => ⟨?_, ?_, ?_, ?_⟩, ?_, ?_, fun i hi => ?_, fun i h7 h8 h10 => ?_, fun h8 => ?_⟩
  · rw [gZ_sP, gZ_nO, h1]; rfl
  · rw [gK_sP, gK_nO, up_f _ _ (show q ≠ gZ N by omega)]; exact (h2 q hq).1
  · rw [gI_sP, gI_nO, up_f _ _ (show q ≠ gZ N by omega)]; exact (h2 q hq).2.1
  · rw [gJ_sP, gJ_nO, up_f _ _ (show q ≠ gZ N by omega)]; exact (h2 q hq).2.2.1
  · rw [gP_sP, up_f _ _ (show q ≠ m by omega), gP_nO, up_f _ _ (show q ≠ gZ N by omega)]; exact (h2 q hq).2.2.2
  · rw [gP_sP, up_s, gP_nO, up_f _ _ (show m ≠ gZ N by omega), h3]; rfl
  · rw [gI_sP, gI_nO, up_f _ _ (show m ≠ gZ N by omega)]; exact h4
  · rw [gK_sP, gK_nO]
    by_cases e : i = n
    · subst e; rw [← h1, up_s, up_s]
    · rw [up_f _ _ (show m + i ≠ gZ N by omega), up_f _ _ e]; exact h5 i (by omega)
  · rw [gI_sP, gI_nO]
    by_cases e : i = n
    · subst e; rw [← h1, up_s]; rfl
    · rw [up_f _ _ (show m + i ≠ gZ N by omega)]; exact h6 i h7 (by omega) h10
  · rw [gP_sP, up_f _ _ (show m + 5 ≠ m by omega), gP_nO, up_f _ _ (show m + 5 ≠ gZ N by omega)]
    exact h7 (by omega)
theorem QM.i {M N : Mm} {m n : Nat} {p : Nat → Nat} {kk : Nat → Kd} {g : Nat → Int32} (h : QM M N m n p kk g) (k : Nat) (x : Int32) : QM M (sI N m (upd (gI N m) k x)) m n p kk (upd g k x) := by
  obtain ⟨h1, h2, h3, h4, h5, h6, h9⟩ := h
  refine ⟨h1, fun q hq => ⟨(h2 q hq).1, ?_, (h2 q hq).2.2.1, (h2 q hq).2.2.2⟩, h3, ?_, h5, fun i h7 h8 h10 => ?_, h9⟩
  · rw [gI_f _ _ (by omega)]; exact (h2 q hq).2.1
  · rw [gI_s, h4]
  · rw [gI_f _ _ (by omega)]; exact h6 i h7 h8 h10
theorem gK_mu (M : Mm) (n j q : Nat) : gK (nMu M n j) q = if q = gZ M then kA (.array .int) n else if gZ M < q ∧ q < gZ M + 1 + n then kA .int j else gK M q := rfl
theorem gI_mu (M : Mm) (n j q : Nat) : gI (nMu M n j) q = if gZ M < q ∧ q < gZ M + 1 + n then (fun _ => 0) else gI M q := rfl
theorem gJ_mu (M : Mm) (n j : Nat) : gJ (nMu M n j) = gJ M := rfl
theorem gP_mu (M : Mm) (n j q : Nat) : gP (nMu M n j) q = if q = gZ M then (fun i => if i < n then gZ M + 1 + i else 0) else gP M q := rfl
theorem gZ_mu (M : Mm) (n j : Nat) : gZ (nMu M n j) = gZ M + 1 + n := rfl
theorem QM.m {M N : Mm} {m : Nat} {p : Nat → Nat} {kk : Nat → Kd} {g : Nat → Int32} (h : QM M N m 5 p kk g) (s : Nat) : QM M (sP (nMu N 8 1793) m (upN (gP (nMu N 8 1793) m) s (m + 5))) m 14 (va_up p s (m + 5)) (fun i => if i = 5 then kA (.array .int) 8 else if 5 < i then kA .int 1793 else kk i) g := by
  obtain ⟨h1, h2, h3, h4, h5, h6, h9⟩ := h
  refine ⟨?_, fun q hq => ⟨?_, ?_, ?_, ?_⟩, ?_, ?_, fun i hi => ?_, fun i h7 h8 h10 => ?_, fun h8 => ?_⟩
  · rw [gZ_sP, gZ_mu, h1]
  · rw [gK_sP, gK_mu, if_neg (by omega), if_neg (by omega)]; exact (h2 q hq).1
  · rw [gI_sP, gI_mu, if_neg (by omega)]; exact (h2 q hq).2.1
  · rw [gJ_sP, gJ_mu]; exact (h2 q hq).2.2.1
  · rw [gP_sP, up_f _ _ (show q ≠ m by omega), gP_mu, if_neg (by omega)]; exact (h2 q hq).2.2.2
  · rw [gP_sP, up_s, gP_mu, if_neg (by omega), h3]; rfl
  · rw [gI_sP, gI_mu, if_neg (by omega)]; exact h4
  · rw [gK_sP, gK_mu]
    show _ = if i = 5 then _ else if 5 < i then _ else _
    by_cases e : i = 5
    · rw [if_pos (by omega), if_pos e]
    · by_cases e2 : 5 < i
      · rw [if_neg (by omega), if_pos (by omega), if_neg e, if_pos e2]
      · rw [if_neg (by omega), if_neg (by omega), if_neg e, if_neg e2]; exact h5 i (by omega)
  · rw [gI_sP, gI_mu]
    by_cases e : 5 < i
    · rw [if_pos (by omega)]; rfl
    · rw [if_neg (by omega)]
      exact h6 i h7 (by omega) h10
  · rw [gP_sP, up_f _ _ (show m + 5 ≠ m by omega), gP_mu, if_pos h1.symm, h1]; rfl
/-- a Model made at m -/
def NM (M N : Mm) (m : Nat) : Prop := gZ N = m + 17 ∧ (∀ q, q < m → gK N q = gK M q ∧ gI N q = gI M q ∧ gJ N q = gJ M q ∧ gP N q = gP M q) ∧ LM N m ∧ gI N m = upd z32 7 (-1) ∧ (∀ i, 1 ≤ i → i < 17 → i ≠ 5 → gI N (m + i) = z32)
def nwS (N : Mm) (k : Kd) (m s : Nat) : Mm := sP (nO N k) m (upN (gP (nO N k) m) s (gZ N))
def nwU (N : Mm) (m s : Nat) : Mm := sP (nMu N 8 1793) m (upN (gP (nMu N 8 1793) m) s (gZ N))
theorem QM.s2 {M N : Mm} {m n : Nat} {p : Nat → Nat} {kk : Nat → Kd} {g : Nat → Int32} (h : QM M N m n p kk g) (hn : 1 ≤ n) (h5n : n ≠ 5) (k : Kd) (s : Nat) : QM M (nwS N k m s) m (n + 1) (va_up p s (m + n)) (va_up kk n k) g := by
  unfold nwS
  rw [h.1]
  exact h.s hn h5n k s
theorem QM.m2 {M N : Mm} {m : Nat} {p : Nat → Nat} {kk : Nat → Kd} {g : Nat → Int32} (h : QM M N m 5 p kk g) (s : Nat) : QM M (nwU N m s) m 14 (va_up p s (m + 5)) (fun i => if i = 5 then kA (.array .int) 8 else if 5 < i then kA .int 1793 else kk i) g := by
  unfold nwU
  rw [h.1]
  exact h.m s
/-- the object in a cell's making -/
theorem QM.k {M N : Mm} {m n : Nat} {p : Nat → Nat} {kk : Nat → Kd} {g : Nat → Int32} (h : QM M N m n p kk g) (hn : 1 ≤ n) (h0 : kk 0 = kO 11) : gK N m = kO 11 ∧ (∀ k, gK (nO N k) m = kO 11) ∧ gK (nMu N 8 1793) m = kO 11 ∧ gZ N = m + n := by
  have e : gK N m = kO 11 := (h.2.2.2.2.1 0 (by omega)).trans h0
  have hz := h.1
  refine ⟨e, fun k => ?_, ?_, hz⟩
  · rw [gK_nO, up_f _ _ (show m ≠ gZ N by omega)]; exact e
  · rw [gK_mu, if_neg (by omega), if_neg (by omega)]; exact e
def mi1 (M : Mm) (m : Nat) : Mm := nwS M (kA .int 900) m 1
def mj1 (M : Mm) (m : Nat) : Mm := sI (mi1 M m) m (upd (gI (mi1 M m) m) 7 (-1))
def mi2 (M : Mm) (m : Nat) : Mm := nwS (mj1 M m) (kA .int 1793) m 8
def mi3 (M : Mm) (m : Nat) : Mm := nwS (mi2 M m) (kA .int 1793) m 9
def mi4 (M : Mm) (m : Nat) : Mm := nwS (mi3 M m) (kA .int 1793) m 10
def mi5 (M : Mm) (m : Nat) : Mm := nwU (mi4 M m) m 11
def mi6 (M : Mm) (m : Nat) : Mm := nwS (mi5 M m) (kA .long 1400) m 16
def mi7 (M : Mm) (m : Nat) : Mm := nwS (mi6 M m) (kA .boolean 12) m 17
def mi8 (M : Mm) (m : Nat) : Mm := nwS (mi7 M m) (kA .boolean 16) m 18
def S142 : Sem := fun as M => match as with
  | [.ref m] => (FO M m 11, fun v N => v = none ∧ NM M N m, fun _ _ => False)
  | _ => sF
theorem lz (n : Nat) (h : n < 2 ^ 31) : (nI n).toNatClampNeg = n := nI_clamp h
set_option maxRecDepth 100000 in
set_option maxHeartbeats 4000000 in
theorem s_X11_init {l : Launch} {G : Gt} (hfl : l.stackTraces = false) : SatM l G 142 S142 := by
  refine t_X11_init (E := fun _ => S0) hfl  fun as M hp => ?_
  unfold S142 at hp ⊢
  split at hp
  case h_2 => exact hp.elim
  rename_i m
  obtain ⟨hz, k0, i0, j0⟩ := hp
  refine ⟨Nat.le_of_ble_eq_true rfl, ?_⟩
  show Run (gT G) _ _ _ _ _ _ _ 0 [.val (.ref m)] [] M 0 0
  have q0 : QM M M m 1 (gP M m) (fun _ => kO 11) z32 := ⟨hz, fun _ _ => ⟨rfl, rfl, rfl, rfl⟩, rfl, i0, fun i hi => by rw [show i = 0 by omega]; exact k0, fun i h1 h2 _ => absurd h1 (by omega), fun h => absurd h (by decide)⟩
  have q1 := q0.s2 (by decide) (by decide) (kA .int 900) 1
  have q1' := q1.i 7 (-1)
  have q2 := q1'.s2 (by decide) (by decide) (kA .int 1793) 8
  have q3 := q2.s2 (by decide) (by decide) (kA .int 1793) 9
  have q4 := q3.s2 (by decide) (by decide) (kA .int 1793) 10
  have q5 := q4.m2 11
  have q6 := q5.s2 (by decide) (by decide) (kA .long 1400) 16
  have q7 := q6.s2 (by decide) (by decide) (kA .boolean 12) 17
  have q8 := q7.s2 (by decide) (by decide) (kA .boolean 16) 18
  have fmi1 : nwS M (kA .int 900) m 1 = mi1 M m := rfl
  have fmj1 : sI (mi1 M m) m (upd (gI (mi1 M m) m) 7 (-1)) = mj1 M m := rfl
  have fmi2 : nwS (mj1 M m) (kA .int 1793) m 8 = mi2 M m := rfl
  have fmi3 : nwS (mi2 M m) (kA .int 1793) m 9 = mi3 M m := rfl
  have fmi4 : nwS (mi3 M m) (kA .int 1793) m 10 = mi4 M m := rfl
  have fmi5 : nwU (mi4 M m) m 11 = mi5 M m := rfl
  have fmi6 : nwS (mi5 M m) (kA .long 1400) m 16 = mi6 M m := rfl
  have fmi7 : nwS (mi6 M m) (kA .boolean 12) m 17 = mi7 M m := rfl
  have fmi8 : nwS (mi7 M m) (kA .boolean 16) m 18 = mi8 M m := rfl
  rw [fmi1] at q1 q1' q2 q3 q4 q5 q6 q7 q8
  rw [fmj1] at q1' q2 q3 q4 q5 q6 q7 q8
  rw [fmi2] at q2 q3 q4 q5 q6 q7 q8
  rw [fmi3] at q3 q4 q5 q6 q7 q8
  rw [fmi4] at q4 q5 q6 q7 q8
  rw [fmi5] at q5 q6 q7 q8
  rw [fmi6] at q6 q7 q8
  rw [fmi7] at q7 q8
  rw [fmi8] at q8
  have e0 := q0.k (by decide) rfl
  have e1 := q1.k (by decide) rfl
  have e1' := q1'.k (by decide) rfl
  have e2 := q2.k (by decide) rfl
  have e3 := q3.k (by decide) rfl
  have e4 := q4.k (by decide) rfl
  have e5 := q5.k (by decide) rfl
  have e6 := q6.k (by decide) rfl
  have e7 := q7.k (by decide) rfl
  have zz : ∀ n, (m + (n + 1) = 0) = False := fun n => eq_false (Nat.succ_ne_zero _)
  have fw : ∀ N k s, sP (nO N k) m (upN (gP (nO N k) m) s (gZ N)) = nwS N k m s := fun N k s => rfl
  have fu : ∀ N s, sP (nMu N 8 1793) m (upN (gP (nMu N 8 1793) m) s (gZ N)) = nwU N m s := fun N s => rfl
  have t900 : (900 : Int32).toNatClampNeg = 900 := rfl
  have t17 : (1793 : Int32).toNatClampNeg = 1793 := rfl
  have t14 : (1400 : Int32).toNatClampNeg = 1400 := rfl
  have t12 : (12 : Int32).toNatClampNeg = 12 := rfl
  have t16 : (16 : Int32).toNatClampNeg = 16 := rfl
  have t8 : (8 : Int32).toNatClampNeg = 8 := rfl
  have n900 : ((900 : Int32) < 0) = False := eq_false (by decide)
  have n17 : ((1793 : Int32) < 0) = False := eq_false (by decide)
  have n14 : ((1400 : Int32) < 0) = False := eq_false (by decide)
  have n12 : ((12 : Int32) < 0) = False := eq_false (by decide)
  have n16 : ((16 : Int32) < 0) = False := eq_false (by decide)
  have n8 : ((8 : Int32) < 0) = False := eq_false (by decide)
  have z0 : (gZ M = 0) = False := eq_false (by rw [e0.2.2.2]; exact Nat.succ_ne_zero _)
  have z1 : (gZ (mj1 M m) = 0) = False := eq_false (by rw [e1'.2.2.2]; exact Nat.succ_ne_zero _)
  have z2 : (gZ (mi2 M m) = 0) = False := eq_false (by rw [e2.2.2.2]; exact Nat.succ_ne_zero _)
  have z3 : (gZ (mi3 M m) = 0) = False := eq_false (by rw [e3.2.2.2]; exact Nat.succ_ne_zero _)
  have z4 : (gZ (mi4 M m) = 0) = False := eq_false (by rw [e4.2.2.2]; exact Nat.succ_ne_zero _)
  have z5 : (gZ (mi5 M m) = 0) = False := eq_false (by rw [e5.2.2.2]; exact Nat.succ_ne_zero _)
  have z6 : (gZ (mi6 M m) = 0) = False := eq_false (by rw [e6.2.2.2]; exact Nat.succ_ne_zero _)
  have z7 : (gZ (mi7 M m) = 0) = False := eq_false (by rw [e7.2.2.2]; exact Nat.succ_ne_zero _)
  simp only [rX11_init_0, kX11_init_0, bk_c, if_true, if_false, wi_e, wl_e, wr_e, w1_i, w1_r, ldS_0, ldS_s, vi_e, vl_e, vr_e, dpL_u, dpL_i, dpL_r, dpL_l, stS_0, stS_1, stS_s, stL_0, stL_1, stL_s, bin_0, bin_1, bin_2, bin_3, bin_4, bin_5, bdv_0, bdv_1, lbin_0, lbin_1, lbin_2, cnd_0, cnd_1, cnd_2, cnd_3, cnd_4, cnd_5, aty_0, aty_1, aty_2, aty_3, aty_4, aty_5, c8_u, cn_0, cn_i, cn_r, cn_l, Nat.reduceAdd, Nat.reduceLeDiff, Nat.le_refl, adz, hnd_0, rcv_0, rcv_1, kLen_a, kLen_r, inB_e, inR_e, cpOK_e, swt_n, swt_c, List.take_succ_cons, List.take_zero, List.drop_succ_cons, List.drop_zero, List.reverse_cons, List.reverse_nil, List.nil_append, List.cons_append, List.length_cons, List.length_nil, Option.toList_some, Option.toList_none, det_e, det_x, tr_imp, fa_imp, implies_true, not_true, not_false_eq_true, and_true, true_and, nar_i, upd_s, st1_0, st1_1, st1_2, st1_3, st1_4, st1_5, st1_6, st1_7, st1_8, st1_9, st1_10, st1_11, st1_12, st1_13, st1_14, st1_15, st1_16, st1_17, st1_18, st1_19, st1_20, st1_21, st1_22, st1_23, st1_24, st1_25, st1_26, st1_27, st1_28, st1_29, st1_30, st1_31, st1_32, st1_33, st1_34, st1_35, st1_36, st1_37, st1_42, st1_43, st1_44, st1_46, st1_47, st1_48, st1_49, st1_50, st1_51, st1_52, st1_53, st1_54, st1_55, st1_56, st1_57, st1_58, st1_59, st1_60, ne_eq, fw, fu, fmi1, fmj1, fmi2, fmi3, fmi4, fmi5, fmi6, fmi7, fmi8, e0.1, e0.2.1, e1.1, e1.2.1, e1'.1, e1'.2.1, e2.1, e2.2.1, e3.1, e3.2.1, e4.1, e4.2.1, e4.2.2.1, e5.1, e5.2.1, e6.1, e6.2.1, e7.1, e7.2.1, z0, z1, z2, z3, z4, z5, z6, z7, t900, t17, t14, t12, t16, t8, n900, n17, n14, n12, n16, n8, Nat.reduceMul, Nat.zero_add, Nat.reduceAdd, Nat.reduceLeDiff]
  obtain ⟨h1, h2, h3, h4, h5, h6, h7⟩ := q8
  refine ⟨h1, h2, ⟨(h5 0 (by decide)).trans rfl, ?_, ⟨(h5 1 (by decide)).trans rfl, (h5 2 (by decide)).trans rfl, (h5 3 (by decide)).trans rfl, (h5 4 (by decide)).trans rfl, (h5 5 (by decide)).trans rfl, (h5 14 (by decide)).trans rfl, (h5 15 (by decide)).trans rfl, (h5 16 (by decide)).trans rfl⟩, fun i hi => ?_⟩, h4, h6⟩
  · rw [h3]
    exact ⟨rfl, rfl, rfl, rfl, rfl, rfl, rfl, rfl⟩
  · rw [h7 (by decide)]
    refine ⟨if_pos hi, ?_⟩
    have e := h5 (6 + i) (by omega)
    rw [← Nat.add_assoc] at e
    rw [e, up_f _ _ (show 6 + i ≠ 16 by omega), up_f _ _ (show 6 + i ≠ 15 by omega), up_f _ _ (show 6 + i ≠ 14 by omega)]
    show (if 6 + i = 5 then _ else if 5 < 6 + i then _ else _) = _
    rw [if_neg (by omega), if_pos (by omega)]
