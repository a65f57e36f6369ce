/-! ===== State ===== -/
def Ls (M : Mm) (b : Nat) : Prop := gK M b = kO 8 ∧ (gP M b 0 = b + 1 ∧ gP M b 1 = b + 10 ∧ gP M b 2 = b + 22 ∧ gP M b 3 = b + 25 ∧ gP M b 4 = b + 27 ∧ gP M b 5 = b + 30) ∧
  Lc M (b + 1) ∧ Lf M (b + 10) ∧ Lr M (b + 22) ∧ Lg M (b + 25) ∧ Lm M (b + 27) ∧ Lq M (b + 30)
/-- what enters a canal -/
def enA (M : Mm) (b : Nat) (x a : Int32) : Int32 := mnI a (gI M (b + 5) x.toNatClampNeg)
def enL (M : Mm) (b : Nat) (x a : Int32) : Int32 := enA M b x a * gI M (b + 4) x.toNatClampNeg / 100
def enK (M : Mm) (b : Nat) (x a : Int32) : Mm := sJ M (b + 30) (vp_updL (vp_updL (gJ M (b + 30)) 2 (gJ M (b + 30) 2 + (a - enA M b x a).toInt64)) 3 (gJ M (b + 30) 3 + (enL M b x a).toInt64))
def enS (M : Mm) (b : Nat) (x : Int32) : Nat := (slotv x (gI M b 6 + gI M (b + 3) x.toNatClampNeg)).toNatClampNeg
def enM (M : Mm) (b : Nat) (x a : Int32) : Mm := if gI M (b + 1) 8 ≤ x then M else sI (enK M b x a) (b + 9) (upd (gI M (b + 9)) (enS M b x) (enA M b x a - enL M b x a))
def S66 : Sem := fun as M => match as with
  | [.ref b, .int x, .int a] => sV (Ls M b ∧ (¬ gI M (b + 1) 8 ≤ x → vp_in x 16 ∧ vp_in (slotv x (gI M b 6 + gI M (b + 3) x.toNatClampNeg)) 112)) none (enM M b x a)
  | _ => sF
theorem updL_s (f : Nat → Int64) (k : Nat) (x : Int64) : vp_updL f k x k = x := if_pos rfl
theorem updL_n (f : Nat → Int64) {k j : Nat} (x : Int64) (h : j ≠ k) : vp_updL f k x j = f j := if_neg h
set_option maxRecDepth 100000 in
set_option maxHeartbeats 4000000 in
theorem s_X8_enter {l : Launch} {G : Gt} (hfl : l.stackTraces = false) : SatM l G 66 S66 := by
  refine t_X8_enter (E := fun _ => S10) hfl (s_X0_send hfl) fun as M hp => ?_
  unfold S66 at hp ⊢
  split at hp
  case h_2 => exact hp.elim
  rename_i b x a
  obtain ⟨⟨k0, ⟨p0, p1, p2, p3, p4, p5⟩, hC, hF, hR, hG, hM, hQ⟩, h1⟩ := hp
  refine ⟨Nat.le_of_ble_eq_true rfl, ?_⟩
  show Run (gT G) _ _ _ _ _ _ _ 0 [.val (.ref b), .val (.int x), .val (.int a), .unset, .unset] [] M 0 0
  obtain ⟨c0, ⟨q0, q1, q2, q3, q4, q5, q6, q7⟩, c1, c2, c3, c4, c5, c6, c7, c8⟩ := id hC
  have hC2 : ∀ f g, Lc (sJ (sJ M (b + 30) f) (b + 30) g) (b + 1) := fun f g => hC
  have n3 : ¬ (3 : Nat) = 2 := by decide
  simp only [rX8_enter_0, kX8_enter_0, rX8_enter_12, kX8_enter_12, bk_c, if_true, if_false, wi_e, wl_e, wr_e, w1_i, w1_r, ldS_0, ldS_s, vi_e, vl_e, vr_e, dpL_u, dpL_i, dpL_r, dpL_l, stS_0, stS_1, stS_s, stL_0, stL_1, stL_s, bin_0, bin_1, bin_2, bin_3, bin_4, bin_5, bdv_0, bdv_1, lbin_0, lbin_1, lbin_2, cnd_0, cnd_1, cnd_2, cnd_3, cnd_4, cnd_5, aty_0, aty_1, aty_2, aty_3, aty_4, aty_5, c8_u, cn_0, cn_i, cn_r, cn_l, Nat.reduceAdd, Nat.reduceLeDiff, Nat.le_refl, adz, hnd_0, rcv_0, rcv_1, kLen_a, kLen_r, inB_e, inR_e, cpOK_e, swt_n, swt_c, List.take_succ_cons, List.take_zero, List.drop_succ_cons, List.drop_zero, List.reverse_cons, List.reverse_nil, List.nil_append, List.cons_append, List.length_cons, List.length_nil, Option.toList_some, Option.toList_none, det_e, det_x, tr_imp, fa_imp, implies_true, not_true, not_false_eq_true, and_true, true_and, nar_i, upd_s, st1_0, st1_1, st1_2, st1_3, st1_4, st1_5, st1_6, st1_7, st1_8, st1_9, st1_10, st1_11, st1_12, st1_13, st1_14, st1_15, st1_16, st1_17, st1_18, st1_19, st1_20, st1_21, st1_22, st1_23, st1_24, st1_25, st1_26, st1_27, st1_28, st1_29, st1_30, st1_31, st1_32, st1_33, st1_34, st1_35, st1_36, st1_37, st1_42, st1_43, st1_44, st1_46, st1_47, st1_48, st1_49, st1_50, st1_51, st1_52, st1_53, st1_54, st1_55, st1_56, st1_57, st1_58, st1_59, st1_60, gK_sI, gK_sJ, gK_sP, gK_sZ, gI_sI, gI_sJ, gI_sP, gI_sZ, gJ_sI, gJ_sJ, gJ_sP, gJ_sZ, gP_sI, gP_sJ, gP_sP, gP_sZ, gZ_sI, gZ_sJ, gZ_sP, gZ_sZ, up_q, up_q0, up_q1, up_s, sI_sI, Nat.reduceEqDiff, reduceIte, Nat.succ_ne_zero, forall_const, false_imp_iff, Nat.add_assoc, k0, p0, p5, c0, q2, q3, c3, c4, hQ.1, S10, sV, hC2]
  refine ⟨fun h => ?_, fun h => ?_⟩
  · have h2 := h1 (Int32.not_le.mpr h)
    refine ⟨h2.1, h2.1, by decide, h2, ?_⟩
    unfold enM
    rw [if_neg (Int32.not_le.mpr h), sJ_sJ, updL_n _ _ (show (3 : Nat) ≠ 2 by decide)]
    rfl
  · unfold enM
    rw [if_pos (Int32.not_lt.mp h)]
/-! == what an hour may change in a State, and what it keeps == -/
def dyn (k : Nat) : Bool := k == 7 || k == 8 || k == 9 || k == 18 || k == 19 || k == 20 || k == 21 || k == 31
def SS (M N : Mm) (b : Nat) : Prop := gK N = gK M ∧ gP N = gP M ∧ gZ N = gZ M ∧ (∀ q, (q < b ∨ b + 32 ≤ q) → gI N q = gI M q ∧ gJ N q = gJ M q) ∧ (∀ k, k < 32 → dyn k = false → gI N (b + k) = gI M (b + k)) ∧ ∀ k, k < 32 → k ≠ 30 → k ≠ 29 → gJ N (b + k) = gJ M (b + k)
theorem SS.r (M : Mm) (b : Nat) : SS M M b := ⟨rfl, rfl, rfl, fun _ _ => ⟨rfl, rfl⟩, fun _ _ _ => rfl, fun _ _ _ _ => rfl⟩
theorem SS.t {M N O : Mm} {b : Nat} (h : SS M N b) (g : SS N O b) : SS M O b :=
  ⟨g.1.trans h.1, g.2.1.trans h.2.1, g.2.2.1.trans h.2.2.1, fun q hq => ⟨(g.2.2.2.1 q hq).1.trans (h.2.2.2.1 q hq).1, (g.2.2.2.1 q hq).2.trans (h.2.2.2.1 q hq).2⟩, fun k hk hd => (g.2.2.2.2.1 k hk hd).trans (h.2.2.2.2.1 k hk hd), fun k hk h1 h2 => (g.2.2.2.2.2 k hk h1 h2).trans (h.2.2.2.2.2 k hk h1 h2)⟩
theorem SS.i (M : Mm) (b i : Nat) (f : Nat → Int32) (hi : i < 32) (hd : dyn i = true) : SS M (sI M (b + i) f) b := by
  refine ⟨rfl, rfl, rfl, fun q hq => ⟨up_f _ _ (by omega), rfl⟩, fun k hk h => ?_, fun _ _ _ _ => rfl⟩
  rw [gI_sI, up_q]
  exact if_neg (fun e => by rw [e, hd] at h; cases h)
theorem SS.j (M : Mm) (b : Nat) (f : Nat → Int64) : SS M (sJ M (b + 30) f) b := by
  refine ⟨rfl, rfl, rfl, fun q hq => ⟨rfl, up_n _ _ (by omega)⟩, fun _ _ _ => rfl, fun k hk h1 _ => ?_⟩
  rw [gJ_sJ, up_q]
  exact if_neg h1
theorem SS.j9 (M : Mm) (b : Nat) (f : Nat → Int64) : SS M (sJ M (b + 29) f) b := by
  refine ⟨rfl, rfl, rfl, fun q hq => ⟨rfl, up_n _ _ (by omega)⟩, fun _ _ _ => rfl, fun k hk _ h1 => ?_⟩
  rw [gJ_sJ, up_q]
  exact if_neg h1
theorem SS.it {σ : Type} {b : Nat} (g : σ → Mm) (F : Nat → σ → σ) (hF : ∀ k z, SS (g z) (g (F k z)) b) : ∀ r i z, SS (g z) (g (itr F r i z)) b
  | 0, _, z => SS.r _ _
  | r + 1, i, z => (hF i z).t (SS.it g F hF r (i + 1) (F i z))
theorem SS.it2 {σ : Type} {b : Nat} {M : Mm} (g : σ → Mm) (F : Nat → σ → σ) (hF : ∀ k z, SS M (g z) b → SS M (g (F k z)) b) : ∀ r i z, SS M (g z) b → SS M (g (itr F r i z)) b
  | 0, _, z, h => h
  | r + 1, i, z, h => SS.it2 g F hF r (i + 1) (F i z) (hF i z h)
theorem SS.en (M : Mm) (b : Nat) (x a : Int32) : SS M (enM M b x a) b := by
  unfold enM
  split
  · exact SS.r _ _
  · exact (SS.j M b _).t (SS.i _ b 9 _ (by decide) rfl)
/-- what is so in every State that runs -/
def Ix (M : Mm) (b : Nat) : Prop := Ls M b ∧ ∃ n f r h : Nat, (n ≤ 16 ∧ f ≤ 12 ∧ r ≤ 12 ∧ h < 2 ^ 30) ∧ (gI M (b + 1) 8 = nI n ∧ gI M (b + 10) 11 = nI f ∧ gI M (b + 22) 2 = nI r ∧ gI M b 6 = nI h) ∧ cnt (gI M (b + 27) 2) 900 ∧ (∀ k, k < n → ∃ d, 1 ≤ d ∧ d ≤ 6 ∧ gI M (b + 3) k = nI d) ∧
  ∃ w p, w ≤ 10 ∧ (w = 0 ∨ p < w) ∧ p ≤ 10 ∧ gI M (b + 25) 1 = nI w ∧ gI M (b + 25) 2 = nI p
theorem Ls.ss {M N : Mm} {b : Nat} (hK : gK N = gK M) (hP : gP N = gP M) (h : Ls M b) : Ls N b := by
  unfold Ls Lc Lf Lr Lg Lm Lq at h ⊢
  rw [hK, hP]
  exact h
theorem Ix.ss {M N : Mm} {b : Nat} (h : Ix M b) (s : SS M N b) : Ix N b := by
  obtain ⟨h1, n, f, r, h, h2, ⟨e1, e2, e3, e4⟩, h3, h4, w, p, h5, h6, h7, h8, h9⟩ := h
  obtain ⟨sK, sP, -, -, sI9, -⟩ := s
  refine ⟨h1.ss sK sP, n, f, r, h, h2, ⟨by rw [sI9 1 (by decide) rfl]; exact e1, by rw [sI9 10 (by decide) rfl]; exact e2, by rw [sI9 22 (by decide) rfl]; exact e3, ?_⟩, by rw [sI9 27 (by decide) rfl]; exact h3, fun k hk => by rw [sI9 3 (by decide) rfl]; exact h4 k hk, w, p, h5, h6, h7, by rw [sI9 25 (by decide) rfl]; exact h8, by rw [sI9 25 (by decide) rfl]; exact h9⟩
  have := sI9 0 (by decide) rfl
  rw [Nat.add_zero] at this
  rw [this]
  exact e4
theorem slot_n (c h : Nat) (hh : h < 2 ^ 31) (hc : c < 2 ^ 20) : slotv (nI c) (nI h) = nI (c * 7 + h % 7) := by
  unfold slotv
  rw [show (7 : Int32) = nI 7 from rfl, pk_rem hh (by decide) (by decide), pk_mul, nI_add]
theorem slot_in {c h : Nat} (hc : c < 16) (hh : h < 2 ^ 31) : vp_in (slotv (nI c) (nI h)) 112 := by
  rw [slot_n c h hh (by omega)]
  exact vp_in_nI (by have := Nat.mod_lt h (show 7 > 0 by decide); omega) (by decide)
/-- a canal may be entered -/
theorem Ix.en {M : Mm} {b : Nat} (h : Ix M b) (x : Int32) (hx : ¬ x < 0) : ¬ gI M (b + 1) 8 ≤ x → vp_in x 16 ∧ vp_in (slotv x (gI M b 6 + gI M (b + 3) x.toNatClampNeg)) 112 := by
  obtain ⟨h1, n, f, r, h, ⟨g1, g2, g3, g4⟩, ⟨e1, e2, e3, e4⟩, h3, h4, h5⟩ := h
  intro h9
  rw [e1] at h9
  obtain ⟨j, hj, rfl⟩ := nI_of hx
  have hjn : j < n := by
    rcases Nat.lt_or_ge j n with z | z
    · exact z
    · exact absurd ((nI_leI (by omega) hj).mpr z) h9
  obtain ⟨d, d1, d2, d3⟩ := h4 j hjn
  refine ⟨vp_in_nI (by omega) (by decide), ?_⟩
  rw [nI_clamp hj, d3, e4, nI_add]
  exact slot_in (by omega) (by omega)
/-! == the guard closes gates == -/
def cgA (M : Mm) (b : Nat) (x : Int32) (k : Nat) (z : (Nat → Int32) × (Nat → Int32)) : (Nat → Int32) × (Nat → Int32) :=
  if gI M (b + 11) k = x ∧ ¬ z.1 k = 0 then (upd z.1 k 0, if ¬ gI M (b + 12) k < 0 ∧ gI M (b + 12) k < 6 then upd z.2 (gI M (b + 12) k).toNatClampNeg (z.2 (gI M (b + 12) k).toNatClampNeg + 1) else z.2) else z
def cgR (M : Mm) (b : Nat) (x : Int32) : (Nat → Int32) × (Nat → Int32) := itr (cgA M b x) (gI M (b + 10) 11).toNatClampNeg 0 (gI M (b + 21), gI M (b + 31))
def w2 (M : Mm) (b : Nat) (u v : Nat → Int32) : Mm := sI (sI M (b + 21) u) (b + 31) v
def S63 : Sem := fun as M => match as with
  | [.ref b, .int x] => sV (Ix M b) none (w2 M b (cgR M b x).1 (cgR M b x).2)
  | _ => sF
theorem w2_id (M : Mm) (b : Nat) : w2 M b (gI M (b + 21)) (gI M (b + 31)) = M := by
  unfold w2
  rw [sI_id, sI_id]
theorem w2_a (M : Mm) (b : Nat) (u v u' : Nat → Int32) : sI (w2 M b u v) (b + 21) u' = w2 M b u' v := by
  unfold w2
  rw [sI_cm (sI M (b + 21) u) _ _ (show b + 31 ≠ b + 21 by omega), sI_sI]
theorem w2_b (M : Mm) (b : Nat) (u v v' : Nat → Int32) : sI (w2 M b u v) (b + 31) v' = w2 M b u v' := sI_sI _ _ _ _
theorem gI_w2 (M : Mm) (b : Nat) (u v : Nat → Int32) (k : Nat) : gI (w2 M b u v) (b + k) = if k = 31 then v else if k = 21 then u else gI M (b + k) := by
  unfold w2
  simp only [gK_sI, gK_sJ, gK_sP, gK_sZ, gI_sI, gI_sJ, gI_sP, gI_sZ, gJ_sI, gJ_sJ, gJ_sP, gJ_sZ, gP_sI, gP_sJ, gP_sP, gP_sZ, gZ_sI, gZ_sJ, gZ_sP, gZ_sZ, up_q]
theorem gI_w20 (M : Mm) (b : Nat) (u v : Nat → Int32) : gI (w2 M b u v) b = gI M b := by
  unfold w2
  simp only [gK_sI, gK_sJ, gK_sP, gK_sZ, gI_sI, gI_sJ, gI_sP, gI_sZ, gJ_sI, gJ_sJ, gJ_sP, gJ_sZ, gP_sI, gP_sJ, gP_sP, gP_sZ, gZ_sI, gZ_sJ, gZ_sP, gZ_sZ, up_q, up_q0, up_q1, up_s, sI_sI, Nat.reduceEqDiff, reduceIte, Nat.succ_ne_zero, forall_const, false_imp_iff]
set_option maxRecDepth 100000 in
set_option maxHeartbeats 4000000 in
theorem s_X8_closeForcedGates {l : Launch} {G : Gt} (hfl : l.stackTraces = false) : SatM l G 63 S63 := by
  refine t_X8_closeForcedGates (E := fun _ => S41) hfl (s_X5_fine hfl) fun as M hp => ?_
  unfold S63 at hp ⊢
  split at hp
  case h_2 => exact hp.elim
  rename_i b x
  obtain ⟨⟨k0, ⟨p0, p1, p2, p3, p4, p5⟩, hC, hF, hR, hG, hM, hQ⟩, n, f, r, h, ⟨g1, g2, g3, g4⟩, ⟨e1, e2, e3, e4⟩, -⟩ := hp
  refine ⟨Nat.le_of_ble_eq_true rfl, ?_⟩
  show Run (gT G) _ _ _ _ _ _ _ 0 [.val (.ref b), .val (.int x), .unset] [] M 0 0
  have cl : (nI f).toNatClampNeg = f := nI_clamp (by omega)
  obtain ⟨f0, ⟨f1, f2, f3, f4, f5, f6, f7, f8, f9, f10, f11⟩, z1, z2, z3, z4, z5, z6, z7, z8, z9, z10, z11⟩ := id hF
  have hK : ∀ u v, gK (w2 M b u v) = gK M := fun u v => rfl
  have hP : ∀ u v, gP (w2 M b u v) = gP M := fun u v => rfl
  have hQ2 : ∀ u v, Lq (w2 M b u v) (b + 30) := fun u v => hQ
  simp only [Nat.add_assoc, Nat.reduceAdd] at f0 f1 f2 f3 f4 f5 f6 f7 f8 f9 f10 f11 z1 z2 z3 z4 z5 z6 z7 z8 z9 z10 z11
  have key : ∀ v i (z : (Nat → Int32) × (Nat → Int32)), i + v = f → Run (gT G) (fun _ => S41) 0 0 (fun _ _ => none) (fun v' M' => v' = none ∧ M' = w2 M b (itr (cgA M b x) v i z).1 (itr (cgA M b x) v i z).2) (fun _ _ => False) kX8_closeForcedGates 2 [.val (.ref b), .val (.int x), .val (.int (nI i))] [] (w2 M b z.1 z.2) 0 0 := by
    intro v
    induction v with
    | zero =>
      intro i z hi
      have hi2 : i = f := hi
      subst hi2
      rw [rX8_closeForcedGates_2]
      simp only [kX8_closeForcedGates_2, rX8_closeForcedGates_0, kX8_closeForcedGates_0, rX8_closeForcedGates_64, kX8_closeForcedGates_64, rX8_closeForcedGates_70, kX8_closeForcedGates_70, bk_c, if_true, if_false, wi_e, wl_e, wr_e, w1_i, w1_r, ldS_0, ldS_s, vi_e, vl_e, vr_e, dpL_u, dpL_i, dpL_r, dpL_l, stS_0, stS_1, stS_s, stL_0, stL_1, stL_s, bin_0, bin_1, bin_2, bin_3, bin_4, bin_5, bdv_0, bdv_1, lbin_0, lbin_1, lbin_2, cnd_0, cnd_1, cnd_2, cnd_3, cnd_4, cnd_5, aty_0, aty_1, aty_2, aty_3, aty_4, aty_5, c8_u, cn_0, cn_i, cn_r, cn_l, Nat.reduceAdd, Nat.reduceLeDiff, Nat.le_refl, adz, hnd_0, rcv_0, rcv_1, kLen_a, kLen_r, inB_e, inR_e, cpOK_e, swt_n, swt_c, List.take_succ_cons, List.take_zero, List.drop_succ_cons, List.drop_zero, List.reverse_cons, List.reverse_nil, List.nil_append, List.cons_append, List.length_cons, List.length_nil, Option.toList_some, Option.toList_none, det_e, det_x, tr_imp, fa_imp, implies_true, not_true, not_false_eq_true, and_true, true_and, nar_i, upd_s, st1_0, st1_1, st1_2, st1_3, st1_4, st1_5, st1_6, st1_7, st1_8, st1_9, st1_10, st1_11, st1_12, st1_13, st1_14, st1_15, st1_16, st1_17, st1_18, st1_19, st1_20, st1_21, st1_22, st1_23, st1_24, st1_25, st1_26, st1_27, st1_28, st1_29, st1_30, st1_31, st1_32, st1_33, st1_34, st1_35, st1_36, st1_37, st1_42, st1_43, st1_44, st1_46, st1_47, st1_48, st1_49, st1_50, st1_51, st1_52, st1_53, st1_54, st1_55, st1_56, st1_57, st1_58, st1_59, st1_60, up_q, up_q0, up_q1, up_s, sI_sI, Nat.reduceEqDiff, reduceIte, Nat.succ_ne_zero, forall_const, false_imp_iff, Nat.add_assoc, hK, hP, gI_w2, gI_w20, k0, p1, f0, e2, lp_out, itr]
    | succ v ih =>
      intro i z hi
      obtain ⟨a1, a2, a3, -⟩ := lp_in (i := i) (n := f) (N := 12) (by omega) g2 (by decide)
      rw [rX8_closeForcedGates_2]
      simp only [kX8_closeForcedGates_2, rX8_closeForcedGates_0, kX8_closeForcedGates_0, rX8_closeForcedGates_64, kX8_closeForcedGates_64, rX8_closeForcedGates_70, kX8_closeForcedGates_70, bk_c, if_true, if_false, wi_e, wl_e, wr_e, w1_i, w1_r, ldS_0, ldS_s, vi_e, vl_e, vr_e, dpL_u, dpL_i, dpL_r, dpL_l, stS_0, stS_1, stS_s, stL_0, stL_1, stL_s, bin_0, bin_1, bin_2, bin_3, bin_4, bin_5, bdv_0, bdv_1, lbin_0, lbin_1, lbin_2, cnd_0, cnd_1, cnd_2, cnd_3, cnd_4, cnd_5, aty_0, aty_1, aty_2, aty_3, aty_4, aty_5, c8_u, cn_0, cn_i, cn_r, cn_l, Nat.reduceAdd, Nat.reduceLeDiff, Nat.le_refl, adz, hnd_0, rcv_0, rcv_1, kLen_a, kLen_r, inB_e, inR_e, cpOK_e, swt_n, swt_c, List.take_succ_cons, List.take_zero, List.drop_succ_cons, List.drop_zero, List.reverse_cons, List.reverse_nil, List.nil_append, List.cons_append, List.length_cons, List.length_nil, Option.toList_some, Option.toList_none, det_e, det_x, tr_imp, fa_imp, implies_true, not_true, not_false_eq_true, and_true, true_and, nar_i, upd_s, st1_0, st1_1, st1_2, st1_3, st1_4, st1_5, st1_6, st1_7, st1_8, st1_9, st1_10, st1_11, st1_12, st1_13, st1_14, st1_15, st1_16, st1_17, st1_18, st1_19, st1_20, st1_21, st1_22, st1_23, st1_24, st1_25, st1_26, st1_27, st1_28, st1_29, st1_30, st1_31, st1_32, st1_33, st1_34, st1_35, st1_36, st1_37, st1_42, st1_43, st1_44, st1_46, st1_47, st1_48, st1_49, st1_50, st1_51, st1_52, st1_53, st1_54, st1_55, st1_56, st1_57, st1_58, st1_59, st1_60, up_q, up_q0, up_q1, up_s, sI_sI, Nat.reduceEqDiff, reduceIte, Nat.succ_ne_zero, forall_const, false_imp_iff, Nat.add_assoc, hK, hP, gI_w2, gI_w20, k0, p1, p5, f0, f1, z1, f2, z2, f11, z11, hQ.1, hQ2, e2, a1, a2, a3, nI_1, itr, S41, sV, w2_a]
      refine ⟨fun h => ?_, fun h => ⟨fun h2 => ?_, fun h2 => ?_⟩⟩
      · rw [show cgA M b x i z = z from if_neg fun q => h q.1]
        exact ih (i + 1) z (by omega)
      · rw [show cgA M b x i z = z from if_neg fun q => q.2 h2]
        exact ih (i + 1) z (by omega)
      · have e := ih (i + 1) (cgA M b x i z) (by omega)
        have e2 : cgA M b x i z = (upd z.1 i 0, if ¬ gI M (b + 12) i < 0 ∧ gI M (b + 12) i < 6 then upd z.2 (gI M (b + 12) i).toNatClampNeg (z.2 (gI M (b + 12) i).toNatClampNeg + 1) else z.2) := if_pos ⟨Decidable.of_not_not h, h2⟩
        have e3 : (if ¬ gI M (b + 12) i < 0 ∧ gI M (b + 12) i < 6 then sI (w2 M b (upd z.1 i (vp_nar FieldType.boolean 0)) z.2) (b + 31) (upd z.2 (gI M (b + 12) i).toNatClampNeg (z.2 (gI M (b + 12) i).toNatClampNeg + 1)) else w2 M b (upd z.1 i (vp_nar FieldType.boolean 0)) z.2) = w2 M b (cgA M b x i z).1 (cgA M b x i z).2 := by
          rw [e2]
          by_cases h4 : ¬ gI M (b + 12) i < 0 ∧ gI M (b + 12) i < 6
          · rw [if_pos h4, if_pos h4, w2_b]
            rfl
          · rw [if_neg h4, if_neg h4]
            rfl
        rw [e3]
        exact e
  have h0 := key f 0 (gI M (b + 21), gI M (b + 31)) (Nat.zero_add f)
  simp only [w2_id] at h0
  simp only [rX8_closeForcedGates_0, kX8_closeForcedGates_0, rX8_closeForcedGates_64, kX8_closeForcedGates_64, rX8_closeForcedGates_70, kX8_closeForcedGates_70, bk_c, if_true, if_false, wi_e, wl_e, wr_e, w1_i, w1_r, ldS_0, ldS_s, vi_e, vl_e, vr_e, dpL_u, dpL_i, dpL_r, dpL_l, stS_0, stS_1, stS_s, stL_0, stL_1, stL_s, bin_0, bin_1, bin_2, bin_3, bin_4, bin_5, bdv_0, bdv_1, lbin_0, lbin_1, lbin_2, cnd_0, cnd_1, cnd_2, cnd_3, cnd_4, cnd_5, aty_0, aty_1, aty_2, aty_3, aty_4, aty_5, c8_u, cn_0, cn_i, cn_r, cn_l, Nat.reduceAdd, Nat.reduceLeDiff, Nat.le_refl, adz, hnd_0, rcv_0, rcv_1, kLen_a, kLen_r, inB_e, inR_e, cpOK_e, swt_n, swt_c, List.take_succ_cons, List.take_zero, List.drop_succ_cons, List.drop_zero, List.reverse_cons, List.reverse_nil, List.nil_append, List.cons_append, List.length_cons, List.length_nil, Option.toList_some, Option.toList_none, det_e, det_x, tr_imp, fa_imp, implies_true, not_true, not_false_eq_true, and_true, true_and, nar_i, upd_s, st1_0, st1_1, st1_2, st1_3, st1_4, st1_5, st1_6, st1_7, st1_8, st1_9, st1_10, st1_11, st1_12, st1_13, st1_14, st1_15, st1_16, st1_17, st1_18, st1_19, st1_20, st1_21, st1_22, st1_23, st1_24, st1_25, st1_26, st1_27, st1_28, st1_29, st1_30, st1_31, st1_32, st1_33, st1_34, st1_35, st1_36, st1_37, st1_42, st1_43, st1_44, st1_46, st1_47, st1_48, st1_49, st1_50, st1_51, st1_52, st1_53, st1_54, st1_55, st1_56, st1_57, st1_58, st1_59, st1_60, cgR, e2, cl]
  exact h0
/-! == what is left goes on to the open children == -/
def dvS (M : Mm) (b : Nat) (x : Int32) : Int32 := itr (shA M (b + 1) x) ((gI M (b + 1) 8).toNatClampNeg - (x.toNatClampNeg + 1)) (x.toNatClampNeg + 1) 0
def dvF (M : Mm) (b : Nat) (x : Int32) : Int32 := foA M (b + 1) x ((gI M (b + 1) 8).toNatClampNeg - (x.toNatClampNeg + 1)) (x.toNatClampNeg + 1)
def dvA (b : Nat) (x rest sh : Int32) (k : Nat) (z : Mm × Int32) : Mm × Int32 :=
  if gI z.1 (b + 2) k = x ∧ ¬ gI z.1 (b + 8) k = 0 then (enM z.1 b (nI k) (rest * gI z.1 (b + 6) k / sh), z.2 - rest * gI z.1 (b + 6) k / sh) else z
def dvR (M : Mm) (b : Nat) (x rest : Int32) : Mm × Int32 := itr (dvA b x rest (dvS M b x)) ((gI M (b + 1) 8).toNatClampNeg - ((dvF M b x).toNatClampNeg + 1)) ((dvF M b x).toNatClampNeg + 1) (M, rest)
def dvM (M : Mm) (b : Nat) (x rest : Int32) : Mm :=
  if dvS M b x ≤ 0 ∨ dvF M b x < 0 then sJ M (b + 30) (vp_updL (gJ M (b + 30)) 2 (gJ M (b + 30) 2 + rest.toInt64))
  else enM (dvR M b x rest).1 b (dvF M b x) (dvR M b x rest).2
theorem foA_or (M : Mm) (c : Nat) (x : Int32) : ∀ r i, foA M c x r i = -1 ∨ ∃ j, i ≤ j ∧ j < i + r ∧ foA M c x r i = nI j
  | 0, _ => Or.inl rfl
  | r + 1, i => by
    unfold foA
    split
    · exact Or.inr ⟨i, Nat.le_refl i, by omega, rfl⟩
    · rcases foA_or M c x r (i + 1) with h | ⟨j, h1, h2, h3⟩
      · exact Or.inl h
      · exact Or.inr ⟨j, by omega, by omega, h3⟩
theorem ss_dvA {M : Mm} {b : Nat} (x rest sh : Int32) (k : Nat) (z : Mm × Int32) (h : SS M z.1 b) : SS M (dvA b x rest sh k z).1 b := by
  unfold dvA
  split
  · exact h.t (SS.en _ _ _ _)
  · exact h
theorem SS.dv {M : Mm} {b : Nat} (x rest : Int32) : SS M (dvM M b x rest) b := by
  unfold dvM
  split
  · exact SS.j M b _
  · exact (SS.it2 (fun z : Mm × Int32 => z.1) _ (fun k z h => ss_dvA x rest _ k z h) _ _ (M, rest) (SS.r M b)).t (SS.en _ _ _ _)
def S65 : Sem := fun as M => match as with
  | [.ref b, .int x, .int rest] => sV (Ix M b ∧ vp_in x 16) none (dvM M b x rest)
  | _ => sF
def eX8_divide : Nat → Sem := fun id => if id = 3 then S3 else if id = 5 then S5 else if id = 9 then S9 else S66
set_option maxRecDepth 100000 in
set_option maxHeartbeats 4000000 in
theorem s_X8_divide {l : Launch} {G : Gt} (hfl : l.stackTraces = false) : SatM l G 65 S65 := by
  refine t_X8_divide (E := eX8_divide) hfl (s_X0_firstOpenChild hfl) (s_X0_isOpenChild hfl) (s_X0_openShares hfl) (s_X8_enter hfl) fun as M hp => ?_
  unfold S65 at hp ⊢
  split at hp
  case h_2 => exact hp.elim
  rename_i b x rest
  obtain ⟨hI, hx⟩ := hp
  refine ⟨Nat.le_of_ble_eq_true rfl, ?_⟩
  show Run (gT G) _ _ _ _ _ _ _ 0 [.val (.ref b), .val (.int x), .val (.int rest), .unset, .unset, .unset, .unset, .unset] [] M 0 0
  obtain ⟨⟨k0, ⟨p0, p1, p2, p3, p4, p5⟩, hC, hF, hR, hG, hM, hQ⟩, n, f, r, h, ⟨g1, g2, g3, g4⟩, ⟨e1, e2, e3, e4⟩, -⟩ := id hI
  have cl : (nI n).toNatClampNeg = n := nI_clamp (by omega)
  obtain ⟨j, hj, rfl⟩ := vp_in_of hx (by decide)
  have cj : (nI j).toNatClampNeg = j := nI_clamp (by omega)
  obtain ⟨c0, ⟨q0, q1, q2, q3, q4, q5, q6, q7⟩, c1, c2, c3, c4, c5, c6, c7, c8⟩ := id hC
  simp only [Nat.add_assoc, Nat.reduceAdd] at c0 q0 q1 q2 q3 q4 q5 q6 q7 c1 c2 c3 c4 c5 c6 c7 c8
  have key : ∀ v i (z : Mm × Int32) (sh fi : Int32) (u : Slot), i + v = n ∨ (v = 0 ∧ n ≤ i ∧ i ≤ 17) → ¬ sh ≤ 0 → ¬ fi < 0 → SS M z.1 b → Run (gT G) eX8_divide 0 0 (fun _ _ => none) (fun v' M' => v' = none ∧ M' = enM (itr (dvA b (nI j) rest sh) v i z).1 b fi (itr (dvA b (nI j) rest sh) v i z).2) (fun _ _ => False) kX8_divide 52 [.val (.ref b), .val (.int (nI j)), .val (.int rest), .val (.int sh), .val (.int fi), .val (.int z.2), .val (.int (nI i)), u] [] z.1 0 0 := by
    intro v
    induction v with
    | zero =>
      intro i z sh fi u hi hs hf hz
      have a1 : (nI n ≤ nI i) = True := eq_true ((nI_leI (by omega) (by omega)).mpr (by omega))
      have hJ := hI.ss hz
      obtain ⟨zK, zP, -, -, z9, -⟩ := id hz
      have i1 : gI z.1 (b + 1) 8 = nI n := by rw [z9 1 (by decide) rfl]; exact e1
      have hE := hJ.en fi hf
      rw [i1] at hE
      rw [rX8_divide_52]
      simp only [kX8_divide_52, rX8_divide_0, kX8_divide_0, rX8_divide_28, kX8_divide_28, rX8_divide_43, kX8_divide_43, rX8_divide_108, kX8_divide_108, rX8_divide_114, kX8_divide_114, eX8_divide, S3, S5, S9, S66, bk_c, if_true, if_false, wi_e, wl_e, wr_e, w1_i, w1_r, ldS_0, ldS_s, vi_e, vl_e, vr_e, dpL_u, dpL_i, dpL_r, dpL_l, stS_0, stS_1, stS_s, stL_0, stL_1, stL_s, bin_0, bin_1, bin_2, bin_3, bin_4, bin_5, bdv_0, bdv_1, lbin_0, lbin_1, lbin_2, cnd_0, cnd_1, cnd_2, cnd_3, cnd_4, cnd_5, aty_0, aty_1, aty_2, aty_3, aty_4, aty_5, c8_u, cn_0, cn_i, cn_r, cn_l, Nat.reduceAdd, Nat.reduceLeDiff, Nat.le_refl, adz, hnd_0, rcv_0, rcv_1, kLen_a, kLen_r, inB_e, inR_e, cpOK_e, swt_n, swt_c, List.take_succ_cons, List.take_zero, List.drop_succ_cons, List.drop_zero, List.reverse_cons, List.reverse_nil, List.nil_append, List.cons_append, List.length_cons, List.length_nil, Option.toList_some, Option.toList_none, det_e, det_x, tr_imp, fa_imp, implies_true, not_true, not_false_eq_true, and_true, true_and, nar_i, upd_s, st1_0, st1_1, st1_2, st1_3, st1_4, st1_5, st1_6, st1_7, st1_8, st1_9, st1_10, st1_11, st1_12, st1_13, st1_14, st1_15, st1_16, st1_17, st1_18, st1_19, st1_20, st1_21, st1_22, st1_23, st1_24, st1_25, st1_26, st1_27, st1_28, st1_29, st1_30, st1_31, st1_32, st1_33, st1_34, st1_35, st1_36, st1_37, st1_42, st1_43, st1_44, st1_46, st1_47, st1_48, st1_49, st1_50, st1_51, st1_52, st1_53, st1_54, st1_55, st1_56, st1_57, st1_58, st1_59, st1_60, up_q, up_q0, up_q1, up_s, sI_sI, Nat.reduceEqDiff, reduceIte, Nat.succ_ne_zero, forall_const, false_imp_iff, Nat.add_assoc, zK, zP, k0, p0, c0, i1, a1, sV, itr]
      exact ⟨hJ.1, hE⟩
    | succ v ih =>
      intro i z sh fi u hi hs hf hz
      obtain ⟨a1, a2, a3, -⟩ := lp_in (i := i) (n := n) (N := 16) (by omega) g1 (by decide)
      have hJ := hI.ss hz
      obtain ⟨zK, zP, -, -, z9, -⟩ := id hz
      have i1 : gI z.1 (b + 1) 8 = nI n := by rw [z9 1 (by decide) rfl]; exact e1
      have hE := hJ.en (nI i) (nI_pos (by omega))
      rw [i1] at hE
      have hC2 : Lc z.1 (b + 1) := hJ.1.2.2.1
      rw [rX8_divide_52]
      simp only [kX8_divide_52, rX8_divide_0, kX8_divide_0, rX8_divide_28, kX8_divide_28, rX8_divide_43, kX8_divide_43, rX8_divide_108, kX8_divide_108, rX8_divide_114, kX8_divide_114, eX8_divide, S3, S5, S9, S66, bk_c, if_true, if_false, wi_e, wl_e, wr_e, w1_i, w1_r, ldS_0, ldS_s, vi_e, vl_e, vr_e, dpL_u, dpL_i, dpL_r, dpL_l, stS_0, stS_1, stS_s, stL_0, stL_1, stL_s, bin_0, bin_1, bin_2, bin_3, bin_4, bin_5, bdv_0, bdv_1, lbin_0, lbin_1, lbin_2, cnd_0, cnd_1, cnd_2, cnd_3, cnd_4, cnd_5, aty_0, aty_1, aty_2, aty_3, aty_4, aty_5, c8_u, cn_0, cn_i, cn_r, cn_l, Nat.reduceAdd, Nat.reduceLeDiff, Nat.le_refl, adz, hnd_0, rcv_0, rcv_1, kLen_a, kLen_r, inB_e, inR_e, cpOK_e, swt_n, swt_c, List.take_succ_cons, List.take_zero, List.drop_succ_cons, List.drop_zero, List.reverse_cons, List.reverse_nil, List.nil_append, List.cons_append, List.length_cons, List.length_nil, Option.toList_some, Option.toList_none, det_e, det_x, tr_imp, fa_imp, implies_true, not_true, not_false_eq_true, and_true, true_and, nar_i, upd_s, st1_0, st1_1, st1_2, st1_3, st1_4, st1_5, st1_6, st1_7, st1_8, st1_9, st1_10, st1_11, st1_12, st1_13, st1_14, st1_15, st1_16, st1_17, st1_18, st1_19, st1_20, st1_21, st1_22, st1_23, st1_24, st1_25, st1_26, st1_27, st1_28, st1_29, st1_30, st1_31, st1_32, st1_33, st1_34, st1_35, st1_36, st1_37, st1_42, st1_43, st1_44, st1_46, st1_47, st1_48, st1_49, st1_50, st1_51, st1_52, st1_53, st1_54, st1_55, st1_56, st1_57, st1_58, st1_59, st1_60, up_q, up_q0, up_q1, up_s, sI_sI, Nat.reduceEqDiff, reduceIte, Nat.succ_ne_zero, forall_const, false_imp_iff, Nat.add_assoc, zK, zP, k0, p0, q4, c5, c0, i1, a1, a2, a3, nI_1, b9_0, sV, itr, hC2]
      refine ⟨fun h => ?_, fun h => ⟨fun h2 => hs (by rw [h2]; exact Int32.le_refl _), ?_, ?_⟩⟩
      · rw [show dvA b (nI j) rest sh i z = z from if_neg h]
        exact ih (i + 1) z sh fi u (by omega) hs hf hz
      · refine ⟨hJ.1, ?_⟩
        rw [a3] at hE
        exact (hE (by rw [a1]; exact id)).2
      · have h3 := ih (i + 1) (dvA b (nI j) rest sh i z) sh fi (.val (.int (rest * gI z.1 (b + 6) i / sh))) (by omega) hs hf (ss_dvA _ _ _ _ _ hz)
        rw [show dvA b (nI j) rest sh i z = (enM z.1 b (nI i) (rest * gI z.1 (b + 6) i / sh), z.2 - rest * gI z.1 (b + 6) i / sh) from if_pos (Decidable.not_not.mp h)] at h3 ⊢
        exact h3
  simp only [rX8_divide_0, kX8_divide_0, rX8_divide_28, kX8_divide_28, rX8_divide_43, kX8_divide_43, rX8_divide_108, kX8_divide_108, rX8_divide_114, kX8_divide_114, eX8_divide, S3, S5, S9, S66, bk_c, if_true, if_false, wi_e, wl_e, wr_e, w1_i, w1_r, ldS_0, ldS_s, vi_e, vl_e, vr_e, dpL_u, dpL_i, dpL_r, dpL_l, stS_0, stS_1, stS_s, stL_0, stL_1, stL_s, bin_0, bin_1, bin_2, bin_3, bin_4, bin_5, bdv_0, bdv_1, lbin_0, lbin_1, lbin_2, cnd_0, cnd_1, cnd_2, cnd_3, cnd_4, cnd_5, aty_0, aty_1, aty_2, aty_3, aty_4, aty_5, c8_u, cn_0, cn_i, cn_r, cn_l, Nat.reduceAdd, Nat.reduceLeDiff, Nat.le_refl, adz, hnd_0, rcv_0, rcv_1, kLen_a, kLen_r, inB_e, inR_e, cpOK_e, swt_n, swt_c, List.take_succ_cons, List.take_zero, List.drop_succ_cons, List.drop_zero, List.reverse_cons, List.reverse_nil, List.nil_append, List.cons_append, List.length_cons, List.length_nil, Option.toList_some, Option.toList_none, det_e, det_x, tr_imp, fa_imp, implies_true, not_true, not_false_eq_true, and_true, true_and, nar_i, upd_s, st1_0, st1_1, st1_2, st1_3, st1_4, st1_5, st1_6, st1_7, st1_8, st1_9, st1_10, st1_11, st1_12, st1_13, st1_14, st1_15, st1_16, st1_17, st1_18, st1_19, st1_20, st1_21, st1_22, st1_23, st1_24, st1_25, st1_26, st1_27, st1_28, st1_29, st1_30, st1_31, st1_32, st1_33, st1_34, st1_35, st1_36, st1_37, st1_42, st1_43, st1_44, st1_46, st1_47, st1_48, st1_49, st1_50, st1_51, st1_52, st1_53, st1_54, st1_55, st1_56, st1_57, st1_58, st1_59, st1_60, up_q, up_q0, up_q1, up_s, sI_sI, Nat.reduceEqDiff, reduceIte, Nat.succ_ne_zero, forall_const, false_imp_iff, Nat.add_assoc, k0, p0, p5, c0, sV, hC, hx, hQ.1]
  refine ⟨⟨n, g1, e1⟩, ⟨n, g1, e1⟩, fun h => ?_, fun h => ⟨fun h2 => ?_, fun h2 => ?_⟩⟩
  · unfold dvM
    exact (if_pos (Or.inl h)).symm
  · have hm : ∃ m, m < 16 ∧ dvF M b (nI j) = nI m := by
      rcases foA_or M (b + 1) (nI j) ((gI M (b + 1) 8).toNatClampNeg - ((nI j).toNatClampNeg + 1)) ((nI j).toNatClampNeg + 1) with q | ⟨m, q1, q2, q3⟩
      · rw [q] at h2
        exact absurd h2 (by decide)
      · rw [e1, cl, cj] at q2
        rw [cj] at q1
        exact ⟨m, by omega, q3⟩
    obtain ⟨m, hm1, hm2⟩ := hm
    have h3 := key ((gI M (b + 1) 8).toNatClampNeg - ((dvF M b (nI j)).toNatClampNeg + 1)) (m + 1) (M, rest) (dvS M b (nI j)) (dvF M b (nI j)) .unset (by rw [hm2, e1, cl, nI_clamp (by omega)]; omega) h (Int32.not_lt.mpr h2) (SS.r M b)
    rw [show dvM M b (nI j) rest = enM (dvR M b (nI j) rest).1 b (dvF M b (nI j)) (dvR M b (nI j) rest).2 from if_neg (fun q => q.elim h (Int32.not_lt.mpr h2))]
    unfold dvR
    rw [show (dvF M b (nI j)).toNatClampNeg + 1 = m + 1 from by rw [hm2, nI_clamp (by omega)]] at h3 ⊢
    rw [show foA M (b + 1) (nI j) ((gI M (b + 1) 8).toNatClampNeg - ((nI j).toNatClampNeg + 1)) ((nI j).toNatClampNeg + 1) + 1 = nI (m + 1) from by rw [show foA M (b + 1) (nI j) ((gI M (b + 1) 8).toNatClampNeg - ((nI j).toNatClampNeg + 1)) ((nI j).toNatClampNeg + 1) = nI m from hm2, nI_1]]
    exact h3
  · unfold dvM
    exact (if_pos (Or.inr (Int32.not_le.mp h2))).symm

/-! == an hour == -/
theorem Ix.cC {M : Mm} {b : Nat} (h : Ix M b) : cnt (gI M (b + 1) 8) 16 := by
  obtain ⟨-, n, f, r, t, h2, h3, -⟩ := h
  exact ⟨n, h2.1, h3.1⟩
theorem Ix.cF {M : Mm} {b : Nat} (h : Ix M b) : cnt (gI M (b + 10) 11) 12 := by
  obtain ⟨-, n, f, r, t, h2, h3, -⟩ := h
  exact ⟨f, h2.2.1, h3.2.1⟩
theorem Ix.cR {M : Mm} {b : Nat} (h : Ix M b) : cnt (gI M (b + 22) 2) 12 := by
  obtain ⟨-, n, f, r, t, h2, h3, -⟩ := h
  exact ⟨r, h2.2.2.1, h3.2.2.1⟩
theorem Ix.cM {M : Mm} {b : Nat} (h : Ix M b) : cnt (gI M (b + 27) 2) 900 := by
  obtain ⟨-, n, f, r, t, h2, h3, h4, -⟩ := h
  exact h4
theorem Ix.la {M : Mm} {b : Nat} (h : Ix M b) {i : Nat} (hi : i < 16) : vp_in (slotv (nI i) (gI M b 6)) 112 := by
  obtain ⟨-, n, f, r, t, h2, h3, -⟩ := h
  rw [h3.2.2.2]
  exact slot_in hi (by omega)
theorem Ix.wk {M : Mm} {b : Nat} (h : Ix M b) : Ix (wkM M (b + 25)) b ∧ plP (wkM M (b + 25)) (b + 25) := by
  obtain ⟨h1, n, f, r, h, h2, ⟨e1, e2, e3, e4⟩, h3, h4, w, p, h5, h6, h7, h8, h9⟩ := h
  have hw : ∃ p', p' ≤ 10 ∧ (w = 0 ∨ p' < w) ∧ (if gI M (b + 25) 2 + 1 < gI M (b + 25) 1 then gI M (b + 25) 2 + 1 else 0) = nI p' := by
    rw [h8, h9, nI_1]
    by_cases q : p + 1 < w
    · exact ⟨p + 1, by omega, Or.inr q, if_pos ((nI_ltI (by omega) (by omega)).mpr q)⟩
    · exact ⟨0, by omega, by omega, if_neg (fun z => q ((nI_ltI (by omega) (by omega)).mp z))⟩
  obtain ⟨p', w1, w2, w3⟩ := hw
  have hG : gI (wkM M (b + 25)) (b + 25) 2 = nI p' := by
    unfold wkM
    rw [gI_sI, up_s, upd_s]
    exact w3
  have hG1 : gI (wkM M (b + 25)) (b + 25) 1 = nI w := by
    unfold wkM
    rw [gI_sI, up_s, upd_n _ _ (by decide)]
    exact h8
  have hO : ∀ k, k ≠ 25 → gI (wkM M (b + 25)) (b + k) = gI M (b + k) := fun k hk => by
    unfold wkM
    rw [gI_sI, up_q, if_neg hk]
  have hO0 : gI (wkM M (b + 25)) b = gI M b := hO 0 (by decide)
  refine ⟨⟨h1.ss rfl rfl, n, f, r, h, h2, ⟨by rw [hO 1 (by decide)]; exact e1, by rw [hO 10 (by decide)]; exact e2, by rw [hO 22 (by decide)]; exact e3, by rw [hO0]; exact e4⟩, by rw [hO 27 (by decide)]; exact h3, by rw [hO 3 (by decide)]; exact h4, w, p', h5, w2, w1, hG1, hG⟩, ?_⟩
  unfold plP
  rw [hG, hG1]
  intro q
  have := (nI_ltI (by omega) (by omega)).mp q
  exact vp_in_nI (by omega) (by decide)
def phT (M : Mm) (b : Nat) : Int32 := villV M (b + 22) (gI M b 6)
def phA (M : Mm) (b : Nat) : Int32 := fmV ((fmR M (b + 27) (gI M b 6) (phT M b)).2 0)
def ph1 (M : Mm) (b : Nat) : Mm := sJ M (b + 29) (fmR M (b + 27) (gI M b 6) (phT M b)).2
def ph2 (M : Mm) (b : Nat) : Mm := sJ (ph1 M b) (b + 30) (vp_updL (gJ (ph1 M b) (b + 30)) 1 (gJ (ph1 M b) (b + 30) 1 + (phA M b).toInt64))
def ph3 (M : Mm) (b : Nat) : Mm := enM (ph2 M b) b 0 (phA M b)
def ph4 (M : Mm) (b : Nat) : Mm := opP (ph3 M b) (b + 1) (gI (ph3 M b) (b + 1) 8).toNatClampNeg (sI (ph3 M b) (b + 8) (mkO (ph3 M b) (b + 10) (b + 1) (phT M b)))
def laM (N : Mm) (b k : Nat) : Mm := sI (sI N (b + 7) (upd (gI N (b + 7)) k (gI N (b + 9) (slotv (nI k) (gI N b 6)).toNatClampNeg))) (b + 9) (upd (gI N (b + 9)) (slotv (nI k) (gI N b 6)).toNatClampNeg 0)
def laV (N : Mm) (b k : Nat) : Int32 := gI N (b + 9) (slotv (nI k) (gI N b 6)).toNatClampNeg
def tkQ (t : Int32) (b k : Nat) (N : Mm) : T3 := tkR (laM N b k) (b + 10) (nI k) (laV N b k) t
def tkN (t : Int32) (b k : Nat) (N : Mm) : Mm := w3 (laM N b k) (b + 10) (tkQ t b k N).2.1 (tkQ t b k N).2.2.1 (tkQ t b k N).2.2.2
def phB (b : Nat) (t : Int32) (k : Nat) (z : Mm × Int32) : Mm × Int32 :=
  (if (tkQ t b k z.1).1 ≤ 0 then tkN t b k z.1 else dvM (tkN t b k z.1) b (nI k) (tkQ t b k z.1).1, z.2 + (laV z.1 b k - (tkQ t b k z.1).1))
def ph5 (M : Mm) (b : Nat) : Mm × Int32 := itr (phB b (phT M b)) (gI M (b + 1) 8).toNatClampNeg 0 (ph4 M b, 0)
def sp1 (b k : Nat) (N : Mm) : Mm := sI N (b + 18) (upd (gI N (b + 18)) k (gI N (b + 18) k - spM N (b + 10) k))
def sp2 (b k : Nat) (N : Mm) : Mm := sJ (sp1 b k N) (b + 30) (vp_updL (gJ N (b + 30)) 4 (gJ N (b + 30) 4 + (spM N (b + 10) k).toInt64))
def ovV (b k : Nat) (N : Mm) : Int32 := if blw N (b + 10) (nI k) then exM N (b + 10) k else 0
def ov1 (b k : Nat) (N : Mm) : Mm := sI N (b + 18) (if blw N (b + 10) (nI k) then ovW N (b + 10) k else upd (ovW N (b + 10) k) (gI N (b + 17) k).toNatClampNeg (ovW N (b + 10) k (gI N (b + 17) k).toNatClampNeg + exM N (b + 10) k))
def ov2 (b k : Nat) (N : Mm) : Mm := sJ (ov1 b k N) (b + 30) (vp_updL (gJ N (b + 30)) 2 (gJ N (b + 30) 2 + (ovV b k N).toInt64))
def phC (b k : Nat) (N : Mm) : Mm := ov2 b k (sp2 b k N)
def phD (b : Nat) : Nat → Mm → Mm
  | 0, N => N
  | k + 1, N => phD b k (phC b k N)
def ph6 (M : Mm) (b : Nat) : Mm := phD b (gI M (b + 10) 11).toNatClampNeg (ph5 M b).1
def ph7 (M : Mm) (b : Nat) : Mm := wkM (ph6 M b) (b + 25)
def ph8 (M : Mm) (b : Nat) : Mm := w2 (ph7 M b) b (cgR (ph7 M b) b (plM (ph7 M b) (b + 25))).1 (cgR (ph7 M b) b (plM (ph7 M b) (b + 25))).2
def phM (M : Mm) (b : Nat) : Mm := sI (ph8 M b) b (upd (gI (ph8 M b) b) 6 (gI (ph8 M b) b 6 + 1))
theorem SS.op {M : Mm} {b : Nat} (M0 : Mm) : ∀ n N, SS M N b → SS M (opP M0 (b + 1) n N) b
  | 0, _, h => h
  | k + 1, N, h => by
    unfold opP
    split
    · exact h
    · refine SS.op M0 k _ ?_
      split
      · exact h
      · exact h.t (SS.i N b 8 _ (by decide) rfl)
theorem ss_tk {M : Mm} {b : Nat} (t : Int32) (k : Nat) (N : Mm) (h : SS M N b) : SS M (tkN t b k N) b := by
  have h1 : SS M (laM N b k) b := (h.t (SS.i N b 7 _ (by decide) rfl)).t (SS.i _ b 9 _ (by decide) rfl)
  exact ((h1.t (SS.i _ b 18 _ (by decide) rfl)).t (SS.i _ b 19 _ (by decide) rfl)).t (SS.i _ b 20 _ (by decide) rfl)
theorem ss_pB {M : Mm} {b : Nat} (t : Int32) (k : Nat) (z : Mm × Int32) (h : SS M z.1 b) : SS M (phB b t k z).1 b := by
  unfold phB
  dsimp only
  split
  · exact ss_tk t k _ h
  · exact (ss_tk t k _ h).t (SS.dv _ _)
theorem ss_sp {M : Mm} {b : Nat} (k : Nat) (N : Mm) (h : SS M N b) : SS M (sp2 b k N) b := (h.t (SS.i N b 18 _ (by decide) rfl)).t (SS.j _ b _)
theorem ss_pC {M : Mm} {b : Nat} (k : Nat) (N : Mm) (h : SS M N b) : SS M (phC b k N) b :=
  ((ss_sp k N h).t (SS.i _ b 18 _ (by decide) rfl)).t (SS.j _ b _)
theorem ss_pD {M : Mm} {b : Nat} : ∀ k N, SS M N b → SS M (phD b k N) b
  | 0, _, h => h
  | k + 1, N, h => ss_pD k _ (ss_pC k N h)
theorem ss_1 (M : Mm) (b : Nat) : SS M (ph1 M b) b := SS.j9 M b _
theorem ss_2 (M : Mm) (b : Nat) : SS M (ph2 M b) b := (ss_1 M b).t (SS.j _ b _)
theorem ss_3 (M : Mm) (b : Nat) : SS M (ph3 M b) b := (ss_2 M b).t (SS.en _ _ _ _)
theorem ss_4 (M : Mm) (b : Nat) : SS M (ph4 M b) b := SS.op _ _ _ ((ss_3 M b).t (SS.i _ b 8 _ (by decide) rfl))
theorem ss_5 (M : Mm) (b : Nat) : SS M (ph5 M b).1 b := SS.it2 (fun z : Mm × Int32 => z.1) _ (fun k z h => ss_pB _ k z h) _ _ (ph4 M b, 0) (ss_4 M b)
theorem ss_6 (M : Mm) (b : Nat) : SS M (ph6 M b) b := ss_pD _ _ (ss_5 M b)
theorem nI_sub1 (n : Nat) : nI n - 1 = nI n + -1 := Int32.sub_eq_add_neg _ _
def S69 : Sem := fun as M => match as with
  | [.ref b] => sV (Ix M b) (some (.int (ph5 M b).2)) (phM M b)
  | _ => sF
def eX8_passHour : Nat → Sem := fun id => if id = 6 then S6 else if id = 19 then S19 else if id = 21 then S21 else if id = 22 then S22 else if id = 23 then S23 else if id = 29 then S29 else if id = 36 then S36 else if id = 46 then S46 else if id = 63 then S63 else if id = 65 then S65 else S66
set_option maxRecDepth 100000 in
set_option maxHeartbeats 4000000 in
theorem s_X8_passHour {l : Launch} {G : Gt} (hfl : l.stackTraces = false) : SatM l G 69 S69 := by
  refine t_X8_passHour (E := eX8_passHour) hfl (s_X0_letArrive hfl) (s_X1_markOpenCanals hfl) (s_X1_overflow hfl) (s_X1_seepAway hfl) (s_X1_takeFrom hfl) (s_X2_inflowIn hfl) (s_X3_walk hfl) (s_X6_villageIn hfl) (s_X8_closeForcedGates hfl) (s_X8_divide hfl) (s_X8_enter hfl) fun as M hp => ?_
  unfold S69 at hp ⊢
  split at hp
  case h_2 => exact hp.elim
  rename_i b
  obtain ⟨hL, hI2⟩ := hp
  refine ⟨Nat.le_of_ble_eq_true rfl, ?_⟩
  show Run (gT G) _ _ _ _ _ _ _ 0 [.val (.ref b), .unset, .unset, .unset, .unset, .unset, .unset] [] M 0 0
  have hI : Ix M b := ⟨hL, hI2⟩
  obtain ⟨⟨k0, ⟨p0, p1, p2, p3, p4, p5⟩, hC, hF, hR, hG, hM, hQ⟩, n, f, r, h, ⟨g1, g2, g3, g4⟩, ⟨e1, e2, e3, e4⟩, -⟩ := id hI
  have cl : (nI n).toNatClampNeg = n := nI_clamp (by omega)
  have hwK : ∀ (N : Mm) g, gK (wkM N g) = gK N := fun _ _ => rfl
  have hwP : ∀ (N : Mm) g, gP (wkM N g) = gP N := fun _ _ => rfl
  have h2K : ∀ (N : Mm) u v, gK (w2 N b u v) = gK N := fun _ _ _ => rfl
  have h2P : ∀ (N : Mm) u v, gP (w2 N b u v) = gP N := fun _ _ _ => rfl
  have key2 : ∀ k (N : Mm) (t a u v : Slot) (sm : Int32), k ≤ f → SS M N b → phD b k N = ph6 M b → Run (gT G) eX8_passHour 0 0 (fun _ _ => none) (fun v' M' => v' = some (.int sm) ∧ M' = phM M b) (fun _ _ => False) kX8_passHour 141 [.val (.ref b), t, a, .val (.int sm), .val (.int (nI k + -1)), u, v] [] N 0 0 := by
    intro k
    induction k with
    | zero =>
      intro N t a u v sm hk hN hp
      have hJ := hI.ss hN
      have hW := hJ.wk
      have a1 : (nI 0 + -1 < 0) = True := eq_true (by decide)
      have hG2 := hJ.1.2.2.2.2.2.1
      obtain ⟨zK, zP, -⟩ := id hN
      rw [rX8_passHour_141]
      simp only [kX8_passHour_141, rX8_passHour_0, kX8_passHour_0, rX8_passHour_124, kX8_passHour_124, rX8_passHour_130, kX8_passHour_130, rX8_passHour_196, kX8_passHour_196, eX8_passHour, S6, S19, S21, S22, S23, S29, S36, S46, S63, S65, S66, bk_c, if_true, if_false, wi_e, wl_e, wr_e, w1_i, w1_r, ldS_0, ldS_s, vi_e, vl_e, vr_e, dpL_u, dpL_i, dpL_r, dpL_l, stS_0, stS_1, stS_s, stL_0, stL_1, stL_s, bin_0, bin_1, bin_2, bin_3, bin_4, bin_5, bdv_0, bdv_1, lbin_0, lbin_1, lbin_2, cnd_0, cnd_1, cnd_2, cnd_3, cnd_4, cnd_5, aty_0, aty_1, aty_2, aty_3, aty_4, aty_5, c8_u, cn_0, cn_i, cn_r, cn_l, Nat.reduceAdd, Nat.reduceLeDiff, Nat.le_refl, adz, hnd_0, rcv_0, rcv_1, kLen_a, kLen_r, inB_e, inR_e, cpOK_e, swt_n, swt_c, List.take_succ_cons, List.take_zero, List.drop_succ_cons, List.drop_zero, List.reverse_cons, List.reverse_nil, List.nil_append, List.cons_append, List.length_cons, List.length_nil, Option.toList_some, Option.toList_none, det_e, det_x, tr_imp, fa_imp, implies_true, not_true, not_false_eq_true, and_true, true_and, nar_i, upd_s, st1_0, st1_1, st1_2, st1_3, st1_4, st1_5, st1_6, st1_7, st1_8, st1_9, st1_10, st1_11, st1_12, st1_13, st1_14, st1_15, st1_16, st1_17, st1_18, st1_19, st1_20, st1_21, st1_22, st1_23, st1_24, st1_25, st1_26, st1_27, st1_28, st1_29, st1_30, st1_31, st1_32, st1_33, st1_34, st1_35, st1_36, st1_37, st1_42, st1_43, st1_44, st1_46, st1_47, st1_48, st1_49, st1_50, st1_51, st1_52, st1_53, st1_54, st1_55, st1_56, st1_57, st1_58, st1_59, st1_60, up_q, up_q0, up_q1, up_s, sI_sI, Nat.reduceEqDiff, reduceIte, Nat.succ_ne_zero, forall_const, false_imp_iff, Nat.add_assoc, sV, a1, hwK, hwP, h2K, h2P, zK, zP, k0, p3, hG.1, hG2, hW]
      have hp2 : N = ph6 M b := hp
      subst hp2
      rfl
    | succ k ih =>
      intro N t a u v sm hk hN hp
      have hJ := hI.ss hN
      have a1 : (nI k < 0) = False := eq_false (nI_pos (by omega))
      have a2 : vp_in (nI k) 12 = True := eq_true (vp_in_nI (by omega) (by decide))
      have a3 : (nI k).toNatClampNeg = k := nI_clamp (by omega)
      have hF2 : ∀ g, Lf (sI N (b + 18) g) (b + 10) := fun g => hJ.1.2.2.2.1
      have hF3 : ∀ g h, Lf (sJ (sI N (b + 18) g) (b + 30) h) (b + 10) := fun g h => hJ.1.2.2.2.1
      obtain ⟨zK, zP, -⟩ := id hN
      rw [rX8_passHour_141]
      simp only [kX8_passHour_141, rX8_passHour_0, kX8_passHour_0, rX8_passHour_124, kX8_passHour_124, rX8_passHour_130, kX8_passHour_130, rX8_passHour_196, kX8_passHour_196, eX8_passHour, S6, S19, S21, S22, S23, S29, S36, S46, S63, S65, S66, bk_c, if_true, if_false, wi_e, wl_e, wr_e, w1_i, w1_r, ldS_0, ldS_s, vi_e, vl_e, vr_e, dpL_u, dpL_i, dpL_r, dpL_l, stS_0, stS_1, stS_s, stL_0, stL_1, stL_s, bin_0, bin_1, bin_2, bin_3, bin_4, bin_5, bdv_0, bdv_1, lbin_0, lbin_1, lbin_2, cnd_0, cnd_1, cnd_2, cnd_3, cnd_4, cnd_5, aty_0, aty_1, aty_2, aty_3, aty_4, aty_5, c8_u, cn_0, cn_i, cn_r, cn_l, Nat.reduceAdd, Nat.reduceLeDiff, Nat.le_refl, adz, hnd_0, rcv_0, rcv_1, kLen_a, kLen_r, inB_e, inR_e, cpOK_e, swt_n, swt_c, List.take_succ_cons, List.take_zero, List.drop_succ_cons, List.drop_zero, List.reverse_cons, List.reverse_nil, List.nil_append, List.cons_append, List.length_cons, List.length_nil, Option.toList_some, Option.toList_none, det_e, det_x, tr_imp, fa_imp, implies_true, not_true, not_false_eq_true, and_true, true_and, nar_i, upd_s, st1_0, st1_1, st1_2, st1_3, st1_4, st1_5, st1_6, st1_7, st1_8, st1_9, st1_10, st1_11, st1_12, st1_13, st1_14, st1_15, st1_16, st1_17, st1_18, st1_19, st1_20, st1_21, st1_22, st1_23, st1_24, st1_25, st1_26, st1_27, st1_28, st1_29, st1_30, st1_31, st1_32, st1_33, st1_34, st1_35, st1_36, st1_37, st1_42, st1_43, st1_44, st1_46, st1_47, st1_48, st1_49, st1_50, st1_51, st1_52, st1_53, st1_54, st1_55, st1_56, st1_57, st1_58, st1_59, st1_60, gK_sI, gP_sI, gK_sJ, gP_sJ, up_q, up_q0, up_q1, up_s, sI_sI, Nat.reduceEqDiff, reduceIte, Nat.succ_ne_zero, forall_const, false_imp_iff, Nat.add_assoc, nI_m1, sV, a1, a2, a3, zK, zP, k0, p1, p5, hF.1, hQ.1, hJ.1.2.2.2.1, hF2, hF3]
      exact ih (phC b k N) t a u v sm (by omega) (ss_pC k N hN) hp
  have key : ∀ v i (z : Mm × Int32) (a u w : Slot), i + v = n → SS M z.1 b → itr (phB b (phT M b)) v i z = ph5 M b → Run (gT G) eX8_passHour 0 0 (fun _ _ => none) (fun v' M' => v' = some (.int (ph5 M b).2) ∧ M' = phM M b) (fun _ _ => False) kX8_passHour 62 [.val (.ref b), .val (.int (phT M b)), a, .val (.int z.2), .val (.int (nI i)), u, w] [] z.1 0 0 := by
    intro v
    induction v with
    | zero =>
      intro i z a u w hi hN hp
      have hi2 : i = n := hi
      subst hi2
      have hJ := hI.ss hN
      obtain ⟨zK, zP, -, -, z9, -⟩ := id hN
      have i1 : gI z.1 (b + 1) 8 = nI i := by rw [z9 1 (by decide) rfl]; exact e1
      have i2 : gI z.1 (b + 10) 11 = nI f := by rw [z9 10 (by decide) rfl]; exact e2
      have hp2 : z = ph5 M b := hp
      have h3 := key2 f z.1 (.val (.int (phT M b))) a u w z.2 (Nat.le_refl f) hN (by rw [hp2]; unfold ph6; rw [e2, nI_clamp (by omega)])
      rw [← hp2]
      rw [rX8_passHour_62]
      simp only [kX8_passHour_62, rX8_passHour_0, kX8_passHour_0, rX8_passHour_124, kX8_passHour_124, rX8_passHour_130, kX8_passHour_130, rX8_passHour_196, kX8_passHour_196, eX8_passHour, S6, S19, S21, S22, S23, S29, S36, S46, S63, S65, S66, bk_c, if_true, if_false, wi_e, wl_e, wr_e, w1_i, w1_r, ldS_0, ldS_s, vi_e, vl_e, vr_e, dpL_u, dpL_i, dpL_r, dpL_l, stS_0, stS_1, stS_s, stL_0, stL_1, stL_s, bin_0, bin_1, bin_2, bin_3, bin_4, bin_5, bdv_0, bdv_1, lbin_0, lbin_1, lbin_2, cnd_0, cnd_1, cnd_2, cnd_3, cnd_4, cnd_5, aty_0, aty_1, aty_2, aty_3, aty_4, aty_5, c8_u, cn_0, cn_i, cn_r, cn_l, Nat.reduceAdd, Nat.reduceLeDiff, Nat.le_refl, adz, hnd_0, rcv_0, rcv_1, kLen_a, kLen_r, inB_e, inR_e, cpOK_e, swt_n, swt_c, List.take_succ_cons, List.take_zero, List.drop_succ_cons, List.drop_zero, List.reverse_cons, List.reverse_nil, List.nil_append, List.cons_append, List.length_cons, List.length_nil, Option.toList_some, Option.toList_none, det_e, det_x, tr_imp, fa_imp, implies_true, not_true, not_false_eq_true, and_true, true_and, nar_i, upd_s, st1_0, st1_1, st1_2, st1_3, st1_4, st1_5, st1_6, st1_7, st1_8, st1_9, st1_10, st1_11, st1_12, st1_13, st1_14, st1_15, st1_16, st1_17, st1_18, st1_19, st1_20, st1_21, st1_22, st1_23, st1_24, st1_25, st1_26, st1_27, st1_28, st1_29, st1_30, st1_31, st1_32, st1_33, st1_34, st1_35, st1_36, st1_37, st1_42, st1_43, st1_44, st1_46, st1_47, st1_48, st1_49, st1_50, st1_51, st1_52, st1_53, st1_54, st1_55, st1_56, st1_57, st1_58, st1_59, st1_60, up_q, up_q0, up_q1, up_s, sI_sI, Nat.reduceEqDiff, reduceIte, Nat.succ_ne_zero, forall_const, false_imp_iff, Nat.add_assoc, zK, zP, k0, p0, p1, hC.1, hF.1, i1, i2, lp_out, nI_sub1]
      exact h3
    | succ v ih =>
      intro i z a u w hi hN hp
      obtain ⟨a1, a2, a3, -⟩ := lp_in (i := i) (n := n) (N := 16) (by omega) g1 (by decide)
      have hJ := hI.ss hN
      obtain ⟨zK, zP, -, -, z9, -⟩ := id hN
      have i1 : gI z.1 (b + 1) 8 = nI n := by rw [z9 1 (by decide) rfl]; exact e1
      have b1 := hJ.la (i := i) (by omega)
      have flv : gI z.1 (b + 9) (slotv (nI i) (gI z.1 b 6)).toNatClampNeg = laV z.1 b i := rfl
      have fla : sI (sI z.1 (b + 7) (upd (gI z.1 (b + 7)) i (laV z.1 b i))) (b + 9) (upd (gI z.1 (b + 9)) (slotv (nI i) (gI z.1 b 6)).toNatClampNeg 0) = laM z.1 b i := rfl
      have ftk : tkR (laM z.1 b i) (b + 10) (nI i) (laV z.1 b i) (phT M b) = tkQ (phT M b) b i z.1 := rfl
      have fw : w3 (laM z.1 b i) (b + 10) (tkQ (phT M b) b i z.1).2.1 (tkQ (phT M b) b i z.1).2.2.1 (tkQ (phT M b) b i z.1).2.2.2 = tkN (phT M b) b i z.1 := rfl
      have h1 : SS M (laM z.1 b i) b := (hN.t (SS.i z.1 b 7 _ (by decide) rfl)).t (SS.i _ b 9 _ (by decide) rfl)
      have hL1 := hI.ss h1
      have hT := hI.ss (ss_tk (phT M b) i z.1 hN)
      have tK := (ss_tk (phT M b) i z.1 hN).1
      have tP := (ss_tk (phT M b) i z.1 hN).2.1
      rw [rX8_passHour_62]
      simp only [kX8_passHour_62, rX8_passHour_0, kX8_passHour_0, rX8_passHour_124, kX8_passHour_124, rX8_passHour_130, kX8_passHour_130, rX8_passHour_196, kX8_passHour_196, eX8_passHour, S6, S19, S21, S22, S23, S29, S36, S46, S63, S65, S66, bk_c, if_true, if_false, wi_e, wl_e, wr_e, w1_i, w1_r, ldS_0, ldS_s, vi_e, vl_e, vr_e, dpL_u, dpL_i, dpL_r, dpL_l, stS_0, stS_1, stS_s, stL_0, stL_1, stL_s, bin_0, bin_1, bin_2, bin_3, bin_4, bin_5, bdv_0, bdv_1, lbin_0, lbin_1, lbin_2, cnd_0, cnd_1, cnd_2, cnd_3, cnd_4, cnd_5, aty_0, aty_1, aty_2, aty_3, aty_4, aty_5, c8_u, cn_0, cn_i, cn_r, cn_l, Nat.reduceAdd, Nat.reduceLeDiff, Nat.le_refl, adz, hnd_0, rcv_0, rcv_1, kLen_a, kLen_r, inB_e, inR_e, cpOK_e, swt_n, swt_c, List.take_succ_cons, List.take_zero, List.drop_succ_cons, List.drop_zero, List.reverse_cons, List.reverse_nil, List.nil_append, List.cons_append, List.length_cons, List.length_nil, Option.toList_some, Option.toList_none, det_e, det_x, tr_imp, fa_imp, implies_true, not_true, not_false_eq_true, and_true, true_and, nar_i, upd_s, st1_0, st1_1, st1_2, st1_3, st1_4, st1_5, st1_6, st1_7, st1_8, st1_9, st1_10, st1_11, st1_12, st1_13, st1_14, st1_15, st1_16, st1_17, st1_18, st1_19, st1_20, st1_21, st1_22, st1_23, st1_24, st1_25, st1_26, st1_27, st1_28, st1_29, st1_30, st1_31, st1_32, st1_33, st1_34, st1_35, st1_36, st1_37, st1_42, st1_43, st1_44, st1_46, st1_47, st1_48, st1_49, st1_50, st1_51, st1_52, st1_53, st1_54, st1_55, st1_56, st1_57, st1_58, st1_59, st1_60, up_q, up_q0, up_q1, up_s, sI_sI, Nat.reduceEqDiff, reduceIte, Nat.succ_ne_zero, forall_const, false_imp_iff, Nat.add_assoc, zK, zP, k0, p0, p1, hC.1, hF.1, i1, a1, a2, a3, sV, nI_1, b1, flv, fla, ftk, fw, hJ.1.2.2.1, h1.1, h1.2.1, hL1.1.2.2.2.1, hL1.cF, tK, tP, hT]
      refine ⟨fun h => ?_, fun h => ?_⟩
      · have e : phB b (phT M b) i z = (tkN (phT M b) b i z.1, z.2 + (laV z.1 b i - (tkQ (phT M b) b i z.1).1)) := by unfold phB; rw [if_pos h]
        have h3 := ih (i + 1) (phB b (phT M b) i z) (dpL a) (.val (.int (laV z.1 b i))) (.val (.int (tkQ (phT M b) b i z.1).1)) (by omega) (ss_pB _ _ _ hN) hp
        rw [e] at h3
        exact h3
      · have e : phB b (phT M b) i z = (dvM (tkN (phT M b) b i z.1) b (nI i) (tkQ (phT M b) b i z.1).1, z.2 + (laV z.1 b i - (tkQ (phT M b) b i z.1).1)) := by unfold phB; rw [if_neg h]
        have h3 := ih (i + 1) (phB b (phT M b) i z) (dpL a) (.val (.int (laV z.1 b i))) (.val (.int (tkQ (phT M b) b i z.1).1)) (by omega) (ss_pB _ _ _ hN) hp
        rw [e] at h3
        exact h3
  have fT : villV M (b + 22) (gI M b 6) = phT M b := rfl
  have fA : fmV ((fmR M (b + 27) (gI M b 6) (phT M b)).2 0) = phA M b := rfl
  have f1 : sJ M (b + 29) (fmR M (b + 27) (gI M b 6) (phT M b)).2 = ph1 M b := rfl
  have f2 : sJ (ph1 M b) (b + 30) (vp_updL (gJ (ph1 M b) (b + 30)) 1 (gJ (ph1 M b) (b + 30) 1 + (phA M b).toInt64)) = ph2 M b := rfl
  have f3 : enM (ph2 M b) b 0 (phA M b) = ph3 M b := rfl
  have f4 : opP (ph3 M b) (b + 1) (gI (ph3 M b) (b + 1) 8).toNatClampNeg (sI (ph3 M b) (b + 8) (mkO (ph3 M b) (b + 10) (b + 1) (phT M b))) = ph4 M b := rfl
  have hJ2 := hI.ss (ss_2 M b)
  have hJ3 := hI.ss (ss_3 M b)
  simp only [rX8_passHour_0, kX8_passHour_0, rX8_passHour_124, kX8_passHour_124, rX8_passHour_130, kX8_passHour_130, rX8_passHour_196, kX8_passHour_196, eX8_passHour, S6, S19, S21, S22, S23, S29, S36, S46, S63, S65, S66, bk_c, if_true, if_false, wi_e, wl_e, wr_e, w1_i, w1_r, ldS_0, ldS_s, vi_e, vl_e, vr_e, dpL_u, dpL_i, dpL_r, dpL_l, stS_0, stS_1, stS_s, stL_0, stL_1, stL_s, bin_0, bin_1, bin_2, bin_3, bin_4, bin_5, bdv_0, bdv_1, lbin_0, lbin_1, lbin_2, cnd_0, cnd_1, cnd_2, cnd_3, cnd_4, cnd_5, aty_0, aty_1, aty_2, aty_3, aty_4, aty_5, c8_u, cn_0, cn_i, cn_r, cn_l, Nat.reduceAdd, Nat.reduceLeDiff, Nat.le_refl, adz, hnd_0, rcv_0, rcv_1, kLen_a, kLen_r, inB_e, inR_e, cpOK_e, swt_n, swt_c, List.take_succ_cons, List.take_zero, List.drop_succ_cons, List.drop_zero, List.reverse_cons, List.reverse_nil, List.nil_append, List.cons_append, List.length_cons, List.length_nil, Option.toList_some, Option.toList_none, det_e, det_x, tr_imp, fa_imp, implies_true, not_true, not_false_eq_true, and_true, true_and, nar_i, upd_s, st1_0, st1_1, st1_2, st1_3, st1_4, st1_5, st1_6, st1_7, st1_8, st1_9, st1_10, st1_11, st1_12, st1_13, st1_14, st1_15, st1_16, st1_17, st1_18, st1_19, st1_20, st1_21, st1_22, st1_23, st1_24, st1_25, st1_26, st1_27, st1_28, st1_29, st1_30, st1_31, st1_32, st1_33, st1_34, st1_35, st1_36, st1_37, st1_42, st1_43, st1_44, st1_46, st1_47, st1_48, st1_49, st1_50, st1_51, st1_52, st1_53, st1_54, st1_55, st1_56, st1_57, st1_58, st1_59, st1_60, up_q, up_q0, up_q1, up_s, sI_sI, Nat.reduceEqDiff, reduceIte, Nat.succ_ne_zero, forall_const, false_imp_iff, Nat.add_assoc, sV, k0, p0, p1, p2, p4, p5, hF.1, hQ.1, hR.1, hM.1, hC, hF, hR, hM, hI.cR, hI.cM, fT, fA, f1, f2, f3, f4, (ss_1 M b).1, (ss_1 M b).2.1, (ss_2 M b).1, (ss_2 M b).2.1, (ss_3 M b).1, (ss_3 M b).2.1, hJ2.1, hJ3.1.2.2.1, hJ3.1.2.2.2.1, hJ3.cF, hJ3.cC]
  refine ⟨hJ2.en 0 (by decide), Or.inr (by omega), ?_⟩
  exact key n 0 (ph4 M b, 0) (.val (.int (phA M b))) .unset .unset (Nat.zero_add n) (ss_4 M b) (by unfold ph5; rw [e1, cl])
theorem gI_f (M : Mm) {a q : Nat} (f : Nat → Int32) (h : q ≠ a) : gI (sI M a f) q = gI M q := if_neg h
theorem gI_q (M : Mm) (c i j : Nat) (v : Nat → Int32) : gI (sI M (c + i) v) (c + j) = if j = i then v else gI M (c + j) := up_q _ _ _ _ _
theorem gI_q0 (M : Mm) (c i : Nat) (v : Nat → Int32) : gI (sI M (c + i) v) c = if i = 0 then v else gI M c := up_q0 _ _ _ _
theorem gI_q1 (M : Mm) (c j : Nat) (v : Nat → Int32) : gI (sI M c v) (c + j) = if j = 0 then v else gI M (c + j) := up_q1 _ _ _ _
theorem gI_s (M : Mm) (c : Nat) (v : Nat → Int32) : gI (sI M c v) c = v := up_s _ _ _
theorem gI_J (M : Mm) (a : Nat) (f : Nat → Int64) : gI (sJ M a f) = gI M := rfl
theorem gJ_I (M : Mm) (a : Nat) (f : Nat → Int32) : gJ (sI M a f) = gJ M := rfl
theorem fr_C (M : Mm) {c o q : Nat} (h : q < c ∨ c + 9 ≤ q) : gI (cpC M c o) q = gI M q := by
  unfold cpC
  dsimp only
  have n0 : q ≠ c := by omega
  have n1 : q ≠ c + 1 := by omega
  have n2 : q ≠ c + 2 := by omega
  have n3 : q ≠ c + 3 := by omega
  have n4 : q ≠ c + 4 := by omega
  have n5 : q ≠ c + 5 := by omega
  have n6 : q ≠ c + 6 := by omega
  have n8 : q ≠ c + 8 := by omega
  rw [gI_f _ _ n0, gI_f _ _ n8, gI_f _ _ n6, gI_f _ _ n5, gI_f _ _ n4, gI_f _ _ n3, gI_f _ _ n2, gI_f _ _ n1]
theorem fr_F (M : Mm) {c o q : Nat} (h : q < c ∨ c + 12 ≤ q) : gI (cpF M c o) q = gI M q := by
  unfold cpF
  dsimp only
  have n0 : q ≠ c := by omega
  have n1 : q ≠ c + 1 := by omega
  have n2 : q ≠ c + 2 := by omega
  have n3 : q ≠ c + 3 := by omega
  have n4 : q ≠ c + 4 := by omega
  have n5 : q ≠ c + 5 := by omega
  have n6 : q ≠ c + 6 := by omega
  have n7 : q ≠ c + 7 := by omega
  have n8 : q ≠ c + 8 := by omega
  have n9 : q ≠ c + 9 := by omega
  have n10 : q ≠ c + 10 := by omega
  have n11 : q ≠ c + 11 := by omega
  rw [gI_f _ _ n11, gI_f _ _ n0, gI_f _ _ n10, gI_f _ _ n9, gI_f _ _ n8, gI_f _ _ n7, gI_f _ _ n6, gI_f _ _ n5, gI_f _ _ n4, gI_f _ _ n3, gI_f _ _ n2, gI_f _ _ n1]
theorem fr_R (M : Mm) {c o q : Nat} (h : q < c ∨ c + 3 ≤ q) : gI (cpR M c o) q = gI M q := by
  unfold cpR
  dsimp only
  have n0 : q ≠ c := by omega
  have n1 : q ≠ c + 1 := by omega
  have n2 : q ≠ c + 2 := by omega
  rw [gI_f _ _ n0, gI_f _ _ n0, gI_f _ _ n2, gI_f _ _ n1]
theorem fr_G (M : Mm) {c o q : Nat} (h : q < c ∨ c + 2 ≤ q) : gI (cpG M c o) q = gI M q := by
  unfold cpG
  dsimp only
  have n0 : q ≠ c := by omega
  have n1 : q ≠ c + 1 := by omega
  rw [gI_f _ _ n0, gI_f _ _ n0, gI_f _ _ n1]
theorem fr_M (M : Mm) {c o q : Nat} (h : q < c ∨ c + 2 ≤ q) : gI (cpM M c o) q = gI M q := by
  unfold cpM
  dsimp only
  have n0 : q ≠ c := by omega
  have n1 : q ≠ c + 1 := by omega
  rw [gI_f _ _ n1, gI_f _ _ n0]
theorem cv_C (M : Mm) {c o : Nat} (ha : apt c 9 o 9) : gI (cpC M c o) (c + 1) = cpy 16 (gI M (o + 1)) (gI M (c + 1)) ∧ gI (cpC M c o) (c + 2) = cpy 16 (gI M (o + 2)) (gI M (c + 2)) ∧ gI (cpC M c o) (c + 3) = cpy 16 (gI M (o + 3)) (gI M (c + 3)) ∧ gI (cpC M c o) (c + 4) = cpy 16 (gI M (o + 4)) (gI M (c + 4)) ∧ gI (cpC M c o) (c + 5) = cpy 16 (gI M (o + 5)) (gI M (c + 5)) ∧ gI (cpC M c o) (c + 6) = cpy 16 (gI M (o + 6)) (gI M (c + 6)) ∧ gI (cpC M c o) (c + 8) = cpy 112 (gI M (o + 8)) (gI M (c + 8)) ∧ gI (cpC M c o) c 8 = gI M o 8 := by
  have hO : ∀ N g i j, i < 9 → j < 9 → gI (sI N (c + j) g) (o + i) = gI N (o + i) := fun N g i j hi hj => gI_f _ _ (apt_b ha j i hj hi)
  have hO0 : ∀ N g j, j < 9 → gI (sI N (c + j) g) o = gI N o := fun N g j hj => gI_f _ _ (apt_l ha j hj (by decide))
  have hO1 : ∀ N g i, i < 9 → gI (sI N c g) (o + i) = gI N (o + i) := fun N g i hi => gI_f _ _ (fun e => apt_r ha i hi (by decide) e.symm)
  have hO2 : ∀ N g, gI (sI N c g) o = gI N o := fun N g => gI_f _ _ (fun e => apt_l ha 0 (by decide) (by decide) e)
  unfold cpC
  simp only [gI_q, gI_q0, gI_q1, gI_s, hO, hO0, hO1, hO2, upd_s, Nat.reduceLT, Nat.reduceEqDiff, reduceIte, Nat.succ_ne_zero, Nat.reduceLeDiff, and_self, true_and, and_true]
theorem cv_F (M : Mm) {c o : Nat} (ha : apt c 12 o 12) : gI (cpF M c o) (c + 1) = cpy 12 (gI M (o + 1)) (gI M (c + 1)) ∧ gI (cpF M c o) (c + 2) = cpy 12 (gI M (o + 2)) (gI M (c + 2)) ∧ gI (cpF M c o) (c + 3) = cpy 12 (gI M (o + 3)) (gI M (c + 3)) ∧ gI (cpF M c o) (c + 4) = cpy 12 (gI M (o + 4)) (gI M (c + 4)) ∧ gI (cpF M c o) (c + 5) = cpy 12 (gI M (o + 5)) (gI M (c + 5)) ∧ gI (cpF M c o) (c + 6) = cpy 12 (gI M (o + 6)) (gI M (c + 6)) ∧ gI (cpF M c o) (c + 7) = cpy 12 (gI M (o + 7)) (gI M (c + 7)) ∧ gI (cpF M c o) (c + 8) = cpy 12 (gI M (o + 8)) (gI M (c + 8)) ∧ gI (cpF M c o) (c + 9) = cpy 12 (gI M (o + 9)) (gI M (c + 9)) ∧ gI (cpF M c o) (c + 10) = cpy 12 (gI M (o + 10)) (gI M (c + 10)) ∧ gI (cpF M c o) (c + 11) = cpy (gI M o 11).toNatClampNeg (fun k => vp_nar .boolean (gI M (o + 11) k)) (gI M (c + 11)) ∧ gI (cpF M c o) c 11 = gI M o 11 := by
  have hO : ∀ N g i j, i < 12 → j < 12 → gI (sI N (c + j) g) (o + i) = gI N (o + i) := fun N g i j hi hj => gI_f _ _ (apt_b ha j i hj hi)
  have hO0 : ∀ N g j, j < 12 → gI (sI N (c + j) g) o = gI N o := fun N g j hj => gI_f _ _ (apt_l ha j hj (by decide))
  have hO1 : ∀ N g i, i < 12 → gI (sI N c g) (o + i) = gI N (o + i) := fun N g i hi => gI_f _ _ (fun e => apt_r ha i hi (by decide) e.symm)
  have hO2 : ∀ N g, gI (sI N c g) o = gI N o := fun N g => gI_f _ _ (fun e => apt_l ha 0 (by decide) (by decide) e)
  unfold cpF
  simp only [gI_q, gI_q0, gI_q1, gI_s, hO, hO0, hO1, hO2, upd_s, Nat.reduceLT, Nat.reduceEqDiff, reduceIte, Nat.succ_ne_zero, Nat.reduceLeDiff, and_self, true_and, and_true]
theorem cv_R (M : Mm) {c o : Nat} (ha : apt c 3 o 3) : gI (cpR M c o) (c + 1) = cpy 12 (gI M (o + 1)) (gI M (c + 1)) ∧ gI (cpR M c o) (c + 2) = cpy 12 (gI M (o + 2)) (gI M (c + 2)) ∧ gI (cpR M c o) c = upd (upd (gI M c) 2 (gI M o 2)) 3 (gI M o 3) := by
  have hO : ∀ N g i j, i < 3 → j < 3 → gI (sI N (c + j) g) (o + i) = gI N (o + i) := fun N g i j hi hj => gI_f _ _ (apt_b ha j i hj hi)
  have hO0 : ∀ N g j, j < 3 → gI (sI N (c + j) g) o = gI N o := fun N g j hj => gI_f _ _ (apt_l ha j hj (by decide))
  have hO1 : ∀ N g i, i < 3 → gI (sI N c g) (o + i) = gI N (o + i) := fun N g i hi => gI_f _ _ (fun e => apt_r ha i hi (by decide) e.symm)
  have hO2 : ∀ N g, gI (sI N c g) o = gI N o := fun N g => gI_f _ _ (fun e => apt_l ha 0 (by decide) (by decide) e)
  unfold cpR
  simp only [gI_q, gI_q0, gI_q1, gI_s, hO, hO0, hO1, hO2, upd_s, Nat.reduceLT, Nat.reduceEqDiff, reduceIte, Nat.succ_ne_zero, Nat.reduceLeDiff, and_self, true_and, and_true]
theorem cv_G (M : Mm) {c o : Nat} (ha : apt c 2 o 2) : gI (cpG M c o) (c + 1) = cpy 10 (gI M (o + 1)) (gI M (c + 1)) ∧ gI (cpG M c o) c = upd (upd (gI M c) 1 (gI M o 1)) 2 (gI M o 2) := by
  have hO : ∀ N g i j, i < 2 → j < 2 → gI (sI N (c + j) g) (o + i) = gI N (o + i) := fun N g i j hi hj => gI_f _ _ (apt_b ha j i hj hi)
  have hO0 : ∀ N g j, j < 2 → gI (sI N (c + j) g) o = gI N o := fun N g j hj => gI_f _ _ (apt_l ha j hj (by decide))
  have hO1 : ∀ N g i, i < 2 → gI (sI N c g) (o + i) = gI N (o + i) := fun N g i hi => gI_f _ _ (fun e => apt_r ha i hi (by decide) e.symm)
  have hO2 : ∀ N g, gI (sI N c g) o = gI N o := fun N g => gI_f _ _ (fun e => apt_l ha 0 (by decide) (by decide) e)
  unfold cpG
  simp only [gI_q, gI_q0, gI_q1, gI_s, hO, hO0, hO1, hO2, upd_s, Nat.reduceLT, Nat.reduceEqDiff, reduceIte, Nat.succ_ne_zero, Nat.reduceLeDiff, and_self, true_and, and_true]
theorem cv_M (M : Mm) {c o : Nat} (ha : apt c 2 o 2) : gI (cpM M c o) (c + 1) = cpy (gI M o 2).toNatClampNeg (gI M (o + 1)) (gI M (c + 1)) ∧ gI (cpM M c o) c 2 = gI M o 2 := by
  have hO : ∀ N g i j, i < 2 → j < 2 → gI (sI N (c + j) g) (o + i) = gI N (o + i) := fun N g i j hi hj => gI_f _ _ (apt_b ha j i hj hi)
  have hO0 : ∀ N g j, j < 2 → gI (sI N (c + j) g) o = gI N o := fun N g j hj => gI_f _ _ (apt_l ha j hj (by decide))
  have hO1 : ∀ N g i, i < 2 → gI (sI N c g) (o + i) = gI N (o + i) := fun N g i hi => gI_f _ _ (fun e => apt_r ha i hi (by decide) e.symm)
  have hO2 : ∀ N g, gI (sI N c g) o = gI N o := fun N g => gI_f _ _ (fun e => apt_l ha 0 (by decide) (by decide) e)
  unfold cpM
  simp only [gI_q, gI_q0, gI_q1, gI_s, hO, hO0, hO1, hO2, upd_s, Nat.reduceLT, Nat.reduceEqDiff, reduceIte, Nat.succ_ne_zero, Nat.reduceLeDiff, and_self, true_and, and_true]
theorem gJ_f (M : Mm) {a q : Nat} (f : Nat → Int64) (h : q ≠ a) : gJ (sJ M a f) q = gJ M q := if_neg h
theorem gJ_s (M : Mm) (c : Nat) (v : Nat → Int64) : gJ (sJ M c v) c = v := up_s _ _ _
theorem fr_Q (M : Mm) {c o q : Nat} (h : q < c ∨ c + 2 ≤ q) : gI (cpQ M c o) q = gI M q ∧ gJ (cpQ M c o) q = gJ M q := by
  unfold cpQ
  dsimp only
  have n0 : q ≠ c := by omega
  have n1 : q ≠ c + 1 := by omega
  refine ⟨?_, ?_⟩
  · rw [gI_J, gI_J, gI_J, gI_J, gI_f _ _ n1]
  · rw [gJ_f _ _ n0, gJ_f _ _ n0, gJ_f _ _ n0, gJ_f _ _ n0, gJ_I]
theorem fj_Q (M : Mm) {c o q : Nat} (h : q ≠ c) : gJ (cpQ M c o) q = gJ M q := by
  unfold cpQ
  dsimp only
  rw [gJ_f _ _ h, gJ_f _ _ h, gJ_f _ _ h, gJ_f _ _ h, gJ_I]
theorem cv_Q (M : Mm) {c o : Nat} (ha : apt c 2 o 2) : gI (cpQ M c o) (c + 1) = cpy 6 (gI M (o + 1)) (gI M (c + 1)) ∧ gI (cpQ M c o) c = gI M c ∧ gJ (cpQ M c o) c = vp_updL (vp_updL (vp_updL (vp_updL (gJ M c) 1 (gJ M o 1)) 2 (gJ M o 2)) 3 (gJ M o 3)) 4 (gJ M o 4) := by
  have n0 : o ≠ c := fun e => apt_l ha 0 (by decide) (by decide) e
  unfold cpQ
  dsimp only
  simp only [gI_J, gI_s, gJ_s, gJ_I, gJ_f _ _ n0, gI_q0, Nat.succ_ne_zero, if_false, true_and, and_true]
theorem gj_C (M : Mm) (c o : Nat) : gJ (cpC M c o) = gJ M := by unfold cpC; simp only [gJ_I]
theorem gj_F (M : Mm) (c o : Nat) : gJ (cpF M c o) = gJ M := by unfold cpF; simp only [gJ_I]
theorem gj_R (M : Mm) (c o : Nat) : gJ (cpR M c o) = gJ M := by unfold cpR; simp only [gJ_I]
theorem gj_G (M : Mm) (c o : Nat) : gJ (cpG M c o) = gJ M := by unfold cpG; simp only [gJ_I]
theorem gj_M (M : Mm) (c o : Nat) : gJ (cpM M c o) = gJ M := by unfold cpM; simp only [gJ_I]
/-! == copies == -/
def cpS1 (M : Mm) (b o : Nat) : Mm := cpC M (b + 1) (o + 1)
def cpS2 (M : Mm) (b o : Nat) : Mm := cpF (cpS1 M b o) (b + 10) (o + 10)
def cpS3 (M : Mm) (b o : Nat) : Mm := cpR (cpS2 M b o) (b + 22) (o + 22)
def cpS4 (M : Mm) (b o : Nat) : Mm := cpG (cpS3 M b o) (b + 25) (o + 25)
def cpS5 (M : Mm) (b o : Nat) : Mm := cpM (cpS4 M b o) (b + 27) (o + 27)
def cpS6 (M : Mm) (b o : Nat) : Mm := cpQ (cpS5 M b o) (b + 30) (o + 30)
def cpS (M : Mm) (b o : Nat) : Mm := sI (cpS6 M b o) b (upd (gI (cpS6 M b o) b) 6 (gI (cpS6 M b o) o 6))
theorem kp_C (M : Mm) (c o : Nat) : gK (cpC M c o) = gK M ∧ gP (cpC M c o) = gP M ∧ gZ (cpC M c o) = gZ M := by
  unfold cpC
  simp only [gK_sI, gP_sI, gZ_sI, true_and]
theorem kp_F (M : Mm) (c o : Nat) : gK (cpF M c o) = gK M ∧ gP (cpF M c o) = gP M ∧ gZ (cpF M c o) = gZ M := by
  unfold cpF
  simp only [gK_sI, gP_sI, gZ_sI, true_and]
theorem kp_R (M : Mm) (c o : Nat) : gK (cpR M c o) = gK M ∧ gP (cpR M c o) = gP M ∧ gZ (cpR M c o) = gZ M := by
  unfold cpR
  simp only [gK_sI, gP_sI, gZ_sI, true_and]
theorem kp_G (M : Mm) (c o : Nat) : gK (cpG M c o) = gK M ∧ gP (cpG M c o) = gP M ∧ gZ (cpG M c o) = gZ M := by
  unfold cpG
  simp only [gK_sI, gP_sI, gZ_sI, true_and]
theorem kp_M (M : Mm) (c o : Nat) : gK (cpM M c o) = gK M ∧ gP (cpM M c o) = gP M ∧ gZ (cpM M c o) = gZ M := by
  unfold cpM
  simp only [gK_sI, gP_sI, gZ_sI, true_and]
theorem kp_Q (M : Mm) (c o : Nat) : gK (cpQ M c o) = gK M ∧ gP (cpQ M c o) = gP M ∧ gZ (cpQ M c o) = gZ M := by
  unfold cpQ
  simp only [gK_sI, gP_sI, gZ_sI, gK_sJ, gP_sJ, gZ_sJ, true_and]
theorem kp_1 (M : Mm) (b o : Nat) : gK (cpS1 M b o) = gK M ∧ gP (cpS1 M b o) = gP M ∧ gZ (cpS1 M b o) = gZ M := kp_C M _ _
theorem kp_t {A B C : Mm} (h : gK A = gK B ∧ gP A = gP B ∧ gZ A = gZ B) (g : gK B = gK C ∧ gP B = gP C ∧ gZ B = gZ C) : gK A = gK C ∧ gP A = gP C ∧ gZ A = gZ C := ⟨h.1.trans g.1, h.2.1.trans g.2.1, h.2.2.trans g.2.2⟩
theorem kp_2 (M : Mm) (b o : Nat) : gK (cpS2 M b o) = gK M ∧ gP (cpS2 M b o) = gP M ∧ gZ (cpS2 M b o) = gZ M := kp_t (kp_F _ _ _) (kp_1 M b o)
theorem kp_3 (M : Mm) (b o : Nat) : gK (cpS3 M b o) = gK M ∧ gP (cpS3 M b o) = gP M ∧ gZ (cpS3 M b o) = gZ M := kp_t (kp_R _ _ _) (kp_2 M b o)
theorem kp_4 (M : Mm) (b o : Nat) : gK (cpS4 M b o) = gK M ∧ gP (cpS4 M b o) = gP M ∧ gZ (cpS4 M b o) = gZ M := kp_t (kp_G _ _ _) (kp_3 M b o)
theorem kp_5 (M : Mm) (b o : Nat) : gK (cpS5 M b o) = gK M ∧ gP (cpS5 M b o) = gP M ∧ gZ (cpS5 M b o) = gZ M := kp_t (kp_M _ _ _) (kp_4 M b o)
theorem kp_6 (M : Mm) (b o : Nat) : gK (cpS6 M b o) = gK M ∧ gP (cpS6 M b o) = gP M ∧ gZ (cpS6 M b o) = gZ M := kp_t (kp_Q _ _ _) (kp_5 M b o)
theorem fs_1 (M : Mm) {b o q : Nat} (h : q < b ∨ b + 10 ≤ q) : gI (cpS1 M b o) q = gI M q := fr_C M (by omega)
theorem fs_2 (M : Mm) {b o q : Nat} (h : q < b ∨ b + 22 ≤ q) : gI (cpS2 M b o) q = gI M q := (fr_F _ (by omega)).trans (fs_1 M (by omega))
theorem fs_3 (M : Mm) {b o q : Nat} (h : q < b ∨ b + 25 ≤ q) : gI (cpS3 M b o) q = gI M q := (fr_R _ (by omega)).trans (fs_2 M (by omega))
theorem fs_4 (M : Mm) {b o q : Nat} (h : q < b ∨ b + 27 ≤ q) : gI (cpS4 M b o) q = gI M q := (fr_G _ (by omega)).trans (fs_3 M (by omega))
theorem fs_5 (M : Mm) {b o q : Nat} (h : q < b ∨ b + 30 ≤ q) : gI (cpS5 M b o) q = gI M q := (fr_M _ (by omega)).trans (fs_4 M (by omega))
theorem fs_6 (M : Mm) {b o q : Nat} (h : q < b ∨ b + 32 ≤ q) : gI (cpS6 M b o) q = gI M q := (fr_Q _ (by omega)).1.trans (fs_5 M (by omega))
theorem fs_S (M : Mm) {b o q : Nat} (h : q < b ∨ b + 32 ≤ q) : gI (cpS M b o) q = gI M q := (gI_f _ _ (by omega)).trans (fs_6 M h)
theorem jj_5 (M : Mm) (b o : Nat) : gJ (cpS5 M b o) = gJ M := by
  unfold cpS5 cpS4 cpS3 cpS2 cpS1
  rw [gj_M, gj_G, gj_R, gj_F, gj_C]
theorem fj_S (M : Mm) {b o q : Nat} (h : q ≠ b + 30) : gJ (cpS M b o) q = gJ M q := by
  unfold cpS
  rw [gJ_I]
  unfold cpS6
  rw [fj_Q _ h, jj_5]
theorem kp_S (M : Mm) (b o : Nat) : gK (cpS M b o) = gK M ∧ gP (cpS M b o) = gP M ∧ gZ (cpS M b o) = gZ M := by
  unfold cpS
  rw [gK_sI, gP_sI, gZ_sI]
  exact kp_6 M b o
/-- what a copy of a State agrees in -/
def CE (N : Mm) (b : Nat) (M : Mm) (o : Nat) : Prop :=
  (∀ j, j < 16 → gI N (b + 2) j = gI M (o + 2) j ∧ gI N (b + 3) j = gI M (o + 3) j ∧ gI N (b + 4) j = gI M (o + 4) j ∧ gI N (b + 5) j = gI M (o + 5) j ∧ gI N (b + 6) j = gI M (o + 6) j ∧ gI N (b + 7) j = gI M (o + 7) j) ∧
  (∀ j, j < 112 → gI N (b + 9) j = gI M (o + 9) j) ∧ gI N (b + 1) 8 = gI M (o + 1) 8 ∧
  (∀ j, j < 12 → gI N (b + 11) j = gI M (o + 11) j ∧ gI N (b + 12) j = gI M (o + 12) j ∧ gI N (b + 13) j = gI M (o + 13) j ∧ gI N (b + 14) j = gI M (o + 14) j ∧ gI N (b + 15) j = gI M (o + 15) j ∧ gI N (b + 16) j = gI M (o + 16) j ∧ gI N (b + 17) j = gI M (o + 17) j ∧ gI N (b + 18) j = gI M (o + 18) j ∧ gI N (b + 19) j = gI M (o + 19) j ∧ gI N (b + 20) j = gI M (o + 20) j) ∧
  (∀ j, j < (gI M (o + 10) 11).toNatClampNeg → gI N (b + 21) j = vp_nar .boolean (gI M (o + 21) j)) ∧ gI N (b + 10) 11 = gI M (o + 10) 11 ∧
  (∀ j, j < 12 → gI N (b + 23) j = gI M (o + 23) j ∧ gI N (b + 24) j = gI M (o + 24) j) ∧ gI N (b + 22) 2 = gI M (o + 22) 2 ∧ gI N (b + 22) 3 = gI M (o + 22) 3 ∧
  (∀ j, j < 10 → gI N (b + 26) j = gI M (o + 26) j) ∧ gI N (b + 25) 1 = gI M (o + 25) 1 ∧ gI N (b + 25) 2 = gI M (o + 25) 2 ∧
  (∀ j, j < (gI M (o + 27) 2).toNatClampNeg → gI N (b + 28) j = gI M (o + 28) j) ∧ gI N (b + 27) 2 = gI M (o + 27) 2 ∧
  (∀ j, j < 6 → gI N (b + 31) j = gI M (o + 31) j) ∧ (∀ j, 1 ≤ j → j < 5 → gJ N (b + 30) j = gJ M (o + 30) j) ∧ gI N b 6 = gI M o 6
theorem cpy_in {n j : Nat} (f g : Nat → Int32) (h : j < n) : cpy n f g j = f j := if_pos h
theorem ce_S (M : Mm) {b o : Nat} (ha : apt b 32 o 32) : CE (cpS M b o) b M o := by
  unfold apt at ha
  have hO : ∀ {q}, o ≤ q → q < o + 32 → (q < b ∨ b + 32 ≤ q) := fun h1 h2 => by omega
  have t6 : ∀ k, 1 ≤ k → gI (cpS M b o) (b + k) = gI (cpS6 M b o) (b + k) := fun k h => gI_f _ _ (by omega)
  have t5 : ∀ k, 1 ≤ k → k < 30 → gI (cpS M b o) (b + k) = gI (cpS5 M b o) (b + k) := fun k h g => (t6 k h).trans (fr_Q _ (by omega)).1
  have t4 : ∀ k, 1 ≤ k → k < 27 → gI (cpS M b o) (b + k) = gI (cpS4 M b o) (b + k) := fun k h g => (t5 k h (by omega)).trans (fr_M _ (by omega))
  have t3 : ∀ k, 1 ≤ k → k < 25 → gI (cpS M b o) (b + k) = gI (cpS3 M b o) (b + k) := fun k h g => (t4 k h (by omega)).trans (fr_G _ (by omega))
  have t2 : ∀ k, 1 ≤ k → k < 22 → gI (cpS M b o) (b + k) = gI (cpS2 M b o) (b + k) := fun k h g => (t3 k h (by omega)).trans (fr_R _ (by omega))
  have t1 : ∀ k, 1 ≤ k → k < 10 → gI (cpS M b o) (b + k) = gI (cpS1 M b o) (b + k) := fun k h g => (t2 k h (by omega)).trans (fr_F _ (by omega))
  obtain ⟨c1, c2, c3, c4, c5, c6, c8, c0⟩ := cv_C M (c := b + 1) (o := o + 1) (by unfold apt; omega)
  obtain ⟨f1, f2, f3, f4, f5, f6, f7, f8, f9, f10, f11, f0⟩ := cv_F (cpS1 M b o) (c := b + 10) (o := o + 10) (by unfold apt; omega)
  obtain ⟨r1, r2, r0⟩ := cv_R (cpS2 M b o) (c := b + 22) (o := o + 22) (by unfold apt; omega)
  obtain ⟨g1, g0⟩ := cv_G (cpS3 M b o) (c := b + 25) (o := o + 25) (by unfold apt; omega)
  obtain ⟨m1, m0⟩ := cv_M (cpS4 M b o) (c := b + 27) (o := o + 27) (by unfold apt; omega)
  obtain ⟨q1, q0, q2⟩ := cv_Q (cpS5 M b o) (c := b + 30) (o := o + 30) (by unfold apt; omega)
  have e1 : ∀ k, k < 32 → gI (cpS1 M b o) (o + k) = gI M (o + k) := fun k h => fs_1 M (by omega)
  have e2 : ∀ k, k < 32 → gI (cpS2 M b o) (o + k) = gI M (o + k) := fun k h => fs_2 M (by omega)
  have e3 : ∀ k, k < 32 → gI (cpS3 M b o) (o + k) = gI M (o + k) := fun k h => fs_3 M (by omega)
  have e4 : ∀ k, k < 32 → gI (cpS4 M b o) (o + k) = gI M (o + k) := fun k h => fs_4 M (by omega)
  have e5 : ∀ k, k < 32 → gI (cpS5 M b o) (o + k) = gI M (o + k) := fun k h => fs_5 M (by omega)
  have e6 : gI (cpS6 M b o) o = gI M o := fs_6 M (by omega)
  simp only [Nat.add_assoc, Nat.reduceAdd, e1 _ (show 10 < 32 by decide), e1 _ (show 11 < 32 by decide), e1 _ (show 12 < 32 by decide), e1 _ (show 13 < 32 by decide), e1 _ (show 14 < 32 by decide), e1 _ (show 15 < 32 by decide), e1 _ (show 16 < 32 by decide), e1 _ (show 17 < 32 by decide), e1 _ (show 18 < 32 by decide), e1 _ (show 19 < 32 by decide), e1 _ (show 20 < 32 by decide), e1 _ (show 21 < 32 by decide), e2 _ (show 22 < 32 by decide), e2 _ (show 23 < 32 by decide), e2 _ (show 24 < 32 by decide), e3 _ (show 25 < 32 by decide), e3 _ (show 26 < 32 by decide), e4 _ (show 27 < 32 by decide), e4 _ (show 28 < 32 by decide), e5 _ (show 30 < 32 by decide), e5 _ (show 31 < 32 by decide)] at c1 c2 c3 c4 c5 c6 c8 c0 f1 f2 f3 f4 f5 f6 f7 f8 f9 f10 f11 f0 r1 r2 r0 g1 g0 m1 m0 q1 q0 q2
  refine ⟨fun j hj => ⟨?_, ?_, ?_, ?_, ?_, ?_⟩, fun j hj => ?_, ?_, fun j hj => ⟨?_, ?_, ?_, ?_, ?_, ?_, ?_, ?_, ?_, ?_⟩, fun j hj => ?_, ?_, fun j hj => ⟨?_, ?_⟩, ?_, ?_, fun j hj => ?_, ?_, ?_, fun j hj => ?_, ?_, fun j hj => ?_, fun j h1 h2 => ?_, ?_⟩
  · rw [t1 2 (by decide) (by decide), cpS1, c1, cpy_in _ _ hj]
  · rw [t1 3 (by decide) (by decide), cpS1, c2, cpy_in _ _ hj]
  · rw [t1 4 (by decide) (by decide), cpS1, c3, cpy_in _ _ hj]
  · rw [t1 5 (by decide) (by decide), cpS1, c4, cpy_in _ _ hj]
  · rw [t1 6 (by decide) (by decide), cpS1, c5, cpy_in _ _ hj]
  · rw [t1 7 (by decide) (by decide), cpS1, c6, cpy_in _ _ hj]
  · rw [t1 9 (by decide) (by decide), cpS1, c8, cpy_in _ _ hj]
  · rw [t1 1 (by decide) (by decide), cpS1, c0]
  · rw [t2 11 (by decide) (by decide), cpS2, f1, cpy_in _ _ hj]
  · rw [t2 12 (by decide) (by decide), cpS2, f2, cpy_in _ _ hj]
  · rw [t2 13 (by decide) (by decide), cpS2, f3, cpy_in _ _ hj]
  · rw [t2 14 (by decide) (by decide), cpS2, f4, cpy_in _ _ hj]
  · rw [t2 15 (by decide) (by decide), cpS2, f5, cpy_in _ _ hj]
  · rw [t2 16 (by decide) (by decide), cpS2, f6, cpy_in _ _ hj]
  · rw [t2 17 (by decide) (by decide), cpS2, f7, cpy_in _ _ hj]
  · rw [t2 18 (by decide) (by decide), cpS2, f8, cpy_in _ _ hj]
  · rw [t2 19 (by decide) (by decide), cpS2, f9, cpy_in _ _ hj]
  · rw [t2 20 (by decide) (by decide), cpS2, f10, cpy_in _ _ hj]
  · rw [t2 21 (by decide) (by decide), cpS2, f11, cpy_in _ _ hj]
  · rw [t2 10 (by decide) (by decide), cpS2, f0]
  · rw [t3 23 (by decide) (by decide), cpS3, r1, cpy_in _ _ hj]
  · rw [t3 24 (by decide) (by decide), cpS3, r2, cpy_in _ _ hj]
  · rw [t3 22 (by decide) (by decide), cpS3, r0, upd_n _ _ (by decide), upd_s]
  · rw [t3 22 (by decide) (by decide), cpS3, r0, upd_s]
  · rw [t4 26 (by decide) (by decide), cpS4, g1, cpy_in _ _ hj]
  · rw [t4 25 (by decide) (by decide), cpS4, g0, upd_n _ _ (by decide), upd_s]
  · rw [t4 25 (by decide) (by decide), cpS4, g0, upd_s]
  · rw [t5 28 (by decide) (by decide), cpS5, m1, cpy_in _ _ hj]
  · rw [t5 27 (by decide) (by decide), cpS5, m0]
  · rw [t6 31 (by decide), cpS6, q1, cpy_in _ _ hj]
  · unfold cpS
    rw [gJ_I, cpS6, q2, jj_5]
    by_cases h4 : j = 4
    · subst h4
      rw [updL_s]
    rw [updL_n _ _ h4]
    by_cases h4 : j = 3
    · subst h4
      rw [updL_s]
    rw [updL_n _ _ h4]
    by_cases h4 : j = 2
    · subst h4
      rw [updL_s]
    rw [updL_n _ _ h4, show j = 1 by omega, updL_s]
  · unfold cpS
    rw [gI_s, upd_s, e6]
theorem Lf.eq {M N : Mm} {f : Nat} (h : gK N = gK M ∧ gP N = gP M ∧ gZ N = gZ M) (g : Lf M f) : Lf N f := by unfold Lf at g ⊢; rw [h.1, h.2.1]; exact g
theorem Lr.eq {M N : Mm} {f : Nat} (h : gK N = gK M ∧ gP N = gP M ∧ gZ N = gZ M) (g : Lr M f) : Lr N f := by unfold Lr at g ⊢; rw [h.1, h.2.1]; exact g
theorem Lg.eq {M N : Mm} {f : Nat} (h : gK N = gK M ∧ gP N = gP M ∧ gZ N = gZ M) (g : Lg M f) : Lg N f := by unfold Lg at g ⊢; rw [h.1, h.2.1]; exact g
theorem Lm.eq {M N : Mm} {f : Nat} (h : gK N = gK M ∧ gP N = gP M ∧ gZ N = gZ M) (g : Lm M f) : Lm N f := by unfold Lm at g ⊢; rw [h.1, h.2.1]; exact g
theorem Lq.eq {M N : Mm} {f : Nat} (h : gK N = gK M ∧ gP N = gP M ∧ gZ N = gZ M) (g : Lq M f) : Lq N f := by unfold Lq at g ⊢; rw [h.1, h.2.1]; exact g
def S64 : Sem := fun as M => match as with
  | [.ref b, .ref o] => sV (Ls M b ∧ Ls M o ∧ cnt (gI M (o + 10) 11) 12 ∧ cnt (gI M (o + 27) 2) 900 ∧ apt b 32 o 32) none (cpS M b o)
  | _ => sF
def eX8_copyFrom : Nat → Sem := fun id => if id = 2 then S2 else if id = 13 then S13 else if id = 28 then S28 else if id = 33 then S33 else if id = 40 then S40 else S43
set_option maxRecDepth 100000 in
set_option maxHeartbeats 4000000 in
theorem s_X8_copyFrom {l : Launch} {G : Gt} (hfl : l.stackTraces = false) : SatM l G 64 S64 := by
  refine t_X8_copyFrom (E := eX8_copyFrom) hfl (s_X0_copyFrom hfl) (s_X1_copyFrom hfl) (s_X2_copyFrom hfl) (s_X3_copyFrom hfl) (s_X5_copyFrom hfl) (s_X6_copyFrom hfl) fun as M hp => ?_
  unfold S64 at hp ⊢
  split at hp
  case h_2 => exact hp.elim
  rename_i b o
  obtain ⟨⟨k0, ⟨p0, p1, p2, p3, p4, p5⟩, hC, hF, hR, hG, hM, hQ⟩, ⟨K0, ⟨P0, P1, P2, P3, P4, P5⟩, HC, HF, HR, HG, HM, HQ⟩, h1, h2, ha⟩ := hp
  refine ⟨Nat.le_of_ble_eq_true rfl, ?_⟩
  show Run (gT G) _ _ _ _ _ _ _ 0 [.val (.ref b), .val (.ref o)] [] M 0 0
  have f1 : cpC M (b + 1) (o + 1) = cpS1 M b o := rfl
  have f2 : cpF (cpS1 M b o) (b + 10) (o + 10) = cpS2 M b o := rfl
  have f3 : cpR (cpS2 M b o) (b + 22) (o + 22) = cpS3 M b o := rfl
  have f4 : cpG (cpS3 M b o) (b + 25) (o + 25) = cpS4 M b o := rfl
  have f5 : cpM (cpS4 M b o) (b + 27) (o + 27) = cpS5 M b o := rfl
  have f6 : cpQ (cpS5 M b o) (b + 30) (o + 30) = cpS6 M b o := rfl
  simp only [rX8_copyFrom_0, kX8_copyFrom_0, eX8_copyFrom, S2, S13, S28, S33, S40, S43, bk_c, if_true, if_false, wi_e, wl_e, wr_e, w1_i, w1_r, ldS_0, ldS_s, vi_e, vl_e, vr_e, dpL_u, dpL_i, dpL_r, dpL_l, stS_0, stS_1, stS_s, stL_0, stL_1, stL_s, bin_0, bin_1, bin_2, bin_3, bin_4, bin_5, bdv_0, bdv_1, lbin_0, lbin_1, lbin_2, cnd_0, cnd_1, cnd_2, cnd_3, cnd_4, cnd_5, aty_0, aty_1, aty_2, aty_3, aty_4, aty_5, c8_u, cn_0, cn_i, cn_r, cn_l, Nat.reduceAdd, Nat.reduceLeDiff, Nat.le_refl, adz, hnd_0, rcv_0, rcv_1, kLen_a, kLen_r, inB_e, inR_e, cpOK_e, swt_n, swt_c, List.take_succ_cons, List.take_zero, List.drop_succ_cons, List.drop_zero, List.reverse_cons, List.reverse_nil, List.nil_append, List.cons_append, List.length_cons, List.length_nil, Option.toList_some, Option.toList_none, det_e, det_x, tr_imp, fa_imp, implies_true, not_true, not_false_eq_true, and_true, true_and, nar_i, upd_s, st1_0, st1_1, st1_2, st1_3, st1_4, st1_5, st1_6, st1_7, st1_8, st1_9, st1_10, st1_11, st1_12, st1_13, st1_14, st1_15, st1_16, st1_17, st1_18, st1_19, st1_20, st1_21, st1_22, st1_23, st1_24, st1_25, st1_26, st1_27, st1_28, st1_29, st1_30, st1_31, st1_32, st1_33, st1_34, st1_35, st1_36, st1_37, st1_42, st1_43, st1_44, st1_46, st1_47, st1_48, st1_49, st1_50, st1_51, st1_52, st1_53, st1_54, st1_55, st1_56, st1_57, st1_58, st1_59, st1_60, up_q, up_q0, up_q1, up_s, sI_sI, Nat.reduceEqDiff, reduceIte, Nat.succ_ne_zero, forall_const, false_imp_iff, Nat.add_assoc, sV, k0, p0, p1, p2, p3, p4, p5, K0, P0, P1, P2, P3, P4, P5, hC.1, hF.1, hR.1, hG.1, hM.1, hQ.1, hC, HC, f1, f2, f3, f4, f5, f6, kp_1, kp_2, kp_3, kp_4, kp_5, kp_6]
  have ha2 := ha
  unfold apt at ha2
  refine ⟨⟨hF.eq (kp_1 M b o), HF.eq (kp_1 M b o), ?_, ?_⟩, ⟨hR.eq (kp_2 M b o), HR.eq (kp_2 M b o)⟩, ⟨hG.eq (kp_3 M b o), HG.eq (kp_3 M b o)⟩, ⟨hM.eq (kp_4 M b o), HM.eq (kp_4 M b o), ?_⟩, ⟨hQ.eq (kp_5 M b o), HQ.eq (kp_5 M b o)⟩, rfl⟩
  · rw [fs_1 M (by omega)]
    exact h1
  · unfold apt
    omega
  · rw [fs_4 M (by omega)]
    exact h2
theorem upd_upd (f : Nat → Int32) (k : Nat) (x y : Int32) : upd (upd f k x) k y = upd f k y := by
  funext j
  by_cases h : j = k
  · rw [h, upd_s, upd_s]
  · rw [upd_n _ _ h, upd_n _ _ h, upd_n _ _ h]
theorem ne87 (b : Nat) : b + 28 ≠ b + 27 := by omega
def fgS (M : Mm) (b : Nat) : Mm :=
  let M1 := sI M (b + 1) (upd (gI M (b + 1)) 8 0)
  let M2 := sI M1 (b + 10) (upd (gI M (b + 10)) 11 0)
  let M3 := sI M2 (b + 22) (upd (upd (gI M (b + 22)) 2 0) 3 0)
  let M4 := sI M3 (b + 25) (upd (gI M (b + 25)) 1 0)
  let M5 := sI M4 (b + 27) (upd (gI M (b + 27)) 2 1)
  sI M5 (b + 28) (upd (gI M (b + 28)) 0 100)
def S67 : Sem := fun as M => match as with
  | [.ref b] => sV (Ls M b) none (fgS M b)
  | _ => sF
def eX8_forgetSetup : Nat → Sem := fun id => if id = 25 then S25 else S26
set_option maxRecDepth 100000 in
set_option maxHeartbeats 4000000 in
theorem s_X8_forgetSetup {l : Launch} {G : Gt} (hfl : l.stackTraces = false) : SatM l G 67 S67 := by
  refine t_X8_forgetSetup (E := eX8_forgetSetup) hfl (s_X2_add hfl) (s_X2_clear hfl) fun as M hp => ?_
  unfold S67 at hp ⊢
  split at hp
  case h_2 => exact hp.elim
  rename_i b
  obtain ⟨k0, ⟨p0, p1, p2, p3, p4, p5⟩, hC, hF, hR, hG, hM, hQ⟩ := hp
  refine ⟨Nat.le_of_ble_eq_true rfl, ?_⟩
  show Run (gT G) _ _ _ _ _ _ _ 0 [.val (.ref b)] [] M 0 0
  simp only [rX8_forgetSetup_0, kX8_forgetSetup_0, eX8_forgetSetup, S25, S26, bk_c, if_true, if_false, wi_e, wl_e, wr_e, w1_i, w1_r, ldS_0, ldS_s, vi_e, vl_e, vr_e, dpL_u, dpL_i, dpL_r, dpL_l, stS_0, stS_1, stS_s, stL_0, stL_1, stL_s, bin_0, bin_1, bin_2, bin_3, bin_4, bin_5, bdv_0, bdv_1, lbin_0, lbin_1, lbin_2, cnd_0, cnd_1, cnd_2, cnd_3, cnd_4, cnd_5, aty_0, aty_1, aty_2, aty_3, aty_4, aty_5, c8_u, cn_0, cn_i, cn_r, cn_l, Nat.reduceAdd, Nat.reduceLeDiff, Nat.le_refl, adz, hnd_0, rcv_0, rcv_1, kLen_a, kLen_r, inB_e, inR_e, cpOK_e, swt_n, swt_c, List.take_succ_cons, List.take_zero, List.drop_succ_cons, List.drop_zero, List.reverse_cons, List.reverse_nil, List.nil_append, List.cons_append, List.length_cons, List.length_nil, Option.toList_some, Option.toList_none, det_e, det_x, tr_imp, fa_imp, implies_true, not_true, not_false_eq_true, and_true, true_and, nar_i, upd_s, st1_0, st1_1, st1_2, st1_3, st1_4, st1_5, st1_6, st1_7, st1_8, st1_9, st1_10, st1_11, st1_12, st1_13, st1_14, st1_15, st1_16, st1_17, st1_18, st1_19, st1_20, st1_21, st1_22, st1_23, st1_24, st1_25, st1_26, st1_27, st1_28, st1_29, st1_30, st1_31, st1_32, st1_33, st1_34, st1_35, st1_36, st1_37, st1_42, st1_43, st1_44, st1_46, st1_47, st1_48, st1_49, st1_50, st1_51, st1_52, st1_53, st1_54, st1_55, st1_56, st1_57, st1_58, st1_59, st1_60, gK_sI, gK_sJ, gK_sP, gK_sZ, gI_sI, gI_sJ, gI_sP, gI_sZ, gJ_sI, gJ_sJ, gJ_sP, gJ_sZ, gP_sI, gP_sJ, gP_sP, gP_sZ, gZ_sI, gZ_sJ, gZ_sP, gZ_sZ, up_q, up_q0, up_q1, up_s, sI_sI, Nat.reduceEqDiff, reduceIte, Nat.succ_ne_zero, forall_const, false_imp_iff, Nat.add_assoc, sV, k0, p0, p1, p2, p3, p4, p5, hC.1, hF.1, hR.1, hG.1, hM.1, hQ.1]
  refine ⟨hM, ⟨hM, 0, by decide, rfl⟩, ?_⟩
  unfold adM
  simp only [gK_sI, gK_sJ, gK_sP, gK_sZ, gI_sI, gI_sJ, gI_sP, gI_sZ, gJ_sI, gJ_sJ, gJ_sP, gJ_sZ, gP_sI, gP_sJ, gP_sP, gP_sZ, gZ_sI, gZ_sJ, gZ_sP, gZ_sZ, up_q, up_q0, up_q1, up_s, sI_sI, Nat.reduceEqDiff, reduceIte, Nat.succ_ne_zero, forall_const, false_imp_iff, Nat.add_assoc, upd_s, Nat.reduceAdd]
  rw [if_pos (show (0 : Int32) < 900 by decide), sI_cm (sI _ (b + 27) _) _ _ (ne87 b), sI_sI, upd_upd, show (0 : Int32) + 1 = 1 from rfl, cl0]
  rfl
