/-! ===== IrrigationTurnsModel: an hour on a row of data ===== -/
/-- the places that no hour writes, the guard's own aside -/
def stI (i : Nat) : Prop := i ≤ 4 ∨ i = 6 ∨ i = 7 ∨ (13 ≤ i ∧ i < 221 ∧ (i - 13) % 13 ≤ 4) ∨ (221 ≤ i ∧ i < 353 ∧ (i - 221) % 11 ≤ 6) ∨ (353 ≤ i ∧ i < 387) ∨ 393 ≤ i
def SD (D E : Nat → Int32) : Prop := ∀ i, stI i → E i = D i
theorem SD.r (D : Nat → Int32) : SD D D := fun _ _ => rfl
theorem SD.t {A B C : Nat → Int32} (h : SD A B) (g : SD B C) : SD A C := fun i hi => (g i hi).trans (h i hi)
theorem SD.u (D : Nat → Int32) {i : Nat} (x : Int32) (h : ¬ stI i) : SD D (upd D i x) := fun j hj => upd_n _ _ (fun e => h (e ▸ hj))
theorem SD.it {σ : Type} {D : Nat → Int32} (g : σ → Nat → Int32) (F : Nat → σ → σ) (hF : ∀ k z, SD D (g z) → SD D (g (F k z))) : ∀ r i z, SD D (g z) → SD D (g (itr F r i z))
  | 0, _, z, h => h
  | r + 1, i, z, h => SD.it g F hF r (i + 1) (F i z) (hF i z h)
/-- iteration with a bound on the counter -/
theorem SD.it2 {σ : Type} {D : Nat → Int32} (N : Nat) (g : σ → Nat → Int32) (F : Nat → σ → σ) (hF : ∀ k z, k < N → SD D (g z) → SD D (g (F k z))) : ∀ r i z, i + r ≤ N → SD D (g z) → SD D (g (itr F r i z))
  | 0, _, z, _, h => h
  | r + 1, i, z, hb, h => SD.it2 N g F hF r (i + 1) (F i z) (by omega) (hF i z (by omega) h)
/-- a row whose indexes are in order -/
def WD (D : Nat → Int32) (n f r w g : Nat) : Prop :=
  (n ≤ 16 ∧ f ≤ 12 ∧ r ≤ 12 ∧ w ≤ 10 ∧ g ≤ 9) ∧ (D 0 = nI n ∧ D 1 = nI f ∧ D 2 = nI r ∧ D 3 = nI w ∧ D 4 = nI g) ∧ (w = 0 ∨ g < w) ∧
  (∀ c, c < n → (∃ d, 1 ≤ d ∧ d ≤ 6 ∧ D (13 + 13 * c + 1) = nI d) ∧ (0 < c → ∃ p, p < c ∧ D (13 + 13 * c) = nI p)) ∧
  (∀ k, k < f → (∃ c, c < n ∧ D (221 + 11 * k) = nI c) ∧ (∃ v, v < 6 ∧ D (221 + 11 * k + 1) = nI v) ∧ (D (221 + 11 * k + 6) = -1 ∨ ∃ j, j < k ∧ D (221 + 11 * k + 6) = nI j)) ∧
  ∀ k, k < r → ∃ h, 1 ≤ h ∧ h ≤ 99 ∧ D (353 + 2 * k + 1) = nI h
theorem st_c {c j : Nat} (hc : c < 16) (hj : j ≤ 4) : stI (13 + 13 * c + j) := by unfold stI; omega
theorem st_f {c j : Nat} (hc : c < 12) (hj : j ≤ 6) : stI (221 + 11 * c + j) := by unfold stI; omega
theorem ns_c {c j : Nat} (hc : c < 16) (hj : 5 ≤ j) (hj2 : j ≤ 12) : ¬ stI (13 + 13 * c + j) := by unfold stI; omega
theorem ns_f {c j : Nat} (hc : c < 12) (hj : 7 ≤ j) (hj2 : j ≤ 10) : ¬ stI (221 + 11 * c + j) := by unfold stI; omega
theorem WD.sd {D E : Nat → Int32} {n f r w g : Nat} (h : WD D n f r w g) (s : SD D E) : WD E n f r w g := by
  obtain ⟨h1, ⟨e0, e1, e2, e3, e4⟩, h3, h4, h5, h6⟩ := h
  refine ⟨h1, ⟨by rw [s 0 (by unfold stI; omega)]; exact e0, by rw [s 1 (by unfold stI; omega)]; exact e1, by rw [s 2 (by unfold stI; omega)]; exact e2, by rw [s 3 (by unfold stI; omega)]; exact e3, by rw [s 4 (by unfold stI; omega)]; exact e4⟩, h3, fun c hc => ?_, fun k hk => ?_, fun k hk => ?_⟩
  · rw [s _ (st_c (by omega) (by decide)), s (13 + 13 * c) (st_c (j := 0) (by omega) (by decide))]
    exact h4 c hc
  · rw [s (221 + 11 * k) (st_f (j := 0) (by omega) (by decide)), s _ (st_f (by omega) (by decide)), s _ (st_f (by omega) (by decide))]
    exact h5 k hk
  · rw [s _ (by unfold stI; omega)]
    exact h6 k hk
/-! == what enters a canal == -/
def enH (D : Nat → Int32) (c : Nat) (a : Int32) : Int32 := mnM a (D (13 + 13 * c + 3))
def enT (D : Nat → Int32) (c : Nat) (a : Int32) : Int32 := enH D c a * D (13 + 13 * c + 2) / 100
def enD (D : Nat → Int32) (c : Nat) (a : Int32) : Nat → Int32 :=
  upd (upd (upd D 9 (D 9 + (a - enH D c a))) 10 (D 10 + enT D c a)) (13 + 13 * c + 6 + (D (13 + 13 * c + 1)).toNatClampNeg) (D (13 + 13 * c + 6 + (D (13 + 13 * c + 1)).toNatClampNeg) + (enH D c a - enT D c a))
theorem u_910 (f : Nat → Int32) (x : Int32) : upd f 9 x 10 = f 10 := rfl
theorem u13a (f : Nat → Int32) (k : Nat) (x : Int32) (t : Nat) (h : k < 13) : upd f k x (13 + t) = f (13 + t) := upd_n _ _ (by omega)
theorem u13b (f : Nat → Int32) (k : Nat) (x : Int32) (t j : Nat) (h : k < 13) : upd f k x (13 + t + j) = f (13 + t + j) := upd_n _ _ (by omega)
theorem u13c (f : Nat → Int32) (k : Nat) (x : Int32) (t j i : Nat) (h : k < 13) : upd f k x (13 + t + j + i) = f (13 + t + j + i) := upd_n _ _ (by omega)
theorem u22a (f : Nat → Int32) (k : Nat) (x : Int32) (t : Nat) (h : k < 13) : upd f k x (221 + t) = f (221 + t) := upd_n _ _ (by omega)
theorem u22b (f : Nat → Int32) (k : Nat) (x : Int32) (t j : Nat) (h : k < 13) : upd f k x (221 + t + j) = f (221 + t + j) := upd_n _ _ (by omega)
theorem v22b (f : Nat → Int32) (k : Nat) (x : Int32) (t j : Nat) (h : k < 13) : upd f (221 + t + j) x k = f k := upd_n _ _ (by omega)
theorem ud_q (f : Nat → Int32) (a i j : Nat) (x : Int32) : upd f (a + i) x (a + j) = if j = i then x else f (a + j) := by
  by_cases h : j = i
  · rw [h, upd_s, if_pos rfl]
  · rw [upd_n _ _ (by omega), if_neg h]
theorem ud_q0 (f : Nat → Int32) (a i : Nat) (x : Int32) : upd f (a + i) x a = if i = 0 then x else f a := by
  by_cases h : i = 0
  · subst h
    rw [if_pos rfl]
    exact upd_s _ _ _
  · rw [upd_n _ _ (by omega), if_neg h]
def S124 : Sem := fun as M => match as with
  | [.ref q, .int c, .int a] => sV (gK M q = kA .int 1793 ∧ ∃ k, k < 16 ∧ c = nI k ∧ ∃ d, d ≤ 6 ∧ gI M q (13 + 13 * k + 1) = nI d) none (sI M q (enD (gI M q) c.toNatClampNeg a))
  | _ => sF
def eX11_enter : Nat → Sem := fun id => if id = 113 then S113 else S150
set_option maxRecDepth 100000 in
set_option maxHeartbeats 4000000 in
theorem s_X11_enter {l : Launch} {G : Gt} (hfl : l.stackTraces = false) : SatM l G 124 S124 := by
  refine t_X11_enter (E := eX11_enter) hfl (s_X11_canal hfl) (s_X11_min hfl) fun as M hp => ?_
  unfold S124 at hp ⊢
  split at hp
  case h_2 => exact hp.elim
  rename_i q c a
  obtain ⟨k0, k, hk, ec, d, hd, ed⟩ := hp
  refine ⟨Nat.le_of_ble_eq_true rfl, ?_⟩
  show Run (gT G) _ _ _ _ _ _ _ 0 [.val (.ref q), .val (.int c), .val (.int a), .unset, .unset, .unset] [] M 0 0
  subst ec
  have ck : (nI k).toNatClampNeg = k := nI_clamp (by omega)
  have cd : (nI d).toNatClampNeg = d := nI_clamp (by omega)
  have i6 : vp_in (nI (13 + 13 * k + 6 + d)) 1793 = True := eq_true (vp_in_nI (by omega) (by decide))
  have c6 : (nI (13 + 13 * k + 6 + d)).toNatClampNeg = 13 + 13 * k + 6 + d := nI_clamp (by omega)
  have x1 := xC hk (show 1 ≤ 12 by decide)
  have x2 := xC hk (show 2 ≤ 12 by decide)
  have x3 := xC hk (show 3 ≤ 12 by decide)
  have n100 : ¬ (100 : Int32) = 0 := by decide
  simp only [rX11_enter_0, kX11_enter_0, eX11_enter, S113, S150, bk_c, if_true, if_false, wi_e, wl_e, wr_e, w1_i, w1_r, ldS_0, ldS_s, vi_e, vl_e, vr_e, dpL_u, dpL_i, dpL_r, dpL_l, stS_0, stS_1, stS_s, stL_0, stL_1, stL_s, bin_0, bin_1, bin_2, bin_3, bin_4, bin_5, bdv_0, bdv_1, lbin_0, lbin_1, lbin_2, cnd_0, cnd_1, cnd_2, cnd_3, cnd_4, cnd_5, aty_0, aty_1, aty_2, aty_3, aty_4, aty_5, c8_u, cn_0, cn_i, cn_r, cn_l, Nat.reduceAdd, Nat.reduceLeDiff, Nat.le_refl, adz, hnd_0, rcv_0, rcv_1, kLen_a, kLen_r, inB_e, inR_e, cpOK_e, swt_n, swt_c, List.take_succ_cons, List.take_zero, List.drop_succ_cons, List.drop_zero, List.reverse_cons, List.reverse_nil, List.nil_append, List.cons_append, List.length_cons, List.length_nil, Option.toList_some, Option.toList_none, det_e, det_x, tr_imp, fa_imp, implies_true, not_true, not_false_eq_true, and_true, true_and, nar_i, upd_s, st1_0, st1_1, st1_2, st1_3, st1_4, st1_5, st1_6, st1_7, st1_8, st1_9, st1_10, st1_11, st1_12, st1_13, st1_14, st1_15, st1_16, st1_17, st1_18, st1_19, st1_20, st1_21, st1_22, st1_23, st1_24, st1_25, st1_26, st1_27, st1_28, st1_29, st1_30, st1_31, st1_32, st1_33, st1_34, st1_35, st1_36, st1_37, st1_42, st1_43, st1_44, st1_46, st1_47, st1_48, st1_49, st1_50, st1_51, st1_52, st1_53, st1_54, st1_55, st1_56, st1_57, st1_58, st1_59, st1_60, gK_sI, gI_s, sI_sI, Nat.reduceEqDiff, reduceIte, sV, k0, c13, ad_2, ad_3, ad_6, nI_1, nI_add, xL0, xL1, x1, x2, x3, ck, u_910, u13b, u13c, Nat.reduceLT, ed, cd, i6, c6, n100, enD, enH, enT]
/-! == the fields of a canal take water == -/
def irA (O : Nat → Int32) (c v : Int32) (f : Nat) (z : Int32 × (Nat → Int32)) : Int32 × (Nat → Int32) :=
  if z.2 (221 + 11 * f) = c ∧ ¬ O f = 0 then
    (z.1 - mnM (z.2 (221 + 11 * f + 2)) z.1,
      if z.2 (221 + 11 * f + 1) = v then upd (upd z.2 (221 + 11 * f + 7) (z.2 (221 + 11 * f + 7) + mnM (z.2 (221 + 11 * f + 2)) z.1)) (221 + 11 * f + 8) (z.2 (221 + 11 * f + 8) + mnM (z.2 (221 + 11 * f + 2)) z.1)
      else upd (upd (upd z.2 (221 + 11 * f + 7) (z.2 (221 + 11 * f + 7) + mnM (z.2 (221 + 11 * f + 2)) z.1)) (221 + 11 * f + 8) (z.2 (221 + 11 * f + 8) + mnM (z.2 (221 + 11 * f + 2)) z.1)) (221 + 11 * f + 9) (z.2 (221 + 11 * f + 9) + mnM (z.2 (221 + 11 * f + 2)) z.1))
  else z
theorem sd_irA {D : Nat → Int32} (O : Nat → Int32) (c v : Int32) (f : Nat) (z : Int32 × (Nat → Int32)) (hf : f < 12) (h : SD D z.2) : SD D (irA O c v f z).2 := by
  unfold irA
  split
  · dsimp only
    split
    · exact (h.t (SD.u _ _ (ns_f hf (by decide) (by decide)))).t (SD.u _ _ (ns_f hf (by decide) (by decide)))
    · exact ((h.t (SD.u _ _ (ns_f hf (by decide) (by decide)))).t (SD.u _ _ (ns_f hf (by decide) (by decide)))).t (SD.u _ _ (ns_f hf (by decide) (by decide)))
  · exact h
def irR (D O : Nat → Int32) (c a v : Int32) : Int32 × (Nat → Int32) := itr (irA O c v) (D 1).toNatClampNeg 0 (a, D)
def S143 : Sem := fun as M => match as with
  | [.ref m, .ref q, .int c, .int a, .int v] => sV (LM M m ∧ q ≠ m ∧ q ≠ m + 15 ∧ gK M q = kA .int 1793 ∧ cnt (gI M q 1) 12) (some (.int (irR (gI M q) (gI M (m + 15)) c a v).1)) (sI M q (irR (gI M q) (gI M (m + 15)) c a v).2)
  | _ => sF
def eX11_irrigate : Nat → Sem := fun id => if id = 131 then S131 else S150
set_option maxRecDepth 100000 in
set_option maxHeartbeats 4000000 in
theorem s_X11_irrigate {l : Launch} {G : Gt} (hfl : l.stackTraces = false) : SatM l G 143 S143 := by
  refine t_X11_irrigate (E := eX11_irrigate) hfl (s_X11_field hfl) (s_X11_min hfl) fun as M hp => ?_
  unfold S143 at hp ⊢
  split at hp
  case h_2 => exact hp.elim
  rename_i m q c a v
  obtain ⟨hp, hq, hq15, k0, n, hn, en⟩ := hp
  refine ⟨Nat.le_of_ble_eq_true rfl, ?_⟩
  show Run (gT G) _ _ _ _ _ _ _ 0 [.val (.ref m), .val (.ref q), .val (.int c), .val (.int a), .val (.int v), .unset, .unset, .unset, .unset] [] M 0 0
  have cn : (nI n).toNatClampNeg = n := nI_clamp (by omega)
  have hO : ∀ g, gI (sI M q g) (m + 15) = gI M (m + 15) := fun g => gI_f _ _ (fun e => hq15 e.symm)
  have hI : ∀ g, gI (sI M q g) m = gI M m := fun g => gI_f _ _ (fun e => hq e.symm)
  have key : ∀ r i (z : Int32 × (Nat → Int32)) (u w : Slot), i + r = n → SD (gI M q) z.2 → Run (gT G) eX11_irrigate 0 0 (fun _ _ => none) (fun v' M' => v' = some (.int (itr (irA (gI M (m + 15)) c v) r i z).1) ∧ M' = sI M q (itr (irA (gI M (m + 15)) c v) r i z).2) (fun _ _ => False) kX11_irrigate 6 [.val (.ref m), .val (.ref q), .val (.int c), .val (.int a), .val (.int v), .val (.int z.1), .val (.int (nI i)), u, w] [] (sI M q z.2) 0 0 := by
    intro r
    induction r with
    | zero =>
      intro i z u w hi hz
      have hi2 : i = n := hi
      subst hi2
      have e1 : z.2 1 = nI i := (hz 1 (by unfold stI; omega)).trans en
      rw [rX11_irrigate_6]
      simp only [kX11_irrigate_6, rX11_irrigate_0, kX11_irrigate_0, rX11_irrigate_42, kX11_irrigate_42, rX11_irrigate_109, kX11_irrigate_109, rX11_irrigate_115, kX11_irrigate_115, eX11_irrigate, S131, S150, bk_c, if_true, if_false, wi_e, wl_e, wr_e, w1_i, w1_r, ldS_0, ldS_s, vi_e, vl_e, vr_e, dpL_u, dpL_i, dpL_r, dpL_l, stS_0, stS_1, stS_s, stL_0, stL_1, stL_s, bin_0, bin_1, bin_2, bin_3, bin_4, bin_5, bdv_0, bdv_1, lbin_0, lbin_1, lbin_2, cnd_0, cnd_1, cnd_2, cnd_3, cnd_4, cnd_5, aty_0, aty_1, aty_2, aty_3, aty_4, aty_5, c8_u, cn_0, cn_i, cn_r, cn_l, Nat.reduceAdd, Nat.reduceLeDiff, Nat.le_refl, adz, hnd_0, rcv_0, rcv_1, kLen_a, kLen_r, inB_e, inR_e, cpOK_e, swt_n, swt_c, List.take_succ_cons, List.take_zero, List.drop_succ_cons, List.drop_zero, List.reverse_cons, List.reverse_nil, List.nil_append, List.cons_append, List.length_cons, List.length_nil, Option.toList_some, Option.toList_none, det_e, det_x, tr_imp, fa_imp, implies_true, not_true, not_false_eq_true, and_true, true_and, nar_i, upd_s, st1_0, st1_1, st1_2, st1_3, st1_4, st1_5, st1_6, st1_7, st1_8, st1_9, st1_10, st1_11, st1_12, st1_13, st1_14, st1_15, st1_16, st1_17, st1_18, st1_19, st1_20, st1_21, st1_22, st1_23, st1_24, st1_25, st1_26, st1_27, st1_28, st1_29, st1_30, st1_31, st1_32, st1_33, st1_34, st1_35, st1_36, st1_37, st1_42, st1_43, st1_44, st1_46, st1_47, st1_48, st1_49, st1_50, st1_51, st1_52, st1_53, st1_54, st1_55, st1_56, st1_57, st1_58, st1_59, st1_60, gK_sI, gI_s, k0, xL0, xL1, e1, lp_out, itr]
    | succ r ih =>
      intro i z u w hi hz
      obtain ⟨a1, a2, a3, -⟩ := lp_in (i := i) (n := n) (N := 12) (by omega) hn (by decide)
      have e1 : z.2 1 = nI n := (hz 1 (by unfold stI; omega)).trans en
      have hi12 : i < 12 := by omega
      have x0 := xF0 hi12
      have x1 := xF hi12 (show 1 ≤ 10 by decide)
      have x2 := xF hi12 (show 2 ≤ 10 by decide)
      have x7 := xF hi12 (show 7 ≤ 10 by decide)
      have x8 := xF hi12 (show 8 ≤ 10 by decide)
      have x9 := xF hi12 (show 9 ≤ 10 by decide)
      rw [rX11_irrigate_6]
      simp only [kX11_irrigate_6, rX11_irrigate_0, kX11_irrigate_0, rX11_irrigate_42, kX11_irrigate_42, rX11_irrigate_109, kX11_irrigate_109, rX11_irrigate_115, kX11_irrigate_115, eX11_irrigate, S131, S150, bk_c, if_true, if_false, wi_e, wl_e, wr_e, w1_i, w1_r, ldS_0, ldS_s, vi_e, vl_e, vr_e, dpL_u, dpL_i, dpL_r, dpL_l, stS_0, stS_1, stS_s, stL_0, stL_1, stL_s, bin_0, bin_1, bin_2, bin_3, bin_4, bin_5, bdv_0, bdv_1, lbin_0, lbin_1, lbin_2, cnd_0, cnd_1, cnd_2, cnd_3, cnd_4, cnd_5, aty_0, aty_1, aty_2, aty_3, aty_4, aty_5, c8_u, cn_0, cn_i, cn_r, cn_l, Nat.reduceAdd, Nat.reduceLeDiff, Nat.le_refl, adz, hnd_0, rcv_0, rcv_1, kLen_a, kLen_r, inB_e, inR_e, cpOK_e, swt_n, swt_c, List.take_succ_cons, List.take_zero, List.drop_succ_cons, List.drop_zero, List.reverse_cons, List.reverse_nil, List.nil_append, List.cons_append, List.length_cons, List.length_nil, Option.toList_some, Option.toList_none, det_e, det_x, tr_imp, fa_imp, implies_true, not_true, not_false_eq_true, and_true, true_and, nar_i, upd_s, st1_0, st1_1, st1_2, st1_3, st1_4, st1_5, st1_6, st1_7, st1_8, st1_9, st1_10, st1_11, st1_12, st1_13, st1_14, st1_15, st1_16, st1_17, st1_18, st1_19, st1_20, st1_21, st1_22, st1_23, st1_24, st1_25, st1_26, st1_27, st1_28, st1_29, st1_30, st1_31, st1_32, st1_33, st1_34, st1_35, st1_36, st1_37, st1_42, st1_43, st1_44, st1_46, st1_47, st1_48, st1_49, st1_50, st1_51, st1_52, st1_53, st1_54, st1_55, st1_56, st1_57, st1_58, st1_59, st1_60, gK_sI, gP_sI, gI_s, sI_sI, hO, hp.f, Nat.reduceEqDiff, reduceIte, sV, k0, f11, ad_2, ad_7, ad_8, ad_9, nI_1, xL0, xL1, x0, x1, x2, x7, x8, x9, ud_q, Nat.succ_ne_zero, ne_eq, e1, a1, a2, a3, itr]
      refine ⟨fun h => ?_, fun h => ⟨fun h2 => ⟨fun h3 => ?_, fun h3 => ?_⟩, fun h2 => ?_⟩⟩
      · rw [show irA (gI M (m + 15)) c v i z = z from if_neg (fun q => h q.1)]
        exact ih (i + 1) z _ w (by omega) hz
      · have e := ih (i + 1) (irA (gI M (m + 15)) c v i z) (.val (.int (nI (221 + 11 * i)))) (.val (.int (mnM (z.2 (221 + 11 * i + 2)) z.1))) (by omega) (sd_irA _ _ _ _ _ hi12 hz)
        rw [show irA (gI M (m + 15)) c v i z = (z.1 - mnM (z.2 (221 + 11 * i + 2)) z.1, upd (upd z.2 (221 + 11 * i + 7) (z.2 (221 + 11 * i + 7) + mnM (z.2 (221 + 11 * i + 2)) z.1)) (221 + 11 * i + 8) (z.2 (221 + 11 * i + 8) + mnM (z.2 (221 + 11 * i + 2)) z.1)) from by
          unfold irA; rw [if_pos ⟨Decidable.not_not.mp h, h2⟩, if_pos h3]] at e ⊢
        exact e
      · have e := ih (i + 1) (irA (gI M (m + 15)) c v i z) (.val (.int (nI (221 + 11 * i)))) (.val (.int (mnM (z.2 (221 + 11 * i + 2)) z.1))) (by omega) (sd_irA _ _ _ _ _ hi12 hz)
        rw [show irA (gI M (m + 15)) c v i z = (z.1 - mnM (z.2 (221 + 11 * i + 2)) z.1, upd (upd (upd z.2 (221 + 11 * i + 7) (z.2 (221 + 11 * i + 7) + mnM (z.2 (221 + 11 * i + 2)) z.1)) (221 + 11 * i + 8) (z.2 (221 + 11 * i + 8) + mnM (z.2 (221 + 11 * i + 2)) z.1)) (221 + 11 * i + 9) (z.2 (221 + 11 * i + 9) + mnM (z.2 (221 + 11 * i + 2)) z.1)) from by
          unfold irA; rw [if_pos ⟨Decidable.not_not.mp h, h2⟩, if_neg h3]] at e ⊢
        exact e
      · rw [show irA (gI M (m + 15)) c v i z = z from if_neg (fun q => q.2 (Decidable.not_not.mp h2))]
        exact ih (i + 1) z _ w (by omega) hz
  have h0 := key n 0 (a, gI M q) .unset .unset (Nat.zero_add n) (SD.r _)
  simp only [sI_id] at h0
  simp only [rX11_irrigate_0, kX11_irrigate_0, rX11_irrigate_42, kX11_irrigate_42, rX11_irrigate_109, kX11_irrigate_109, rX11_irrigate_115, kX11_irrigate_115, eX11_irrigate, S131, S150, bk_c, if_true, if_false, wi_e, wl_e, wr_e, w1_i, w1_r, ldS_0, ldS_s, vi_e, vl_e, vr_e, dpL_u, dpL_i, dpL_r, dpL_l, stS_0, stS_1, stS_s, stL_0, stL_1, stL_s, bin_0, bin_1, bin_2, bin_3, bin_4, bin_5, bdv_0, bdv_1, lbin_0, lbin_1, lbin_2, cnd_0, cnd_1, cnd_2, cnd_3, cnd_4, cnd_5, aty_0, aty_1, aty_2, aty_3, aty_4, aty_5, c8_u, cn_0, cn_i, cn_r, cn_l, Nat.reduceAdd, Nat.reduceLeDiff, Nat.le_refl, adz, hnd_0, rcv_0, rcv_1, kLen_a, kLen_r, inB_e, inR_e, cpOK_e, swt_n, swt_c, List.take_succ_cons, List.take_zero, List.drop_succ_cons, List.drop_zero, List.reverse_cons, List.reverse_nil, List.nil_append, List.cons_append, List.length_cons, List.length_nil, Option.toList_some, Option.toList_none, det_e, det_x, tr_imp, fa_imp, implies_true, not_true, not_false_eq_true, and_true, true_and, nar_i, upd_s, st1_0, st1_1, st1_2, st1_3, st1_4, st1_5, st1_6, st1_7, st1_8, st1_9, st1_10, st1_11, st1_12, st1_13, st1_14, st1_15, st1_16, st1_17, st1_18, st1_19, st1_20, st1_21, st1_22, st1_23, st1_24, st1_25, st1_26, st1_27, st1_28, st1_29, st1_30, st1_31, st1_32, st1_33, st1_34, st1_35, st1_36, st1_37, st1_42, st1_43, st1_44, st1_46, st1_47, st1_48, st1_49, st1_50, st1_51, st1_52, st1_53, st1_54, st1_55, st1_56, st1_57, st1_58, st1_59, st1_60]
  unfold irR
  rw [en, cn]
  exact h0
