/-! ===== the calls that change: force, swapTurns, undo ===== -/
/-- a call that saves, then changes the present State and the row alike -/
theorem ho_ch {M N : Mm} {x m o : Nat} {bad : Option Nat} {f : Nat → Int32} {v : Int64} {pre : Mm → Prop} {w : Mm → Int64} {E : Nat → Int32} {code : Mm → Int32} {R : Mm → Mm} (hS : XS M x m) (ho : m + 17 ≤ o) (hN : Fx N M x)
    (hA : bad = none → XA N x E (gI M (m + 1)) (gI M m 2) (gI M m 7) (rmU (gI M m 12)) (rmH (gI M (m + 2)) (gI M m 12) (fun k => gI M (m + 6 + k))))
    (hp : ∀ P, LM P m → (∀ q, x + 358 ≤ q → gI P q = gI M q) → pre P) (hc : ∀ P, (∀ q, x + 358 ≤ q → gI P q = gI M q) → (bad = none → code P = 0) ∧ ∀ e, bad = some e → code P = f e ∧ ¬ f e = 0)
    (hR : bad = none → ∀ P, LM P m → (∀ q, x + 358 ≤ q → gI P q = gI M q) → R P = sI (rmR P m) (m + 2) E ∧ v = w P) : HO M x m o bad f N v pre w (fun P => if code P = 0 then R P else tS P m (code P)) := by
  have hx := hS.1
  refine ⟨hN.1, fun P hP => ?_⟩
  have e : gK P = gK M ∧ gP P = gP M ∧ (∀ q, x + 358 ≤ q → gI P q = gI M q) ∧ Fa P M x m o := by
    rcases hP with ⟨-, rfl⟩ | ⟨e, z, -, rfl⟩
    · exact ⟨hN.1, hN.2.1, fun q hq => (hN.2.2 q (Or.inr hq)).1, (Fa.o _ _ _ _ _).t (hN.a hx)⟩
    · exact ⟨rfl, rfl, fun _ _ => rfl, Fa.z _ _ _ _ _⟩
  obtain ⟨e1, e2, e3, e4⟩ := e
  have hL : LM P m := hS.2.1.kp e1 e2
  obtain ⟨c1, c2⟩ := hc P e3
  have pm : gI P m = gI M m := e3 _ (by omega)
  have huP : cnt (gI P m 12) 8 := by rw [pm]; exact hS.u
  obtain ⟨q1, q2, q3, q4, q5, q6⟩ := rmR_e huP
  dsimp only
  rcases hP with ⟨hb, rfl⟩ | ⟨e, z, hb, rfl⟩
  · obtain ⟨r1, r2⟩ := hR hb _ hL e3
    rw [if_pos (c1 hb), r1]
    have fmm : Fm (sI (rmR (sJ N o (vp_updL (gJ N o) 0 v)) m) (m + 2) E) (sJ N o (vp_updL (gJ N o) 0 v)) m := (Fm.i _ _ (by omega)).t q6
    refine ⟨e4, hp _ hL e3, ?_, (fmm.a hx).t e4, (fmm.2.2 o (Or.inr ho)).2, fun _ => ⟨?_, r2⟩, fun e hb2 => ?_⟩
    · refine XS.mk ((hA hb).o hx ho _) hx hL fmm ?_ ?_ ?_ ?_ ?_ (fun k hk => ?_)
      · rw [gI_s]; exact ag9.r _
      · rw [gI_f _ _ (by omega), q5, e3 _ (by omega)]
      · rw [gI_f _ _ (by omega), q3 2 (by decide) (by decide), pm]
      · rw [gI_f _ _ (by omega), q3 7 (by decide) (by decide), pm]
      · rw [gI_f _ _ (by omega), q2, pm]
      · rw [gI_f _ _ (by omega)]
        have := q1 k hk
        have er : (fun k => gI (sJ N o (vp_updL (gJ N o) 0 v)) (m + 6 + k)) = fun k => gI M (m + 6 + k) := by funext k; exact e3 _ (by omega)
        rw [e3 (m + 2) (by omega), pm, er] at this
        exact this
    · rw [gI_f _ _ (by omega)]
      exact q4
    · rw [hb] at hb2
      cases hb2
  · obtain ⟨k1, k2⟩ := c2 e hb
    have kn : ¬ code (sZ M z) = 0 := by rw [k1]; exact k2
    rw [if_neg kn]
    have fmm := fm_tS (sZ M z) m (code (sZ M z))
    refine ⟨e4, hp _ hL e3, (hS.z z).t _, (fmm.a hx).t e4, rfl, fun hb2 => ?_, fun e' hb2 => ?_⟩
    · rw [hb] at hb2
      cases hb2
    · rw [tS_0]
      exact c2 e' hb2
section CHANGE2
variable {M : Mm} {x m o : Nat}
theorem svM_p {M : Mm} {x : Nat} (h : FH (svM M (x + 100) (x + 36)) M (x + 100)) (q : Nat) (hq : q < x + 100) : gI (svM M (x + 100) (x + 36)) q = gI M q := (h.2.2.2 q (Or.inl hq)).1
theorem ho_force (hS : XS M x m) (ho : m + 17 ≤ o) (f : Int32) : HO M x m o (orE (bI f (gI M (x + 46) 11)) (fcB M x f)) (fun e => if e = 1 then 1 else 2) (fcM M x f) (Int32.toInt64 (itr (cfA (fcM M x f) (x + 46)) (gI (fcM M x f) (x + 46) 11).toNatClampNeg 0 0)) (fun P => LM P m ∧ cnt (gI P m 12) 8 ∧ cnt (gI P (m + 2) 1) 12) (fun P => (if kFo P m f = 0 then coD (gI (foM P m f) (m + 2)) else 0).toInt64) (fun P => if kFo P m f = 0 then foM P m f else tS P m (kFo P m f)) := by
  obtain ⟨n, f', r, w', g, t, ht, hX, ⟨b1, b2, b3⟩, ⟨c1, c2, c3⟩, ⟨d1, d2, d3⟩⟩ := hS.n
  have hx := hS.1
  have fh := hS.2.2.p.sv.2
  have hsv := xa_sv hS.2.2
  have e57 : ∀ j, j < f' → gI M (x + 57) j = gI M (m + 2) (221 + 11 * j + 10) := fun j hj => (hX.2.2.2.1.2.2.1 j hj).2.2.2
  have hN : Fx (fcM M x f) M x := (Fx.i _ _ (by omega)).t fh.x
  -- where the gate is closed
  have good : orE (bI f (gI M (x + 46) 11)) (fcB M x f) = none → ∃ j, j < f' ∧ f = nI j ∧ gI M (m + 2) (221 + 11 * j + 10) = 0 := by
    intro k
    rcases bI_o f (show f' < 2 ^ 30 by omega) with ⟨y, -⟩ | ⟨y, -⟩
    · obtain ⟨j, hj, ej⟩ := bI_j y (by omega)
      refine ⟨j, hj, ej, ?_⟩
      rw [c2, y, orE_n] at k
      unfold fcB at k
      rw [ej, nI_clamp (show j < 2 ^ 31 by omega), e57 j hj] at k
      split at k
      · assumption
      · cases k
    · rw [c2, y, orE_s] at k
      cases k
  have kfo : ∀ P, (∀ q, x + 358 ≤ q → gI P q = gI M q) → kFo P m f = orK (ccK f 0 (nI f' - 1) 1) (if gI M (m + 2) (221 + 11 * f.toNatClampNeg + 10) = 1 then 2 else 0) := fun P e => by
    unfold kFo kFi
    rw [hS.e2 e, d2]
  refine ho_ch (E := upd (gI M (m + 2)) (221 + 11 * f.toNatClampNeg + 10) 1) hS ho hN (fun hb => ?_) (fun P hL e => ⟨hL, by rw [e _ (by omega)]; exact hS.u, by rw [hS.e2 e]; exact ⟨f', b2, d2⟩⟩) (fun P e => ?_) (fun hb P hL e => ?_)
  · obtain ⟨j, hj, ej, e0⟩ := good hb
    rw [ej, nI_clamp (show j < 2 ^ 31 by omega)]
    have hXs : XR (svM M (x + 100) (x + 36)) (x + 36) (gI M (m + 2)) n f' r w' g t := hX.eq (fun k hk => svM_p fh _ (by omega)) (fh.2.2.2 _ (by omega)).2
    have eM : fcM M x (nI j) = sI (svM M (x + 100) (x + 36)) (x + 36 + 21) (upd (gI (svM M (x + 100) (x + 36)) (x + 36 + 21)) j 1) := by
      unfold fcM
      rw [nI_clamp (show j < 2 ^ 31 by omega)]
    rw [eM]
    refine hsv.pr (FR.i _ _ (by omega)) ⟨n, f', r, w', g, t, ht, hXs.fo hj⟩ (fun k hk => ?_)
    have g57 : gI (sI (svM M (x + 100) (x + 36)) (x + 36 + 21) (upd (gI (svM M (x + 100) (x + 36)) (x + 36 + 21)) j 1)) (x + 57) = upd (gI (svM M (x + 100) (x + 36)) (x + 36 + 21)) j 1 := gI_s _ _ _
    rw [g57]
    by_cases e : k = j
    · rw [e, upd_s]
      exact Or.inr rfl
    · rw [upd_n _ _ e]
      exact hsv.2.2.1 k hk
  · rw [kfo P e]
    have hfb : (fcB M x f = none ∧ ∃ j, j < f' ∧ f = nI j) ∨ (fcB M x f = some 2 ∧ ∃ j, j < f' ∧ f = nI j) ∨ ¬ ∃ j, j < f' ∧ f = nI j := by
      by_cases y : ∃ j, j < f' ∧ f = nI j
      · rcases fcB_or M x f with z | z
        · exact Or.inl ⟨z, y⟩
        · exact Or.inr (Or.inl ⟨z, y⟩)
      · exact Or.inr (Or.inr y)
    have fcv : ∀ j, j < f' → f = nI j → fcB M x f = (if gI M (m + 2) (221 + 11 * f.toNatClampNeg + 10) = 1 then some 2 else none) := by
      intro j hj ej
      unfold fcB
      rw [ej, nI_clamp (show j < 2 ^ 31 by omega), e57 j hj]
      rcases hX.2.2.2.2.1 j hj with z | z
      · rw [z, if_pos rfl, if_neg (by decide)]
      · rw [z, if_neg (by decide), if_pos rfl]
    rw [c2]
    rcases bI_o f (show f' < 2 ^ 30 by omega) with ⟨y, y2⟩ | ⟨y, y2⟩
    · obtain ⟨j, hj, ej⟩ := bI_j y (by omega)
      rw [y, y2, orE_n, orK_0, fcv j hj ej]
      by_cases z : gI M (m + 2) (221 + 11 * f.toNatClampNeg + 10) = 1
      · rw [if_pos z, if_pos z]
        exact ⟨fun h => (by cases h), fun e h => (by cases h; exact ⟨rfl, by decide⟩)⟩
      · rw [if_neg z, if_neg z]
        exact ⟨fun _ => rfl, fun e h => (by cases h)⟩
    · rw [y, y2, orE_s, orK_1]
      exact ⟨fun h => (by cases h), fun e h => (by cases h; exact ⟨rfl, by decide⟩)⟩
  · obtain ⟨j, hj, ej, e0⟩ := good hb
    have huP : cnt (gI P m 12) 8 := by rw [e _ (by omega)]; exact hS.u
    have r2 : gI (rmR P m) (m + 2) = gI M (m + 2) := (rmR_2 huP).trans (hS.e2 e)
    have k0 : kFo P m f = 0 := by
      rw [kfo P e]
      rcases bI_o f (show f' < 2 ^ 30 by omega) with ⟨y, y2⟩ | ⟨y, y2⟩
      · rw [y2, orK_0, ej, nI_clamp (show j < 2 ^ 31 by omega), e0, if_neg (by decide)]
      · rw [c2, y, orE_s] at hb
        cases hb
    have eF : foM P m f = sI (rmR P m) (m + 2) (upd (gI M (m + 2)) (221 + 11 * f.toNatClampNeg + 10) 1) := by
      unfold foM
      rw [r2]
    refine ⟨eF, ?_⟩
    rw [if_pos k0, eF, gI_s, ej, nI_clamp (show j < 2 ^ 31 by omega)]
    refine congrArg _ ?_
    have g46 : gI (fcM M x (nI j)) (x + 46) 11 = nI f' := by
      unfold fcM
      rw [gI_f _ _ (by omega), svM_p fh _ (by omega)]
      exact c2
    have g57 : gI (fcM M x (nI j)) (x + 57) = upd (gI M (x + 57)) j 1 := by
      unfold fcM
      rw [gI_s, nI_clamp (show j < 2 ^ 31 by omega), svM_p fh _ (by omega)]
    unfold coD
    rw [g46, nI_clamp (show f' < 2 ^ 31 by omega), upd_n _ _ (by omega), d2, nI_clamp (show f' < 2 ^ 31 by omega)]
    have key : ∀ q k (s : Int32), k + q ≤ f' → itr (cfA (fcM M x (nI j)) (x + 46)) q k s = itr (fun k s => s + upd (gI M (m + 2)) (221 + 11 * j + 10) 1 (221 + 11 * k + 10)) q k s := by
      intro q
      induction q with
      | zero =>
        intro k s _
        show s = s
        rfl
      | succ q ih =>
        intro k s hk
        have es : cfA (fcM M x (nI j)) (x + 46) k s = s + upd (gI M (m + 2)) (221 + 11 * j + 10) 1 (221 + 11 * k + 10) := by
          unfold cfA
          rw [show x + 46 + 11 = x + 57 from rfl, g57]
          congr 1
          by_cases e : k = j
          · rw [e, upd_s, upd_s, if_neg (by decide)]
          · rw [upd_n _ _ e, upd_n _ _ (show 221 + 11 * k + 10 ≠ 221 + 11 * j + 10 by omega), e57 k (by omega)]
            rcases hX.2.2.2.2.1 k (by omega) with z | z
            · rw [z, if_pos rfl]
            · rw [z, if_neg (by decide)]
        show itr (cfA (fcM M x (nI j)) (x + 46)) q (k + 1) (cfA (fcM M x (nI j)) (x + 46) k s) = _
        rw [es]
        exact ih (k + 1) _ (by omega)
    exact key f' 0 0 (by omega)
/-! == two entries change places == -/
theorem iS_sw {F H : Nat → Int32} {r i j : Nat} (hi : i < r) (hj : j < r) (h0 : ∀ k, k < r → k ≠ i → k ≠ j → H k = F k) (h1 : H i = F j) (h2 : H j = F i) : iS H 0 r = iS F 0 r := by
  by_cases e : i = j
  · subst e
    refine iS_e _ _ (fun k _ hk => ?_)
    by_cases e : k = i
    · rw [e, h1]
    · exact h0 k (by omega) e e
  · have a : iS (upd F i (F j)) 0 r = iS F 0 r + (F j - F i) := iS_u (F := F) (H := upd F i (F j)) (j := i) r 0 (by omega) (by omega) (fun k hk _ _ => upd_n _ _ hk) (by rw [upd_s, Int32.add_comm, Int32.sub_add_cancel])
    have b : iS H 0 r = iS (upd F i (F j)) 0 r + (F i - F j) := iS_u (F := upd F i (F j)) (H := H) (j := j) r 0 (by omega) (by omega) (fun k hk _ hkr => by
      by_cases e2 : k = i
      · rw [e2, upd_s, h1]
      · rw [upd_n _ _ e2]
        exact h0 k (by omega) e2 hk) (by rw [upd_n _ _ (fun z => e z.symm), h2, Int32.add_comm, Int32.sub_add_cancel])
    rw [b, a, Int32.add_assoc]
    have : F j - F i + (F i - F j) = 0 := by
      simp only [Int32.sub_eq_add_neg]
      rw [show F j + -F i + (F i + -F j) = (F j + -F j) + (F i + -F i) by ac_rfl, Int32.add_right_neg, Int32.add_right_neg, Int32.add_zero]
    rw [this, Int32.add_zero]
theorem XR.sw {M N : Mm} {b : Nat} {D E : Nat → Int32} {n f r w g h i j : Nat} (hX : XR M b D n f r w g h) (hi : i < r) (hj : j < r) (hN : ∀ k, k < 32 → k ≠ 23 → k ≠ 24 → gI N (b + k) = gI M (b + k)) (hJ : gJ N (b + 30) = gJ M (b + 30))
    (n3 : gI N (b + 23) = upd (upd (gI M (b + 23)) i (gI M (b + 23) j)) j (gI M (b + 23) i)) (n4 : gI N (b + 24) = upd (upd (gI M (b + 24)) i (gI M (b + 24) j)) j (gI M (b + 24) i)) (fo : ∀ k, (k < 353 ∨ 377 ≤ k) → E k = D k)
    (fe : ∀ k, k < r → (E (353 + 2 * k) = if k = j then D (353 + 2 * i) else if k = i then D (353 + 2 * j) else D (353 + 2 * k)) ∧ (E (353 + 2 * k + 1) = if k = j then D (353 + 2 * i + 1) else if k = i then D (353 + 2 * j + 1) else D (353 + 2 * k + 1))) : XR N b E n f r w g h := by
  obtain ⟨hW, hB, ⟨⟨s1, s2, s3, s4⟩, a1, a2, a3, a4, a5⟩, ⟨r1, r2, r3, r4, r5, r6, r7, r8⟩, hF, ⟨t6, t5, hh⟩, ⟨gp, gw⟩, ⟨wl, w8⟩, hP, hFW, hRT⟩ := hX
  have hn : n ≤ 16 := hW.1.1
  have hf : f ≤ 12 := hW.1.2.1
  have hr : r ≤ 12 := hW.1.2.2.1
  have hw : w ≤ 10 := hW.1.2.2.2.1
  have h0 : gI N b = gI M b := hN 0 (by decide) (by decide) (by decide)
  have nn := fun k (h1 : k < 32) (h2 : k ≠ 23) (h3 : k ≠ 24) => hN k h1 h2 h3
  have cyE : cyD E = cyD D := by
    unfold cyD
    rw [fo 2 (by omega), hW.2.1.2.2.1, nI_clamp (show r < 2 ^ 31 by omega), it_s, it_s]
    congr 1
    refine iS_sw (i := i) (j := j) hi hj (fun k hk k1 k2 => ?_) ?_ ?_
    · rw [(fe k hk).2, if_neg k2, if_neg k1]
    · rw [(fe i hi).2]
      by_cases e : i = j
      · rw [if_pos e, e]
      · rw [if_neg e, if_pos rfl]
    · rw [(fe j hj).2, if_pos rfl]
  have PLo : ∀ k ∈ PL, E k = D k := fun k hk => fo k (by rcases PL_n hk with e | e | e | ⟨c, q, hc, hq, e⟩ | ⟨y, hy, e⟩ <;> omega)
  refine ⟨⟨hW.1, ⟨by rw [fo 0 (by omega)]; exact hW.2.1.1, by rw [fo 1 (by omega)]; exact hW.2.1.2.1, by rw [fo 2 (by omega)]; exact hW.2.1.2.2.1, by rw [fo 3 (by omega)]; exact hW.2.1.2.2.2.1, by rw [fo 4 (by omega)]; exact hW.2.1.2.2.2.2⟩, hW.2.2.1, fun c hc => ?_, fun k hk => ?_, fun k hk => ?_⟩, ?_, ⟨⟨?_, ?_, ?_, ?_⟩, fun k hk => ?_, fun k hk => ?_, fun k hk => ?_, ?_, fun k hk => ?_⟩, ⟨fun k hk => ?_, fun k q hk hq => ?_, fun k hk => ?_, fun v hv => ?_, ?_, ?_, ?_, ?_⟩, fun k hk => ?_, ⟨?_, ?_, hh⟩, ⟨?_, gw⟩, ⟨⟨fun k hk => ?_, ?_, ?_⟩, ?_⟩, hP.e (fun k hk => ⟨fo _ (by omega), fun q hq => fo _ (by omega)⟩), hFW.e ?_ ?_ (fo 6 (by omega)) (fo 7 (by omega)) (fun k => fo _ (by omega)), fun k hk => ?_⟩
  · rw [fo (13 + 13 * c + 1) (by omega), fo (13 + 13 * c) (by omega)]; exact hW.2.2.2.1 c hc
  · rw [fo (221 + 11 * k) (by omega), fo (221 + 11 * k + 1) (by omega), fo (221 + 11 * k + 6) (by omega)]; exact hW.2.2.2.2.1 k hk
  · rw [(fe k hk).2]
    split
    · exact hW.2.2.2.2.2 i hi
    · split
      · exact hW.2.2.2.2.2 j hj
      · exact hW.2.2.2.2.2 k hk
  · refine ⟨fun c hc => ?_, fun k hk => ?_⟩
    · rw [fo (13 + 13 * c + 2) (by omega), fo (13 + 13 * c + 3) (by omega), fo (13 + 13 * c + 4) (by omega)]; exact hB.1 c hc
    · rw [fo (221 + 11 * k + 2) (by omega), fo (221 + 11 * k + 3) (by omega), fo (221 + 11 * k + 4) (by omega), fo (221 + 11 * k + 5) (by omega)]; exact hB.2 k hk
  · rw [nn 1 (by decide) (by decide) (by decide)]; exact s1
  · rw [nn 10 (by decide) (by decide) (by decide)]; exact s2
  · rw [nn 22 (by decide) (by decide) (by decide)]; exact s3
  · rw [nn 25 (by decide) (by decide) (by decide)]; exact s4
  · rw [nn 2 (by decide) (by decide) (by decide), nn 3 (by decide) (by decide) (by decide), nn 4 (by decide) (by decide) (by decide), nn 5 (by decide) (by decide) (by decide), nn 6 (by decide) (by decide) (by decide), fo (13 + 13 * k) (by omega), fo (13 + 13 * k + 1) (by omega), fo (13 + 13 * k + 2) (by omega), fo (13 + 13 * k + 3) (by omega), fo (13 + 13 * k + 4) (by omega)]; exact a1 k hk
  · rw [nn 11 (by decide) (by decide) (by decide), nn 12 (by decide) (by decide) (by decide), nn 13 (by decide) (by decide) (by decide), nn 14 (by decide) (by decide) (by decide), nn 15 (by decide) (by decide) (by decide), nn 16 (by decide) (by decide) (by decide), nn 17 (by decide) (by decide) (by decide), fo (221 + 11 * k) (by omega), fo (221 + 11 * k + 1) (by omega), fo (221 + 11 * k + 2) (by omega), fo (221 + 11 * k + 3) (by omega), fo (221 + 11 * k + 4) (by omega), fo (221 + 11 * k + 5) (by omega), fo (221 + 11 * k + 6) (by omega)]; exact a2 k hk
  · rw [n3, n4, (fe k hk).1, (fe k hk).2]
    by_cases e1 : k = j
    · rw [e1, upd_s, upd_s, if_pos rfl, if_pos rfl]
      exact a3 i hi
    · rw [upd_n _ _ e1, upd_n _ _ e1, if_neg e1, if_neg e1]
      by_cases e2 : k = i
      · rw [e2, upd_s, upd_s, if_pos rfl, if_pos rfl]
        exact a3 j hj
      · rw [upd_n _ _ e2, upd_n _ _ e2, if_neg e2, if_neg e2]
        exact a3 k hk
  · rw [nn 22 (by decide) (by decide) (by decide), cyE]; exact a4
  · rw [nn 26 (by decide) (by decide) (by decide), fo _ (by omega)]; exact a5 k hk
  · rw [nn 7 (by decide) (by decide) (by decide), fo _ (by omega)]; exact r1 k hk
  · rw [nn 9 (by decide) (by decide) (by decide), fo _ (by omega)]; exact r2 k q hk hq
  · rw [nn 18 (by decide) (by decide) (by decide), nn 19 (by decide) (by decide) (by decide), nn 20 (by decide) (by decide) (by decide), nn 21 (by decide) (by decide) (by decide), fo (221 + 11 * k + 7) (by omega), fo (221 + 11 * k + 8) (by omega), fo (221 + 11 * k + 9) (by omega), fo (221 + 11 * k + 10) (by omega)]; exact r3 k hk
  · rw [nn 31 (by decide) (by decide) (by decide), fo _ (by omega)]; exact r4 v hv
  · rw [hJ, fo 8 (by omega)]; exact r5
  · rw [hJ, fo 9 (by omega)]; exact r6
  · rw [hJ, fo 10 (by omega)]; exact r7
  · rw [hJ, fo 11 (by omega)]; exact r8
  · rw [fo _ (by omega)]; exact hF k hk
  · rw [h0]; exact t6
  · rw [fo 5 (by omega)]; exact t5
  · rw [nn 25 (by decide) (by decide) (by decide)]; exact gp
  · rw [PLo k hk]; exact wl.1 k hk
  · rw [fo 8 (by omega), sumP_e PL PLo]; exact wl.2.1
  · rw [fo 8 (by omega)]; exact wl.2.2
  · rw [fo 8 (by omega)]; exact w8
  · rw [nn 27 (by decide) (by decide) (by decide)]
  · rw [show b + 27 + 1 = b + 28 from rfl, nn 28 (by decide) (by decide) (by decide)]
  · rw [(fe k hk).1]
    split
    · exact hRT i hi
    · split
      · exact hRT j hj
      · exact hRT k hk
theorem swD_o (D : Nat → Int32) {i j k : Nat} (hi : i < 12) (hj : j < 12) (h : k < 353 ∨ 377 ≤ k) : swD D i j k = D k := by
  unfold swD swA
  rw [upd_n _ _ (by omega), upd_n _ _ (by omega), upd_n _ _ (by omega), upd_n _ _ (by omega)]
theorem swD_e (D : Nat → Int32) (i j k : Nat) : (swD D i j (353 + 2 * k) = if k = j then D (353 + 2 * i) else if k = i then D (353 + 2 * j) else D (353 + 2 * k)) ∧ (swD D i j (353 + 2 * k + 1) = if k = j then D (353 + 2 * i + 1) else if k = i then D (353 + 2 * j + 1) else D (353 + 2 * k + 1)) := by
  have e0 : ∀ q, swA i j 0 D (353 + 2 * q + 1) = D (353 + 2 * q + 1) := fun q => by
    unfold swA
    rw [upd_n _ _ (by omega), upd_n _ _ (by omega)]
  constructor
  · unfold swD
    have e1 : swA i j 1 (swA i j 0 D) (353 + 2 * k) = swA i j 0 D (353 + 2 * k) := by
      show upd (upd _ _ _) _ _ _ = _
      rw [upd_n _ _ (by omega), upd_n _ _ (by omega)]
    rw [e1]
    unfold swA
    by_cases a : k = j
    · rw [a, if_pos rfl, Nat.add_zero, Nat.add_zero, upd_s]
    · rw [if_neg a, upd_n _ _ (by omega)]
      by_cases c : k = i
      · rw [c, if_pos rfl, Nat.add_zero, Nat.add_zero, upd_s]
      · rw [if_neg c, upd_n _ _ (by omega)]
  · unfold swD
    show upd (upd _ _ _) _ _ _ = _
    rw [e0, e0]
    by_cases a : k = j
    · rw [a, if_pos rfl, upd_s]
    · rw [if_neg a, upd_n _ _ (by omega)]
      by_cases c : k = i
      · rw [c, if_pos rfl, upd_s]
      · rw [if_neg c, upd_n _ _ (by omega), e0]
theorem xc_j (M : Mm) (r i j : Nat) : gJ (xcM M r i j) = gJ M := by
  unfold xcM
  rw [gJ_sI, gJ_sI]
theorem sw_fx (hS : XS M x m) (i j : Int32) : Fx (swM M x i j) M x := ((Fx.i _ _ (by omega)).t (Fx.i _ _ (by omega))).t hS.2.2.p.sv.2.x
theorem sw_xr (hS : XS M x m) {D : Nat → Int32} {n f r w g t a b : Nat} (hX : XR M (x + 36) D n f r w g t) (ha : a < r) (hb : b < r) : XR (swM M x (nI a) (nI b)) (x + 36) (swD D a b) n f r w g t := by
  have hr : r ≤ 12 := hX.1.1.2.2.1
  have fh := hS.2.2.p.sv.2
  have p := svM_p fh
  have e1 : gI (swM M x (nI a) (nI b)) (x + 59) = upd (upd (gI M (x + 59)) a (gI M (x + 59) b)) b (gI M (x + 59) a) := by
    unfold swM xcM
    rw [gI_f _ _ (by omega), gI_s, nI_clamp (show a < 2 ^ 31 by omega), nI_clamp (show b < 2 ^ 31 by omega), p _ (by omega)]
  have e2 : gI (swM M x (nI a) (nI b)) (x + 60) = upd (upd (gI M (x + 60)) a (gI M (x + 60) b)) b (gI M (x + 60) a) := by
    unfold swM xcM
    rw [gI_s, nI_clamp (show a < 2 ^ 31 by omega), nI_clamp (show b < 2 ^ 31 by omega), p _ (by omega)]
  refine hX.sw ha hb (fun k h1 h2 h3 => ?_) ?_ e1 e2 (fun k hk => swD_o _ (by omega) (by omega) hk) (fun k hk => swD_e _ _ _ _)
  · unfold swM
    rw [xc_i _ _ _ (by omega) (by omega), p _ (by omega)]
  · unfold swM
    rw [xc_j]
    exact (fh.2.2.2 _ (Or.inl (by omega))).2
theorem sw_xa (hS : XS M x m) {n f r w g t a b : Nat} (ht : t ≤ 100000) (hX : XR M (x + 36) (gI M (m + 2)) n f r w g t) (ha : a < r) (hb : b < r) : XA (swM M x (nI a) (nI b)) x (swD (gI M (m + 2)) a b) (gI M (m + 1)) (gI M m 2) (gI M m 7) (rmU (gI M m 12)) (rmH (gI M (m + 2)) (gI M m 12) (fun k => gI M (m + 6 + k))) := by
  have hsv := xa_sv hS.2.2
  refine hsv.pr ((FR.i _ _ (by omega)).t (FR.i _ _ (by omega))) ⟨n, f, r, w, g, t, ht, sw_xr hS hX ha hb⟩ (fun k hk => ?_)
  have g57 : gI (swM M x (nI a) (nI b)) (x + 57) = gI (svM M (x + 100) (x + 36)) (x + 57) := by
    unfold swM
    rw [xc_i _ _ _ (by omega) (by omega)]
  rw [g57]
  exact hsv.2.2.1 k hk
theorem sw_go {i j : Int32} {r : Nat} (hr : r ≤ 12) (k : orE (bI i (nI r)) (bI j (nI r)) = none) : orK (ccK i 0 (nI r - 1) 1) (ccK j 0 (nI r - 1) 1) = 0 ∧ ∃ a b, a < r ∧ b < r ∧ i = nI a ∧ j = nI b := by
  obtain ⟨o1, o2⟩ := orE_c (f := fun _ => (1 : Int32)) (fa := 1) (fb := 1) (ka := ccK i 0 (nI r - 1) 1) (kb := ccK j 0 (nI r - 1) 1) (bI_o i (show r < 2 ^ 30 by omega)) (bI_o j (show r < 2 ^ 30 by omega)) (by decide) (by decide)
  obtain ⟨y0, y1, y2⟩ := o1 k
  obtain ⟨a, ha, ea⟩ := bI_j y1 (by omega)
  obtain ⟨b, hb, eb⟩ := bI_j y2 (by omega)
  exact ⟨y0, a, b, ha, hb, ea, eb⟩
theorem sw_no {i j : Int32} {r : Nat} (hr : r ≤ 12) {e : Nat} (k : orE (bI i (nI r)) (bI j (nI r)) = some e) : orK (ccK i 0 (nI r - 1) 1) (ccK j 0 (nI r - 1) 1) = 1 ∧ ¬ (1 : Int32) = 0 :=
  (orE_c (f := fun _ => (1 : Int32)) (fa := 1) (fb := 1) (ka := ccK i 0 (nI r - 1) 1) (kb := ccK j 0 (nI r - 1) 1) (bI_o i (show r < 2 ^ 30 by omega)) (bI_o j (show r < 2 ^ 30 by omega)) (by decide) (by decide)).2 e k
theorem sw_kw {P : Mm} {r : Nat} (i j : Int32) (e : gI P (m + 2) 2 = nI r) : kSw P m i j = orK (ccK i 0 (nI r - 1) 1) (ccK j 0 (nI r - 1) 1) := by
  unfold kSw
  rw [e]
theorem ho_swap (hS : XS M x m) (ho : m + 17 ≤ o) (i j : Int32) : HO M x m o (orE (bI i (gI M (x + 58) 2)) (bI j (gI M (x + 58) 2))) (fun _ => 1) (swM M x i j) (Int32.toInt64 (villV (swM M x i j) (x + 58) (gI (swM M x i j) (x + 36) 6))) (fun P => LM P m ∧ cnt (gI P m 12) 8 ∧ cnt (gI P (m + 2) 2) 12 ∧ (kSw P m i j = 0 → tuW (swD (gI P (m + 2)) i.toNatClampNeg j.toNatClampNeg) (swD (gI P (m + 2)) i.toNatClampNeg j.toNatClampNeg 5))) (fun P => (if kSw P m i j = 0 then tuD (swD (gI P (m + 2)) i.toNatClampNeg j.toNatClampNeg) (swD (gI P (m + 2)) i.toNatClampNeg j.toNatClampNeg 5) else 0).toInt64) (fun P => if kSw P m i j = 0 then swN P m i j else tS P m (kSw P m i j)) := by
  obtain ⟨n, f', r, w', g, t, ht, hX, ⟨b1, b2, b3⟩, ⟨c1, c2, c3⟩, ⟨d1, d2, d3⟩⟩ := hS.n
  have hx := hS.1
  have t5 : ∀ a b, a < 12 → b < 12 → swD (gI M (m + 2)) a b 5 = nI t := fun a b ha hb => by
    rw [swD_o _ ha hb (by omega)]
    exact hX.2.2.2.2.2.1.2.1
  rw [c3]
  refine ho_ch (E := swD (gI M (m + 2)) i.toNatClampNeg j.toNatClampNeg) (code := fun P => kSw P m i j) hS ho (sw_fx hS i j) (fun hb => ?_) (fun P hL e => ⟨hL, by rw [e _ (by omega)]; exact hS.u, by rw [hS.e2 e]; exact ⟨r, b3, d3⟩, fun k => ?_⟩) (fun P e => ?_) (fun hb P hL e => ?_)
  · obtain ⟨-, a, b, ha, hb', ea, eb⟩ := sw_go b3 hb
    rw [ea, eb, nI_clamp (show a < 2 ^ 31 by omega), nI_clamp (show b < 2 ^ 31 by omega)]
    exact sw_xa hS ht hX ha hb'
  · have e2 := hS.e2 e
    have ho : orE (bI i (nI r)) (bI j (nI r)) = none := by
      rcases Option.eq_none_or_eq_some (orE (bI i (nI r)) (bI j (nI r))) with q | ⟨q, hq⟩
      · exact q
      · rw [sw_kw i j (by rw [e2]; exact d3), (sw_no b3 hq).1] at k
        exact absurd k (by decide)
    obtain ⟨-, a, b, ha, hb', ea, eb⟩ := sw_go b3 ho
    have hXX := sw_xr hS hX ha hb'
    rw [e2, ea, eb, nI_clamp (show a < 2 ^ 31 by omega), nI_clamp (show b < 2 ^ 31 by omega)]
    exact (xr_tu hXX (xr_h hXX)).1
  · rw [sw_kw i j (by rw [hS.e2 e]; exact d3)]
    exact ⟨fun h => (sw_go b3 h).1, fun e h => sw_no b3 h⟩
  · obtain ⟨k0, a, b, ha, hb', ea, eb⟩ := sw_go b3 hb
    have p2 := hS.e2 e
    rw [sw_kw i j (by rw [p2]; exact d3), if_pos k0]
    refine ⟨?_, ?_⟩
    · unfold swN
      rw [p2]
    · have hXX := sw_xr hS hX ha hb'
      have e6 : gI (swM M x (nI a) (nI b)) (x + 36) 6 = nI t := hXX.2.2.2.2.2.1.1
      rw [p2, ea, eb, nI_clamp (show a < 2 ^ 31 by omega), nI_clamp (show b < 2 ^ 31 by omega), t5 a b (by omega) (by omega), e6]
      exact congrArg _ (xr_tu hXX (by rw [t_nI (by omega)]; omega)).2
end CHANGE2
