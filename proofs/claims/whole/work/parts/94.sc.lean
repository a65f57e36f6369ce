/-! ===== hours on both sides ===== -/
theorem hr_s {P N : Mm} {b m q : Nat} {n f r w g h : Nat} (hX : XR P b (gI N q) n f r w g h) (hn0 : 0 < n) (hh : h < 100200) :
    SP (gI N q) ∧ ∃ g', XR (phM P b) b (gI (siM N m q) q) n f r w g' (h + 1) ∧ (ph5 P b).2 = taD (gI (siM N m q) q) - taD (gI N q) := by
  have e : gI (siM N m q) q = sm6 (gI N q) (siO N m q) (siL N m q) (siF N m q) := by
    unfold siM
    exact gI_s _ _ _
  rw [e]
  exact hr_m hX hn0 hh (gI N (m + 15)) (gI N (m + 16)) (gJ N (m + 14))
/-- hours can be simulated -/
theorem ar_ok {m q n f r w : Nat} (hn0 : 0 < n) : ∀ (s : Nat) (P N : Mm) (b g h : Nat), XR P b (gI N q) n f r w g h → h + s ≤ 100200 → arP m q s N
  | 0, _, _, _, _, _, _, _ => trivial
  | s + 1, P, N, b, g, h, hX, hh => by
    obtain ⟨h1, g', h2, -⟩ := hr_s (m := m) hX hn0 (by omega)
    exact ⟨h1, ar_ok hn0 s _ _ b g' (h + 1) h2 (by omega)⟩
theorem aq_ok {P : Mm} {m q b n f r w g h s : Nat} {D : Nat → Int32} (hn0 : 0 < n) (hX : XR P b D n f r w g h) (hh : h + s ≤ 100200) : arQ m q s D := by
  intro N _ e
  exact ar_ok hn0 s P N b g h (hX.ag e) hh
/-- what arrives -/
theorem fa_ar {m b c n f r w : Nat} (hn0 : 0 < n) (hc : c < n) : ∀ (q : Nat) (P N : Mm) (s : Int32) (g h : Nat), XR P b (gI N (m + 4)) n f r w g h → h + q ≤ 100200 → (faL b c q P s).1 = (arL m c q N s).1
  | 0, _, _, _, _, _, _, _ => rfl
  | q + 1, P, N, s, g, h, hX, hh => by
    obtain ⟨-, g', h2, -⟩ := hr_s (m := m) hX hn0 (by omega)
    have e : gI (phM P b) (b + 7) c = gI (siM N m (m + 4)) (m + 4) (13 + 13 * c + 5) := h2.2.2.2.1.1 c hc
    show (faL b c q (phM P b) (s + gI (phM P b) (b + 7) c)).1 = (arL m c q (siM N m (m + 4)) (s + gI (siM N m (m + 4)) (m + 4) (13 + 13 * c + 5))).1
    rw [e]
    exact fa_ar hn0 hc q _ _ _ g' (h + 1) h2 (by omega)
/-- how many hours -/
theorem hu_hm {m b k n f r w : Nat} (hn0 : 0 < n) (hk : k < f) : ∀ (q i : Nat) (P N : Mm) (g h : Nat), XR P b (gI N (m + 4)) n f r w g h → h + q ≤ 100200 → (huL b k q i P).1 = (hmL m k (q + 1) i N).1
  | 0, i, P, N, g, h, hX, hh => by
    have e3 : gI P (b + 14) k = gI N (m + 4) (221 + 11 * k + 3) := (hX.2.2.1.2.2.1 k hk).2.2.2.1
    have e7 : gI P (b + 18) k = gI N (m + 4) (221 + 11 * k + 7) := (hX.2.2.2.1.2.2.1 k hk).1
    unfold huL hmL
    rw [e3, e7]
    split
    · rfl
    · rfl
  | q + 1, i, P, N, g, h, hX, hh => by
    have e3 : gI P (b + 14) k = gI N (m + 4) (221 + 11 * k + 3) := (hX.2.2.1.2.2.1 k hk).2.2.2.1
    have e7 : gI P (b + 18) k = gI N (m + 4) (221 + 11 * k + 7) := (hX.2.2.2.1.2.2.1 k hk).1
    obtain ⟨-, g', h2, -⟩ := hr_s (m := m) hX hn0 (by omega)
    unfold huL hmL
    rw [e3, e7]
    split
    · rfl
    · exact hu_hm hn0 hk q (i + 1) _ _ g' (h + 1) h2 (by omega)
/-- hours that count -/
theorem ru_si {m b n f r w : Nat} (hn0 : 0 < n) : ∀ (q : Nat) (P N : Mm) (s : Int32) (g h : Nat), XR P b (gI N (m + 2)) n f r w g h → h + q ≤ 100200 →
    arP m (m + 2) q N ∧ (∃ g', XR (ruL b q P s).2 b (gI (siK m q N) (m + 2)) n f r w g' (h + q)) ∧ (ruL b q P s).1 = s + (taD (gI (siK m q N) (m + 2)) - taD (gI N (m + 2)))
  | 0, P, N, s, g, h, hX, _ => ⟨trivial, ⟨g, hX⟩, by
      show s = s + (taD (gI N (m + 2)) - taD (gI N (m + 2)))
      rw [Int32.sub_self, Int32.add_zero]⟩
  | q + 1, P, N, s, g, h, hX, hh => by
    obtain ⟨h0, g', h2, h3⟩ := hr_s (m := m) hX hn0 (by omega)
    obtain ⟨i1, ⟨g2, i2⟩, i3⟩ := ru_si hn0 q (phM P b) (siM N m (m + 2)) (s + (ph5 P b).2) g' (h + 1) h2 (by omega)
    refine ⟨⟨h0, i1⟩, ⟨g2, ?_⟩, ?_⟩
    · rw [show h + (q + 1) = h + 1 + q by omega]
      exact i2
    · show (ruL b q (phM P b) (s + (ph5 P b).2)).1 = s + (taD (gI (siK m q (siM N m (m + 2))) (m + 2)) - taD (gI N (m + 2)))
      rw [i3, h3, Int32.add_assoc, i_tel]
/-- a gate is forced -/
theorem XR.fo {M : Mm} {b : Nat} {D : Nat → Int32} {n f r w g h k : Nat} (hX : XR M b D n f r w g h) (hk : k < f) : XR (sI M (b + 21) (upd (gI M (b + 21)) k 1)) b (upd D (221 + 11 * k + 10) 1) n f r w g h := by
  obtain ⟨hW, hB, hs, hd, hF, ⟨t6, t5, hh⟩, ⟨gp, gw⟩, ⟨wl, w8⟩, hP, hFW, hRT⟩ := hX
  have hn : n ≤ 16 := hW.1.1
  have hf : f ≤ 12 := hW.1.2.1
  have s1 : SD D (upd D (221 + 11 * k + 10) 1) := SD.u _ _ (ns_f (by omega) (by decide) (by decide))
  have ss : SS M (sI M (b + 21) (upd (gI M (b + 21)) k 1)) b := SS.i M b 21 _ (by decide) rfl
  have u : ∀ j, j ≠ 221 + 11 * k + 10 → upd D (221 + 11 * k + 10) 1 j = D j := fun j hj => upd_n _ _ hj
  have gO : ∀ j, j ≠ 21 → gI (sI M (b + 21) (upd (gI M (b + 21)) k 1)) (b + j) = gI M (b + j) := fun j hj => gI_f _ _ (by omega)
  have gS : gI (sI M (b + 21) (upd (gI M (b + 21)) k 1)) (b + 21) = upd (gI M (b + 21)) k 1 := gI_s _ _ _
  have gJe : gJ (sI M (b + 21) (upd (gI M (b + 21)) k 1)) = gJ M := rfl
  generalize sI M (b + 21) (upd (gI M (b + 21)) k 1) = N at ss gO gS gJe
  obtain ⟨r1, r2, r3, r4, r5, r6, r7, r8⟩ := hd
  have np : 221 + 11 * k + 10 ∉ PL := ps_ne (by omega) (Or.inr (Or.inr rfl))
  refine ⟨hW.sd s1, hB.sd hn hf s1, (hs.ss ss).sd hn hf hW.1.2.2.1 hW.1.2.2.2.1 hW.2.1.2.2.1 s1, ⟨fun i hi => ?_, fun i j hi hj => ?_, fun i hi => ?_, fun v hv => ?_, ?_, ?_, ?_, ?_⟩, fun i hi => ?_, ⟨by rw [show gI N b = gI M b from gO 0 (by decide)]; exact t6, by rw [u 5 (by omega)]; exact t5, hh⟩, ⟨by rw [gO 25 (by decide)]; exact gp, gw⟩, ⟨wl.n _ np (by omega), by rw [u 8 (by omega)]; exact w8⟩, hP.e (fun i hi => ⟨u _ (by omega), fun j hj => u _ (by omega)⟩), hFW.e (by rw [gO 27 (by decide)]) (by rw [show b + 27 + 1 = b + 28 from rfl, gO 28 (by decide)]) (u 6 (by omega)) (u 7 (by omega)) (fun i => u _ (by omega)), fun i hi => ?_⟩
  · rw [gO 7 (by decide), u _ (by omega)]; exact r1 i hi
  · rw [gO 9 (by decide), u _ (by omega)]; exact r2 i j hi hj
  · obtain ⟨x1, x2, x3, x4⟩ := r3 i hi
    rw [gO 18 (by decide), gO 19 (by decide), gO 20 (by decide), gS, u (221 + 11 * i + 7) (by omega), u (221 + 11 * i + 8) (by omega), u (221 + 11 * i + 9) (by omega)]
    refine ⟨x1, x2, x3, ?_⟩
    by_cases e : i = k
    · subst e
      rw [upd_s, upd_s]
    · rw [upd_n _ _ e, u _ (by omega)]
      exact x4
  · rw [gO 31 (by decide), u _ (by omega)]; exact r4 v hv
  · rw [gJe, u _ (by omega)]; exact r5
  · rw [gJe, u _ (by omega)]; exact r6
  · rw [gJe, u _ (by omega)]; exact r7
  · rw [gJe, u _ (by omega)]; exact r8
  · by_cases e : i = k
    · subst e
      rw [upd_s]
      exact Or.inr rfl
    · rw [u _ (by omega)]
      exact hF i hi
  · have hr : r ≤ 12 := hW.1.2.2.1
    rw [u _ (by omega)]
    exact hRT i hi
theorem cpy_ag (A B : Nat → Int32) : ag9 (cpy 1793 A B) A := fun _ hk => cpy_in _ _ hk
theorem ag_u {D E : Nat → Int32} (h : ag9 E D) (j : Nat) (v : Int32) : ag9 (upd E j v) (upd D j v) := fun k hk => by
  by_cases e : k = j
  · subst e
    rw [upd_s, upd_s]
  · rw [upd_n _ _ e, upd_n _ _ e]
    exact h k hk
theorem gI_36 (M : Mm) (x : Nat) : apt (x + 68) 32 (x + 36) 32 := by unfold apt; omega
theorem ex_D (M N : Mm) (m : Nat) (e : gI N (m + 2) = gI M (m + 2)) : ag9 (gI (exF N m) (m + 4)) (gI M (m + 2)) := by
  unfold exF
  rw [gI_s, e]
  exact cpy_ag _ _
/-- what is expected -/
theorem ex_e {M N : Mm} {x m : Nat} {n f r w g h j t : Nat} (hX : XR M (x + 36) (gI N (m + 2)) n f r w g h) (hh : h ≤ 100000) (hj : j < n) (ht : t ≤ 100) : (faR M x (nI j) (nI t) (-1)).1 = (exR N m (nI j) (nI t)).1 := by
  have hn : n ≤ 16 := hX.1.1.1
  unfold faR exR
  rw [nI_clamp (show j < 2 ^ 31 by omega), nI_clamp (show t < 2 ^ 31 by omega)]
  have e : faI M x (-1) = cpS M (x + 68) (x + 36) := if_neg (fun q => q.1 (by decide))
  rw [e]
  refine fa_ar (by omega) hj t _ _ 0 g h ((hX.cp (apt_36 x)).ag (ex_D N (tS N m 0) m (gI_f _ _ (by omega)))) (by omega)
/-- a forced gate that explains -/
theorem su_k {M N : Mm} {x m : Nat} {n f r w g h j t k : Nat} (hX : XR M (x + 36) (gI N (m + 2)) n f r w g h) (hh : h ≤ 100000) (hj : j < n) (ht : t ≤ 100) (hk : k < f) : (faR M x (nI j) (nI t) (nI k)).1 = (arL m j t (suF N m k) 0).1 := by
  have hn : n ≤ 16 := hX.1.1.1
  have hf : f ≤ 12 := hX.1.1.2.1
  have hC := hX.cp (apt_36 x)
  have e11 : gI (cpS M (x + 68) (x + 36)) (x + 78) 11 = nI f := hC.2.2.1.1.2.1
  unfold faR
  rw [nI_clamp (show j < 2 ^ 31 by omega), nI_clamp (show t < 2 ^ 31 by omega)]
  have e : faI M x (nI k) = sI (cpS M (x + 68) (x + 36)) (x + 68 + 21) (upd (gI (cpS M (x + 68) (x + 36)) (x + 68 + 21)) k 1) := by
    unfold faI
    rw [if_pos ⟨nI_pos (by omega), by rw [e11]; exact (nI_ltI (by omega) (by omega)).mpr hk⟩, nI_clamp (show k < 2 ^ 31 by omega)]
  rw [e]
  refine fa_ar (by omega) hj t _ _ 0 g h ((hC.fo hk).ag ?_) (by omega)
  unfold suF
  rw [gI_s]
  exact ag_u (ex_D N N m rfl) _ _
theorem fr_2 {N M : Mm} {m : Nat} (h : FM N M m) : gI N (m + 2) = gI M (m + 2) := h.2.2.2 (m + 2) (by omega)
theorem su_l {m x j t : Nat} {n f r w g h : Nat} {a : Int32} (hh : h ≤ 100000) (hj : j < n) (ht : t ≤ 100) : ∀ (q k : Nat) (P N : Mm), k + q = f → XR P (x + 36) (gI N (m + 2)) n f r w g h → (suL x (nI j) (nI t) a q k P).1 = (suM m j t a q k N).1
  | 0, _, _, _, _, _ => rfl
  | q + 1, k, P, N, hk, hX => by
    have e10 : gI P (x + 57) k = gI N (m + 2) (221 + 11 * k + 10) := (hX.2.2.2.1.2.2.1 k (by omega)).2.2.2
    have ek := su_k hX hh hj ht (show k < f by omega)
    unfold suL suM
    rw [e10, ek]
    rcases hX.2.2.2.2.1 k (by omega) with z | z
    · rw [z, if_neg (fun y => y rfl), if_neg (show ¬ (0 : Int32) = 1 by decide)]
      split
      · rfl
      · refine su_l (f := f) (r := r) (w := w) (g := g) hh hj ht q (k + 1) (faR P x (nI j) (nI t) (nI k)).2 (arL m j t (suF N m k) 0).2 (by omega) ?_
        have f1 : FM (arL m j t (suF N m k) 0).2 N m := (fm_ar m j t _ 0).t (fm_sF N m k)
        rw [fr_2 f1]
        exact hX.eq (fun i hi => ((fr_fR P x (nI j) (nI t) (nI k)).2.2.2 _ (by omega)).1) ((fr_fR P x (nI j) (nI t) (nI k)).2.2.2 _ (by omega)).2
    · rw [z, if_pos (show ¬ (1 : Int32) = 0 by decide), if_pos rfl]
      exact su_l (f := f) (r := r) (w := w) (g := g) hh hj ht q (k + 1) P N (by omega) hX
