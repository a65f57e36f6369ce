/-! ===== the law's start: what the machine knows, the memory ===== -/
theorem nf_5 {w : Cond} (h : w ∈ [Cond.laysStatic "java/lang/String" "COMPACT_STRINGS" "Z", Cond.initialized "java/lang/String", Cond.laysStatic "jdk/internal/util/Preconditions" "SIOOBE_FORMATTER" "Ljava/util/function/BiFunction;", Cond.initialized "jdk/internal/util/Preconditions", Cond.laysStatic Bundle.tN "UNASSIGNED_STACK" Bundle.steD, Cond.laysStatic Bundle.tN "SUPPRESSED_SENTINEL" Bundle.listD, Cond.initialized Bundle.tN]) : w ∈ lw_tbl := of_decide_eq_true (List.all_eq_true.mp tx_5 w h)
theorem nf_6 {w : Cond} (h : w ∈ [Cond.eq (.static "java/lang/String" "COMPACT_STRINGS" "Z") (.int 1), Cond.isRef (.static "jdk/internal/util/Preconditions" "SIOOBE_FORMATTER" "Ljava/util/function/BiFunction;"), Cond.isRef (.static Bundle.tN "UNASSIGNED_STACK" Bundle.steD), Cond.isRef (.static Bundle.tN "SUPPRESSED_SENTINEL" Bundle.listD), Cond.not (.castable "java/lang/IllegalArgumentException" "java/lang/IndexOutOfBoundsException"), Cond.not (.castable "java/lang/IllegalStateException" "java/lang/IllegalArgumentException"), Cond.not (.castable "java/lang/IllegalStateException" "java/lang/IndexOutOfBoundsException")]) : w ∈ NF := of_decide_eq_true (List.all_eq_true.mp tx_6 w h)
theorem l0 {α : Type} (a : α) (l : List α) : a ∈ a :: l := List.mem_cons_self
theorem l1 {α : Type} (a b : α) (l : List α) : a ∈ b :: a :: l := List.mem_cons_of_mem _ List.mem_cons_self
/-- the start's memory -/
noncomputable def stM (b L : Nat) (xs : Nat → Int32) (ad : Nat → Nat) (z : Nat) : Mm :=
  (fun q => if q = b then kR L else @dite _ (∃ i, i < 10 ∧ ad i = q) (Classical.propDecidable _) (fun h => kS h.choose) (fun _ => none), fun _ => xs, fun _ _ => 0, fun _ _ => 0, z)
theorem stM_b (b L : Nat) (xs : Nat → Int32) (ad : Nat → Nat) (z : Nat) : gK (stM b L xs ad z) b = kR L := if_pos rfl
theorem stM_k {b L : Nat} {xs : Nat → Int32} {ad : Nat → Nat} {z q : Nat} (hq : q ≠ b) : (gK (stM b L xs ad z) q = none) ∨ ∃ i, i < 10 ∧ ad i = q ∧ gK (stM b L xs ad z) q = kS i := by
  by_cases h : ∃ i, i < 10 ∧ ad i = q
  · right
    refine ⟨h.choose, h.choose_spec.1, h.choose_spec.2, ?_⟩
    show (if q = b then kR L else _) = _
    rw [if_neg hq, dif_pos h]
  · left
    show (if q = b then kR L else _) = _
    rw [if_neg hq, dif_neg h]
theorem stM_s {b L : Nat} {xs : Nat → Int32} {ad : Nat → Nat} {z i : Nat} (hi : i < 10) (hb : ad i ≠ b) (hj : ∀ i j, i < 10 → j < 10 → ad i = ad j → i = j) : gK (stM b L xs ad z) (ad i) = kS i := by
  have h : ∃ j, j < 10 ∧ ad j = ad i := ⟨i, hi, rfl⟩
  show (if ad i = b then kR L else _) = _
  rw [if_neg hb, dif_pos h, hj _ _ h.choose_spec.1 hi h.choose_spec.2]
theorem st_tx {s : State} {b : Nat} (hN : ∀ w ∈ NF, w.before #[Value.ref b] s = true) : ∃ adK adV : Nat → Nat, vk_S 10 sN sB adK adV (fun q => s.heap.size ≤ q) s s.heap ∧ ∀ i : Nat, i < 10 → (tm9 i).eval #[Value.ref b] s none [] s = some (.ref (adK i)) := by
  have h1 : ∀ i, i < 10 → ((((Cond.exactly (tm9 i) "java/lang/String" ∈ NF) ∧ Cond.eq (.field (tm9 i) "java/lang/String" "coder" "B") (.int 0) ∈ NF) ∧ Cond.arrayOf (.field (tm9 i) "java/lang/String" "value" "[B") .byte ∈ NF) ∧ Cond.eq (.length (.field (tm9 i) "java/lang/String" "value" "[B")) (.int (Int32.ofNat (sN.getD i 0))) ∈ NF) ∧ sN.getD i 0 < 2 ^ 31 := by
    intro i hi
    have := List.all_eq_true.mp tx_1 i (List.mem_range.mpr hi)
    simpa only [Bool.and_eq_true, decide_eq_true_eq] using this
  refine vk_Sof (fun i hi => (h1 i hi).2) (fun i hi => hN _ (h1 i hi).1.1.1.1) (fun i hi => hN _ (h1 i hi).1.1.1.2) (fun i hi => hN _ (h1 i hi).1.1.2) (fun i hi => hN _ (h1 i hi).1.2) (fun i hi j hj => ?_) (fun i j hi hj h => ?_) (fun a h => by omega)
  · have := List.all_eq_true.mp (List.all_eq_true.mp tx_2 i (List.mem_range.mpr hi)) j (List.mem_range.mpr hj)
    exact hN _ (of_decide_eq_true this)
  · exact (tx_3 hi hj h).elim (fun g => Or.inl (hN _ g)) (fun g => Or.inr (hN _ g))
theorem st_G {s : State} {b L : Nat} {xs : Nat → Int32} (hL : L ≤ 3072) (hts : ∀ w ∈ lw_tbl, w.before #[Value.ref b] s = true) (hN : ∀ w ∈ NF, w.before #[Value.ref b] s = true) (hX : va_X b L xs s s.heap) (hb : b < s.heap.size) : ∃ (G : Gt) (M : Mm), gHb G = s.heap ∧ Wd G s ∧ ML G M s.heap ∧ STR (gT G) M ∧ gK M b = kR L ∧ (∀ i, i < 10 → gT G i < gZ M) ∧ b < gZ M := by
  have hT : ∀ w ∈ TT, ∀ a : Array Value, w.before a s = true := fun w hw a => okw_at (State.WarmedH.refl s) (List.mem_filter.mp hw).2 (hts w (List.mem_filter.mp hw).1)
  obtain ⟨D, hD⟩ := wd_cls hT
  obtain ⟨gA', hA⟩ := wd_arr hT
  obtain ⟨adK, adV, hS, hE⟩ := st_tx hN
  obtain ⟨scr, x1, x2, x3, x4, x5⟩ := hX
  have lt : ∀ i, i < 10 → adK i < s.heap.size := fun i hi => by
    obtain ⟨cell, h1, -⟩ := (hS.1 i hi).1
    exact (Array.getElem?_eq_some_iff.mp h1).1
  have nb : ∀ i, i < 10 → adK i ≠ b := fun i hi e => by
    obtain ⟨cf, k, fi, f, cell, h1, h2, h3, h4, h5, -⟩ := (hS.1 i hi).2.2.1
    rw [e, x1] at h3
    cases h3
    have hl : f.slot < L := by
      rw [← x4]
      exact (Array.getElem?_eq_some_iff.mp h5).1
    rw [x5 _ hl] at h5
    cases h5
  have pz : 0 < s.heap.size := by omega
  refine ⟨(s.heap, D, gA', b, scr, adK, adV), stM b L xs adK s.heap.size, rfl, ⟨hT, hD, hA, ⟨?_, ?_⟩, x2, fun q hq => ?_, hS, ⟨?_, ?_⟩, ?_, ?_, ?_⟩, ⟨rfl, pz, Nat.le_refl _, fun _ _ => rfl, fun q => ?_⟩, fun i hi => stM_s hi (nb i hi) hS.2, stM_b _ _ _ _ _, lt, hb⟩
  · exact vx_Zqof (hts _ (nf_5 (by simp))) (hts _ (nf_5 (by simp))) (hN _ (nf_6 (by simp))) (fun a h => by show ¬ s.heap.size ≤ a; omega)
  · exact vx_Zqof (hts _ (nf_5 (by simp))) (hts _ (nf_5 (by simp))) (hN _ (nf_6 (by simp))) (fun a h => by show ¬ s.heap.size ≤ a; omega)
  · have h4 := List.all_eq_true.mp tx_4 q hq
    simp only [Bool.and_eq_true, Bool.or_eq_true, decide_eq_true_eq] at h4
    obtain ⟨⟨a1, a2⟩, a3⟩ := h4
    refine vk_R.of (hts _ a1) ?_
    rcases a3 with e | e
    · rw [← e]
      exact hE _ a2
    · exact va_eqR (hN _ e) (hE _ a2)
  · exact va_Zof (hts _ (nf_5 (by simp))) (hts _ (nf_5 (by simp))) (va_eqt (hN _ (nf_6 (by simp)))) (fun a h => by show ¬ s.heap.size ≤ a; omega)
  · exact va_Zqof (hts _ (nf_5 (by simp))) (hts _ (nf_5 (by simp))) (hN _ (nf_6 (by simp))) (fun a h => by show ¬ s.heap.size ≤ a; omega)
  · exact va_Nc.of (hN _ (nf_6 (by simp)))
  · exact va_Nc.of (hN _ (nf_6 (by simp)))
  · exact va_Nc.of (hN _ (nf_6 (by simp)))
  · by_cases e : q = b
    · subst e
      unfold kOK
      rw [stM_b]
      exact ⟨hb, rfl, by omega, x1, x3, x4, x5⟩
    · unfold kOK
      rcases stM_k (L := L) (xs := xs) (ad := adK) (z := s.heap.size) e with k | ⟨i, hi, e2, k⟩
      · rw [k]
        trivial
      · rw [k]
        exact ⟨by rw [← e2]; exact lt i hi, hi, e2.symm⟩
