/-! ===== the start ===== -/
/-- what the law's start gives: all its words -/
def NF : List Cond := flatC (Jvm.Cond.and given_1 narrow_1)
theorem wd_arr {s : State} (hts : ∀ w ∈ TT, ∀ a : Array Value, w.before a s = true) : ∃ gA : FieldType → ClassId, ∀ b, ArrOfT s (gA (aty b)) (aty b) ∧ va_RA s (gA (aty b)) (aty b) := by
  have prim : ∀ ty : FieldType, (∀ cA : ClassId, va_RA s cA ty = (s.vm.findClass ("[" ++ ty.toString) = some cA)) → (Cond.arrayClass ty).before #[] s = true → ∃ cA, ArrOfT s cA ty ∧ va_RA s cA ty := by
    intro ty hR h
    obtain ⟨c, k, comp, h1, h2, h3⟩ := Cond.arrayClass_spec h
    exact ⟨c, fun n z => ⟨fun q g => (by cases g), k, h2, comp, h3⟩, by rw [hR]; exact h1⟩
  have one : ∀ b, ∃ cA, ArrOfT s cA (aty b) ∧ va_RA s cA (aty b) := by
    intro b
    match b with
    | 0 => exact prim .int (fun _ => rfl) (hts _ w_aint #[])
    | 1 => exact prim .boolean (fun _ => rfl) (hts _ w_aboolean #[])
    | 2 => exact prim .byte (fun _ => rfl) (hts _ w_abyte #[])
    | 3 => exact prim .long (fun _ => rfl) (hts _ w_along #[])
    | 4 =>
      obtain ⟨comp, c, k, h1, h2, h3, h4, h5⟩ := Cond.arrayOver_spec (hts _ w_so #[])
      exact ⟨c, fun n z => ⟨fun q g => (by cases g), k, h3, comp, h4⟩, k, comp, h3, h4, h1, h5⟩
    | n + 5 =>
      obtain ⟨comp, c, k, h1, h2, h3, h4⟩ := Cond.arrayOver_specA (hts _ w_mo #[])
      exact ⟨c, fun n z => ⟨fun q g => (by cases g), k, h2, comp, h3⟩, h4⟩
  have all : ∀ ty : FieldType, ∃ cA : ClassId, (∃ b, ty = aty b) → ArrOfT s cA ty ∧ va_RA s cA ty := by
    intro ty
    by_cases h : ∃ b, ty = aty b
    · obtain ⟨b, rfl⟩ := h
      obtain ⟨cA, h⟩ := one b
      exact ⟨cA, fun _ => h⟩
    · exact ⟨0, fun g => absurd g h⟩
  obtain ⟨gA, hg⟩ := Classical.axiomOfChoice all
  exact ⟨gA, fun b => hg (aty b) ⟨b, rfl⟩⟩
def insN : Nat → Nat := fun ci => [9, 12, 3, 3, 3, 5, 4, 5, 7, 7, 5].getD ci 19
set_option maxRecDepth 100000 in
theorem ins_all : ((List.range 12).all fun ci => decide (Cond.instantiable (xR ci) (insN ci) ∈ TT)) = true := by decide +kernel
theorem wd_cls {s : State} (hts : ∀ w ∈ TT, ∀ a : Array Value, w.before a s = true) : ∃ D : va_G, ∀ ci, ci < 12 → u_Kn s (xR ci) (xT ci) (xN ci) (D.1 ci) (D.2 ci) := by
  have h0 : ∀ ci, ∃ q : ClassId × (Nat → Nat), ci < 12 → u_Kn s (xR ci) (xT ci) (xN ci) q.1 q.2 := by
    intro ci
    by_cases h : ci < 12
    · have hi := of_decide_eq_true (List.all_eq_true.mp ins_all ci (List.mem_range.mpr h))
      obtain ⟨cC, iS, hk⟩ := u_known (ws := TT) (args := #[]) (C := xR ci) (T := xT ci) (N := xN ci) (n := insN ci) (fun w hw => hts w hw #[]) (xws_in h) (hts _ hi #[])
      exact ⟨(cC, iS), fun _ => hk⟩
    · exact ⟨(0, fun _ => 0), fun g => absurd g h⟩
  obtain ⟨f, hf⟩ := Classical.axiomOfChoice h0
  exact ⟨(fun ci => (f ci).1, fun ci => (f ci).2), hf⟩
/-! == the texts == -/
def tmI : Nat → Nat := fun i => [53, 155, 150, 67, 180, 77, 87, 101, 207].getD i 212
def tm9 (i : Nat) : Term := .string "IrrigationTurns$SetupReader" (tmI i)
set_option maxRecDepth 100000 in
theorem tx_1 : ((List.range 10).all fun i => decide (Cond.exactly (tm9 i) "java/lang/String" ∈ NF) && decide (Cond.eq (.field (tm9 i) "java/lang/String" "coder" "B") (.int 0) ∈ NF) && decide (Cond.arrayOf (.field (tm9 i) "java/lang/String" "value" "[B") .byte ∈ NF) && decide (Cond.eq (.length (.field (tm9 i) "java/lang/String" "value" "[B")) (.int (Int32.ofNat (sN.getD i 0))) ∈ NF) && decide (sN.getD i 0 < 2 ^ 31)) = true := by decide +kernel
set_option maxRecDepth 100000 in
theorem tx_2 : ((List.range 10).all fun i => (List.range (sN.getD i 0)).all fun j => decide (Cond.eq (.elem (.field (tm9 i) "java/lang/String" "value" "[B") (.int (Int32.ofNat j))) (.int ((sB.getD i []).getD j 0)) ∈ NF)) = true := by decide +kernel
set_option maxRecDepth 100000 in
theorem tx_3_0 : ((List.range 10).all fun j => decide (0 = j) || decide (Cond.not (Cond.eq (tm9 0) (tm9 j)) ∈ NF) || decide (Cond.not (Cond.eq (tm9 j) (tm9 0)) ∈ NF)) = true := by decide +kernel
set_option maxRecDepth 100000 in
theorem tx_3_1 : ((List.range 10).all fun j => decide (1 = j) || decide (Cond.not (Cond.eq (tm9 1) (tm9 j)) ∈ NF) || decide (Cond.not (Cond.eq (tm9 j) (tm9 1)) ∈ NF)) = true := by decide +kernel
set_option maxRecDepth 100000 in
theorem tx_3_2 : ((List.range 10).all fun j => decide (2 = j) || decide (Cond.not (Cond.eq (tm9 2) (tm9 j)) ∈ NF) || decide (Cond.not (Cond.eq (tm9 j) (tm9 2)) ∈ NF)) = true := by decide +kernel
set_option maxRecDepth 100000 in
theorem tx_3_3 : ((List.range 10).all fun j => decide (3 = j) || decide (Cond.not (Cond.eq (tm9 3) (tm9 j)) ∈ NF) || decide (Cond.not (Cond.eq (tm9 j) (tm9 3)) ∈ NF)) = true := by decide +kernel
set_option maxRecDepth 100000 in
theorem tx_3_4 : ((List.range 10).all fun j => decide (4 = j) || decide (Cond.not (Cond.eq (tm9 4) (tm9 j)) ∈ NF) || decide (Cond.not (Cond.eq (tm9 j) (tm9 4)) ∈ NF)) = true := by decide +kernel
set_option maxRecDepth 100000 in
theorem tx_3_5 : ((List.range 10).all fun j => decide (5 = j) || decide (Cond.not (Cond.eq (tm9 5) (tm9 j)) ∈ NF) || decide (Cond.not (Cond.eq (tm9 j) (tm9 5)) ∈ NF)) = true := by decide +kernel
set_option maxRecDepth 100000 in
theorem tx_3_6 : ((List.range 10).all fun j => decide (6 = j) || decide (Cond.not (Cond.eq (tm9 6) (tm9 j)) ∈ NF) || decide (Cond.not (Cond.eq (tm9 j) (tm9 6)) ∈ NF)) = true := by decide +kernel
set_option maxRecDepth 100000 in
theorem tx_3_7 : ((List.range 10).all fun j => decide (7 = j) || decide (Cond.not (Cond.eq (tm9 7) (tm9 j)) ∈ NF) || decide (Cond.not (Cond.eq (tm9 j) (tm9 7)) ∈ NF)) = true := by decide +kernel
set_option maxRecDepth 100000 in
theorem tx_3_8 : ((List.range 10).all fun j => decide (8 = j) || decide (Cond.not (Cond.eq (tm9 8) (tm9 j)) ∈ NF) || decide (Cond.not (Cond.eq (tm9 j) (tm9 8)) ∈ NF)) = true := by decide +kernel
set_option maxRecDepth 100000 in
theorem tx_3_9 : ((List.range 10).all fun j => decide (9 = j) || decide (Cond.not (Cond.eq (tm9 9) (tm9 j)) ∈ NF) || decide (Cond.not (Cond.eq (tm9 j) (tm9 9)) ∈ NF)) = true := by decide +kernel
theorem tx_3 {i j : Nat} (hi : i < 10) (hj : j < 10) (h : i ≠ j) : Cond.not (Cond.eq (tm9 i) (tm9 j)) ∈ NF ∨ Cond.not (Cond.eq (tm9 j) (tm9 i)) ∈ NF := by
  have key : ∀ k : Nat, ((List.range 10).all fun j => decide (k = j) || decide (Cond.not (Cond.eq (tm9 k) (tm9 j)) ∈ NF) || decide (Cond.not (Cond.eq (tm9 j) (tm9 k)) ∈ NF)) = true → i = k → Cond.not (Cond.eq (tm9 i) (tm9 j)) ∈ NF ∨ Cond.not (Cond.eq (tm9 j) (tm9 i)) ∈ NF := by
    intro k hk e
    subst e
    have h1 := List.all_eq_true.mp hk j (List.mem_range.mpr hj)
    simp only [Bool.or_eq_true, decide_eq_true_eq] at h1
    rcases h1 with (h1 | h1) | h1
    · exact absurd h1 h
    · exact Or.inl h1
    · exact Or.inr h1
  rcases (show i = 0 ∨ i = 1 ∨ i = 2 ∨ i = 3 ∨ i = 4 ∨ i = 5 ∨ i = 6 ∨ i = 7 ∨ i = 8 ∨ i = 9 by omega) with e | e | e | e | e | e | e | e | e | e
  · exact key 0 tx_3_0 e
  · exact key 1 tx_3_1 e
  · exact key 2 tx_3_2 e
  · exact key 3 tx_3_3 e
  · exact key 4 tx_3_4 e
  · exact key 5 tx_3_5 e
  · exact key 6 tx_3_6 e
  · exact key 7 tx_3_7 e
  · exact key 8 tx_3_8 e
  · exact key 9 tx_3_9 e
set_option maxRecDepth 100000 in
theorem tx_4 : (ldS9.all fun q => decide (Cond.stringRef (xR q.1) q.2.1 (sX.getD q.2.2 "") ∈ lw_tbl) && decide (q.2.2 < 10) && (decide (tm9 q.2.2 = Term.string (xR q.1) q.2.1) || decide (Cond.eq (tm9 q.2.2) (Term.string (xR q.1) q.2.1) ∈ NF))) = true := by decide +kernel
set_option maxRecDepth 100000 in
theorem tx_5 : ([Cond.laysStatic "java/lang/String" "COMPACT_STRINGS" "Z", Cond.initialized "java/lang/String", Cond.laysStatic "jdk/internal/util/Preconditions" "SIOOBE_FORMATTER" "Ljava/util/function/BiFunction;", Cond.initialized "jdk/internal/util/Preconditions", Cond.laysStatic Bundle.tN "UNASSIGNED_STACK" Bundle.steD, Cond.laysStatic Bundle.tN "SUPPRESSED_SENTINEL" Bundle.listD, Cond.initialized Bundle.tN].all fun w => decide (w ∈ lw_tbl)) = true := by decide +kernel
set_option maxRecDepth 100000 in
theorem tx_6 : ([Cond.eq (.static "java/lang/String" "COMPACT_STRINGS" "Z") (.int 1), Cond.isRef (.static "jdk/internal/util/Preconditions" "SIOOBE_FORMATTER" "Ljava/util/function/BiFunction;"), Cond.isRef (.static Bundle.tN "UNASSIGNED_STACK" Bundle.steD), Cond.isRef (.static Bundle.tN "SUPPRESSED_SENTINEL" Bundle.listD), Cond.not (.castable "java/lang/IllegalArgumentException" "java/lang/IndexOutOfBoundsException"), Cond.not (.castable "java/lang/IllegalStateException" "java/lang/IllegalArgumentException"), Cond.not (.castable "java/lang/IllegalStateException" "java/lang/IndexOutOfBoundsException")].all fun w => decide (w ∈ NF)) = true := by decide +kernel
