/-! ===== a method's contract out of its run, method by method (written by program: wip/whole/gen.py) ===== -/
theorem okr_1051 : calK 1051 := ok_51
theorem okr_2051 : calK 2051 := ok_51
theorem okr_3051 : calK 3051 := ok_51
theorem okr_4051 : calK 4051 := ok_51
theorem okr_5051 : calK 5051 := ok_51
theorem okr_6051 : calK 6051 := ok_51
theorem okr_1059 : calK 1059 := ok_59
theorem okr_2059 : calK 2059 := ok_59
theorem okr_3059 : calK 3059 := ok_59
theorem okr_4059 : calK 4059 := ok_59
theorem okr_5059 : calK 5059 := ok_59
theorem okr_6059 : calK 6059 := ok_59
theorem okr_1060 : calK 1060 := ok_60
theorem okr_2060 : calK 2060 := ok_60
theorem okr_3060 : calK 3060 := ok_60
theorem okr_4060 : calK 4060 := ok_60
theorem okr_5060 : calK 5060 := ok_60
theorem okr_6060 : calK 6060 := ok_60
theorem okr_1128 : calK 1128 := ok_128
theorem okr_2128 : calK 2128 := ok_128
theorem okr_3128 : calK 3128 := ok_128
theorem okr_4128 : calK 4128 := ok_128
theorem okr_5128 : calK 5128 := ok_128
theorem okr_6128 : calK 6128 := ok_128
theorem okr_1171 : calK 1171 := ok_171
theorem okr_2171 : calK 2171 := ok_171
theorem okr_3171 : calK 3171 := ok_171
theorem okr_4171 : calK 4171 := ok_171
theorem okr_5171 : calK 5171 := ok_171
theorem okr_6171 : calK 6171 := ok_171
theorem okr_1177 : calK 1177 := ok_177
theorem okr_2177 : calK 2177 := ok_177
theorem okr_3177 : calK 3177 := ok_177
theorem okr_4177 : calK 4177 := ok_177
theorem okr_5177 : calK 5177 := ok_177
theorem okr_6177 : calK 6177 := ok_177
section WRAP
variable {l : Launch} {G : Gt} {S : Sem} {E : Nat → Sem}
theorem t_X0_amountDue (hfl : l.stackTraces = false) (h11 : SatM l G 11 (E 11)) (hrun : ∀ as M, (S as M).1 → (lg_sl as).length ≤ 4 ∧ Run (gT G) E 0 0 (fun _ _ => none) (S as M).2.1 (S as M).2.2 kX0_amountDue 0 (ent as 4) [] M 0 0) : SatM l G 0 S := by
  have e1 : cL9 0 = 4 := rfl
  have e2 : cM 0 = 0 := rfl
  have e3 : cS 0 = 0 := rfl
  refine sat_of (E := E) (ids := [11]) hfl ok_0 rfl rfl oX0_amountDue (by
    intro id h
    simp only [List.mem_cons, List.not_mem_nil, or_false] at h
    subst h
    exact ⟨h11, ok_11⟩) ?_
  rw [e1, e2, e3]
  exact hrun
theorem t_X0_closeAll (hfl : l.stackTraces = false)  (hrun : ∀ as M, (S as M).1 → (lg_sl as).length ≤ 2 ∧ Run (gT G) E 0 0 (fun _ _ => none) (S as M).2.1 (S as M).2.2 kX0_closeAll 0 (ent as 2) [] M 0 0) : SatM l G 1 S := by
  have e1 : cL9 1 = 2 := rfl
  have e2 : cM 1 = 0 := rfl
  have e3 : cS 1 = 0 := rfl
  refine sat_of (E := E) (ids := []) hfl ok_1 rfl rfl oX0_closeAll (fun _ h => by cases h) ?_
  rw [e1, e2, e3]
  exact hrun
theorem t_X0_copyFrom (hfl : l.stackTraces = false) (h80 : SatM l G 80 (E 80)) (hrun : ∀ as M, (S as M).1 → (lg_sl as).length ≤ 2 ∧ Run (gT G) E 0 0 (fun _ _ => none) (S as M).2.1 (S as M).2.2 kX0_copyFrom 0 (ent as 2) [] M 0 0) : SatM l G 2 S := by
  have e1 : cL9 2 = 2 := rfl
  have e2 : cM 2 = 0 := rfl
  have e3 : cS 2 = 0 := rfl
  refine sat_of (E := E) (ids := [80]) hfl ok_2 rfl rfl oX0_copyFrom (by
    intro id h
    simp only [List.mem_cons, List.not_mem_nil, or_false] at h
    subst h
    exact ⟨h80, ok_80⟩) ?_
  rw [e1, e2, e3]
  exact hrun
theorem t_X0_firstOpenChild (hfl : l.stackTraces = false) (h5 : SatM l G 5 (E 5)) (hrun : ∀ as M, (S as M).1 → (lg_sl as).length ≤ 3 ∧ Run (gT G) E 0 0 (fun _ _ => none) (S as M).2.1 (S as M).2.2 kX0_firstOpenChild 0 (ent as 3) [] M 0 0) : SatM l G 3 S := by
  have e1 : cL9 3 = 3 := rfl
  have e2 : cM 3 = 0 := rfl
  have e3 : cS 3 = 0 := rfl
  refine sat_of (E := E) (ids := [5]) hfl ok_3 rfl rfl oX0_firstOpenChild (by
    intro id h
    simp only [List.mem_cons, List.not_mem_nil, or_false] at h
    subst h
    exact ⟨h5, ok_5⟩) ?_
  rw [e1, e2, e3]
  exact hrun
theorem t_X0_init (hfl : l.stackTraces = false)  (hrun : ∀ as M, (S as M).1 → (lg_sl as).length ≤ 1 ∧ Run (gT G) E 8 224 (fun _ _ => none) (S as M).2.1 (S as M).2.2 kX0_init 0 (ent as 1) [] M 0 0) : SatM l G 4 S := by
  have e1 : cL9 4 = 1 := rfl
  have e2 : cM 4 = 8 := rfl
  have e3 : cS 4 = 224 := rfl
  refine sat_of (E := E) (ids := []) hfl ok_4 rfl rfl oX0_init (fun _ h => by cases h) ?_
  rw [e1, e2, e3]
  exact hrun
theorem t_X0_isOpenChild (hfl : l.stackTraces = false)  (hrun : ∀ as M, (S as M).1 → (lg_sl as).length ≤ 3 ∧ Run (gT G) E 0 0 (fun _ _ => none) (S as M).2.1 (S as M).2.2 kX0_isOpenChild 0 (ent as 3) [] M 0 0) : SatM l G 5 S := by
  have e1 : cL9 5 = 3 := rfl
  have e2 : cM 5 = 0 := rfl
  have e3 : cS 5 = 0 := rfl
  refine sat_of (E := E) (ids := []) hfl ok_5 rfl rfl oX0_isOpenChild (fun _ h => by cases h) ?_
  rw [e1, e2, e3]
  exact hrun
theorem t_X0_letArrive (hfl : l.stackTraces = false) (h11 : SatM l G 11 (E 11)) (hrun : ∀ as M, (S as M).1 → (lg_sl as).length ≤ 4 ∧ Run (gT G) E 0 0 (fun _ _ => none) (S as M).2.1 (S as M).2.2 kX0_letArrive 0 (ent as 4) [] M 0 0) : SatM l G 6 S := by
  have e1 : cL9 6 = 4 := rfl
  have e2 : cM 6 = 0 := rfl
  have e3 : cS 6 = 0 := rfl
  refine sat_of (E := E) (ids := [11]) hfl ok_6 rfl rfl oX0_letArrive (by
    intro id h
    simp only [List.mem_cons, List.not_mem_nil, or_false] at h
    subst h
    exact ⟨h11, ok_11⟩) ?_
  rw [e1, e2, e3]
  exact hrun
theorem t_X0_openAt (hfl : l.stackTraces = false)  (hrun : ∀ as M, (S as M).1 → (lg_sl as).length ≤ 2 ∧ Run (gT G) E 0 0 (fun _ _ => none) (S as M).2.1 (S as M).2.2 kX0_openAt 0 (ent as 2) [] M 0 0) : SatM l G 7 S := by
  have e1 : cL9 7 = 2 := rfl
  have e2 : cM 7 = 0 := rfl
  have e3 : cS 7 = 0 := rfl
  refine sat_of (E := E) (ids := []) hfl ok_7 rfl rfl oX0_openAt (fun _ h => by cases h) ?_
  rw [e1, e2, e3]
  exact hrun
theorem t_X0_openParents (hfl : l.stackTraces = false) (h7 : SatM l G 7 (E 7)) (hrun : ∀ as M, (S as M).1 → (lg_sl as).length ≤ 2 ∧ Run (gT G) E 0 0 (fun _ _ => none) (S as M).2.1 (S as M).2.2 kX0_openParents 0 (ent as 2) [] M 0 0) : SatM l G 8 S := by
  have e1 : cL9 8 = 2 := rfl
  have e2 : cM 8 = 0 := rfl
  have e3 : cS 8 = 0 := rfl
  refine sat_of (E := E) (ids := [7]) hfl ok_8 rfl rfl oX0_openParents (by
    intro id h
    simp only [List.mem_cons, List.not_mem_nil, or_false] at h
    subst h
    exact ⟨h7, ok_7⟩) ?_
  rw [e1, e2, e3]
  exact hrun
theorem t_X0_openShares (hfl : l.stackTraces = false) (h5 : SatM l G 5 (E 5)) (hrun : ∀ as M, (S as M).1 → (lg_sl as).length ≤ 4 ∧ Run (gT G) E 0 0 (fun _ _ => none) (S as M).2.1 (S as M).2.2 kX0_openShares 0 (ent as 4) [] M 0 0) : SatM l G 9 S := by
  have e1 : cL9 9 = 4 := rfl
  have e2 : cM 9 = 0 := rfl
  have e3 : cS 9 = 0 := rfl
  refine sat_of (E := E) (ids := [5]) hfl ok_9 rfl rfl oX0_openShares (by
    intro id h
    simp only [List.mem_cons, List.not_mem_nil, or_false] at h
    subst h
    exact ⟨h5, ok_5⟩) ?_
  rw [e1, e2, e3]
  exact hrun
theorem t_X0_send (hfl : l.stackTraces = false) (h11 : SatM l G 11 (E 11)) (hrun : ∀ as M, (S as M).1 → (lg_sl as).length ≤ 4 ∧ Run (gT G) E 0 0 (fun _ _ => none) (S as M).2.1 (S as M).2.2 kX0_send 0 (ent as 4) [] M 0 0) : SatM l G 10 S := by
  have e1 : cL9 10 = 4 := rfl
  have e2 : cM 10 = 0 := rfl
  have e3 : cS 10 = 0 := rfl
  refine sat_of (E := E) (ids := [11]) hfl ok_10 rfl rfl oX0_send (by
    intro id h
    simp only [List.mem_cons, List.not_mem_nil, or_false] at h
    subst h
    exact ⟨h11, ok_11⟩) ?_
  rw [e1, e2, e3]
  exact hrun
theorem t_X0_slot (hfl : l.stackTraces = false)  (hrun : ∀ as M, (S as M).1 → (lg_sl as).length ≤ 2 ∧ Run (gT G) E 0 0 (fun _ _ => none) (S as M).2.1 (S as M).2.2 kX0_slot 0 (ent as 2) [] M 0 0) : SatM l G 11 S := by
  have e1 : cL9 11 = 2 := rfl
  have e2 : cM 11 = 0 := rfl
  have e3 : cS 11 = 0 := rfl
  refine sat_of (E := E) (ids := []) hfl ok_11 rfl rfl oX0_slot (fun _ h => by cases h) ?_
  rw [e1, e2, e3]
  exact hrun
theorem t_X0_waterInAll (hfl : l.stackTraces = false)  (hrun : ∀ as M, (S as M).1 → (lg_sl as).length ≤ 4 ∧ Run (gT G) E 0 0 (fun _ _ => none) (S as M).2.1 (S as M).2.2 kX0_waterInAll 0 (ent as 4) [] M 0 0) : SatM l G 12 S := by
  have e1 : cL9 12 = 4 := rfl
  have e2 : cM 12 = 0 := rfl
  have e3 : cS 12 = 0 := rfl
  refine sat_of (E := E) (ids := []) hfl ok_12 rfl rfl oX0_waterInAll (fun _ h => by cases h) ?_
  rw [e1, e2, e3]
  exact hrun
theorem t_X1_copyFrom (hfl : l.stackTraces = false) (h80 : SatM l G 80 (E 80)) (hrun : ∀ as M, (S as M).1 → (lg_sl as).length ≤ 3 ∧ Run (gT G) E 0 0 (fun _ _ => none) (S as M).2.1 (S as M).2.2 kX1_copyFrom 0 (ent as 3) [] M 0 0) : SatM l G 13 S := by
  have e1 : cL9 13 = 3 := rfl
  have e2 : cM 13 = 0 := rfl
  have e3 : cS 13 = 0 := rfl
  refine sat_of (E := E) (ids := [80]) hfl ok_13 rfl rfl oX1_copyFrom (by
    intro id h
    simp only [List.mem_cons, List.not_mem_nil, or_false] at h
    subst h
    exact ⟨h80, ok_80⟩) ?_
  rw [e1, e2, e3]
  exact hrun
theorem t_X1_countForced (hfl : l.stackTraces = false)  (hrun : ∀ as M, (S as M).1 → (lg_sl as).length ≤ 3 ∧ Run (gT G) E 0 0 (fun _ _ => none) (S as M).2.1 (S as M).2.2 kX1_countForced 0 (ent as 3) [] M 0 0) : SatM l G 14 S := by
  have e1 : cL9 14 = 3 := rfl
  have e2 : cM 14 = 0 := rfl
  have e3 : cS 14 = 0 := rfl
  refine sat_of (E := E) (ids := []) hfl ok_14 rfl rfl oX1_countForced (fun _ h => by cases h) ?_
  rw [e1, e2, e3]
  exact hrun
theorem t_X1_demandOf (hfl : l.stackTraces = false)  (hrun : ∀ as M, (S as M).1 → (lg_sl as).length ≤ 4 ∧ Run (gT G) E 0 0 (fun _ _ => none) (S as M).2.1 (S as M).2.2 kX1_demandOf 0 (ent as 4) [] M 0 0) : SatM l G 15 S := by
  have e1 : cL9 15 = 4 := rfl
  have e2 : cM 15 = 0 := rfl
  have e3 : cS 15 = 0 := rfl
  refine sat_of (E := E) (ids := []) hfl ok_15 rfl rfl oX1_demandOf (fun _ h => by cases h) ?_
  rw [e1, e2, e3]
  exact hrun
theorem t_X1_fairPart (hfl : l.stackTraces = false) (h15 : SatM l G 15 (E 15)) (hrun : ∀ as M, (S as M).1 → (lg_sl as).length ≤ 12 ∧ Run (gT G) E 0 0 (fun _ _ => none) (S as M).2.1 (S as M).2.2 kX1_fairPart 0 (ent as 12) [] M 0 0) : SatM l G 16 S := by
  have e1 : cL9 16 = 12 := rfl
  have e2 : cM 16 = 0 := rfl
  have e3 : cS 16 = 0 := rfl
  refine sat_of (E := E) (ids := [15]) hfl ok_16 rfl rfl oX1_fairPart (by
    intro id h
    simp only [List.mem_cons, List.not_mem_nil, or_false] at h
    subst h
    exact ⟨h15, ok_15⟩) ?_
  rw [e1, e2, e3]
  exact hrun
theorem t_X1_hasOpenGate (hfl : l.stackTraces = false)  (hrun : ∀ as M, (S as M).1 → (lg_sl as).length ≤ 3 ∧ Run (gT G) E 0 0 (fun _ _ => none) (S as M).2.1 (S as M).2.2 kX1_hasOpenGate 0 (ent as 3) [] M 0 0) : SatM l G 17 S := by
  have e1 : cL9 17 = 3 := rfl
  have e2 : cM 17 = 0 := rfl
  have e3 : cS 17 = 0 := rfl
  refine sat_of (E := E) (ids := []) hfl ok_17 rfl rfl oX1_hasOpenGate (fun _ h => by cases h) ?_
  rw [e1, e2, e3]
  exact hrun
theorem t_X1_init (hfl : l.stackTraces = false)  (hrun : ∀ as M, (S as M).1 → (lg_sl as).length ≤ 1 ∧ Run (gT G) E 11 132 (fun _ _ => none) (S as M).2.1 (S as M).2.2 kX1_init 0 (ent as 1) [] M 0 0) : SatM l G 18 S := by
  have e1 : cL9 18 = 1 := rfl
  have e2 : cM 18 = 11 := rfl
  have e3 : cS 18 = 132 := rfl
  refine sat_of (E := E) (ids := []) hfl ok_18 rfl rfl oX1_init (fun _ h => by cases h) ?_
  rw [e1, e2, e3]
  exact hrun
theorem t_X1_markOpenCanals (hfl : l.stackTraces = false) (h1 : SatM l G 1 (E 1)) (h7 : SatM l G 7 (E 7)) (h8 : SatM l G 8 (E 8)) (h17 : SatM l G 17 (E 17)) (hrun : ∀ as M, (S as M).1 → (lg_sl as).length ≤ 4 ∧ Run (gT G) E 0 0 (fun _ _ => none) (S as M).2.1 (S as M).2.2 kX1_markOpenCanals 0 (ent as 4) [] M 0 0) : SatM l G 19 S := by
  have e1 : cL9 19 = 4 := rfl
  have e2 : cM 19 = 0 := rfl
  have e3 : cS 19 = 0 := rfl
  refine sat_of (E := E) (ids := [1, 7, 8, 17]) hfl ok_19 rfl rfl oX1_markOpenCanals (by
    intro id h
    simp only [List.mem_cons, List.not_mem_nil, or_false] at h
    rcases h with rfl | rfl | rfl | rfl
    · exact ⟨h1, ok_1⟩
    · exact ⟨h7, ok_7⟩
    · exact ⟨h8, ok_8⟩
    · exact ⟨h17, ok_17⟩) ?_
  rw [e1, e2, e3]
  exact hrun
theorem t_X1_meetsDemand (hfl : l.stackTraces = false)  (hrun : ∀ as M, (S as M).1 → (lg_sl as).length ≤ 2 ∧ Run (gT G) E 0 0 (fun _ _ => none) (S as M).2.1 (S as M).2.2 kX1_meetsDemand 0 (ent as 2) [] M 0 0) : SatM l G 20 S := by
  have e1 : cL9 20 = 2 := rfl
  have e2 : cM 20 = 0 := rfl
  have e3 : cS 20 = 0 := rfl
  refine sat_of (E := E) (ids := []) hfl ok_20 rfl rfl oX1_meetsDemand (fun _ h => by cases h) ?_
  rw [e1, e2, e3]
  exact hrun
theorem t_X1_overflow (hfl : l.stackTraces = false)  (hrun : ∀ as M, (S as M).1 → (lg_sl as).length ≤ 4 ∧ Run (gT G) E 0 0 (fun _ _ => none) (S as M).2.1 (S as M).2.2 kX1_overflow 0 (ent as 4) [] M 0 0) : SatM l G 21 S := by
  have e1 : cL9 21 = 4 := rfl
  have e2 : cM 21 = 0 := rfl
  have e3 : cS 21 = 0 := rfl
  refine sat_of (E := E) (ids := []) hfl ok_21 rfl rfl oX1_overflow (fun _ h => by cases h) ?_
  rw [e1, e2, e3]
  exact hrun
theorem t_X1_seepAway (hfl : l.stackTraces = false)  (hrun : ∀ as M, (S as M).1 → (lg_sl as).length ≤ 3 ∧ Run (gT G) E 0 0 (fun _ _ => none) (S as M).2.1 (S as M).2.2 kX1_seepAway 0 (ent as 3) [] M 0 0) : SatM l G 22 S := by
  have e1 : cL9 22 = 3 := rfl
  have e2 : cM 22 = 0 := rfl
  have e3 : cS 22 = 0 := rfl
  refine sat_of (E := E) (ids := []) hfl ok_22 rfl rfl oX1_seepAway (fun _ h => by cases h) ?_
  rw [e1, e2, e3]
  exact hrun
theorem t_X1_takeFrom (hfl : l.stackTraces = false) (h17 : SatM l G 17 (E 17)) (hrun : ∀ as M, (S as M).1 → (lg_sl as).length ≤ 7 ∧ Run (gT G) E 0 0 (fun _ _ => none) (S as M).2.1 (S as M).2.2 kX1_takeFrom 0 (ent as 7) [] M 0 0) : SatM l G 23 S := by
  have e1 : cL9 23 = 7 := rfl
  have e2 : cM 23 = 0 := rfl
  have e3 : cS 23 = 0 := rfl
  refine sat_of (E := E) (ids := [17]) hfl ok_23 rfl rfl oX1_takeFrom (by
    intro id h
    simp only [List.mem_cons, List.not_mem_nil, or_false] at h
    subst h
    exact ⟨h17, ok_17⟩) ?_
  rw [e1, e2, e3]
  exact hrun
theorem t_X1_waterInAll (hfl : l.stackTraces = false)  (hrun : ∀ as M, (S as M).1 → (lg_sl as).length ≤ 4 ∧ Run (gT G) E 0 0 (fun _ _ => none) (S as M).2.1 (S as M).2.2 kX1_waterInAll 0 (ent as 4) [] M 0 0) : SatM l G 24 S := by
  have e1 : cL9 24 = 4 := rfl
  have e2 : cM 24 = 0 := rfl
  have e3 : cS 24 = 0 := rfl
  refine sat_of (E := E) (ids := []) hfl ok_24 rfl rfl oX1_waterInAll (fun _ h => by cases h) ?_
  rw [e1, e2, e3]
  exact hrun
theorem t_X2_add (hfl : l.stackTraces = false)  (hrun : ∀ as M, (S as M).1 → (lg_sl as).length ≤ 2 ∧ Run (gT G) E 0 0 (fun _ _ => none) (S as M).2.1 (S as M).2.2 kX2_add 0 (ent as 2) [] M 0 0) : SatM l G 25 S := by
  have e1 : cL9 25 = 2 := rfl
  have e2 : cM 25 = 0 := rfl
  have e3 : cS 25 = 0 := rfl
  refine sat_of (E := E) (ids := []) hfl ok_25 rfl rfl oX2_add (fun _ h => by cases h) ?_
  rw [e1, e2, e3]
  exact hrun
theorem t_X2_clear (hfl : l.stackTraces = false)  (hrun : ∀ as M, (S as M).1 → (lg_sl as).length ≤ 1 ∧ Run (gT G) E 0 0 (fun _ _ => none) (S as M).2.1 (S as M).2.2 kX2_clear 0 (ent as 1) [] M 0 0) : SatM l G 26 S := by
  have e1 : cL9 26 = 1 := rfl
  have e2 : cM 26 = 0 := rfl
  have e3 : cS 26 = 0 := rfl
  refine sat_of (E := E) (ids := []) hfl ok_26 rfl rfl oX2_clear (fun _ h => by cases h) ?_
  rw [e1, e2, e3]
  exact hrun
theorem t_X2_combine (hfl : l.stackTraces = false)  (hrun : ∀ as M, (S as M).1 → (lg_sl as).length ≤ 5 ∧ Run (gT G) E 0 0 (fun _ _ => none) (S as M).2.1 (S as M).2.2 kX2_combine 0 (ent as 5) [] M 0 0) : SatM l G 27 S := by
  have e1 : cL9 27 = 5 := rfl
  have e2 : cM 27 = 0 := rfl
  have e3 : cS 27 = 0 := rfl
  refine sat_of (E := E) (ids := []) hfl ok_27 rfl rfl oX2_combine (fun _ h => by cases h) ?_
  rw [e1, e2, e3]
  exact hrun
theorem t_X2_copyFrom (hfl : l.stackTraces = false)  (hrun : ∀ as M, (S as M).1 → (lg_sl as).length ≤ 2 ∧ Run (gT G) E 0 0 (fun _ _ => none) (S as M).2.1 (S as M).2.2 kX2_copyFrom 0 (ent as 2) [] M 0 0) : SatM l G 28 S := by
  have e1 : cL9 28 = 2 := rfl
  have e2 : cM 28 = 0 := rfl
  have e3 : cS 28 = 0 := rfl
  refine sat_of (E := E) (ids := []) hfl ok_28 rfl rfl oX2_copyFrom (fun _ h => by cases h) ?_
  rw [e1, e2, e3]
  exact hrun
theorem t_X2_inflowIn (hfl : l.stackTraces = false) (h27 : SatM l G 27 (E 27)) (h31 : SatM l G 31 (E 31)) (hrun : ∀ as M, (S as M).1 → (lg_sl as).length ≤ 8 ∧ Run (gT G) E 0 0 (fun _ _ => none) (S as M).2.1 (S as M).2.2 kX2_inflowIn 0 (ent as 8) [] M 0 0) : SatM l G 29 S := by
  have e1 : cL9 29 = 8 := rfl
  have e2 : cM 29 = 0 := rfl
  have e3 : cS 29 = 0 := rfl
  refine sat_of (E := E) (ids := [27, 31]) hfl ok_29 rfl rfl oX2_inflowIn (by
    intro id h
    simp only [List.mem_cons, List.not_mem_nil, or_false] at h
    rcases h with rfl | rfl
    · exact ⟨h27, ok_27⟩
    · exact ⟨h31, ok_31⟩) ?_
  rw [e1, e2, e3]
  exact hrun
theorem t_X2_init (hfl : l.stackTraces = false)  (hrun : ∀ as M, (S as M).1 → (lg_sl as).length ≤ 1 ∧ Run (gT G) E 2 911 (fun _ _ => none) (S as M).2.1 (S as M).2.2 kX2_init 0 (ent as 1) [] M 0 0) : SatM l G 30 S := by
  have e1 : cL9 30 = 1 := rfl
  have e2 : cM 30 = 2 := rfl
  have e3 : cS 30 = 911 := rfl
  refine sat_of (E := E) (ids := []) hfl ok_30 rfl rfl oX2_init (fun _ h => by cases h) ?_
  rw [e1, e2, e3]
  exact hrun
theorem t_X2_operand (hfl : l.stackTraces = false)  (hrun : ∀ as M, (S as M).1 → (lg_sl as).length ≤ 3 ∧ Run (gT G) E 0 0 (fun _ _ => none) (S as M).2.1 (S as M).2.2 kX2_operand 0 (ent as 3) [] M 0 0) : SatM l G 31 S := by
  have e1 : cL9 31 = 3 := rfl
  have e2 : cM 31 = 0 := rfl
  have e3 : cS 31 = 0 := rfl
  refine sat_of (E := E) (ids := []) hfl ok_31 rfl rfl oX2_operand (fun _ h => by cases h) ?_
  rw [e1, e2, e3]
  exact hrun
theorem t_X3_addStop (hfl : l.stackTraces = false)  (hrun : ∀ as M, (S as M).1 → (lg_sl as).length ≤ 2 ∧ Run (gT G) E 0 0 (fun _ _ => none) (S as M).2.1 (S as M).2.2 kX3_addStop 0 (ent as 2) [] M 0 0) : SatM l G 32 S := by
  have e1 : cL9 32 = 2 := rfl
  have e2 : cM 32 = 0 := rfl
  have e3 : cS 32 = 0 := rfl
  refine sat_of (E := E) (ids := []) hfl ok_32 rfl rfl oX3_addStop (fun _ h => by cases h) ?_
  rw [e1, e2, e3]
  exact hrun
theorem t_X3_copyFrom (hfl : l.stackTraces = false) (h80 : SatM l G 80 (E 80)) (hrun : ∀ as M, (S as M).1 → (lg_sl as).length ≤ 2 ∧ Run (gT G) E 0 0 (fun _ _ => none) (S as M).2.1 (S as M).2.2 kX3_copyFrom 0 (ent as 2) [] M 0 0) : SatM l G 33 S := by
  have e1 : cL9 33 = 2 := rfl
  have e2 : cM 33 = 0 := rfl
  have e3 : cS 33 = 0 := rfl
  refine sat_of (E := E) (ids := [80]) hfl ok_33 rfl rfl oX3_copyFrom (by
    intro id h
    simp only [List.mem_cons, List.not_mem_nil, or_false] at h
    subst h
    exact ⟨h80, ok_80⟩) ?_
  rw [e1, e2, e3]
  exact hrun
theorem t_X3_init (hfl : l.stackTraces = false)  (hrun : ∀ as M, (S as M).1 → (lg_sl as).length ≤ 1 ∧ Run (gT G) E 1 10 (fun _ _ => none) (S as M).2.1 (S as M).2.2 kX3_init 0 (ent as 1) [] M 0 0) : SatM l G 34 S := by
  have e1 : cL9 34 = 1 := rfl
  have e2 : cM 34 = 1 := rfl
  have e3 : cS 34 = 10 := rfl
  refine sat_of (E := E) (ids := []) hfl ok_34 rfl rfl oX3_init (fun _ h => by cases h) ?_
  rw [e1, e2, e3]
  exact hrun
theorem t_X3_place (hfl : l.stackTraces = false)  (hrun : ∀ as M, (S as M).1 → (lg_sl as).length ≤ 1 ∧ Run (gT G) E 0 0 (fun _ _ => none) (S as M).2.1 (S as M).2.2 kX3_place 0 (ent as 1) [] M 0 0) : SatM l G 35 S := by
  have e1 : cL9 35 = 1 := rfl
  have e2 : cM 35 = 0 := rfl
  have e3 : cS 35 = 0 := rfl
  refine sat_of (E := E) (ids := []) hfl ok_35 rfl rfl oX3_place (fun _ h => by cases h) ?_
  rw [e1, e2, e3]
  exact hrun
theorem t_X3_walk (hfl : l.stackTraces = false) (h35 : SatM l G 35 (E 35)) (hrun : ∀ as M, (S as M).1 → (lg_sl as).length ≤ 1 ∧ Run (gT G) E 0 0 (fun _ _ => none) (S as M).2.1 (S as M).2.2 kX3_walk 0 (ent as 1) [] M 0 0) : SatM l G 36 S := by
  have e1 : cL9 36 = 1 := rfl
  have e2 : cM 36 = 0 := rfl
  have e3 : cS 36 = 0 := rfl
  refine sat_of (E := E) (ids := [35]) hfl ok_36 rfl rfl oX3_walk (by
    intro id h
    simp only [List.mem_cons, List.not_mem_nil, or_false] at h
    subst h
    exact ⟨h35, ok_35⟩) ?_
  rw [e1, e2, e3]
  exact hrun
theorem t_X4_init (hfl : l.stackTraces = false) (h68 : SatM l G 68 (E 68)) (hrun : ∀ as M, (S as M).1 → (lg_sl as).length ≤ 2 ∧ Run (gT G) E 257 10808 (fun _ _ => none) (S as M).2.1 (S as M).2.2 kX4_init 0 (ent as 2) [] M 0 0) : SatM l G 37 S := by
  have e1 : cL9 37 = 2 := rfl
  have e2 : cM 37 = 257 := rfl
  have e3 : cS 37 = 10808 := rfl
  refine sat_of (E := E) (ids := [68]) hfl ok_37 rfl rfl oX4_init (by
    intro id h
    simp only [List.mem_cons, List.not_mem_nil, or_false] at h
    subst h
    exact ⟨h68, ok_68⟩) ?_
  rw [e1, e2, e3]
  exact hrun
theorem t_X4_restore (hfl : l.stackTraces = false) (h64 : SatM l G 64 (E 64)) (hrun : ∀ as M, (S as M).1 → (lg_sl as).length ≤ 2 ∧ Run (gT G) E 0 0 (fun _ _ => none) (S as M).2.1 (S as M).2.2 kX4_restore 0 (ent as 2) [] M 0 0) : SatM l G 38 S := by
  have e1 : cL9 38 = 2 := rfl
  have e2 : cM 38 = 0 := rfl
  have e3 : cS 38 = 0 := rfl
  refine sat_of (E := E) (ids := [64]) hfl ok_38 rfl rfl oX4_restore (by
    intro id h
    simp only [List.mem_cons, List.not_mem_nil, or_false] at h
    subst h
    exact ⟨h64, ok_64⟩) ?_
  rw [e1, e2, e3]
  exact hrun
theorem t_X4_save (hfl : l.stackTraces = false) (h64 : SatM l G 64 (E 64)) (hrun : ∀ as M, (S as M).1 → (lg_sl as).length ≤ 2 ∧ Run (gT G) E 0 0 (fun _ _ => none) (S as M).2.1 (S as M).2.2 kX4_save 0 (ent as 2) [] M 0 0) : SatM l G 39 S := by
  have e1 : cL9 39 = 2 := rfl
  have e2 : cM 39 = 0 := rfl
  have e3 : cS 39 = 0 := rfl
  refine sat_of (E := E) (ids := [64]) hfl ok_39 rfl rfl oX4_save (by
    intro id h
    simp only [List.mem_cons, List.not_mem_nil, or_false] at h
    subst h
    exact ⟨h64, ok_64⟩) ?_
  rw [e1, e2, e3]
  exact hrun
theorem t_X5_copyFrom (hfl : l.stackTraces = false) (h80 : SatM l G 80 (E 80)) (hrun : ∀ as M, (S as M).1 → (lg_sl as).length ≤ 2 ∧ Run (gT G) E 0 0 (fun _ _ => none) (S as M).2.1 (S as M).2.2 kX5_copyFrom 0 (ent as 2) [] M 0 0) : SatM l G 40 S := by
  have e1 : cL9 40 = 2 := rfl
  have e2 : cM 40 = 0 := rfl
  have e3 : cS 40 = 0 := rfl
  refine sat_of (E := E) (ids := [80]) hfl ok_40 rfl rfl oX5_copyFrom (by
    intro id h
    simp only [List.mem_cons, List.not_mem_nil, or_false] at h
    subst h
    exact ⟨h80, ok_80⟩) ?_
  rw [e1, e2, e3]
  exact hrun
theorem t_X5_fine (hfl : l.stackTraces = false)  (hrun : ∀ as M, (S as M).1 → (lg_sl as).length ≤ 2 ∧ Run (gT G) E 0 0 (fun _ _ => none) (S as M).2.1 (S as M).2.2 kX5_fine 0 (ent as 2) [] M 0 0) : SatM l G 41 S := by
  have e1 : cL9 41 = 2 := rfl
  have e2 : cM 41 = 0 := rfl
  have e3 : cS 41 = 0 := rfl
  refine sat_of (E := E) (ids := []) hfl ok_41 rfl rfl oX5_fine (fun _ h => by cases h) ?_
  rw [e1, e2, e3]
  exact hrun
theorem t_X5_init (hfl : l.stackTraces = false)  (hrun : ∀ as M, (S as M).1 → (lg_sl as).length ≤ 1 ∧ Run (gT G) E 1 6 (fun _ _ => none) (S as M).2.1 (S as M).2.2 kX5_init 0 (ent as 1) [] M 0 0) : SatM l G 42 S := by
  have e1 : cL9 42 = 1 := rfl
  have e2 : cM 42 = 1 := rfl
  have e3 : cS 42 = 6 := rfl
  refine sat_of (E := E) (ids := []) hfl ok_42 rfl rfl oX5_init (fun _ h => by cases h) ?_
  rw [e1, e2, e3]
  exact hrun
theorem t_X6_copyFrom (hfl : l.stackTraces = false) (h80 : SatM l G 80 (E 80)) (hrun : ∀ as M, (S as M).1 → (lg_sl as).length ≤ 2 ∧ Run (gT G) E 0 0 (fun _ _ => none) (S as M).2.1 (S as M).2.2 kX6_copyFrom 0 (ent as 2) [] M 0 0) : SatM l G 43 S := by
  have e1 : cL9 43 = 2 := rfl
  have e2 : cM 43 = 0 := rfl
  have e3 : cS 43 = 0 := rfl
  refine sat_of (E := E) (ids := [80]) hfl ok_43 rfl rfl oX6_copyFrom (by
    intro id h
    simp only [List.mem_cons, List.not_mem_nil, or_false] at h
    subst h
    exact ⟨h80, ok_80⟩) ?_
  rw [e1, e2, e3]
  exact hrun
theorem t_X6_exchange (hfl : l.stackTraces = false)  (hrun : ∀ as M, (S as M).1 → (lg_sl as).length ≤ 5 ∧ Run (gT G) E 0 0 (fun _ _ => none) (S as M).2.1 (S as M).2.2 kX6_exchange 0 (ent as 5) [] M 0 0) : SatM l G 44 S := by
  have e1 : cL9 44 = 5 := rfl
  have e2 : cM 44 = 0 := rfl
  have e3 : cS 44 = 0 := rfl
  refine sat_of (E := E) (ids := []) hfl ok_44 rfl rfl oX6_exchange (fun _ h => by cases h) ?_
  rw [e1, e2, e3]
  exact hrun
theorem t_X6_init (hfl : l.stackTraces = false)  (hrun : ∀ as M, (S as M).1 → (lg_sl as).length ≤ 1 ∧ Run (gT G) E 2 24 (fun _ _ => none) (S as M).2.1 (S as M).2.2 kX6_init 0 (ent as 1) [] M 0 0) : SatM l G 45 S := by
  have e1 : cL9 45 = 1 := rfl
  have e2 : cM 45 = 2 := rfl
  have e3 : cS 45 = 24 := rfl
  refine sat_of (E := E) (ids := []) hfl ok_45 rfl rfl oX6_init (fun _ h => by cases h) ?_
  rw [e1, e2, e3]
  exact hrun
theorem t_X6_villageIn (hfl : l.stackTraces = false)  (hrun : ∀ as M, (S as M).1 → (lg_sl as).length ≤ 4 ∧ Run (gT G) E 0 0 (fun _ _ => none) (S as M).2.1 (S as M).2.2 kX6_villageIn 0 (ent as 4) [] M 0 0) : SatM l G 46 S := by
  have e1 : cL9 46 = 4 := rfl
  have e2 : cM 46 = 0 := rfl
  have e3 : cS 46 = 0 := rfl
  refine sat_of (E := E) (ids := []) hfl ok_46 rfl rfl oX6_villageIn (fun _ h => by cases h) ?_
  rw [e1, e2, e3]
  exact hrun
theorem t_X7_addOperand (hfl : l.stackTraces = false) (h25 : SatM l G 25 (E 25)) (h74 : SatM l G 74 (E 74)) (hrun : ∀ as M, (S as M).1 → (lg_sl as).length ≤ 2 ∧ Run (gT G) E 0 0 (fun _ _ => none) (S as M).2.1 (S as M).2.2 kX7_addOperand 0 (ent as 2) [] M 0 0) : SatM l G 47 S := by
  have e1 : cL9 47 = 2 := rfl
  have e2 : cM 47 = 0 := rfl
  have e3 : cS 47 = 0 := rfl
  refine sat_of (E := E) (ids := [25, 74]) hfl ok_47 rfl rfl oX7_addOperand (by
    intro id h
    simp only [List.mem_cons, List.not_mem_nil, or_false] at h
    rcases h with rfl | rfl
    · exact ⟨h25, ok_25⟩
    · exact ⟨h74, ok_74⟩) ?_
  rw [e1, e2, e3]
  exact hrun
theorem t_X7_fail (hfl : l.stackTraces = false)  (hrun : ∀ as M, (S as M).1 → (lg_sl as).length ≤ 2 ∧ Run (gT G) E 0 0 (fun _ _ => none) (S as M).2.1 (S as M).2.2 kX7_fail 0 (ent as 2) [] M 0 0) : SatM l G 48 S := by
  have e1 : cL9 48 = 2 := rfl
  have e2 : cM 48 = 0 := rfl
  have e3 : cS 48 = 0 := rfl
  refine sat_of (E := E) (ids := []) hfl ok_48 rfl rfl oX7_fail (fun _ h => by cases h) ?_
  rw [e1, e2, e3]
  exact hrun
theorem t_X7_init (hfl : l.stackTraces = false) (h68 : SatM l G 68 (E 68)) (h72 : SatM l G 72 (E 72)) (hrun : ∀ as M, (S as M).1 → (lg_sl as).length ≤ 1 ∧ Run (gT G) E 34 2257 (fun _ _ => none) (S as M).2.1 (S as M).2.2 kX7_init 0 (ent as 1) [] M 0 0) : SatM l G 49 S := by
  have e1 : cL9 49 = 1 := rfl
  have e2 : cM 49 = 34 := rfl
  have e3 : cS 49 = 2257 := rfl
  refine sat_of (E := E) (ids := [68, 72]) hfl ok_49 rfl rfl oX7_init (by
    intro id h
    simp only [List.mem_cons, List.not_mem_nil, or_false] at h
    rcases h with rfl | rfl
    · exact ⟨h68, ok_68⟩
    · exact ⟨h72, ok_72⟩) ?_
  rw [e1, e2, e3]
  exact hrun
theorem t_X7_readCanal (hfl : l.stackTraces = false) (h48 : SatM l G 48 (E 48)) (h54 : SatM l G 54 (E 54)) (h55 : SatM l G 55 (E 55)) (h56 : SatM l G 56 (E 56)) (h74 : SatM l G 74 (E 74)) (hrun : ∀ as M, (S as M).1 → (lg_sl as).length ≤ 3 ∧ Run (gT G) E 0 0 (fun _ _ => none) (S as M).2.1 (S as M).2.2 kX7_readCanal 0 (ent as 3) [] M 0 0) : SatM l G 50 S := by
  have e1 : cL9 50 = 3 := rfl
  have e2 : cM 50 = 0 := rfl
  have e3 : cS 50 = 0 := rfl
  refine sat_of (E := E) (ids := [48, 54, 55, 56, 74]) hfl ok_50 rfl rfl oX7_readCanal (by
    intro id h
    simp only [List.mem_cons, List.not_mem_nil, or_false] at h
    rcases h with rfl | rfl | rfl | rfl | rfl
    · exact ⟨h48, ok_48⟩
    · exact ⟨h54, ok_54⟩
    · exact ⟨h55, ok_55⟩
    · exact ⟨h56, ok_56⟩
    · exact ⟨h74, ok_74⟩) ?_
  rw [e1, e2, e3]
  exact hrun
theorem t_X7_readFactor_1 (hfl : l.stackTraces = false) (h25 : SatM l G 25 (E 25)) (h47 : SatM l G 47 (E 47)) (h48 : SatM l G 48 (E 48)) (h54 : SatM l G 54 (E 54)) (h59 : SatM l G 59 (E 59)) (h62 : SatM l G 62 (E 62)) (h73 : SatM l G 73 (E 73)) (h74 : SatM l G 74 (E 74)) (hrun : ∀ as M, (S as M).1 → (lg_sl as).length ≤ 2 ∧ Run (gT G) E 0 0 (fun _ _ => none) (S as M).2.1 (S as M).2.2 (kX7_readFactor 1) 0 (ent as 2) [] M 0 0) : SatM l G 1051 S := by
  have e1 : cL9 1051 = 2 := rfl
  have e2 : cM 1051 = 0 := rfl
  have e3 : cS 1051 = 0 := rfl
  refine sat_of (E := E) (ids := [25, 47, 48, 54, 59, 62, 73, 74]) hfl okr_1051 rfl rfl oX7_readFactor_1 (by
    intro id h
    simp only [List.mem_cons, List.not_mem_nil, or_false] at h
    rcases h with rfl | rfl | rfl | rfl | rfl | rfl | rfl | rfl
    · exact ⟨h25, ok_25⟩
    · exact ⟨h47, ok_47⟩
    · exact ⟨h48, ok_48⟩
    · exact ⟨h54, ok_54⟩
    · exact ⟨h59, ok_59⟩
    · exact ⟨h62, ok_62⟩
    · exact ⟨h73, ok_73⟩
    · exact ⟨h74, ok_74⟩) ?_
  rw [e1, e2, e3]
  exact hrun
theorem t_X7_readFactor_2 (hfl : l.stackTraces = false) (h25 : SatM l G 25 (E 25)) (h47 : SatM l G 47 (E 47)) (h48 : SatM l G 48 (E 48)) (h54 : SatM l G 54 (E 54)) (h1059 : SatM l G 1059 (E 1059)) (h62 : SatM l G 62 (E 62)) (h73 : SatM l G 73 (E 73)) (h74 : SatM l G 74 (E 74)) (hrun : ∀ as M, (S as M).1 → (lg_sl as).length ≤ 2 ∧ Run (gT G) E 0 0 (fun _ _ => none) (S as M).2.1 (S as M).2.2 (kX7_readFactor 2) 0 (ent as 2) [] M 0 0) : SatM l G 2051 S := by
  have e1 : cL9 2051 = 2 := rfl
  have e2 : cM 2051 = 0 := rfl
  have e3 : cS 2051 = 0 := rfl
  refine sat_of (E := E) (ids := [25, 47, 48, 54, 1059, 62, 73, 74]) hfl okr_2051 rfl rfl oX7_readFactor_2 (by
    intro id h
    simp only [List.mem_cons, List.not_mem_nil, or_false] at h
    rcases h with rfl | rfl | rfl | rfl | rfl | rfl | rfl | rfl
    · exact ⟨h25, ok_25⟩
    · exact ⟨h47, ok_47⟩
    · exact ⟨h48, ok_48⟩
    · exact ⟨h54, ok_54⟩
    · exact ⟨h1059, okr_1059⟩
    · exact ⟨h62, ok_62⟩
    · exact ⟨h73, ok_73⟩
    · exact ⟨h74, ok_74⟩) ?_
  rw [e1, e2, e3]
  exact hrun
theorem t_X7_readFactor_3 (hfl : l.stackTraces = false) (h25 : SatM l G 25 (E 25)) (h47 : SatM l G 47 (E 47)) (h48 : SatM l G 48 (E 48)) (h54 : SatM l G 54 (E 54)) (h2059 : SatM l G 2059 (E 2059)) (h62 : SatM l G 62 (E 62)) (h73 : SatM l G 73 (E 73)) (h74 : SatM l G 74 (E 74)) (hrun : ∀ as M, (S as M).1 → (lg_sl as).length ≤ 2 ∧ Run (gT G) E 0 0 (fun _ _ => none) (S as M).2.1 (S as M).2.2 (kX7_readFactor 3) 0 (ent as 2) [] M 0 0) : SatM l G 3051 S := by
  have e1 : cL9 3051 = 2 := rfl
  have e2 : cM 3051 = 0 := rfl
  have e3 : cS 3051 = 0 := rfl
  refine sat_of (E := E) (ids := [25, 47, 48, 54, 2059, 62, 73, 74]) hfl okr_3051 rfl rfl oX7_readFactor_3 (by
    intro id h
    simp only [List.mem_cons, List.not_mem_nil, or_false] at h
    rcases h with rfl | rfl | rfl | rfl | rfl | rfl | rfl | rfl
    · exact ⟨h25, ok_25⟩
    · exact ⟨h47, ok_47⟩
    · exact ⟨h48, ok_48⟩
    · exact ⟨h54, ok_54⟩
    · exact ⟨h2059, okr_2059⟩
    · exact ⟨h62, ok_62⟩
    · exact ⟨h73, ok_73⟩
    · exact ⟨h74, ok_74⟩) ?_
  rw [e1, e2, e3]
  exact hrun
theorem t_X7_readFactor_4 (hfl : l.stackTraces = false) (h25 : SatM l G 25 (E 25)) (h47 : SatM l G 47 (E 47)) (h48 : SatM l G 48 (E 48)) (h54 : SatM l G 54 (E 54)) (h3059 : SatM l G 3059 (E 3059)) (h62 : SatM l G 62 (E 62)) (h73 : SatM l G 73 (E 73)) (h74 : SatM l G 74 (E 74)) (hrun : ∀ as M, (S as M).1 → (lg_sl as).length ≤ 2 ∧ Run (gT G) E 0 0 (fun _ _ => none) (S as M).2.1 (S as M).2.2 (kX7_readFactor 4) 0 (ent as 2) [] M 0 0) : SatM l G 4051 S := by
  have e1 : cL9 4051 = 2 := rfl
  have e2 : cM 4051 = 0 := rfl
  have e3 : cS 4051 = 0 := rfl
  refine sat_of (E := E) (ids := [25, 47, 48, 54, 3059, 62, 73, 74]) hfl okr_4051 rfl rfl oX7_readFactor_4 (by
    intro id h
    simp only [List.mem_cons, List.not_mem_nil, or_false] at h
    rcases h with rfl | rfl | rfl | rfl | rfl | rfl | rfl | rfl
    · exact ⟨h25, ok_25⟩
    · exact ⟨h47, ok_47⟩
    · exact ⟨h48, ok_48⟩
    · exact ⟨h54, ok_54⟩
    · exact ⟨h3059, okr_3059⟩
    · exact ⟨h62, ok_62⟩
    · exact ⟨h73, ok_73⟩
    · exact ⟨h74, ok_74⟩) ?_
  rw [e1, e2, e3]
  exact hrun
theorem t_X7_readFactor_5 (hfl : l.stackTraces = false) (h25 : SatM l G 25 (E 25)) (h47 : SatM l G 47 (E 47)) (h48 : SatM l G 48 (E 48)) (h54 : SatM l G 54 (E 54)) (h4059 : SatM l G 4059 (E 4059)) (h62 : SatM l G 62 (E 62)) (h73 : SatM l G 73 (E 73)) (h74 : SatM l G 74 (E 74)) (hrun : ∀ as M, (S as M).1 → (lg_sl as).length ≤ 2 ∧ Run (gT G) E 0 0 (fun _ _ => none) (S as M).2.1 (S as M).2.2 (kX7_readFactor 5) 0 (ent as 2) [] M 0 0) : SatM l G 5051 S := by
  have e1 : cL9 5051 = 2 := rfl
  have e2 : cM 5051 = 0 := rfl
  have e3 : cS 5051 = 0 := rfl
  refine sat_of (E := E) (ids := [25, 47, 48, 54, 4059, 62, 73, 74]) hfl okr_5051 rfl rfl oX7_readFactor_5 (by
    intro id h
    simp only [List.mem_cons, List.not_mem_nil, or_false] at h
    rcases h with rfl | rfl | rfl | rfl | rfl | rfl | rfl | rfl
    · exact ⟨h25, ok_25⟩
    · exact ⟨h47, ok_47⟩
    · exact ⟨h48, ok_48⟩
    · exact ⟨h54, ok_54⟩
    · exact ⟨h4059, okr_4059⟩
    · exact ⟨h62, ok_62⟩
    · exact ⟨h73, ok_73⟩
    · exact ⟨h74, ok_74⟩) ?_
  rw [e1, e2, e3]
  exact hrun
theorem t_X7_readFactor_6 (hfl : l.stackTraces = false) (h25 : SatM l G 25 (E 25)) (h47 : SatM l G 47 (E 47)) (h48 : SatM l G 48 (E 48)) (h54 : SatM l G 54 (E 54)) (h5059 : SatM l G 5059 (E 5059)) (h62 : SatM l G 62 (E 62)) (h73 : SatM l G 73 (E 73)) (h74 : SatM l G 74 (E 74)) (hrun : ∀ as M, (S as M).1 → (lg_sl as).length ≤ 2 ∧ Run (gT G) E 0 0 (fun _ _ => none) (S as M).2.1 (S as M).2.2 (kX7_readFactor 6) 0 (ent as 2) [] M 0 0) : SatM l G 6051 S := by
  have e1 : cL9 6051 = 2 := rfl
  have e2 : cM 6051 = 0 := rfl
  have e3 : cS 6051 = 0 := rfl
  refine sat_of (E := E) (ids := [25, 47, 48, 54, 5059, 62, 73, 74]) hfl okr_6051 rfl rfl oX7_readFactor_6 (by
    intro id h
    simp only [List.mem_cons, List.not_mem_nil, or_false] at h
    rcases h with rfl | rfl | rfl | rfl | rfl | rfl | rfl | rfl
    · exact ⟨h25, ok_25⟩
    · exact ⟨h47, ok_47⟩
    · exact ⟨h48, ok_48⟩
    · exact ⟨h54, ok_54⟩
    · exact ⟨h5059, okr_5059⟩
    · exact ⟨h62, ok_62⟩
    · exact ⟨h73, ok_73⟩
    · exact ⟨h74, ok_74⟩) ?_
  rw [e1, e2, e3]
  exact hrun
theorem t_X7_readField (hfl : l.stackTraces = false) (h48 : SatM l G 48 (E 48)) (h54 : SatM l G 54 (E 54)) (h55 : SatM l G 55 (E 55)) (h74 : SatM l G 74 (E 74)) (hrun : ∀ as M, (S as M).1 → (lg_sl as).length ≤ 3 ∧ Run (gT G) E 0 0 (fun _ _ => none) (S as M).2.1 (S as M).2.2 kX7_readField 0 (ent as 3) [] M 0 0) : SatM l G 52 S := by
  have e1 : cL9 52 = 3 := rfl
  have e2 : cM 52 = 0 := rfl
  have e3 : cS 52 = 0 := rfl
  refine sat_of (E := E) (ids := [48, 54, 55, 74]) hfl ok_52 rfl rfl oX7_readField (by
    intro id h
    simp only [List.mem_cons, List.not_mem_nil, or_false] at h
    rcases h with rfl | rfl | rfl | rfl
    · exact ⟨h48, ok_48⟩
    · exact ⟨h54, ok_54⟩
    · exact ⟨h55, ok_55⟩
    · exact ⟨h74, ok_74⟩) ?_
  rw [e1, e2, e3]
  exact hrun
theorem t_X7_readGuard (hfl : l.stackTraces = false) (h32 : SatM l G 32 (E 32)) (h48 : SatM l G 48 (E 48)) (h54 : SatM l G 54 (E 54)) (h74 : SatM l G 74 (E 74)) (hrun : ∀ as M, (S as M).1 → (lg_sl as).length ≤ 4 ∧ Run (gT G) E 0 0 (fun _ _ => none) (S as M).2.1 (S as M).2.2 kX7_readGuard 0 (ent as 4) [] M 0 0) : SatM l G 53 S := by
  have e1 : cL9 53 = 4 := rfl
  have e2 : cM 53 = 0 := rfl
  have e3 : cS 53 = 0 := rfl
  refine sat_of (E := E) (ids := [32, 48, 54, 74]) hfl ok_53 rfl rfl oX7_readGuard (by
    intro id h
    simp only [List.mem_cons, List.not_mem_nil, or_false] at h
    rcases h with rfl | rfl | rfl | rfl
    · exact ⟨h32, ok_32⟩
    · exact ⟨h48, ok_48⟩
    · exact ⟨h54, ok_54⟩
    · exact ⟨h74, ok_74⟩) ?_
  rw [e1, e2, e3]
  exact hrun
theorem t_X7_readNumber (hfl : l.stackTraces = false) (h48 : SatM l G 48 (E 48)) (h74 : SatM l G 74 (E 74)) (hrun : ∀ as M, (S as M).1 → (lg_sl as).length ≤ 4 ∧ Run (gT G) E 0 0 (fun _ _ => none) (S as M).2.1 (S as M).2.2 kX7_readNumber 0 (ent as 4) [] M 0 0) : SatM l G 54 S := by
  have e1 : cL9 54 = 4 := rfl
  have e2 : cM 54 = 0 := rfl
  have e3 : cS 54 = 0 := rfl
  refine sat_of (E := E) (ids := [48, 74]) hfl ok_54 rfl rfl oX7_readNumber (by
    intro id h
    simp only [List.mem_cons, List.not_mem_nil, or_false] at h
    rcases h with rfl | rfl
    · exact ⟨h48, ok_48⟩
    · exact ⟨h74, ok_74⟩) ?_
  rw [e1, e2, e3]
  exact hrun
theorem t_X7_readOptional (hfl : l.stackTraces = false) (h54 : SatM l G 54 (E 54)) (h73 : SatM l G 73 (E 73)) (h74 : SatM l G 74 (E 74)) (hrun : ∀ as M, (S as M).1 → (lg_sl as).length ≤ 4 ∧ Run (gT G) E 0 0 (fun _ _ => none) (S as M).2.1 (S as M).2.2 kX7_readOptional 0 (ent as 4) [] M 0 0) : SatM l G 55 S := by
  have e1 : cL9 55 = 4 := rfl
  have e2 : cM 55 = 0 := rfl
  have e3 : cS 55 = 0 := rfl
  refine sat_of (E := E) (ids := [54, 73, 74]) hfl ok_55 rfl rfl oX7_readOptional (by
    intro id h
    simp only [List.mem_cons, List.not_mem_nil, or_false] at h
    rcases h with rfl | rfl | rfl
    · exact ⟨h54, ok_54⟩
    · exact ⟨h73, ok_73⟩
    · exact ⟨h74, ok_74⟩) ?_
  rw [e1, e2, e3]
  exact hrun
theorem t_X7_readParent (hfl : l.stackTraces = false) (h48 : SatM l G 48 (E 48)) (h55 : SatM l G 55 (E 55)) (h73 : SatM l G 73 (E 73)) (hrun : ∀ as M, (S as M).1 → (lg_sl as).length ≤ 2 ∧ Run (gT G) E 0 0 (fun _ _ => none) (S as M).2.1 (S as M).2.2 kX7_readParent 0 (ent as 2) [] M 0 0) : SatM l G 56 S := by
  have e1 : cL9 56 = 2 := rfl
  have e2 : cM 56 = 0 := rfl
  have e3 : cS 56 = 0 := rfl
  refine sat_of (E := E) (ids := [48, 55, 73]) hfl ok_56 rfl rfl oX7_readParent (by
    intro id h
    simp only [List.mem_cons, List.not_mem_nil, or_false] at h
    rcases h with rfl | rfl | rfl
    · exact ⟨h48, ok_48⟩
    · exact ⟨h55, ok_55⟩
    · exact ⟨h73, ok_73⟩) ?_
  rw [e1, e2, e3]
  exact hrun
theorem t_X7_readSetup (hfl : l.stackTraces = false) (h58 : SatM l G 58 (E 58)) (h62 : SatM l G 62 (E 62)) (h67 : SatM l G 67 (E 67)) (h71 : SatM l G 71 (E 71)) (hrun : ∀ as M, (S as M).1 → (lg_sl as).length ≤ 3 ∧ Run (gT G) E 0 0 (fun _ _ => none) (S as M).2.1 (S as M).2.2 kX7_readSetup 0 (ent as 3) [] M 0 0) : SatM l G 57 S := by
  have e1 : cL9 57 = 3 := rfl
  have e2 : cM 57 = 0 := rfl
  have e3 : cS 57 = 0 := rfl
  refine sat_of (E := E) (ids := [58, 62, 67, 71]) hfl ok_57 rfl rfl oX7_readSetup (by
    intro id h
    simp only [List.mem_cons, List.not_mem_nil, or_false] at h
    rcases h with rfl | rfl | rfl | rfl
    · exact ⟨h58, ok_58⟩
    · exact ⟨h62, ok_62⟩
    · exact ⟨h67, ok_67⟩
    · exact ⟨h71, ok_71⟩) ?_
  rw [e1, e2, e3]
  exact hrun
theorem t_X7_readStatement (hfl : l.stackTraces = false) (h26 : SatM l G 26 (E 26)) (h48 : SatM l G 48 (E 48)) (h50 : SatM l G 50 (E 50)) (h52 : SatM l G 52 (E 52)) (h53 : SatM l G 53 (E 53)) (h61 : SatM l G 61 (E 61)) (h73 : SatM l G 73 (E 73)) (h74 : SatM l G 74 (E 74)) (h6059 : SatM l G 6059 (E 6059)) (hrun : ∀ as M, (S as M).1 → (lg_sl as).length ≤ 1 ∧ Run (gT G) E 0 0 (fun _ _ => none) (S as M).2.1 (S as M).2.2 kX7_readStatement 0 (ent as 1) [] M 0 0) : SatM l G 58 S := by
  have e1 : cL9 58 = 1 := rfl
  have e2 : cM 58 = 0 := rfl
  have e3 : cS 58 = 0 := rfl
  refine sat_of (E := E) (ids := [26, 48, 50, 52, 53, 61, 73, 74, 6059]) hfl ok_58 rfl rfl oX7_readStatement (by
    intro id h
    simp only [List.mem_cons, List.not_mem_nil, or_false] at h
    rcases h with rfl | rfl | rfl | rfl | rfl | rfl | rfl | rfl | rfl
    · exact ⟨h26, ok_26⟩
    · exact ⟨h48, ok_48⟩
    · exact ⟨h50, ok_50⟩
    · exact ⟨h52, ok_52⟩
    · exact ⟨h53, ok_53⟩
    · exact ⟨h61, ok_61⟩
    · exact ⟨h73, ok_73⟩
    · exact ⟨h74, ok_74⟩
    · exact ⟨h6059, okr_6059⟩) ?_
  rw [e1, e2, e3]
  exact hrun
theorem t_X7_readSum_1 (hfl : l.stackTraces = false) (h25 : SatM l G 25 (E 25)) (h1060 : SatM l G 1060 (E 1060)) (h74 : SatM l G 74 (E 74)) (hrun : ∀ as M, (S as M).1 → (lg_sl as).length ≤ 4 ∧ Run (gT G) E 0 0 (fun _ _ => none) (S as M).2.1 (S as M).2.2 (kX7_readSum 1) 0 (ent as 4) [] M 0 0) : SatM l G 1059 S := by
  have e1 : cL9 1059 = 4 := rfl
  have e2 : cM 1059 = 0 := rfl
  have e3 : cS 1059 = 0 := rfl
  refine sat_of (E := E) (ids := [25, 1060, 74]) hfl okr_1059 rfl rfl oX7_readSum_1 (by
    intro id h
    simp only [List.mem_cons, List.not_mem_nil, or_false] at h
    rcases h with rfl | rfl | rfl
    · exact ⟨h25, ok_25⟩
    · exact ⟨h1060, okr_1060⟩
    · exact ⟨h74, ok_74⟩) ?_
  rw [e1, e2, e3]
  exact hrun
theorem t_X7_readSum_2 (hfl : l.stackTraces = false) (h25 : SatM l G 25 (E 25)) (h2060 : SatM l G 2060 (E 2060)) (h74 : SatM l G 74 (E 74)) (hrun : ∀ as M, (S as M).1 → (lg_sl as).length ≤ 4 ∧ Run (gT G) E 0 0 (fun _ _ => none) (S as M).2.1 (S as M).2.2 (kX7_readSum 2) 0 (ent as 4) [] M 0 0) : SatM l G 2059 S := by
  have e1 : cL9 2059 = 4 := rfl
  have e2 : cM 2059 = 0 := rfl
  have e3 : cS 2059 = 0 := rfl
  refine sat_of (E := E) (ids := [25, 2060, 74]) hfl okr_2059 rfl rfl oX7_readSum_2 (by
    intro id h
    simp only [List.mem_cons, List.not_mem_nil, or_false] at h
    rcases h with rfl | rfl | rfl
    · exact ⟨h25, ok_25⟩
    · exact ⟨h2060, okr_2060⟩
    · exact ⟨h74, ok_74⟩) ?_
  rw [e1, e2, e3]
  exact hrun
theorem t_X7_readSum_3 (hfl : l.stackTraces = false) (h25 : SatM l G 25 (E 25)) (h3060 : SatM l G 3060 (E 3060)) (h74 : SatM l G 74 (E 74)) (hrun : ∀ as M, (S as M).1 → (lg_sl as).length ≤ 4 ∧ Run (gT G) E 0 0 (fun _ _ => none) (S as M).2.1 (S as M).2.2 (kX7_readSum 3) 0 (ent as 4) [] M 0 0) : SatM l G 3059 S := by
  have e1 : cL9 3059 = 4 := rfl
  have e2 : cM 3059 = 0 := rfl
  have e3 : cS 3059 = 0 := rfl
  refine sat_of (E := E) (ids := [25, 3060, 74]) hfl okr_3059 rfl rfl oX7_readSum_3 (by
    intro id h
    simp only [List.mem_cons, List.not_mem_nil, or_false] at h
    rcases h with rfl | rfl | rfl
    · exact ⟨h25, ok_25⟩
    · exact ⟨h3060, okr_3060⟩
    · exact ⟨h74, ok_74⟩) ?_
  rw [e1, e2, e3]
  exact hrun
theorem t_X7_readSum_4 (hfl : l.stackTraces = false) (h25 : SatM l G 25 (E 25)) (h4060 : SatM l G 4060 (E 4060)) (h74 : SatM l G 74 (E 74)) (hrun : ∀ as M, (S as M).1 → (lg_sl as).length ≤ 4 ∧ Run (gT G) E 0 0 (fun _ _ => none) (S as M).2.1 (S as M).2.2 (kX7_readSum 4) 0 (ent as 4) [] M 0 0) : SatM l G 4059 S := by
  have e1 : cL9 4059 = 4 := rfl
  have e2 : cM 4059 = 0 := rfl
  have e3 : cS 4059 = 0 := rfl
  refine sat_of (E := E) (ids := [25, 4060, 74]) hfl okr_4059 rfl rfl oX7_readSum_4 (by
    intro id h
    simp only [List.mem_cons, List.not_mem_nil, or_false] at h
    rcases h with rfl | rfl | rfl
    · exact ⟨h25, ok_25⟩
    · exact ⟨h4060, okr_4060⟩
    · exact ⟨h74, ok_74⟩) ?_
  rw [e1, e2, e3]
  exact hrun
theorem t_X7_readSum_5 (hfl : l.stackTraces = false) (h25 : SatM l G 25 (E 25)) (h5060 : SatM l G 5060 (E 5060)) (h74 : SatM l G 74 (E 74)) (hrun : ∀ as M, (S as M).1 → (lg_sl as).length ≤ 4 ∧ Run (gT G) E 0 0 (fun _ _ => none) (S as M).2.1 (S as M).2.2 (kX7_readSum 5) 0 (ent as 4) [] M 0 0) : SatM l G 5059 S := by
  have e1 : cL9 5059 = 4 := rfl
  have e2 : cM 5059 = 0 := rfl
  have e3 : cS 5059 = 0 := rfl
  refine sat_of (E := E) (ids := [25, 5060, 74]) hfl okr_5059 rfl rfl oX7_readSum_5 (by
    intro id h
    simp only [List.mem_cons, List.not_mem_nil, or_false] at h
    rcases h with rfl | rfl | rfl
    · exact ⟨h25, ok_25⟩
    · exact ⟨h5060, okr_5060⟩
    · exact ⟨h74, ok_74⟩) ?_
  rw [e1, e2, e3]
  exact hrun
theorem t_X7_readSum_6 (hfl : l.stackTraces = false) (h25 : SatM l G 25 (E 25)) (h6060 : SatM l G 6060 (E 6060)) (h74 : SatM l G 74 (E 74)) (hrun : ∀ as M, (S as M).1 → (lg_sl as).length ≤ 4 ∧ Run (gT G) E 0 0 (fun _ _ => none) (S as M).2.1 (S as M).2.2 (kX7_readSum 6) 0 (ent as 4) [] M 0 0) : SatM l G 6059 S := by
  have e1 : cL9 6059 = 4 := rfl
  have e2 : cM 6059 = 0 := rfl
  have e3 : cS 6059 = 0 := rfl
  refine sat_of (E := E) (ids := [25, 6060, 74]) hfl okr_6059 rfl rfl oX7_readSum_6 (by
    intro id h
    simp only [List.mem_cons, List.not_mem_nil, or_false] at h
    rcases h with rfl | rfl | rfl
    · exact ⟨h25, ok_25⟩
    · exact ⟨h6060, okr_6060⟩
    · exact ⟨h74, ok_74⟩) ?_
  rw [e1, e2, e3]
  exact hrun
theorem t_X7_readTerm_1 (hfl : l.stackTraces = false) (h25 : SatM l G 25 (E 25)) (h1051 : SatM l G 1051 (E 1051)) (h74 : SatM l G 74 (E 74)) (hrun : ∀ as M, (S as M).1 → (lg_sl as).length ≤ 4 ∧ Run (gT G) E 0 0 (fun _ _ => none) (S as M).2.1 (S as M).2.2 (kX7_readTerm 1) 0 (ent as 4) [] M 0 0) : SatM l G 1060 S := by
  have e1 : cL9 1060 = 4 := rfl
  have e2 : cM 1060 = 0 := rfl
  have e3 : cS 1060 = 0 := rfl
  refine sat_of (E := E) (ids := [25, 1051, 74]) hfl okr_1060 rfl rfl oX7_readTerm_1 (by
    intro id h
    simp only [List.mem_cons, List.not_mem_nil, or_false] at h
    rcases h with rfl | rfl | rfl
    · exact ⟨h25, ok_25⟩
    · exact ⟨h1051, okr_1051⟩
    · exact ⟨h74, ok_74⟩) ?_
  rw [e1, e2, e3]
  exact hrun
theorem t_X7_readTerm_2 (hfl : l.stackTraces = false) (h25 : SatM l G 25 (E 25)) (h2051 : SatM l G 2051 (E 2051)) (h74 : SatM l G 74 (E 74)) (hrun : ∀ as M, (S as M).1 → (lg_sl as).length ≤ 4 ∧ Run (gT G) E 0 0 (fun _ _ => none) (S as M).2.1 (S as M).2.2 (kX7_readTerm 2) 0 (ent as 4) [] M 0 0) : SatM l G 2060 S := by
  have e1 : cL9 2060 = 4 := rfl
  have e2 : cM 2060 = 0 := rfl
  have e3 : cS 2060 = 0 := rfl
  refine sat_of (E := E) (ids := [25, 2051, 74]) hfl okr_2060 rfl rfl oX7_readTerm_2 (by
    intro id h
    simp only [List.mem_cons, List.not_mem_nil, or_false] at h
    rcases h with rfl | rfl | rfl
    · exact ⟨h25, ok_25⟩
    · exact ⟨h2051, okr_2051⟩
    · exact ⟨h74, ok_74⟩) ?_
  rw [e1, e2, e3]
  exact hrun
theorem t_X7_readTerm_3 (hfl : l.stackTraces = false) (h25 : SatM l G 25 (E 25)) (h3051 : SatM l G 3051 (E 3051)) (h74 : SatM l G 74 (E 74)) (hrun : ∀ as M, (S as M).1 → (lg_sl as).length ≤ 4 ∧ Run (gT G) E 0 0 (fun _ _ => none) (S as M).2.1 (S as M).2.2 (kX7_readTerm 3) 0 (ent as 4) [] M 0 0) : SatM l G 3060 S := by
  have e1 : cL9 3060 = 4 := rfl
  have e2 : cM 3060 = 0 := rfl
  have e3 : cS 3060 = 0 := rfl
  refine sat_of (E := E) (ids := [25, 3051, 74]) hfl okr_3060 rfl rfl oX7_readTerm_3 (by
    intro id h
    simp only [List.mem_cons, List.not_mem_nil, or_false] at h
    rcases h with rfl | rfl | rfl
    · exact ⟨h25, ok_25⟩
    · exact ⟨h3051, okr_3051⟩
    · exact ⟨h74, ok_74⟩) ?_
  rw [e1, e2, e3]
  exact hrun
theorem t_X7_readTerm_4 (hfl : l.stackTraces = false) (h25 : SatM l G 25 (E 25)) (h4051 : SatM l G 4051 (E 4051)) (h74 : SatM l G 74 (E 74)) (hrun : ∀ as M, (S as M).1 → (lg_sl as).length ≤ 4 ∧ Run (gT G) E 0 0 (fun _ _ => none) (S as M).2.1 (S as M).2.2 (kX7_readTerm 4) 0 (ent as 4) [] M 0 0) : SatM l G 4060 S := by
  have e1 : cL9 4060 = 4 := rfl
  have e2 : cM 4060 = 0 := rfl
  have e3 : cS 4060 = 0 := rfl
  refine sat_of (E := E) (ids := [25, 4051, 74]) hfl okr_4060 rfl rfl oX7_readTerm_4 (by
    intro id h
    simp only [List.mem_cons, List.not_mem_nil, or_false] at h
    rcases h with rfl | rfl | rfl
    · exact ⟨h25, ok_25⟩
    · exact ⟨h4051, okr_4051⟩
    · exact ⟨h74, ok_74⟩) ?_
  rw [e1, e2, e3]
  exact hrun
theorem t_X7_readTerm_5 (hfl : l.stackTraces = false) (h25 : SatM l G 25 (E 25)) (h5051 : SatM l G 5051 (E 5051)) (h74 : SatM l G 74 (E 74)) (hrun : ∀ as M, (S as M).1 → (lg_sl as).length ≤ 4 ∧ Run (gT G) E 0 0 (fun _ _ => none) (S as M).2.1 (S as M).2.2 (kX7_readTerm 5) 0 (ent as 4) [] M 0 0) : SatM l G 5060 S := by
  have e1 : cL9 5060 = 4 := rfl
  have e2 : cM 5060 = 0 := rfl
  have e3 : cS 5060 = 0 := rfl
  refine sat_of (E := E) (ids := [25, 5051, 74]) hfl okr_5060 rfl rfl oX7_readTerm_5 (by
    intro id h
    simp only [List.mem_cons, List.not_mem_nil, or_false] at h
    rcases h with rfl | rfl | rfl
    · exact ⟨h25, ok_25⟩
    · exact ⟨h5051, okr_5051⟩
    · exact ⟨h74, ok_74⟩) ?_
  rw [e1, e2, e3]
  exact hrun
theorem t_X7_readTerm_6 (hfl : l.stackTraces = false) (h25 : SatM l G 25 (E 25)) (h6051 : SatM l G 6051 (E 6051)) (h74 : SatM l G 74 (E 74)) (hrun : ∀ as M, (S as M).1 → (lg_sl as).length ≤ 4 ∧ Run (gT G) E 0 0 (fun _ _ => none) (S as M).2.1 (S as M).2.2 (kX7_readTerm 6) 0 (ent as 4) [] M 0 0) : SatM l G 6060 S := by
  have e1 : cL9 6060 = 4 := rfl
  have e2 : cM 6060 = 0 := rfl
  have e3 : cS 6060 = 0 := rfl
  refine sat_of (E := E) (ids := [25, 6051, 74]) hfl okr_6060 rfl rfl oX7_readTerm_6 (by
    intro id h
    simp only [List.mem_cons, List.not_mem_nil, or_false] at h
    rcases h with rfl | rfl | rfl
    · exact ⟨h25, ok_25⟩
    · exact ⟨h6051, okr_6051⟩
    · exact ⟨h74, ok_74⟩) ?_
  rw [e1, e2, e3]
  exact hrun
theorem t_X7_readTurn (hfl : l.stackTraces = false) (h48 : SatM l G 48 (E 48)) (h54 : SatM l G 54 (E 54)) (h74 : SatM l G 74 (E 74)) (hrun : ∀ as M, (S as M).1 → (lg_sl as).length ≤ 3 ∧ Run (gT G) E 0 0 (fun _ _ => none) (S as M).2.1 (S as M).2.2 kX7_readTurn 0 (ent as 3) [] M 0 0) : SatM l G 61 S := by
  have e1 : cL9 61 = 3 := rfl
  have e2 : cM 61 = 0 := rfl
  have e3 : cS 61 = 0 := rfl
  refine sat_of (E := E) (ids := [48, 54, 74]) hfl ok_61 rfl rfl oX7_readTurn (by
    intro id h
    simp only [List.mem_cons, List.not_mem_nil, or_false] at h
    rcases h with rfl | rfl | rfl
    · exact ⟨h48, ok_48⟩
    · exact ⟨h54, ok_54⟩
    · exact ⟨h74, ok_74⟩) ?_
  rw [e1, e2, e3]
  exact hrun
theorem t_X7_skipSign (hfl : l.stackTraces = false) (h48 : SatM l G 48 (E 48)) (h74 : SatM l G 74 (E 74)) (hrun : ∀ as M, (S as M).1 → (lg_sl as).length ≤ 2 ∧ Run (gT G) E 0 0 (fun _ _ => none) (S as M).2.1 (S as M).2.2 kX7_skipSign 0 (ent as 2) [] M 0 0) : SatM l G 62 S := by
  have e1 : cL9 62 = 2 := rfl
  have e2 : cM 62 = 0 := rfl
  have e3 : cS 62 = 0 := rfl
  refine sat_of (E := E) (ids := [48, 74]) hfl ok_62 rfl rfl oX7_skipSign (by
    intro id h
    simp only [List.mem_cons, List.not_mem_nil, or_false] at h
    rcases h with rfl | rfl
    · exact ⟨h48, ok_48⟩
    · exact ⟨h74, ok_74⟩) ?_
  rw [e1, e2, e3]
  exact hrun
theorem t_X8_closeForcedGates (hfl : l.stackTraces = false) (h41 : SatM l G 41 (E 41)) (hrun : ∀ as M, (S as M).1 → (lg_sl as).length ≤ 3 ∧ Run (gT G) E 0 0 (fun _ _ => none) (S as M).2.1 (S as M).2.2 kX8_closeForcedGates 0 (ent as 3) [] M 0 0) : SatM l G 63 S := by
  have e1 : cL9 63 = 3 := rfl
  have e2 : cM 63 = 0 := rfl
  have e3 : cS 63 = 0 := rfl
  refine sat_of (E := E) (ids := [41]) hfl ok_63 rfl rfl oX8_closeForcedGates (by
    intro id h
    simp only [List.mem_cons, List.not_mem_nil, or_false] at h
    subst h
    exact ⟨h41, ok_41⟩) ?_
  rw [e1, e2, e3]
  exact hrun
theorem t_X8_copyFrom (hfl : l.stackTraces = false) (h2 : SatM l G 2 (E 2)) (h13 : SatM l G 13 (E 13)) (h28 : SatM l G 28 (E 28)) (h33 : SatM l G 33 (E 33)) (h40 : SatM l G 40 (E 40)) (h43 : SatM l G 43 (E 43)) (hrun : ∀ as M, (S as M).1 → (lg_sl as).length ≤ 2 ∧ Run (gT G) E 0 0 (fun _ _ => none) (S as M).2.1 (S as M).2.2 kX8_copyFrom 0 (ent as 2) [] M 0 0) : SatM l G 64 S := by
  have e1 : cL9 64 = 2 := rfl
  have e2 : cM 64 = 0 := rfl
  have e3 : cS 64 = 0 := rfl
  refine sat_of (E := E) (ids := [2, 13, 28, 33, 40, 43]) hfl ok_64 rfl rfl oX8_copyFrom (by
    intro id h
    simp only [List.mem_cons, List.not_mem_nil, or_false] at h
    rcases h with rfl | rfl | rfl | rfl | rfl | rfl
    · exact ⟨h2, ok_2⟩
    · exact ⟨h13, ok_13⟩
    · exact ⟨h28, ok_28⟩
    · exact ⟨h33, ok_33⟩
    · exact ⟨h40, ok_40⟩
    · exact ⟨h43, ok_43⟩) ?_
  rw [e1, e2, e3]
  exact hrun
theorem t_X8_divide (hfl : l.stackTraces = false) (h3 : SatM l G 3 (E 3)) (h5 : SatM l G 5 (E 5)) (h9 : SatM l G 9 (E 9)) (h66 : SatM l G 66 (E 66)) (hrun : ∀ as M, (S as M).1 → (lg_sl as).length ≤ 8 ∧ Run (gT G) E 0 0 (fun _ _ => none) (S as M).2.1 (S as M).2.2 kX8_divide 0 (ent as 8) [] M 0 0) : SatM l G 65 S := by
  have e1 : cL9 65 = 8 := rfl
  have e2 : cM 65 = 0 := rfl
  have e3 : cS 65 = 0 := rfl
  refine sat_of (E := E) (ids := [3, 5, 9, 66]) hfl ok_65 rfl rfl oX8_divide (by
    intro id h
    simp only [List.mem_cons, List.not_mem_nil, or_false] at h
    rcases h with rfl | rfl | rfl | rfl
    · exact ⟨h3, ok_3⟩
    · exact ⟨h5, ok_5⟩
    · exact ⟨h9, ok_9⟩
    · exact ⟨h66, ok_66⟩) ?_
  rw [e1, e2, e3]
  exact hrun
theorem t_X8_enter (hfl : l.stackTraces = false) (h10 : SatM l G 10 (E 10)) (hrun : ∀ as M, (S as M).1 → (lg_sl as).length ≤ 5 ∧ Run (gT G) E 0 0 (fun _ _ => none) (S as M).2.1 (S as M).2.2 kX8_enter 0 (ent as 5) [] M 0 0) : SatM l G 66 S := by
  have e1 : cL9 66 = 5 := rfl
  have e2 : cM 66 = 0 := rfl
  have e3 : cS 66 = 0 := rfl
  refine sat_of (E := E) (ids := [10]) hfl ok_66 rfl rfl oX8_enter (by
    intro id h
    simp only [List.mem_cons, List.not_mem_nil, or_false] at h
    subst h
    exact ⟨h10, ok_10⟩) ?_
  rw [e1, e2, e3]
  exact hrun
theorem t_X8_forgetSetup (hfl : l.stackTraces = false) (h25 : SatM l G 25 (E 25)) (h26 : SatM l G 26 (E 26)) (hrun : ∀ as M, (S as M).1 → (lg_sl as).length ≤ 1 ∧ Run (gT G) E 0 0 (fun _ _ => none) (S as M).2.1 (S as M).2.2 kX8_forgetSetup 0 (ent as 1) [] M 0 0) : SatM l G 67 S := by
  have e1 : cL9 67 = 1 := rfl
  have e2 : cM 67 = 0 := rfl
  have e3 : cS 67 = 0 := rfl
  refine sat_of (E := E) (ids := [25, 26]) hfl ok_67 rfl rfl oX8_forgetSetup (by
    intro id h
    simp only [List.mem_cons, List.not_mem_nil, or_false] at h
    rcases h with rfl | rfl
    · exact ⟨h25, ok_25⟩
    · exact ⟨h26, ok_26⟩) ?_
  rw [e1, e2, e3]
  exact hrun
theorem t_X8_init (hfl : l.stackTraces = false) (h4 : SatM l G 4 (E 4)) (h18 : SatM l G 18 (E 18)) (h30 : SatM l G 30 (E 30)) (h34 : SatM l G 34 (E 34)) (h42 : SatM l G 42 (E 42)) (h45 : SatM l G 45 (E 45)) (hrun : ∀ as M, (S as M).1 → (lg_sl as).length ≤ 1 ∧ Run (gT G) E 31 1343 (fun _ _ => none) (S as M).2.1 (S as M).2.2 kX8_init 0 (ent as 1) [] M 0 0) : SatM l G 68 S := by
  have e1 : cL9 68 = 1 := rfl
  have e2 : cM 68 = 31 := rfl
  have e3 : cS 68 = 1343 := rfl
  refine sat_of (E := E) (ids := [4, 18, 30, 34, 42, 45]) hfl ok_68 rfl rfl oX8_init (by
    intro id h
    simp only [List.mem_cons, List.not_mem_nil, or_false] at h
    rcases h with rfl | rfl | rfl | rfl | rfl | rfl
    · exact ⟨h4, ok_4⟩
    · exact ⟨h18, ok_18⟩
    · exact ⟨h30, ok_30⟩
    · exact ⟨h34, ok_34⟩
    · exact ⟨h42, ok_42⟩
    · exact ⟨h45, ok_45⟩) ?_
  rw [e1, e2, e3]
  exact hrun
theorem t_X8_passHour (hfl : l.stackTraces = false) (h6 : SatM l G 6 (E 6)) (h19 : SatM l G 19 (E 19)) (h21 : SatM l G 21 (E 21)) (h22 : SatM l G 22 (E 22)) (h23 : SatM l G 23 (E 23)) (h29 : SatM l G 29 (E 29)) (h36 : SatM l G 36 (E 36)) (h46 : SatM l G 46 (E 46)) (h63 : SatM l G 63 (E 63)) (h65 : SatM l G 65 (E 65)) (h66 : SatM l G 66 (E 66)) (hrun : ∀ as M, (S as M).1 → (lg_sl as).length ≤ 7 ∧ Run (gT G) E 0 0 (fun _ _ => none) (S as M).2.1 (S as M).2.2 kX8_passHour 0 (ent as 7) [] M 0 0) : SatM l G 69 S := by
  have e1 : cL9 69 = 7 := rfl
  have e2 : cM 69 = 0 := rfl
  have e3 : cS 69 = 0 := rfl
  refine sat_of (E := E) (ids := [6, 19, 21, 22, 23, 29, 36, 46, 63, 65, 66]) hfl ok_69 rfl rfl oX8_passHour (by
    intro id h
    simp only [List.mem_cons, List.not_mem_nil, or_false] at h
    rcases h with rfl | rfl | rfl | rfl | rfl | rfl | rfl | rfl | rfl | rfl | rfl
    · exact ⟨h6, ok_6⟩
    · exact ⟨h19, ok_19⟩
    · exact ⟨h21, ok_21⟩
    · exact ⟨h22, ok_22⟩
    · exact ⟨h23, ok_23⟩
    · exact ⟨h29, ok_29⟩
    · exact ⟨h36, ok_36⟩
    · exact ⟨h46, ok_46⟩
    · exact ⟨h63, ok_63⟩
    · exact ⟨h65, ok_65⟩
    · exact ⟨h66, ok_66⟩) ?_
  rw [e1, e2, e3]
  exact hrun
theorem t_X9_addWord (hfl : l.stackTraces = false)  (hrun : ∀ as M, (S as M).1 → (lg_sl as).length ≤ 3 ∧ Run (gT G) E 0 0 (fun _ _ => none) (S as M).2.1 (S as M).2.2 kX9_addWord 0 (ent as 3) [] M 0 0) : SatM l G 70 S := by
  have e1 : cL9 70 = 3 := rfl
  have e2 : cM 70 = 0 := rfl
  have e3 : cS 70 = 0 := rfl
  refine sat_of (E := E) (ids := []) hfl ok_70 rfl rfl oX9_addWord (fun _ h => by cases h) ?_
  rw [e1, e2, e3]
  exact hrun
theorem t_X9_begin (hfl : l.stackTraces = false) (h74 : SatM l G 74 (E 74)) (hrun : ∀ as M, (S as M).1 → (lg_sl as).length ≤ 2 ∧ Run (gT G) E 0 0 (fun _ _ => none) (S as M).2.1 (S as M).2.2 kX9_begin 0 (ent as 2) [] M 0 0) : SatM l G 71 S := by
  have e1 : cL9 71 = 2 := rfl
  have e2 : cM 71 = 0 := rfl
  have e3 : cS 71 = 0 := rfl
  refine sat_of (E := E) (ids := [74]) hfl ok_71 rfl rfl oX9_begin (by
    intro id h
    simp only [List.mem_cons, List.not_mem_nil, or_false] at h
    subst h
    exact ⟨h74, ok_74⟩) ?_
  rw [e1, e2, e3]
  exact hrun
theorem t_X9_init (hfl : l.stackTraces = false)  (hrun : ∀ as M, (S as M).1 → (lg_sl as).length ≤ 1 ∧ Run (gT G) E 1 900 (fun _ _ => none) (S as M).2.1 (S as M).2.2 kX9_init 0 (ent as 1) [] M 0 0) : SatM l G 72 S := by
  have e1 : cL9 72 = 1 := rfl
  have e2 : cM 72 = 1 := rfl
  have e3 : cS 72 = 900 := rfl
  refine sat_of (E := E) (ids := []) hfl ok_72 rfl rfl oX9_init (fun _ h => by cases h) ?_
  rw [e1, e2, e3]
  exact hrun
theorem t_X9_isWord (hfl : l.stackTraces = false) (h900 : SatM l G 900 (E 900)) (h901 : SatM l G 901 (E 901)) (hrun : ∀ as M, (S as M).1 → (lg_sl as).length ≤ 3 ∧ Run (gT G) E 0 0 (fun _ _ => none) (S as M).2.1 (S as M).2.2 kX9_isWord 0 (ent as 3) [] M 0 0) : SatM l G 73 S := by
  have e1 : cL9 73 = 3 := rfl
  have e2 : cM 73 = 0 := rfl
  have e3 : cS 73 = 0 := rfl
  refine sat_of (E := E) (ids := [900, 901]) hfl ok_73 rfl rfl oX9_isWord (by
    intro id h
    simp only [List.mem_cons, List.not_mem_nil, or_false] at h
    rcases h with rfl | rfl
    · exact ⟨h900, ok_900⟩
    · exact ⟨h901, ok_901⟩) ?_
  rw [e1, e2, e3]
  exact hrun
theorem t_X9_next (hfl : l.stackTraces = false)  (hrun : ∀ as M, (S as M).1 → (lg_sl as).length ≤ 1 ∧ Run (gT G) E 0 0 (fun _ _ => none) (S as M).2.1 (S as M).2.2 kX9_next 0 (ent as 1) [] M 0 0) : SatM l G 74 S := by
  have e1 : cL9 74 = 1 := rfl
  have e2 : cM 74 = 0 := rfl
  have e3 : cS 74 = 0 := rfl
  refine sat_of (E := E) (ids := []) hfl ok_74 rfl rfl oX9_next (fun _ h => by cases h) ?_
  rw [e1, e2, e3]
  exact hrun
theorem t_X10_append (hfl : l.stackTraces = false) (h70 : SatM l G 70 (E 70)) (hrun : ∀ as M, (S as M).1 → (lg_sl as).length ≤ 7 ∧ Run (gT G) E 0 0 (fun _ _ => none) (S as M).2.1 (S as M).2.2 kX10_append 0 (ent as 7) [] M 0 0) : SatM l G 75 S := by
  have e1 : cL9 75 = 7 := rfl
  have e2 : cM 75 = 0 := rfl
  have e3 : cS 75 = 0 := rfl
  refine sat_of (E := E) (ids := [70]) hfl ok_75 rfl rfl oX10_append (by
    intro id h
    simp only [List.mem_cons, List.not_mem_nil, or_false] at h
    subst h
    exact ⟨h70, ok_70⟩) ?_
  rw [e1, e2, e3]
  exact hrun
theorem t_X10_arrived (hfl : l.stackTraces = false) (h97 : SatM l G 97 (E 97)) (hrun : ∀ as M, (S as M).1 → (lg_sl as).length ≤ 2 ∧ Run (gT G) E 1 6 (fun _ _ => none) (S as M).2.1 (S as M).2.2 kX10_arrived 0 (ent as 2) [] M 0 0) : SatM l G 76 S := by
  have e1 : cL9 76 = 2 := rfl
  have e2 : cM 76 = 1 := rfl
  have e3 : cS 76 = 6 := rfl
  refine sat_of (E := E) (ids := [97]) hfl ok_76 rfl rfl oX10_arrived (by
    intro id h
    simp only [List.mem_cons, List.not_mem_nil, or_false] at h
    subst h
    exact ⟨h97, ok_97⟩) ?_
  rw [e1, e2, e3]
  exact hrun
theorem t_X10_canalCount (hfl : l.stackTraces = false)  (hrun : ∀ as M, (S as M).1 → (lg_sl as).length ≤ 1 ∧ Run (gT G) E 0 0 (fun _ _ => none) (S as M).2.1 (S as M).2.2 kX10_canalCount 0 (ent as 1) [] M 0 0) : SatM l G 77 S := by
  have e1 : cL9 77 = 1 := rfl
  have e2 : cM 77 = 0 := rfl
  have e3 : cS 77 = 0 := rfl
  refine sat_of (E := E) (ids := []) hfl ok_77 rfl rfl oX10_canalCount (fun _ h => by cases h) ?_
  rw [e1, e2, e3]
  exact hrun
theorem t_X10_checksum (hfl : l.stackTraces = false) (h0 : SatM l G 0 (E 0)) (h35 : SatM l G 35 (E 35)) (hrun : ∀ as M, (S as M).1 → (lg_sl as).length ≤ 6 ∧ Run (gT G) E 0 0 (fun _ _ => none) (S as M).2.1 (S as M).2.2 kX10_checksum 0 (ent as 6) [] M 0 0) : SatM l G 78 S := by
  have e1 : cL9 78 = 6 := rfl
  have e2 : cM 78 = 0 := rfl
  have e3 : cS 78 = 0 := rfl
  refine sat_of (E := E) (ids := [0, 35]) hfl ok_78 rfl rfl oX10_checksum (by
    intro id h
    simp only [List.mem_cons, List.not_mem_nil, or_false] at h
    rcases h with rfl | rfl
    · exact ⟨h0, ok_0⟩
    · exact ⟨h35, ok_35⟩) ?_
  rw [e1, e2, e3]
  exact hrun
theorem t_X10_clock (hfl : l.stackTraces = false)  (hrun : ∀ as M, (S as M).1 → (lg_sl as).length ≤ 1 ∧ Run (gT G) E 0 0 (fun _ _ => none) (S as M).2.1 (S as M).2.2 kX10_clock 0 (ent as 1) [] M 0 0) : SatM l G 79 S := by
  have e1 : cL9 79 = 1 := rfl
  have e2 : cM 79 = 0 := rfl
  have e3 : cS 79 = 0 := rfl
  refine sat_of (E := E) (ids := []) hfl ok_79 rfl rfl oX10_clock (fun _ h => by cases h) ?_
  rw [e1, e2, e3]
  exact hrun
theorem t_X10_copyRow (hfl : l.stackTraces = false)  (hrun : ∀ as M, (S as M).1 → (lg_sl as).length ≤ 2 ∧ Run (gT G) E 0 0 (fun _ _ => none) (S as M).2.1 (S as M).2.2 kX10_copyRow 0 (ent as 2) [] M 0 0) : SatM l G 80 S := by
  have e1 : cL9 80 = 2 := rfl
  have e2 : cM 80 = 0 := rfl
  have e3 : cS 80 = 0 := rfl
  refine sat_of (E := E) (ids := []) hfl ok_80 rfl rfl oX10_copyRow (fun _ h => by cases h) ?_
  rw [e1, e2, e3]
  exact hrun
theorem t_X10_cycleLength (hfl : l.stackTraces = false)  (hrun : ∀ as M, (S as M).1 → (lg_sl as).length ≤ 1 ∧ Run (gT G) E 0 0 (fun _ _ => none) (S as M).2.1 (S as M).2.2 kX10_cycleLength 0 (ent as 1) [] M 0 0) : SatM l G 81 S := by
  have e1 : cL9 81 = 1 := rfl
  have e2 : cM 81 = 0 := rfl
  have e3 : cS 81 = 0 := rfl
  refine sat_of (E := E) (ids := []) hfl ok_81 rfl rfl oX10_cycleLength (fun _ h => by cases h) ?_
  rw [e1, e2, e3]
  exact hrun
theorem t_X10_errorOffset (hfl : l.stackTraces = false)  (hrun : ∀ as M, (S as M).1 → (lg_sl as).length ≤ 1 ∧ Run (gT G) E 0 0 (fun _ _ => none) (S as M).2.1 (S as M).2.2 kX10_errorOffset 0 (ent as 1) [] M 0 0) : SatM l G 82 S := by
  have e1 : cL9 82 = 1 := rfl
  have e2 : cM 82 = 0 := rfl
  have e3 : cS 82 = 0 := rfl
  refine sat_of (E := E) (ids := []) hfl ok_82 rfl rfl oX10_errorOffset (fun _ h => by cases h) ?_
  rw [e1, e2, e3]
  exact hrun
theorem t_X10_expected (hfl : l.stackTraces = false) (h88 : SatM l G 88 (E 88)) (h97 : SatM l G 97 (E 97)) (h98 : SatM l G 98 (E 98)) (hrun : ∀ as M, (S as M).1 → (lg_sl as).length ≤ 3 ∧ Run (gT G) E 2 12 (fun _ _ => none) (S as M).2.1 (S as M).2.2 kX10_expected 0 (ent as 3) [] M 0 0) : SatM l G 83 S := by
  have e1 : cL9 83 = 3 := rfl
  have e2 : cM 83 = 2 := rfl
  have e3 : cS 83 = 12 := rfl
  refine sat_of (E := E) (ids := [88, 97, 98]) hfl ok_83 rfl rfl oX10_expected (by
    intro id h
    simp only [List.mem_cons, List.not_mem_nil, or_false] at h
    rcases h with rfl | rfl | rfl
    · exact ⟨h88, ok_88⟩
    · exact ⟨h97, ok_97⟩
    · exact ⟨h98, ok_98⟩) ?_
  rw [e1, e2, e3]
  exact hrun
theorem t_X10_fairHours (hfl : l.stackTraces = false) (h16 : SatM l G 16 (E 16)) (h97 : SatM l G 97 (E 97)) (h98 : SatM l G 98 (E 98)) (hrun : ∀ as M, (S as M).1 → (lg_sl as).length ≤ 3 ∧ Run (gT G) E 2 12 (fun _ _ => none) (S as M).2.1 (S as M).2.2 kX10_fairHours 0 (ent as 3) [] M 0 0) : SatM l G 84 S := by
  have e1 : cL9 84 = 3 := rfl
  have e2 : cM 84 = 2 := rfl
  have e3 : cS 84 = 12 := rfl
  refine sat_of (E := E) (ids := [16, 97, 98]) hfl ok_84 rfl rfl oX10_fairHours (by
    intro id h
    simp only [List.mem_cons, List.not_mem_nil, or_false] at h
    rcases h with rfl | rfl | rfl
    · exact ⟨h16, ok_16⟩
    · exact ⟨h97, ok_97⟩
    · exact ⟨h98, ok_98⟩) ?_
  rw [e1, e2, e3]
  exact hrun
theorem t_X10_fieldCount (hfl : l.stackTraces = false)  (hrun : ∀ as M, (S as M).1 → (lg_sl as).length ≤ 1 ∧ Run (gT G) E 0 0 (fun _ _ => none) (S as M).2.1 (S as M).2.2 kX10_fieldCount 0 (ent as 1) [] M 0 0) : SatM l G 85 S := by
  have e1 : cL9 85 = 1 := rfl
  have e2 : cM 85 = 0 := rfl
  have e3 : cS 85 = 0 := rfl
  refine sat_of (E := E) (ids := []) hfl ok_85 rfl rfl oX10_fieldCount (fun _ h => by cases h) ?_
  rw [e1, e2, e3]
  exact hrun
theorem t_X10_fines (hfl : l.stackTraces = false) (h97 : SatM l G 97 (E 97)) (hrun : ∀ as M, (S as M).1 → (lg_sl as).length ≤ 2 ∧ Run (gT G) E 1 6 (fun _ _ => none) (S as M).2.1 (S as M).2.2 kX10_fines 0 (ent as 2) [] M 0 0) : SatM l G 86 S := by
  have e1 : cL9 86 = 2 := rfl
  have e2 : cM 86 = 1 := rfl
  have e3 : cS 86 = 6 := rfl
  refine sat_of (E := E) (ids := [97]) hfl ok_86 rfl rfl oX10_fines (by
    intro id h
    simp only [List.mem_cons, List.not_mem_nil, or_false] at h
    subst h
    exact ⟨h97, ok_97⟩) ?_
  rw [e1, e2, e3]
  exact hrun
theorem t_X10_force (hfl : l.stackTraces = false) (h14 : SatM l G 14 (E 14)) (h39 : SatM l G 39 (E 39)) (h97 : SatM l G 97 (E 97)) (hrun : ∀ as M, (S as M).1 → (lg_sl as).length ≤ 2 ∧ Run (gT G) E 2 12 (fun _ _ => none) (S as M).2.1 (S as M).2.2 kX10_force 0 (ent as 2) [] M 0 0) : SatM l G 87 S := by
  have e1 : cL9 87 = 2 := rfl
  have e2 : cM 87 = 2 := rfl
  have e3 : cS 87 = 12 := rfl
  refine sat_of (E := E) (ids := [14, 39, 97]) hfl ok_87 rfl rfl oX10_force (by
    intro id h
    simp only [List.mem_cons, List.not_mem_nil, or_false] at h
    rcases h with rfl | rfl | rfl
    · exact ⟨h14, ok_14⟩
    · exact ⟨h39, ok_39⟩
    · exact ⟨h97, ok_97⟩) ?_
  rw [e1, e2, e3]
  exact hrun
theorem t_X10_forecastArrivals (hfl : l.stackTraces = false) (h64 : SatM l G 64 (E 64)) (h69 : SatM l G 69 (E 69)) (hrun : ∀ as M, (S as M).1 → (lg_sl as).length ≤ 6 ∧ Run (gT G) E 0 0 (fun _ _ => none) (S as M).2.1 (S as M).2.2 kX10_forecastArrivals 0 (ent as 6) [] M 0 0) : SatM l G 88 S := by
  have e1 : cL9 88 = 6 := rfl
  have e2 : cM 88 = 0 := rfl
  have e3 : cS 88 = 0 := rfl
  refine sat_of (E := E) (ids := [64, 69]) hfl ok_88 rfl rfl oX10_forecastArrivals (by
    intro id h
    simp only [List.mem_cons, List.not_mem_nil, or_false] at h
    rcases h with rfl | rfl
    · exact ⟨h64, ok_64⟩
    · exact ⟨h69, ok_69⟩) ?_
  rw [e1, e2, e3]
  exact hrun
theorem t_X10_guardAt (hfl : l.stackTraces = false) (h35 : SatM l G 35 (E 35)) (hrun : ∀ as M, (S as M).1 → (lg_sl as).length ≤ 1 ∧ Run (gT G) E 0 0 (fun _ _ => none) (S as M).2.1 (S as M).2.2 kX10_guardAt 0 (ent as 1) [] M 0 0) : SatM l G 89 S := by
  have e1 : cL9 89 = 1 := rfl
  have e2 : cM 89 = 0 := rfl
  have e3 : cS 89 = 0 := rfl
  refine sat_of (E := E) (ids := [35]) hfl ok_89 rfl rfl oX10_guardAt (by
    intro id h
    simp only [List.mem_cons, List.not_mem_nil, or_false] at h
    subst h
    exact ⟨h35, ok_35⟩) ?_
  rw [e1, e2, e3]
  exact hrun
theorem t_X10_hoursUntil (hfl : l.stackTraces = false) (h20 : SatM l G 20 (E 20)) (h64 : SatM l G 64 (E 64)) (h69 : SatM l G 69 (E 69)) (h97 : SatM l G 97 (E 97)) (h98 : SatM l G 98 (E 98)) (hrun : ∀ as M, (S as M).1 → (lg_sl as).length ≤ 4 ∧ Run (gT G) E 2 12 (fun _ _ => none) (S as M).2.1 (S as M).2.2 kX10_hoursUntil 0 (ent as 4) [] M 0 0) : SatM l G 90 S := by
  have e1 : cL9 90 = 4 := rfl
  have e2 : cM 90 = 2 := rfl
  have e3 : cS 90 = 12 := rfl
  refine sat_of (E := E) (ids := [20, 64, 69, 97, 98]) hfl ok_90 rfl rfl oX10_hoursUntil (by
    intro id h
    simp only [List.mem_cons, List.not_mem_nil, or_false] at h
    rcases h with rfl | rfl | rfl | rfl | rfl
    · exact ⟨h20, ok_20⟩
    · exact ⟨h64, ok_64⟩
    · exact ⟨h69, ok_69⟩
    · exact ⟨h97, ok_97⟩
    · exact ⟨h98, ok_98⟩) ?_
  rw [e1, e2, e3]
  exact hrun
theorem t_X10_inflow (hfl : l.stackTraces = false) (h29 : SatM l G 29 (E 29)) (h46 : SatM l G 46 (E 46)) (h98 : SatM l G 98 (E 98)) (hrun : ∀ as M, (S as M).1 → (lg_sl as).length ≤ 2 ∧ Run (gT G) E 1 6 (fun _ _ => none) (S as M).2.1 (S as M).2.2 kX10_inflow 0 (ent as 2) [] M 0 0) : SatM l G 91 S := by
  have e1 : cL9 91 = 2 := rfl
  have e2 : cM 91 = 1 := rfl
  have e3 : cS 91 = 6 := rfl
  refine sat_of (E := E) (ids := [29, 46, 98]) hfl ok_91 rfl rfl oX10_inflow (by
    intro id h
    simp only [List.mem_cons, List.not_mem_nil, or_false] at h
    rcases h with rfl | rfl | rfl
    · exact ⟨h29, ok_29⟩
    · exact ⟨h46, ok_46⟩
    · exact ⟨h98, ok_98⟩) ?_
  rw [e1, e2, e3]
  exact hrun
theorem t_X10_init (hfl : l.stackTraces = false) (h37 : SatM l G 37 (E 37)) (h49 : SatM l G 49 (E 49)) (h68 : SatM l G 68 (E 68)) (hrun : ∀ as M, (S as M).1 → (lg_sl as).length ≤ 1 ∧ Run (gT G) E 357 15773 (fun _ _ => none) (S as M).2.1 (S as M).2.2 kX10_init 0 (ent as 1) [] M 0 0) : SatM l G 92 S := by
  have e1 : cL9 92 = 1 := rfl
  have e2 : cM 92 = 357 := rfl
  have e3 : cS 92 = 15773 := rfl
  refine sat_of (E := E) (ids := [37, 49, 68]) hfl ok_92 rfl rfl oX10_init (by
    intro id h
    simp only [List.mem_cons, List.not_mem_nil, or_false] at h
    rcases h with rfl | rfl | rfl
    · exact ⟨h37, ok_37⟩
    · exact ⟨h49, ok_49⟩
    · exact ⟨h68, ok_68⟩) ?_
  rw [e1, e2, e3]
  exact hrun
theorem t_X10_isForced (hfl : l.stackTraces = false) (h97 : SatM l G 97 (E 97)) (hrun : ∀ as M, (S as M).1 → (lg_sl as).length ≤ 2 ∧ Run (gT G) E 1 6 (fun _ _ => none) (S as M).2.1 (S as M).2.2 kX10_isForced 0 (ent as 2) [] M 0 0) : SatM l G 93 S := by
  have e1 : cL9 93 = 2 := rfl
  have e2 : cM 93 = 1 := rfl
  have e3 : cS 93 = 6 := rfl
  refine sat_of (E := E) (ids := [97]) hfl ok_93 rfl rfl oX10_isForced (by
    intro id h
    simp only [List.mem_cons, List.not_mem_nil, or_false] at h
    subst h
    exact ⟨h97, ok_97⟩) ?_
  rw [e1, e2, e3]
  exact hrun
theorem t_X10_isOpen (hfl : l.stackTraces = false) (h17 : SatM l G 17 (E 17)) (h46 : SatM l G 46 (E 46)) (h97 : SatM l G 97 (E 97)) (hrun : ∀ as M, (S as M).1 → (lg_sl as).length ≤ 2 ∧ Run (gT G) E 1 6 (fun _ _ => none) (S as M).2.1 (S as M).2.2 kX10_isOpen 0 (ent as 2) [] M 0 0) : SatM l G 94 S := by
  have e1 : cL9 94 = 2 := rfl
  have e2 : cM 94 = 1 := rfl
  have e3 : cS 94 = 6 := rfl
  refine sat_of (E := E) (ids := [17, 46, 97]) hfl ok_94 rfl rfl oX10_isOpen (by
    intro id h
    simp only [List.mem_cons, List.not_mem_nil, or_false] at h
    rcases h with rfl | rfl | rfl
    · exact ⟨h17, ok_17⟩
    · exact ⟨h46, ok_46⟩
    · exact ⟨h97, ok_97⟩) ?_
  rw [e1, e2, e3]
  exact hrun
theorem t_X10_load (hfl : l.stackTraces = false) (h39 : SatM l G 39 (E 39)) (h57 : SatM l G 57 (E 57)) (h64 : SatM l G 64 (E 64)) (h98 : SatM l G 98 (E 98)) (hrun : ∀ as M, (S as M).1 → (lg_sl as).length ≤ 3 ∧ Run (gT G) E 1 6 (fun _ _ => none) (S as M).2.1 (S as M).2.2 kX10_load 0 (ent as 3) [] M 0 0) : SatM l G 95 S := by
  have e1 : cL9 95 = 3 := rfl
  have e2 : cM 95 = 1 := rfl
  have e3 : cS 95 = 6 := rfl
  refine sat_of (E := E) (ids := [39, 57, 64, 98]) hfl ok_95 rfl rfl oX10_load (by
    intro id h
    simp only [List.mem_cons, List.not_mem_nil, or_false] at h
    rcases h with rfl | rfl | rfl | rfl
    · exact ⟨h39, ok_39⟩
    · exact ⟨h57, ok_57⟩
    · exact ⟨h64, ok_64⟩
    · exact ⟨h98, ok_98⟩) ?_
  rw [e1, e2, e3]
  exact hrun
theorem t_X10_parent (hfl : l.stackTraces = false) (h97 : SatM l G 97 (E 97)) (hrun : ∀ as M, (S as M).1 → (lg_sl as).length ≤ 2 ∧ Run (gT G) E 1 6 (fun _ _ => none) (S as M).2.1 (S as M).2.2 kX10_parent 0 (ent as 2) [] M 0 0) : SatM l G 96 S := by
  have e1 : cL9 96 = 2 := rfl
  have e2 : cM 96 = 1 := rfl
  have e3 : cS 96 = 6 := rfl
  refine sat_of (E := E) (ids := [97]) hfl ok_96 rfl rfl oX10_parent (by
    intro id h
    simp only [List.mem_cons, List.not_mem_nil, or_false] at h
    subst h
    exact ⟨h97, ok_97⟩) ?_
  rw [e1, e2, e3]
  exact hrun
theorem t_X10_requireIndex (hfl : l.stackTraces = false)  (hrun : ∀ as M, (S as M).1 → (lg_sl as).length ≤ 2 ∧ Run (gT G) E 1 6 (fun _ _ => none) (S as M).2.1 (S as M).2.2 kX10_requireIndex 0 (ent as 2) [] M 0 0) : SatM l G 97 S := by
  have e1 : cL9 97 = 2 := rfl
  have e2 : cM 97 = 1 := rfl
  have e3 : cS 97 = 6 := rfl
  refine sat_of (E := E) (ids := []) hfl ok_97 rfl rfl oX10_requireIndex (fun _ h => by cases h) ?_
  rw [e1, e2, e3]
  exact hrun
theorem t_X10_requireRange (hfl : l.stackTraces = false)  (hrun : ∀ as M, (S as M).1 → (lg_sl as).length ≤ 3 ∧ Run (gT G) E 1 6 (fun _ _ => none) (S as M).2.1 (S as M).2.2 kX10_requireRange 0 (ent as 3) [] M 0 0) : SatM l G 98 S := by
  have e1 : cL9 98 = 3 := rfl
  have e2 : cM 98 = 1 := rfl
  have e3 : cS 98 = 6 := rfl
  refine sat_of (E := E) (ids := []) hfl ok_98 rfl rfl oX10_requireRange (fun _ h => by cases h) ?_
  rw [e1, e2, e3]
  exact hrun
theorem t_X10_run (hfl : l.stackTraces = false) (h39 : SatM l G 39 (E 39)) (h69 : SatM l G 69 (E 69)) (h98 : SatM l G 98 (E 98)) (hrun : ∀ as M, (S as M).1 → (lg_sl as).length ≤ 4 ∧ Run (gT G) E 2 12 (fun _ _ => none) (S as M).2.1 (S as M).2.2 kX10_run 0 (ent as 4) [] M 0 0) : SatM l G 99 S := by
  have e1 : cL9 99 = 4 := rfl
  have e2 : cM 99 = 2 := rfl
  have e3 : cS 99 = 12 := rfl
  refine sat_of (E := E) (ids := [39, 69, 98]) hfl ok_99 rfl rfl oX10_run (by
    intro id h
    simp only [List.mem_cons, List.not_mem_nil, or_false] at h
    rcases h with rfl | rfl | rfl
    · exact ⟨h39, ok_39⟩
    · exact ⟨h69, ok_69⟩
    · exact ⟨h98, ok_98⟩) ?_
  rw [e1, e2, e3]
  exact hrun
theorem t_X10_stolen (hfl : l.stackTraces = false) (h97 : SatM l G 97 (E 97)) (hrun : ∀ as M, (S as M).1 → (lg_sl as).length ≤ 2 ∧ Run (gT G) E 1 6 (fun _ _ => none) (S as M).2.1 (S as M).2.2 kX10_stolen 0 (ent as 2) [] M 0 0) : SatM l G 100 S := by
  have e1 : cL9 100 = 2 := rfl
  have e2 : cM 100 = 1 := rfl
  have e3 : cS 100 = 6 := rfl
  refine sat_of (E := E) (ids := [97]) hfl ok_100 rfl rfl oX10_stolen (by
    intro id h
    simp only [List.mem_cons, List.not_mem_nil, or_false] at h
    subst h
    exact ⟨h97, ok_97⟩) ?_
  rw [e1, e2, e3]
  exact hrun
theorem t_X10_suspect (hfl : l.stackTraces = false) (h88 : SatM l G 88 (E 88)) (h97 : SatM l G 97 (E 97)) (h98 : SatM l G 98 (E 98)) (hrun : ∀ as M, (S as M).1 → (lg_sl as).length ≤ 5 ∧ Run (gT G) E 2 12 (fun _ _ => none) (S as M).2.1 (S as M).2.2 kX10_suspect 0 (ent as 5) [] M 0 0) : SatM l G 101 S := by
  have e1 : cL9 101 = 5 := rfl
  have e2 : cM 101 = 2 := rfl
  have e3 : cS 101 = 12 := rfl
  refine sat_of (E := E) (ids := [88, 97, 98]) hfl ok_101 rfl rfl oX10_suspect (by
    intro id h
    simp only [List.mem_cons, List.not_mem_nil, or_false] at h
    rcases h with rfl | rfl | rfl
    · exact ⟨h88, ok_88⟩
    · exact ⟨h97, ok_97⟩
    · exact ⟨h98, ok_98⟩) ?_
  rw [e1, e2, e3]
  exact hrun
theorem t_X10_swapTurns (hfl : l.stackTraces = false) (h39 : SatM l G 39 (E 39)) (h44 : SatM l G 44 (E 44)) (h46 : SatM l G 46 (E 46)) (h97 : SatM l G 97 (E 97)) (hrun : ∀ as M, (S as M).1 → (lg_sl as).length ≤ 3 ∧ Run (gT G) E 2 12 (fun _ _ => none) (S as M).2.1 (S as M).2.2 kX10_swapTurns 0 (ent as 3) [] M 0 0) : SatM l G 102 S := by
  have e1 : cL9 102 = 3 := rfl
  have e2 : cM 102 = 2 := rfl
  have e3 : cS 102 = 12 := rfl
  refine sat_of (E := E) (ids := [39, 44, 46, 97]) hfl ok_102 rfl rfl oX10_swapTurns (by
    intro id h
    simp only [List.mem_cons, List.not_mem_nil, or_false] at h
    rcases h with rfl | rfl | rfl | rfl
    · exact ⟨h39, ok_39⟩
    · exact ⟨h44, ok_44⟩
    · exact ⟨h46, ok_46⟩
    · exact ⟨h97, ok_97⟩) ?_
  rw [e1, e2, e3]
  exact hrun
theorem t_X10_taken (hfl : l.stackTraces = false) (h97 : SatM l G 97 (E 97)) (hrun : ∀ as M, (S as M).1 → (lg_sl as).length ≤ 2 ∧ Run (gT G) E 1 6 (fun _ _ => none) (S as M).2.1 (S as M).2.2 kX10_taken 0 (ent as 2) [] M 0 0) : SatM l G 103 S := by
  have e1 : cL9 103 = 2 := rfl
  have e2 : cM 103 = 1 := rfl
  have e3 : cS 103 = 6 := rfl
  refine sat_of (E := E) (ids := [97]) hfl ok_103 rfl rfl oX10_taken (by
    intro id h
    simp only [List.mem_cons, List.not_mem_nil, or_false] at h
    subst h
    exact ⟨h97, ok_97⟩) ?_
  rw [e1, e2, e3]
  exact hrun
theorem t_X10_total (hfl : l.stackTraces = false) (h12 : SatM l G 12 (E 12)) (h24 : SatM l G 24 (E 24)) (h98 : SatM l G 98 (E 98)) (hrun : ∀ as M, (S as M).1 → (lg_sl as).length ≤ 2 ∧ Run (gT G) E 1 6 (fun _ _ => none) (S as M).2.1 (S as M).2.2 kX10_total 0 (ent as 2) [] M 0 0) : SatM l G 104 S := by
  have e1 : cL9 104 = 2 := rfl
  have e2 : cM 104 = 1 := rfl
  have e3 : cS 104 = 6 := rfl
  refine sat_of (E := E) (ids := [12, 24, 98]) hfl ok_104 rfl rfl oX10_total (by
    intro id h
    simp only [List.mem_cons, List.not_mem_nil, or_false] at h
    rcases h with rfl | rfl | rfl
    · exact ⟨h12, ok_12⟩
    · exact ⟨h24, ok_24⟩
    · exact ⟨h98, ok_98⟩) ?_
  rw [e1, e2, e3]
  exact hrun
theorem t_X10_turnAt (hfl : l.stackTraces = false) (h46 : SatM l G 46 (E 46)) (h98 : SatM l G 98 (E 98)) (hrun : ∀ as M, (S as M).1 → (lg_sl as).length ≤ 2 ∧ Run (gT G) E 1 6 (fun _ _ => none) (S as M).2.1 (S as M).2.2 kX10_turnAt 0 (ent as 2) [] M 0 0) : SatM l G 105 S := by
  have e1 : cL9 105 = 2 := rfl
  have e2 : cM 105 = 1 := rfl
  have e3 : cS 105 = 6 := rfl
  refine sat_of (E := E) (ids := [46, 98]) hfl ok_105 rfl rfl oX10_turnAt (by
    intro id h
    simp only [List.mem_cons, List.not_mem_nil, or_false] at h
    rcases h with rfl | rfl
    · exact ⟨h46, ok_46⟩
    · exact ⟨h98, ok_98⟩) ?_
  rw [e1, e2, e3]
  exact hrun
theorem t_X10_undo (hfl : l.stackTraces = false) (h38 : SatM l G 38 (E 38)) (hrun : ∀ as M, (S as M).1 → (lg_sl as).length ≤ 1 ∧ Run (gT G) E 0 0 (fun _ _ => none) (S as M).2.1 (S as M).2.2 kX10_undo 0 (ent as 1) [] M 0 0) : SatM l G 106 S := by
  have e1 : cL9 106 = 1 := rfl
  have e2 : cM 106 = 0 := rfl
  have e3 : cS 106 = 0 := rfl
  refine sat_of (E := E) (ids := [38]) hfl ok_106 rfl rfl oX10_undo (by
    intro id h
    simp only [List.mem_cons, List.not_mem_nil, or_false] at h
    subst h
    exact ⟨h38, ok_38⟩) ?_
  rw [e1, e2, e3]
  exact hrun
theorem t_X10_water (hfl : l.stackTraces = false) (h97 : SatM l G 97 (E 97)) (hrun : ∀ as M, (S as M).1 → (lg_sl as).length ≤ 2 ∧ Run (gT G) E 1 6 (fun _ _ => none) (S as M).2.1 (S as M).2.2 kX10_water 0 (ent as 2) [] M 0 0) : SatM l G 107 S := by
  have e1 : cL9 107 = 2 := rfl
  have e2 : cM 107 = 1 := rfl
  have e3 : cS 107 = 6 := rfl
  refine sat_of (E := E) (ids := [97]) hfl ok_107 rfl rfl oX10_water (by
    intro id h
    simp only [List.mem_cons, List.not_mem_nil, or_false] at h
    subst h
    exact ⟨h97, ok_97⟩) ?_
  rw [e1, e2, e3]
  exact hrun
theorem t_X10_waterIn (hfl : l.stackTraces = false) (h0 : SatM l G 0 (E 0)) (h97 : SatM l G 97 (E 97)) (h98 : SatM l G 98 (E 98)) (hrun : ∀ as M, (S as M).1 → (lg_sl as).length ≤ 3 ∧ Run (gT G) E 2 12 (fun _ _ => none) (S as M).2.1 (S as M).2.2 kX10_waterIn 0 (ent as 3) [] M 0 0) : SatM l G 108 S := by
  have e1 : cL9 108 = 3 := rfl
  have e2 : cM 108 = 2 := rfl
  have e3 : cS 108 = 12 := rfl
  refine sat_of (E := E) (ids := [0, 97, 98]) hfl ok_108 rfl rfl oX10_waterIn (by
    intro id h
    simp only [List.mem_cons, List.not_mem_nil, or_false] at h
    rcases h with rfl | rfl | rfl
    · exact ⟨h0, ok_0⟩
    · exact ⟨h97, ok_97⟩
    · exact ⟨h98, ok_98⟩) ?_
  rw [e1, e2, e3]
  exact hrun
theorem t_X11_append (hfl : l.stackTraces = false)  (hrun : ∀ as M, (S as M).1 → (lg_sl as).length ≤ 8 ∧ Run (gT G) E 0 0 (fun _ _ => none) (S as M).2.1 (S as M).2.2 kX11_append 0 (ent as 8) [] M 0 0) : SatM l G 109 S := by
  have e1 : cL9 109 = 8 := rfl
  have e2 : cM 109 = 0 := rfl
  have e3 : cS 109 = 0 := rfl
  refine sat_of (E := E) (ids := []) hfl ok_109 rfl rfl oX11_append (fun _ h => by cases h) ?_
  rw [e1, e2, e3]
  exact hrun
theorem t_X11_arrived (hfl : l.stackTraces = false) (h113 : SatM l G 113 (E 113)) (h152 : SatM l G 152 (E 152)) (hrun : ∀ as M, (S as M).1 → (lg_sl as).length ≤ 2 ∧ Run (gT G) E 0 0 (fun _ _ => none) (S as M).2.1 (S as M).2.2 kX11_arrived 0 (ent as 2) [] M 0 0) : SatM l G 110 S := by
  have e1 : cL9 110 = 2 := rfl
  have e2 : cM 110 = 0 := rfl
  have e3 : cS 110 = 0 := rfl
  refine sat_of (E := E) (ids := [113, 152]) hfl ok_110 rfl rfl oX11_arrived (by
    intro id h
    simp only [List.mem_cons, List.not_mem_nil, or_false] at h
    rcases h with rfl | rfl
    · exact ⟨h113, ok_113⟩
    · exact ⟨h152, ok_152⟩) ?_
  rw [e1, e2, e3]
  exact hrun
theorem t_X11_arrives (hfl : l.stackTraces = false) (h113 : SatM l G 113 (E 113)) (h168 : SatM l G 168 (E 168)) (hrun : ∀ as M, (S as M).1 → (lg_sl as).length ≤ 5 ∧ Run (gT G) E 0 0 (fun _ _ => none) (S as M).2.1 (S as M).2.2 kX11_arrives 0 (ent as 5) [] M 0 0) : SatM l G 111 S := by
  have e1 : cL9 111 = 5 := rfl
  have e2 : cM 111 = 0 := rfl
  have e3 : cS 111 = 0 := rfl
  refine sat_of (E := E) (ids := [113, 168]) hfl ok_111 rfl rfl oX11_arrives (by
    intro id h
    simp only [List.mem_cons, List.not_mem_nil, or_false] at h
    rcases h with rfl | rfl
    · exact ⟨h113, ok_113⟩
    · exact ⟨h168, ok_168⟩) ?_
  rw [e1, e2, e3]
  exact hrun
theorem t_X11_byteAt (hfl : l.stackTraces = false)  (hrun : ∀ as M, (S as M).1 → (lg_sl as).length ≤ 2 ∧ Run (gT G) E 0 0 (fun _ _ => none) (S as M).2.1 (S as M).2.2 kX11_byteAt 0 (ent as 2) [] M 0 0) : SatM l G 112 S := by
  have e1 : cL9 112 = 2 := rfl
  have e2 : cM 112 = 0 := rfl
  have e3 : cS 112 = 0 := rfl
  refine sat_of (E := E) (ids := []) hfl ok_112 rfl rfl oX11_byteAt (fun _ h => by cases h) ?_
  rw [e1, e2, e3]
  exact hrun
theorem t_X11_canal (hfl : l.stackTraces = false)  (hrun : ∀ as M, (S as M).1 → (lg_sl as).length ≤ 1 ∧ Run (gT G) E 0 0 (fun _ _ => none) (S as M).2.1 (S as M).2.2 kX11_canal 0 (ent as 1) [] M 0 0) : SatM l G 113 S := by
  have e1 : cL9 113 = 1 := rfl
  have e2 : cM 113 = 0 := rfl
  have e3 : cS 113 = 0 := rfl
  refine sat_of (E := E) (ids := []) hfl ok_113 rfl rfl oX11_canal (fun _ h => by cases h) ?_
  rw [e1, e2, e3]
  exact hrun
theorem t_X11_canalCount (hfl : l.stackTraces = false)  (hrun : ∀ as M, (S as M).1 → (lg_sl as).length ≤ 1 ∧ Run (gT G) E 0 0 (fun _ _ => none) (S as M).2.1 (S as M).2.2 kX11_canalCount 0 (ent as 1) [] M 0 0) : SatM l G 114 S := by
  have e1 : cL9 114 = 1 := rfl
  have e2 : cM 114 = 0 := rfl
  have e3 : cS 114 = 0 := rfl
  refine sat_of (E := E) (ids := []) hfl ok_114 rfl rfl oX11_canalCount (fun _ h => by cases h) ?_
  rw [e1, e2, e3]
  exact hrun
theorem t_X11_checksum (hfl : l.stackTraces = false) (h113 : SatM l G 113 (E 113)) (h131 : SatM l G 131 (E 131)) (h136 : SatM l G 136 (E 136)) (hrun : ∀ as M, (S as M).1 → (lg_sl as).length ≤ 5 ∧ Run (gT G) E 0 0 (fun _ _ => none) (S as M).2.1 (S as M).2.2 kX11_checksum 0 (ent as 5) [] M 0 0) : SatM l G 115 S := by
  have e1 : cL9 115 = 5 := rfl
  have e2 : cM 115 = 0 := rfl
  have e3 : cS 115 = 0 := rfl
  refine sat_of (E := E) (ids := [113, 131, 136]) hfl ok_115 rfl rfl oX11_checksum (by
    intro id h
    simp only [List.mem_cons, List.not_mem_nil, or_false] at h
    rcases h with rfl | rfl | rfl
    · exact ⟨h113, ok_113⟩
    · exact ⟨h131, ok_131⟩
    · exact ⟨h136, ok_136⟩) ?_
  rw [e1, e2, e3]
  exact hrun
theorem t_X11_clock (hfl : l.stackTraces = false)  (hrun : ∀ as M, (S as M).1 → (lg_sl as).length ≤ 1 ∧ Run (gT G) E 0 0 (fun _ _ => none) (S as M).2.1 (S as M).2.2 kX11_clock 0 (ent as 1) [] M 0 0) : SatM l G 116 S := by
  have e1 : cL9 116 = 1 := rfl
  have e2 : cM 116 = 0 := rfl
  have e3 : cS 116 = 0 := rfl
  refine sat_of (E := E) (ids := []) hfl ok_116 rfl rfl oX11_clock (fun _ h => by cases h) ?_
  rw [e1, e2, e3]
  exact hrun
theorem t_X11_copy (hfl : l.stackTraces = false)  (hrun : ∀ as M, (S as M).1 → (lg_sl as).length ≤ 3 ∧ Run (gT G) E 0 0 (fun _ _ => none) (S as M).2.1 (S as M).2.2 kX11_copy 0 (ent as 3) [] M 0 0) : SatM l G 117 S := by
  have e1 : cL9 117 = 3 := rfl
  have e2 : cM 117 = 0 := rfl
  have e3 : cS 117 = 0 := rfl
  refine sat_of (E := E) (ids := []) hfl ok_117 rfl rfl oX11_copy (fun _ h => by cases h) ?_
  rw [e1, e2, e3]
  exact hrun
theorem t_X11_cycle (hfl : l.stackTraces = false)  (hrun : ∀ as M, (S as M).1 → (lg_sl as).length ≤ 3 ∧ Run (gT G) E 0 0 (fun _ _ => none) (S as M).2.1 (S as M).2.2 kX11_cycle 0 (ent as 3) [] M 0 0) : SatM l G 118 S := by
  have e1 : cL9 118 = 3 := rfl
  have e2 : cM 118 = 0 := rfl
  have e3 : cS 118 = 0 := rfl
  refine sat_of (E := E) (ids := []) hfl ok_118 rfl rfl oX11_cycle (fun _ h => by cases h) ?_
  rw [e1, e2, e3]
  exact hrun
theorem t_X11_cycleLength (hfl : l.stackTraces = false) (h118 : SatM l G 118 (E 118)) (hrun : ∀ as M, (S as M).1 → (lg_sl as).length ≤ 1 ∧ Run (gT G) E 0 0 (fun _ _ => none) (S as M).2.1 (S as M).2.2 kX11_cycleLength 0 (ent as 1) [] M 0 0) : SatM l G 119 S := by
  have e1 : cL9 119 = 1 := rfl
  have e2 : cM 119 = 0 := rfl
  have e3 : cS 119 = 0 := rfl
  refine sat_of (E := E) (ids := [118]) hfl ok_119 rfl rfl oX11_cycleLength (by
    intro id h
    simp only [List.mem_cons, List.not_mem_nil, or_false] at h
    subst h
    exact ⟨h118, ok_118⟩) ?_
  rw [e1, e2, e3]
  exact hrun
theorem t_X11_demand (hfl : l.stackTraces = false) (h131 : SatM l G 131 (E 131)) (hrun : ∀ as M, (S as M).1 → (lg_sl as).length ≤ 4 ∧ Run (gT G) E 0 0 (fun _ _ => none) (S as M).2.1 (S as M).2.2 kX11_demand 0 (ent as 4) [] M 0 0) : SatM l G 120 S := by
  have e1 : cL9 120 = 4 := rfl
  have e2 : cM 120 = 0 := rfl
  have e3 : cS 120 = 0 := rfl
  refine sat_of (E := E) (ids := [131]) hfl ok_120 rfl rfl oX11_demand (by
    intro id h
    simp only [List.mem_cons, List.not_mem_nil, or_false] at h
    subst h
    exact ⟨h131, ok_131⟩) ?_
  rw [e1, e2, e3]
  exact hrun
theorem t_X11_divide (hfl : l.stackTraces = false) (h113 : SatM l G 113 (E 113)) (h124 : SatM l G 124 (E 124)) (hrun : ∀ as M, (S as M).1 → (lg_sl as).length ≤ 8 ∧ Run (gT G) E 0 0 (fun _ _ => none) (S as M).2.1 (S as M).2.2 kX11_divide 0 (ent as 8) [] M 0 0) : SatM l G 121 S := by
  have e1 : cL9 121 = 8 := rfl
  have e2 : cM 121 = 0 := rfl
  have e3 : cS 121 = 0 := rfl
  refine sat_of (E := E) (ids := [113, 124]) hfl ok_121 rfl rfl oX11_divide (by
    intro id h
    simp only [List.mem_cons, List.not_mem_nil, or_false] at h
    rcases h with rfl | rfl
    · exact ⟨h113, ok_113⟩
    · exact ⟨h124, ok_124⟩) ?_
  rw [e1, e2, e3]
  exact hrun
theorem t_X11_drain (hfl : l.stackTraces = false) (h131 : SatM l G 131 (E 131)) (h150 : SatM l G 150 (E 150)) (hrun : ∀ as M, (S as M).1 → (lg_sl as).length ≤ 5 ∧ Run (gT G) E 0 0 (fun _ _ => none) (S as M).2.1 (S as M).2.2 kX11_drain 0 (ent as 5) [] M 0 0) : SatM l G 122 S := by
  have e1 : cL9 122 = 5 := rfl
  have e2 : cM 122 = 0 := rfl
  have e3 : cS 122 = 0 := rfl
  refine sat_of (E := E) (ids := [131, 150]) hfl ok_122 rfl rfl oX11_drain (by
    intro id h
    simp only [List.mem_cons, List.not_mem_nil, or_false] at h
    rcases h with rfl | rfl
    · exact ⟨h131, ok_131⟩
    · exact ⟨h150, ok_150⟩) ?_
  rw [e1, e2, e3]
  exact hrun
theorem t_X11_emit (hfl : l.stackTraces = false) (h146 : SatM l G 146 (E 146)) (hrun : ∀ as M, (S as M).1 → (lg_sl as).length ≤ 2 ∧ Run (gT G) E 0 0 (fun _ _ => none) (S as M).2.1 (S as M).2.2 kX11_emit 0 (ent as 2) [] M 0 0) : SatM l G 123 S := by
  have e1 : cL9 123 = 2 := rfl
  have e2 : cM 123 = 0 := rfl
  have e3 : cS 123 = 0 := rfl
  refine sat_of (E := E) (ids := [146]) hfl ok_123 rfl rfl oX11_emit (by
    intro id h
    simp only [List.mem_cons, List.not_mem_nil, or_false] at h
    subst h
    exact ⟨h146, ok_146⟩) ?_
  rw [e1, e2, e3]
  exact hrun
theorem t_X11_enter (hfl : l.stackTraces = false) (h113 : SatM l G 113 (E 113)) (h150 : SatM l G 150 (E 150)) (hrun : ∀ as M, (S as M).1 → (lg_sl as).length ≤ 6 ∧ Run (gT G) E 0 0 (fun _ _ => none) (S as M).2.1 (S as M).2.2 kX11_enter 0 (ent as 6) [] M 0 0) : SatM l G 124 S := by
  have e1 : cL9 124 = 6 := rfl
  have e2 : cM 124 = 0 := rfl
  have e3 : cS 124 = 0 := rfl
  refine sat_of (E := E) (ids := [113, 150]) hfl ok_124 rfl rfl oX11_enter (by
    intro id h
    simp only [List.mem_cons, List.not_mem_nil, or_false] at h
    rcases h with rfl | rfl
    · exact ⟨h113, ok_113⟩
    · exact ⟨h150, ok_150⟩) ?_
  rw [e1, e2, e3]
  exact hrun
theorem t_X11_errorOffset (hfl : l.stackTraces = false)  (hrun : ∀ as M, (S as M).1 → (lg_sl as).length ≤ 1 ∧ Run (gT G) E 0 0 (fun _ _ => none) (S as M).2.1 (S as M).2.2 kX11_errorOffset 0 (ent as 1) [] M 0 0) : SatM l G 125 S := by
  have e1 : cL9 125 = 1 := rfl
  have e2 : cM 125 = 0 := rfl
  have e3 : cS 125 = 0 := rfl
  refine sat_of (E := E) (ids := []) hfl ok_125 rfl rfl oX11_errorOffset (fun _ h => by cases h) ?_
  rw [e1, e2, e3]
  exact hrun
theorem t_X11_expect (hfl : l.stackTraces = false) (h146 : SatM l G 146 (E 146)) (h151 : SatM l G 151 (E 151)) (h166 : SatM l G 166 (E 166)) (hrun : ∀ as M, (S as M).1 → (lg_sl as).length ≤ 2 ∧ Run (gT G) E 0 0 (fun _ _ => none) (S as M).2.1 (S as M).2.2 kX11_expect 0 (ent as 2) [] M 0 0) : SatM l G 126 S := by
  have e1 : cL9 126 = 2 := rfl
  have e2 : cM 126 = 0 := rfl
  have e3 : cS 126 = 0 := rfl
  refine sat_of (E := E) (ids := [146, 151, 166]) hfl ok_126 rfl rfl oX11_expect (by
    intro id h
    simp only [List.mem_cons, List.not_mem_nil, or_false] at h
    rcases h with rfl | rfl | rfl
    · exact ⟨h146, ok_146⟩
    · exact ⟨h151, ok_151⟩
    · exact ⟨h166, ok_166⟩) ?_
  rw [e1, e2, e3]
  exact hrun
theorem t_X11_expected (hfl : l.stackTraces = false) (h111 : SatM l G 111 (E 111)) (h117 : SatM l G 117 (E 117)) (h129 : SatM l G 129 (E 129)) (h139 : SatM l G 139 (E 139)) (h152 : SatM l G 152 (E 152)) (hrun : ∀ as M, (S as M).1 → (lg_sl as).length ≤ 3 ∧ Run (gT G) E 0 0 (fun _ _ => none) (S as M).2.1 (S as M).2.2 kX11_expected 0 (ent as 3) [] M 0 0) : SatM l G 127 S := by
  have e1 : cL9 127 = 3 := rfl
  have e2 : cM 127 = 0 := rfl
  have e3 : cS 127 = 0 := rfl
  refine sat_of (E := E) (ids := [111, 117, 129, 139, 152]) hfl ok_127 rfl rfl oX11_expected (by
    intro id h
    simp only [List.mem_cons, List.not_mem_nil, or_false] at h
    rcases h with rfl | rfl | rfl | rfl | rfl
    · exact ⟨h111, ok_111⟩
    · exact ⟨h117, ok_117⟩
    · exact ⟨h129, ok_129⟩
    · exact ⟨h139, ok_139⟩
    · exact ⟨h152, ok_152⟩) ?_
  rw [e1, e2, e3]
  exact hrun
theorem t_X11_factor_1 (hfl : l.stackTraces = false) (h123 : SatM l G 123 (E 123)) (h126 : SatM l G 126 (E 126)) (h144 : SatM l G 144 (E 144)) (h146 : SatM l G 146 (E 146)) (h151 : SatM l G 151 (E 151)) (h155 : SatM l G 155 (E 155)) (h166 : SatM l G 166 (E 166)) (h171 : SatM l G 171 (E 171)) (h174 : SatM l G 174 (E 174)) (hrun : ∀ as M, (S as M).1 → (lg_sl as).length ≤ 4 ∧ Run (gT G) E 0 0 (fun _ _ => none) (S as M).2.1 (S as M).2.2 (kX11_factor 1) 0 (ent as 4) [] M 0 0) : SatM l G 1128 S := by
  have e1 : cL9 1128 = 4 := rfl
  have e2 : cM 1128 = 0 := rfl
  have e3 : cS 1128 = 0 := rfl
  refine sat_of (E := E) (ids := [123, 126, 144, 146, 151, 155, 166, 171, 174]) hfl okr_1128 rfl rfl oX11_factor_1 (by
    intro id h
    simp only [List.mem_cons, List.not_mem_nil, or_false] at h
    rcases h with rfl | rfl | rfl | rfl | rfl | rfl | rfl | rfl | rfl
    · exact ⟨h123, ok_123⟩
    · exact ⟨h126, ok_126⟩
    · exact ⟨h144, ok_144⟩
    · exact ⟨h146, ok_146⟩
    · exact ⟨h151, ok_151⟩
    · exact ⟨h155, ok_155⟩
    · exact ⟨h166, ok_166⟩
    · exact ⟨h171, ok_171⟩
    · exact ⟨h174, ok_174⟩) ?_
  rw [e1, e2, e3]
  exact hrun
theorem t_X11_factor_2 (hfl : l.stackTraces = false) (h123 : SatM l G 123 (E 123)) (h126 : SatM l G 126 (E 126)) (h144 : SatM l G 144 (E 144)) (h146 : SatM l G 146 (E 146)) (h151 : SatM l G 151 (E 151)) (h155 : SatM l G 155 (E 155)) (h166 : SatM l G 166 (E 166)) (h1171 : SatM l G 1171 (E 1171)) (h174 : SatM l G 174 (E 174)) (hrun : ∀ as M, (S as M).1 → (lg_sl as).length ≤ 4 ∧ Run (gT G) E 0 0 (fun _ _ => none) (S as M).2.1 (S as M).2.2 (kX11_factor 2) 0 (ent as 4) [] M 0 0) : SatM l G 2128 S := by
  have e1 : cL9 2128 = 4 := rfl
  have e2 : cM 2128 = 0 := rfl
  have e3 : cS 2128 = 0 := rfl
  refine sat_of (E := E) (ids := [123, 126, 144, 146, 151, 155, 166, 1171, 174]) hfl okr_2128 rfl rfl oX11_factor_2 (by
    intro id h
    simp only [List.mem_cons, List.not_mem_nil, or_false] at h
    rcases h with rfl | rfl | rfl | rfl | rfl | rfl | rfl | rfl | rfl
    · exact ⟨h123, ok_123⟩
    · exact ⟨h126, ok_126⟩
    · exact ⟨h144, ok_144⟩
    · exact ⟨h146, ok_146⟩
    · exact ⟨h151, ok_151⟩
    · exact ⟨h155, ok_155⟩
    · exact ⟨h166, ok_166⟩
    · exact ⟨h1171, okr_1171⟩
    · exact ⟨h174, ok_174⟩) ?_
  rw [e1, e2, e3]
  exact hrun
theorem t_X11_factor_3 (hfl : l.stackTraces = false) (h123 : SatM l G 123 (E 123)) (h126 : SatM l G 126 (E 126)) (h144 : SatM l G 144 (E 144)) (h146 : SatM l G 146 (E 146)) (h151 : SatM l G 151 (E 151)) (h155 : SatM l G 155 (E 155)) (h166 : SatM l G 166 (E 166)) (h2171 : SatM l G 2171 (E 2171)) (h174 : SatM l G 174 (E 174)) (hrun : ∀ as M, (S as M).1 → (lg_sl as).length ≤ 4 ∧ Run (gT G) E 0 0 (fun _ _ => none) (S as M).2.1 (S as M).2.2 (kX11_factor 3) 0 (ent as 4) [] M 0 0) : SatM l G 3128 S := by
  have e1 : cL9 3128 = 4 := rfl
  have e2 : cM 3128 = 0 := rfl
  have e3 : cS 3128 = 0 := rfl
  refine sat_of (E := E) (ids := [123, 126, 144, 146, 151, 155, 166, 2171, 174]) hfl okr_3128 rfl rfl oX11_factor_3 (by
    intro id h
    simp only [List.mem_cons, List.not_mem_nil, or_false] at h
    rcases h with rfl | rfl | rfl | rfl | rfl | rfl | rfl | rfl | rfl
    · exact ⟨h123, ok_123⟩
    · exact ⟨h126, ok_126⟩
    · exact ⟨h144, ok_144⟩
    · exact ⟨h146, ok_146⟩
    · exact ⟨h151, ok_151⟩
    · exact ⟨h155, ok_155⟩
    · exact ⟨h166, ok_166⟩
    · exact ⟨h2171, okr_2171⟩
    · exact ⟨h174, ok_174⟩) ?_
  rw [e1, e2, e3]
  exact hrun
theorem t_X11_factor_4 (hfl : l.stackTraces = false) (h123 : SatM l G 123 (E 123)) (h126 : SatM l G 126 (E 126)) (h144 : SatM l G 144 (E 144)) (h146 : SatM l G 146 (E 146)) (h151 : SatM l G 151 (E 151)) (h155 : SatM l G 155 (E 155)) (h166 : SatM l G 166 (E 166)) (h3171 : SatM l G 3171 (E 3171)) (h174 : SatM l G 174 (E 174)) (hrun : ∀ as M, (S as M).1 → (lg_sl as).length ≤ 4 ∧ Run (gT G) E 0 0 (fun _ _ => none) (S as M).2.1 (S as M).2.2 (kX11_factor 4) 0 (ent as 4) [] M 0 0) : SatM l G 4128 S := by
  have e1 : cL9 4128 = 4 := rfl
  have e2 : cM 4128 = 0 := rfl
  have e3 : cS 4128 = 0 := rfl
  refine sat_of (E := E) (ids := [123, 126, 144, 146, 151, 155, 166, 3171, 174]) hfl okr_4128 rfl rfl oX11_factor_4 (by
    intro id h
    simp only [List.mem_cons, List.not_mem_nil, or_false] at h
    rcases h with rfl | rfl | rfl | rfl | rfl | rfl | rfl | rfl | rfl
    · exact ⟨h123, ok_123⟩
    · exact ⟨h126, ok_126⟩
    · exact ⟨h144, ok_144⟩
    · exact ⟨h146, ok_146⟩
    · exact ⟨h151, ok_151⟩
    · exact ⟨h155, ok_155⟩
    · exact ⟨h166, ok_166⟩
    · exact ⟨h3171, okr_3171⟩
    · exact ⟨h174, ok_174⟩) ?_
  rw [e1, e2, e3]
  exact hrun
theorem t_X11_factor_5 (hfl : l.stackTraces = false) (h123 : SatM l G 123 (E 123)) (h126 : SatM l G 126 (E 126)) (h144 : SatM l G 144 (E 144)) (h146 : SatM l G 146 (E 146)) (h151 : SatM l G 151 (E 151)) (h155 : SatM l G 155 (E 155)) (h166 : SatM l G 166 (E 166)) (h4171 : SatM l G 4171 (E 4171)) (h174 : SatM l G 174 (E 174)) (hrun : ∀ as M, (S as M).1 → (lg_sl as).length ≤ 4 ∧ Run (gT G) E 0 0 (fun _ _ => none) (S as M).2.1 (S as M).2.2 (kX11_factor 5) 0 (ent as 4) [] M 0 0) : SatM l G 5128 S := by
  have e1 : cL9 5128 = 4 := rfl
  have e2 : cM 5128 = 0 := rfl
  have e3 : cS 5128 = 0 := rfl
  refine sat_of (E := E) (ids := [123, 126, 144, 146, 151, 155, 166, 4171, 174]) hfl okr_5128 rfl rfl oX11_factor_5 (by
    intro id h
    simp only [List.mem_cons, List.not_mem_nil, or_false] at h
    rcases h with rfl | rfl | rfl | rfl | rfl | rfl | rfl | rfl | rfl
    · exact ⟨h123, ok_123⟩
    · exact ⟨h126, ok_126⟩
    · exact ⟨h144, ok_144⟩
    · exact ⟨h146, ok_146⟩
    · exact ⟨h151, ok_151⟩
    · exact ⟨h155, ok_155⟩
    · exact ⟨h166, ok_166⟩
    · exact ⟨h4171, okr_4171⟩
    · exact ⟨h174, ok_174⟩) ?_
  rw [e1, e2, e3]
  exact hrun
theorem t_X11_factor_6 (hfl : l.stackTraces = false) (h123 : SatM l G 123 (E 123)) (h126 : SatM l G 126 (E 126)) (h144 : SatM l G 144 (E 144)) (h146 : SatM l G 146 (E 146)) (h151 : SatM l G 151 (E 151)) (h155 : SatM l G 155 (E 155)) (h166 : SatM l G 166 (E 166)) (h5171 : SatM l G 5171 (E 5171)) (h174 : SatM l G 174 (E 174)) (hrun : ∀ as M, (S as M).1 → (lg_sl as).length ≤ 4 ∧ Run (gT G) E 0 0 (fun _ _ => none) (S as M).2.1 (S as M).2.2 (kX11_factor 6) 0 (ent as 4) [] M 0 0) : SatM l G 6128 S := by
  have e1 : cL9 6128 = 4 := rfl
  have e2 : cM 6128 = 0 := rfl
  have e3 : cS 6128 = 0 := rfl
  refine sat_of (E := E) (ids := [123, 126, 144, 146, 151, 155, 166, 5171, 174]) hfl okr_6128 rfl rfl oX11_factor_6 (by
    intro id h
    simp only [List.mem_cons, List.not_mem_nil, or_false] at h
    rcases h with rfl | rfl | rfl | rfl | rfl | rfl | rfl | rfl | rfl
    · exact ⟨h123, ok_123⟩
    · exact ⟨h126, ok_126⟩
    · exact ⟨h144, ok_144⟩
    · exact ⟨h146, ok_146⟩
    · exact ⟨h151, ok_151⟩
    · exact ⟨h155, ok_155⟩
    · exact ⟨h166, ok_166⟩
    · exact ⟨h5171, okr_5171⟩
    · exact ⟨h174, ok_174⟩) ?_
  rw [e1, e2, e3]
  exact hrun
theorem t_X11_fails (hfl : l.stackTraces = false)  (hrun : ∀ as M, (S as M).1 → (lg_sl as).length ≤ 3 ∧ Run (gT G) E 0 0 (fun _ _ => none) (S as M).2.1 (S as M).2.2 kX11_fails 0 (ent as 3) [] M 0 0) : SatM l G 129 S := by
  have e1 : cL9 129 = 3 := rfl
  have e2 : cM 129 = 0 := rfl
  have e3 : cS 129 = 0 := rfl
  refine sat_of (E := E) (ids := []) hfl ok_129 rfl rfl oX11_fails (fun _ h => by cases h) ?_
  rw [e1, e2, e3]
  exact hrun
theorem t_X11_fairHours (hfl : l.stackTraces = false) (h120 : SatM l G 120 (E 120)) (h129 : SatM l G 129 (E 129)) (h139 : SatM l G 139 (E 139)) (h154 : SatM l G 154 (E 154)) (hrun : ∀ as M, (S as M).1 → (lg_sl as).length ≤ 9 ∧ Run (gT G) E 0 0 (fun _ _ => none) (S as M).2.1 (S as M).2.2 kX11_fairHours 0 (ent as 9) [] M 0 0) : SatM l G 130 S := by
  have e1 : cL9 130 = 9 := rfl
  have e2 : cM 130 = 0 := rfl
  have e3 : cS 130 = 0 := rfl
  refine sat_of (E := E) (ids := [120, 129, 139, 154]) hfl ok_130 rfl rfl oX11_fairHours (by
    intro id h
    simp only [List.mem_cons, List.not_mem_nil, or_false] at h
    rcases h with rfl | rfl | rfl | rfl
    · exact ⟨h120, ok_120⟩
    · exact ⟨h129, ok_129⟩
    · exact ⟨h139, ok_139⟩
    · exact ⟨h154, ok_154⟩) ?_
  rw [e1, e2, e3]
  exact hrun
theorem t_X11_field (hfl : l.stackTraces = false)  (hrun : ∀ as M, (S as M).1 → (lg_sl as).length ≤ 1 ∧ Run (gT G) E 0 0 (fun _ _ => none) (S as M).2.1 (S as M).2.2 kX11_field 0 (ent as 1) [] M 0 0) : SatM l G 131 S := by
  have e1 : cL9 131 = 1 := rfl
  have e2 : cM 131 = 0 := rfl
  have e3 : cS 131 = 0 := rfl
  refine sat_of (E := E) (ids := []) hfl ok_131 rfl rfl oX11_field (fun _ h => by cases h) ?_
  rw [e1, e2, e3]
  exact hrun
theorem t_X11_fieldCount (hfl : l.stackTraces = false)  (hrun : ∀ as M, (S as M).1 → (lg_sl as).length ≤ 1 ∧ Run (gT G) E 0 0 (fun _ _ => none) (S as M).2.1 (S as M).2.2 kX11_fieldCount 0 (ent as 1) [] M 0 0) : SatM l G 132 S := by
  have e1 : cL9 132 = 1 := rfl
  have e2 : cM 132 = 0 := rfl
  have e3 : cS 132 = 0 := rfl
  refine sat_of (E := E) (ids := []) hfl ok_132 rfl rfl oX11_fieldCount (fun _ h => by cases h) ?_
  rw [e1, e2, e3]
  exact hrun
theorem t_X11_findOpen (hfl : l.stackTraces = false) (h113 : SatM l G 113 (E 113)) (h131 : SatM l G 131 (E 131)) (h156 : SatM l G 156 (E 156)) (hrun : ∀ as M, (S as M).1 → (lg_sl as).length ≤ 3 ∧ Run (gT G) E 0 0 (fun _ _ => none) (S as M).2.1 (S as M).2.2 kX11_findOpen 0 (ent as 3) [] M 0 0) : SatM l G 133 S := by
  have e1 : cL9 133 = 3 := rfl
  have e2 : cM 133 = 0 := rfl
  have e3 : cS 133 = 0 := rfl
  refine sat_of (E := E) (ids := [113, 131, 156]) hfl ok_133 rfl rfl oX11_findOpen (by
    intro id h
    simp only [List.mem_cons, List.not_mem_nil, or_false] at h
    rcases h with rfl | rfl | rfl
    · exact ⟨h113, ok_113⟩
    · exact ⟨h131, ok_131⟩
    · exact ⟨h156, ok_156⟩) ?_
  rw [e1, e2, e3]
  exact hrun
theorem t_X11_fines (hfl : l.stackTraces = false) (h154 : SatM l G 154 (E 154)) (hrun : ∀ as M, (S as M).1 → (lg_sl as).length ≤ 2 ∧ Run (gT G) E 0 0 (fun _ _ => none) (S as M).2.1 (S as M).2.2 kX11_fines 0 (ent as 2) [] M 0 0) : SatM l G 134 S := by
  have e1 : cL9 134 = 2 := rfl
  have e2 : cM 134 = 0 := rfl
  have e3 : cS 134 = 0 := rfl
  refine sat_of (E := E) (ids := [154]) hfl ok_134 rfl rfl oX11_fines (by
    intro id h
    simp only [List.mem_cons, List.not_mem_nil, or_false] at h
    subst h
    exact ⟨h154, ok_154⟩) ?_
  rw [e1, e2, e3]
  exact hrun
theorem t_X11_force (hfl : l.stackTraces = false) (h129 : SatM l G 129 (E 129)) (h131 : SatM l G 131 (E 131)) (h153 : SatM l G 153 (E 153)) (h165 : SatM l G 165 (E 165)) (hrun : ∀ as M, (S as M).1 → (lg_sl as).length ≤ 4 ∧ Run (gT G) E 0 0 (fun _ _ => none) (S as M).2.1 (S as M).2.2 kX11_force 0 (ent as 4) [] M 0 0) : SatM l G 135 S := by
  have e1 : cL9 135 = 4 := rfl
  have e2 : cM 135 = 0 := rfl
  have e3 : cS 135 = 0 := rfl
  refine sat_of (E := E) (ids := [129, 131, 153, 165]) hfl ok_135 rfl rfl oX11_force (by
    intro id h
    simp only [List.mem_cons, List.not_mem_nil, or_false] at h
    rcases h with rfl | rfl | rfl | rfl
    · exact ⟨h129, ok_129⟩
    · exact ⟨h131, ok_131⟩
    · exact ⟨h153, ok_153⟩
    · exact ⟨h165, ok_165⟩) ?_
  rw [e1, e2, e3]
  exact hrun
theorem t_X11_guard (hfl : l.stackTraces = false)  (hrun : ∀ as M, (S as M).1 → (lg_sl as).length ≤ 1 ∧ Run (gT G) E 0 0 (fun _ _ => none) (S as M).2.1 (S as M).2.2 kX11_guard 0 (ent as 1) [] M 0 0) : SatM l G 136 S := by
  have e1 : cL9 136 = 1 := rfl
  have e2 : cM 136 = 0 := rfl
  have e3 : cS 136 = 0 := rfl
  refine sat_of (E := E) (ids := []) hfl ok_136 rfl rfl oX11_guard (fun _ h => by cases h) ?_
  rw [e1, e2, e3]
  exact hrun
theorem t_X11_guardAt (hfl : l.stackTraces = false) (h136 : SatM l G 136 (E 136)) (hrun : ∀ as M, (S as M).1 → (lg_sl as).length ≤ 1 ∧ Run (gT G) E 0 0 (fun _ _ => none) (S as M).2.1 (S as M).2.2 kX11_guardAt 0 (ent as 1) [] M 0 0) : SatM l G 137 S := by
  have e1 : cL9 137 = 1 := rfl
  have e2 : cM 137 = 0 := rfl
  have e3 : cS 137 = 0 := rfl
  refine sat_of (E := E) (ids := [136]) hfl ok_137 rfl rfl oX11_guardAt (by
    intro id h
    simp only [List.mem_cons, List.not_mem_nil, or_false] at h
    subst h
    exact ⟨h136, ok_136⟩) ?_
  rw [e1, e2, e3]
  exact hrun
theorem t_X11_hoursUntil (hfl : l.stackTraces = false) (h117 : SatM l G 117 (E 117)) (h129 : SatM l G 129 (E 129)) (h131 : SatM l G 131 (E 131)) (h139 : SatM l G 139 (E 139)) (h153 : SatM l G 153 (E 153)) (h168 : SatM l G 168 (E 168)) (hrun : ∀ as M, (S as M).1 → (lg_sl as).length ≤ 5 ∧ Run (gT G) E 0 0 (fun _ _ => none) (S as M).2.1 (S as M).2.2 kX11_hoursUntil 0 (ent as 5) [] M 0 0) : SatM l G 138 S := by
  have e1 : cL9 138 = 5 := rfl
  have e2 : cM 138 = 0 := rfl
  have e3 : cS 138 = 0 := rfl
  refine sat_of (E := E) (ids := [117, 129, 131, 139, 153, 168]) hfl ok_138 rfl rfl oX11_hoursUntil (by
    intro id h
    simp only [List.mem_cons, List.not_mem_nil, or_false] at h
    rcases h with rfl | rfl | rfl | rfl | rfl | rfl
    · exact ⟨h117, ok_117⟩
    · exact ⟨h129, ok_129⟩
    · exact ⟨h131, ok_131⟩
    · exact ⟨h139, ok_139⟩
    · exact ⟨h153, ok_153⟩
    · exact ⟨h168, ok_168⟩) ?_
  rw [e1, e2, e3]
  exact hrun
theorem t_X11_in (hfl : l.stackTraces = false)  (hrun : ∀ as M, (S as M).1 → (lg_sl as).length ≤ 3 ∧ Run (gT G) E 0 0 (fun _ _ => none) (S as M).2.1 (S as M).2.2 kX11_in 0 (ent as 3) [] M 0 0) : SatM l G 139 S := by
  have e1 : cL9 139 = 3 := rfl
  have e2 : cM 139 = 0 := rfl
  have e3 : cS 139 = 0 := rfl
  refine sat_of (E := E) (ids := []) hfl ok_139 rfl rfl oX11_in (fun _ h => by cases h) ?_
  rw [e1, e2, e3]
  exact hrun
theorem t_X11_inflow (hfl : l.stackTraces = false) (h129 : SatM l G 129 (E 129)) (h139 : SatM l G 139 (E 139)) (h141 : SatM l G 141 (E 141)) (hrun : ∀ as M, (S as M).1 → (lg_sl as).length ≤ 2 ∧ Run (gT G) E 0 0 (fun _ _ => none) (S as M).2.1 (S as M).2.2 kX11_inflow 0 (ent as 2) [] M 0 0) : SatM l G 140 S := by
  have e1 : cL9 140 = 2 := rfl
  have e2 : cM 140 = 0 := rfl
  have e3 : cS 140 = 0 := rfl
  refine sat_of (E := E) (ids := [129, 139, 141]) hfl ok_140 rfl rfl oX11_inflow (by
    intro id h
    simp only [List.mem_cons, List.not_mem_nil, or_false] at h
    rcases h with rfl | rfl | rfl
    · exact ⟨h129, ok_129⟩
    · exact ⟨h139, ok_139⟩
    · exact ⟨h141, ok_141⟩) ?_
  rw [e1, e2, e3]
  exact hrun
theorem t_X11_inflowOf (hfl : l.stackTraces = false) (h157 : SatM l G 157 (E 157)) (h180 : SatM l G 180 (E 180)) (hrun : ∀ as M, (S as M).1 → (lg_sl as).length ≤ 8 ∧ Run (gT G) E 0 0 (fun _ _ => none) (S as M).2.1 (S as M).2.2 kX11_inflowOf 0 (ent as 8) [] M 0 0) : SatM l G 141 S := by
  have e1 : cL9 141 = 8 := rfl
  have e2 : cM 141 = 0 := rfl
  have e3 : cS 141 = 0 := rfl
  refine sat_of (E := E) (ids := [157, 180]) hfl ok_141 rfl rfl oX11_inflowOf (by
    intro id h
    simp only [List.mem_cons, List.not_mem_nil, or_false] at h
    rcases h with rfl | rfl
    · exact ⟨h157, ok_157⟩
    · exact ⟨h180, ok_180⟩) ?_
  rw [e1, e2, e3]
  exact hrun
theorem t_X11_init (hfl : l.stackTraces = false)  (hrun : ∀ as M, (S as M).1 → (lg_sl as).length ≤ 1 ∧ Run (gT G) E 16 22059 (fun _ _ => none) (S as M).2.1 (S as M).2.2 kX11_init 0 (ent as 1) [] M 0 0) : SatM l G 142 S := by
  have e1 : cL9 142 = 1 := rfl
  have e2 : cM 142 = 16 := rfl
  have e3 : cS 142 = 22059 := rfl
  refine sat_of (E := E) (ids := []) hfl ok_142 rfl rfl oX11_init (fun _ h => by cases h) ?_
  rw [e1, e2, e3]
  exact hrun
theorem t_X11_irrigate (hfl : l.stackTraces = false) (h131 : SatM l G 131 (E 131)) (h150 : SatM l G 150 (E 150)) (hrun : ∀ as M, (S as M).1 → (lg_sl as).length ≤ 9 ∧ Run (gT G) E 0 0 (fun _ _ => none) (S as M).2.1 (S as M).2.2 kX11_irrigate 0 (ent as 9) [] M 0 0) : SatM l G 143 S := by
  have e1 : cL9 143 = 9 := rfl
  have e2 : cM 143 = 0 := rfl
  have e3 : cS 143 = 0 := rfl
  refine sat_of (E := E) (ids := [131, 150]) hfl ok_143 rfl rfl oX11_irrigate (by
    intro id h
    simp only [List.mem_cons, List.not_mem_nil, or_false] at h
    rcases h with rfl | rfl
    · exact ⟨h131, ok_131⟩
    · exact ⟨h150, ok_150⟩) ?_
  rw [e1, e2, e3]
  exact hrun
theorem t_X11_isDigit (hfl : l.stackTraces = false) (h139 : SatM l G 139 (E 139)) (hrun : ∀ as M, (S as M).1 → (lg_sl as).length ≤ 1 ∧ Run (gT G) E 0 0 (fun _ _ => none) (S as M).2.1 (S as M).2.2 kX11_isDigit 0 (ent as 1) [] M 0 0) : SatM l G 144 S := by
  have e1 : cL9 144 = 1 := rfl
  have e2 : cM 144 = 0 := rfl
  have e3 : cS 144 = 0 := rfl
  refine sat_of (E := E) (ids := [139]) hfl ok_144 rfl rfl oX11_isDigit (by
    intro id h
    simp only [List.mem_cons, List.not_mem_nil, or_false] at h
    subst h
    exact ⟨h139, ok_139⟩) ?_
  rw [e1, e2, e3]
  exact hrun
theorem t_X11_isForced (hfl : l.stackTraces = false) (h131 : SatM l G 131 (E 131)) (h153 : SatM l G 153 (E 153)) (hrun : ∀ as M, (S as M).1 → (lg_sl as).length ≤ 2 ∧ Run (gT G) E 0 0 (fun _ _ => none) (S as M).2.1 (S as M).2.2 kX11_isForced 0 (ent as 2) [] M 0 0) : SatM l G 145 S := by
  have e1 : cL9 145 = 2 := rfl
  have e2 : cM 145 = 0 := rfl
  have e3 : cS 145 = 0 := rfl
  refine sat_of (E := E) (ids := [131, 153]) hfl ok_145 rfl rfl oX11_isForced (by
    intro id h
    simp only [List.mem_cons, List.not_mem_nil, or_false] at h
    rcases h with rfl | rfl
    · exact ⟨h131, ok_131⟩
    · exact ⟨h153, ok_153⟩) ?_
  rw [e1, e2, e3]
  exact hrun
theorem t_X11_isGood (hfl : l.stackTraces = false)  (hrun : ∀ as M, (S as M).1 → (lg_sl as).length ≤ 1 ∧ Run (gT G) E 0 0 (fun _ _ => none) (S as M).2.1 (S as M).2.2 kX11_isGood 0 (ent as 1) [] M 0 0) : SatM l G 146 S := by
  have e1 : cL9 146 = 1 := rfl
  have e2 : cM 146 = 0 := rfl
  have e3 : cS 146 = 0 := rfl
  refine sat_of (E := E) (ids := []) hfl ok_146 rfl rfl oX11_isGood (fun _ h => by cases h) ?_
  rw [e1, e2, e3]
  exact hrun
theorem t_X11_isOpen (hfl : l.stackTraces = false) (h153 : SatM l G 153 (E 153)) (h156 : SatM l G 156 (E 156)) (hrun : ∀ as M, (S as M).1 → (lg_sl as).length ≤ 2 ∧ Run (gT G) E 0 0 (fun _ _ => none) (S as M).2.1 (S as M).2.2 kX11_isOpen 0 (ent as 2) [] M 0 0) : SatM l G 147 S := by
  have e1 : cL9 147 = 2 := rfl
  have e2 : cM 147 = 0 := rfl
  have e3 : cS 147 = 0 := rfl
  refine sat_of (E := E) (ids := [153, 156]) hfl ok_147 rfl rfl oX11_isOpen (by
    intro id h
    simp only [List.mem_cons, List.not_mem_nil, or_false] at h
    rcases h with rfl | rfl
    · exact ⟨h153, ok_153⟩
    · exact ⟨h156, ok_156⟩) ?_
  rw [e1, e2, e3]
  exact hrun
theorem t_X11_limited (hfl : l.stackTraces = false)  (hrun : ∀ as M, (S as M).1 → (lg_sl as).length ≤ 2 ∧ Run (gT G) E 0 0 (fun _ _ => none) (S as M).2.1 (S as M).2.2 kX11_limited 0 (ent as 2) [] M 0 0) : SatM l G 148 S := by
  have e1 : cL9 148 = 2 := rfl
  have e2 : cM 148 = 0 := rfl
  have e3 : cS 148 = 0 := rfl
  refine sat_of (E := E) (ids := []) hfl ok_148 rfl rfl oX11_limited (fun _ h => by cases h) ?_
  rw [e1, e2, e3]
  exact hrun
theorem t_X11_load (hfl : l.stackTraces = false) (h117 : SatM l G 117 (E 117)) (h129 : SatM l G 129 (E 129)) (h139 : SatM l G 139 (E 139)) (h146 : SatM l G 146 (E 146)) (h151 : SatM l G 151 (E 151)) (h165 : SatM l G 165 (E 165)) (h169 : SatM l G 169 (E 169)) (hrun : ∀ as M, (S as M).1 → (lg_sl as).length ≤ 3 ∧ Run (gT G) E 0 0 (fun _ _ => none) (S as M).2.1 (S as M).2.2 kX11_load 0 (ent as 3) [] M 0 0) : SatM l G 149 S := by
  have e1 : cL9 149 = 3 := rfl
  have e2 : cM 149 = 0 := rfl
  have e3 : cS 149 = 0 := rfl
  refine sat_of (E := E) (ids := [117, 129, 139, 146, 151, 165, 169]) hfl ok_149 rfl rfl oX11_load (by
    intro id h
    simp only [List.mem_cons, List.not_mem_nil, or_false] at h
    rcases h with rfl | rfl | rfl | rfl | rfl | rfl | rfl
    · exact ⟨h117, ok_117⟩
    · exact ⟨h129, ok_129⟩
    · exact ⟨h139, ok_139⟩
    · exact ⟨h146, ok_146⟩
    · exact ⟨h151, ok_151⟩
    · exact ⟨h165, ok_165⟩
    · exact ⟨h169, ok_169⟩) ?_
  rw [e1, e2, e3]
  exact hrun
theorem t_X11_min (hfl : l.stackTraces = false)  (hrun : ∀ as M, (S as M).1 → (lg_sl as).length ≤ 2 ∧ Run (gT G) E 0 0 (fun _ _ => none) (S as M).2.1 (S as M).2.2 kX11_min 0 (ent as 2) [] M 0 0) : SatM l G 150 S := by
  have e1 : cL9 150 = 2 := rfl
  have e2 : cM 150 = 0 := rfl
  have e3 : cS 150 = 0 := rfl
  refine sat_of (E := E) (ids := []) hfl ok_150 rfl rfl oX11_min (fun _ h => by cases h) ?_
  rw [e1, e2, e3]
  exact hrun
theorem t_X11_next (hfl : l.stackTraces = false) (h112 : SatM l G 112 (E 112)) (hrun : ∀ as M, (S as M).1 → (lg_sl as).length ≤ 1 ∧ Run (gT G) E 0 0 (fun _ _ => none) (S as M).2.1 (S as M).2.2 kX11_next 0 (ent as 1) [] M 0 0) : SatM l G 151 S := by
  have e1 : cL9 151 = 1 := rfl
  have e2 : cM 151 = 0 := rfl
  have e3 : cS 151 = 0 := rfl
  refine sat_of (E := E) (ids := [112]) hfl ok_151 rfl rfl oX11_next (by
    intro id h
    simp only [List.mem_cons, List.not_mem_nil, or_false] at h
    subst h
    exact ⟨h112, ok_112⟩) ?_
  rw [e1, e2, e3]
  exact hrun
theorem t_X11_noCanal (hfl : l.stackTraces = false) (h129 : SatM l G 129 (E 129)) (h139 : SatM l G 139 (E 139)) (hrun : ∀ as M, (S as M).1 → (lg_sl as).length ≤ 2 ∧ Run (gT G) E 0 0 (fun _ _ => none) (S as M).2.1 (S as M).2.2 kX11_noCanal 0 (ent as 2) [] M 0 0) : SatM l G 152 S := by
  have e1 : cL9 152 = 2 := rfl
  have e2 : cM 152 = 0 := rfl
  have e3 : cS 152 = 0 := rfl
  refine sat_of (E := E) (ids := [129, 139]) hfl ok_152 rfl rfl oX11_noCanal (by
    intro id h
    simp only [List.mem_cons, List.not_mem_nil, or_false] at h
    rcases h with rfl | rfl
    · exact ⟨h129, ok_129⟩
    · exact ⟨h139, ok_139⟩) ?_
  rw [e1, e2, e3]
  exact hrun
theorem t_X11_noField (hfl : l.stackTraces = false) (h129 : SatM l G 129 (E 129)) (h139 : SatM l G 139 (E 139)) (hrun : ∀ as M, (S as M).1 → (lg_sl as).length ≤ 2 ∧ Run (gT G) E 0 0 (fun _ _ => none) (S as M).2.1 (S as M).2.2 kX11_noField 0 (ent as 2) [] M 0 0) : SatM l G 153 S := by
  have e1 : cL9 153 = 2 := rfl
  have e2 : cM 153 = 0 := rfl
  have e3 : cS 153 = 0 := rfl
  refine sat_of (E := E) (ids := [129, 139]) hfl ok_153 rfl rfl oX11_noField (by
    intro id h
    simp only [List.mem_cons, List.not_mem_nil, or_false] at h
    rcases h with rfl | rfl
    · exact ⟨h129, ok_129⟩
    · exact ⟨h139, ok_139⟩) ?_
  rw [e1, e2, e3]
  exact hrun
theorem t_X11_noVillage (hfl : l.stackTraces = false) (h129 : SatM l G 129 (E 129)) (h139 : SatM l G 139 (E 139)) (hrun : ∀ as M, (S as M).1 → (lg_sl as).length ≤ 2 ∧ Run (gT G) E 0 0 (fun _ _ => none) (S as M).2.1 (S as M).2.2 kX11_noVillage 0 (ent as 2) [] M 0 0) : SatM l G 154 S := by
  have e1 : cL9 154 = 2 := rfl
  have e2 : cM 154 = 0 := rfl
  have e3 : cS 154 = 0 := rfl
  refine sat_of (E := E) (ids := [129, 139]) hfl ok_154 rfl rfl oX11_noVillage (by
    intro id h
    simp only [List.mem_cons, List.not_mem_nil, or_false] at h
    rcases h with rfl | rfl
    · exact ⟨h129, ok_129⟩
    · exact ⟨h139, ok_139⟩) ?_
  rw [e1, e2, e3]
  exact hrun
theorem t_X11_number (hfl : l.stackTraces = false) (h112 : SatM l G 112 (E 112)) (h139 : SatM l G 139 (E 139)) (h144 : SatM l G 144 (E 144)) (h146 : SatM l G 146 (E 146)) (h150 : SatM l G 150 (E 150)) (h151 : SatM l G 151 (E 151)) (h166 : SatM l G 166 (E 166)) (hrun : ∀ as M, (S as M).1 → (lg_sl as).length ≤ 4 ∧ Run (gT G) E 0 0 (fun _ _ => none) (S as M).2.1 (S as M).2.2 kX11_number 0 (ent as 4) [] M 0 0) : SatM l G 155 S := by
  have e1 : cL9 155 = 4 := rfl
  have e2 : cM 155 = 0 := rfl
  have e3 : cS 155 = 0 := rfl
  refine sat_of (E := E) (ids := [112, 139, 144, 146, 150, 151, 166]) hfl ok_155 rfl rfl oX11_number (by
    intro id h
    simp only [List.mem_cons, List.not_mem_nil, or_false] at h
    rcases h with rfl | rfl | rfl | rfl | rfl | rfl | rfl
    · exact ⟨h112, ok_112⟩
    · exact ⟨h139, ok_139⟩
    · exact ⟨h144, ok_144⟩
    · exact ⟨h146, ok_146⟩
    · exact ⟨h150, ok_150⟩
    · exact ⟨h151, ok_151⟩
    · exact ⟨h166, ok_166⟩) ?_
  rw [e1, e2, e3]
  exact hrun
theorem t_X11_open (hfl : l.stackTraces = false) (h131 : SatM l G 131 (E 131)) (h180 : SatM l G 180 (E 180)) (hrun : ∀ as M, (S as M).1 → (lg_sl as).length ≤ 2 ∧ Run (gT G) E 0 0 (fun _ _ => none) (S as M).2.1 (S as M).2.2 kX11_open 0 (ent as 2) [] M 0 0) : SatM l G 156 S := by
  have e1 : cL9 156 = 2 := rfl
  have e2 : cM 156 = 0 := rfl
  have e3 : cS 156 = 0 := rfl
  refine sat_of (E := E) (ids := [131, 180]) hfl ok_156 rfl rfl oX11_open (by
    intro id h
    simp only [List.mem_cons, List.not_mem_nil, or_false] at h
    rcases h with rfl | rfl
    · exact ⟨h131, ok_131⟩
    · exact ⟨h180, ok_180⟩) ?_
  rw [e1, e2, e3]
  exact hrun
theorem t_X11_operate (hfl : l.stackTraces = false) (h148 : SatM l G 148 (E 148)) (hrun : ∀ as M, (S as M).1 → (lg_sl as).length ≤ 5 ∧ Run (gT G) E 0 0 (fun _ _ => none) (S as M).2.1 (S as M).2.2 kX11_operate 0 (ent as 5) [] M 0 0) : SatM l G 157 S := by
  have e1 : cL9 157 = 5 := rfl
  have e2 : cM 157 = 0 := rfl
  have e3 : cS 157 = 0 := rfl
  refine sat_of (E := E) (ids := [148]) hfl ok_157 rfl rfl oX11_operate (by
    intro id h
    simp only [List.mem_cons, List.not_mem_nil, or_false] at h
    subst h
    exact ⟨h148, ok_148⟩) ?_
  rw [e1, e2, e3]
  exact hrun
theorem t_X11_parent (hfl : l.stackTraces = false) (h113 : SatM l G 113 (E 113)) (h152 : SatM l G 152 (E 152)) (hrun : ∀ as M, (S as M).1 → (lg_sl as).length ≤ 2 ∧ Run (gT G) E 0 0 (fun _ _ => none) (S as M).2.1 (S as M).2.2 kX11_parent 0 (ent as 2) [] M 0 0) : SatM l G 158 S := by
  have e1 : cL9 158 = 2 := rfl
  have e2 : cM 158 = 0 := rfl
  have e3 : cS 158 = 0 := rfl
  refine sat_of (E := E) (ids := [113, 152]) hfl ok_158 rfl rfl oX11_parent (by
    intro id h
    simp only [List.mem_cons, List.not_mem_nil, or_false] at h
    rcases h with rfl | rfl
    · exact ⟨h113, ok_113⟩
    · exact ⟨h152, ok_152⟩) ?_
  rw [e1, e2, e3]
  exact hrun
theorem t_X11_patrol (hfl : l.stackTraces = false) (h131 : SatM l G 131 (E 131)) (h136 : SatM l G 136 (E 136)) (hrun : ∀ as M, (S as M).1 → (lg_sl as).length ≤ 3 ∧ Run (gT G) E 0 0 (fun _ _ => none) (S as M).2.1 (S as M).2.2 kX11_patrol 0 (ent as 3) [] M 0 0) : SatM l G 159 S := by
  have e1 : cL9 159 = 3 := rfl
  have e2 : cM 159 = 0 := rfl
  have e3 : cS 159 = 0 := rfl
  refine sat_of (E := E) (ids := [131, 136]) hfl ok_159 rfl rfl oX11_patrol (by
    intro id h
    simp only [List.mem_cons, List.not_mem_nil, or_false] at h
    rcases h with rfl | rfl
    · exact ⟨h131, ok_131⟩
    · exact ⟨h136, ok_136⟩) ?_
  rw [e1, e2, e3]
  exact hrun
theorem t_X11_readCanal (hfl : l.stackTraces = false) (h113 : SatM l G 113 (E 113)) (h146 : SatM l G 146 (E 146)) (h155 : SatM l G 155 (E 155)) (h166 : SatM l G 166 (E 166)) (h174 : SatM l G 174 (E 174)) (hrun : ∀ as M, (S as M).1 → (lg_sl as).length ≤ 3 ∧ Run (gT G) E 0 0 (fun _ _ => none) (S as M).2.1 (S as M).2.2 kX11_readCanal 0 (ent as 3) [] M 0 0) : SatM l G 160 S := by
  have e1 : cL9 160 = 3 := rfl
  have e2 : cM 160 = 0 := rfl
  have e3 : cS 160 = 0 := rfl
  refine sat_of (E := E) (ids := [113, 146, 155, 166, 174]) hfl ok_160 rfl rfl oX11_readCanal (by
    intro id h
    simp only [List.mem_cons, List.not_mem_nil, or_false] at h
    rcases h with rfl | rfl | rfl | rfl | rfl
    · exact ⟨h113, ok_113⟩
    · exact ⟨h146, ok_146⟩
    · exact ⟨h155, ok_155⟩
    · exact ⟨h166, ok_166⟩
    · exact ⟨h174, ok_174⟩) ?_
  rw [e1, e2, e3]
  exact hrun
theorem t_X11_readField (hfl : l.stackTraces = false) (h131 : SatM l G 131 (E 131)) (h146 : SatM l G 146 (E 146)) (h155 : SatM l G 155 (E 155)) (h166 : SatM l G 166 (E 166)) (h174 : SatM l G 174 (E 174)) (hrun : ∀ as M, (S as M).1 → (lg_sl as).length ≤ 3 ∧ Run (gT G) E 0 0 (fun _ _ => none) (S as M).2.1 (S as M).2.2 kX11_readField 0 (ent as 3) [] M 0 0) : SatM l G 161 S := by
  have e1 : cL9 161 = 3 := rfl
  have e2 : cM 161 = 0 := rfl
  have e3 : cS 161 = 0 := rfl
  refine sat_of (E := E) (ids := [131, 146, 155, 166, 174]) hfl ok_161 rfl rfl oX11_readField (by
    intro id h
    simp only [List.mem_cons, List.not_mem_nil, or_false] at h
    rcases h with rfl | rfl | rfl | rfl | rfl
    · exact ⟨h131, ok_131⟩
    · exact ⟨h146, ok_146⟩
    · exact ⟨h155, ok_155⟩
    · exact ⟨h166, ok_166⟩
    · exact ⟨h174, ok_174⟩) ?_
  rw [e1, e2, e3]
  exact hrun
theorem t_X11_readGuard (hfl : l.stackTraces = false) (h144 : SatM l G 144 (E 144)) (h146 : SatM l G 146 (E 146)) (h151 : SatM l G 151 (E 151)) (h155 : SatM l G 155 (E 155)) (h166 : SatM l G 166 (E 166)) (hrun : ∀ as M, (S as M).1 → (lg_sl as).length ≤ 3 ∧ Run (gT G) E 0 0 (fun _ _ => none) (S as M).2.1 (S as M).2.2 kX11_readGuard 0 (ent as 3) [] M 0 0) : SatM l G 162 S := by
  have e1 : cL9 162 = 3 := rfl
  have e2 : cM 162 = 0 := rfl
  have e3 : cS 162 = 0 := rfl
  refine sat_of (E := E) (ids := [144, 146, 151, 155, 166]) hfl ok_162 rfl rfl oX11_readGuard (by
    intro id h
    simp only [List.mem_cons, List.not_mem_nil, or_false] at h
    rcases h with rfl | rfl | rfl | rfl | rfl
    · exact ⟨h144, ok_144⟩
    · exact ⟨h146, ok_146⟩
    · exact ⟨h151, ok_151⟩
    · exact ⟨h155, ok_155⟩
    · exact ⟨h166, ok_166⟩) ?_
  rw [e1, e2, e3]
  exact hrun
theorem t_X11_readInflow (hfl : l.stackTraces = false) (h166 : SatM l G 166 (E 166)) (h6171 : SatM l G 6171 (E 6171)) (hrun : ∀ as M, (S as M).1 → (lg_sl as).length ≤ 2 ∧ Run (gT G) E 0 0 (fun _ _ => none) (S as M).2.1 (S as M).2.2 kX11_readInflow 0 (ent as 2) [] M 0 0) : SatM l G 163 S := by
  have e1 : cL9 163 = 2 := rfl
  have e2 : cM 163 = 0 := rfl
  have e3 : cS 163 = 0 := rfl
  refine sat_of (E := E) (ids := [166, 6171]) hfl ok_163 rfl rfl oX11_readInflow (by
    intro id h
    simp only [List.mem_cons, List.not_mem_nil, or_false] at h
    rcases h with rfl | rfl
    · exact ⟨h166, ok_166⟩
    · exact ⟨h6171, okr_6171⟩) ?_
  rw [e1, e2, e3]
  exact hrun
theorem t_X11_readTurn (hfl : l.stackTraces = false) (h146 : SatM l G 146 (E 146)) (h155 : SatM l G 155 (E 155)) (h166 : SatM l G 166 (E 166)) (hrun : ∀ as M, (S as M).1 → (lg_sl as).length ≤ 3 ∧ Run (gT G) E 0 0 (fun _ _ => none) (S as M).2.1 (S as M).2.2 kX11_readTurn 0 (ent as 3) [] M 0 0) : SatM l G 164 S := by
  have e1 : cL9 164 = 3 := rfl
  have e2 : cM 164 = 0 := rfl
  have e3 : cS 164 = 0 := rfl
  refine sat_of (E := E) (ids := [146, 155, 166]) hfl ok_164 rfl rfl oX11_readTurn (by
    intro id h
    simp only [List.mem_cons, List.not_mem_nil, or_false] at h
    rcases h with rfl | rfl | rfl
    · exact ⟨h146, ok_146⟩
    · exact ⟨h155, ok_155⟩
    · exact ⟨h166, ok_166⟩) ?_
  rw [e1, e2, e3]
  exact hrun
theorem t_X11_remember (hfl : l.stackTraces = false) (h117 : SatM l G 117 (E 117)) (hrun : ∀ as M, (S as M).1 → (lg_sl as).length ≤ 2 ∧ Run (gT G) E 0 0 (fun _ _ => none) (S as M).2.1 (S as M).2.2 kX11_remember 0 (ent as 2) [] M 0 0) : SatM l G 165 S := by
  have e1 : cL9 165 = 2 := rfl
  have e2 : cM 165 = 0 := rfl
  have e3 : cS 165 = 0 := rfl
  refine sat_of (E := E) (ids := [117]) hfl ok_165 rfl rfl oX11_remember (by
    intro id h
    simp only [List.mem_cons, List.not_mem_nil, or_false] at h
    subst h
    exact ⟨h117, ok_117⟩) ?_
  rw [e1, e2, e3]
  exact hrun
theorem t_X11_report (hfl : l.stackTraces = false)  (hrun : ∀ as M, (S as M).1 → (lg_sl as).length ≤ 3 ∧ Run (gT G) E 0 0 (fun _ _ => none) (S as M).2.1 (S as M).2.2 kX11_report 0 (ent as 3) [] M 0 0) : SatM l G 166 S := by
  have e1 : cL9 166 = 3 := rfl
  have e2 : cM 166 = 0 := rfl
  have e3 : cS 166 = 0 := rfl
  refine sat_of (E := E) (ids := []) hfl ok_166 rfl rfl oX11_report (fun _ h => by cases h) ?_
  rw [e1, e2, e3]
  exact hrun
theorem t_X11_run (hfl : l.stackTraces = false) (h129 : SatM l G 129 (E 129)) (h139 : SatM l G 139 (E 139)) (h165 : SatM l G 165 (E 165)) (h168 : SatM l G 168 (E 168)) (h176 : SatM l G 176 (E 176)) (hrun : ∀ as M, (S as M).1 → (lg_sl as).length ≤ 4 ∧ Run (gT G) E 0 0 (fun _ _ => none) (S as M).2.1 (S as M).2.2 kX11_run 0 (ent as 4) [] M 0 0) : SatM l G 167 S := by
  have e1 : cL9 167 = 4 := rfl
  have e2 : cM 167 = 0 := rfl
  have e3 : cS 167 = 0 := rfl
  refine sat_of (E := E) (ids := [129, 139, 165, 168, 176]) hfl ok_167 rfl rfl oX11_run (by
    intro id h
    simp only [List.mem_cons, List.not_mem_nil, or_false] at h
    rcases h with rfl | rfl | rfl | rfl | rfl
    · exact ⟨h129, ok_129⟩
    · exact ⟨h139, ok_139⟩
    · exact ⟨h165, ok_165⟩
    · exact ⟨h168, ok_168⟩
    · exact ⟨h176, ok_176⟩) ?_
  rw [e1, e2, e3]
  exact hrun
theorem t_X11_simulate (hfl : l.stackTraces = false) (h113 : SatM l G 113 (E 113)) (h121 : SatM l G 121 (E 121)) (h122 : SatM l G 122 (E 122)) (h124 : SatM l G 124 (E 124)) (h133 : SatM l G 133 (E 133)) (h141 : SatM l G 141 (E 141)) (h143 : SatM l G 143 (E 143)) (h159 : SatM l G 159 (E 159)) (h180 : SatM l G 180 (E 180)) (hrun : ∀ as M, (S as M).1 → (lg_sl as).length ≤ 7 ∧ Run (gT G) E 0 0 (fun _ _ => none) (S as M).2.1 (S as M).2.2 kX11_simulate 0 (ent as 7) [] M 0 0) : SatM l G 168 S := by
  have e1 : cL9 168 = 7 := rfl
  have e2 : cM 168 = 0 := rfl
  have e3 : cS 168 = 0 := rfl
  refine sat_of (E := E) (ids := [113, 121, 122, 124, 133, 141, 143, 159, 180]) hfl ok_168 rfl rfl oX11_simulate (by
    intro id h
    simp only [List.mem_cons, List.not_mem_nil, or_false] at h
    rcases h with rfl | rfl | rfl | rfl | rfl | rfl | rfl | rfl | rfl
    · exact ⟨h113, ok_113⟩
    · exact ⟨h121, ok_121⟩
    · exact ⟨h122, ok_122⟩
    · exact ⟨h124, ok_124⟩
    · exact ⟨h133, ok_133⟩
    · exact ⟨h141, ok_141⟩
    · exact ⟨h143, ok_143⟩
    · exact ⟨h159, ok_159⟩
    · exact ⟨h180, ok_180⟩) ?_
  rw [e1, e2, e3]
  exact hrun
theorem t_X11_statement (hfl : l.stackTraces = false) (h126 : SatM l G 126 (E 126)) (h151 : SatM l G 151 (E 151)) (h160 : SatM l G 160 (E 160)) (h161 : SatM l G 161 (E 161)) (h162 : SatM l G 162 (E 162)) (h163 : SatM l G 163 (E 163)) (h164 : SatM l G 164 (E 164)) (h166 : SatM l G 166 (E 166)) (h174 : SatM l G 174 (E 174)) (hrun : ∀ as M, (S as M).1 → (lg_sl as).length ≤ 2 ∧ Run (gT G) E 0 0 (fun _ _ => none) (S as M).2.1 (S as M).2.2 kX11_statement 0 (ent as 2) [] M 0 0) : SatM l G 169 S := by
  have e1 : cL9 169 = 2 := rfl
  have e2 : cM 169 = 0 := rfl
  have e3 : cS 169 = 0 := rfl
  refine sat_of (E := E) (ids := [126, 151, 160, 161, 162, 163, 164, 166, 174]) hfl ok_169 rfl rfl oX11_statement (by
    intro id h
    simp only [List.mem_cons, List.not_mem_nil, or_false] at h
    rcases h with rfl | rfl | rfl | rfl | rfl | rfl | rfl | rfl | rfl
    · exact ⟨h126, ok_126⟩
    · exact ⟨h151, ok_151⟩
    · exact ⟨h160, ok_160⟩
    · exact ⟨h161, ok_161⟩
    · exact ⟨h162, ok_162⟩
    · exact ⟨h163, ok_163⟩
    · exact ⟨h164, ok_164⟩
    · exact ⟨h166, ok_166⟩
    · exact ⟨h174, ok_174⟩) ?_
  rw [e1, e2, e3]
  exact hrun
theorem t_X11_stolen (hfl : l.stackTraces = false) (h131 : SatM l G 131 (E 131)) (h153 : SatM l G 153 (E 153)) (hrun : ∀ as M, (S as M).1 → (lg_sl as).length ≤ 2 ∧ Run (gT G) E 0 0 (fun _ _ => none) (S as M).2.1 (S as M).2.2 kX11_stolen 0 (ent as 2) [] M 0 0) : SatM l G 170 S := by
  have e1 : cL9 170 = 2 := rfl
  have e2 : cM 170 = 0 := rfl
  have e3 : cS 170 = 0 := rfl
  refine sat_of (E := E) (ids := [131, 153]) hfl ok_170 rfl rfl oX11_stolen (by
    intro id h
    simp only [List.mem_cons, List.not_mem_nil, or_false] at h
    rcases h with rfl | rfl
    · exact ⟨h131, ok_131⟩
    · exact ⟨h153, ok_153⟩) ?_
  rw [e1, e2, e3]
  exact hrun
theorem t_X11_sum_1 (hfl : l.stackTraces = false) (h123 : SatM l G 123 (E 123)) (h146 : SatM l G 146 (E 146)) (h151 : SatM l G 151 (E 151)) (h1177 : SatM l G 1177 (E 1177)) (hrun : ∀ as M, (S as M).1 → (lg_sl as).length ≤ 2 ∧ Run (gT G) E 0 0 (fun _ _ => none) (S as M).2.1 (S as M).2.2 (kX11_sum 1) 0 (ent as 2) [] M 0 0) : SatM l G 1171 S := by
  have e1 : cL9 1171 = 2 := rfl
  have e2 : cM 1171 = 0 := rfl
  have e3 : cS 1171 = 0 := rfl
  refine sat_of (E := E) (ids := [123, 146, 151, 1177]) hfl okr_1171 rfl rfl oX11_sum_1 (by
    intro id h
    simp only [List.mem_cons, List.not_mem_nil, or_false] at h
    rcases h with rfl | rfl | rfl | rfl
    · exact ⟨h123, ok_123⟩
    · exact ⟨h146, ok_146⟩
    · exact ⟨h151, ok_151⟩
    · exact ⟨h1177, okr_1177⟩) ?_
  rw [e1, e2, e3]
  exact hrun
theorem t_X11_sum_2 (hfl : l.stackTraces = false) (h123 : SatM l G 123 (E 123)) (h146 : SatM l G 146 (E 146)) (h151 : SatM l G 151 (E 151)) (h2177 : SatM l G 2177 (E 2177)) (hrun : ∀ as M, (S as M).1 → (lg_sl as).length ≤ 2 ∧ Run (gT G) E 0 0 (fun _ _ => none) (S as M).2.1 (S as M).2.2 (kX11_sum 2) 0 (ent as 2) [] M 0 0) : SatM l G 2171 S := by
  have e1 : cL9 2171 = 2 := rfl
  have e2 : cM 2171 = 0 := rfl
  have e3 : cS 2171 = 0 := rfl
  refine sat_of (E := E) (ids := [123, 146, 151, 2177]) hfl okr_2171 rfl rfl oX11_sum_2 (by
    intro id h
    simp only [List.mem_cons, List.not_mem_nil, or_false] at h
    rcases h with rfl | rfl | rfl | rfl
    · exact ⟨h123, ok_123⟩
    · exact ⟨h146, ok_146⟩
    · exact ⟨h151, ok_151⟩
    · exact ⟨h2177, okr_2177⟩) ?_
  rw [e1, e2, e3]
  exact hrun
theorem t_X11_sum_3 (hfl : l.stackTraces = false) (h123 : SatM l G 123 (E 123)) (h146 : SatM l G 146 (E 146)) (h151 : SatM l G 151 (E 151)) (h3177 : SatM l G 3177 (E 3177)) (hrun : ∀ as M, (S as M).1 → (lg_sl as).length ≤ 2 ∧ Run (gT G) E 0 0 (fun _ _ => none) (S as M).2.1 (S as M).2.2 (kX11_sum 3) 0 (ent as 2) [] M 0 0) : SatM l G 3171 S := by
  have e1 : cL9 3171 = 2 := rfl
  have e2 : cM 3171 = 0 := rfl
  have e3 : cS 3171 = 0 := rfl
  refine sat_of (E := E) (ids := [123, 146, 151, 3177]) hfl okr_3171 rfl rfl oX11_sum_3 (by
    intro id h
    simp only [List.mem_cons, List.not_mem_nil, or_false] at h
    rcases h with rfl | rfl | rfl | rfl
    · exact ⟨h123, ok_123⟩
    · exact ⟨h146, ok_146⟩
    · exact ⟨h151, ok_151⟩
    · exact ⟨h3177, okr_3177⟩) ?_
  rw [e1, e2, e3]
  exact hrun
theorem t_X11_sum_4 (hfl : l.stackTraces = false) (h123 : SatM l G 123 (E 123)) (h146 : SatM l G 146 (E 146)) (h151 : SatM l G 151 (E 151)) (h4177 : SatM l G 4177 (E 4177)) (hrun : ∀ as M, (S as M).1 → (lg_sl as).length ≤ 2 ∧ Run (gT G) E 0 0 (fun _ _ => none) (S as M).2.1 (S as M).2.2 (kX11_sum 4) 0 (ent as 2) [] M 0 0) : SatM l G 4171 S := by
  have e1 : cL9 4171 = 2 := rfl
  have e2 : cM 4171 = 0 := rfl
  have e3 : cS 4171 = 0 := rfl
  refine sat_of (E := E) (ids := [123, 146, 151, 4177]) hfl okr_4171 rfl rfl oX11_sum_4 (by
    intro id h
    simp only [List.mem_cons, List.not_mem_nil, or_false] at h
    rcases h with rfl | rfl | rfl | rfl
    · exact ⟨h123, ok_123⟩
    · exact ⟨h146, ok_146⟩
    · exact ⟨h151, ok_151⟩
    · exact ⟨h4177, okr_4177⟩) ?_
  rw [e1, e2, e3]
  exact hrun
theorem t_X11_sum_5 (hfl : l.stackTraces = false) (h123 : SatM l G 123 (E 123)) (h146 : SatM l G 146 (E 146)) (h151 : SatM l G 151 (E 151)) (h5177 : SatM l G 5177 (E 5177)) (hrun : ∀ as M, (S as M).1 → (lg_sl as).length ≤ 2 ∧ Run (gT G) E 0 0 (fun _ _ => none) (S as M).2.1 (S as M).2.2 (kX11_sum 5) 0 (ent as 2) [] M 0 0) : SatM l G 5171 S := by
  have e1 : cL9 5171 = 2 := rfl
  have e2 : cM 5171 = 0 := rfl
  have e3 : cS 5171 = 0 := rfl
  refine sat_of (E := E) (ids := [123, 146, 151, 5177]) hfl okr_5171 rfl rfl oX11_sum_5 (by
    intro id h
    simp only [List.mem_cons, List.not_mem_nil, or_false] at h
    rcases h with rfl | rfl | rfl | rfl
    · exact ⟨h123, ok_123⟩
    · exact ⟨h146, ok_146⟩
    · exact ⟨h151, ok_151⟩
    · exact ⟨h5177, okr_5177⟩) ?_
  rw [e1, e2, e3]
  exact hrun
theorem t_X11_sum_6 (hfl : l.stackTraces = false) (h123 : SatM l G 123 (E 123)) (h146 : SatM l G 146 (E 146)) (h151 : SatM l G 151 (E 151)) (h6177 : SatM l G 6177 (E 6177)) (hrun : ∀ as M, (S as M).1 → (lg_sl as).length ≤ 2 ∧ Run (gT G) E 0 0 (fun _ _ => none) (S as M).2.1 (S as M).2.2 (kX11_sum 6) 0 (ent as 2) [] M 0 0) : SatM l G 6171 S := by
  have e1 : cL9 6171 = 2 := rfl
  have e2 : cM 6171 = 0 := rfl
  have e3 : cS 6171 = 0 := rfl
  refine sat_of (E := E) (ids := [123, 146, 151, 6177]) hfl okr_6171 rfl rfl oX11_sum_6 (by
    intro id h
    simp only [List.mem_cons, List.not_mem_nil, or_false] at h
    rcases h with rfl | rfl | rfl | rfl
    · exact ⟨h123, ok_123⟩
    · exact ⟨h146, ok_146⟩
    · exact ⟨h151, ok_151⟩
    · exact ⟨h6177, okr_6177⟩) ?_
  rw [e1, e2, e3]
  exact hrun
theorem t_X11_suspect (hfl : l.stackTraces = false) (h111 : SatM l G 111 (E 111)) (h117 : SatM l G 117 (E 117)) (h129 : SatM l G 129 (E 129)) (h131 : SatM l G 131 (E 131)) (h139 : SatM l G 139 (E 139)) (h152 : SatM l G 152 (E 152)) (hrun : ∀ as M, (S as M).1 → (lg_sl as).length ≤ 5 ∧ Run (gT G) E 0 0 (fun _ _ => none) (S as M).2.1 (S as M).2.2 kX11_suspect 0 (ent as 5) [] M 0 0) : SatM l G 172 S := by
  have e1 : cL9 172 = 5 := rfl
  have e2 : cM 172 = 0 := rfl
  have e3 : cS 172 = 0 := rfl
  refine sat_of (E := E) (ids := [111, 117, 129, 131, 139, 152]) hfl ok_172 rfl rfl oX11_suspect (by
    intro id h
    simp only [List.mem_cons, List.not_mem_nil, or_false] at h
    rcases h with rfl | rfl | rfl | rfl | rfl | rfl
    · exact ⟨h111, ok_111⟩
    · exact ⟨h117, ok_117⟩
    · exact ⟨h129, ok_129⟩
    · exact ⟨h131, ok_131⟩
    · exact ⟨h139, ok_139⟩
    · exact ⟨h152, ok_152⟩) ?_
  rw [e1, e2, e3]
  exact hrun
theorem t_X11_swapTurns (hfl : l.stackTraces = false) (h129 : SatM l G 129 (E 129)) (h139 : SatM l G 139 (E 139)) (h165 : SatM l G 165 (E 165)) (h180 : SatM l G 180 (E 180)) (hrun : ∀ as M, (S as M).1 → (lg_sl as).length ≤ 5 ∧ Run (gT G) E 0 0 (fun _ _ => none) (S as M).2.1 (S as M).2.2 kX11_swapTurns 0 (ent as 5) [] M 0 0) : SatM l G 173 S := by
  have e1 : cL9 173 = 5 := rfl
  have e2 : cM 173 = 0 := rfl
  have e3 : cS 173 = 0 := rfl
  refine sat_of (E := E) (ids := [129, 139, 165, 180]) hfl ok_173 rfl rfl oX11_swapTurns (by
    intro id h
    simp only [List.mem_cons, List.not_mem_nil, or_false] at h
    rcases h with rfl | rfl | rfl | rfl
    · exact ⟨h129, ok_129⟩
    · exact ⟨h139, ok_139⟩
    · exact ⟨h165, ok_165⟩
    · exact ⟨h180, ok_180⟩) ?_
  rw [e1, e2, e3]
  exact hrun
theorem t_X11_takeWord (hfl : l.stackTraces = false) (h112 : SatM l G 112 (E 112)) (h139 : SatM l G 139 (E 139)) (h146 : SatM l G 146 (E 146)) (h151 : SatM l G 151 (E 151)) (h900 : SatM l G 900 (E 900)) (h901 : SatM l G 901 (E 901)) (hrun : ∀ as M, (S as M).1 → (lg_sl as).length ≤ 3 ∧ Run (gT G) E 0 0 (fun _ _ => none) (S as M).2.1 (S as M).2.2 kX11_takeWord 0 (ent as 3) [] M 0 0) : SatM l G 174 S := by
  have e1 : cL9 174 = 3 := rfl
  have e2 : cM 174 = 0 := rfl
  have e3 : cS 174 = 0 := rfl
  refine sat_of (E := E) (ids := [112, 139, 146, 151, 900, 901]) hfl ok_174 rfl rfl oX11_takeWord (by
    intro id h
    simp only [List.mem_cons, List.not_mem_nil, or_false] at h
    rcases h with rfl | rfl | rfl | rfl | rfl | rfl
    · exact ⟨h112, ok_112⟩
    · exact ⟨h139, ok_139⟩
    · exact ⟨h146, ok_146⟩
    · exact ⟨h151, ok_151⟩
    · exact ⟨h900, ok_900⟩
    · exact ⟨h901, ok_901⟩) ?_
  rw [e1, e2, e3]
  exact hrun
theorem t_X11_taken (hfl : l.stackTraces = false) (h131 : SatM l G 131 (E 131)) (h153 : SatM l G 153 (E 153)) (hrun : ∀ as M, (S as M).1 → (lg_sl as).length ≤ 2 ∧ Run (gT G) E 0 0 (fun _ _ => none) (S as M).2.1 (S as M).2.2 kX11_taken 0 (ent as 2) [] M 0 0) : SatM l G 175 S := by
  have e1 : cL9 175 = 2 := rfl
  have e2 : cM 175 = 0 := rfl
  have e3 : cS 175 = 0 := rfl
  refine sat_of (E := E) (ids := [131, 153]) hfl ok_175 rfl rfl oX11_taken (by
    intro id h
    simp only [List.mem_cons, List.not_mem_nil, or_false] at h
    rcases h with rfl | rfl
    · exact ⟨h131, ok_131⟩
    · exact ⟨h153, ok_153⟩) ?_
  rw [e1, e2, e3]
  exact hrun
theorem t_X11_takenByAll (hfl : l.stackTraces = false) (h131 : SatM l G 131 (E 131)) (hrun : ∀ as M, (S as M).1 → (lg_sl as).length ≤ 3 ∧ Run (gT G) E 0 0 (fun _ _ => none) (S as M).2.1 (S as M).2.2 kX11_takenByAll 0 (ent as 3) [] M 0 0) : SatM l G 176 S := by
  have e1 : cL9 176 = 3 := rfl
  have e2 : cM 176 = 0 := rfl
  have e3 : cS 176 = 0 := rfl
  refine sat_of (E := E) (ids := [131]) hfl ok_176 rfl rfl oX11_takenByAll (by
    intro id h
    simp only [List.mem_cons, List.not_mem_nil, or_false] at h
    subst h
    exact ⟨h131, ok_131⟩) ?_
  rw [e1, e2, e3]
  exact hrun
theorem t_X11_term_1 (hfl : l.stackTraces = false) (h123 : SatM l G 123 (E 123)) (h1128 : SatM l G 1128 (E 1128)) (h146 : SatM l G 146 (E 146)) (h151 : SatM l G 151 (E 151)) (hrun : ∀ as M, (S as M).1 → (lg_sl as).length ≤ 2 ∧ Run (gT G) E 0 0 (fun _ _ => none) (S as M).2.1 (S as M).2.2 (kX11_term 1) 0 (ent as 2) [] M 0 0) : SatM l G 1177 S := by
  have e1 : cL9 1177 = 2 := rfl
  have e2 : cM 1177 = 0 := rfl
  have e3 : cS 1177 = 0 := rfl
  refine sat_of (E := E) (ids := [123, 1128, 146, 151]) hfl okr_1177 rfl rfl oX11_term_1 (by
    intro id h
    simp only [List.mem_cons, List.not_mem_nil, or_false] at h
    rcases h with rfl | rfl | rfl | rfl
    · exact ⟨h123, ok_123⟩
    · exact ⟨h1128, okr_1128⟩
    · exact ⟨h146, ok_146⟩
    · exact ⟨h151, ok_151⟩) ?_
  rw [e1, e2, e3]
  exact hrun
theorem t_X11_term_2 (hfl : l.stackTraces = false) (h123 : SatM l G 123 (E 123)) (h2128 : SatM l G 2128 (E 2128)) (h146 : SatM l G 146 (E 146)) (h151 : SatM l G 151 (E 151)) (hrun : ∀ as M, (S as M).1 → (lg_sl as).length ≤ 2 ∧ Run (gT G) E 0 0 (fun _ _ => none) (S as M).2.1 (S as M).2.2 (kX11_term 2) 0 (ent as 2) [] M 0 0) : SatM l G 2177 S := by
  have e1 : cL9 2177 = 2 := rfl
  have e2 : cM 2177 = 0 := rfl
  have e3 : cS 2177 = 0 := rfl
  refine sat_of (E := E) (ids := [123, 2128, 146, 151]) hfl okr_2177 rfl rfl oX11_term_2 (by
    intro id h
    simp only [List.mem_cons, List.not_mem_nil, or_false] at h
    rcases h with rfl | rfl | rfl | rfl
    · exact ⟨h123, ok_123⟩
    · exact ⟨h2128, okr_2128⟩
    · exact ⟨h146, ok_146⟩
    · exact ⟨h151, ok_151⟩) ?_
  rw [e1, e2, e3]
  exact hrun
theorem t_X11_term_3 (hfl : l.stackTraces = false) (h123 : SatM l G 123 (E 123)) (h3128 : SatM l G 3128 (E 3128)) (h146 : SatM l G 146 (E 146)) (h151 : SatM l G 151 (E 151)) (hrun : ∀ as M, (S as M).1 → (lg_sl as).length ≤ 2 ∧ Run (gT G) E 0 0 (fun _ _ => none) (S as M).2.1 (S as M).2.2 (kX11_term 3) 0 (ent as 2) [] M 0 0) : SatM l G 3177 S := by
  have e1 : cL9 3177 = 2 := rfl
  have e2 : cM 3177 = 0 := rfl
  have e3 : cS 3177 = 0 := rfl
  refine sat_of (E := E) (ids := [123, 3128, 146, 151]) hfl okr_3177 rfl rfl oX11_term_3 (by
    intro id h
    simp only [List.mem_cons, List.not_mem_nil, or_false] at h
    rcases h with rfl | rfl | rfl | rfl
    · exact ⟨h123, ok_123⟩
    · exact ⟨h3128, okr_3128⟩
    · exact ⟨h146, ok_146⟩
    · exact ⟨h151, ok_151⟩) ?_
  rw [e1, e2, e3]
  exact hrun
theorem t_X11_term_4 (hfl : l.stackTraces = false) (h123 : SatM l G 123 (E 123)) (h4128 : SatM l G 4128 (E 4128)) (h146 : SatM l G 146 (E 146)) (h151 : SatM l G 151 (E 151)) (hrun : ∀ as M, (S as M).1 → (lg_sl as).length ≤ 2 ∧ Run (gT G) E 0 0 (fun _ _ => none) (S as M).2.1 (S as M).2.2 (kX11_term 4) 0 (ent as 2) [] M 0 0) : SatM l G 4177 S := by
  have e1 : cL9 4177 = 2 := rfl
  have e2 : cM 4177 = 0 := rfl
  have e3 : cS 4177 = 0 := rfl
  refine sat_of (E := E) (ids := [123, 4128, 146, 151]) hfl okr_4177 rfl rfl oX11_term_4 (by
    intro id h
    simp only [List.mem_cons, List.not_mem_nil, or_false] at h
    rcases h with rfl | rfl | rfl | rfl
    · exact ⟨h123, ok_123⟩
    · exact ⟨h4128, okr_4128⟩
    · exact ⟨h146, ok_146⟩
    · exact ⟨h151, ok_151⟩) ?_
  rw [e1, e2, e3]
  exact hrun
theorem t_X11_term_5 (hfl : l.stackTraces = false) (h123 : SatM l G 123 (E 123)) (h5128 : SatM l G 5128 (E 5128)) (h146 : SatM l G 146 (E 146)) (h151 : SatM l G 151 (E 151)) (hrun : ∀ as M, (S as M).1 → (lg_sl as).length ≤ 2 ∧ Run (gT G) E 0 0 (fun _ _ => none) (S as M).2.1 (S as M).2.2 (kX11_term 5) 0 (ent as 2) [] M 0 0) : SatM l G 5177 S := by
  have e1 : cL9 5177 = 2 := rfl
  have e2 : cM 5177 = 0 := rfl
  have e3 : cS 5177 = 0 := rfl
  refine sat_of (E := E) (ids := [123, 5128, 146, 151]) hfl okr_5177 rfl rfl oX11_term_5 (by
    intro id h
    simp only [List.mem_cons, List.not_mem_nil, or_false] at h
    rcases h with rfl | rfl | rfl | rfl
    · exact ⟨h123, ok_123⟩
    · exact ⟨h5128, okr_5128⟩
    · exact ⟨h146, ok_146⟩
    · exact ⟨h151, ok_151⟩) ?_
  rw [e1, e2, e3]
  exact hrun
theorem t_X11_term_6 (hfl : l.stackTraces = false) (h123 : SatM l G 123 (E 123)) (h6128 : SatM l G 6128 (E 6128)) (h146 : SatM l G 146 (E 146)) (h151 : SatM l G 151 (E 151)) (hrun : ∀ as M, (S as M).1 → (lg_sl as).length ≤ 2 ∧ Run (gT G) E 0 0 (fun _ _ => none) (S as M).2.1 (S as M).2.2 (kX11_term 6) 0 (ent as 2) [] M 0 0) : SatM l G 6177 S := by
  have e1 : cL9 6177 = 2 := rfl
  have e2 : cM 6177 = 0 := rfl
  have e3 : cS 6177 = 0 := rfl
  refine sat_of (E := E) (ids := [123, 6128, 146, 151]) hfl okr_6177 rfl rfl oX11_term_6 (by
    intro id h
    simp only [List.mem_cons, List.not_mem_nil, or_false] at h
    rcases h with rfl | rfl | rfl | rfl
    · exact ⟨h123, ok_123⟩
    · exact ⟨h6128, okr_6128⟩
    · exact ⟨h146, ok_146⟩
    · exact ⟨h151, ok_151⟩) ?_
  rw [e1, e2, e3]
  exact hrun
theorem t_X11_thrown (hfl : l.stackTraces = false)  (hrun : ∀ as M, (S as M).1 → (lg_sl as).length ≤ 1 ∧ Run (gT G) E 0 0 (fun _ _ => none) (S as M).2.1 (S as M).2.2 kX11_thrown 0 (ent as 1) [] M 0 0) : SatM l G 178 S := by
  have e1 : cL9 178 = 1 := rfl
  have e2 : cM 178 = 0 := rfl
  have e3 : cS 178 = 0 := rfl
  refine sat_of (E := E) (ids := []) hfl ok_178 rfl rfl oX11_thrown (fun _ h => by cases h) ?_
  rw [e1, e2, e3]
  exact hrun
theorem t_X11_total (hfl : l.stackTraces = false) (h113 : SatM l G 113 (E 113)) (h129 : SatM l G 129 (E 129)) (h131 : SatM l G 131 (E 131)) (h139 : SatM l G 139 (E 139)) (hrun : ∀ as M, (S as M).1 → (lg_sl as).length ≤ 6 ∧ Run (gT G) E 0 0 (fun _ _ => none) (S as M).2.1 (S as M).2.2 kX11_total 0 (ent as 6) [] M 0 0) : SatM l G 179 S := by
  have e1 : cL9 179 = 6 := rfl
  have e2 : cM 179 = 0 := rfl
  have e3 : cS 179 = 0 := rfl
  refine sat_of (E := E) (ids := [113, 129, 131, 139]) hfl ok_179 rfl rfl oX11_total (by
    intro id h
    simp only [List.mem_cons, List.not_mem_nil, or_false] at h
    rcases h with rfl | rfl | rfl | rfl
    · exact ⟨h113, ok_113⟩
    · exact ⟨h129, ok_129⟩
    · exact ⟨h131, ok_131⟩
    · exact ⟨h139, ok_139⟩) ?_
  rw [e1, e2, e3]
  exact hrun
theorem t_X11_turn (hfl : l.stackTraces = false) (h118 : SatM l G 118 (E 118)) (hrun : ∀ as M, (S as M).1 → (lg_sl as).length ≤ 4 ∧ Run (gT G) E 0 0 (fun _ _ => none) (S as M).2.1 (S as M).2.2 kX11_turn 0 (ent as 4) [] M 0 0) : SatM l G 180 S := by
  have e1 : cL9 180 = 4 := rfl
  have e2 : cM 180 = 0 := rfl
  have e3 : cS 180 = 0 := rfl
  refine sat_of (E := E) (ids := [118]) hfl ok_180 rfl rfl oX11_turn (by
    intro id h
    simp only [List.mem_cons, List.not_mem_nil, or_false] at h
    subst h
    exact ⟨h118, ok_118⟩) ?_
  rw [e1, e2, e3]
  exact hrun
theorem t_X11_turnAt (hfl : l.stackTraces = false) (h129 : SatM l G 129 (E 129)) (h139 : SatM l G 139 (E 139)) (h180 : SatM l G 180 (E 180)) (hrun : ∀ as M, (S as M).1 → (lg_sl as).length ≤ 2 ∧ Run (gT G) E 0 0 (fun _ _ => none) (S as M).2.1 (S as M).2.2 kX11_turnAt 0 (ent as 2) [] M 0 0) : SatM l G 181 S := by
  have e1 : cL9 181 = 2 := rfl
  have e2 : cM 181 = 0 := rfl
  have e3 : cS 181 = 0 := rfl
  refine sat_of (E := E) (ids := [129, 139, 180]) hfl ok_181 rfl rfl oX11_turnAt (by
    intro id h
    simp only [List.mem_cons, List.not_mem_nil, or_false] at h
    rcases h with rfl | rfl | rfl
    · exact ⟨h129, ok_129⟩
    · exact ⟨h139, ok_139⟩
    · exact ⟨h180, ok_180⟩) ?_
  rw [e1, e2, e3]
  exact hrun
theorem t_X11_undo (hfl : l.stackTraces = false) (h117 : SatM l G 117 (E 117)) (hrun : ∀ as M, (S as M).1 → (lg_sl as).length ≤ 1 ∧ Run (gT G) E 0 0 (fun _ _ => none) (S as M).2.1 (S as M).2.2 kX11_undo 0 (ent as 1) [] M 0 0) : SatM l G 182 S := by
  have e1 : cL9 182 = 1 := rfl
  have e2 : cM 182 = 0 := rfl
  have e3 : cS 182 = 0 := rfl
  refine sat_of (E := E) (ids := [117]) hfl ok_182 rfl rfl oX11_undo (by
    intro id h
    simp only [List.mem_cons, List.not_mem_nil, or_false] at h
    subst h
    exact ⟨h117, ok_117⟩) ?_
  rw [e1, e2, e3]
  exact hrun
theorem t_X11_water (hfl : l.stackTraces = false) (h131 : SatM l G 131 (E 131)) (h153 : SatM l G 153 (E 153)) (hrun : ∀ as M, (S as M).1 → (lg_sl as).length ≤ 2 ∧ Run (gT G) E 0 0 (fun _ _ => none) (S as M).2.1 (S as M).2.2 kX11_water 0 (ent as 2) [] M 0 0) : SatM l G 183 S := by
  have e1 : cL9 183 = 2 := rfl
  have e2 : cM 183 = 0 := rfl
  have e3 : cS 183 = 0 := rfl
  refine sat_of (E := E) (ids := [131, 153]) hfl ok_183 rfl rfl oX11_water (by
    intro id h
    simp only [List.mem_cons, List.not_mem_nil, or_false] at h
    rcases h with rfl | rfl
    · exact ⟨h131, ok_131⟩
    · exact ⟨h153, ok_153⟩) ?_
  rw [e1, e2, e3]
  exact hrun
theorem t_X11_waterIn (hfl : l.stackTraces = false) (h113 : SatM l G 113 (E 113)) (h129 : SatM l G 129 (E 129)) (h139 : SatM l G 139 (E 139)) (h152 : SatM l G 152 (E 152)) (hrun : ∀ as M, (S as M).1 → (lg_sl as).length ≤ 3 ∧ Run (gT G) E 0 0 (fun _ _ => none) (S as M).2.1 (S as M).2.2 kX11_waterIn 0 (ent as 3) [] M 0 0) : SatM l G 184 S := by
  have e1 : cL9 184 = 3 := rfl
  have e2 : cM 184 = 0 := rfl
  have e3 : cS 184 = 0 := rfl
  refine sat_of (E := E) (ids := [113, 129, 139, 152]) hfl ok_184 rfl rfl oX11_waterIn (by
    intro id h
    simp only [List.mem_cons, List.not_mem_nil, or_false] at h
    rcases h with rfl | rfl | rfl | rfl
    · exact ⟨h113, ok_113⟩
    · exact ⟨h129, ok_129⟩
    · exact ⟨h139, ok_139⟩
    · exact ⟨h152, ok_152⟩) ?_
  rw [e1, e2, e3]
  exact hrun
end WRAP
