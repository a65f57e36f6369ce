/-! ===== the five levels; the outermost is 6 ===== -/
theorem s_none {l : Launch} {G : Gt} (id : Nat) : SatM l G id (fun _ _ => sF) := fun _ _ h => h.elim
def eFac (T : Nat → Nat) (sm : Sem) : Nat → Sem := fun id => if id = 25 then S25 else if id = 47 then S47 else if id = 48 then S48 else if id = 54 then S54 else if id = 62 then S62 else if id = 73 then S73 else if id = 74 then S74 else sm
def eOp (x : Sem) : Nat → Sem := fun id => if id = 25 then S25 else if id = 74 then S74 else x
section LEV
variable {l : Launch} {G : Gt}
theorem s_fac_2 (hfl : l.stackTraces = false) : SatM l G 2051 (S51 (gT G) 0) := t_X7_readFactor_2 (E := eFac (gT G) fun _ _ => sF) hfl (s_X2_add hfl) (s_X7_addOperand hfl) (s_X7_fail hfl) (s_X7_readNumber hfl) (s_none 1059) (s_X7_skipSign hfl) (s_X9_isWord hfl) (s_X9_next hfl) (g_fac0 (d := 2) rfl rfl rfl rfl rfl)
theorem s_ter_2 (hfl : l.stackTraces = false) : SatM l G 2060 (S60 (gT G) 0) := t_X7_readTerm_2 (E := eOp (S51 (gT G) 0)) hfl (s_X2_add hfl) (s_fac_2 hfl) (s_X9_next hfl) (g_term (d := 2) rfl rfl rfl)
theorem s_sum_2 (hfl : l.stackTraces = false) : SatM l G 2059 (S59 (gT G) 0) := t_X7_readSum_2 (E := eOp (S60 (gT G) 0)) hfl (s_X2_add hfl) (s_ter_2 hfl) (s_X9_next hfl) (g_sum (d := 2) rfl rfl rfl)
theorem s_fac_3 (hfl : l.stackTraces = false) : SatM l G 3051 (S51 (gT G) 1) := t_X7_readFactor_3 (E := eFac (gT G) (S59 (gT G) 0)) hfl (s_X2_add hfl) (s_X7_addOperand hfl) (s_X7_fail hfl) (s_X7_readNumber hfl) (s_sum_2 hfl) (s_X7_skipSign hfl) (s_X9_isWord hfl) (s_X9_next hfl) (g_facS (d := 3) (by decide) rfl rfl rfl rfl rfl rfl rfl rfl)
theorem s_ter_3 (hfl : l.stackTraces = false) : SatM l G 3060 (S60 (gT G) 1) := t_X7_readTerm_3 (E := eOp (S51 (gT G) 1)) hfl (s_X2_add hfl) (s_fac_3 hfl) (s_X9_next hfl) (g_term (d := 3) rfl rfl rfl)
theorem s_sum_3 (hfl : l.stackTraces = false) : SatM l G 3059 (S59 (gT G) 1) := t_X7_readSum_3 (E := eOp (S60 (gT G) 1)) hfl (s_X2_add hfl) (s_ter_3 hfl) (s_X9_next hfl) (g_sum (d := 3) rfl rfl rfl)
theorem s_fac_4 (hfl : l.stackTraces = false) : SatM l G 4051 (S51 (gT G) 2) := t_X7_readFactor_4 (E := eFac (gT G) (S59 (gT G) 1)) hfl (s_X2_add hfl) (s_X7_addOperand hfl) (s_X7_fail hfl) (s_X7_readNumber hfl) (s_sum_3 hfl) (s_X7_skipSign hfl) (s_X9_isWord hfl) (s_X9_next hfl) (g_facS (d := 4) (by decide) rfl rfl rfl rfl rfl rfl rfl rfl)
theorem s_ter_4 (hfl : l.stackTraces = false) : SatM l G 4060 (S60 (gT G) 2) := t_X7_readTerm_4 (E := eOp (S51 (gT G) 2)) hfl (s_X2_add hfl) (s_fac_4 hfl) (s_X9_next hfl) (g_term (d := 4) rfl rfl rfl)
theorem s_sum_4 (hfl : l.stackTraces = false) : SatM l G 4059 (S59 (gT G) 2) := t_X7_readSum_4 (E := eOp (S60 (gT G) 2)) hfl (s_X2_add hfl) (s_ter_4 hfl) (s_X9_next hfl) (g_sum (d := 4) rfl rfl rfl)
theorem s_fac_5 (hfl : l.stackTraces = false) : SatM l G 5051 (S51 (gT G) 3) := t_X7_readFactor_5 (E := eFac (gT G) (S59 (gT G) 2)) hfl (s_X2_add hfl) (s_X7_addOperand hfl) (s_X7_fail hfl) (s_X7_readNumber hfl) (s_sum_4 hfl) (s_X7_skipSign hfl) (s_X9_isWord hfl) (s_X9_next hfl) (g_facS (d := 5) (by decide) rfl rfl rfl rfl rfl rfl rfl rfl)
theorem s_ter_5 (hfl : l.stackTraces = false) : SatM l G 5060 (S60 (gT G) 3) := t_X7_readTerm_5 (E := eOp (S51 (gT G) 3)) hfl (s_X2_add hfl) (s_fac_5 hfl) (s_X9_next hfl) (g_term (d := 5) rfl rfl rfl)
theorem s_sum_5 (hfl : l.stackTraces = false) : SatM l G 5059 (S59 (gT G) 3) := t_X7_readSum_5 (E := eOp (S60 (gT G) 3)) hfl (s_X2_add hfl) (s_ter_5 hfl) (s_X9_next hfl) (g_sum (d := 5) rfl rfl rfl)
theorem s_fac_6 (hfl : l.stackTraces = false) : SatM l G 6051 (S51 (gT G) 4) := t_X7_readFactor_6 (E := eFac (gT G) (S59 (gT G) 3)) hfl (s_X2_add hfl) (s_X7_addOperand hfl) (s_X7_fail hfl) (s_X7_readNumber hfl) (s_sum_5 hfl) (s_X7_skipSign hfl) (s_X9_isWord hfl) (s_X9_next hfl) (g_facS (d := 6) (by decide) rfl rfl rfl rfl rfl rfl rfl rfl)
theorem s_ter_6 (hfl : l.stackTraces = false) : SatM l G 6060 (S60 (gT G) 4) := t_X7_readTerm_6 (E := eOp (S51 (gT G) 4)) hfl (s_X2_add hfl) (s_fac_6 hfl) (s_X9_next hfl) (g_term (d := 6) rfl rfl rfl)
theorem s_sum_6 (hfl : l.stackTraces = false) : SatM l G 6059 (S59 (gT G) 4) := t_X7_readSum_6 (E := eOp (S60 (gT G) 4)) hfl (s_X2_add hfl) (s_ter_6 hfl) (s_X9_next hfl) (g_sum (d := 6) rfl rfl rfl)
end LEV
/-! == a statement, a whole text == -/
def riM (M : Mm) (r : Nat) : Mm :=
  let N := sI M r (upd (gI M r) 4 1)
  smM r (faN r 4) (nxM (sI N (r + 30) (upd (gI N (r + 30)) 2 0)) (r + 1))
def rsS (M : Mm) (r : Nat) : Mm :=
  if ¬ iwI M (r + 1) 0 = 0 then rcM M r
  else if ¬ iwI M (r + 1) 3 = 0 then rfM M r
  else if ¬ iwI M (r + 1) 5 = 0 then rtM M r
  else if ¬ iwI M (r + 1) 6 = 0 ∧ gI M (r + 28) 1 = 0 then gdM M r
  else if ¬ iwI M (r + 1) 7 = 0 ∧ gI M r 4 = 0 then riM M r
  else flM M r (-2)
theorem UI.clr {M : Mm} {r : Nat} (h : UI M r) (f : Nat → Int32) (hf : cnt (f 2) 900) : UI (sI M (r + 30) f) r := by
  refine h.kp (kpI.i _ _ _) ?_ ?_ ?_ ?_ ?_ ?_
  · unfold TJ
    rw [gI_f _ _ (by omega)]
    exact h.2.1
  · rw [gI_f _ _ (by omega)]; exact h.2.2.1
  · rw [gI_f _ _ (by omega)]; exact h.2.2.2.1
  · rw [gI_f _ _ (by omega)]; exact h.2.2.2.2.1
  · rw [gI_f _ _ (by omega)]; exact h.2.2.2.2.2.1
  · rw [gI_s]; exact hf
theorem gdd_ri {r : Nat} : gdd r (fun M => riM M r) := by
  intro M hu
  have h0 : UI (sI M r (upd (gI M r) 4 1)) r := hu.own _
  have h1 : UI (sI (sI M r (upd (gI M r) 4 1)) (r + 30) (upd (gI (sI M r (upd (gI M r) 4 1)) (r + 30)) 2 0)) r := h0.clr _ ⟨0, by decide, by rw [upd_s]; rfl⟩
  have h2 := gdd_sm (gdd_fa r 4) _ h1.nx
  exact ⟨h2.1, h2.2.t ((kp_nx _ _).t ((kpI.i _ _ _).t (kpI.i _ _ _)))⟩
theorem gdd_rs {r : Nat} : gdd r (fun M => rsS M r) := by
  intro M hu
  show UI (rsS M r) r ∧ kpI (rsS M r) M
  unfold rsS
  split
  · exact ⟨hu.rc, kp_rc _ _⟩
  · split
    · exact ⟨hu.rf, kp_rf _ _⟩
    · split
      · exact ⟨hu.rt, kp_rt _ _⟩
      · split
        · exact ⟨hu.gd, kp_gd _ _⟩
        · split
          · exact gdd_ri M hu
          · exact ⟨hu.fl _, kp_fl _ _ _⟩
def S58 (T : Nat → Nat) : Sem := fun as M => match as with
  | [.ref r] => sV (UI M r ∧ STR T M) none (rsS M r)
  | _ => sF
