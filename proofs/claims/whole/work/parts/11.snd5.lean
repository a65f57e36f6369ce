/-! ===== the abstract machine is sound: calls; all instructions; runs ===== -/
section SND6
variable {p : Program} {l : Launch} {e : Env} {R : Room} {s : State} {m : MethodId} {args : Array Value} {below : List Frame} {meth : Method} {c : Code} {H : Heap} {locs : List Loc} {Z : State → Prop}
variable {G : Gt} {own nL pc len a b : Nat} {ret : Option FieldType} {cc : ByteArray} {ls : Array Slot} {i : Instr} {L : List Slot} {st : List Value} {M : Mm} {nc ns : Nat} {k : Kt} {cv : Value}
theorem calK.w {id : Nat} (h : calK id) : cwd id ∈ TT ∧ Cond.initialized (cY id).cls ∈ TT ∧ plainName (cY id).cls = true ∧ (cY id).cls ≠ "java/lang/invoke/MethodHandle" ∧ (cY id).cls ≠ "java/lang/invoke/VarHandle" ∧ (parseMethodDescriptor (cY id).desc).map (fun d => d.parameters.length) = some (cN id) ∧
    ((cD id = 0 ∧ Cond.instanceMethod (cY id) ∈ TT ∧ Cond.selects (cY id).cls (cY id) (cY id) ∈ TT ∧ cH id = []) ∨ (cD id = 1 ∧ Cond.static (cY id) ∈ TT) ∨ (cD id = 2 ∧ Cond.instanceMethod (cY id) ∈ TT ∧ (cY id).name = "<init>" ∧ cR id = none ∧ cH id = [])) := by
  obtain ⟨h1, q, h2⟩ := h
  unfold calC at h2
  simp only [Bool.and_eq_true, decide_eq_true_eq] at h2
  obtain ⟨⟨⟨⟨⟨a1, a2⟩, a3⟩, a4⟩, a5⟩, a6⟩ := h2
  refine ⟨h1, at9_in a1, a2, a3, a4, a5, ?_⟩
  split at a6
  · rename_i e0
    simp only [Bool.and_eq_true] at a6
    exact Or.inl ⟨e0, at9_in a6.1.1, at9_in a6.1.2, List.isEmpty_iff.mp a6.2⟩
  · rename_i e0
    exact Or.inr (Or.inl ⟨e0, at9_in a6⟩)
  · rename_i e0
    simp only [Bool.and_eq_true, decide_eq_true_eq] at a6
    exact Or.inr (Or.inr ⟨e0, at9_in a6.1.1.1, a6.1.1.2, a6.1.2, List.isEmpty_iff.mp a6.2⟩)
  · cases a6
theorem cwd_0 {id : Nat} (h : cH id = []) : cwd id = .code (cY id) (cC id) (cL9 id) (cR id) := by
  unfold cwd
  rw [h]
theorem cwd_1 {id : Nat} (h : cH id ≠ []) : cwd id = .codeWith (cY id) (cC id) (cL9 id) (cR id) (cH id) := by
  unfold cwd
  split
  · rename_i e0
    exact absurd e0 h
  · rfl
def ckcall (own fr lo : Nat) (ids : List Nat) (i : Instr) (len a b c d : Nat) (tl : List Nat) : Bool := len == 3 && decide (a ∈ ids) && c == cM a && d == cS a && decide (cF a + 1 ≤ fr) && decide (8 + (cL9 a + 11) + cO a ≤ lo) && (match cD a, i with
  | 0, .invokevirtual ix => decide ((own, ix, a % 1000) ∈ mlk) && b == cN a + 1 && (match tl with
    | [ci] => (ci == 100 && decide ((cY a).cls = "java/lang/String")) || (ci != 100 && decide (ci < 12) && decide ((cY a).cls = xR ci))
    | _ => false)
  | 1, .invokestatic ix => b == cN a && ((cH a).isEmpty && (decide ((own, ix, a % 1000) ∈ mlk) && decide ((cY a).cls = xR own) || decide ((own, ix, a % 1000) ∈ nlk)) || (!(cH a).isEmpty && decide ((own, ix, a % 1000) ∈ mlk)))
  | 2, .invokespecial ix => b == cN a + 1 && tl == [101] && (decide ((own, ix, a % 1000) ∈ mlk) || decide ((own, ix, a % 1000) ∈ nlk))
  | _, _ => false)
theorem cY_m (a : Nat) : cY (a % 1000) = cY a := by
  unfold cY calB
  rw [Nat.mod_mod]
theorem goodIn_1 {Ts : List Cond} {w : Cond} (h : w ∈ Ts) (hg : goodWord w = true) : GoodIn Ts [w] := by
  intro x hx
  rw [List.mem_singleton.mp hx]
  exact ⟨h, good_of_word hg⟩
theorem goodIn_l {Ts ws : List Cond} (h : ∀ w ∈ ws, w ∈ Ts ∧ goodWord w = true) : GoodIn Ts ws := fun x hx => ⟨(h x hx).1, good_of_word (h x hx).2⟩
/-- the run of a call, whatever its kind -/
theorem x_call {S : Sem} {ids : List Nat} {fr lo cm cs : Nat} {tl : List Nat} {as : List Value} (C : Cx p l G own nL ret cc s m meth c) (hF : R.frames = fr) (hO : R.locals = lo) (hK : ∀ id ∈ ids, calK id) (d : decode cc pc = .ok (i, len)) (ck : ckcall own fr lo ids i len a b cm cs tl = true)
    (hsat : SatM l G a S) (hb9 : (st.take b).length = b) (h8 : c8 (st.drop b)) (has : as = (st.take b).reverse) (hrc : rcv tl as M) (hpre : (S as M).1) (h1 : nc + cm ≤ R.cells) (h2 : ns + cs ≤ R.slots) (hM : ML G M H) (hL : LR ls nL L) :
    len = 3 ∧ vx_Run p l e R s m args below meth c H locs nc ns cm cs (F0 m pc ls st) (st.drop b) (Qcx G (S as M).2.1 as.toArray) (XCx G (S as M).2.2) (fre G) := by
  have C9 := C
  obtain ⟨hx, hb, hml, hown, hW, -⟩ := C9
  unfold ckcall at ck
  simp only [Bool.and_eq_true, beq_iff_eq, decide_eq_true_eq] at ck
  obtain ⟨⟨⟨⟨⟨⟨rfl, hid⟩, rfl⟩, rfl⟩, hfr⟩, hlo9⟩, ck⟩ := ck
  refine ⟨rfl, ?_⟩
  have hMet := hsat as M hpre
  have hts : ∀ w ∈ TT, w.before args s = true := fun w hw => hW.1 w hw args
  obtain ⟨k1, k2, k3, k4, k5, k6, k7⟩ := (hK a hid).w
  have hfix : CallFix p m c cc nL s args TT (xR own) := ⟨hx, hb, hml, hown, hts⟩
  have hPc : ∀ U : State, U.heap = H → s.WarmedH U.vm → Pcx G as M as.toArray U := fun U hU hw => ⟨rfl, hW.warm hw, by rw [hU]; exact hM⟩
  have hRR : cF a + 1 ≤ R.frames ∧ 8 + (cL9 a + 11) + cO a ≤ R.locals := ⟨by rw [hF]; exact hfr, by rw [hO]; exact hlo9⟩
  have hst : st = as.reverse ++ st.drop b := by rw [has, List.reverse_reverse, List.take_append_drop]
  have hal : as.length = b := by rw [has, List.length_reverse, hb9]
  have h9 : 2 * (F0 m pc ls st).monitorRoom + ((st.drop b).map fun v => v.category).sum ≤ 8 := lv_room h8
  split at ck
  · -- virtual
    rename_i e0
    simp only [Bool.and_eq_true, beq_iff_eq, decide_eq_true_eq] at ck
    obtain ⟨⟨c1, hbn⟩, c2⟩ := ck
    rcases k7 with ⟨-, w1, w2, w3⟩ | ⟨q, -⟩ | ⟨q, -⟩
    · split at c2
      case h_2 => cases c2
      case h_1 ci =>
        have hlink := mlk_in _ c1
        rw [cY_m] at hlink
        obtain ⟨q, As, rfl⟩ : ∃ q As, as = .ref q :: As := by
          cases as with
          | nil => exact absurd hrc (by simp [rcv])
          | cons v vs =>
            cases v <;> first | exact ⟨_, _, rfl⟩ | exact absurd hrc (by simp [rcv])
        have hcell : ∃ cellB : Cell, H[q]? = some cellB ∧ cellB.vm.isStatics = false ∧ s.vm.findClass (cY a).cls = some cellB.cls := by
          rw [rcv_1] at hrc
          simp only [Bool.or_eq_true, Bool.and_eq_true, beq_iff_eq, bne_iff_ne, decide_eq_true_eq] at c2
          rcases c2 with ⟨rfl, c3⟩ | ⟨⟨c3, c4⟩, c5⟩
          · rw [if_pos rfl] at hrc
            replace hrc := isS_inv hrc
            obtain ⟨i9, hrc⟩ := hrc
            obtain ⟨g1, g2, g3⟩ := (hM.2.2.2.2 q).s hrc
            obtain ⟨cell, f1, f2, f3, -⟩ := (hW.2.2.2.2.2.2.1.1 i9 g2).1
            exact ⟨cell, by rw [hM.2.2.2.1 q g1, g3]; exact f1, f2, by rw [c3]; exact f3⟩
          · rw [if_neg c3, if_neg (by omega)] at hrc
            obtain ⟨-, -, cell, f1, f2, f3, -⟩ := (hM.2.2.2.2 q).o hrc
            exact ⟨cell, f1, by rw [f3]; rfl, by rw [c5, f2]; exact (hW.2.1 ci c4).2.1⟩
        rw [cwd_0 w3] at hMet
        refine vx_runV (C := (cY a).cls) hfix hMet (cwV (cN a) hts (goodIn_l (fun w hw => ?_)) rfl rfl rfl ⟨rfl, k4, k5, k6⟩ hRR) ⟨Pcx.blind G _ M, hcell, hPc⟩ rfl ?_ hL.2.1 ?_ h9 d ⟨h1, h2⟩
        · unfold wsV at hw
          simp only [List.mem_append, List.mem_cons, List.not_mem_nil, or_false] at hw
          rcases hw with (rfl | rfl | rfl | rfl) | rfl
          · exact ⟨hlink, rfl⟩
          · exact ⟨w1, rfl⟩
          · exact ⟨w2, rfl⟩
          · exact ⟨k2, rfl⟩
          · exact ⟨by rw [← cwd_0 w3]; exact k1, rfl⟩
        · simp only [List.length_cons] at hal
          omega
        · have h7 := hst
          rw [List.reverse_cons, List.append_assoc] at h7
          exact h7
    · exact absurd (e0.symm.trans q) (by decide)
    · exact absurd (e0.symm.trans q) (by decide)
  · -- static
    rename_i e0
    simp only [Bool.and_eq_true, Bool.or_eq_true, Bool.not_eq_true', beq_iff_eq, decide_eq_true_eq] at ck
    obtain ⟨hbn, c1⟩ := ck
    rcases k7 with ⟨q, -⟩ | ⟨-, w1⟩ | ⟨q, -⟩
    · exact absurd (e0.symm.trans q) (by decide)
    · rcases c1 with ⟨w3, ⟨c2, c3⟩ | c2⟩ | ⟨w3, c2⟩
      · replace w3 := List.isEmpty_iff.mp w3
        have hlink := mlk_in _ c2
        rw [cY_m] at hlink
        rw [cwd_0 w3] at hMet
        refine vx_runS hfix hMet (cwS (cN a) hts (goodIn_l (fun w hw => ?_)) rfl rfl rfl ⟨c3, k4, k5, k6⟩ hRR) ⟨Pcx.blind G _ M, hPc⟩ rfl (by omega) hL.2.1 hst h9 d ⟨h1, h2⟩
        unfold wsS at hw
        simp only [List.mem_append, List.mem_cons, List.not_mem_nil, or_false] at hw
        rcases hw with (rfl | rfl | rfl) | rfl
        · exact ⟨hlink, rfl⟩
        · exact ⟨w1, rfl⟩
        · exact ⟨by rw [← c3]; exact k2, rfl⟩
        · exact ⟨by rw [← cwd_0 w3]; exact k1, rfl⟩
      · replace w3 := List.isEmpty_iff.mp w3
        have hlink := nlk_in _ c2
        rw [cY_m] at hlink
        rw [cwd_0 w3] at hMet
        exact vx_runSN hfix hMet ⟨va_cnB (cN a) hts (goodIn_1 (by rw [← cwd_0 w3]; exact k1) rfl) rfl rfl rfl (va_Nw.of rfl (hts _ hlink)) (hts _ k2) ⟨k4, k5, k6⟩ hRR, hts _ w1, trivial⟩ ⟨Pcx.blind G _ M, hPc⟩ rfl (by omega) hL.2.1 hst h9 d ⟨h1, h2⟩
      · have w4 : cH a ≠ [] := fun q => by rw [q] at w3; cases w3
        have hlink := mlk_in _ c2
        rw [cY_m] at hlink
        rw [cwd_1 w4] at hMet
        refine vx_runSX hfix hMet (vx_cwSW (cN a) hts (goodIn_l (fun w hw => ?_)) rfl rfl rfl ⟨k4, k5, k6⟩ hRR) ⟨Pcx.blind G _ M, hPc⟩ rfl (by omega) hL.2.1 hst h9 d ⟨h1, h2⟩
        unfold va_wsS at hw
        simp only [List.mem_append, List.mem_cons, List.not_mem_nil, or_false] at hw
        rcases hw with (rfl | rfl | rfl) | rfl
        · exact ⟨hlink, rfl⟩
        · exact ⟨w1, rfl⟩
        · exact ⟨k2, rfl⟩
        · exact ⟨by rw [← cwd_1 w4]; exact k1, rfl⟩
    · exact absurd (e0.symm.trans q) (by decide)
  · -- constructor
    rename_i e0
    simp only [Bool.and_eq_true, Bool.or_eq_true, beq_iff_eq, decide_eq_true_eq] at ck
    obtain ⟨⟨hbn, rfl⟩, c1⟩ := ck
    rcases k7 with ⟨q, -⟩ | ⟨q, -⟩ | ⟨-, w1, w2, w5, w3⟩
    · exact absurd (e0.symm.trans q) (by decide)
    · exact absurd (e0.symm.trans q) (by decide)
    · obtain ⟨q, As, rfl⟩ : ∃ q As, as = .ref q :: As := by
        cases as with
        | nil => exact absurd hrc (by simp [rcv])
        | cons v vs =>
          cases v <;> first | exact ⟨_, _, rfl⟩ | exact absurd hrc (by simp [rcv])
      have hAl : As.length = cN a := by
        simp only [List.length_cons] at hal
        omega
      have hst2 : st = As.reverse ++ .ref q :: st.drop b := by
        rw [List.reverse_cons, List.append_assoc] at hst
        exact hst
      rw [cwd_0 w3, w5] at hMet
      rcases c1 with c2 | c2
      · have hlink := mlk_in _ c2
        rw [cY_m] at hlink
        exact vx_runI hfix hMet (cwI (cN a) hts (goodIn_1 (by have := k1; rw [cwd_0 w3, w5] at this; exact this) rfl) rfl rfl rfl (hts _ k2) (hts _ hlink) (hts _ w1) w2 ⟨k4, k5, k6⟩ hRR) ⟨Pcx.blind G _ M, hPc⟩ rfl hAl hL.2.1 hst2 h9 d ⟨h1, h2⟩
      · have hlink := nlk_in _ c2
        rw [cY_m] at hlink
        exact vx_runIN hfix hMet ⟨va_cnB (cN a) hts (goodIn_1 (by have := k1; rw [cwd_0 w3, w5] at this; exact this) rfl) rfl rfl rfl (va_Nw.of rfl (hts _ hlink)) (hts _ k2) ⟨k4, k5, k6⟩ hRR, w2, hts _ w1⟩ ⟨Pcx.blind G _ M, hPc⟩ rfl hAl hL.2.1 hst2 h9 d ⟨h1, h2⟩
  · cases ck
theorem cpOK_inv {k0 k1 : Kd} {sp dp n : Int32} (h : cpOK k0 k1 sp dp n) : ∃ n0 n1, k0 = kA .int n0 ∧ k1 = kA .int n1 ∧ ¬ sp < 0 ∧ ¬ dp < 0 ∧ ¬ n < 0 ∧ sp.toNatClampNeg + n.toNatClampNeg ≤ n0 ∧ dp.toNatClampNeg + n.toNatClampNeg ≤ n1 := by
  unfold cpOK at h
  split at h
  · obtain ⟨rfl, rfl, h⟩ := h
    exact ⟨_, _, rfl, rfl, h⟩
  · exact h.elim
theorem s_copy (C : Cx p l G own nL ret cc s m meth c) (hR : 1 ≤ R.frames ∧ 60 ≤ R.locals) (d : decode cc pc = .ok (i, len)) (ck : ckmm own i len cplk = true) (h : wi st fun n r => wi r fun dp r => wr r fun q1 r => wi r fun sp r => wr r fun q0 r => c8 r ∧ cpOK (gK M q0) (gK M q1) sp dp n ∧ k L r (sI M q1 (va_cpy (gI M q0) (gI M q1) sp.toNatClampNeg dp.toNatClampNeg n.toNatClampNeg)) nc ns) (hk : KW p l e R s m args below meth c G nL Z k (pc + len)) (hM : ML G M H) (hlo : lok G locs) (hL : LR ls nL L) (hc : nc ≤ R.cells) (hs : ns ≤ R.slots) :
    W p l e R s m args below meth c H locs nc ns Z (F0 m pc ls st) := by
  obtain ⟨hx, hb, hml, hown, hW, -⟩ := C
  replace h := wi_inv h
  obtain ⟨n, r, rfl, h⟩ := h
  replace h := wi_inv h
  obtain ⟨dp, r, rfl, h⟩ := h
  replace h := wr_inv h
  obtain ⟨q1, r, rfl, h⟩ := h
  replace h := wi_inv h
  obtain ⟨sp, r, rfl, h⟩ := h
  replace h := wr_inv h
  obtain ⟨q0, r, rfl, h8, hcp, h⟩ := h
  replace hcp := cpOK_inv hcp
  obtain ⟨n0, n1, g0, g1, h1, h2, h3, h4, h5⟩ := hcp
  obtain ⟨a1, a2, -, a4⟩ := (hM.2.2.2.2 q0).a g0
  obtain ⟨b1, b2, b3, b4⟩ := (hM.2.2.2.2 q1).a g1
  unfold ckmm at ck
  split at ck
  case h_2 => cases ck
  case h_1 ix =>
    simp only [Bool.and_eq_true, beq_iff_eq, decide_eq_true_eq] at ck
    obtain ⟨rfl, ck⟩ := ck
    have hts : ∀ w ∈ TT, w.before args s = true := fun w hw => hW.1 w hw args
    have h9 : (r.map fun v => v.category).sum ≤ 8 := h8
    have nn : ∀ z : Int32, ¬ z < 0 → z.toInt = (z.toNatClampNeg : Int) := by
      intro z hz
      have hz0 : (0 : Int) ≤ z.toInt := by
        have := Int32.not_lt.mp hz
        simpa using Int32.le_iff_toInt_le.mp this
      show z.toInt = ((z.toInt.toNat : Nat) : Int)
      omega
    intro T hT X
    obtain ⟨-, k0, hk0, cm0, hkk0⟩ := (hW.2.2.1 0).1 n0 (fun j => .int (gI M q0 j))
    obtain ⟨-, k1, hk1, cm1, hkk1⟩ := (hW.2.2.1 0).1 n1 (fun j => .int (gI M q1 j))
    obtain ⟨vm', X', step⟩ := X.arraycopy hx hown (hts _ (cplk_in _ ck)) (hts _ w_cn) (hts _ w_cs) (hts _ w_ci) (src := q0) (dst := q1) (cs := arrV (gA G .int) n0 (fun j => .int (gI M q0 j))) (cd := arrV (gA G .int) n1 (fun j => .int (gI M q1 j))) (srcPos := sp) (destPos := dp) (n := n) (by rw [hT]; exact a4) (by rw [hT]; exact b4)
      (fun _ h => by cases h) (fun _ h => by cases h) (fun h => by cases h) (fun h => by cases h) hk0 hk1 hkk0 hkk1 (by simp [show refKind (aty 0) = false from rfl]) h1 h2 h3
      (by rw [nn sp h1, nn n h3, arrV_size]; omega)
      (by rw [nn dp h2, nn n h3, arrV_size]; omega)
      (fun vm₁ _ i hi => by
        have e9 : (arrV (gA G .int) n0 (fun j => .int (gI M q0 j))).slots.getD (sp.toNatClampNeg + i) .null = .int (gI M q0 (sp.toNatClampNeg + i)) := by
          rw [Array.getD_eq_getD_getElem?, arrV_read _ _ (by omega)]
          rfl
        refine ⟨?_, ?_⟩
        · rw [e9]
          rfl
        · rw [e9]
          exact trivial)
      (g := F0 m pc ls (.int n :: .int dp :: .ref q1 :: .int sp :: .ref q0 :: r)) rfl (by rw [hml]; exact hL.2.1) (rest := r) rfl (by rw [hb]; exact d) hR.1 (by
        have e7 : nativeFrameWords "java/lang/System" "arraycopy" 5 + 11 ≤ 50 := by decide +kernel
        have := hR.2
        show 2 * 0 + _ + _ ≤ _
        omega)
    have e1 : copied (arrV (gA G .int) n0 (fun j => .int (gI M q0 j))) (arrV (gA G .int) n1 (fun j => .int (gI M q1 j))) sp dp n = arrV (gA G .int) n1 (fun j => .int (va_cpy (gI M q0) (gI M q1) sp.toNatClampNeg dp.toNatClampNeg n.toNatClampNeg j)) := va_copied (fun z => .int z) (gA G .int) (gA G .int) (gI M q0) (gI M q1) h4
    rw [e1] at X' step
    have hl : q1 < H.size := (Array.getElem?_eq_some_iff.mp b4).1
    have hM' : ML G (sI M q1 (va_cpy (gI M q0) (gI M q1) sp.toNatClampNeg dp.toNatClampNeg n.toNatClampNeg)) (H.setIfInBounds q1 (arrV (gA G .int) n1 (fun j => .int (va_cpy (gI M q0) (gI M q1) sp.toNatClampNeg dp.toNatClampNeg n.toNatClampNeg j)))) := by
      refine hM.up (a := q1) rfl (by simp) (fun q hq => by simp [Array.getElem?_setIfInBounds, Ne.symm hq]) b1 (fun z hz => ⟨rfl, up_n _ _ hz, rfl, rfl⟩) ?_
      unfold kOK
      rw [gK_sI, g1]
      refine ⟨b1, b2, b3, ?_⟩
      rw [Array.getElem?_setIfInBounds, if_pos rfl, if_pos hl]
      refine congrArg (fun f => some (arrV (gA G .int) n1 f)) (funext fun j => ?_)
      show _ = Value.int (gI (sI M q1 _) q1 j)
      rw [gI_sI, up_s]
    have hlo' : ∀ L9 : List Loc, (∀ q ∈ L9, q.base = q1) → lok G (locs ++ L9) := fun L9 h9 q hq => by
      rcases List.mem_append.mp hq with h | h
      · exact hlo q h
      · rw [h9 q h]
        exact b1
    obtain ⟨t, c1, d1⟩ := hk _ _ _ _ _ h _ _ _ hM' (hlo' _ (fun q hq => by obtain ⟨z, -, hz⟩ := List.mem_map.mp hq; rw [← hz])) hL hc hs _ (by rw [← hT]; rfl) X'
    exact ⟨t, step t c1, d1⟩
end SND6
