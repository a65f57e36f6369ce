/-! ===== the abstract machine is sound: calls, ends, throws ===== -/
def Pcx (G : Gt) (as : List Value) (M : Mm) : Array Value → State → Prop := fun a U => a = as.toArray ∧ Wd G U ∧ ML G M U.heap
def Qcx (G : Gt) (S : Option Value → Mm → Prop) : Array Value → State → Outcome → State → Prop := fun _ _ o t => ∃ v M', o = .returned v ∧ S v M' ∧ ML G M' t.heap
def XCx (G : Gt) (S : Nat → Mm → Prop) : String → State → State → Prop := fun E _ t => ∃ i M', E = xE i ∧ S i M' ∧ ML G M' t.heap
def fre (G : Gt) : Addr → Prop := fun q => (gHb G).size ≤ q
/-- a contract of the abstract machine is one of the machine -/
def SatM (l : Launch) (G : Gt) (id : Nat) (S : Sem) : Prop := ∀ as M, (S as M).1 → vx_Met l (cY id) [cwd id] { frames := cF id, cells := cM id, slots := cS id, locals := cO id } (Pcx G as M) (Qcx G (S as M).2.1) (XCx G (S as M).2.2) (cM id) (cS id) (fre G)
theorem Pcx.blind (G : Gt) (as : List Value) (M : Mm) : FrameBlind (Pcx G as M) := by
  intro a U g mk h
  exact ⟨h.1, Wd.warm (s := U) (U := U.calling g mk a) (State.WarmedH.refl U) h.2.1, h.2.2⟩
section SND4
variable {p : Program} {l : Launch} {e : Env} {R : Room} {s : State} {m : MethodId} {args : Array Value} {below : List Frame} {meth : Method} {c : Code} {H : Heap} {locs : List Loc} {Z : State → Prop}
variable {G : Gt} {own nL pc len a b : Nat} {ret : Option FieldType} {cc : ByteArray} {ls : Array Slot} {i : Instr} {L : List Slot} {st : List Value} {M : Mm} {nc ns : Nat} {k : Kt} {cv : Value}
def cko (own : Nat) (i : Instr) (len : Nat) : Bool := match i with
  | .invokespecial ix => len == 3 && decide ((own, ix) ∈ olk)
  | _ => false
theorem s_oinit (C : Cx p l G own nL ret cc s m meth c) (hR : 1 ≤ R.frames ∧ 40 ≤ R.locals) (d : decode cc pc = .ok (i, len)) (ck : cko own i len = true) (h : wr st fun _ r => c8 r ∧ k L r M nc ns) (hk : KW p l e R s m args below meth c G nL Z k (pc + len)) (hM : ML G M H) (hlo : lok G locs) (hL : LR ls nL L) (hc : nc ≤ R.cells) (hs : ns ≤ R.slots) :
    W p l e R s m args below meth c H locs nc ns Z (F0 m pc ls st) := by
  obtain ⟨hx, hb, hml, hown, hW, -⟩ := C
  replace h := wr_inv h
  obtain ⟨q, r, rfl, h8, h⟩ := h
  unfold cko at ck
  split at ck
  · simp only [Bool.and_eq_true, beq_iff_eq, decide_eq_true_eq] at ck
    obtain ⟨rfl, ck⟩ := ck
    have hts : ∀ w ∈ TT, w.before args s = true := fun w hw => hW.1 w hw args
    refine W.objInit hx hb hown (hts _ (olk_in _ ck)) (hts _ w_oi) (hts _ w_oc) rfl (by rw [hml]; exact hL.2.1) rfl d hR.1 ?_ ?_
    · have h9 := lv_room (m := m) (pc := pc) (ls := ls) (rest := .ref q :: r) h8
      have := hR.2
      omega
    · exact W.eq (g2 := F0 m (pc + 3) ls r) rfl (hk _ _ _ _ _ h _ _ _ hM hlo hL hc hs)
  · cases ck
def ckmm (own : Nat) (i : Instr) (len : Nat) (t : List (Nat × Nat)) : Bool := match i with
  | .invokestatic ix => len == 3 && decide ((own, ix) ∈ t)
  | _ => false
theorem s_min (C : Cx p l G own nL ret cc s m meth c) (hR : 1 ≤ R.frames ∧ 40 ≤ R.locals) (d : decode cc pc = .ok (i, len)) (ck : ckmm own i len minlk = true) (h : wi st fun y r => wi r fun x r => c8 r ∧ k L (.int (if y < x then y else x) :: r) M nc ns) (hk : KW p l e R s m args below meth c G nL Z k (pc + len)) (hM : ML G M H) (hlo : lok G locs) (hL : LR ls nL L) (hc : nc ≤ R.cells) (hs : ns ≤ R.slots) :
    W p l e R s m args below meth c H locs nc ns Z (F0 m pc ls st) := by
  obtain ⟨hx, hb, hml, hown, hW, -⟩ := C
  replace h := wi_inv h
  obtain ⟨y, r, rfl, h⟩ := h
  replace h := wi_inv h
  obtain ⟨x, r, rfl, h8, h⟩ := h
  unfold ckmm at ck
  split at ck
  · simp only [Bool.and_eq_true, beq_iff_eq, decide_eq_true_eq] at ck
    obtain ⟨rfl, ck⟩ := ck
    have hts : ∀ w ∈ TT, w.before args s = true := fun w hw => hW.1 w hw args
    have h9 : (r.map fun v => v.category).sum ≤ 8 := h8
    exact va_mmin hx hb (by rw [hml]; exact hL.2.1.symm) hown (hts _ (minlk_in _ ck)) (hts _ w_mins) (hts _ w_mi) (hts _ w_minc) hR.1 (by have := hR.2; omega) hc hs d (hk _ _ _ _ _ h _ _ _ hM hlo hL hc hs)
  · cases ck
theorem s_max (C : Cx p l G own nL ret cc s m meth c) (hR : 1 ≤ R.frames ∧ 40 ≤ R.locals) (d : decode cc pc = .ok (i, len)) (ck : ckmm own i len maxlk = true) (h : wi st fun y r => wi r fun x r => c8 r ∧ k L (.int (if x < y then y else x) :: r) M nc ns) (hk : KW p l e R s m args below meth c G nL Z k (pc + len)) (hM : ML G M H) (hlo : lok G locs) (hL : LR ls nL L) (hc : nc ≤ R.cells) (hs : ns ≤ R.slots) :
    W p l e R s m args below meth c H locs nc ns Z (F0 m pc ls st) := by
  obtain ⟨hx, hb, hml, hown, hW, -⟩ := C
  replace h := wi_inv h
  obtain ⟨y, r, rfl, h⟩ := h
  replace h := wi_inv h
  obtain ⟨x, r, rfl, h8, h⟩ := h
  unfold ckmm at ck
  split at ck
  · simp only [Bool.and_eq_true, beq_iff_eq, decide_eq_true_eq] at ck
    obtain ⟨rfl, ck⟩ := ck
    have hts : ∀ w ∈ TT, w.before args s = true := fun w hw => hW.1 w hw args
    have h9 : (r.map fun v => v.category).sum ≤ 8 := h8
    exact va_mmax hx hb (by rw [hml]; exact hL.2.1.symm) hown (hts _ (maxlk_in _ ck)) (hts _ w_maxs) (hts _ w_mi) (hts _ w_maxc) hR.1 (by have := hR.2; omega) hc hs d (hk _ _ _ _ _ h _ _ _ hM hlo hL hc hs)
  · cases ck
theorem s_minl (C : Cx p l G own nL ret cc s m meth c) (hR : 1 ≤ R.frames ∧ 40 ≤ R.locals) (d : decode cc pc = .ok (i, len)) (ck : ckmm own i len mnllk = true) (h : wl st fun y r => wl r fun x r => c8 r ∧ k L (.long (if y < x then y else x) :: r) M nc ns) (hk : KW p l e R s m args below meth c G nL Z k (pc + len)) (hM : ML G M H) (hlo : lok G locs) (hL : LR ls nL L) (hc : nc ≤ R.cells) (hs : ns ≤ R.slots) :
    W p l e R s m args below meth c H locs nc ns Z (F0 m pc ls st) := by
  obtain ⟨hx, hb, hml, hown, hW, -⟩ := C
  replace h := wl_inv h
  obtain ⟨y, r, rfl, h⟩ := h
  replace h := wl_inv h
  obtain ⟨x, r, rfl, h8, h⟩ := h
  unfold ckmm at ck
  split at ck
  · simp only [Bool.and_eq_true, beq_iff_eq, decide_eq_true_eq] at ck
    obtain ⟨rfl, ck⟩ := ck
    have hts : ∀ w ∈ TT, w.before args s = true := fun w hw => hW.1 w hw args
    have h9 : (r.map fun v => v.category).sum ≤ 8 := h8
    exact va_mmin_long hx hb (by rw [hml]; exact hL.2.1.symm) hown (hts _ (mnllk_in _ ck)) (hts _ w_mnls) (hts _ w_mi) (hts _ w_mnlc) hR.1 (by have := hR.2; omega) hc hs d (hk _ _ _ _ _ h _ _ _ hM hlo hL hc hs)
  · cases ck
theorem s_maxl (C : Cx p l G own nL ret cc s m meth c) (hR : 1 ≤ R.frames ∧ 40 ≤ R.locals) (d : decode cc pc = .ok (i, len)) (ck : ckmm own i len mxllk = true) (h : wl st fun y r => wl r fun x r => c8 r ∧ k L (.long (if y < x then x else y) :: r) M nc ns) (hk : KW p l e R s m args below meth c G nL Z k (pc + len)) (hM : ML G M H) (hlo : lok G locs) (hL : LR ls nL L) (hc : nc ≤ R.cells) (hs : ns ≤ R.slots) :
    W p l e R s m args below meth c H locs nc ns Z (F0 m pc ls st) := by
  obtain ⟨hx, hb, hml, hown, hW, -⟩ := C
  replace h := wl_inv h
  obtain ⟨y, r, rfl, h⟩ := h
  replace h := wl_inv h
  obtain ⟨x, r, rfl, h8, h⟩ := h
  unfold ckmm at ck
  split at ck
  · simp only [Bool.and_eq_true, beq_iff_eq, decide_eq_true_eq] at ck
    obtain ⟨rfl, ck⟩ := ck
    have hts : ∀ w ∈ TT, w.before args s = true := fun w hw => hW.1 w hw args
    have h9 : (r.map fun v => v.category).sum ≤ 8 := h8
    exact va_mmax_long hx hb (by rw [hml]; exact hL.2.1.symm) hown (hts _ (mxllk_in _ ck)) (hts _ w_mxls) (hts _ w_mi) (hts _ w_mxlc) hR.1 (by have := hR.2; omega) hc hs d (hk _ _ _ _ _ h _ _ _ hM hlo hL hc hs)
  · cases ck
def ckls9 (own : Nat) (i : Instr) (len a : Nat) : Bool := match i with
  | .ldc ix => len == 2 && decide ((own, ix, a) ∈ ldS9)
  | _ => false
theorem s_ldcs (C : Cx p l G own nL ret cc s m meth c) (d : decode cc pc = .ok (i, len)) (ck : ckls9 own i len a = true) (h : k L (.ref (gT G a) :: st) M nc ns) (hk : KW p l e R s m args below meth c G nL Z k (pc + len)) (hM : ML G M H) (hlo : lok G locs) (hL : LR ls nL L) (hc : nc ≤ R.cells) (hs : ns ≤ R.slots) :
    W p l e R s m args below meth c H locs nc ns Z (F0 m pc ls st) := by
  obtain ⟨hx, hb, hml, hown, hW, -⟩ := C
  unfold ckls9 at ck
  split at ck
  case h_2 => cases ck
  case h_1 ix =>
    simp only [Bool.and_eq_true, beq_iff_eq, decide_eq_true_eq] at ck
    obtain ⟨rfl, ck⟩ := ck
    have hz : vk_R (xR own) ix (sX.getD a "") (gT G a) s := hW.2.2.2.2.2.1 (own, ix, a) ck
    exact va_ldcS (own := xR own) (tx := sX.getD a "") (index := ix) (q := gT G a) hx hb hown hz d (hk _ _ _ _ _ h _ _ _ hM hlo hL hc hs)
/-! == ends == -/
abbrev ZZ (G : Gt) (below : List Frame) (Q : Option Value → Mm → Prop) (X : Nat → Mm → Prop) (args : Array Value) (s : State) (R : Room) : State → Prop := vx_MQ below (Qcx G Q) (XCx G X) args s R.cells R.slots (fre G)
theorem s_ret {Q : Option Value → Mm → Prop} {X : Nat → Mm → Prop} (C : Cx p l G own nL ret cc s m meth c) (d : decode cc pc = .ok (i, len)) (ck : (ck1i i len .return_ && decide (ret = none)) = true) (h : st = [] ∧ Q none M) (hM : ML G M H) (hlo : lok G locs) (hc : nc ≤ R.cells) (hs : ns ≤ R.slots) :
    W p l e R s m args below meth c H locs nc ns (ZZ G below Q X args s R) (F0 m pc ls st) := by
  obtain ⟨hx, hb, hml, hown, hW, hr, hlk, -⟩ := C
  obtain ⟨rfl, h⟩ := h
  unfold ck1i at ck
  simp only [Bool.and_eq_true, beq_iff_eq, decide_eq_true_eq] at ck
  obtain ⟨⟨rfl, rfl⟩, rfl⟩ := ck
  refine W.widen hc hs (vx_ret (W.vret hx hb hr (fun t ht hW9 => ⟨none, M, rfl, h, by rw [ht]; exact hM⟩) hlo d hlk))
theorem s_iret {Q : Option Value → Mm → Prop} {X : Nat → Mm → Prop} (C : Cx p l G own nL ret cc s m meth c) (d : decode cc pc = .ok (i, len)) (ck : (ck1i i len .ireturn && decide (ret = some .int)) = true) (h : wi st fun x r => r = [] ∧ Q (some (.int x)) M) (hM : ML G M H) (hlo : lok G locs) (hc : nc ≤ R.cells) (hs : ns ≤ R.slots) :
    W p l e R s m args below meth c H locs nc ns (ZZ G below Q X args s R) (F0 m pc ls st) := by
  obtain ⟨hx, hb, hml, hown, hW, hr, hlk, -⟩ := C
  replace h := wi_inv h
  obtain ⟨x, r, rfl, rfl, h⟩ := h
  unfold ck1i at ck
  simp only [Bool.and_eq_true, beq_iff_eq, decide_eq_true_eq] at ck
  obtain ⟨⟨rfl, rfl⟩, rfl⟩ := ck
  refine W.widen hc hs (vx_ret (W.iret hx hb hr (fun t ht hW9 => ⟨_, M, rfl, h, by rw [ht]; exact hM⟩) hlo d hlk))
theorem s_lret {Q : Option Value → Mm → Prop} {X : Nat → Mm → Prop} (C : Cx p l G own nL ret cc s m meth c) (d : decode cc pc = .ok (i, len)) (ck : (ck1i i len .lreturn && decide (ret = some .long)) = true) (h : wl st fun x r => r = [] ∧ Q (some (.long x)) M) (hM : ML G M H) (hlo : lok G locs) (hc : nc ≤ R.cells) (hs : ns ≤ R.slots) :
    W p l e R s m args below meth c H locs nc ns (ZZ G below Q X args s R) (F0 m pc ls st) := by
  obtain ⟨hx, hb, hml, hown, hW, hr, hlk, -⟩ := C
  replace h := wl_inv h
  obtain ⟨x, r, rfl, rfl, h⟩ := h
  unfold ck1i at ck
  simp only [Bool.and_eq_true, beq_iff_eq, decide_eq_true_eq] at ck
  obtain ⟨⟨rfl, rfl⟩, rfl⟩ := ck
  refine W.widen hc hs (vx_ret (W.lret hx hb hr (fun t ht hW9 => ⟨_, M, rfl, h, by rw [ht]; exact hM⟩) hlo d hlk))
theorem s_zret {Q : Option Value → Mm → Prop} {X : Nat → Mm → Prop} (C : Cx p l G own nL ret cc s m meth c) (d : decode cc pc = .ok (i, len)) (ck : (ck1i i len .ireturn && decide (ret = some .boolean)) = true) (h : wi st fun x r => r = [] ∧ vp_nar .boolean x = x ∧ Q (some (.int x)) M) (hM : ML G M H) (hlo : lok G locs) (hc : nc ≤ R.cells) (hs : ns ≤ R.slots) :
    W p l e R s m args below meth c H locs nc ns (ZZ G below Q X args s R) (F0 m pc ls st) := by
  obtain ⟨hx, hb, hml, hown, hW, hr, hlk, -⟩ := C
  replace h := wi_inv h
  obtain ⟨x, r, rfl, rfl, hz, h⟩ := h
  unfold ck1i at ck
  simp only [Bool.and_eq_true, beq_iff_eq, decide_eq_true_eq] at ck
  obtain ⟨⟨rfl, rfl⟩, rfl⟩ := ck
  refine W.widen hc hs (vx_ret (W.zret hx hb hr (by rw [nar_z, hz]) (fun t ht hW9 => ⟨_, M, rfl, h, by rw [ht]; exact hM⟩) hlo d hlk))
/-! == throws == -/
def xNm : List String := ["java/lang/RuntimeException", "java/lang/Exception"]
def thL : List (Nat × Nat × Nat) := [(10, 217, 1), (10, 220, 0), (10, 197, 2)]
set_option maxRecDepth 100000 in
theorem thL_ok : thL.all (fun q => (vx_at0 (xR q.1) q.2.1 (xE q.2.2) xNm).all (fun w => decide (w ∈ lw_tbl) && okw w && vx_ot w) && Bundle.fit (xE q.2.2)) = true := by decide +kernel
def ckth (own : Nat) (cc : ByteArray) (pc : Nat) (i : Instr) (len a : Nat) (nt : Bool) : Bool := match i, decode cc (pc + 4) with
  | .new ix, .ok (.invokespecial ic, 3) => len == 3 && decide ((own, ix, a) ∈ elk) && decide ((own, ic, a) ∈ thL) && decide (decode cc (pc + 3) = .ok (.dup, 1)) && decide (decode cc (pc + 7) = .ok (.athrow, 1)) && nt && decide (a < 3)
  | _, _ => false
theorem w_ex {a : Nat} (h : a < 3) : Cond.initialized (xE a) ∈ TT := by
  rcases (show a = 0 ∨ a = 1 ∨ a = 2 by omega) with rfl | rfl | rfl
  · exact w_e0
  · exact w_e1
  · exact w_e2
theorem s_throw {nt : Bool} {Q : Option Value → Mm → Prop} {X : Nat → Mm → Prop} (C : Cx p l G own nL ret cc s m meth c) (hR : 6 ≤ R.frames ∧ 89 ≤ R.locals) (hnt : nt = true → ∀ x ∈ c.exceptionTable.toList, False) (d : decode cc pc = .ok (i, len)) (ck : ckth own cc pc i len a nt = true) (h : c8 st ∧ nc + 1 ≤ R.cells ∧ ns + 6 ≤ R.slots ∧ ∀ z, gZ M ≤ z → X a (sZ M z)) (hM : ML G M H) (hlo : lok G locs) (hL : LR ls nL L) :
    W p l e R s m args below meth c H locs nc ns (ZZ G below Q X args s R) (F0 m pc ls st) := by
  obtain ⟨hx, hb, hml, hown, hW, hr, hlk, hst, hE⟩ := C
  obtain ⟨h8, h1, h2, h⟩ := h
  have h9 : (st.map fun v => v.category).sum ≤ 8 := h8
  unfold ckth at ck
  split at ck
  case h_2 => cases ck
  case h_1 ix ic hd4 =>
    simp only [Bool.and_eq_true, beq_iff_eq, decide_eq_true_eq] at ck
    obtain ⟨⟨⟨⟨⟨⟨rfl, c1⟩, c2⟩, d3⟩, d7⟩, hn⟩, ha⟩ := ck
    have hts : ∀ w ∈ TT, w.before args s = true := fun w hw => hW.1 w hw args
    have h7 := List.all_eq_true.mp thL_ok _ c2
    simp only [Bool.and_eq_true] at h7
    have hat : ∀ w ∈ vx_at0 (xR own) ic (xE a) xNm, w ∈ TT ∧ vx_ot w = true := fun w hw => by
      have := List.all_eq_true.mp h7.1 w hw
      simp only [Bool.and_eq_true, decide_eq_true_eq] at this
      exact ⟨List.mem_filter.mpr this.1, this.2⟩
    have hZ : ∀ {C n d : String}, vx_Zq C n d (fun q => (gHb G).size ≤ q) s (gHb G) → vx_Zq C n d (fun q => (gHb G).size ≤ q) s s.heap := fun hz => hz.kept fun q hq _ => hE q hq
    intro T hT Xs
    obtain ⟨f1, f2⟩ := vx_frame (U := T) Xs.same
    rw [hT] at f1 f2
    have hS : va_S (fun q => (gHb G).size ≤ q) s.heap H locs := ⟨f1, fun q hq hA => f2 q hq fun z hz e9 => hA (by rw [← e9]; exact hlo z hz), hlo⟩
    refine vx_throw0 hx hb hst (own := xR own) (cls := xE a) (names := xNm) (ik := ix) (ic := ic) (A := fun q => (gHb G).size ≤ q) hown h7.2 (by decide +kernel) (hts _ (elk_in _ c1)) (hts _ (w_ex ha)) (fun w hw => hts _ (hat w hw).1) ?_ (hZ hW.2.2.2.1.1) (hZ hW.2.2.2.1.2) hS (by rw [hml]; exact hL.2.1) d d3 hd4 d7 (fun x hx9 => (hnt hn x hx9).elim) ?_ ?_ h1 h2 hlk ?_ hlo h1 h2 T hT Xs
    · intro w hw
      rcases List.mem_cons.mp hw with rfl | hw
      · rfl
      · rcases List.mem_cons.mp hw with rfl | hw
        · rfl
        · exact (hat w hw).2
    · show 2 + 3 < R.frames
      omega
    · show _ + (13 * (2 + 1) + 42) ≤ R.locals
      omega
    · intro t hal hsz hold
      exact ⟨a, sZ M t.heap.size, rfl, h _ (by rw [← hM.1]; exact hsz), hM.z hsz hold⟩
end SND4
