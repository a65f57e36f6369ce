/-! ===== new int[n][k]: the outer array, the inner ones behind it ===== -/
section SND5
variable {p : Program} {l : Launch} {e : Env} {R : Room} {s : State} {m : MethodId} {args : Array Value} {below : List Frame} {meth : Method} {c : Code} {H : Heap} {locs : List Loc} {Z : State → Prop}
variable {G : Gt} {own nL pc len a b : Nat} {ret : Option FieldType} {cc : ByteArray} {ls : Array Slot} {i : Instr} {L : List Slot} {st : List Value} {M : Mm} {nc ns : Nat} {k : Kt} {cv : Value}
theorem multi_outer (c : ClassId) (N h0 : Nat) : ∀ i : Nat, Jvm.Free.Multi.outerC c N h0 i = arrV c N (fun j => rf (if j < i then h0 + 1 + j else 0))
  | 0 => by
    show ({ cls := c, slots := Array.replicate N .null, vm := .none } : Cell) = _
    rw [arrV_new]
    refine congrArg (arrV c N) (funext fun j => ?_)
    simp [rf]
  | i + 1 => by
    show (Jvm.Free.Multi.outerC c N h0 i).setSlot i (.ref (h0 + 1 + i)) = _
    rw [multi_outer c N h0 i, arrV_store]
    refine congrArg (arrV c N) (funext fun j => ?_)
    by_cases e : j = i
    · subst e
      simp [updV, rf]
    · by_cases h : j < i
      · simp [updV, e, h, Nat.lt_succ_of_lt h]
      · simp [updV, e, h, show ¬ j < i + 1 by omega]
def ckmu (own : Nat) (i : Instr) (len : Nat) : Bool := match i with
  | .multianewarray ix d => len == 4 && d == 2 && own == 11 && ix == 26
  | _ => false
theorem w_mul : Cond.classLink (xR 11) 26 ("[" ++ (FieldType.array .int).toString) ∈ TT := at9_in (i := 1068) (by decide +kernel)
theorem w_mo : Cond.arrayOver (.array .int) ∈ TT := at9_in (i := 1069) (by decide +kernel)
theorem w_so : Cond.arrayOver (.object "IrrigationTurns$State") ∈ TT := at9_in (i := 393) (by decide +kernel)
theorem s_multi (C : Cx p l G own nL ret cc s m meth c) (d : decode cc pc = .ok (i, len)) (ck : ckmu own i len = true) (h : wi st fun j r => wi r fun n r => ¬ n < 0 ∧ ¬ j < 0 ∧ n.toNatClampNeg * 4 ≤ 536870912 ∧ j.toNatClampNeg * 4 ≤ 536870912 ∧ nc + (1 + n.toNatClampNeg) ≤ R.cells ∧ ns + (n.toNatClampNeg + n.toNatClampNeg * j.toNatClampNeg) ≤ R.slots ∧ k L (.ref (gZ M) :: r) (nMu M n.toNatClampNeg j.toNatClampNeg) (nc + (1 + n.toNatClampNeg)) (ns + (n.toNatClampNeg + n.toNatClampNeg * j.toNatClampNeg))) (hk : KW p l e R s m args below meth c G nL Z k (pc + len)) (hM : ML G M H) (hlo : lok G locs) (hL : LR ls nL L) (_ : nc ≤ R.cells) (_ : ns ≤ R.slots) :
    W p l e R s m args below meth c H locs nc ns Z (F0 m pc ls st) := by
  obtain ⟨hx, hb, hml, hown, hW, -⟩ := C
  replace h := wi_inv h
  obtain ⟨j, r, rfl, h⟩ := h
  replace h := wi_inv h
  obtain ⟨n, r, rfl, hn, hj, hb1, hb2, h1, h2, h⟩ := h
  unfold ckmu at ck
  split at ck
  case h_2 => cases ck
  case h_1 ix dm =>
    simp only [Bool.and_eq_true, beq_iff_eq] at ck
    obtain ⟨⟨⟨rfl, rfl⟩, rfl⟩, rfl⟩ := ck
    have hts : ∀ w ∈ TT, w.before args s = true := fun w hw => hW.1 w hw args
    intro T hT Xs
    obtain ⟨vm₁, cA, comp, -, fA, fC, -, -, X', step⟩ := Xs.multianewarray2F hx (own := xR 11) (ty := .int) hown (hts _ w_mul) (hts _ w_mo) (hts _ w_aint) (g := F0 m pc ls (.int j :: .int n :: r)) rfl (by rw [hb]; exact d) rfl hn hj hb1 hb2 (by omega) rfl rfl h1 h2
    generalize hF : Jvm.Free.Multi.fill (T.setVm vm₁) cA comp n.toNatClampNeg j.toNatClampNeg (defaultValue .int) n.toNatClampNeg = F at X' step
    have hTh : (T.setVm vm₁).heap = H := hT
    obtain ⟨f1, f2, -, -⟩ := Jvm.Free.Multi.fill_facts (T.setVm vm₁) cA comp n.toNatClampNeg j.toNatClampNeg (defaultValue .int) n.toNatClampNeg
    rw [hF, hTh] at f1 f2
    have hold : ∀ x : Nat, x < H.size → F.heap[x]? = H[x]? := fun x hx => by
      have := Jvm.Free.Multi.fill_old (T.setVm vm₁) cA comp n.toNatClampNeg j.toNatClampNeg (defaultValue .int) (a := x) (by rw [hTh]; exact hx) n.toNatClampNeg
      rw [hF, hTh] at this
      exact this
    have hrow : ∀ y : Nat, y < n.toNatClampNeg → F.heap[H.size + 1 + y]? = some (arrV comp j.toNatClampNeg (fun _ => .int 0)) := fun y hy => by
      have := Jvm.Free.Multi.fill_inner (T.setVm vm₁) cA comp n.toNatClampNeg j.toNatClampNeg (defaultValue .int) n.toNatClampNeg y hy
      rw [hF, hTh] at this
      rw [this, ← arrV_new]
      rfl
    rw [multi_outer] at f2
    have eA : cA = gA G (.array .int) := by
      obtain ⟨h0, -⟩ := hW.2.2.1 5
      have h5 : va_RA s (gA G (.array .int)) (.array .int) := (hW.2.2.1 5).2
      exact Option.some.inj (fA.symm.trans h5)
    have eC : comp = gA G .int := by
      have h5 : va_RA s (gA G .int) .int := (hW.2.2.1 0).2
      exact Option.some.inj (fC.symm.trans h5)
    subst eA
    subst eC
    obtain ⟨m1, m0, m2, m3, m4⟩ := hM
    have hlt : n.toNatClampNeg * 4 ≤ 536870912 := hb1
    have hM' : ML G (nMu M n.toNatClampNeg j.toNatClampNeg) F.heap := by
      refine ⟨by rw [f1, m1]; rfl, m0, by rw [f1]; omega, fun q hq => by rw [hold q (by omega)]; exact m3 q hq, fun q => ?_⟩
      by_cases hq : q = gZ M
      · unfold kOK
        rw [show gK (nMu M n.toNatClampNeg j.toNatClampNeg) q = kA (.array .int) n.toNatClampNeg from if_pos hq]
        refine ⟨by rw [hq, ← m1]; exact m2, by omega, ⟨5, rfl⟩, ?_⟩
        rw [hq, ← m1, f2]
        refine congrArg (fun f => some (arrV (gA G (.array .int)) n.toNatClampNeg f)) (funext fun y => ?_)
        rw [m1]
        show _ = rf (gP (nMu M n.toNatClampNeg j.toNatClampNeg) (gZ M) y)
        exact congrArg rf (by rw [show gP (nMu M n.toNatClampNeg j.toNatClampNeg) (gZ M) = (fun i => if i < n.toNatClampNeg then gZ M + 1 + i else 0) from if_pos rfl])
      · by_cases hq2 : gZ M < q ∧ q < gZ M + 1 + n.toNatClampNeg
        · unfold kOK
          rw [show gK (nMu M n.toNatClampNeg j.toNatClampNeg) q = kA .int j.toNatClampNeg from (if_neg hq).trans (if_pos hq2)]
          refine ⟨by omega, by omega, ⟨0, rfl⟩, ?_⟩
          have hr := hrow (q - (H.size + 1)) (by omega)
          rw [show H.size + 1 + (q - (H.size + 1)) = q by omega] at hr
          rw [hr]
          refine congrArg (fun f => some (arrV (gA G .int) j.toNatClampNeg f)) (funext fun y => ?_)
          show _ = Value.int (gI (nMu M n.toNatClampNeg j.toNatClampNeg) q y)
          rw [show gI (nMu M n.toNatClampNeg j.toNatClampNeg) q = (fun _ => 0) from if_pos hq2]
        · have hK : gK (nMu M n.toNatClampNeg j.toNatClampNeg) q = gK M q := (if_neg hq).trans (if_neg hq2)
          rcases kd_cases (gK M q) with hn9 | hn9
          · unfold kOK
            rw [hK, hn9]
            trivial
          · have hl9 := (m4 q).lt m2 (by rintro e; rw [e] at hn9; simp [kO, kA, kR, kS] at hn9)
            exact (m4 q).cg hK (if_neg hq2) rfl (if_neg hq) (hold q hl9)
    obtain ⟨t, a1, b1⟩ := hk _ _ _ _ _ h _ _ _ hM' hlo hL h1 h2 F rfl (by rw [← Nat.add_assoc, ← Nat.add_assoc]; exact X')
    refine ⟨t, step t ?_, b1⟩
    rw [show T.heap.size = gZ M by rw [hT]; exact m1]
    exact a1
def ckan (own : Nat) (i : Instr) (len a : Nat) : Bool := match i with
  | .anewarray ix => len == 3 && a == 4 && decide ((own, ix, 8) ∈ clk)
  | _ => false
theorem s_anew (C : Cx p l G own nL ret cc s m meth c) (d : decode cc pc = .ok (i, len)) (ck : ckan own i len a = true) (h : wi st fun n r => ¬ n < 0 ∧ n.toNatClampNeg * 8 ≤ 536870912 ∧ nc + 1 ≤ R.cells ∧ ns + n.toNatClampNeg ≤ R.slots ∧ k L (.ref (gZ M) :: r) (nO M (kA (aty a) n.toNatClampNeg)) (nc + 1) (ns + n.toNatClampNeg)) (hk : KW p l e R s m args below meth c G nL Z k (pc + len)) (hM : ML G M H) (hlo : lok G locs) (hL : LR ls nL L) (_ : nc ≤ R.cells) (_ : ns ≤ R.slots) :
    W p l e R s m args below meth c H locs nc ns Z (F0 m pc ls st) := by
  obtain ⟨hx, hb, hml, hown, hW, -⟩ := C
  replace h := wi_inv h
  obtain ⟨n, r, rfl, hn, h8, h1, h2, h⟩ := h
  unfold ckan at ck
  split at ck
  case h_2 => cases ck
  case h_1 ix =>
    simp only [Bool.and_eq_true, beq_iff_eq, decide_eq_true_eq] at ck
    obtain ⟨⟨rfl, rfl⟩, ck⟩ := ck
    have hts : ∀ w ∈ TT, w.before args s = true := fun w hw => hW.1 w hw args
    refine W.anew hx hb (own := xR own) (C := "IrrigationTurns$State") hown (hts _ (clk_in _ ck)) (hts _ w_so) rfl d rfl hn (by omega) h1 h2 fun cA kA9 comp g1 g2 g3 g4 => ?_
    obtain ⟨-, hra⟩ := hW.2.2.1 4
    obtain ⟨_, _, -, -, -, e4⟩ := hra
    have eA : cA = gA G (aty 4) := Option.some.inj (g1.symm.trans e4)
    subst eA
    refine W.eq (g2 := F0 m (pc + 3) ls (.ref (gZ M) :: r)) (by rw [← hM.1]) (hk _ _ _ _ _ h _ _ _ (hM.nw (by rw [Array.size_push]) (fun q hq => by rw [Array.getElem?_push, if_neg (Nat.ne_of_lt hq)]) ?_) hlo hL h1 h2)
    unfold kOK
    rw [gK_nO, up_s]
    refine ⟨by rw [← hM.1]; exact hM.2.2.1, by omega, ⟨4, rfl⟩, ?_⟩
    rw [← hM.1, Array.getElem?_push_size, arrV_new, hM.1]
    exact congrArg (fun f => some (arrV (gA G (aty 4)) n.toNatClampNeg f)) (funext fun j => mv_0 (ty := aty 4) rfl j)
end SND5
