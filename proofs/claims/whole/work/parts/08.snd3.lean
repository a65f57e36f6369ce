/-! ===== the abstract machine is sound: arrays, new cells ===== -/
section SND3
variable {p : Program} {l : Launch} {e : Env} {R : Room} {s : State} {m : MethodId} {args : Array Value} {below : List Frame} {meth : Method} {c : Code} {H : Heap} {locs : List Loc} {Z : State → Prop}
variable {G : Gt} {own nL pc len a b : Nat} {ret : Option FieldType} {cc : ByteArray} {ls : Array Slot} {i : Instr} {L : List Slot} {st : List Value} {M : Mm} {nc ns : Nat} {k : Kt} {cv : Value}
theorem in_arr {cA : ClassId} {n : Nat} {f : Nat → Value} {j : Int32} (h : vp_in j n) : ¬ (j < 0 ∨ (arrV cA n f).slots.size ≤ j.toNatClampNeg) := by
  rw [arrV_size]
  exact h
theorem lt_arr {n : Nat} {j : Int32} (h : vp_in j n) : j.toNatClampNeg < n := Nat.not_le.mp fun q => h (Or.inr q)
def ck1i (i : Instr) (len : Nat) (j : Instr) : Bool := len == 1 && decide (i = j)
theorem s_iald (C : Cx p l G own nL ret cc s m meth c) (d : decode cc pc = .ok (i, len)) (ck : (ck1i i len (if a = 0 then .iaload else .baload) && decide (a < 3)) = true) (h : wi st fun j r => wr r fun q r => inB (gK M q) (aty a) j ∧ k L (.int (gI M q j.toNatClampNeg) :: r) M nc ns) (hk : KW p l e R s m args below meth c G nL Z k (pc + len)) (hM : ML G M H) (hlo : lok G locs) (hL : LR ls nL L) (hc : nc ≤ R.cells) (hs : ns ≤ R.slots) :
    W p l e R s m args below meth c H locs nc ns Z (F0 m pc ls st) := by
  obtain ⟨hx, hb, hml, hown, hW, -⟩ := C
  replace h := wi_inv h
  obtain ⟨j, r, rfl, h⟩ := h
  replace h := wr_inv h
  obtain ⟨q, r, rfl, hq, h⟩ := h
  replace hq := inB_inv hq
  obtain ⟨n, hq, hj⟩ := hq
  obtain ⟨h1, h2, -, h4⟩ := (hM.2.2.2.2 q).a hq
  unfold ck1i at ck
  simp only [Bool.and_eq_true, beq_iff_eq, decide_eq_true_eq] at ck
  obtain ⟨⟨rfl, rfl⟩, ha⟩ := ck
  have K := hk _ _ _ _ _ h _ _ _ hM hlo hL hc hs
  rcases (show a = 0 ∨ a = 1 ∨ a = 2 by omega) with rfl | rfl | rfl
  · exact W.iald (v := .int (gI M q j.toNatClampNeg)) hx hb h4 ((hW.2.2.1 0).1 n _) (fun q => by cases q) (in_arr hj) (by rw [arrV_read _ _ (lt_arr hj)]; rfl) rfl rfl d K
  · exact W.zald (v := .int (gI M q j.toNatClampNeg)) hx hb h4 ((hW.2.2.1 1).1 n _) (fun q => by cases q) (in_arr hj) (by rw [arrV_read _ _ (lt_arr hj)]; rfl) rfl rfl d K
  · exact W.bald (v := .int (gI M q j.toNatClampNeg)) hx hb h4 ((hW.2.2.1 2).1 n _) (fun q => by cases q) (in_arr hj) (by rw [arrV_read _ _ (lt_arr hj)]; rfl) rfl rfl d K
theorem s_lald (C : Cx p l G own nL ret cc s m meth c) (d : decode cc pc = .ok (i, len)) (ck : ck1i i len .laload = true) (h : wi st fun j r => wr r fun q r => inB (gK M q) .long j ∧ k L (.long (gJ M q j.toNatClampNeg) :: r) M nc ns) (hk : KW p l e R s m args below meth c G nL Z k (pc + len)) (hM : ML G M H) (hlo : lok G locs) (hL : LR ls nL L) (hc : nc ≤ R.cells) (hs : ns ≤ R.slots) :
    W p l e R s m args below meth c H locs nc ns Z (F0 m pc ls st) := by
  obtain ⟨hx, hb, hml, hown, hW, -⟩ := C
  replace h := wi_inv h
  obtain ⟨j, r, rfl, h⟩ := h
  replace h := wr_inv h
  obtain ⟨q, r, rfl, hq, h⟩ := h
  replace hq := inB_inv hq
  obtain ⟨n, hq, hj⟩ := hq
  obtain ⟨h1, h2, -, h4⟩ := (hM.2.2.2.2 q).a hq
  unfold ck1i at ck
  simp only [Bool.and_eq_true, beq_iff_eq, decide_eq_true_eq] at ck
  obtain ⟨rfl, rfl⟩ := ck
  exact W.lald (v := .long (gJ M q j.toNatClampNeg)) hx hb h4 ((hW.2.2.1 3).1 n _) (fun q => by cases q) (in_arr hj) (by rw [arrV_read _ _ (lt_arr hj)]; rfl) rfl rfl d (hk _ _ _ _ _ h _ _ _ hM hlo hL hc hs)
theorem s_aald (C : Cx p l G own nL ret cc s m meth c) (d : decode cc pc = .ok (i, len)) (ck : (ck1i i len .aaload && decide (4 ≤ a)) = true) (h : wi st fun j r => wr r fun q r => inB (gK M q) (aty a) j ∧ gP M q j.toNatClampNeg ≠ 0 ∧ k L (.ref (gP M q j.toNatClampNeg) :: r) M nc ns) (hk : KW p l e R s m args below meth c G nL Z k (pc + len)) (hM : ML G M H) (hlo : lok G locs) (hL : LR ls nL L) (hc : nc ≤ R.cells) (hs : ns ≤ R.slots) :
    W p l e R s m args below meth c H locs nc ns Z (F0 m pc ls st) := by
  obtain ⟨hx, hb, hml, hown, hW, -⟩ := C
  replace h := wi_inv h
  obtain ⟨j, r, rfl, h⟩ := h
  replace h := wr_inv h
  obtain ⟨q, r, rfl, hq, hn, h⟩ := h
  replace hq := inB_inv hq
  obtain ⟨n, hq, hj⟩ := hq
  obtain ⟨h1, h2, -, h4⟩ := (hM.2.2.2.2 q).a hq
  unfold ck1i at ck
  simp only [Bool.and_eq_true, beq_iff_eq, decide_eq_true_eq] at ck
  obtain ⟨⟨rfl, rfl⟩, ha⟩ := ck
  have hr9 : refl9 (aty a) = true := by
    match a, ha with
    | 4, _ => rfl
    | a + 5, _ => rfl
  have hr8 : (aty a).isReference = true := by
    match a, ha with
    | 4, _ => rfl
    | a + 5, _ => rfl
  exact W.aald (v := .ref (gP M q j.toNatClampNeg)) hx hb h4 ((hW.2.2.1 a).1 n _) hr8 (fun q => by cases q) (in_arr hj) (by rw [arrV_read _ _ (lt_arr hj), mv_r hr9, rf_n hn]) rfl rfl d (hk _ _ _ _ _ h _ _ _ hM hlo hL hc hs)
theorem s_rald (C : Cx p l G own nL ret cc s m meth c) (d : decode cc pc = .ok (i, len)) (ck : ck1i i len .iaload = true) (h : wi st fun j r => wr r fun q r => inR (gK M q) j ∧ k L (.int (gI M q j.toNatClampNeg) :: r) M nc ns) (hk : KW p l e R s m args below meth c G nL Z k (pc + len)) (hM : ML G M H) (hlo : lok G locs) (hL : LR ls nL L) (hc : nc ≤ R.cells) (hs : ns ≤ R.slots) :
    W p l e R s m args below meth c H locs nc ns Z (F0 m pc ls st) := by
  obtain ⟨hx, hb, hml, hown, hW, -⟩ := C
  replace h := wi_inv h
  obtain ⟨j, r, rfl, h⟩ := h
  replace h := wr_inv h
  obtain ⟨q, r, rfl, hq, h⟩ := h
  replace hq := inR_inv hq
  obtain ⟨n, hq, hj⟩ := hq
  obtain ⟨h1, h2, h3, h4, h5, h6, h7⟩ := (hM.2.2.2.2 q).r hq
  unfold ck1i at ck
  simp only [Bool.and_eq_true, beq_iff_eq, decide_eq_true_eq] at ck
  obtain ⟨rfl, rfl⟩ := ck
  exact W.iald (v := .int (gI M q j.toNatClampNeg)) hx hb ((hM.2.2.2.1 q h1).trans h4) hW.2.2.2.2.1 h5 (by rw [h6]; exact hj) (h7 _ (lt_arr hj)) rfl rfl d (hk _ _ _ _ _ h _ _ _ hM hlo hL hc hs)
theorem s_alen (C : Cx p l G own nL ret cc s m meth c) (d : decode cc pc = .ok (i, len)) (ck : ck1i i len .arraylength = true) (h : wr st fun q r => kLen (gK M q) fun n => k L (.int n :: r) M nc ns) (hk : KW p l e R s m args below meth c G nL Z k (pc + len)) (hM : ML G M H) (hlo : lok G locs) (hL : LR ls nL L) (hc : nc ≤ R.cells) (hs : ns ≤ R.slots) :
    W p l e R s m args below meth c H locs nc ns Z (F0 m pc ls st) := by
  obtain ⟨hx, hb, hml, hown, hW, -⟩ := C
  replace h := wr_inv h
  obtain ⟨q, r, rfl, h⟩ := h
  replace h := kLen_inv h
  unfold ck1i at ck
  simp only [Bool.and_eq_true, beq_iff_eq, decide_eq_true_eq] at ck
  obtain ⟨rfl, rfl⟩ := ck
  rcases h with ⟨ty, n, hq, h⟩ | ⟨n, hq, h⟩
  · obtain ⟨h1, h2, ⟨b, hb9⟩, h4⟩ := (hM.2.2.2.2 q).a hq
    exact W.alen (n := nI n) hx hb h4 (by rw [hb9]; exact (hW.2.2.1 b).1 n _) (by rw [arrV_size]; rfl) rfl rfl d (hk _ _ _ _ _ h _ _ _ hM hlo hL hc hs)
  · obtain ⟨h1, h2, h3, h4, h5, h6, h7⟩ := (hM.2.2.2.2 q).r hq
    exact W.alen (n := nI n) hx hb ((hM.2.2.2.1 q h1).trans h4) hW.2.2.2.2.1 (by rw [h6]; rfl) rfl rfl d (hk _ _ _ _ _ h _ _ _ hM hlo hL hc hs)
/-- a place of an array is written -/
theorem x_ast {M' : Mm} {H' : Heap} {ty : FieldType} {q n j : Nat} {v : Value} (hM : ML G M H) (hq : gK M q = kA ty n) (e1 : H'[q]? = some ((arrV (gA G ty) n (fun k => mv M q k ty)).setSlot j v)) (e2 : H'.size = H.size) (e3 : ∀ z, z ≠ q → H'[z]? = H[z]?)
    (hz : gZ M' = gZ M) (hK : gK M' = gK M) (ho : ∀ z, z ≠ q → gI M' z = gI M z ∧ gJ M' z = gJ M z ∧ gP M' z = gP M z) (hv : mv M' q j ty = v) (hj : ∀ x, x ≠ j → mv M' q x ty = mv M q x ty) : ML G M' H' := by
  obtain ⟨h1, h2, h3, h4⟩ := (hM.2.2.2.2 q).a hq
  refine hM.up hz e2 e3 h1 (fun z hz => ⟨by rw [hK], (ho z hz).1, (ho z hz).2.1, (ho z hz).2.2⟩) ?_
  unfold kOK
  rw [hK, hq]
  refine ⟨h1, h2, h3, ?_⟩
  rw [e1, arrV_store]
  refine congrArg (fun f => some (arrV (gA G ty) n f)) (funext fun x => ?_)
  unfold updV
  by_cases hx : x = j
  · rw [if_pos hx, hx, hv]
  · rw [if_neg hx, hj x hx]
theorem s_iast (C : Cx p l G own nL ret cc s m meth c) (d : decode cc pc = .ok (i, len)) (ck : (ck1i i len (if a = 0 then .iastore else .bastore) && decide (a < 3)) = true) (h : wi st fun x r => wi r fun j r => wr r fun q r => inB (gK M q) (aty a) j ∧ k L r (sI M q (upd (gI M q) j.toNatClampNeg (vp_nar (aty a) x))) nc ns) (hk : KW p l e R s m args below meth c G nL Z k (pc + len)) (hM : ML G M H) (hlo : lok G locs) (hL : LR ls nL L) (hc : nc ≤ R.cells) (hs : ns ≤ R.slots) :
    W p l e R s m args below meth c H locs nc ns Z (F0 m pc ls st) := by
  obtain ⟨hx, hb, hml, hown, hW, -⟩ := C
  replace h := wi_inv h
  obtain ⟨x, r, rfl, h⟩ := h
  replace h := wi_inv h
  obtain ⟨j, r, rfl, h⟩ := h
  replace h := wr_inv h
  obtain ⟨q, r, rfl, hq, h⟩ := h
  replace hq := inB_inv hq
  obtain ⟨n, hq, hj⟩ := hq
  obtain ⟨h1, h2, -, h4⟩ := (hM.2.2.2.2 q).a hq
  unfold ck1i at ck
  simp only [Bool.and_eq_true, beq_iff_eq, decide_eq_true_eq] at ck
  obtain ⟨⟨rfl, rfl⟩, ha⟩ := ck
  have ct : intl (aty a) = true := by
    rcases (show a = 0 ∨ a = 1 ∨ a = 2 by omega) with rfl | rfl | rfl <;> rfl
  have fin : ∀ H' : Heap, H'[q]? = some ((arrV (gA G (aty a)) n (fun k => mv M q k (aty a))).setSlot j.toNatClampNeg (.int (vp_nar (aty a) x))) → H'.size = H.size → (∀ z, z ≠ q → H'[z]? = H[z]?) → W p l e R s m args below meth c H' (locs ++ [⟨q, j.toNatClampNeg⟩]) nc ns Z (F0 m (pc + 1) ls r) := by
    intro H' e1 e2 e3
    refine hk _ _ _ _ _ h _ _ _ (x_ast hM hq e1 e2 e3 rfl rfl (fun z hz => ⟨up_n _ _ hz, rfl, rfl⟩) ?_ (fun y hy => ?_)) (hlo.add h1) hL hc hs
    · rw [mv_i ct, gI_sI, up_s]
      exact congrArg Value.int (if_pos rfl)
    · rw [mv_i ct, mv_i ct, gI_sI, up_s]
      exact congrArg Value.int (if_neg hy)
  rcases (show a = 0 ∨ a = 1 ∨ a = 2 by omega) with rfl | rfl | rfl
  · exact W.iast hx hb h4 ((hW.2.2.1 0).1 n _) (fun q => by cases q) (in_arr hj) rfl rfl d fin
  · exact W.zast hx hb h4 ((hW.2.2.1 1).1 n _) (fun q => by cases q) (in_arr hj) rfl rfl d fin
  · exact W.bast hx hb h4 ((hW.2.2.1 2).1 n _) (fun q => by cases q) (in_arr hj) rfl rfl d fin
theorem s_last (C : Cx p l G own nL ret cc s m meth c) (d : decode cc pc = .ok (i, len)) (ck : ck1i i len .lastore = true) (h : wl st fun x r => wi r fun j r => wr r fun q r => inB (gK M q) .long j ∧ k L r (sJ M q (vp_updL (gJ M q) j.toNatClampNeg x)) nc ns) (hk : KW p l e R s m args below meth c G nL Z k (pc + len)) (hM : ML G M H) (hlo : lok G locs) (hL : LR ls nL L) (hc : nc ≤ R.cells) (hs : ns ≤ R.slots) :
    W p l e R s m args below meth c H locs nc ns Z (F0 m pc ls st) := by
  obtain ⟨hx, hb, hml, hown, hW, -⟩ := C
  replace h := wl_inv h
  obtain ⟨x, r, rfl, h⟩ := h
  replace h := wi_inv h
  obtain ⟨j, r, rfl, h⟩ := h
  replace h := wr_inv h
  obtain ⟨q, r, rfl, hq, h⟩ := h
  replace hq := inB_inv hq
  obtain ⟨n, hq, hj⟩ := hq
  obtain ⟨h1, h2, -, h4⟩ := (hM.2.2.2.2 q).a hq
  unfold ck1i at ck
  simp only [Bool.and_eq_true, beq_iff_eq, decide_eq_true_eq] at ck
  obtain ⟨rfl, rfl⟩ := ck
  refine W.last hx hb h4 ((hW.2.2.1 3).1 n _) (fun q => by cases q) (in_arr hj) rfl rfl d fun H' e1 e2 e3 => ?_
  refine hk _ _ _ _ _ h _ _ _ (x_ast hM hq e1 e2 e3 rfl rfl (fun z hz => ⟨rfl, up_n _ _ hz, rfl⟩) ?_ (fun y hy => ?_)) (hlo.add h1) hL hc hs
  · show Value.long _ = _
    rw [gJ_sJ, up_s]
    exact congrArg Value.long (if_pos rfl)
  · show Value.long _ = Value.long _
    rw [gJ_sJ, up_s]
    exact congrArg Value.long (if_neg hy)
theorem s_aast (C : Cx p l G own nL ret cc s m meth c) (d : decode cc pc = .ok (i, len)) (ck : ck1i i len .aastore = true) (h : wr st fun x r => wi r fun j r => wr r fun q r => inB (gK M q) (.object "IrrigationTurns$State") j ∧ gK M x = kO 8 ∧ k L r (sP M q (upN (gP M q) j.toNatClampNeg x)) nc ns) (hk : KW p l e R s m args below meth c G nL Z k (pc + len)) (hM : ML G M H) (hlo : lok G locs) (hL : LR ls nL L) (hc : nc ≤ R.cells) (hs : ns ≤ R.slots) :
    W p l e R s m args below meth c H locs nc ns Z (F0 m pc ls st) := by
  obtain ⟨hx, hb, hml, hown, hW, -⟩ := C
  replace h := wr_inv h
  obtain ⟨x, r, rfl, h⟩ := h
  replace h := wi_inv h
  obtain ⟨j, r, rfl, h⟩ := h
  replace h := wr_inv h
  obtain ⟨q, r, rfl, hq, hx8, h⟩ := h
  replace hq := inB_inv hq
  obtain ⟨n, hq, hj⟩ := hq
  obtain ⟨h1, h2, -, h4⟩ := (hM.2.2.2.2 q).a hq
  obtain ⟨g0, -, cellV, g1, g2, g3, -⟩ := (hM.2.2.2.2 x).o hx8
  unfold ck1i at ck
  simp only [Bool.and_eq_true, beq_iff_eq, decide_eq_true_eq] at ck
  obtain ⟨rfl, rfl⟩ := ck
  have hcls := (hW.2.1 8 (by decide)).2
  obtain ⟨kA9, comp, k1, k2, k3, -⟩ := (hW.2.2.1 4).2
  have hcomp : comp = (gD G).1 8 := Option.some.inj (k3.symm.trans hcls.1)
  subst hcomp
  obtain ⟨kC, hkC, -⟩ := hcls.2
  have hx0 : x ≠ 0 := Nat.ne_of_gt (Nat.lt_of_lt_of_le hM.2.1 g0)
  refine W.aast hx hb h4 (fun q h => by cases h) (fun h => by cases h) k1 k2 rfl hkC ⟨fun q => hj (Or.inl q), by rw [arrV_size]; exact lt_arr hj⟩ g1 (fun q h => by rw [g3] at h; cases h) (by rw [g2]; exact hkC) (by rw [g2]; exact va_assign hcls) rfl rfl d fun H' e1 e2 e3 => ?_
  refine hk _ _ _ _ _ h _ _ _ (x_ast hM hq e1 e2 e3 rfl rfl (fun z hz => ⟨rfl, rfl, up_n _ _ hz⟩) ?_ (fun y hy => ?_)) (hlo.add h1) hL hc hs
  · show rf _ = _
    rw [gP_sP, up_s]
    show rf (va_up _ _ _ _) = _
    rw [up_s, rf_n hx0]
  · show rf _ = rf _
    rw [gP_sP, up_s]
    exact congrArg rf (up_n _ _ hy)
def cknew (own : Nat) (i : Instr) (len a b : Nat) : Bool := match i with
  | .new ix => len == 3 && decide ((own, ix, a) ∈ clk) && decide (a ∈ inlk) && decide (a ∈ iilk) && decide (a < 12) && b == xN a
  | _ => false
theorem s_new (C : Cx p l G own nL ret cc s m meth c) (d : decode cc pc = .ok (i, len)) (ck : cknew own i len a b = true) (h : nc + 1 ≤ R.cells ∧ ns + b ≤ R.slots ∧ k L (.ref (gZ M) :: st) (nO M (kO a)) (nc + 1) (ns + b)) (hk : KW p l e R s m args below meth c G nL Z k (pc + len)) (hM : ML G M H) (hlo : lok G locs) (hL : LR ls nL L) (_ : nc ≤ R.cells) (_ : ns ≤ R.slots) :
    W p l e R s m args below meth c H locs nc ns Z (F0 m pc ls st) := by
  obtain ⟨hx, hb, hml, hown, hW, -⟩ := C
  obtain ⟨h1, h2, h⟩ := h
  unfold cknew at ck
  split at ck
  · simp only [Bool.and_eq_true, beq_iff_eq, decide_eq_true_eq] at ck
    obtain ⟨⟨⟨⟨⟨rfl, c1⟩, c2⟩, c3⟩, ha⟩, rfl⟩ := ck
    have hts : ∀ w ∈ TT, w.before args s = true := fun w hw => hW.1 w hw args
    have hKn := hW.2.1 a ha
    refine W.newcK hx hb hown (hts _ (clk_in _ c1)) (hts _ (inlk_in _ c2)) (hts _ (iilk_in _ c3)) rfl d h1 h2 hKn.2.1 hM.1 fun H1 kC hkC e1 z1 o1 => ?_
    refine hk _ _ _ _ _ h _ _ _ (hM.nw (by rw [z1, hM.1]) (fun q hq => o1 q (by rw [← hM.1]; exact hq)) ?_) hlo hL h1 h2
    unfold kOK
    rw [gK_nO, up_s]
    refine ⟨by rw [← hM.1]; exact hM.2.2.1, ha, (u_born (xty a) hts (xws_in ha) hKn hkC e1 (xty_ok ha)).to fun j hj => mv_0 (okty_x ha j hj) j⟩
  · cases ck
def ckna (i : Instr) (len a : Nat) : Bool := match i with
  | .newarray t => len == 2 && (match t, a with
    | .int, 0 => true
    | .boolean, 1 => true
    | .byte, 2 => true
    | .long, 3 => true
    | _, _ => false)
  | _ => false
theorem x_newa (C : Cx p l G own nL ret cc s m meth c) {t : ArrayType} {n : Int32} (d : decode cc pc = .ok (.newarray t, 2)) (ht : newarray.typeOf t = aty a) (hw : Cond.arrayClass (aty a) ∈ TT) (hcb : componentBytes (aty a) ≤ 8) (hty : va_RA s (gA G (aty a)) (aty a) → s.vm.findClass ("[" ++ (aty a).toString) = some (gA G (aty a))) (hok : okty (aty a) = true) (hn : ¬ n < 0) (hn8 : n.toNatClampNeg * 8 ≤ 536870912) (h1 : nc + 1 ≤ R.cells) (h2 : ns + n.toNatClampNeg ≤ R.slots)
    (h : k L (.ref (gZ M) :: st) (nO M (kA (aty a) n.toNatClampNeg)) (nc + 1) (ns + n.toNatClampNeg)) (hk : KW p l e R s m args below meth c G nL Z k (pc + 2)) (hM : ML G M H) (hlo : lok G locs) (hL : LR ls nL L) : W p l e R s m args below meth c H locs nc ns Z (F0 m pc ls (.int n :: st)) := by
  obtain ⟨hx, hb, hml, hown, hW, -⟩ := C
  have hts : ∀ w ∈ TT, w.before args s = true := fun w hw => hW.1 w hw args
  have hle : n.toNatClampNeg * componentBytes (newarray.typeOf t) ≤ 536870912 := by
    rw [ht]
    exact Nat.le_trans (Nat.mul_le_mul_left _ hcb) hn8
  refine va_newaK hx hb (by rw [ht]; exact hts _ hw) rfl d rfl hn rfl hle h1 h2 hM.1 fun H1 cA e1 z1 o1 hAr hNm => ?_
  rw [ht] at e1 hNm
  have hcA : cA = gA G (aty a) := Option.some.inj (hNm.symm.trans (hty (hW.2.2.1 a).2))
  subst hcA
  refine hk _ _ _ _ _ h _ _ _ (hM.nw (by rw [z1, hM.1]) (fun q hq => o1 q (by rw [← hM.1]; exact hq)) ?_) hlo hL h1 h2
  unfold kOK
  rw [gK_nO, up_s]
  refine ⟨by rw [← hM.1]; exact hM.2.2.1, ?_, ⟨a, rfl⟩, ?_⟩
  · exact Nat.lt_of_le_of_lt (Nat.le_trans (Nat.le_mul_of_pos_right _ (by decide : 0 < 8)) hn8) (by decide)
  · rw [e1]
    exact congrArg (fun f => some (arrV (gA G (aty a)) n.toNatClampNeg f)) (funext fun j => mv_0 hok j)
theorem s_newa (C : Cx p l G own nL ret cc s m meth c) (d : decode cc pc = .ok (i, len)) (ck : ckna i len a = true) (h : wi st fun n r => ¬ n < 0 ∧ n.toNatClampNeg * 8 ≤ 536870912 ∧ nc + 1 ≤ R.cells ∧ ns + n.toNatClampNeg ≤ R.slots ∧ k L (.ref (gZ M) :: r) (nO M (kA (aty a) n.toNatClampNeg)) (nc + 1) (ns + n.toNatClampNeg)) (hk : KW p l e R s m args below meth c G nL Z k (pc + len)) (hM : ML G M H) (hlo : lok G locs) (hL : LR ls nL L) (_ : nc ≤ R.cells) (_ : ns ≤ R.slots) :
    W p l e R s m args below meth c H locs nc ns Z (F0 m pc ls st) := by
  replace h := wi_inv h
  obtain ⟨n, r, rfl, hn, h8, h1, h2, h⟩ := h
  unfold ckna at ck
  split at ck
  · simp only [Bool.and_eq_true, beq_iff_eq] at ck
    obtain ⟨rfl, ck⟩ := ck
    split at ck
    · exact x_newa (a := 0) C d rfl w_aint (by decide) id rfl hn h8 h1 h2 h hk hM hlo hL
    · exact x_newa (a := 1) C d rfl w_aboolean (by decide) id rfl hn h8 h1 h2 h hk hM hlo hL
    · exact x_newa (a := 2) C d rfl w_abyte (by decide) id rfl hn h8 h1 h2 h hk hM hlo hL
    · exact x_newa (a := 3) C d rfl w_along (by decide) id rfl hn h8 h1 h2 h hk hM hlo hL
    · cases ck
  · cases ck
end SND3
