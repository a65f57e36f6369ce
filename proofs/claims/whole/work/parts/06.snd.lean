/-! ===== the abstract machine is sound, an instruction a row ===== -/
def lok (G : Gt) (locs : List Loc) : Prop := ∀ q ∈ locs, (gHb G).size ≤ q.base
def Cx (p : Program) (l : Launch) (G : Gt) (own nL : Nat) (ret : Option FieldType) (cc : ByteArray) (s : State) (m : MethodId) (meth : Method) (c : Code) : Prop :=
  p.tables.exec = Jvm.exec ∧ c.code = cc ∧ c.maxLocals = nL ∧ s.vm.findClass (xR own) = some m.cls ∧ Wd G s ∧ meth.sig.returnType = ret ∧ meth.locks = false ∧ l.stackTraces = false ∧ ∀ q, q < (gHb G).size → s.heap[q]? = (gHb G)[q]?
theorem Wd.vK {G : Gt} {s : State} (h : Wd G s) : va_K (gD G) vwCl [] s := by
  refine ⟨fun ci q hq => ?_, fun k q h => by simp at h⟩
  have hc : ci < 12 := (List.getElem?_eq_some_iff.mp hq).1
  have e := (xcl hc).symm.trans hq
  cases e
  exact h.2.1 ci hc
theorem Wd.ap {G : Gt} {s : State} {args : Array Value} (h : Wd G s) {ci : Nat} (hc : ci < 12) : ∀ x y, x < xN ci → y < xN ci → x ≠ y → (gD G).2 ci x ≠ (gD G).2 ci y :=
  va_apart (own := "") (args := args) (fun w hw => h.1 w hw args) (xws_in hc) (xty ci) (xty_ok hc) (xnm_ok hc) h.vK (xcl hc)
def intl (ty : FieldType) : Bool := match ty with
  | .int => true
  | .boolean => true
  | .byte => true
  | _ => false
theorem mv_i {ty : FieldType} (h : intl ty = true) (M : Mm) (a k : Nat) : mv M a k ty = .int (gI M a k) := by
  cases ty <;> simp_all [intl, mv]
def refl9 (ty : FieldType) : Bool := match ty with
  | .object _ => true
  | .array _ => true
  | _ => false
theorem mv_r {ty : FieldType} (h : refl9 ty = true) (M : Mm) (a k : Nat) : mv M a k ty = rf (gP M a k) := by
  cases ty <;> simp_all [refl9, mv]
theorem rf_n {n : Nat} (h : n ≠ 0) : rf n = .ref n := if_neg h
def okty (ty : FieldType) : Bool := intl ty || refl9 ty || decide (ty = .long)
theorem okty_x {ci : Nat} (hc : ci < 12) : ∀ k, k < xN ci → okty (xty ci k) = true := by
  have h : ((List.range 12).all fun ci => (List.range (xN ci)).all fun k => okty (xty ci k)) = true := by decide +kernel
  exact fun k hk => List.all_eq_true.mp (List.all_eq_true.mp h ci (List.mem_range.mpr hc)) k (List.mem_range.mpr hk)
theorem mv_0 {ty : FieldType} (h : okty ty = true) {M : Mm} {k : Kd} (j : Nat) : defaultValue ty = mv (nO M k) (gZ M) j ty := by
  have e1 : gI (nO M k) (gZ M) = fun _ => 0 := up_s _ _ _
  have e2 : gJ (nO M k) (gZ M) = fun _ => 0 := up_s _ _ _
  have e3 : gP (nO M k) (gZ M) = fun _ => 0 := up_s _ _ _
  cases ty <;> simp [okty, intl, refl9] at h <;> simp [mv, e1, e2, e3, defaultValue, rf]
theorem inB_inv {k : Kd} {ty : FieldType} {i : Int32} (h : inB k ty i) : ∃ n, k = kA ty n ∧ vp_in i n := by
  unfold inB at h
  split at h
  · obtain ⟨rfl, h⟩ := h
    exact ⟨_, rfl, h⟩
  · exact h.elim
theorem inR_inv {k : Kd} {i : Int32} (h : inR k i) : ∃ n, k = kR n ∧ vp_in i n := by
  unfold inR at h
  split at h
  · exact ⟨_, rfl, h⟩
  · exact h.elim
theorem isS_inv {k : Kd} (h : isS k) : ∃ i, k = kS i := by
  unfold isS at h
  split at h
  · exact ⟨_, rfl⟩
  · exact h.elim
theorem kLen_inv {k : Kd} {f : Int32 → Prop} (h : kLen k f) : (∃ ty n, k = kA ty n ∧ f (nI n)) ∨ ∃ n, k = kR n ∧ f (nI n) := by
  unfold kLen at h
  split at h
  · exact Or.inl ⟨_, _, rfl, h⟩
  · exact Or.inr ⟨_, rfl, h⟩
  · exact h.elim
theorem nar_b (x : Int32) : narrow .byte (.int x) = .int (vp_nar .byte x) := rfl
theorem nar_z (x : Int32) : narrow .boolean (.int x) = .int (vp_nar .boolean x) := rfl
theorem nar_i (x : Int32) : vp_nar .int x = x := rfl
/-! == the checks == -/
def ckc (own : Nat) (i : Instr) (len : Nat) (cv : Value) : Bool := match i with
  | .iconst n => len == 1 && decide (cv = .int (Int32.ofInt n))
  | .bipush n => len == 2 && decide (cv = .int (Int8.ofInt n).toInt32)
  | .sipush n => len == 3 && decide (cv = .int (Int16.ofInt n).toInt32)
  | .lconst n => len == 1 && decide (cv = .long (Int64.ofNat (n : Nat)))
  | .ldc ix => len == 2 && (match cv with
    | .int v => decide ((own, ix, v) ∈ ilk)
    | _ => false)
  | .ldc2_w ix => len == 3 && (match cv with
    | .long v => decide ((own, ix, v) ∈ llk)
    | _ => false)
  | _ => false
def ckil (i : Instr) (len a : Nat) : Bool := match i with
  | .iload_n j => len == 1 && j.val == a
  | .iload j => len == 2 && j == a
  | _ => false
def ckll (i : Instr) (len a : Nat) : Bool := match i with
  | .lload_n j => len == 1 && j.val == a
  | .lload j => len == 2 && j == a
  | _ => false
def ckal (i : Instr) (len a : Nat) : Bool := match i with
  | .aload_n j => len == 1 && j.val == a
  | .aload j => len == 2 && j == a
  | _ => false
def ckis (i : Instr) (len a nL : Nat) : Bool := match i with
  | .istore_n j => len == 1 && j.val == a && decide (a < nL)
  | .istore j => len == 2 && j == a && decide (a < nL)
  | _ => false
def ckas (i : Instr) (len a nL : Nat) : Bool := match i with
  | .astore_n j => len == 1 && j.val == a && decide (a < nL)
  | .astore j => len == 2 && j == a && decide (a < nL)
  | _ => false
def ckls (i : Instr) (len a nL : Nat) : Bool := match i with
  | .lstore_n j => len == 1 && j.val == a && decide (a + 1 < nL)
  | .lstore j => len == 2 && j == a && decide (a + 1 < nL)
  | _ => false
def ckinc (i : Instr) (len a nL : Nat) (cv : Value) : Bool := match i with
  | .iinc j n => len == 3 && j == a && decide (a < nL) && decide (cv = .int (Int32.ofInt n))
  | _ => false
def ckbin (i : Instr) (len b : Nat) : Bool := len == 1 && (match i, b with
  | .iadd, 0 => true
  | .isub, 1 => true
  | .imul, 2 => true
  | .iand, 3 => true
  | .ishr, 4 => true
  | .iushr, 5 => true
  | _, _ => false)
def cklbin (i : Instr) (len b : Nat) : Bool := len == 1 && (match i, b with
  | .ladd, 0 => true
  | .lsub, 1 => true
  | .lmul, 2 => true
  | _, _ => false)
def ckif (i : Instr) (len pc a b : Nat) : Bool := len == 3 && (match i, b with
  | .ifCond .eq off, 0 => decide ((pc : Int) + off = a)
  | .ifCond .ne off, 1 => decide ((pc : Int) + off = a)
  | .ifCond .lt off, 2 => decide ((pc : Int) + off = a)
  | .ifCond .ge off, 3 => decide ((pc : Int) + off = a)
  | .ifCond .gt off, 4 => decide ((pc : Int) + off = a)
  | .ifCond .le off, 5 => decide ((pc : Int) + off = a)
  | _, _ => false)
def ckicmp (i : Instr) (len pc a b : Nat) : Bool := len == 3 && (match i, b with
  | .if_icmp .eq off, 0 => decide ((pc : Int) + off = a)
  | .if_icmp .ne off, 1 => decide ((pc : Int) + off = a)
  | .if_icmp .lt off, 2 => decide ((pc : Int) + off = a)
  | .if_icmp .ge off, 3 => decide ((pc : Int) + off = a)
  | .if_icmp .gt off, 4 => decide ((pc : Int) + off = a)
  | .if_icmp .le off, 5 => decide ((pc : Int) + off = a)
  | _, _ => false)
def ckfl (own : Nat) (ix a b : Nat) : Bool := decide ((own, ix, a, b) ∈ flk) && decide (a < 12) && decide (b < xN a)
section SND
variable {p : Program} {l : Launch} {e : Env} {R : Room} {s : State} {m : MethodId} {args : Array Value} {below : List Frame} {meth : Method} {c : Code} {H : Heap} {locs : List Loc} {Z : State → Prop}
variable {G : Gt} {own nL pc len a b : Nat} {ret : Option FieldType} {cc : ByteArray} {ls : Array Slot} {i : Instr} {L : List Slot} {st : List Value} {M : Mm} {nc ns : Nat} {k : Kt} {cv : Value}
/-- what follows at pc -/
def KW (p : Program) (l : Launch) (e : Env) (R : Room) (s : State) (m : MethodId) (args : Array Value) (below : List Frame) (meth : Method) (c : Code) (G : Gt) (nL : Nat) (Z : State → Prop) (k : Kt) (pc : Nat) : Prop :=
  ∀ L st M nc ns, k L st M nc ns → ∀ H locs ls, ML G M H → lok G locs → LR ls nL L → nc ≤ R.cells → ns ≤ R.slots → W p l e R s m args below meth c H locs nc ns Z (F0 m pc ls st)
theorem s_const (C : Cx p l G own nL ret cc s m meth c) (d : decode cc pc = .ok (i, len)) (ck : ckc own i len cv = true) (h : k L (cv :: st) M nc ns) (hk : KW p l e R s m args below meth c G nL Z k (pc + len)) (hM : ML G M H) (hlo : lok G locs) (hL : LR ls nL L) (hc : nc ≤ R.cells) (hs : ns ≤ R.slots) :
    W p l e R s m args below meth c H locs nc ns Z (F0 m pc ls st) := by
  obtain ⟨hx, hb, hml, hown, hW, -⟩ := C
  unfold ckc at ck
  split at ck
  · simp only [Bool.and_eq_true, beq_iff_eq, decide_eq_true_eq] at ck
    obtain ⟨rfl, rfl⟩ := ck
    exact lv_iconst hx hb d rfl (hk _ _ _ _ _ h _ _ _ hM hlo hL hc hs)
  · simp only [Bool.and_eq_true, beq_iff_eq, decide_eq_true_eq] at ck
    obtain ⟨rfl, rfl⟩ := ck
    exact lv_bipush hx hb d rfl (hk _ _ _ _ _ h _ _ _ hM hlo hL hc hs)
  · simp only [Bool.and_eq_true, beq_iff_eq, decide_eq_true_eq] at ck
    obtain ⟨rfl, rfl⟩ := ck
    exact lv_sipush hx hb d rfl (hk _ _ _ _ _ h _ _ _ hM hlo hL hc hs)
  · simp only [Bool.and_eq_true, beq_iff_eq, decide_eq_true_eq] at ck
    obtain ⟨rfl, rfl⟩ := ck
    exact lv_lconst hx hb d rfl (hk _ _ _ _ _ h _ _ _ hM hlo hL hc hs)
  · split at ck
    · simp only [Bool.and_eq_true, beq_iff_eq, decide_eq_true_eq] at ck
      obtain ⟨rfl, ck⟩ := ck
      exact lv_ldc hx hb hown (hW.1 _ (ilk_in _ ck) args) d (hk _ _ _ _ _ h _ _ _ hM hlo hL hc hs)
    · simp at ck
  · split at ck
    · simp only [Bool.and_eq_true, beq_iff_eq, decide_eq_true_eq] at ck
      obtain ⟨rfl, ck⟩ := ck
      exact lv_ldc2 hx hb hown (hW.1 _ (llk_in _ ck) args) d (hk _ _ _ _ _ h _ _ _ hM hlo hL hc hs)
    · simp at ck
  · cases ck
theorem s_iload (C : Cx p l G own nL ret cc s m meth c) (d : decode cc pc = .ok (i, len)) (ck : ckil i len a = true) (h : vi (ldS L a) fun x => k L (.int x :: st) M nc ns) (hk : KW p l e R s m args below meth c G nL Z k (pc + len)) (hM : ML G M H) (hlo : lok G locs) (hL : LR ls nL L) (hc : nc ≤ R.cells) (hs : ns ≤ R.slots) :
    W p l e R s m args below meth c H locs nc ns Z (F0 m pc ls st) := by
  obtain ⟨hx, hb, hml, hown, hW, -⟩ := C
  replace h := vi_inv h
  obtain ⟨x, e1, h⟩ := h
  unfold ckil at ck
  split at ck
  · simp only [Bool.and_eq_true, beq_iff_eq] at ck
    obtain ⟨rfl, rfl⟩ := ck
    exact lv_iload_n hx hb d rfl (hL.ld e1) (hk _ _ _ _ _ h _ _ _ hM hlo hL hc hs)
  · simp only [Bool.and_eq_true, beq_iff_eq] at ck
    obtain ⟨rfl, rfl⟩ := ck
    exact lv_iload hx hb d (hL.ld e1) (hk _ _ _ _ _ h _ _ _ hM hlo hL hc hs)
  · cases ck
theorem s_lload (C : Cx p l G own nL ret cc s m meth c) (d : decode cc pc = .ok (i, len)) (ck : ckll i len a = true) (h : vl (ldS L a) fun x => k L (.long x :: st) M nc ns) (hk : KW p l e R s m args below meth c G nL Z k (pc + len)) (hM : ML G M H) (hlo : lok G locs) (hL : LR ls nL L) (hc : nc ≤ R.cells) (hs : ns ≤ R.slots) :
    W p l e R s m args below meth c H locs nc ns Z (F0 m pc ls st) := by
  obtain ⟨hx, hb, hml, hown, hW, -⟩ := C
  replace h := vl_inv h
  obtain ⟨x, e1, h⟩ := h
  unfold ckll at ck
  split at ck
  · simp only [Bool.and_eq_true, beq_iff_eq] at ck
    obtain ⟨rfl, rfl⟩ := ck
    exact lv_lload_n hx hb d rfl (hL.ld e1) (hk _ _ _ _ _ h _ _ _ hM hlo hL hc hs)
  · simp only [Bool.and_eq_true, beq_iff_eq] at ck
    obtain ⟨rfl, rfl⟩ := ck
    exact lv_lload hx hb d (hL.ld e1) (hk _ _ _ _ _ h _ _ _ hM hlo hL hc hs)
  · cases ck
theorem s_aload (C : Cx p l G own nL ret cc s m meth c) (d : decode cc pc = .ok (i, len)) (ck : ckal i len a = true) (h : vr (ldS L a) fun x => k L (.ref x :: st) M nc ns) (hk : KW p l e R s m args below meth c G nL Z k (pc + len)) (hM : ML G M H) (hlo : lok G locs) (hL : LR ls nL L) (hc : nc ≤ R.cells) (hs : ns ≤ R.slots) :
    W p l e R s m args below meth c H locs nc ns Z (F0 m pc ls st) := by
  obtain ⟨hx, hb, hml, hown, hW, -⟩ := C
  replace h := vr_inv h
  obtain ⟨x, e1, h⟩ := h
  unfold ckal at ck
  split at ck
  · simp only [Bool.and_eq_true, beq_iff_eq] at ck
    obtain ⟨rfl, rfl⟩ := ck
    exact lv_aload_n hx hb d rfl (hL.ld e1) (hk _ _ _ _ _ h _ _ _ hM hlo hL hc hs)
  · simp only [Bool.and_eq_true, beq_iff_eq] at ck
    obtain ⟨rfl, rfl⟩ := ck
    exact lv_aload hx hb d (hL.ld e1) (hk _ _ _ _ _ h _ _ _ hM hlo hL hc hs)
  · cases ck
theorem s_istore (C : Cx p l G own nL ret cc s m meth c) (d : decode cc pc = .ok (i, len)) (ck : ckis i len a nL = true) (h : wi st fun x r => k (stS L a (.int x)) r M nc ns) (hk : KW p l e R s m args below meth c G nL Z k (pc + len)) (hM : ML G M H) (hlo : lok G locs) (hL : LR ls nL L) (hc : nc ≤ R.cells) (hs : ns ≤ R.slots) :
    W p l e R s m args below meth c H locs nc ns Z (F0 m pc ls st) := by
  obtain ⟨hx, hb, hml, hown, hW, -⟩ := C
  replace h := wi_inv h
  obtain ⟨x, r, rfl, h⟩ := h
  unfold ckis at ck
  split at ck
  · simp only [Bool.and_eq_true, beq_iff_eq, decide_eq_true_eq] at ck
    obtain ⟨⟨rfl, rfl⟩, hn⟩ := ck
    exact lv_istore_n hx hb d rfl hL.2 hn rfl fun ls' hl' => hk _ _ _ _ _ h _ _ _ hM hlo (hL.st hl') hc hs
  · simp only [Bool.and_eq_true, beq_iff_eq, decide_eq_true_eq] at ck
    obtain ⟨⟨rfl, rfl⟩, hn⟩ := ck
    exact lv_istore hx hb d hL.2 hn rfl fun ls' hl' => hk _ _ _ _ _ h _ _ _ hM hlo (hL.st hl') hc hs
  · cases ck
theorem s_astore (C : Cx p l G own nL ret cc s m meth c) (d : decode cc pc = .ok (i, len)) (ck : ckas i len a nL = true) (h : wr st fun x r => k (stS L a (.ref x)) r M nc ns) (hk : KW p l e R s m args below meth c G nL Z k (pc + len)) (hM : ML G M H) (hlo : lok G locs) (hL : LR ls nL L) (hc : nc ≤ R.cells) (hs : ns ≤ R.slots) :
    W p l e R s m args below meth c H locs nc ns Z (F0 m pc ls st) := by
  obtain ⟨hx, hb, hml, hown, hW, -⟩ := C
  replace h := wr_inv h
  obtain ⟨x, r, rfl, h⟩ := h
  unfold ckas at ck
  split at ck
  · simp only [Bool.and_eq_true, beq_iff_eq, decide_eq_true_eq] at ck
    obtain ⟨⟨rfl, rfl⟩, hn⟩ := ck
    exact lv_astore_n hx hb d rfl hL.2 hn rfl fun ls' hl' => hk _ _ _ _ _ h _ _ _ hM hlo (hL.st hl') hc hs
  · simp only [Bool.and_eq_true, beq_iff_eq, decide_eq_true_eq] at ck
    obtain ⟨⟨rfl, rfl⟩, hn⟩ := ck
    exact lv_astore hx hb d hL.2 hn rfl fun ls' hl' => hk _ _ _ _ _ h _ _ _ hM hlo (hL.st hl') hc hs
  · cases ck
theorem s_lstore (C : Cx p l G own nL ret cc s m meth c) (d : decode cc pc = .ok (i, len)) (ck : ckls i len a nL = true) (h : wl st fun x r => k (stL L a (.long x)) r M nc ns) (hk : KW p l e R s m args below meth c G nL Z k (pc + len)) (hM : ML G M H) (hlo : lok G locs) (hL : LR ls nL L) (hc : nc ≤ R.cells) (hs : ns ≤ R.slots) :
    W p l e R s m args below meth c H locs nc ns Z (F0 m pc ls st) := by
  obtain ⟨hx, hb, hml, hown, hW, -⟩ := C
  replace h := wl_inv h
  obtain ⟨x, r, rfl, h⟩ := h
  unfold ckls at ck
  split at ck
  · simp only [Bool.and_eq_true, beq_iff_eq, decide_eq_true_eq] at ck
    obtain ⟨⟨rfl, rfl⟩, hn⟩ := ck
    exact lv_lstore_n hx hb d rfl hL.2 hn rfl fun ls' hl' => hk _ _ _ _ _ h _ _ _ hM hlo (hL.st2 hl') hc hs
  · simp only [Bool.and_eq_true, beq_iff_eq, decide_eq_true_eq] at ck
    obtain ⟨⟨rfl, rfl⟩, hn⟩ := ck
    exact lv_lstore hx hb d hL.2 hn rfl fun ls' hl' => hk _ _ _ _ _ h _ _ _ hM hlo (hL.st2 hl') hc hs
  · cases ck
theorem s_inc (C : Cx p l G own nL ret cc s m meth c) (d : decode cc pc = .ok (i, len)) (ck : ckinc i len a nL cv = true) (h : vi (ldS L a) fun x => wi [cv] fun n _ => k (stS L a (.int (x + n))) st M nc ns) (hk : KW p l e R s m args below meth c G nL Z k (pc + len)) (hM : ML G M H) (hlo : lok G locs) (hL : LR ls nL L) (hc : nc ≤ R.cells) (hs : ns ≤ R.slots) :
    W p l e R s m args below meth c H locs nc ns Z (F0 m pc ls st) := by
  obtain ⟨hx, hb, hml, hown, hW, -⟩ := C
  replace h := vi_inv h
  obtain ⟨x, e1, h⟩ := h
  unfold ckinc at ck
  split at ck
  · simp only [Bool.and_eq_true, beq_iff_eq, decide_eq_true_eq] at ck
    obtain ⟨⟨⟨rfl, rfl⟩, hn⟩, rfl⟩ := ck
    obtain ⟨k0, hk0⟩ := hL.mem e1
    exact lv_iinc hx hb d hL.2 hk0 rfl hn rfl fun ls' hl' => hk _ _ _ _ _ h _ _ _ hM hlo (hL.st hl') hc hs
  · cases ck
theorem s_bin (C : Cx p l G own nL ret cc s m meth c) (d : decode cc pc = .ok (i, len)) (ck : ckbin i len b = true) (h : wi st fun y r => wi r fun x r => k L (.int (bin b x y) :: r) M nc ns) (hk : KW p l e R s m args below meth c G nL Z k (pc + len)) (hM : ML G M H) (hlo : lok G locs) (hL : LR ls nL L) (hc : nc ≤ R.cells) (hs : ns ≤ R.slots) :
    W p l e R s m args below meth c H locs nc ns Z (F0 m pc ls st) := by
  obtain ⟨hx, hb, hml, hown, hW, -⟩ := C
  replace h := wi_inv h
  obtain ⟨y, r, rfl, h⟩ := h
  replace h := wi_inv h
  obtain ⟨x, r, rfl, h⟩ := h
  unfold ckbin at ck
  simp only [Bool.and_eq_true, beq_iff_eq] at ck
  obtain ⟨rfl, ck⟩ := ck
  have K := hk _ _ _ _ _ h _ _ _ hM hlo hL hc hs
  split at ck
  · exact lv_iadd hx hb d K
  · exact lv_isub hx hb d K
  · exact lv_imul hx hb d K
  · exact lv_iand hx hb d K
  · exact lv_ishr hx hb d K
  · exact lv_iushr hx hb d rfl K
  · cases ck
theorem s_div (C : Cx p l G own nL ret cc s m meth c) (d : decode cc pc = .ok (i, len)) (ck : (len == 1 && ((decide (i = .idiv) && b == 0) || (decide (i = .irem) && b == 1))) = true) (h : wi st fun y r => wi r fun x r => ¬ y = 0 ∧ k L (.int (bdv b x y) :: r) M nc ns) (hk : KW p l e R s m args below meth c G nL Z k (pc + len)) (hM : ML G M H) (hlo : lok G locs) (hL : LR ls nL L) (hc : nc ≤ R.cells) (hs : ns ≤ R.slots) :
    W p l e R s m args below meth c H locs nc ns Z (F0 m pc ls st) := by
  obtain ⟨hx, hb, hml, hown, hW, -⟩ := C
  replace h := wi_inv h
  obtain ⟨y, r, rfl, h⟩ := h
  replace h := wi_inv h
  obtain ⟨x, r, rfl, hy, h⟩ := h
  simp only [Bool.and_eq_true, Bool.or_eq_true, beq_iff_eq, decide_eq_true_eq] at ck
  obtain ⟨rfl, ⟨rfl, rfl⟩ | ⟨rfl, rfl⟩⟩ := ck
  · exact lv_idiv hx hb d hy (hk _ _ _ _ _ h _ _ _ hM hlo hL hc hs)
  · exact lv_irem hx hb d hy (hk _ _ _ _ _ h _ _ _ hM hlo hL hc hs)
theorem s_lbin (C : Cx p l G own nL ret cc s m meth c) (d : decode cc pc = .ok (i, len)) (ck : cklbin i len b = true) (h : wl st fun y r => wl r fun x r => k L (.long (lbin b x y) :: r) M nc ns) (hk : KW p l e R s m args below meth c G nL Z k (pc + len)) (hM : ML G M H) (hlo : lok G locs) (hL : LR ls nL L) (hc : nc ≤ R.cells) (hs : ns ≤ R.slots) :
    W p l e R s m args below meth c H locs nc ns Z (F0 m pc ls st) := by
  obtain ⟨hx, hb, hml, hown, hW, -⟩ := C
  replace h := wl_inv h
  obtain ⟨y, r, rfl, h⟩ := h
  replace h := wl_inv h
  obtain ⟨x, r, rfl, h⟩ := h
  unfold cklbin at ck
  simp only [Bool.and_eq_true, beq_iff_eq] at ck
  obtain ⟨rfl, ck⟩ := ck
  have K := hk _ _ _ _ _ h _ _ _ hM hlo hL hc hs
  split at ck
  · exact lv_ladd hx hb d K
  · exact lv_lsub hx hb d K
  · exact lv_lmul hx hb d K
  · cases ck
theorem s_ldiv (C : Cx p l G own nL ret cc s m meth c) (d : decode cc pc = .ok (i, len)) (ck : (len == 1 && decide (i = .ldiv)) = true) (h : wl st fun y r => wl r fun x r => ¬ y = 0 ∧ k L (.long (x / y) :: r) M nc ns) (hk : KW p l e R s m args below meth c G nL Z k (pc + len)) (hM : ML G M H) (hlo : lok G locs) (hL : LR ls nL L) (hc : nc ≤ R.cells) (hs : ns ≤ R.slots) :
    W p l e R s m args below meth c H locs nc ns Z (F0 m pc ls st) := by
  obtain ⟨hx, hb, hml, hown, hW, -⟩ := C
  replace h := wl_inv h
  obtain ⟨y, r, rfl, h⟩ := h
  replace h := wl_inv h
  obtain ⟨x, r, rfl, hy, h⟩ := h
  simp only [Bool.and_eq_true, beq_iff_eq, decide_eq_true_eq] at ck
  obtain ⟨rfl, rfl⟩ := ck
  exact lv_ldiv hx hb d hy (hk _ _ _ _ _ h _ _ _ hM hlo hL hc hs)
theorem s_i2l (C : Cx p l G own nL ret cc s m meth c) (d : decode cc pc = .ok (i, len)) (ck : (len == 1 && decide (i = .i2l)) = true) (h : wi st fun x r => k L (.long x.toInt64 :: r) M nc ns) (hk : KW p l e R s m args below meth c G nL Z k (pc + len)) (hM : ML G M H) (hlo : lok G locs) (hL : LR ls nL L) (hc : nc ≤ R.cells) (hs : ns ≤ R.slots) :
    W p l e R s m args below meth c H locs nc ns Z (F0 m pc ls st) := by
  obtain ⟨hx, hb, hml, hown, hW, -⟩ := C
  replace h := wi_inv h
  obtain ⟨x, r, rfl, h⟩ := h
  simp only [Bool.and_eq_true, beq_iff_eq, decide_eq_true_eq] at ck
  obtain ⟨rfl, rfl⟩ := ck
  exact lv_i2l hx hb d rfl (hk _ _ _ _ _ h _ _ _ hM hlo hL hc hs)
theorem s_l2i (C : Cx p l G own nL ret cc s m meth c) (d : decode cc pc = .ok (i, len)) (ck : (len == 1 && decide (i = .l2i)) = true) (h : wl st fun x r => k L (.int x.toInt32 :: r) M nc ns) (hk : KW p l e R s m args below meth c G nL Z k (pc + len)) (hM : ML G M H) (hlo : lok G locs) (hL : LR ls nL L) (hc : nc ≤ R.cells) (hs : ns ≤ R.slots) :
    W p l e R s m args below meth c H locs nc ns Z (F0 m pc ls st) := by
  obtain ⟨hx, hb, hml, hown, hW, -⟩ := C
  replace h := wl_inv h
  obtain ⟨x, r, rfl, h⟩ := h
  simp only [Bool.and_eq_true, beq_iff_eq, decide_eq_true_eq] at ck
  obtain ⟨rfl, rfl⟩ := ck
  exact lv_l2i hx hb d rfl (hk _ _ _ _ _ h _ _ _ hM hlo hL hc hs)
theorem s_i2b (C : Cx p l G own nL ret cc s m meth c) (d : decode cc pc = .ok (i, len)) (ck : (len == 1 && decide (i = .i2b)) = true) (h : wi st fun x r => k L (.int x.toInt8.toInt32 :: r) M nc ns) (hk : KW p l e R s m args below meth c G nL Z k (pc + len)) (hM : ML G M H) (hlo : lok G locs) (hL : LR ls nL L) (hc : nc ≤ R.cells) (hs : ns ≤ R.slots) :
    W p l e R s m args below meth c H locs nc ns Z (F0 m pc ls st) := by
  obtain ⟨hx, hb, hml, hown, hW, -⟩ := C
  replace h := wi_inv h
  obtain ⟨x, r, rfl, h⟩ := h
  simp only [Bool.and_eq_true, beq_iff_eq, decide_eq_true_eq] at ck
  obtain ⟨rfl, rfl⟩ := ck
  exact lv_i2b hx hb d rfl (hk _ _ _ _ _ h _ _ _ hM hlo hL hc hs)
theorem s_lcmp (C : Cx p l G own nL ret cc s m meth c) (d : decode cc pc = .ok (i, len)) (ck : (len == 1 && decide (i = .lcmp)) = true) (h : wl st fun y r => wl r fun x r => k L (.int (lg_cmp x y) :: r) M nc ns) (hk : KW p l e R s m args below meth c G nL Z k (pc + len)) (hM : ML G M H) (hlo : lok G locs) (hL : LR ls nL L) (hc : nc ≤ R.cells) (hs : ns ≤ R.slots) :
    W p l e R s m args below meth c H locs nc ns Z (F0 m pc ls st) := by
  obtain ⟨hx, hb, hml, hown, hW, -⟩ := C
  replace h := wl_inv h
  obtain ⟨y, r, rfl, h⟩ := h
  replace h := wl_inv h
  obtain ⟨x, r, rfl, h⟩ := h
  simp only [Bool.and_eq_true, beq_iff_eq, decide_eq_true_eq] at ck
  obtain ⟨rfl, rfl⟩ := ck
  exact W.lcmp hx hb d (hk _ _ _ _ _ h _ _ _ hM hlo hL hc hs)
theorem s_dup (C : Cx p l G own nL ret cc s m meth c) (d : decode cc pc = .ok (i, len)) (ck : (len == 1 && decide (i = .dup)) = true) (h : w1 st fun v r => k L (v :: v :: r) M nc ns) (hk : KW p l e R s m args below meth c G nL Z k (pc + len)) (hM : ML G M H) (hlo : lok G locs) (hL : LR ls nL L) (hc : nc ≤ R.cells) (hs : ns ≤ R.slots) :
    W p l e R s m args below meth c H locs nc ns Z (F0 m pc ls st) := by
  obtain ⟨hx, hb, hml, hown, hW, -⟩ := C
  replace h := w1_inv h
  obtain ⟨v, r, rfl, hv, h⟩ := h
  simp only [Bool.and_eq_true, beq_iff_eq, decide_eq_true_eq] at ck
  obtain ⟨rfl, rfl⟩ := ck
  exact lv_dup hx hb d hv (hk _ _ _ _ _ h _ _ _ hM hlo hL hc hs)
theorem s_dup2 (C : Cx p l G own nL ret cc s m meth c) (d : decode cc pc = .ok (i, len)) (ck : (len == 1 && decide (i = .dup2)) = true) (h : w1 st fun v r => w1 r fun w r => k L (v :: w :: v :: w :: r) M nc ns) (hk : KW p l e R s m args below meth c G nL Z k (pc + len)) (hM : ML G M H) (hlo : lok G locs) (hL : LR ls nL L) (hc : nc ≤ R.cells) (hs : ns ≤ R.slots) :
    W p l e R s m args below meth c H locs nc ns Z (F0 m pc ls st) := by
  obtain ⟨hx, hb, hml, hown, hW, -⟩ := C
  replace h := w1_inv h
  obtain ⟨v, r, rfl, hv, h⟩ := h
  replace h := w1_inv h
  obtain ⟨w, r, rfl, hw, h⟩ := h
  simp only [Bool.and_eq_true, beq_iff_eq, decide_eq_true_eq] at ck
  obtain ⟨rfl, rfl⟩ := ck
  exact lv_dup2_11 hx hb d hv hw (hk _ _ _ _ _ h _ _ _ hM hlo hL hc hs)
theorem s_dupl (C : Cx p l G own nL ret cc s m meth c) (d : decode cc pc = .ok (i, len)) (ck : (len == 1 && decide (i = .dup2)) = true) (h : wl st fun v r => k L (.long v :: .long v :: r) M nc ns) (hk : KW p l e R s m args below meth c G nL Z k (pc + len)) (hM : ML G M H) (hlo : lok G locs) (hL : LR ls nL L) (hc : nc ≤ R.cells) (hs : ns ≤ R.slots) :
    W p l e R s m args below meth c H locs nc ns Z (F0 m pc ls st) := by
  obtain ⟨hx, hb, hml, hown, hW, -⟩ := C
  replace h := wl_inv h
  obtain ⟨v, r, rfl, h⟩ := h
  simp only [Bool.and_eq_true, beq_iff_eq, decide_eq_true_eq] at ck
  obtain ⟨rfl, rfl⟩ := ck
  exact lv_dup2_2 hx hb d rfl (hk _ _ _ _ _ h _ _ _ hM hlo hL hc hs)
theorem s_pop (C : Cx p l G own nL ret cc s m meth c) (d : decode cc pc = .ok (i, len)) (ck : (len == 1 && decide (i = .pop)) = true) (h : w1 st fun _ r => k L r M nc ns) (hk : KW p l e R s m args below meth c G nL Z k (pc + len)) (hM : ML G M H) (hlo : lok G locs) (hL : LR ls nL L) (hc : nc ≤ R.cells) (hs : ns ≤ R.slots) :
    W p l e R s m args below meth c H locs nc ns Z (F0 m pc ls st) := by
  obtain ⟨hx, hb, hml, hown, hW, -⟩ := C
  replace h := w1_inv h
  obtain ⟨v, r, rfl, hv, h⟩ := h
  simp only [Bool.and_eq_true, beq_iff_eq, decide_eq_true_eq] at ck
  obtain ⟨rfl, rfl⟩ := ck
  exact lv_pop hx hb d hv (hk _ _ _ _ _ h _ _ _ hM hlo hL hc hs)
theorem s_if {J : Jt} (C : Cx p l G own nL ret cc s m meth c) (d : decode cc pc = .ok (i, len)) (ck : ckif i len pc a b = true) (h : wi st fun x r => (cnd b x 0 → J a L r M nc ns) ∧ (¬ cnd b x 0 → k L r M nc ns)) (hk : KW p l e R s m args below meth c G nL Z k (pc + len)) (hJ : KW p l e R s m args below meth c G nL Z (J a) a) (hM : ML G M H) (hlo : lok G locs) (hL : LR ls nL L) (hc : nc ≤ R.cells) (hs : ns ≤ R.slots) :
    W p l e R s m args below meth c H locs nc ns Z (F0 m pc ls st) := by
  obtain ⟨hx, hb, hml, hown, hW, -⟩ := C
  replace h := wi_inv h
  obtain ⟨x, r, rfl, h1, h2⟩ := h
  unfold ckif at ck
  simp only [Bool.and_eq_true, beq_iff_eq] at ck
  obtain ⟨rfl, ck⟩ := ck
  have K1 := fun q => hJ _ _ _ _ _ (h1 q) _ _ _ hM hlo hL hc hs
  have K2 := fun q => hk _ _ _ _ _ (h2 q) _ _ _ hM hlo hL hc hs
  split at ck <;> (first | cases ck; done | have ck := of_decide_eq_true ck)
  · exact lv_if_eq hx hb d ck K1 K2
  · exact lv_if_ne hx hb d ck K1 (fun q => K2 (fun z => z q))
  · exact lv_if_lt hx hb d ck K1 K2
  · exact lv_if_ge hx hb d ck K1 K2
  · exact lv_if_gt hx hb d ck K1 K2
  · exact lv_if_le hx hb d ck K1 K2
theorem s_icmp {J : Jt} (C : Cx p l G own nL ret cc s m meth c) (d : decode cc pc = .ok (i, len)) (ck : ckicmp i len pc a b = true) (h : wi st fun y r => wi r fun x r => (cnd b x y → J a L r M nc ns) ∧ (¬ cnd b x y → k L r M nc ns)) (hk : KW p l e R s m args below meth c G nL Z k (pc + len)) (hJ : KW p l e R s m args below meth c G nL Z (J a) a) (hM : ML G M H) (hlo : lok G locs) (hL : LR ls nL L) (hc : nc ≤ R.cells) (hs : ns ≤ R.slots) :
    W p l e R s m args below meth c H locs nc ns Z (F0 m pc ls st) := by
  obtain ⟨hx, hb, hml, hown, hW, -⟩ := C
  replace h := wi_inv h
  obtain ⟨y, r, rfl, h⟩ := h
  replace h := wi_inv h
  obtain ⟨x, r, rfl, h1, h2⟩ := h
  unfold ckicmp at ck
  simp only [Bool.and_eq_true, beq_iff_eq] at ck
  obtain ⟨rfl, ck⟩ := ck
  have K1 := fun q => hJ _ _ _ _ _ (h1 q) _ _ _ hM hlo hL hc hs
  have K2 := fun q => hk _ _ _ _ _ (h2 q) _ _ _ hM hlo hL hc hs
  split at ck <;> (first | cases ck; done | have ck := of_decide_eq_true ck)
  · exact lv_icmp_eq hx hb d ck K1 K2
  · exact lv_icmp_ne hx hb d ck K1 (fun q => K2 (fun z => z q))
  · exact lv_icmp_lt hx hb d ck K1 K2
  · exact lv_icmp_ge hx hb d ck K1 K2
  · exact lv_icmp_gt hx hb d ck K1 K2
  · exact lv_icmp_le hx hb d ck K1 K2
def ckgo (i : Instr) (len pc a : Nat) : Bool := match i with
  | .goto off => len == 3 && decide ((pc : Int) + off = a)
  | _ => false
theorem s_goto {J : Jt} (C : Cx p l G own nL ret cc s m meth c) (d : decode cc pc = .ok (i, len)) (ck : ckgo i len pc a = true) (h : J a L st M nc ns) (hJ : KW p l e R s m args below meth c G nL Z (J a) a) (hM : ML G M H) (hlo : lok G locs) (hL : LR ls nL L) (hc : nc ≤ R.cells) (hs : ns ≤ R.slots) :
    W p l e R s m args below meth c H locs nc ns Z (F0 m pc ls st) := by
  obtain ⟨hx, hb, hml, hown, hW, -⟩ := C
  unfold ckgo at ck
  split at ck
  · simp only [Bool.and_eq_true, beq_iff_eq, decide_eq_true_eq] at ck
    obtain ⟨rfl, ck⟩ := ck
    exact lv_goto hx hb d ck (hJ _ _ _ _ _ h _ _ _ hM hlo hL hc hs)
  · cases ck
def cksw (i : Instr) (len pc a : Nat) (tl : List Nat) (cv : Value) : Bool := match i with
  | .tableswitch df lo hi offs => decide ((pc : Int) + df = a) && decide (lo + offs.size = hi + 1) && decide (offs.toList.map (fun o => (pc : Int) + o) = List.map (fun (t : Nat) => (t : Int)) tl) && (match cv with
    | .int v => decide (v.toInt = lo)
    | _ => false)
  | _ => false
theorem swt_at {f : Nat → Prop} {x : Int32} : ∀ {tl : List Nat} {lo : Int} {t : Nat}, swt f x tl lo → lo ≤ x.toInt → tl[(x.toInt - lo).toNat]? = some t → f t
  | [], _, _, _, _, h => by simp at h
  | u :: tl, lo, t, w, hl, h => by
    by_cases e : x.toInt = lo
    · rw [show (x.toInt - lo).toNat = 0 by omega] at h
      simp at h
      rw [← h]
      exact w.1 e
    · rw [show (x.toInt - lo).toNat = (x.toInt - (lo + 1)).toNat + 1 by omega, List.getElem?_cons_succ] at h
      exact swt_at w.2 (by omega) h
theorem s_sw {J : Jt} {tl : List Nat} (C : Cx p l G own nL ret cc s m meth c) (d : decode cc pc = .ok (i, len)) (ck : cksw i len pc a tl cv = true) (h : wi st fun x r => wi [cv] fun lo _ => (x.toInt < lo.toInt ∨ lo.toInt + tl.length ≤ x.toInt → J a L r M nc ns) ∧ swt (fun t => J t L r M nc ns) x tl lo.toInt)
    (hJ : ∀ a, KW p l e R s m args below meth c G nL Z (J a) a) (hM : ML G M H) (hlo : lok G locs) (hL : LR ls nL L) (hc : nc ≤ R.cells) (hs : ns ≤ R.slots) :
    W p l e R s m args below meth c H locs nc ns Z (F0 m pc ls st) := by
  obtain ⟨hx, hb, hml, hown, hW, -⟩ := C
  replace h := wi_inv h
  obtain ⟨x, r, rfl, h⟩ := h
  unfold cksw at ck
  split at ck
  case h_2 => cases ck
  case h_1 df lo hi offs =>
    split at ck
    case h_2 => simp at ck
    case h_1 v =>
      simp only [Bool.and_eq_true, decide_eq_true_eq] at ck
      obtain ⟨⟨⟨c1, c2⟩, c3⟩, rfl⟩ := ck
      obtain ⟨h1, h2⟩ := h
      have hsz : offs.size = tl.length := by
        have := congrArg List.length c3
        simpa using this
      by_cases hin : x.toInt < v.toInt ∨ hi < x.toInt
      · refine lv_tableOut hx hb d hin c1 (hJ _ _ _ _ _ _ (h1 ?_) _ _ _ hM hlo hL hc hs)
        omega
      · have hlt : (x.toInt - v.toInt).toNat < offs.size := by omega
        have ho : offs[(x.toInt - v.toInt).toNat]? = some offs[(x.toInt - v.toInt).toNat] := Array.getElem?_eq_getElem hlt
        have hlt2 : (x.toInt - v.toInt).toNat < tl.length := by omega
        have e := congrArg (fun q : List Int => q[(x.toInt - v.toInt).toNat]?) c3
        simp [hlt, hlt2] at e
        refine lv_tableIn hx hb d (by omega) (by omega) ho e (hJ _ _ _ _ _ _ (swt_at (f := fun t => J t L r M nc ns) h2 (by omega) (List.getElem?_eq_getElem hlt2)) _ _ _ hM hlo hL hc hs)
end SND
