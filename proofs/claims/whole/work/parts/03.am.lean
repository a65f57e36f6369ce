/-! ===== THE ABSTRACT MACHINE: memory by total functions, one instruction's condition, blocks, runs ===== -/
/-- a cell's kind: an object of class number ci; an array of type and length; the script; a text constant by its number -/
abbrev Kd : Type := Option (Nat ⊕ ((FieldType × Nat) ⊕ (Nat ⊕ Nat)))
def kO (ci : Nat) : Kd := some (.inl ci)
def kA (ty : FieldType) (n : Nat) : Kd := some (.inr (.inl (ty, n)))
def kR (n : Nat) : Kd := some (.inr (.inr (.inl n)))
def kS (i : Nat) : Kd := some (.inr (.inr (.inr i)))
/-- memory: kinds, whole numbers, longs, references (0: null), the next address -/
abbrev Mm : Type := (Nat → Kd) × (Nat → Nat → Int32) × (Nat → Nat → Int64) × (Nat → Nat → Nat) × Nat
def gK (M : Mm) : Nat → Kd := M.1
def gI (M : Mm) : Nat → Nat → Int32 := M.2.1
def gJ (M : Mm) : Nat → Nat → Int64 := M.2.2.1
def gP (M : Mm) : Nat → Nat → Nat := M.2.2.2.1
def gZ (M : Mm) : Nat := M.2.2.2.2
def sI (M : Mm) (a : Nat) (f : Nat → Int32) : Mm := (M.1, va_up M.2.1 a f, M.2.2)
def sJ (M : Mm) (a : Nat) (f : Nat → Int64) : Mm := (M.1, M.2.1, va_up M.2.2.1 a f, M.2.2.2)
def sP (M : Mm) (a : Nat) (f : Nat → Nat) : Mm := (M.1, M.2.1, M.2.2.1, va_up M.2.2.2.1 a f, M.2.2.2.2)
def sZ (M : Mm) (z : Nat) : Mm := (M.1, M.2.1, M.2.2.1, M.2.2.2.1, z)
/-- a new cell at the next address, all of it 0 -/
def nO (M : Mm) (k : Kd) : Mm := (va_up M.1 M.2.2.2.2 k, va_up M.2.1 M.2.2.2.2 (fun _ => 0), va_up M.2.2.1 M.2.2.2.2 (fun _ => 0), va_up M.2.2.2.1 M.2.2.2.2 (fun _ => 0), M.2.2.2.2 + 1)
/-- an array of n int arrays of j places each -/
def nMu (M : Mm) (n j : Nat) : Mm := (fun q => if q = gZ M then kA (.array .int) n else if gZ M < q ∧ q < gZ M + 1 + n then kA .int j else gK M q, fun q => if gZ M < q ∧ q < gZ M + 1 + n then (fun _ => 0) else gI M q, gJ M, fun q => if q = gZ M then (fun i => if i < n then gZ M + 1 + i else 0) else gP M q, gZ M + 1 + n)
theorem gK_sI (M : Mm) (a : Nat) (f : Nat → Int32) : gK (sI M a f) = gK M := rfl
theorem gK_sJ (M : Mm) (a : Nat) (f : Nat → Int64) : gK (sJ M a f) = gK M := rfl
theorem gK_sP (M : Mm) (a : Nat) (f : Nat → Nat) : gK (sP M a f) = gK M := rfl
theorem gK_sZ (M : Mm) (z : Nat) : gK (sZ M z) = gK M := rfl
theorem gI_sI (M : Mm) (a : Nat) (f : Nat → Int32) : gI (sI M a f) = va_up (gI M) a f := rfl
theorem gI_sJ (M : Mm) (a : Nat) (f : Nat → Int64) : gI (sJ M a f) = gI M := rfl
theorem gI_sP (M : Mm) (a : Nat) (f : Nat → Nat) : gI (sP M a f) = gI M := rfl
theorem gI_sZ (M : Mm) (z : Nat) : gI (sZ M z) = gI M := rfl
theorem gJ_sI (M : Mm) (a : Nat) (f : Nat → Int32) : gJ (sI M a f) = gJ M := rfl
theorem gJ_sJ (M : Mm) (a : Nat) (f : Nat → Int64) : gJ (sJ M a f) = va_up (gJ M) a f := rfl
theorem gJ_sP (M : Mm) (a : Nat) (f : Nat → Nat) : gJ (sP M a f) = gJ M := rfl
theorem gJ_sZ (M : Mm) (z : Nat) : gJ (sZ M z) = gJ M := rfl
theorem gP_sI (M : Mm) (a : Nat) (f : Nat → Int32) : gP (sI M a f) = gP M := rfl
theorem gP_sJ (M : Mm) (a : Nat) (f : Nat → Int64) : gP (sJ M a f) = gP M := rfl
theorem gP_sP (M : Mm) (a : Nat) (f : Nat → Nat) : gP (sP M a f) = va_up (gP M) a f := rfl
theorem gP_sZ (M : Mm) (z : Nat) : gP (sZ M z) = gP M := rfl
theorem gZ_sI (M : Mm) (a : Nat) (f : Nat → Int32) : gZ (sI M a f) = gZ M := rfl
theorem gZ_sJ (M : Mm) (a : Nat) (f : Nat → Int64) : gZ (sJ M a f) = gZ M := rfl
theorem gZ_sP (M : Mm) (a : Nat) (f : Nat → Nat) : gZ (sP M a f) = gZ M := rfl
theorem gZ_sZ (M : Mm) (z : Nat) : gZ (sZ M z) = z := rfl
theorem gK_nO (M : Mm) (k : Kd) : gK (nO M k) = va_up (gK M) (gZ M) k := rfl
theorem gI_nO (M : Mm) (k : Kd) : gI (nO M k) = va_up (gI M) (gZ M) (fun _ => 0) := rfl
theorem gJ_nO (M : Mm) (k : Kd) : gJ (nO M k) = va_up (gJ M) (gZ M) (fun _ => 0) := rfl
theorem gP_nO (M : Mm) (k : Kd) : gP (nO M k) = va_up (gP M) (gZ M) (fun _ => 0) := rfl
theorem gZ_nO (M : Mm) (k : Kd) : gZ (nO M k) = gZ M + 1 := rfl
theorem up_s {α : Type} (f : Nat → α) (k : Nat) (v : α) : va_up f k v k = v := if_pos rfl
theorem up_n {α : Type} (f : Nat → α) {k j : Nat} (v : α) (h : j ≠ k) : va_up f k v j = f j := if_neg h
theorem up_a {α : Type} (f : Nat → α) (k j : Nat) (v : α) : va_up f k v j = if j = k then v else f j := rfl
theorem Mm_ext {M N : Mm} (h1 : gK M = gK N) (h2 : gI M = gI N) (h3 : gJ M = gJ N) (h4 : gP M = gP N) (h5 : gZ M = gZ N) : M = N := by
  obtain ⟨a, b, c, d, e⟩ := M
  obtain ⟨a', b', c', d', e'⟩ := N
  simp only [gK, gI, gJ, gP, gZ] at h1 h2 h3 h4 h5
  subst h1; subst h2; subst h3; subst h4; subst h5
  rfl
/-! ==  a contract: pre, what it answers, what it throws == -/
abbrev Sem : Type := List Value → Mm → Prop × (Option Value → Mm → Prop) × (Nat → Mm → Prop)
abbrev Kt : Type := List Slot → List Value → Mm → Nat → Nat → Prop
abbrev Jt : Type := Nat → Kt
/-- pc, instruction, its length; then what it does: a number, four numbers, a list of numbers, a value -/
abbrev Item : Type := Nat × Instr × Nat × Nat × Nat × Nat × Nat × Nat × List Nat × Value
/-! ==  the stack and the locals taken apart == -/
def wi (st : List Value) (f : Int32 → List Value → Prop) : Prop := match st with
  | .int x :: r => f x r
  | _ => False
def wl (st : List Value) (f : Int64 → List Value → Prop) : Prop := match st with
  | .long x :: r => f x r
  | _ => False
def wr (st : List Value) (f : Nat → List Value → Prop) : Prop := match st with
  | .ref x :: r => f x r
  | _ => False
def w1 (st : List Value) (f : Value → List Value → Prop) : Prop := match st with
  | v :: r => v.category = 1 ∧ f v r
  | _ => False
theorem wi_e (x : Int32) (r : List Value) (f : Int32 → List Value → Prop) : wi (.int x :: r) f = f x r := rfl
theorem wl_e (x : Int64) (r : List Value) (f : Int64 → List Value → Prop) : wl (.long x :: r) f = f x r := rfl
theorem wr_e (x : Nat) (r : List Value) (f : Nat → List Value → Prop) : wr (.ref x :: r) f = f x r := rfl
theorem w1_i (x : Int32) (r : List Value) (f : Value → List Value → Prop) : w1 (.int x :: r) f = f (.int x) r := by simp [w1, Value.category]
theorem w1_r (x : Nat) (r : List Value) (f : Value → List Value → Prop) : w1 (.ref x :: r) f = f (.ref x) r := by simp [w1, Value.category]
theorem wi_inv {st : List Value} {f : Int32 → List Value → Prop} (h : wi st f) : ∃ x r, st = .int x :: r ∧ f x r := by
  unfold wi at h
  split at h
  · exact ⟨_, _, rfl, h⟩
  · exact h.elim
theorem wl_inv {st : List Value} {f : Int64 → List Value → Prop} (h : wl st f) : ∃ x r, st = .long x :: r ∧ f x r := by
  unfold wl at h
  split at h
  · exact ⟨_, _, rfl, h⟩
  · exact h.elim
theorem wr_inv {st : List Value} {f : Nat → List Value → Prop} (h : wr st f) : ∃ x r, st = .ref x :: r ∧ f x r := by
  unfold wr at h
  split at h
  · exact ⟨_, _, rfl, h⟩
  · exact h.elim
theorem w1_inv {st : List Value} {f : Value → List Value → Prop} (h : w1 st f) : ∃ v r, st = v :: r ∧ v.category = 1 ∧ f v r := by
  unfold w1 at h
  split at h
  · exact ⟨_, _, rfl, h.1, h.2⟩
  · exact h.elim
theorem wi_mono {st : List Value} {f g : Int32 → List Value → Prop} (h : ∀ x r, f x r → g x r) (w : wi st f) : wi st g := by
  obtain ⟨x, r, rfl, w⟩ := wi_inv w
  exact h _ _ w
theorem wl_mono {st : List Value} {f g : Int64 → List Value → Prop} (h : ∀ x r, f x r → g x r) (w : wl st f) : wl st g := by
  obtain ⟨x, r, rfl, w⟩ := wl_inv w
  exact h _ _ w
theorem wr_mono {st : List Value} {f g : Nat → List Value → Prop} (h : ∀ x r, f x r → g x r) (w : wr st f) : wr st g := by
  obtain ⟨x, r, rfl, w⟩ := wr_inv w
  exact h _ _ w
theorem w1_mono {st : List Value} {f g : Value → List Value → Prop} (h : ∀ x r, f x r → g x r) (w : w1 st f) : w1 st g := by
  obtain ⟨x, r, rfl, w0, w⟩ := w1_inv w
  exact ⟨w0, h _ _ w⟩
def ldS : List Slot → Nat → Slot
  | [], _ => .unset
  | u :: _, 0 => u
  | _ :: l, i + 1 => ldS l i
theorem ldS_0 (u : Slot) (l : List Slot) : ldS (u :: l) 0 = u := rfl
theorem ldS_s (u : Slot) (l : List Slot) (i : Nat) : ldS (u :: l) (i + 1) = ldS l i := rfl
def vi (u : Slot) (f : Int32 → Prop) : Prop := match u with
  | .val (.int x) => f x
  | _ => False
def vl (u : Slot) (f : Int64 → Prop) : Prop := match u with
  | .val (.long x) => f x
  | _ => False
def vr (u : Slot) (f : Nat → Prop) : Prop := match u with
  | .val (.ref x) => f x
  | _ => False
theorem vi_e (x : Int32) (f : Int32 → Prop) : vi (.val (.int x)) f = f x := rfl
theorem vl_e (x : Int64) (f : Int64 → Prop) : vl (.val (.long x)) f = f x := rfl
theorem vr_e (x : Nat) (f : Nat → Prop) : vr (.val (.ref x)) f = f x := rfl
theorem vi_inv {u : Slot} {f : Int32 → Prop} (h : vi u f) : ∃ x, u = .val (.int x) ∧ f x := by
  unfold vi at h
  split at h
  · exact ⟨_, rfl, h⟩
  · exact h.elim
theorem vl_inv {u : Slot} {f : Int64 → Prop} (h : vl u f) : ∃ x, u = .val (.long x) ∧ f x := by
  unfold vl at h
  split at h
  · exact ⟨_, rfl, h⟩
  · exact h.elim
theorem vr_inv {u : Slot} {f : Nat → Prop} (h : vr u f) : ∃ x, u = .val (.ref x) ∧ f x := by
  unfold vr at h
  split at h
  · exact ⟨_, rfl, h⟩
  · exact h.elim
theorem vi_mono {u : Slot} {f g : Int32 → Prop} (h : ∀ x, f x → g x) (w : vi u f) : vi u g := by
  obtain ⟨x, rfl, w⟩ := vi_inv w
  exact h _ w
theorem vl_mono {u : Slot} {f g : Int64 → Prop} (h : ∀ x, f x → g x) (w : vl u f) : vl u g := by
  obtain ⟨x, rfl, w⟩ := vl_inv w
  exact h _ w
theorem vr_mono {u : Slot} {f g : Nat → Prop} (h : ∀ x, f x → g x) (w : vr u f) : vr u g := by
  obtain ⟨x, rfl, w⟩ := vr_inv w
  exact h _ w
/-- a store of one place: a long before it is lost -/
def dpL (u : Slot) : Slot := match u with
  | .val (.long _) => .unset
  | .val (.double _) => .unset
  | u => u
def stS : List Slot → Nat → Value → List Slot
  | [], _, _ => []
  | _ :: l, 0, v => .val v :: l
  | u :: l, i + 1, v => (if i = 0 then dpL u else u) :: stS l i v
/-- a store of two places -/
def stL : List Slot → Nat → Value → List Slot
  | [], _, _ => []
  | _ :: [], _, _ => [.unset]
  | _ :: _ :: l, 0, v => .val v :: .unset :: l
  | u :: w :: l, i + 1, v => (if i = 0 then dpL u else u) :: stL (w :: l) i v
theorem dpL_u : dpL .unset = .unset := rfl
theorem dpL_i (x : Int32) : dpL (.val (.int x)) = .val (.int x) := rfl
theorem dpL_r (x : Nat) : dpL (.val (.ref x)) = .val (.ref x) := rfl
theorem dpL_l (x : Int64) : dpL (.val (.long x)) = .unset := rfl
theorem stS_0 (u : Slot) (l : List Slot) (v : Value) : stS (u :: l) 0 v = .val v :: l := rfl
theorem stS_1 (u : Slot) (l : List Slot) (v : Value) : stS (u :: l) 1 v = dpL u :: stS l 0 v := rfl
theorem stS_s (u : Slot) (l : List Slot) (i : Nat) (v : Value) : stS (u :: l) (i + 2) v = u :: stS l (i + 1) v := rfl
theorem stL_0 (u w : Slot) (l : List Slot) (v : Value) : stL (u :: w :: l) 0 v = .val v :: .unset :: l := rfl
theorem stL_1 (u w : Slot) (l : List Slot) (v : Value) : stL (u :: w :: l) 1 v = dpL u :: stL (w :: l) 0 v := rfl
theorem stL_s (u w : Slot) (l : List Slot) (i : Nat) (v : Value) : stL (u :: w :: l) (i + 2) v = u :: stL (w :: l) (i + 1) v := rfl
/-! ==  numbers == -/
def bin (b : Nat) (x y : Int32) : Int32 := match b with
  | 0 => x + y
  | 1 => x - y
  | 2 => x * y
  | 3 => x &&& y
  | 4 => x >>> (y &&& 31)
  | _ => (x.toUInt32 >>> (y.toUInt32 &&& Int32.toUInt32 31)).toInt32
def bdv (b : Nat) (x y : Int32) : Int32 := match b with
  | 0 => x / y
  | _ => x - x / y * y
def lbin (b : Nat) (x y : Int64) : Int64 := match b with
  | 0 => x + y
  | 1 => x - y
  | _ => x * y
def cnd (b : Nat) (x y : Int32) : Prop := match b with
  | 0 => x = y
  | 1 => ¬ x = y
  | 2 => x < y
  | 3 => y ≤ x
  | 4 => y < x
  | _ => x ≤ y
def aty (b : Nat) : FieldType := match b with
  | 0 => .int
  | 1 => .boolean
  | 2 => .byte
  | 3 => .long
  | 4 => .object "IrrigationTurns$State"
  | _ => .array .int
def inB (k : Kd) (ty : FieldType) (i : Int32) : Prop := match k with
  | some (.inr (.inl (t, n))) => t = ty ∧ vp_in i n
  | _ => False
def inR (k : Kd) (i : Int32) : Prop := match k with
  | some (.inr (.inr (.inl n))) => vp_in i n
  | _ => False
def kLen (k : Kd) (f : Int32 → Prop) : Prop := match k with
  | some (.inr (.inl (_, n))) => f (nI n)
  | some (.inr (.inr (.inl n))) => f (nI n)
  | _ => False
def isS (k : Kd) : Prop := match k with
  | some (.inr (.inr (.inr _))) => True
  | _ => False
def cpOK (k0 k1 : Kd) (sp dp n : Int32) : Prop := match k0, k1 with
  | some (.inr (.inl (t0, n0))), some (.inr (.inl (t1, n1))) => t0 = .int ∧ t1 = .int ∧ ¬ sp < 0 ∧ ¬ dp < 0 ∧ ¬ n < 0 ∧ sp.toNatClampNeg + n.toNatClampNeg ≤ n0 ∧ dp.toNatClampNeg + n.toNatClampNeg ≤ n1
  | _, _ => False
theorem inB_e (t ty : FieldType) (n : Nat) (i : Int32) : inB (kA t n) ty i = (t = ty ∧ vp_in i n) := rfl
theorem inR_e (n : Nat) (i : Int32) : inR (kR n) i = vp_in i n := rfl
theorem kLen_a (t : FieldType) (n : Nat) (f : Int32 → Prop) : kLen (kA t n) f = f (nI n) := rfl
theorem kLen_r (n : Nat) (f : Int32 → Prop) : kLen (kR n) f = f (nI n) := rfl
theorem cpOK_e (t0 t1 : FieldType) (n0 n1 : Nat) (sp dp n : Int32) : cpOK (kA t0 n0) (kA t1 n1) sp dp n = (t0 = .int ∧ t1 = .int ∧ ¬ sp < 0 ∧ ¬ dp < 0 ∧ ¬ n < 0 ∧ sp.toNatClampNeg + n.toNatClampNeg ≤ n0 ∧ dp.toNatClampNeg + n.toNatClampNeg ≤ n1) := rfl
def upN (f : Nat → Nat) (k : Nat) (x : Nat) : Nat → Nat := va_up f k x
/-- the receiver: none; of class ci; a text -/
def rcv (tl : List Nat) (as : List Value) (M : Mm) : Prop := match tl, as with
  | [], _ => True
  | ci :: _, .ref q :: _ => if ci = 100 then isS (gK M q) else if ci = 101 then True else gK M q = kO ci
  | _, _ => False
theorem rcv_0 (as : List Value) (M : Mm) : rcv [] as M = True := rfl
theorem rcv_1 (ci q : Nat) (as : List Value) (M : Mm) : rcv [ci] (.ref q :: as) M = if ci = 100 then isS (gK M q) else if ci = 101 then True else gK M q = kO ci := rfl
/-- few words below a call -/
def c8 (st : List Value) : Prop := (st.map fun v => v.category).sum ≤ 8
theorem c8_0 : c8 [] := by simp [c8]
def swt (f : Nat → Prop) (x : Int32) : List Nat → Int → Prop
  | [], _ => True
  | t :: ts, lo => (x.toInt = lo → f t) ∧ swt f x ts (lo + 1)
theorem swt_n (f : Nat → Prop) (x : Int32) (lo : Int) : swt f x [] lo = True := rfl
theorem swt_c (f : Nat → Prop) (x : Int32) (t : Nat) (ts : List Nat) (lo : Int) : swt f x (t :: ts) lo = ((x.toInt = lo → f t) ∧ swt f x ts (lo + 1)) := rfl
/-! ==  one instruction == -/
section AM
variable (sa : Nat → Nat) (E : Nat → Sem) (MC MS : Nat) (HX : Nat → Nat → Option Nat)
def st1 (J : Jt) (Q : Option Value → Mm → Prop) (X : Nat → Mm → Prop) (pc op a b c d : Nat) (tl : List Nat) (cv : Value) (k : Kt) : Kt := fun L st M nc ns => match op with
  | 0 => k L (cv :: st) M nc ns
  | 1 => vi (ldS L a) fun x => k L (.int x :: st) M nc ns
  | 2 => vl (ldS L a) fun x => k L (.long x :: st) M nc ns
  | 3 => vr (ldS L a) fun x => k L (.ref x :: st) M nc ns
  | 4 => wi st fun x r => k (stS L a (.int x)) r M nc ns
  | 5 => wr st fun x r => k (stS L a (.ref x)) r M nc ns
  | 6 => wl st fun x r => k (stL L a (.long x)) r M nc ns
  | 7 => vi (ldS L a) fun x => wi [cv] fun n _ => k (stS L a (.int (x + n))) st M nc ns
  | 8 => wi st fun y r => wi r fun x r => k L (.int (bin b x y) :: r) M nc ns
  | 9 => wi st fun y r => wi r fun x r => ¬ y = 0 ∧ k L (.int (bdv b x y) :: r) M nc ns
  | 10 => wl st fun y r => wl r fun x r => k L (.long (lbin b x y) :: r) M nc ns
  | 11 => wl st fun y r => wl r fun x r => ¬ y = 0 ∧ k L (.long (x / y) :: r) M nc ns
  | 12 => wi st fun x r => k L (.long x.toInt64 :: r) M nc ns
  | 13 => wl st fun x r => k L (.int x.toInt32 :: r) M nc ns
  | 14 => wi st fun x r => k L (.int x.toInt8.toInt32 :: r) M nc ns
  | 15 => wl st fun y r => wl r fun x r => k L (.int (lg_cmp x y) :: r) M nc ns
  | 16 => w1 st fun v r => k L (v :: v :: r) M nc ns
  | 17 => w1 st fun v r => w1 r fun w r => k L (v :: w :: v :: w :: r) M nc ns
  | 18 => wl st fun v r => k L (.long v :: .long v :: r) M nc ns
  | 19 => w1 st fun _ r => k L r M nc ns
  | 20 => wi st fun x r => (cnd b x 0 → J a L r M nc ns) ∧ (¬ cnd b x 0 → k L r M nc ns)
  | 21 => wi st fun y r => wi r fun x r => (cnd b x y → J a L r M nc ns) ∧ (¬ cnd b x y → k L r M nc ns)
  | 22 => J a L st M nc ns
  | 23 => wi st fun x r => wi [cv] fun lo _ => (x.toInt < lo.toInt ∨ lo.toInt + tl.length ≤ x.toInt → J a L r M nc ns) ∧ swt (fun t => J t L r M nc ns) x tl lo.toInt
  | 24 => wr st fun q r => gK M q = kO a ∧ k L (.int (gI M q b) :: r) M nc ns
  | 25 => wr st fun q r => gK M q = kO a ∧ k L (.long (gJ M q b) :: r) M nc ns
  | 26 => wr st fun q r => gK M q = kO a ∧ gP M q b ≠ 0 ∧ k L (.ref (gP M q b) :: r) M nc ns
  | 27 => wi st fun x r => wr r fun q r => gK M q = kO a ∧ k L r (sI M q (upd (gI M q) b x)) nc ns
  | 28 => wl st fun x r => wr r fun q r => gK M q = kO a ∧ k L r (sJ M q (vp_updL (gJ M q) b x)) nc ns
  | 29 => wr st fun x r => wr r fun q r => gK M q = kO a ∧ x ≠ 0 ∧ k L r (sP M q (upN (gP M q) b x)) nc ns
  | 30 => wi st fun x r => wr r fun q r => gK M q = kO a ∧ vp_nar .boolean x = x ∧ k L r (sI M q (upd (gI M q) b x)) nc ns
  | 31 => wi st fun i r => wr r fun q r => inB (gK M q) (aty a) i ∧ k L (.int (gI M q i.toNatClampNeg) :: r) M nc ns
  | 32 => wi st fun i r => wr r fun q r => inB (gK M q) .long i ∧ k L (.long (gJ M q i.toNatClampNeg) :: r) M nc ns
  | 33 => wi st fun i r => wr r fun q r => inB (gK M q) (aty a) i ∧ gP M q i.toNatClampNeg ≠ 0 ∧ k L (.ref (gP M q i.toNatClampNeg) :: r) M nc ns
  | 34 => wi st fun i r => wr r fun q r => inR (gK M q) i ∧ k L (.int (gI M q i.toNatClampNeg) :: r) M nc ns
  | 35 => wi st fun x r => wi r fun i r => wr r fun q r => inB (gK M q) (aty a) i ∧ k L r (sI M q (upd (gI M q) i.toNatClampNeg (vp_nar (aty a) x))) nc ns
  | 36 => wl st fun x r => wi r fun i r => wr r fun q r => inB (gK M q) .long i ∧ k L r (sJ M q (vp_updL (gJ M q) i.toNatClampNeg x)) nc ns
  | 37 => wr st fun x r => wi r fun i r => wr r fun q r => inB (gK M q) (.object "IrrigationTurns$State") i ∧ gK M x = kO 8 ∧ k L r (sP M q (upN (gP M q) i.toNatClampNeg x)) nc ns
  | 42 => wr st fun q r => kLen (gK M q) fun n => k L (.int n :: r) M nc ns
  | 43 => nc + 1 ≤ MC ∧ ns + b ≤ MS ∧ k L (.ref (gZ M) :: st) (nO M (kO a)) (nc + 1) (ns + b)
  | 44 => wi st fun n r => ¬ n < 0 ∧ n.toNatClampNeg * 8 ≤ 536870912 ∧ nc + 1 ≤ MC ∧ ns + n.toNatClampNeg ≤ MS ∧ k L (.ref (gZ M) :: r) (nO M (kA (aty a) n.toNatClampNeg)) (nc + 1) (ns + n.toNatClampNeg)
  | 46 => wi st fun j r => wi r fun n r => ¬ n < 0 ∧ ¬ j < 0 ∧ n.toNatClampNeg * 4 ≤ 536870912 ∧ j.toNatClampNeg * 4 ≤ 536870912 ∧ nc + (1 + n.toNatClampNeg) ≤ MC ∧ ns + (n.toNatClampNeg + n.toNatClampNeg * j.toNatClampNeg) ≤ MS ∧ k L (.ref (gZ M) :: r) (nMu M n.toNatClampNeg j.toNatClampNeg) (nc + (1 + n.toNatClampNeg)) (ns + (n.toNatClampNeg + n.toNatClampNeg * j.toNatClampNeg))
  | 47 => wr st fun _ r => c8 r ∧ k L r M nc ns
  | 48 => (st.take b).length = b ∧ c8 (st.drop b) ∧ rcv tl (st.take b).reverse M ∧ (E a (st.take b).reverse M).1 ∧ nc + c ≤ MC ∧ ns + d ≤ MS ∧ (∀ v M', (E a (st.take b).reverse M).2.1 v M' → k L (v.toList ++ st.drop b) M' (nc + c) (ns + d)) ∧
      ∀ e M', (E a (st.take b).reverse M).2.2 e M' → match HX pc e with
        | none => X e M'
        | some h => ∀ q, J h L [.ref q] M' (nc + c) (ns + d)
  | 49 => wi st fun y r => wi r fun x r => c8 r ∧ k L (.int (if y < x then y else x) :: r) M nc ns
  | 50 => wi st fun y r => wi r fun x r => c8 r ∧ k L (.int (if x < y then y else x) :: r) M nc ns
  | 51 => wi st fun n r => wi r fun dp r => wr r fun q1 r => wi r fun sp r => wr r fun q0 r => c8 r ∧ cpOK (gK M q0) (gK M q1) sp dp n ∧ k L r (sI M q1 (va_cpy (gI M q0) (gI M q1) sp.toNatClampNeg dp.toNatClampNeg n.toNatClampNeg)) nc ns
  | 52 => k L (.ref (sa a) :: st) M nc ns
  | 53 => wl st fun y r => wl r fun x r => c8 r ∧ k L (.long (if y < x then y else x) :: r) M nc ns
  | 54 => wl st fun y r => wl r fun x r => c8 r ∧ k L (.long (if y < x then x else y) :: r) M nc ns
  | 55 => st = [] ∧ Q none M
  | 56 => wi st fun x r => r = [] ∧ Q (some (.int x)) M
  | 57 => wl st fun x r => r = [] ∧ Q (some (.long x)) M
  | 58 => wi st fun x r => r = [] ∧ vp_nar .boolean x = x ∧ Q (some (.int x)) M
  | 59 => c8 st ∧ nc + 1 ≤ MC ∧ ns + 6 ≤ MS ∧ ∀ z, gZ M ≤ z → X a (sZ M z)
  | 60 => J a L st M nc ns
  | _ => False
/-- a stretch of instructions -/
def bk (J : Jt) (Q : Option Value → Mm → Prop) (X : Nat → Mm → Prop) : List Item → Kt
  | [], _, _, _, _, _ => False
  | (pc, _, _, op, a, b, c, d, tl, cv) :: is, L, st, M, nc, ns => st1 sa E MC MS HX J Q X pc op a b c d tl cv (bk J Q X is) L st M nc ns
end AM
theorem swt_mono {f g : Nat → Prop} (h : ∀ t, f t → g t) {x : Int32} : ∀ {ts : List Nat} {lo : Int}, swt f x ts lo → swt g x ts lo
  | [], _, _ => trivial
  | _ :: _, _, w => ⟨fun e => h _ (w.1 e), swt_mono h w.2⟩
theorem kLen_mono {k : Kd} {f g : Int32 → Prop} (h : ∀ t, f t → g t) (w : kLen k f) : kLen k g := by
  unfold kLen at w ⊢
  split at w
  · exact h _ w
  · exact h _ w
  · exact w.elim
theorem st1_mono {sa : Nat → Nat} {E : Nat → Sem} {MC MS : Nat} {HX : Nat → Nat → Option Nat} {J J' : Jt} {Q : Option Value → Mm → Prop} {X : Nat → Mm → Prop} {pc op a b c d : Nat} {tl : List Nat} {cv : Value} {k k' : Kt}
    (hJ : ∀ pc L st M nc ns, J pc L st M nc ns → J' pc L st M nc ns) (hk : ∀ L st M nc ns, k L st M nc ns → k' L st M nc ns) {L : List Slot} {st : List Value} {M : Mm} {nc ns : Nat}
    (w : st1 sa E MC MS HX J Q X pc op a b c d tl cv k L st M nc ns) : st1 sa E MC MS HX J' Q X pc op a b c d tl cv k' L st M nc ns := by
  unfold st1 at w ⊢
  split at w
  case h_23 => exact hJ _ _ _ _ _ _ w
  all_goals first
    | exact hk _ _ _ _ _ w
    | exact w
    | exact w.elim
    | exact hJ _ _ _ _ _ _ w
    | exact vi_mono (fun x w => hk _ _ _ _ _ w) w
    | exact vl_mono (fun x w => hk _ _ _ _ _ w) w
    | exact vr_mono (fun x w => hk _ _ _ _ _ w) w
    | exact wi_mono (fun x r w => hk _ _ _ _ _ w) w
    | exact wl_mono (fun x r w => hk _ _ _ _ _ w) w
    | exact wr_mono (fun x r w => hk _ _ _ _ _ w) w
    | exact w1_mono (fun x r w => hk _ _ _ _ _ w) w
    | exact vi_mono (fun x w => wi_mono (fun x r w => hk _ _ _ _ _ w) w) w
    | exact wi_mono (fun x r w => wi_mono (fun x r w => hk _ _ _ _ _ w) w) w
    | exact wi_mono (fun x r w => wi_mono (fun x r w => ⟨w.1, hk _ _ _ _ _ w.2⟩) w) w
    | exact wl_mono (fun x r w => wl_mono (fun x r w => hk _ _ _ _ _ w) w) w
    | exact wl_mono (fun x r w => wl_mono (fun x r w => ⟨w.1, hk _ _ _ _ _ w.2⟩) w) w
    | exact w1_mono (fun x r w => w1_mono (fun x r w => hk _ _ _ _ _ w) w) w
    | exact wi_mono (fun x r w => ⟨fun e => hJ _ _ _ _ _ _ (w.1 e), fun e => hk _ _ _ _ _ (w.2 e)⟩) w
    | exact wi_mono (fun x r w => wi_mono (fun x r w => ⟨fun e => hJ _ _ _ _ _ _ (w.1 e), fun e => hk _ _ _ _ _ (w.2 e)⟩) w) w
    | exact wi_mono (fun x r w => wi_mono (fun x r w => ⟨fun e => hJ _ _ _ _ _ _ (w.1 e), swt_mono (fun t w => hJ _ _ _ _ _ _ w) w.2⟩) w) w
    | exact wr_mono (fun x r w => ⟨w.1, hk _ _ _ _ _ w.2⟩) w
    | exact wr_mono (fun x r w => ⟨w.1, w.2.1, hk _ _ _ _ _ w.2.2⟩) w
    | exact wr_mono (fun x r w => kLen_mono (fun n w => hk _ _ _ _ _ w) w) w
    | exact wi_mono (fun x r w => wr_mono (fun x r w => ⟨w.1, hk _ _ _ _ _ w.2⟩) w) w
    | exact wl_mono (fun x r w => wr_mono (fun x r w => ⟨w.1, hk _ _ _ _ _ w.2⟩) w) w
    | exact wi_mono (fun x r w => wr_mono (fun x r w => ⟨w.1, w.2.1, hk _ _ _ _ _ w.2.2⟩) w) w
    | exact wr_mono (fun x r w => wr_mono (fun x r w => ⟨w.1, w.2.1, hk _ _ _ _ _ w.2.2⟩) w) w
    | exact wi_mono (fun x r w => wi_mono (fun x r w => wr_mono (fun x r w => ⟨w.1, hk _ _ _ _ _ w.2⟩) w) w) w
    | exact wl_mono (fun x r w => wi_mono (fun x r w => wr_mono (fun x r w => ⟨w.1, hk _ _ _ _ _ w.2⟩) w) w) w
    | exact wr_mono (fun x r w => wi_mono (fun x r w => wr_mono (fun x r w => ⟨w.1, w.2.1, hk _ _ _ _ _ w.2.2⟩) w) w) w
    | exact ⟨w.1, w.2.1, hk _ _ _ _ _ w.2.2⟩
    | exact wi_mono (fun x r w => ⟨w.1, w.2.1, w.2.2.1, w.2.2.2.1, hk _ _ _ _ _ w.2.2.2.2⟩) w
    | exact wi_mono (fun x r w => wi_mono (fun x r w => ⟨w.1, w.2.1, w.2.2.1, w.2.2.2.1, w.2.2.2.2.1, w.2.2.2.2.2.1, hk _ _ _ _ _ w.2.2.2.2.2.2⟩) w) w
    | exact wi_mono (fun x r w => wi_mono (fun x r w => wr_mono (fun x r w => wi_mono (fun x r w => wr_mono (fun x r w => ⟨w.1, w.2.1, hk _ _ _ _ _ w.2.2⟩) w) w) w) w) w
    | (refine ⟨w.1, w.2.1, w.2.2.1, w.2.2.2.1, w.2.2.2.2.1, w.2.2.2.2.2.1, fun v M' h => hk _ _ _ _ _ (w.2.2.2.2.2.2.1 v M' h), fun e M' h => ?_⟩
       have w' := w.2.2.2.2.2.2.2 e M' h
       split at w'
       · exact w'
       · exact fun q => hJ _ _ _ _ _ _ (w' q))
theorem bk_mono {sa : Nat → Nat} {E : Nat → Sem} {MC MS : Nat} {HX : Nat → Nat → Option Nat} {J J' : Jt} {Q : Option Value → Mm → Prop} {X : Nat → Mm → Prop} (hJ : ∀ pc L st M nc ns, J pc L st M nc ns → J' pc L st M nc ns) :
    ∀ (is : List Item) (L : List Slot) (st : List Value) (M : Mm) (nc ns : Nat), bk sa E MC MS HX J Q X is L st M nc ns → bk sa E MC MS HX J' Q X is L st M nc ns := by
  intro is
  induction is with
  | nil => exact fun _ _ _ _ _ w => w
  | cons it is ih =>
    obtain ⟨pc, i, n, op, a, b, c, d, tl, cv⟩ := it
    exact fun L st M nc ns w => st1_mono hJ ih w
/-! ==  runs: the least that blocks give == -/
abbrev Code9 : Type := List (Nat × List Item)
def lkp : Code9 → Nat → List Item
  | [], _ => []
  | (p, is) :: r, pc => if pc = p then is else lkp r pc
section AMR
variable (sa : Nat → Nat) (E : Nat → Sem) (MC MS : Nat) (HX : Nat → Nat → Option Nat) (Q : Option Value → Mm → Prop) (X : Nat → Mm → Prop) (C : Code9)
def Run : Jt := fun pc L st M nc ns => ∀ P : Jt, (∀ pc L st M nc ns, bk sa E MC MS HX P Q X (lkp C pc) L st M nc ns → P pc L st M nc ns) → P pc L st M nc ns
theorem Run.step {pc : Nat} {L : List Slot} {st : List Value} {M : Mm} {nc ns : Nat} (h : bk sa E MC MS HX (Run sa E MC MS HX Q X C) Q X (lkp C pc) L st M nc ns) : Run sa E MC MS HX Q X C pc L st M nc ns :=
  fun P hP => hP _ _ _ _ _ _ (bk_mono (fun _ _ _ _ _ _ w => w P hP) _ _ _ _ _ _ h)
end AMR
