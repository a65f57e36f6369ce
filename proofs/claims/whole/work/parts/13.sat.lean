/-! ===== a method's contract out of its run ===== -/
theorem ldS_get : ∀ {L : List Slot} {i : Nat} {v : Value}, ldS L i = .val v → L[i]? = some (.val v)
  | [], _, _, h => by cases h
  | u :: _, 0, _, h => by rw [ldS_0] at h; rw [h]; rfl
  | _ :: l, i + 1, v, h => by
    rw [List.getElem?_cons_succ]
    exact ldS_get (L := l) h
def ent (as : List Value) (n : Nat) : List Slot := lg_sl as ++ List.replicate (n - (lg_sl as).length) Slot.unset
theorem ent_LR (as : List Value) {n : Nat} (h : (lg_sl as).length ≤ n) : LR (ent as n).toArray n (ent as n) := by
  have h1 := lv_entry as h
  refine ⟨by unfold ent; simp; omega, h1.1, h1.2.1, fun q hq => ?_⟩
  obtain ⟨i, v⟩ := q
  have h2 := ldS_get ((asc_in _ 0 i v).mp hq).2
  rw [List.getElem?_toArray]
  exact h2
section SAT
variable {l : Launch} {G : Gt} {id own : Nat} {S : Sem} {E : Nat → Sem} {ids : List Nat} {K : Code9}
theorem sat_of (hfl : l.stackTraces = false) (hw : calK id) (hown : (cY id).cls = xR own) (hH : cH id = []) (hok : okC own (cL9 id) (cF id) (cO id) (cR id) (cC id) (decide ((cY id).name = "<init>")) true ids K = true) (hE : ∀ id ∈ ids, SatM l G id (E id) ∧ calK id)
    (hrun : ∀ as M, (S as M).1 → (lg_sl as).length ≤ cL9 id ∧ Run (gT G) E (cM id) (cS id) (fun _ _ => none) (S as M).2.1 (S as M).2.2 K 0 (ent as (cL9 id)) [] M 0 0) : SatM l G id S := by
  intro as M hpre
  obtain ⟨h1, h2⟩ := hrun as M hpre
  rw [cwd_0 hH]
  refine vx_ofW (cc := cC id) (maxL := cL9 id) (ret := cR id) hw.w.2.2.1 rfl ?_
  intro p e s m args below meth c s₁ B hml hout hv
  obtain ⟨rfl, hWd, hM⟩ := hv
  have C : Cx p l G own (cL9 id) (cR id) (cC id) s m meth c := ⟨B.exec, B.bytes, hml, by rw [← hown]; exact findClass_of_methodNamed B.named, hWd, B.returns, B.notSynchronized, hfl, hM.2.2.2.1⟩
  have hX : XW p l e ({ frames := cF id, cells := cM id, slots := cS id, locals := cO id } : Room) s m as.toArray below meth c G (fun _ _ => none) (S as M).2.1 (S as M).2.2 := by
    intro pc ex M' H locs nc ns ls st q ce g1 g2 g3 g4 g5 g6 g7 g8
    exact vx_out (fun x hx => (hout x hx).elim) B.notSynchronized g5 g6 g7 (fun t ht _ => ⟨ex, M', rfl, g8, by rw [ht]; exact g1⟩) g2 g3 g4
  rw [lg_entry_eq]
  exact run_sound (fr := cF id) (lo := cO id) C rfl rfl (fun h => (name_of_methodNamed B.named B.method).1.trans (of_decide_eq_true h)) (fun _ x hx => hout x hx) hE hX hok 0 _ _ _ _ _ h2 _ _ _ hM (fun _ h => by cases h) (ent_LR as h1) (Nat.zero_le _) (Nat.zero_le _)
end SAT
/-! == what the rows of the abstract machine say, one by one == -/
/-- a throw behind a call -/
def hnd (HX : Nat → Nat → Option Nat) (J : Jt) (X : Nat → Mm → Prop) (pc : Nat) (L : List Slot) (e : Nat) (M' : Mm) (n1 n2 : Nat) : Prop := match HX pc e with
  | none => X e M'
  | some h => ∀ q, J h L [.ref q] M' n1 n2
theorem hnd_0 (J : Jt) (X : Nat → Mm → Prop) (pc : Nat) (L : List Slot) (e : Nat) (M' : Mm) (n1 n2 : Nat) : hnd (fun _ _ => none) J X pc L e M' n1 n2 = X e M' := rfl
section ROWS
variable (sa : Nat → Nat) (E : Nat → Sem) (MC MS : Nat) (HX : Nat → Nat → Option Nat) (J : Jt) (Q : Option Value → Mm → Prop) (X : Nat → Mm → Prop) (pc a b c d : Nat) (tl : List Nat) (cv : Value) (k : Kt) (L : List Slot) (st : List Value) (M : Mm) (nc ns : Nat)
theorem bk_c (i : Instr) (len op : Nat) (is : List Item) : bk sa E MC MS HX J Q X ((pc, i, len, op, a, b, c, d, tl, cv) :: is) L st M nc ns = st1 sa E MC MS HX J Q X pc op a b c d tl cv (bk sa E MC MS HX J Q X is) L st M nc ns := rfl
theorem st1_0 : st1 sa E MC MS HX J Q X pc 0 a b c d tl cv k L st M nc ns = (k L (cv :: st) M nc ns) := rfl
theorem st1_1 : st1 sa E MC MS HX J Q X pc 1 a b c d tl cv k L st M nc ns = (vi (ldS L a) fun x => k L (.int x :: st) M nc ns) := rfl
theorem st1_2 : st1 sa E MC MS HX J Q X pc 2 a b c d tl cv k L st M nc ns = (vl (ldS L a) fun x => k L (.long x :: st) M nc ns) := rfl
theorem st1_3 : st1 sa E MC MS HX J Q X pc 3 a b c d tl cv k L st M nc ns = (vr (ldS L a) fun x => k L (.ref x :: st) M nc ns) := rfl
theorem st1_4 : st1 sa E MC MS HX J Q X pc 4 a b c d tl cv k L st M nc ns = (wi st fun x r => k (stS L a (.int x)) r M nc ns) := rfl
theorem st1_5 : st1 sa E MC MS HX J Q X pc 5 a b c d tl cv k L st M nc ns = (wr st fun x r => k (stS L a (.ref x)) r M nc ns) := rfl
theorem st1_6 : st1 sa E MC MS HX J Q X pc 6 a b c d tl cv k L st M nc ns = (wl st fun x r => k (stL L a (.long x)) r M nc ns) := rfl
theorem st1_7 : st1 sa E MC MS HX J Q X pc 7 a b c d tl cv k L st M nc ns = (vi (ldS L a) fun x => wi [cv] fun n _ => k (stS L a (.int (x + n))) st M nc ns) := rfl
theorem st1_8 : st1 sa E MC MS HX J Q X pc 8 a b c d tl cv k L st M nc ns = (wi st fun y r => wi r fun x r => k L (.int (bin b x y) :: r) M nc ns) := rfl
theorem st1_9 : st1 sa E MC MS HX J Q X pc 9 a b c d tl cv k L st M nc ns = (wi st fun y r => wi r fun x r => ¬ y = 0 ∧ k L (.int (bdv b x y) :: r) M nc ns) := rfl
theorem st1_10 : st1 sa E MC MS HX J Q X pc 10 a b c d tl cv k L st M nc ns = (wl st fun y r => wl r fun x r => k L (.long (lbin b x y) :: r) M nc ns) := rfl
theorem st1_11 : st1 sa E MC MS HX J Q X pc 11 a b c d tl cv k L st M nc ns = (wl st fun y r => wl r fun x r => ¬ y = 0 ∧ k L (.long (x / y) :: r) M nc ns) := rfl
theorem st1_12 : st1 sa E MC MS HX J Q X pc 12 a b c d tl cv k L st M nc ns = (wi st fun x r => k L (.long x.toInt64 :: r) M nc ns) := rfl
theorem st1_13 : st1 sa E MC MS HX J Q X pc 13 a b c d tl cv k L st M nc ns = (wl st fun x r => k L (.int x.toInt32 :: r) M nc ns) := rfl
theorem st1_14 : st1 sa E MC MS HX J Q X pc 14 a b c d tl cv k L st M nc ns = (wi st fun x r => k L (.int x.toInt8.toInt32 :: r) M nc ns) := rfl
theorem st1_15 : st1 sa E MC MS HX J Q X pc 15 a b c d tl cv k L st M nc ns = (wl st fun y r => wl r fun x r => k L (.int (lg_cmp x y) :: r) M nc ns) := rfl
theorem st1_16 : st1 sa E MC MS HX J Q X pc 16 a b c d tl cv k L st M nc ns = (w1 st fun v r => k L (v :: v :: r) M nc ns) := rfl
theorem st1_17 : st1 sa E MC MS HX J Q X pc 17 a b c d tl cv k L st M nc ns = (w1 st fun v r => w1 r fun w r => k L (v :: w :: v :: w :: r) M nc ns) := rfl
theorem st1_18 : st1 sa E MC MS HX J Q X pc 18 a b c d tl cv k L st M nc ns = (wl st fun v r => k L (.long v :: .long v :: r) M nc ns) := rfl
theorem st1_19 : st1 sa E MC MS HX J Q X pc 19 a b c d tl cv k L st M nc ns = (w1 st fun _ r => k L r M nc ns) := rfl
theorem st1_20 : st1 sa E MC MS HX J Q X pc 20 a b c d tl cv k L st M nc ns = (wi st fun x r => (cnd b x 0 → J a L r M nc ns) ∧ (¬ cnd b x 0 → k L r M nc ns)) := rfl
theorem st1_21 : st1 sa E MC MS HX J Q X pc 21 a b c d tl cv k L st M nc ns = (wi st fun y r => wi r fun x r => (cnd b x y → J a L r M nc ns) ∧ (¬ cnd b x y → k L r M nc ns)) := rfl
theorem st1_22 : st1 sa E MC MS HX J Q X pc 22 a b c d tl cv k L st M nc ns = (J a L st M nc ns) := rfl
theorem st1_23 : st1 sa E MC MS HX J Q X pc 23 a b c d tl cv k L st M nc ns = (wi st fun x r => wi [cv] fun lo _ => (x.toInt < lo.toInt ∨ lo.toInt + tl.length ≤ x.toInt → J a L r M nc ns) ∧ swt (fun t => J t L r M nc ns) x tl lo.toInt) := rfl
theorem st1_24 : st1 sa E MC MS HX J Q X pc 24 a b c d tl cv k L st M nc ns = (wr st fun q r => gK M q = kO a ∧ k L (.int (gI M q b) :: r) M nc ns) := rfl
theorem st1_25 : st1 sa E MC MS HX J Q X pc 25 a b c d tl cv k L st M nc ns = (wr st fun q r => gK M q = kO a ∧ k L (.long (gJ M q b) :: r) M nc ns) := rfl
theorem st1_26 : st1 sa E MC MS HX J Q X pc 26 a b c d tl cv k L st M nc ns = (wr st fun q r => gK M q = kO a ∧ gP M q b ≠ 0 ∧ k L (.ref (gP M q b) :: r) M nc ns) := rfl
theorem st1_27 : st1 sa E MC MS HX J Q X pc 27 a b c d tl cv k L st M nc ns = (wi st fun x r => wr r fun q r => gK M q = kO a ∧ k L r (sI M q (upd (gI M q) b x)) nc ns) := rfl
theorem st1_28 : st1 sa E MC MS HX J Q X pc 28 a b c d tl cv k L st M nc ns = (wl st fun x r => wr r fun q r => gK M q = kO a ∧ k L r (sJ M q (vp_updL (gJ M q) b x)) nc ns) := rfl
theorem st1_29 : st1 sa E MC MS HX J Q X pc 29 a b c d tl cv k L st M nc ns = (wr st fun x r => wr r fun q r => gK M q = kO a ∧ x ≠ 0 ∧ k L r (sP M q (upN (gP M q) b x)) nc ns) := rfl
theorem st1_30 : st1 sa E MC MS HX J Q X pc 30 a b c d tl cv k L st M nc ns = (wi st fun x r => wr r fun q r => gK M q = kO a ∧ vp_nar .boolean x = x ∧ k L r (sI M q (upd (gI M q) b x)) nc ns) := rfl
theorem st1_31 : st1 sa E MC MS HX J Q X pc 31 a b c d tl cv k L st M nc ns = (wi st fun i r => wr r fun q r => inB (gK M q) (aty a) i ∧ k L (.int (gI M q i.toNatClampNeg) :: r) M nc ns) := rfl
theorem st1_32 : st1 sa E MC MS HX J Q X pc 32 a b c d tl cv k L st M nc ns = (wi st fun i r => wr r fun q r => inB (gK M q) .long i ∧ k L (.long (gJ M q i.toNatClampNeg) :: r) M nc ns) := rfl
theorem st1_33 : st1 sa E MC MS HX J Q X pc 33 a b c d tl cv k L st M nc ns = (wi st fun i r => wr r fun q r => inB (gK M q) (aty a) i ∧ gP M q i.toNatClampNeg ≠ 0 ∧ k L (.ref (gP M q i.toNatClampNeg) :: r) M nc ns) := rfl
theorem st1_34 : st1 sa E MC MS HX J Q X pc 34 a b c d tl cv k L st M nc ns = (wi st fun i r => wr r fun q r => inR (gK M q) i ∧ k L (.int (gI M q i.toNatClampNeg) :: r) M nc ns) := rfl
theorem st1_35 : st1 sa E MC MS HX J Q X pc 35 a b c d tl cv k L st M nc ns = (wi st fun x r => wi r fun i r => wr r fun q r => inB (gK M q) (aty a) i ∧ k L r (sI M q (upd (gI M q) i.toNatClampNeg (vp_nar (aty a) x))) nc ns) := rfl
theorem st1_36 : st1 sa E MC MS HX J Q X pc 36 a b c d tl cv k L st M nc ns = (wl st fun x r => wi r fun i r => wr r fun q r => inB (gK M q) .long i ∧ k L r (sJ M q (vp_updL (gJ M q) i.toNatClampNeg x)) nc ns) := rfl
theorem st1_37 : st1 sa E MC MS HX J Q X pc 37 a b c d tl cv k L st M nc ns = (wr st fun x r => wi r fun i r => wr r fun q r => inB (gK M q) (.object "IrrigationTurns$State") i ∧ gK M x = kO 8 ∧ k L r (sP M q (upN (gP M q) i.toNatClampNeg x)) nc ns) := rfl
theorem st1_42 : st1 sa E MC MS HX J Q X pc 42 a b c d tl cv k L st M nc ns = (wr st fun q r => kLen (gK M q) fun n => k L (.int n :: r) M nc ns) := rfl
theorem st1_43 : st1 sa E MC MS HX J Q X pc 43 a b c d tl cv k L st M nc ns = (nc + 1 ≤ MC ∧ ns + b ≤ MS ∧ k L (.ref (gZ M) :: st) (nO M (kO a)) (nc + 1) (ns + b)) := rfl
theorem st1_44 : st1 sa E MC MS HX J Q X pc 44 a b c d tl cv k L st M nc ns = (wi st fun n r => ¬ n < 0 ∧ n.toNatClampNeg * 8 ≤ 536870912 ∧ nc + 1 ≤ MC ∧ ns + n.toNatClampNeg ≤ MS ∧ k L (.ref (gZ M) :: r) (nO M (kA (aty a) n.toNatClampNeg)) (nc + 1) (ns + n.toNatClampNeg)) := rfl
theorem st1_46 : st1 sa E MC MS HX J Q X pc 46 a b c d tl cv k L st M nc ns = (wi st fun j r => wi r fun n r => ¬ n < 0 ∧ ¬ j < 0 ∧ n.toNatClampNeg * 4 ≤ 536870912 ∧ j.toNatClampNeg * 4 ≤ 536870912 ∧ nc + (1 + n.toNatClampNeg) ≤ MC ∧ ns + (n.toNatClampNeg + n.toNatClampNeg * j.toNatClampNeg) ≤ MS ∧ k L (.ref (gZ M) :: r) (nMu M n.toNatClampNeg j.toNatClampNeg) (nc + (1 + n.toNatClampNeg)) (ns + (n.toNatClampNeg + n.toNatClampNeg * j.toNatClampNeg))) := rfl
theorem st1_47 : st1 sa E MC MS HX J Q X pc 47 a b c d tl cv k L st M nc ns = (wr st fun _ r => c8 r ∧ k L r M nc ns) := rfl
theorem st1_48 : st1 sa E MC MS HX J Q X pc 48 a b c d tl cv k L st M nc ns = ((st.take b).length = b ∧ c8 (st.drop b) ∧ rcv tl (st.take b).reverse M ∧ (E a (st.take b).reverse M).1 ∧ nc + c ≤ MC ∧ ns + d ≤ MS ∧ (∀ v M', (E a (st.take b).reverse M).2.1 v M' → k L (v.toList ++ st.drop b) M' (nc + c) (ns + d)) ∧ ∀ e M', (E a (st.take b).reverse M).2.2 e M' → hnd HX J X pc L e M' (nc + c) (ns + d)) := rfl
theorem st1_49 : st1 sa E MC MS HX J Q X pc 49 a b c d tl cv k L st M nc ns = (wi st fun y r => wi r fun x r => c8 r ∧ k L (.int (if y < x then y else x) :: r) M nc ns) := rfl
theorem st1_50 : st1 sa E MC MS HX J Q X pc 50 a b c d tl cv k L st M nc ns = (wi st fun y r => wi r fun x r => c8 r ∧ k L (.int (if x < y then y else x) :: r) M nc ns) := rfl
theorem st1_51 : st1 sa E MC MS HX J Q X pc 51 a b c d tl cv k L st M nc ns = (wi st fun n r => wi r fun dp r => wr r fun q1 r => wi r fun sp r => wr r fun q0 r => c8 r ∧ cpOK (gK M q0) (gK M q1) sp dp n ∧ k L r (sI M q1 (va_cpy (gI M q0) (gI M q1) sp.toNatClampNeg dp.toNatClampNeg n.toNatClampNeg)) nc ns) := rfl
theorem st1_52 : st1 sa E MC MS HX J Q X pc 52 a b c d tl cv k L st M nc ns = (k L (.ref (sa a) :: st) M nc ns) := rfl
theorem st1_53 : st1 sa E MC MS HX J Q X pc 53 a b c d tl cv k L st M nc ns = (wl st fun y r => wl r fun x r => c8 r ∧ k L (.long (if y < x then y else x) :: r) M nc ns) := rfl
theorem st1_54 : st1 sa E MC MS HX J Q X pc 54 a b c d tl cv k L st M nc ns = (wl st fun y r => wl r fun x r => c8 r ∧ k L (.long (if y < x then x else y) :: r) M nc ns) := rfl
theorem st1_55 : st1 sa E MC MS HX J Q X pc 55 a b c d tl cv k L st M nc ns = (st = [] ∧ Q none M) := rfl
theorem st1_56 : st1 sa E MC MS HX J Q X pc 56 a b c d tl cv k L st M nc ns = (wi st fun x r => r = [] ∧ Q (some (.int x)) M) := rfl
theorem st1_57 : st1 sa E MC MS HX J Q X pc 57 a b c d tl cv k L st M nc ns = (wl st fun x r => r = [] ∧ Q (some (.long x)) M) := rfl
theorem st1_58 : st1 sa E MC MS HX J Q X pc 58 a b c d tl cv k L st M nc ns = (wi st fun x r => r = [] ∧ vp_nar .boolean x = x ∧ Q (some (.int x)) M) := rfl
theorem st1_59 : st1 sa E MC MS HX J Q X pc 59 a b c d tl cv k L st M nc ns = (c8 st ∧ nc + 1 ≤ MC ∧ ns + 6 ≤ MS ∧ ∀ z, gZ M ≤ z → X a (sZ M z)) := rfl
theorem st1_60 : st1 sa E MC MS HX J Q X pc 60 a b c d tl cv k L st M nc ns = (J a L st M nc ns) := rfl
end ROWS
theorem bin_0 (x y : Int32) : bin 0 x y = x + y := rfl
theorem bin_1 (x y : Int32) : bin 1 x y = x - y := rfl
theorem bin_2 (x y : Int32) : bin 2 x y = x * y := rfl
theorem bin_3 (x y : Int32) : bin 3 x y = x &&& y := rfl
theorem bin_4 (x y : Int32) : bin 4 x y = x >>> (y &&& 31) := rfl
theorem bin_5 (x y : Int32) : bin 5 x y = (x.toUInt32 >>> (y.toUInt32 &&& Int32.toUInt32 31)).toInt32 := rfl
theorem bdv_0 (x y : Int32) : bdv 0 x y = x / y := rfl
theorem bdv_1 (x y : Int32) : bdv 1 x y = x - x / y * y := rfl
theorem lbin_0 (x y : Int64) : lbin 0 x y = x + y := rfl
theorem lbin_1 (x y : Int64) : lbin 1 x y = x - y := rfl
theorem lbin_2 (x y : Int64) : lbin 2 x y = x * y := rfl
theorem cnd_0 (x y : Int32) : cnd 0 x y = (x = y) := rfl
theorem cnd_1 (x y : Int32) : cnd 1 x y = ¬ x = y := rfl
theorem cnd_2 (x y : Int32) : cnd 2 x y = (x < y) := rfl
theorem cnd_3 (x y : Int32) : cnd 3 x y = (y ≤ x) := rfl
theorem cnd_4 (x y : Int32) : cnd 4 x y = (y < x) := rfl
theorem cnd_5 (x y : Int32) : cnd 5 x y = (x ≤ y) := rfl
theorem aty_0 : aty 0 = .int := rfl
theorem aty_1 : aty 1 = .boolean := rfl
theorem aty_2 : aty 2 = .byte := rfl
theorem aty_3 : aty 3 = .long := rfl
theorem aty_4 : aty 4 = .object "IrrigationTurns$State" := rfl
theorem aty_5 : aty 5 = .array .int := rfl
theorem c8_i (x : Int32) (r : List Value) : c8 (.int x :: r) = ((1 + (r.map fun v => v.category).sum) ≤ 8) := rfl
theorem take_0 (l : List Value) : l.take 0 = [] := List.take_zero
theorem lkp_c (p : Nat) (is : List Item) (r : Code9) (q : Nat) : lkp ((p, is) :: r) q = if q = p then is else lkp r q := rfl
/-- a run is its first stretch, and what follows -/
theorem Run_eq (sa : Nat → Nat) (E : Nat → Sem) (MC MS : Nat) (HX : Nat → Nat → Option Nat) (Q : Option Value → Mm → Prop) (X : Nat → Mm → Prop) (C : Code9) (pc : Nat) (L : List Slot) (st : List Value) (M : Mm) (nc ns : Nat) :
    Run sa E MC MS HX Q X C pc L st M nc ns = bk sa E MC MS HX (Run sa E MC MS HX Q X C) Q X (lkp C pc) L st M nc ns := by
  refine propext ⟨fun h => ?_, fun h => Run.step _ _ _ _ _ _ _ _ h⟩
  refine h (fun pc L st M nc ns => bk sa E MC MS HX (Run sa E MC MS HX Q X C) Q X (lkp C pc) L st M nc ns) (fun pc L st M nc ns w => ?_)
  exact bk_mono (fun pc L st M nc ns w => Run.step _ _ _ _ _ _ _ _ w) _ _ _ _ _ _ w
/-- few words below a call, counted -/
def cn (n : Nat) (st : List Value) : Prop := n + (st.map fun v => v.category).sum ≤ 8
theorem c8_u (st : List Value) : c8 st = cn 0 st := by unfold c8 cn; rw [Nat.zero_add]
theorem cn_0 (n : Nat) : cn n [] = (n ≤ 8) := by unfold cn; simp
theorem cn_i (n : Nat) (x : Int32) (r : List Value) : cn n (.int x :: r) = cn (n + 1) r := by unfold cn; simp [Value.category, Nat.add_assoc]
theorem cn_r (n : Nat) (x : Nat) (r : List Value) : cn n (.ref x :: r) = cn (n + 1) r := by unfold cn; simp [Value.category, Nat.add_assoc]
theorem cn_l (n : Nat) (x : Int64) (r : List Value) : cn n (.long x :: r) = cn (n + 2) r := by unfold cn; simp [Value.category, Nat.add_assoc]
theorem adz (c k : Nat) : (c + (k + 1) ≠ 0) = True := by simp
