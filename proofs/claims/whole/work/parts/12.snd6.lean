/-! ===== all instructions; blocks; runs; a method's contract ===== -/
def ck (own nL fr lo : Nat) (ret : Option FieldType) (cc : ByteArray) (ini nt : Bool) (ids : List Nat) (pc : Nat) (i : Instr) (len op a b c d : Nat) (tl : List Nat) (cv : Value) : Bool :=
  if op = 60 then a == pc else decide (decode cc pc = .ok (i, len)) && match op with
  | 0 => ckc own i len cv
  | 1 => ckil i len a
  | 2 => ckll i len a
  | 3 => ckal i len a
  | 4 => ckis i len a nL
  | 5 => ckas i len a nL
  | 6 => ckls i len a nL
  | 7 => ckinc i len a nL cv
  | 8 => ckbin i len b
  | 9 => len == 1 && ((decide (i = .idiv) && b == 0) || (decide (i = .irem) && b == 1))
  | 10 => cklbin i len b
  | 11 => len == 1 && decide (i = .ldiv)
  | 12 => len == 1 && decide (i = .i2l)
  | 13 => len == 1 && decide (i = .l2i)
  | 14 => len == 1 && decide (i = .i2b)
  | 15 => len == 1 && decide (i = .lcmp)
  | 16 => len == 1 && decide (i = .dup)
  | 17 => len == 1 && decide (i = .dup2)
  | 18 => len == 1 && decide (i = .dup2)
  | 19 => len == 1 && decide (i = .pop)
  | 20 => ckif i len pc a b
  | 21 => ckicmp i len pc a b
  | 22 => ckgo i len pc a
  | 23 => cksw i len pc a tl cv
  | 24 => ckgf own i len a b intl
  | 25 => ckgf own i len a b (fun t => decide (t = .long))
  | 26 => ckgf own i len a b refl9
  | 27 => ckpf own ini i len a b (fun t => decide (t = .int))
  | 28 => ckpf own ini i len a b (fun t => decide (t = .long))
  | 29 => ckpf own ini i len a b refl9
  | 30 => ckpf own ini i len a b (fun t => decide (t = .boolean))
  | 31 => ck1i i len (if a = 0 then .iaload else .baload) && decide (a < 3)
  | 32 => ck1i i len .laload
  | 33 => ck1i i len .aaload && decide (4 ≤ a)
  | 34 => ck1i i len .iaload
  | 35 => ck1i i len (if a = 0 then .iastore else .bastore) && decide (a < 3)
  | 36 => ck1i i len .lastore
  | 37 => ck1i i len .aastore
  | 42 => ck1i i len .arraylength
  | 43 => cknew own i len a b
  | 44 => ckna i len a || ckan own i len a
  | 46 => ckmu own i len
  | 47 => cko own i len && decide (1 ≤ fr) && decide (40 ≤ lo)
  | 48 => ckcall own fr lo ids i len a b c d tl
  | 49 => ckmm own i len minlk && decide (1 ≤ fr) && decide (40 ≤ lo)
  | 50 => ckmm own i len maxlk && decide (1 ≤ fr) && decide (40 ≤ lo)
  | 51 => ckmm own i len cplk && decide (1 ≤ fr) && decide (60 ≤ lo)
  | 52 => ckls9 own i len a
  | 53 => ckmm own i len mnllk && decide (1 ≤ fr) && decide (40 ≤ lo)
  | 54 => ckmm own i len mxllk && decide (1 ≤ fr) && decide (40 ≤ lo)
  | 55 => ck1i i len .return_ && decide (ret = none)
  | 56 => ck1i i len .ireturn && decide (ret = some .int)
  | 57 => ck1i i len .lreturn && decide (ret = some .long)
  | 58 => ck1i i len .ireturn && decide (ret = some .boolean)
  | 59 => ckth own cc pc i len a nt && decide (6 ≤ fr) && decide (89 ≤ lo)
  | _ => false
def okS (own nL fr lo : Nat) (ret : Option FieldType) (cc : ByteArray) (ini nt : Bool) (ids : List Nat) : List Item → Nat → Bool
  | [], _ => true
  | (pc, i, len, op, a, b, c, d, tl, cv) :: is, q => pc == q && ck own nL fr lo ret cc ini nt ids pc i len op a b c d tl cv && okS own nL fr lo ret cc ini nt ids is (pc + len)
def okC (own nL fr lo : Nat) (ret : Option FieldType) (cc : ByteArray) (ini nt : Bool) (ids : List Nat) (C : Code9) : Bool := C.all fun q => okS own nL fr lo ret cc ini nt ids q.2 q.1
theorem okC_at {own nL fr lo : Nat} {ret : Option FieldType} {cc : ByteArray} {ini nt : Bool} {ids : List Nat} : ∀ {C : Code9}, okC own nL fr lo ret cc ini nt ids C = true → ∀ pc, okS own nL fr lo ret cc ini nt ids (lkp C pc) pc = true
  | [], _, _ => rfl
  | (p, is) :: r, h, pc => by
    unfold okC at h
    simp only [List.all_cons, Bool.and_eq_true] at h
    unfold lkp
    by_cases e : pc = p
    · rw [if_pos e, e]
      exact h.1
    · rw [if_neg e]
      exact okC_at (C := r) h.2 pc
section SND7
variable {p : Program} {l : Launch} {e : Env} {R : Room} {s : State} {m : MethodId} {args : Array Value} {below : List Frame} {meth : Method} {c : Code} {H : Heap} {locs : List Loc}
variable {G : Gt} {own nL fr lo pc len a b : Nat} {ret : Option FieldType} {cc : ByteArray} {ini nt : Bool} {ids : List Nat} {ls : Array Slot} {i : Instr} {L : List Slot} {st : List Value} {M : Mm} {nc ns : Nat} {k : Kt} {cv : Value}
variable {E : Nat → Sem} {HX : Nat → Nat → Option Nat} {Q : Option Value → Mm → Prop} {X : Nat → Mm → Prop} {J : Jt}
/-- what a throw at pc leads to -/
def XW (p : Program) (l : Launch) (e : Env) (R : Room) (s : State) (m : MethodId) (args : Array Value) (below : List Frame) (meth : Method) (c : Code) (G : Gt) (HX : Nat → Nat → Option Nat) (Q : Option Value → Mm → Prop) (X : Nat → Mm → Prop) : Prop :=
  ∀ (pc ex : Nat) (M : Mm) (H : Heap) (locs : List Loc) (nc ns : Nat) (ls : Array Slot) (st : List Value) (q : Addr) (ce : Cell), ML G M H → lok G locs → nc ≤ R.cells → ns ≤ R.slots → H[q]? = some ce → ce.vm = .none → s.vm.findClass (xE ex) = some ce.cls →
    (match HX pc ex with
      | none => X ex M
      | some h => W p l e R s m args below meth c H locs nc ns (ZZ G below Q X args s R) (F0 m h ls [.ref q])) →
    vx_W p l e R s m args below meth c H locs nc ns (ZZ G below Q X args s R) (F0 m pc ls st) q
theorem and3 {x : Bool} {P Q : Prop} [Decidable P] [Decidable Q] (h : (x && decide P && decide Q) = true) : x = true ∧ P ∧ Q := by
  simp only [Bool.and_eq_true, decide_eq_true_eq] at h
  exact ⟨h.1.1, h.1.2, h.2⟩
set_option maxHeartbeats 4000000 in
theorem st1_sound {op c9 d8 : Nat} {tl : List Nat} (C : Cx p l G own nL ret cc s m meth c) (hF : R.frames = fr) (hO : R.locals = lo) (hini : ini = true → meth.name = "<init>") (hnt : nt = true → ∀ x ∈ c.exceptionTable.toList, False) (hE : ∀ id ∈ ids, SatM l G id (E id) ∧ calK id) (hX : XW p l e R s m args below meth c G HX Q X)
    (hck : ck own nL fr lo ret cc ini nt ids pc i len op a b c9 d8 tl cv = true) (w : st1 (gT G) E R.cells R.slots HX J Q X pc op a b c9 d8 tl cv k L st M nc ns) (hk : KW p l e R s m args below meth c G nL (ZZ G below Q X args s R) k (pc + len)) (hJ : ∀ a, KW p l e R s m args below meth c G nL (ZZ G below Q X args s R) (J a) a)
    (hM : ML G M H) (hlo : lok G locs) (hL : LR ls nL L) (hc : nc ≤ R.cells) (hs : ns ≤ R.slots) : W p l e R s m args below meth c H locs nc ns (ZZ G below Q X args s R) (F0 m pc ls st) := by
  unfold ck at hck
  by_cases h60 : op = 60
  · subst h60
    rw [if_pos rfl] at hck
    have e9 : a = pc := beq_iff_eq.mp hck
    subst e9
    exact hJ _ _ _ _ _ _ w _ _ _ hM hlo hL hc hs
  rw [if_neg h60, Bool.and_eq_true] at hck
  obtain ⟨d9, hck⟩ := hck
  replace d9 := of_decide_eq_true d9
  unfold st1 at w
  split at w
  · exact s_const C d9 hck w hk hM hlo hL hc hs
  · exact s_iload C d9 hck w hk hM hlo hL hc hs
  · exact s_lload C d9 hck w hk hM hlo hL hc hs
  · exact s_aload C d9 hck w hk hM hlo hL hc hs
  · exact s_istore C d9 hck w hk hM hlo hL hc hs
  · exact s_astore C d9 hck w hk hM hlo hL hc hs
  · exact s_lstore C d9 hck w hk hM hlo hL hc hs
  · exact s_inc C d9 hck w hk hM hlo hL hc hs
  · exact s_bin C d9 hck w hk hM hlo hL hc hs
  · exact s_div C d9 hck w hk hM hlo hL hc hs
  · exact s_lbin C d9 hck w hk hM hlo hL hc hs
  · exact s_ldiv C d9 hck w hk hM hlo hL hc hs
  · exact s_i2l C d9 hck w hk hM hlo hL hc hs
  · exact s_l2i C d9 hck w hk hM hlo hL hc hs
  · exact s_i2b C d9 hck w hk hM hlo hL hc hs
  · exact s_lcmp C d9 hck w hk hM hlo hL hc hs
  · exact s_dup C d9 hck w hk hM hlo hL hc hs
  · exact s_dup2 C d9 hck w hk hM hlo hL hc hs
  · exact s_dupl C d9 hck w hk hM hlo hL hc hs
  · exact s_pop C d9 hck w hk hM hlo hL hc hs
  · exact s_if C d9 hck w hk (hJ _) hM hlo hL hc hs
  · exact s_icmp C d9 hck w hk (hJ _) hM hlo hL hc hs
  · exact s_goto C d9 hck w (hJ _) hM hlo hL hc hs
  · exact s_sw C d9 hck w hJ hM hlo hL hc hs
  · exact s_getI C d9 hck w hk hM hlo hL hc hs
  · exact s_getJ C d9 hck w hk hM hlo hL hc hs
  · exact s_getP C d9 hck w hk hM hlo hL hc hs
  · exact s_putI C hini d9 hck w hk hM hlo hL hc hs
  · exact s_putJ C hini d9 hck w hk hM hlo hL hc hs
  · exact s_putP C hini d9 hck w hk hM hlo hL hc hs
  · exact s_putZ C hini d9 hck w hk hM hlo hL hc hs
  · exact s_iald C d9 hck w hk hM hlo hL hc hs
  · exact s_lald C d9 hck w hk hM hlo hL hc hs
  · exact s_aald C d9 hck w hk hM hlo hL hc hs
  · exact s_rald C d9 hck w hk hM hlo hL hc hs
  · exact s_iast C d9 hck w hk hM hlo hL hc hs
  · exact s_last C d9 hck w hk hM hlo hL hc hs
  · exact s_aast C d9 hck w hk hM hlo hL hc hs
  · exact s_alen C d9 hck w hk hM hlo hL hc hs
  · exact s_new C d9 hck w hk hM hlo hL hc hs
  · rcases Bool.or_eq_true _ _ |>.mp hck with g | g
    · exact s_newa C d9 g w hk hM hlo hL hc hs
    · exact s_anew C d9 g w hk hM hlo hL hc hs
  · exact s_multi C d9 hck w hk hM hlo hL hc hs
  · obtain ⟨g1, g2, g3⟩ := and3 hck
    exact s_oinit C ⟨by rw [hF]; exact g2, by rw [hO]; exact g3⟩ d9 g1 w hk hM hlo hL hc hs
  · obtain ⟨w1, w2, w3, w4, w5, w6, w7, w8⟩ := w
    have hid : a ∈ ids := by
      unfold ckcall at hck
      simp only [Bool.and_eq_true, decide_eq_true_eq] at hck
      exact hck.1.1.1.1.1.2
    obtain ⟨hl3, hr⟩ := x_call C hF hO (fun id h => (hE id h).2) d9 hck (hE a hid).1 w1 w2 rfl w3 w4 w5 w6 hM hL
    intro T hT Xs
    rcases hr T hT Xs with ⟨v, st₀, t, T', L9, h0, X', hL9, e1, e2, ⟨v', M', hv, hq, hM'⟩, go⟩ | ⟨q, st₀, t, T', L9, E9, ce, h0, X', hL9, e1, e2, ⟨ex, M', rfl, hq, hM'⟩, hce, hcv, hcl, go⟩
    · cases hv
      have hlo' : lok G (locs ++ L9) := fun z hz => (List.mem_append.mp hz).elim (hlo z) (hL9 z)
      obtain ⟨t2, a1, b1⟩ := hk _ _ _ _ _ (w7 _ _ hq) _ _ _ (by rw [e1]; exact hM') hlo' hL w5 w6 T' rfl X'
      rw [hl3] at a1
      exact ⟨t2, go t2 a1, b1⟩
    · have hlo' : lok G (locs ++ L9) := fun z hz => (List.mem_append.mp hz).elim (hlo z) (hL9 z)
      have w8' := w8 _ _ hq
      have K : vx_W p l e R s m args below meth c T'.heap (locs ++ L9) (nc + c9) (ns + d8) (ZZ G below Q X args s R) (F0 m pc ls (st.drop b)) q := by
        refine hX pc ex M' T'.heap (locs ++ L9) (nc + c9) (ns + d8) ls (st.drop b) q ce (by rw [e1]; exact hM') hlo' w5 w6 (by rw [e1]; exact hce) hcv hcl ?_
        split at w8'
        · rename_i hh
          rw [hh]
          exact w8'
        · rename_i hh
          rw [hh]
          exact hJ _ _ _ _ _ _ (w8' q) _ _ _ (by rw [e1]; exact hM') hlo' hL w5 w6
      obtain ⟨t2, a1, b1⟩ := K T' rfl X'
      exact ⟨t2, go.trans a1, b1⟩
  · obtain ⟨g1, g2, g3⟩ := and3 hck
    exact s_min C ⟨by rw [hF]; exact g2, by rw [hO]; exact g3⟩ d9 g1 w hk hM hlo hL hc hs
  · obtain ⟨g1, g2, g3⟩ := and3 hck
    exact s_max C ⟨by rw [hF]; exact g2, by rw [hO]; exact g3⟩ d9 g1 w hk hM hlo hL hc hs
  · obtain ⟨g1, g2, g3⟩ := and3 hck
    exact s_copy C ⟨by rw [hF]; exact g2, by rw [hO]; exact g3⟩ d9 g1 w hk hM hlo hL hc hs
  · exact s_ldcs C d9 hck w hk hM hlo hL hc hs
  · obtain ⟨g1, g2, g3⟩ := and3 hck
    exact s_minl C ⟨by rw [hF]; exact g2, by rw [hO]; exact g3⟩ d9 g1 w hk hM hlo hL hc hs
  · obtain ⟨g1, g2, g3⟩ := and3 hck
    exact s_maxl C ⟨by rw [hF]; exact g2, by rw [hO]; exact g3⟩ d9 g1 w hk hM hlo hL hc hs
  · exact s_ret C d9 hck w hM hlo hc hs
  · exact s_iret C d9 hck w hM hlo hc hs
  · exact s_lret C d9 hck w hM hlo hc hs
  · exact s_zret C d9 hck w hM hlo hc hs
  · obtain ⟨g1, g2, g3⟩ := and3 hck
    exact s_throw C ⟨by rw [hF]; exact g2, by rw [hO]; exact g3⟩ hnt d9 g1 w hM hlo hL
  · exact absurd rfl h60
  · exact w.elim
theorem bk_sound (C : Cx p l G own nL ret cc s m meth c) (hF : R.frames = fr) (hO : R.locals = lo) (hini : ini = true → meth.name = "<init>") (hnt : nt = true → ∀ x ∈ c.exceptionTable.toList, False) (hE : ∀ id ∈ ids, SatM l G id (E id) ∧ calK id) (hX : XW p l e R s m args below meth c G HX Q X) (hJ : ∀ a, KW p l e R s m args below meth c G nL (ZZ G below Q X args s R) (J a) a) :
    ∀ (is : List Item) (pc : Nat), okS own nL fr lo ret cc ini nt ids is pc = true → KW p l e R s m args below meth c G nL (ZZ G below Q X args s R) (bk (gT G) E R.cells R.slots HX J Q X is) pc := by
  intro is
  induction is with
  | nil => exact fun pc _ L st M nc ns w => w.elim
  | cons it is ih =>
    obtain ⟨pc, i, len, op, a, b, c9, d8, tl, cv⟩ := it
    intro q h L st M nc ns w H locs ls hM hlo hL hc hs
    unfold okS at h
    simp only [Bool.and_eq_true, beq_iff_eq] at h
    obtain ⟨⟨rfl, hck⟩, h⟩ := h
    exact st1_sound C hF hO hini hnt hE hX hck w (ih _ h) hJ hM hlo hL hc hs
theorem run_sound {K : Code9} (C : Cx p l G own nL ret cc s m meth c) (hF : R.frames = fr) (hO : R.locals = lo) (hini : ini = true → meth.name = "<init>") (hnt : nt = true → ∀ x ∈ c.exceptionTable.toList, False) (hE : ∀ id ∈ ids, SatM l G id (E id) ∧ calK id) (hX : XW p l e R s m args below meth c G HX Q X) (hok : okC own nL fr lo ret cc ini nt ids K = true) :
    ∀ pc, KW p l e R s m args below meth c G nL (ZZ G below Q X args s R) (Run (gT G) E R.cells R.slots HX Q X K pc) pc := by
  intro pc L st M nc ns w
  exact w (fun pc L st M nc ns => ∀ H locs ls, ML G M H → lok G locs → LR ls nL L → nc ≤ R.cells → ns ≤ R.slots → W p l e R s m args below meth c H locs nc ns (ZZ G below Q X args s R) (F0 m pc ls st))
    (fun pc L st M nc ns w => bk_sound (J := fun pc L st M nc ns => ∀ H locs ls, ML G M H → lok G locs → LR ls nL L → nc ≤ R.cells → ns ≤ R.slots → W p l e R s m args below meth c H locs nc ns (ZZ G below Q X args s R) (F0 m pc ls st)) C hF hO hini hnt hE hX (fun a L st M nc ns w => w) _ _ (okC_at hok pc) L st M nc ns w)
end SND7
