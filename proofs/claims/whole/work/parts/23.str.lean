/-! ===== Strings: the JDK's own length and charAt ===== -/
def kSi (k : Kd) : Nat := match k with
  | some (.inr (.inr (.inr i))) => i
  | _ => 0
theorem kSi_e (i : Nat) : kSi (kS i) = i := rfl
theorem isS_e (i : Nat) : isS (kS i) = True := rfl
theorem isS_of {k : Kd} (h : isS k) : ∃ i, k = kS i := by
  rcases kd_cases k with h1 | ⟨ci, h1⟩ | ⟨ty, n, h1⟩ | ⟨n, h1⟩ | ⟨i, h1⟩
  · rw [h1] at h; exact h.elim
  · rw [h1] at h; exact h.elim
  · rw [h1] at h; exact h.elim
  · rw [h1] at h; exact h.elim
  · exact ⟨i, h1⟩
def S900 : Sem := fun as M => match as with
  | [.ref q] => sV (isS (gK M q)) (some (.int (nI (sN.getD (kSi (gK M q)) 0)))) M
  | _ => sF
def S901 : Sem := fun as M => match as with
  | [.ref q, .int k] => sV (isS (gK M q) ∧ vp_in k (sN.getD (kSi (gK M q)) 0)) (some (.int ((sB.getD (kSi (gK M q)) []).getD k.toNatClampNeg 0))) M
  | _ => sF
def RJ0 : String := "java/lang/String"
def RJ1 : String := "java/lang/StringLatin1"
def RJ3 : String := "jdk/internal/util/Preconditions"
abbrev cJ0_length_8abf5 : ByteArray := prog_20_method_54_code
def yJ0_length_8abf5 : MethodName := ⟨RJ0, "length", "()I"⟩
abbrev cJ0_charAt_5068e : ByteArray := prog_20_method_56_code
def yJ0_charAt_5068e : MethodName := ⟨RJ0, "charAt", "(I)C"⟩
abbrev cJ0_coder_7d493 : ByteArray := prog_20_method_152_code
def yJ0_coder_7d493 : MethodName := ⟨RJ0, "coder", "()B"⟩
abbrev cJ0_isLatin1_aae02 : ByteArray := prog_20_method_154_code
def yJ0_isLatin1_aae02 : MethodName := ⟨RJ0, "isLatin1", "()Z"⟩
abbrev cJ0_checkIndex_df160 : ByteArray := prog_20_method_155_code
def yJ0_checkIndex_df160 : MethodName := ⟨RJ0, "checkIndex", "(II)V"⟩
abbrev cJ1_charAt_3b067 : ByteArray := prog_21_method_2_code
def yJ1_charAt_3b067 : MethodName := ⟨RJ1, "charAt", "([BI)C"⟩
abbrev cJ3_checkIndex_8e157 : ByteArray := prog_25_method_11_code
def yJ3_checkIndex_8e157 : MethodName := ⟨RJ3, "checkIndex", "(IILjava/util/function/BiFunction;)I"⟩
theorem dJ0_length_8abf5_0 : decode cJ0_length_8abf5 0 = .ok (.aload_n 0, 1) := by decide +kernel
theorem dJ0_length_8abf5_1 : decode cJ0_length_8abf5 1 = .ok (.getfield 9, 3) := by decide +kernel
theorem dJ0_length_8abf5_4 : decode cJ0_length_8abf5 4 = .ok (.arraylength, 1) := by decide +kernel
theorem dJ0_length_8abf5_5 : decode cJ0_length_8abf5 5 = .ok (.aload_n 0, 1) := by decide +kernel
theorem dJ0_length_8abf5_6 : decode cJ0_length_8abf5 6 = .ok (.invokevirtual 335, 3) := by decide +kernel
theorem dJ0_length_8abf5_9 : decode cJ0_length_8abf5 9 = .ok (.ishr, 1) := by decide +kernel
theorem dJ0_length_8abf5_10 : decode cJ0_length_8abf5 10 = .ok (.ireturn, 1) := by decide +kernel
theorem dJ0_charAt_5068e_0 : decode cJ0_charAt_5068e 0 = .ok (.aload_n 0, 1) := by decide +kernel
theorem dJ0_charAt_5068e_1 : decode cJ0_charAt_5068e 1 = .ok (.invokevirtual 492, 3) := by decide +kernel
theorem dJ0_charAt_5068e_4 : decode cJ0_charAt_5068e 4 = .ok (.ifCond .eq 12, 3) := by decide +kernel
theorem dJ0_charAt_5068e_7 : decode cJ0_charAt_5068e 7 = .ok (.aload_n 0, 1) := by decide +kernel
theorem dJ0_charAt_5068e_8 : decode cJ0_charAt_5068e 8 = .ok (.getfield 9, 3) := by decide +kernel
theorem dJ0_charAt_5068e_11 : decode cJ0_charAt_5068e 11 = .ok (.iload_n 1, 1) := by decide +kernel
theorem dJ0_charAt_5068e_12 : decode cJ0_charAt_5068e 12 = .ok (.invokestatic 495, 3) := by decide +kernel
theorem dJ0_charAt_5068e_15 : decode cJ0_charAt_5068e 15 = .ok (.ireturn, 1) := by decide +kernel
theorem dJ0_charAt_5068e_16 : decode cJ0_charAt_5068e 16 = .ok (.aload_n 0, 1) := by decide +kernel
theorem dJ0_charAt_5068e_17 : decode cJ0_charAt_5068e 17 = .ok (.getfield 9, 3) := by decide +kernel
theorem dJ0_charAt_5068e_20 : decode cJ0_charAt_5068e 20 = .ok (.iload_n 1, 1) := by decide +kernel
theorem dJ0_charAt_5068e_21 : decode cJ0_charAt_5068e 21 = .ok (.invokestatic 498, 3) := by decide +kernel
theorem dJ0_charAt_5068e_24 : decode cJ0_charAt_5068e 24 = .ok (.ireturn, 1) := by decide +kernel
theorem dJ0_coder_7d493_0 : decode cJ0_coder_7d493 0 = .ok (.getstatic 38, 3) := by decide +kernel
theorem dJ0_coder_7d493_3 : decode cJ0_coder_7d493 3 = .ok (.ifCond .eq 10, 3) := by decide +kernel
theorem dJ0_coder_7d493_6 : decode cJ0_coder_7d493 6 = .ok (.aload_n 0, 1) := by decide +kernel
theorem dJ0_coder_7d493_7 : decode cJ0_coder_7d493 7 = .ok (.getfield 15, 3) := by decide +kernel
theorem dJ0_coder_7d493_10 : decode cJ0_coder_7d493 10 = .ok (.goto 4, 3) := by decide +kernel
theorem dJ0_coder_7d493_13 : decode cJ0_coder_7d493 13 = .ok (.iconst 1, 1) := by decide +kernel
theorem dJ0_coder_7d493_14 : decode cJ0_coder_7d493 14 = .ok (.ireturn, 1) := by decide +kernel
theorem dJ0_isLatin1_aae02_0 : decode cJ0_isLatin1_aae02 0 = .ok (.getstatic 38, 3) := by decide +kernel
theorem dJ0_isLatin1_aae02_3 : decode cJ0_isLatin1_aae02 3 = .ok (.ifCond .eq 14, 3) := by decide +kernel
theorem dJ0_isLatin1_aae02_6 : decode cJ0_isLatin1_aae02 6 = .ok (.aload_n 0, 1) := by decide +kernel
theorem dJ0_isLatin1_aae02_7 : decode cJ0_isLatin1_aae02 7 = .ok (.getfield 15, 3) := by decide +kernel
theorem dJ0_isLatin1_aae02_10 : decode cJ0_isLatin1_aae02 10 = .ok (.ifCond .ne 7, 3) := by decide +kernel
theorem dJ0_isLatin1_aae02_13 : decode cJ0_isLatin1_aae02 13 = .ok (.iconst 1, 1) := by decide +kernel
theorem dJ0_isLatin1_aae02_14 : decode cJ0_isLatin1_aae02 14 = .ok (.goto 4, 3) := by decide +kernel
theorem dJ0_isLatin1_aae02_17 : decode cJ0_isLatin1_aae02 17 = .ok (.iconst 0, 1) := by decide +kernel
theorem dJ0_isLatin1_aae02_18 : decode cJ0_isLatin1_aae02 18 = .ok (.ireturn, 1) := by decide +kernel
theorem dJ0_checkIndex_df160_0 : decode cJ0_checkIndex_df160 0 = .ok (.iload_n 0, 1) := by decide +kernel
theorem dJ0_checkIndex_df160_1 : decode cJ0_checkIndex_df160 1 = .ok (.iload_n 1, 1) := by decide +kernel
theorem dJ0_checkIndex_df160_2 : decode cJ0_checkIndex_df160 2 = .ok (.getstatic 1053, 3) := by decide +kernel
theorem dJ0_checkIndex_df160_5 : decode cJ0_checkIndex_df160 5 = .ok (.invokestatic 1059, 3) := by decide +kernel
theorem dJ0_checkIndex_df160_8 : decode cJ0_checkIndex_df160 8 = .ok (.pop, 1) := by decide +kernel
theorem dJ0_checkIndex_df160_9 : decode cJ0_checkIndex_df160 9 = .ok (.return_, 1) := by decide +kernel
theorem dJ1_charAt_3b067_0 : decode cJ1_charAt_3b067 0 = .ok (.iload_n 1, 1) := by decide +kernel
theorem dJ1_charAt_3b067_1 : decode cJ1_charAt_3b067 1 = .ok (.aload_n 0, 1) := by decide +kernel
theorem dJ1_charAt_3b067_2 : decode cJ1_charAt_3b067 2 = .ok (.arraylength, 1) := by decide +kernel
theorem dJ1_charAt_3b067_3 : decode cJ1_charAt_3b067 3 = .ok (.invokestatic 9, 3) := by decide +kernel
theorem dJ1_charAt_3b067_6 : decode cJ1_charAt_3b067 6 = .ok (.aload_n 0, 1) := by decide +kernel
theorem dJ1_charAt_3b067_7 : decode cJ1_charAt_3b067 7 = .ok (.iload_n 1, 1) := by decide +kernel
theorem dJ1_charAt_3b067_8 : decode cJ1_charAt_3b067 8 = .ok (.baload, 1) := by decide +kernel
theorem dJ1_charAt_3b067_9 : decode cJ1_charAt_3b067 9 = .ok (.sipush 255, 3) := by decide +kernel
theorem dJ1_charAt_3b067_12 : decode cJ1_charAt_3b067 12 = .ok (.iand, 1) := by decide +kernel
theorem dJ1_charAt_3b067_13 : decode cJ1_charAt_3b067 13 = .ok (.i2c, 1) := by decide +kernel
theorem dJ1_charAt_3b067_14 : decode cJ1_charAt_3b067 14 = .ok (.ireturn, 1) := by decide +kernel
theorem dJ3_checkIndex_8e157_0 : decode cJ3_checkIndex_8e157 0 = .ok (.iload_n 0, 1) := by decide +kernel
theorem dJ3_checkIndex_8e157_1 : decode cJ3_checkIndex_8e157 1 = .ok (.ifCond .lt 8, 3) := by decide +kernel
theorem dJ3_checkIndex_8e157_4 : decode cJ3_checkIndex_8e157 4 = .ok (.iload_n 0, 1) := by decide +kernel
theorem dJ3_checkIndex_8e157_5 : decode cJ3_checkIndex_8e157 5 = .ok (.iload_n 1, 1) := by decide +kernel
theorem dJ3_checkIndex_8e157_6 : decode cJ3_checkIndex_8e157 6 = .ok (.if_icmp .lt 10, 3) := by decide +kernel
theorem dJ3_checkIndex_8e157_9 : decode cJ3_checkIndex_8e157 9 = .ok (.aload_n 2, 1) := by decide +kernel
theorem dJ3_checkIndex_8e157_10 : decode cJ3_checkIndex_8e157 10 = .ok (.iload_n 0, 1) := by decide +kernel
theorem dJ3_checkIndex_8e157_11 : decode cJ3_checkIndex_8e157 11 = .ok (.iload_n 1, 1) := by decide +kernel
theorem dJ3_checkIndex_8e157_12 : decode cJ3_checkIndex_8e157 12 = .ok (.invokestatic 95, 3) := by decide +kernel
theorem dJ3_checkIndex_8e157_15 : decode cJ3_checkIndex_8e157 15 = .ok (.athrow, 1) := by decide +kernel
theorem dJ3_checkIndex_8e157_16 : decode cJ3_checkIndex_8e157 16 = .ok (.iload_n 0, 1) := by decide +kernel
theorem dJ3_checkIndex_8e157_17 : decode cJ3_checkIndex_8e157 17 = .ok (.ireturn, 1) := by decide +kernel
def JMet (l : Launch) (G : Gt) (y : MethodName) (cc : ByteArray) (nL : Nat) (ret : Option FieldType) (fr lo : Nat) (as : List Value) (M : Mm) (v : Option Value) : Prop :=
  vx_Met l y [.code y cc nL ret] { frames := fr, cells := 0, slots := 0, locals := lo } (Pcx G as M) (Qcx G (fun v' M' => v' = v ∧ M' = M)) (XCx G (fun _ _ => False)) 0 0 (fre G)
def JC (p : Program) (G : Gt) (own : String) (nL : Nat) (ret : Option FieldType) (cc : ByteArray) (s : State) (m : MethodId) (meth : Method) (c : Code) (M : Mm) : Prop :=
  p.tables.exec = Jvm.exec ∧ c.code = cc ∧ c.maxLocals = nL ∧ s.vm.findClass own = some m.cls ∧ Wd G s ∧ meth.sig.returnType = ret ∧ meth.locks = false ∧ ML G M s.heap
theorem jmet_of {l : Launch} {G : Gt} {y : MethodName} {cc : ByteArray} {nL : Nat} {ret : Option FieldType} {fr lo : Nat} {as : List Value} {M : Mm} {v : Option Value} (hy : plainName y.cls = true)
    (body : ∀ (p : Program) (e : Env) (s : State) (m : MethodId) (args : Array Value) (below : List Frame) (meth : Method) (c : Code), JC p G y.cls nL ret cc s m meth c M → W p l e { frames := fr, cells := 0, slots := 0, locals := lo } s m args below meth c s.heap [] 0 0 (ZZ G below (fun v' M' => v' = v ∧ M' = M) (fun _ _ => False) args s { frames := fr, cells := 0, slots := 0, locals := lo }) (F0 m 0 (ent as nL).toArray [])) : JMet l G y cc nL ret fr lo as M v := by
  refine vx_ofW (cc := cc) (maxL := nL) (ret := ret) hy rfl ?_
  intro p e s m args below meth c s₁ B hml hout hv
  obtain ⟨rfl, hWd, hM⟩ := hv
  rw [lg_entry_eq]
  exact body p e s m _ below meth c ⟨B.exec, B.bytes, hml, findClass_of_methodNamed B.named, hWd, B.returns, B.notSynchronized, hM⟩
theorem j_S {G : Gt} {M : Mm} {H0 H : Heap} {locs : List Loc} (h0 : ML G M H0) (hM : ML G M H) (hlo : lok G locs) : va_S (fun q => (gHb G).size ≤ q) H0 H locs :=
  ⟨by rw [h0.1, hM.1]; exact Nat.le_refl _, fun q hq hn => by have h := Nat.not_le.mp hn; rw [hM.2.2.2.1 q h, h0.2.2.2.1 q h], hlo⟩
section JD
variable {p : Program} {l : Launch} {e : Env} {R : Room} {s : State} {m : MethodId} {args : Array Value} {below : List Frame} {meth : Method} {c : Code} {H : Heap} {locs : List Loc} {Z : State → Prop}
variable {G : Gt} {own : String} {nL pc : Nat} {ret : Option FieldType} {cc : ByteArray} {ls : Array Slot} {M M0 : Mm} {nc ns : Nat}
theorem j_zret {ty : FieldType} {x : Int32} {v : Option Value} (C : JC p G own nL (some ty) cc s m meth c M) (hR : R.cells = 0 ∧ R.slots = 0) (hn : narrow ty (.int x) = .int x) (hv : v = some (.int x)) (d : decode cc pc = .ok (.ireturn, 1)) (hM : ML G M H) (hlo : lok G locs) :
    W p l e R s m args below meth c H locs 0 0 (ZZ G below (fun v' M' => v' = v ∧ M' = M) (fun _ _ => False) args s R) (F0 m pc ls [.int x]) := by
  obtain ⟨hx, hb, hml, hown, hW, hr, hlk, -⟩ := C
  refine W.widen (Nat.zero_le _) (Nat.zero_le _) (vx_ret (W.zret hx hb hr hn (fun t ht hW9 => ⟨_, M, rfl, ⟨hv.symm, rfl⟩, by rw [ht]; exact hM⟩) hlo d hlk))
theorem j_vret {v : Option Value} (C : JC p G own nL none cc s m meth c M) (hv : v = none) (d : decode cc pc = .ok (.return_, 1)) (hM : ML G M H) (hlo : lok G locs) :
    W p l e R s m args below meth c H locs 0 0 (ZZ G below (fun v' M' => v' = v ∧ M' = M) (fun _ _ => False) args s R) (F0 m pc ls []) := by
  obtain ⟨hx, hb, hml, hown, hW, hr, hlk, -⟩ := C
  refine W.widen (Nat.zero_le _) (Nat.zero_le _) (vx_ret (W.vret hx hb hr (fun t ht hW9 => ⟨none, M, rfl, ⟨hv.symm, rfl⟩, by rw [ht]; exact hM⟩) hlo d hlk))
/-- behind a call that changes nothing -/
theorem j_after {as rest : List Value} {st : List Value} {v : Option Value} (hr : vx_Run p l e R s m args below meth c H locs 0 0 0 0 (F0 m pc ls st) rest (Qcx G (fun v' M' => v' = v ∧ M' = M) as.toArray) (XCx G (fun _ _ => False)) (fre G)) (hlo : lok G locs)
    (kk : ∀ (H1 : Heap) (locs1 : List Loc), ML G M H1 → lok G locs1 → W p l e R s m args below meth c H1 locs1 0 0 Z (F0 m (pc + 3) ls (v.toList ++ rest))) : W p l e R s m args below meth c H locs 0 0 Z (F0 m pc ls st) := by
  intro T hT Xs
  rcases hr T hT Xs with ⟨w, st₀, t, T', L9, h0, X', hL9, e1, e2, ⟨v', M', hv, ⟨rfl, rfl⟩, hM'⟩, go⟩ | ⟨q, st₀, t, T', L9, E9, ce, h0, X', hL9, e1, e2, ⟨ex, M', -, hq, -⟩, -⟩
  · cases hv
    obtain ⟨t2, a1, b1⟩ := kk _ _ (by rw [e1]; exact hM') (fun z hz => (List.mem_append.mp hz).elim (hlo z) (hL9 z)) T' rfl X'
    exact ⟨t2, go t2 a1, b1⟩
  · exact hq.elim
theorem j_static {y : MethodName} {cy : ByteArray} {mL fr lo n ix : Nat} {rt : Option FieldType} {as rest : List Value} {v : Option Value} (C : JC p G own nL ret cc s m meth c M) (hMet : JMet l G y cy mL rt fr lo as M v) (hal : as.length = n) (hlk : Cond.methodLink own ix y ∈ TT) (hst : Cond.static y ∈ TT) (hin : Cond.initialized y.cls ∈ TT) (hcd : Cond.code y cy mL rt ∈ TT)
    (hmh : y.cls ≠ "java/lang/invoke/MethodHandle" ∧ y.cls ≠ "java/lang/invoke/VarHandle" ∧ (parseMethodDescriptor y.desc).map (fun d => d.parameters.length) = some n) (hR : fr + 1 ≤ R.frames ∧ 8 + (mL + 11) + lo ≤ R.locals) (d : decode cc pc = .ok (.invokestatic ix, 3)) (h8 : (rest.map fun v => v.category).sum ≤ 8) (hsz : ls.size = nL) (hM : ML G M H) (hlo : lok G locs)
    (kk : ∀ (H1 : Heap) (locs1 : List Loc), ML G M H1 → lok G locs1 → W p l e R s m args below meth c H1 locs1 0 0 Z (F0 m (pc + 3) ls (v.toList ++ rest))) : W p l e R s m args below meth c H locs 0 0 Z (F0 m pc ls (as.reverse ++ rest)) := by
  have hW := C.2.2.2.2.1
  have hts : ∀ w ∈ TT, w.before args s = true := fun w hw => hW.1 w hw args
  have hfix : CallFix p m c cc nL s args TT own := ⟨C.1, C.2.1, C.2.2.1, C.2.2.2.1, hts⟩
  have hPc : ∀ U : State, U.heap = H → s.WarmedH U.vm → Pcx G as M as.toArray U := fun U hU hw => ⟨rfl, hW.warm hw, by rw [hU]; exact hM⟩
  refine j_after (as := as) (rest := rest) (vx_runS hfix hMet (va_cwS n hts (goodIn_l (fun w hw => ?_)) rfl rfl rfl hmh hR) ⟨Pcx.blind G _ M, hPc⟩ rfl hal hsz rfl (lv_room h8) d ⟨Nat.zero_le _, Nat.zero_le _⟩) hlo kk
  unfold va_wsS at hw
  simp only [List.mem_append, List.mem_cons, List.not_mem_nil, or_false] at hw
  rcases hw with (rfl | rfl | rfl) | rfl
  · exact ⟨hlk, rfl⟩
  · exact ⟨hst, rfl⟩
  · exact ⟨hin, rfl⟩
  · exact ⟨hcd, rfl⟩
theorem j_virtual {y : MethodName} {cy : ByteArray} {mL fr lo n ix q : Nat} {rt : Option FieldType} {As rest : List Value} {v : Option Value} (C : JC p G own nL ret cc s m meth c M) (hMet : JMet l G y cy mL rt fr lo (.ref q :: As) M v) (hal : As.length = n) (hlk : Cond.methodLink own ix y ∈ TT) (hst : Cond.instanceMethod y ∈ TT) (hse : Cond.selects y.cls y y ∈ TT) (hin : Cond.initialized y.cls ∈ TT) (hcd : Cond.code y cy mL rt ∈ TT)
    (hmh : y.cls ≠ "java/lang/invoke/MethodHandle" ∧ y.cls ≠ "java/lang/invoke/VarHandle" ∧ (parseMethodDescriptor y.desc).map (fun d => d.parameters.length) = some n) (hR : fr + 1 ≤ R.frames ∧ 8 + (mL + 11) + lo ≤ R.locals) (d : decode cc pc = .ok (.invokevirtual ix, 3)) (h8 : (rest.map fun v => v.category).sum ≤ 8) (hsz : ls.size = nL) (hM : ML G M H) (hlo : lok G locs)
    (hcell : ∃ cell : Cell, H[q]? = some cell ∧ cell.vm.isStatics = false ∧ s.vm.findClass y.cls = some cell.cls)
    (kk : ∀ (H1 : Heap) (locs1 : List Loc), ML G M H1 → lok G locs1 → W p l e R s m args below meth c H1 locs1 0 0 Z (F0 m (pc + 3) ls (v.toList ++ rest))) : W p l e R s m args below meth c H locs 0 0 Z (F0 m pc ls (As.reverse ++ .ref q :: rest)) := by
  have hW := C.2.2.2.2.1
  have hts : ∀ w ∈ TT, w.before args s = true := fun w hw => hW.1 w hw args
  have hfix : CallFix p m c cc nL s args TT own := ⟨C.1, C.2.1, C.2.2.1, C.2.2.2.1, hts⟩
  have hPc : ∀ U : State, U.heap = H → s.WarmedH U.vm → Pcx G (.ref q :: As) M (Value.ref q :: As).toArray U := fun U hU hw => ⟨rfl, hW.warm hw, by rw [hU]; exact hM⟩
  refine j_after (as := .ref q :: As) (rest := rest) (vx_runV (C := y.cls) hfix hMet (cwV n hts (goodIn_l (fun w hw => ?_)) rfl rfl rfl ⟨rfl, hmh⟩ hR) ⟨Pcx.blind G _ M, hcell, hPc⟩ rfl hal hsz rfl (lv_room h8) d ⟨Nat.zero_le _, Nat.zero_le _⟩) hlo kk
  unfold wsV at hw
  simp only [List.mem_append, List.mem_cons, List.not_mem_nil, or_false] at hw
  rcases hw with (rfl | rfl | rfl | rfl) | rfl
  · exact ⟨hlk, rfl⟩
  · exact ⟨hst, rfl⟩
  · exact ⟨hse, rfl⟩
  · exact ⟨hin, rfl⟩
  · exact ⟨hcd, rfl⟩
end JD
theorem ent_z (as : List Value) {n : Nat} (h : (lg_sl as).length ≤ n) : (ent as n).toArray.size = n := (ent_LR as h).2.1
section JM
variable {l : Launch} {G : Gt} {M : Mm}
theorem j_coder (i : Nat) (hi : i < 10) : JMet l G yJ0_coder_7d493 cJ0_coder_7d493 1 (some .byte) 1 40 [.ref (gT G i)] M (some (.int 0)) := by
  refine jmet_of (by decide) fun p e s m args below meth c C => ?_
  have C9 := C
  obtain ⟨hx, hb, hml, hown, hW, hr, hlk, hM⟩ := C
  have hts : ∀ w ∈ TT, w.before args s = true := fun w hw => hW.1 w hw args
  have hS := j_S hM hM (locs := []) (fun _ h => by cases h)
  have hk : ∀ a : Nat, a < (gHb G).size → ¬ (gHb G).size ≤ a → s.heap[a]? = (gHb G)[a]? := fun a ha _ => hM.2.2.2.1 a ha
  have hZ := hW.2.2.2.2.2.2.2.1.1.kept hk
  obtain ⟨o1, o2, o3, o4⟩ := (hW.2.2.2.2.2.2.1.kept hk).1 i hi
  refine va_gets hx hb hZ hS hown (hts (Cond.fieldLink RJ0 38 "java/lang/String" "COMPACT_STRINGS" "Z") (List.mem_filter.mpr ⟨by decide +kernel, rfl⟩)) (fun _ h => h) dJ0_coder_7d493_0 ?_
  refine lv_if_eq (tgt := 13) hx hb dJ0_coder_7d493_3 (by decide) (fun h => absurd h (by decide)) (fun _ => ?_)
  refine lv_aload_n (i := 0) hx hb dJ0_coder_7d493_6 rfl rfl ?_
  refine vk_getf hx hb o2 hS hown (hts (Cond.fieldLink RJ0 15 "java/lang/String" "coder" "B") (List.mem_filter.mpr ⟨by decide +kernel, rfl⟩)) (fun _ h => h) dJ0_coder_7d493_7 ?_
  refine lv_goto (tgt := 14) hx hb dJ0_coder_7d493_10 (by decide) ?_
  exact j_zret C9 ⟨rfl, rfl⟩ rfl rfl dJ0_coder_7d493_14 hM (fun _ h => by cases h)
theorem j_isLatin1 (i : Nat) (hi : i < 10) : JMet l G yJ0_isLatin1_aae02 cJ0_isLatin1_aae02 1 (some .boolean) 1 40 [.ref (gT G i)] M (some (.int 1)) := by
  refine jmet_of (by decide) fun p e s m args below meth c C => ?_
  have C9 := C
  obtain ⟨hx, hb, hml, hown, hW, hr, hlk, hM⟩ := C
  have hts : ∀ w ∈ TT, w.before args s = true := fun w hw => hW.1 w hw args
  have hS := j_S hM hM (locs := []) (fun _ h => by cases h)
  have hk : ∀ a : Nat, a < (gHb G).size → ¬ (gHb G).size ≤ a → s.heap[a]? = (gHb G)[a]? := fun a ha _ => hM.2.2.2.1 a ha
  have hZ := hW.2.2.2.2.2.2.2.1.1.kept hk
  obtain ⟨o1, o2, o3, o4⟩ := (hW.2.2.2.2.2.2.1.kept hk).1 i hi
  refine va_gets hx hb hZ hS hown (hts (Cond.fieldLink RJ0 38 "java/lang/String" "COMPACT_STRINGS" "Z") (List.mem_filter.mpr ⟨by decide +kernel, rfl⟩)) (fun _ h => h) dJ0_isLatin1_aae02_0 ?_
  refine lv_if_eq (tgt := 17) hx hb dJ0_isLatin1_aae02_3 (by decide) (fun h => absurd h (by decide)) (fun _ => ?_)
  refine lv_aload_n (i := 0) hx hb dJ0_isLatin1_aae02_6 rfl rfl ?_
  refine vk_getf hx hb o2 hS hown (hts (Cond.fieldLink RJ0 15 "java/lang/String" "coder" "B") (List.mem_filter.mpr ⟨by decide +kernel, rfl⟩)) (fun _ h => h) dJ0_isLatin1_aae02_7 ?_
  refine lv_if_ne (tgt := 17) hx hb dJ0_isLatin1_aae02_10 (by decide) (fun h => absurd rfl h) (fun _ => ?_)
  refine lv_iconst hx hb dJ0_isLatin1_aae02_13 rfl ?_
  refine lv_goto (tgt := 18) hx hb dJ0_isLatin1_aae02_14 (by decide) ?_
  exact j_zret C9 ⟨rfl, rfl⟩ rfl rfl dJ0_isLatin1_aae02_18 hM (fun _ h => by cases h)
theorem j_pcheck (i n : Int32) (v : Value) (hv : lg_sl [.int i, .int n, v] = [.val (.int i), .val (.int n), .val v]) (h0 : ¬ i < 0) (h1 : i < n) : JMet l G yJ3_checkIndex_8e157 cJ3_checkIndex_8e157 3 (some .int) 1 40 [.int i, .int n, v] M (some (.int i)) := by
  refine jmet_of (by decide) fun p e s m args below meth c C => ?_
  have C9 := C
  obtain ⟨hx, hb, hml, hown, hW, hr, hlk, hM⟩ := C
  have e0 : (ent [.int i, .int n, v] 3).toArray = #[.val (.int i), .val (.int n), .val v] := by unfold ent; rw [hv]; rfl
  rw [e0]
  refine lv_iload_n (i := 0) hx hb dJ3_checkIndex_8e157_0 rfl rfl ?_
  refine lv_if_lt (tgt := 9) hx hb dJ3_checkIndex_8e157_1 (by decide) (fun h => absurd h h0) (fun _ => ?_)
  refine lv_iload_n (i := 0) hx hb dJ3_checkIndex_8e157_4 rfl rfl ?_
  refine lv_iload_n (i := 1) hx hb dJ3_checkIndex_8e157_5 rfl rfl ?_
  refine lv_icmp_lt (tgt := 16) hx hb dJ3_checkIndex_8e157_6 (by decide) (fun _ => ?_) (fun h => absurd h1 h)
  refine lv_iload_n (i := 0) hx hb dJ3_checkIndex_8e157_16 rfl rfl ?_
  exact j_zret C9 ⟨rfl, rfl⟩ rfl rfl dJ3_checkIndex_8e157_17 hM (fun _ h => by cases h)
theorem j_scheck (i n : Int32) (h0 : ¬ i < 0) (h1 : i < n) : JMet l G yJ0_checkIndex_df160 cJ0_checkIndex_df160 2 none 3 80 [.int i, .int n] M none := by
  refine jmet_of (by decide) fun p e s m args below meth c C => ?_
  have C9 := C
  obtain ⟨hx, hb, hml, hown, hW, hr, hlk, hM⟩ := C
  have hts : ∀ w ∈ TT, w.before args s = true := fun w hw => hW.1 w hw args
  have hS := j_S hM hM (locs := []) (fun _ h => by cases h)
  have hk : ∀ a : Nat, a < (gHb G).size → ¬ (gHb G).size ≤ a → s.heap[a]? = (gHb G)[a]? := fun a ha _ => hM.2.2.2.1 a ha
  have hZ := hW.2.2.2.2.2.2.2.1.2.kept hk
  have go : ∀ v : Value, lg_sl [.int i, .int n, v] = [.val (.int i), .val (.int n), .val v] → va_Z "jdk/internal/util/Preconditions" "SIOOBE_FORMATTER" "Ljava/util/function/BiFunction;" v (fun q => (gHb G).size ≤ q) s s.heap → W p l e { frames := 3, cells := 0, slots := 0, locals := 80 } s m args below meth c s.heap [] 0 0 (ZZ G below (fun v' M' => v' = none ∧ M' = M) (fun _ _ => False) args s { frames := 3, cells := 0, slots := 0, locals := 80 }) (F0 m 0 (ent [.int i, .int n] 2).toArray []) := by
    intro v hv hZ
    refine lv_iload_n (i := 0) hx hb dJ0_checkIndex_df160_0 rfl rfl ?_
    refine lv_iload_n (i := 1) hx hb dJ0_checkIndex_df160_1 rfl rfl ?_
    refine va_gets hx hb hZ hS hown (hts (Cond.fieldLink RJ0 1053 "jdk/internal/util/Preconditions" "SIOOBE_FORMATTER" "Ljava/util/function/BiFunction;") (List.mem_filter.mpr ⟨by decide +kernel, rfl⟩)) (fun _ h => h) dJ0_checkIndex_df160_2 ?_
    refine j_static (n := 3) (rest := []) (as := [.int i, .int n, v]) C9 (j_pcheck i n v hv h0 h1) rfl (List.mem_filter.mpr ⟨by decide +kernel, rfl⟩) (List.mem_filter.mpr ⟨by decide +kernel, rfl⟩) (List.mem_filter.mpr ⟨by decide +kernel, rfl⟩) (List.mem_filter.mpr ⟨by decide +kernel, rfl⟩) (by decide +kernel) ⟨by decide, by decide⟩ dJ0_checkIndex_df160_5 (Nat.le_of_ble_eq_true rfl) (ent_z _ (Nat.le_of_ble_eq_true rfl)) hM (fun _ h => by cases h) fun H1 locs1 hM1 hlo1 => ?_
    refine lv_pop hx hb dJ0_checkIndex_df160_8 rfl ?_
    exact j_vret C9 rfl dJ0_checkIndex_df160_9 hM1 hlo1
  rcases hZ with hZ | ⟨t, hZ⟩
  · exact go .null rfl hZ
  · exact go (.ref t) rfl hZ
end JM
theorem sB_c : ∀ i, i < 10 → ∀ k, k < (sB.getD i []).length → ((((sB.getD i []).getD k 0) &&& 255).toUInt32 % 65536).toInt32 = (sB.getD i []).getD k 0 ∧ narrow .char (.int ((sB.getD i []).getD k 0)) = .int ((sB.getD i []).getD k 0) := by decide +kernel
theorem sNB2 : ∀ i, i < 10 → sN.getD i 0 = (sB.getD i []).length ∧ (sB.getD i []).length < 100 := by decide +kernel
section JM2
variable {l : Launch} {G : Gt} {M : Mm}
theorem j_lcharAt (i : Nat) (hi : i < 10) (k : Int32) (hin : vp_in k (sN.getD i 0)) : JMet l G yJ1_charAt_3b067 cJ1_charAt_3b067 2 (some .char) 5 110 [.ref (gV G i), .int k] M (some (.int ((sB.getD i []).getD k.toNatClampNeg 0))) := by
  refine jmet_of (by decide) fun p e s m args below meth c C => ?_
  have C9 := C
  obtain ⟨hx, hb, hml, hown, hW, hr, hlk, hM⟩ := C
  have hS := j_S hM hM (locs := []) (fun _ h => by cases h)
  have hk : ∀ a : Nat, a < (gHb G).size → ¬ (gHb G).size ≤ a → s.heap[a]? = (gHb G)[a]? := fun a ha _ => hM.2.2.2.1 a ha
  obtain ⟨o1, o2, o3, o4⟩ := (hW.2.2.2.2.2.2.1.kept hk).1 i hi
  obtain ⟨n1, n2⟩ := sNB2 i hi
  have hin2 := hin
  unfold vp_in at hin2
  have h0 : ¬ k < 0 := fun h => hin2 (Or.inl h)
  have h1 : k.toNatClampNeg < sN.getD i 0 := Nat.not_le.mp fun h => hin2 (Or.inr h)
  obtain ⟨j, hj, ej⟩ := nI_of h0
  have ej2 : k.toNatClampNeg = j := by rw [ej]; exact nI_clamp hj
  have h2 : k < Int32.ofNat (sN.getD i 0) := by
    rw [ej]
    exact (nI_ltI (by omega) (by omega)).mpr (by omega)
  obtain ⟨b1, b2⟩ := sB_c i hi k.toNatClampNeg (by omega)
  refine lv_iload_n (i := 1) hx hb dJ1_charAt_3b067_0 rfl rfl ?_
  refine lv_aload_n (i := 0) hx hb dJ1_charAt_3b067_1 rfl rfl ?_
  refine va_tlen hx hb o4 hS rfl dJ1_charAt_3b067_2 ?_
  refine j_static (n := 2) (rest := []) (as := [.int k, .int (Int32.ofNat (sN.getD i 0))]) C9 (j_scheck k _ h0 h2) rfl (List.mem_filter.mpr ⟨by decide +kernel, rfl⟩) (List.mem_filter.mpr ⟨by decide +kernel, rfl⟩) (List.mem_filter.mpr ⟨by decide +kernel, rfl⟩) (List.mem_filter.mpr ⟨by decide +kernel, rfl⟩) (by decide +kernel) ⟨by decide, by decide⟩ dJ1_charAt_3b067_3 (Nat.le_of_ble_eq_true rfl) (ent_z _ (Nat.le_of_ble_eq_true rfl)) hM (fun _ h => by cases h) fun H1 locs1 hM1 hlo1 => ?_
  have hS1 := j_S hM hM1 hlo1
  refine lv_aload_n (i := 0) hx hb dJ1_charAt_3b067_6 rfl rfl ?_
  refine lv_iload_n (i := 1) hx hb dJ1_charAt_3b067_7 rfl rfl ?_
  refine va_tb hx hb o4 hS1 hin rfl dJ1_charAt_3b067_8 ?_
  refine lv_sipush hx hb dJ1_charAt_3b067_9 rfl ?_
  refine lv_iand hx hb dJ1_charAt_3b067_12 ?_
  refine lv_i2c hx hb dJ1_charAt_3b067_13 b1 ?_
  exact j_zret C9 ⟨rfl, rfl⟩ b2 rfl dJ1_charAt_3b067_14 hM1 hlo1
theorem j_charAt (q : Nat) (k : Int32) (hq : isS (gK M q)) (hin : vp_in k (sN.getD (kSi (gK M q)) 0)) : JMet l G yJ0_charAt_5068e cJ0_charAt_5068e 2 (some .char) 10 300 [.ref q, .int k] M (some (.int ((sB.getD (kSi (gK M q)) []).getD k.toNatClampNeg 0))) := by
  obtain ⟨i, hki⟩ := isS_of hq
  rw [hki, kSi_e] at hin ⊢
  refine jmet_of (by decide) fun p e s m args below meth c C => ?_
  have C9 := C
  obtain ⟨hx, hb, hml, hown, hW, hr, hlk, hM⟩ := C
  obtain ⟨g1, hi, rfl⟩ := (hM.2.2.2.2 q).s hki
  have hts : ∀ w ∈ TT, w.before args s = true := fun w hw => hW.1 w hw args
  have hS := j_S hM hM (locs := []) (fun _ h => by cases h)
  have hk : ∀ a : Nat, a < (gHb G).size → ¬ (gHb G).size ≤ a → s.heap[a]? = (gHb G)[a]? := fun a ha _ => hM.2.2.2.1 a ha
  obtain ⟨o1, o2, o3, o4⟩ := (hW.2.2.2.2.2.2.1.kept hk).1 i hi
  obtain ⟨n1, n2⟩ := sNB2 i hi
  have h1 : k.toNatClampNeg < sN.getD i 0 := Nat.not_le.mp fun h => hin (Or.inr h)
  obtain ⟨b1, b2⟩ := sB_c i hi k.toNatClampNeg (by omega)
  obtain ⟨cell, c1, c2, c3, -⟩ := o1
  refine lv_aload_n (i := 0) hx hb dJ0_charAt_5068e_0 rfl rfl ?_
  refine j_virtual (n := 0) (rest := []) (As := []) C9 (j_isLatin1 i hi) rfl (List.mem_filter.mpr ⟨by decide +kernel, rfl⟩) (List.mem_filter.mpr ⟨by decide +kernel, rfl⟩) (List.mem_filter.mpr ⟨by decide +kernel, rfl⟩) (List.mem_filter.mpr ⟨by decide +kernel, rfl⟩) (List.mem_filter.mpr ⟨by decide +kernel, rfl⟩) (by decide +kernel) ⟨by decide, by decide⟩ dJ0_charAt_5068e_1 (Nat.le_of_ble_eq_true rfl) (ent_z _ (Nat.le_of_ble_eq_true rfl)) hM (fun _ h => by cases h) ⟨cell, c1, c2, c3⟩ fun H1 locs1 hM1 hlo1 => ?_
  have hS1 := j_S hM hM1 hlo1
  refine lv_if_eq (tgt := 16) hx hb dJ0_charAt_5068e_4 (by decide) (fun h => absurd h (by decide)) (fun _ => ?_)
  refine lv_aload_n (i := 0) hx hb dJ0_charAt_5068e_7 rfl rfl ?_
  refine vk_getf hx hb o3 hS1 hown (hts (Cond.fieldLink RJ0 9 "java/lang/String" "value" "[B") (List.mem_filter.mpr ⟨by decide +kernel, rfl⟩)) (fun _ h => h) dJ0_charAt_5068e_8 ?_
  refine lv_iload_n (i := 1) hx hb dJ0_charAt_5068e_11 rfl rfl ?_
  refine j_static (n := 2) (rest := []) (as := [.ref (gV G i), .int k]) C9 (j_lcharAt i hi k hin) rfl (List.mem_filter.mpr ⟨by decide +kernel, rfl⟩) (List.mem_filter.mpr ⟨by decide +kernel, rfl⟩) (List.mem_filter.mpr ⟨by decide +kernel, rfl⟩) (List.mem_filter.mpr ⟨by decide +kernel, rfl⟩) (by decide +kernel) ⟨by decide, by decide⟩ dJ0_charAt_5068e_12 (Nat.le_of_ble_eq_true rfl) (ent_z _ (Nat.le_of_ble_eq_true rfl)) hM1 hlo1 fun H2 locs2 hM2 hlo2 => ?_
  exact j_zret C9 ⟨rfl, rfl⟩ b2 rfl dJ0_charAt_5068e_15 hM2 hlo2
theorem j_length (q : Nat) (hq : isS (gK M q)) : JMet l G yJ0_length_8abf5 cJ0_length_8abf5 1 (some .int) 10 300 [.ref q] M (some (.int (nI (sN.getD (kSi (gK M q)) 0)))) := by
  obtain ⟨i, hki⟩ := isS_of hq
  rw [hki, kSi_e]
  refine jmet_of (by decide) fun p e s m args below meth c C => ?_
  have C9 := C
  obtain ⟨hx, hb, hml, hown, hW, hr, hlk, hM⟩ := C
  obtain ⟨g1, hi, rfl⟩ := (hM.2.2.2.2 q).s hki
  have hts : ∀ w ∈ TT, w.before args s = true := fun w hw => hW.1 w hw args
  have hS := j_S hM hM (locs := []) (fun _ h => by cases h)
  have hk : ∀ a : Nat, a < (gHb G).size → ¬ (gHb G).size ≤ a → s.heap[a]? = (gHb G)[a]? := fun a ha _ => hM.2.2.2.1 a ha
  obtain ⟨o1, o2, o3, o4⟩ := (hW.2.2.2.2.2.2.1.kept hk).1 i hi
  obtain ⟨cell, c1, c2, c3, -⟩ := o1
  refine lv_aload_n (i := 0) hx hb dJ0_length_8abf5_0 rfl rfl ?_
  refine vk_getf hx hb o3 hS hown (hts (Cond.fieldLink RJ0 9 "java/lang/String" "value" "[B") (List.mem_filter.mpr ⟨by decide +kernel, rfl⟩)) (fun _ h => h) dJ0_length_8abf5_1 ?_
  refine va_tlen hx hb o4 hS rfl dJ0_length_8abf5_4 ?_
  refine lv_aload_n (i := 0) hx hb dJ0_length_8abf5_5 rfl rfl ?_
  refine j_virtual (n := 0) (rest := [.int (Int32.ofNat (sN.getD i 0))]) (As := []) C9 (j_coder i hi) rfl (List.mem_filter.mpr ⟨by decide +kernel, rfl⟩) (List.mem_filter.mpr ⟨by decide +kernel, rfl⟩) (List.mem_filter.mpr ⟨by decide +kernel, rfl⟩) (List.mem_filter.mpr ⟨by decide +kernel, rfl⟩) (List.mem_filter.mpr ⟨by decide +kernel, rfl⟩) (by decide +kernel) ⟨by decide, by decide⟩ dJ0_length_8abf5_6 (Nat.le_of_ble_eq_true rfl) (ent_z _ (Nat.le_of_ble_eq_true rfl)) hM (fun _ h => by cases h) ⟨cell, c1, c2, c3⟩ fun H1 locs1 hM1 hlo1 => ?_
  refine lv_ishr hx hb dJ0_length_8abf5_9 ?_
  exact j_zret C9 ⟨rfl, rfl⟩ rfl (by rw [show ((0 : Int32) &&& 31) = 0 from rfl, Int32.shiftRight_zero]; rfl) dJ0_length_8abf5_10 hM1 hlo1
theorem t_JS_length : SatM l G 900 S900 := by
  intro as M hp
  unfold S900 at hp ⊢
  split at hp
  case h_2 => exact hp.elim
  exact j_length _ hp
theorem t_JS_charAt : SatM l G 901 S901 := by
  intro as M hp
  unfold S901 at hp ⊢
  split at hp
  case h_2 => exact hp.elim
  exact j_charAt _ _ hp.1 hp.2
end JM2
theorem s_JS_length {l : Launch} {G : Gt} (_ : l.stackTraces = false) : SatM l G 900 S900 := t_JS_length
theorem s_JS_charAt {l : Launch} {G : Gt} (_ : l.stackTraces = false) : SatM l G 901 S901 := t_JS_charAt
theorem nb0 : vp_nar FieldType.boolean 0 = 0 := rfl
theorem nb1 : vp_nar FieldType.boolean 1 = 1 := rfl
/-! ===== isWord ===== -/
def mtc (Y : Nat → Int32) : List Int32 → Nat → Int32
  | [], _ => 1
  | c :: cs, s => if Y s = c then mtc Y cs (s + 1) else 0
theorem sNB : ∀ i, i < 10 → sN.getD i 0 = (sB.getD i []).length ∧ (sB.getD i []).length < 100 := by decide +kernel
def iwI (M : Mm) (t w : Nat) : Int32 := if ¬ gI M t 2 = -3 ∨ ¬ gI M t 6 - gI M t 3 = nI (sN.getD w 0) then 0 else mtc (gI M (t + 1)) (sB.getD w []) (gI M t 3).toNatClampNeg
def iwV (M : Mm) (t q : Nat) : Int32 := iwI M t (kSi (gK M q))
def S73 : Sem := fun as M => match as with
  | [.ref t, .ref q] => sV (Lt M t ∧ (∃ i, i < 10 ∧ gK M q = kS i) ∧ ∃ s p, s ≤ p ∧ p ≤ 900 ∧ gI M t 3 = nI s ∧ gI M t 6 = nI p) (some (.int (iwV M t q))) M
  | _ => sF
def eX9_isWord : Nat → Sem := fun id => if id = 900 then S900 else S901
set_option maxRecDepth 100000 in
set_option maxHeartbeats 4000000 in
theorem s_X9_isWord {l : Launch} {G : Gt} (hfl : l.stackTraces = false) : SatM l G 73 S73 := by
  refine t_X9_isWord (E := eX9_isWord) hfl (s_JS_length hfl) (s_JS_charAt hfl) fun as M hp => ?_
  unfold S73 at hp ⊢
  split at hp
  case h_2 => exact hp.elim
  rename_i t q
  obtain ⟨⟨k0, p0, k1⟩, ⟨w, hw, kw⟩, s, p, hs, hp, e3, e6⟩ := hp
  refine ⟨Nat.le_of_ble_eq_true rfl, ?_⟩
  show Run (gT G) _ _ _ _ _ _ _ 0 [.val (.ref t), .val (.ref q), .unset] [] M 0 0
  obtain ⟨g1, g2⟩ := sNB w hw
  have cs : (nI s).toNatClampNeg = s := nI_clamp (by omega)
  have hlen : nI p - nI s = nI (p - s) := by
    obtain ⟨d, rfl⟩ : ∃ d, p = s + d := ⟨p - s, by omega⟩
    rw [Nat.add_sub_cancel_left, ← nI_add, Int32.add_comm, Int32.add_sub_cancel]
  have key : ∀ (l : List Int32) k, k + l.length = (sB.getD w []).length → (sB.getD w []).drop k = l → s + (sB.getD w []).length ≤ 900 → Run (gT G) eX9_isWord 0 0 (fun _ _ => none) (fun v' M' => v' = some (.int (mtc (gI M (t + 1)) l (s + k))) ∧ M' = M) (fun _ _ => False) kX9_isWord 29 [.val (.ref t), .val (.ref q), .val (.int (nI k))] [] M 0 0 := by
    intro l
    induction l with
    | nil =>
      intro k hk hd hL
      have hk2 : k = (sB.getD w []).length := hk
      rw [rX9_isWord_29]
      simp only [kX9_isWord_29, rX9_isWord_0, kX9_isWord_0, rX9_isWord_25, kX9_isWord_25, rX9_isWord_27, kX9_isWord_27, rX9_isWord_58, kX9_isWord_58, rX9_isWord_64, kX9_isWord_64, eX9_isWord, S900, S901, bk_c, if_true, if_false, wi_e, wl_e, wr_e, w1_i, w1_r, ldS_0, ldS_s, vi_e, vl_e, vr_e, dpL_u, dpL_i, dpL_r, dpL_l, stS_0, stS_1, stS_s, stL_0, stL_1, stL_s, bin_0, bin_1, bin_2, bin_3, bin_4, bin_5, bdv_0, bdv_1, lbin_0, lbin_1, lbin_2, cnd_0, cnd_1, cnd_2, cnd_3, cnd_4, cnd_5, aty_0, aty_1, aty_2, aty_3, aty_4, aty_5, c8_u, cn_0, cn_i, cn_r, cn_l, Nat.reduceAdd, Nat.reduceLeDiff, Nat.le_refl, adz, hnd_0, rcv_0, rcv_1, kLen_a, kLen_r, inB_e, inR_e, cpOK_e, swt_n, swt_c, List.take_succ_cons, List.take_zero, List.drop_succ_cons, List.drop_zero, List.reverse_cons, List.reverse_nil, List.nil_append, List.cons_append, List.length_cons, List.length_nil, Option.toList_some, Option.toList_none, det_e, det_x, tr_imp, fa_imp, implies_true, not_true, not_false_eq_true, and_true, true_and, nar_i, upd_s, st1_0, st1_1, st1_2, st1_3, st1_4, st1_5, st1_6, st1_7, st1_8, st1_9, st1_10, st1_11, st1_12, st1_13, st1_14, st1_15, st1_16, st1_17, st1_18, st1_19, st1_20, st1_21, st1_22, st1_23, st1_24, st1_25, st1_26, st1_27, st1_28, st1_29, st1_30, st1_31, st1_32, st1_33, st1_34, st1_35, st1_36, st1_37, st1_42, st1_43, st1_44, st1_46, st1_47, st1_48, st1_49, st1_50, st1_51, st1_52, st1_53, st1_54, st1_55, st1_56, st1_57, st1_58, st1_59, st1_60, Nat.reduceEqDiff, reduceIte, kw, isS_e, kSi_e, sV, g1, hk2, lp_out, nb1, mtc]
    | cons c cs2 ih =>
      intro k hk hd hL
      rw [List.length_cons] at hk
      obtain ⟨a1, a2, a3, -⟩ := lp_in (i := k) (n := (sB.getD w []).length) (N := (sB.getD w []).length) (by omega) (Nat.le_refl _) (by omega)
      have a4 : vp_in (nI (s + k)) 900 = True := eq_true (vp_in_nI (by omega) (by decide))
      have a5 : (nI (s + k)).toNatClampNeg = s + k := nI_clamp (by omega)
      have a6 : (sB.getD w []).getD k 0 = c := by
        have := congrArg (fun z => z.getD 0 (0 : Int32)) hd
        simpa [List.getD, List.getElem?_drop] using this
      rw [rX9_isWord_29]
      simp only [kX9_isWord_29, rX9_isWord_0, kX9_isWord_0, rX9_isWord_25, kX9_isWord_25, rX9_isWord_27, kX9_isWord_27, rX9_isWord_58, kX9_isWord_58, rX9_isWord_64, kX9_isWord_64, eX9_isWord, S900, S901, bk_c, if_true, if_false, wi_e, wl_e, wr_e, w1_i, w1_r, ldS_0, ldS_s, vi_e, vl_e, vr_e, dpL_u, dpL_i, dpL_r, dpL_l, stS_0, stS_1, stS_s, stL_0, stL_1, stL_s, bin_0, bin_1, bin_2, bin_3, bin_4, bin_5, bdv_0, bdv_1, lbin_0, lbin_1, lbin_2, cnd_0, cnd_1, cnd_2, cnd_3, cnd_4, cnd_5, aty_0, aty_1, aty_2, aty_3, aty_4, aty_5, c8_u, cn_0, cn_i, cn_r, cn_l, Nat.reduceAdd, Nat.reduceLeDiff, Nat.le_refl, adz, hnd_0, rcv_0, rcv_1, kLen_a, kLen_r, inB_e, inR_e, cpOK_e, swt_n, swt_c, List.take_succ_cons, List.take_zero, List.drop_succ_cons, List.drop_zero, List.reverse_cons, List.reverse_nil, List.nil_append, List.cons_append, List.length_cons, List.length_nil, Option.toList_some, Option.toList_none, det_e, det_x, tr_imp, fa_imp, implies_true, not_true, not_false_eq_true, and_true, true_and, nar_i, upd_s, st1_0, st1_1, st1_2, st1_3, st1_4, st1_5, st1_6, st1_7, st1_8, st1_9, st1_10, st1_11, st1_12, st1_13, st1_14, st1_15, st1_16, st1_17, st1_18, st1_19, st1_20, st1_21, st1_22, st1_23, st1_24, st1_25, st1_26, st1_27, st1_28, st1_29, st1_30, st1_31, st1_32, st1_33, st1_34, st1_35, st1_36, st1_37, st1_42, st1_43, st1_44, st1_46, st1_47, st1_48, st1_49, st1_50, st1_51, st1_52, st1_53, st1_54, st1_55, st1_56, st1_57, st1_58, st1_59, st1_60, Nat.reduceEqDiff, reduceIte, kw, isS_e, kSi_e, sV, g1, a1, a2, a3, e3, nI_add, a4, a5, a6, k0, p0, k1, nI_1, Nat.succ_ne_zero, nb0, mtc]
      refine ⟨fun h => ?_, fun h => ?_⟩
      · rw [if_pos h]
        refine ih (k + 1) (by omega) ?_ hL
        have := congrArg List.tail hd
        rw [List.tail_drop] at this
        exact this
      · rw [if_neg h]
  simp only [rX9_isWord_0, kX9_isWord_0, rX9_isWord_25, kX9_isWord_25, rX9_isWord_27, kX9_isWord_27, rX9_isWord_58, kX9_isWord_58, rX9_isWord_64, kX9_isWord_64, eX9_isWord, S900, S901, bk_c, if_true, if_false, wi_e, wl_e, wr_e, w1_i, w1_r, ldS_0, ldS_s, vi_e, vl_e, vr_e, dpL_u, dpL_i, dpL_r, dpL_l, stS_0, stS_1, stS_s, stL_0, stL_1, stL_s, bin_0, bin_1, bin_2, bin_3, bin_4, bin_5, bdv_0, bdv_1, lbin_0, lbin_1, lbin_2, cnd_0, cnd_1, cnd_2, cnd_3, cnd_4, cnd_5, aty_0, aty_1, aty_2, aty_3, aty_4, aty_5, c8_u, cn_0, cn_i, cn_r, cn_l, Nat.reduceAdd, Nat.reduceLeDiff, Nat.le_refl, adz, hnd_0, rcv_0, rcv_1, kLen_a, kLen_r, inB_e, inR_e, cpOK_e, swt_n, swt_c, List.take_succ_cons, List.take_zero, List.drop_succ_cons, List.drop_zero, List.reverse_cons, List.reverse_nil, List.nil_append, List.cons_append, List.length_cons, List.length_nil, Option.toList_some, Option.toList_none, det_e, det_x, tr_imp, fa_imp, implies_true, not_true, not_false_eq_true, and_true, true_and, nar_i, upd_s, st1_0, st1_1, st1_2, st1_3, st1_4, st1_5, st1_6, st1_7, st1_8, st1_9, st1_10, st1_11, st1_12, st1_13, st1_14, st1_15, st1_16, st1_17, st1_18, st1_19, st1_20, st1_21, st1_22, st1_23, st1_24, st1_25, st1_26, st1_27, st1_28, st1_29, st1_30, st1_31, st1_32, st1_33, st1_34, st1_35, st1_36, st1_37, st1_42, st1_43, st1_44, st1_46, st1_47, st1_48, st1_49, st1_50, st1_51, st1_52, st1_53, st1_54, st1_55, st1_56, st1_57, st1_58, st1_59, st1_60, Nat.reduceEqDiff, reduceIte, kw, isS_e, kSi_e, sV, e3, e6, k0, nb0]
  refine ⟨fun h => ?_, fun h => ⟨fun h2 => ?_, fun h2 => ?_⟩⟩
  · unfold iwV iwI
    rw [if_pos (Or.inl h)]
  · unfold iwV iwI
    rw [e6, e3, kw, kSi_e, cs, if_neg (fun z => z.elim h (fun z => z h2))]
    rw [hlen, g1] at h2
    have h3 : p - s = (sB.getD w []).length := by
      have := congrArg Int32.toNatClampNeg h2
      rwa [nI_clamp (by omega), nI_clamp (by omega)] at this
    exact key _ 0 (Nat.zero_add _) rfl (by omega)
  · unfold iwV iwI
    rw [e6, e3, kw, kSi_e, if_pos (Or.inr h2)]
