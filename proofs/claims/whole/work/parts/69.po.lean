/-! ===== the JDK's length and charAt of a text ===== -/
def RJ0 : String := "java/lang/String"
def RJ1 : String := "java/lang/StringLatin1"
def RJ3 : String := "jdk/internal/util/Preconditions"
abbrev cJ0_length_8abf5 : ByteArray := prog_20_method_54_code
def yJ0_length_8abf5 : MethodName := ⟨RJ0, "length", "()I"⟩
abbrev cJ0_charAt_5068e : ByteArray := prog_20_method_56_code
def yJ0_charAt_5068e : MethodName := ⟨RJ0, "charAt", "(I)C"⟩
abbrev cJ0_coder_7d493 : ByteArray := prog_20_method_152_code
def yJ0_coder_7d493 : MethodName := ⟨RJ0, "coder", "()B"⟩
abbrev cJ0_isLatin1_aae02 : ByteArray := prog_20_method_154_code
def yJ0_isLatin1_aae02 : MethodName := ⟨RJ0, "isLatin1", "()Z"⟩
abbrev cJ0_checkIndex_df160 : ByteArray := prog_20_method_155_code
def yJ0_checkIndex_df160 : MethodName := ⟨RJ0, "checkIndex", "(II)V"⟩
abbrev cJ1_charAt_3b067 : ByteArray := prog_21_method_2_code
def yJ1_charAt_3b067 : MethodName := ⟨RJ1, "charAt", "([BI)C"⟩
abbrev cJ3_checkIndex_8e157 : ByteArray := prog_25_method_11_code
def yJ3_checkIndex_8e157 : MethodName := ⟨RJ3, "checkIndex", "(IILjava/util/function/BiFunction;)I"⟩
theorem dJ0_length_8abf5_0 : decode cJ0_length_8abf5 0 = .ok (.aload_n 0, 1) := by decide +kernel
theorem dJ0_length_8abf5_1 : decode cJ0_length_8abf5 1 = .ok (.getfield 9, 3) := by decide +kernel
theorem dJ0_length_8abf5_4 : decode cJ0_length_8abf5 4 = .ok (.arraylength, 1) := by decide +kernel
theorem dJ0_length_8abf5_5 : decode cJ0_length_8abf5 5 = .ok (.aload_n 0, 1) := by decide +kernel
theorem dJ0_length_8abf5_6 : decode cJ0_length_8abf5 6 = .ok (.invokevirtual 335, 3) := by decide +kernel
theorem dJ0_length_8abf5_9 : decode cJ0_length_8abf5 9 = .ok (.ishr, 1) := by decide +kernel
theorem dJ0_length_8abf5_10 : decode cJ0_length_8abf5 10 = .ok (.ireturn, 1) := by decide +kernel
theorem dJ0_charAt_5068e_0 : decode cJ0_charAt_5068e 0 = .ok (.aload_n 0, 1) := by decide +kernel
theorem dJ0_charAt_5068e_1 : decode cJ0_charAt_5068e 1 = .ok (.invokevirtual 492, 3) := by decide +kernel
theorem dJ0_charAt_5068e_4 : decode cJ0_charAt_5068e 4 = .ok (.ifCond .eq 12, 3) := by decide +kernel
theorem dJ0_charAt_5068e_7 : decode cJ0_charAt_5068e 7 = .ok (.aload_n 0, 1) := by decide +kernel
theorem dJ0_charAt_5068e_8 : decode cJ0_charAt_5068e 8 = .ok (.getfield 9, 3) := by decide +kernel
theorem dJ0_charAt_5068e_11 : decode cJ0_charAt_5068e 11 = .ok (.iload_n 1, 1) := by decide +kernel
theorem dJ0_charAt_5068e_12 : decode cJ0_charAt_5068e 12 = .ok (.invokestatic 495, 3) := by decide +kernel
theorem dJ0_charAt_5068e_15 : decode cJ0_charAt_5068e 15 = .ok (.ireturn, 1) := by decide +kernel
theorem dJ0_charAt_5068e_16 : decode cJ0_charAt_5068e 16 = .ok (.aload_n 0, 1) := by decide +kernel
theorem dJ0_charAt_5068e_17 : decode cJ0_charAt_5068e 17 = .ok (.getfield 9, 3) := by decide +kernel
theorem dJ0_charAt_5068e_20 : decode cJ0_charAt_5068e 20 = .ok (.iload_n 1, 1) := by decide +kernel
theorem dJ0_charAt_5068e_21 : decode cJ0_charAt_5068e 21 = .ok (.invokestatic 498, 3) := by decide +kernel
theorem dJ0_charAt_5068e_24 : decode cJ0_charAt_5068e 24 = .ok (.ireturn, 1) := by decide +kernel
theorem dJ0_coder_7d493_0 : decode cJ0_coder_7d493 0 = .ok (.getstatic 38, 3) := by decide +kernel
theorem dJ0_coder_7d493_3 : decode cJ0_coder_7d493 3 = .ok (.ifCond .eq 10, 3) := by decide +kernel
theorem dJ0_coder_7d493_6 : decode cJ0_coder_7d493 6 = .ok (.aload_n 0, 1) := by decide +kernel
theorem dJ0_coder_7d493_7 : decode cJ0_coder_7d493 7 = .ok (.getfield 15, 3) := by decide +kernel
theorem dJ0_coder_7d493_10 : decode cJ0_coder_7d493 10 = .ok (.goto 4, 3) := by decide +kernel
theorem dJ0_coder_7d493_13 : decode cJ0_coder_7d493 13 = .ok (.iconst 1, 1) := by decide +kernel
theorem dJ0_coder_7d493_14 : decode cJ0_coder_7d493 14 = .ok (.ireturn, 1) := by decide +kernel
theorem dJ0_isLatin1_aae02_0 : decode cJ0_isLatin1_aae02 0 = .ok (.getstatic 38, 3) := by decide +kernel
theorem dJ0_isLatin1_aae02_3 : decode cJ0_isLatin1_aae02 3 = .ok (.ifCond .eq 14, 3) := by decide +kernel
theorem dJ0_isLatin1_aae02_6 : decode cJ0_isLatin1_aae02 6 = .ok (.aload_n 0, 1) := by decide +kernel
theorem dJ0_isLatin1_aae02_7 : decode cJ0_isLatin1_aae02 7 = .ok (.getfield 15, 3) := by decide +kernel
theorem dJ0_isLatin1_aae02_10 : decode cJ0_isLatin1_aae02 10 = .ok (.ifCond .ne 7, 3) := by decide +kernel
theorem dJ0_isLatin1_aae02_13 : decode cJ0_isLatin1_aae02 13 = .ok (.iconst 1, 1) := by decide +kernel
theorem dJ0_isLatin1_aae02_14 : decode cJ0_isLatin1_aae02 14 = .ok (.goto 4, 3) := by decide +kernel
theorem dJ0_isLatin1_aae02_17 : decode cJ0_isLatin1_aae02 17 = .ok (.iconst 0, 1) := by decide +kernel
theorem dJ0_isLatin1_aae02_18 : decode cJ0_isLatin1_aae02 18 = .ok (.ireturn, 1) := by decide +kernel
theorem dJ0_checkIndex_df160_0 : decode cJ0_checkIndex_df160 0 = .ok (.iload_n 0, 1) := by decide +kernel
theorem dJ0_checkIndex_df160_1 : decode cJ0_checkIndex_df160 1 = .ok (.iload_n 1, 1) := by decide +kernel
theorem dJ0_checkIndex_df160_2 : decode cJ0_checkIndex_df160 2 = .ok (.getstatic 1053, 3) := by decide +kernel
theorem dJ0_checkIndex_df160_5 : decode cJ0_checkIndex_df160 5 = .ok (.invokestatic 1059, 3) := by decide +kernel
theorem dJ0_checkIndex_df160_8 : decode cJ0_checkIndex_df160 8 = .ok (.pop, 1) := by decide +kernel
theorem dJ0_checkIndex_df160_9 : decode cJ0_checkIndex_df160 9 = .ok (.return_, 1) := by decide +kernel
theorem dJ1_charAt_3b067_0 : decode cJ1_charAt_3b067 0 = .ok (.iload_n 1, 1) := by decide +kernel
theorem dJ1_charAt_3b067_1 : decode cJ1_charAt_3b067 1 = .ok (.aload_n 0, 1) := by decide +kernel
theorem dJ1_charAt_3b067_2 : decode cJ1_charAt_3b067 2 = .ok (.arraylength, 1) := by decide +kernel
theorem dJ1_charAt_3b067_3 : decode cJ1_charAt_3b067 3 = .ok (.invokestatic 9, 3) := by decide +kernel
theorem dJ1_charAt_3b067_6 : decode cJ1_charAt_3b067 6 = .ok (.aload_n 0, 1) := by decide +kernel
theorem dJ1_charAt_3b067_7 : decode cJ1_charAt_3b067 7 = .ok (.iload_n 1, 1) := by decide +kernel
theorem dJ1_charAt_3b067_8 : decode cJ1_charAt_3b067 8 = .ok (.baload, 1) := by decide +kernel
theorem dJ1_charAt_3b067_9 : decode cJ1_charAt_3b067 9 = .ok (.sipush 255, 3) := by decide +kernel
theorem dJ1_charAt_3b067_12 : decode cJ1_charAt_3b067 12 = .ok (.iand, 1) := by decide +kernel
theorem dJ1_charAt_3b067_13 : decode cJ1_charAt_3b067 13 = .ok (.i2c, 1) := by decide +kernel
theorem dJ1_charAt_3b067_14 : decode cJ1_charAt_3b067 14 = .ok (.ireturn, 1) := by decide +kernel
theorem dJ3_checkIndex_8e157_0 : decode cJ3_checkIndex_8e157 0 = .ok (.iload_n 0, 1) := by decide +kernel
theorem dJ3_checkIndex_8e157_1 : decode cJ3_checkIndex_8e157 1 = .ok (.ifCond .lt 8, 3) := by decide +kernel
theorem dJ3_checkIndex_8e157_4 : decode cJ3_checkIndex_8e157 4 = .ok (.iload_n 0, 1) := by decide +kernel
theorem dJ3_checkIndex_8e157_5 : decode cJ3_checkIndex_8e157 5 = .ok (.iload_n 1, 1) := by decide +kernel
theorem dJ3_checkIndex_8e157_6 : decode cJ3_checkIndex_8e157 6 = .ok (.if_icmp .lt 10, 3) := by decide +kernel
theorem dJ3_checkIndex_8e157_9 : decode cJ3_checkIndex_8e157 9 = .ok (.aload_n 2, 1) := by decide +kernel
theorem dJ3_checkIndex_8e157_10 : decode cJ3_checkIndex_8e157 10 = .ok (.iload_n 0, 1) := by decide +kernel
theorem dJ3_checkIndex_8e157_11 : decode cJ3_checkIndex_8e157 11 = .ok (.iload_n 1, 1) := by decide +kernel
theorem dJ3_checkIndex_8e157_12 : decode cJ3_checkIndex_8e157 12 = .ok (.invokestatic 95, 3) := by decide +kernel
theorem dJ3_checkIndex_8e157_15 : decode cJ3_checkIndex_8e157 15 = .ok (.athrow, 1) := by decide +kernel
theorem dJ3_checkIndex_8e157_16 : decode cJ3_checkIndex_8e157 16 = .ok (.iload_n 0, 1) := by decide +kernel
theorem dJ3_checkIndex_8e157_17 : decode cJ3_checkIndex_8e157 17 = .ok (.ireturn, 1) := by decide +kernel
def JMet (l : Launch) (G : Gt) (y : MethodName) (cc : ByteArray) (nL : Nat) (ret : Option FieldType) (fr lo : Nat) (as : List Value) (M : Mm) (v : Option Value) : Prop :=
  vx_Met l y [.code y cc nL ret] { frames := fr, cells := 0, slots := 0, locals := lo } (Pcx G as M) (Qcx G (fun v' M' => v' = v ∧ M' = M)) (XCx G (fun _ _ => False)) 0 0 (fre G)
def JC (p : Program) (G : Gt) (own : String) (nL : Nat) (ret : Option FieldType) (cc : ByteArray) (s : State) (m : MethodId) (meth : Method) (c : Code) (M : Mm) : Prop :=
  p.tables.exec = Jvm.exec ∧ c.code = cc ∧ c.maxLocals = nL ∧ s.vm.findClass own = some m.cls ∧ Wd G s ∧ meth.sig.returnType = ret ∧ meth.locks = false ∧ ML G M s.heap
theorem jmet_of {l : Launch} {G : Gt} {y : MethodName} {cc : ByteArray} {nL : Nat} {ret : Option FieldType} {fr lo : Nat} {as : List Value} {M : Mm} {v : Option Value} (hy : plainName y.cls = true)
    (body : ∀ (p : Program) (e : Env) (s : State) (m : MethodId) (args : Array Value) (below : List Frame) (meth : Method) (c : Code), JC p G y.cls nL ret cc s m meth c M → W p l e { frames := fr, cells := 0, slots := 0, locals := lo } s m args below meth c s.heap [] 0 0 (ZZ G below (fun v' M' => v' = v ∧ M' = M) (fun _ _ => False) args s { frames := fr, cells := 0, slots := 0, locals := lo }) (F0 m 0 (ent as nL).toArray [])) : JMet l G y cc nL ret fr lo as M v := by
  refine vx_ofW (cc := cc) (maxL := nL) (ret := ret) hy rfl ?_
  intro p e s m args below meth c s₁ B hml hout hv
  obtain ⟨rfl, hWd, hM⟩ := hv
  rw [lg_entry_eq]
  exact body p e s m _ below meth c ⟨B.exec, B.bytes, hml, findClass_of_methodNamed B.named, hWd, B.returns, B.notSynchronized, hM⟩
theorem j_S {G : Gt} {M : Mm} {H0 H : Heap} {locs : List Loc} (h0 : ML G M H0) (hM : ML G M H) (hlo : lok G locs) : va_S (fun q => (gHb G).size ≤ q) H0 H locs :=
  ⟨by rw [h0.1, hM.1]; exact Nat.le_refl _, fun q hq hn => by have h := Nat.not_le.mp hn; rw [hM.2.2.2.1 q h, h0.2.2.2.1 q h], hlo⟩
section JD
variable {p : Program} {l : Launch} {e : Env} {R : Room} {s : State} {m : MethodId} {args : Array Value} {below : List Frame} {meth : Method} {c : Code} {H : Heap} {locs : List Loc} {Z : State → Prop}
variable {G : Gt} {own : String} {nL pc : Nat} {ret : Option FieldType} {cc : ByteArray} {ls : Array Slot} {M M0 : Mm} {nc ns : Nat}
theorem j_zret {ty : FieldType} {x : Int32} {v : Option Value} (C : JC p G own nL (some ty) cc s m meth c M) (hR : R.cells = 0 ∧ R.slots = 0) (hn : narrow ty (.int x) = .int x) (hv : v = some (.int x)) (d : decode cc pc = .ok (.ireturn, 1)) (hM : ML G M H) (hlo : lok G locs) :
    W p l e R s m args below meth c H locs 0 0 (ZZ G below (fun v' M' => v' = v ∧ M' = M) (fun _ _ => False) args s R) (F0 m pc ls [.int x]) := by
  obtain ⟨hx, hb, hml, hown, hW, hr, hlk, -⟩ := C
  refine W.widen (Nat.zero_le _) (Nat.zero_le _) (vx_ret (W.zret hx hb hr hn (fun t ht hW9 => ⟨_, M, rfl, ⟨hv.symm, rfl⟩, by rw [ht]; exact hM⟩) hlo d hlk))
theorem j_vret {v : Option Value} (C : JC p G own nL none cc s m meth c M) (hv : v = none) (d : decode cc pc = .ok (.return_, 1)) (hM : ML G M H) (hlo : lok G locs) :
    W p l e R s m args below meth c H locs 0 0 (ZZ G below (fun v' M' => v' = v ∧ M' = M) (fun _ _ => False) args s R) (F0 m pc ls []) := by
  obtain ⟨hx, hb, hml, hown, hW, hr, hlk, -⟩ := C
  refine W.widen (Nat.zero_le _) (Nat.zero_le _) (vx_ret (W.vret hx hb hr (fun t ht hW9 => ⟨none, M, rfl, ⟨hv.symm, rfl⟩, by rw [ht]; exact hM⟩) hlo d hlk))
/-- behind a call that changes nothing -/
theorem j_after {as rest : List Value} {st : List Value} {v : Option Value} (hr : vx_Run p l e R s m args below meth c H locs 0 0 0 0 (F0 m pc ls st) rest (Qcx G (fun v' M' => v' = v ∧ M' = M) as.toArray) (XCx G (fun _ _ => False)) (fre G)) (hlo : lok G locs)
    (kk : ∀ (H1 : Heap) (locs1 : List Loc), ML G M H1 → lok G locs1 → W p l e R s m args below meth c H1 locs1 0 0 Z (F0 m (pc + 3) ls (v.toList ++ rest))) : W p l e R s m args below meth c H locs 0 0 Z (F0 m pc ls st) := by
  intro T hT Xs
  rcases hr T hT Xs with ⟨w, st₀, t, T', L9, h0, X', hL9, e1, e2, ⟨v', M', hv, ⟨rfl, rfl⟩, hM'⟩, go⟩ | ⟨q, st₀, t, T', L9, E9, ce, h0, X', hL9, e1, e2, ⟨ex, M', -, hq, -⟩, -⟩
  · cases hv
    obtain ⟨t2, a1, b1⟩ := kk _ _ (by rw [e1]; exact hM') (fun z hz => (List.mem_append.mp hz).elim (hlo z) (hL9 z)) T' rfl X'
    exact ⟨t2, go t2 a1, b1⟩
  · exact hq.elim
theorem j_static {y : MethodName} {cy : ByteArray} {mL fr lo n ix : Nat} {rt : Option FieldType} {as rest : List Value} {v : Option Value} (C : JC p G own nL ret cc s m meth c M) (hMet : JMet l G y cy mL rt fr lo as M v) (hal : as.length = n) (hlk : Cond.methodLink own ix y ∈ TT) (hst : Cond.static y ∈ TT) (hin : Cond.initialized y.cls ∈ TT) (hcd : Cond.code y cy mL rt ∈ TT)
    (hmh : y.cls ≠ "java/lang/invoke/MethodHandle" ∧ y.cls ≠ "java/lang/invoke/VarHandle" ∧ (parseMethodDescriptor y.desc).map (fun d => d.parameters.length) = some n) (hR : fr + 1 ≤ R.frames ∧ 8 + (mL + 11) + lo ≤ R.locals) (d : decode cc pc = .ok (.invokestatic ix, 3)) (h8 : (rest.map fun v => v.category).sum ≤ 8) (hsz : ls.size = nL) (hM : ML G M H) (hlo : lok G locs)
    (kk : ∀ (H1 : Heap) (locs1 : List Loc), ML G M H1 → lok G locs1 → W p l e R s m args below meth c H1 locs1 0 0 Z (F0 m (pc + 3) ls (v.toList ++ rest))) : W p l e R s m args below meth c H locs 0 0 Z (F0 m pc ls (as.reverse ++ rest)) := by
  have hW := C.2.2.2.2.1
  have hts : ∀ w ∈ TT, w.before args s = true := fun w hw => hW.1 w hw args
  have hfix : CallFix p m c cc nL s args TT own := ⟨C.1, C.2.1, C.2.2.1, C.2.2.2.1, hts⟩
  have hPc : ∀ U : State, U.heap = H → s.WarmedH U.vm → Pcx G as M as.toArray U := fun U hU hw => ⟨rfl, hW.warm hw, by rw [hU]; exact hM⟩
  refine j_after (as := as) (rest := rest) (vx_runS hfix hMet (va_cwS n hts (goodIn_l (fun w hw => ?_)) rfl rfl rfl hmh hR) ⟨Pcx.blind G _ M, hPc⟩ rfl hal hsz rfl (lv_room h8) d ⟨Nat.zero_le _, Nat.zero_le _⟩) hlo kk
  unfold va_wsS at hw
  simp only [List.mem_append, List.mem_cons, List.not_mem_nil, or_false] at hw
  rcases hw with (rfl | rfl | rfl) | rfl
  · exact ⟨hlk, rfl⟩
  · exact ⟨hst, rfl⟩
  · exact ⟨hin, rfl⟩
  · exact ⟨hcd, rfl⟩
theorem j_virtual {y : MethodName} {cy : ByteArray} {mL fr lo n ix q : Nat} {rt : Option FieldType} {As rest : List Value} {v : Option Value} (C : JC p G own nL ret cc s m meth c M) (hMet : JMet l G y cy mL rt fr lo (.ref q :: As) M v) (hal : As.length = n) (hlk : Cond.methodLink own ix y ∈ TT) (hst : Cond.instanceMethod y ∈ TT) (hse : Cond.selects y.cls y y ∈ TT) (hin : Cond.initialized y.cls ∈ TT) (hcd : Cond.code y cy mL rt ∈ TT)
    (hmh : y.cls ≠ "java/lang/invoke/MethodHandle" ∧ y.cls ≠ "java/lang/invoke/VarHandle" ∧ (parseMethodDescriptor y.desc).map (fun d => d.parameters.length) = some n) (hR : fr + 1 ≤ R.frames ∧ 8 + (mL + 11) + lo ≤ R.locals) (d : decode cc pc = .ok (.invokevirtual ix, 3)) (h8 : (rest.map fun v => v.category).sum ≤ 8) (hsz : ls.size = nL) (hM : ML G M H) (hlo : lok G locs)
    (hcell : ∃ cell : Cell, H[q]? = some cell ∧ cell.vm.isStatics = false ∧ s.vm.findClass y.cls = some cell.cls)
    (kk : ∀ (H1 : Heap) (locs1 : List Loc), ML G M H1 → lok G locs1 → W p l e R s m args below meth c H1 locs1 0 0 Z (F0 m (pc + 3) ls (v.toList ++ rest))) : W p l e R s m args below meth c H locs 0 0 Z (F0 m pc ls (As.reverse ++ .ref q :: rest)) := by
  have hW := C.2.2.2.2.1
  have hts : ∀ w ∈ TT, w.before args s = true := fun w hw => hW.1 w hw args
  have hfix : CallFix p m c cc nL s args TT own := ⟨C.1, C.2.1, C.2.2.1, C.2.2.2.1, hts⟩
  have hPc : ∀ U : State, U.heap = H → s.WarmedH U.vm → Pcx G (.ref q :: As) M (Value.ref q :: As).toArray U := fun U hU hw => ⟨rfl, hW.warm hw, by rw [hU]; exact hM⟩
  refine j_after (as := .ref q :: As) (rest := rest) (vx_runV (C := y.cls) hfix hMet (cwV n hts (goodIn_l (fun w hw => ?_)) rfl rfl rfl ⟨rfl, hmh⟩ hR) ⟨Pcx.blind G _ M, hcell, hPc⟩ rfl hal hsz rfl (lv_room h8) d ⟨Nat.zero_le _, Nat.zero_le _⟩) hlo kk
  unfold wsV at hw
  simp only [List.mem_append, List.mem_cons, List.not_mem_nil, or_false] at hw
  rcases hw with (rfl | rfl | rfl | rfl) | rfl
  · exact ⟨hlk, rfl⟩
  · exact ⟨hst, rfl⟩
  · exact ⟨hse, rfl⟩
  · exact ⟨hin, rfl⟩
  · exact ⟨hcd, rfl⟩
end JD
theorem ent_z (as : List Value) {n : Nat} (h : (lg_sl as).length ≤ n) : (ent as n).toArray.size = n := (ent_LR as h).2.1
section JM
variable {l : Launch} {G : Gt} {M : Mm}
theorem j_coder (i : Nat) (hi : i < 10) : JMet l G yJ0_coder_7d493 cJ0_coder_7d493 1 (some .byte) 1 40 [.ref (gT G i)] M (some (.int 0)) := by
  refine jmet_of (by decide) fun p e s m args below meth c C => ?_
  have C9 := C
  obtain ⟨hx, hb, hml, hown, hW, hr, hlk, hM⟩ := C
  have hts : ∀ w ∈ TT, w.before args s = true := fun w hw => hW.1 w hw args
  have hS := j_S hM hM (locs := []) (fun _ h => by cases h)
  have hk : ∀ a : Nat, a < (gHb G).size → ¬ (gHb G).size ≤ a → s.heap[a]? = (gHb G)[a]? := fun a ha _ => hM.2.2.2.1 a ha
  have hZ := hW.2.2.2.2.2.2.2.1.1.kept hk
  obtain ⟨o1, o2, o3, o4⟩ := (hW.2.2.2.2.2.2.1.kept hk).1 i hi
  refine va_gets hx hb hZ hS hown (hts (Cond.fieldLink RJ0 38 "java/lang/String" "COMPACT_STRINGS" "Z") (List.mem_filter.mpr ⟨by decide +kernel, rfl⟩)) (fun _ h => h) dJ0_coder_7d493_0 ?_
  refine lv_if_eq (tgt := 13) hx hb dJ0_coder_7d493_3 (by decide) (fun h => absurd h (by decide)) (fun _ => ?_)
  refine lv_aload_n (i := 0) hx hb dJ0_coder_7d493_6 rfl rfl ?_
  refine vk_getf hx hb o2 hS hown (hts (Cond.fieldLink RJ0 15 "java/lang/String" "coder" "B") (List.mem_filter.mpr ⟨by decide +kernel, rfl⟩)) (fun _ h => h) dJ0_coder_7d493_7 ?_
  refine lv_goto (tgt := 14) hx hb dJ0_coder_7d493_10 (by decide) ?_
  exact j_zret C9 ⟨rfl, rfl⟩ rfl rfl dJ0_coder_7d493_14 hM (fun _ h => by cases h)
theorem j_isLatin1 (i : Nat) (hi : i < 10) : JMet l G yJ0_isLatin1_aae02 cJ0_isLatin1_aae02 1 (some .boolean) 1 40 [.ref (gT G i)] M (some (.int 1)) := by
  refine jmet_of (by decide) fun p e s m args below meth c C => ?_
  have C9 := C
  obtain ⟨hx, hb, hml, hown, hW, hr, hlk, hM⟩ := C
  have hts : ∀ w ∈ TT, w.before args s = true := fun w hw => hW.1 w hw args
  have hS := j_S hM hM (locs := []) (fun _ h => by cases h)
  have hk : ∀ a : Nat, a < (gHb G).size → ¬ (gHb G).size ≤ a → s.heap[a]? = (gHb G)[a]? := fun a ha _ => hM.2.2.2.1 a ha
  have hZ := hW.2.2.2.2.2.2.2.1.1.kept hk
  obtain ⟨o1, o2, o3, o4⟩ := (hW.2.2.2.2.2.2.1.kept hk).1 i hi
  refine va_gets hx hb hZ hS hown (hts (Cond.fieldLink RJ0 38 "java/lang/String" "COMPACT_STRINGS" "Z") (List.mem_filter.mpr ⟨by decide +kernel, rfl⟩)) (fun _ h => h) dJ0_isLatin1_aae02_0 ?_
  refine lv_if_eq (tgt := 17) hx hb dJ0_isLatin1_aae02_3 (by decide) (fun h => absurd h (by decide)) (fun _ => ?_)
  refine lv_aload_n (i := 0) hx hb dJ0_isLatin1_aae02_6 rfl rfl ?_
  refine vk_getf hx hb o2 hS hown (hts (Cond.fieldLink RJ0 15 "java/lang/String" "coder" "B") (List.mem_filter.mpr ⟨by decide +kernel, rfl⟩)) (fun _ h => h) dJ0_isLatin1_aae02_7 ?_
  refine lv_if_ne (tgt := 17) hx hb dJ0_isLatin1_aae02_10 (by decide) (fun h => absurd rfl h) (fun _ => ?_)
  refine lv_iconst hx hb dJ0_isLatin1_aae02_13 rfl ?_
  refine lv_goto (tgt := 18) hx hb dJ0_isLatin1_aae02_14 (by decide) ?_
  exact j_zret C9 ⟨rfl, rfl⟩ rfl rfl dJ0_isLatin1_aae02_18 hM (fun _ h => by cases h)
theorem j_pcheck (i n : Int32) (v : Value) (hv : lg_sl [.int i, .int n, v] = [.val (.int i), .val (.int n), .val v]) (h0 : ¬ i < 0) (h1 : i < n) : JMet l G yJ3_checkIndex_8e157 cJ3_checkIndex_8e157 3 (some .int) 1 40 [.int i, .int n, v] M (some (.int i)) := by
  refine jmet_of (by decide) fun p e s m args below meth c C => ?_
  have C9 := C
  obtain ⟨hx, hb, hml, hown, hW, hr, hlk, hM⟩ := C
  have e0 : (ent [.int i, .int n, v] 3).toArray = #[.val (.int i), .val (.int n), .val v] := by unfold ent; rw [hv]; rfl
  rw [e0]
  refine lv_iload_n (i := 0) hx hb dJ3_checkIndex_8e157_0 rfl rfl ?_
  refine lv_if_lt (tgt := 9) hx hb dJ3_checkIndex_8e157_1 (by decide) (fun h => absurd h h0) (fun _ => ?_)
  refine lv_iload_n (i := 0) hx hb dJ3_checkIndex_8e157_4 rfl rfl ?_
  refine lv_iload_n (i := 1) hx hb dJ3_checkIndex_8e157_5 rfl rfl ?_
  refine lv_icmp_lt (tgt := 16) hx hb dJ3_checkIndex_8e157_6 (by decide) (fun _ => ?_) (fun h => absurd h1 h)
  refine lv_iload_n (i := 0) hx hb dJ3_checkIndex_8e157_16 rfl rfl ?_
  exact j_zret C9 ⟨rfl, rfl⟩ rfl rfl dJ3_checkIndex_8e157_17 hM (fun _ h => by cases h)
theorem j_scheck (i n : Int32) (h0 : ¬ i < 0) (h1 : i < n) : JMet l G yJ0_checkIndex_df160 cJ0_checkIndex_df160 2 none 3 80 [.int i, .int n] M none := by
  refine jmet_of (by decide) fun p e s m args below meth c C => ?_
  have C9 := C
  obtain ⟨hx, hb, hml, hown, hW, hr, hlk, hM⟩ := C
  have hts : ∀ w ∈ TT, w.before args s = true := fun w hw => hW.1 w hw args
  have hS := j_S hM hM (locs := []) (fun _ h => by cases h)
  have hk : ∀ a : Nat, a < (gHb G).size → ¬ (gHb G).size ≤ a → s.heap[a]? = (gHb G)[a]? := fun a ha _ => hM.2.2.2.1 a ha
  have hZ := hW.2.2.2.2.2.2.2.1.2.kept hk
  have go : ∀ v : Value, lg_sl [.int i, .int n, v] = [.val (.int i), .val (.int n), .val v] → va_Z "jdk/internal/util/Preconditions" "SIOOBE_FORMATTER" "Ljava/util/function/BiFunction;" v (fun q => (gHb G).size ≤ q) s s.heap → W p l e { frames := 3, cells := 0, slots := 0, locals := 80 } s m args below meth c s.heap [] 0 0 (ZZ G below (fun v' M' => v' = none ∧ M' = M) (fun _ _ => False) args s { frames := 3, cells := 0, slots := 0, locals := 80 }) (F0 m 0 (ent [.int i, .int n] 2).toArray []) := by
    intro v hv hZ
    refine lv_iload_n (i := 0) hx hb dJ0_checkIndex_df160_0 rfl rfl ?_
    refine lv_iload_n (i := 1) hx hb dJ0_checkIndex_df160_1 rfl rfl ?_
    refine va_gets hx hb hZ hS hown (hts (Cond.fieldLink RJ0 1053 "jdk/internal/util/Preconditions" "SIOOBE_FORMATTER" "Ljava/util/function/BiFunction;") (List.mem_filter.mpr ⟨by decide +kernel, rfl⟩)) (fun _ h => h) dJ0_checkIndex_df160_2 ?_
    refine j_static (n := 3) (rest := []) (as := [.int i, .int n, v]) C9 (j_pcheck i n v hv h0 h1) rfl (List.mem_filter.mpr ⟨by decide +kernel, rfl⟩) (List.mem_filter.mpr ⟨by decide +kernel, rfl⟩) (List.mem_filter.mpr ⟨by decide +kernel, rfl⟩) (List.mem_filter.mpr ⟨by decide +kernel, rfl⟩) (by decide +kernel) ⟨by decide, by decide⟩ dJ0_checkIndex_df160_5 (Nat.le_of_ble_eq_true rfl) (ent_z _ (Nat.le_of_ble_eq_true rfl)) hM (fun _ h => by cases h) fun H1 locs1 hM1 hlo1 => ?_
    refine lv_pop hx hb dJ0_checkIndex_df160_8 rfl ?_
    exact j_vret C9 rfl dJ0_checkIndex_df160_9 hM1 hlo1
  rcases hZ with hZ | ⟨t, hZ⟩
  · exact go .null rfl hZ
  · exact go (.ref t) rfl hZ
end JM
theorem sB_c : ∀ i, i < 10 → ∀ k, k < (sB.getD i []).length → ((((sB.getD i []).getD k 0) &&& 255).toUInt32 % 65536).toInt32 = (sB.getD i []).getD k 0 ∧ narrow .char (.int ((sB.getD i []).getD k 0)) = .int ((sB.getD i []).getD k 0) := by decide +kernel
theorem sNB2 : ∀ i, i < 10 → sN.getD i 0 = (sB.getD i []).length ∧ (sB.getD i []).length < 100 := by decide +kernel
section JM2
variable {l : Launch} {G : Gt} {M : Mm}
theorem j_lcharAt (i : Nat) (hi : i < 10) (k : Int32) (hin : vp_in k (sN.getD i 0)) : JMet l G yJ1_charAt_3b067 cJ1_charAt_3b067 2 (some .char) 5 110 [.ref (gV G i), .int k] M (some (.int ((sB.getD i []).getD k.toNatClampNeg 0))) := by
  refine jmet_of (by decide) fun p e s m args below meth c C => ?_
  have C9 := C
  obtain ⟨hx, hb, hml, hown, hW, hr, hlk, hM⟩ := C
  have hS := j_S hM hM (locs := []) (fun _ h => by cases h)
  have hk : ∀ a : Nat, a < (gHb G).size → ¬ (gHb G).size ≤ a → s.heap[a]? = (gHb G)[a]? := fun a ha _ => hM.2.2.2.1 a ha
  obtain ⟨o1, o2, o3, o4⟩ := (hW.2.2.2.2.2.2.1.kept hk).1 i hi
  obtain ⟨n1, n2⟩ := sNB2 i hi
  have hin2 := hin
  unfold vp_in at hin2
  have h0 : ¬ k < 0 := fun h => hin2 (Or.inl h)
  have h1 : k.toNatClampNeg < sN.getD i 0 := Nat.not_le.mp fun h => hin2 (Or.inr h)
  obtain ⟨j, hj, ej⟩ := nI_of h0
  have ej2 : k.toNatClampNeg = j := by rw [ej]; exact nI_clamp hj
  have h2 : k < Int32.ofNat (sN.getD i 0) := by
    rw [ej]
    exact (nI_ltI (by omega) (by omega)).mpr (by omega)
  obtain ⟨b1, b2⟩ := sB_c i hi k.toNatClampNeg (by omega)
  refine lv_iload_n (i := 1) hx hb dJ1_charAt_3b067_0 rfl rfl ?_
  refine lv_aload_n (i := 0) hx hb dJ1_charAt_3b067_1 rfl rfl ?_
  refine va_tlen hx hb o4 hS rfl dJ1_charAt_3b067_2 ?_
  refine j_static (n := 2) (rest := []) (as := [.int k, .int (Int32.ofNat (sN.getD i 0))]) C9 (j_scheck k _ h0 h2) rfl (List.mem_filter.mpr ⟨by decide +kernel, rfl⟩) (List.mem_filter.mpr ⟨by decide +kernel, rfl⟩) (List.mem_filter.mpr ⟨by decide +kernel, rfl⟩) (List.mem_filter.mpr ⟨by decide +kernel, rfl⟩) (by decide +kernel) ⟨by decide, by decide⟩ dJ1_charAt_3b067_3 (Nat.le_of_ble_eq_true rfl) (ent_z _ (Nat.le_of_ble_eq_true rfl)) hM (fun _ h => by cases h) fun H1 locs1 hM1 hlo1 => ?_
  have hS1 := j_S hM hM1 hlo1
  refine lv_aload_n (i := 0) hx hb dJ1_charAt_3b067_6 rfl rfl ?_
  refine lv_iload_n (i := 1) hx hb dJ1_charAt_3b067_7 rfl rfl ?_
  refine va_tb hx hb o4 hS1 hin rfl dJ1_charAt_3b067_8 ?_
  refine lv_sipush hx hb dJ1_charAt_3b067_9 rfl ?_
  refine lv_iand hx hb dJ1_charAt_3b067_12 ?_
  refine lv_i2c hx hb dJ1_charAt_3b067_13 b1 ?_
  exact j_zret C9 ⟨rfl, rfl⟩ b2 rfl dJ1_charAt_3b067_14 hM1 hlo1
theorem j_charAt (q : Nat) (k : Int32) (hq : isS (gK M q)) (hin : vp_in k (sN.getD (kSi (gK M q)) 0)) : JMet l G yJ0_charAt_5068e cJ0_charAt_5068e 2 (some .char) 10 300 [.ref q, .int k] M (some (.int ((sB.getD (kSi (gK M q)) []).getD k.toNatClampNeg 0))) := by
  obtain ⟨i, hki⟩ := isS_of hq
  rw [hki, kSi_e] at hin ⊢
  refine jmet_of (by decide) fun p e s m args below meth c C => ?_
  have C9 := C
  obtain ⟨hx, hb, hml, hown, hW, hr, hlk, hM⟩ := C
  obtain ⟨g1, hi, rfl⟩ := (hM.2.2.2.2 q).s hki
  have hts : ∀ w ∈ TT, w.before args s = true := fun w hw => hW.1 w hw args
  have hS := j_S hM hM (locs := []) (fun _ h => by cases h)
  have hk : ∀ a : Nat, a < (gHb G).size → ¬ (gHb G).size ≤ a → s.heap[a]? = (gHb G)[a]? := fun a ha _ => hM.2.2.2.1 a ha
  obtain ⟨o1, o2, o3, o4⟩ := (hW.2.2.2.2.2.2.1.kept hk).1 i hi
  obtain ⟨n1, n2⟩ := sNB2 i hi
  have h1 : k.toNatClampNeg < sN.getD i 0 := Nat.not_le.mp fun h => hin (Or.inr h)
  obtain ⟨b1, b2⟩ := sB_c i hi k.toNatClampNeg (by omega)
  obtain ⟨cell, c1, c2, c3, -⟩ := o1
  refine lv_aload_n (i := 0) hx hb dJ0_charAt_5068e_0 rfl rfl ?_
  refine j_virtual (n := 0) (rest := []) (As := []) C9 (j_isLatin1 i hi) rfl (List.mem_filter.mpr ⟨by decide +kernel, rfl⟩) (List.mem_filter.mpr ⟨by decide +kernel, rfl⟩) (List.mem_filter.mpr ⟨by decide +kernel, rfl⟩) (List.mem_filter.mpr ⟨by decide +kernel, rfl⟩) (List.mem_filter.mpr ⟨by decide +kernel, rfl⟩) (by decide +kernel) ⟨by decide, by decide⟩ dJ0_charAt_5068e_1 (Nat.le_of_ble_eq_true rfl) (ent_z _ (Nat.le_of_ble_eq_true rfl)) hM (fun _ h => by cases h) ⟨cell, c1, c2, c3⟩ fun H1 locs1 hM1 hlo1 => ?_
  have hS1 := j_S hM hM1 hlo1
  refine lv_if_eq (tgt := 16) hx hb dJ0_charAt_5068e_4 (by decide) (fun h => absurd h (by decide)) (fun _ => ?_)
  refine lv_aload_n (i := 0) hx hb dJ0_charAt_5068e_7 rfl rfl ?_
  refine vk_getf hx hb o3 hS1 hown (hts (Cond.fieldLink RJ0 9 "java/lang/String" "value" "[B") (List.mem_filter.mpr ⟨by decide +kernel, rfl⟩)) (fun _ h => h) dJ0_charAt_5068e_8 ?_
  refine lv_iload_n (i := 1) hx hb dJ0_charAt_5068e_11 rfl rfl ?_
  refine j_static (n := 2) (rest := []) (as := [.ref (gV G i), .int k]) C9 (j_lcharAt i hi k hin) rfl (List.mem_filter.mpr ⟨by decide +kernel, rfl⟩) (List.mem_filter.mpr ⟨by decide +kernel, rfl⟩) (List.mem_filter.mpr ⟨by decide +kernel, rfl⟩) (List.mem_filter.mpr ⟨by decide +kernel, rfl⟩) (by decide +kernel) ⟨by decide, by decide⟩ dJ0_charAt_5068e_12 (Nat.le_of_ble_eq_true rfl) (ent_z _ (Nat.le_of_ble_eq_true rfl)) hM1 hlo1 fun H2 locs2 hM2 hlo2 => ?_
  exact j_zret C9 ⟨rfl, rfl⟩ b2 rfl dJ0_charAt_5068e_15 hM2 hlo2
theorem j_length (q : Nat) (hq : isS (gK M q)) : JMet l G yJ0_length_8abf5 cJ0_length_8abf5 1 (some .int) 10 300 [.ref q] M (some (.int (nI (sN.getD (kSi (gK M q)) 0)))) := by
  obtain ⟨i, hki⟩ := isS_of hq
  rw [hki, kSi_e]
  refine jmet_of (by decide) fun p e s m args below meth c C => ?_
  have C9 := C
  obtain ⟨hx, hb, hml, hown, hW, hr, hlk, hM⟩ := C
  obtain ⟨g1, hi, rfl⟩ := (hM.2.2.2.2 q).s hki
  have hts : ∀ w ∈ TT, w.before args s = true := fun w hw => hW.1 w hw args
  have hS := j_S hM hM (locs := []) (fun _ h => by cases h)
  have hk : ∀ a : Nat, a < (gHb G).size → ¬ (gHb G).size ≤ a → s.heap[a]? = (gHb G)[a]? := fun a ha _ => hM.2.2.2.1 a ha
  obtain ⟨o1, o2, o3, o4⟩ := (hW.2.2.2.2.2.2.1.kept hk).1 i hi
  obtain ⟨cell, c1, c2, c3, -⟩ := o1
  refine lv_aload_n (i := 0) hx hb dJ0_length_8abf5_0 rfl rfl ?_
  refine vk_getf hx hb o3 hS hown (hts (Cond.fieldLink RJ0 9 "java/lang/String" "value" "[B") (List.mem_filter.mpr ⟨by decide +kernel, rfl⟩)) (fun _ h => h) dJ0_length_8abf5_1 ?_
  refine va_tlen hx hb o4 hS rfl dJ0_length_8abf5_4 ?_
  refine lv_aload_n (i := 0) hx hb dJ0_length_8abf5_5 rfl rfl ?_
  refine j_virtual (n := 0) (rest := [.int (Int32.ofNat (sN.getD i 0))]) (As := []) C9 (j_coder i hi) rfl (List.mem_filter.mpr ⟨by decide +kernel, rfl⟩) (List.mem_filter.mpr ⟨by decide +kernel, rfl⟩) (List.mem_filter.mpr ⟨by decide +kernel, rfl⟩) (List.mem_filter.mpr ⟨by decide +kernel, rfl⟩) (List.mem_filter.mpr ⟨by decide +kernel, rfl⟩) (by decide +kernel) ⟨by decide, by decide⟩ dJ0_length_8abf5_6 (Nat.le_of_ble_eq_true rfl) (ent_z _ (Nat.le_of_ble_eq_true rfl)) hM (fun _ h => by cases h) ⟨cell, c1, c2, c3⟩ fun H1 locs1 hM1 hlo1 => ?_
  refine lv_ishr hx hb dJ0_length_8abf5_9 ?_
  exact j_zret C9 ⟨rfl, rfl⟩ rfl (by rw [show ((0 : Int32) &&& 31) = 0 from rfl, Int32.shiftRight_zero]; rfl) dJ0_length_8abf5_10 hM1 hlo1
theorem t_JS_length : SatM l G 900 S900 := by
  intro as M hp
  unfold S900 at hp ⊢
  split at hp
  case h_2 => exact hp.elim
  exact j_length _ hp
theorem t_JS_charAt : SatM l G 901 S901 := by
  intro as M hp
  unfold S901 at hp ⊢
  split at hp
  case h_2 => exact hp.elim
  exact j_charAt _ _ hp.1 hp.2
end JM2
