/-! ===== methods with handlers ===== -/
def ctx (t : Nat) : Nat := if t = 13 then 0 else if t = 24 then 1 else 2
/-- the handler that takes the exception ex at pc -/
def hxF : List (Nat × Nat × Nat × Nat) → Nat → Nat → Option Nat
  | [], _, _ => none
  | (a, b, h, t) :: r, pc, ex => if a ≤ pc ∧ pc < b ∧ ctx t = ex then some h else hxF r pc ex
def okT : List (Nat × Nat × Nat × Nat) → Bool
  | [] => true
  | q :: r => (q.2.2.2 == 13 || q.2.2.2 == 24 || q.2.2.2 == 72) && r.all (fun x => [(0, 1), (2, 0), (2, 1)].contains (ctx x.2.2.2, ctx q.2.2.2)) && okT r
theorem hxF_mem : ∀ {r : List (Nat × Nat × Nat × Nat)} {pc ex h : Nat}, hxF r pc ex = some h → ∃ x ∈ r, ctx x.2.2.2 = ex
  | [], _, _, _, g => by cases g
  | (a, b, h', t) :: r, pc, ex, h, g => by
    unfold hxF at g
    split at g
    · rename_i c
      exact ⟨_, List.mem_cons_self, c.2.2⟩
    · obtain ⟨x, h1, h2⟩ := hxF_mem g
      exact ⟨x, List.mem_cons_of_mem _ h1, h2⟩
theorem nm_link (t : Nat) (h : t = 13 ∨ t = 24 ∨ t = 72) : Cond.classLink (xR 12) t (xE (ctx t)) ∈ TT := by
  rcases h with rfl | rfl | rfl
  · exact List.mem_filter.mpr ⟨by decide +kernel, rfl⟩
  · exact List.mem_filter.mpr ⟨by decide +kernel, rfl⟩
  · exact List.mem_filter.mpr ⟨by decide +kernel, rfl⟩
theorem nm_cast (t : Nat) (h : t = 13 ∨ t = 24 ∨ t = 72) : Cond.castable (xE (ctx t)) (xE (ctx t)) ∈ TT := by
  rcases h with rfl | rfl | rfl
  · exact List.mem_filter.mpr ⟨by decide +kernel, rfl⟩
  · exact List.mem_filter.mpr ⟨by decide +kernel, rfl⟩
  · exact List.mem_filter.mpr ⟨by decide +kernel, rfl⟩
theorem nm_nc {G : Gt} {s : State} (hW : Wd G s) {e f : Nat} (h : (e, f) ∈ [(0, 1), (2, 0), (2, 1)]) : va_Nc (xE e) (xE f) s := by
  have h9 := hW.2.2.2.2.2.2.2.2
  simp only [List.mem_cons, Prod.mk.injEq, List.not_mem_nil, or_false] at h
  rcases h with ⟨rfl, rfl⟩ | ⟨rfl, rfl⟩ | ⟨rfl, rfl⟩
  · exact h9.1
  · exact h9.2.1
  · exact h9.2.2
section CATCH
variable {p : Program} {l : Launch} {e : Env} {R : Room} {s : State} {m : MethodId} {args : Array Value} {below : List Frame} {meth : Method} {c : Code} {H : Heap} {locs : List Loc} {cells slots : Nat} {Q : State → Prop}
variable {G : Gt} {pc : Nat} {ls : Array Slot} {rest : List Value}
theorem catchH (hown : s.vm.findClass (xR 12) = some m.cls) (hW : Wd G s) {q ex : Nat} {ce : Cell} (hce : H[q]? = some ce) (hcv : ce.vm = .none) (hcl : s.vm.findClass (xE ex) = some ce.cls) {h : Nat} (kk : W p l e R s m args below meth c H locs cells slots Q (F0 m h ls [.ref q])) :
    ∀ (hh : List (Nat × Nat × Nat × Nat)) (pre : List ExceptionTableEntry), okT hh = true → c.exceptionTable.toList = pre ++ tableOf hh → (∀ z ∈ pre, covers z pc = false ∨ (z.catchType ≠ 0 ∧ ∃ nm : String, (Cond.classLink (xR 12) z.catchType nm).before args s = true ∧ va_Nc (xE ex) nm s)) → hxF hh pc ex = some h → vx_W p l e R s m args below meth c H locs cells slots Q (F0 m pc ls rest) q
  | [], _, _, _, _, g => by cases g
  | (a, b, h', t) :: r, pre, ho, ht, hp, g => by
    unfold okT at ho
    simp only [Bool.and_eq_true, Bool.or_eq_true, beq_iff_eq] at ho
    obtain ⟨⟨o1, o2⟩, o3⟩ := ho
    have o1' : t = 13 ∨ t = 24 ∨ t = 72 := by
      rcases o1 with (z | z) | z
      · exact Or.inl z
      · exact Or.inr (Or.inl z)
      · exact Or.inr (Or.inr z)
    have t0 : t ≠ 0 := by omega
    have hl : (Cond.classLink (xR 12) t (xE (ctx t))).before args s = true := hW.1 _ (nm_link t o1') args
    unfold hxF at g
    by_cases hm : a ≤ pc ∧ pc < b ∧ ctx t = ex
    · rw [if_pos hm] at g
      cases g
      obtain ⟨m1, m2, m3⟩ := hm
      subst m3
      exact vx_catch hown pre ⟨a, b, h, t⟩ (tableOf r) ht hp (by simp [covers, m1, m2]) t0 hl (hW.1 _ (nm_cast t o1') args) hce hcv hcl kk
    · rw [if_neg hm] at g
      refine catchH hown hW hce hcv hcl kk r (pre ++ [⟨a, b, h', t⟩]) o3 (by rw [ht]; simp [tableOf]) ?_ g
      intro z hz
      rcases List.mem_append.mp hz with z1 | z1
      · exact hp z z1
      · have z2 := List.mem_singleton.mp z1
        subst z2
        by_cases hc : a ≤ pc ∧ pc < b
        · right
          refine ⟨t0, _, hl, nm_nc hW ?_⟩
          obtain ⟨x, x1, x2⟩ := hxF_mem g
          have := List.all_eq_true.mp o2 x x1
          rw [x2] at this
          exact List.contains_iff_mem.mp this
        · left
          simp only [covers, Bool.and_eq_false_iff, decide_eq_false_iff_not]
          omega
end CATCH
section SATH
variable {l : Launch} {G : Gt} {id : Nat} {S : Sem} {E : Nat → Sem} {ids : List Nat} {K : Code9} {hh : List (Nat × Nat × Nat × Nat)}
theorem sat_ofH (hfl : l.stackTraces = false) (hw : calK id) (hown : (cY id).cls = xR 12) (hH : cH id = hh) (hne : hh ≠ []) (hT : okT hh = true) (hok : okC 12 (cL9 id) (cF id) (cO id) (cR id) (cC id) (decide ((cY id).name = "<init>")) false ids K = true) (hE : ∀ id ∈ ids, SatM l G id (E id) ∧ calK id)
    (hX0 : ∀ as M ex N, ¬ (S as M).2.2 ex N)
    (hrun : ∀ as M, (S as M).1 → (lg_sl as).length ≤ cL9 id ∧ Run (gT G) E (cM id) (cS id) (hxF hh) (S as M).2.1 (S as M).2.2 K 0 (ent as (cL9 id)) [] M 0 0) : SatM l G id S := by
  intro as M hpre
  obtain ⟨h1, h2⟩ := hrun as M hpre
  have hcw := cwd_1 (id := id) (by rw [hH]; exact hne)
  have hTT : cwd id ∈ TT := hw.1
  rw [hcw] at hTT ⊢
  refine vx_ofWH (cc := cC id) (maxL := cL9 id) (ret := cR id) (hh := cH id) hw.w.2.2.1 rfl ?_
  intro p e s m args below meth c s₁ B hml hv
  obtain ⟨rfl, hWd, hM⟩ := hv
  have C : Cx p l G 12 (cL9 id) (cR id) (cC id) s m meth c := ⟨B.exec, B.bytes, hml, by rw [← hown]; exact findClass_of_methodNamed B.named, hWd, B.returns, B.notSynchronized, hfl, hM.2.2.2.1⟩
  have htab : c.exceptionTable.toList = tableOf hh := by
    rw [← hH]
    exact vx_table (x := cY id) B (hWd.1 _ hTT as.toArray)
  have hX : XW p l e ({ frames := cF id, cells := cM id, slots := cS id, locals := cO id } : Room) s m as.toArray below meth c G (hxF hh) (S as M).2.1 (S as M).2.2 := by
    intro pc ex M' H locs nc ns ls st q ce g1 g2 g3 g4 g5 g6 g7 g8
    cases hx : hxF hh pc ex with
    | none =>
      rw [hx] at g8
      exact (hX0 _ _ _ _ g8).elim
    | some h =>
      rw [hx] at g8
      exact catchH C.2.2.2.1 hWd g5 g6 g7 g8 hh [] hT htab (fun z hz => by cases hz) hx
  rw [lg_entry_eq]
  exact run_sound (nt := false) (fr := cF id) (lo := cO id) C rfl rfl (fun h => (name_of_methodNamed B.named B.method).1.trans (of_decide_eq_true h)) (fun h => by cases h) hE hX hok 0 _ _ _ _ _ h2 _ _ _ hM (fun _ h => by cases h) (ent_LR as h1) (Nat.zero_le _) (Nat.zero_le _)
end SATH
/-- a contract that returns a number of the exception -/
def sHp (pre : Prop) (bad : Option Nat) (f : Nat → Int32) (N M : Mm) : Prop × (Option Value → Mm → Prop) × (Nat → Mm → Prop) := (pre, fun v' M' => (bad = none ∧ v' = some (.int 0) ∧ M' = N) ∨ (∃ e z, bad = some e ∧ v' = some (.int (f e)) ∧ gZ M ≤ z ∧ M' = sZ M z), fun _ _ => False)
theorem sF_X (ex : Nat) (N : Mm) : ¬ sF.2.2 ex N := fun h => h
theorem bI_or (i n : Int32) : bI i n = none ∨ bI i n = some 1 := by
  unfold bI
  split
  · exact Or.inr rfl
  · exact Or.inl rfl
theorem bR_or (x lo hi : Int32) : bR x lo hi = none ∨ bR x lo hi = some 0 := by
  unfold bR
  split
  · exact Or.inr rfl
  · exact Or.inl rfl
theorem hnd_e (HX : Nat → Nat → Option Nat) (J : Jt) (X : Nat → Mm → Prop) (pc : Nat) (L : List Slot) (e : Nat) (M' : Mm) (n1 n2 : Nat) {h : Nat} (hh : HX pc e = some h) : hnd HX J X pc L e M' n1 n2 = ∀ q, J h L [.ref q] M' n1 n2 := by
  unfold hnd
  rw [hh]
