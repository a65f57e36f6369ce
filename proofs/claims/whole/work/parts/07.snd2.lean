/-! ===== the abstract machine is sound: fields, arrays, new cells ===== -/
section SND2
variable {p : Program} {l : Launch} {e : Env} {R : Room} {s : State} {m : MethodId} {args : Array Value} {below : List Frame} {meth : Method} {c : Code} {H : Heap} {locs : List Loc} {Z : State → Prop}
variable {G : Gt} {own nL pc len a b : Nat} {ret : Option FieldType} {cc : ByteArray} {ls : Array Slot} {i : Instr} {L : List Slot} {st : List Value} {M : Mm} {nc ns : Nat} {k : Kt} {cv : Value}
theorem lok.add {G : Gt} {locs : List Loc} (h : lok G locs) {x : Loc} (hx : (gHb G).size ≤ x.base) : lok G (locs ++ [x]) := by
  intro q hq
  rcases List.mem_append.mp hq with h1 | h1
  · exact h q h1
  · rw [List.mem_singleton.mp h1]
    exact hx
def ckgf (own : Nat) (i : Instr) (len a b : Nat) (f : FieldType → Bool) : Bool := match i with
  | .getfield ix => len == 3 && ckfl own ix a b && f (xty a b)
  | _ => false
theorem x_getf (C : Cx p l G own nL ret cc s m meth c) {ix q : Nat} (d : decode cc pc = .ok (.getfield ix, 3)) (ck : ckfl own ix a b = true) (hM : ML G M H) (hk : gK M q = kO a) {v : Value} (hv : mv M q b (xty a b) = v)
    (kk : W p l e R s m args below meth c H locs nc ns Z (F0 m (pc + 3) ls (v :: st))) : W p l e R s m args below meth c H locs nc ns Z (F0 m pc ls (.ref q :: st)) := by
  obtain ⟨hx, hb, hml, hown, hW, -⟩ := C
  unfold ckfl at ck
  simp only [Bool.and_eq_true, decide_eq_true_eq] at ck
  obtain ⟨⟨hf, ha⟩, hb9⟩ := ck
  obtain ⟨-, -, cell, e1, e2, e3, e4⟩ := (hM.2.2.2.2 q).o hk
  obtain ⟨hS, hfc, kC, hkC, hkind⟩ := hW.2.1 a ha
  obtain ⟨cf, kf, fi, f, hi, hsl⟩ := hS b hb9
  have hts : ∀ w ∈ TT, w.before args s = true := fun w hw => hW.1 w hw args
  refine W.getf hx hb hown (hts _ (flk_in _ hf)) hi (u_facts hfc hkC (u_lays hts (xws_in ha) hb9) hi).1 e1 (by rw [e3]; exact fun h => by cases h) (v := v) ?_ rfl rfl d kk
  rw [hsl, e4 b hb9]
  exact congrArg some hv
theorem s_getI (C : Cx p l G own nL ret cc s m meth c) (d : decode cc pc = .ok (i, len)) (ck : ckgf own i len a b intl = true) (h : wr st fun q r => gK M q = kO a ∧ k L (.int (gI M q b) :: r) M nc ns) (hk : KW p l e R s m args below meth c G nL Z k (pc + len)) (hM : ML G M H) (hlo : lok G locs) (hL : LR ls nL L) (hc : nc ≤ R.cells) (hs : ns ≤ R.slots) :
    W p l e R s m args below meth c H locs nc ns Z (F0 m pc ls st) := by
  replace h := wr_inv h
  obtain ⟨q, r, rfl, hq, h⟩ := h
  unfold ckgf at ck
  split at ck
  · simp only [Bool.and_eq_true, beq_iff_eq] at ck
    obtain ⟨⟨rfl, ck⟩, ct⟩ := ck
    exact x_getf C d ck hM hq (mv_i ct _ _ _) (hk _ _ _ _ _ h _ _ _ hM hlo hL hc hs)
  · cases ck
theorem s_getJ (C : Cx p l G own nL ret cc s m meth c) (d : decode cc pc = .ok (i, len)) (ck : ckgf own i len a b (fun t => decide (t = .long)) = true) (h : wr st fun q r => gK M q = kO a ∧ k L (.long (gJ M q b) :: r) M nc ns) (hk : KW p l e R s m args below meth c G nL Z k (pc + len)) (hM : ML G M H) (hlo : lok G locs) (hL : LR ls nL L) (hc : nc ≤ R.cells) (hs : ns ≤ R.slots) :
    W p l e R s m args below meth c H locs nc ns Z (F0 m pc ls st) := by
  replace h := wr_inv h
  obtain ⟨q, r, rfl, hq, h⟩ := h
  unfold ckgf at ck
  split at ck
  · simp only [Bool.and_eq_true, beq_iff_eq, decide_eq_true_eq] at ck
    obtain ⟨⟨rfl, ck⟩, ct⟩ := ck
    exact x_getf C d ck hM hq (by rw [ct]; rfl) (hk _ _ _ _ _ h _ _ _ hM hlo hL hc hs)
  · cases ck
theorem s_getP (C : Cx p l G own nL ret cc s m meth c) (d : decode cc pc = .ok (i, len)) (ck : ckgf own i len a b refl9 = true) (h : wr st fun q r => gK M q = kO a ∧ gP M q b ≠ 0 ∧ k L (.ref (gP M q b) :: r) M nc ns) (hk : KW p l e R s m args below meth c G nL Z k (pc + len)) (hM : ML G M H) (hlo : lok G locs) (hL : LR ls nL L) (hc : nc ≤ R.cells) (hs : ns ≤ R.slots) :
    W p l e R s m args below meth c H locs nc ns Z (F0 m pc ls st) := by
  replace h := wr_inv h
  obtain ⟨q, r, rfl, hq, hn, h⟩ := h
  unfold ckgf at ck
  split at ck
  · simp only [Bool.and_eq_true, beq_iff_eq] at ck
    obtain ⟨⟨rfl, ck⟩, ct⟩ := ck
    exact x_getf C d ck hM hq ((mv_r ct _ _ _).trans (rf_n hn)) (hk _ _ _ _ _ h _ _ _ hM hlo hL hc hs)
  · cases ck
/-- a store into a field: the new memory differs at that place alone -/
theorem x_putf {M' : Mm} (C : Cx p l G own nL ret cc s m meth c) {ix q : Nat} (d : decode cc pc = .ok (.putfield ix, 3)) (ck : ckfl own ix a b = true) (hM : ML G M H) (hk : gK M q = kO a) {v : Value} (hfin : (xT a b).2.2.2 = false ∨ (meth.name = "<init>" ∧ (xT a b).1 = xR own))
    (hn : narrow (xty a b) v = v) (hf : fits (xty a b) v = true) (hz : gZ M' = gZ M) (hK : gK M' = gK M) (ho : ∀ z, z ≠ q → gI M' z = gI M z ∧ gJ M' z = gJ M z ∧ gP M' z = gP M z) (hv : mv M' q b (xty a b) = v) (hj : ∀ j, j ≠ b → gI M' q j = gI M q j ∧ gJ M' q j = gJ M q j ∧ gP M' q j = gP M q j) (hlo : lok G locs)
    (kk : ∀ H' locs', ML G M' H' → lok G locs' → W p l e R s m args below meth c H' locs' nc ns Z (F0 m (pc + 3) ls st)) : W p l e R s m args below meth c H locs nc ns Z (F0 m pc ls (v :: .ref q :: st)) := by
  obtain ⟨hx, hb, hml, hown, hW, -⟩ := C
  unfold ckfl at ck
  simp only [Bool.and_eq_true, decide_eq_true_eq] at ck
  obtain ⟨⟨hfl, ha⟩, hb9⟩ := ck
  obtain ⟨hq9, -, cell, e1, e2, e3, e4⟩ := (hM.2.2.2.2 q).o hk
  obtain ⟨hS, hfc, kC, hkC, hkind⟩ := hW.2.1 a ha
  obtain ⟨cf, kf, fi, f, hi, hsl⟩ := hS b hb9
  have hts : ∀ w ∈ TT, w.before args s = true := fun w hw => hW.1 w hw args
  have hap := hW.ap (args := args) ha
  have hst := (u_facts hfc hkC (u_lays hts (xws_in ha) hb9) hi).1
  have hlay := hts _ (xws_in ha _ (u_in_lay hb9))
  have hty := xty_ok ha b hb9
  have fin : ∀ H' : Heap, H'[q]? = some (cell.setSlot f.slot v) → H'.size = H.size → (∀ z, z ≠ q → H'[z]? = H[z]?) → ML G M' H' := by
    intro H' f1 f2 f3
    refine hM.up hz f2 f3 hq9 (fun z hz => ⟨by rw [hK], (ho z hz).1, (ho z hz).2.1, (ho z hz).2.2⟩) ?_
    unfold kOK
    rw [hK, hk]
    refine ⟨hq9, ha, t_OB.to (V := updV (fun j => mv M q j (xty a j)) b v) ⟨_, f1, e2, e3, by rw [hsl]; exact t_set e4 hap hb9 v⟩ (fun j _ => ?_)⟩
    unfold updV
    by_cases hjb : j = b
    · rw [if_pos hjb, hjb, hv]
    · rw [if_neg hjb]
      exact (mv_cg (hj j hjb).1 (hj j hjb).2.1 (hj j hjb).2.2).symm
  by_cases hF : (xT a b).2.2.2 = false
  · unfold u_lay at hlay
    rw [if_neg (by rw [hF]; decide)] at hlay
    have h6 := u_store hfc hkC hkind hlay hi hty hn hf
    refine W.putK hx hb (f := f) ⟨hown, hts _ (flk_in _ hfl), ⟨_, _, _, hi⟩, hst⟩ (by rw [e2]; exact h6) e1 e3 (by rw [hsl]; exact k2_hasslot (e4 b hb9)) rfl rfl d fun H' f1 f2 f3 => ?_
    exact kk H' _ (fin H' f1 f2 f3) (hlo.add hq9)
  · have hT : (xT a b).2.2.2 = true := by
      cases h9 : (xT a b).2.2.2 with
      | true => rfl
      | false => exact absurd h9 hF
    obtain ⟨hin, hdecl⟩ := hfin.resolve_left hF
    unfold u_lay at hlay
    rw [if_pos hT] at hlay
    have hcf : m.cls = cf := by
      obtain ⟨_, _, c', _, _, _, -, -, hf', -, -, -, hown2, -⟩ := Cond.laysFinal_spec hlay
      have g1 : c' = cf := by have := hi.symm.trans hf'; simp at this; exact this.1.symm
      rw [hdecl] at hown2
      rw [← g1]; exact Option.some.inj (hown.symm.trans hown2)
    have h6 := u_fits hfc hkC hkind (u_lays hts (xws_in ha) hb9) hi hty hn hf
    refine W.putFinK hx hb hown (hts _ (flk_in _ hfl)) hi hst hcf hin (by rw [e2]; exact h6) e1 e3 (by rw [hsl]; exact k2_hasslot (e4 b hb9)) rfl rfl d fun H' f1 f2 f3 => ?_
    exact kk H' _ (fin H' f1 f2 f3) (hlo.add hq9)
def ckpf (own : Nat) (ini : Bool) (i : Instr) (len a b : Nat) (f : FieldType → Bool) : Bool := match i with
  | .putfield ix => len == 3 && ckfl own ix a b && f (xty a b) && ((xT a b).2.2.2 == false || (ini && decide ((xT a b).1 = xR own)))
  | _ => false
theorem s_putI {ini : Bool} (C : Cx p l G own nL ret cc s m meth c) (hini : ini = true → meth.name = "<init>") (d : decode cc pc = .ok (i, len)) (ck : ckpf own ini i len a b (fun t => decide (t = .int)) = true) (h : wi st fun x r => wr r fun q r => gK M q = kO a ∧ k L r (sI M q (upd (gI M q) b x)) nc ns) (hk : KW p l e R s m args below meth c G nL Z k (pc + len)) (hM : ML G M H) (hlo : lok G locs) (hL : LR ls nL L) (hc : nc ≤ R.cells) (hs : ns ≤ R.slots) :
    W p l e R s m args below meth c H locs nc ns Z (F0 m pc ls st) := by
  replace h := wi_inv h
  obtain ⟨x, r, rfl, h⟩ := h
  replace h := wr_inv h
  obtain ⟨q, r, rfl, hq, h⟩ := h
  unfold ckpf at ck
  split at ck
  · simp only [Bool.and_eq_true, Bool.or_eq_true, beq_iff_eq, decide_eq_true_eq] at ck
    obtain ⟨⟨⟨rfl, ck⟩, ct⟩, cf⟩ := ck
    refine x_putf (M' := sI M q (upd (gI M q) b x)) C d ck hM hq (cf.imp id fun z => ⟨hini z.1, z.2⟩) (by rw [ct]; rfl) (by rw [ct]; rfl) rfl rfl (fun z hz => ⟨up_n _ _ hz, rfl, rfl⟩) ?_ (fun j hj => ⟨?_, rfl, rfl⟩) hlo fun H' locs' h1 h2 => hk _ _ _ _ _ h _ _ _ h1 h2 hL hc hs
    · rw [ct]
      show Value.int _ = _
      rw [gI_sI, up_s]
      exact congrArg Value.int (if_pos rfl)
    · rw [gI_sI, up_s]
      exact if_neg hj
  · cases ck
theorem s_putZ {ini : Bool} (C : Cx p l G own nL ret cc s m meth c) (hini : ini = true → meth.name = "<init>") (d : decode cc pc = .ok (i, len)) (ck : ckpf own ini i len a b (fun t => decide (t = .boolean)) = true) (h : wi st fun x r => wr r fun q r => gK M q = kO a ∧ vp_nar .boolean x = x ∧ k L r (sI M q (upd (gI M q) b x)) nc ns) (hk : KW p l e R s m args below meth c G nL Z k (pc + len)) (hM : ML G M H) (hlo : lok G locs) (hL : LR ls nL L) (hc : nc ≤ R.cells) (hs : ns ≤ R.slots) :
    W p l e R s m args below meth c H locs nc ns Z (F0 m pc ls st) := by
  replace h := wi_inv h
  obtain ⟨x, r, rfl, h⟩ := h
  replace h := wr_inv h
  obtain ⟨q, r, rfl, hq, hx9, h⟩ := h
  unfold ckpf at ck
  split at ck
  · simp only [Bool.and_eq_true, Bool.or_eq_true, beq_iff_eq, decide_eq_true_eq] at ck
    obtain ⟨⟨⟨rfl, ck⟩, ct⟩, cf⟩ := ck
    have hx1 : x = 0 ∨ x = 1 := by
      have e9 : x &&& 1 = x := hx9
      obtain ⟨j, hj, e⟩ := pk_andE x (m := 1) 1 (by decide)
      rw [← e9, e]
      rcases (show j = 0 ∨ j = 1 by omega) with rfl | rfl
      · exact Or.inl rfl
      · exact Or.inr rfl
    refine x_putf (M' := sI M q (upd (gI M q) b x)) C d ck hM hq (cf.imp id fun z => ⟨hini z.1, z.2⟩) (by rw [ct, nar_z, hx9]) (by rw [ct]; rcases hx1 with rfl | rfl <;> decide) rfl rfl (fun z hz => ⟨up_n _ _ hz, rfl, rfl⟩) ?_ (fun j hj => ⟨?_, rfl, rfl⟩) hlo fun H' locs' h1 h2 => hk _ _ _ _ _ h _ _ _ h1 h2 hL hc hs
    · rw [ct]
      show Value.int _ = _
      rw [gI_sI, up_s]
      exact congrArg Value.int (if_pos rfl)
    · rw [gI_sI, up_s]
      exact if_neg hj
  · cases ck
theorem s_putJ {ini : Bool} (C : Cx p l G own nL ret cc s m meth c) (hini : ini = true → meth.name = "<init>") (d : decode cc pc = .ok (i, len)) (ck : ckpf own ini i len a b (fun t => decide (t = .long)) = true) (h : wl st fun x r => wr r fun q r => gK M q = kO a ∧ k L r (sJ M q (vp_updL (gJ M q) b x)) nc ns) (hk : KW p l e R s m args below meth c G nL Z k (pc + len)) (hM : ML G M H) (hlo : lok G locs) (hL : LR ls nL L) (hc : nc ≤ R.cells) (hs : ns ≤ R.slots) :
    W p l e R s m args below meth c H locs nc ns Z (F0 m pc ls st) := by
  replace h := wl_inv h
  obtain ⟨x, r, rfl, h⟩ := h
  replace h := wr_inv h
  obtain ⟨q, r, rfl, hq, h⟩ := h
  unfold ckpf at ck
  split at ck
  · simp only [Bool.and_eq_true, Bool.or_eq_true, beq_iff_eq, decide_eq_true_eq] at ck
    obtain ⟨⟨⟨rfl, ck⟩, ct⟩, cf⟩ := ck
    refine x_putf (M' := sJ M q (vp_updL (gJ M q) b x)) C d ck hM hq (cf.imp id fun z => ⟨hini z.1, z.2⟩) (by rw [ct]; rfl) (by rw [ct]; rfl) rfl rfl (fun z hz => ⟨rfl, up_n _ _ hz, rfl⟩) ?_ (fun j hj => ⟨rfl, ?_, rfl⟩) hlo fun H' locs' h1 h2 => hk _ _ _ _ _ h _ _ _ h1 h2 hL hc hs
    · rw [ct]
      show Value.long _ = _
      rw [gJ_sJ, up_s]
      exact congrArg Value.long (if_pos rfl)
    · rw [gJ_sJ, up_s]
      exact if_neg hj
  · cases ck
theorem s_putP {ini : Bool} (C : Cx p l G own nL ret cc s m meth c) (hini : ini = true → meth.name = "<init>") (d : decode cc pc = .ok (i, len)) (ck : ckpf own ini i len a b refl9 = true) (h : wr st fun x r => wr r fun q r => gK M q = kO a ∧ x ≠ 0 ∧ k L r (sP M q (upN (gP M q) b x)) nc ns) (hk : KW p l e R s m args below meth c G nL Z k (pc + len)) (hM : ML G M H) (hlo : lok G locs) (hL : LR ls nL L) (hc : nc ≤ R.cells) (hs : ns ≤ R.slots) :
    W p l e R s m args below meth c H locs nc ns Z (F0 m pc ls st) := by
  replace h := wr_inv h
  obtain ⟨x, r, rfl, h⟩ := h
  replace h := wr_inv h
  obtain ⟨q, r, rfl, hq, hx9, h⟩ := h
  unfold ckpf at ck
  split at ck
  · simp only [Bool.and_eq_true, Bool.or_eq_true, beq_iff_eq, decide_eq_true_eq] at ck
    obtain ⟨⟨⟨rfl, ck⟩, ct⟩, cf⟩ := ck
    have hn : narrow (xty a b) (.ref x) = .ref x ∧ fits (xty a b) (.ref x) = true := by
      generalize xty a b = t at ct
      cases t <;> simp_all [refl9, narrow, fits]
    refine x_putf (M' := sP M q (upN (gP M q) b x)) C d ck hM hq (cf.imp id fun z => ⟨hini z.1, z.2⟩) hn.1 hn.2 rfl rfl (fun z hz => ⟨rfl, rfl, up_n _ _ hz⟩) ?_ (fun j hj => ⟨rfl, rfl, ?_⟩) hlo fun H' locs' h1 h2 => hk _ _ _ _ _ h _ _ _ h1 h2 hL hc hs
    · rw [mv_r ct, gP_sP, up_s]
      show rf (va_up _ _ _ _) = _
      rw [up_s, rf_n hx9]
    · rw [gP_sP, up_s]
      exact up_n _ _ hj
  · cases ck
end SND2
