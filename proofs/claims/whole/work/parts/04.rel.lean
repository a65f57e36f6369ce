/-! ===== what ties the abstract machine to the machine: words, memory, locals ===== -/
def okw (w : Cond) : Bool := goodWord w || (match w with
  | .methodLinkNest _ _ _ _ => true
  | .castable _ _ => true
  | .declares _ => true
  | .arrayOver _ => true
  | _ => false)
/-- the tables' words that stay under warming -/
def TT : List Cond := lw_tbl.filter okw
theorem TT_in {w : Cond} (i : Nat) (h : lw_tbl[i]? = some w) (hw : okw w = true) : w ∈ TT := List.mem_filter.mpr ⟨List.mem_of_getElem? h, hw⟩
theorem okw_at {s U : State} (hW : s.WarmedH U.vm) {w : Cond} (hw : okw w = true) {args a' : Array Value} (h : w.before args s = true) : w.before a' U = true := by
  unfold okw at hw
  rcases Bool.or_eq_true _ _ |>.mp hw with g | g
  · exact word_at hW (good_of_word g) h
  · split at g
    · exact va_Nw.use rfl (va_Nw.warmM hW (va_Nw.of rfl h))
    · exact va_Nw.use rfl (va_Nw.warmC hW (va_Nw.of rfl h))
    · exact va_tabs (A := args) rfl (rfl : (s.setVm U.vm).vm = U.vm) (by rw [Cond.declares_setVm hW.alike]; exact h)
    · rename_i ty
      have e : (Cond.arrayOver ty).before args (s.setVm U.vm) = true := by
        rw [Cond.arrayOver_setVmC hW.alike ty]
        exact h
      exact e
    · cases g
def xR : Nat → String := fun i => [RX0, RX1, RX2, RX3, RX4, RX5, RX6, RX7, RX8, RX9, RX10, RX11].getD i RL
def xE : Nat → String := fun i => ["java/lang/IllegalArgumentException", "java/lang/IndexOutOfBoundsException"].getD i "java/lang/IllegalStateException"
def xty : Nat → Nat → FieldType := fun i => [tyX0, tyX1, tyX2, tyX3, tyX4, tyX5, tyX6, tyX7, tyX8, tyX9, tyX10].getD i tyX11
def xN : Nat → Nat := fun i => (vwCl.getD i ("", TX0, 0)).2.2
def xT : Nat → u_T := fun i => (vwCl.getD i ("", TX0, 0)).2.1
theorem xcl {ci : Nat} (h : ci < 12) : vwCl[ci]? = some (xR ci, xT ci, xN ci) := by
  rcases (show ci = 0 ∨ ci = 1 ∨ ci = 2 ∨ ci = 3 ∨ ci = 4 ∨ ci = 5 ∨ ci = 6 ∨ ci = 7 ∨ ci = 8 ∨ ci = 9 ∨ ci = 10 ∨ ci = 11 by omega) with rfl | rfl | rfl | rfl | rfl | rfl | rfl | rfl | rfl | rfl | rfl | rfl <;> rfl
theorem xty_ok {ci : Nat} (h : ci < 12) : ∀ k, k < xN ci → parseFieldDescriptor (xT ci k).2.2.1 = some (xty ci k) := by
  rcases (show ci = 0 ∨ ci = 1 ∨ ci = 2 ∨ ci = 3 ∨ ci = 4 ∨ ci = 5 ∨ ci = 6 ∨ ci = 7 ∨ ci = 8 ∨ ci = 9 ∨ ci = 10 ∨ ci = 11 by omega) with rfl | rfl | rfl | rfl | rfl | rfl | rfl | rfl | rfl | rfl | rfl | rfl
  · exact tyX0_ok
  · exact tyX1_ok
  · exact tyX2_ok
  · exact tyX3_ok
  · exact tyX4_ok
  · exact tyX5_ok
  · exact tyX6_ok
  · exact tyX7_ok
  · exact tyX8_ok
  · exact tyX9_ok
  · exact tyX10_ok
  · exact tyX11_ok
theorem xnm_ok {ci : Nat} (h : ci < 12) : ∀ a, a < xN ci → ∀ b, b < xN ci → a ≠ b → (xT ci a).2.1 ≠ (xT ci b).2.1 := by
  rcases (show ci = 0 ∨ ci = 1 ∨ ci = 2 ∨ ci = 3 ∨ ci = 4 ∨ ci = 5 ∨ ci = 6 ∨ ci = 7 ∨ ci = 8 ∨ ci = 9 ∨ ci = 10 ∨ ci = 11 by omega) with rfl | rfl | rfl | rfl | rfl | rfl | rfl | rfl | rfl | rfl | rfl | rfl
  · exact nmX0
  · exact nmX1
  · exact nmX2
  · exact nmX3
  · exact nmX4
  · exact nmX5
  · exact nmX6
  · exact nmX7
  · exact nmX8
  · exact nmX9
  · exact nmX10
  · exact nmX11
set_option maxRecDepth 100000 in
theorem xws_all : ((List.range 12).flatMap fun ci => u_ws (xR ci) (xT ci) (xN ci)).all (fun w => decide (w ∈ lw_tbl) && okw w) = true := by decide +kernel
theorem xws_in {ci : Nat} (h : ci < 12) : ∀ w ∈ u_ws (xR ci) (xT ci) (xN ci), w ∈ TT := by
  intro w hw
  have h1 := List.all_eq_true.mp xws_all w (List.mem_flatMap.mpr ⟨ci, List.mem_range.mpr h, hw⟩)
  simp only [Bool.and_eq_true, decide_eq_true_eq] at h1
  exact List.mem_filter.mpr h1
/-! == memory == -/
def rf (n : Nat) : Value := if n = 0 then .null else .ref n
def mv (M : Mm) (a k : Nat) (ty : FieldType) : Value := match ty with
  | .long => .long (gJ M a k)
  | .object _ => rf (gP M a k)
  | .array _ => rf (gP M a k)
  | _ => .int (gI M a k)
/-- the start's heap; classes and slots; array classes; the script's address and cell; the texts' addresses, and their bytes' -/
abbrev Gt : Type := Heap × va_G × (FieldType → ClassId) × Nat × Cell × (Nat → Nat) × (Nat → Nat)
abbrev gHb (G : Gt) : Heap := G.1
abbrev gD (G : Gt) : va_G := G.2.1
abbrev gA (G : Gt) : FieldType → ClassId := G.2.2.1
abbrev gB (G : Gt) : Nat := G.2.2.2.1
abbrev gS (G : Gt) : Cell := G.2.2.2.2.1
abbrev gT (G : Gt) : Nat → Nat := G.2.2.2.2.2.1
abbrev gV (G : Gt) : Nat → Nat := G.2.2.2.2.2.2
def kOK (G : Gt) (M : Mm) (H : Heap) (q : Nat) : Prop := match gK M q with
  | none => True
  | some (.inl ci) => (gHb G).size ≤ q ∧ ci < 12 ∧ t_OB q ((gD G).1 ci) (xN ci) ((gD G).2 ci) H (fun k => mv M q k (xty ci k))
  | some (.inr (.inl (ty, n))) => (gHb G).size ≤ q ∧ n < 2 ^ 31 ∧ (∃ b, ty = aty b) ∧ H[q]? = some (arrV (gA G ty) n (fun k => mv M q k ty))
  | some (.inr (.inr (.inl n))) => q < (gHb G).size ∧ q = gB G ∧ n < 2 ^ 31 ∧ (gHb G)[q]? = some (gS G) ∧ (gS G).vm ≠ .unknown ∧ (gS G).slots.size = n ∧ ∀ j, j < n → (gS G).slots[j]? = some (.int (gI M q j))
  | some (.inr (.inr (.inr i))) => q < (gHb G).size ∧ i < 10 ∧ q = gT G i
def ML (G : Gt) (M : Mm) (H : Heap) : Prop := H.size = gZ M ∧ 0 < (gHb G).size ∧ (gHb G).size ≤ H.size ∧ (∀ q, q < (gHb G).size → H[q]? = (gHb G)[q]?) ∧ ∀ q, kOK G M H q
theorem kOK.o {G : Gt} {M : Mm} {H : Heap} {q ci : Nat} (h : kOK G M H q) (k : gK M q = kO ci) : (gHb G).size ≤ q ∧ ci < 12 ∧ t_OB q ((gD G).1 ci) (xN ci) ((gD G).2 ci) H (fun k => mv M q k (xty ci k)) := by
  unfold kOK at h
  rw [k] at h
  exact h
theorem kOK.a {G : Gt} {M : Mm} {H : Heap} {q n : Nat} {ty : FieldType} (h : kOK G M H q) (k : gK M q = kA ty n) : (gHb G).size ≤ q ∧ n < 2 ^ 31 ∧ (∃ b, ty = aty b) ∧ H[q]? = some (arrV (gA G ty) n (fun k => mv M q k ty)) := by
  unfold kOK at h
  rw [k] at h
  exact h
theorem kOK.r {G : Gt} {M : Mm} {H : Heap} {q n : Nat} (h : kOK G M H q) (k : gK M q = kR n) : q < (gHb G).size ∧ q = gB G ∧ n < 2 ^ 31 ∧ (gHb G)[q]? = some (gS G) ∧ (gS G).vm ≠ .unknown ∧ (gS G).slots.size = n ∧ ∀ j, j < n → (gS G).slots[j]? = some (.int (gI M q j)) := by
  unfold kOK at h
  rw [k] at h
  exact h
theorem kOK.s {G : Gt} {M : Mm} {H : Heap} {q i : Nat} (h : kOK G M H q) (k : gK M q = kS i) : q < (gHb G).size ∧ i < 10 ∧ q = gT G i := by
  unfold kOK at h
  rw [k] at h
  exact h
theorem kd_cases (k : Kd) : k = none ∨ (∃ ci, k = kO ci) ∨ (∃ ty n, k = kA ty n) ∨ (∃ n, k = kR n) ∨ ∃ i, k = kS i := by
  rcases k with _ | ci | ⟨ty, n⟩ | n | i
  · exact Or.inl rfl
  · exact Or.inr (Or.inl ⟨ci, rfl⟩)
  · exact Or.inr (Or.inr (Or.inl ⟨ty, n, rfl⟩))
  · exact Or.inr (Or.inr (Or.inr (Or.inl ⟨n, rfl⟩)))
  · exact Or.inr (Or.inr (Or.inr (Or.inr ⟨i, rfl⟩)))
theorem kOK.lt {G : Gt} {M : Mm} {H : Heap} {q : Nat} (h : kOK G M H q) (hs : (gHb G).size ≤ H.size) (hn : gK M q ≠ none) : q < H.size := by
  rcases kd_cases (gK M q) with k | ⟨ci, k⟩ | ⟨ty, n, k⟩ | ⟨n, k⟩ | ⟨i, k⟩
  · exact absurd k hn
  · obtain ⟨-, -, cell, h1, -⟩ := h.o k
    exact (Array.getElem?_eq_some_iff.mp h1).1
  · exact (Array.getElem?_eq_some_iff.mp (h.a k).2.2.2).1
  · exact Nat.lt_of_lt_of_le (h.r k).1 hs
  · exact Nat.lt_of_lt_of_le (h.s k).1 hs
theorem mv_cg {M M' : Mm} {q k : Nat} {ty : FieldType} (h1 : gI M' q k = gI M q k) (h2 : gJ M' q k = gJ M q k) (h3 : gP M' q k = gP M q k) : mv M' q k ty = mv M q k ty := by
  unfold mv
  split <;> simp only [h1, h2, h3]
theorem kOK.cg {G : Gt} {M M' : Mm} {H H' : Heap} {q : Nat} (h : kOK G M H q) (h0 : gK M' q = gK M q) (h1 : gI M' q = gI M q) (h2 : gJ M' q = gJ M q) (h3 : gP M' q = gP M q) (h4 : H'[q]? = H[q]?) : kOK G M' H' q := by
  have e : ∀ k ty, mv M' q k ty = mv M q k ty := fun k ty => mv_cg (by rw [h1]) (by rw [h2]) (by rw [h3])
  unfold kOK at h ⊢
  rw [h0]
  split at h
  · trivial
  · refine ⟨h.1, h.2.1, ?_⟩
    simp only [e]
    exact t_OB.kept h.2.2 h4
  · simp only [e, h4]
    exact h
  · simp only [h1]
    exact h
  · exact h
/-- one cell changes -/
theorem ML.up {G : Gt} {M M' : Mm} {H H' : Heap} {a : Nat} (h : ML G M H) (hz : gZ M' = gZ M) (e2 : H'.size = H.size) (e3 : ∀ q, q ≠ a → H'[q]? = H[q]?) (ha : (gHb G).size ≤ a)
    (ho : ∀ q, q ≠ a → gK M' q = gK M q ∧ gI M' q = gI M q ∧ gJ M' q = gJ M q ∧ gP M' q = gP M q) (hat : kOK G M' H' a) : ML G M' H' := by
  obtain ⟨h1, h0, h2, h3, h4⟩ := h
  refine ⟨by rw [e2, hz]; exact h1, h0, by rw [e2]; exact h2, fun q hq => by rw [e3 q (by omega)]; exact h3 q hq, fun q => ?_⟩
  by_cases hq : q = a
  · rw [hq]; exact hat
  · obtain ⟨o1, o2, o3, o4⟩ := ho q hq
    exact (h4 q).cg o1 o2 o3 o4 (e3 q hq)
/-- one cell more -/
theorem ML.nw {G : Gt} {M : Mm} {k : Kd} {H H' : Heap} (h : ML G M H) (e2 : H'.size = H.size + 1) (e3 : ∀ q, q < H.size → H'[q]? = H[q]?) (hat : kOK G (nO M k) H' (gZ M)) : ML G (nO M k) H' := by
  obtain ⟨h1, h0, h2, h3, h4⟩ := h
  refine ⟨by rw [e2, h1]; rfl, h0, by omega, fun q hq => by rw [e3 q (by omega)]; exact h3 q hq, fun q => ?_⟩
  by_cases hq : q = gZ M
  · rw [hq]; exact hat
  · have hK : gK (nO M k) q = gK M q := up_n _ _ hq
    rcases kd_cases (gK M q) with hn | hn
    · unfold kOK
      rw [hK, hn]
      trivial
    · have hlt := (h4 q).lt h2 (by rintro e; rw [e] at hn; simp [kO, kA, kR, kS] at hn)
      exact (h4 q).cg hK (up_n _ _ hq) (up_n _ _ hq) (up_n _ _ hq) (e3 q hlt)
/-- cells that nobody speaks of come -/
theorem ML.z {G : Gt} {M : Mm} {H H' : Heap} (h : ML G M H) (e2 : H.size ≤ H'.size) (e3 : ∀ q, q < H.size → H'[q]? = H[q]?) : ML G (sZ M H'.size) H' := by
  obtain ⟨h1, h0, h2, h3, h4⟩ := h
  refine ⟨rfl, h0, by omega, fun q hq => by rw [e3 q (by omega)]; exact h3 q hq, fun q => ?_⟩
  rcases kd_cases (gK M q) with hn | hn
  · unfold kOK
    rw [show gK (sZ M H'.size) q = gK M q from rfl, hn]
    trivial
  · exact (h4 q).cg rfl rfl rfl rfl (e3 q ((h4 q).lt h2 (by rintro e; rw [e] at hn; simp [kO, kA, kR, kS] at hn)))
/-! == locals == -/
def asc : Nat → List Slot → List (Nat × Value)
  | _, [] => []
  | i, .val v :: l => (i, v) :: asc (i + 1) l
  | i, .unset :: l => asc (i + 1) l
  | i, .second :: l => asc (i + 1) l
theorem asc_in : ∀ (L : List Slot) (i j : Nat) (v : Value), (j, v) ∈ asc i L ↔ i ≤ j ∧ ldS L (j - i) = .val v
  | [], i, j, v => by simp [asc, ldS]
  | u :: l, i, j, v => by
    have ih := asc_in l (i + 1) j v
    have key : ∀ (h : ¬ j = i), (i + 1 ≤ j ∧ ldS l (j - (i + 1)) = .val v) ↔ (i ≤ j ∧ ldS (u :: l) (j - i) = .val v) := by
      intro h
      constructor
      · rintro ⟨a, b⟩
        refine ⟨by omega, ?_⟩
        rw [show j - i = (j - (i + 1)) + 1 by omega, ldS_s]
        exact b
      · rintro ⟨a, b⟩
        refine ⟨by omega, ?_⟩
        rw [show j - i = (j - (i + 1)) + 1 by omega, ldS_s] at b
        exact b
    have k0 : j = i → ldS (u :: l) (j - i) = u := fun e => by rw [e, Nat.sub_self, ldS_0]
    cases u with
    | val w =>
      simp only [asc, List.mem_cons, Prod.mk.injEq, ih]
      by_cases h : j = i
      · rw [k0 h]
        constructor
        · rintro (⟨-, rfl⟩ | ⟨a, -⟩)
          · exact ⟨by omega, rfl⟩
          · omega
        · rintro ⟨-, b⟩
          cases b
          exact Or.inl ⟨h, rfl⟩
      · rw [← key h]
        constructor
        · rintro (⟨a, -⟩ | b)
          · exact absurd a h
          · exact b
        · exact Or.inr
    | unset =>
      simp only [asc, ih]
      by_cases h : j = i
      · rw [k0 h]
        constructor
        · rintro ⟨a, -⟩; omega
        · rintro ⟨-, b⟩; cases b
      · exact key h
    | second =>
      simp only [asc, ih]
      by_cases h : j = i
      · rw [k0 h]
        constructor
        · rintro ⟨a, -⟩; omega
        · rintro ⟨-, b⟩; cases b
      · exact key h
theorem ldS_lt : ∀ (L : List Slot) (i : Nat) (v : Value), ldS L i = .val v → i < L.length
  | [], _, _, h => by cases h
  | _ :: _, 0, _, _ => Nat.zero_lt_succ _
  | _ :: l, i + 1, v, h => Nat.succ_lt_succ (ldS_lt l i v h)
theorem stS_len : ∀ (L : List Slot) (i : Nat) (v : Value), (stS L i v).length = L.length
  | [], _, _ => rfl
  | _ :: _, 0, _ => rfl
  | _ :: l, i + 1, v => congrArg Nat.succ (stS_len l i v)
theorem ldS_stS : ∀ (L : List Slot) (i j : Nat) (v w : Value), ldS (stS L i v) j = .val w → (j = i ∧ w = v) ∨ (j ≠ i ∧ ldS L j = .val w ∧ (j + 1 = i → dpL (.val w) = .val w))
  | [], _, _, _, _, h => by cases h
  | u :: l, 0, 0, v, w, h => by cases h; exact Or.inl ⟨rfl, rfl⟩
  | u :: l, 0, j + 1, v, w, h => Or.inr ⟨by omega, h, by omega⟩
  | u :: l, i + 1, 0, v, w, h => by
    refine Or.inr ⟨by omega, ?_⟩
    rw [show ldS (stS (u :: l) (i + 1) v) 0 = (if i = 0 then dpL u else u) from rfl] at h
    rw [ldS_0]
    by_cases hi : i = 0
    · rw [if_pos hi] at h
      have hu : u = .val w := by
        cases u with
        | unset => cases h
        | second => cases h
        | val x => cases x <;> simp_all [dpL]
      subst hu
      exact ⟨rfl, fun _ => h⟩
    · rw [if_neg hi] at h
      exact ⟨h, fun e => by omega⟩
  | u :: l, i + 1, j + 1, v, w, h => by
    rcases ldS_stS l i j v w h with ⟨a, b⟩ | ⟨a, b, c⟩
    · exact Or.inl ⟨by omega, b⟩
    · exact Or.inr ⟨by omega, b, fun e => c (by omega)⟩
theorem dpL_cat {w : Value} (h : dpL (.val w) = .val w) : ¬ w.category = 2 := by
  cases w <;> simp_all [dpL, Value.category]
theorem stL_len : ∀ (L : List Slot) (i : Nat) (v : Value), (stL L i v).length = L.length
  | [], _, _ => rfl
  | _ :: [], _, _ => rfl
  | _ :: _ :: _, 0, _ => rfl
  | _ :: w :: l, i + 1, v => congrArg Nat.succ (stL_len (w :: l) i v)
theorem ldS_stL : ∀ (L : List Slot) (i j : Nat) (v w : Value), ldS (stL L i v) j = .val w → (j = i ∧ w = v) ∨ (j ≠ i ∧ j ≠ i + 1 ∧ ldS L j = .val w ∧ (j + 1 = i → dpL (.val w) = .val w))
  | [], _, _, _, _, h => by cases h
  | _ :: [], _, 0, _, _, h => by cases h
  | _ :: [], _, _ + 1, _, _, h => by cases h
  | _ :: _ :: l, 0, 0, v, w, h => by cases h; exact Or.inl ⟨rfl, rfl⟩
  | _ :: _ :: l, 0, 1, v, w, h => by cases h
  | _ :: _ :: l, 0, j + 2, v, w, h => Or.inr ⟨by omega, by omega, h, by omega⟩
  | u :: x :: l, i + 1, 0, v, w, h => by
    refine Or.inr ⟨by omega, by omega, ?_⟩
    rw [show ldS (stL (u :: x :: l) (i + 1) v) 0 = (if i = 0 then dpL u else u) from rfl] at h
    rw [ldS_0]
    by_cases hi : i = 0
    · rw [if_pos hi] at h
      have hu : u = .val w := by
        cases u with
        | unset => cases h
        | second => cases h
        | val x => cases x <;> simp_all [dpL]
      subst hu
      exact ⟨rfl, fun _ => h⟩
    · rw [if_neg hi] at h
      exact ⟨h, fun e => by omega⟩
  | u :: x :: l, i + 1, j + 1, v, w, h => by
    rcases ldS_stL (x :: l) i j v w h with ⟨a, b⟩ | ⟨a, a2, b, c⟩
    · exact Or.inl ⟨by omega, b⟩
    · exact Or.inr ⟨by omega, by omega, b, fun e => c (by omega)⟩
/-- the locals hold what is known of them -/
def LR (ls : Array Slot) (nL : Nat) (L : List Slot) : Prop := L.length = nL ∧ lv_has ls nL (asc 0 L)
theorem LR.ld {ls : Array Slot} {nL i : Nat} {L : List Slot} {v : Value} (h : LR ls nL L) (hv : ldS L i = .val v) : ls[i]? = some (.val v) :=
  h.2.2.2 (i, v) ((asc_in L 0 i v).mpr ⟨Nat.zero_le _, hv⟩)
theorem LR.mem {ls : Array Slot} {nL i : Nat} {L : List Slot} {v : Value} (_ : LR ls nL L) (hv : ldS L i = .val v) : ∃ k : Nat, (asc 0 L)[k]? = some (i, v) :=
  List.getElem?_of_mem ((asc_in L 0 i v).mpr ⟨Nat.zero_le _, hv⟩)
theorem LR.st {ls ls' : Array Slot} {nL i : Nat} {L : List Slot} {v : Value} (h : LR ls nL L) (h' : lv_has ls' nL ((i, v) :: (asc 0 L).filter (fun q => !(q.1 == i) && !(q.1 + 1 == i && q.2.category == 2)))) : LR ls' nL (stS L i v) := by
  refine ⟨(stS_len L i v).trans h.1, h'.1, h'.2.1, fun q hq => h'.2.2 q ?_⟩
  obtain ⟨j, w⟩ := q
  have hq := ((asc_in _ 0 j w).mp hq).2
  rcases ldS_stS L i j v w hq with ⟨rfl, rfl⟩ | ⟨a, b, c⟩
  · exact List.mem_cons_self
  · refine List.mem_cons_of_mem _ (List.mem_filter.mpr ⟨(asc_in L 0 j w).mpr ⟨Nat.zero_le _, b⟩, ?_⟩)
    have : ¬ (j + 1 = i ∧ w.category = 2) := fun e => dpL_cat (c e.1) e.2
    simp [a]
    by_cases e : j + 1 = i
    · exact Or.inr fun e2 => this ⟨e, e2⟩
    · exact Or.inl e
theorem LR.st2 {ls ls' : Array Slot} {nL i : Nat} {L : List Slot} {v : Value} (h : LR ls nL L) (h' : lv_has ls' nL ((i, v) :: (asc 0 L).filter (fun q => !(q.1 == i) && (!(q.1 == i + 1) && !(q.1 + 1 == i && q.2.category == 2))))) : LR ls' nL (stL L i v) := by
  refine ⟨(stL_len L i v).trans h.1, h'.1, h'.2.1, fun q hq => h'.2.2 q ?_⟩
  obtain ⟨j, w⟩ := q
  have hq := ((asc_in _ 0 j w).mp hq).2
  rcases ldS_stL L i j v w hq with ⟨rfl, rfl⟩ | ⟨a, a2, b, c⟩
  · exact List.mem_cons_self
  · refine List.mem_cons_of_mem _ (List.mem_filter.mpr ⟨(asc_in L 0 j w).mpr ⟨Nat.zero_le _, b⟩, ?_⟩)
    have : ¬ (j + 1 = i ∧ w.category = 2) := fun e => dpL_cat (c e.1) e.2
    simp [a, a2]
    by_cases e : j + 1 = i
    · exact Or.inr fun e2 => this ⟨e, e2⟩
    · exact Or.inl e
/-! == what a state knows == -/
def ldS9 : List (Nat × Nat × Nat) := [(7, 53, 0), (7, 67, 3), (7, 77, 5), (7, 87, 6), (7, 101, 7), (7, 150, 2), (7, 155, 1), (7, 180, 4), (7, 207, 8), (7, 212, 9), (11, 111, 8), (11, 117, 9), (11, 119, 5), (11, 136, 1), (11, 138, 2), (11, 143, 4), (11, 145, 0), (11, 149, 3), (11, 156, 6), (11, 161, 7)]
def sX : List String := ["canal", "from", "share", "field", "over", "turn", "guard", "inflow", "hour", "day"]
def sB : List (List Int32) := sX.map fun t => t.toList.map fun ch => nI ch.toNat
def sN : List Nat := sX.map String.length
/-- two statics of the JDK's; what no handler takes -/
def WdX (G : Gt) (U : State) : Prop := (va_Z "java/lang/String" "COMPACT_STRINGS" "Z" (.int 1) (fun q => (gHb G).size ≤ q) U (gHb G) ∧ va_Zq "jdk/internal/util/Preconditions" "SIOOBE_FORMATTER" "Ljava/util/function/BiFunction;" (fun q => (gHb G).size ≤ q) U (gHb G)) ∧
  va_Nc "java/lang/IllegalArgumentException" "java/lang/IndexOutOfBoundsException" U ∧ va_Nc "java/lang/IllegalStateException" "java/lang/IllegalArgumentException" U ∧ va_Nc "java/lang/IllegalStateException" "java/lang/IndexOutOfBoundsException" U
theorem WdX.moved {G : Gt} {u U : State} (hA : u.vm.Alike U.vm) (h : WdX G u) : WdX G U := ⟨⟨h.1.1.moved hA, h.1.2.moved hA⟩, h.2.1.moved hA, h.2.2.1.moved hA, h.2.2.2.moved hA⟩
def Wd (G : Gt) (U : State) : Prop := (∀ w ∈ TT, ∀ a : Array Value, w.before a U = true) ∧ (∀ ci, ci < 12 → u_Kn U (xR ci) (xT ci) (xN ci) ((gD G).1 ci) ((gD G).2 ci)) ∧
  (∀ b, ArrOfT U (gA G (aty b)) (aty b) ∧ va_RA U (gA G (aty b)) (aty b)) ∧
  (vx_Zq Bundle.tN "UNASSIGNED_STACK" Bundle.steD (fun q => (gHb G).size ≤ q) U (gHb G) ∧ vx_Zq Bundle.tN "SUPPRESSED_SENTINEL" Bundle.listD (fun q => (gHb G).size ≤ q) U (gHb G)) ∧
  U.isArrayOf (gS G) .int ∧ (∀ q ∈ ldS9, vk_R (xR q.1) q.2.1 (sX.getD q.2.2 "") (gT G q.2.2) U) ∧ vk_S 10 sN sB (gT G) (gV G) (fun q => (gHb G).size ≤ q) U (gHb G) ∧ WdX G U
theorem Wd.warm {G : Gt} {s U : State} (hW : s.WarmedH U.vm) (h : Wd G s) : Wd G U := by
  have hA : s.vm.Alike U.vm := hW.alike
  obtain ⟨h1, h2, h3, ⟨h4, h5⟩, h6, h7, h8, h9⟩ := h
  refine ⟨fun w hw a => okw_at hW (List.mem_filter.mp hw).2 (h1 w hw a), fun ci hc => u_Kn_moved hA (h2 ci hc), fun b => ⟨arrOfT_moved hA (h3 b).1, (h3 b).2.moved hA⟩, ⟨h4.moved hA, h5.moved hA⟩, State.isArrayOf_alike hA h6, fun q hq => (h7 q hq).warm hW, h8.moved hA, h9.moved hA⟩
