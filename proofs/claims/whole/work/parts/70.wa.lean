/-! ===== the water of a row: numbers without overflow ===== -/
theorem t_bm {x : Int} (h1 : -2147483648 ≤ x) (h2 : x < 2147483648) : x.bmod (2 ^ 32) = x := by
  have e : x.bmod (2 ^ 32) = if x % 4294967296 < 2147483648 then x % 4294967296 else x % 4294967296 - 4294967296 := rfl
  rw [e]
  split <;> omega
theorem t_bm6 {x : Int} (h1 : -9223372036854775808 ≤ x) (h2 : x < 9223372036854775808) : x.bmod (2 ^ 64) = x := by
  have e : x.bmod (2 ^ 64) = if x % 18446744073709551616 < 9223372036854775808 then x % 18446744073709551616 else x % 18446744073709551616 - 18446744073709551616 := rfl
  rw [e]
  split <;> omega
theorem t_rng (a : Int32) : -2147483648 ≤ a.toInt ∧ a.toInt < 2147483648 := by
  have h1 := a.le_toInt
  have h2 := a.toInt_lt
  omega
theorem t_add {a b : Int32} (h1 : -2147483648 ≤ a.toInt + b.toInt) (h2 : a.toInt + b.toInt < 2147483648) : (a + b).toInt = a.toInt + b.toInt := by
  rw [Int32.toInt_add, t_bm h1 h2]
theorem t_sub {a b : Int32} (h1 : -2147483648 ≤ a.toInt - b.toInt) (h2 : a.toInt - b.toInt < 2147483648) : (a - b).toInt = a.toInt - b.toInt := by
  rw [Int32.toInt_sub, t_bm h1 h2]
theorem t_mul {a b : Int32} (h1 : -2147483648 ≤ a.toInt * b.toInt) (h2 : a.toInt * b.toInt < 2147483648) : (a * b).toInt = a.toInt * b.toInt := by
  rw [Int32.toInt_mul, t_bm h1 h2]
theorem t_div {a b : Int32} (h1 : 0 ≤ a.toInt) (h2 : 0 < b.toInt) : (a / b).toInt = a.toInt / b.toInt := by
  have hr := t_rng a
  have h3 : a.toInt.tdiv b.toInt = a.toInt / b.toInt := Int.tdiv_eq_ediv_of_nonneg h1
  have h4 : a.toInt / b.toInt ≤ a.toInt := Int.ediv_le_self _ h1
  have h5 : 0 ≤ a.toInt / b.toInt := Int.ediv_nonneg h1 (Int.le_of_lt h2)
  rw [Int32.toInt_div, h3, t_bm (by omega) (by omega)]
theorem t_lt {a b : Int32} : a < b ↔ a.toInt < b.toInt := Int32.lt_iff_toInt_lt
theorem t_le {a b : Int32} : a ≤ b ↔ a.toInt ≤ b.toInt := Int32.le_iff_toInt_le
theorem t_nI {n : Nat} (h : n < 2 ^ 31) : (nI n).toInt = n := by
  show (Int32.ofNat n).toInt = _
  exact Int32.toInt_ofNat_of_lt h
theorem t_64 (a : Int32) : a.toInt64.toInt = a.toInt := Int32.toInt_toInt64 a
theorem t_64a {a b : Int32} (h1 : -2147483648 ≤ a.toInt + b.toInt) (h2 : a.toInt + b.toInt < 2147483648) : (a + b).toInt64 = a.toInt64 + b.toInt64 := by
  apply Int64.toInt_inj.mp
  rw [t_64, t_add h1 h2, Int64.toInt_add, t_64, t_64, t_bm6 (by omega) (by omega)]
theorem mn_t (a b : Int32) : (mnM a b).toInt = min a.toInt b.toInt := by
  unfold mnM
  split
  · rename_i h
    have := t_lt.mp h
    omega
  · rename_i h
    have : ¬ a.toInt < b.toInt := fun z => h (t_lt.mpr z)
    omega
/-! == sums over places == -/
def sumP (D : Nat → Int32) : List Nat → Int
  | [] => 0
  | j :: l => (D j).toInt + sumP D l
theorem sumP_n (D : Nat → Int32) (j : Nat) (v : Int32) : ∀ l : List Nat, j ∉ l → sumP (upd D j v) l = sumP D l
  | [], _ => rfl
  | i :: l, h => by
    have h1 : i ≠ j := fun e => h (e ▸ List.mem_cons_self)
    have h2 := sumP_n D j v l (fun e => h (List.mem_cons_of_mem _ e))
    unfold sumP
    rw [upd_n _ _ h1, h2]
theorem sumP_u (D : Nat → Int32) (j : Nat) (v : Int32) : ∀ l : List Nat, l.Nodup → j ∈ l → sumP (upd D j v) l = sumP D l - (D j).toInt + v.toInt
  | [], _, h => by cases h
  | i :: l, hn, h => by
    have hn2 := List.nodup_cons.mp hn
    unfold sumP
    by_cases e : i = j
    · subst e
      rw [upd_s, sumP_n D i v l hn2.1]
      omega
    · have h3 : j ∈ l := (List.mem_cons.mp h).resolve_left (Ne.symm e)
      rw [upd_n _ _ e, sumP_u D j v l hn2.2 h3]
      omega
theorem sumP_0 {D : Nat → Int32} : ∀ l : List Nat, (∀ j ∈ l, 0 ≤ (D j).toInt) → 0 ≤ sumP D l
  | [], _ => Int.le_refl _
  | i :: l, h => by
    have h1 := h i List.mem_cons_self
    have h2 := sumP_0 l (fun j hj => h j (List.mem_cons_of_mem _ hj))
    unfold sumP
    omega
theorem sumP_m {D : Nat → Int32} {j : Nat} : ∀ l : List Nat, (∀ i ∈ l, 0 ≤ (D i).toInt) → j ∈ l → (D j).toInt ≤ sumP D l
  | [], _, h => by cases h
  | i :: l, hp, h => by
    have h1 := hp i List.mem_cons_self
    have h2 := sumP_0 l (fun j hj => hp j (List.mem_cons_of_mem _ hj))
    unfold sumP
    rcases List.mem_cons.mp h with e | e
    · subst e; omega
    · have := sumP_m l (fun j hj => hp j (List.mem_cons_of_mem _ hj)) e
      omega
/-- where a row keeps water: spilled, lost, seeped, pipes, fields -/
def PL : List Nat := [9, 10, 11] ++ (List.range 112).map (fun k => 13 + 13 * (k / 7) + 6 + k % 7) ++ (List.range 12).map (fun f => 221 + 11 * f + 7)
theorem PL_nd : PL.Nodup := by decide +kernel
theorem PL_c {c k : Nat} (hc : c < 16) (hk : k < 7) : 13 + 13 * c + 6 + k ∈ PL := by
  unfold PL
  refine List.mem_append_left _ (List.mem_append_right _ (List.mem_map.mpr ⟨7 * c + k, List.mem_range.mpr (by omega), ?_⟩))
  show 13 + 13 * ((7 * c + k) / 7) + 6 + (7 * c + k) % 7 = _
  omega
theorem PL_f {f : Nat} (hf : f < 12) : 221 + 11 * f + 7 ∈ PL := by
  unfold PL
  exact List.mem_append_right _ (List.mem_map.mpr ⟨f, List.mem_range.mpr hf, rfl⟩)
theorem PL_3 {j : Nat} (h : j = 9 ∨ j = 10 ∨ j = 11) : j ∈ PL := by
  rcases h with rfl | rfl | rfl <;> decide +kernel
theorem PL_n {j : Nat} (h : j ∈ PL) : j = 9 ∨ j = 10 ∨ j = 11 ∨ (∃ c k, c < 16 ∧ k < 7 ∧ j = 13 + 13 * c + 6 + k) ∨ ∃ f, f < 12 ∧ j = 221 + 11 * f + 7 := by
  unfold PL at h
  rcases List.mem_append.mp h with h | h
  · rcases List.mem_append.mp h with h | h
    · simp only [List.mem_cons, List.not_mem_nil, or_false] at h
      omega
    · obtain ⟨k, hk, e⟩ := List.mem_map.mp h
      have hk := List.mem_range.mp hk
      have e2 : 13 + 13 * (k / 7) + 6 + k % 7 = j := e
      exact Or.inr (Or.inr (Or.inr (Or.inl ⟨k / 7, k % 7, by omega, by omega, e2.symm⟩)))
  · obtain ⟨f, hf, e⟩ := List.mem_map.mp h
    exact Or.inr (Or.inr (Or.inr (Or.inr ⟨f, List.mem_range.mp hf, e.symm⟩)))
/-- the water of a row with r on its way -/
def WL (D : Nat → Int32) (r : Int) : Prop := (∀ j ∈ PL, 0 ≤ (D j).toInt) ∧ sumP D PL + r = (D 8).toInt ∧ (D 8).toInt < 1100000000
theorem WL.le {D : Nat → Int32} {r : Int} (h : WL D r) {j : Nat} (hj : j ∈ PL) : 0 ≤ (D j).toInt ∧ (D j).toInt + r < 1100000000 := by
  have h1 := sumP_m PL h.1 hj
  have h2 := h.1 j hj
  have h3 := h.2.1
  have h4 := h.2.2
  omega
theorem WL.n {D : Nat → Int32} {r : Int} (h : WL D r) {j : Nat} (v : Int32) (hj : j ∉ PL) (h8 : j ≠ 8) : WL (upd D j v) r := by
  refine ⟨fun i hi => ?_, ?_, ?_⟩
  · rw [upd_n _ _ (fun e => hj (by rw [← e]; exact hi))]
    exact h.1 i hi
  · rw [sumP_n _ _ _ _ hj, upd_n _ _ (Ne.symm h8)]
    exact h.2.1
  · rw [upd_n _ _ (Ne.symm h8)]
    exact h.2.2
theorem PL_8 {j : Nat} (h : j ∈ PL) : j ≠ 8 := fun e => by
  subst e
  exact absurd h (by decide +kernel)
theorem WL.a {D : Nat → Int32} {r : Int} (h : WL D r) {j : Nat} {v : Int32} (hj : j ∈ PL) (h1 : 0 ≤ v.toInt) (h2 : v.toInt ≤ r) : WL (upd D j (D j + v)) (r - v.toInt) ∧ (D j + v).toInt = (D j).toInt + v.toInt := by
  have hl := h.le hj
  have e : (D j + v).toInt = (D j).toInt + v.toInt := t_add (by omega) (by omega)
  refine ⟨⟨fun i hi => ?_, ?_, ?_⟩, e⟩
  · by_cases ei : i = j
    · subst ei
      rw [upd_s, e]
      omega
    · rw [upd_n _ _ ei]
      exact h.1 i hi
  · rw [sumP_u _ _ _ _ PL_nd hj, upd_n _ _ (Ne.symm (PL_8 hj)), e]
    have := h.2.1
    omega
  · rw [upd_n _ _ (Ne.symm (PL_8 hj))]
    exact h.2.2
theorem WL.s {D : Nat → Int32} {r : Int} (h : WL D r) {j : Nat} {v : Int32} (hj : j ∈ PL) (h1 : 0 ≤ v.toInt) (h2 : v.toInt ≤ (D j).toInt) : WL (upd D j (D j - v)) (r + v.toInt) ∧ (D j - v).toInt = (D j).toInt - v.toInt := by
  have hj0 := h.1 j hj
  have hr := t_rng (D j)
  have e : (D j - v).toInt = (D j).toInt - v.toInt := t_sub (by omega) (by omega)
  refine ⟨⟨fun i hi => ?_, ?_, ?_⟩, e⟩
  · by_cases ei : i = j
    · subst ei
      rw [upd_s, e]
      omega
    · rw [upd_n _ _ ei]
      exact h.1 i hi
  · rw [sumP_u _ _ _ _ PL_nd hj, upd_n _ _ (Ne.symm (PL_8 hj)), e]
    have := h.2.1
    omega
  · rw [upd_n _ _ (Ne.symm (PL_8 hj))]
    exact h.2.2
/-! == the static numbers of a row == -/
def NB (D : Nat → Int32) (n f : Nat) : Prop :=
  (∀ c, c < n → (0 ≤ (D (13 + 13 * c + 2)).toInt ∧ (D (13 + 13 * c + 2)).toInt ≤ 50) ∧ (1 ≤ (D (13 + 13 * c + 3)).toInt ∧ (D (13 + 13 * c + 3)).toInt ≤ 9999) ∧ (0 ≤ (D (13 + 13 * c + 4)).toInt ∧ (D (13 + 13 * c + 4)).toInt ≤ 99)) ∧
  ∀ k, k < f → (1 ≤ (D (221 + 11 * k + 2)).toInt ∧ (D (221 + 11 * k + 2)).toInt ≤ 999) ∧ (0 ≤ (D (221 + 11 * k + 3)).toInt ∧ (D (221 + 11 * k + 3)).toInt ≤ 9999) ∧ (1 ≤ (D (221 + 11 * k + 4)).toInt ∧ (D (221 + 11 * k + 4)).toInt ≤ 9999) ∧ (0 ≤ (D (221 + 11 * k + 5)).toInt ∧ (D (221 + 11 * k + 5)).toInt ≤ 99)
theorem NB.sd {D E : Nat → Int32} {n f : Nat} (h : NB D n f) (hn : n ≤ 16) (hf : f ≤ 12) (s : SD D E) : NB E n f := by
  refine ⟨fun c hc => ?_, fun k hk => ?_⟩
  · rw [s _ (st_c (by omega) (by decide)), s _ (st_c (by omega) (by decide)), s _ (st_c (by omega) (by decide))]
    exact h.1 c hc
  · rw [s _ (st_f (by omega) (by decide)), s _ (st_f (by omega) (by decide)), s _ (st_f (by omega) (by decide)), s _ (st_f (by omega) (by decide))]
    exact h.2 k hk
/-- what enters a canal -/
theorem en_w {D : Nat → Int32} {r : Int} {c d : Nat} {a : Int32} (h : WL D r) (hc : c < 16) (hd : D (13 + 13 * c + 1) = nI d) (hd6 : d ≤ 6) (hl : 0 ≤ (D (13 + 13 * c + 2)).toInt ∧ (D (13 + 13 * c + 2)).toInt ≤ 50) (hp : 1 ≤ (D (13 + 13 * c + 3)).toInt ∧ (D (13 + 13 * c + 3)).toInt ≤ 9999) (h0 : 0 ≤ a.toInt) (ha : a.toInt ≤ r) :
    WL (enD D c a) (r - a.toInt) ∧ (D 9 + (a - enH D c a)).toInt64 = (D 9).toInt64 + (a - enH D c a).toInt64 ∧ (D 10 + enT D c a).toInt64 = (D 10).toInt64 + (enT D c a).toInt64 ∧ 0 ≤ (enH D c a - enT D c a).toInt := by
  have e1 : (enH D c a).toInt = min a.toInt (D (13 + 13 * c + 3)).toInt := mn_t _ _
  have ra := t_rng a
  have m0 : 0 ≤ (enH D c a).toInt * (D (13 + 13 * c + 2)).toInt := Int.mul_nonneg (by omega) hl.1
  have m1 : (enH D c a).toInt * (D (13 + 13 * c + 2)).toInt ≤ (enH D c a).toInt * 50 := Int.mul_le_mul_of_nonneg_left hl.2 (by omega)
  have e2 : (enH D c a * D (13 + 13 * c + 2)).toInt = (enH D c a).toInt * (D (13 + 13 * c + 2)).toInt := t_mul (by omega) (by omega)
  have e3 : (enT D c a).toInt = (enH D c a).toInt * (D (13 + 13 * c + 2)).toInt / 100 := by
    unfold enT
    rw [t_div (by omega) (by decide), e2]
    rfl
  have b1 : 0 ≤ (enT D c a).toInt ∧ (enT D c a).toInt ≤ (enH D c a).toInt := by
    rw [e3]
    generalize (enH D c a).toInt * (D (13 + 13 * c + 2)).toInt = x at m0 m1
    omega
  have e4 : (a - enH D c a).toInt = a.toInt - (enH D c a).toInt := t_sub (by omega) (by omega)
  have e5 : (enH D c a - enT D c a).toInt = (enH D c a).toInt - (enT D c a).toInt := t_sub (by omega) (by omega)
  have w1 := h.a (v := a - enH D c a) (PL_3 (j := 9) (Or.inl rfl)) (by omega) (by omega)
  have q1 : upd D 9 (D 9 + (a - enH D c a)) 10 = D 10 := rfl
  have w2 := w1.1.a (v := enT D c a) (PL_3 (j := 10) (Or.inr (Or.inl rfl))) (by omega) (by omega)
  rw [q1] at w2
  have q2 : upd (upd D 9 (D 9 + (a - enH D c a))) 10 (D 10 + enT D c a) (13 + 13 * c + 6 + d) = D (13 + 13 * c + 6 + d) := by rw [upd_n _ _ (by omega), upd_n _ _ (by omega)]
  have w3 := w2.1.a (v := enH D c a - enT D c a) (PL_c (c := c) (k := d) hc (by omega)) (by omega) (by omega)
  rw [q2] at w3
  have hl9 := h.le (PL_3 (j := 9) (Or.inl rfl))
  have hl10 := h.le (PL_3 (j := 10) (Or.inr (Or.inl rfl)))
  refine ⟨?_, t_64a (by omega) (by omega), t_64a (by omega) (by omega), by omega⟩
  unfold enD
  rw [hd, nI_clamp (by omega)]
  have e9 : r - (a - enH D c a).toInt - (enT D c a).toInt - (enH D c a - enT D c a).toInt = r - a.toInt := by omega
  rw [← e9]
  exact w3.1
