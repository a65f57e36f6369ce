/-! ===== the two readers: bytes and tokens ===== -/
/-- a byte as the JVM keeps it -/
def sb (y : Int32) : Int32 := y.toInt8.toInt32
theorem sb_f : ∀ j, j < 256 → (sb (nI j) = 32 ↔ nI j = 32) ∧ (dig (sb (nI j)) ↔ inI (nI j) 48 57) ∧ (low (sb (nI j)) ↔ inI (nI j) 97 122) ∧ (sb (nI j) &&& 255) = nI j ∧ (j < 128 → sb (nI j) = nI j) ∧ (inI (nI j) 48 57 → j < 128) ∧ (inI (nI j) 97 122 → j < 128) := by decide +kernel
def BX (X Y : Nat → Int32) : Prop := ∀ i, i < 900 → ∃ j, j < 256 ∧ Y i = nI j ∧ X i = sb (nI j)
theorem bA_i {Y : Nat → Int32} {L p : Nat} (h : p < L) : bA Y L p = Y p := if_pos h
theorem bAo {Y : Nat → Int32} {L p : Nat} (h : L ≤ p) : bA Y L p = -1 := if_neg (by omega)
section BYTES
variable {X Y : Nat → Int32} {L : Nat}
theorem bx_s (hB : BX X Y) {p : Nat} (hp : p < 900) : (isp (X p) ↔ Y p = 32) ∧ (dig (X p) ↔ inI (Y p) 48 57) ∧ (low (X p) ↔ inI (Y p) 97 122) ∧ (X p &&& 255) = Y p ∧ (inI (Y p) 48 57 → X p = Y p) ∧ (inI (Y p) 97 122 → X p = Y p) := by
  obtain ⟨j, hj, e1, e2⟩ := hB p hp
  obtain ⟨f1, f2, f3, f4, f5, f6, f7⟩ := sb_f j hj
  rw [e1, e2]
  exact ⟨f1, f2, f3, f4, fun h => f5 (f6 h), fun h => f5 (f7 h)⟩
theorem sk_e (hB : BX X Y) (hL : L ≤ 900) : ∀ q p, p + q = L → skp X q p = skq Y L q p
  | 0, _, _ => rfl
  | q + 1, p, h => by
    have hb := bx_s hB (show p < 900 by omega)
    unfold skp skq
    rw [bA_i (show p < L by omega)]
    by_cases e : Y p = 32
    · rw [if_pos (hb.1.mpr e), if_pos e]
      exact sk_e hB hL q (p + 1) (by omega)
    · rw [if_neg (fun z => e (hb.1.mp z)), if_neg e]
theorem sk_n (Y : Nat → Int32) (L : Nat) : ∀ q p, p + q = L → skq Y L q p = L ∨ (skq Y L q p < L ∧ ¬ Y (skq Y L q p) = 32)
  | 0, p, h => Or.inl h
  | q + 1, p, h => by
    unfold skq
    rw [bA_i (show p < L by omega)]
    split
    · exact sk_n Y L q (p + 1) (by omega)
    · rename_i e
      exact Or.inr ⟨by omega, e⟩
theorem sk_t {Y : Nat → Int32} {L s : Nat} (h : s = L ∨ (s < L ∧ ¬ Y s = 32)) : skq Y L (L - s) s = s := by
  rcases h with rfl | ⟨h1, h2⟩
  · rw [Nat.sub_self]
    rfl
  · obtain ⟨q, hq⟩ : ∃ q, L - s = q + 1 := ⟨L - s - 1, by omega⟩
    rw [hq]
    unfold skq
    rw [bA_i h1, if_neg h2]
theorem nme (hB : BX X Y) (hL : L ≤ 900) : ∀ q p v, p + q = L → (nmL Y L q p v).1 = num X q p v ∧ (nmL Y L q p v).2 = spd X q p
  | 0, _, _, _ => ⟨rfl, rfl⟩
  | q + 1, p, v, h => by
    have hb := bx_s hB (show p < 900 by omega)
    unfold nmL num spd
    rw [bA_i (show p < L by omega)]
    by_cases e : inI (Y p) 48 57
    · rw [if_pos e, if_pos (hb.2.1.mpr e), if_pos (hb.2.1.mpr e), hb.2.2.2.2.1 e, ← mn_e, Int32.mul_comm 10 v]
      exact nme hB hL q (p + 1) _ (by omega)
    · rw [if_neg e, if_neg (fun z => e (hb.2.1.mp z)), if_neg (fun z => e (hb.2.1.mp z))]
      exact ⟨rfl, rfl⟩
/-- a run of digits is a number of at most 1000000 -/
theorem nm_c (hB : BX X Y) (hL : L ≤ 900) : ∀ q p v, p + q = L → cnt v 1000000 → cnt (nmL Y L q p v).1 1000000
  | 0, _, _, _, hv => hv
  | q + 1, p, v, h, hv => by
    unfold nmL
    rw [bA_i (show p < L by omega)]
    split
    · rename_i e
      refine nm_c hB hL q (p + 1) _ (by omega) ?_
      obtain ⟨k, hk, rfl⟩ := hv
      obtain ⟨j, hj, ej, -⟩ := hB p (by omega)
      rw [ej] at e ⊢
      obtain ⟨e1, e2⟩ := e
      have j1 : 48 ≤ j := by
        rcases Nat.lt_or_ge j 48 with z | z
        · exact absurd ((nI_ltI (a := j) (b := 48) (by omega) (by decide)).mpr z) e1
        · exact z
      have j2 : j ≤ 57 := by
        rcases Nat.lt_or_ge 57 j with z | z
        · exact absurd ((nI_ltI (a := 57) (b := j) (by decide) (by omega)).mpr z) e2
        · exact z
      have e3 : (10 * nI k + nI j - 48).toInt = 10 * k + j - 48 := by
        have m1 : (10 * nI k : Int32).toInt = 10 * k := by
          rw [t_mul (by rw [t_nI (by omega), show (10 : Int32).toInt = 10 from rfl]; omega) (by rw [t_nI (by omega), show (10 : Int32).toInt = 10 from rfl]; omega), t_nI (by omega)]
          rfl
        have m2 : (10 * nI k + nI j : Int32).toInt = 10 * k + j := by
          rw [t_add (by rw [m1, t_nI (by omega)]; omega) (by rw [m1, t_nI (by omega)]; omega), m1, t_nI (by omega)]
        rw [t_sub (by rw [m2, show (48 : Int32).toInt = 48 from rfl]; omega) (by rw [m2, show (48 : Int32).toInt = 48 from rfl]; omega), m2]
        rfl
      have e4 : (mnM 1000000 (10 * nI k + nI j - 48)).toInt = min 1000000 (10 * k + j - 48 : Int) := by
        rw [mn_t, e3]
        rfl
      refine ⟨(min 1000000 (10 * k + j - 48 : Int)).toNat, by omega, ?_⟩
      apply Int32.toInt_inj.mp
      rw [e4, t_nI (by omega)]
      omega
    · exact hv
theorem sl_b (hB : BX X Y) (hL : L ≤ 900) : ∀ q p, p + q = L → spl X q p = L ∨ (spl X q p < L ∧ ¬ low (X (spl X q p)))
  | 0, p, h => Or.inl h
  | q + 1, p, h => by
    unfold spl
    split
    · exact sl_b hB hL q (p + 1) (by omega)
    · rename_i e
      exact Or.inr ⟨by omega, e⟩
/-- a word that stands at p, no letter behind it -/
theorem mq_e (hB : BX X Y) (hL : L ≤ 900) : ∀ (l : List Int32), (∀ c ∈ l, inI c 97 122) → ∀ q p, p + q = L → (mtQ Y L l p = 0 ∨ mtQ Y L l p = 1) ∧ (mtQ Y L l p = 1 ↔ (spl X q p = p + l.length ∧ mtc X l p = 1))
  | [], _, q, p, h => by
    unfold mtQ mtc
    cases q with
    | zero =>
      rw [bAo (by omega), if_neg (show ¬ inI (-1) 97 122 from fun z => z.1 (by decide))]
      refine ⟨Or.inr rfl, fun _ => ⟨?_, rfl⟩, fun _ => rfl⟩
      unfold spl
      rfl
    | succ q =>
      have hb := bx_s hB (show p < 900 by omega)
      rw [bA_i (show p < L by omega)]
      by_cases e : inI (Y p) 97 122
      · rw [if_pos e]
        refine ⟨Or.inl rfl, fun z => absurd z (by decide), fun z => ?_⟩
        exfalso
        have z1 := z.1
        unfold spl at z1
        rw [if_pos (hb.2.2.1.mpr e)] at z1
        have := (spl_b X q (p + 1)).1
        rw [z1, List.length_nil] at this
        omega
      · rw [if_neg e]
        refine ⟨Or.inr rfl, fun _ => ⟨?_, rfl⟩, fun _ => rfl⟩
        unfold spl
        rw [if_neg (fun z => e (hb.2.2.1.mp z))]
        rfl
  | c :: cs, hc, q, p, h => by
    have hc0 := hc c List.mem_cons_self
    unfold mtQ mtc
    cases q with
    | zero =>
      rw [bAo (by omega), if_neg (fun z => by rw [← z] at hc0; exact hc0.1 (by decide))]
      refine ⟨Or.inl rfl, fun z => absurd z (by decide), fun z => ?_⟩
      exfalso
      have z1 := z.1
      unfold spl at z1
      rw [List.length_cons] at z1
      omega
    | succ q =>
      have hb := bx_s hB (show p < 900 by omega)
      rw [bA_i (show p < L by omega)]
      by_cases e : Y p = c
      · have eX : X p = c := by rw [hb.2.2.2.2.2 (by rw [e]; exact hc0)]; exact e
        have elo : low (X p) := hb.2.2.1.mpr (by rw [e]; exact hc0)
        rw [if_pos e, if_pos eX]
        obtain ⟨i1, i2⟩ := mq_e hB hL cs (fun d hd => hc d (List.mem_cons_of_mem _ hd)) q (p + 1) (by omega)
        refine ⟨i1, i2.trans ?_⟩
        rw [show spl X (q + 1) p = if low (X p) then spl X q (p + 1) else p from rfl, if_pos elo, List.length_cons, show p + (cs.length + 1) = p + 1 + cs.length by omega]
      · rw [if_neg e]
        refine ⟨Or.inl rfl, fun z => absurd z (by decide), fun z => ?_⟩
        exfalso
        have z2 := z.2
        by_cases eX : X p = c
        · have elo : low (X p) := by rw [eX]; exact hc0
          exact e (by rw [← hb.2.2.2.2.2 (hb.2.2.1.mp elo)]; exact eX)
        · rw [if_neg eX] at z2
          exact absurd z2 (by decide)
end BYTES
theorem mtc_01 (X : Nat → Int32) : ∀ (l : List Int32) p, mtc X l p = 0 ∨ mtc X l p = 1
  | [], _ => Or.inr rfl
  | c :: cs, p => by
    unfold mtc
    split
    · exact mtc_01 X cs (p + 1)
    · exact Or.inl rfl
theorem sB_l : ∀ i, i < 10 → (∀ c ∈ sB.getD i [], inI c 97 122) ∧ 0 < (sB.getD i []).length := by decide +kernel
