/-! ===== the pipes of a row ===== -/
theorem en_b {D : Nat → Int32} {c : Nat} {a : Int32} (hl : 0 ≤ (D (13 + 13 * c + 2)).toInt ∧ (D (13 + 13 * c + 2)).toInt ≤ 50) (hp : 1 ≤ (D (13 + 13 * c + 3)).toInt ∧ (D (13 + 13 * c + 3)).toInt ≤ 9999) (h0 : 0 ≤ a.toInt) : 0 ≤ (enH D c a - enT D c a).toInt ∧ (enH D c a - enT D c a).toInt ≤ 9999 := by
  have e1 : (enH D c a).toInt = min a.toInt (D (13 + 13 * c + 3)).toInt := mn_t _ _
  have m0 : 0 ≤ (enH D c a).toInt * (D (13 + 13 * c + 2)).toInt := Int.mul_nonneg (by omega) hl.1
  have m1 : (enH D c a).toInt * (D (13 + 13 * c + 2)).toInt ≤ (enH D c a).toInt * 50 := Int.mul_le_mul_of_nonneg_left hl.2 (by omega)
  have e2 : (enH D c a * D (13 + 13 * c + 2)).toInt = (enH D c a).toInt * (D (13 + 13 * c + 2)).toInt := t_mul (by omega) (by omega)
  have e3 : (enT D c a).toInt = (enH D c a).toInt * (D (13 + 13 * c + 2)).toInt / 100 := by
    unfold enT
    rw [t_div (by omega) (by decide), e2]
    rfl
  have b1 : 0 ≤ (enT D c a).toInt ∧ (enT D c a).toInt ≤ (enH D c a).toInt := by
    rw [e3]
    generalize (enH D c a).toInt * (D (13 + 13 * c + 2)).toInt = x at m0 m1
    omega
  have e5 : (enH D c a - enT D c a).toInt = (enH D c a).toInt - (enT D c a).toInt := t_sub (by omega) (by omega)
  omega
/-- where an entering writes -/
theorem en_o {D : Nat → Int32} {c d : Nat} (a : Int32) (hd : D (13 + 13 * c + 1) = nI d) (hd6 : d ≤ 6) {j : Nat} (h9 : j ≠ 9) (h10 : j ≠ 10) (hj : j ≠ 13 + 13 * c + 6 + d) : enD D c a j = D j := by
  unfold enD
  rw [hd, nI_clamp (by omega), upd_n _ _ hj, upd_n _ _ h10, upd_n _ _ h9]
theorem en_v {D : Nat → Int32} {c d : Nat} (a : Int32) (hd : D (13 + 13 * c + 1) = nI d) (hd6 : d ≤ 6) : enD D c a (13 + 13 * c + 6 + d) = D (13 + 13 * c + 6 + d) + (enH D c a - enT D c a) := by
  unfold enD
  rw [hd, nI_clamp (by omega), upd_s]
/-- pipes: at most 9999 each; nothing behind the delay, for Z nothing at the delay -/
def PI (D : Nat → Int32) (n : Nat) (Z : Nat → Prop) : Prop := ∀ k d, k < n → D (13 + 13 * k + 1) = nI d → d ≤ 6 → (∀ i, i ≤ 6 → (D (13 + 13 * k + 6 + i)).toInt ≤ 9999) ∧ (∀ i, d < i → i ≤ 6 → D (13 + 13 * k + 6 + i) = 0) ∧ (Z k → D (13 + 13 * k + 6 + d) = 0)
theorem PI.m {D : Nat → Int32} {n : Nat} {Z Y : Nat → Prop} (h : PI D n Z) (g : ∀ k, k < n → Y k → Z k) : PI D n Y := fun k d a b c => ⟨(h k d a b c).1, (h k d a b c).2.1, fun y => (h k d a b c).2.2 (g k a y)⟩
theorem PI.e {D E : Nat → Int32} {n : Nat} {Z : Nat → Prop} (h : PI D n Z) (g : ∀ k, k < n → E (13 + 13 * k + 1) = D (13 + 13 * k + 1) ∧ ∀ i, i ≤ 6 → E (13 + 13 * k + 6 + i) = D (13 + 13 * k + 6 + i)) : PI E n Z := by
  intro k d hk hd hd6
  obtain ⟨g1, g2⟩ := g k hk
  rw [g1] at hd
  obtain ⟨h1, h2, h3⟩ := h k d hk hd hd6
  exact ⟨fun i hi => by rw [g2 i hi]; exact h1 i hi, fun i a b => by rw [g2 i b]; exact h2 i a b, fun z => by rw [g2 d hd6]; exact h3 z⟩
theorem PI.en {D : Nat → Int32} {n c d : Nat} {Z : Nat → Prop} {a : Int32} (h : PI D n Z) (hc : c < n) (hn : n ≤ 16) (hd : D (13 + 13 * c + 1) = nI d) (hd1 : 1 ≤ d) (hd6 : d ≤ 6) (hl : 0 ≤ (D (13 + 13 * c + 2)).toInt ∧ (D (13 + 13 * c + 2)).toInt ≤ 50) (hp : 1 ≤ (D (13 + 13 * c + 3)).toInt ∧ (D (13 + 13 * c + 3)).toInt ≤ 9999) (h0 : 0 ≤ a.toInt) (hZ : Z c) : PI (enD D c a) n (fun k => Z k ∧ k ≠ c) := by
  intro k d2 hk hd2 hd26
  rw [en_o a hd hd6 (by omega) (by omega) (by omega)] at hd2
  obtain ⟨h1, h2, h3⟩ := h k d2 hk hd2 hd26
  by_cases e : k = c
  · subst e
    have ed : d2 = d := (nI_eq (by omega) (by omega)).mp (hd2.symm.trans hd)
    subst ed
    have hb := en_b hl hp h0
    refine ⟨fun i hi => ?_, fun i a1 a2 => ?_, fun z => absurd rfl z.2⟩
    · by_cases ei : i = d2
      · subst ei
        rw [en_v a hd hd6, h3 hZ, Int32.zero_add]
        exact hb.2
      · rw [en_o a hd hd6 (by omega) (by omega) (by omega)]
        exact h1 i hi
    · rw [en_o a hd hd6 (by omega) (by omega) (by omega)]
      exact h2 i a1 a2
  · refine ⟨fun i hi => ?_, fun i a1 a2 => ?_, fun z => ?_⟩
    · rw [en_o a hd hd6 (by omega) (by omega) (by omega)]
      exact h1 i hi
    · rw [en_o a hd hd6 (by omega) (by omega) (by omega)]
      exact h2 i a1 a2
    · rw [en_o a hd hd6 (by omega) (by omega) (by omega)]
      exact h3 z.1
