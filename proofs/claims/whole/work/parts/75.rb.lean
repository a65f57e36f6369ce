/-! ===== the order of entering ===== -/
def enJ (D : Nat → Int32) (c : Nat) (a : Int32) (j : Nat) : Int32 :=
  if j = 9 then a - enH D c a else if j = 10 then enT D c a else if j = 13 + 13 * c + 6 + (D (13 + 13 * c + 1)).toNatClampNeg then enH D c a - enT D c a else 0
theorem en_j (D : Nat → Int32) (c : Nat) (a : Int32) (j : Nat) : enD D c a j = D j + enJ D c a j := by
  unfold enD enJ
  by_cases h9 : j = 9
  · subst h9
    rw [if_pos rfl, upd_n _ _ (by omega), upd_n _ _ (by omega), upd_s]
  · rw [if_neg h9]
    by_cases h10 : j = 10
    · subst h10
      rw [if_pos rfl, upd_n _ _ (by omega), upd_s]
    · rw [if_neg h10]
      by_cases hp : j = 13 + 13 * c + 6 + (D (13 + 13 * c + 1)).toNatClampNeg
      · rw [if_pos hp, hp, upd_s]
      · rw [if_neg hp, upd_n _ _ hp, upd_n _ _ h10, upd_n _ _ h9, Int32.add_zero]
theorem enJ_sd {D E : Nat → Int32} (s : SD D E) {c : Nat} (hc : c < 16) (a : Int32) (j : Nat) : enJ E c a j = enJ D c a j := by
  unfold enJ enT enH
  rw [s _ (st_c hc (by decide)), s _ (st_c hc (by decide)), s _ (st_c hc (by decide))]
theorem enJ_0 {D : Nat → Int32} {c : Nat} (hp : 1 ≤ (D (13 + 13 * c + 3)).toInt) (j : Nat) : enJ D c 0 j = 0 := by
  have e1 : enH D c 0 = 0 := if_pos (t_0lt.mpr (by omega))
  have e2 : enT D c 0 = 0 := by
    unfold enT
    rw [e1, Int32.zero_mul]
    decide
  unfold enJ
  rw [e1, e2]
  split
  · rfl
  · split
    · rfl
    · split
      · rfl
      · rfl
def iS (F : Nat → Int32) : Nat → Nat → Int32
  | _, 0 => 0
  | k, r + 1 => F k + iS F (k + 1) r
theorem iS_0 {F : Nat → Int32} : ∀ r k, (∀ i, k ≤ i → i < k + r → F i = 0) → iS F k r = 0
  | 0, _, _ => rfl
  | r + 1, k, h => by
    unfold iS
    rw [h k (Nat.le_refl _) (by omega), iS_0 r (k + 1) (fun i a b => h i (by omega) (by omega)), Int32.add_zero]
theorem iS_e {F H : Nat → Int32} : ∀ r k, (∀ i, k ≤ i → i < k + r → F i = H i) → iS F k r = iS H k r
  | 0, _, _ => rfl
  | r + 1, k, h => by
    unfold iS
    rw [h k (Nat.le_refl _) (by omega), iS_e r (k + 1) (fun i a b => h i (by omega) (by omega))]
theorem iS_a (F : Nat → Int32) : ∀ r s k, iS F k (r + s) = iS F k r + iS F (k + r) s
  | 0, s, k => by
    rw [Nat.zero_add, Nat.add_zero]
    show _ = 0 + _
    rw [Int32.zero_add]
  | r + 1, s, k => by
    have e : r + 1 + s = (r + s) + 1 := by omega
    rw [e]
    show F k + iS F (k + 1) (r + s) = F k + iS F (k + 1) r + iS F (k + (r + 1)) s
    rw [iS_a F r s (k + 1), Int32.add_assoc, show k + 1 + r = k + (r + 1) by omega]
/-- the amounts that enter, child by child -/
def amK (D : Nat → Int32) (a s fi gi : Int32) (k : Nat) : Int32 := a * D (13 + 13 * k + 4) / s + if nI k = fi then a - gi else 0
theorem ddE_j {D : Nat → Int32} {n f r w g : Nat} (hD : WD D n f r w g) (L : Nat → Int32) (c : Nat) (a s fi gi : Int32) (j : Nat) : ∀ q k E, k + q ≤ n → SD D E → (itr (ddE L (nI c) a s fi gi) q k E) j = E j + iS (fun i => if chD D L (nI c) i then enJ D i (amK D a s fi gi i) j else 0) k q
  | 0, k, E, _, _ => by
    show E j = E j + 0
    rw [Int32.add_zero]
  | q + 1, k, E, hk, hE => by
    have hn : n ≤ 16 := hD.1.1
    have h1 := sd_ddE hD L (nI c) a s fi gi k (by omega) hE
    have s0 : E (13 + 13 * k) = D (13 + 13 * k) := hE _ (st_c (j := 0) (by omega) (by decide))
    have s4 : E (13 + 13 * k + 4) = D (13 + 13 * k + 4) := hE _ (st_c (by omega) (by decide))
    have e : ddE L (nI c) a s fi gi k E j = E j + if chD D L (nI c) k then enJ D k (amK D a s fi gi k) j else 0 := by
      unfold ddE
      by_cases p : chD D L (nI c) k
      · rw [if_pos p, if_pos (show chD E L (nI c) k from ⟨by rw [s0]; exact p.1, p.2⟩), s4, en_j, enJ_sd hE (by omega)]
        rfl
      · rw [if_neg p, if_neg (show ¬ chD E L (nI c) k from fun z => p ⟨by rw [← s0]; exact z.1, z.2⟩), Int32.add_zero]
    show (itr (ddE L (nI c) a s fi gi) q (k + 1) (ddE L (nI c) a s fi gi k E)) j = E j + ((if chD D L (nI c) k then enJ D k (amK D a s fi gi k) j else 0) + iS _ (k + 1) q)
    rw [ddE_j hD L c a s fi gi j q (k + 1) _ (by omega) h1, e, Int32.add_assoc]
