/-! ===== dividing in the State's order: the loop ===== -/
theorem i_ss (a b c : Int32) : a - b - c = a - (b + c) := by simp only [Int32.sub_eq_add_neg, Int32.neg_add, Int32.add_assoc]
theorem RM.m {M : Mm} {b : Nat} {D0 D L : Nat → Int32} {n f r w h : Nat} {q : Int} {Z Y : Nat → Prop} (hM : RM M b D0 D L n f r w h q Z) (g : ∀ k, k < n → Y k → Z k) : RM M b D0 D L n f r w h q Y := ⟨hM.1, hM.2.1, hM.2.2.1, hM.2.2.2.1, hM.2.2.2.2.1, hM.2.2.2.2.2.1, hM.2.2.2.2.2.2.m g⟩
theorem rm_dvl {b : Nat} {D0 L : Nat → Int32} {n f r w g h c : Nat} {a s : Int32} (hD : WD D0 n f r w g) (hB : NB D0 n f) (hh : h < 200000) (h0 : 0 ≤ a.toInt) (ha : a.toInt ≤ 9999) (hs : 0 < s.toInt) :
    ∀ q k (N : Mm) (E : Nat → Int32) (left : Int32) (Y : Nat → Prop), k + q = n → RM N b D0 E L n f r w h left.toInt Y → 0 ≤ left.toInt → uS (shP D0 L c a.toInt s.toInt) k q ≤ left.toInt → (∀ i, k ≤ i → i < n → chD D0 L (nI c) i → Y i) →
    ∃ E', RM (itr (dvA b (nI c) a s) q k (N, left)).1 b D0 E' L n f r w h (itr (dvA b (nI c) a s) q k (N, left)).2.toInt (fun i => Y i ∧ ¬ (k ≤ i ∧ chD D0 L (nI c) i)) ∧ (itr (dvA b (nI c) a s) q k (N, left)).2.toInt = left.toInt - uS (shP D0 L c a.toInt s.toInt) k q ∧
      (itr (dvA b (nI c) a s) q k (N, left)).2 = left - iS (fun i => if chD D0 L (nI c) i then a * D0 (13 + 13 * i + 4) / s else 0) k q ∧ ∀ j, E' j = E j + iS (fun i => if chD D0 L (nI c) i then enJ D0 i (a * D0 (13 + 13 * i + 4) / s) j else 0) k q
  | 0, k, N, E, left, Y, _, hM, _, _, _ => ⟨E, hM.m (fun k _ y => y.1), by show left.toInt = left.toInt - 0; omega, by show left = left - 0; rw [Int32.sub_zero], fun j => by show E j = E j + 0; rw [Int32.add_zero]⟩
  | q + 1, k, N, E, left, Y, hk, hM, hl, hu, hY => by
    have hn : n ≤ 16 := hD.1.1
    have hS : ∀ i, i < n → 0 ≤ shI D0 L c i ∧ shI D0 L c i ≤ 99 := by
      intro i hi
      have hb := (hB.1 i hi).2.2
      unfold shI
      split
      · exact hb
      · omega
    have hP : ∀ i, i < n → 0 ≤ shP D0 L c a.toInt s.toInt i := fun i hi => Int.ediv_nonneg (Int.mul_nonneg h0 (hS i hi).1) (by omega)
    have hu0 : shP D0 L c a.toInt s.toInt k + uS (shP D0 L c a.toInt s.toInt) (k + 1) q ≤ left.toInt := hu
    have hq0 := uS_0 (F := shP D0 L c a.toInt s.toInt) q (k + 1) (fun i a1 a2 => hP i (by omega))
    have hPk := hP k (by omega)
    have hx := ch_x (c := c) hM.2.1 hM.2.2.2.1 (show k < n by omega)
    have s0 : E (13 + 13 * k) = D0 (13 + 13 * k) := hM.1 (13 + 13 * k) (st_c (c := k) (j := 0) (by omega) (by decide))
    have s4 : E (13 + 13 * k + 4) = D0 (13 + 13 * k + 4) := hM.1 _ (st_c (by omega) (by decide))
    have h6 := (hM.2.1.2.1 k (by omega)).2.2.2.2
    rw [s4] at h6
    by_cases p : chD D0 L (nI c) k
    · have pE : chD E L (nI c) k := ⟨by rw [s0]; exact p.1, p.2⟩
      have eq2 : shI D0 L c k = (D0 (13 + 13 * k + 4)).toInt := if_pos p
      have hsk := hS k (by omega)
      rw [eq2] at hsk
      have m1 : a.toInt * (D0 (13 + 13 * k + 4)).toInt ≤ a.toInt * 99 := Int.mul_le_mul_of_nonneg_left hsk.2 h0
      have m0 : 0 ≤ a.toInt * (D0 (13 + 13 * k + 4)).toInt := Int.mul_nonneg h0 hsk.1
      have e1 : (a * D0 (13 + 13 * k + 4)).toInt = a.toInt * (D0 (13 + 13 * k + 4)).toInt := t_mul (by omega) (by omega)
      have e2 : (a * D0 (13 + 13 * k + 4) / s).toInt = shP D0 L c a.toInt s.toInt k := by
        unfold shP
        rw [t_div (by omega) hs, e1, eq2]
      have eA : dvA b (nI c) a s k (N, left) = (enM N b (nI k) (a * D0 (13 + 13 * k + 4) / s), left - a * D0 (13 + 13 * k + 4) / s) := by
        unfold dvA
        rw [if_pos (hx.mpr pE)]
        dsimp only
        rw [h6]
      have rl := t_rng left
      have e3 : (left - a * D0 (13 + 13 * k + 4) / s).toInt = left.toInt - shP D0 L c a.toInt s.toInt k := by rw [t_sub (by rw [e2]; omega) (by rw [e2]; omega), e2]
      have r1 := rm_en (a := a * D0 (13 + 13 * k + 4) / s) hD hB hh hM (show k < n by omega) (by rw [e2]; exact hPk) (by rw [e2]; omega) (hY k (Nat.le_refl _) (by omega) p)
      have e4 : left.toInt - (a * D0 (13 + 13 * k + 4) / s).toInt = (left - a * D0 (13 + 13 * k + 4) / s).toInt := by rw [e3, e2]
      rw [e4] at r1
      obtain ⟨E', i1, i2, i3, i4⟩ := rm_dvl hD hB hh h0 ha hs q (k + 1) _ _ _ _ (by omega) r1 (by omega) (by omega) (fun i a1 a2 a3 => ⟨hY i (by omega) a2 a3, by omega⟩)
      show ∃ E', RM (itr (dvA b (nI c) a s) q (k + 1) (dvA b (nI c) a s k (N, left))).1 b D0 E' L n f r w h (itr (dvA b (nI c) a s) q (k + 1) (dvA b (nI c) a s k (N, left))).2.toInt (fun i => Y i ∧ ¬ (k ≤ i ∧ chD D0 L (nI c) i)) ∧ (itr (dvA b (nI c) a s) q (k + 1) (dvA b (nI c) a s k (N, left))).2.toInt = left.toInt - (shP D0 L c a.toInt s.toInt k + uS (shP D0 L c a.toInt s.toInt) (k + 1) q) ∧
        (itr (dvA b (nI c) a s) q (k + 1) (dvA b (nI c) a s k (N, left))).2 = left - ((if chD D0 L (nI c) k then a * D0 (13 + 13 * k + 4) / s else 0) + iS (fun i => if chD D0 L (nI c) i then a * D0 (13 + 13 * i + 4) / s else 0) (k + 1) q) ∧ ∀ j, E' j = E j + ((if chD D0 L (nI c) k then enJ D0 k (a * D0 (13 + 13 * k + 4) / s) j else 0) + iS (fun i => if chD D0 L (nI c) i then enJ D0 i (a * D0 (13 + 13 * i + 4) / s) j else 0) (k + 1) q)
      rw [eA]
      refine ⟨E', i1.m (fun i hi y => ⟨⟨y.1, fun e => y.2 ⟨by omega, by rw [e]; exact p⟩⟩, fun e => y.2 ⟨by omega, e.2⟩⟩), by omega, ?_, fun j => ?_⟩
      · rw [i3, if_pos p, i_ss]
      · rw [i4, en_j, enJ_sd hM.1 (by omega), if_pos p, Int32.add_assoc]
    · have pE : ¬ chD E L (nI c) k := fun e => p ⟨by rw [← s0]; exact e.1, e.2⟩
      have eq2 : shI D0 L c k = 0 := if_neg p
      have ep : shP D0 L c a.toInt s.toInt k = 0 := by
        unfold shP
        rw [eq2, Int.mul_zero, Int.zero_ediv]
      have eA : dvA b (nI c) a s k (N, left) = (N, left) := by
        unfold dvA
        rw [if_neg (fun y => pE (hx.mp y))]
      obtain ⟨E', i1, i2, i3, i4⟩ := rm_dvl hD hB hh h0 ha hs q (k + 1) N E left Y (by omega) hM hl (by omega) (fun i a1 a2 a3 => hY i (by omega) a2 a3)
      show ∃ E', RM (itr (dvA b (nI c) a s) q (k + 1) (dvA b (nI c) a s k (N, left))).1 b D0 E' L n f r w h (itr (dvA b (nI c) a s) q (k + 1) (dvA b (nI c) a s k (N, left))).2.toInt (fun i => Y i ∧ ¬ (k ≤ i ∧ chD D0 L (nI c) i)) ∧ (itr (dvA b (nI c) a s) q (k + 1) (dvA b (nI c) a s k (N, left))).2.toInt = left.toInt - (shP D0 L c a.toInt s.toInt k + uS (shP D0 L c a.toInt s.toInt) (k + 1) q) ∧
        (itr (dvA b (nI c) a s) q (k + 1) (dvA b (nI c) a s k (N, left))).2 = left - ((if chD D0 L (nI c) k then a * D0 (13 + 13 * k + 4) / s else 0) + iS (fun i => if chD D0 L (nI c) i then a * D0 (13 + 13 * i + 4) / s else 0) (k + 1) q) ∧ ∀ j, E' j = E j + ((if chD D0 L (nI c) k then enJ D0 k (a * D0 (13 + 13 * k + 4) / s) j else 0) + iS (fun i => if chD D0 L (nI c) i then enJ D0 i (a * D0 (13 + 13 * i + 4) / s) j else 0) (k + 1) q)
      rw [eA]
      refine ⟨E', i1.m (fun i hi y => ⟨y.1, fun e => y.2 ⟨by omega, e.2⟩⟩), by omega, ?_, fun j => ?_⟩
      · rw [i3, if_neg p, Int32.zero_add]
      · rw [i4, if_neg p, Int32.zero_add]
