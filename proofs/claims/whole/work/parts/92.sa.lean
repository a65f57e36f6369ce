/-! ===== answers of a State and of a row ===== -/
theorem bI_j {c : Int32} {n : Nat} (h : bI c (nI n) = none) (hn : n < 2 ^ 30) : ∃ j, j < n ∧ c = nI j := by
  unfold bI at h
  split at h
  · cases h
  · rename_i q
    obtain ⟨j, hj, rfl⟩ := nI_of (fun z => q (Or.inl z))
    rcases Nat.lt_or_ge j n with z | z
    · exact ⟨j, z, rfl⟩
    · exact absurd (Or.inr ((nI_leI (by omega) (by omega)).mpr z)) q
theorem xr_gu {M : Mm} {b : Nat} {D : Nat → Int32} {n f r w g h : Nat} (hX : XR M b D n f r w g h) : plM M (b + 25) = guD D := by
  obtain ⟨hW, hB, hs, hd, hF, -, ⟨gp, gw⟩, -⟩ := hX
  have hw : w ≤ 10 := hW.1.2.2.2.1
  have hg : g ≤ 9 := hW.1.2.2.2.2
  unfold plM guD
  rw [gp, hs.1.2.2.2, hW.2.1.2.2.2.1, hW.2.1.2.2.2.2, nI_clamp (show g < 2 ^ 31 by omega)]
  rcases Nat.eq_zero_or_pos w with z | z
  · subst z
    rw [gw rfl]
    rw [if_neg (by decide), if_pos (by rfl)]
  · have gl : g < w := hW.2.2.1.resolve_left (by omega)
    rw [if_pos ((nI_ltI (by omega) (by omega)).mpr gl), if_neg (fun e => by have := (nI_sI (show w < 2 ^ 31 by omega)).mp e; omega)]
    exact hs.2.2.2.2.2 g gl
theorem xr_tu {M : Mm} {b : Nat} {D : Nat → Int32} {n f r w g h : Nat} (hX : XR M b D n f r w g h) {t : Int32} (h0 : 0 ≤ t.toInt) : tuW D t ∧ villV M (b + 22) t = tuD D t := tu_m hX.1 hX.2.2.1 h0
theorem xr_h {M : Mm} {b : Nat} {D : Nat → Int32} {n f r w g h : Nat} (hX : XR M b D n f r w g h) : 0 ≤ (D 5).toInt := by
  rw [hX.2.2.2.2.2.1.2.1, t_nI (by have := hX.2.2.2.2.2.1.2.2; omega)]
  omega
theorem xr_in {M : Mm} {b : Nat} {D : Nat → Int32} {n f r w g h : Nat} (hX : XR M b D n f r w g h) {t : Int32} (h0 : 0 ≤ t.toInt) (h1 : t.toInt ≤ 1000000000) (K : Nat → Int64) : fmV ((fmR M (b + 27) t (villV M (b + 22) t)).2 0) = ioV D t K ∧ ioW D := by
  obtain ⟨hW, hB, hs, hd, hF, -, -, -, -, hFW, hRT⟩ := hX
  rw [(tu_m hW hs h0).2]
  obtain ⟨a1, a2, -⟩ := fw_v hFW h0 h1 (tu_b (tu_r hW hs hRT h0)) K
  exact ⟨a1, a2⟩
theorem xr_op {M : Mm} {b : Nat} {D : Nat → Int32} {n f r w g h : Nat} (hX : XR M b D n f r w g h) {k : Nat} (hk : k < f) : bG M (b + 10) k (villV M (b + 22) (gI M b 6)) = oqI D k := by
  have h5 := xr_h hX
  obtain ⟨hW, hB, hs, hd, hF, ⟨t6, t5, -⟩, -⟩ := hX
  rw [t6, ← t5, (tu_m hW hs h5).2]
  exact bg_o hF hk (hs.2.2.1 k hk).2.1 (hd.2.2.1 k hk).2.2.2
theorem xr_wi {M : Mm} {b : Nat} {D : Nat → Int32} {n f r w g h : Nat} (hX : XR M b D n f r w g h) {c j : Nat} (hc : c < n) (hj : j ≤ 6) : (if nI j < gI M (b + 3) c then gI M (b + 9) (slotv (nI c) (gI M b 6 + nI j)).toNatClampNeg else 0) = D (13 + 13 * c + 6 + j) := by
  obtain ⟨hW, hB, hs, hd, hF, ⟨t6, t5, hh⟩, -, -, hP, -⟩ := hX
  have hn : n ≤ 16 := hW.1.1
  obtain ⟨d, d1, d2, d3⟩ := (hW.2.2.2.1 c hc).1
  rw [(hs.2.1 c hc).2.1, d3, t6, nI_add, sl_n (by omega) (by omega), nI_clamp (by omega)]
  have p := hP c d hc d3 d2
  by_cases q : j < d
  · rw [if_pos ((nI_ltI (by omega) (by omega)).mpr q)]
    exact hd.2.1 c j hc (by omega)
  · rw [if_neg (fun z => q ((nI_ltI (by omega) (by omega)).mp z))]
    by_cases e : j = d
    · rw [e]
      exact (p.2.2 trivial).symm
    · exact (p.2.1 j (by omega) hj).symm
/-! == sums of longs == -/
def jS (F : Nat → Int64) : Nat → Nat → Int64
  | _, 0 => 0
  | k, r + 1 => F k + jS F (k + 1) r
theorem jS_e {F H : Nat → Int64} : ∀ r k, (∀ i, k ≤ i → i < k + r → F i = H i) → jS F k r = jS H k r
  | 0, _, _ => rfl
  | r + 1, k, h => by
    unfold jS
    rw [h k (Nat.le_refl _) (by omega), jS_e r (k + 1) (fun i a b => h i (by omega) (by omega))]
theorem ws_s (F : Nat → Int32) : ∀ q k (s : Int64), itr (wsA F) q k s = s + jS (fun i => (F i).toInt64) k q
  | 0, _, s => by
    show s = s + 0
    rw [Int64.add_zero]
  | q + 1, k, s => by
    show itr (wsA F) q (k + 1) (s + (F k).toInt64) = s + ((F k).toInt64 + jS (fun i => (F i).toInt64) (k + 1) q)
    rw [ws_s F q (k + 1), Int64.add_assoc]
theorem jS_a (F : Nat → Int64) : ∀ r s k, jS F k (r + s) = jS F k r + jS F (k + r) s
  | 0, s, k => by
    rw [Nat.zero_add, Nat.add_zero]
    show _ = 0 + _
    rw [Int64.zero_add]
  | r + 1, s, k => by
    have e : r + 1 + s = (r + s) + 1 := by omega
    rw [e]
    show F k + jS F (k + 1) (r + s) = F k + jS F (k + 1) r + jS F (k + (r + 1)) s
    rw [jS_a F r s (k + 1), Int64.add_assoc, show k + 1 + r = k + (r + 1) by omega]
theorem jS_7 (F : Nat → Int64) (P t : Nat) : jS F P 7 = F (P + t % 7) + F (P + (t + 1) % 7) + F (P + (t + 2) % 7) + F (P + (t + 3) % 7) + F (P + (t + 4) % 7) + F (P + (t + 5) % 7) + F (P + (t + 6) % 7) := by
  have e : jS F P 7 = F P + (F (P + 1) + (F (P + 2) + (F (P + 3) + (F (P + 4) + (F (P + 5) + (F (P + 6) + 0)))))) := rfl
  rw [e, Int64.add_zero]
  have ht : t % 7 = 0 ∨ t % 7 = 1 ∨ t % 7 = 2 ∨ t % 7 = 3 ∨ t % 7 = 4 ∨ t % 7 = 5 ∨ t % 7 = 6 := by omega
  rcases ht with q | q | q | q | q | q | q
  · rw [q, show (t + 1) % 7 = 1 by omega, show (t + 2) % 7 = 2 by omega, show (t + 3) % 7 = 3 by omega, show (t + 4) % 7 = 4 by omega, show (t + 5) % 7 = 5 by omega, show (t + 6) % 7 = 6 by omega, Nat.add_zero]
    ac_rfl
  · rw [q, show (t + 1) % 7 = 2 by omega, show (t + 2) % 7 = 3 by omega, show (t + 3) % 7 = 4 by omega, show (t + 4) % 7 = 5 by omega, show (t + 5) % 7 = 6 by omega, show (t + 6) % 7 = 0 by omega, Nat.add_zero]
    ac_rfl
  · rw [q, show (t + 1) % 7 = 3 by omega, show (t + 2) % 7 = 4 by omega, show (t + 3) % 7 = 5 by omega, show (t + 4) % 7 = 6 by omega, show (t + 5) % 7 = 0 by omega, show (t + 6) % 7 = 1 by omega, Nat.add_zero]
    ac_rfl
  · rw [q, show (t + 1) % 7 = 4 by omega, show (t + 2) % 7 = 5 by omega, show (t + 3) % 7 = 6 by omega, show (t + 4) % 7 = 0 by omega, show (t + 5) % 7 = 1 by omega, show (t + 6) % 7 = 2 by omega, Nat.add_zero]
    ac_rfl
  · rw [q, show (t + 1) % 7 = 5 by omega, show (t + 2) % 7 = 6 by omega, show (t + 3) % 7 = 0 by omega, show (t + 4) % 7 = 1 by omega, show (t + 5) % 7 = 2 by omega, show (t + 6) % 7 = 3 by omega, Nat.add_zero]
    ac_rfl
  · rw [q, show (t + 1) % 7 = 6 by omega, show (t + 2) % 7 = 0 by omega, show (t + 3) % 7 = 1 by omega, show (t + 4) % 7 = 2 by omega, show (t + 5) % 7 = 3 by omega, show (t + 6) % 7 = 4 by omega, Nat.add_zero]
    ac_rfl
  · rw [q, show (t + 1) % 7 = 0 by omega, show (t + 2) % 7 = 1 by omega, show (t + 3) % 7 = 2 by omega, show (t + 4) % 7 = 3 by omega, show (t + 5) % 7 = 4 by omega, show (t + 6) % 7 = 5 by omega, Nat.add_zero]
    ac_rfl
theorem xr_6 {M : Mm} {b : Nat} {D : Nat → Int32} {n f r w g h : Nat} (hX : XR M b D n f r w g h) {c : Nat} (hc : c < n) : D (13 + 13 * c + 6 + 6) = 0 := by
  obtain ⟨hW, hB, hs, hd, hF, -, -, -, hP, -⟩ := hX
  obtain ⟨d, d1, d2, d3⟩ := (hW.2.2.2.1 c hc).1
  have p := hP c d hc d3 d2
  by_cases e : d = 6
  · subst e
    exact p.2.2 trivial
  · exact p.2.1 6 (by omega) (Nat.le_refl 6)
/-- the water in all canals -/
theorem xr_tc {M : Mm} {b : Nat} {D : Nat → Int32} {n f r w g h : Nat} (hX : XR M b D n f r w g h) : itr (wsA (gI M (b + 9))) (n * 7) 0 0 = toC D := by
  have hX0 := hX
  obtain ⟨hW, hB, hs, hd, hF, -⟩ := hX
  have hn : n ≤ 16 := hW.1.1
  unfold toC
  rw [hW.2.1.1, nI_clamp (show n < 2 ^ 31 by omega)]
  have key : ∀ q c (s : Int64), c + q = n → itr (wsA (gI M (b + 9))) (q * 7) (7 * c) s = itr (fun c s => itr (wsA (fun k => D (13 + 13 * c + 6 + k))) 6 0 s) q c s := by
    intro q
    induction q with
    | zero => exact fun _ _ _ => rfl
    | succ q ih =>
      intro c s hc
      have e7 := jS_7 (fun i => (gI M (b + 9) i).toInt64) (7 * c) h
      have d0 := hd.2.1 c 0 (by omega) (by decide)
      have d1 := hd.2.1 c 1 (by omega) (by decide)
      have d2 := hd.2.1 c 2 (by omega) (by decide)
      have d3 := hd.2.1 c 3 (by omega) (by decide)
      have d4 := hd.2.1 c 4 (by omega) (by decide)
      have d5 := hd.2.1 c 5 (by omega) (by decide)
      have d6 := hd.2.1 c 6 (by omega) (by decide)
      rw [xr_6 hX0 (show c < n by omega)] at d6
      try dsimp only at e7
      have d0' : gI M (b + 9) (7 * c + h % 7) = D (13 + 13 * c + 6 + 0) := d0
      rw [d0', d1, d2, d3, d4, d5, d6, show (0 : Int32).toInt64 = 0 from rfl, Int64.add_zero] at e7
      have es : itr (wsA (fun k => D (13 + 13 * c + 6 + k))) 6 0 s = s + jS (fun i => (gI M (b + 9) i).toInt64) (7 * c) 7 := by
        rw [ws_s, e7]
        congr 1
        show (D (13 + 13 * c + 6 + 0)).toInt64 + ((D (13 + 13 * c + 6 + 1)).toInt64 + ((D (13 + 13 * c + 6 + 2)).toInt64 + ((D (13 + 13 * c + 6 + 3)).toInt64 + ((D (13 + 13 * c + 6 + 4)).toInt64 + ((D (13 + 13 * c + 6 + 5)).toInt64 + 0))))) = _
        rw [Int64.add_zero]
        simp only [Nat.add_zero]
        ac_rfl
      show _ = itr (fun c s => itr (wsA (fun k => D (13 + 13 * c + 6 + k))) 6 0 s) q (c + 1) (itr (wsA (fun k => D (13 + 13 * c + 6 + k))) 6 0 s)
      rw [es, ← ih (c + 1) _ (by omega), ws_s, ws_s, show (q + 1) * 7 = 7 + q * 7 by omega, jS_a, show 7 * c + 7 = 7 * (c + 1) by omega, Int64.add_assoc]
  exact key n 0 0 (by omega)
theorem xr_tf {M : Mm} {b : Nat} {D : Nat → Int32} {n f r w g h : Nat} (hX : XR M b D n f r w g h) : itr (wsA (gI M (b + 18))) f 0 0 = toF D := by
  obtain ⟨hW, hB, hs, hd, hF, -⟩ := hX
  have hf : f ≤ 12 := hW.1.2.1
  unfold toF
  rw [hW.2.1.2.1, nI_clamp (show f < 2 ^ 31 by omega), ws_s, ws_s]
  congr 1
  exact jS_e _ _ (fun i a1 a2 => by rw [(hd.2.2.1 i (by omega)).1])
theorem xr_to {M : Mm} {x : Nat} {D : Nat → Int32} {n f r w g h : Nat} (hX : XR M (x + 36) D n f r w g h) (v : Int32) : toV M x v = toD D v := by
  have hc := xr_tc hX
  have hf := xr_tf hX
  obtain ⟨hW, hB, hs, ⟨-, -, -, -, l1, l2, l3, l4⟩, -⟩ := hX
  have e1 : gI M (x + 37) 8 = nI n := hs.1.1
  have e2 : gI M (x + 46) 11 = nI f := hs.1.2.1
  unfold toV toD
  rw [e1, e2, nI_clamp (show n < 2 ^ 31 by have := hW.1.1; omega), nI_clamp (show f < 2 ^ 31 by have := hW.1.2.1; omega)]
  rw [show gJ M (x + 66) 1 = _ from l1, show gJ M (x + 66) 2 = _ from l2, show gJ M (x + 66) 3 = _ from l3, show gJ M (x + 66) 4 = _ from l4, show itr (wsA (gI M (x + 45))) (n * 7) 0 0 = _ from hc, show itr (wsA (gI M (x + 54))) f 0 0 = _ from hf]
/-- the checksum -/
theorem xr_kI {M : Mm} {x : Nat} {D : Nat → Int32} {n f r w g h : Nat} (hX : XR M (x + 36) D n f r w g h) {c : Nat} (hc : c < n) : ∀ q z (s : Int64), z + q ≤ 6 → itr (ckI M x c) q z s = itr (ksI D c) q z s
  | 0, _, s, _ => by
    show s = s
    rfl
  | q + 1, z, s, hz => by
    have hX0 := hX
    obtain ⟨hW, hB, hs, hd, hF, ⟨t6, t5, hh⟩, -⟩ := hX
    have hn : n ≤ 16 := hW.1.1
    have e : gI M (x + 45) (slotv (nI c) (gI M (x + 36) 6 + nI z)).toNatClampNeg = D (13 + 13 * c + 6 + z) := by
      rw [t6, nI_add, sl_n (by omega) (by omega), nI_clamp (by omega)]
      exact hd.2.1 c z hc (by omega)
    have es : ckI M x c z s = ksI D c z s := by
      unfold ckI ksI
      rw [e]
    show itr (ckI M x c) q (z + 1) (ckI M x c z s) = itr (ksI D c) q (z + 1) (ksI D c z s)
    rw [es]
    exact xr_kI hX0 hc q (z + 1) _ (by omega)
theorem xr_kC {M : Mm} {x : Nat} {D : Nat → Int32} {n f r w g h : Nat} (hX : XR M (x + 36) D n f r w g h) : ∀ q c (s : Int64), c + q ≤ n → itr (ckC M x) q c s = itr (ksC D) q c s
  | 0, _, s, _ => by
    show s = s
    rfl
  | q + 1, c, s, hc => by
    obtain ⟨d, d1, d2, d3⟩ := (hX.1.2.2.2.1 c (by omega)).1
    have e3 : gI M (x + 39) c = nI d := ((hX.2.2.1.2.1 c (by omega)).2.1).trans d3
    have es : ckC M x c s = ksC D c s := by
      unfold ckC ksC
      rw [e3, d3, nI_clamp (show d < 2 ^ 31 by omega)]
      exact xr_kI hX (by omega) d 0 s (by omega)
    show itr (ckC M x) q (c + 1) (ckC M x c s) = itr (ksC D) q (c + 1) (ksC D c s)
    rw [es]
    exact xr_kC hX q (c + 1) _ (by omega)
theorem if_01 {y : Int32} (h : y = 0 ∨ y = 1) : (if y = 0 then Int32.toInt64 0 else Int32.toInt64 1) = y.toInt64 := by
  rcases h with e | e
  · rw [if_pos e, e]
  · rw [if_neg (by rw [e]; decide), e]
theorem xr_kF {M : Mm} {x : Nat} {D : Nat → Int32} {n f r w g h : Nat} (hX : XR M (x + 36) D n f r w g h) : ∀ q k (s : Int64), k + q ≤ f → itr (ckF M x) q k s = itr (ksF D) q k s
  | 0, _, s, _ => by
    show s = s
    rfl
  | q + 1, k, s, hk => by
    obtain ⟨a1, a2, a3, a4⟩ := hX.2.2.2.1.2.2.1 k (by omega)
    have b1 : gI M (x + 54) k = D (221 + 11 * k + 7) := a1
    have b2 : gI M (x + 55) k = D (221 + 11 * k + 8) := a2
    have b3 : gI M (x + 56) k = D (221 + 11 * k + 9) := a3
    have b4 : gI M (x + 57) k = D (221 + 11 * k + 10) := a4
    have es : ckF M x k s = ksF D k s := by
      unfold ckF ksF
      rw [b1, b2, b3, b4, if_01 (hX.2.2.2.2.1 k (by omega))]
    show itr (ckF M x) q (k + 1) (ckF M x k s) = itr (ksF D) q (k + 1) (ksF D k s)
    rw [es]
    exact xr_kF hX q (k + 1) _ (by omega)
theorem xr_kV {M : Mm} {x : Nat} {D : Nat → Int32} {n f r w g h : Nat} (hX : XR M (x + 36) D n f r w g h) : ∀ q k (s : Int64), k + q ≤ 6 → itr (ckV M x) q k s = itr (ksV D) q k s
  | 0, _, s, _ => by
    show s = s
    rfl
  | q + 1, k, s, hk => by
    have b1 : gI M (x + 67) k = D (387 + k) := hX.2.2.2.1.2.2.2.1 k (by omega)
    have es : ckV M x k s = ksV D k s := by
      unfold ckV ksV
      rw [b1]
    show itr (ckV M x) q (k + 1) (ckV M x k s) = itr (ksV D) q (k + 1) (ksV D k s)
    rw [es]
    exact xr_kV hX q (k + 1) _ (by omega)
theorem xr_ck {M : Mm} {x : Nat} {D : Nat → Int32} {n f r w g h : Nat} (hX : XR M (x + 36) D n f r w g h) : ckR M x = ksR D := by
  have e1 : gI M (x + 37) 8 = nI n := hX.2.2.1.1.1
  have e2 : gI M (x + 46) 11 = nI f := hX.2.2.1.1.2.1
  have e3 : plM M (x + 61) = guD D := xr_gu hX
  have e4 : gI M (x + 36) 6 = D 5 := hX.2.2.2.2.2.1.1.trans hX.2.2.2.2.2.1.2.1.symm
  have hn : n ≤ 16 := hX.1.1.1
  have hf : f ≤ 12 := hX.1.1.2.1
  unfold ckR ksR
  rw [e1, e2, e3, e4, hX.1.2.1.1, hX.1.2.1.2.1, nI_clamp (show n < 2 ^ 31 by omega), nI_clamp (show f < 2 ^ 31 by omega), xr_kC hX n 0 _ (by omega), xr_kF hX f 0 _ (by omega), xr_kV hX 6 0 _ (by omega)]
/-! == hours divided among the villages == -/
theorem xr_dm {M : Mm} {b : Nat} {D : Nat → Int32} {n f r w g h : Nat} (hX : XR M b D n f r w g h) (v : Int32) : dmR M (b + 10) v = deD D v ∧ 0 ≤ (deD D v).toInt ∧ (deD D v).toInt ≤ 9999 * 12 := by
  obtain ⟨hW, hB, hs, -⟩ := hX
  have hf : f ≤ 12 := hW.1.2.1
  unfold dmR deD
  rw [hs.1.2.1, hW.2.1.2.1, nI_clamp (show f < 2 ^ 31 by omega)]
  have key : ∀ q k (s : Int32), k + q = f → 0 ≤ s.toInt → s.toInt ≤ 9999 * k → itr (dmA M (b + 10) v) q k s = itr (deA D v) q k s ∧ 0 ≤ (itr (deA D v) q k s).toInt ∧ (itr (deA D v) q k s).toInt ≤ 9999 * f := by
    intro q
    induction q with
    | zero =>
      intro k s hk h0 h1
      refine ⟨rfl, h0, ?_⟩
      show s.toInt ≤ _
      omega
    | succ q ih =>
      intro k s hk h0 h1
      have b3 := (hB.2 k (by omega)).2.1
      obtain ⟨-, a1, -, a3, -⟩ := hs.2.2.1 k (by omega)
      have es : dmA M (b + 10) v k s = deA D v k s := by
        unfold dmA deA
        rw [show gI M (b + 10 + 2) k = _ from a1, show gI M (b + 10 + 4) k = _ from a3]
        split
        · rfl
        · rw [Int32.add_zero]
      have eb : 0 ≤ (deA D v k s).toInt ∧ (deA D v k s).toInt ≤ 9999 * ((k + 1 : Nat) : Int) := by
        unfold deA
        split
        · rw [t_add (by omega) (by omega)]
          omega
        · omega
      show itr (dmA M (b + 10) v) q (k + 1) (dmA M (b + 10) v k s) = itr (deA D v) q (k + 1) (deA D v k s) ∧ _
      rw [es]
      exact ih (k + 1) _ (by omega) eb.1 eb.2
  obtain ⟨k1, k2, k3⟩ := key f 0 0 (by omega) (Int.le_refl _) (Int.le_refl _)
  exact ⟨k1, k2, by omega⟩
theorem xr_fh {M : Mm} {b : Nat} {D : Nat → Int32} {n f r w g h : Nat} (hX : XR M b D n f r w g h) (v t : Int32) : fpV M (b + 10) v t = faV D v t := by
  have dm := fun v => (xr_dm hX v).1
  have db := fun v => (xr_dm hX v).2
  have key : ∀ (q k : Nat) (s : Int32), k + q = 6 → 0 ≤ s.toInt → s.toInt ≤ 119988 * (k : Int) → itr (fun k s => s + dmR M (b + 10) (nI k)) q k s = itr (fun k s => s + deD D (nI k)) q k s ∧ 0 ≤ (itr (fun k s => s + deD D (nI k)) q k s).toInt := by
    intro q
    induction q with
    | zero =>
      intro k s _ h0 _
      refine ⟨?_, h0⟩
      show s = s
      rfl
    | succ q ih =>
      intro k s hk h0 h1
      obtain ⟨b0, b1⟩ := db (nI k)
      show itr (fun k s => s + dmR M (b + 10) (nI k)) q (k + 1) (s + dmR M (b + 10) (nI k)) = itr (fun k s => s + deD D (nI k)) q (k + 1) (s + deD D (nI k)) ∧ _
      rw [dm]
      exact ih (k + 1) _ (by omega) (by rw [t_add (by omega) (by omega)]; omega) (by rw [t_add (by omega) (by omega)]; omega)
  have eS : fpS M (b + 10) = faS D ∧ 0 ≤ (faS D).toInt := key 6 0 0 rfl (Int.le_refl _) (Int.le_refl _)
  have eA : ∀ al rm k z, fpA M (b + 10) v t al rm k z = faA D v t al rm k z := by
    intro al rm k z
    unfold fpA faA
    rw [dm]
    congr 1
    by_cases p : rm < irm (t * deD D (nI k)) al
    · rw [if_pos (Or.inl p), if_pos p]
    · rw [if_neg p]
      by_cases q : irm (t * deD D (nI k)) al = rm ∧ nI k < v
      · rw [if_pos (Or.inr q), if_pos q]
      · rw [if_neg (fun y => y.elim p q), if_neg q, Int32.add_zero]
  have eR : ∀ al rm q k z, itr (fpA M (b + 10) v t al rm) q k z = itr (faA D v t al rm) q k z := by
    intro al rm q
    induction q with
    | zero =>
      intro k z
      show z = z
      rfl
    | succ q ih =>
      intro k z
      show itr (fpA M (b + 10) v t al rm) q (k + 1) (fpA M (b + 10) v t al rm k z) = itr (faA D v t al rm) q (k + 1) (faA D v t al rm k z)
      rw [eA]
      exact ih (k + 1) _
  unfold fpV faV fpR
  rw [eS.1, dm, eR]
  by_cases p : faS D = 0
  · rw [if_pos p, if_pos (by rw [p]; decide)]
  · rw [if_neg p, if_neg (fun y => p (Int32.toInt_inj.mp (by
      have y1 : (faS D).toInt ≤ 0 := t_le.mp y
      show (faS D).toInt = 0
      omega)))]
