/-! ===== append ===== -/
theorem ap_bv (b : BitVec 32) (k : Nat) (hk : k ≤ 24) : (b >>> k).signExtend 8 = (b.sshiftRight k &&& 255#32).signExtend 8 := by
  apply BitVec.eq_of_getLsbD_eq
  intro i hi
  rw [BitVec.getLsbD_signExtend, BitVec.getLsbD_signExtend, if_pos (by omega), if_pos (by omega), BitVec.getLsbD_and, BitVec.getLsbD_sshiftRight, BitVec.getLsbD_ushiftRight, if_pos (by omega)]
  have e : (255#32).getLsbD i = true := by
    have : ∀ i, i < 8 → (255#32).getLsbD i = true := by decide
    exact this i hi
  rw [e]
  have : decide (32 ≤ i) = false := by simp; omega
  rw [this]
  simp
theorem ap_i8 (w : Int32) (k : Nat) (hk : k ≤ 24) {u : UInt32} {i : Int32} (h1 : u.toBitVec % 32 = BitVec.ofNat 32 k) (h2 : i.toBitVec.smod 32 = BitVec.ofNat 32 k) : (w.toUInt32 >>> u).toInt32.toInt8 = (w >>> i &&& 255).toInt8 := by
  apply Int8.toBitVec_inj.mp
  rw [Int32.toBitVec_toInt8, Int32.toBitVec_toInt8, Int32.toBitVec_and, Int32.toBitVec_shiftRight, UInt32.toBitVec_toInt32, UInt32.toBitVec_shiftRight, h1, h2]
  have e : (BitVec.ofNat 32 k).toNat = k := by rw [BitVec.toNat_ofNat]; omega
  show (w.toBitVec >>> (BitVec.ofNat 32 k)).signExtend 8 = _
  rw [BitVec.ushiftRight_eq', BitVec.sshiftRight', e]
  exact ap_bv _ _ hk
theorem ap_n (y : Int32) : ∃ j : Nat, j < 256 ∧ (y &&& 255) = nI j := by
  refine ⟨(y &&& 255).toBitVec.toNat, ?_, ?_⟩
  · rw [Int32.toBitVec_and, BitVec.toNat_and]
    have := Nat.and_le_right (n := y.toBitVec.toNat) (m := (255 : Int32).toBitVec.toNat)
    have e : (255 : Int32).toBitVec.toNat = 255 := rfl
    omega
  · apply Int32.toBitVec_inj.mp
    apply BitVec.eq_of_toNat_eq
    show _ = (Int32.ofNat _).toBitVec.toNat
    rw [Int32.toBitVec_ofNat', BitVec.toNat_ofNat]
    omega
theorem ap_b1 (w : Int32) (k : Nat) (hk : k ≤ 24) {s i : Int32} (h1 : (s.toUInt32 &&& Int32.toUInt32 31).toBitVec % 32 = BitVec.ofNat 32 k) (h2 : i.toBitVec.smod 32 = BitVec.ofNat 32 k) : ∃ j, j < 256 ∧ (w >>> i &&& 255) = nI j ∧ wB w s = sb (nI j) := by
  obtain ⟨j, hj, ej⟩ := ap_n (w >>> i)
  refine ⟨j, hj, ej, ?_⟩
  unfold wB sb
  rw [pk_vb, ap_i8 w k hk h1 h2, ej]
theorem BX.u {X Y : Nat → Int32} (h : BX X Y) (p : Nat) {u v : Int32} (e : ∃ j, j < 256 ∧ v = nI j ∧ u = sb (nI j)) : BX (upd X p u) (upd Y p v) := by
  intro i hi
  by_cases q : i = p
  · subst q
    rw [upd_s, upd_s]
    exact e
  · rw [upd_n _ _ q, upd_n _ _ q]
    exact h i hi
theorem aw_bx {M : Mm} {t f : Nat} {Y : Nat → Int32} (h : BX (gI M (t + 1)) Y) (hf : f < 2 ^ 30) (e : gI M t 1 = nI f) (w : Int32) : BX (gI (awM M t w) (t + 1)) (upd (upd (upd (upd Y f (apB w 0)) (f + 1) (apB w 1)) (f + 2) (apB w 2)) (f + 3) (apB w 3)) ∧ gI (awM M t w) t 1 = nI (f + 4) := by
  constructor
  · unfold awM
    dsimp only
    rw [gI_f _ _ (by omega), gI_s, e, nI_clamp (show f < 2 ^ 31 by omega)]
    refine (((h.u f ?_).u (f + 1) ?_).u (f + 2) ?_).u (f + 3) ?_
    · exact ap_b1 w 24 (by decide) (by decide) (by decide)
    · exact ap_b1 w 16 (by decide) (by decide) (by decide)
    · exact ap_b1 w 8 (by decide) (by decide) (by decide)
    · exact ap_b1 w 0 (by decide) (by decide) (by decide)
  · unfold awM
    dsimp only
    rw [gI_s, upd_s, e, nI_clamp (show f < 2 ^ 31 by omega)]
theorem aw_fx (M : Mm) {x t : Nat} (w : Int32) (h : x ≤ t ∧ t + 1 < x + 358) : Fx (awM M t w) M x := (Fx.i _ _ (by omega)).t (Fx.i _ _ (by omega))
theorem aw_f (M : Mm) {t q : Nat} (w : Int32) (h1 : q ≠ t) (h2 : q ≠ t + 1) : gI (awM M t w) q = gI M q := by
  unfold awM
  dsimp only
  rw [gI_f _ _ h1, gI_f _ _ h2]
theorem aw_j (M : Mm) (t : Nat) (w : Int32) : gJ (awM M t w) = gJ M := by
  unfold awM
  dsimp only
  rw [gJ_sI, gJ_sI]
theorem apL_f (t : Nat) {q : Nat} (h1 : q ≠ t) (h2 : q ≠ t + 1) : ∀ ws M, gI (apL M t ws) q = gI M q
  | [], _ => rfl
  | w :: ws, M => (apL_f t h1 h2 ws (awM M t w)).trans (aw_f M w h1 h2)
theorem apL_j (t : Nat) : ∀ ws M, gJ (apL M t ws) = gJ M
  | [], _ => rfl
  | w :: ws, M => (apL_j t ws (awM M t w)).trans (aw_j M t w)
theorem apL_k (t : Nat) : ∀ ws M, gK (apL M t ws) = gK M ∧ gP (apL M t ws) = gP M
  | [], _ => ⟨rfl, rfl⟩
  | w :: ws, M => ⟨(apL_k t ws (awM M t w)).1.trans rfl, (apL_k t ws (awM M t w)).2.trans rfl⟩
section APPEND
variable {M : Mm} {x m : Nat}
theorem apL_x {Y : Nat → Int32} {f : Nat} (h : BX (gI M (x + 3)) Y) (hf : f ≤ 880) (e : gI M (x + 2) 1 = nI f) (a b c d w : Int32) : BX (gI (apL M (x + 2) [a, b, c, d, w]) (x + 3)) (itr (apG a b c d w f) 20 0 Y) ∧ gI (apL M (x + 2) [a, b, c, d, w]) (x + 2) 1 = nI (f + 20) := by
  have h1 := aw_bx (t := x + 2) h (by omega) e a
  have h2 := aw_bx h1.1 (by omega) h1.2 b
  have h3 := aw_bx h2.1 (by omega) h2.2 c
  have h4 := aw_bx h3.1 (by omega) h3.2 d
  have h5 := aw_bx h4.1 (by omega) h4.2 w
  exact h5
theorem xs_append (hS : XS M x m) (a b c d w : Int32) : XP M x ∧ (if gI M (x + 2) 1 + 20 ≤ 900 then gI (apM M x [a, b, c, d, w]) (x + 2) 1 else -1) = (if gI (apM M x [a, b, c, d, w]) m 2 + 20 ≤ 900 then gI (apM M x [a, b, c, d, w]) m 2 + 20 else -1) ∧ (LM (apM M x [a, b, c, d, w]) m ∧ cnt (gI (apM M x [a, b, c, d, w]) m 2) 900) ∧ XS (amM (apM M x [a, b, c, d, w]) m a b c d w) x m ∧ ∀ o, Fa (amM (apM M x [a, b, c, d, w]) m a b c d w) M x m o := by
  have hx := hS.1
  have hA := hS.2.2
  obtain ⟨h1, h2, h3, h4, h5, ⟨y1, y2, f, hf, y3⟩, h7, h8⟩ := id hA
  refine ⟨hA.p, ?_⟩
  by_cases hc : gI M m 2 + 20 ≤ 900
  · have f8 : f ≤ 880 := by
      rw [y3, show (20 : Int32) = nI 20 from rfl, nI_add] at hc
      have := t_le.mp hc
      rw [t_nI (by omega), show (900 : Int32).toInt = 900 from rfl] at this
      omega
    have eA : apM M x [a, b, c, d, w] = apL M (x + 2) [a, b, c, d, w] := by
      unfold apM
      rw [if_pos (by rw [y2]; exact hc)]
    rw [eA]
    obtain ⟨b1, b2⟩ := apL_x y1 f8 (y2.trans y3) a b c d w
    have g := apL_k (x + 2) [a, b, c, d, w] M
    have gf : ∀ q, q ≠ x + 2 → q ≠ x + 3 → gI (apL M (x + 2) [a, b, c, d, w]) q = gI M q ∧ gJ (apL M (x + 2) [a, b, c, d, w]) q = gJ M q := fun q q1 q2 => ⟨apL_f (x + 2) q1 q2 _ _, by rw [apL_j]⟩
    have fx : Fx (apL M (x + 2) [a, b, c, d, w]) M x := ⟨g.1, g.2, fun q hq => gf q (by omega) (by omega)⟩
    generalize apL M (x + 2) [a, b, c, d, w] = N at b1 b2 g gf fx ⊢
    have em : gI N m = gI M m := (gf m (by omega) (by omega)).1
    have hL : LM N m := hS.2.1.kp g.1 g.2
    rw [em, if_pos (by rw [y2]; exact hc), if_pos hc, b2]
    have e20 : nI (f + 20) = gI M m 2 + 20 := by rw [y3, show (20 : Int32) = nI 20 from rfl, nI_add]
    have eM : amM N m a b c d w = sI (sI (tS N m 0) (m + 1) (itr (apG a b c d w f) 20 0 (gI M (m + 1)))) m (upd (gI (tS N m 0) m) 2 (gI M m 2 + 20)) := by
      unfold amM
      rw [em, if_pos hc, y3, nI_clamp (show f < 2 ^ 31 by omega), (gf (m + 1) (by omega) (by omega)).1]
    rw [eM]
    have fm : Fm (sI (sI (tS N m 0) (m + 1) (itr (apG a b c d w f) 20 0 (gI M (m + 1)))) m (upd (gI (tS N m 0) m) 2 (gI M m 2 + 20))) N m := (Fm.i _ _ (by omega)).t ((Fm.i _ _ (by omega)).t (fm_tS N m 0))
    have xa : XA N x (gI M (m + 2)) (itr (apG a b c d w f) 20 0 (gI M (m + 1))) (gI M m 2 + 20) (gI M m 7) (gI M m 12) (fun k => gI M (m + 6 + k)) :=
      ⟨h1.k2 g.1 g.2, h2.eq (fun k hk => (gf _ (by omega) (by omega)).1) (gf _ (by omega) (by omega)).2, h3.eq (gf _ (by omega) (by omega)).1, h4.eq (fun q q1 q2 => gf q (by omega) (by omega)), h5.eq (fun k hk => (gf _ (by omega) (by omega)).1) (gf _ (by omega) (by omega)).2, ⟨b1, by rw [b2, e20], by rw [← e20]; exact ⟨f + 20, by omega, rfl⟩⟩, by rw [(gf x (by omega) (by omega)).1]; exact h7, h8.eq (fun q q1 q2 => (gf q (by omega) (by omega)).1)⟩
    refine ⟨e20, ⟨hL, ⟨f, hf, y3⟩⟩, XS.mk xa hx hL fm ?_ ?_ ?_ ?_ ?_ (fun k hk => ?_), fun o => (fm.a hx).t (fx.a hx)⟩
    · rw [gI_f _ _ (by omega), gI_f _ _ (by omega), tS_f _ _ (by omega), (gf _ (by omega) (by omega)).1]
      exact ag9.r _
    · rw [gI_f _ _ (by omega), gI_s]
    · rw [gI_s, upd_s]
    · rw [gI_s, upd_n _ _ (by decide), tS_n _ _ _ (by decide), em]
    · rw [gI_s, upd_n _ _ (by decide), tS_n _ _ _ (by decide), em]
    · rw [gI_f _ _ (by omega), gI_f _ _ (by omega), tS_f _ _ (by omega), (gf _ (by omega) (by omega)).1]
      exact ag9.r _
  · have eA : apM M x [a, b, c, d, w] = M := by
      unfold apM
      rw [if_neg (by rw [y2]; exact hc)]
    have eM : amM M m a b c d w = tS M m 0 := by
      unfold amM
      rw [if_neg hc]
    rw [eA, eM, if_neg hc, if_neg (by rw [y2]; exact hc)]
    exact ⟨rfl, ⟨hS.2.1, ⟨f, hf, y3⟩⟩, hS.t 0, fun o => (fm_tS M m 0).a hx⟩
end APPEND
