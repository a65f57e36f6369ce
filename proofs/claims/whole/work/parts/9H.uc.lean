/-! ===== the calls that may throw: the two sides agree ===== -/
/-- outside of both objects and the answer's cell nothing has changed -/
def Fa (N M : Mm) (x m o : Nat) : Prop := gK N = gK M ∧ gP N = gP M ∧ ∀ q, (q < x ∨ m + 17 ≤ q) → q ≠ o → gI N q = gI M q
theorem Fa.r (M : Mm) (x m o : Nat) : Fa M M x m o := ⟨rfl, rfl, fun _ _ _ => rfl⟩
theorem Fa.t {A B C : Mm} {x m o : Nat} (h : Fa A B x m o) (g : Fa B C x m o) : Fa A C x m o := ⟨h.1.trans g.1, h.2.1.trans g.2.1, fun q a b => (h.2.2 q a b).trans (g.2.2 q a b)⟩
theorem Fm.a {N M : Mm} {x m o : Nat} (h : Fm N M m) (hx : x + 358 ≤ m) : Fa N M x m o := ⟨h.1, h.2.1, fun q a _ => (h.2.2 q (by omega)).1⟩
theorem Fx.a {N M : Mm} {x m o : Nat} (h : Fx N M x) (hx : x + 358 ≤ m) : Fa N M x m o := ⟨h.1, h.2.1, fun q a _ => (h.2.2 q (by omega)).1⟩
theorem Fa.z (M : Mm) (x m o z : Nat) : Fa (sZ M z) M x m o := ⟨rfl, rfl, fun _ _ _ => rfl⟩
theorem Fa.o (M : Mm) (x m o : Nat) (f : Nat → Int64) : Fa (sJ M o f) M x m o := ⟨rfl, rfl, fun _ _ _ => rfl⟩
/-- a call of one and of the other, and what they answer -/
def HO (M : Mm) (x m o : Nat) (bad : Option Nat) (f : Nat → Int32) (N : Mm) (v : Int64) (pre : Mm → Prop) (w : Mm → Int64) (Q : Mm → Mm) : Prop :=
  gK N = gK M ∧ ∀ P, ((bad = none ∧ P = sJ N o (vp_updL (gJ N o) 0 v)) ∨ ∃ e z, bad = some e ∧ P = sZ M z) →
    Fa P M x m o ∧ pre P ∧ XS (Q P) x m ∧ Fa (Q P) M x m o ∧ gJ (Q P) o = gJ P o ∧ (bad = none → gI (Q P) m 0 = 0 ∧ v = w P) ∧ ∀ e, bad = some e → gI (Q P) m 0 = f e ∧ ¬ f e = 0
/-- an answer's cell is nobody's -/
theorem XS.o {M : Mm} {x m o : Nat} (h : XS M x m) (ho : m + 17 ≤ o) (f : Nat → Int64) : XS (sJ M o f) x m := by
  obtain ⟨h1, h2, h3⟩ := h
  refine ⟨h1, h2.kp rfl rfl, ?_⟩
  exact h3.c rfl rfl (fun q _ hq => ⟨rfl, gJ_f _ _ (by omega)⟩)
theorem XS.z {M : Mm} {x m : Nat} (h : XS M x m) (z : Nat) : XS (sZ M z) x m := by
  obtain ⟨h1, h2, h3⟩ := h
  exact ⟨h1, h2.kp rfl rfl, h3.c rfl rfl (fun q _ hq => ⟨rfl, rfl⟩)⟩
theorem XS.t {M : Mm} {x m : Nat} (h : XS M x m) (k : Int32) : XS (tS M m k) x m := by
  have hx := h.1
  refine h.mo (Fx.r M x) h.2.2 (fm_tS M m k) (tS_n _ _ _ (by decide)) (tS_n _ _ _ (by decide)) (tS_n _ _ _ (by decide)) (tS_f _ _ (by omega)) (tS_f _ _ (by omega)) (fun k' hk => tS_f _ _ (by omega))
theorem XS.g {M : Mm} {x m : Nat} (h : XS M x m) : ∃ n f r w g t, t ≤ 100000 ∧ XR M (x + 36) (gI M (m + 2)) n f r w g t := h.2.2.2.1
theorem ho_rd {M : Mm} {x m o : Nat} {bad : Option Nat} {f : Nat → Int32} {v : Int64} {pre : Mm → Prop} {w : Mm → Int64} {code : Mm → Int32} (hS : XS M x m) (ho : m + 17 ≤ o) (hp : ∀ P, gI P = gI M → gK P = gK M → gP P = gP M → pre P) (h0 : bad = none → ∀ P, gI P = gI M → code P = 0 ∧ v = w P) (h1 : ∀ e, bad = some e → ∀ P, gI P = gI M → code P = f e ∧ ¬ f e = 0) : HO M x m o bad f M v pre w (fun P => tS P m (code P)) := by
  refine ⟨rfl, fun P hP => ?_⟩
  have e : gI P = gI M ∧ gK P = gK M ∧ gP P = gP M ∧ XS P x m ∧ Fa P M x m o := by
    rcases hP with ⟨-, rfl⟩ | ⟨e, z, -, rfl⟩
    · exact ⟨rfl, rfl, rfl, hS.o ho _, Fa.o _ _ _ _ _⟩
    · exact ⟨rfl, rfl, rfl, hS.z z, Fa.z _ _ _ _ _⟩
  obtain ⟨e1, e2, e3, e4, e5⟩ := e
  have hx := hS.1
  refine ⟨e5, hp P e1 e2 e3, e4.t _, ((fm_tS P m (code P)).a hx).t e5, rfl, fun hb => ?_, fun b hb => ?_⟩
  · rw [tS_0]
    exact h0 hb P e1
  · rw [tS_0]
    exact h1 b hb P e1
theorem bI_o (c : Int32) {n : Nat} (hn : n < 2 ^ 30) : (bI c (nI n) = none ∧ ccK c 0 (nI n - 1) 1 = 0) ∨ (bI c (nI n) = some 1 ∧ ccK c 0 (nI n - 1) 1 = 1) := by
  have e1 : (nI n - 1).toInt = n - 1 := by
    rw [t_sub (by rw [t_nI (by omega), show (1 : Int32).toInt = 1 from rfl]; omega) (by rw [t_nI (by omega), show (1 : Int32).toInt = 1 from rfl]; omega), t_nI (by omega)]
    rfl
  unfold bI ccK
  by_cases p : c < 0 ∨ nI n ≤ c
  · right
    rw [if_pos p]
    refine ⟨rfl, if_neg (fun q => ?_)⟩
    rcases p with p | p
    · exact q.1 p
    · have q2 : ¬ (nI n - 1).toInt < c.toInt := fun z => q.2 (t_lt.mpr z)
      have p2 := t_le.mp p
      rw [t_nI (by omega)] at p2
      omega
  · left
    rw [if_neg p]
    refine ⟨rfl, if_pos ⟨fun q => p (Or.inl q), fun q => p (Or.inr (t_le.mpr ?_))⟩⟩
    have q2 := t_lt.mp q
    rw [t_nI (by omega)]
    omega
theorem bR_o (h lo hi k : Int32) : (bR h lo hi = none ∧ ccK h lo hi k = 0 ∧ inI h lo hi) ∨ (bR h lo hi = some 0 ∧ ccK h lo hi k = k ∧ ¬ inI h lo hi) := by
  unfold bR ccK
  by_cases p : h < lo ∨ hi < h
  · have q : ¬ inI h lo hi := fun q => p.elim q.1 q.2
    rw [if_pos p, if_neg q]
    exact Or.inr ⟨rfl, rfl, q⟩
  · have q : inI h lo hi := ⟨fun z => p (Or.inl z), fun z => p (Or.inr z)⟩
    rw [if_neg p, if_pos q]
    exact Or.inl ⟨rfl, rfl, q⟩
/-- counts of the two sides -/
theorem XS.n {M : Mm} {x m : Nat} (h : XS M x m) : ∃ n f r w g t, t ≤ 100000 ∧ XR M (x + 36) (gI M (m + 2)) n f r w g t ∧ (n ≤ 16 ∧ f ≤ 12 ∧ r ≤ 12) ∧ (gI M (x + 37) 8 = nI n ∧ gI M (x + 46) 11 = nI f ∧ gI M (x + 58) 2 = nI r) ∧ (gI M (m + 2) 0 = nI n ∧ gI M (m + 2) 1 = nI f ∧ gI M (m + 2) 2 = nI r) := by
  obtain ⟨n, f, r, w, g, t, ht, hX⟩ := h.g
  exact ⟨n, f, r, w, g, t, ht, hX, ⟨hX.1.1.1, hX.1.1.2.1, hX.1.1.2.2.1⟩, ⟨hX.2.2.1.1.1, hX.2.2.1.1.2.1, hX.2.2.1.1.2.2.1⟩, hX.1.2.1.1, hX.1.2.1.2.1, hX.1.2.1.2.2.1⟩
/-- answers of canals -/
theorem ho_ca {M : Mm} {x m o : Nat} (hS : XS M x m) (ho : m + 17 ≤ o) (c : Int32) {v : Int32} {w : (Nat → Int32) → Nat → Int32} (hv : ∀ n f r w' g t j, XR M (x + 36) (gI M (m + 2)) n f r w' g t → j < n → c = nI j → v = w (gI M (m + 2)) j) :
    HO M x m o (bI c (gI M (x + 37) 8)) (fun _ => 1) M v.toInt64 (fun P => LM P m ∧ cnt (gI P (m + 2) 0) 16) (fun P => (if kCa P m c = 0 then w (gI P (m + 2)) c.toNatClampNeg else 0).toInt64) (fun P => tS P m (kCa P m c)) := by
  obtain ⟨n, f, r, w', g, t, ht, hX, ⟨b1, b2, b3⟩, ⟨c1, c2, c3⟩, ⟨d1, d2, d3⟩⟩ := hS.n
  refine ho_rd hS ho (fun P e1 e2 e3 => ⟨hS.2.1.kp e2 e3, by rw [e1]; exact ⟨n, b1, d1⟩⟩) (fun hb P e1 => ?_) (fun e hb P e1 => ?_)
  · rw [c1] at hb
    rcases bI_o c (show n < 2 ^ 30 by omega) with ⟨-, q⟩ | ⟨q, -⟩
    · have k0 : kCa P m c = 0 := by unfold kCa; rw [e1, d1]; exact q
      obtain ⟨j, hj, ej⟩ := bI_j hb (by omega)
      refine ⟨k0, ?_⟩
      rw [if_pos k0, e1, ej, nI_clamp (show j < 2 ^ 31 by omega), ← hv n f r w' g t j hX hj ej]
    · rw [q] at hb
      cases hb
  · rw [c1] at hb
    rcases bI_o c (show n < 2 ^ 30 by omega) with ⟨q, -⟩ | ⟨q, q2⟩
    · rw [q] at hb
      cases hb
    · refine ⟨?_, by decide⟩
      unfold kCa
      rw [e1, d1]
      exact q2
/-- answers of fields -/
theorem ho_fi {M : Mm} {x m o : Nat} (hS : XS M x m) (ho : m + 17 ≤ o) (c : Int32) {v : Int64} {w : (Nat → Int32) → Nat → Int64} {pre : Mm → Prop} {W : Mm → Int64} (hpre : ∀ P, gI P = gI M → LM P m → cnt (gI P (m + 2) 1) 12 → pre P) (hW : ∀ P, kFi P m c = 0 → W P = w (gI P (m + 2)) c.toNatClampNeg) (hv : ∀ n f r w' g t j, XR M (x + 36) (gI M (m + 2)) n f r w' g t → j < f → c = nI j → v = w (gI M (m + 2)) j) :
    HO M x m o (bI c (gI M (x + 46) 11)) (fun _ => 1) M v pre W (fun P => tS P m (kFi P m c)) := by
  obtain ⟨n, f, r, w', g, t, ht, hX, ⟨b1, b2, b3⟩, ⟨c1, c2, c3⟩, ⟨d1, d2, d3⟩⟩ := hS.n
  refine ho_rd hS ho (fun P e1 e2 e3 => hpre P e1 (hS.2.1.kp e2 e3) (by rw [e1]; exact ⟨f, b2, d2⟩)) (fun hb P e1 => ?_) (fun e hb P e1 => ?_)
  · rw [c2] at hb
    rcases bI_o c (show f < 2 ^ 30 by omega) with ⟨-, q⟩ | ⟨q, -⟩
    · have k0 : kFi P m c = 0 := by unfold kFi; rw [e1, d2]; exact q
      obtain ⟨j, hj, ej⟩ := bI_j hb (by omega)
      refine ⟨k0, ?_⟩
      rw [hW P k0, e1, ej, nI_clamp (show j < 2 ^ 31 by omega), ← hv n f r w' g t j hX hj ej]
    · rw [q] at hb
      cases hb
  · rw [c2] at hb
    rcases bI_o c (show f < 2 ^ 30 by omega) with ⟨q, -⟩ | ⟨q, q2⟩
    · rw [q] at hb
      cases hb
    · refine ⟨?_, by decide⟩
      unfold kFi
      rw [e1, d2]
      exact q2
section READERS
variable {M : Mm} {x m o : Nat}
theorem ho_parent (hS : XS M x m) (ho : m + 17 ≤ o) (c : Int32) : HO M x m o (bI c (gI M (x + 37) 8)) (fun _ => 1) M (Int32.toInt64 (gI M (x + 38) c.toNatClampNeg)) (fun P => LM P m ∧ cnt (gI P (m + 2) 0) 16) (fun P => (if kCa P m c = 0 then gI P (m + 2) (13 + 13 * c.toNatClampNeg) else 0).toInt64) (fun P => tS P m (kCa P m c)) :=
  ho_ca hS ho c (w := fun D j => D (13 + 13 * j)) (fun n f r w g t j hX hj ej => by
    rw [ej, nI_clamp (by have := hX.1.1.1; omega)]
    exact (hX.2.2.1.2.1 j hj).1)
theorem ho_arrived (hS : XS M x m) (ho : m + 17 ≤ o) (c : Int32) : HO M x m o (bI c (gI M (x + 37) 8)) (fun _ => 1) M (Int32.toInt64 (gI M (x + 43) c.toNatClampNeg)) (fun P => LM P m ∧ cnt (gI P (m + 2) 0) 16) (fun P => (if kCa P m c = 0 then gI P (m + 2) (13 + 13 * c.toNatClampNeg + 5) else 0).toInt64) (fun P => tS P m (kCa P m c)) :=
  ho_ca hS ho c (w := fun D j => D (13 + 13 * j + 5)) (fun n f r w g t j hX hj ej => by
    rw [ej, nI_clamp (by have := hX.1.1.1; omega)]
    exact hX.2.2.2.1.1 j hj)
theorem ho_water (hS : XS M x m) (ho : m + 17 ≤ o) (c : Int32) : HO M x m o (bI c (gI M (x + 46) 11)) (fun _ => 1) M (Int32.toInt64 (gI M (x + 54) c.toNatClampNeg)) (fun P => LM P m ∧ cnt (gI P (m + 2) 1) 12) (fun P => (if kFi P m c = 0 then gI P (m + 2) (221 + 11 * c.toNatClampNeg + 7) else 0).toInt64) (fun P => tS P m (kFi P m c)) :=
  ho_fi hS ho c (w := fun D j => (D (221 + 11 * j + 7)).toInt64) (fun P _ h1 h2 => ⟨h1, h2⟩) (fun P k0 => by rw [if_pos k0]) (fun n f r w g t j hX hj ej => by
    rw [ej, nI_clamp (by have := hX.1.1.2.1; omega)]
    exact congrArg _ (hX.2.2.2.1.2.2.1 j hj).1)
theorem ho_taken (hS : XS M x m) (ho : m + 17 ≤ o) (c : Int32) : HO M x m o (bI c (gI M (x + 46) 11)) (fun _ => 1) M (Int32.toInt64 (gI M (x + 55) c.toNatClampNeg)) (fun P => LM P m ∧ cnt (gI P (m + 2) 1) 12) (fun P => (if kFi P m c = 0 then gI P (m + 2) (221 + 11 * c.toNatClampNeg + 8) else 0).toInt64) (fun P => tS P m (kFi P m c)) :=
  ho_fi hS ho c (w := fun D j => (D (221 + 11 * j + 8)).toInt64) (fun P _ h1 h2 => ⟨h1, h2⟩) (fun P k0 => by rw [if_pos k0]) (fun n f r w g t j hX hj ej => by
    rw [ej, nI_clamp (by have := hX.1.1.2.1; omega)]
    exact congrArg _ (hX.2.2.2.1.2.2.1 j hj).2.1)
theorem ho_stolen (hS : XS M x m) (ho : m + 17 ≤ o) (c : Int32) : HO M x m o (bI c (gI M (x + 46) 11)) (fun _ => 1) M (Int32.toInt64 (gI M (x + 56) c.toNatClampNeg)) (fun P => LM P m ∧ cnt (gI P (m + 2) 1) 12) (fun P => (if kFi P m c = 0 then gI P (m + 2) (221 + 11 * c.toNatClampNeg + 9) else 0).toInt64) (fun P => tS P m (kFi P m c)) :=
  ho_fi hS ho c (w := fun D j => (D (221 + 11 * j + 9)).toInt64) (fun P _ h1 h2 => ⟨h1, h2⟩) (fun P k0 => by rw [if_pos k0]) (fun n f r w g t j hX hj ej => by
    rw [ej, nI_clamp (by have := hX.1.1.2.1; omega)]
    exact congrArg _ (hX.2.2.2.1.2.2.1 j hj).2.2.1)
/-- two booleans -/
theorem i01 {a b : Int32} (h : a = b) : (if a = 0 then (0 : Int64) else 1) = if b = 0 then 0 else 1 := by rw [h]
theorem ho_isForced (hS : XS M x m) (ho : m + 17 ≤ o) (c : Int32) : HO M x m o (bI c (gI M (x + 46) 11)) (fun _ => 1) M (if (gI M (x + 57) c.toNatClampNeg) = 0 then 0 else 1) (fun P => LM P m ∧ cnt (gI P (m + 2) 1) 12) (fun P => if (if kFi P m c = 0 then (if gI P (m + 2) (221 + 11 * c.toNatClampNeg + 10) = 1 then (1 : Int32) else 0) else 0) = 0 then 0 else 1) (fun P => tS P m (kFi P m c)) :=
  ho_fi hS ho c (w := fun D j => if (if D (221 + 11 * j + 10) = 1 then (1 : Int32) else 0) = 0 then 0 else 1) (fun P _ h1 h2 => ⟨h1, h2⟩) (fun P k0 => by rw [if_pos k0]) (fun n f r w g t j hX hj ej => by
    rw [ej, nI_clamp (by have := hX.1.1.2.1; omega)]
    refine i01 ?_
    have e : gI M (x + 57) j = gI M (m + 2) (221 + 11 * j + 10) := (hX.2.2.2.1.2.2.1 j hj).2.2.2
    rw [e]
    rcases hX.2.2.2.2.1 j hj with z | z
    · rw [z, if_neg (by decide)]
    · rw [z, if_pos rfl])
theorem ho_isOpen (hS : XS M x m) (ho : m + 17 ≤ o) (c : Int32) : HO M x m o (bI c (gI M (x + 46) 11)) (fun _ => 1) M (if (bG M (x + 46) c.toNatClampNeg (villV M (x + 58) (gI M (x + 36) 6))) = 0 then 0 else 1) (fun P => LM P m ∧ cnt (gI P (m + 2) 1) 12 ∧ tuW (gI P (m + 2)) (gI P (m + 2) 5)) (fun P => if (if kFi P m c = 0 then oqI (gI P (m + 2)) c.toNatClampNeg else 0) = 0 then 0 else 1) (fun P => tS P m (kFi P m c)) := by
  obtain ⟨n, f, r, w', g, t, ht, hX0, -⟩ := hS.n
  exact ho_fi hS ho c (w := fun D j => if oqI D j = 0 then 0 else 1) (fun P e1 h1 h2 => ⟨h1, h2, by rw [e1]; exact (xr_tu hX0 (xr_h hX0)).1⟩) (fun P k0 => by rw [if_pos k0]) (fun n f r w g t j hX hj ej => by
    rw [ej, nI_clamp (by have := hX.1.1.2.1; omega)]
    exact i01 (xr_op hX hj))
theorem ho_fines (hS : XS M x m) (ho : m + 17 ≤ o) (c : Int32) : HO M x m o (bI c 6) (fun _ => 1) M (Int32.toInt64 (gI M (x + 67) c.toNatClampNeg)) (fun P => LM P m) (fun P => (if ccK c 0 5 1 = 0 then gI P (m + 2) (387 + c.toNatClampNeg) else 0).toInt64) (fun P => tS P m (ccK c 0 5 1)) := by
  obtain ⟨n, f, r, w', g, t, ht, hX, -⟩ := hS.n
  have e6 : nI 6 - 1 = 5 := by decide
  have b := bI_o c (show 6 < 2 ^ 30 by decide)
  rw [e6, show nI 6 = 6 from rfl] at b
  refine ho_rd hS ho (fun P e1 e2 e3 => hS.2.1.kp e2 e3) (fun hb P e1 => ?_) (fun e hb P e1 => ?_)
  · rcases b with ⟨-, q⟩ | ⟨q, -⟩
    · obtain ⟨j, hj, ej⟩ := bI_j (n := 6) hb (by decide)
      refine ⟨q, ?_⟩
      rw [if_pos q, e1, ej, nI_clamp (show j < 2 ^ 31 by omega)]
      exact congrArg _ (hX.2.2.2.1.2.2.2.1 j hj)
    · rw [q] at hb
      cases hb
  · rcases b with ⟨q, -⟩ | ⟨-, q2⟩
    · rw [q] at hb
      cases hb
    · exact ⟨q2, by decide⟩
theorem ho_total (hS : XS M x m) (ho : m + 17 ≤ o) (v : Int32) : HO M x m o (bR v 0 5) (fun _ => 1) M (toV M x v) (fun P => LM P m ∧ cnt (gI P (m + 2) 0) 16 ∧ cnt (gI P (m + 2) 1) 12) (fun P => if ccK v 0 5 1 = 0 then toD (gI P (m + 2)) v else 0) (fun P => tS P m (ccK v 0 5 1)) := by
  obtain ⟨n, f, r, w', g, t, ht, hX, ⟨b1, b2, b3⟩, -, ⟨d1, d2, d3⟩⟩ := hS.n
  refine ho_rd hS ho (fun P e1 e2 e3 => ⟨hS.2.1.kp e2 e3, by rw [e1]; exact ⟨n, b1, d1⟩, by rw [e1]; exact ⟨f, b2, d2⟩⟩) (fun hb P e1 => ?_) (fun e hb P e1 => ?_)
  · rcases bR_o v 0 5 1 with ⟨-, q, -⟩ | ⟨q, -⟩
    · refine ⟨q, ?_⟩
      rw [if_pos q, e1]
      exact xr_to hX v
    · rw [q] at hb
      cases hb
  · rcases bR_o v 0 5 1 with ⟨q, -⟩ | ⟨-, q2, -⟩
    · rw [q] at hb
      cases hb
    · exact ⟨q2, by decide⟩
theorem in_0 {h hi : Int32} (q : inI h 0 hi) : 0 ≤ h.toInt ∧ h.toInt ≤ hi.toInt := by
  have q1 : ¬ h.toInt < (0 : Int32).toInt := fun z => q.1 (t_lt.mpr z)
  have q2 : ¬ hi.toInt < h.toInt := fun z => q.2 (t_lt.mpr z)
  rw [show (0 : Int32).toInt = 0 from rfl] at q1
  omega
theorem ho_turnAt (hS : XS M x m) (ho : m + 17 ≤ o) (h : Int32) : HO M x m o (bR h 0 100000) (fun _ => 1) M (Int32.toInt64 (villV M (x + 58) h)) (fun P => LM P m ∧ (inI h 0 100000 → tuW (gI P (m + 2)) h)) (fun P => (if ccK h 0 100000 1 = 0 then tuD (gI P (m + 2)) h else 0).toInt64) (fun P => tS P m (ccK h 0 100000 1)) := by
  obtain ⟨n, f, r, w', g, t, ht, hX, -⟩ := hS.n
  refine ho_rd hS ho (fun P e1 e2 e3 => ⟨hS.2.1.kp e2 e3, fun q => by rw [e1]; exact (xr_tu hX (in_0 q).1).1⟩) (fun hb P e1 => ?_) (fun e hb P e1 => ?_)
  · rcases bR_o h 0 100000 1 with ⟨-, q, qi⟩ | ⟨q, -⟩
    · refine ⟨q, ?_⟩
      rw [if_pos q, e1]
      exact congrArg _ (xr_tu hX (in_0 qi).1).2
    · rw [q] at hb
      cases hb
  · rcases bR_o h 0 100000 1 with ⟨q, -⟩ | ⟨-, q2, -⟩
    · rw [q] at hb
      cases hb
    · exact ⟨q2, by decide⟩
theorem orE_c {a b : Option Nat} {ka kb : Int32} {fa fb : Nat} {f : Nat → Int32} (ha : (a = none ∧ ka = 0) ∨ (a = some fa ∧ ka = f fa)) (hb : (b = none ∧ kb = 0) ∨ (b = some fb ∧ kb = f fb)) (ha0 : ¬ f fa = 0) (hb0 : ¬ f fb = 0) : (orE a b = none → orK ka kb = 0 ∧ a = none ∧ b = none) ∧ ∀ e, orE a b = some e → orK ka kb = f e ∧ ¬ f e = 0 := by
  rcases ha with ⟨rfl, rfl⟩ | ⟨rfl, rfl⟩
  · rcases hb with ⟨rfl, rfl⟩ | ⟨rfl, rfl⟩
    · exact ⟨fun _ => ⟨rfl, rfl, rfl⟩, fun e h => (by cases h)⟩
    · exact ⟨fun h => (by cases h), fun e h => (by cases h; exact ⟨rfl, hb0⟩)⟩
  · refine ⟨fun h => (by cases h), fun e h => ?_⟩
    cases h
    exact ⟨if_neg ha0, ha0⟩
theorem ho_fairHours (hS : XS M x m) (ho : m + 17 ≤ o) (c h : Int32) : HO M x m o (orE (bI c 6) (bR h 0 1000)) (fun e => if e = 1 then 1 else 2) M (Int32.toInt64 (fpV M (x + 46) c h)) (fun P => LM P m ∧ cnt (gI P (m + 2) 1) 12) (fun P => (if kFh c h = 0 then faV (gI P (m + 2)) c h else 0).toInt64) (fun P => tS P m (kFh c h)) := by
  obtain ⟨n, f, r, w', g, t, ht, hX, ⟨b1, b2, b3⟩, -, ⟨d1, d2, d3⟩⟩ := hS.n
  have b := bI_o c (show 6 < 2 ^ 30 by decide)
  rw [show nI 6 - 1 = 5 by decide, show nI 6 = 6 from rfl] at b
  obtain ⟨o1, o2⟩ := orE_c (f := fun e => if e = 1 then (1 : Int32) else 2) (fa := 1) (fb := 0) (ka := ccK c 0 5 1) (kb := ccK h 0 1000 2) b ((bR_o h 0 1000 2).elim (fun z => Or.inl ⟨z.1, z.2.1⟩) (fun z => Or.inr ⟨z.1, z.2.1⟩)) (by decide) (by decide)
  refine ho_rd hS ho (fun P e1 e2 e3 => ⟨hS.2.1.kp e2 e3, by rw [e1]; exact ⟨f, b2, d2⟩⟩) (fun hb P e1 => ?_) (fun e hb P e1 => o2 e hb)
  have k0 : kFh c h = 0 := (o1 hb).1
  refine ⟨k0, ?_⟩
  rw [if_pos k0, e1]
  exact congrArg _ (xr_fh hX c h)
theorem ho_waterIn (hS : XS M x m) (ho : m + 17 ≤ o) (c h : Int32) : HO M x m o (orE (bI c (gI M (x + 37) 8)) (bR h 0 5)) (fun e => if e = 1 then 1 else 2) M (Int32.toInt64 (if h < gI M (x + 39) c.toNatClampNeg then gI M (x + 45) (slotv c (gI M (x + 36) 6 + h)).toNatClampNeg else 0)) (fun P => LM P m ∧ cnt (gI P (m + 2) 0) 16) (fun P => (if kWa P m c h = 0 then gI P (m + 2) (13 + 13 * c.toNatClampNeg + 6 + h.toNatClampNeg) else 0).toInt64) (fun P => tS P m (kWa P m c h)) := by
  obtain ⟨n, f, r, w', g, t, ht, hX, ⟨b1, b2, b3⟩, ⟨c1, c2, c3⟩, ⟨d1, d2, d3⟩⟩ := hS.n
  have o := orE_c (f := fun e => if e = 1 then (1 : Int32) else 2) (fa := 1) (fb := 0) (ka := ccK c 0 (nI n - 1) 1) (kb := ccK h 0 5 2) (bI_o c (show n < 2 ^ 30 by omega)) ((bR_o h 0 5 2).elim (fun z => Or.inl ⟨z.1, z.2.1⟩) (fun z => Or.inr ⟨z.1, z.2.1⟩)) (by decide) (by decide)
  rw [← c1] at o
  obtain ⟨o1, o2⟩ := o
  have kw : ∀ P, gI P = gI M → kWa P m c h = orK (ccK c 0 (nI n - 1) 1) (ccK h 0 5 2) := fun P e1 => by unfold kWa kCa; rw [e1, d1]
  refine ho_rd hS ho (fun P e1 e2 e3 => ⟨hS.2.1.kp e2 e3, by rw [e1]; exact ⟨n, b1, d1⟩⟩) (fun hb P e1 => ?_) (fun e hb P e1 => by rw [kw P e1, ← c1]; exact o2 e hb)
  obtain ⟨k0, a1, a2⟩ := o1 hb
  have k1 : kWa P m c h = 0 := by rw [kw P e1, ← c1]; exact k0
  rw [c1] at a1
  obtain ⟨j, hj, ej⟩ := bI_j a1 (by omega)
  obtain ⟨i, hi, ei⟩ := bR_c (n := 5) a2
  refine ⟨k1, ?_⟩
  rw [if_pos k1, e1, ej, ei, nI_clamp (show j < 2 ^ 31 by omega), nI_clamp (show i < 2 ^ 31 by omega)]
  exact congrArg _ (xr_wi hX hj (by omega))
end READERS
