/-! ===== the inflow expression: a State and a row ===== -/
abbrev Tk : Type := Int32 × Int32
def xc (t : Tk) : Int32 := if t.1 = 0 then t.2 else if t.1 = 1 then -1 - t.2 else -2 - t.1
def encT (t : Tk) : List Int32 := if t.1 ≤ 1 then [t.1, t.2] else [t.1]
def enc : List Tk → List Int32
  | [] => []
  | t :: l => encT t ++ enc l
theorem enc_a : ∀ l k : List Tk, enc (l ++ k) = enc l ++ enc k
  | [], _ => rfl
  | t :: l, k => by
    show encT t ++ enc (l ++ k) = encT t ++ enc l ++ enc k
    rw [enc_a l k, List.append_assoc]
def tok1 (t : Tk) : Prop := (t.1 = 0 ∧ ∃ v, v ≤ 9999 ∧ t.2 = nI v) ∨ (t.1 = 1 ∧ (t.2 = 0 ∨ t.2 = 1 ∨ t.2 = 2)) ∨ t.1 = 2 ∨ t.1 = 3 ∨ t.1 = 4 ∨ t.1 = 5
def hok : List Tk → Nat → Prop
  | [], k => 0 < k
  | t :: l, k => if t.1 ≤ 1 then k < 11 ∧ hok l (k + 1) else 2 ≤ k ∧ hok l (k - 1)
/-- the codes of a State and of a row -/
def FQ (M : Mm) (q : Nat) (D : Nat → Int32) (l : List Tk) : Prop :=
  gI M q 2 = nI l.length ∧ (∀ i t, l[i]? = some t → gI M (q + 1) i = xc t) ∧ D 7 = nI (enc l).length ∧ (∀ i c, (enc l)[i]? = some c → D (393 + i) = c) ∧ (∀ t ∈ l, tok1 t)
def FW (M : Mm) (q : Nat) (D : Nat → Int32) : Prop :=
  (D 6 = 0 ∧ gI M q 2 = 1 ∧ gI M (q + 1) 0 = 100) ∨ (¬ D 6 = 0 ∧ ∃ l, FQ M q D l ∧ hok l 0 ∧ l.length ≤ 900 ∧ (enc l).length ≤ 1400)
def b9l (x : Int64) : Prop := -1000000000 ≤ x.toInt ∧ x.toInt ≤ 1000000000
theorem l_lt {a b : Int64} : a < b ↔ a.toInt < b.toInt := Int64.lt_iff_toInt_lt
theorem li_b (x : Int64) : b9l (liV x) := by
  unfold liV
  have c1 : (1000000000 : Int64).toInt = 1000000000 := rfl
  have c2 : (-1000000000 : Int64).toInt = -1000000000 := rfl
  unfold b9l
  split
  · rw [c1]; omega
  · rename_i h1
    split
    · rw [c2]; omega
    · rename_i h2
      have a1 : ¬ (1000000000 : Int64).toInt < x.toInt := fun z => h1 (l_lt.mpr z)
      have a2 : ¬ x.toInt < (-1000000000 : Int64).toInt := fun z => h2 (l_lt.mpr z)
      omega
theorem li_e (x : Int64) : mxL (-1000000000) (mnL 1000000000 x) = liV x := by
  have c1 : (1000000000 : Int64).toInt = 1000000000 := rfl
  have c2 : (-1000000000 : Int64).toInt = -1000000000 := rfl
  unfold mxL mnL liV
  by_cases p : x < 1000000000
  · have p1 := l_lt.mp p
    rw [if_pos p, if_neg (show ¬ (1000000000 : Int64) < x from fun q => by have := l_lt.mp q; omega)]
  · have p1 : ¬ x.toInt < (1000000000 : Int64).toInt := fun z => p (l_lt.mpr z)
    rw [if_neg p, if_neg (show ¬ (1000000000 : Int64) < -1000000000 by decide)]
    by_cases q : 1000000000 < x
    · rw [if_pos q]
    · have q1 : ¬ (1000000000 : Int64).toInt < x.toInt := fun z => q (l_lt.mpr z)
      rw [if_neg q, if_neg (fun z => by have := l_lt.mp z; omega)]
      apply Int64.toInt_inj.mp
      omega
theorem li_n {x : Int64} (h : b9l x) : liV x = x := by
  have c1 : (1000000000 : Int64).toInt = 1000000000 := rfl
  have c2 : (-1000000000 : Int64).toInt = -1000000000 := rfl
  unfold b9l at h
  unfold liV
  rw [if_neg (fun z => by have := l_lt.mp z; omega), if_neg (fun z => by have := l_lt.mp z; omega)]
theorem dv_b {x y : Int64} (h : b9l x) : b9l (x / y) := by
  unfold b9l at h ⊢
  have e1 : (x.toInt.tdiv y.toInt).natAbs ≤ x.toInt.natAbs := Int.natAbs_tdiv_le_natAbs _ _
  have e : (x / y).toInt = x.toInt.tdiv y.toInt := by
    rw [Int64.toInt_div]
    exact t_bm6 (by omega) (by omega)
  rw [e]
  omega
theorem op_b {o : Int32} {x y : Int64} (hx : b9l x) : b9l (opM o x y) := by
  unfold opM
  split
  · split
    · unfold b9l
      decide
    · exact dv_b hx
  · exact li_b _
theorem op_e {o : Int32} {x y : Int64} (ho : o = 2 ∨ o = 3 ∨ o = 4 ∨ o = 5) (hx : b9l x) : mxL (-1000000000) (mnL 1000000000 (cmb (-2 - o) x y)) = opM o x y := by
  rw [li_e]
  unfold cmb opM
  rcases ho with rfl | rfl | rfl | rfl
  · rw [if_pos (by decide), if_neg (by decide), if_pos rfl]
  · rw [if_neg (by decide), if_pos (by decide), if_neg (by decide), if_neg (by decide), if_pos rfl]
  · rw [if_neg (by decide), if_neg (by decide), if_pos (by decide), if_neg (by decide), if_neg (by decide), if_neg (by decide)]
  · rw [if_neg (by decide), if_neg (by decide), if_neg (by decide), if_pos rfl]
    split
    · exact li_n (by unfold b9l; decide)
    · exact li_n (dv_b hx)
theorem b9_32 {x : Int32} (h : -1000000000 ≤ x.toInt ∧ x.toInt ≤ 1000000000) : b9l x.toInt64 := by
  unfold b9l
  rw [t_64]
  exact h
theorem b9_24 {x : Int32} (h0 : 0 ≤ x.toInt) (h : x.toInt ≤ 1000000000) : b9l (x / 24).toInt64 := by
  refine b9_32 ?_
  rw [t_div h0 (by decide)]
  have e : (24 : Int32).toInt = 24 := rfl
  rw [e]
  omega
theorem io_1 (h v : Int32) : ioO 1 0 h v = h.toInt64 := by unfold ioO; rw [if_neg (by decide), if_pos rfl]
theorem io_2 (h v : Int32) : ioO 1 1 h v = (h / 24).toInt64 := by unfold ioO; rw [if_neg (by decide), if_neg (by decide), if_pos rfl]
theorem io_3 (h v : Int32) : ioO 1 2 h v = v.toInt64 := by unfold ioO; rw [if_neg (by decide), if_neg (by decide), if_neg (by decide)]
theorem op_1 (h v : Int32) : opd (-1) h v = h.toInt64 := by unfold opd; rw [if_pos rfl]
theorem op_2 (h v : Int32) : opd (-2) h v = (h / 24).toInt64 := by unfold opd; rw [if_neg (by decide), if_pos rfl]
theorem op_3 (h v : Int32) : opd (-3) h v = v.toInt64 := by unfold opd; rw [if_neg (by decide), if_neg (by decide), if_pos rfl]
theorem xc_0 (x : Int32) : xc (0, x) = x := by unfold xc; rw [if_pos rfl]
theorem xc_1 (x : Int32) : xc (1, x) = -1 - x := by unfold xc; rw [if_neg (show ¬ (1 : Int32) = 0 by decide), if_pos rfl]
theorem io_0 (x h v : Int32) : ioO 0 x h v = x.toInt64 := by unfold ioO; rw [if_pos rfl]
theorem xc_e {t : Tk} (ht : tok1 t) {h v : Int32} (h0 : 0 ≤ h.toInt) (h1 : h.toInt ≤ 1000000000) (hv : -1000000000 ≤ v.toInt ∧ v.toInt ≤ 1000000000) :
    (t.1 ≤ 1 → -4 < xc t ∧ opd (xc t) h v = ioO t.1 t.2 h v ∧ b9l (ioO t.1 t.2 h v)) ∧ (¬ t.1 ≤ 1 → xc t = -2 - t.1 ∧ xc t ≤ -4 ∧ (t.1 = 2 ∨ t.1 = 3 ∨ t.1 = 4 ∨ t.1 = 5)) := by
  obtain ⟨c, x⟩ := t
  rcases ht with ⟨e, y, hy, ey⟩ | ⟨e, ex⟩ | e
  · have e' : c = 0 := e
    have ey' : x = nI y := ey
    clear e ey
    subst e'
    have ey := ey'
    clear ey'
    have x0 : x.toInt = y := by rw [ey, t_nI (by omega)]
    refine ⟨fun _ => ?_, fun q => absurd (show (0 : Int32) ≤ 1 by decide) q⟩
    show -4 < xc (0, x) ∧ opd (xc (0, x)) h v = ioO 0 x h v ∧ b9l (ioO 0 x h v)
    rw [xc_0, io_0]
    refine ⟨t_lt.mpr (by rw [x0, show (-4 : Int32).toInt = -4 from rfl]; omega), ?_, b9_32 (by omega)⟩
    unfold opd
    have n1 : ∀ k : Int32, k.toInt < 0 → ¬ x = k := fun k hk q => by rw [← q, x0] at hk; omega
    rw [if_neg (n1 _ (by decide)), if_neg (n1 _ (by decide)), if_neg (n1 _ (by decide))]
  · have e' : c = 1 := e
    have ex' : x = 0 ∨ x = 1 ∨ x = 2 := ex
    clear e ex
    subst e'
    have ex := ex'
    clear ex'
    refine ⟨fun _ => ?_, fun q => absurd (show (1 : Int32) ≤ 1 by decide) q⟩
    show -4 < xc (1, x) ∧ opd (xc (1, x)) h v = ioO 1 x h v ∧ b9l (ioO 1 x h v)
    rw [xc_1]
    rcases ex with rfl | rfl | rfl
    · rw [show (-1 : Int32) - 0 = -1 by decide, io_1, op_1]
      exact ⟨by decide, rfl, b9_32 (by omega)⟩
    · rw [show (-1 : Int32) - 1 = -2 by decide, io_2, op_2]
      exact ⟨by decide, rfl, b9_24 h0 h1⟩
    · rw [show (-1 : Int32) - 2 = -3 by decide, io_3, op_3]
      exact ⟨by decide, rfl, b9_32 hv⟩
  · have e' : c = 2 ∨ c = 3 ∨ c = 4 ∨ c = 5 := e
    clear e
    have e := e'
    clear e'
    refine ⟨fun q => ?_, fun _ => ?_⟩
    · exfalso
      have q : c ≤ 1 := q
      rcases e with rfl | rfl | rfl | rfl <;> exact absurd q (by decide)
    · have ex2 : xc (c, x) = -2 - c := by rcases e with rfl | rfl | rfl | rfl <;> rfl
      refine ⟨ex2, ?_, e⟩
      rw [ex2]
      clear ex2
      rcases e with rfl | rfl | rfl | rfl <;> decide
theorem g_at {α : Type} (l1 : List α) (t : α) (l2 : List α) : (l1 ++ t :: l2)[l1.length]? = some t := by simp
theorem g_at2 {α : Type} (l1 : List α) (t u : α) (l2 : List α) : (l1 ++ t :: u :: l2)[l1.length + 1]? = some u := by simp
theorem fm_k {M : Mm} {q : Nat} {D : Nat → Int32} {h v : Int32} {l : List Tk} (hQ : FQ M q D l) (hl : (enc l).length ≤ 1400) (h0 : 0 ≤ h.toInt) (h1 : h.toInt ≤ 1000000000) (hv : -1000000000 ≤ v.toInt ∧ v.toInt ≤ 1000000000) :
    ∀ (l2 l1 : List Tk) (r top : Nat) (K1 K2 : Nat → Int64), l = l1 ++ l2 → hok l2 top → top ≤ 11 → (∀ i, i < top → K1 i = K2 i ∧ b9l (K1 i)) → (enc l2).length ≤ r →
      (itr (fmA M q h v) l2.length l1.length (top, K1)).2 0 = ioL D h v r (enc l1).length top K2 0 ∧ ioP D r (enc l1).length top
  | [], l1, r, top, K1, K2, e, hk, _, hK, hr => by
    have hk : 0 < top := hk
    have e7 : (D 7).toNatClampNeg = (enc l1).length := by
      rw [hQ.2.2.1, e, List.append_nil, nI_clamp (by rw [e, List.append_nil] at hl; omega)]
    cases r with
    | zero => exact ⟨(hK 0 hk).1, fun z => absurd z (by omega)⟩
    | succ r =>
      constructor
      · unfold ioL
        rw [if_neg (by omega)]
        exact (hK 0 hk).1
      · unfold ioP
        exact fun z => absurd z (by omega)
  | t :: l2, l1, r, top, K1, K2, e, hk, htop, hK, hr => by
    have ep : 1 ≤ (enc (t :: l2)).length := by
      show 1 ≤ (encT t ++ enc l2).length
      rw [List.length_append]
      unfold encT
      split
      · show 1 ≤ 2 + _; omega
      · show 1 ≤ 1 + _; omega
    obtain ⟨r, rfl⟩ : ∃ s, r = s + 1 := ⟨r - 1, by omega⟩
    obtain ⟨q1, q2, q3, q4, q5⟩ := hQ
    have hQ : FQ M q D l := ⟨q1, q2, q3, q4, q5⟩
    have ht : tok1 t := q5 t (by rw [e]; exact List.mem_append_right _ List.mem_cons_self)
    have ex : gI M (q + 1) l1.length = xc t := q2 _ _ (by rw [e]; exact g_at _ _ _)
    have ee : enc l = enc l1 ++ (encT t ++ enc l2) := by rw [e, enc_a]; rfl
    have e2 : l = (l1 ++ [t]) ++ l2 := by rw [e, List.append_assoc]; rfl
    have el : (l1 ++ [t]).length = l1.length + 1 := by simp
    have er : (enc (t :: l2)).length = (encT t).length + (enc l2).length := by show (encT t ++ enc l2).length = _; rw [List.length_append]
    have et : (enc l).length = (enc l1).length + ((encT t).length + (enc l2).length) := by rw [ee, List.length_append, List.length_append]
    have e7 : (D 7).toNatClampNeg = (enc l).length := by rw [q3, nI_clamp (by omega)]
    obtain ⟨x1, x2⟩ := xc_e ht h0 h1 hv
    have ea : (enc (l1 ++ [t])).length = (enc l1).length + (encT t).length := by
      rw [enc_a, List.length_append]
      show _ + (encT t ++ []).length = _
      rw [List.append_nil]
    unfold hok at hk
    by_cases p : t.1 ≤ 1
    · rw [if_pos p] at hk
      obtain ⟨y1, y2, y3⟩ := x1 p
      have eT : encT t = [t.1, t.2] := if_pos p
      rw [eT] at ee er et ea
      have d0 : D (393 + (enc l1).length) = t.1 := q4 _ _ (by rw [ee]; exact g_at _ _ _)
      have d1 : D (393 + ((enc l1).length + 1)) = t.2 := q4 _ _ (by rw [ee]; exact g_at2 _ _ _ _)
      have et2 : (enc l).length = (enc l1).length + (2 + (enc l2).length) := et
      have i := fm_k hQ hl h0 h1 hv l2 (l1 ++ [t]) r (top + 1) (vp_updL K1 top (opd (xc t) h v)) (vp_updL K2 top (ioO t.1 t.2 h v)) e2 hk.2 (by omega) (fun i hi => by
        by_cases ei : i = top
        · subst ei
          rw [updL_s, updL_s, y2]
          exact ⟨rfl, y3⟩
        · rw [updL_n _ _ ei, updL_n _ _ ei]
          exact hK i (by omega)) (by have : (enc (t :: l2)).length = 2 + (enc l2).length := er; omega)
      rw [el, ea] at i
      have eA : fmA M q h v l1.length (top, K1) = (top + 1, vp_updL K1 top (opd (xc t) h v)) := by
        unfold fmA
        rw [ex, if_pos ⟨y1, hk.1⟩]
      constructor
      · show (itr (fmA M q h v) l2.length (l1.length + 1) (fmA M q h v l1.length (top, K1))).2 0 = _
        rw [eA]
        unfold ioL
        rw [if_pos (by omega), d0, d1, if_pos p]
        exact i.1
      · unfold ioP
        rw [d0]
        exact fun _ => ⟨fun _ => ⟨by omega, by omega, i.2⟩, fun z => absurd p z⟩
    · rw [if_neg p] at hk
      obtain ⟨y1, y2, y3⟩ := x2 p
      have eT : encT t = [t.1] := if_neg p
      rw [eT] at ee er et ea
      have d0 : D (393 + (enc l1).length) = t.1 := q4 _ _ (by rw [ee]; exact g_at _ _ _)
      have et2 : (enc l).length = (enc l1).length + (1 + (enc l2).length) := et
      obtain ⟨k2, b2⟩ := hK (top - 2) (by omega)
      obtain ⟨k1, b1⟩ := hK (top - 1) (by omega)
      have i := fm_k hQ hl h0 h1 hv l2 (l1 ++ [t]) r (top - 1) (vp_updL K1 (top - 2) (opM t.1 (K1 (top - 2)) (K1 (top - 1)))) (vp_updL K2 (top - 2) (opM t.1 (K2 (top - 2)) (K2 (top - 1)))) e2 hk.2 (by omega) (fun i hi => by
        by_cases ei : i = top - 2
        · subst ei
          rw [updL_s, updL_s, k1, k2]
          rw [k2] at b2
          exact ⟨rfl, op_b b2⟩
        · rw [updL_n _ _ ei, updL_n _ _ ei]
          exact hK i (by omega)) (by have : (enc (t :: l2)).length = 1 + (enc l2).length := er; omega)
      rw [el, ea] at i
      have eA : fmA M q h v l1.length (top, K1) = (top - 1, vp_updL K1 (top - 2) (opM t.1 (K1 (top - 2)) (K1 (top - 1)))) := by
        unfold fmA
        rw [ex, if_neg (fun z => by have a1 := t_lt.mp z.1; have a2 := t_le.mp y2; omega), if_pos ⟨y2, hk.1⟩]
        dsimp only
        rw [y1, op_e y3 b2]
      constructor
      · show (itr (fmA M q h v) l2.length (l1.length + 1) (fmA M q h v l1.length (top, K1))).2 0 = _
        rw [eA]
        unfold ioL
        rw [if_pos (by omega), d0, if_neg p]
        exact i.1
      · unfold ioP
        rw [d0]
        exact fun _ => ⟨fun z => absurd z p, fun _ => ⟨hk.1, i.2⟩⟩
theorem io_f (x : Int64) : fmV x = ioF x ∧ 0 ≤ (ioF x).toInt ∧ (ioF x).toInt ≤ 9999 := by
  have c1 : (9999 : Int64).toInt = 9999 := rfl
  have c0 : (0 : Int64).toInt = 0 := rfl
  unfold fmV ioF mxL mnL
  by_cases p : x < 0
  · have p1 := l_lt.mp p
    rw [if_pos p, if_pos (show x < 9999 from l_lt.mpr (by omega)), if_pos p]
    exact ⟨rfl, by decide, by decide⟩
  · have p1 : ¬ x.toInt < (0 : Int64).toInt := fun z => p (l_lt.mpr z)
    rw [if_neg p]
    by_cases q : 9999 < x
    · have q1 := l_lt.mp q
      rw [if_pos q, if_neg (show ¬ x < 9999 from fun z => by have := l_lt.mp z; omega), if_neg (show ¬ (9999 : Int64) < 0 by decide)]
      exact ⟨rfl, by decide, by decide⟩
    · have q1 : ¬ (9999 : Int64).toInt < x.toInt := fun z => q (l_lt.mpr z)
      rw [if_neg q]
      have e : x.toInt32.toInt = x.toInt := by
        rw [Int64.toInt_toInt32]
        exact t_bm (by omega) (by omega)
      refine ⟨?_, by omega, by omega⟩
      by_cases u : x < 9999
      · rw [if_pos u, if_neg p]
      · have u1 : ¬ x.toInt < (9999 : Int64).toInt := fun z => u (l_lt.mpr z)
        rw [if_neg u, if_neg (by decide)]
        have : x = 9999 := Int64.toInt_inj.mp (by omega)
        rw [this]
/-- the inflow of an hour, for the two sides -/
theorem fw_v {M : Mm} {q : Nat} {D : Nat → Int32} (hW : FW M q D) {h : Int32} (h0 : 0 ≤ h.toInt) (h1 : h.toInt ≤ 1000000000) (hv : -1000000000 ≤ (tuD D h).toInt ∧ (tuD D h).toInt ≤ 1000000000) (K : Nat → Int64) :
    fmV ((fmR M q h (tuD D h)).2 0) = ioV D h K ∧ ioW D ∧ 0 ≤ (ioV D h K).toInt ∧ (ioV D h K).toInt ≤ 9999 := by
  rcases hW with ⟨a1, a2, a3⟩ | ⟨a1, l, a2, a3, a4, a5⟩
  · have e : (fmR M q h (tuD D h)).2 0 = 100 := by
      unfold fmR
      rw [a2]
      show (fmA M q h (tuD D h) 0 (0, gJ M (q + 2))).2 0 = 100
      unfold fmA
      rw [a3, if_pos ⟨by decide, by show 0 < 11; decide⟩]
      rfl
    rw [e]
    unfold ioV ioW
    rw [if_pos a1]
    exact ⟨by decide, fun z => absurd a1 z, by decide, by decide⟩
  · obtain ⟨k1, k2⟩ := fm_k (h := h) (v := tuD D h) a2 a5 h0 h1 hv l [] 1400 0 (gJ M (q + 2)) K rfl a3 (by decide) (fun i hi => by omega) a5
    have e7 : D 7 = nI (enc l).length := a2.2.2.1
    have eV : ioV D h K = ioF (ioL D h (tuD D h) 1400 0 0 K 0) := by
      unfold ioV ioR
      rw [if_neg a1, if_neg a1]
    have eR : (fmR M q h (tuD D h)).2 0 = ioL D h (tuD D h) 1400 0 0 K 0 := by
      unfold fmR
      rw [a2.1, nI_clamp (show l.length < 2 ^ 31 by omega)]
      exact k1
    obtain ⟨f1, f2, f3⟩ := io_f (ioL D h (tuD D h) 1400 0 0 K 0)
    rw [eV, eR]
    exact ⟨f1, fun _ => ⟨⟨(enc l).length, a5, e7⟩, k2⟩, f2, f3⟩
