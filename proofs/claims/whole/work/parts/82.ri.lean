/-! ===== a canal's step, whole ===== -/
theorem iS_z {F : Nat → Int32} (r k : Nat) (h : ∀ i, F i = 0) : iS F k r = 0 := iS_0 r k (fun i _ _ => h i)
theorem it_s (F : Nat → Int32) : ∀ r k (s : Int32), itr (fun k s => s + F k) r k s = s + iS F k r
  | 0, _, s => by
    show s = s + 0
    rw [Int32.add_zero]
  | r + 1, k, s => by
    show itr (fun k s => s + F k) r (k + 1) (s + F k) = s + (F k + iS F (k + 1) r)
    rw [it_s F r (k + 1), Int32.add_assoc]
theorem iS_u {F H : Nat → Int32} {j : Nat} {x : Int32} : ∀ r k, k ≤ j → j < k + r → (∀ i, i ≠ j → k ≤ i → i < k + r → H i = F i) → H j = F j + x → iS H k r = iS F k r + x
  | 0, k, h1, h2, _, _ => by omega
  | r + 1, k, h1, h2, h3, h4 => by
    unfold iS
    by_cases e : k = j
    · rw [e, h4, iS_e (F := H) (H := F) r (j + 1) (fun i a1 a2 => h3 i (by omega) (by omega) (by omega)), Int32.add_assoc, Int32.add_assoc, Int32.add_comm x]
    · rw [h3 k e (Nat.le_refl _) (by omega), iS_u (F := F) (H := H) (j := j) (x := x) r (k + 1) (by omega) (by omega) (fun i a1 a2 a3 => h3 i a1 (by omega) (by omega)) h4, Int32.add_assoc]
/-- dividing nothing -/
theorem dv_0 {D : Nat → Int32} {n f r w g : Nat} (hD : WD D n f r w g) (hB : NB D n f) (L : Nat → Int32) {c : Nat} (hc : c < n) : dvD D L c 0 = D := by
  have hn : n ≤ 16 := hD.1.1
  unfold dvD
  try dsimp only
  rw [hD.2.1.1, nI_clamp (by omega)]
  generalize ddL D L c (n - 1) (0, -1) = z
  split
  · funext j
    by_cases e : j = 9
    · subst e
      rw [upd_s, Int32.add_zero]
    · rw [upd_n _ _ e]
  · have eG : itr (ddG D L (nI c) 0 z.1) (n - (c + 1)) (c + 1) 0 = 0 := by
      rw [dG_i, iS_z, Int32.add_zero]
      intro i
      split
      · rw [Int32.zero_mul, Int32.zero_div]
      · rfl
    rw [eG]
    funext j
    rw [ddE_j hD L c 0 z.1 z.2 0 j _ _ D (by omega) (SD.r D), iS_0, Int32.add_zero]
    intro i a1 a2
    split
    · have e0 : amK D 0 z.1 z.2 0 i = 0 := by
        unfold amK
        rw [Int32.zero_mul, Int32.zero_div, Int32.zero_add]
        split
        · rfl
        · rfl
      rw [e0, enJ_0 (hB.1 i (by omega)).2.1.1]
    · rfl
theorem enJ_f {D : Nat → Int32} {n f r w g : Nat} (hD : WD D n f r w g) {c : Nat} (hc : c < n) (a : Int32) {j : Nat} (hj : 221 ≤ j) : enJ D c a j = 0 := by
  have hn : n ≤ 16 := hD.1.1
  obtain ⟨d, d1, d2, d3⟩ := (hD.2.2.2.1 c hc).1
  unfold enJ
  rw [d3, nI_clamp (by omega), if_neg (by omega), if_neg (by omega), if_neg (by omega)]
theorem dv_o {D : Nat → Int32} {n f r w g : Nat} (hD : WD D n f r w g) (L : Nat → Int32) {c : Nat} (hc : c < n) (a : Int32) {j : Nat} (hj : 221 ≤ j) : dvD D L c a j = D j := by
  have hn : n ≤ 16 := hD.1.1
  unfold dvD
  try dsimp only
  rw [hD.2.1.1, nI_clamp (by omega)]
  split
  · exact upd_n _ _ (by omega)
  · rw [ddE_j hD L c a _ _ _ j _ _ D (by omega) (SD.r D), iS_0, Int32.add_zero]
    intro i a1 a2
    split
    · exact enJ_f hD (by omega) _ hj
    · rfl
def TS (D : Nat → Int32) (f : Nat) : Int32 := iS (fun k => D (221 + 11 * k + 8)) 0 f
theorem ta_s {D : Nat → Int32} {f : Nat} (h : D 1 = nI f) (hf : f ≤ 12) : taD D = TS D f := by
  unfold taD TS
  rw [h, nI_clamp (by omega), it_s, Int32.zero_add]
theorem ir_ts (O : Nat → Int32) (c v : Int32) {f k : Nat} (hk : k < f) (z : Int32 × (Nat → Int32)) : TS (irA O c v k z).2 f + (irA O c v k z).1 = TS z.2 f + z.1 := by
  unfold irA
  split
  · dsimp only
    have e : ∀ E : Nat → Int32, (∀ i, i ≠ k → E (221 + 11 * i + 8) = z.2 (221 + 11 * i + 8)) → E (221 + 11 * k + 8) = z.2 (221 + 11 * k + 8) + mnM (z.2 (221 + 11 * k + 2)) z.1 → TS E f + (z.1 - mnM (z.2 (221 + 11 * k + 2)) z.1) = TS z.2 f + z.1 := by
      intro E h1 h2
      unfold TS
      rw [iS_u (F := fun k => z.2 (221 + 11 * k + 8)) (j := k) (x := mnM (z.2 (221 + 11 * k + 2)) z.1) f 0 (by omega) (by omega) (fun i a1 _ _ => h1 i a1) h2]
      generalize mnM (z.2 (221 + 11 * k + 2)) z.1 = x
      rw [Int32.add_assoc, Int32.sub_eq_add_neg, Int32.add_comm z.1, ← Int32.add_assoc x, Int32.add_right_neg, Int32.zero_add]
    refine e _ (fun i hi => ?_) ?_
    · split
      · rw [upd_n _ _ (by omega), upd_n _ _ (by omega)]
      · rw [upd_n _ _ (by omega), upd_n _ _ (by omega), upd_n _ _ (by omega)]
    · split
      · rw [upd_s]
      · rw [upd_n _ _ (by omega), upd_s]
  · rfl
theorem irR_ts {D : Nat → Int32} {f : Nat} (h : D 1 = nI f) (hf : f ≤ 12) (O : Nat → Int32) (c a v : Int32) : TS (irR D O c a v).2 f + (irR D O c a v).1 = TS D f + a := by
  unfold irR
  rw [h, nI_clamp (by omega)]
  have key : ∀ r i (z : Int32 × (Nat → Int32)), i + r ≤ f → TS (itr (irA O c v) r i z).2 f + (itr (irA O c v) r i z).1 = TS z.2 f + z.1 := by
    intro r
    induction r with
    | zero => exact fun _ _ _ => rfl
    | succ r ih =>
      intro i z hi
      show TS (itr (irA O c v) r (i + 1) (irA O c v i z)).2 f + (itr (irA O c v) r (i + 1) (irA O c v i z)).1 = _
      rw [ih (i + 1) _ (by omega), ir_ts O c v (by omega)]
  exact key f 0 (a, D) (by omega)
/-- a canal's step on a row whose pipes are emptied as they arrive -/
def cvZ (O : Nat → Int32) (v : Int32) (c : Nat) (z : Nat → Int32) : Int32 × (Nat → Int32) := irR (arV z c) O (nI c) (z (13 + 13 * c + 6)) v
def caV (O L : Nat → Int32) (v : Int32) (c : Nat) (z : Nat → Int32) : Nat → Int32 := dvD (cvZ O v c z).2 L c (cvZ O v c z).1
theorem i_mv {x y a r : Int32} (h : x + r = y + a) : x = y + (a - r) := by
  rw [Int32.sub_eq_add_neg, ← Int32.add_assoc, ← h, Int32.add_assoc, Int32.add_right_neg, Int32.add_zero]
theorem RM.b {M : Mm} {b : Nat} {D0 D L : Nat → Int32} {n f r w h : Nat} {q : Int} {Z : Nat → Prop} (hM : RM M b D0 D L n f r w h q Z) : RM M b D D L n f r w h q Z := ⟨SD.r D, hM.2⟩
theorem RM.c {M : Mm} {b : Nat} {D0 E D L : Nat → Int32} {n f r w h : Nat} {q : Int} {Z : Nat → Prop} (hM : RM M b E D L n f r w h q Z) (s : SD D0 E) : RM M b D0 D L n f r w h q Z := ⟨s.t hM.1, hM.2⟩
theorem ch_sd {D E L : Nat → Int32} (s : SD D E) {c i : Nat} (hi : i < 16) : chD E L (nI c) i ↔ chD D L (nI c) i := by
  have s0 : E (13 + 13 * i) = D (13 + 13 * i) := s _ (st_c (c := i) (j := 0) hi (by decide))
  unfold chD
  rw [s0]
theorem dv_g {M : Mm} {b : Nat} (x a : Int32) {j : Nat} (hj : j ≠ 9) : gI (dvM M b x a) (b + j) = gI M (b + j) := by
  have key : ∀ (s : Int32) r k (z : Mm × Int32), gI (itr (dvA b x a s) r k z).1 (b + j) = gI z.1 (b + j) := by
    intro s r
    induction r with
    | zero => exact fun _ _ => rfl
    | succ r ih =>
      intro k z
      show gI (itr (dvA b x a s) r (k + 1) (dvA b x a s k z)).1 (b + j) = _
      rw [ih]
      unfold dvA
      split
      · exact en_g _ _ hj
      · rfl
  unfold dvM
  split
  · rfl
  · rw [en_g _ _ hj]
    unfold dvR
    exact key _ _ _ _
theorem ca_m {M : Mm} {b : Nat} {D0 D L O : Nat → Int32} {n f r w g h c : Nat} {v s : Int32} {Z : Nat → Prop} (hD : WD D0 n f r w g) (hB : NB D0 n f) (hh : h < 200000) (hM : RM M b D0 D L n f r w h 0 Z) (hc : c < n) (hO : ∀ k, k < f → (¬ bG M (b + 10) k v = 0 ↔ ¬ O k = 0)) (hZ : ∀ i, c < i → i < n → chD D0 L (nI c) i → Z i) :
    RM (phB b v c (M, s)).1 b D0 (caV O L v c D) L n f r w h 0 (fun i => Z i ∧ ¬ (c < i ∧ chD D0 L (nI c) i)) ∧ (phB b v c (M, s)).2 = s + (TS (caV O L v c D) f - TS D f) ∧ (∀ k, k < f → bG (phB b v c (M, s)).1 (b + 10) k v = bG M (b + 10) k v) := by
  have hn : n ≤ 16 := hD.1.1
  have hf : f ≤ 12 := hD.1.2.1
  obtain ⟨l1, l2, l3, l4⟩ := la_m hD hh hM hc
  rw [Int.zero_add] at l2
  have gG : ∀ j, j ≠ 7 → j ≠ 9 → gI (laM M b c) (b + j) = gI M (b + j) := fun j h7 h9 => by
    unfold laM
    rw [gI_f _ _ (by omega), gI_f _ _ (by omega)]
  have hO2 : ∀ k, k < f → (¬ bG (laM M b c) (b + 10) k v = 0 ↔ ¬ O k = 0) := by
    intro k hk
    have e : bG (laM M b c) (b + 10) k v = bG M (b + 10) k v := by
      unfold bG
      rw [show b + 10 + 2 = b + 12 from rfl, show b + 10 + 11 = b + 21 from rfl, gG 12 (by decide) (by decide), gG 21 (by decide) (by decide)]
    rw [e]
    exact hO k hk
  have tk := tk_m (c := c) (v := v) hD hB l2 l3 hO2
  have hDa := hD.sd l2.1
  have ts := irR_ts (D := arV D c) (hDa.2.1.2.1) hf O (nI c) (D (13 + 13 * c + 6)) v
  have eQ : tkQ v b c M = tkR (laM M b c) (b + 10) (nI c) (D (13 + 13 * c + 6)) v := by unfold tkQ; rw [l1]
  have eN : tkN v b c M = w3 (laM M b c) (b + 10) (tkR (laM M b c) (b + 10) (nI c) (D (13 + 13 * c + 6)) v).2.1 (tkR (laM M b c) (b + 10) (nI c) (D (13 + 13 * c + 6)) v).2.2.1 (tkR (laM M b c) (b + 10) (nI c) (D (13 + 13 * c + 6)) v).2.2.2 := by unfold tkN; rw [eQ]
  have eC : irR (arV D c) O (nI c) (D (13 + 13 * c + 6)) v = cvZ O v c D := rfl
  rw [← eN, ← eQ, eC] at tk
  rw [eC] at ts
  obtain ⟨t1, t2, t3, t4⟩ := tk
  have tsa : TS (arV D c) f = TS D f := iS_e _ _ (fun i a1 a2 => ar_o _ (by omega) (by omega))
  have hDz := hD.sd t2.1
  have hBz := hB.sd hn hf t2.1
  have tsd : TS (caV O L v c D) f = TS (cvZ O v c D).2 f := iS_e _ _ (fun i a1 a2 => dv_o hDz L hc _ (by omega))
  have e2 : (phB b v c (M, s)).2 = s + (TS (caV O L v c D) f - TS D f) := by
    show s + (laV M b c - (tkQ v b c M).1) = _
    rw [l1, t1, tsd, i_mv ts, tsa, Int32.add_comm (TS D f), Int32.add_sub_cancel]
  have gT : ∀ j, j ≠ 7 → j ≠ 9 → j ≠ 18 → j ≠ 19 → j ≠ 20 → gI (tkN v b c M) (b + j) = gI M (b + j) := fun j h7 h9 h18 h19 h20 => by
    unfold tkN w3
    rw [gI_f _ _ (by omega), gI_f _ _ (by omega), gI_f _ _ (by omega)]
    exact gG j h7 h9
  have e1 : (phB b v c (M, s)).1 = if (cvZ O v c D).1 ≤ 0 then tkN v b c M else dvM (tkN v b c M) b (nI c) (cvZ O v c D).1 := by
    show (if (tkQ v b c M).1 ≤ 0 then _ else dvM (tkN v b c M) b (nI c) (tkQ v b c M).1) = _
    rw [t1]
  have gB : ∀ N, (∀ j, j ≠ 9 → gI N (b + j) = gI (tkN v b c M) (b + j)) → ∀ k, k < f → bG N (b + 10) k v = bG M (b + 10) k v := by
    intro N hN k hk
    unfold bG
    rw [show b + 10 + 2 = b + 12 from rfl, show b + 10 + 11 = b + 21 from rfl, hN 12 (by decide), hN 21 (by decide), gT 12 (by decide) (by decide) (by decide) (by decide) (by decide), gT 21 (by decide) (by decide) (by decide) (by decide) (by decide)]
  refine ⟨?_, e2, ?_⟩
  · rw [e1]
    by_cases p : (cvZ O v c D).1 ≤ 0
    · rw [if_pos p]
      have p0 : (cvZ O v c D).1.toInt ≤ 0 := t_le.mp p
      have z0 : (cvZ O v c D).1 = 0 := by
        apply Int32.toInt_inj.mp
        show (cvZ O v c D).1.toInt = 0
        omega
      have eV : caV O L v c D = (cvZ O v c D).2 := by
        unfold caV
        rw [z0, dv_0 hDz hBz L hc]
      rw [eV]
      have e0 : (cvZ O v c D).1.toInt = 0 := by omega
      rw [e0] at t2
      exact t2.m (fun k _ y => y.1)
    · rw [if_neg p]
      have d := rm_dv0 hDz hBz hh t2.b t3 (by omega) hc (fun i a1 a2 a3 => hZ i a1 a2 ((ch_sd t2.1 (by omega)).mp a3))
      refine (d.c t2.1).m (fun i hi y => ⟨y.1, fun e => y.2 ⟨e.1, (ch_sd t2.1 (by omega)).mp e.2⟩⟩)
  · rw [e1]
    split
    · exact gB _ (fun _ _ => rfl)
    · exact gB _ (fun j hj => dv_g _ _ hj)
