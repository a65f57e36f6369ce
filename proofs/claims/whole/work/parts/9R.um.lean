/-! ===== both sides when they are new; the plain readers ===== -/
theorem z_ext {f : Nat → Int32} (h : f = z32) (k : Nat) : f k = 0 := by rw [h]; rfl
theorem df_px {N : Mm} {b : Nat} (h : DF N b) : PX N b z32 := by
  obtain ⟨hJ, hI, h27, h28⟩ := h
  have i : ∀ k, k < 32 → k ≠ 27 → k ≠ 28 → ∀ j, gI N (b + k) j = 0 := fun k a c d j => by rw [hI k a c d]; rfl
  have i0 : ∀ j, gI N b j = 0 := i 0 (by decide) (by decide) (by decide)
  have jj : ∀ j, gJ N (b + 30) j = 0 := fun j => by rw [hJ 30 (by decide)]; rfl
  have wl : sumP z32 PL = 0 := sumP_z PL (fun _ _ => rfl)
  refine ⟨0, 0, 0, 0, 0, 0, by decide, ⟨⟨by decide, by decide, by decide, by decide, by decide⟩, ⟨rfl, rfl, rfl, rfl, rfl⟩, Or.inl rfl, fun c hc => absurd hc (by omega), fun c hc => absurd hc (by omega), fun c hc => absurd hc (by omega)⟩, ⟨fun c hc => absurd hc (by omega), fun c hc => absurd hc (by omega)⟩, ⟨⟨i 1 (by decide) (by decide) (by decide) 8, i 10 (by decide) (by decide) (by decide) 11, i 22 (by decide) (by decide) (by decide) 2, i 25 (by decide) (by decide) (by decide) 1⟩, fun c hc => absurd hc (by omega), fun c hc => absurd hc (by omega), fun c hc => absurd hc (by omega), ?_, fun c hc => absurd hc (by omega)⟩, ⟨fun c hc => absurd hc (by omega), fun c _ hc => absurd hc (by omega), fun c hc => absurd hc (by omega), fun v _ => ?_, ?_, ?_, ?_, ?_⟩, fun c hc => absurd hc (by omega), ⟨i0 6, rfl, by decide⟩, ⟨i 25 (by decide) (by decide) (by decide) 2, fun _ => rfl⟩, ⟨⟨fun j _ => ?_, ?_, ?_⟩, ?_⟩, fun c _ hc => absurd hc (by omega), Or.inl ⟨rfl, ?_, ?_⟩, fun c hc => absurd hc (by omega)⟩
  · rw [i 22 (by decide) (by decide) (by decide) 3]
    rfl
  · exact i 31 (by decide) (by decide) (by decide) v
  · rw [jj]; rfl
  · rw [jj]; rfl
  · rw [jj]; rfl
  · rw [jj]; rfl
  · show 0 ≤ (0 : Int32).toInt
    decide
  · rw [wl]
    rfl
  · show (0 : Int32).toInt < 1100000000
    decide
  · show (0 : Int32).toInt ≤ _
    decide
  · rw [h27, upd_s]
  · show gI N (b + 28) 0 = 100
    rw [h28, upd_s]
theorem df_dz {N : Mm} {b : Nat} (h : DF N b) : DZ N b := by
  obtain ⟨hJ, hI, h27, h28⟩ := h
  have i : ∀ k, k < 32 → k ≠ 27 → k ≠ 28 → ∀ j, gI N (b + k) j = 0 := fun k a c d j => by rw [hI k a c d]; rfl
  have i0 : ∀ j, gI N b j = 0 := i 0 (by decide) (by decide) (by decide)
  exact ⟨fun k _ => i 7 (by decide) (by decide) (by decide) k, fun k _ => i 9 (by decide) (by decide) (by decide) k, fun k _ => ⟨i 18 (by decide) (by decide) (by decide) k, i 19 (by decide) (by decide) (by decide) k, i 20 (by decide) (by decide) (by decide) k, i 21 (by decide) (by decide) (by decide) k⟩, fun k _ => i 31 (by decide) (by decide) (by decide) k, fun j _ _ => by rw [hJ 30 (by decide)]; rfl, i 25 (by decide) (by decide) (by decide) 2, i0 6⟩
theorem DF.q {M N : Mm} {b : Nat} (h : DF M b) (e : ∀ k, k < 32 → gI N (b + k) = gI M (b + k) ∧ gJ N (b + k) = gJ M (b + k)) : DF N b :=
  ⟨fun k hk => (e k hk).2.trans (h.1 k hk), fun k hk a c => (e k hk).1.trans (h.2.1 k hk a c), (e 27 (by decide)).1.trans h.2.2.1, (e 28 (by decide)).1.trans h.2.2.2⟩
theorem lx_q {M N : Mm} {x : Nat} (h : Lx M x) (e : ∀ q, q < x + 358 → gK N q = gK M q ∧ gI N q = gI M q ∧ gJ N q = gJ M q ∧ gP N q = gP M q) : Lx N x := by
  have ag : AG M N x (x + 358) := fun q hq => ⟨(e q hq).1, (e q hq).2.1, (e q hq).2.2.1, fun _ => (e q hq).2.2.2⟩
  obtain ⟨h1, h2, h3, h4, h5, k1, k2, k3, k4⟩ := h
  refine ⟨(e x (by omega)).1.trans h1, by rw [(e x (by omega)).2.2.2]; exact h2, h3.ag ag (by omega) (by omega), h4.ag ag (by omega) (by omega), h5.ag ag (by omega) (by omega), (e _ (by omega)).1.trans k1, by rw [(e (x + 100) (by omega)).2.2.2]; exact k2, (e _ (by omega)).1.trans k3, fun i hi => ⟨?_, (k4 i hi).2.ag ag (by omega) (by omega)⟩⟩
  rw [(e (x + 100 + 1) (by omega)).2.2.2]
  exact (k4 i hi).1
theorem xs_new {M N N2 : Mm} {x : Nat} (hX : NX M N x) (b2 : ∀ q, q < x + 358 → gK N2 q = gK N q ∧ gI N2 q = gI N q ∧ gJ N2 q = gJ N q ∧ gP N2 q = gP N q) (hLM : LM N2 (x + 358)) (om : gI N2 (x + 358) = upd z32 7 (-1)) (or : ∀ i, 1 ≤ i → i < 17 → i ≠ 5 → gI N2 (x + 358 + i) = z32) : XS N2 x (x + 358) ∧ ∀ q, q < x → gK N2 q = gK M q ∧ gI N2 q = gI M q := by
  obtain ⟨z, below, hL, o0, o1, o2, o3, d4, d36, d68, o100, ds⟩ := hX
  have e : ∀ q, q < x + 358 → gI N2 q = gI N q ∧ gJ N2 q = gJ N q := fun q hq => ⟨(b2 q hq).2.1, (b2 q hq).2.2.1⟩
  have r1 : gI N2 (x + 358 + 1) = z32 := or 1 (by decide) (by decide) (by decide)
  have r2 : gI N2 (x + 358 + 2) = z32 := or 2 (by decide) (by decide) (by decide)
  have dq : ∀ b, b + 32 ≤ x + 358 → DF N b → DF N2 b := fun b hb h => h.q (fun k hk => e _ (by omega))
  have f36 := dq _ (by omega) d36
  refine ⟨⟨Nat.le_refl _, hLM, ?_⟩, fun q hq => ⟨(b2 q (by omega)).1.trans (below q hq).1, (b2 q (by omega)).2.1.trans (below q hq).2.1⟩⟩
  have u0 : gI N2 (x + 358) 12 = 0 := by rw [om, upd_n _ _ (by decide)]; rfl
  have l0 : gI N2 (x + 358) 2 = 0 := by rw [om, upd_n _ _ (by decide)]; rfl
  have e7 : gI N2 (x + 358) 7 = -1 := by rw [om, upd_s]
  rw [r1, r2, u0, l0, e7]
  refine ⟨?_, df_px f36, fun k _ => Or.inl ?_, ⟨0, 0, by decide, by decide, rfl, ?_, ?_, fun k hk => absurd hk (by omega)⟩, df_dz (dq _ (by omega) d4), ⟨fun i _ => ⟨0, by decide, rfl, ?_⟩, ?_, ⟨0, by decide, rfl⟩⟩, ?_, fun i hi => ⟨?_, ?_⟩⟩
  · exact lx_q hL b2
  · have := f36.2.1 21 (by decide) (by decide) (by decide)
    exact z_ext this k
  · rw [(e _ (by omega)).1, o100]; rfl
  · rw [(e _ (by omega)).1, o100]; rfl
  · rw [(e _ (by omega)).1, o3]; exact (show (0 : Int32) = sb (nI 0) by decide)
  · rw [(e _ (by omega)).1, o2]; rfl
  · rw [(e _ (by omega)).1, o0, upd_s]
  · have f := dq _ (by omega) (ds i hi)
    rw [z_ext (f.2.1 10 (by decide) (by decide) (by decide)) 11]
    exact ⟨0, by decide, rfl⟩
  · have f := dq _ (by omega) (ds i hi)
    rw [f.2.2.1, upd_s]
    exact ⟨1, by decide, rfl⟩
section PLAIN
variable {M : Mm} {x m : Nat}
theorem g_err (hS : XS M x m) : gI M x 4 = gI M m 7 := hS.2.2.2.2.2.2.2.2.1
theorem g_ca (hS : XS M x m) : gI M (x + 37) 8 = gI M (m + 2) 0 := by
  obtain ⟨n, f, r, w, g, t, -, -, -, ⟨c1, c2, c3⟩, ⟨d1, d2, d3⟩⟩ := hS.n
  rw [c1, d1]
theorem g_fi (hS : XS M x m) : gI M (x + 46) 11 = gI M (m + 2) 1 := by
  obtain ⟨n, f, r, w, g, t, -, -, -, ⟨c1, c2, c3⟩, ⟨d1, d2, d3⟩⟩ := hS.n
  rw [c2, d2]
theorem g_cl (hS : XS M x m) : gI M (x + 36) 6 = gI M (m + 2) 5 := by
  obtain ⟨n, f, r, w, g, t, -, hX, -⟩ := hS.n
  rw [hX.2.2.2.2.2.1.1, hX.2.2.2.2.2.1.2.1]
theorem g_cy (hS : XS M x m) : cnt (gI M (m + 2) 2) 12 ∧ gI M (x + 58) 3 = cyD (gI M (m + 2)) := by
  obtain ⟨n, f, r, w, g, t, -, hX, ⟨b1, b2, b3⟩, -, ⟨d1, d2, d3⟩⟩ := hS.n
  exact ⟨⟨r, b3, d3⟩, hX.2.2.1.2.2.2.2.1⟩
theorem g_gu (hS : XS M x m) : (¬ gI M (m + 2) 3 = 0 → cnt (gI M (m + 2) 4) 9) ∧ plM M (x + 61) = guD (gI M (m + 2)) := by
  obtain ⟨n, f, r, w, g, t, -, hX, -⟩ := hS.n
  refine ⟨fun _ => ⟨g, hX.1.1.2.2.2.2, hX.1.2.1.2.2.2.2⟩, xr_gu hX⟩
theorem g_ck (hS : XS M x m) : (∃ n f r w g, WD (gI M (m + 2)) n f r w g) ∧ ckR M x = ksR (gI M (m + 2)) := by
  obtain ⟨n, f, r, w, g, t, -, hX, -⟩ := hS.n
  exact ⟨⟨n, f, r, w, g, hX.1⟩, xr_ck hX⟩
theorem g_fa (hS : XS M x m) (o : Nat) : Fa (tS M m 0) M x m o := (fm_tS M m 0).a hS.1
end PLAIN
