/-! pairs: the last ones -/
theorem TXS.low {f f' : Nat → Int32} {tx : Nat → List rCl} {N : Nat} (h : TXS f tx N) (e : ∀ k, k < 681 * N → f' k = f k) : TXS f' tx N := by
  exact ⟨h.1, fun t ht => ⟨txtM_keep (h.2 t ht).1 ht e, (h.2 t ht).2⟩⟩
theorem pr_arc {X n0 z0 : Nat} (x : Int32) : PRi X n0 z0 sp_X11_arc sp_X12_arc [.int x] := by
  intro k C n z Q1 Q2 hJ h1 h2
  have hJ0 := hJ
  obtain ⟨g, σ, w, A, L, hM, hC, hg, b1, b2, hI⟩ := hJ
  refine ⟨X, g, A 1, rfl, hC, fun v v1 v2 e => h1 _ C n z (isR_of hM) ⟨⟨σ, w, A, L, C, hM⟩, ?_⟩, fun hn => h1 _ C n z (isR_of hM) ⟨⟨σ, w, A, L, C, hM⟩, ?_⟩⟩
  · rw [rg_k hM, e, pif_t (in_i v1 v2 (by omega)), nI_clamp (by omega)]
    exact h2 _ _ _ _ hJ0.id
  · rw [pif_f fun q => hn (in_of (by omega) q (by omega))]
    exact h2 _ _ _ _ hJ0.id
theorem pr_quiet {X n0 z0 : Nat} (x : Int32) : PRi X n0 z0 sp_X11_quiet sp_X12_quiet [.int x] := by
  intro k C n z Q1 Q2 hJ h1 h2
  have hJ0 := hJ
  obtain ⟨g, σ, w, A, L, hM, hC, hg, b1, b2, hI⟩ := hJ
  refine ⟨X, g, A 1, rfl, hC, fun v v1 v2 e => h1 _ C n z (isR_of hM) ⟨⟨σ, w, A, L, C, hM⟩, ?_⟩, fun hn => h1 _ C n z (isR_of hM) ⟨⟨σ, w, A, L, C, hM⟩, ?_⟩⟩
  · rw [rg_k hM, e, pif_t (in_i v1 v2 (by omega)), nI_clamp (by omega)]
    exact h2 _ _ _ _ hJ0.id
  · rw [pif_f fun q => hn (in_of (by omega) q (by omega))]
    exact h2 _ _ _ _ hJ0.id
theorem pr_longest {X n0 z0 : Nat} (x y : Int32) : PRi X n0 z0 sp_X11_longest sp_X12_longest [.int x, .int y] := by
  intro k C n z Q1 Q2 hJ h1 h2
  have hJ0 := hJ
  obtain ⟨g, σ, w, A, L, hM, hC, hg, b1, b2, hI⟩ := hJ
  refine ⟨X, g, A 1, rfl, hC, fun e => h1 _ C n z (isR_of hM) ⟨⟨σ, w, A, L, C, hM⟩, ?_⟩, fun e => h1 _ C n z (isR_of hM) ⟨⟨σ, w, A, L, C, hM⟩, ?_⟩⟩
  · rw [rg_k hM, pif_t e]
    by_cases hy : y = nI 0
    · rw [pif_t hy, if_pos hy]; exact h2 _ _ _ _ hJ0.id
    · rw [pif_f hy, if_neg hy]; exact h2 _ _ _ _ hJ0.id
  · rw [pif_f e]; exact h2 _ _ _ _ hJ0.id
theorem pr_ledger {X n0 z0 : Nat} (x : Int32) : PRi X n0 z0 sp_X11_ledger sp_X12_ledger [.int x] := by
  intro k C n z Q1 Q2 hJ h1 h2
  have hJ0 := hJ
  obtain ⟨g, σ, w, A, L, hM, hC, hg, b1, b2, hI⟩ := hJ
  obtain ⟨ch, hG⟩ := hC.sg
  have hs := hG.2.2.2.1
  have hs7 := hG.2.2.2.2.1
  have hMS := MS_of hC hI
  obtain ⟨b, hb, hb8⟩ := hG.2.2.1.2.2.2.2.1
  have hv : vp_in (garr C (X + 56 + 1) 8) 31 := by rw [rg_1 hM, hb8]; exact (vin_iff (by omega)).mpr (by omega)
  have hiff : (x = -nI 1 ∨ isCh (garr C (X + 56 + 1) 0) x) ↔ (x = -nI 1 ∨ ∃ c, c < ch ∧ x = nI c) := by
    rw [rg_1 hM, hs]
    constructor
    · rintro (e | e)
      · exact Or.inl e
      · exact Or.inr (isCh_of (by omega) e)
    · rintro (e | ⟨c, hc, e⟩)
      · exact Or.inl e
      · exact Or.inr (by rw [e]; exact isCh_i hc (by omega))
  refine ⟨X, g, A 1, b, ch, rfl, hC, hb8, hb, hs, hs7, fun e => h1 _ C n z (isR_of hM) ⟨⟨σ, w, A, L, C, hM⟩, hv, ?_⟩, fun e => h1 _ C n z (isR_of hM) ⟨⟨σ, w, A, L, C, hM⟩, hv, ?_⟩⟩
  · rw [pif_t (hiff.mpr e), rg_1 hM, hb8, nI_clamp (by omega)]; exact h2 _ _ _ _ hJ0.id
  · rw [pif_f fun q => e (hiff.mp q)]; exact h2 _ _ _ _ hJ0.id
theorem pr_meet {X n0 z0 : Nat} (x y u v : Int32) : PRi X n0 z0 sp_X11_meet sp_X12_meet [.int x, .int y, .int u, .int v] := by
  intro k C n z Q1 Q2 hJ h1 h2
  have hJ0 := hJ
  obtain ⟨g, σ, w, A, L, hM, hC, hg, b1, b2, hI⟩ := hJ
  obtain ⟨ch, hG⟩ := hC.sg
  have hs := hG.2.2.2.1
  have hs7 := hG.2.2.2.2.1
  have hMS := MS_of hC hI
  have ha := rg_1 hM
  have hv0 : vp_in (garr C (X + 56 + 1) 0) 8 := by rw [ha, hs]; exact (vin_iff (by omega)).mpr (by omega)
  have hv1 : ∀ c, c < 7 → vp_in (garr C (X + 56 + 1) (76 + c)) 10 := fun c hc => by
    obtain ⟨t, ht, e⟩ := (hG.2.2.1.2.2.2.2.2.2.2 c hc).1
    rw [ha, e]; exact (vin_iff (by omega)).mpr ht
  refine ⟨X, g, A 1, ch, rfl, hC, hs, hs7, fun hn => h1 _ C n z (isR_of hM) ⟨⟨σ, w, A, L, C, hM⟩, hv0, hv1, fun _ => h2 _ _ _ _ hJ0.id, fun q1 q2 => ?_⟩, fun c p d q s t hc hp hd hq hs1 ht1 es et ex ey eu ev => ?_⟩
  · rw [ha, hs] at q1 q2
    obtain ⟨c, hc, ex⟩ := isCh_of (by omega) q1.1
    obtain ⟨p, hp, ey⟩ := isPl_of q1.2
    obtain ⟨d, hd, eu⟩ := isCh_of (by omega) q2.1
    obtain ⟨q, hq, ev⟩ := isPl_of q2.2
    exact absurd ⟨c, p, d, q, hc, hp, hd, hq, ex, ey, eu, ev⟩ hn
  · have hyes : (isCh (garr C (X + 56 + 1) 0) x ∧ isPl y) ∧ (isCh (garr C (X + 56 + 1) 0) u ∧ isPl v) := by
      rw [ha, hs, ex, ey, eu, ev]
      exact ⟨⟨isCh_i hc (by omega), isPl_i hp⟩, isCh_i hd (by omega), isPl_i hq⟩
    have e1 : y.toNatClampNeg = p := by rw [ey, nI_clamp (by omega)]
    have e2 : v.toNatClampNeg = q := by rw [ev, nI_clamp (by omega)]
    have e3 : (garr C (X + 56 + 1) (76 + x.toNatClampNeg)).toNatClampNeg = s := by rw [ha, ex, nI_clamp (by omega), es, nI_clamp (by omega)]
    have e4 : (garr C (X + 56 + 1) (76 + u.toNatClampNeg)).toNatClampNeg = t := by rw [ha, eu, nI_clamp (by omega), et, nI_clamp (by omega)]
    refine ⟨fun m m1 m2 m3 => h1 _ C n z (isR_of hM) ⟨⟨σ, w, A, L, C, hM⟩, hv0, hv1, fun hn => absurd hyes hn, fun _ _ => ?_⟩, fun hno => h1 _ C n z (isR_of hM) ⟨⟨σ, w, A, L, C, hM⟩, hv0, hv1, fun hn => absurd hyes hn, fun _ _ => ?_⟩⟩
    · rw [e1, e2, e3, e4]
      refine ⟨fun m' m1' m2' m3' => ?_, fun hno => absurd m2 (hno m m1)⟩
      obtain rfl : m = m' := by
        rcases Nat.lt_trichotomy m m' with w1 | w1 | w1
        · exact absurd m2 (m3' m w1)
        · exact w1
        · exact absurd m2' (m3 m' w1)
      exact h2 _ _ _ _ hJ0.id
    · rw [e1, e2, e3, e4]
      exact ⟨fun m' m1' m2' m3' => absurd m2' (hno m' m1'), fun _ => h2 _ _ _ _ hJ0.id⟩
theorem pr_ofBar {X n0 z0 : Nat} (x y : Int32) : PRi X n0 z0 sp_X11_ofBar sp_X12_ofBar [.int x, .int y] := by
  intro k C n z Q1 Q2 hJ h1 h2
  have hJ0 := hJ
  obtain ⟨g, σ, w, A, L, hM, hC, hg, b1, b2, hI⟩ := hJ
  obtain ⟨ch, hG⟩ := hC.sg
  have hs := hG.2.2.2.1
  have hs7 := hG.2.2.2.2.1
  have hMS := MS_of hC hI
  refine ⟨X, g, A 1, rfl, hC, fun hn => h1 _ C n z (isR_of hM) ⟨σ, w, A, L, C, ruleO (A 1), g.2.2.2.1, g.2.2.2.2, hM, (hMS.2.1.1.2.1.e hG.2.1.1).1, hMS.1, (hMS.2.1.1.2.1.e hG.2.1.1).2, hMS.2.1.1.sm, hMS.2.2.1, fun _ => h2 _ _ _ _ hJ0.id, fun p k0 k1 k2 => absurd ⟨p, k0, k1⟩ hn, fun p k0 k1 k2 => absurd ⟨p, k0, k1⟩ hn⟩, fun p k0 k1 k2 => h1 _ C n z (isR_of hM) ⟨σ, w, A, L, C, ruleO (A 1), g.2.2.2.1, g.2.2.2.2, hM, (hMS.2.1.1.2.1.e hG.2.1.1).1, hMS.1, (hMS.2.1.1.2.1.e hG.2.1.1).2, hMS.2.1.1.sm, hMS.2.2.1, fun hn => absurd ⟨p, k0, k1⟩ hn, fun p' k0' k1' k2' => ?_, fun p' k0' k1' k2' => absurd k2' k2⟩, fun p k0 k1 k2 C' hC' hF => ?_⟩
  · obtain rfl : p = p' := (nI_eq (by omega) (by omega)).mp (k1.symm.trans k1')
    exact h2 _ _ _ _ hJ0.id
  · have hM' := FR.mc hF hg hM
    refine h1 _ C' n z (isR_of hM') ⟨σ, w, A, L, C', ruleO (A 1), g.2.2.2.1, g.2.2.2.2, hM', (hMS.2.1.1.2.1.e hG.2.1.1).1, hMS.1, (hMS.2.1.1.2.1.e hG.2.1.1).2, hMS.2.1.1.sm, hMS.2.2.1, fun hn => absurd ⟨p, k0, k1⟩ hn, fun p' k0' k1' k2' => absurd k2 k2', fun p' k0' k1' k2' A' L' e1 e2 e3 => ?_⟩
    obtain rfl : p = p' := (nI_eq (by omega) (by omega)).mp (k1.symm.trans k1')
    exact h2 _ _ _ _ (LJ.sd hC' hg b1 b2 hI (fun _ _ => rfl) (fun j hj => e1 j (by omega) (by omega)) e3)
theorem pr_feed {X n0 z0 : Nat} (v1 v2 v3 v4 v5 : Int32) : PRi X n0 z0 sp_X11_feed sp_X12_feed [.int v1, .int v2, .int v3, .int v4, .int v5] := by
  intro k C n z Q1 Q2 hJ h1 h2
  have hJ0 := hJ
  obtain ⟨g, σ, w, A, L, hM, hC, hg, b1, b2, hI⟩ := hJ
  have hl := hC.len
  refine ⟨X, g, A 1, rfl, hC, fun e Tp' hT hT2 C' hC' hF => ?_, fun e => h1 _ C n z (isR_of hM) ⟨σ, w, A, L, C, g.2.2.1.2.1, hM, hI.2.2.1, hl, fun q => absurd q e, fun _ => h2 _ _ _ _ hJ0.id⟩⟩
  have hM' := FR.mc hF hg hM
  refine h1 _ C' n z (isR_of hM') ⟨σ, w, A, L, C', g.2.2.1.2.1, hM', hI.2.2.1, hl, fun _ => h2 _ _ _ _ (LJ.fin hC' hg (show g.1.2.1 ≤ n0 + 400 + 5 * (k + 1) by omega) (show g.1.2.2 ≤ z0 + 60000 + 3700 * (k + 1) by omega) (sup_ne (by decide)) ?_), fun q => absurd e q⟩
  obtain ⟨i1, i2, i3, i4, i5, i6, i7, i8⟩ := hI
  exact ⟨by rw [sup_ne (by decide)]; exact i1, by rw [sup_same, i2]; funext j; exact (hT j).symm, sup_same, by rw [sup_ne (by decide)]; exact i4, by rw [sup_ne (by decide)]; exact i5, by rw [sup_ne (by decide)]; exact i6, by rw [sup_ne (by decide)]; exact i7, by rw [sup_ne (by decide)]; exact i8⟩
def PRl (X n0 z0 : Nat) (sp1 sp2 : gSp) (as : List Value) : Prop := ∀ (k : Nat) (C : gC) (n z : Nat) (Q1 : gQ) (Q2 : Int64 → gQ), LJ X n0 z0 k C n z → (∀ x C1 n1 z1, isR X C1 → sp2 (.ref (X + 56) :: as) C1 n1 z1 (Q2 x) → Q1 (some (.long x)) C1 n1 z1) → (∀ x C2 n2 z2, LJ X n0 z0 (k + 1) C2 n2 z2 → Q2 x (some (.long x)) C2 n2 z2) → sp1 (.ref X :: as) C n z Q1
theorem pr_likely {X n0 z0 : Nat} (x y u v : Int32) : PRl X n0 z0 sp_X11_likely sp_X12_likely [.int x, .int y, .int u, .int v] := by
  intro k C n z Q1 Q2 hJ h1 h2
  have hJ0 := hJ
  obtain ⟨g, σ, w, A, L, hM, hC, hg, b1, b2, hI⟩ := hJ
  obtain ⟨ch, hG⟩ := hC.sg
  have hs := hG.2.2.2.1
  have hs7 := hG.2.2.2.2.1
  have hMS := MS_of hC hI
  refine ⟨X, g, A 1, ch, rfl, hC, hs, hs7, fun hn => h1 _ C n z (isR_of hM) ⟨σ, w, A, L, C, g.2.2.2.1, g.2.2.2.2, ch, hM, hMS, hs, hs7, fun _ => h2 _ _ _ _ hJ0.id, fun c p m k0 => absurd ⟨c, p, m, k0⟩ hn⟩, fun c p m k0 C'  hC' hF => ?_⟩
  have hM' := FR.mc hF hg hM
  refine h1 _ C' n z (isR_of hM') ⟨σ, w, A, L, C', g.2.2.2.1, g.2.2.2.2, ch, hM', hMS, hs, hs7, fun hn => absurd ⟨c, p, m, k0⟩ hn, fun c' p' m' k0' σ' A' L' hO => ?_⟩
  obtain rfl : c = c' := (nI_eq (by have := k0.1; have := k0.2.1; have := k0.2.2.1; omega) (by have := k0'.1; have := k0'.2.1; have := k0'.2.2.1; omega)).mp (k0.2.2.2.1.symm.trans k0'.2.2.2.1)
  obtain rfl : p = p' := (nI_eq (by have := k0.1; have := k0.2.1; have := k0.2.2.1; omega) (by have := k0'.1; have := k0'.2.1; have := k0'.2.2.1; omega)).mp (k0.2.2.2.2.1.symm.trans k0'.2.2.2.2.1)
  obtain rfl : m = m' := (nI_eq (by have := k0.1; have := k0.2.1; have := k0.2.2.1; omega) (by have := k0'.1; have := k0'.2.1; have := k0'.2.2.1; omega)).mp (k0.2.2.2.2.2.symm.trans k0'.2.2.2.2.2)
  exact h2 _ _ _ _ (LJ.mo hC' hg b1 b2 hI hO)
theorem pr_worth {X n0 z0 : Nat} (x y u : Int32) : PRl X n0 z0 sp_X11_worth sp_X12_worth [.int x, .int y, .int u] := by
  intro k C n z Q1 Q2 hJ h1 h2
  have hJ0 := hJ
  obtain ⟨g, σ, w, A, L, hM, hC, hg, b1, b2, hI⟩ := hJ
  obtain ⟨ch, hG⟩ := hC.sg
  have hs := hG.2.2.2.1
  have hs7 := hG.2.2.2.2.1
  have hMS := MS_of hC hI
  refine ⟨X, g, A 1, ch, rfl, hC, hs, hs7, fun hn => h1 _ C n z (isR_of hM) ⟨σ, w, A, L, C, g.2.2.2.1, g.2.2.2.2, ch, hM, hMS, hG.2.2.2.2.2.1, hs, hs7, fun _ => h2 _ _ _ _ hJ0.id, fun c p k0 k1 k2 k3 => absurd ⟨c, p, k0, k1, k2, k3⟩ hn⟩, fun c p k0 k1 k2 k3 C'  hC' hF => ?_⟩
  have hM' := FR.mc hF hg hM
  refine h1 _ C' n z (isR_of hM') ⟨σ, w, A, L, C', g.2.2.2.1, g.2.2.2.2, ch, hM', hMS, hG.2.2.2.2.2.1, hs, hs7, fun hn => absurd ⟨c, p, k0, k1, k2, k3⟩ hn, fun c' p' k0' k1' k2' k3' σ' A' L' hO => ?_⟩
  obtain rfl : c = c' := (nI_eq (by omega) (by omega)).mp (k2.symm.trans k2')
  obtain rfl : p = p' := (nI_eq (by omega) (by omega)).mp (k3.symm.trans k3')
  exact h2 _ _ _ _ (LJ.mo hC' hg b1 b2 hI hO)
theorem pr_mean {X n0 z0 : Nat} (x y u : Int32) : PRl X n0 z0 sp_X11_mean sp_X12_mean [.int x, .int y, .int u] := by
  intro k C n z Q1 Q2 hJ h1 h2
  have hJ0 := hJ
  obtain ⟨g, σ, w, A, L, hM, hC, hg, b1, b2, hI⟩ := hJ
  obtain ⟨ch, hG⟩ := hC.sg
  have hs := hG.2.2.2.1
  have hs7 := hG.2.2.2.2.1
  have hMS := MS_of hC hI
  refine ⟨X, g, A 1, ch, rfl, hC, hs, hs7, fun hn => h1 _ C n z (isR_of hM) ⟨σ, w, A, L, C, g.2.2.2.1, g.2.2.2.2, ch, hM, hMS, hs, hs7, fun _ => h2 _ _ _ _ hJ0.id, fun c p k0 k1 k2 k3 => absurd ⟨c, p, k0, k1, k2, k3⟩ hn⟩, fun c p k0 k1 k2 k3 C' hC' hF => ?_⟩
  have hM' := FR.mc hF hg hM
  refine ⟨fun hb => h1 _ C' n z (isR_of hM') ⟨σ, w, A, L, C', g.2.2.2.1, g.2.2.2.2, ch, hM', hMS, hs, hs7, fun hn => absurd ⟨c, p, k0, k1, k2, k3⟩ hn, fun c' p' k0' k1' k2' k3' σ' A' L' hO => ?_⟩, fun hb => h1 _ C' n z (isR_of hM') ⟨σ, w, A, L, C', g.2.2.2.1, g.2.2.2.2, ch, hM', hMS, hs, hs7, fun hn => absurd ⟨c, p, k0, k1, k2, k3⟩ hn, fun c' p' k0' k1' k2' k3' σ' A' L' hO => ?_⟩⟩
  all_goals
    obtain rfl : c = c' := (nI_eq (by omega) (by omega)).mp (k2.symm.trans k2')
    obtain rfl : p = p' := (nI_eq (by omega) (by omega)).mp (k3.symm.trans k3')
    exact ⟨fun _ => by first | exact h2 _ _ _ _ (LJ.mo hC' hg b1 b2 hI hO) | omega, fun _ => by first | exact h2 _ _ _ _ (LJ.mo hC' hg b1 b2 hI hO) | omega⟩
set_option maxRecDepth 100000 in
theorem pr_text {X n0 z0 : Nat} : PRi X n0 z0 sp_X11_text sp_X12_text [] := by
  intro k C n z Q1 Q2 hJ h1 h2
  have hJ0 := hJ
  obtain ⟨g, σ, w, A, L, hM, hC, hg, b1, b2, hI⟩ := hJ
  obtain ⟨ch, hG⟩ := hC.sg
  have hs := hG.2.2.2.1
  have hs7 := hG.2.2.2.2.1
  have hMS := MS_of hC hI
  have hl := hC.len
  have hok := hC.okr
  have hN4 := hG.2.1.1
  refine ⟨X, g, A 1, rfl, hC, fun e => h1 _ C n z (isR_of hM) ⟨σ, w, A, L, C, g.2.2.1.1, g.2.2.1.2.1, g.2.2.2.2, hM, hI.2.1, hok.2.2, hI.2.2.1, hl, hG.1, hN4, fun _ => h2 _ _ _ _ hJ0.id, fun q => absurd e (by omega)⟩, fun e => ?_⟩
  cases hr : rText (tkS g.2.2.1.1 g.2.2.1.2.1) (tkV g.2.2.1.1 g.2.2.1.2.1) 302 0 [] with
  | inl v =>
    obtain ⟨f, j⟩ := v
    intro bn' bz' C' n' z' q1 q2 hC' hF
    have hM' := FR.mc hF hg hM
    refine h1 _ C' n' z' (isR_of hM') ⟨σ, w, A, L, C', g.2.2.1.1, g.2.2.1.2.1, g.2.2.2.2, hM', hI.2.1, hok.2.2, hI.2.2.1, hl, hG.1, hN4, fun q => absurd e (by omega), fun _ => ?_⟩
    rw [hr]
    intro σ' w' A' f1 f2 s4 s5 s6 s23 eA e3
    refine h2 _ _ _ _ (LJ.fin hC' hg (by dsimp only; omega) (by dsimp only; omega) (eA 1 (by decide) (by decide)) ?_)
    obtain ⟨i1, i2, i3, i4, i5, i6, i7, i8⟩ := hI
    exact ⟨(eA 2 (by decide) (by decide)).trans i1, (eA 4 (by decide) (by decide)).trans i2, s4, s5, s6, i6.low e3, by rw [eA 6 (by decide) (by decide)]; exact i7, s23.trans i8⟩
  | inr l =>
    intro κ' tx' bn' bz' C' n' z' t1 t2 t3 q1 q2 hC' hF
    have hM' := FR.mc hF hg hM
    refine h1 _ C' n' z' (isR_of hM') ⟨σ, w, A, L, C', g.2.2.1.1, g.2.2.1.2.1, g.2.2.2.2, hM', hI.2.1, hok.2.2, hI.2.2.1, hl, hG.1, hN4, fun q => absurd e (by omega), fun _ => ?_⟩
    rw [hr]
    intro σ' w' A' s4 s5 s6 s23 eA eA1 e3 et
    refine h2 _ _ _ _ (LJ.fin hC' hg (by dsimp only; omega) (by dsimp only; omega) eA1 ?_)
    obtain ⟨i1, i2, i3, i4, i5, i6, i7, i8⟩ := hI
    refine ⟨(eA 2 (by decide) (by decide) (by decide)).trans i1, (eA 4 (by decide) (by decide) (by decide)).trans i2, s4, s5, s6, ⟨by show g.2.2.2.2 + 1 ≤ 4; omega, fun t ht => ?_⟩, by rw [eA 6 (by decide) (by decide) (by decide)]; exact i7, s23.trans i8⟩
    have ht : t < g.2.2.2.2 + 1 := ht
    show txtM (A' 3) t (tx' t) ∧ okT (tx' t)
    by_cases q : t = g.2.2.2.2
    · rw [q, t2]
      exact ⟨et, fun c hc => (t3 c hc).1⟩
    · rw [t1 t (by omega)]
      exact (i6.low e3).2 t (by omega)
