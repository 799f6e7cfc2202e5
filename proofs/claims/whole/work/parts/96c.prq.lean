/-! pairs: queries and deeds -/
section PRC
variable {X n0 z0 k n z : Nat} {σ σ' : Nat → Int32} {w w' : Int64} {A A' : Nat → Nat → Int32} {L L' : Nat → Nat → Int64} {C : gC} {g : Gh} {a : Nat → Int32}
theorem MI.of (h : MI g σ A) (e4 : σ' 4 = σ 4) (e5 : σ' 5 = σ 5) (e6 : σ' 6 = σ 6) (e23 : σ' 23 = σ 23) (a2 : A' 2 = A 2) (a3 : A' 3 = A 3) (a4 : A' 4 = A 4) (hN : NS (A' 6)) : MI g σ' A' := by
  obtain ⟨i1, i2, i3, i4, i5, i6, i7, i8⟩ := h
  exact ⟨a2.trans i1, a4.trans i2, e4.trans i3, e5.trans i4, e6.trans i5, by rw [a3]; exact i6, hN, e23.trans i8⟩
theorem MS_of (h : CW X g (A 1) C n z) (hI : MI g σ A) : MS σ A g.2.2.2.1 g.2.2.2.2 := by
  obtain ⟨ch, hG⟩ := h.sg
  obtain ⟨s, h3, hs⟩ := h.st3
  exact ⟨hI.2.2.2.2.2.1, ⟨hG.2.2.1, s, hs, h3⟩, hI.2.2.2.2.2.2.1, hI.2.2.2.2.2.2.2⟩
theorem LJ.mo (h : CW X g (A 1) C n z) (hg : g.1.1 = X + 71) (b1 : g.1.2.1 ≤ n0 + 400 + 5 * k) (b2 : g.1.2.2 ≤ z0 + 60000 + 3700 * k) (hI : MI g σ A) (hO : MO σ A σ' A') : LJ X n0 z0 (k + 1) (menc (X + 56) σ' w' A' L' C) n z := LJ.fin h hg (by omega) (by omega) (hO.2.1 1 (by decide) (by decide) (by decide)) (hI.of (hO.1 _ (by decide)) (hO.1 _ (by decide)) (hO.1 _ (by decide)) (hO.1 _ (by decide)) (hO.2.1 _ (by decide) (by decide) (by decide)) (hO.2.1 _ (by decide) (by decide) (by decide)) (hO.2.1 _ (by decide) (by decide) (by decide)) hO.2.2)
theorem LJ.mf (h : CW X g a C n z) (hg : g.1.1 = X + 71) (b1 : g.1.2.1 ≤ n0 + 400 + 5 * k) (b2 : g.1.2.2 ≤ z0 + 60000 + 3700 * k) (hI : MI g σ A) (hO : MF σ A σ' A') (ha : A' 1 = a) : LJ X n0 z0 (k + 1) (menc (X + 56) σ' w' A' L' C) n z := LJ.fin h hg (by omega) (by omega) ha (hI.of (hO.1 _ (by decide)) (hO.1 _ (by decide)) (hO.1 _ (by decide)) (hO.1 _ (by decide)) (hO.2.1 _ (by decide) (by decide) (by decide)) (hO.2.1 _ (by decide) (by decide) (by decide)) (hO.2.1 _ (by decide) (by decide) (by decide)) hO.2.2)
theorem LJ.sd (h : CW X g (A 1) C n z) (hg : g.1.1 = X + 71) (b1 : g.1.2.1 ≤ n0 + 400 + 5 * k) (b2 : g.1.2.2 ≤ z0 + 60000 + 3700 * k) (hI : MI g σ A) (eσ : ∀ j, j ≠ 24 → σ' j = σ j) (eA : ∀ j, j ≤ 4 → A' j = A j) (hN : NS (A' 6)) : LJ X n0 z0 (k + 1) (menc (X + 56) σ' w' A' L' C) n z := LJ.fin h hg (by omega) (by omega) (eA 1 (by decide)) (hI.of (eσ _ (by decide)) (eσ _ (by decide)) (eσ _ (by decide)) (eσ _ (by decide)) (eA _ (by decide)) (eA _ (by decide)) (eA _ (by decide)) hN)
end PRC
theorem VPa_of {a : Nat → Int32} {N : Nat} (h : DW a N) : VPa a := fun p hp => by
  obtain ⟨k, hk, e⟩ := h.2.2.2.2.2.2.1 p hp
  unfold paN
  rw [e, nI_clamp (by omega)]
  exact ⟨by omega, rfl⟩
theorem pr_start {X n0 z0 : Nat} (x y : Int32) : PRi X n0 z0 sp_X11_start sp_X12_start [.int x, .int y] := by
  intro k C n z Q1 Q2 hJ h1 h2
  have hJ0 := hJ
  obtain ⟨g, σ, w, A, L, hM, hC, hg, b1, b2, hI⟩ := hJ
  obtain ⟨ch, hG⟩ := hC.sg
  have hs := hG.2.2.2.1
  have hs7 := hG.2.2.2.2.1
  have hMS := MS_of hC hI
  refine ⟨X, g, A 1, ch, rfl, hC, hs, hs7, fun hn => h1 _ C n z (isR_of hM) ⟨σ, w, A, L, C, g.2.2.2.1, g.2.2.2.2, ch, hM, hMS, hs, hs7, fun _ => h2 _ _ _ _ hJ0.id, fun c m k0 k1 k2 k3 => absurd ⟨c, m, k0, k1, k2, k3⟩ hn⟩, fun c m k0 k1 k2 k3 C'  hC' hF => ?_⟩
  have hM' := FR.mc hF hg hM
  refine h1 _ C' n z (isR_of hM') ⟨σ, w, A, L, C', g.2.2.2.1, g.2.2.2.2, ch, hM', hMS, hs, hs7, fun hn => absurd ⟨c, m, k0, k1, k2, k3⟩ hn, fun c' m' k0' k1' k2' k3' σ' A' L' hO => ?_⟩
  obtain rfl : c = c' := (nI_eq (by omega) (by omega)).mp (k2.symm.trans k2')
  obtain rfl : m = m' := (nI_eq (by omega) (by omega)).mp (k3.symm.trans k3')
  exact h2 _ _ _ _ (LJ.mo hC' hg b1 b2 hI hO)
theorem pr_which {X n0 z0 : Nat} (x y u : Int32) : PRi X n0 z0 sp_X11_which sp_X12_which [.int x, .int y, .int u] := by
  intro k C n z Q1 Q2 hJ h1 h2
  have hJ0 := hJ
  obtain ⟨g, σ, w, A, L, hM, hC, hg, b1, b2, hI⟩ := hJ
  obtain ⟨ch, hG⟩ := hC.sg
  have hs := hG.2.2.2.1
  have hs7 := hG.2.2.2.2.1
  have hMS := MS_of hC hI
  refine ⟨X, g, A 1, ch, rfl, hC, hs, hs7, fun hn => h1 _ C n z (isR_of hM) ⟨σ, w, A, L, C, g.2.2.2.1, g.2.2.2.2, ch, hM, hMS, hs, hs7, fun _ => h2 _ _ _ _ hJ0.id, fun c p m k0 => absurd ⟨c, p, m, k0⟩ hn⟩, fun c p m k0 C'  hC' hF => ?_⟩
  have hM' := FR.mc hF hg hM
  refine h1 _ C' n z (isR_of hM') ⟨σ, w, A, L, C', g.2.2.2.1, g.2.2.2.2, ch, hM', hMS, hs, hs7, fun hn => absurd ⟨c, p, m, k0⟩ hn, fun c' p' m' k0' σ' A' L' hO => ?_⟩
  obtain rfl : c = c' := (nI_eq (by have := k0.1; have := k0.2.1; have := k0.2.2.1; omega) (by have := k0'.1; have := k0'.2.1; have := k0'.2.2.1; omega)).mp (k0.2.2.2.1.symm.trans k0'.2.2.2.1)
  obtain rfl : p = p' := (nI_eq (by have := k0.1; have := k0.2.1; have := k0.2.2.1; omega) (by have := k0'.1; have := k0'.2.1; have := k0'.2.2.1; omega)).mp (k0.2.2.2.2.1.symm.trans k0'.2.2.2.2.1)
  obtain rfl : m = m' := (nI_eq (by have := k0.1; have := k0.2.1; have := k0.2.2.1; omega) (by have := k0'.1; have := k0'.2.1; have := k0'.2.2.1; omega)).mp (k0.2.2.2.2.2.symm.trans k0'.2.2.2.2.2)
  exact h2 _ _ _ _ (LJ.mo hC' hg b1 b2 hI hO)
theorem pr_best {X n0 z0 : Nat} (x : Int32) : PRi X n0 z0 sp_X11_best sp_X12_best [.int x] := by
  intro k C n z Q1 Q2 hJ h1 h2
  have hJ0 := hJ
  obtain ⟨g, σ, w, A, L, hM, hC, hg, b1, b2, hI⟩ := hJ
  obtain ⟨ch, hG⟩ := hC.sg
  have hs := hG.2.2.2.1
  have hs7 := hG.2.2.2.2.1
  have hMS := MS_of hC hI
  refine ⟨X, g, A 1, ch, rfl, hC, hs, hs7, fun hn => h1 _ C n z (isR_of hM) ⟨σ, w, A, L, C, g.2.2.2.1, g.2.2.2.2, ch, hM, hMS, hG.2.2.2.2.2.1, hs, hs7, fun _ => h2 _ _ _ _ hJ0.id, fun c k0 k1 => absurd ⟨c, k0, k1⟩ hn⟩, fun c k0 k1 C'  hC' hF => ?_⟩
  have hM' := FR.mc hF hg hM
  refine h1 _ C' n z (isR_of hM') ⟨σ, w, A, L, C', g.2.2.2.1, g.2.2.2.2, ch, hM', hMS, hG.2.2.2.2.2.1, hs, hs7, fun hn => absurd ⟨c, k0, k1⟩ hn, fun c' k0' k1' σ' A' L' hO => ?_⟩
  obtain rfl : c = c' := (nI_eq (by omega) (by omega)).mp (k1.symm.trans k1')
  exact h2 _ _ _ _ (LJ.mo hC' hg b1 b2 hI hO)
theorem pr_goesOn {X n0 z0 : Nat} (x y u : Int32) : PRi X n0 z0 sp_X11_goesOn sp_X12_goesOn [.int x, .int y, .int u] := by
  intro k C n z Q1 Q2 hJ h1 h2
  have hJ0 := hJ
  obtain ⟨g, σ, w, A, L, hM, hC, hg, b1, b2, hI⟩ := hJ
  obtain ⟨ch, hG⟩ := hC.sg
  have hs := hG.2.2.2.1
  have hs7 := hG.2.2.2.2.1
  have hMS := MS_of hC hI
  refine ⟨X, g, A 1, ch, rfl, hC, hs, hs7, fun hn => h1 _ C n z (isR_of hM) ⟨σ, w, A, L, C, g.2.2.2.1, g.2.2.2.2, ch, hM, hMS, hG.2.2.2.2.2.1, hs, hs7, fun _ => h2 _ _ _ _ hJ0.id, fun c p m k0 k1 k2 k3 k4 k5 => absurd ⟨c, p, m, k0, k1, k2, k3, k4, k5⟩ hn⟩, fun c p m k0 k1 k2 k3 k4 k5 C'  hC' hF => ?_⟩
  have hM' := FR.mc hF hg hM
  refine h1 _ C' n z (isR_of hM') ⟨σ, w, A, L, C', g.2.2.2.1, g.2.2.2.2, ch, hM', hMS, hG.2.2.2.2.2.1, hs, hs7, fun hn => absurd ⟨c, p, m, k0, k1, k2, k3, k4, k5⟩ hn, fun c' p' m' k0' k1' k2' k3' k4' k5' σ' A' L' hO => ?_⟩
  obtain rfl : c = c' := (nI_eq (by omega) (by omega)).mp (k3.symm.trans k3')
  obtain rfl : p = p' := (nI_eq (by omega) (by omega)).mp (k4.symm.trans k4')
  obtain rfl : m = m' := (nI_eq (by omega) (by omega)).mp (k5.symm.trans k5')
  exact h2 _ _ _ _ (LJ.mo hC' hg b1 b2 hI hO)
theorem pr_catches {X n0 z0 : Nat} (x y u : Int32) : PRi X n0 z0 sp_X11_catches sp_X12_catches [.int x, .int y, .int u] := by
  intro k C n z Q1 Q2 hJ h1 h2
  have hJ0 := hJ
  obtain ⟨g, σ, w, A, L, hM, hC, hg, b1, b2, hI⟩ := hJ
  obtain ⟨ch, hG⟩ := hC.sg
  have hs := hG.2.2.2.1
  have hs7 := hG.2.2.2.2.1
  have hMS := MS_of hC hI
  refine ⟨X, g, A 1, ch, rfl, hC, hs, hs7, fun hn => h1 _ C n z (isR_of hM) ⟨σ, w, A, L, C, ruleO (A 1), g.2.2.2.1, g.2.2.2.2, ch, hM, (hMS.2.1.1.2.1.e hG.2.1.1).1, hMS.1, (hMS.2.1.1.2.1.e hG.2.1.1).2, hMS.2.1.1.sm, hs, hs7, fun _ => h2 _ _ _ _ hJ0.id, fun c p m k0 k1 k2 k3 k4 k5 k6 => absurd ⟨c, p, m, k0, k1, k2, k3, k4, k5, k6⟩ hn⟩, fun c p m k0 k1 k2 k3 k4 k5 k6 C'  hC' hF => ?_⟩
  have hM' := FR.mc hF hg hM
  refine h1 _ C' n z (isR_of hM') ⟨σ, w, A, L, C', ruleO (A 1), g.2.2.2.1, g.2.2.2.2, ch, hM', (hMS.2.1.1.2.1.e hG.2.1.1).1, hMS.1, (hMS.2.1.1.2.1.e hG.2.1.1).2, hMS.2.1.1.sm, hs, hs7, fun hn => absurd ⟨c, p, m, k0, k1, k2, k3, k4, k5, k6⟩ hn, fun c' p' m' k0' k1' k2' k3' k4' k5' k6' A' L' e1 e2 e3 => ?_⟩
  obtain rfl : c = c' := (nI_eq (by omega) (by omega)).mp (k4.symm.trans k4')
  obtain rfl : p = p' := (nI_eq (by omega) (by omega)).mp (k5.symm.trans k5')
  obtain rfl : m = m' := (nI_eq (by omega) (by omega)).mp (k6.symm.trans k6')
  exact h2 _ _ _ _ (LJ.sd hC' hg b1 b2 hI (fun _ _ => rfl) (fun j hj => e1 j (by omega) (by omega)) e3)
theorem pr_foretold {X n0 z0 : Nat} (x y : Int32) : PRi X n0 z0 sp_X11_foretold sp_X12_foretold [.int x, .int y] := by
  intro k C n z Q1 Q2 hJ h1 h2
  have hJ0 := hJ
  obtain ⟨g, σ, w, A, L, hM, hC, hg, b1, b2, hI⟩ := hJ
  obtain ⟨ch, hG⟩ := hC.sg
  have hs := hG.2.2.2.1
  have hs7 := hG.2.2.2.2.1
  have hMS := MS_of hC hI
  refine ⟨X, g, A 1, ch, rfl, hC, hs, hs7, fun hn => h1 _ C n z (isR_of hM) ⟨σ, w, A, L, C, g.2.2.2.1, g.2.2.2.2, ch, hM, hMS, hs, hs7, fun _ => h2 _ _ _ _ hJ0.id, fun m c k0 k1 k2 k3 k4 => absurd ⟨m, c, k0, k1, k2, k3, k4⟩ hn⟩, fun m c k0 k1 k2 k3 k4 C'  hC' hF => ?_⟩
  have hM' := FR.mc hF hg hM
  refine h1 _ C' n z (isR_of hM') ⟨σ, w, A, L, C', g.2.2.2.1, g.2.2.2.2, ch, hM', hMS, hs, hs7, fun hn => absurd ⟨m, c, k0, k1, k2, k3, k4⟩ hn, fun m' c' k0' k1' k2' k3' k4' σ' A' L' e1 e2 e3 => ?_⟩
  obtain rfl : m = m' := (nI_eq (by omega) (by omega)).mp (k3.symm.trans k3')
  obtain rfl : c = c' := (nI_eq (by omega) (by omega)).mp (k4.symm.trans k4')
  exact h2 _ _ _ _ (LJ.sd hC' hg b1 b2 hI e1 (fun j hj => e2 j (by omega) (by omega) (by omega)) e3)
theorem pr_sings {X n0 z0 : Nat} (x y u : Int32) : PRi X n0 z0 sp_X11_sings sp_X12_sings [.int x, .int y, .int u] := by
  intro k C n z Q1 Q2 hJ h1 h2
  have hJ0 := hJ
  obtain ⟨g, σ, w, A, L, hM, hC, hg, b1, b2, hI⟩ := hJ
  obtain ⟨ch, hG⟩ := hC.sg
  have hs := hG.2.2.2.1
  have hs7 := hG.2.2.2.2.1
  have hMS := MS_of hC hI
  refine ⟨X, g, A 1, rfl, hC, fun hn => h1 _ C n z (isR_of hM) ⟨σ, w, A, L, C, hM, VPa_of hG.2.2.1, fun _ => h2 _ _ _ _ hJ0.id, fun i j k0 k1 k2 k3 => absurd ⟨i, j, k0, k1, k2, k3⟩ hn⟩, fun i j k0 k1 k2 k3 C'  hC' hF => ?_⟩
  have hM' := FR.mc hF hg hM
  refine h1 _ C' n z (isR_of hM') ⟨σ, w, A, L, C', hM', VPa_of hG.2.2.1, fun hn => absurd ⟨i, j, k0, k1, k2, k3⟩ hn, fun i' j' k0' k1' k2' k3' A' e1 => ?_⟩
  obtain rfl : i = i' := (nI_eq (by omega) (by omega)).mp (k2.symm.trans k2')
  obtain rfl : j = j' := (nI_eq (by omega) (by omega)).mp (k3.symm.trans k3')
  exact h2 _ _ _ _ (LJ.sd hC' hg b1 b2 hI (fun _ _ => rfl) (fun j hj => e1 j (by omega)) (by rw [e1 6 (by decide)]; exact hMS.2.2.1))
theorem pr_value {X n0 z0 : Nat} (x y : Int32) : PRi X n0 z0 sp_X11_value sp_X12_value [.int x, .int y] := by
  intro k C n z Q1 Q2 hJ h1 h2
  have hJ0 := hJ
  obtain ⟨g, σ, w, A, L, hM, hC, hg, b1, b2, hI⟩ := hJ
  obtain ⟨ch, hG⟩ := hC.sg
  have hs := hG.2.2.2.1
  have hs7 := hG.2.2.2.2.1
  have hMS := MS_of hC hI
  refine ⟨X, g, A 1, rfl, hC, fun hn => h1 _ C n z (isR_of hM) ⟨σ, w, A, L, C, hM, fun _ => h2 _ _ _ _ hJ0.id, fun m v1 k0 k1 k2 k3 => absurd ⟨m, v1, k0, k1, k2, k3⟩ hn⟩, fun m v1 k0 k1 k2 k3 C'  hC' hF => ?_⟩
  have hM' := FR.mc hF hg hM
  refine h1 _ C' n z (isR_of hM') ⟨σ, w, A, L, C', hM', fun hn => absurd ⟨m, v1, k0, k1, k2, k3⟩ hn, fun m' v1' k0' k1' k2' k3'  => ?_⟩
  obtain rfl : m = m' := (nI_eq (by omega) (by omega)).mp (k2.symm.trans k2')
  obtain rfl : v1 = v1' := (nI_eq (by omega) (by omega)).mp (k3.symm.trans k3')
  exact h2 _ _ _ _ (LJ.fin hC' hg (by omega) (by omega) sup_same hI.a1)
theorem pr_year {X n0 z0 : Nat} (x : Int32) : PRi X n0 z0 sp_X11_year sp_X12_year [.int x] := by
  intro k C n z Q1 Q2 hJ h1 h2
  have hJ0 := hJ
  obtain ⟨g, σ, w, A, L, hM, hC, hg, b1, b2, hI⟩ := hJ
  obtain ⟨ch, hG⟩ := hC.sg
  have hs := hG.2.2.2.1
  have hs7 := hG.2.2.2.2.1
  have hMS := MS_of hC hI
  obtain ⟨yy, hy, hy6⟩ := hG.2.2.1.2.2.1
  refine ⟨X, g, A 1, yy, rfl, hC, hy6, hy, fun hn => h1 _ C n z (isR_of hM) ⟨σ, w, A, L, C, g.2.2.2.1, g.2.2.2.2, yy, hM, hMS, hy6, hy, fun _ => h2 _ _ _ _ hJ0.id, fun m k0 k1 k2 k3 => absurd ⟨m, k0, k1, k2, k3⟩ hn⟩, fun m k0 k1 k2 k3 C' n' z' hC' hF => ?_⟩
  have hM' := FR.mc hF hg hM
  refine h1 _ C' n' z' (isR_of hM') ⟨σ, w, A, L, C', g.2.2.2.1, g.2.2.2.2, yy, hM', hMS, hy6, hy, fun hn => absurd ⟨m, k0, k1, k2, k3⟩ hn, fun m' k0' k1' k2' k3' σ' A' L' hO hA => ?_⟩
  obtain rfl : m = m' := (nI_eq (by omega) (by omega)).mp (k2.symm.trans k2')
  exact h2 _ _ _ _ (LJ.mf hC' hg b1 b2 hI hO hA)
theorem pr_ages {X n0 z0 : Nat} (x y : Int32) : PRi X n0 z0 sp_X11_ages sp_X12_ages [.int x, .int y] := by
  intro k C n z Q1 Q2 hJ h1 h2
  have hJ0 := hJ
  obtain ⟨g, σ, w, A, L, hM, hC, hg, b1, b2, hI⟩ := hJ
  obtain ⟨ch, hG⟩ := hC.sg
  have hs := hG.2.2.2.1
  have hs7 := hG.2.2.2.2.1
  have hMS := MS_of hC hI
  obtain ⟨s, h3, hs3⟩ := hC.st3
  refine ⟨X, g, A 1, s, rfl, hC, h3, hs3, fun hn => h1 _ C n z (isR_of hM) ⟨σ, w, A, L, C, g.2.2.2.1, g.2.2.2.2, s, hM, hMS, h3, hs3, fun _ => h2 _ _ _ _ hJ0.id, fun sd m k0 k1 k2 k3 k4 => absurd ⟨sd, m, k0, k1, k2, k3, k4⟩ hn⟩, fun sd m k0 k1 k2 k3 k4 C' n' z' hC' hF => ?_⟩
  have hM' := FR.mc hF hg hM
  refine h1 _ C' n' z' (isR_of hM') ⟨σ, w, A, L, C', g.2.2.2.1, g.2.2.2.2, s, hM', hMS, h3, hs3, fun hn => absurd ⟨sd, m, k0, k1, k2, k3, k4⟩ hn, fun sd' m' k0' k1' k2' k3' k4' σ' A' L' hO hA => ?_⟩
  obtain rfl : sd = sd' := (nI_eq (by omega) (by omega)).mp (k3.symm.trans k3')
  obtain rfl : m = m' := (nI_eq (by omega) (by omega)).mp (k4.symm.trans k4')
  rw [hA]
  exact h2 _ _ _ _ (LJ.mf hC' hg b1 b2 hI hO hA)
