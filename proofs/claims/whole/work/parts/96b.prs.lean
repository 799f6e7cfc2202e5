/-! pairs: simple methods -/
theorem nIm {f : Nat} (h : f < 100000) : ¬ -nI 1 = nI f := fun e => by
  have e2 := congrArg Int32.toInt e
  rw [nI_toInt (by omega)] at e2
  have h2 : (-nI 1).toInt = -1 := by decide
  omega
theorem pr_paint {X n0 z0 : Nat} (u v : Int32) : PRi X n0 z0 sp_X11_paint sp_X12_paint [.int u, .int v] := by
  intro k C n z Q1 Q2 hJ h1 h2
  have hJ0 := hJ
  obtain ⟨g, σ, w, A, L, hM, hC, hg, b1, b2, hI⟩ := hJ
  obtain ⟨s, hs, hs30⟩ := hC.st3
  refine ⟨X, g, A 1, s, rfl, hC, hs, hs30, fun hn => ?_, fun p q hp hq e1 e2 C' hC' hF => ?_⟩
  · exact h1 _ C n z (isR_of hM) ⟨σ, w, A, L, C, s, hM, hs, hs30, fun _ => h2 _ _ _ _ hJ0.id, fun p q hp hq e1 e2 => absurd ⟨p, q, hp, hq, e1, e2⟩ hn⟩
  · have hM' := FR.mc hF hg hM
    refine h1 _ C' n z (isR_of hM') ⟨σ, w, A, L, C', s, hM', hs, hs30, fun hn => absurd ⟨p, q, hp, hq, e1, e2⟩ hn, fun p' q' hp' hq' e1' e2' => ?_⟩
    obtain rfl : p = p' := (nI_eq (by omega) (by omega)).mp (e1.symm.trans e1')
    obtain rfl : q = q' := (nI_eq (by omega) (by omega)).mp (e2.symm.trans e2')
    exact h2 _ _ _ _ (LJ.fin hC' hg (by omega) (by omega) sup_same hI.a1)
theorem pr_add {X n0 z0 : Nat} (u : Int32) : PRi X n0 z0 sp_X11_add sp_X12_add [.int u] := by
  intro k C n z Q1 Q2 hJ h1 h2
  have hJ0 := hJ
  obtain ⟨g, σ, w, A, L, hM, hC, hg, b1, b2, hI⟩ := hJ
  obtain ⟨s, hs, hs30⟩ := hC.st3
  refine ⟨X, g, A 1, s, rfl, hC, hs, hs30, fun hn => ?_, fun p hp e1 e2 C' n' z' hC' hF => ?_⟩
  · exact h1 _ C n z (isR_of hM) ⟨σ, w, A, L, C, s, hM, hs, hs30, fun _ => h2 _ _ _ _ hJ0.id, fun p hp e1 e2 => absurd ⟨p, hp, e1, e2⟩ hn⟩
  · have hM' := FR.mc hF hg hM
    refine h1 _ C' n' z' (isR_of hM') ⟨σ, w, A, L, C', s, hM', hs, hs30, fun hn => absurd ⟨p, hp, e1, e2⟩ hn, fun p' hp' e1' e2' => ?_⟩
    obtain rfl : p = p' := (nI_eq (by omega) (by omega)).mp (e1.symm.trans e1')
    exact h2 _ _ _ _ (LJ.fin hC' hg (by omega) (by omega) sup_same hI.a1)
theorem pr_of {X n0 z0 : Nat} (u v : Int32) : PRi X n0 z0 sp_X11_of sp_X12_of [.int u, .int v] := by
  intro k C n z Q1 Q2 hJ h1 h2
  have hJ0 := hJ
  obtain ⟨g, σ, w, A, L, hM, hC, hg, b1, b2, hI⟩ := hJ
  obtain ⟨ch, hG⟩ := hC.sg
  have hs := hG.2.2.2.1
  have hs7 := hG.2.2.2.2.1
  refine ⟨X, g, A 1, ch, rfl, hC, hs, hs7, fun hn => h1 _ C n z (isR_of hM) ⟨σ, w, A, L, C, ch, hM, hs, hs7, fun _ => h2 _ _ _ _ hJ0.id, fun c hc e => absurd ⟨c, hc, e⟩ hn⟩, fun c hc e => h1 _ C n z (isR_of hM) ⟨σ, w, A, L, C, ch, hM, hs, hs7, fun hn => absurd ⟨c, hc, e⟩ hn, fun c' hc' e' => ?_⟩⟩
  obtain rfl : c = c' := (nI_eq (by omega) (by omega)).mp (e.symm.trans e')
  exact h2 _ _ _ _ hJ0.id
theorem pr_is {X n0 z0 : Nat} (u : Int32) : PRi X n0 z0 sp_X11_is sp_X12_is [.int u] := by
  intro k C n z Q1 Q2 hJ h1 h2
  have hJ0 := hJ
  obtain ⟨g, σ, w, A, L, hM, hC, hg, b1, b2, hI⟩ := hJ
  obtain ⟨ch, hG⟩ := hC.sg
  have hs := hG.2.2.2.1
  have hs7 := hG.2.2.2.2.1
  exact ⟨X, g, A 1, ch, rfl, hC, hs, hs7, h1 _ C n z (isR_of hM) ⟨σ, w, A, L, C, ch, hM, hs, hs7, h2 _ _ _ _ hJ0.id⟩⟩
theorem pr_book {X n0 z0 : Nat} (u v : Int32) : PRi X n0 z0 sp_X11_book sp_X12_book [.int u, .int v] := by
  intro k C n z Q1 Q2 hJ h1 h2
  have hJ0 := hJ
  obtain ⟨g, σ, w, A, L, hM, hC, hg, b1, b2, hI⟩ := hJ
  obtain ⟨ch, hG⟩ := hC.sg
  have hs := hG.2.2.2.1
  have hs7 := hG.2.2.2.2.1
  obtain ⟨b, hb, hb8⟩ := hG.2.2.1.2.2.2.2.1
  refine ⟨X, g, A 1, b, rfl, hC, hb8, hb, fun e => h1 _ C n z (isR_of hM) ⟨σ, w, A, L, C, b, hM, hb8, hb, fun _ => h2 _ _ _ _ hJ0.id, fun i k hi hk e1 e2 => absurd (e.symm.trans e1) (nIm (by omega)), fun hn => absurd e hn⟩, fun i k hi hk e1 e2 => h1 _ C n z (isR_of hM) ⟨σ, w, A, L, C, b, hM, hb8, hb, fun e => absurd (e.symm.trans e1) (nIm (by omega)), fun i' k' hi' hk' e1' e2' => ?_, fun _ hn => absurd ⟨i, k, hi, hk, e1, e2⟩ hn⟩, fun e hn => h1 _ C n z (isR_of hM) ⟨σ, w, A, L, C, b, hM, hb8, hb, fun q => absurd q e, fun i k hi hk e1 e2 => absurd ⟨i, k, hi, hk, e1, e2⟩ hn, fun _ _ => h2 _ _ _ _ hJ0.id⟩⟩
  obtain rfl : i = i' := (nI_eq (by omega) (by omega)).mp (e1.symm.trans e1')
  obtain rfl : k = k' := (nI_eq (by omega) (by omega)).mp (e2.symm.trans e2')
  exact h2 _ _ _ _ hJ0.id
theorem pr_by {X n0 z0 : Nat} (u : Int32) : PRi X n0 z0 sp_X11_by sp_X12_by [.int u] := by
  intro k C n z Q1 Q2 hJ h1 h2
  have hJ0 := hJ
  obtain ⟨g, σ, w, A, L, hM, hC, hg, b1, b2, hI⟩ := hJ
  obtain ⟨ch, hG⟩ := hC.sg
  have hs := hG.2.2.2.1
  have hs7 := hG.2.2.2.2.1
  refine ⟨X, g, A 1, rfl, hC, fun t ht e C' hC' hF => ?_, fun hn => h1 _ C n z (isR_of hM) ⟨σ, w, A, L, C, g.2.2.2.2, hM, hG.1, hG.2.1.1, fun t ht e => absurd ⟨t, ht, e⟩ hn, fun _ => h2 _ _ _ _ hJ0.id⟩⟩
  have hM' := FR.mc hF hg hM
  exact h1 _ C' n z (isR_of hM') ⟨σ, w, A, L, C', g.2.2.2.2, hM', hG.1, hG.2.1.1, fun t' ht' e' => h2 _ _ _ _ (LJ.fin hC' hg (by omega) (by omega) sup_same hI.a1), fun hn => absurd ⟨t, ht, e⟩ hn⟩
theorem MI.s4 {g : Gh} {σ : Nat → Int32} {A : Nat → Nat → Int32} {j : Nat} (h : MI g σ A) : MI (g.1, g.2.1, (g.2.2.1.1, j, g.2.2.1.2.2), g.2.2.2) (sup σ 4 (nI j)) A := by
  obtain ⟨i1, i2, i3, i4, i5, i6, i7, i8⟩ := h
  exact ⟨i1, i2, sup_same, by rw [sup_ne (by decide)]; exact i4, by rw [sup_ne (by decide)]; exact i5, i6, i7, by rw [sup_ne (by decide)]; exact i8⟩
theorem pr_end {X n0 z0 : Nat} (u : Int32) : PRi X n0 z0 sp_X11_end sp_X12_end [.int u] := by
  intro k C n z Q1 Q2 hJ h1 h2
  have hJ0 := hJ
  obtain ⟨g, σ, w, A, L, hM, hC, hg, b1, b2, hI⟩ := hJ
  have hl := hC.len
  refine ⟨X, g, A 1, rfl, hC, fun j hj e C' hC' hF => ?_, fun hn => h1 _ C n z (isR_of hM) ⟨σ, w, A, L, C, g.2.2.1.2.1, hM, hI.2.2.1, hl, fun j hj e => absurd ⟨j, hj, e⟩ hn, fun _ => h2 _ _ _ _ hJ0.id⟩⟩
  have hM' := FR.mc hF hg hM
  subst e
  exact h1 _ C' n z (isR_of hM') ⟨σ, w, A, L, C', g.2.2.1.2.1, hM', hI.2.2.1, hl, fun j' hj' e' => h2 _ _ _ _ (LJ.fin hC' hg (show g.1.2.1 ≤ n0 + 400 + 5 * (k + 1) by omega) (show g.1.2.2 ≤ z0 + 60000 + 3700 * (k + 1) by omega) rfl hI.s4), fun hn => absurd ⟨j, hj, rfl⟩ hn⟩
theorem pr_visits {X n0 z0 : Nat} (u v : Int32) : PRi X n0 z0 sp_X11_visits sp_X12_visits [.int u, .int v] := by
  intro k C n z Q1 Q2 hJ h1 h2
  have hJ0 := hJ
  obtain ⟨g, σ, w, A, L, hM, hC, hg, b1, b2, hI⟩ := hJ
  obtain ⟨ch, hG⟩ := hC.sg
  have hs := hG.2.2.2.1
  have hs7 := hG.2.2.2.2.1
  have hst : ∀ c, c < 7 → ∃ k, k < 10 ∧ A 1 (76 + c) = nI k := fun c hc => (hG.2.2.1.2.2.2.2.2.2.2 c hc).1
  refine ⟨X, g, A 1, ch, rfl, hC, hs, hs7, fun hn => h1 _ C n z (isR_of hM) ⟨σ, w, A, L, C, ch, hM, hs, hs7, hst, fun _ => h2 _ _ _ _ hJ0.id, fun c p q hc hp hq e0 e1 e2 => absurd ⟨c, p, hc, hp, e1, e2⟩ hn⟩, fun c p q hc hp hq e0 e1 e2 => h1 _ C n z (isR_of hM) ⟨σ, w, A, L, C, ch, hM, hs, hs7, hst, fun hn => absurd ⟨c, p, hc, hp, e1, e2⟩ hn, fun c' p' q' hc' hp' hq' e0' e1' e2' => ?_⟩⟩
  obtain rfl : c = c' := (nI_eq (by omega) (by omega)).mp (e1.symm.trans e1')
  obtain rfl : p = p' := (nI_eq (by omega) (by omega)).mp (e2.symm.trans e2')
  obtain rfl : q = q' := (nI_eq (by omega) (by omega)).mp (e0.symm.trans e0')
  exact h2 _ _ _ _ hJ0.id
theorem pr_about {X n0 z0 : Nat} (u : Int32) : PRi X n0 z0 sp_X11_about sp_X12_about [.int u] := by
  intro k C n z Q1 Q2 hJ h1 h2
  have hJ0 := hJ
  obtain ⟨g, σ, w, A, L, hM, hC, hg, b1, b2, hI⟩ := hJ
  refine ⟨X, g, A 1, rfl, hC, fun j hj e => h1 _ C n z (isR_of hM) ⟨σ, w, A, L, C, hM, fun j' hj' e' => ?_, fun e' => ?_, fun hn => absurd ⟨j, by omega, e⟩ hn⟩, fun e => ?_, fun hn => h1 _ C n z (isR_of hM) ⟨σ, w, A, L, C, hM, fun j hj e => absurd ⟨j, by omega, e⟩ hn, fun e => absurd ⟨6, by omega, e⟩ hn, fun _ => h2 _ _ _ _ hJ0.id⟩⟩
  · obtain rfl : j = j' := (nI_eq (by omega) (by omega)).mp (e.symm.trans e')
    exact h2 _ _ _ _ hJ0.id
  · have := (nI_eq (by omega) (by omega)).mp (e.symm.trans e')
    omega
  · rw [← hI.2.2.1]
    exact h1 _ C n z (isR_of hM) ⟨σ, w, A, L, C, hM, fun j hj e' => absurd ((nI_eq (by omega) (by omega)).mp (e.symm.trans e')) (by omega), fun _ => h2 _ _ _ _ hJ0.id, fun hn => absurd ⟨6, by omega, e⟩ hn⟩
theorem pr_tell {X n0 z0 : Nat} (x y u : Int32) : PRi X n0 z0 sp_X11_tell sp_X12_tell [.int x, .int y, .int u] := by
  intro k C n z Q1 Q2 hJ h1 h2
  have hJ0 := hJ
  obtain ⟨g, σ, w, A, L, hM, hC, hg, b1, b2, hI⟩ := hJ
  obtain ⟨ch, hG⟩ := hC.sg
  have hs := hG.2.2.2.1
  have hs7 := hG.2.2.2.2.1
  obtain ⟨q, hq0⟩ := hG.2.2.2.2.2.2.1
  have hq : A 1 4 = nI q ∧ q ≤ 6 := ⟨hq0.1, hq0.2.1⟩
  refine ⟨X, g, A 1, q, rfl, hC, hq.1, hq.2, fun e C' hC' hF => ?_, fun f m b k0 k1 k2 k3 k4 k5 k6 k7 C' hC' hF => ?_, fun e hn => h1 _ C n z (isR_of hM) ⟨σ, w, A, L, C, q, hM, hq.1, hq.2, fun q => absurd q e, fun f m b k0 k1 k2 k3 k4 k5 k6 k7 => absurd ⟨f, m, b, k0, k1, k2, k3, k4, k5, k6, k7⟩ hn, fun _ _ => h2 _ _ _ _ hJ0.id⟩⟩
  · have hM' := FR.mc hF hg hM
    exact h1 _ C' n z (isR_of hM') ⟨σ, w, A, L, C', q, hM', hq.1, hq.2, fun _ => h2 _ _ _ _ (LJ.fin hC' hg (by omega) (by omega) sup_same hI.a1), fun f m b k0 k1 k2 k3 k4 k5 k6 k7 => absurd (e.symm.trans k5) (nIm (by omega)), fun hn => absurd e hn⟩
  · have hM' := FR.mc hF hg hM
    exact h1 _ C' n z (isR_of hM') ⟨σ, w, A, L, C', q, hM', hq.1, hq.2, fun e => absurd (e.symm.trans k5) (nIm (by omega)), fun f' m' b' k0' k1' k2' k3' k4' k5' k6' k7' => h2 _ _ _ _ (LJ.fin hC' hg (by omega) (by omega) sup_same hI.a1), fun _ hn => absurd ⟨f, m, b, k0, k1, k2, k3, k4, k5, k6, k7⟩ hn⟩
theorem pr_said {X n0 z0 : Nat} (x y u : Int32) : PRi X n0 z0 sp_X11_said sp_X12_said [.int x, .int y, .int u] := by
  intro k C n z Q1 Q2 hJ h1 h2
  have hJ0 := hJ
  obtain ⟨g, σ, w, A, L, hM, hC, hg, b1, b2, hI⟩ := hJ
  obtain ⟨ch, hG⟩ := hC.sg
  have hs := hG.2.2.2.1
  have hs7 := hG.2.2.2.2.1
  obtain ⟨q, hq0⟩ := hG.2.2.2.2.2.2.2.1
  have hq : A 1 5 = nI q ∧ q ≤ 8 := ⟨hq0.1.1, hq0.1.2.1⟩
  refine ⟨X, g, A 1, q, ch, rfl, hC, hq.1, hq.2, hs, hs7, fun e C' hC' hF => ?_, fun c p b k0 k1 k2 k3 k4 k5 k6 C' hC' hF => ?_, fun e hn => h1 _ C n z (isR_of hM) ⟨σ, w, A, L, C, q, ch, hM, hq.1, hq.2, hs, hs7, fun q => absurd q e, fun c p b k0 k1 k2 k3 k4 k5 k6 => absurd ⟨c, p, b, k0, k1, k2, k3, k4, k5, k6⟩ hn, fun _ _ => h2 _ _ _ _ hJ0.id⟩⟩
  · have hM' := FR.mc hF hg hM
    exact h1 _ C' n z (isR_of hM') ⟨σ, w, A, L, C', q, ch, hM', hq.1, hq.2, hs, hs7, fun _ => h2 _ _ _ _ (LJ.fin hC' hg (by omega) (by omega) sup_same hI.a1), fun c p b k0 k1 k2 k3 k4 k5 k6 => absurd (e.symm.trans k4) (nIm (by omega)), fun hn => absurd e hn⟩
  · have hM' := FR.mc hF hg hM
    exact h1 _ C' n z (isR_of hM') ⟨σ, w, A, L, C', q, ch, hM', hq.1, hq.2, hs, hs7, fun e => absurd (e.symm.trans k4) (nIm (by omega)), fun c' p' b' k0' k1' k2' k3' k4' k5' k6' => h2 _ _ _ _ (LJ.fin hC' hg (by omega) (by omega) sup_same hI.a1), fun _ hn => absurd ⟨c, p, b, k0, k1, k2, k3, k4, k5, k6⟩ hn⟩
