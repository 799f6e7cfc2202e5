/-! pairs: the ring and the rest -/
section PRD
variable {X : Nat} {σ : Nat → Int32} {w : Int64} {A : Nat → Nat → Int32} {L : Nat → Nat → Int64} {C : gC}
theorem rg_1 (h : C = menc (X + 56) σ w A L C) : garr C (X + 56 + 1) = A 1 := (congrArg (fun c => garr c (X + 56 + 1)) h).trans ma_1
theorem rg_2 (h : C = menc (X + 56) σ w A L C) : garr C (X + 56 + 2) = A 2 := (congrArg (fun c => garr c (X + 56 + 2)) h).trans ma_2
theorem rg_k (h : C = menc (X + 56) σ w A L C) : mKd C (X + 56) = fun j => A 1 (9 + j) := by unfold mKd; rw [rg_1 h]
theorem rg_p (h : C = menc (X + 56) σ w A L C) : mPd C (X + 56) = fun j => A 1 (39 + j) := by unfold mPd; rw [rg_1 h]
theorem rg_i (h : C = menc (X + 56) σ w A L C) : mIm C (X + 56) = fun j => A 2 (9 + j) := by unfold mIm; rw [rg_2 h]
theorem rg_n (h : C = menc (X + 56) σ w A L C) : mNum C (X + 56) = fun j => A 1 (69 + j) := by unfold mNum; rw [rg_1 h]
theorem rg_u {v : Nat → Int32} (h : C = menc (X + 56) σ w A L C) : gup C (X + 56 + 1) (.inl (0, 3205, .inl v)) = menc (X + 56) σ w (sup A 1 v) L C := (congrArg (fun c => gup c (X + 56 + 1) (.inl (0, 3205, .inl v))) h).trans mu_1
end PRD
theorem pr_least {X n0 z0 : Nat} : PRi X n0 z0 sp_X11_least sp_X12_least [] := by
  intro k C n z Q1 Q2 hJ h1 h2
  have hJ0 := hJ
  obtain ⟨g, σ, w, A, L, hM, hC, hg, b1, b2, hI⟩ := hJ
  exact ⟨X, g, A 1, rfl, hC, h1 _ C n z (isR_of hM) ⟨⟨σ, w, A, L, C, hM⟩, by rw [rg_k hM]; exact h2 _ _ _ _ hJ0.id⟩⟩
theorem pr_mirrors {X n0 z0 : Nat} : PRi X n0 z0 sp_X11_mirrors sp_X12_mirrors [] := by
  intro k C n z Q1 Q2 hJ h1 h2
  have hJ0 := hJ
  obtain ⟨g, σ, w, A, L, hM, hC, hg, b1, b2, hI⟩ := hJ
  exact ⟨X, g, A 1, rfl, hC, h1 _ C n z (isR_of hM) ⟨⟨σ, w, A, L, C, hM⟩, by rw [rg_k hM]; exact h2 _ _ _ _ hJ0.id⟩⟩
theorem pr_thickest {X n0 z0 : Nat} : PRi X n0 z0 sp_X11_thickest sp_X12_thickest [] := by
  intro k C n z Q1 Q2 hJ h1 h2
  have hJ0 := hJ
  obtain ⟨g, σ, w, A, L, hM, hC, hg, b1, b2, hI⟩ := hJ
  exact ⟨X, g, A 1, rfl, hC, h1 _ C n z (isR_of hM) ⟨⟨σ, w, A, L, C, hM⟩, by rw [rg_p hM]; exact h2 _ _ _ _ hJ0.id⟩⟩
theorem pr_changed {X n0 z0 : Nat} : PRi X n0 z0 sp_X11_changed sp_X12_changed [] := by
  intro k C n z Q1 Q2 hJ h1 h2
  have hJ0 := hJ
  obtain ⟨g, σ, w, A, L, hM, hC, hg, b1, b2, hI⟩ := hJ
  exact ⟨X, g, A 1, rfl, hC, h1 _ C n z (isR_of hM) ⟨⟨σ, w, A, L, C, hM⟩, by rw [rg_k hM, rg_i hM, hI.1]; exact h2 _ _ _ _ hJ0.id⟩⟩
theorem pr_greatest {X n0 z0 : Nat} : PRi X n0 z0 sp_X11_greatest sp_X12_greatest [] := by
  intro k C n z Q1 Q2 hJ h1 h2
  have hJ0 := hJ
  obtain ⟨g, σ, w, A, L, hM, hC, hg, b1, b2, hI⟩ := hJ
  obtain ⟨ch, hG⟩ := hC.sg
  have hs := hG.2.2.2.1
  have hs7 := hG.2.2.2.2.1
  have hMS := MS_of hC hI
  exact ⟨X, g, A 1, ch, rfl, hC, hs, hs7, h1 _ C n z (isR_of hM) ⟨⟨σ, w, A, L, C, hM⟩, by rw [rg_1 hM, hs]; exact (vin_iff (by omega)).mpr (by omega), by rw [rg_1 hM, rg_n hM, hs, nI_clamp (by omega)]; exact h2 _ _ _ _ hJ0.id⟩⟩
theorem pr_twins {X n0 z0 : Nat} : PRi X n0 z0 sp_X11_twins sp_X12_twins [] := by
  intro k C n z Q1 Q2 hJ h1 h2
  have hJ0 := hJ
  obtain ⟨g, σ, w, A, L, hM, hC, hg, b1, b2, hI⟩ := hJ
  obtain ⟨ch, hG⟩ := hC.sg
  have hs := hG.2.2.2.1
  have hs7 := hG.2.2.2.2.1
  have hMS := MS_of hC hI
  exact ⟨X, g, A 1, ch, rfl, hC, hs, hs7, h1 _ C n z (isR_of hM) ⟨⟨σ, w, A, L, C, hM⟩, by rw [rg_1 hM, hs]; exact (vin_iff (by omega)).mpr (by omega), by rw [rg_1 hM, rg_n hM, hs, nI_clamp (by omega)]; exact h2 _ _ _ _ hJ0.id⟩⟩
theorem pr_odd {X n0 z0 : Nat} : PRi X n0 z0 sp_X11_odd sp_X12_odd [] := by
  intro k C n z Q1 Q2 hJ h1 h2
  have hJ0 := hJ
  obtain ⟨g, σ, w, A, L, hM, hC, hg, b1, b2, hI⟩ := hJ
  obtain ⟨ch, hG⟩ := hC.sg
  have hs := hG.2.2.2.1
  have hs7 := hG.2.2.2.2.1
  have hMS := MS_of hC hI
  exact ⟨X, g, A 1, ch, rfl, hC, hs, hs7, h1 _ C n z (isR_of hM) ⟨⟨σ, w, A, L, C, hM⟩, by rw [rg_1 hM, hs]; exact (vin_iff (by omega)).mpr (by omega), by rw [rg_1 hM, rg_n hM, hs, nI_clamp (by omega)]; exact h2 _ _ _ _ hJ0.id⟩⟩
theorem pr_period {X n0 z0 : Nat} : PRi X n0 z0 sp_X11_period sp_X12_period [] := by
  intro k C n z Q1 Q2 hJ h1 h2
  have hJ0 := hJ
  obtain ⟨g, σ, w, A, L, hM, hC, hg, b1, b2, hI⟩ := hJ
  refine ⟨X, g, A 1, rfl, hC, fun i i1 i2 i3 i4 => h1 _ C n z (isR_of hM) ⟨⟨σ, w, A, L, C, hM⟩, fun j j1 j2 j3 j4 => ?_⟩⟩
  rw [rg_k hM] at j3 j4
  obtain rfl : i = j := by
    rcases Nat.lt_trichotomy i j with q | q | q
    · exact absurd i3 (j4 i i1 q)
    · exact q
    · exact absurd j3 (i4 j j1 q)
  exact h2 _ _ _ _ hJ0.id
theorem pr_could {X n0 z0 : Nat} (x y : Int32) : PRi X n0 z0 sp_X11_could sp_X12_could [.int x, .int y] := by
  intro k C n z Q1 Q2 hJ h1 h2
  have hJ0 := hJ
  obtain ⟨g, σ, w, A, L, hM, hC, hg, b1, b2, hI⟩ := hJ
  obtain ⟨ch, hG⟩ := hC.sg
  have hs := hG.2.2.2.1
  have hs7 := hG.2.2.2.2.1
  have hMS := MS_of hC hI
  obtain ⟨q, hq⟩ := hG.2.2.2.2.2.2.1
  refine ⟨X, g, A 1, q, rfl, hC, hq, fun hn => h1 _ C n z (isR_of hM) ⟨σ, w, A, L, C, q, hM, hq, fun _ => h2 _ _ _ _ hJ0.id, fun e m k0 k1 k2 k3 => absurd ⟨e, m, k0, k1, k2, k3⟩ hn⟩, fun e m k0 k1 k2 k3 C' hC' hF => ?_⟩
  have hM' := FR.mc hF hg hM
  refine h1 _ C' n z (isR_of hM') ⟨σ, w, A, L, C', q, hM', hq, fun hn => absurd ⟨e, m, k0, k1, k2, k3⟩ hn, fun e' m' k0' k1' k2' k3' => ?_⟩
  obtain rfl : e = e' := (nI_eq (by omega) (by omega)).mp (k2.symm.trans k2')
  obtain rfl : m = m' := (nI_eq (by omega) (by omega)).mp (k3.symm.trans k3')
  exact h2 _ _ _ _ ⟨g, σ, w, A, L, hM', hC', hg, by omega, by omega, hI⟩
theorem pr_ask {X n0 z0 : Nat} (x : Int32) : PRi X n0 z0 sp_X11_ask sp_X12_ask [.int x] := by
  intro k C n z Q1 Q2 hJ h1 h2
  have hJ0 := hJ
  obtain ⟨g, σ, w, A, L, hM, hC, hg, b1, b2, hI⟩ := hJ
  obtain ⟨ch, hG⟩ := hC.sg
  have hs := hG.2.2.2.1
  have hs7 := hG.2.2.2.2.1
  have hMS := MS_of hC hI
  obtain ⟨q, hq⟩ := hG.2.2.2.2.2.2.1
  refine ⟨X, g, A 1, q, rfl, hC, hq, fun hn => h1 _ C n z (isR_of hM) ⟨σ, w, A, L, C, q, hM, hq, fun _ => h2 _ _ _ _ hJ0.id, fun e k0 k1 => absurd ⟨e, k0, k1⟩ hn⟩, fun e k0 k1 C' hC' hF => ?_⟩
  have hM' := FR.mc hF hg hM
  refine h1 _ C' n z (isR_of hM') ⟨σ, w, A, L, C', q, hM', hq, fun hn => absurd ⟨e, k0, k1⟩ hn, fun e' k0' k1' A' hA => ?_⟩
  obtain rfl : e = e' := (nI_eq (by omega) (by omega)).mp (k1.symm.trans k1')
  exact h2 _ _ _ _ (LJ.sd hC' hg b1 b2 hI (fun _ _ => rfl) (fun j hj => hA j (by omega) (by omega)) (by rw [hA 6 (by decide) (by decide)]; exact hMS.2.2.1))
theorem pr_whose {X n0 z0 : Nat} : PRi X n0 z0 sp_X11_whose sp_X12_whose [] := by
  intro k C n z Q1 Q2 hJ h1 h2
  have hJ0 := hJ
  obtain ⟨g, σ, w, A, L, hM, hC, hg, b1, b2, hI⟩ := hJ
  obtain ⟨ch, hG⟩ := hC.sg
  have hs := hG.2.2.2.1
  have hs7 := hG.2.2.2.2.1
  have hMS := MS_of hC hI
  obtain ⟨q, hq, -⟩ := hG.2.2.2.2.2.2.2.1
  refine ⟨X, g, A 1, q, rfl, hC, hq, fun C' hC' hF => ?_⟩
  have hM' := FR.mc hF hg hM
  exact h1 _ C' n z (isR_of hM') ⟨σ, w, A, L, C', g.2.2.2.1, g.2.2.2.2, q, hM', hG.1, hMS.1, hMS.2.1.1.sm, hMS.2.2.1, hq, fun A' L' hA => h2 _ _ _ _ (LJ.sd hC' hg b1 b2 hI (fun _ _ => rfl) (fun j hj => hA.1 j (by omega) (by omega)) hA.2.2)⟩
theorem pr_nth {X n0 z0 : Nat} (x y : Int32) : PRi X n0 z0 sp_X11_nth sp_X12_nth [.int x, .int y] := by
  intro k C n z Q1 Q2 hJ h1 h2
  have hJ0 := hJ
  obtain ⟨g, σ, w, A, L, hM, hC, hg, b1, b2, hI⟩ := hJ
  obtain ⟨ch, hG⟩ := hC.sg
  have hs := hG.2.2.2.1
  have hs7 := hG.2.2.2.2.1
  have hMS := MS_of hC hI
  refine ⟨X, g, A 1, rfl, hC, fun hn => h1 _ C n z (isR_of hM) ⟨σ, w, A, L, C, hM, hMS.2.2.1, fun _ => h2 _ _ _ _ hJ0.id, fun p m k0 k1 k2 k3 k4 => absurd ⟨p, m, k0, k1, k2, k3, k4⟩ hn⟩, fun p m k0 k1 k2 k3 k4 => h1 _ C n z (isR_of hM) ⟨σ, w, A, L, C, hM, hMS.2.2.1, fun hn => absurd ⟨p, m, k0, k1, k2, k3, k4⟩ hn, fun p' m' k0' k1' k2' k3' k4' σ' A' hO => ?_⟩⟩
  obtain rfl : p = p' := (nI_eq (by omega) (by omega)).mp (k3.symm.trans k3')
  obtain rfl : m = m' := (nI_eq (by omega) (by omega)).mp (k4.symm.trans k4')
  have e : optI (blA (A 1) p)[m - 1]? = (match (blA (A 1) p)[m - 1]? with
    | some q => nI q
    | none => -nI 1) := by cases (blA (A 1) p)[m - 1]? <;> rfl
  rw [e]
  exact h2 _ _ _ _ (LJ.mo hC hg b1 b2 hI hO)
theorem pr_run {X n0 z0 : Nat} (x y : Int32) : PRi X n0 z0 sp_X11_run sp_X12_run [.int x, .int y] := by
  intro k C n z Q1 Q2 hJ h1 h2
  have hJ0 := hJ
  obtain ⟨g, σ, w, A, L, hM, hC, hg, b1, b2, hI⟩ := hJ
  obtain ⟨ch, hG⟩ := hC.sg
  have hs := hG.2.2.2.1
  have hs7 := hG.2.2.2.2.1
  have hMS := MS_of hC hI
  refine ⟨X, g, A 1, ch, rfl, hC, hs, hs7, fun hn => h1 _ C n z (isR_of hM) ⟨σ, w, A, L, C, g.2.2.2.1, g.2.2.2.2, ch, hM, hMS, hs, hs7, fun _ => h2 _ _ _ _ hJ0.id, fun c p s x7 k0 k1 k2 k3 k4 k5 k6 k7 k8 => absurd ⟨c, p, k0, k1, k2, k3, k4⟩ hn⟩, fun c p s x7 k0 k1 k2 k3 k4 k5 k6 k7 k8 C' n' z' hC' hF => ?_⟩
  have hM' := FR.mc hF hg hM
  refine h1 _ C' n' z' (isR_of hM') ⟨σ, w, A, L, C', g.2.2.2.1, g.2.2.2.2, ch, hM', hMS, hs, hs7, fun hn => absurd ⟨c, p, k0, k1, k2, k3, k4⟩ hn, fun c' p' s' x7' k0' k1' k2' k3' k4' k5' k6' k7' k8' σ' A' L' hO hA => ?_⟩
  obtain rfl : c = c' := (nI_eq (by omega) (by omega)).mp (k2.symm.trans k2')
  obtain rfl : p = p' := (nI_eq (by omega) (by omega)).mp (k3.symm.trans k3')
  obtain rfl : s = s' := (nI_eq (by omega) (by omega)).mp (k5.symm.trans k5')
  obtain rfl : x7 = x7' := (nI_eq (by omega) (by omega)).mp (k7.symm.trans k7')
  rw [hA]
  exact h2 _ _ _ _ (LJ.mf hC' hg b1 b2 hI hO hA)
theorem CW.okr {X n z : Nat} {g : Gh} {a : Nat → Int32} {C : gC} (h : CW X g a C n z) : (∀ t, t < g.2.2.2.2 → ∀ c ∈ g.2.2.2.1 t, okR c) ∧ g.2.1.2 ≤ g.2.2.2.2 ∧ ∀ i, g.2.2.1.1 i < 256 := by
  obtain ⟨σ, ρ, A, P, T, S, hX, hW, hZ⟩ := h
  exact ⟨hZ.2.2.2.1, hZ.2.1, hZ.2.2.2.2.2.2.1⟩
theorem pr_played {X n0 z0 : Nat} (x : Int32) : PRi X n0 z0 sp_X11_played sp_X12_played [.int x] := by
  intro k C n z Q1 Q2 hJ h1 h2
  have hJ0 := hJ
  obtain ⟨g, σ, w, A, L, hM, hC, hg, b1, b2, hI⟩ := hJ
  obtain ⟨ch, hG⟩ := hC.sg
  have hs := hG.2.2.2.1
  have hs7 := hG.2.2.2.2.1
  have hMS := MS_of hC hI
  have hN4 := hG.2.1.1
  refine ⟨X, g, A 1, rfl, hC, fun hn => h1 _ C n z (isR_of hM) ⟨σ, w, A, L, C, g.2.2.2.1, g.2.2.2.2, hM, hMS, hG.1, hC.okr.1, fun _ => h2 _ _ _ _ hJ0.id, fun t k0 k1 => absurd ⟨t, k0, k1⟩ hn⟩, fun t k0 k1 C' n' z' hC' hF => ?_⟩
  have hM' := FR.mc hF hg hM
  refine h1 _ C' n' z' (isR_of hM') ⟨σ, w, A, L, C', g.2.2.2.1, g.2.2.2.2, hM', hMS, hG.1, hC.okr.1, fun hn => absurd ⟨t, k0, k1⟩ hn, fun t' k0' k1' σ' A' L' hO hA => ?_⟩
  obtain rfl : t = t' := (nI_eq (by omega) (by omega)).mp (k1.symm.trans k1')
  exact h2 _ _ _ _ (LJ.mf hC' hg b1 b2 hI hO hA)
theorem pr_image {X n0 z0 : Nat} : PRi X n0 z0 sp_X11_image sp_X12_image [] := by
  intro k C n z Q1 Q2 hJ h1 h2
  have hJ0 := hJ
  obtain ⟨g, σ, w, A, L, hM, hC, hg, b1, b2, hI⟩ := hJ
  refine ⟨X, g, A 1, cpF (A 1) (A 2), rfl, hC, fun j hj => if_pos hj, fun C' n' z' hC' hF => ?_⟩
  have hM' := FR.mc hF hg hM
  refine h1 _ C' n' z' (isR_of hM') ⟨σ, w, A, L, C', hM', h2 _ _ _ _ (LJ.fin hC' hg (show g.1.2.1 ≤ n0 + 400 + 5 * (k + 1) by omega) (show g.1.2.2 ≤ z0 + 60000 + 3700 * (k + 1) by omega) (sup_ne (by decide)) ?_)⟩
  obtain ⟨i1, i2, i3, i4, i5, i6, i7, i8⟩ := hI
  exact ⟨sup_same, by rw [sup_ne (by decide)]; exact i2, i3, i4, i5, by rw [sup_ne (by decide)]; exact i6, by rw [sup_ne (by decide)]; exact i7, i8⟩
theorem pr_back {X n0 z0 : Nat} : PRi X n0 z0 sp_X11_back sp_X12_back [] := by
  intro k C n z Q1 Q2 hJ h1 h2
  have hJ0 := hJ
  obtain ⟨g, σ, w, A, L, hM, hC, hg, b1, b2, hI⟩ := hJ
  have hok := hC.okr
  refine ⟨X, g, A 1, cpF (A 2) (A 1), rfl, hC, fun j hj => by rw [← hI.1]; exact if_pos hj, fun C' n' z' hC' hF => ?_⟩
  have hM' := FR.mc hF hg hM
  have e6 : cpF (A 2) (A 1) 6 = A 2 6 := if_pos (by decide)
  rw [e6]
  refine h1 _ C' n' z' (isR_of hM') ⟨σ, w, A, L, C', hM', h2 _ _ _ _ (LJ.fin hC' hg (show g.1.2.1 ≤ n0 + 400 + 5 * (k + 1) by omega) (show g.1.2.2 ≤ z0 + 60000 + 3700 * (k + 1) by omega) sup_same ?_)⟩
  obtain ⟨i1, i2, i3, i4, i5, i6, i7, i8⟩ := hI
  exact ⟨by rw [sup_ne (by decide)]; exact i1, by rw [sup_ne (by decide)]; exact i2, i3, i4, i5, by rw [sup_ne (by decide)]; exact ⟨by have := i6.1; have := hok.2.1; show g.2.1.2 ≤ 4; omega, fun t ht => i6.2 t (Nat.lt_of_lt_of_le ht hok.2.1)⟩, by rw [sup_ne (by decide)]; exact i7, i8⟩
theorem pr_undo {X n0 z0 : Nat} : PRi X n0 z0 sp_X11_undo sp_X12_undo [] := by
  intro k C n z Q1 Q2 hJ h1 h2
  have hJ0 := hJ
  obtain ⟨g, σ, w, A, L, hM, hC, hg, b1, b2, hI⟩ := hJ
  obtain ⟨ch, hG⟩ := hC.sg
  have hs := hG.2.2.2.1
  have hs7 := hG.2.2.2.2.1
  have hMS := MS_of hC hI
  obtain ⟨s, h3, hs3⟩ := hC.st3
  refine ⟨X, g, A 1, s, rfl, hC, h3, hs3, fun e => h1 _ C n z (isR_of hM) ⟨⟨σ, w, A, L, C, hM⟩, fun _ => h2 _ _ _ _ hJ0.id, fun hn => absurd (by rw [rg_1 hM, h3, e]) hn⟩, fun s' e C' hC' hF => ?_⟩
  have hM' := FR.mc hF hg hM
  obtain ⟨kk, q1, q2, q3⟩ := hG.2.2.2.2.2.2.2.2
  have hkk : kk = s := (nI_eq (by omega) (by omega)).mp (q2.symm.trans h3)
  obtain ⟨-, c0, hc0, hcc⟩ := q3 s' (by omega)
  refine h1 _ C' n z (isR_of hM') ⟨⟨σ, w, A, L, C', hM'⟩, fun e0 => ?_, fun _ => ⟨s', by omega, by rw [rg_1 hM', h3, e], by rw [rg_1 hM', hs]; exact (vin_iff (by omega)).mpr (by omega), by rw [rg_1 hM', hcc]; exact (vin_iff (by omega)).mpr (by omega), ?_⟩⟩
  · rw [rg_1 hM', h3, nI_eq (by omega) (by omega)] at e0
    omega
  · rw [rg_u hM', rg_1 hM']
    exact h2 _ _ _ _ (LJ.fin hC' hg (by omega) (by omega) sup_same hI.a1)
