/-! class and reference side by side -/
section LJS
variable {X m n0 z0 k n z n' z' : Nat} {σ σ' : Nat → Int32} {w w' : Int64} {A A' : Nat → Nat → Int32} {L L' : Nat → Nat → Int64} {C C1 R R' : gC} {g : Gh} {a : Nat → Int32}
theorem mc_in {q : Nat} (h1 : m ≤ q) (h2 : q < m + 15) : menc m σ w A L R q = menc m σ w A L R' q := by
  obtain ⟨i, hi, rfl⟩ : ∃ i, i < 15 ∧ q = m + i := ⟨q - m, by omega, by omega⟩
  have : i = 0 ∨ i = 1 ∨ i = 2 ∨ i = 3 ∨ i = 4 ∨ i = 5 ∨ i = 6 ∨ i = 7 ∨ i = 8 ∨ i = 9 ∨ i = 10 ∨ i = 11 ∨ i = 12 ∨ i = 13 ∨ i = 14 := by omega
  rcases this with rfl | rfl | rfl | rfl | rfl | rfl | rfl | rfl | rfl | rfl | rfl | rfl | rfl | rfl | rfl
  · exact (menc_0 (R := R)).trans (menc_0 (R := R')).symm
  · exact (menc_1 (R := R)).trans (menc_1 (R := R')).symm
  · exact (menc_2 (R := R)).trans (menc_2 (R := R')).symm
  · exact (menc_3 (R := R)).trans (menc_3 (R := R')).symm
  · exact (menc_4 (R := R)).trans (menc_4 (R := R')).symm
  · exact (menc_5 (R := R)).trans (menc_5 (R := R')).symm
  · exact (menc_6 (R := R)).trans (menc_6 (R := R')).symm
  · exact (menc_7 (R := R)).trans (menc_7 (R := R')).symm
  · exact (menc_8 (R := R)).trans (menc_8 (R := R')).symm
  · exact (menc_9 (R := R)).trans (menc_9 (R := R')).symm
  · exact (menc_10 (R := R)).trans (menc_10 (R := R')).symm
  · exact (menc_11 (R := R)).trans (menc_11 (R := R')).symm
  · exact (menc_12 (R := R)).trans (menc_12 (R := R')).symm
  · exact (menc_13 (R := R)).trans (menc_13 (R := R')).symm
  · exact (menc_14 (R := R)).trans (menc_14 (R := R')).symm
theorem mc_out {q : Nat} (h : q < m ∨ m + 15 ≤ q) : menc m σ w A L R q = R q := by
  unfold menc
  rw [if_neg (by omega), if_neg (by omega), if_neg (by omega), if_neg (by omega), if_neg (by omega), if_neg (by omega), if_neg (by omega), if_neg (by omega), if_neg (by omega), if_neg (by omega), if_neg (by omega), if_neg (by omega), if_neg (by omega), if_neg (by omega), if_neg (by omega)]
theorem mc_fr (h : C = menc m σ w A L C) (hF : ∀ q, m ≤ q → q < m + 15 → C1 q = C q) : C1 = menc m σ w A L C1 := by
  funext q
  by_cases e : m ≤ q ∧ q < m + 15
  · rw [hF q e.1 e.2, mc_in (R' := C) e.1 e.2, ← h]
  · rw [mc_out (by omega)]
theorem mc_self : menc m σ w A L R = menc m σ w A L (menc m σ w A L R) := by
  funext q
  by_cases e : m ≤ q ∧ q < m + 15
  · exact mc_in e.1 e.2
  · rw [mc_out (R := menc m σ w A L R) (by omega)]
theorem CW.mm (h : CW X g a C n z) (hg : g.1.1 = X + 71) (e : ∀ q, q < X + 56 ∨ X + 71 ≤ q → C1 q = C q) : CW X g a C1 n z := by
  obtain ⟨σ, ρ, A, P, T, S, ⟨x1, x2, x3, x4, x5, x6⟩, hW, ⟨i1, h3, h4, h5, h6, h7⟩⟩ := h
  exact ⟨σ, ρ, A, P, T, S, ⟨fun k hk => (e _ (by omega)).trans (x1 k hk), RwS_same x2 fun q q1 q2 => e q (by omega), x3, x4, x5, x6⟩, hW, ⟨i1, h3, h4.k rfl fun q hq => ⟨hq, e q (.inr (by have := hq.1; omega))⟩, h5, h6, h7⟩⟩
def MI (g : Gh) (σ : Nat → Int32) (A : Nat → Nat → Int32) : Prop := A 2 = g.2.1.1 ∧ A 4 = (fun k => nI (g.2.2.1.1 k)) ∧ σ 4 = nI g.2.2.1.2.1 ∧ σ 5 = g.2.2.1.2.2.1 ∧ σ 6 = g.2.2.1.2.2.2.1 ∧ TXS (A 3) g.2.2.2.1 g.2.2.2.2 ∧ NS (A 6) ∧ σ 23 = nI 1
def LJ (X n0 z0 k : Nat) (C : gC) (n z : Nat) : Prop := ∃ g σ w A L, C = menc (X + 56) σ w A L C ∧ CW X g (A 1) C n z ∧ g.1.1 = X + 71 ∧ g.1.2.1 ≤ n0 + 400 + 5 * k ∧ g.1.2.2 ≤ z0 + 60000 + 3700 * k ∧ MI g σ A
theorem LJ.id (h : LJ X n0 z0 k C n z) : LJ X n0 z0 (k + 1) C n z := by
  obtain ⟨g, σ, w, A, L, h1, h2, h3, h4, h5, h6⟩ := h
  exact ⟨g, σ, w, A, L, h1, h2, h3, by omega, by omega, h6⟩
theorem LJ.fin (h : CW X g a C n z) (hg : g.1.1 = X + 71) (b1 : g.1.2.1 ≤ n0 + 400 + 5 * (k + 1)) (b2 : g.1.2.2 ≤ z0 + 60000 + 3700 * (k + 1)) (ha : A 1 = a) (hI : MI g σ A) : LJ X n0 z0 (k + 1) (menc (X + 56) σ w A L C) n z := ⟨g, σ, w, A, L, mc_self, by rw [ha]; exact h.mm hg fun q hq => mc_out (by omega), hg, b1, b2, hI⟩
theorem MI.a1 {v : Nat → Int32} (h : MI g σ A) : MI g σ (sup A 1 v) := by
  obtain ⟨h1, h2, h3, h4, h5, h6, h7, h8⟩ := h
  exact ⟨by rw [sup_ne (by decide)]; exact h1, by rw [sup_ne (by decide)]; exact h2, h3, h4, h5, by rw [sup_ne (by decide)]; exact h6, by rw [sup_ne (by decide)]; exact h7, h8⟩
def isR (X : Nat) (C : gC) : Prop := ∃ fs, C (X + 56) = some (.inr (12, fs))
theorem isR_of (h : C = menc (X + 56) σ w A L C) : isR X C := ⟨_, by rw [h]; exact menc_0⟩
theorem FR.mc (hF : FR X g.1.1 C C1) (hg : g.1.1 = X + 71) (h : C = menc (X + 56) σ w A L C) : C1 = menc (X + 56) σ w A L C1 := mc_fr h fun q q1 q2 => hF q (.inr ⟨q1, by omega⟩)
/-- the class answers so, the reference so, and both stand as they should -/
def PRi (X n0 z0 : Nat) (sp1 sp2 : gSp) (as : List Value) : Prop := ∀ (k : Nat) (C : gC) (n z : Nat) (Q1 : gQ) (Q2 : Int32 → gQ), LJ X n0 z0 k C n z → (∀ x C1 n1 z1, isR X C1 → sp2 (.ref (X + 56) :: as) C1 n1 z1 (Q2 x) → Q1 (some (.int x)) C1 n1 z1) → (∀ x C2 n2 z2, LJ X n0 z0 (k + 1) C2 n2 z2 → Q2 x (some (.int x)) C2 n2 z2) → sp1 (.ref X :: as) C n z Q1
theorem CW.sg (h : CW X g a C n z) : ∃ ch, SG a g.2.2.2.2 ch := by
  obtain ⟨σ, ρ, A, P, T, S, hX, ⟨ch, f, k, hG, hW⟩, hZ⟩ := h
  exact ⟨ch, hG⟩
theorem CW.st3 (h : CW X g a C n z) : ∃ s, a 3 = nI s ∧ s ≤ 30 := by
  obtain ⟨ch, hG⟩ := h.sg
  obtain ⟨k, h1, h2, -⟩ := hG.2.2.2.2.2.2.2.2
  exact ⟨k, h2, h1⟩
theorem CW.len (h : CW X g a C n z) : g.2.2.1.2.1 ≤ 300 := by
  obtain ⟨σ, ρ, A, P, T, S, hX, hW, hZ⟩ := h
  exact hZ.2.2.2.2.2.2.2.2.1
end LJS
theorem pr_bar {X n0 z0 : Nat} (u v : Int32) : PRi X n0 z0 sp_X11_bar sp_X12_bar [.int u, .int v] := by
  intro k C n z Q1 Q2 hJ h1 h2
  have hJ0 := hJ
  obtain ⟨g, σ, w, A, L, hM, hC, hg, b1, b2, hI⟩ := hJ
  obtain ⟨s, hs, hs30⟩ := hC.st3
  refine ⟨X, g, A 1, s, rfl, hC, hs, hs30, fun hn => ?_, fun p q hp hq e1 e2 C' hC' hF => ?_⟩
  · exact h1 _ C n z (isR_of hM) ⟨σ, w, A, L, C, s, hM, hs, hs30, fun _ => h2 _ _ _ _ hJ0.id, fun p q hp hq e1 e2 => absurd ⟨p, q, hp, hq, e1, e2⟩ hn⟩
  · have hM' := FR.mc hF hg hM
    refine h1 _ C' n z (isR_of hM') ⟨σ, w, A, L, C', s, hM', hs, hs30, fun hn => absurd ⟨p, q, hp, hq, e1, e2⟩ hn, fun p' q' hp' hq' e1' e2' => ?_⟩
    obtain rfl : p = p' := (nI_eq (by omega) (by omega)).mp (e1.symm.trans e1')
    obtain rfl : q = q' := (nI_eq (by omega) (by omega)).mp (e2.symm.trans e2')
    exact h2 _ _ _ _ (LJ.fin hC' hg (by omega) (by omega) sup_same hI.a1)
theorem pr_child {X n0 z0 : Nat} (u v : Int32) : PRi X n0 z0 sp_X11_child sp_X12_child [.int u, .int v] := by
  intro k C n z Q1 Q2 hJ h1 h2
  have hJ0 := hJ
  obtain ⟨g, σ, w, A, L, hM, hC, hg, b1, b2, hI⟩ := hJ
  obtain ⟨ch, hG⟩ := hC.sg
  have hs := hG.2.2.2.1
  have hs7 := hG.2.2.2.2.1
  refine ⟨X, g, A 1, ch, rfl, hC, hs, hs7, fun hn => ?_, fun p q hp hp9 hq e1 e2 hc C' hC' hF => ?_⟩
  · exact h1 _ C n z (isR_of hM) ⟨σ, w, A, L, C, ch, hM, hs, hs7, fun _ => h2 _ _ _ _ hJ0.id, fun p q hp hp9 hq e1 e2 hc => absurd ⟨p, q, hp, hp9, hq, e1, e2, hc⟩ hn⟩
  · have hM' := FR.mc hF hg hM
    refine h1 _ C' n z (isR_of hM') ⟨σ, w, A, L, C', ch, hM', hs, hs7, fun hn => absurd ⟨p, q, hp, hp9, hq, e1, e2, hc⟩ hn, fun p' q' hp' hp9' hq' e1' e2' hc' => ?_⟩
    obtain rfl : p = p' := (nI_eq (by omega) (by omega)).mp (e1.symm.trans e1')
    obtain rfl : q = q' := (nI_eq (by omega) (by omega)).mp (e2.symm.trans e2')
    exact h2 _ _ _ _ (LJ.fin hC' hg (by omega) (by omega) sup_same hI.a1)
theorem pr_fault {X n0 z0 : Nat} (u : Int32) : PRi X n0 z0 sp_X11_fault sp_X12_fault [.int u] := by
  intro k C n z Q1 Q2 hJ h1 h2
  have hJ0 := hJ
  obtain ⟨g, σ, w, A, L, hM, hC, hg, b1, b2, hI⟩ := hJ
  refine ⟨X, g, A 1, rfl, hC, ?_⟩
  rw [← hI.2.2.2.1, ← hI.2.2.2.2.1]
  exact h1 _ C n z (isR_of hM) ⟨σ, w, A, L, C, hM, h2 _ _ _ _ hJ0.id⟩
theorem pr_cut {X n0 z0 : Nat} (u : Int32) : PRi X n0 z0 sp_X11_cut sp_X12_cut [.int u] := by
  intro k C n z Q1 Q2 hJ h1 h2
  have hJ0 := hJ
  obtain ⟨g, σ, w, A, L, hM, hC, hg, b1, b2, hI⟩ := hJ
  obtain ⟨s, hs, hs30⟩ := hC.st3
  refine ⟨X, g, A 1, s, rfl, hC, hs, hs30, fun hn => ?_, fun p hp e1 e2 C' n' z' hC' hF => ?_⟩
  · exact h1 _ C n z (isR_of hM) ⟨σ, w, A, L, C, s, hM, hs, hs30, fun _ => h2 _ _ _ _ hJ0.id, fun p hp e1 e2 => absurd ⟨p, hp, e1, e2⟩ hn⟩
  · have hM' := FR.mc hF hg hM
    refine h1 _ C' n' z' (isR_of hM') ⟨σ, w, A, L, C', s, hM', hs, hs30, fun hn => absurd ⟨p, hp, e1, e2⟩ hn, fun p' hp' e1' e2' => ?_⟩
    obtain rfl : p = p' := (nI_eq (by omega) (by omega)).mp (e1.symm.trans e1')
    exact h2 _ _ _ _ (LJ.fin hC' hg (by omega) (by omega) sup_same hI.a1)
