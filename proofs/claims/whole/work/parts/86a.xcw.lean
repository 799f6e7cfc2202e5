/-! the class's world: the states a (now) and b (the image), texts, tape -/
def TG (T : Nat → Option Nat) (lo n q : Nat) : Prop := lo ≤ q ∧ q < n ∧ offT T q
def NM (a : Nat → Int32) : Prop := ∀ c, c < 7 → a (69 + c) = -nI 1 ∨ ∃ k, k ≤ 60 ∧ a (69 + c) = nI k
theorem NM.o {a a' : Nat → Int32} (h : NM a) (e : ∀ j, 69 ≤ j → j < 76 → a' j = a j) : NM a' := fun c hc => by
  rw [e _ (by omega) (by omega)]
  exact h c hc
def rowG (r : Nat → Int32) : Prop := (∃ y, y ≤ 9999 ∧ r 6 = nI y) ∧ (∃ x, x < 30691 ∧ r 7 = nI x) ∧ (∃ b, b ≤ 30 ∧ r 8 = nI b) ∧ (∀ j, j < 30 → ∃ k, k < 4 ∧ r (9 + j) = nI k) ∧ (∀ j, j < 30 → ∃ k, k < 10 ∧ r (39 + j) = nI k) ∧ NM r
/-- what a state holds besides its square: values, tellings, sayings, kept steps -/
def GB (a : Nat → Int32) (ch : Nat) : Prop := VW a ∧ (∃ q, VT a q) ∧ (∃ q, VS a q ∧ ∀ i, i < q → sd0 a i < ch) ∧ ∃ k, k ≤ 30 ∧ a 3 = nI k ∧ ∀ i, i < k → rowG (rowS a i) ∧ ∃ c, c ≤ ch ∧ a (145 + 101 * i) = nI c
def SG (a : Nat → Int32) (N ch : Nat) : Prop := a 1 = nI N ∧ (N ≤ 4 ∧ NM a) ∧ DW a N ∧ a 0 = nI ch ∧ ch ≤ 7 ∧ GB a ch
def sqO (a a' : Nat → Int32) : Prop := ∀ j, j < 6 ∨ (76 ≤ j ∧ j < 3175) → a' j = a j
theorem sqO.refl {a : Nat → Int32} : sqO a a := fun _ _ => rfl
theorem sqO.trans {a b c : Nat → Int32} (h : sqO a b) (g : sqO b c) : sqO a c := fun j hj => (g j hj).trans (h j hj)
theorem rowS_sq {a a' : Nat → Int32} {i : Nat} (hi : i < 30) (e : ∀ j, 145 ≤ j → j < 3175 → a' j = a j) : rowS a' i = rowS a i := by
  funext j
  unfold rowS
  by_cases h1 : 6 ≤ j ∧ j < 76
  · rw [if_pos h1, if_pos h1, e _ (by omega) (by omega)]
  · rw [if_neg h1, if_neg h1]
    by_cases h2 : 3175 ≤ j ∧ j < 3205
    · rw [if_pos h2, if_pos h2, e _ (by omega) (by omega)]
    · rw [if_neg h2, if_neg h2, e _ (by omega) (by omega)]
theorem VW.o {a a' : Nat → Int32} (h : VW a) (e : ∀ j, 90 ≤ j → j < 103 → a' j = a j) : VW a' := fun k hk => by
  rw [e _ (by omega) (by omega)]
  exact h k hk
theorem VT.o {a a' : Nat → Int32} {q : Nat} (h : VT a q) (e4 : a' 4 = a 4) (e : ∀ j, 103 ≤ j → j < 121 → a' j = a j) : VT a' q := by
  obtain ⟨h4, hq, ht⟩ := h
  refine ⟨e4.trans h4, hq, fun i hi => ?_⟩
  unfold t0 t1 t2
  rw [e (103 + 3 * i) (by omega) (by omega), e (103 + 3 * i + 1) (by omega) (by omega), e (103 + 3 * i + 2) (by omega) (by omega)]
  exact ht i hi
theorem VS.o {a a' : Nat → Int32} {q : Nat} (h : VS a q) (e5 : a' 5 = a 5) (e : ∀ j, 121 ≤ j → j < 145 → a' j = a j) : VS a' q := by
  obtain ⟨h5, hq, ht⟩ := h
  refine ⟨e5.trans h5, hq, fun i hi => ?_⟩
  unfold sd0 sd1 sd2
  rw [e (121 + 3 * i) (by omega) (by omega), e (121 + 3 * i + 1) (by omega) (by omega), e (121 + 3 * i + 2) (by omega) (by omega)]
  exact ht i hi
theorem sd0_o {a a' : Nat → Int32} {i : Nat} (e : a' (121 + 3 * i) = a (121 + 3 * i)) : sd0 a' i = sd0 a i := by
  unfold sd0
  rw [e]
theorem GB.o {a a' : Nat → Int32} {ch : Nat} (h : GB a ch) (e : ∀ j, j = 3 ∨ j = 4 ∨ j = 5 ∨ (90 ≤ j ∧ j < 3175) → a' j = a j) : GB a' ch := by
  obtain ⟨h1, ⟨q, h2⟩, ⟨q2, h3, h4⟩, k, hk, h5, h6⟩ := h
  have hq2 := h3.2.1
  refine ⟨h1.o fun j g1 g2 => e j (by omega), ⟨q, h2.o (e 4 (by omega)) fun j g1 g2 => e j (by omega)⟩, ⟨q2, h3.o (e 5 (by omega)) fun j g1 g2 => e j (by omega), fun i hi => ?_⟩, k, hk, (e 3 (by omega)).trans h5, fun i hi => ?_⟩
  · rw [sd0_o (e _ (by omega))]
    exact h4 i hi
  · rw [rowS_sq (by omega) fun j g1 g2 => e j (by omega), e _ (by omega)]
    exact h6 i hi
theorem SG.sq {a a' : Nat → Int32} {N ch : Nat} (h : SG a N ch) (e : sqO a a') (hD : DW a' N) (hN : NM a') : SG a' N ch := by
  obtain ⟨h1, h2, h3, h4, h5, h6⟩ := h
  exact ⟨(e 1 (by omega)).trans h1, ⟨h2.1, hN⟩, hD, (e 0 (by omega)).trans h4, h5, h6.o fun j hj => e j (by omega)⟩
/-- the State at X + j, its rows from o on, is the state a -/
def StW (j o : Nat) (σ : Nat → Nat → Int32) (A : Nat → Nat → Int32) (P : Nat → Nat → Option Nat) (T : Nat → Option Nat) (S : Nat → Sqd) (f k ch : Nat) (a : Nat → Int32) (N : Nat) : Prop := (σ j 7 = nI ch ∧ σ j 8 = nI N ∧ σ j 9 = a 2) ∧ (∀ c, c < 7 → A (j + 13) c = a (76 + c) ∧ A (j + 14) c = a (83 + c)) ∧ (∀ i, i < 13 → A (j + 12) i = a (90 + i)) ∧ SqR true σ A (j + 1) ch a ∧ (σ (j + 8) 1 = nI 6 ∧ σ (j + 8) 2 = a 4 ∧ ∀ i, i < 18 → A (j + 9) i = a (103 + i)) ∧ (σ (j + 10) 1 = nI 8 ∧ σ (j + 10) 2 = a 5 ∧ ∀ i, i < 24 → A (j + 11) i = a (121 + i)) ∧ (σ (j + 6) 1 = nI f ∧ σ (j + 6) 2 = nI k ∧ ∀ i, i < 30 → P (j + 7) i = T (o + i)) ∧ StR a T S o f k
/-- the same of the State now, its numbers written out -/
def StN (σ : Nat → Nat → Int32) (A : Nat → Nat → Int32) (P : Nat → Nat → Option Nat) (T : Nat → Option Nat) (S : Nat → Sqd) (f k ch : Nat) (a : Nat → Int32) (N : Nat) : Prop := (σ 1 7 = nI ch ∧ σ 1 8 = nI N ∧ σ 1 9 = a 2) ∧ (∀ c, c < 7 → A 14 c = a (76 + c) ∧ A 15 c = a (83 + c)) ∧ (∀ i, i < 13 → A 13 i = a (90 + i)) ∧ SqR true σ A 2 ch a ∧ (σ 9 1 = nI 6 ∧ σ 9 2 = a 4 ∧ ∀ i, i < 18 → A 10 i = a (103 + i)) ∧ (σ 11 1 = nI 8 ∧ σ 11 2 = a 5 ∧ ∀ i, i < 24 → A 12 i = a (121 + i)) ∧ (σ 7 1 = nI f ∧ σ 7 2 = nI k ∧ ∀ i, i < 30 → P 8 i = T i) ∧ StR a T S 0 f k
section ST
variable {j o f k ch N : Nat} {σ σ' : Nat → Nat → Int32} {A A' : Nat → Nat → Int32} {P P' : Nat → Nat → Option Nat} {T T' : Nat → Option Nat} {S S' : Nat → Sqd} {a a' : Nat → Int32}
theorem StW_N : StW 1 0 σ A P T S f k ch a N ↔ StN σ A P T S f k ch a N := by
  unfold StW StN
  simp only [Nat.zero_add, Nat.reduceAdd]
theorem SqR.k2 {wr : Bool} (h : SqR wr σ A j ch a) (h1 : σ' j = σ j) (h2 : ∀ i, 1 ≤ i → i ≤ 4 → A' (j + i) = A (j + i)) : SqR wr σ' A' j ch a := by
  unfold SqR SqK
  rw [h1, h2 1 (by decide) (by decide), h2 2 (by decide) (by decide), h2 3 (by decide) (by decide), h2 4 (by decide) (by decide)]
  exact h
theorem StR.kp (h : StR a T S o f k) (e : ∀ i, i < 30 → T' (o + i) = T (o + i) ∧ S' (o + i) = S (o + i)) : StR a T' S' o f k := by
  obtain ⟨h1, h2, h3, h4⟩ := h
  refine ⟨h1, h2, h3, fun i hi => ?_⟩
  obtain ⟨e1, e2⟩ := e ((f + i) % 30) (Nat.mod_lt _ (by decide))
  rw [e1, e2]
  exact h4 i hi
theorem StR.ao (h : StR a T S o f k) (e3 : a' 3 = a 3) (e : ∀ j, 145 ≤ j → j < 3175 → a' j = a j) : StR a' T S o f k := by
  obtain ⟨h1, h2, h3, h4⟩ := h
  refine ⟨e3.trans h1, h2, h3, fun i hi => ?_⟩
  rw [rowS_sq (by omega) e, e _ (by omega) (by omega)]
  exact h4 i hi
theorem StW.kp (h : StW j o σ A P T S f k ch a N) (e1 : ∀ i, i ≤ 14 → σ' (j + i) = σ (j + i) ∧ A' (j + i) = A (j + i) ∧ P' (j + i) = P (j + i)) (e2 : ∀ i, i < 30 → T' (o + i) = T (o + i) ∧ S' (o + i) = S (o + i)) : StW j o σ' A' P' T' S' f k ch a N := by
  obtain ⟨h1, h2, h3, h4, h5, h6, h7, h8⟩ := h
  have e0 : σ' j = σ j := (e1 0 (by decide)).1
  unfold StW
  rw [e0, (e1 8 (by decide)).1, (e1 10 (by decide)).1, (e1 6 (by decide)).1, (e1 13 (by decide)).2.1, (e1 14 (by decide)).2.1, (e1 12 (by decide)).2.1, (e1 9 (by decide)).2.1, (e1 11 (by decide)).2.1, (e1 7 (by decide)).2.2]
  refine ⟨h1, h2, h3, h4.k2 (e1 1 (by decide)).1 fun i g1 g2 => ?_, h5, h6, ⟨h7.1, h7.2.1, fun i hi => ?_⟩, h8.kp e2⟩
  · rw [Nat.add_assoc]
    exact (e1 (1 + i) (by omega)).2.1
  · rw [(e2 i hi).1]
    exact h7.2.2 i hi
/-- the square alone has changed -/
theorem StN.sq {ρ ρ' : Nat → Value} (h : StN σ A P T S f k ch a N) (hP : PF 2 σ ρ A σ' ρ' A') (e : sqO a a') (hS : SqR true σ' A' 2 ch a') : StN σ' A' P T S f k ch a' N := by
  obtain ⟨⟨h1, h1', h1''⟩, h2, h3, h4, ⟨h5, h5', h5''⟩, ⟨h6, h6', h6''⟩, ⟨h7, h7', h7''⟩, h8⟩ := h
  obtain ⟨p1, p2, p3, p4⟩ := hP
  unfold StN
  rw [p1 1 (by decide) (by decide), p1 9 (by decide) (by decide), p1 11 (by decide) (by decide), p1 7 (by decide) (by decide), p3 14 (by decide) (by decide), p3 15 (by decide) (by decide), p3 13 (by decide) (by decide), p3 10 (by decide) (by decide), p3 12 (by decide) (by decide), e 2 (by decide), e 4 (by decide), e 5 (by decide)]
  refine ⟨⟨h1, h1', h1''⟩, fun c hc => ?_, fun i hi => ?_, hS, ⟨h5, h5', fun i hi => ?_⟩, ⟨h6, h6', fun i hi => ?_⟩, ⟨h7, h7', h7''⟩, h8.ao (e 3 (by decide)) fun j g1 g2 => e j (by omega)⟩
  · rw [e _ (by omega), e _ (by omega)]; exact h2 c hc
  · rw [e _ (by omega)]; exact h3 i hi
  · rw [e _ (by omega)]; exact h5'' i hi
  · rw [e _ (by omega)]; exact h6'' i hi
end ST
/-- what the heap is made of: the 56 cells, the rows -/
def CX (X lo bn bz : Nat) (σ : Nat → Nat → Int32) (ρ : Nat → Value) (A : Nat → Nat → Int32) (P : Nat → Nat → Option Nat) (T : Nat → Option Nat) (S : Nat → Sqd) (C : gC) (n z : Nat) : Prop := agX X σ ρ A P C ∧ RwS T S lo n C ∧ X + 71 ≤ lo ∧ lo ≤ n ∧ n + 5 * nul T = bn ∧ z + 194 * nul T = bz
/-- where texts lie: their table, and the cells that are theirs -/
abbrev kpT : Type := (Nat → Option Nat) × (Nat → Option gE)
abbrev tpT : Type := (Nat → Nat) × Nat × Int32 × Int32 × kpT
def TP (t : tpT) (σ : Nat → Nat → Int32) (A : Nat → Nat → Int32) : Prop := (∀ i, i < 300 → A 55 i = nI (t.1 i)) ∧ (∀ i, t.1 i < 256) ∧ σ 0 10 = nI t.2.1 ∧ t.2.1 ≤ 300 ∧ σ 0 11 = t.2.2.1 ∧ σ 0 12 = t.2.2.2.1
def TXK (κ : kpT) (T : Nat → Option Nat) (lo n : Nat) (P : Nat → Nat → Option Nat) (C : gC) (tx : Nat → List rCl) (N : Nat) : Prop := TXC (TG T lo n) P C tx N ∧ P 31 = κ.1 ∧ (∀ q x, κ.2 q = some x → TG T lo n q ∧ C q = some x) ∧ ∀ t r, t < N → κ.1 t = some r → ∃ oc op q x, κ.2 r = some (.inr (8, [oc, op, .ref q])) ∧ κ.2 q = some x
/-- the rest: image, texts, judge, tape -/
def CZ (lo : Nat) (b : Nat → Int32) (NI : Nat) (t : tpT) (tx : Nat → List rCl) (N : Nat) (σ : Nat → Nat → Int32) (A : Nat → Nat → Int32) (P : Nat → Nat → Option Nat) (T : Nat → Option Nat) (S : Nat → Sqd) (C : gC) (n : Nat) : Prop := (∃ ch f k, SG b NI ch ∧ StW 16 30 σ A P T S f k ch b NI) ∧ NI ≤ N ∧ TXK t.2.2.2.2 T lo n P C tx N ∧ (∀ t, t < N → ∀ c ∈ tx t, okR c) ∧ JB σ ∧ TP t σ A
abbrev Gh : Type := (Nat × Nat × Nat) × ((Nat → Int32) × Nat) × tpT × (Nat → List rCl) × Nat
def CW (X : Nat) (g : Gh) (a : Nat → Int32) (C : gC) (n z : Nat) : Prop := ∃ σ ρ A P T S, CX X g.1.1 g.1.2.1 g.1.2.2 σ ρ A P T S C n z ∧ (∃ ch f k, SG a g.2.2.2.2 ch ∧ StN σ A P T S f k ch a g.2.2.2.2) ∧ CZ g.1.1 g.2.1.1 g.2.1.2 g.2.2.1 g.2.2.2.1 g.2.2.2.2 σ A P T S C n
def FR (X lo : Nat) (C C' : gC) : Prop := ∀ q, q < X ∨ (X + 56 ≤ q ∧ q < lo) → C' q = C q
theorem FR.refl {X lo : Nat} {C : gC} : FR X lo C C := fun _ _ => rfl
theorem FR.trans {X lo : Nat} {C C1 C2 : gC} (h : FR X lo C C1) (g : FR X lo C1 C2) : FR X lo C C2 := fun q hq => (g q hq).trans (h q hq)
theorem FR.e {X lo : Nat} {C : gC} {σ : Nat → Nat → Int32} {ρ : Nat → Value} {A : Nat → Nat → Int32} {P : Nat → Nat → Option Nat} : FR X lo C (xE X σ ρ A P C) := fun q hq => xE_out (by omega)
theorem lawAt.k {G G' : Nat → Prop} {R R' : gC} {o : Option Nat} {L : Option rI} (h : lawAt G R o L) (e : ∀ q, G q → G' q ∧ R' q = R q) : lawAt G' R' o L := by
  unfold lawAt at *
  split
  · trivial
  · rename_i c d
    obtain ⟨h1, h2⟩ := h
    obtain ⟨e1, e2⟩ := e c h1
    unfold codeAt at *
    rw [e2]
    exact ⟨e1, h2⟩
  · rename_i h1 h2
    revert h
    split
    · exact fun _ => h1 rfl rfl
    · exact fun _ => h2 _ _ rfl rfl
    · exact id
theorem TXC.k {G G' : Nat → Prop} {P P' : Nat → Nat → Option Nat} {R R' : gC} {tx : Nat → List rCl} {N : Nat} (h : TXC G P R tx N) (hP : P' 31 = P 31) (e : ∀ q, G q → G' q ∧ R' q = R q) : TXC G' P' R' tx N := by
  obtain ⟨h1, h2⟩ := h
  refine ⟨h1, fun t ht => ?_⟩
  obtain ⟨h3, r, h4, h5, oc, op, q, h6, h7, h8, h9, f, h10, h11⟩ := h2 t ht
  exact ⟨h3, r, by rw [hP]; exact h4, (e r h5).1, oc, op, q, by rw [(e r h5).2]; exact h6, h7.k e, h8.k e, (e q h9).1, f, by rw [(e q h9).2]; exact h10, h11⟩
theorem TXK.k {κ : kpT} {T T' : Nat → Option Nat} {lo n n' N : Nat} {P P' : Nat → Nat → Option Nat} {C C' : gC} {tx : Nat → List rCl} (h : TXK κ T lo n P C tx N) (hP : P' 31 = P 31) (e : ∀ q, TG T lo n q → TG T' lo n' q ∧ C' q = C q) : TXK κ T' lo n' P' C' tx N := by
  obtain ⟨h1, h2, h3, h4⟩ := h
  refine ⟨h1.k hP e, hP.trans h2, fun q x hx => ?_, h4⟩
  obtain ⟨g1, g2⟩ := h3 q x hx
  obtain ⟨e1, e2⟩ := e q g1
  exact ⟨e1, e2.trans g2⟩
section CC
variable {X lo bn bz NI N n z f k ch : Nat} {σ σ' : Nat → Nat → Int32} {ρ ρ' : Nat → Value} {A A' : Nat → Nat → Int32} {P P' : Nat → Nat → Option Nat} {T T' : Nat → Option Nat} {S S' : Nat → Sqd} {C : gC} {a b : Nat → Int32} {t : tpT} {tx : Nat → List rCl}
theorem CX.E (h : CX X lo bn bz σ ρ A P T S C n z) : C = xE X σ ρ A P C := xE_of h.1
theorem CX.e (h : CX X lo bn bz σ ρ A P T S C n z) : CX X lo bn bz σ' ρ' A' P' T S (xE X σ' ρ' A' P' C) n z := by
  obtain ⟨h1, h2, h3, h4, h5, h6⟩ := h
  exact ⟨agX_E, RwS_same h2 fun q g1 g2 => xE_out (by omega), h3, h4, h5, h6⟩
theorem JW.of (hX : CX X lo bn bz σ ρ A P T S C n z) (hG : SG a N ch) (hW : StN σ A P T S f k ch a N) (hZ : CZ lo b NI t tx N σ A P T S C n) : JW X σ A P C a tx N := by
  have hl := hX.2.2.1
  exact ⟨by rw [hW.1.1, hG.2.2.2.1], hW.1.2.1, hW.1.2.2, hW.2.1, hZ.2.2.1.1.k rfl fun q hq => ⟨Nat.le_trans (by omega) hq.1, rfl⟩, hZ.2.2.2.2.1⟩
theorem CZ.pf {j : Nat} (hZ : CZ lo b NI t tx N σ A P T S C n) (hl : X + 71 ≤ lo) (hj : j = 2 ∨ j = 50) (h : PF j σ ρ A σ' ρ' A') : CZ lo b NI t tx N σ' A' P T S (xE X σ' ρ' A' P C) n := by
  obtain ⟨⟨ch, f, k, h1, h2⟩, h3, h4, h5, h6, h7⟩ := hZ
  obtain ⟨p1, p2, p3, p4⟩ := h
  refine ⟨⟨ch, f, k, h1, h2.kp (fun i hi => ⟨p1 _ (by omega) (by omega), p3 _ (by omega) (by omega), rfl⟩) fun _ _ => ⟨rfl, rfl⟩⟩, h3, h4.k rfl fun q hq => ⟨hq, xE_out (.inr (Nat.le_trans (by omega) hq.1))⟩, h5, p4, ?_⟩
  unfold TP
  rw [p1 0 (by omega) (by omega), p3 55 (by omega) (by omega)]
  exact h7
end CC
