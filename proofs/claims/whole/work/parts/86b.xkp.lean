/-! the class's world: a step is kept -/
theorem rowG.of {r r' : Nat → Int32} (h : rowG r) (e : ∀ j, 6 ≤ j → j < 76 → r' j = r j) : rowG r' := by
  obtain ⟨h1, h2, h3, h4, h5, h6⟩ := h
  exact ⟨by rw [e 6 (by decide) (by decide)]; exact h1, by rw [e 7 (by decide) (by decide)]; exact h2, by rw [e 8 (by decide) (by decide)]; exact h3, fun j hj => by rw [e _ (by omega) (by omega)]; exact h4 j hj, fun j hj => by rw [e _ (by omega) (by omega)]; exact h5 j hj, h6.o fun j g1 g2 => e j (by omega) g2⟩
theorem DW.rg {a : Nat → Int32} {N : Nat} (h : DW a N) (hN : NM a) : rowG a := ⟨h.2.2.1, h.2.2.2.1, h.2.2.2.2.1, h.2.2.2.2.2.1, h.2.2.2.2.2.2.1, hN⟩
theorem keF_row {a : Nat → Int32} {k i : Nat} (hk : k ≤ 30) (hi : i < if k = 30 then 30 else k + 1) : (∃ i', i' < k ∧ ∀ j, j < 101 → keF a k (145 + 101 * i + j) = a (145 + 101 * i' + j)) ∨ ((∀ j, 6 ≤ j → j < 76 → rowS (keF a k) i j = a j) ∧ keF a k (145 + 101 * i) = a 0) := by
  unfold keF
  by_cases q : k = 30
  · subst q
    rw [if_pos rfl] at hi
    rw [if_pos rfl]
    by_cases q2 : i = 29
    · subst q2
      obtain ⟨n1, n2, n3⟩ := ke1_new (a := upd (shS a 2929) 3 (nI 29)) (s := 29) (by decide)
      refine .inr ⟨fun j g1 g2 => ?_, ?_⟩
      · rw [n1 j g1 g2, pk_un (by omega)]
        unfold shS
        rw [if_neg (by omega)]
      · rw [n3, pk_un (by decide)]; rfl
    · exact .inl ⟨i + 1, by omega, fun j hj => by rw [ke1_row (by decide) (by omega) hj, sh_row (by omega) hj]⟩
  · rw [if_neg q] at hi
    rw [if_neg q]
    by_cases q2 : i = k
    · subst q2
      obtain ⟨n1, n2, n3⟩ := ke1_new (a := a) (s := i) (by omega)
      exact .inr ⟨n1, n3⟩
    · exact .inl ⟨i, by omega, fun j hj => ke1_row (by omega) (by omega) hj⟩
theorem SG.ke {a : Nat → Int32} {N ch k : Nat} (h : SG a N ch) (hk : k ≤ 30) (h3 : a 3 = nI k) : SG (keF a k) N ch := by
  obtain ⟨h1, h2, hD, h0, hc, hV, ⟨q, hT⟩, ⟨q2, hS, hs⟩, k', hk', h3', hr⟩ := h
  have : k' = k := (nI_eq (by omega) (by omega)).mp (h3'.symm.trans h3)
  subst this
  have hq2 := hS.2.1
  have e : ∀ j, j < 145 → j ≠ 3 → keF a k' j = a j := fun j g1 g2 => keF_at hk (.inl ⟨g1, g2⟩)
  refine ⟨by rw [e 1 (by decide) (by decide)]; exact h1, ⟨h2.1, h2.2.o fun j g1 g2 => e j (by omega) (by omega)⟩, hD.ke hk, by rw [e 0 (by decide) (by decide)]; exact h0, hc, hV.o fun j g1 g2 => e j (by omega) (by omega), ⟨q, hT.o (e 4 (by decide) (by decide)) fun j g1 g2 => e j (by omega) (by omega)⟩, ⟨q2, hS.o (e 5 (by decide) (by decide)) fun j g1 g2 => e j (by omega) (by omega), fun i hi => by rw [sd0_o (e _ (by omega) (by omega))]; exact hs i hi⟩, _, ?_, keF_3, fun i hi => ?_⟩
  · split <;> omega
  · rcases keF_row hk hi with ⟨i', hi', he⟩ | ⟨he1, he2⟩
    · obtain ⟨r1, c, hc', r2⟩ := hr i' hi'
      have hrow := rowS_eq he
      exact ⟨r1.of hrow.1, c, hc', hrow.2.2.trans r2⟩
    · exact ⟨(hD.rg h2.2).of he1, ch, Nat.le_refl _, he2.trans h0⟩
theorem kpJ_lt {f k : Nat} (hf : f < 30) : kpJ f k < 30 := by
  unfold kpJ
  split
  · exact hf
  · exact Nat.mod_lt _ (by decide)
section KC
variable {X lo bn bz NI N n z f k ch : Nat} {σ : Nat → Nat → Int32} {ρ : Nat → Value} {A : Nat → Nat → Int32} {P : Nat → Nat → Option Nat} {T : Nat → Option Nat} {S : Nat → Sqd} {C : gC} {a b : Nat → Int32} {t : tpT} {tx : Nat → List rCl}
theorem CX.st (hX : CX X lo bn bz σ ρ A P T S C n z) (h1 : σ 7 1 = nI f) (h2 : σ 7 2 = nI k) : stAt C (X + 7) f k (P 8) := by
  refine ⟨(hX.1 7 (by decide)).trans ?_, hX.1 8 (by decide)⟩
  show some (Sum.inr (7, [Value.ref (X + 8), .int (σ 7 1), .int (σ 7 2)])) = _
  rw [h1, h2]
theorem CX.sq (hX : CX X lo bn bz σ ρ A P T S C n z) : sqAt C (X + 2) (σ 2, fun k => A (2 + k)) := ⟨hX.1 2 (by decide), hX.1 3 (by decide), hX.1 4 (by decide), hX.1 5 (by decide), hX.1 6 (by decide)⟩
theorem CX.low (hX : CX X lo bn bz σ ρ A P T S C n z) {q : Nat} (hq : q < lo) : offT T q := fun i hi r hr => .inl (Nat.lt_of_lt_of_le hq (hX.2.1 i hi r hr).1)
theorem SqR.b4 {wr : Bool} {j : Nat} (h : SqR wr σ A j ch a) : ∃ b, b ≤ 30 ∧ σ j 4 = nI b := by
  obtain ⟨-, -, -, b, h1, h2, -⟩ := h
  exact ⟨b, h1, h2⟩
theorem agX.st {P' : Nat → Option Nat} {C' : gC} {f' k' : Nat} (h : agX X σ ρ A P C) (hst : stAt C' (X + 7) f' k' P') (hfr : ∀ q, q < X + 56 → q ≠ X + 7 → q ≠ X + 8 → C' q = C q) : agX X (s2 (s2 σ 7 1 (nI f')) 7 2 (nI k')) ρ A (sup P 8 P') C' := by
  intro i hi
  by_cases h7 : i = 7
  · subst h7
    refine hst.1.trans ?_
    show _ = some (Sum.inr (7, [Value.ref (X + 8), .int (s2 (s2 σ 7 1 (nI f')) 7 2 (nI k') 7 1), .int (s2 (s2 σ 7 1 (nI f')) 7 2 (nI k') 7 2)]))
    rw [s2_eq, s2_ne rfl, s2_eq]
  · by_cases h8 : i = 8
    · subst h8
      refine hst.2.trans ?_
      show _ = some (Sum.inl (3, 30, Sum.inr (Sum.inr (Sum.inr (Sum.inr (sup P 8 P' 8))))))
      rw [sup_same]
    · rw [hfr _ (by omega) (by omega) (by omega), h i hi]
      exact (xcl_o ((xfs_ne h7).trans (xfs_ne h7)) rfl (sup_ne h8)).symm
theorem keep_cw (hX : CX X lo bn bz σ ρ A P T S C n z) (hG : SG a N ch) (hW : StN σ A P T S f k ch a N) (hZ : CZ lo b NI t tx N σ A P T S C n) {Q : gQ} (hQ : ∀ σ' P' T' S' C' n' z' f' k', CX X lo bn bz σ' ρ A P' T' S' C' n' z' → SG (keF a k) N ch → StN σ' A P' T' S' f' k' ch (keF a k) N → CZ lo b NI t tx N σ' A P' T' S' C' n' → FR X lo C C' → Q none C' n' z') : sp_X7_keep [.ref (X + 7), .ref (X + 2)] C n z Q := by
  obtain ⟨w1, w2, w3, w4, w5, w6, ⟨w7, w7', w7''⟩, w8⟩ := id hW
  obtain ⟨x1, x2, x3, x4, x5, x6⟩ := id hX
  obtain ⟨s3, sk, sf, sr⟩ := id w8
  obtain ⟨b4, hb4, hb5⟩ := w4.b4
  refine ⟨P 8, T, S, 0, lo, f, k, (σ 2, fun k => A (2 + k)), b4, hX.st w7 w7', fun j hj => by rw [Nat.zero_add]; exact w7'' j hj, by decide, sf, sk, x2, (show X + 7 + 1 < lo by omega), x4, hX.sq, hb5, hb4, (show X + 2 + 5 ≤ lo by omega), .inl (show X + 2 + 4 < X + 7 by omega), fun C' n' z' P' T' S' hK => ?_⟩
  obtain ⟨k1, k2, k3, k4, k5, k6, k7, k8, k9, k10, k11, k12⟩ := hK
  have hJ := kpJ_lt (k := k) sf
  have hfr : ∀ q, q < lo → q ≠ X + 7 → q ≠ X + 8 → C' q = C q := fun q h1 h2 h3 => k7 q (by omega) h2 h3 (hX.low h1)
  have e : ∀ j, (j < 145 ∧ j ≠ 3) ∨ 3175 ≤ j → keF a k j = a j := fun j hj => keF_at sk hj
  have r1 : ∀ i, i ≠ 7 → s2 (s2 σ 7 1 (nI (kpF f k))) 7 2 (nI (kpK k)) i = σ i := fun i hi => by rw [s2_row hi, s2_row hi]
  refine hQ (s2 (s2 σ 7 1 (nI (kpF f k))) 7 2 (nI (kpK k))) (sup P 8 P') T' S' C' n' z' (kpF f k) (kpK k) ⟨x1.st k1 fun q h1 h2 h3 => hfr q (by omega) h2 h3, k3, x3, by omega, by omega, by omega⟩ (hG.ke sk s3) ?_ ?_ ?_
  · unfold StN
    rw [r1 1 (by decide), r1 9 (by decide), r1 11 (by decide), e 2 (by decide), e 4 (by decide), e 5 (by decide)]
    refine ⟨w1, fun c hc => ?_, fun i hi => ?_, ?_, ⟨w5.1, w5.2.1, fun i hi => ?_⟩, ⟨w6.1, w6.2.1, fun i hi => ?_⟩, ⟨by rw [s2_ne rfl, s2_eq], s2_eq, fun i hi => ?_⟩, ?_⟩
    · rw [e _ (by omega), e _ (by omega)]; exact w2 c hc
    · rw [e _ (by omega)]; exact w3 i hi
    · exact SqR_D.mpr ((SqR_D.mp (w4.k2 (r1 2 (by decide)) fun _ _ _ => rfl)).a hG.2.2.2.2.1 (fun j g1 g2 => e j (by omega)) fun j hj => e _ (by omega))
    · rw [e _ (by omega)]; exact w5.2.2 i hi
    · rw [e _ (by omega)]; exact w6.2.2 i hi
    · rw [sup_same, k2 i hi, Nat.zero_add]
    · exact w8.ke hG.2.2.2.1 hG.2.2.2.2.1 (SqR_D.mp w4) k4 k5 k6
  · obtain ⟨⟨ch2, f2, kk2, h1, h2⟩, h3, h4, h5, h6, h7⟩ := hZ
    refine ⟨⟨ch2, f2, kk2, h1, h2.kp (fun i hi => ⟨r1 _ (by omega), rfl, sup_ne (by omega)⟩) fun i hi => k5 _ (by omega)⟩, h3, h4.k (sup_ne (by decide)) fun q hq => ⟨⟨hq.1, Nat.lt_of_lt_of_le hq.2.1 k8, fun i hi r hr => ?_⟩, k7 q hq.2.1 ?_ ?_ hq.2.2⟩, h5, ?_, ?_⟩
    · by_cases hi2 : i = 0 + kpJ f k
      · subst hi2
        by_cases hT : T (0 + kpJ f k) = none
        · exact .inl (Nat.lt_of_lt_of_le hq.2.1 (k12 hT r hr))
        · rw [k11 hT] at hr
          exact hq.2.2 _ hi r hr
      · rw [(k5 i hi2).1] at hr
        exact hq.2.2 i hi r hr
    · have := hq.1
      show q ≠ X + 7
      omega
    · have := hq.1
      show q ≠ X + 7 + 1
      omega
    · intro i g1 g2
      rw [r1 32 (by decide)]
      exact h6 i g1 g2
    · unfold TP
      rw [r1 0 (by decide)]
      exact h7
  · intro q hq
    exact hfr q (by omega) (by omega) (by omega)
end KC
