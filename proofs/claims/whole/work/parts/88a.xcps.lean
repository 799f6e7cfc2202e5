/-! the class's State: copy, stage by stage -/
section CP
variable {X lo bn bz n z f k ch N : Nat} {σ : Nat → Nat → Int32} {ρ : Nat → Value} {A : Nat → Nat → Int32} {P : Nat → Nat → Option Nat} {T : Nat → Option Nat} {S : Nat → Sqd} {C R : gC} {a : Nat → Int32} {Q : gQ}
theorem sqAt_x {j : Nat} (hj : sq3 j) : sqAt (xE X σ ρ A P R) (X + j) (σ j, fun k => A (j + k)) := by
  have := sqAt_s (r := X + j) (σ := σ j) (A := fun k => A (j + k)) (R := xE X σ ρ A P R)
  rw [← xSq hj] at this
  exact this
theorem sqcp_x {j j' : Nat} (hj : sq3 j) (hj' : sq3 j') (hd : j + 4 < j' ∨ j' + 4 < j) (h : SqR true σ A j' ch a) (hQ : ∀ σ1 A1, SqR true σ1 A1 j ch a → (∀ i, i ≠ j → σ1 i = σ i) → (∀ i, i ≤ j ∨ j + 4 < i → A1 i = A i) → Q none (xE X σ1 ρ A1 P R) n z) : sp_X5_copy [.ref (X + j), .ref (X + j')] (xE X σ ρ A P R) n z Q := by
  obtain ⟨b, hb, hb4⟩ := h.b4
  refine cp_sp (sqAt_x hj) (sqAt_x hj') (show X + j + 4 < X + j' ∨ X + j' + 4 < X + j by omega) hb hb4 fun d' hd' => ?_
  rw [xSqb hj]
  refine hQ _ _ (SqR_D.mpr (((SqR_D.mp h).eq hd').eq ?_)) (fun i hi => sup_ne hi) (fun i hi => if_neg (by omega))
  have e : ∀ i, 1 ≤ i → i ≤ 4 → supq A j d'.2 (j + i) = d'.2 i := fun i h1 h2 => by
    unfold supq
    rw [if_pos (by omega), Nat.add_sub_cancel_left]
  have e0 : sup σ j d'.1 j = d'.1 := sup_same
  refine ⟨by rw [e0], by rw [e0], by rw [e0], fun i hi => ?_, fun i hi => ?_, fun i hi => ?_, fun b' _ _ i hi => ?_⟩
  · show supq A j d'.2 (j + 1) i = _
    rw [e 1 (by decide) (by decide)]
  · show supq A j d'.2 (j + 2) i = _
    rw [e 2 (by decide) (by decide)]
  · show supq A j d'.2 (j + 3) i = _
    rw [e 3 (by decide) (by decide)]
  · show supq A j d'.2 (j + 4) i = _
    rw [e 4 (by decide) (by decide)]
theorem CX.stp {j : Nat} (hj : st2 j) (hX : CX X lo bn bz σ ρ A P T S C n z) (h1 : σ j 1 = nI f) (h2 : σ j 2 = nI k) : stAt C (X + j) f k (P (j + 1)) := by
  have hx := hX.1
  rcases hj with rfl | rfl
  · refine ⟨(hx 7 (by decide)).trans ?_, hx 8 (by decide)⟩
    show some (Sum.inr (7, [Value.ref (X + 8), .int (σ 7 1), .int (σ 7 2)])) = _
    rw [h1, h2]
  · refine ⟨(hx 22 (by decide)).trans ?_, hx 23 (by decide)⟩
    show some (Sum.inr (7, [Value.ref (X + 23), .int (σ 22 1), .int (σ 22 2)])) = _
    rw [h1, h2]
theorem agX.stp {j : Nat} {P' : Nat → Option Nat} {C' : gC} {f' k' : Nat} (hj : st2 j) (h : agX X σ ρ A P C) (hst : stAt C' (X + j) f' k' P') (hfr : ∀ q, q < X + 56 → q ≠ X + j → q ≠ X + j + 1 → C' q = C q) : agX X (s2 (s2 σ j 1 (nI f')) j 2 (nI k')) ρ A (sup P (j + 1) P') C' := by
  intro i hi
  by_cases h7 : i = j
  · subst h7
    refine hst.1.trans ?_
    rcases hj with rfl | rfl
    · show _ = some (Sum.inr (7, [Value.ref (X + 8), .int (s2 (s2 σ 7 1 (nI f')) 7 2 (nI k') 7 1), .int (s2 (s2 σ 7 1 (nI f')) 7 2 (nI k') 7 2)]))
      rw [s2_eq, s2_ne rfl, s2_eq]
    · show _ = some (Sum.inr (7, [Value.ref (X + 23), .int (s2 (s2 σ 22 1 (nI f')) 22 2 (nI k') 22 1), .int (s2 (s2 σ 22 1 (nI f')) 22 2 (nI k') 22 2)]))
      rw [s2_eq, s2_ne rfl, s2_eq]
  · by_cases h8 : i = j + 1
    · subst h8
      refine hst.2.trans ?_
      rcases hj with rfl | rfl
      · show _ = some (Sum.inl (3, 30, Sum.inr (Sum.inr (Sum.inr (Sum.inr (sup P 8 P' 8))))))
        rw [sup_same]
      · show _ = some (Sum.inl (3, 30, Sum.inr (Sum.inr (Sum.inr (Sum.inr (sup P 23 P' 23))))))
        rw [sup_same]
    · rw [hfr _ (by omega) (by omega) (by omega), h i hi]
      exact (xcl_o ((xfs_ne h7).trans (xfs_ne h7)) rfl (sup_ne h8)).symm
def cpJ (jd js od os : Nat) : Prop := (jd = 16 ∧ js = 1 ∧ od = 30 ∧ os = 0) ∨ (jd = 1 ∧ js = 16 ∧ od = 0 ∧ os = 30)
theorem stcp_x {jd js od os f0 k0 : Nat} (hj : cpJ jd js od os) (hX : CX X lo bn bz σ ρ A P T S C n z) (hd1 : σ (jd + 6) 1 = nI f0) (hd2 : σ (jd + 6) 2 = nI k0) (hdP : ∀ i, i < 30 → P (jd + 7) i = T (od + i)) (hs1 : σ (js + 6) 1 = nI f) (hs2 : σ (js + 6) 2 = nI k) (hsP : ∀ i, i < 30 → P (js + 7) i = T (os + i)) (hR : StR a T S os f k) (hQ : ∀ σ' P' T' S' C' n' z', CX X lo bn bz σ' ρ A P' T' S' C' n' z' → StR a T' S' od 0 k → σ' (jd + 6) 1 = nI 0 → σ' (jd + 6) 2 = nI k → (∀ i, i < 30 → P' (jd + 7) i = T' (od + i)) → (∀ i, i ≠ jd + 6 → σ' i = σ i) → (∀ i, i ≠ jd + 7 → P' i = P i) → (∀ i, i < od ∨ od + 30 ≤ i → T' i = T i ∧ S' i = S i) → (∀ q, TG T lo n q → TG T' lo n' q ∧ C' q = C q) → FR X lo C C' → Q none C' n' z') : sp_X7_copy [.ref (X + (jd + 6)), .ref (X + (js + 6))] C n z Q := by
  have hjd : st2 (jd + 6) := by unfold cpJ at hj; unfold st2; omega
  have hjs : st2 (js + 6) := by unfold cpJ at hj; unfold st2; omega
  have hoo : od = 0 ∧ os = 30 ∨ od = 30 ∧ os = 0 := by unfold cpJ at hj; omega
  have hjj : jd + 7 < js + 6 ∨ js + 7 < jd + 6 := by unfold cpJ at hj; omega
  have hj16 : jd ≤ 16 ∧ js ≤ 16 := by unfold cpJ at hj; omega
  obtain ⟨x1, x2, x3, x4, x5, x6⟩ := id hX
  obtain ⟨r1, r2, r3, r4⟩ := hR
  refine ⟨P (jd + 7), P (js + 7), T, S, od, os, lo, f0, k0, f, k, hX.stp hjd hd1 hd2, hX.stp hjs hs1 hs2, hdP, hsP, hoo, r3, r2, x2, (show X + (jd + 6) + 1 < lo by omega), (show X + (js + 6) + 1 < lo by omega), (show X + (jd + 6) + 1 < X + (js + 6) ∨ X + (js + 6) + 1 < X + (jd + 6) by omega), x4, fun i hi => ?_, fun C' n' z' P' T' S' hK => ?_⟩
  · obtain ⟨q1, c, hc, q2, q3⟩ := r4 i hi
    obtain ⟨-, -, -, b, hb, hb4, -⟩ := q3
    exact ⟨q1, b, hb, hb4⟩
  · obtain ⟨k1, k2, k3, k4, k5, k6, k7, k8, k9, k10, k11, k12⟩ := hK
    have hfr : ∀ q, q < lo → q ≠ X + (jd + 6) → q ≠ X + (jd + 6) + 1 → C' q = C q := fun q h1 h2 h3 => k6 q (by omega) h2 h3 (hX.low h1)
    refine hQ (s2 (s2 σ (jd + 6) 1 (nI 0)) (jd + 6) 2 (nI k)) (sup P (jd + 7) P') T' S' C' n' z' ⟨agX.stp hjd x1 k1 fun q h1 h2 h3 => hfr q (by omega) h2 h3, k3, x3, by omega, by omega, by omega⟩ ⟨r1, r2, by decide, fun i hi => ?_⟩ ?_ s2_eq (fun i hi => by rw [sup_same]; exact k2 i hi) (fun i hi => by rw [s2_row hi, s2_row hi]) (fun i hi => sup_ne hi) (fun i hi => k4 i fun e he => by omega) (fun q hq => ⟨⟨hq.1, Nat.lt_of_lt_of_le hq.2.1 k7, fun i hi r hr => ?_⟩, ?_⟩) (fun q hq => hfr q (by omega) (by omega) (by omega))
    · obtain ⟨q1, q2⟩ := k5 i hi
      obtain ⟨-, c, hc, q3, q4⟩ := r4 i hi
      rw [show (0 + i) % 30 = i by omega]
      exact ⟨q1, c, hc, q3, q4.eq q2⟩
    · rw [s2_ne (by simp), s2_eq]
    · rcases k12 i r hr with h | h
      · exact hq.2.2 i hi r h
      · exact .inl (Nat.lt_of_lt_of_le hq.2.1 h)
    · have := hq.1
      refine k6 q hq.2.1 ?_ ?_ hq.2.2
      · show q ≠ X + (jd + 6)
        omega
      · show q ≠ X + (jd + 6) + 1
        omega
def trJ (j N : Nat) : Prop := (tr4 j ∧ N = 18) ∨ (tr5 j ∧ N = 24)
theorem xTr {j M : Nat} (hj : trJ j M) : xE X σ ρ A P R = TrE M (X + j) (σ j) (fun _ => A (j + 1)) (xE X σ ρ A P R) := by
  funext q
  unfold TrE
  by_cases h : q = X + j
  · rw [if_pos h, h]
    rcases hj with ⟨rfl | rfl, rfl⟩ | ⟨rfl | rfl, rfl⟩
    · rw [x_9]; rfl
    · rw [x_24]; rfl
    · rw [x_11]; rfl
    · rw [x_26]; rfl
  · rw [if_neg h]
    by_cases h2 : q = X + j + 1
    · rw [if_pos h2, h2]
      rcases hj with ⟨rfl | rfl, rfl⟩ | ⟨rfl | rfl, rfl⟩
      · rw [x_10]
      · rw [x_25]
      · rw [x_12]
      · rw [x_27]
    · rw [if_neg h2]
theorem xTrb {j M : Nat} {τ : Nat → Int32} {B : Nat → Nat → Int32} (hj : trJ j M) : TrE M (X + j) τ B (xE X σ ρ A P R) = xE X (sup σ j τ) ρ (sup A (j + 1) (B 1)) P R := by
  refine xE_ext (agTr hj agX_E) fun q hq => ?_
  have : j + 1 < 56 := by unfold trJ tr4 tr5 at hj; omega
  rw [Tr_out (by omega), xE_out hq]
theorem trcp_x {j j' M c q : Nat} (hj : trJ j M) (hj' : trJ j' M) (hd : j + 1 < j' ∨ j' + 1 < j) (h1 : σ j 1 = nI c) (h2 : σ j' 2 = nI q) (hq : q ≤ c) (hc : c ≤ 8) (hQ : ∀ σ' A', (∀ i, i ≠ j → σ' i = σ i) → σ' j 1 = σ j 1 → σ' j 2 = σ j' 2 → (∀ i, i ≠ j + 1 → A' i = A i) → (∀ i, i < M → A' (j + 1) i = A (j' + 1) i) → Q none (xE X σ' ρ A' P R) n z) : sp_X10_copy [.ref (X + j), .ref (X + j')] (xE X σ ρ A P R) n z Q := by
  have hM : M ≤ 24 := by unfold trJ at hj; omega
  refine ⟨M, σ j, fun _ => A (j + 1), σ j', fun _ => A (j' + 1), xE X σ ρ A P R, c, q, ?_, (show X + j + 1 < X + j' ∨ X + j' + 1 < X + j by omega), hM, h1, h2, hq, hc, ?_⟩
  · exact (xTr hj).trans (congrArg (TrE M (X + j) (σ j) fun _ => A (j + 1)) (xTr hj'))
  · rw [← xTr hj', xTrb hj]
    refine hQ _ _ (fun i hi => sup_ne hi) (by rw [sup_same, sup_ne (by decide)]) (by rw [sup_same, sup_same]) (fun i hi => sup_ne hi) (fun i hi => ?_)
    rw [sup_same, sup_same]
    exact cpy_lt hi
end CP
