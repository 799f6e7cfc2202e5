/-! the class's world as the state a: the square now, the steps, the texts -/
def SqD (d : Sqd) (ch : Nat) (a : Nat → Int32) : Prop := (d.1 5 = a 6 ∧ (∀ i, i < 30 → d.2 1 i = a (9 + i)) ∧ ∀ i, i < 30 → d.2 2 i = a (39 + i)) ∧ d.1 6 = a 7 ∧ (∀ c, c < 7 → d.2 3 c = if c < ch then a (69 + c) else -nI 1) ∧ ∃ b, b ≤ 30 ∧ d.1 4 = nI b ∧ (a 8 = nI b ∧ ∀ i, i < b → ∀ k, k < 4 → d.2 4 (4 * i + k) = entF (a (3175 + i)) (nI k))
theorem SqR_D {σ : Nat → Nat → Int32} {A : Nat → Nat → Int32} {j ch : Nat} {a : Nat → Int32} : SqR true σ A j ch a ↔ SqD (σ j, fun k => A (j + k)) ch a := by
  constructor
  · rintro ⟨h1, h2, h3, b, h4, h5, h6⟩
    exact ⟨h1, h2, h3, b, h4, h5, h6 rfl⟩
  · rintro ⟨h1, h2, h3, b, h4, h5, h6⟩
    exact ⟨h1, h2, h3, b, h4, h5, fun _ => h6⟩
theorem SqD.eq {d e : Sqd} {ch : Nat} {a : Nat → Int32} (h : SqD e ch a) (g : sqEq d e) : SqD d ch a := by
  obtain ⟨⟨h1, h2, h3⟩, h4, h5, b, h6, h7, h8, h9⟩ := h
  obtain ⟨g1, g2, g3, g4, g5, g6, g7⟩ := g
  refine ⟨⟨g2.trans h1, fun i hi => (g4 i hi).trans (h2 i hi), fun i hi => (g5 i hi).trans (h3 i hi)⟩, g3.trans h4, fun c hc => (g6 c hc).trans (h5 c hc), b, h6, g1.trans h7, h8, fun i hi k hk => (g7 b h6 h7 _ (by omega)).trans (h9 i hi k hk)⟩
theorem SqD.a {d : Sqd} {ch : Nat} {a a' : Nat → Int32} (h : SqD d ch a) (hc : ch ≤ 7) (e : ∀ j, 6 ≤ j → j < 76 → a' j = a j) (e2 : ∀ j, j < 30 → a' (3175 + j) = a (3175 + j)) : SqD d ch a' := by
  obtain ⟨⟨h1, h2, h3⟩, h4, h5, b, h6, h7, h8, h9⟩ := h
  refine ⟨⟨by rw [e 6 (by decide) (by decide)]; exact h1, fun i hi => by rw [e _ (by omega) (by omega)]; exact h2 i hi, fun i hi => by rw [e _ (by omega) (by omega)]; exact h3 i hi⟩, by rw [e 7 (by decide) (by decide)]; exact h4, fun c hc => by rw [e _ (by omega) (by omega)]; exact h5 c hc, b, h6, h7, by rw [e 8 (by decide) (by decide)]; exact h8, fun i hi k hk => by rw [e2 i (by omega)]; exact h9 i hi k hk⟩
/-- the state as it was kept by the step i -/
def rowS (a : Nat → Int32) (i : Nat) : Nat → Int32 := fun j => if 6 ≤ j ∧ j < 76 then a (146 + 101 * i + (j - 6)) else if 3175 ≤ j ∧ j < 3205 then a (216 + 101 * i + (j - 3175)) else a (145 + 101 * i)
theorem rowS_lo {a : Nat → Int32} {i j : Nat} (h1 : 6 ≤ j) (h2 : j < 76) : rowS a i j = a (146 + 101 * i + (j - 6)) := if_pos ⟨h1, h2⟩
theorem rowS_hi {a : Nat → Int32} {i j : Nat} (h : j < 30) : rowS a i (3175 + j) = a (216 + 101 * i + j) := by
  unfold rowS
  rw [if_neg (by omega), if_pos (by omega), Nat.add_sub_cancel_left]
theorem ke1_row {a : Nat → Int32} {s i : Nat} (hs : s < 30) (hi : i < s) {j : Nat} (hj : j < 101) : keF1 a s (145 + 101 * i + j) = a (145 + 101 * i + j) := by
  unfold keF1
  rw [pk_un (by omega)]
  unfold keB keA
  rw [if_neg (by omega), if_neg (by omega), if_neg (by omega)]
theorem ke1_new {a : Nat → Int32} {s : Nat} (hs : s < 30) : (∀ j, 6 ≤ j → j < 76 → rowS (keF1 a s) s j = a j) ∧ (∀ j, j < 30 → rowS (keF1 a s) s (3175 + j) = a (3175 + j)) ∧ keF1 a s (145 + 101 * s) = a 0 := by
  refine ⟨fun j h1 h2 => ?_, fun j hj => ?_, ?_⟩
  · rw [rowS_lo h1 h2]
    unfold keF1
    rw [pk_un (by omega)]
    unfold keB keA
    rw [if_neg (by omega), if_pos (by omega)]
    congr 1
    omega
  · rw [rowS_hi hj]
    unfold keF1
    rw [pk_un (by omega)]
    unfold keB
    rw [if_pos (by omega)]
    congr 1
    omega
  · unfold keF1
    rw [pk_un (by omega)]
    unfold keB keA
    rw [if_neg (by omega), if_neg (by omega), if_pos rfl]
theorem sh_row {a : Nat → Int32} {i j : Nat} (hi : i < 29) (hj : j < 101) : upd (shS a 2929) 3 (nI 29) (145 + 101 * i + j) = a (145 + 101 * (i + 1) + j) := by
  rw [pk_un (by omega)]
  unfold shS
  rw [if_pos (by omega)]
  congr 1
  omega
theorem rowS_eq {a a' : Nat → Int32} {i i' : Nat} (h : ∀ j, j < 101 → a' (145 + 101 * i' + j) = a (145 + 101 * i + j)) : (∀ j, 6 ≤ j → j < 76 → rowS a' i' j = rowS a i j) ∧ (∀ j, j < 30 → rowS a' i' (3175 + j) = rowS a i (3175 + j)) ∧ a' (145 + 101 * i') = a (145 + 101 * i) := by
  refine ⟨fun j h1 h2 => ?_, fun j hj => ?_, h 0 (by decide)⟩
  · rw [rowS_lo h1 h2, rowS_lo h1 h2]
    have := h (j - 5) (by omega)
    rw [show 145 + 101 * i' + (j - 5) = 146 + 101 * i' + (j - 6) by omega, show 145 + 101 * i + (j - 5) = 146 + 101 * i + (j - 6) by omega] at this
    exact this
  · rw [rowS_hi hj, rowS_hi hj]
    have := h (71 + j) (by omega)
    rw [show 145 + 101 * i' + (71 + j) = 216 + 101 * i' + j by omega, show 145 + 101 * i + (71 + j) = 216 + 101 * i + j by omega] at this
    exact this
/-- what is kept: row i of the state a is kept in the ring's row (f + i) % 30 -/
def StR (a : Nat → Int32) (T : Nat → Option Nat) (S : Nat → Sqd) (o f k : Nat) : Prop := a 3 = nI k ∧ k ≤ 30 ∧ f < 30 ∧ ∀ i, i < k → T (o + (f + i) % 30) ≠ none ∧ ∃ c, c ≤ 7 ∧ a (145 + 101 * i) = nI c ∧ SqD (S (o + (f + i) % 30)) c (rowS a i)
theorem StR.ke {a : Nat → Int32} {T T' : Nat → Option Nat} {S S' : Nat → Sqd} {o f k ch : Nat} {d : Sqd} (h : StR a T S o f k) (h0 : a 0 = nI ch) (hch : ch ≤ 7) (hd : SqD d ch a) (hT : T' (o + kpJ f k) ≠ none) (hTS : ∀ j, j ≠ o + kpJ f k → T' j = T j ∧ S' j = S j) (hS : sqEq (S' (o + kpJ f k)) d) : StR (keF a k) T' S' o (kpF f k) (kpK k) := by
  obtain ⟨h3, hk, hf, hr⟩ := h
  refine ⟨?_, ?_, ?_, fun i hi => ?_⟩
  · rw [keF_3]; rfl
  · unfold kpK; split <;> omega
  · unfold kpF; split
    · exact Nat.mod_lt _ (by decide)
    · exact hf
  · have key : ∀ (b : Nat → Int32) (s fs : Nat), s < 30 → i ≤ s → fs < 30 → (i = s → (fs + i) % 30 = kpJ f k) → (i ≠ s → (fs + i) % 30 ≠ kpJ f k ∧ ∃ i', i' < k ∧ (fs + i) % 30 = (f + i') % 30 ∧ ∀ j, j < 101 → b (145 + 101 * i + j) = a (145 + 101 * i' + j)) → (b 0 = a 0 ∧ (∀ j, 6 ≤ j → j < 76 → b j = a j) ∧ ∀ j, j < 30 → b (3175 + j) = a (3175 + j)) → T' (o + (fs + i) % 30) ≠ none ∧ ∃ c, c ≤ 7 ∧ keF1 b s (145 + 101 * i) = nI c ∧ SqD (S' (o + (fs + i) % 30)) c (rowS (keF1 b s) i) := by
      intro b s fs hs his hfs e1 e2 e3
      by_cases q : i = s
      · rw [e1 q]
        subst q
        obtain ⟨n1, n2, n3⟩ := ke1_new (a := b) hs
        refine ⟨hT, ch, hch, by rw [n3, e3.1]; exact h0, (hd.eq hS).a hch (fun j q1 q2 => by rw [n1 j q1 q2]; exact e3.2.1 j q1 q2) (fun j q1 => by rw [n2 j q1]; exact e3.2.2 j q1)⟩
      · obtain ⟨ne, i', hi', e4, e5⟩ := e2 q
        obtain ⟨t1, t2⟩ := hTS (o + (fs + i) % 30) (by omega)
        obtain ⟨u1, c, hc, u2, u3⟩ := hr i' hi'
        have hrow := rowS_eq (a := a) (a' := keF1 b s) (i := i') (i' := i) fun j hj => by rw [ke1_row hs (by omega) hj]; exact e5 j hj
        rw [t1, t2, e4]
        exact ⟨u1, c, hc, by rw [hrow.2.2]; exact u2, u3.a hc hrow.1 hrow.2.1⟩
    unfold keF kpF kpK at *
    unfold kpJ at key
    by_cases q : k = 30
    · subst q
      rw [if_pos rfl] at hi ⊢
      rw [if_pos rfl]
      refine key _ 29 ((f + 1) % 30) (by decide) (by omega) (Nat.mod_lt _ (by decide)) (fun e => by rw [if_pos rfl]; omega) (fun e => ⟨by rw [if_pos rfl]; omega, i + 1, by omega, by omega, fun j hj => ?_⟩) ⟨?_, fun j q1 q2 => ?_, fun j q1 => ?_⟩
      · exact sh_row (by omega) hj
      · rw [pk_un (by decide)]; rfl
      · rw [pk_un (by omega)]
        unfold shS
        rw [if_neg (by omega)]
      · rw [pk_un (by omega)]
        unfold shS
        rw [if_neg (by omega)]
    · rw [if_neg q] at hi ⊢
      rw [if_neg q]
      exact key a k f (by omega) (by omega) hf (fun e => by rw [if_neg q, e]) (fun e => ⟨by rw [if_neg q]; omega, i, by omega, rfl, fun j hj => rfl⟩) ⟨rfl, fun _ _ _ => rfl, fun _ _ => rfl⟩
