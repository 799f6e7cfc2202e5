/-! what is read means: the reference's code, run over lists, comes to the meaning -/
def stE (ν κ : Nat → Int) (c : Nat × Int) (s : List Int × List Bool) : Option (List Int × List Bool) :=
  if c.1 ≤ 1 then some ((if c.1 = 0 then c.2 else ν c.2.toNat) :: s.1, s.2)
  else if c.1 = 3 then (match s.1, s.2 with
    | y :: x :: vs, b :: bs => some ((if b = true then x else y) :: vs, bs)
    | _, _ => none)
  else if c.1 = 5 ∨ c.1 = 2 then (match s.1 with
    | x :: vs => some ((if c.1 = 5 then -x else kndI κ x) :: vs, s.2)
    | _ => none)
  else if c.1 < 10 then (match s.1 with
    | y :: x :: vs => some ((if c.1 = 4 then rndI x y else ofTwoI (c.1 + 24) x y) :: vs, s.2)
    | _ => none)
  else if c.1 < 20 then (match s.1 with
    | y :: x :: vs => some (vs, cmpI (if c.1 = 10 then 26 else if c.1 = 11 then 37 else if c.1 = 12 then 27 else if c.1 = 13 then 38 else if c.1 = 14 then 28 else 29) x y :: s.2)
    | _ => none)
  else if c.1 = 20 then (match s.2 with
    | b :: bs => some (s.1, (!b) :: bs)
    | _ => none)
  else (match s.2 with
    | b :: a :: bs => some (s.1, (if c.1 = 21 then a && b else a || b) :: bs)
    | _ => none)
def evE (ν κ : Nat → Int) : List (Nat × Int) → List Int × List Bool → Option (List Int × List Bool)
  | [], s => some s
  | c :: cs, s => match stE ν κ c s with
    | some s' => evE ν κ cs s'
    | none => none
theorem evE_app (ν κ : Nat → Int) : ∀ (a b : List (Nat × Int)) (s t : List Int × List Bool), evE ν κ a s = some t → evE ν κ (a ++ b) s = evE ν κ b t
  | [], b, s, t, h => by
    simp only [evE, Option.some.injEq] at h
    rw [h]; rfl
  | c :: a, b, s, t, h => by
    have h' : (match stE ν κ c s with
      | some s' => evE ν κ a s'
      | none => none) = some t := h
    show (match stE ν κ c s with
      | some s' => evE ν κ (a ++ b) s'
      | none => none) = evE ν κ b t
    cases e : stE ν κ c s with
    | none => rw [e] at h'; cases h'
    | some s' =>
      rw [e] at h'
      exact evE_app ν κ a b s' t h'
def fits6 (x : Int) : Prop := -1000000 ≤ x ∧ x ≤ 1000000
def bndE (ν κ : Nat → Int) : Prop := (∀ k, fits6 (ν k)) ∧ ∀ k, fits6 (κ k)
theorem clip_fits (x : Int) : fits6 (clipI x) := by
  unfold fits6 clipI
  split
  · omega
  · split <;> omega
theorem rnd_fits {x y : Int} (hy : fits6 y) : fits6 (rndI x y) := by
  unfold rndI
  split
  · unfold fits6; omega
  · have h1 := Int.tmod_nonneg y (a := x.tmod y + y) (by have := Int.lt_tmod_of_pos x (b := y) (by omega); omega)
    have h2 := Int.tmod_lt_of_pos (x.tmod y + y) (b := y) (by omega)
    unfold fits6 at *
    omega
theorem two_fits {s : Nat} {x y : Int} : fits6 (ofTwoI s x y) := by
  unfold ofTwoI
  repeat' split
  all_goals first | exact clip_fits _ | (unfold fits6; omega)
theorem knd_fits {κ : Nat → Int} {x : Int} (h : ∀ k, fits6 (κ k)) : fits6 (kndI κ x) := by
  unfold kndI
  split
  · exact h _
  · unfold fits6; omega
theorem bi_fits (b : Bool) : fits6 (bi b) := by cases b <;> simp [bi, fits6]
def okO (cat : Bool) (c : Nat × Int) : Prop := c.1 ≤ 22 ∧ (c.1 = 0 → 0 ≤ c.2 ∧ c.2 ≤ 9999) ∧ (c.1 = 1 → 0 ≤ c.2 ∧ c.2 < 8 ∧ (cat = false → c.2 ≤ 3))
def okI (cat : Bool) (a : rI) : Prop := (∀ c ∈ a.1, okO cat c) ∧ (∀ ν κ, bndE ν κ → fits6 (a.2 ν κ)) ∧ (cat = false → ∀ ν ν' κ, (∀ k, k ≤ 3 → ν k = ν' k) → a.2 ν κ = a.2 ν' κ)
def meA (cat : Bool) (a : rI) : Prop := okI cat a ∧ ∀ ν κ vs bs, evE ν κ a.1 (vs, bs) = some (a.2 ν κ :: vs, bs)
def meQ (cat : Bool) (a : rI) : Prop := okI cat a ∧ ∀ ν κ vs bs, evE ν κ a.1 (vs, bs) = some (vs, decide (a.2 ν κ ≠ 0) :: bs)
theorem ok_app {cat : Bool} {a b : List (Nat × Int)} {c : Nat × Int} (ha : ∀ c ∈ a, okO cat c) (hb : ∀ c ∈ b, okO cat c) (hc : okO cat c) : ∀ x ∈ a ++ b ++ [c], okO cat x := fun x hx => by
  simp only [List.mem_append, List.mem_singleton] at hx
  rcases hx with (h | h) | h
  · exact ha x h
  · exact hb x h
  · rw [h]; exact hc
theorem ok_app1 {cat : Bool} {a : List (Nat × Int)} {c : Nat × Int} (ha : ∀ c ∈ a, okO cat c) (hc : okO cat c) : ∀ x ∈ a ++ [c], okO cat x := fun x hx => by
  simp only [List.mem_append, List.mem_singleton] at hx
  rcases hx with h | h
  · exact ha x h
  · rw [h]; exact hc
theorem okO_hi (cat : Bool) {o : Nat} (h1 : 2 ≤ o) (h2 : o ≤ 22) : okO cat (o, 0) := ⟨h2, fun h => by simp only at h; omega, fun h => by simp only at h; omega⟩
theorem bi_ne (b : Bool) : decide (bi b ≠ 0) = b := by cases b <;> rfl
section MEAN
variable {cat : Bool}
theorem me_A {s : Nat} {a b : rI} (hs : isAdd s = true ∨ isMul s = true) (ha : meA cat a) (hb : meA cat b) : meA cat (mkA s a b) := by
  obtain ⟨⟨a1, a2, a3⟩, a4⟩ := ha
  obtain ⟨⟨b1, b2, b3⟩, b4⟩ := hb
  have ho : oOf s + 24 = s ∧ 6 ≤ oOf s ∧ oOf s ≤ 9 := by
    simp only [isAdd, isMul, Bool.or_eq_true, beq_iff_eq] at hs
    rcases hs with (rfl | rfl) | (rfl | rfl) <;> decide
  refine ⟨⟨ok_app a1 b1 (okO_hi cat (by omega) (by omega)), fun ν κ h => two_fits, fun hc ν ν' κ h => ?_⟩, fun ν κ vs bs => ?_⟩
  · simp only [mkA, a3 hc ν ν' κ h, b3 hc ν ν' κ h]
  · simp only [mkA]
    rw [evE_app ν κ _ _ _ _ (by rw [evE_app ν κ _ _ _ _ (a4 ν κ vs bs)]; exact b4 ν κ _ bs)]
    simp only [evE, stE]
    rw [if_neg (by omega), if_neg (by omega), if_neg (by omega), if_pos (by omega), if_neg (by omega), ho.1]
theorem me_C {s : Nat} {a b : rI} (hs : isCmp s = true) (ha : meA cat a) (hb : meA cat b) : meQ cat (mkC s a b) := by
  obtain ⟨⟨a1, a2, a3⟩, a4⟩ := ha
  obtain ⟨⟨b1, b2, b3⟩, b4⟩ := hb
  have ho : (if oOf s = 10 then 26 else if oOf s = 11 then 37 else if oOf s = 12 then 27 else if oOf s = 13 then 38 else if oOf s = 14 then 28 else 29) = s ∧ 10 ≤ oOf s ∧ oOf s < 20 := by
    simp only [isCmp, Bool.or_eq_true, beq_iff_eq] at hs
    rcases hs with ((((rfl | rfl) | rfl) | rfl) | rfl) | rfl <;> decide
  refine ⟨⟨ok_app a1 b1 (okO_hi cat (by omega) (by omega)), fun ν κ h => bi_fits _, fun hc ν ν' κ h => ?_⟩, fun ν κ vs bs => ?_⟩
  · simp only [mkC, a3 hc ν ν' κ h, b3 hc ν ν' κ h]
  · simp only [mkC]
    rw [evE_app ν κ _ _ _ _ (by rw [evE_app ν κ _ _ _ _ (a4 ν κ vs bs)]; exact b4 ν κ _ bs)]
    simp only [evE, stE]
    rw [if_neg (by omega), if_neg (by omega), if_neg (by omega), if_neg (by omega), if_pos (by omega), ho.1]
    show some (vs, cmpI s (a.2 ν κ) (b.2 ν κ) :: bs) = some (vs, decide ((bi (cmpI s (a.2 ν κ) (b.2 ν κ))) ≠ 0) :: bs)
    rw [bi_ne]
theorem me_And {a b : rI} (ha : meQ cat a) (hb : meQ cat b) : meQ cat (mkAnd 21 a b) := by
  obtain ⟨⟨a1, a2, a3⟩, a4⟩ := ha
  obtain ⟨⟨b1, b2, b3⟩, b4⟩ := hb
  refine ⟨⟨ok_app a1 b1 (okO_hi cat (by decide) (by decide)), fun ν κ h => bi_fits _, fun hc ν ν' κ h => ?_⟩, fun ν κ vs bs => ?_⟩
  · simp only [mkAnd, a3 hc ν ν' κ h, b3 hc ν ν' κ h]
  · simp only [mkAnd]
    rw [evE_app ν κ _ _ _ _ (by rw [evE_app ν κ _ _ _ _ (a4 ν κ vs bs)]; exact b4 ν κ _ _)]
    simp [evE, stE, bi_ne, show oOf 21 = 21 from rfl, bi]
theorem me_Or {a b : rI} (ha : meQ cat a) (hb : meQ cat b) : meQ cat (mkOr 20 a b) := by
  obtain ⟨⟨a1, a2, a3⟩, a4⟩ := ha
  obtain ⟨⟨b1, b2, b3⟩, b4⟩ := hb
  refine ⟨⟨ok_app a1 b1 (okO_hi cat (by decide) (by decide)), fun ν κ h => bi_fits _, fun hc ν ν' κ h => ?_⟩, fun ν κ vs bs => ?_⟩
  · simp only [mkOr, a3 hc ν ν' κ h, b3 hc ν ν' κ h]
  · simp only [mkOr]
    rw [evE_app ν κ _ _ _ _ (by rw [evE_app ν κ _ _ _ _ (a4 ν κ vs bs)]; exact b4 ν κ _ _)]
    simp [evE, stE, show oOf 20 = 22 from rfl, bi]
theorem me_Not {a : rI} (ha : meQ cat a) : meQ cat (mkNot a) := by
  obtain ⟨⟨a1, a2, a3⟩, a4⟩ := ha
  refine ⟨⟨ok_app1 a1 (okO_hi cat (by decide) (by decide)), fun ν κ h => bi_fits _, fun hc ν ν' κ h => ?_⟩, fun ν κ vs bs => ?_⟩
  · simp only [mkNot, a3 hc ν ν' κ h]
  · simp only [mkNot]
    rw [evE_app ν κ _ _ _ _ (a4 ν κ vs bs)]
    by_cases h1 : a.2 ν κ = 0 <;> simp [evE, stE, bi, h1]
theorem me_Neg {a : rI} (ha : meA cat a) : meA cat (mkNeg a) := by
  obtain ⟨⟨a1, a2, a3⟩, a4⟩ := ha
  refine ⟨⟨ok_app1 a1 (okO_hi cat (by decide) (by decide)), fun ν κ h => ?_, fun hc ν ν' κ h => ?_⟩, fun ν κ vs bs => ?_⟩
  · have := a2 ν κ h
    simp only [mkNeg, fits6] at *
    omega
  · simp only [mkNeg, a3 hc ν ν' κ h]
  · simp only [mkNeg]
    rw [evE_app ν κ _ _ _ _ (a4 ν κ vs bs)]
    simp [evE, stE]
theorem me_Knd {a : rI} (ha : meA cat a) : meA cat (mkKnd a) := by
  obtain ⟨⟨a1, a2, a3⟩, a4⟩ := ha
  refine ⟨⟨ok_app1 a1 (okO_hi cat (by decide) (by decide)), fun ν κ h => knd_fits h.2, fun hc ν ν' κ h => ?_⟩, fun ν κ vs bs => ?_⟩
  · simp only [mkKnd, a3 hc ν ν' κ h]
  · simp only [mkKnd]
    rw [evE_app ν κ _ _ _ _ (a4 ν κ vs bs)]
    simp [evE, stE]
theorem me_Rnd {a b : rI} (ha : meA cat a) (hb : meA cat b) : meA cat (mkRnd a b) := by
  obtain ⟨⟨a1, a2, a3⟩, a4⟩ := ha
  obtain ⟨⟨b1, b2, b3⟩, b4⟩ := hb
  refine ⟨⟨ok_app a1 b1 (okO_hi cat (by decide) (by decide)), fun ν κ h => rnd_fits (b2 ν κ h), fun hc ν ν' κ h => ?_⟩, fun ν κ vs bs => ?_⟩
  · simp only [mkRnd, a3 hc ν ν' κ h, b3 hc ν ν' κ h]
  · simp only [mkRnd]
    rw [evE_app ν κ _ _ _ _ (by rw [evE_app ν κ _ _ _ _ (a4 ν κ vs bs)]; exact b4 ν κ _ _)]
    simp [evE, stE]
theorem me_Sel {q a b : rI} (hq : meQ cat q) (ha : meA cat a) (hb : meA cat b) : meA cat (mkSel q a b) := by
  obtain ⟨⟨q1, q2, q3⟩, q4⟩ := hq
  obtain ⟨⟨a1, a2, a3⟩, a4⟩ := ha
  obtain ⟨⟨b1, b2, b3⟩, b4⟩ := hb
  refine ⟨⟨?_, fun ν κ h => ?_, fun hc ν ν' κ h => ?_⟩, fun ν κ vs bs => ?_⟩
  · intro x hx
    simp only [mkSel, List.mem_append, List.mem_singleton] at hx
    rcases hx with ((h | h) | h) | h
    · exact q1 x h
    · exact a1 x h
    · exact b1 x h
    · rw [h]; exact okO_hi cat (by decide) (by decide)
  · simp only [mkSel]
    split
    · exact b2 ν κ h
    · exact a2 ν κ h
  · simp only [mkSel, q3 hc ν ν' κ h, a3 hc ν ν' κ h, b3 hc ν ν' κ h]
  · simp only [mkSel]
    rw [evE_app ν κ _ _ _ _ (by rw [evE_app ν κ _ _ _ _ (by rw [evE_app ν κ _ _ _ _ (q4 ν κ vs bs)]; exact a4 ν κ _ _)]; exact b4 ν κ _ _)]
    by_cases h1 : q.2 ν κ = 0 <;> simp [evE, stE, h1]
def rAll (P : rI → Prop) (g : Nat → rR) : Prop := ∀ i j a, g i = .inr (j, a) → P a
theorem tail_all {S : Nat → Nat} {pr : Nat → Bool} {nxt : Nat → rR} {mk : Nat → rI → rI → rI} {P : rI → Prop} (hn : rAll P nxt) (hmk : ∀ s a b, pr s = true → P a → P b → P (mk s a b)) : ∀ (f i : Nat) (a : rI) (j : Nat) (b : rI), P a → rTail S pr nxt mk f i a = .inr (j, b) → P b
  | 0, i, a, j, b, ha, h => by
    simp only [rTail, Sum.inr.injEq, Prod.mk.injEq] at h
    rw [← h.2]; exact ha
  | f + 1, i, a, j, b, ha, h => by
    unfold rTail at h
    split at h
    · rename_i hp
      obtain ⟨j0, a0, h0, h1⟩ := rBind_inr h
      exact tail_all hn hmk f j0 _ j b (hmk _ _ _ hp ha (hn _ _ _ h0)) h1
    · simp only [Sum.inr.injEq, Prod.mk.injEq] at h
      rw [← h.2]; exact ha
theorem prod_all {S : Nat → Nat} {one : Nat → rR} (h : rAll (meA cat) one) : rAll (meA cat) (rProd S one) := fun i j a e => by
  obtain ⟨j0, a0, h0, h1⟩ := rBind_inr e
  exact tail_all (pr := isMul) (mk := mkA) h (fun s a b hs => me_A (Or.inr hs)) _ _ _ _ _ (h _ _ _ h0) h1
theorem sum_all {S : Nat → Nat} {one : Nat → rR} (h : rAll (meA cat) one) : rAll (meA cat) (rSum S one) := fun i j a e => by
  obtain ⟨j0, a0, h0, h1⟩ := rBind_inr e
  exact tail_all (pr := isAdd) (mk := mkA) (prod_all h) (fun s a b hs => me_A (Or.inl hs)) _ _ _ _ _ (prod_all h _ _ _ h0) h1
theorem cmp_all {S : Nat → Nat} {one : Nat → rR} (h : rAll (meA cat) one) : rAll (meQ cat) (rCmp S one) := fun i j a e => by
  obtain ⟨j0, a0, h0, h1⟩ := rBind_inr e
  split at h1
  · rename_i hc
    obtain ⟨j2, a2, h2, h3⟩ := rBind_inr h1
    simp only [Sum.inr.injEq, Prod.mk.injEq] at h3
    rw [← h3.2]
    exact me_C hc (sum_all h _ _ _ h0) (sum_all h _ _ _ h2)
  · cases h1
theorem both_all {S : Nat → Nat} {q : Nat → rR} (h : rAll (meQ cat) q) : rAll (meQ cat) (rBoth S q) := fun i j a e => by
  obtain ⟨j0, a0, h0, h1⟩ := rBind_inr e
  refine tail_all h (fun s a b hs ha hb => ?_) _ _ _ _ _ (h _ _ _ h0) h1
  rw [show s = 21 by simpa using hs]
  exact me_And ha hb
theorem either_all {S : Nat → Nat} {q : Nat → rR} (h : rAll (meQ cat) q) : rAll (meQ cat) (rEither S q) := fun i j a e => by
  obtain ⟨j0, a0, h0, h1⟩ := rBind_inr e
  refine tail_all (both_all h) (fun s a b hs ha hb => ?_) _ _ _ _ _ (both_all h _ _ _ h0) h1
  rw [show s = 20 by simpa using hs]
  exact me_Or ha hb
theorem opn_all {S : Nat → Nat} {one q : Nat → rR} (h : rAll (meA cat) one) (hq : rAll (meQ cat) q) : rAll (meA cat) (rOpn S one q) := fun i j a e => by
  unfold rOpn at e
  split at e
  · obtain ⟨j0, a0, h0, h1⟩ := rBind_inr e
    have h2 := (rExp_inr h1).2
    simp only [Sum.inr.injEq, Prod.mk.injEq] at h2
    rw [← h2.2]
    exact sum_all h _ _ _ h0
  · split at e
    · obtain ⟨j0, a0, h0, h1⟩ := rBind_inr e
      simp only [Sum.inr.injEq, Prod.mk.injEq] at h1
      rw [← h1.2]
      exact me_Neg (h _ _ _ h0)
    · split at e
      · obtain ⟨j0, a0, h0, h1⟩ := rBind_inr e
        obtain ⟨j2, a2, h2, h3⟩ := rBind_inr (rExp_inr h1).2
        simp only [Sum.inr.injEq, Prod.mk.injEq] at h3
        rw [← h3.2]
        exact me_Rnd (h _ _ _ h0) (h _ _ _ h2)
      · split at e
        · obtain ⟨j0, a0, h0, h1⟩ := rBind_inr e
          simp only [Sum.inr.injEq, Prod.mk.injEq] at h1
          rw [← h1.2]
          exact me_Knd (h _ _ _ h0)
        · obtain ⟨j0, a0, h0, h1⟩ := rBind_inr e
          obtain ⟨j2, a2, h2, h3⟩ := rBind_inr (rExp_inr h1).2
          obtain ⟨j4, a4, h4, h5⟩ := rBind_inr (rExp_inr h3).2
          have h6 := (rExp_inr h5).2
          simp only [Sum.inr.injEq, Prod.mk.injEq] at h6
          rw [← h6.2]
          exact me_Sel (either_all hq _ _ _ h0) (sum_all h _ _ _ h2) (sum_all h _ _ _ h4)
theorem nm_lt {s : Nat} : nmOf s ≤ 8 := by
  unfold nmOf
  repeat' split
  all_goals omega
theorem oneB_all {S V : Nat → Nat} {op : Nat → rR} (h : rAll (meA cat) op) : rAll (meA cat) (rOneB S V cat op) := fun i j a e => by
  unfold rOneB at e
  split at e
  · split at e
    · cases e
    · rename_i hv
      simp only [Sum.inr.injEq, Prod.mk.injEq] at e
      rw [← e.2]
      refine ⟨⟨fun c hc => ?_, fun ν κ _ => ?_, fun _ _ _ _ _ => rfl⟩, fun ν κ vs bs => ?_⟩
      · simp only [List.mem_singleton] at hc
        rw [hc]
        exact ⟨by simp, fun _ => by simp only; omega, fun q => by simp at q⟩
      · simp only [fits6]; omega
      · simp [evE, stE]
  · split at e
    · rename_i hn
      split at e
      · cases e
      · rename_i hc
        simp only [Sum.inr.injEq, Prod.mk.injEq] at e
        rw [← e.2]
        refine ⟨⟨fun c hx => ?_, fun ν κ hb => hb.1 _, fun hcf ν ν' κ hk => ?_⟩, fun ν κ vs bs => ?_⟩
        · simp only [List.mem_singleton] at hx
          rw [hx]
          refine ⟨by simp, fun q => by simp at q, fun _ => ⟨by simp, by simp only; omega, fun hf => ?_⟩⟩
          have : ¬ 3 < nmOf (S i) := fun q => hc ⟨q, hf⟩
          simp only
          omega
        · exact hk _ (by have : ¬ 3 < nmOf (S i) := fun q => hc ⟨q, hcf⟩; omega)
        · simp [evE, stE]
    · split at e
      · exact h _ _ _ e
      · cases e
theorem lv_all (S V : Nat → Nat) : ∀ d, rAll (meA cat) (rLv S V cat d).1 ∧ rAll (meQ cat) (rLv S V cat d).2
  | 0 => by
    have h1 : rAll (meA cat) (rOneB S V cat (fun i => .inl (3, i))) := oneB_all (fun i j a e => by cases e)
    refine ⟨h1, fun i j a e => ?_⟩
    simp only [rLv] at e
    split at e
    · cases e
    · exact cmp_all h1 _ _ _ e
  | d + 1 => by
    obtain ⟨i1, i2⟩ := lv_all S V d
    have h1 : rAll (meA cat) (rOneB S V cat (rOpn S (rLv S V cat d).1 (rLv S V cat d).2)) := oneB_all (opn_all i1 i2)
    refine ⟨h1, fun i j a e => ?_⟩
    simp only [rLv] at e
    split at e
    · obtain ⟨j0, a0, h0, h2⟩ := rBind_inr e
      simp only [Sum.inr.injEq, Prod.mk.injEq] at h2
      rw [← h2.2]
      exact me_Not (i2 _ _ _ h0)
    · exact cmp_all h1 _ _ _ e
/-- what a law reads means -/
theorem law_me {S V : Nat → Nat} {i j : Nat} {a : rI} (h : rSum S (rLv S V cat 8).1 i = .inr (j, a)) : meA cat a := sum_all (lv_all S V 8).1 _ _ _ h
end MEAN
