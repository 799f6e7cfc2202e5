/-! the class's code, run over lists: from a place to a place it puts a value upon the stack -/
def twoC (o : Nat) (x y : Int) : Int := if o = 13 then rndI x y else if isCmp o = true then bi (cmpI o x y) else if o = 21 then bi (decide (x ≠ 0 ∧ y ≠ 0)) else if isAdd o = true ∨ isMul o = true then ofTwoI o x y else bi (decide (x ≠ 0 ∨ y ≠ 0))
def isLeafC (o : Nat) : Bool := o == 39 || decide (nmOf o < 8)
def stC (cd : Nat → Nat) (ν κ : Nat → Int) (s : Nat × List Int) : Option (Nat × List Int) :=
  if cd s.1 = 18 then some (max (s.1 + 2) (cd (s.1 + 1)), s.2)
  else if isLeafC (cd s.1) = true then (if s.2.length < 64 then some (s.1 + 2, (if cd s.1 = 39 then (cd (s.1 + 1) : Int) else ν (nmOf (cd s.1))) :: s.2) else none)
  else if cd s.1 = 22 ∨ cd s.1 = 15 then (match s.2 with
    | x :: r => some (s.1 + 2, (if cd s.1 = 22 then bi (decide (x = 0)) else kndI κ x) :: r)
    | [] => none)
  else if cd s.1 = 16 then (match s.2 with
    | x :: r => some (if x = 0 then max (s.1 + 2) (cd (s.1 + 1)) else s.1 + 2, r)
    | [] => none)
  else (match s.2 with
    | y :: x :: r => some (s.1 + 2, twoC (cd s.1) x y :: r)
    | _ => none)
def runC (cd : Nat → Nat) (ν κ : Nat → Int) (b e : Nat) : Nat → Nat × List Int → Option (Nat × List Int)
  | 0, s => some s
  | k + 1, s => if b ≤ s.1 ∧ s.1 + 2 ≤ e then (match stC cd ν κ s with
    | some s' => runC cd ν κ b e k s'
    | none => none) else none
def goC (cd : Nat → Nat) (ν κ : Nat → Int) (b e : Nat) (s t : Nat × List Int) : Prop := ∃ k, runC cd ν κ b e k s = some t
theorem goC.refl {cd : Nat → Nat} {ν κ : Nat → Int} {b e : Nat} {s : Nat × List Int} : goC cd ν κ b e s s := ⟨0, rfl⟩
theorem goC.step {cd : Nat → Nat} {ν κ : Nat → Int} {b e : Nat} {s t u : Nat × List Int} (h1 : b ≤ s.1 ∧ s.1 + 2 ≤ e) (h2 : stC cd ν κ s = some t) (h3 : goC cd ν κ b e t u) : goC cd ν κ b e s u := by
  obtain ⟨k, hk⟩ := h3
  refine ⟨k + 1, ?_⟩
  unfold runC
  rw [if_pos h1, h2]
  exact hk
theorem runC_trans {cd : Nat → Nat} {ν κ : Nat → Int} {b e b' e' : Nat} (hb : b ≤ b') (he : e' ≤ e) : ∀ (k : Nat) (s t u : Nat × List Int), runC cd ν κ b' e' k s = some t → goC cd ν κ b e t u → goC cd ν κ b e s u
  | 0, s, t, u, h, h2 => by
    simp only [runC, Option.some.injEq] at h
    rw [h]; exact h2
  | k + 1, s, t, u, h, h2 => by
    unfold runC at h
    split at h
    · split at h
      · rename_i h1 _ s' e1
        exact goC.step ⟨by omega, by omega⟩ e1 (runC_trans hb he k s' t u h h2)
      · cases h
    · cases h
theorem goC.trans {cd : Nat → Nat} {ν κ : Nat → Int} {b e b' e' : Nat} {s t u : Nat × List Int} (hb : b ≤ b') (he : e' ≤ e) (h : goC cd ν κ b' e' s t) (h2 : goC cd ν κ b e t u) : goC cd ν κ b e s u := by
  obtain ⟨k, hk⟩ := h
  exact runC_trans hb he k s t u hk h2
theorem runC_agr {cd cd' : Nat → Nat} {ν κ : Nat → Int} {b e : Nat} (h : ∀ k, b ≤ k → k < e → cd' k = cd k) : ∀ (k : Nat) (s : Nat × List Int), runC cd' ν κ b e k s = runC cd ν κ b e k s
  | 0, s => rfl
  | k + 1, s => by
    unfold runC
    by_cases h1 : b ≤ s.1 ∧ s.1 + 2 ≤ e
    · rw [if_pos h1, if_pos h1]
      have e1 : stC cd' ν κ s = stC cd ν κ s := by
        unfold stC
        rw [h s.1 h1.1 (by omega), h (s.1 + 1) (by omega) (by omega)]
      rw [e1]
      cases stC cd ν κ s with
      | none => rfl
      | some s' => exact runC_agr h k s'
    · rw [if_neg h1, if_neg h1]
def CSeg (cd : Nat → Nat) (b e : Nat) (d : rD) (need : Nat) : Prop := b ≤ e ∧ ∀ ν κ vs, bndE ν κ → vs.length + need ≤ 64 → goC cd ν κ b e (b, vs) (e, d ν κ :: vs)
theorem CSeg.agr {cd cd' : Nat → Nat} {b e need : Nat} {d : rD} (h : CSeg cd b e d need) (ha : ∀ k, b ≤ k → k < e → cd' k = cd k) : CSeg cd' b e d need := ⟨h.1, fun ν κ vs hb hn => by
  obtain ⟨k, hk⟩ := h.2 ν κ vs hb hn
  exact ⟨k, by rw [runC_agr ha]; exact hk⟩⟩
theorem CSeg.up {cd : Nat → Nat} {b e need need' : Nat} {d : rD} (h : CSeg cd b e d need) (hn : need ≤ need') : CSeg cd b e d need' := ⟨h.1, fun ν κ vs hb hn => h.2 ν κ vs hb (by omega)⟩
theorem cs_leaf {cd : Nat → Nat} {b need : Nat} {d : rD} (hl : isLeafC (cd b) = true) (h18 : cd b ≠ 18) (hd : ∀ ν κ, (if cd b = 39 then (cd (b + 1) : Int) else ν (nmOf (cd b))) = d ν κ) (hn : 1 ≤ need) : CSeg cd b (b + 2) d need := by
  refine ⟨by omega, fun ν κ vs hb hv => goC.step ⟨Nat.le_refl _, Nat.le_refl _⟩ (t := (b + 2, d ν κ :: vs)) ?_ goC.refl⟩
  unfold stC
  rw [if_neg h18, if_pos hl, if_pos (by simp only; omega), hd ν κ]
theorem cs_two {cd : Nat → Nat} {b m e n1 n2 need : Nat} {d1 d2 d : rD} (h1 : CSeg cd b m d1 n1) (h2 : CSeg cd m e d2 n2) (ho : cd e ≠ 18 ∧ isLeafC (cd e) = false ∧ cd e ≠ 22 ∧ cd e ≠ 15 ∧ cd e ≠ 16) (hd : ∀ ν κ, bndE ν κ → twoC (cd e) (d1 ν κ) (d2 ν κ) = d ν κ) (hn : n1 ≤ need) (hn2 : n2 + 1 ≤ need) : CSeg cd b (e + 2) d need := by
  have e1 := h1.1
  have e2 := h2.1
  refine ⟨by omega, fun ν κ vs hb hv => goC.trans (Nat.le_refl _) (by omega) (h1.2 ν κ vs hb (by omega)) (goC.trans (by omega) (by omega) (h2.2 ν κ (d1 ν κ :: vs) hb (by simp only [List.length_cons]; omega)) (goC.step ⟨by simp only; omega, by simp only; omega⟩ (t := (e + 2, d ν κ :: vs)) ?_ goC.refl))⟩
  unfold stC
  rw [if_neg ho.1, if_neg (by rw [ho.2.1]; decide), if_neg (by simp only; omega), if_neg (by simp only; omega)]
  simp only [hd ν κ hb]
theorem cs_one {cd : Nat → Nat} {b e n1 need : Nat} {d1 d : rD} (h1 : CSeg cd b e d1 n1) (ho : cd e = 22 ∨ cd e = 15) (hd : ∀ ν κ, (if cd e = 22 then bi (decide (d1 ν κ = 0)) else kndI κ (d1 ν κ)) = d ν κ) (hn : n1 ≤ need) : CSeg cd b (e + 2) d need := by
  have e1 := h1.1
  refine ⟨by omega, fun ν κ vs hb hv => goC.trans (Nat.le_refl _) (by omega) (h1.2 ν κ vs hb (by omega)) (goC.step ⟨by simp only; omega, by simp only; omega⟩ (t := (e + 2, d ν κ :: vs)) ?_ goC.refl)⟩
  have hl : isLeafC (cd e) = false := by rcases ho with h | h <;> rw [h] <;> decide
  unfold stC
  rw [if_neg (by simp only; omega), if_neg (by simp only; rw [hl]; decide), if_pos ho]
  simp only [hd ν κ]
theorem cs_if {cd : Nat → Nat} {b t s e nq na nb need : Nat} {q a c d : rD} (hq : CSeg cd b t q nq) (h1 : cd t = 16) (h2 : cd (t + 1) = s + 2) (ha : CSeg cd (t + 2) s a na) (h3 : cd s = 18) (h4 : cd (s + 1) = e) (hc : CSeg cd (s + 2) e c nb) (hd : ∀ ν κ, (if q ν κ = 0 then c ν κ else a ν κ) = d ν κ) (hn1 : nq ≤ need) (hn2 : na ≤ need) (hn3 : nb ≤ need) : CSeg cd b e d need := by
  have e1 := hq.1
  have e2 := ha.1
  have e3 := hc.1
  refine ⟨by omega, fun ν κ vs hb hv => goC.trans (Nat.le_refl _) (by omega) (hq.2 ν κ vs hb (by omega)) ?_⟩
  rw [← hd ν κ]
  by_cases h0 : q ν κ = 0
  · rw [if_pos h0]
    refine goC.step ⟨by simp only; omega, by simp only; omega⟩ (t := (s + 2, vs)) ?_ (goC.trans (by omega) (Nat.le_refl _) (hc.2 ν κ vs hb (by omega)) goC.refl)
    unfold stC
    rw [if_neg (by simp only; omega), if_neg (by simp only; rw [h1]; decide), if_neg (by simp only; omega), if_pos h1]
    simp only [h0, if_true, h2, Option.some.injEq, Prod.mk.injEq, and_true]
    omega
  · rw [if_neg h0]
    refine goC.step ⟨by simp only; omega, by simp only; omega⟩ (t := (t + 2, vs)) ?_ (goC.trans (by omega) (by omega) (ha.2 ν κ vs hb (by omega)) (goC.step ⟨by simp only; omega, by simp only; omega⟩ (t := (e, a ν κ :: vs)) ?_ goC.refl))
    · unfold stC
      rw [if_neg (by simp only; omega), if_neg (by simp only; rw [h1]; decide), if_neg (by simp only; omega), if_pos h1]
      simp only [h0, if_false]
    · unfold stC
      rw [if_pos h3]
      simp only [h4, Option.some.injEq, Prod.mk.injEq, and_true]
      omega
theorem twoC_A {s : Nat} {a b : rI} (h : isAdd s = true ∨ isMul s = true) (ν κ : Nat → Int) : twoC s (a.2 ν κ) (b.2 ν κ) = (mkA s a b).2 ν κ := by
  have hc : isCmp s = false ∧ s ≠ 13 ∧ s ≠ 21 := by
    simp only [isAdd, isMul, Bool.or_eq_true, beq_iff_eq] at h
    rcases h with (rfl | rfl) | (rfl | rfl) <;> decide
  unfold twoC
  rw [if_neg hc.2.1, if_neg (by rw [hc.1]; decide), if_neg hc.2.2, if_pos h]
  simp only [mkA]
theorem twoC_C {s : Nat} {a b : rI} (h : isCmp s = true) (ν κ : Nat → Int) : twoC s (a.2 ν κ) (b.2 ν κ) = (mkC s a b).2 ν κ := by
  unfold twoC
  rw [if_neg (by intro q; rw [q] at h; exact absurd h (by decide)), if_pos h]
  rfl
theorem opC {s : Nat} (h : isAdd s = true ∨ isMul s = true ∨ isCmp s = true ∨ s = 13 ∨ s = 20 ∨ s = 21) : s ≠ 18 ∧ isLeafC s = false ∧ s ≠ 22 ∧ s ≠ 15 ∧ s ≠ 16 := by
  simp only [isAdd, isMul, isCmp, Bool.or_eq_true, beq_iff_eq] at h
  rcases h with (rfl | rfl) | (rfl | rfl) | (((((rfl | rfl) | rfl) | rfl) | rfl) | rfl) | rfl | rfl | rfl <;> decide
