/-! the language, as a reader going down reads it: S a token's sign, V its value, by its number; cat: whether the law is of catches -/
abbrev rD : Type := (Nat → Int) → (Nat → Int) → Int
abbrev rI : Type := List (Nat × Int) × rD
abbrev rR : Type := (Nat × Nat) ⊕ (Nat × rI)
def rBind (x : rR) (k : Nat → rI → rR) : rR := match x with
  | .inl e => .inl e
  | .inr (j, a) => k j a
def rExp (S : Nat → Nat) (s j : Nat) (k : Nat → rR) : rR := if S j = s then k (j + 1) else .inl (1, j)
def rTail (S : Nat → Nat) (p : Nat → Bool) (nxt : Nat → rR) (mk : Nat → rI → rI → rI) : Nat → Nat → rI → rR
  | 0, i, a => .inr (i, a)
  | f + 1, i, a => if p (S i) = true then rBind (nxt (i + 1)) fun j b => rTail S p nxt mk f j (mk (S i) a b) else .inr (i, a)
def clipI (x : Int) : Int := if 1000000 < x then 1000000 else if x < -1000000 then -1000000 else x
def ofTwoI (s : Nat) (x y : Int) : Int :=
  if s = 30 then clipI (x + y) else if s = 31 then clipI (x - y) else if s = 32 then clipI (x * y) else if y = 0 then 0 else clipI (x.tdiv y)
def rndI (x y : Int) : Int := if y ≤ 0 then 0 else (x.tmod y + y).tmod y
def kndI (κ : Nat → Int) (x : Int) : Int := if 0 ≤ x ∧ x < 30 then κ x.toNat else 0
def bi (b : Bool) : Int := if b then 1 else 0
def cmpI (s : Nat) (x y : Int) : Bool :=
  if s = 26 then decide (x < y) else if s = 37 then decide (x ≤ y) else if s = 27 then decide (y < x) else if s = 38 then decide (y ≤ x) else if s = 28 then decide (x = y) else decide (x ≠ y)
/-- the reference's number of a sign between two -/
def oOf (s : Nat) : Nat :=
  if s = 30 then 6 else if s = 31 then 7 else if s = 32 then 8 else if s = 33 then 9 else if s = 26 then 10 else if s = 37 then 11 else if s = 27 then 12 else if s = 38 then 13 else if s = 28 then 14 else if s = 29 then 15 else if s = 21 then 21 else 22
def mkA (s : Nat) (a b : rI) : rI := (a.1 ++ b.1 ++ [(oOf s, 0)], fun ν κ => ofTwoI s (a.2 ν κ) (b.2 ν κ))
def mkC (s : Nat) (a b : rI) : rI := (a.1 ++ b.1 ++ [(oOf s, 0)], fun ν κ => bi (cmpI s (a.2 ν κ) (b.2 ν κ)))
def mkAnd (s : Nat) (a b : rI) : rI := (a.1 ++ b.1 ++ [(oOf s, 0)], fun ν κ => bi (decide (a.2 ν κ ≠ 0 ∧ b.2 ν κ ≠ 0)))
def mkOr (s : Nat) (a b : rI) : rI := (a.1 ++ b.1 ++ [(oOf s, 0)], fun ν κ => bi (decide (a.2 ν κ ≠ 0 ∨ b.2 ν κ ≠ 0)))
def mkNot (a : rI) : rI := (a.1 ++ [(20, 0)], fun ν κ => bi (decide (a.2 ν κ = 0)))
def mkNeg (a : rI) : rI := (a.1 ++ [(5, 0)], fun ν κ => -(a.2 ν κ))
def mkKnd (a : rI) : rI := (a.1 ++ [(2, 0)], fun ν κ => kndI κ (a.2 ν κ))
def mkRnd (a b : rI) : rI := (a.1 ++ b.1 ++ [(4, 0)], fun ν κ => rndI (a.2 ν κ) (b.2 ν κ))
def mkSel (q a b : rI) : rI := (q.1 ++ a.1 ++ b.1 ++ [(3, 0)], fun ν κ => if q.2 ν κ = 0 then b.2 ν κ else a.2 ν κ)
def isAdd (s : Nat) : Bool := s == 30 || s == 31
def isMul (s : Nat) : Bool := s == 32 || s == 33
def isCmp (s : Nat) : Bool := s == 26 || s == 27 || s == 28 || s == 29 || s == 37 || s == 38
def isOpn (s : Nat) : Bool := s == 34 || s == 31 || s == 13 || s == 15 || s == 16
/-- a name's number; 8: none -/
def nmOf (s : Nat) : Nat :=
  if s = 12 then 0 else if s = 2 then 1 else if s = 3 then 2 else if s = 4 then 3 else if s = 23 then 4 else if s = 24 then 5 else if s = 7 then 6 else if s = 25 then 7 else 8
def rProd (S : Nat → Nat) (one : Nat → rR) (i : Nat) : rR := rBind (one i) fun j a => rTail S isMul one mkA 300 j a
def rSum (S : Nat → Nat) (one : Nat → rR) (i : Nat) : rR := rBind (rProd S one i) fun j a => rTail S isAdd (rProd S one) mkA 300 j a
def rCmp (S : Nat → Nat) (one : Nat → rR) (i : Nat) : rR := rBind (rSum S one i) fun j a => if isCmp (S j) = true then rBind (rSum S one (j + 1)) fun k b => .inr (k, mkC (S j) a b) else .inl (1, j)
def rBoth (S : Nat → Nat) (q : Nat → rR) (i : Nat) : rR := rBind (q i) fun j a => rTail S (fun s => s == 21) q mkAnd 300 j a
def rEither (S : Nat → Nat) (q : Nat → rR) (i : Nat) : rR := rBind (rBoth S q i) fun j a => rTail S (fun s => s == 20) (rBoth S q) mkOr 300 j a
def rOpn (S : Nat → Nat) (one q : Nat → rR) (i : Nat) : rR :=
  if S i = 34 then rBind (rSum S one (i + 1)) fun j a => rExp S 35 j fun j => .inr (j, a)
  else if S i = 31 then rBind (one (i + 1)) fun j a => .inr (j, mkNeg a)
  else if S i = 13 then rBind (one (i + 1)) fun j a => rExp S 14 j fun j => rBind (one j) fun k b => .inr (k, mkRnd a b)
  else if S i = 15 then rBind (one (i + 1)) fun j a => .inr (j, mkKnd a)
  else rBind (rEither S q (i + 1)) fun j a => rExp S 17 j fun j => rBind (rSum S one j) fun j b => rExp S 18 j fun j => rBind (rSum S one j) fun j c => rExp S 19 j fun j => .inr (j, mkSel a b c)
def rOneB (S V : Nat → Nat) (cat : Bool) (op : Nat → rR) (i : Nat) : rR :=
  if S i = 39 then (if 9999 < V i then .inl (2, i) else .inr (i + 1, ([(0, (V i : Int))], fun _ _ => (V i : Int))))
  else if nmOf (S i) < 8 then (if 3 < nmOf (S i) ∧ cat = false then .inl (5, i) else .inr (i + 1, ([(1, (nmOf (S i) : Int))], fun ν _ => ν (nmOf (S i)))))
  else if isOpn (S i) = true then op i else .inl (1, i)
/-- what one reads and what a question reads, so many levels being left -/
def rLv (S V : Nat → Nat) (cat : Bool) : Nat → (Nat → rR) × (Nat → rR)
  | 0 => (rOneB S V cat (fun i => .inl (3, i)), fun i => if S i = 22 then .inl (3, i) else rCmp S (rOneB S V cat (fun i => .inl (3, i))) i)
  | d + 1 => (rOneB S V cat (rOpn S (rLv S V cat d).1 (rLv S V cat d).2), fun i => if S i = 22 then rBind ((rLv S V cat d).2 (i + 1)) fun j a => .inr (j, mkNot a) else rCmp S (rOneB S V cat (rOpn S (rLv S V cat d).1 (rLv S V cat d).2)) i)
def rK (x : rR) (kf : Nat → Nat → Prop) (k : Nat → rI → Prop) : Prop := match x with
  | .inl (f, j) => kf f j
  | .inr (j, a) => k j a
theorem rK_bind {x : rR} {g : Nat → rI → rR} {kf : Nat → Nat → Prop} {k : Nat → rI → Prop} : rK (rBind x g) kf k = rK x kf (fun j a => rK (g j a) kf k) := by
  rcases x with ⟨f, j⟩ | ⟨j, a⟩ <;> rfl
theorem rK_mono {x : rR} {kf : Nat → Nat → Prop} {k k' : Nat → rI → Prop} (h : ∀ j a, x = .inr (j, a) → k j a → k' j a) (hx : rK x kf k) : rK x kf k' := by
  rcases x with ⟨f, j⟩ | ⟨j, a⟩
  · exact hx
  · exact h j a rfl hx
/-- what is read goes on -/
def rMono (g : Nat → rR) : Prop := ∀ i j a, g i = .inr (j, a) → i < j
theorem rBind_inr {x : rR} {k : Nat → rI → rR} {j : Nat} {a : rI} (h : rBind x k = .inr (j, a)) : ∃ j0 a0, x = .inr (j0, a0) ∧ k j0 a0 = .inr (j, a) := by
  rcases x with ⟨f, j'⟩ | ⟨j', a'⟩
  · simp [rBind] at h
  · exact ⟨j', a', rfl, h⟩
theorem rExp_inr {S : Nat → Nat} {s j : Nat} {k : Nat → rR} {r : Nat × rI} (h : rExp S s j k = .inr r) : S j = s ∧ k (j + 1) = .inr r := by
  unfold rExp at h
  split at h
  · exact ⟨by assumption, h⟩
  · cases h
theorem rTail_mono {S : Nat → Nat} {p : Nat → Bool} {nxt : Nat → rR} {mk : Nat → rI → rI → rI} (hn : rMono nxt) : ∀ (f i : Nat) (a : rI) (j : Nat) (b : rI), rTail S p nxt mk f i a = .inr (j, b) → i ≤ j
  | 0, i, a, j, b, h => by
    simp only [rTail, Sum.inr.injEq, Prod.mk.injEq] at h
    omega
  | f + 1, i, a, j, b, h => by
    unfold rTail at h
    split at h
    · obtain ⟨j0, a0, h0, h1⟩ := rBind_inr h
      have e1 := hn _ _ _ h0
      have e2 := rTail_mono hn f _ _ _ _ h1
      omega
    · simp only [Sum.inr.injEq, Prod.mk.injEq] at h
      omega
theorem rProd_mono {S : Nat → Nat} {one : Nat → rR} (h : rMono one) : rMono (rProd S one) := fun i j a e => by
  obtain ⟨j0, a0, h0, h1⟩ := rBind_inr e
  have e1 := h _ _ _ h0
  have e2 := rTail_mono h _ _ _ _ _ h1
  omega
theorem rSum_mono {S : Nat → Nat} {one : Nat → rR} (h : rMono one) : rMono (rSum S one) := fun i j a e => by
  obtain ⟨j0, a0, h0, h1⟩ := rBind_inr e
  have e1 := rProd_mono h _ _ _ h0
  have e2 := rTail_mono (rProd_mono h) _ _ _ _ _ h1
  omega
theorem rCmp_mono {S : Nat → Nat} {one : Nat → rR} (h : rMono one) : rMono (rCmp S one) := fun i j a e => by
  obtain ⟨j0, a0, h0, h1⟩ := rBind_inr e
  have e1 := rSum_mono h _ _ _ h0
  split at h1
  · obtain ⟨j2, a2, h2, h3⟩ := rBind_inr h1
    have e2 := rSum_mono h _ _ _ h2
    simp only [Sum.inr.injEq, Prod.mk.injEq] at h3
    omega
  · cases h1
theorem rBoth_mono {S : Nat → Nat} {q : Nat → rR} (h : rMono q) : rMono (rBoth S q) := fun i j a e => by
  obtain ⟨j0, a0, h0, h1⟩ := rBind_inr e
  have e1 := h _ _ _ h0
  have e2 := rTail_mono h _ _ _ _ _ h1
  omega
theorem rEither_mono {S : Nat → Nat} {q : Nat → rR} (h : rMono q) : rMono (rEither S q) := fun i j a e => by
  obtain ⟨j0, a0, h0, h1⟩ := rBind_inr e
  have e1 := rBoth_mono h _ _ _ h0
  have e2 := rTail_mono (rBoth_mono h) _ _ _ _ _ h1
  omega
theorem rOpn_mono {S : Nat → Nat} {one q : Nat → rR} (h : rMono one) (hq : rMono q) : rMono (rOpn S one q) := fun i j a e => by
  unfold rOpn at e
  split at e
  · obtain ⟨j0, a0, h0, h1⟩ := rBind_inr e
    have e1 := rSum_mono h _ _ _ h0
    have h2 := (rExp_inr h1).2
    simp only [Sum.inr.injEq, Prod.mk.injEq] at h2
    omega
  · split at e
    · obtain ⟨j0, a0, h0, h1⟩ := rBind_inr e
      have e1 := h _ _ _ h0
      simp only [Sum.inr.injEq, Prod.mk.injEq] at h1
      omega
    · split at e
      · obtain ⟨j0, a0, h0, h1⟩ := rBind_inr e
        have e1 := h _ _ _ h0
        obtain ⟨j2, a2, h2, h3⟩ := rBind_inr (rExp_inr h1).2
        have e2 := h _ _ _ h2
        simp only [Sum.inr.injEq, Prod.mk.injEq] at h3
        omega
      · split at e
        · obtain ⟨j0, a0, h0, h1⟩ := rBind_inr e
          have e1 := h _ _ _ h0
          simp only [Sum.inr.injEq, Prod.mk.injEq] at h1
          omega
        · obtain ⟨j0, a0, h0, h1⟩ := rBind_inr e
          have e1 := rEither_mono hq _ _ _ h0
          obtain ⟨j2, a2, h2, h3⟩ := rBind_inr (rExp_inr h1).2
          have e2 := rSum_mono h _ _ _ h2
          obtain ⟨j4, a4, h4, h5⟩ := rBind_inr (rExp_inr h3).2
          have e4 := rSum_mono h _ _ _ h4
          have h6 := (rExp_inr h5).2
          simp only [Sum.inr.injEq, Prod.mk.injEq] at h6
          omega
theorem rOneB_mono {S V : Nat → Nat} {cat : Bool} {op : Nat → rR} (h : rMono op) : rMono (rOneB S V cat op) := fun i j a e => by
  unfold rOneB at e
  split at e
  · split at e
    · cases e
    · simp only [Sum.inr.injEq, Prod.mk.injEq] at e
      omega
  · split at e
    · split at e
      · cases e
      · simp only [Sum.inr.injEq, Prod.mk.injEq] at e
        omega
    · split at e
      · exact h _ _ _ e
      · cases e
theorem rLv_mono (S V : Nat → Nat) (cat : Bool) : ∀ d, rMono (rLv S V cat d).1 ∧ rMono (rLv S V cat d).2
  | 0 => by
    have h1 : rMono (rOneB S V cat (fun i => .inl (3, i))) := rOneB_mono (fun i j a e => by cases e)
    refine ⟨h1, fun i j a e => ?_⟩
    simp only [rLv] at e
    split at e
    · cases e
    · exact rCmp_mono h1 _ _ _ e
  | d + 1 => by
    obtain ⟨i1, i2⟩ := rLv_mono S V cat d
    have h1 : rMono (rOneB S V cat (rOpn S (rLv S V cat d).1 (rLv S V cat d).2)) := rOneB_mono (rOpn_mono i1 i2)
    refine ⟨h1, fun i j a e => ?_⟩
    simp only [rLv] at e
    split at e
    · obtain ⟨j0, a0, h0, h2⟩ := rBind_inr e
      have e1 := i2 _ _ _ h0
      simp only [Sum.inr.injEq, Prod.mk.injEq] at h2
      omega
    · exact rCmp_mono h1 _ _ _ e
