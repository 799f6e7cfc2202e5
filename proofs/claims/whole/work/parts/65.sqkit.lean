/-! the class's Square: its object, kinds, paints, numbers, book -/
def Sqfs (s : Nat) (σ : Nat → Int32) : List Value := [.ref (s + 1), .ref (s + 2), .ref (s + 3), .ref (s + 4), .int (σ 4), .int (σ 5), .int (σ 6)]
def SqE (s : Nat) (σ : Nat → Int32) (A : Nat → Nat → Int32) (R : gC) : gC := fun q => if q = s then some (.inr (5, Sqfs s σ)) else if q = s + 1 then some (.inl (0, 30, .inl (A 1))) else if q = s + 2 then some (.inl (0, 30, .inl (A 2))) else if q = s + 3 then some (.inl (0, 7, .inl (A 3))) else if q = s + 4 then some (.inl (0, 120, .inl (A 4))) else R q
def isSq (C : gC) (s : Nat) : Prop := ∃ (σ : Nat → Int32) (A : Nat → Nat → Int32) (R : gC), C = SqE s σ A R
section KK
variable {s : Nat} {σ : Nat → Int32} {A : Nat → Nat → Int32} {R : gC}
theorem Sq_is : isSq (SqE s σ A R) s = True := eq_true ⟨σ, A, R, rfl⟩
theorem Sq_0 : SqE s σ A R s = some (.inr (5, Sqfs s σ)) := by simp [SqE]
theorem Sq_1 : SqE s σ A R (s + 1) = some (.inl (0, 30, .inl (A 1))) := by simp [SqE]
theorem Sqa_1 : garr (SqE s σ A R) (s + 1) = A 1 := by simp [garr, Sq_1]
theorem Sq_2 : SqE s σ A R (s + 2) = some (.inl (0, 30, .inl (A 2))) := by simp [SqE]
theorem Sqa_2 : garr (SqE s σ A R) (s + 2) = A 2 := by simp [garr, Sq_2]
theorem Sq_3 : SqE s σ A R (s + 3) = some (.inl (0, 7, .inl (A 3))) := by simp [SqE]
theorem Sqa_3 : garr (SqE s σ A R) (s + 3) = A 3 := by simp [garr, Sq_3]
theorem Sq_4 : SqE s σ A R (s + 4) = some (.inl (0, 120, .inl (A 4))) := by simp [SqE]
theorem Sqa_4 : garr (SqE s σ A R) (s + 4) = A 4 := by simp [garr, Sq_4]
theorem Sqf_0 : gfld (SqE s σ A R) s 5 0 = some (.ref (s + 1)) := by simp [gfld, Sq_0, Sqfs]
theorem Sqf_1 : gfld (SqE s σ A R) s 5 1 = some (.ref (s + 2)) := by simp [gfld, Sq_0, Sqfs]
theorem Sqf_2 : gfld (SqE s σ A R) s 5 2 = some (.ref (s + 3)) := by simp [gfld, Sq_0, Sqfs]
theorem Sqf_3 : gfld (SqE s σ A R) s 5 3 = some (.ref (s + 4)) := by simp [gfld, Sq_0, Sqfs]
theorem Sqf_4 : gfld (SqE s σ A R) s 5 4 = some (.int (σ 4)) := by simp [gfld, Sq_0, Sqfs]
theorem Sqf_5 : gfld (SqE s σ A R) s 5 5 = some (.int (σ 5)) := by simp [gfld, Sq_0, Sqfs]
theorem Sqf_6 : gfld (SqE s σ A R) s 5 6 = some (.int (σ 6)) := by simp [gfld, Sq_0, Sqfs]
theorem Sq_gup {x : gE} {a : Nat} {C' : gC} (h1 : C' a = some x) (h2 : ∀ q, q ≠ a → C' q = SqE s σ A R q) : gup (SqE s σ A R) a x = C' := by
  funext q
  unfold gup
  by_cases h : q = a
  · rw [if_pos h, h, h1]
  · rw [if_neg h, h2 q h]
theorem Sqi_4 : gint (SqE s σ A R) s 5 4 = σ 4 := by simp [gint, Sqf_4]
theorem Sqs_4 {v : Int32} : gsetf (SqE s σ A R) s 4 (.int v) = SqE s (sup σ 4 v) A R := by
  unfold gsetf
  rw [Sq_0]
  refine Sq_gup ?_ fun q hq => ?_
  · rw [Sq_0]; simp [Sqfs, sup]
  · simp only [SqE, if_neg hq]
theorem Sqi_5 : gint (SqE s σ A R) s 5 5 = σ 5 := by simp [gint, Sqf_5]
theorem Sqs_5 {v : Int32} : gsetf (SqE s σ A R) s 5 (.int v) = SqE s (sup σ 5 v) A R := by
  unfold gsetf
  rw [Sq_0]
  refine Sq_gup ?_ fun q hq => ?_
  · rw [Sq_0]; simp [Sqfs, sup]
  · simp only [SqE, if_neg hq]
theorem Sqi_6 : gint (SqE s σ A R) s 5 6 = σ 6 := by simp [gint, Sqf_6]
theorem Sqs_6 {v : Int32} : gsetf (SqE s σ A R) s 6 (.int v) = SqE s (sup σ 6 v) A R := by
  unfold gsetf
  rw [Sq_0]
  refine Sq_gup ?_ fun q hq => ?_
  · rw [Sq_0]; simp [Sqfs, sup]
  · simp only [SqE, if_neg hq]
theorem Squ_1 {f : Nat → Int32} : gup (SqE s σ A R) (s + 1) (.inl (0, 30, .inl f)) = SqE s σ (sup A 1 f) R := by
  refine Sq_gup ?_ fun q hq => ?_
  · rw [Sq_1]; simp [sup]
  · simp only [SqE, if_neg hq]; simp [sup]
theorem Squ_2 {f : Nat → Int32} : gup (SqE s σ A R) (s + 2) (.inl (0, 30, .inl f)) = SqE s σ (sup A 2 f) R := by
  refine Sq_gup ?_ fun q hq => ?_
  · rw [Sq_2]; simp [sup]
  · simp only [SqE, if_neg hq]; simp [sup]
theorem Squ_3 {f : Nat → Int32} : gup (SqE s σ A R) (s + 3) (.inl (0, 7, .inl f)) = SqE s σ (sup A 3 f) R := by
  refine Sq_gup ?_ fun q hq => ?_
  · rw [Sq_3]; simp [sup]
  · simp only [SqE, if_neg hq]; simp [sup]
theorem Squ_4 {f : Nat → Int32} : gup (SqE s σ A R) (s + 4) (.inl (0, 120, .inl f)) = SqE s σ (sup A 4 f) R := by
  refine Sq_gup ?_ fun q hq => ?_
  · rw [Sq_4]; simp [sup]
  · simp only [SqE, if_neg hq]; simp [sup]
end KK
