/-! whole numbers in the machine's ints, and truth values -/
theorem lit (n : Nat) : (OfNat.ofNat n : Int32) = nI n := rfl
theorem litL (n : Nat) : (OfNat.ofNat n : Int64) = lN n := rfl
noncomputable def bI (P : Prop) : Int32 := @ite Int32 P (Classical.propDecidable P) (nI 1) (nI 0)
theorem bI_t {P : Prop} (p : P) : bI P = nI 1 := by unfold bI; rw [if_pos p]
theorem bI_f {P : Prop} (p : ¬ P) : bI P = nI 0 := by unfold bI; rw [if_neg p]
theorem bI_0 {P : Prop} : bI P = nI 0 ↔ ¬ P := by
  by_cases h : P
  · rw [bI_t h]
    exact ⟨fun q => absurd q (by decide), fun q => absurd h q⟩
  · rw [bI_f h]
    exact ⟨fun _ => h, fun _ => rfl⟩
theorem vin_iff {n N : Nat} (h : n < 2 ^ 31) : vp_in (nI n) N ↔ n < N := by
  unfold vp_in
  rw [nI_clamp h]
  constructor
  · intro q
    exact Nat.not_le.mp fun z => q (Or.inr z)
  · intro q z
    rcases z with z | z
    · exact nI_pos h z
    · omega
theorem nar_i (x : Int32) : (narrow FieldType.int (Value.int x) = Value.int x) = True := eq_true rfl
theorem nar_z {n : Nat} (h : n < 2) : narrow FieldType.boolean (Value.int (nI n)) = Value.int (nI n) := by
  match n, h with
  | 0, _ => rfl
  | 1, _ => rfl
theorem nar_b {P : Prop} : (narrow FieldType.boolean (Value.int (bI P)) = Value.int (bI P)) = True := by
  by_cases h : P
  · rw [bI_t h]; exact eq_true rfl
  · rw [bI_f h]; exact eq_true rfl
theorem nar_0 : (narrow FieldType.boolean (Value.int (nI 0)) = Value.int (nI 0)) = True := eq_true rfl
theorem nar_1 : (narrow FieldType.boolean (Value.int (nI 1)) = Value.int (nI 1)) = True := eq_true rfl
theorem fit_i (x : Int32) : gfit .int (.int x) = True := eq_true ⟨rfl, rfl⟩
theorem fit_l (x : Int64) : gfit .long (.long x) = True := eq_true ⟨rfl, rfl⟩
theorem fit_z {n : Nat} (h : n < 2) : gfit .boolean (.int (nI n)) := by
  match n, h with
  | 0, _ => exact ⟨rfl, rfl⟩
  | 1, _ => exact ⟨rfl, rfl⟩
theorem nI_m1 (n : Nat) (h : n < 2 ^ 31) : (nI n = -nI 1) = False := by
  refine eq_false fun e => ?_
  have h1 := congrArg Int32.toInt e
  rw [nI_toInt h] at h1
  have h2 : (-nI 1).toInt = -1 := by decide
  rw [h2] at h1
  omega
theorem nI_0le {n : Nat} (h : n < 2 ^ 31) : (nI 0 ≤ nI n) = True := eq_true (nI_leI (by decide) h |>.mpr (Nat.zero_le n))
theorem nI_not_lt0 {n : Nat} (h : n < 2 ^ 31) : (nI n < nI 0) = False := eq_false (nI_pos h)
/-- the two cases of a whole number given as an int: below, above, or within -/
theorem int_in (x : Int32) (N : Nat) (hN : N + 1 < 2 ^ 31) : (x < nI 0 ∨ nI N < x) ∨ ∃ j : Nat, j ≤ N ∧ x = nI j := by
  rcases pk_ix x (n := N + 1) hN with h | h | ⟨j, h1, h2⟩
  · exact Or.inl (Or.inl h)
  · refine Or.inl (Or.inr ?_)
    rw [Int32.lt_iff_toInt_lt]
    rw [Int32.le_iff_toInt_le, nI_toInt hN] at h
    rw [nI_toInt (by omega)]
    omega
  · exact Or.inr ⟨j, by omega, h2⟩
/-- of so many, those that are so, as bits -/
def obits (P : Nat → Bool) : Nat → Int32
  | 0 => nI 0
  | i + 1 => obits P i ||| bif P i then nI 1 <<< (nI i &&& nI 31) else nI 0
theorem or_0 (x : Int32) : x ||| nI 0 = x := by
  apply Int32.toBitVec_inj.mp
  show x.toBitVec ||| 0#32 = x.toBitVec
  simp
theorem obits_t {P : Nat → Bool} {i : Nat} (h : P i = true) : obits P (i + 1) = obits P i ||| nI 1 <<< (nI i &&& nI 31) := by simp [obits, h]
theorem obits_f {P : Nat → Bool} {i : Nat} (h : P i = false) : obits P (i + 1) = obits P i := by simp [obits, h, or_0]
/-- of so many, how many are so -/
def howmany (P : Nat → Bool) : Nat → Nat
  | 0 => 0
  | i + 1 => howmany P i + bif P i then 1 else 0
theorem howmany_t {P : Nat → Bool} {i : Nat} (h : P i = true) : howmany P (i + 1) = howmany P i + 1 := by simp [howmany, h]
theorem howmany_f {P : Nat → Bool} {i : Nat} (h : P i = false) : howmany P (i + 1) = howmany P i := by simp [howmany, h]
theorem howmany_le (P : Nat → Bool) : ∀ n, howmany P n ≤ n
  | 0 => Nat.le_refl _
  | n + 1 => by
    have := howmany_le P n
    unfold howmany
    cases P n <;> simp <;> omega
