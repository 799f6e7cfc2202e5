/-! whole numbers below 0 too, in the machine's ints and longs -/
def lI (x : Int) : Int64 := Int64.ofInt x
def iI (x : Int) : Int32 := Int32.ofInt x
theorem lI_add (x y : Int) : lI x + lI y = lI (x + y) := (Int64.ofInt_add x y).symm
theorem lI_sub (x y : Int) : lI x - lI y = lI (x - y) := (Int64.ofInt_sub x y).symm
theorem lI_mul (x y : Int) : lI x * lI y = lI (x * y) := (Int64.ofInt_mul x y).symm
theorem lI_neg (x : Int) : -lI x = lI (-x) := (Int64.ofInt_neg x).symm
theorem iI_add (x y : Int) : iI x + iI y = iI (x + y) := (Int32.ofInt_add x y).symm
theorem iI_sub (x y : Int) : iI x - iI y = iI (x - y) := (Int32.ofInt_sub x y).symm
theorem iI_mul (x y : Int) : iI x * iI y = iI (x * y) := (Int32.ofInt_mul x y).symm
theorem lI_T {x : Int} (h : -4611686018427387904 ≤ x) (h' : x ≤ 4611686018427387904) : (lI x).toInt = x := Int64.toInt_ofInt_of_le (by omega) (by omega)
theorem iI_T {x : Int} (h : -2147483648 ≤ x) (h' : x ≤ 2147483647) : (iI x).toInt = x := Int32.toInt_ofInt_of_le (by omega) (by omega)
theorem lN_lI (n : Nat) : lN n = lI n := (Int64.ofInt_eq_ofNat).symm
theorem nI_iI (n : Nat) : nI n = iI n := (Int32.ofInt_eq_ofNat).symm
theorem iI_of (x : Int32) : iI x.toInt = x := Int32.ofInt_toInt x
theorem lI_of (x : Int64) : lI x.toInt = x := Int64.ofInt_toInt x
theorem lI_lt {x y : Int} (h1 : -4611686018427387904 ≤ x) (h2 : x ≤ 4611686018427387904) (h3 : -4611686018427387904 ≤ y) (h4 : y ≤ 4611686018427387904) : (lI x < lI y) = (x < y) := by
  rw [Int64.lt_iff_toInt_lt, lI_T h1 h2, lI_T h3 h4]
theorem lI_le {x y : Int} (h1 : -4611686018427387904 ≤ x) (h2 : x ≤ 4611686018427387904) (h3 : -4611686018427387904 ≤ y) (h4 : y ≤ 4611686018427387904) : (lI x ≤ lI y) = (x ≤ y) := by
  rw [Int64.le_iff_toInt_le, lI_T h1 h2, lI_T h3 h4]
theorem lI_eq {x y : Int} (h1 : -4611686018427387904 ≤ x) (h2 : x ≤ 4611686018427387904) (h3 : -4611686018427387904 ≤ y) (h4 : y ≤ 4611686018427387904) : (lI x = lI y) = (x = y) := by
  rw [← Int64.toInt_inj, lI_T h1 h2, lI_T h3 h4]
theorem iI_lt {x y : Int} (h1 : -2147483648 ≤ x) (h2 : x ≤ 2147483647) (h3 : -2147483648 ≤ y) (h4 : y ≤ 2147483647) : (iI x < iI y) = (x < y) := by
  rw [Int32.lt_iff_toInt_lt, iI_T h1 h2, iI_T h3 h4]
theorem iI_le {x y : Int} (h1 : -2147483648 ≤ x) (h2 : x ≤ 2147483647) (h3 : -2147483648 ≤ y) (h4 : y ≤ 2147483647) : (iI x ≤ iI y) = (x ≤ y) := by
  rw [Int32.le_iff_toInt_le, iI_T h1 h2, iI_T h3 h4]
theorem iI_eq {x y : Int} (h1 : -2147483648 ≤ x) (h2 : x ≤ 2147483647) (h3 : -2147483648 ≤ y) (h4 : y ≤ 2147483647) : (iI x = iI y) = (x = y) := by
  rw [← Int32.toInt_inj, iI_T h1 h2, iI_T h3 h4]
theorem lI_div {x y : Int} (h1 : -4611686018427387904 ≤ x) (h2 : x ≤ 4611686018427387904) (h3 : -4611686018427387904 ≤ y) (h4 : y ≤ 4611686018427387904) : lI x / lI y = lI (x.tdiv y) :=
  (Int64.ofInt_tdiv (by rw [Int64.toInt_minValue]; omega) (by rw [Int64.toInt_maxValue]; omega) (by rw [Int64.toInt_minValue]; omega) (by rw [Int64.toInt_maxValue]; omega)).symm
theorem lI_rem {x y : Int} (h1 : -4611686018427387904 ≤ x) (h2 : x ≤ 4611686018427387904) (h3 : -4611686018427387904 ≤ y) (h4 : y ≤ 4611686018427387904) : lI x - lI x / lI y * lI y = lI (x.tmod y) := by
  rw [lI_div h1 h2 h3 h4, lI_mul, lI_sub, Int.tmod_def, Int.mul_comm]
theorem iI_l {x : Int} (h1 : -2147483648 ≤ x) (h2 : x ≤ 2147483647) : (iI x).toInt64 = lI x := Int32.toInt64_ofInt (by rw [Int32.toInt_minValue]; omega) (by rw [Int32.toInt_maxValue]; omega)
theorem lI_i (x : Int) : (lI x).toInt32 = iI x := Int64.toInt32_ofInt
theorem cmp_cases (x y : Int64) : (lg_cmp x y = nI 1 ∧ y < x) ∨ (lg_cmp x y = nI 0 ∧ x = y) ∨ (lg_cmp x y = -nI 1 ∧ x < y) := by
  unfold lg_cmp
  by_cases h : x > y
  · rw [if_pos h]; exact Or.inl ⟨rfl, h⟩
  · rw [if_neg h]
    by_cases e : x = y
    · rw [if_pos e]; exact Or.inr (Or.inl ⟨rfl, e⟩)
    · rw [if_neg e]
      refine Or.inr (Or.inr ⟨rfl, ?_⟩)
      rw [Int64.lt_iff_toInt_lt]
      have h' : ¬ y.toInt < x.toInt := fun q => h (Int64.lt_iff_toInt_lt.mpr q)
      have e' : ¬ x.toInt = y.toInt := fun q => e (Int64.toInt_inj.mp q)
      omega
theorem cmp_lt0 {x y : Int64} : (lg_cmp x y < nI 0) = (x < y) := by
  rcases cmp_cases x y with ⟨e, h⟩ | ⟨e, h⟩ | ⟨e, h⟩ <;> rw [e, Int64.lt_iff_toInt_lt]
  · rw [Int64.lt_iff_toInt_lt] at h
    exact propext ⟨fun q => absurd q (by decide), fun q => by omega⟩
  · rw [h]
    exact propext ⟨fun q => absurd q (by decide), fun q => by omega⟩
  · rw [Int64.lt_iff_toInt_lt] at h
    exact propext ⟨fun _ => h, fun _ => by decide⟩
theorem cmp_0lt {x y : Int64} : (nI 0 < lg_cmp x y) = (y < x) := by
  rcases cmp_cases x y with ⟨e, h⟩ | ⟨e, h⟩ | ⟨e, h⟩ <;> rw [e, Int64.lt_iff_toInt_lt]
  · rw [Int64.lt_iff_toInt_lt] at h
    exact propext ⟨fun _ => h, fun _ => by decide⟩
  · rw [h]
    exact propext ⟨fun q => absurd q (by decide), fun q => by omega⟩
  · rw [Int64.lt_iff_toInt_lt] at h
    exact propext ⟨fun q => absurd q (by decide), fun q => by omega⟩
theorem cmp_le0 {x y : Int64} : (lg_cmp x y ≤ nI 0) = (x ≤ y) := by
  have h := cmp_0lt (x := x) (y := y)
  rw [← Int32.not_lt, h, ← Int64.not_lt]
theorem cmp_0le {x y : Int64} : (nI 0 ≤ lg_cmp x y) = (y ≤ x) := by
  have h := cmp_lt0 (x := x) (y := y)
  rw [← Int32.not_lt, h, ← Int64.not_lt]
theorem lit_neg (n : Nat) : (-(OfNat.ofNat n) : Int64) = lI (-(n : Int)) := by
  rw [← lI_neg, ← lN_lI]; rfl
theorem litLI (n : Nat) : (OfNat.ofNat n : Int64) = lI (n : Int) := by
  rw [← lN_lI]; rfl
