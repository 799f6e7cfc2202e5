/-! the class's own world: 56 cells from X on; σ j k: the int field k of the object X + j; ρ: references that change; A j: the int array X + j; P j: the array of references X + j; R: all else -/
def xfs (X : Nat) (σ : Nat → Nat → Int32) (ρ : Nat → Value) : Nat → List Value
  | 0 => [.ref (X + 1), .ref (X + 16), .ref (X + 31), .ref (X + 32), .ref (X + 34), .ref (X + 35), .ref (X + 37), .ref (X + 42), .ref (X + 50), .ref (X + 55), .int (σ 0 10), .int (σ 0 11), .int (σ 0 12)]
  | 1 => [.ref (X + 2), .ref (X + 7), .ref (X + 9), .ref (X + 11), .ref (X + 13), .ref (X + 14), .ref (X + 15), .int (σ 1 7), .int (σ 1 8), .int (σ 1 9)]
  | 2 => [.ref (X + 3), .ref (X + 4), .ref (X + 5), .ref (X + 6), .int (σ 2 4), .int (σ 2 5), .int (σ 2 6)]
  | 7 => [.ref (X + 8), .int (σ 7 1), .int (σ 7 2)]
  | 9 => [.ref (X + 10), .int (σ 9 1), .int (σ 9 2)]
  | 11 => [.ref (X + 12), .int (σ 11 1), .int (σ 11 2)]
  | 16 => [.ref (X + 17), .ref (X + 22), .ref (X + 24), .ref (X + 26), .ref (X + 28), .ref (X + 29), .ref (X + 30), .int (σ 16 7), .int (σ 16 8), .int (σ 16 9)]
  | 17 => [.ref (X + 18), .ref (X + 19), .ref (X + 20), .ref (X + 21), .int (σ 17 4), .int (σ 17 5), .int (σ 17 6)]
  | 22 => [.ref (X + 23), .int (σ 22 1), .int (σ 22 2)]
  | 24 => [.ref (X + 25), .int (σ 24 1), .int (σ 24 2)]
  | 26 => [.ref (X + 27), .int (σ 26 1), .int (σ 26 2)]
  | 32 => [.ref (X + 1), .ref (X + 31), .ref (X + 33), ρ 0, .int (σ 32 4), .int (σ 32 5), .int (σ 32 6), .int (σ 32 7), .int (σ 32 8)]
  | 34 => [.ref (X + 1), .ref (X + 32)]
  | 35 => [.ref (X + 1), .ref (X + 32), .ref (X + 36), .int (σ 35 3)]
  | 37 => [.ref (X + 38), .ref (X + 39), .ref (X + 40), .ref (X + 41), .int (σ 37 4), .int (σ 37 5), .int (σ 37 6)]
  | 42 => [.ref (X + 43), .ref (X + 48), .ref (X + 49), .int (σ 42 3), .int (σ 42 4), .int (σ 42 5), .int (σ 42 6), ρ 2, ρ 3, .int (σ 42 9), .int (σ 42 10)]
  | 43 => [.ref (X + 44), .ref (X + 45), .ref (X + 46), ρ 1, .int (σ 43 4), .int (σ 43 5), .int (σ 43 6), .int (σ 43 7), .int (σ 43 8), .int (σ 43 9), .int (σ 43 10)]
  | 50 => [.ref (X + 51), .ref (X + 52), .ref (X + 53), .ref (X + 54), .int (σ 50 4), .int (σ 50 5), .int (σ 50 6)]
  | _ => []
def xtb : List (Nat × Nat × Nat) := [(0, 11, 0), (0, 6, 0), (0, 5, 0), (1, 30, 0), (1, 30, 0), (1, 7, 0), (1, 120, 0), (0, 7, 0), (2, 3, 30), (0, 10, 0), (1, 18, 0), (0, 10, 0), (1, 24, 0), (1, 13, 0), (1, 7, 0), (1, 7, 0), (0, 6, 0), (0, 5, 0), (1, 30, 0), (1, 30, 0), (1, 7, 0), (1, 120, 0), (0, 7, 0), (2, 3, 30), (0, 10, 0), (1, 18, 0), (0, 10, 0), (1, 24, 0), (1, 13, 0), (1, 7, 0), (1, 7, 0), (2, 4, 4), (0, 0, 0), (1, 64, 0), (0, 2, 0), (0, 1, 0), (1, 12, 0), (0, 4, 0), (1, 4096, 0), (1, 13, 0), (1, 900, 0), (1, 900, 0), (0, 3, 0), (0, 9, 0), (1, 301, 0), (1, 301, 0), (1, 301, 0), (1, 0, 0), (1, 1200, 0), (1, 72, 0), (0, 5, 0), (1, 30, 0), (1, 30, 0), (1, 7, 0), (1, 120, 0), (1, 300, 0)]
def xcl (X : Nat) (σ : Nat → Nat → Int32) (ρ : Nat → Value) (A : Nat → Nat → Int32) (P : Nat → Nat → Option Nat) (j : Nat) : Option gE := match xtb[j]? with
  | some (0, c, _) => some (.inr (c, xfs X σ ρ j))
  | some (1, n, _) => some (.inl (0, n, .inl (A j)))
  | some (_, t, n) => some (.inl (t, n, .inr (.inr (.inr (.inr (P j))))))
  | none => none
def xE (X : Nat) (σ : Nat → Nat → Int32) (ρ : Nat → Value) (A : Nat → Nat → Int32) (P : Nat → Nat → Option Nat) (R : gC) : gC := fun q => if X ≤ q ∧ q < X + 56 then xcl X σ ρ A P (q - X) else R q
def s2 (σ : Nat → Nat → Int32) (j k : Nat) (v : Int32) : Nat → Nat → Int32 := fun a b => if a = j ∧ b = k then v else σ a b
section XK
variable {X : Nat} {σ : Nat → Nat → Int32} {ρ : Nat → Value} {A : Nat → Nat → Int32} {P : Nat → Nat → Option Nat} {R : gC}
theorem xE_at {k : Nat} (h : k < 56) : xE X σ ρ A P R (X + k) = xcl X σ ρ A P k := by
  unfold xE
  rw [if_pos ⟨by omega, by omega⟩, Nat.add_sub_cancel_left]
theorem xE_out {q : Nat} (h : q < X ∨ X + 56 ≤ q) : xE X σ ρ A P R q = R q := by
  unfold xE
  rw [if_neg (by omega)]
theorem xE_gup {x : gE} {k : Nat} (hk : k < 56) {σ' : Nat → Nat → Int32} {ρ' : Nat → Value} {A' : Nat → Nat → Int32} {P' : Nat → Nat → Option Nat} (h1 : xcl X σ' ρ' A' P' k = some x) (h2 : ∀ j, j ≠ k → xcl X σ' ρ' A' P' j = xcl X σ ρ A P j) : gup (xE X σ ρ A P R) (X + k) x = xE X σ' ρ' A' P' R := by
  funext q
  unfold gup
  by_cases h : q = X + k
  · rw [if_pos h, h, xE_at hk, h1]
  · rw [if_neg h]
    unfold xE
    by_cases hq : X ≤ q ∧ q < X + 56
    · rw [if_pos hq, if_pos hq, h2 _ (by omega)]
    · rw [if_neg hq, if_neg hq]
theorem xE_gupR {x : gE} {q : Nat} (h : q < X ∨ X + 56 ≤ q) : gup (xE X σ ρ A P R) q x = xE X σ ρ A P (gup R q x) := by
  funext r
  unfold gup xE
  by_cases e : r = q
  · rw [if_pos e, if_neg (by omega)]
    simp only [if_pos e]
  · rw [if_neg e]
    by_cases hr : X ≤ r ∧ r < X + 56
    · rw [if_pos hr, if_pos hr]
    · rw [if_neg hr, if_neg hr]
      simp only [if_neg e]
theorem xcl_A {k j : Nat} {f : Nat → Int32} (h : j ≠ k) : xcl X σ ρ (sup A k f) P j = xcl X σ ρ A P j := by
  unfold xcl sup
  rw [if_neg h]
theorem xcl_P {k j : Nat} {f : Nat → Option Nat} (h : j ≠ k) : xcl X σ ρ A (sup P k f) j = xcl X σ ρ A P j := by
  unfold xcl sup
  rw [if_neg h]
theorem xu {k n c : Nat} {f : Nat → Int32} (h : xtb[k]? = some (1, n, c)) (hk : k < 56) : gup (xE X σ ρ A P R) (X + k) (.inl (0, n, .inl f)) = xE X σ ρ (sup A k f) P R := by
  refine xE_gup hk ?_ fun j hj => xcl_A hj
  unfold xcl
  rw [h]
  simp [sup]
theorem xuP {k n t : Nat} {f : Nat → Option Nat} (h : xtb[k]? = some (2, t, n)) (hk : k < 56) : gup (xE X σ ρ A P R) (X + k) (.inl (t, n, .inr (.inr (.inr (.inr f))))) = xE X σ ρ A (sup P k f) R := by
  refine xE_gup hk ?_ fun j hj => xcl_P hj
  unfold xcl
  rw [h]
  simp [sup]
theorem xfs_ne {j k a : Nat} {v : Int32} (h : a ≠ j) : xfs X (s2 σ j k v) ρ a = xfs X σ ρ a := by
  have e : ∀ b, s2 σ j k v a b = σ a b := fun b => by unfold s2; rw [if_neg (fun q => h q.1)]
  unfold xfs
  split <;> simp only [e]
theorem xs {j k c z : Nat} {v : Int32} (h : xtb[j]? = some (0, c, z)) (hj : j < 56) (hf : (xfs X σ ρ j).set k (.int v) = xfs X (s2 σ j k v) ρ j) : gsetf (xE X σ ρ A P R) (X + j) k (.int v) = xE X (s2 σ j k v) ρ A P R := by
  have e : xE X σ ρ A P R (X + j) = some (.inr (c, xfs X σ ρ j)) := by
    rw [xE_at hj]; unfold xcl; rw [h]; rfl
  rw [gsetf_of e]
  refine xE_gup hj ?_ fun a ha => ?_
  · unfold xcl; rw [h, hf]; rfl
  · unfold xcl
    rw [xfs_ne ha]
theorem xsv {j k c z i : Nat} {v : Value} (h : xtb[j]? = some (0, c, z)) (hj : j < 56) (hf : (xfs X σ ρ j).set k v = xfs X σ (sup ρ i v) j) (ho : ∀ a, a ≠ j → xfs X σ (sup ρ i v) a = xfs X σ ρ a) : gsetf (xE X σ ρ A P R) (X + j) k v = xE X σ (sup ρ i v) A P R := by
  have e : xE X σ ρ A P R (X + j) = some (.inr (c, xfs X σ ρ j)) := by
    rw [xE_at hj]; unfold xcl; rw [h]; rfl
  rw [gsetf_of e]
  refine xE_gup hj ?_ fun a ha => ?_
  · unfold xcl; rw [h, hf]; rfl
  · unfold xcl
    rw [ho a ha]
theorem x_0 : xE X σ ρ A P R X = some (.inr (11, xfs X σ ρ 0)) := xE_at (k := 0) (by decide)
theorem xf_0_0 : gfld (xE X σ ρ A P R) X 11 0 = some (.ref (X + 1)) := by rw [gfld, x_0]; rfl
theorem xf_0_1 : gfld (xE X σ ρ A P R) X 11 1 = some (.ref (X + 16)) := by rw [gfld, x_0]; rfl
theorem xf_0_2 : gfld (xE X σ ρ A P R) X 11 2 = some (.ref (X + 31)) := by rw [gfld, x_0]; rfl
theorem xf_0_3 : gfld (xE X σ ρ A P R) X 11 3 = some (.ref (X + 32)) := by rw [gfld, x_0]; rfl
theorem xf_0_4 : gfld (xE X σ ρ A P R) X 11 4 = some (.ref (X + 34)) := by rw [gfld, x_0]; rfl
theorem xf_0_5 : gfld (xE X σ ρ A P R) X 11 5 = some (.ref (X + 35)) := by rw [gfld, x_0]; rfl
theorem xf_0_6 : gfld (xE X σ ρ A P R) X 11 6 = some (.ref (X + 37)) := by rw [gfld, x_0]; rfl
theorem xf_0_7 : gfld (xE X σ ρ A P R) X 11 7 = some (.ref (X + 42)) := by rw [gfld, x_0]; rfl
theorem xf_0_8 : gfld (xE X σ ρ A P R) X 11 8 = some (.ref (X + 50)) := by rw [gfld, x_0]; rfl
theorem xf_0_9 : gfld (xE X σ ρ A P R) X 11 9 = some (.ref (X + 55)) := by rw [gfld, x_0]; rfl
theorem xf_0_10 : gfld (xE X σ ρ A P R) X 11 10 = some (.int (σ 0 10)) := by rw [gfld, x_0]; rfl
theorem xs_0_10 {v : Int32} : gsetf (xE X σ ρ A P R) X 10 (.int v) = xE X (s2 σ 0 10 v) ρ A P R := xs (j := 0) rfl (by decide) (by simp [xfs, s2])
theorem xf_0_11 : gfld (xE X σ ρ A P R) X 11 11 = some (.int (σ 0 11)) := by rw [gfld, x_0]; rfl
theorem xs_0_11 {v : Int32} : gsetf (xE X σ ρ A P R) X 11 (.int v) = xE X (s2 σ 0 11 v) ρ A P R := xs (j := 0) rfl (by decide) (by simp [xfs, s2])
theorem xf_0_12 : gfld (xE X σ ρ A P R) X 11 12 = some (.int (σ 0 12)) := by rw [gfld, x_0]; rfl
theorem xs_0_12 {v : Int32} : gsetf (xE X σ ρ A P R) X 12 (.int v) = xE X (s2 σ 0 12 v) ρ A P R := xs (j := 0) rfl (by decide) (by simp [xfs, s2])
theorem x_1 : xE X σ ρ A P R (X + 1) = some (.inr (6, xfs X σ ρ 1)) := xE_at (k := 1) (by decide)
theorem xf_1_0 : gfld (xE X σ ρ A P R) (X + 1) 6 0 = some (.ref (X + 2)) := by rw [gfld, x_1]; rfl
theorem xf_1_1 : gfld (xE X σ ρ A P R) (X + 1) 6 1 = some (.ref (X + 7)) := by rw [gfld, x_1]; rfl
theorem xf_1_2 : gfld (xE X σ ρ A P R) (X + 1) 6 2 = some (.ref (X + 9)) := by rw [gfld, x_1]; rfl
theorem xf_1_3 : gfld (xE X σ ρ A P R) (X + 1) 6 3 = some (.ref (X + 11)) := by rw [gfld, x_1]; rfl
theorem xf_1_4 : gfld (xE X σ ρ A P R) (X + 1) 6 4 = some (.ref (X + 13)) := by rw [gfld, x_1]; rfl
theorem xf_1_5 : gfld (xE X σ ρ A P R) (X + 1) 6 5 = some (.ref (X + 14)) := by rw [gfld, x_1]; rfl
theorem xf_1_6 : gfld (xE X σ ρ A P R) (X + 1) 6 6 = some (.ref (X + 15)) := by rw [gfld, x_1]; rfl
theorem xf_1_7 : gfld (xE X σ ρ A P R) (X + 1) 6 7 = some (.int (σ 1 7)) := by rw [gfld, x_1]; rfl
theorem xs_1_7 {v : Int32} : gsetf (xE X σ ρ A P R) (X + 1) 7 (.int v) = xE X (s2 σ 1 7 v) ρ A P R := xs (j := 1) rfl (by decide) (by simp [xfs, s2])
theorem xf_1_8 : gfld (xE X σ ρ A P R) (X + 1) 6 8 = some (.int (σ 1 8)) := by rw [gfld, x_1]; rfl
theorem xs_1_8 {v : Int32} : gsetf (xE X σ ρ A P R) (X + 1) 8 (.int v) = xE X (s2 σ 1 8 v) ρ A P R := xs (j := 1) rfl (by decide) (by simp [xfs, s2])
theorem xf_1_9 : gfld (xE X σ ρ A P R) (X + 1) 6 9 = some (.int (σ 1 9)) := by rw [gfld, x_1]; rfl
theorem xs_1_9 {v : Int32} : gsetf (xE X σ ρ A P R) (X + 1) 9 (.int v) = xE X (s2 σ 1 9 v) ρ A P R := xs (j := 1) rfl (by decide) (by simp [xfs, s2])
theorem x_2 : xE X σ ρ A P R (X + 2) = some (.inr (5, xfs X σ ρ 2)) := xE_at (k := 2) (by decide)
theorem xf_2_0 : gfld (xE X σ ρ A P R) (X + 2) 5 0 = some (.ref (X + 3)) := by rw [gfld, x_2]; rfl
theorem xf_2_1 : gfld (xE X σ ρ A P R) (X + 2) 5 1 = some (.ref (X + 4)) := by rw [gfld, x_2]; rfl
theorem xf_2_2 : gfld (xE X σ ρ A P R) (X + 2) 5 2 = some (.ref (X + 5)) := by rw [gfld, x_2]; rfl
theorem xf_2_3 : gfld (xE X σ ρ A P R) (X + 2) 5 3 = some (.ref (X + 6)) := by rw [gfld, x_2]; rfl
theorem xf_2_4 : gfld (xE X σ ρ A P R) (X + 2) 5 4 = some (.int (σ 2 4)) := by rw [gfld, x_2]; rfl
theorem xs_2_4 {v : Int32} : gsetf (xE X σ ρ A P R) (X + 2) 4 (.int v) = xE X (s2 σ 2 4 v) ρ A P R := xs (j := 2) rfl (by decide) (by simp [xfs, s2])
theorem xf_2_5 : gfld (xE X σ ρ A P R) (X + 2) 5 5 = some (.int (σ 2 5)) := by rw [gfld, x_2]; rfl
theorem xs_2_5 {v : Int32} : gsetf (xE X σ ρ A P R) (X + 2) 5 (.int v) = xE X (s2 σ 2 5 v) ρ A P R := xs (j := 2) rfl (by decide) (by simp [xfs, s2])
theorem xf_2_6 : gfld (xE X σ ρ A P R) (X + 2) 5 6 = some (.int (σ 2 6)) := by rw [gfld, x_2]; rfl
theorem xs_2_6 {v : Int32} : gsetf (xE X σ ρ A P R) (X + 2) 6 (.int v) = xE X (s2 σ 2 6 v) ρ A P R := xs (j := 2) rfl (by decide) (by simp [xfs, s2])
theorem x_3 : xE X σ ρ A P R (X + 3) = some (.inl (0, 30, .inl (A 3))) := xE_at (k := 3) (by decide)
theorem xu_3 {f : Nat → Int32} : gup (xE X σ ρ A P R) (X + 3) (.inl (0, 30, .inl f)) = xE X σ ρ (sup A 3 f) P R := xu (k := 3) rfl (by decide)
theorem x_4 : xE X σ ρ A P R (X + 4) = some (.inl (0, 30, .inl (A 4))) := xE_at (k := 4) (by decide)
theorem xu_4 {f : Nat → Int32} : gup (xE X σ ρ A P R) (X + 4) (.inl (0, 30, .inl f)) = xE X σ ρ (sup A 4 f) P R := xu (k := 4) rfl (by decide)
theorem x_5 : xE X σ ρ A P R (X + 5) = some (.inl (0, 7, .inl (A 5))) := xE_at (k := 5) (by decide)
theorem xu_5 {f : Nat → Int32} : gup (xE X σ ρ A P R) (X + 5) (.inl (0, 7, .inl f)) = xE X σ ρ (sup A 5 f) P R := xu (k := 5) rfl (by decide)
theorem x_6 : xE X σ ρ A P R (X + 6) = some (.inl (0, 120, .inl (A 6))) := xE_at (k := 6) (by decide)
theorem xu_6 {f : Nat → Int32} : gup (xE X σ ρ A P R) (X + 6) (.inl (0, 120, .inl f)) = xE X σ ρ (sup A 6 f) P R := xu (k := 6) rfl (by decide)
theorem x_7 : xE X σ ρ A P R (X + 7) = some (.inr (7, xfs X σ ρ 7)) := xE_at (k := 7) (by decide)
theorem xf_7_0 : gfld (xE X σ ρ A P R) (X + 7) 7 0 = some (.ref (X + 8)) := by rw [gfld, x_7]; rfl
theorem xf_7_1 : gfld (xE X σ ρ A P R) (X + 7) 7 1 = some (.int (σ 7 1)) := by rw [gfld, x_7]; rfl
theorem xs_7_1 {v : Int32} : gsetf (xE X σ ρ A P R) (X + 7) 1 (.int v) = xE X (s2 σ 7 1 v) ρ A P R := xs (j := 7) rfl (by decide) (by simp [xfs, s2])
theorem xf_7_2 : gfld (xE X σ ρ A P R) (X + 7) 7 2 = some (.int (σ 7 2)) := by rw [gfld, x_7]; rfl
theorem xs_7_2 {v : Int32} : gsetf (xE X σ ρ A P R) (X + 7) 2 (.int v) = xE X (s2 σ 7 2 v) ρ A P R := xs (j := 7) rfl (by decide) (by simp [xfs, s2])
theorem x_8 : xE X σ ρ A P R (X + 8) = some (.inl (3, 30, .inr (.inr (.inr (.inr (P 8)))))) := xE_at (k := 8) (by decide)
theorem xu_8 {f : Nat → Option Nat} : gup (xE X σ ρ A P R) (X + 8) (.inl (3, 30, .inr (.inr (.inr (.inr f))))) = xE X σ ρ A (sup P 8 f) R := xuP (k := 8) rfl (by decide)
theorem x_9 : xE X σ ρ A P R (X + 9) = some (.inr (10, xfs X σ ρ 9)) := xE_at (k := 9) (by decide)
theorem xf_9_0 : gfld (xE X σ ρ A P R) (X + 9) 10 0 = some (.ref (X + 10)) := by rw [gfld, x_9]; rfl
theorem xf_9_1 : gfld (xE X σ ρ A P R) (X + 9) 10 1 = some (.int (σ 9 1)) := by rw [gfld, x_9]; rfl
theorem xs_9_1 {v : Int32} : gsetf (xE X σ ρ A P R) (X + 9) 1 (.int v) = xE X (s2 σ 9 1 v) ρ A P R := xs (j := 9) rfl (by decide) (by simp [xfs, s2])
theorem xf_9_2 : gfld (xE X σ ρ A P R) (X + 9) 10 2 = some (.int (σ 9 2)) := by rw [gfld, x_9]; rfl
theorem xs_9_2 {v : Int32} : gsetf (xE X σ ρ A P R) (X + 9) 2 (.int v) = xE X (s2 σ 9 2 v) ρ A P R := xs (j := 9) rfl (by decide) (by simp [xfs, s2])
theorem x_10 : xE X σ ρ A P R (X + 10) = some (.inl (0, 18, .inl (A 10))) := xE_at (k := 10) (by decide)
theorem xu_10 {f : Nat → Int32} : gup (xE X σ ρ A P R) (X + 10) (.inl (0, 18, .inl f)) = xE X σ ρ (sup A 10 f) P R := xu (k := 10) rfl (by decide)
theorem x_11 : xE X σ ρ A P R (X + 11) = some (.inr (10, xfs X σ ρ 11)) := xE_at (k := 11) (by decide)
theorem xf_11_0 : gfld (xE X σ ρ A P R) (X + 11) 10 0 = some (.ref (X + 12)) := by rw [gfld, x_11]; rfl
theorem xf_11_1 : gfld (xE X σ ρ A P R) (X + 11) 10 1 = some (.int (σ 11 1)) := by rw [gfld, x_11]; rfl
theorem xs_11_1 {v : Int32} : gsetf (xE X σ ρ A P R) (X + 11) 1 (.int v) = xE X (s2 σ 11 1 v) ρ A P R := xs (j := 11) rfl (by decide) (by simp [xfs, s2])
theorem xf_11_2 : gfld (xE X σ ρ A P R) (X + 11) 10 2 = some (.int (σ 11 2)) := by rw [gfld, x_11]; rfl
theorem xs_11_2 {v : Int32} : gsetf (xE X σ ρ A P R) (X + 11) 2 (.int v) = xE X (s2 σ 11 2 v) ρ A P R := xs (j := 11) rfl (by decide) (by simp [xfs, s2])
theorem x_12 : xE X σ ρ A P R (X + 12) = some (.inl (0, 24, .inl (A 12))) := xE_at (k := 12) (by decide)
theorem xu_12 {f : Nat → Int32} : gup (xE X σ ρ A P R) (X + 12) (.inl (0, 24, .inl f)) = xE X σ ρ (sup A 12 f) P R := xu (k := 12) rfl (by decide)
theorem x_13 : xE X σ ρ A P R (X + 13) = some (.inl (0, 13, .inl (A 13))) := xE_at (k := 13) (by decide)
theorem xu_13 {f : Nat → Int32} : gup (xE X σ ρ A P R) (X + 13) (.inl (0, 13, .inl f)) = xE X σ ρ (sup A 13 f) P R := xu (k := 13) rfl (by decide)
theorem x_14 : xE X σ ρ A P R (X + 14) = some (.inl (0, 7, .inl (A 14))) := xE_at (k := 14) (by decide)
theorem xu_14 {f : Nat → Int32} : gup (xE X σ ρ A P R) (X + 14) (.inl (0, 7, .inl f)) = xE X σ ρ (sup A 14 f) P R := xu (k := 14) rfl (by decide)
theorem x_15 : xE X σ ρ A P R (X + 15) = some (.inl (0, 7, .inl (A 15))) := xE_at (k := 15) (by decide)
theorem xu_15 {f : Nat → Int32} : gup (xE X σ ρ A P R) (X + 15) (.inl (0, 7, .inl f)) = xE X σ ρ (sup A 15 f) P R := xu (k := 15) rfl (by decide)
theorem x_16 : xE X σ ρ A P R (X + 16) = some (.inr (6, xfs X σ ρ 16)) := xE_at (k := 16) (by decide)
theorem xf_16_0 : gfld (xE X σ ρ A P R) (X + 16) 6 0 = some (.ref (X + 17)) := by rw [gfld, x_16]; rfl
theorem xf_16_1 : gfld (xE X σ ρ A P R) (X + 16) 6 1 = some (.ref (X + 22)) := by rw [gfld, x_16]; rfl
theorem xf_16_2 : gfld (xE X σ ρ A P R) (X + 16) 6 2 = some (.ref (X + 24)) := by rw [gfld, x_16]; rfl
theorem xf_16_3 : gfld (xE X σ ρ A P R) (X + 16) 6 3 = some (.ref (X + 26)) := by rw [gfld, x_16]; rfl
theorem xf_16_4 : gfld (xE X σ ρ A P R) (X + 16) 6 4 = some (.ref (X + 28)) := by rw [gfld, x_16]; rfl
theorem xf_16_5 : gfld (xE X σ ρ A P R) (X + 16) 6 5 = some (.ref (X + 29)) := by rw [gfld, x_16]; rfl
theorem xf_16_6 : gfld (xE X σ ρ A P R) (X + 16) 6 6 = some (.ref (X + 30)) := by rw [gfld, x_16]; rfl
theorem xf_16_7 : gfld (xE X σ ρ A P R) (X + 16) 6 7 = some (.int (σ 16 7)) := by rw [gfld, x_16]; rfl
theorem xs_16_7 {v : Int32} : gsetf (xE X σ ρ A P R) (X + 16) 7 (.int v) = xE X (s2 σ 16 7 v) ρ A P R := xs (j := 16) rfl (by decide) (by simp [xfs, s2])
theorem xf_16_8 : gfld (xE X σ ρ A P R) (X + 16) 6 8 = some (.int (σ 16 8)) := by rw [gfld, x_16]; rfl
theorem xs_16_8 {v : Int32} : gsetf (xE X σ ρ A P R) (X + 16) 8 (.int v) = xE X (s2 σ 16 8 v) ρ A P R := xs (j := 16) rfl (by decide) (by simp [xfs, s2])
theorem xf_16_9 : gfld (xE X σ ρ A P R) (X + 16) 6 9 = some (.int (σ 16 9)) := by rw [gfld, x_16]; rfl
theorem xs_16_9 {v : Int32} : gsetf (xE X σ ρ A P R) (X + 16) 9 (.int v) = xE X (s2 σ 16 9 v) ρ A P R := xs (j := 16) rfl (by decide) (by simp [xfs, s2])
theorem x_17 : xE X σ ρ A P R (X + 17) = some (.inr (5, xfs X σ ρ 17)) := xE_at (k := 17) (by decide)
theorem xf_17_0 : gfld (xE X σ ρ A P R) (X + 17) 5 0 = some (.ref (X + 18)) := by rw [gfld, x_17]; rfl
theorem xf_17_1 : gfld (xE X σ ρ A P R) (X + 17) 5 1 = some (.ref (X + 19)) := by rw [gfld, x_17]; rfl
theorem xf_17_2 : gfld (xE X σ ρ A P R) (X + 17) 5 2 = some (.ref (X + 20)) := by rw [gfld, x_17]; rfl
theorem xf_17_3 : gfld (xE X σ ρ A P R) (X + 17) 5 3 = some (.ref (X + 21)) := by rw [gfld, x_17]; rfl
theorem xf_17_4 : gfld (xE X σ ρ A P R) (X + 17) 5 4 = some (.int (σ 17 4)) := by rw [gfld, x_17]; rfl
theorem xs_17_4 {v : Int32} : gsetf (xE X σ ρ A P R) (X + 17) 4 (.int v) = xE X (s2 σ 17 4 v) ρ A P R := xs (j := 17) rfl (by decide) (by simp [xfs, s2])
theorem xf_17_5 : gfld (xE X σ ρ A P R) (X + 17) 5 5 = some (.int (σ 17 5)) := by rw [gfld, x_17]; rfl
theorem xs_17_5 {v : Int32} : gsetf (xE X σ ρ A P R) (X + 17) 5 (.int v) = xE X (s2 σ 17 5 v) ρ A P R := xs (j := 17) rfl (by decide) (by simp [xfs, s2])
theorem xf_17_6 : gfld (xE X σ ρ A P R) (X + 17) 5 6 = some (.int (σ 17 6)) := by rw [gfld, x_17]; rfl
theorem xs_17_6 {v : Int32} : gsetf (xE X σ ρ A P R) (X + 17) 6 (.int v) = xE X (s2 σ 17 6 v) ρ A P R := xs (j := 17) rfl (by decide) (by simp [xfs, s2])
theorem x_18 : xE X σ ρ A P R (X + 18) = some (.inl (0, 30, .inl (A 18))) := xE_at (k := 18) (by decide)
theorem xu_18 {f : Nat → Int32} : gup (xE X σ ρ A P R) (X + 18) (.inl (0, 30, .inl f)) = xE X σ ρ (sup A 18 f) P R := xu (k := 18) rfl (by decide)
theorem x_19 : xE X σ ρ A P R (X + 19) = some (.inl (0, 30, .inl (A 19))) := xE_at (k := 19) (by decide)
theorem xu_19 {f : Nat → Int32} : gup (xE X σ ρ A P R) (X + 19) (.inl (0, 30, .inl f)) = xE X σ ρ (sup A 19 f) P R := xu (k := 19) rfl (by decide)
theorem x_20 : xE X σ ρ A P R (X + 20) = some (.inl (0, 7, .inl (A 20))) := xE_at (k := 20) (by decide)
theorem xu_20 {f : Nat → Int32} : gup (xE X σ ρ A P R) (X + 20) (.inl (0, 7, .inl f)) = xE X σ ρ (sup A 20 f) P R := xu (k := 20) rfl (by decide)
theorem x_21 : xE X σ ρ A P R (X + 21) = some (.inl (0, 120, .inl (A 21))) := xE_at (k := 21) (by decide)
theorem xu_21 {f : Nat → Int32} : gup (xE X σ ρ A P R) (X + 21) (.inl (0, 120, .inl f)) = xE X σ ρ (sup A 21 f) P R := xu (k := 21) rfl (by decide)
theorem x_22 : xE X σ ρ A P R (X + 22) = some (.inr (7, xfs X σ ρ 22)) := xE_at (k := 22) (by decide)
theorem xf_22_0 : gfld (xE X σ ρ A P R) (X + 22) 7 0 = some (.ref (X + 23)) := by rw [gfld, x_22]; rfl
theorem xf_22_1 : gfld (xE X σ ρ A P R) (X + 22) 7 1 = some (.int (σ 22 1)) := by rw [gfld, x_22]; rfl
theorem xs_22_1 {v : Int32} : gsetf (xE X σ ρ A P R) (X + 22) 1 (.int v) = xE X (s2 σ 22 1 v) ρ A P R := xs (j := 22) rfl (by decide) (by simp [xfs, s2])
theorem xf_22_2 : gfld (xE X σ ρ A P R) (X + 22) 7 2 = some (.int (σ 22 2)) := by rw [gfld, x_22]; rfl
theorem xs_22_2 {v : Int32} : gsetf (xE X σ ρ A P R) (X + 22) 2 (.int v) = xE X (s2 σ 22 2 v) ρ A P R := xs (j := 22) rfl (by decide) (by simp [xfs, s2])
theorem x_23 : xE X σ ρ A P R (X + 23) = some (.inl (3, 30, .inr (.inr (.inr (.inr (P 23)))))) := xE_at (k := 23) (by decide)
theorem xu_23 {f : Nat → Option Nat} : gup (xE X σ ρ A P R) (X + 23) (.inl (3, 30, .inr (.inr (.inr (.inr f))))) = xE X σ ρ A (sup P 23 f) R := xuP (k := 23) rfl (by decide)
theorem x_24 : xE X σ ρ A P R (X + 24) = some (.inr (10, xfs X σ ρ 24)) := xE_at (k := 24) (by decide)
theorem xf_24_0 : gfld (xE X σ ρ A P R) (X + 24) 10 0 = some (.ref (X + 25)) := by rw [gfld, x_24]; rfl
theorem xf_24_1 : gfld (xE X σ ρ A P R) (X + 24) 10 1 = some (.int (σ 24 1)) := by rw [gfld, x_24]; rfl
theorem xs_24_1 {v : Int32} : gsetf (xE X σ ρ A P R) (X + 24) 1 (.int v) = xE X (s2 σ 24 1 v) ρ A P R := xs (j := 24) rfl (by decide) (by simp [xfs, s2])
theorem xf_24_2 : gfld (xE X σ ρ A P R) (X + 24) 10 2 = some (.int (σ 24 2)) := by rw [gfld, x_24]; rfl
theorem xs_24_2 {v : Int32} : gsetf (xE X σ ρ A P R) (X + 24) 2 (.int v) = xE X (s2 σ 24 2 v) ρ A P R := xs (j := 24) rfl (by decide) (by simp [xfs, s2])
theorem x_25 : xE X σ ρ A P R (X + 25) = some (.inl (0, 18, .inl (A 25))) := xE_at (k := 25) (by decide)
theorem xu_25 {f : Nat → Int32} : gup (xE X σ ρ A P R) (X + 25) (.inl (0, 18, .inl f)) = xE X σ ρ (sup A 25 f) P R := xu (k := 25) rfl (by decide)
theorem x_26 : xE X σ ρ A P R (X + 26) = some (.inr (10, xfs X σ ρ 26)) := xE_at (k := 26) (by decide)
theorem xf_26_0 : gfld (xE X σ ρ A P R) (X + 26) 10 0 = some (.ref (X + 27)) := by rw [gfld, x_26]; rfl
theorem xf_26_1 : gfld (xE X σ ρ A P R) (X + 26) 10 1 = some (.int (σ 26 1)) := by rw [gfld, x_26]; rfl
theorem xs_26_1 {v : Int32} : gsetf (xE X σ ρ A P R) (X + 26) 1 (.int v) = xE X (s2 σ 26 1 v) ρ A P R := xs (j := 26) rfl (by decide) (by simp [xfs, s2])
theorem xf_26_2 : gfld (xE X σ ρ A P R) (X + 26) 10 2 = some (.int (σ 26 2)) := by rw [gfld, x_26]; rfl
theorem xs_26_2 {v : Int32} : gsetf (xE X σ ρ A P R) (X + 26) 2 (.int v) = xE X (s2 σ 26 2 v) ρ A P R := xs (j := 26) rfl (by decide) (by simp [xfs, s2])
theorem x_27 : xE X σ ρ A P R (X + 27) = some (.inl (0, 24, .inl (A 27))) := xE_at (k := 27) (by decide)
theorem xu_27 {f : Nat → Int32} : gup (xE X σ ρ A P R) (X + 27) (.inl (0, 24, .inl f)) = xE X σ ρ (sup A 27 f) P R := xu (k := 27) rfl (by decide)
theorem x_28 : xE X σ ρ A P R (X + 28) = some (.inl (0, 13, .inl (A 28))) := xE_at (k := 28) (by decide)
theorem xu_28 {f : Nat → Int32} : gup (xE X σ ρ A P R) (X + 28) (.inl (0, 13, .inl f)) = xE X σ ρ (sup A 28 f) P R := xu (k := 28) rfl (by decide)
theorem x_29 : xE X σ ρ A P R (X + 29) = some (.inl (0, 7, .inl (A 29))) := xE_at (k := 29) (by decide)
theorem xu_29 {f : Nat → Int32} : gup (xE X σ ρ A P R) (X + 29) (.inl (0, 7, .inl f)) = xE X σ ρ (sup A 29 f) P R := xu (k := 29) rfl (by decide)
theorem x_30 : xE X σ ρ A P R (X + 30) = some (.inl (0, 7, .inl (A 30))) := xE_at (k := 30) (by decide)
theorem xu_30 {f : Nat → Int32} : gup (xE X σ ρ A P R) (X + 30) (.inl (0, 7, .inl f)) = xE X σ ρ (sup A 30 f) P R := xu (k := 30) rfl (by decide)
theorem x_31 : xE X σ ρ A P R (X + 31) = some (.inl (4, 4, .inr (.inr (.inr (.inr (P 31)))))) := xE_at (k := 31) (by decide)
theorem xu_31 {f : Nat → Option Nat} : gup (xE X σ ρ A P R) (X + 31) (.inl (4, 4, .inr (.inr (.inr (.inr f))))) = xE X σ ρ A (sup P 31 f) R := xuP (k := 31) rfl (by decide)
theorem x_32 : xE X σ ρ A P R (X + 32) = some (.inr (0, xfs X σ ρ 32)) := xE_at (k := 32) (by decide)
theorem xf_32_0 : gfld (xE X σ ρ A P R) (X + 32) 0 0 = some (.ref (X + 1)) := by rw [gfld, x_32]; rfl
theorem xf_32_1 : gfld (xE X σ ρ A P R) (X + 32) 0 1 = some (.ref (X + 31)) := by rw [gfld, x_32]; rfl
theorem xf_32_2 : gfld (xE X σ ρ A P R) (X + 32) 0 2 = some (.ref (X + 33)) := by rw [gfld, x_32]; rfl
theorem xf_32_3 : gfld (xE X σ ρ A P R) (X + 32) 0 3 = some (ρ 0) := by rw [gfld, x_32]; rfl
theorem xs_32_3 {v : Value} : gsetf (xE X σ ρ A P R) (X + 32) 3 v = xE X σ (sup ρ 0 v) A P R := xsv (j := 32) rfl (by decide) (by simp [xfs, sup]) (fun a ha => by unfold xfs; split <;> simp_all [sup])
theorem xf_32_4 : gfld (xE X σ ρ A P R) (X + 32) 0 4 = some (.int (σ 32 4)) := by rw [gfld, x_32]; rfl
theorem xs_32_4 {v : Int32} : gsetf (xE X σ ρ A P R) (X + 32) 4 (.int v) = xE X (s2 σ 32 4 v) ρ A P R := xs (j := 32) rfl (by decide) (by simp [xfs, s2])
theorem xf_32_5 : gfld (xE X σ ρ A P R) (X + 32) 0 5 = some (.int (σ 32 5)) := by rw [gfld, x_32]; rfl
theorem xs_32_5 {v : Int32} : gsetf (xE X σ ρ A P R) (X + 32) 5 (.int v) = xE X (s2 σ 32 5 v) ρ A P R := xs (j := 32) rfl (by decide) (by simp [xfs, s2])
theorem xf_32_6 : gfld (xE X σ ρ A P R) (X + 32) 0 6 = some (.int (σ 32 6)) := by rw [gfld, x_32]; rfl
theorem xs_32_6 {v : Int32} : gsetf (xE X σ ρ A P R) (X + 32) 6 (.int v) = xE X (s2 σ 32 6 v) ρ A P R := xs (j := 32) rfl (by decide) (by simp [xfs, s2])
theorem xf_32_7 : gfld (xE X σ ρ A P R) (X + 32) 0 7 = some (.int (σ 32 7)) := by rw [gfld, x_32]; rfl
theorem xs_32_7 {v : Int32} : gsetf (xE X σ ρ A P R) (X + 32) 7 (.int v) = xE X (s2 σ 32 7 v) ρ A P R := xs (j := 32) rfl (by decide) (by simp [xfs, s2])
theorem xf_32_8 : gfld (xE X σ ρ A P R) (X + 32) 0 8 = some (.int (σ 32 8)) := by rw [gfld, x_32]; rfl
theorem xs_32_8 {v : Int32} : gsetf (xE X σ ρ A P R) (X + 32) 8 (.int v) = xE X (s2 σ 32 8 v) ρ A P R := xs (j := 32) rfl (by decide) (by simp [xfs, s2])
theorem x_33 : xE X σ ρ A P R (X + 33) = some (.inl (0, 64, .inl (A 33))) := xE_at (k := 33) (by decide)
theorem xu_33 {f : Nat → Int32} : gup (xE X σ ρ A P R) (X + 33) (.inl (0, 64, .inl f)) = xE X σ ρ (sup A 33 f) P R := xu (k := 33) rfl (by decide)
theorem x_34 : xE X σ ρ A P R (X + 34) = some (.inr (2, xfs X σ ρ 34)) := xE_at (k := 34) (by decide)
theorem xf_34_0 : gfld (xE X σ ρ A P R) (X + 34) 2 0 = some (.ref (X + 1)) := by rw [gfld, x_34]; rfl
theorem xf_34_1 : gfld (xE X σ ρ A P R) (X + 34) 2 1 = some (.ref (X + 32)) := by rw [gfld, x_34]; rfl
theorem x_35 : xE X σ ρ A P R (X + 35) = some (.inr (1, xfs X σ ρ 35)) := xE_at (k := 35) (by decide)
theorem xf_35_0 : gfld (xE X σ ρ A P R) (X + 35) 1 0 = some (.ref (X + 1)) := by rw [gfld, x_35]; rfl
theorem xf_35_1 : gfld (xE X σ ρ A P R) (X + 35) 1 1 = some (.ref (X + 32)) := by rw [gfld, x_35]; rfl
theorem xf_35_2 : gfld (xE X σ ρ A P R) (X + 35) 1 2 = some (.ref (X + 36)) := by rw [gfld, x_35]; rfl
theorem xf_35_3 : gfld (xE X σ ρ A P R) (X + 35) 1 3 = some (.int (σ 35 3)) := by rw [gfld, x_35]; rfl
theorem xs_35_3 {v : Int32} : gsetf (xE X σ ρ A P R) (X + 35) 3 (.int v) = xE X (s2 σ 35 3 v) ρ A P R := xs (j := 35) rfl (by decide) (by simp [xfs, s2])
theorem x_36 : xE X σ ρ A P R (X + 36) = some (.inl (0, 12, .inl (A 36))) := xE_at (k := 36) (by decide)
theorem xu_36 {f : Nat → Int32} : gup (xE X σ ρ A P R) (X + 36) (.inl (0, 12, .inl f)) = xE X σ ρ (sup A 36 f) P R := xu (k := 36) rfl (by decide)
theorem x_37 : xE X σ ρ A P R (X + 37) = some (.inr (4, xfs X σ ρ 37)) := xE_at (k := 37) (by decide)
theorem xf_37_0 : gfld (xE X σ ρ A P R) (X + 37) 4 0 = some (.ref (X + 38)) := by rw [gfld, x_37]; rfl
theorem xf_37_1 : gfld (xE X σ ρ A P R) (X + 37) 4 1 = some (.ref (X + 39)) := by rw [gfld, x_37]; rfl
theorem xf_37_2 : gfld (xE X σ ρ A P R) (X + 37) 4 2 = some (.ref (X + 40)) := by rw [gfld, x_37]; rfl
theorem xf_37_3 : gfld (xE X σ ρ A P R) (X + 37) 4 3 = some (.ref (X + 41)) := by rw [gfld, x_37]; rfl
theorem xf_37_4 : gfld (xE X σ ρ A P R) (X + 37) 4 4 = some (.int (σ 37 4)) := by rw [gfld, x_37]; rfl
theorem xs_37_4 {v : Int32} : gsetf (xE X σ ρ A P R) (X + 37) 4 (.int v) = xE X (s2 σ 37 4 v) ρ A P R := xs (j := 37) rfl (by decide) (by simp [xfs, s2])
theorem xf_37_5 : gfld (xE X σ ρ A P R) (X + 37) 4 5 = some (.int (σ 37 5)) := by rw [gfld, x_37]; rfl
theorem xs_37_5 {v : Int32} : gsetf (xE X σ ρ A P R) (X + 37) 5 (.int v) = xE X (s2 σ 37 5 v) ρ A P R := xs (j := 37) rfl (by decide) (by simp [xfs, s2])
theorem xf_37_6 : gfld (xE X σ ρ A P R) (X + 37) 4 6 = some (.int (σ 37 6)) := by rw [gfld, x_37]; rfl
theorem xs_37_6 {v : Int32} : gsetf (xE X σ ρ A P R) (X + 37) 6 (.int v) = xE X (s2 σ 37 6 v) ρ A P R := xs (j := 37) rfl (by decide) (by simp [xfs, s2])
theorem x_38 : xE X σ ρ A P R (X + 38) = some (.inl (0, 4096, .inl (A 38))) := xE_at (k := 38) (by decide)
theorem xu_38 {f : Nat → Int32} : gup (xE X σ ρ A P R) (X + 38) (.inl (0, 4096, .inl f)) = xE X σ ρ (sup A 38 f) P R := xu (k := 38) rfl (by decide)
theorem x_39 : xE X σ ρ A P R (X + 39) = some (.inl (0, 13, .inl (A 39))) := xE_at (k := 39) (by decide)
theorem xu_39 {f : Nat → Int32} : gup (xE X σ ρ A P R) (X + 39) (.inl (0, 13, .inl f)) = xE X σ ρ (sup A 39 f) P R := xu (k := 39) rfl (by decide)
theorem x_40 : xE X σ ρ A P R (X + 40) = some (.inl (0, 900, .inl (A 40))) := xE_at (k := 40) (by decide)
theorem xu_40 {f : Nat → Int32} : gup (xE X σ ρ A P R) (X + 40) (.inl (0, 900, .inl f)) = xE X σ ρ (sup A 40 f) P R := xu (k := 40) rfl (by decide)
theorem x_41 : xE X σ ρ A P R (X + 41) = some (.inl (0, 900, .inl (A 41))) := xE_at (k := 41) (by decide)
theorem xu_41 {f : Nat → Int32} : gup (xE X σ ρ A P R) (X + 41) (.inl (0, 900, .inl f)) = xE X σ ρ (sup A 41 f) P R := xu (k := 41) rfl (by decide)
theorem x_42 : xE X σ ρ A P R (X + 42) = some (.inr (3, xfs X σ ρ 42)) := xE_at (k := 42) (by decide)
theorem xf_42_0 : gfld (xE X σ ρ A P R) (X + 42) 3 0 = some (.ref (X + 43)) := by rw [gfld, x_42]; rfl
theorem xf_42_1 : gfld (xE X σ ρ A P R) (X + 42) 3 1 = some (.ref (X + 48)) := by rw [gfld, x_42]; rfl
theorem xf_42_2 : gfld (xE X σ ρ A P R) (X + 42) 3 2 = some (.ref (X + 49)) := by rw [gfld, x_42]; rfl
theorem xf_42_3 : gfld (xE X σ ρ A P R) (X + 42) 3 3 = some (.int (σ 42 3)) := by rw [gfld, x_42]; rfl
theorem xs_42_3 {v : Int32} : gsetf (xE X σ ρ A P R) (X + 42) 3 (.int v) = xE X (s2 σ 42 3 v) ρ A P R := xs (j := 42) rfl (by decide) (by simp [xfs, s2])
theorem xf_42_4 : gfld (xE X σ ρ A P R) (X + 42) 3 4 = some (.int (σ 42 4)) := by rw [gfld, x_42]; rfl
theorem xs_42_4 {v : Int32} : gsetf (xE X σ ρ A P R) (X + 42) 4 (.int v) = xE X (s2 σ 42 4 v) ρ A P R := xs (j := 42) rfl (by decide) (by simp [xfs, s2])
theorem xf_42_5 : gfld (xE X σ ρ A P R) (X + 42) 3 5 = some (.int (σ 42 5)) := by rw [gfld, x_42]; rfl
theorem xs_42_5 {v : Int32} : gsetf (xE X σ ρ A P R) (X + 42) 5 (.int v) = xE X (s2 σ 42 5 v) ρ A P R := xs (j := 42) rfl (by decide) (by simp [xfs, s2])
theorem xf_42_6 : gfld (xE X σ ρ A P R) (X + 42) 3 6 = some (.int (σ 42 6)) := by rw [gfld, x_42]; rfl
theorem xs_42_6 {v : Int32} : gsetf (xE X σ ρ A P R) (X + 42) 6 (.int v) = xE X (s2 σ 42 6 v) ρ A P R := xs (j := 42) rfl (by decide) (by simp [xfs, s2])
theorem xf_42_7 : gfld (xE X σ ρ A P R) (X + 42) 3 7 = some (ρ 2) := by rw [gfld, x_42]; rfl
theorem xs_42_7 {v : Value} : gsetf (xE X σ ρ A P R) (X + 42) 7 v = xE X σ (sup ρ 2 v) A P R := xsv (j := 42) rfl (by decide) (by simp [xfs, sup]) (fun a ha => by unfold xfs; split <;> simp_all [sup])
theorem xf_42_8 : gfld (xE X σ ρ A P R) (X + 42) 3 8 = some (ρ 3) := by rw [gfld, x_42]; rfl
theorem xs_42_8 {v : Value} : gsetf (xE X σ ρ A P R) (X + 42) 8 v = xE X σ (sup ρ 3 v) A P R := xsv (j := 42) rfl (by decide) (by simp [xfs, sup]) (fun a ha => by unfold xfs; split <;> simp_all [sup])
theorem xf_42_9 : gfld (xE X σ ρ A P R) (X + 42) 3 9 = some (.int (σ 42 9)) := by rw [gfld, x_42]; rfl
theorem xs_42_9 {v : Int32} : gsetf (xE X σ ρ A P R) (X + 42) 9 (.int v) = xE X (s2 σ 42 9 v) ρ A P R := xs (j := 42) rfl (by decide) (by simp [xfs, s2])
theorem xf_42_10 : gfld (xE X σ ρ A P R) (X + 42) 3 10 = some (.int (σ 42 10)) := by rw [gfld, x_42]; rfl
theorem xs_42_10 {v : Int32} : gsetf (xE X σ ρ A P R) (X + 42) 10 (.int v) = xE X (s2 σ 42 10 v) ρ A P R := xs (j := 42) rfl (by decide) (by simp [xfs, s2])
theorem x_43 : xE X σ ρ A P R (X + 43) = some (.inr (9, xfs X σ ρ 43)) := xE_at (k := 43) (by decide)
theorem xf_43_0 : gfld (xE X σ ρ A P R) (X + 43) 9 0 = some (.ref (X + 44)) := by rw [gfld, x_43]; rfl
theorem xf_43_1 : gfld (xE X σ ρ A P R) (X + 43) 9 1 = some (.ref (X + 45)) := by rw [gfld, x_43]; rfl
theorem xf_43_2 : gfld (xE X σ ρ A P R) (X + 43) 9 2 = some (.ref (X + 46)) := by rw [gfld, x_43]; rfl
theorem xf_43_3 : gfld (xE X σ ρ A P R) (X + 43) 9 3 = some (ρ 1) := by rw [gfld, x_43]; rfl
theorem xs_43_3 {v : Value} : gsetf (xE X σ ρ A P R) (X + 43) 3 v = xE X σ (sup ρ 1 v) A P R := xsv (j := 43) rfl (by decide) (by simp [xfs, sup]) (fun a ha => by unfold xfs; split <;> simp_all [sup])
theorem xf_43_4 : gfld (xE X σ ρ A P R) (X + 43) 9 4 = some (.int (σ 43 4)) := by rw [gfld, x_43]; rfl
theorem xs_43_4 {v : Int32} : gsetf (xE X σ ρ A P R) (X + 43) 4 (.int v) = xE X (s2 σ 43 4 v) ρ A P R := xs (j := 43) rfl (by decide) (by simp [xfs, s2])
theorem xf_43_5 : gfld (xE X σ ρ A P R) (X + 43) 9 5 = some (.int (σ 43 5)) := by rw [gfld, x_43]; rfl
theorem xs_43_5 {v : Int32} : gsetf (xE X σ ρ A P R) (X + 43) 5 (.int v) = xE X (s2 σ 43 5 v) ρ A P R := xs (j := 43) rfl (by decide) (by simp [xfs, s2])
theorem xf_43_6 : gfld (xE X σ ρ A P R) (X + 43) 9 6 = some (.int (σ 43 6)) := by rw [gfld, x_43]; rfl
theorem xs_43_6 {v : Int32} : gsetf (xE X σ ρ A P R) (X + 43) 6 (.int v) = xE X (s2 σ 43 6 v) ρ A P R := xs (j := 43) rfl (by decide) (by simp [xfs, s2])
theorem xf_43_7 : gfld (xE X σ ρ A P R) (X + 43) 9 7 = some (.int (σ 43 7)) := by rw [gfld, x_43]; rfl
theorem xs_43_7 {v : Int32} : gsetf (xE X σ ρ A P R) (X + 43) 7 (.int v) = xE X (s2 σ 43 7 v) ρ A P R := xs (j := 43) rfl (by decide) (by simp [xfs, s2])
theorem xf_43_8 : gfld (xE X σ ρ A P R) (X + 43) 9 8 = some (.int (σ 43 8)) := by rw [gfld, x_43]; rfl
theorem xs_43_8 {v : Int32} : gsetf (xE X σ ρ A P R) (X + 43) 8 (.int v) = xE X (s2 σ 43 8 v) ρ A P R := xs (j := 43) rfl (by decide) (by simp [xfs, s2])
theorem xf_43_9 : gfld (xE X σ ρ A P R) (X + 43) 9 9 = some (.int (σ 43 9)) := by rw [gfld, x_43]; rfl
theorem xs_43_9 {v : Int32} : gsetf (xE X σ ρ A P R) (X + 43) 9 (.int v) = xE X (s2 σ 43 9 v) ρ A P R := xs (j := 43) rfl (by decide) (by simp [xfs, s2])
theorem xf_43_10 : gfld (xE X σ ρ A P R) (X + 43) 9 10 = some (.int (σ 43 10)) := by rw [gfld, x_43]; rfl
theorem xs_43_10 {v : Int32} : gsetf (xE X σ ρ A P R) (X + 43) 10 (.int v) = xE X (s2 σ 43 10 v) ρ A P R := xs (j := 43) rfl (by decide) (by simp [xfs, s2])
theorem x_44 : xE X σ ρ A P R (X + 44) = some (.inl (0, 301, .inl (A 44))) := xE_at (k := 44) (by decide)
theorem xu_44 {f : Nat → Int32} : gup (xE X σ ρ A P R) (X + 44) (.inl (0, 301, .inl f)) = xE X σ ρ (sup A 44 f) P R := xu (k := 44) rfl (by decide)
theorem x_45 : xE X σ ρ A P R (X + 45) = some (.inl (0, 301, .inl (A 45))) := xE_at (k := 45) (by decide)
theorem xu_45 {f : Nat → Int32} : gup (xE X σ ρ A P R) (X + 45) (.inl (0, 301, .inl f)) = xE X σ ρ (sup A 45 f) P R := xu (k := 45) rfl (by decide)
theorem x_46 : xE X σ ρ A P R (X + 46) = some (.inl (0, 301, .inl (A 46))) := xE_at (k := 46) (by decide)
theorem xu_46 {f : Nat → Int32} : gup (xE X σ ρ A P R) (X + 46) (.inl (0, 301, .inl f)) = xE X σ ρ (sup A 46 f) P R := xu (k := 46) rfl (by decide)
theorem x_47 : xE X σ ρ A P R (X + 47) = some (.inl (0, 0, .inl (A 47))) := xE_at (k := 47) (by decide)
theorem xu_47 {f : Nat → Int32} : gup (xE X σ ρ A P R) (X + 47) (.inl (0, 0, .inl f)) = xE X σ ρ (sup A 47 f) P R := xu (k := 47) rfl (by decide)
theorem x_48 : xE X σ ρ A P R (X + 48) = some (.inl (0, 1200, .inl (A 48))) := xE_at (k := 48) (by decide)
theorem xu_48 {f : Nat → Int32} : gup (xE X σ ρ A P R) (X + 48) (.inl (0, 1200, .inl f)) = xE X σ ρ (sup A 48 f) P R := xu (k := 48) rfl (by decide)
theorem x_49 : xE X σ ρ A P R (X + 49) = some (.inl (0, 72, .inl (A 49))) := xE_at (k := 49) (by decide)
theorem xu_49 {f : Nat → Int32} : gup (xE X σ ρ A P R) (X + 49) (.inl (0, 72, .inl f)) = xE X σ ρ (sup A 49 f) P R := xu (k := 49) rfl (by decide)
theorem x_50 : xE X σ ρ A P R (X + 50) = some (.inr (5, xfs X σ ρ 50)) := xE_at (k := 50) (by decide)
theorem xf_50_0 : gfld (xE X σ ρ A P R) (X + 50) 5 0 = some (.ref (X + 51)) := by rw [gfld, x_50]; rfl
theorem xf_50_1 : gfld (xE X σ ρ A P R) (X + 50) 5 1 = some (.ref (X + 52)) := by rw [gfld, x_50]; rfl
theorem xf_50_2 : gfld (xE X σ ρ A P R) (X + 50) 5 2 = some (.ref (X + 53)) := by rw [gfld, x_50]; rfl
theorem xf_50_3 : gfld (xE X σ ρ A P R) (X + 50) 5 3 = some (.ref (X + 54)) := by rw [gfld, x_50]; rfl
theorem xf_50_4 : gfld (xE X σ ρ A P R) (X + 50) 5 4 = some (.int (σ 50 4)) := by rw [gfld, x_50]; rfl
theorem xs_50_4 {v : Int32} : gsetf (xE X σ ρ A P R) (X + 50) 4 (.int v) = xE X (s2 σ 50 4 v) ρ A P R := xs (j := 50) rfl (by decide) (by simp [xfs, s2])
theorem xf_50_5 : gfld (xE X σ ρ A P R) (X + 50) 5 5 = some (.int (σ 50 5)) := by rw [gfld, x_50]; rfl
theorem xs_50_5 {v : Int32} : gsetf (xE X σ ρ A P R) (X + 50) 5 (.int v) = xE X (s2 σ 50 5 v) ρ A P R := xs (j := 50) rfl (by decide) (by simp [xfs, s2])
theorem xf_50_6 : gfld (xE X σ ρ A P R) (X + 50) 5 6 = some (.int (σ 50 6)) := by rw [gfld, x_50]; rfl
theorem xs_50_6 {v : Int32} : gsetf (xE X σ ρ A P R) (X + 50) 6 (.int v) = xE X (s2 σ 50 6 v) ρ A P R := xs (j := 50) rfl (by decide) (by simp [xfs, s2])
theorem x_51 : xE X σ ρ A P R (X + 51) = some (.inl (0, 30, .inl (A 51))) := xE_at (k := 51) (by decide)
theorem xu_51 {f : Nat → Int32} : gup (xE X σ ρ A P R) (X + 51) (.inl (0, 30, .inl f)) = xE X σ ρ (sup A 51 f) P R := xu (k := 51) rfl (by decide)
theorem x_52 : xE X σ ρ A P R (X + 52) = some (.inl (0, 30, .inl (A 52))) := xE_at (k := 52) (by decide)
theorem xu_52 {f : Nat → Int32} : gup (xE X σ ρ A P R) (X + 52) (.inl (0, 30, .inl f)) = xE X σ ρ (sup A 52 f) P R := xu (k := 52) rfl (by decide)
theorem x_53 : xE X σ ρ A P R (X + 53) = some (.inl (0, 7, .inl (A 53))) := xE_at (k := 53) (by decide)
theorem xu_53 {f : Nat → Int32} : gup (xE X σ ρ A P R) (X + 53) (.inl (0, 7, .inl f)) = xE X σ ρ (sup A 53 f) P R := xu (k := 53) rfl (by decide)
theorem x_54 : xE X σ ρ A P R (X + 54) = some (.inl (0, 120, .inl (A 54))) := xE_at (k := 54) (by decide)
theorem xu_54 {f : Nat → Int32} : gup (xE X σ ρ A P R) (X + 54) (.inl (0, 120, .inl f)) = xE X σ ρ (sup A 54 f) P R := xu (k := 54) rfl (by decide)
theorem x_55 : xE X σ ρ A P R (X + 55) = some (.inl (0, 300, .inl (A 55))) := xE_at (k := 55) (by decide)
theorem xu_55 {f : Nat → Int32} : gup (xE X σ ρ A P R) (X + 55) (.inl (0, 300, .inl f)) = xE X σ ρ (sup A 55 f) P R := xu (k := 55) rfl (by decide)
end XK
