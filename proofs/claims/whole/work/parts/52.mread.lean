/-! what a world holds, read out of it -/
def garr (C : gC) (q : Nat) : Nat → Int32 := match C q with
  | some (.inl (_, _, .inl f)) => f
  | _ => fun _ => 0
def glng (C : gC) (q : Nat) : Nat → Int64 := match C q with
  | some (.inl (_, _, .inr (.inl f))) => f
  | _ => fun _ => 0
def gint (C : gC) (q ci k : Nat) : Int32 := match gfld C q ci k with
  | some (.int v) => v
  | _ => 0
def glon (C : gC) (q ci k : Nat) : Int64 := match gfld C q ci k with
  | some (.long v) => v
  | _ => 0
def isM (C : gC) (m : Nat) : Prop := ∃ (σ : Nat → Int32) (w : Int64) (A : Nat → Nat → Int32) (L : Nat → Nat → Int64) (R : gC), C = menc m σ w A L R
section MK2
variable {m : Nat} {σ : Nat → Int32} {w : Int64} {A : Nat → Nat → Int32} {L : Nat → Nat → Int64} {R : gC}
theorem isM_menc : isM (menc m σ w A L R) m = True := eq_true ⟨σ, w, A, L, R, rfl⟩
theorem ma_1 : garr (menc m σ w A L R) (m + 1) = A 1 := by simp [garr, menc_1]
theorem ma_2 : garr (menc m σ w A L R) (m + 2) = A 2 := by simp [garr, menc_2]
theorem ma_3 : garr (menc m σ w A L R) (m + 3) = A 3 := by simp [garr, menc_3]
theorem ma_4 : garr (menc m σ w A L R) (m + 4) = A 4 := by simp [garr, menc_4]
theorem ma_5 : garr (menc m σ w A L R) (m + 5) = A 5 := by simp [garr, menc_5]
theorem ma_6 : garr (menc m σ w A L R) (m + 6) = A 6 := by simp [garr, menc_6]
theorem ma_7 : glng (menc m σ w A L R) (m + 7) = L 7 := by simp [glng, menc_7]
theorem ma_8 : garr (menc m σ w A L R) (m + 8) = A 8 := by simp [garr, menc_8]
theorem ma_9 : garr (menc m σ w A L R) (m + 9) = A 9 := by simp [garr, menc_9]
theorem ma_10 : garr (menc m σ w A L R) (m + 10) = A 10 := by simp [garr, menc_10]
theorem ma_11 : glng (menc m σ w A L R) (m + 11) = L 11 := by simp [glng, menc_11]
theorem ma_12 : garr (menc m σ w A L R) (m + 12) = A 12 := by simp [garr, menc_12]
theorem ma_13 : garr (menc m σ w A L R) (m + 13) = A 13 := by simp [garr, menc_13]
theorem ma_14 : garr (menc m σ w A L R) (m + 14) = A 14 := by simp [garr, menc_14]
theorem mi_4 : gint (menc m σ w A L R) m 12 4 = σ 4 := by simp [gint, mf_4]
theorem mi_5 : gint (menc m σ w A L R) m 12 5 = σ 5 := by simp [gint, mf_5]
theorem mi_6 : gint (menc m σ w A L R) m 12 6 = σ 6 := by simp [gint, mf_6]
theorem mi_7 : gint (menc m σ w A L R) m 12 7 = σ 7 := by simp [gint, mf_7]
theorem mi_8 : gint (menc m σ w A L R) m 12 8 = σ 8 := by simp [gint, mf_8]
theorem mi_9 : gint (menc m σ w A L R) m 12 9 = σ 9 := by simp [gint, mf_9]
theorem mi_10 : gint (menc m σ w A L R) m 12 10 = σ 10 := by simp [gint, mf_10]
theorem mi_11 : glon (menc m σ w A L R) m 12 11 = w := by simp [glon, mf_11]
theorem mi_12 : gint (menc m σ w A L R) m 12 12 = σ 12 := by simp [gint, mf_12]
theorem mi_13 : gint (menc m σ w A L R) m 12 13 = σ 13 := by simp [gint, mf_13]
theorem mi_14 : gint (menc m σ w A L R) m 12 14 = σ 14 := by simp [gint, mf_14]
theorem mi_16 : gint (menc m σ w A L R) m 12 16 = σ 16 := by simp [gint, mf_16]
theorem mi_17 : gint (menc m σ w A L R) m 12 17 = σ 17 := by simp [gint, mf_17]
theorem mi_18 : gint (menc m σ w A L R) m 12 18 = σ 18 := by simp [gint, mf_18]
theorem mi_19 : gint (menc m σ w A L R) m 12 19 = σ 19 := by simp [gint, mf_19]
theorem mi_23 : gint (menc m σ w A L R) m 12 23 = σ 23 := by simp [gint, mf_23]
theorem mi_24 : gint (menc m σ w A L R) m 12 24 = σ 24 := by simp [gint, mf_24]
theorem mi_27 : gint (menc m σ w A L R) m 12 27 = σ 27 := by simp [gint, mf_27]
end MK2
