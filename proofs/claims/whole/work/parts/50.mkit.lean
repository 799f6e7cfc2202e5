/-! the reference's world: its object at m, its arrays behind it; σ: its int and boolean fields, w: word, A: its int and boolean arrays, L: its long ones, by their places; R: all else -/
def mfs (m : Nat) (σ : Nat → Int32) (w : Int64) : List Value := [.ref (m + 1), .ref (m + 2), .ref (m + 3), .ref (m + 4), .int (σ 4), .int (σ 5), .int (σ 6), .int (σ 7), .int (σ 8), .int (σ 9), .int (σ 10), .long w, .int (σ 12), .int (σ 13), .int (σ 14), .ref (m + 5), .int (σ 16), .int (σ 17), .int (σ 18), .int (σ 19), .ref (m + 6), .ref (m + 7), .ref (m + 8), .int (σ 23), .int (σ 24), .ref (m + 9), .ref (m + 10), .int (σ 27), .ref (m + 11), .ref (m + 12), .ref (m + 13), .ref (m + 14)]
def menc (m : Nat) (σ : Nat → Int32) (w : Int64) (A : Nat → Nat → Int32) (L : Nat → Nat → Int64) (R : gC) : gC := fun q => if q = m then some (.inr (12, mfs m σ w)) else if q = m + 1 then some (.inl (0, 3205, .inl (A 1))) else if q = m + 2 then some (.inl (0, 3205, .inl (A 2))) else if q = m + 3 then some (.inl (0, 2724, .inl (A 3))) else if q = m + 4 then some (.inl (0, 300, .inl (A 4))) else if q = m + 5 then some (.inl (0, 160, .inl (A 5))) else if q = m + 6 then some (.inl (0, 8, .inl (A 6))) else if q = m + 7 then some (.inl (1, 330, .inr (.inl (L 7)))) else if q = m + 8 then some (.inl (2, 330, .inl (A 8))) else if q = m + 9 then some (.inl (0, 76, .inl (A 9))) else if q = m + 10 then some (.inl (0, 60, .inl (A 10))) else if q = m + 11 then some (.inl (1, 13, .inr (.inl (L 11)))) else if q = m + 12 then some (.inl (2, 4096, .inl (A 12))) else if q = m + 13 then some (.inl (0, 13, .inl (A 13))) else if q = m + 14 then some (.inl (0, 900, .inl (A 14))) else R q
/-- a scalar set -/
def sup {α : Type} (f : Nat → α) (k : Nat) (v : α) : Nat → α := fun j => if j = k then v else f j
section MK
variable {m : Nat} {σ : Nat → Int32} {w : Int64} {A : Nat → Nat → Int32} {L : Nat → Nat → Int64} {R : gC}
theorem menc_0 : menc m σ w A L R m = some (.inr (12, mfs m σ w)) := by simp [menc]
theorem menc_1 : menc m σ w A L R (m + 1) = some (.inl (0, 3205, .inl (A 1))) := by simp [menc]
theorem menc_2 : menc m σ w A L R (m + 2) = some (.inl (0, 3205, .inl (A 2))) := by simp [menc]
theorem menc_3 : menc m σ w A L R (m + 3) = some (.inl (0, 2724, .inl (A 3))) := by simp [menc]
theorem menc_4 : menc m σ w A L R (m + 4) = some (.inl (0, 300, .inl (A 4))) := by simp [menc]
theorem menc_5 : menc m σ w A L R (m + 5) = some (.inl (0, 160, .inl (A 5))) := by simp [menc]
theorem menc_6 : menc m σ w A L R (m + 6) = some (.inl (0, 8, .inl (A 6))) := by simp [menc]
theorem menc_7 : menc m σ w A L R (m + 7) = some (.inl (1, 330, .inr (.inl (L 7)))) := by simp [menc]
theorem menc_8 : menc m σ w A L R (m + 8) = some (.inl (2, 330, .inl (A 8))) := by simp [menc]
theorem menc_9 : menc m σ w A L R (m + 9) = some (.inl (0, 76, .inl (A 9))) := by simp [menc]
theorem menc_10 : menc m σ w A L R (m + 10) = some (.inl (0, 60, .inl (A 10))) := by simp [menc]
theorem menc_11 : menc m σ w A L R (m + 11) = some (.inl (1, 13, .inr (.inl (L 11)))) := by simp [menc]
theorem menc_12 : menc m σ w A L R (m + 12) = some (.inl (2, 4096, .inl (A 12))) := by simp [menc]
theorem menc_13 : menc m σ w A L R (m + 13) = some (.inl (0, 13, .inl (A 13))) := by simp [menc]
theorem menc_14 : menc m σ w A L R (m + 14) = some (.inl (0, 900, .inl (A 14))) := by simp [menc]
theorem mf_0 : gfld (menc m σ w A L R) m 12 0 = some (.ref (m + 1)) := by simp [gfld, menc_0, mfs]
theorem mf_1 : gfld (menc m σ w A L R) m 12 1 = some (.ref (m + 2)) := by simp [gfld, menc_0, mfs]
theorem mf_2 : gfld (menc m σ w A L R) m 12 2 = some (.ref (m + 3)) := by simp [gfld, menc_0, mfs]
theorem mf_3 : gfld (menc m σ w A L R) m 12 3 = some (.ref (m + 4)) := by simp [gfld, menc_0, mfs]
theorem mf_4 : gfld (menc m σ w A L R) m 12 4 = some (.int (σ 4)) := by simp [gfld, menc_0, mfs]
theorem mf_5 : gfld (menc m σ w A L R) m 12 5 = some (.int (σ 5)) := by simp [gfld, menc_0, mfs]
theorem mf_6 : gfld (menc m σ w A L R) m 12 6 = some (.int (σ 6)) := by simp [gfld, menc_0, mfs]
theorem mf_7 : gfld (menc m σ w A L R) m 12 7 = some (.int (σ 7)) := by simp [gfld, menc_0, mfs]
theorem mf_8 : gfld (menc m σ w A L R) m 12 8 = some (.int (σ 8)) := by simp [gfld, menc_0, mfs]
theorem mf_9 : gfld (menc m σ w A L R) m 12 9 = some (.int (σ 9)) := by simp [gfld, menc_0, mfs]
theorem mf_10 : gfld (menc m σ w A L R) m 12 10 = some (.int (σ 10)) := by simp [gfld, menc_0, mfs]
theorem mf_11 : gfld (menc m σ w A L R) m 12 11 = some (.long w) := by simp [gfld, menc_0, mfs]
theorem mf_12 : gfld (menc m σ w A L R) m 12 12 = some (.int (σ 12)) := by simp [gfld, menc_0, mfs]
theorem mf_13 : gfld (menc m σ w A L R) m 12 13 = some (.int (σ 13)) := by simp [gfld, menc_0, mfs]
theorem mf_14 : gfld (menc m σ w A L R) m 12 14 = some (.int (σ 14)) := by simp [gfld, menc_0, mfs]
theorem mf_15 : gfld (menc m σ w A L R) m 12 15 = some (.ref (m + 5)) := by simp [gfld, menc_0, mfs]
theorem mf_16 : gfld (menc m σ w A L R) m 12 16 = some (.int (σ 16)) := by simp [gfld, menc_0, mfs]
theorem mf_17 : gfld (menc m σ w A L R) m 12 17 = some (.int (σ 17)) := by simp [gfld, menc_0, mfs]
theorem mf_18 : gfld (menc m σ w A L R) m 12 18 = some (.int (σ 18)) := by simp [gfld, menc_0, mfs]
theorem mf_19 : gfld (menc m σ w A L R) m 12 19 = some (.int (σ 19)) := by simp [gfld, menc_0, mfs]
theorem mf_20 : gfld (menc m σ w A L R) m 12 20 = some (.ref (m + 6)) := by simp [gfld, menc_0, mfs]
theorem mf_21 : gfld (menc m σ w A L R) m 12 21 = some (.ref (m + 7)) := by simp [gfld, menc_0, mfs]
theorem mf_22 : gfld (menc m σ w A L R) m 12 22 = some (.ref (m + 8)) := by simp [gfld, menc_0, mfs]
theorem mf_23 : gfld (menc m σ w A L R) m 12 23 = some (.int (σ 23)) := by simp [gfld, menc_0, mfs]
theorem mf_24 : gfld (menc m σ w A L R) m 12 24 = some (.int (σ 24)) := by simp [gfld, menc_0, mfs]
theorem mf_25 : gfld (menc m σ w A L R) m 12 25 = some (.ref (m + 9)) := by simp [gfld, menc_0, mfs]
theorem mf_26 : gfld (menc m σ w A L R) m 12 26 = some (.ref (m + 10)) := by simp [gfld, menc_0, mfs]
theorem mf_27 : gfld (menc m σ w A L R) m 12 27 = some (.int (σ 27)) := by simp [gfld, menc_0, mfs]
theorem mf_28 : gfld (menc m σ w A L R) m 12 28 = some (.ref (m + 11)) := by simp [gfld, menc_0, mfs]
theorem mf_29 : gfld (menc m σ w A L R) m 12 29 = some (.ref (m + 12)) := by simp [gfld, menc_0, mfs]
theorem mf_30 : gfld (menc m σ w A L R) m 12 30 = some (.ref (m + 13)) := by simp [gfld, menc_0, mfs]
theorem mf_31 : gfld (menc m σ w A L R) m 12 31 = some (.ref (m + 14)) := by simp [gfld, menc_0, mfs]
theorem menc_gup {x : gE} {a : Nat} {C' : gC} (h1 : C' a = some x) (h2 : ∀ q, q ≠ a → C' q = menc m σ w A L R q) : gup (menc m σ w A L R) a x = C' := by
  funext q
  unfold gup
  by_cases h : q = a
  · rw [if_pos h, h, h1]
  · rw [if_neg h, h2 q h]
theorem ms_4 {v : Int32} : gsetf (menc m σ w A L R) m 4 (.int v) = menc m (sup σ 4 v) w A L R := by
  unfold gsetf
  rw [menc_0]
  refine menc_gup ?_ fun q hq => ?_
  · rw [menc_0]; simp [mfs, sup]
  · simp only [menc, if_neg hq]
theorem ms_5 {v : Int32} : gsetf (menc m σ w A L R) m 5 (.int v) = menc m (sup σ 5 v) w A L R := by
  unfold gsetf
  rw [menc_0]
  refine menc_gup ?_ fun q hq => ?_
  · rw [menc_0]; simp [mfs, sup]
  · simp only [menc, if_neg hq]
theorem ms_6 {v : Int32} : gsetf (menc m σ w A L R) m 6 (.int v) = menc m (sup σ 6 v) w A L R := by
  unfold gsetf
  rw [menc_0]
  refine menc_gup ?_ fun q hq => ?_
  · rw [menc_0]; simp [mfs, sup]
  · simp only [menc, if_neg hq]
theorem ms_7 {v : Int32} : gsetf (menc m σ w A L R) m 7 (.int v) = menc m (sup σ 7 v) w A L R := by
  unfold gsetf
  rw [menc_0]
  refine menc_gup ?_ fun q hq => ?_
  · rw [menc_0]; simp [mfs, sup]
  · simp only [menc, if_neg hq]
theorem ms_8 {v : Int32} : gsetf (menc m σ w A L R) m 8 (.int v) = menc m (sup σ 8 v) w A L R := by
  unfold gsetf
  rw [menc_0]
  refine menc_gup ?_ fun q hq => ?_
  · rw [menc_0]; simp [mfs, sup]
  · simp only [menc, if_neg hq]
theorem ms_9 {v : Int32} : gsetf (menc m σ w A L R) m 9 (.int v) = menc m (sup σ 9 v) w A L R := by
  unfold gsetf
  rw [menc_0]
  refine menc_gup ?_ fun q hq => ?_
  · rw [menc_0]; simp [mfs, sup]
  · simp only [menc, if_neg hq]
theorem ms_10 {v : Int32} : gsetf (menc m σ w A L R) m 10 (.int v) = menc m (sup σ 10 v) w A L R := by
  unfold gsetf
  rw [menc_0]
  refine menc_gup ?_ fun q hq => ?_
  · rw [menc_0]; simp [mfs, sup]
  · simp only [menc, if_neg hq]
theorem ms_11 {v : Int64} : gsetf (menc m σ w A L R) m 11 (.long v) = menc m σ v A L R := by
  unfold gsetf
  rw [menc_0]
  refine menc_gup ?_ fun q hq => ?_
  · rw [menc_0]; simp [mfs]
  · simp only [menc, if_neg hq]
theorem ms_12 {v : Int32} : gsetf (menc m σ w A L R) m 12 (.int v) = menc m (sup σ 12 v) w A L R := by
  unfold gsetf
  rw [menc_0]
  refine menc_gup ?_ fun q hq => ?_
  · rw [menc_0]; simp [mfs, sup]
  · simp only [menc, if_neg hq]
theorem ms_13 {v : Int32} : gsetf (menc m σ w A L R) m 13 (.int v) = menc m (sup σ 13 v) w A L R := by
  unfold gsetf
  rw [menc_0]
  refine menc_gup ?_ fun q hq => ?_
  · rw [menc_0]; simp [mfs, sup]
  · simp only [menc, if_neg hq]
theorem ms_14 {v : Int32} : gsetf (menc m σ w A L R) m 14 (.int v) = menc m (sup σ 14 v) w A L R := by
  unfold gsetf
  rw [menc_0]
  refine menc_gup ?_ fun q hq => ?_
  · rw [menc_0]; simp [mfs, sup]
  · simp only [menc, if_neg hq]
theorem ms_16 {v : Int32} : gsetf (menc m σ w A L R) m 16 (.int v) = menc m (sup σ 16 v) w A L R := by
  unfold gsetf
  rw [menc_0]
  refine menc_gup ?_ fun q hq => ?_
  · rw [menc_0]; simp [mfs, sup]
  · simp only [menc, if_neg hq]
theorem ms_17 {v : Int32} : gsetf (menc m σ w A L R) m 17 (.int v) = menc m (sup σ 17 v) w A L R := by
  unfold gsetf
  rw [menc_0]
  refine menc_gup ?_ fun q hq => ?_
  · rw [menc_0]; simp [mfs, sup]
  · simp only [menc, if_neg hq]
theorem ms_18 {v : Int32} : gsetf (menc m σ w A L R) m 18 (.int v) = menc m (sup σ 18 v) w A L R := by
  unfold gsetf
  rw [menc_0]
  refine menc_gup ?_ fun q hq => ?_
  · rw [menc_0]; simp [mfs, sup]
  · simp only [menc, if_neg hq]
theorem ms_19 {v : Int32} : gsetf (menc m σ w A L R) m 19 (.int v) = menc m (sup σ 19 v) w A L R := by
  unfold gsetf
  rw [menc_0]
  refine menc_gup ?_ fun q hq => ?_
  · rw [menc_0]; simp [mfs, sup]
  · simp only [menc, if_neg hq]
theorem ms_23 {v : Int32} : gsetf (menc m σ w A L R) m 23 (.int v) = menc m (sup σ 23 v) w A L R := by
  unfold gsetf
  rw [menc_0]
  refine menc_gup ?_ fun q hq => ?_
  · rw [menc_0]; simp [mfs, sup]
  · simp only [menc, if_neg hq]
theorem ms_24 {v : Int32} : gsetf (menc m σ w A L R) m 24 (.int v) = menc m (sup σ 24 v) w A L R := by
  unfold gsetf
  rw [menc_0]
  refine menc_gup ?_ fun q hq => ?_
  · rw [menc_0]; simp [mfs, sup]
  · simp only [menc, if_neg hq]
theorem ms_27 {v : Int32} : gsetf (menc m σ w A L R) m 27 (.int v) = menc m (sup σ 27 v) w A L R := by
  unfold gsetf
  rw [menc_0]
  refine menc_gup ?_ fun q hq => ?_
  · rw [menc_0]; simp [mfs, sup]
  · simp only [menc, if_neg hq]
theorem mu_1 {f : Nat → Int32} : gup (menc m σ w A L R) (m + 1) (.inl (0, 3205, .inl f)) = menc m σ w (sup A 1 f) L R := by
  refine menc_gup ?_ fun q hq => ?_
  · rw [menc_1]; simp [sup]
  · simp only [menc, if_neg hq]; simp [sup]
theorem mu_2 {f : Nat → Int32} : gup (menc m σ w A L R) (m + 2) (.inl (0, 3205, .inl f)) = menc m σ w (sup A 2 f) L R := by
  refine menc_gup ?_ fun q hq => ?_
  · rw [menc_2]; simp [sup]
  · simp only [menc, if_neg hq]; simp [sup]
theorem mu_3 {f : Nat → Int32} : gup (menc m σ w A L R) (m + 3) (.inl (0, 2724, .inl f)) = menc m σ w (sup A 3 f) L R := by
  refine menc_gup ?_ fun q hq => ?_
  · rw [menc_3]; simp [sup]
  · simp only [menc, if_neg hq]; simp [sup]
theorem mu_4 {f : Nat → Int32} : gup (menc m σ w A L R) (m + 4) (.inl (0, 300, .inl f)) = menc m σ w (sup A 4 f) L R := by
  refine menc_gup ?_ fun q hq => ?_
  · rw [menc_4]; simp [sup]
  · simp only [menc, if_neg hq]; simp [sup]
theorem mu_5 {f : Nat → Int32} : gup (menc m σ w A L R) (m + 5) (.inl (0, 160, .inl f)) = menc m σ w (sup A 5 f) L R := by
  refine menc_gup ?_ fun q hq => ?_
  · rw [menc_5]; simp [sup]
  · simp only [menc, if_neg hq]; simp [sup]
theorem mu_6 {f : Nat → Int32} : gup (menc m σ w A L R) (m + 6) (.inl (0, 8, .inl f)) = menc m σ w (sup A 6 f) L R := by
  refine menc_gup ?_ fun q hq => ?_
  · rw [menc_6]; simp [sup]
  · simp only [menc, if_neg hq]; simp [sup]
theorem mu_7 {f : Nat → Int64} : gup (menc m σ w A L R) (m + 7) (.inl (1, 330, .inr (.inl f))) = menc m σ w A (sup L 7 f) R := by
  refine menc_gup ?_ fun q hq => ?_
  · rw [menc_7]; simp [sup]
  · simp only [menc, if_neg hq]; simp [sup]
theorem mu_8 {f : Nat → Int32} : gup (menc m σ w A L R) (m + 8) (.inl (2, 330, .inl f)) = menc m σ w (sup A 8 f) L R := by
  refine menc_gup ?_ fun q hq => ?_
  · rw [menc_8]; simp [sup]
  · simp only [menc, if_neg hq]; simp [sup]
theorem mu_9 {f : Nat → Int32} : gup (menc m σ w A L R) (m + 9) (.inl (0, 76, .inl f)) = menc m σ w (sup A 9 f) L R := by
  refine menc_gup ?_ fun q hq => ?_
  · rw [menc_9]; simp [sup]
  · simp only [menc, if_neg hq]; simp [sup]
theorem mu_10 {f : Nat → Int32} : gup (menc m σ w A L R) (m + 10) (.inl (0, 60, .inl f)) = menc m σ w (sup A 10 f) L R := by
  refine menc_gup ?_ fun q hq => ?_
  · rw [menc_10]; simp [sup]
  · simp only [menc, if_neg hq]; simp [sup]
theorem mu_11 {f : Nat → Int64} : gup (menc m σ w A L R) (m + 11) (.inl (1, 13, .inr (.inl f))) = menc m σ w A (sup L 11 f) R := by
  refine menc_gup ?_ fun q hq => ?_
  · rw [menc_11]; simp [sup]
  · simp only [menc, if_neg hq]; simp [sup]
theorem mu_12 {f : Nat → Int32} : gup (menc m σ w A L R) (m + 12) (.inl (2, 4096, .inl f)) = menc m σ w (sup A 12 f) L R := by
  refine menc_gup ?_ fun q hq => ?_
  · rw [menc_12]; simp [sup]
  · simp only [menc, if_neg hq]; simp [sup]
theorem mu_13 {f : Nat → Int32} : gup (menc m σ w A L R) (m + 13) (.inl (0, 13, .inl f)) = menc m σ w (sup A 13 f) L R := by
  refine menc_gup ?_ fun q hq => ?_
  · rw [menc_13]; simp [sup]
  · simp only [menc, if_neg hq]; simp [sup]
theorem mu_14 {f : Nat → Int32} : gup (menc m σ w A L R) (m + 14) (.inl (0, 900, .inl f)) = menc m σ w (sup A 14 f) L R := by
  refine menc_gup ?_ fun q hq => ?_
  · rw [menc_14]; simp [sup]
  · simp only [menc, if_neg hq]; simp [sup]
end MK
