/-! the class: a square copied -/
theorem Sq_out {s q : Nat} {σ : Nat → Int32} {A : Nat → Nat → Int32} {R : gC} (h : q < s ∨ s + 4 < q) : SqE s σ A R q = R q := by
  unfold SqE
  rw [if_neg (by omega), if_neg (by omega), if_neg (by omega), if_neg (by omega), if_neg (by omega)]
theorem Sqg_out {s q ci k : Nat} {σ : Nat → Int32} {A : Nat → Nat → Int32} {R : gC} (h : q < s ∨ s + 4 < q) : gfld (SqE s σ A R) q ci k = gfld R q ci k := by
  unfold gfld
  rw [Sq_out h]
theorem away {s q : Nat} (h : s + 4 < q ∨ q + 4 < s) : (q < s ∨ s + 4 < q) ∧ (q + 1 < s ∨ s + 4 < q + 1) ∧ (q + 2 < s ∨ s + 4 < q + 2) ∧ (q + 3 < s ∨ s + 4 < q + 3) ∧ (q + 4 < s ∨ s + 4 < q + 4) := by omega
def cpA (A A2 : Nat → Nat → Int32) (b : Nat) : Nat → Nat → Int32 := sup (sup (sup (sup A 1 (va_cpy (A2 1) (A 1) 0 0 30)) 2 (va_cpy (A2 2) (A 2) 0 0 30)) 3 (va_cpy (A2 3) (A 3) 0 0 7)) 4 (va_cpy (A2 4) (A 4) 0 0 (4 * b))
def cpS (σ σ2 : Nat → Int32) : Nat → Int32 := sup (sup (sup σ 4 (σ2 4)) 5 (σ2 5)) 6 (σ2 6)
def sp_X5_copy : gSp := fun as C n z Q => match as with
  | [.ref s, .ref q] => ∃ σ A σ2 A2 R b, C = SqE s σ A (SqE q σ2 A2 R) ∧ (s + 4 < q ∨ q + 4 < s) ∧ σ2 4 = nI b ∧ b ≤ 30 ∧ Q none (SqE s (cpS σ σ2) (cpA A A2 b) (SqE q σ2 A2 R)) n z
  | _ => False
set_option maxRecDepth 100000 in
set_option maxHeartbeats 4000000 in
theorem c_X5_copy (l : Launch) : Con l yX5_copy cX5_copy 2 none 1 0 0 sp_X5_copy := by
  refine m_X5_copy (by decide) ?_
  intro as C0 n0 z0 Q h
  unfold sp_X5_copy at h
  split at h
  · rename_i s q
    obtain ⟨σ, A, σ2, A2, R, b, rfl, hd, e4, hb, hQ⟩ := h
    refine ⟨Nat.le_of_ble_eq_true rfl, ?_⟩
    obtain ⟨w0, w1, w2, w3, w4⟩ := away hd
    simp only [b_X5_copy_0, s_acopy, Sq_out w1, Sq_out w2, Sq_out w3, Sq_out w4, Sqg_out w0, s_psh, s_ild, s_lld, s_ald, s_ist, s_lst, s_ast, s_inc, s_ib, s_ibz, s_iu, s_lb, s_lbz, s_lu, s_ls, s_il, s_li, s_cmp, s_dup, s_pop, s_dup2, s_cv, s_cs, s_ci, s_oi, s_get, s_put, s_iald, s_lald, s_zald, s_iast, s_last, s_zast, s_alen, s_iret, s_lret, s_aret, s_vret, s_al, gpad, gl, gst, gclr, gc2, gent, gcat, Value.category, List.drop_succ_cons, List.drop_zero, List.take_succ_cons, List.take_zero, List.reverse_cons, List.reverse_nil, List.nil_append, List.cons_append, List.append_nil, List.map_cons, List.map_nil, List.sum_cons, List.sum_nil, List.length_cons, List.length_nil, Option.toList, cond_true, cond_false, Nat.reduceBEq, Nat.reduceAdd, Nat.reduceLeDiff, beq_self_eq_true, true_and, and_true, BEq.rfl, Bool.false_eq_true, if_true, if_false, Sq_0, Sq_1, Sq_2, Sq_3, Sq_4, Sqf_0, Sqf_1, Sqf_2, Sqf_3, Sqf_4, Sqf_5, Sqf_6, Sqs_4, Sqs_5, Sqs_6, Squ_1, Squ_2, Squ_3, Squ_4]
    simp (disch := omega) only [true_and, and_true, lit, nI_add, nar_i, nar_0, nar_1, nar_b, fit_i, fit_l, pk_rem, nI_leI, nI_ltI, nI_eq, vin_iff, nI_clamp, nI_m1, Nat.reduceLT, Nat.reduceAdd, Nat.reduceLeDiff, e4, pk_mul, supa, Nat.reduceEqDiff, reduceIte]
    refine ⟨by decide, by decide, by decide, ⟨fun h => h, fun h => h, by omega, by omega, by omega⟩, ?_⟩
    rw [cpS, e4] at hQ
    exact hQ
  · exact h.elim
