/-! the class: the square's written -/
def wrS (f : Nat → Int32) (c : Int32) : Nat → Int32
  | 0 => nI 0
  | i + 1 => if c = -nI 1 ∨ f (4 * i + 1) = c then wrS f c i + f (4 * i + 3) else wrS f c i
def wnI (s : Nat) (c : Int32) (f : Nat → Int32) (b : Nat) (C0 : gC) (n0 z0 μ : Nat) : gKo := fun lv st C n z => st = [] ∧ n = n0 ∧ z = z0 ∧ C = C0 ∧ ∃ i, i ≤ b ∧ μ = b - i ∧ lv = [some (.ref s), some (.int c), some (.int (wrS f c i)), some (.int (nI i))]
def sp_X5_written : gSp := fun as C n z Q => match as with
  | [.ref s, .int x] => ∃ (F : Nat → Int32) (b : Nat), isSq C s ∧ (∀ j, j < 4 * b → garr C (s + 4) j = F j) ∧ gint C s 5 4 = nI b ∧ b ≤ 30 ∧ Q (some (.int (wrS F x b))) C n z
  | _ => False
set_option maxRecDepth 100000 in
set_option maxHeartbeats 4000000 in
theorem c_X5_written (l : Launch) : Con l yX5_written cX5_written 4 (some .int) 0 0 0 sp_X5_written := by
  refine m_X5_written ?_
  intro as C0 n0 z0 Q h
  unfold sp_X5_written at h
  split at h
  · rename_i s x
    obtain ⟨F, b, ⟨σ, A, R, rfl⟩, hF, hb4, hb, hQ⟩ := h
    rw [Sqi_4] at hb4
    simp only [Sqa_4] at hF
    refine ⟨Nat.le_of_ble_eq_true rfl, fun pc μ => wnI s x F b (SqE s σ A R) n0 z0 μ, ?_, ?_⟩
    · simp only [b_X5_written_0, s_psh, s_ild, s_lld, s_ald, s_ist, s_lst, s_ast, s_inc, s_ib, s_ibz, s_iu, s_lb, s_lbz, s_lu, s_ls, s_il, s_li, s_cmp, s_dup, s_pop, s_dup2, s_cv, s_cs, s_ci, s_oi, s_get, s_put, s_iald, s_lald, s_zald, s_iast, s_last, s_zast, s_alen, s_iret, s_lret, s_aret, s_vret, s_al, gpad, gl, gst, gclr, gc2, gent, gcat, Value.category, List.drop_succ_cons, List.drop_zero, List.take_succ_cons, List.take_zero, List.reverse_cons, List.reverse_nil, List.nil_append, List.cons_append, List.append_nil, List.map_cons, List.map_nil, List.sum_cons, List.sum_nil, List.length_cons, List.length_nil, Option.toList, cond_true, cond_false, Nat.reduceBEq, Nat.reduceAdd, Nat.reduceLeDiff, beq_self_eq_true, true_and, and_true, BEq.rfl, Bool.false_eq_true, if_true, if_false, Sq_0, Sq_1, Sq_2, Sq_3, Sq_4, Sqf_0, Sqf_1, Sqf_2, Sqf_3, Sqf_4, Sqf_5, Sqf_6, Sqs_4, Sqs_5, Sqs_6, Squ_1, Squ_2, Squ_3, Squ_4]
      exact ⟨_, rfl, rfl, rfl, rfl, 0, Nat.zero_le _, rfl, rfl⟩
    · rintro μ lv st C n z ⟨rfl, rfl, rfl, rfl, i, hi, rfl, rfl⟩
      have k31 : i < b → (x = -nI 1 ∨ F (4 * i + 1) = x) → b_X5_written_31 Q (fun lv st C n_1 z_1 => ∃ μ', μ' < b - i ∧ wnI s x F b (SqE s σ A R) n z μ' lv st C n_1 z_1) [some (.ref s), some (.int x), some (.int (wrS F x i)), some (.int (nI i))] [] (SqE s σ A R) n z := by
        intro hib hc
        have hf := hF (4 * i + 3) (by omega)
        simp only [b_X5_written_31, b_X5_written_44, s_psh, s_ild, s_lld, s_ald, s_ist, s_lst, s_ast, s_inc, s_ib, s_ibz, s_iu, s_lb, s_lbz, s_lu, s_ls, s_il, s_li, s_cmp, s_dup, s_pop, s_dup2, s_cv, s_cs, s_ci, s_oi, s_get, s_put, s_iald, s_lald, s_zald, s_iast, s_last, s_zast, s_alen, s_iret, s_lret, s_aret, s_vret, s_al, gpad, gl, gst, gclr, gc2, gent, gcat, Value.category, List.drop_succ_cons, List.drop_zero, List.take_succ_cons, List.take_zero, List.reverse_cons, List.reverse_nil, List.nil_append, List.cons_append, List.append_nil, List.map_cons, List.map_nil, List.sum_cons, List.sum_nil, List.length_cons, List.length_nil, Option.toList, cond_true, cond_false, Nat.reduceBEq, Nat.reduceAdd, Nat.reduceLeDiff, beq_self_eq_true, true_and, and_true, BEq.rfl, Bool.false_eq_true, if_true, if_false, Sq_0, Sq_1, Sq_2, Sq_3, Sq_4, Sqf_0, Sqf_1, Sqf_2, Sqf_3, Sqf_4, Sqf_5, Sqf_6, Sqs_4, Sqs_5, Sqs_6, Squ_1, Squ_2, Squ_3, Squ_4]
        simp (disch := omega) only [true_and, and_true, lit, nI_add, nar_i, nar_0, nar_1, nar_b, fit_i, fit_l, pk_rem, nI_leI, nI_ltI, nI_eq, vin_iff, nI_clamp, nI_m1, pk_mul, hf]
        refine ⟨by omega, b - (i + 1), by omega, rfl, rfl, rfl, rfl, i + 1, by omega, rfl, ?_⟩
        rw [wrS, if_pos hc]
      simp only [b_X5_written_4, s_psh, s_ild, s_lld, s_ald, s_ist, s_lst, s_ast, s_inc, s_ib, s_ibz, s_iu, s_lb, s_lbz, s_lu, s_ls, s_il, s_li, s_cmp, s_dup, s_pop, s_dup2, s_cv, s_cs, s_ci, s_oi, s_get, s_put, s_iald, s_lald, s_zald, s_iast, s_last, s_zast, s_alen, s_iret, s_lret, s_aret, s_vret, s_al, gpad, gl, gst, gclr, gc2, gent, gcat, Value.category, List.drop_succ_cons, List.drop_zero, List.take_succ_cons, List.take_zero, List.reverse_cons, List.reverse_nil, List.nil_append, List.cons_append, List.append_nil, List.map_cons, List.map_nil, List.sum_cons, List.sum_nil, List.length_cons, List.length_nil, Option.toList, cond_true, cond_false, Nat.reduceBEq, Nat.reduceAdd, Nat.reduceLeDiff, beq_self_eq_true, true_and, and_true, BEq.rfl, Bool.false_eq_true, if_true, if_false, Sq_0, Sq_1, Sq_2, Sq_3, Sq_4, Sqf_0, Sqf_1, Sqf_2, Sqf_3, Sqf_4, Sqf_5, Sqf_6, Sqs_4, Sqs_5, Sqs_6, Squ_1, Squ_2, Squ_3, Squ_4]
      simp only [hb4]
      refine if2i (fun g => ?_) (fun g => ?_)
      · rw [nI_leI (by omega) (by omega)] at g
        rw [show b = i by omega] at hQ
        simp only [s_psh, s_ild, s_lld, s_ald, s_ist, s_lst, s_ast, s_inc, s_ib, s_ibz, s_iu, s_lb, s_lbz, s_lu, s_ls, s_il, s_li, s_cmp, s_dup, s_pop, s_dup2, s_cv, s_cs, s_ci, s_oi, s_get, s_put, s_iald, s_lald, s_zald, s_iast, s_last, s_zast, s_alen, s_iret, s_lret, s_aret, s_vret, s_al, gpad, gl, gst, gclr, gc2, gent, gcat, Value.category, List.drop_succ_cons, List.drop_zero, List.take_succ_cons, List.take_zero, List.reverse_cons, List.reverse_nil, List.nil_append, List.cons_append, List.append_nil, List.map_cons, List.map_nil, List.sum_cons, List.sum_nil, List.length_cons, List.length_nil, Option.toList, cond_true, cond_false, Nat.reduceBEq, Nat.reduceAdd, Nat.reduceLeDiff, beq_self_eq_true, true_and, and_true, BEq.rfl, Bool.false_eq_true, if_true, if_false, Sq_0, Sq_1, Sq_2, Sq_3, Sq_4, Sqf_0, Sqf_1, Sqf_2, Sqf_3, Sqf_4, Sqf_5, Sqf_6, Sqs_4, Sqs_5, Sqs_6, Squ_1, Squ_2, Squ_3, Squ_4]
        try simp only [true_and, and_true, lit, nI_add, nar_i, nar_0, nar_1, nar_b, fit_i, fit_l, pk_rem, nI_leI, nI_ltI, nI_eq, vin_iff, nI_clamp, nI_m1]
        exact hQ
      · rw [nI_leI (by omega) (by omega)] at g
        have hf := hF (4 * i + 1) (by omega)
        simp only [s_psh, s_ild, s_lld, s_ald, s_ist, s_lst, s_ast, s_inc, s_ib, s_ibz, s_iu, s_lb, s_lbz, s_lu, s_ls, s_il, s_li, s_cmp, s_dup, s_pop, s_dup2, s_cv, s_cs, s_ci, s_oi, s_get, s_put, s_iald, s_lald, s_zald, s_iast, s_last, s_zast, s_alen, s_iret, s_lret, s_aret, s_vret, s_al, gpad, gl, gst, gclr, gc2, gent, gcat, Value.category, List.drop_succ_cons, List.drop_zero, List.take_succ_cons, List.take_zero, List.reverse_cons, List.reverse_nil, List.nil_append, List.cons_append, List.append_nil, List.map_cons, List.map_nil, List.sum_cons, List.sum_nil, List.length_cons, List.length_nil, Option.toList, cond_true, cond_false, Nat.reduceBEq, Nat.reduceAdd, Nat.reduceLeDiff, beq_self_eq_true, true_and, and_true, BEq.rfl, Bool.false_eq_true, if_true, if_false, Sq_0, Sq_1, Sq_2, Sq_3, Sq_4, Sqf_0, Sqf_1, Sqf_2, Sqf_3, Sqf_4, Sqf_5, Sqf_6, Sqs_4, Sqs_5, Sqs_6, Squ_1, Squ_2, Squ_3, Squ_4]
        try simp only [lit]
        refine if2i (fun g2 => k31 (by omega) (.inl g2)) (fun g2 => ?_)
        simp only [s_psh, s_ild, s_lld, s_ald, s_ist, s_lst, s_ast, s_inc, s_ib, s_ibz, s_iu, s_lb, s_lbz, s_lu, s_ls, s_il, s_li, s_cmp, s_dup, s_pop, s_dup2, s_cv, s_cs, s_ci, s_oi, s_get, s_put, s_iald, s_lald, s_zald, s_iast, s_last, s_zast, s_alen, s_iret, s_lret, s_aret, s_vret, s_al, gpad, gl, gst, gclr, gc2, gent, gcat, Value.category, List.drop_succ_cons, List.drop_zero, List.take_succ_cons, List.take_zero, List.reverse_cons, List.reverse_nil, List.nil_append, List.cons_append, List.append_nil, List.map_cons, List.map_nil, List.sum_cons, List.sum_nil, List.length_cons, List.length_nil, Option.toList, cond_true, cond_false, Nat.reduceBEq, Nat.reduceAdd, Nat.reduceLeDiff, beq_self_eq_true, true_and, and_true, BEq.rfl, Bool.false_eq_true, if_true, if_false, Sq_0, Sq_1, Sq_2, Sq_3, Sq_4, Sqf_0, Sqf_1, Sqf_2, Sqf_3, Sqf_4, Sqf_5, Sqf_6, Sqs_4, Sqs_5, Sqs_6, Squ_1, Squ_2, Squ_3, Squ_4]
        simp (disch := omega) only [true_and, and_true, lit, nI_add, nar_i, nar_0, nar_1, nar_b, fit_i, fit_l, pk_rem, nI_leI, nI_ltI, nI_eq, vin_iff, nI_clamp, nI_m1, pk_mul, hf]
        refine ⟨by omega, if2i (fun g3 => k31 (by omega) (.inr g3)) (fun g3 => ?_)⟩
        simp only [b_X5_written_44, s_psh, s_ild, s_lld, s_ald, s_ist, s_lst, s_ast, s_inc, s_ib, s_ibz, s_iu, s_lb, s_lbz, s_lu, s_ls, s_il, s_li, s_cmp, s_dup, s_pop, s_dup2, s_cv, s_cs, s_ci, s_oi, s_get, s_put, s_iald, s_lald, s_zald, s_iast, s_last, s_zast, s_alen, s_iret, s_lret, s_aret, s_vret, s_al, gpad, gl, gst, gclr, gc2, gent, gcat, Value.category, List.drop_succ_cons, List.drop_zero, List.take_succ_cons, List.take_zero, List.reverse_cons, List.reverse_nil, List.nil_append, List.cons_append, List.append_nil, List.map_cons, List.map_nil, List.sum_cons, List.sum_nil, List.length_cons, List.length_nil, Option.toList, cond_true, cond_false, Nat.reduceBEq, Nat.reduceAdd, Nat.reduceLeDiff, beq_self_eq_true, true_and, and_true, BEq.rfl, Bool.false_eq_true, if_true, if_false, Sq_0, Sq_1, Sq_2, Sq_3, Sq_4, Sqf_0, Sqf_1, Sqf_2, Sqf_3, Sqf_4, Sqf_5, Sqf_6, Sqs_4, Sqs_5, Sqs_6, Squ_1, Squ_2, Squ_3, Squ_4]
        simp (disch := omega) only [true_and, and_true, lit, nI_add, nar_i, nar_0, nar_1, nar_b, fit_i, fit_l, pk_rem, nI_leI, nI_ltI, nI_eq, vin_iff, nI_clamp, nI_m1]
        refine ⟨b - (i + 1), by omega, rfl, rfl, rfl, rfl, i + 1, by omega, rfl, ?_⟩
        rw [wrS, if_neg (fun q => q.elim g2 g3)]
  · exact h.elim
