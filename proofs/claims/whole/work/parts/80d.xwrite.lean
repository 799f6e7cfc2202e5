/-! the class: the square's book -/
def putB (f : Nat → Int32) (b : Nat) (yr x y u : Int32) : Nat → Int32 := upd (upd (upd (upd f (4 * b) yr) (4 * b + 1) x) (4 * b + 2) y) (4 * b + 3) u
def sp_X5_write : gSp := fun as C n z Q => match as with
  | [.ref s, .int x, .int y, .int u] => ∃ σ A R b, C = SqE s σ A R ∧ σ 4 = nI b ∧ b ≤ 30 ∧ (b < 30 → Q none (SqE s (sup σ 4 (nI (b + 1))) (sup A 4 (putB (A 4) b (σ 5) x y u)) R) n z) ∧ (b = 30 → Q none (SqE s (sup σ 4 (nI 30)) (sup A 4 (putB (va_cpy (A 4) (A 4) 4 0 116) 29 (σ 5) x y u)) R) n z)
  | _ => False
set_option maxRecDepth 100000 in
set_option maxHeartbeats 4000000 in
theorem c_X5_write (l : Launch) : Con l yX5_write cX5_write 4 none 1 0 0 sp_X5_write := by
  refine m_X5_write (by decide) ?_
  intro as C0 n0 z0 Q h
  unfold sp_X5_write at h
  split at h
  · rename_i s x y u
    obtain ⟨σ, A, R, b, rfl, e4, hb, h1, h2⟩ := h
    have k34 : ∀ σ' A' b', σ' 4 = nI b' → b' < 30 → σ' 5 = σ 5 → Q none (SqE s (sup σ' 4 (nI (b' + 1))) (sup A' 4 (putB (A' 4) b' (σ 5) x y u)) R) n0 z0 → b_X5_write_34 Q [some (.ref s), some (.int x), some (.int y), some (.int u)] [] (SqE s σ' A' R) n0 z0 := by
      intro σ' A' b' e hb' e5 hq
      simp only [b_X5_write_34, s_psh, s_ild, s_lld, s_ald, s_ist, s_lst, s_ast, s_inc, s_ib, s_ibz, s_iu, s_lb, s_lbz, s_lu, s_ls, s_il, s_li, s_cmp, s_dup, s_pop, s_dup2, s_cv, s_cs, s_ci, s_oi, s_get, s_put, s_iald, s_lald, s_zald, s_iast, s_last, s_zast, s_alen, s_iret, s_lret, s_aret, s_vret, s_al, gpad, gl, gst, gclr, gc2, gent, gcat, Value.category, List.drop_succ_cons, List.drop_zero, List.take_succ_cons, List.take_zero, List.reverse_cons, List.reverse_nil, List.nil_append, List.cons_append, List.append_nil, List.map_cons, List.map_nil, List.sum_cons, List.sum_nil, List.length_cons, List.length_nil, Option.toList, cond_true, cond_false, Nat.reduceBEq, Nat.reduceAdd, Nat.reduceLeDiff, beq_self_eq_true, true_and, and_true, BEq.rfl, Bool.false_eq_true, if_true, if_false, Sq_0, Sq_1, Sq_2, Sq_3, Sq_4, Sqf_0, Sqf_1, Sqf_2, Sqf_3, Sqf_4, Sqf_5, Sqf_6, Sqs_4, Sqs_5, Sqs_6, Squ_1, Squ_2, Squ_3, Squ_4]
      simp (disch := omega) only [true_and, and_true, lit, nI_add, nar_i, nar_0, nar_1, nar_b, fit_i, fit_l, pk_rem, nI_leI, nI_ltI, nI_eq, vin_iff, nI_clamp, nI_m1, e, e5, pk_mul, sup_same, sup_sup]
      exact ⟨by omega, by omega, by omega, by omega, hq⟩
    refine ⟨Nat.le_of_ble_eq_true rfl, ?_⟩
    simp only [b_X5_write_0, s_psh, s_ild, s_lld, s_ald, s_ist, s_lst, s_ast, s_inc, s_ib, s_ibz, s_iu, s_lb, s_lbz, s_lu, s_ls, s_il, s_li, s_cmp, s_dup, s_pop, s_dup2, s_cv, s_cs, s_ci, s_oi, s_get, s_put, s_iald, s_lald, s_zald, s_iast, s_last, s_zast, s_alen, s_iret, s_lret, s_aret, s_vret, s_al, gpad, gl, gst, gclr, gc2, gent, gcat, Value.category, List.drop_succ_cons, List.drop_zero, List.take_succ_cons, List.take_zero, List.reverse_cons, List.reverse_nil, List.nil_append, List.cons_append, List.append_nil, List.map_cons, List.map_nil, List.sum_cons, List.sum_nil, List.length_cons, List.length_nil, Option.toList, cond_true, cond_false, Nat.reduceBEq, Nat.reduceAdd, Nat.reduceLeDiff, beq_self_eq_true, true_and, and_true, BEq.rfl, Bool.false_eq_true, if_true, if_false, Sq_0, Sq_1, Sq_2, Sq_3, Sq_4, Sqf_0, Sqf_1, Sqf_2, Sqf_3, Sqf_4, Sqf_5, Sqf_6, Sqs_4, Sqs_5, Sqs_6, Squ_1, Squ_2, Squ_3, Squ_4]
    simp only [lit, e4]
    refine if2i (fun e => ?_) (fun e => ?_)
    · rw [nI_eq (by omega) (by omega)] at e
      subst e
      simp only [s_acopy, s_psh, s_ild, s_lld, s_ald, s_ist, s_lst, s_ast, s_inc, s_ib, s_ibz, s_iu, s_lb, s_lbz, s_lu, s_ls, s_il, s_li, s_cmp, s_dup, s_pop, s_dup2, s_cv, s_cs, s_ci, s_oi, s_get, s_put, s_iald, s_lald, s_zald, s_iast, s_last, s_zast, s_alen, s_iret, s_lret, s_aret, s_vret, s_al, gpad, gl, gst, gclr, gc2, gent, gcat, Value.category, List.drop_succ_cons, List.drop_zero, List.take_succ_cons, List.take_zero, List.reverse_cons, List.reverse_nil, List.nil_append, List.cons_append, List.append_nil, List.map_cons, List.map_nil, List.sum_cons, List.sum_nil, List.length_cons, List.length_nil, Option.toList, cond_true, cond_false, Nat.reduceBEq, Nat.reduceAdd, Nat.reduceLeDiff, beq_self_eq_true, true_and, and_true, BEq.rfl, Bool.false_eq_true, if_true, if_false, Sq_0, Sq_1, Sq_2, Sq_3, Sq_4, Sqf_0, Sqf_1, Sqf_2, Sqf_3, Sqf_4, Sqf_5, Sqf_6, Sqs_4, Sqs_5, Sqs_6, Squ_1, Squ_2, Squ_3, Squ_4]
      simp (disch := omega) only [true_and, and_true, lit, nI_add, nar_i, nar_0, nar_1, nar_b, fit_i, fit_l, pk_rem, nI_leI, nI_ltI, nI_eq, vin_iff, nI_clamp, nI_m1, Nat.reduceLT, Nat.reduceAdd, Nat.reduceLeDiff, e4, pk_sub, Nat.reduceSub]
      refine ⟨by decide, ?_⟩
      refine k34 _ _ 29 (by rw [sup_same]) (by omega) (by rw [supa, if_neg (by decide)]) ?_
      rw [sup_sup, sup_same, sup_sup]
      exact h2 rfl
    · rw [nI_eq (by omega) (by omega)] at e
      exact k34 σ A b e4 (by omega) rfl (h1 (by omega))
  · exact h.elim
