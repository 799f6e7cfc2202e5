/-! the class's steps: row -/
theorem SqSt {s r : Nat} {σ : Nat → Int32} {P : Nat → Option Nat} {R : gC} {τ : Nat → Int32} {B : Nat → Nat → Int32} (h : s + 1 < r) : SqE r τ B (StE s σ P R) = StE s σ P (SqE r τ B R) := by
  funext q
  by_cases h1 : q = s
  · rw [Sq_out (by omega), h1, StE_is, StE_is]
  · by_cases h2 : q = s + 1
    · rw [Sq_out (by omega), h2, StE_1, StE_1]
    · rw [StE_o (by omega)]
      unfold SqE
      rw [StE_o (by omega)]
theorem gupSt {s r : Nat} {σ : Nat → Int32} {P : Nat → Option Nat} {R : gC} {x : gE} (h : s + 1 < r) : gup (StE s σ P R) r x = StE s σ P (gup R r x) := by
  funext q
  unfold gup StE
  by_cases h1 : q = s
  · rw [if_neg (by omega), if_pos h1, if_pos h1]
  · rw [if_neg h1, if_neg h1]
    by_cases h2 : q = s + 1
    · rw [if_neg (by omega), if_pos h2, if_pos h2]
    · rw [if_neg h2, if_neg h2]
theorem SqEg {r : Nat} {τ : Nat → Int32} {B : Nat → Nat → Int32} {R : gC} {x : gE} : SqE r τ B (gup R r x) = SqE r τ B R := by
  funext q
  unfold SqE gup
  by_cases h : q = r
  · rw [if_pos h, if_pos h]
  · rw [if_neg h, if_neg h, if_neg h]
def rwD : Sqd := (sqσ0, sqA0)
def sp_X7_row : gSp := fun as C n z Q => match as with
  | [.ref s, .int x] => ∃ σ P R f i, C = StE s σ P R ∧ σ 1 = nI f ∧ f < 30 ∧ x = nI i ∧ i ≤ 30 ∧ s + 1 < n ∧ (∀ r, P ((f + i) % 30) = some r → Q (some (.ref r)) C n z) ∧ (P ((f + i) % 30) = none → Q (some (.ref n)) (StE s σ (va_up P ((f + i) % 30) (some n)) (SqE n sqσ0 sqA0 R)) (n + 5) (z + 194))
  | _ => False
set_option maxRecDepth 100000 in
set_option maxHeartbeats 4000000 in
theorem c_X7_row (l : Launch) : Con l yX7_row cX7_row 3 (some (.object "RailingsCount$Square")) 2 5 194 sp_X7_row := by
  refine m_X7_row (c_X5_init l) (by decide) ?_
  intro as C0 n0 z0 Q h
  unfold sp_X7_row at h
  split at h
  · rename_i s x
    obtain ⟨σ, P, R, f, i, rfl, e1, hf, rfl, hi, hn, hq1, hq2⟩ := h
    refine ⟨Nat.le_of_ble_eq_true rfl, ?_⟩
    have hl : (f + i) % 30 < 30 := Nat.mod_lt _ (by decide)
    simp only [b_X7_row_0, s_aald3, StE_is, StE_1, Stf_0, Stf_1, Stf_2, s_psh, s_ild, s_lld, s_ald, s_ist, s_lst, s_ast, s_inc, s_ib, s_ibz, s_iu, s_lb, s_lbz, s_lu, s_ls, s_il, s_li, s_cmp, s_dup, s_pop, s_dup2, s_cv, s_cs, s_ci, s_oi, s_get, s_put, s_iald, s_lald, s_zald, s_iast, s_last, s_zast, s_alen, s_iret, s_lret, s_aret, s_vret, s_al, gpad, gl, gst, gclr, gc2, gent, gcat, Value.category, List.drop_succ_cons, List.drop_zero, List.take_succ_cons, List.take_zero, List.reverse_cons, List.reverse_nil, List.nil_append, List.cons_append, List.append_nil, List.map_cons, List.map_nil, List.sum_cons, List.sum_nil, List.length_cons, List.length_nil, Option.toList, cond_true, cond_false, Nat.reduceBEq, Nat.reduceAdd, Nat.reduceLeDiff, beq_self_eq_true, true_and, and_true, BEq.rfl, Bool.false_eq_true, if_true, if_false, Sq_0, Sq_1, Sq_2, Sq_3, Sq_4, Sqf_0, Sqf_1, Sqf_2, Sqf_3, Sqf_4, Sqf_5, Sqf_6, Sqs_4, Sqs_5, Sqs_6, Squ_1, Squ_2, Squ_3, Squ_4]
    simp (disch := omega) only [true_and, and_true, lit, nI_add, nar_i, nar_0, nar_1, nar_b, fit_i, fit_l, pk_rem, nI_leI, nI_ltI, nI_eq, vin_iff, nI_clamp, nI_m1, e1]
    refine ⟨by decide, by omega, ?_⟩
    cases hP : P ((f + i) % 30) with
    | some r =>
      simp only [va_rf, s_ifn, b_X7_row_32, s_aald3, StE_is, StE_1, Stf_0, Stf_1, Stf_2, s_psh, s_ild, s_lld, s_ald, s_ist, s_lst, s_ast, s_inc, s_ib, s_ibz, s_iu, s_lb, s_lbz, s_lu, s_ls, s_il, s_li, s_cmp, s_dup, s_pop, s_dup2, s_cv, s_cs, s_ci, s_oi, s_get, s_put, s_iald, s_lald, s_zald, s_iast, s_last, s_zast, s_alen, s_iret, s_lret, s_aret, s_vret, s_al, gpad, gl, gst, gclr, gc2, gent, gcat, Value.category, List.drop_succ_cons, List.drop_zero, List.take_succ_cons, List.take_zero, List.reverse_cons, List.reverse_nil, List.nil_append, List.cons_append, List.append_nil, List.map_cons, List.map_nil, List.sum_cons, List.sum_nil, List.length_cons, List.length_nil, Option.toList, cond_true, cond_false, Nat.reduceBEq, Nat.reduceAdd, Nat.reduceLeDiff, beq_self_eq_true, true_and, and_true, BEq.rfl, Bool.false_eq_true, if_true, if_false, Sq_0, Sq_1, Sq_2, Sq_3, Sq_4, Sqf_0, Sqf_1, Sqf_2, Sqf_3, Sqf_4, Sqf_5, Sqf_6, Sqs_4, Sqs_5, Sqs_6, Squ_1, Squ_2, Squ_3, Squ_4]
      simp (disch := omega) only [true_and, and_true, lit, nI_add, nar_i, nar_0, nar_1, nar_b, fit_i, fit_l, pk_rem, nI_leI, nI_ltI, nI_eq, vin_iff, nI_clamp, nI_m1, e1, hP, va_rf]
      exact ⟨by omega, hq1 r hP⟩
    | none =>
      simp only [va_rf, s_ifn, s_new, sp_X5_init, StE_is, StE_1, Stf_0, Stf_1, Stf_2, s_psh, s_ild, s_lld, s_ald, s_ist, s_lst, s_ast, s_inc, s_ib, s_ibz, s_iu, s_lb, s_lbz, s_lu, s_ls, s_il, s_li, s_cmp, s_dup, s_pop, s_dup2, s_cv, s_cs, s_ci, s_oi, s_get, s_put, s_iald, s_lald, s_zald, s_iast, s_last, s_zast, s_alen, s_iret, s_lret, s_aret, s_vret, s_al, gpad, gl, gst, gclr, gc2, gent, gcat, Value.category, List.drop_succ_cons, List.drop_zero, List.take_succ_cons, List.take_zero, List.reverse_cons, List.reverse_nil, List.nil_append, List.cons_append, List.append_nil, List.map_cons, List.map_nil, List.sum_cons, List.sum_nil, List.length_cons, List.length_nil, Option.toList, cond_true, cond_false, Nat.reduceBEq, Nat.reduceAdd, Nat.reduceLeDiff, beq_self_eq_true, true_and, and_true, BEq.rfl, Bool.false_eq_true, if_true, if_false, Sq_0, Sq_1, Sq_2, Sq_3, Sq_4, Sqf_0, Sqf_1, Sqf_2, Sqf_3, Sqf_4, Sqf_5, Sqf_6, Sqs_4, Sqs_5, Sqs_6, Squ_1, Squ_2, Squ_3, Squ_4]
      refine ⟨⟨by omega, by omega⟩, ⟨by omega, by omega⟩, gup_same, ?_⟩
      rw [SqEg, SqSt hn]
      have eS : StE s σ P (SqE n0 sqσ0 sqA0 R) n0 = some (.inr (5, Sqfs n0 sqσ0)) := by rw [StE_o (.inr hn), Sq_0]
      simp only [s_aast, StE_1, eS, Stu, b_X7_row_32, s_aald3, StE_is, Stf_0, Stf_1, Stf_2, s_psh, s_ild, s_lld, s_ald, s_ist, s_lst, s_ast, s_inc, s_ib, s_ibz, s_iu, s_lb, s_lbz, s_lu, s_ls, s_il, s_li, s_cmp, s_dup, s_pop, s_dup2, s_cv, s_cs, s_ci, s_oi, s_get, s_put, s_iald, s_lald, s_zald, s_iast, s_last, s_zast, s_alen, s_iret, s_lret, s_aret, s_vret, s_al, gpad, gl, gst, gclr, gc2, gent, gcat, Value.category, List.drop_succ_cons, List.drop_zero, List.take_succ_cons, List.take_zero, List.reverse_cons, List.reverse_nil, List.nil_append, List.cons_append, List.append_nil, List.map_cons, List.map_nil, List.sum_cons, List.sum_nil, List.length_cons, List.length_nil, Option.toList, cond_true, cond_false, Nat.reduceBEq, Nat.reduceAdd, Nat.reduceLeDiff, beq_self_eq_true, true_and, and_true, BEq.rfl, Bool.false_eq_true, if_true, if_false, Sq_0, Sq_1, Sq_2, Sq_3, Sq_4, Sqf_0, Sqf_1, Sqf_2, Sqf_3, Sqf_4, Sqf_5, Sqf_6, Sqs_4, Sqs_5, Sqs_6, Squ_1, Squ_2, Squ_3, Squ_4]
      simp (disch := omega) only [true_and, and_true, lit, nI_add, nar_i, nar_0, nar_1, nar_b, fit_i, fit_l, pk_rem, nI_leI, nI_ltI, nI_eq, vin_iff, nI_clamp, nI_m1, va_up, if_true, va_rf]
      exact ⟨by omega, by omega, hq2 hP⟩
  · exact h.elim
