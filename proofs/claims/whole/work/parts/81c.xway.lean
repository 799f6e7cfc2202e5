/-! the class's riddles: isWay -/
def iwI (t e v q : Nat) (a : Nat → Int32) (C0 : gC) (n0 z0 μ : Nat) : gKo := fun lv st C n z => st = [] ∧ n = n0 ∧ z = z0 ∧ C = C0 ∧ ∃ i o4, i ≤ q ∧ μ = q - i ∧ wy a e v i ∧ lv = [some (.ref t), some (.int (nI e)), some (.int (nI v)), some (.int (nI i)), o4]
def sp_X4_isWay : gSp := fun as C n z Q => match as with
  | [.ref t, .int x, .int y] => ∃ σ A R a q e v, C = TrE 18 t σ A R ∧ σ 2 = nI q ∧ VT a q ∧ (∀ i, i < q → ∀ k, k < 3 → A 1 (3 * i + k) = a (103 + 3 * i + k)) ∧ x = nI e ∧ e ≤ 2 ∧ y = nI v ∧ v < 4096 ∧ Q (some (.int (bI (wy a e v q)))) C n z
  | _ => False
set_option maxRecDepth 100000 in
set_option maxHeartbeats 4000000 in
theorem c_X4_isWay (l : Launch) : Con l yX4_isWay cX4_isWay 5 (some .boolean) 2 0 0 sp_X4_isWay := by
  refine m_X4_isWay (c_X10_part l) (by decide) (c_X4_barsOf l) (by decide) (c_J9_abs_0f7a4 l) (by decide) ?_
  intro as C0 n0 z0 Q h
  unfold sp_X4_isWay at h
  split at h
  · rename_i t x y
    obtain ⟨σ, A, R, a, q, e, v, rfl, h2, ⟨h4, hq, hT⟩, hA, rfl, he, rfl, hv, hQ⟩ := h
    refine ⟨Nat.le_of_ble_eq_true rfl, fun pc μ => iwI t e v q a (TrE 18 t σ A R) n0 z0 μ, ?_, ?_⟩
    · simp only [b_X4_isWay_0, s_psh, s_ild, s_lld, s_ald, s_ist, s_lst, s_ast, s_inc, s_ib, s_ibz, s_iu, s_lb, s_lbz, s_lu, s_ls, s_il, s_li, s_cmp, s_dup, s_pop, s_dup2, s_cv, s_cs, s_ci, s_oi, s_get, s_put, s_iald, s_lald, s_zald, s_iast, s_last, s_zast, s_alen, s_iret, s_lret, s_aret, s_vret, s_al, gpad, gl, gst, gclr, gc2, gent, gcat, Value.category, List.drop_succ_cons, List.drop_zero, List.take_succ_cons, List.take_zero, List.reverse_cons, List.reverse_nil, List.nil_append, List.cons_append, List.append_nil, List.map_cons, List.map_nil, List.sum_cons, List.sum_nil, List.length_cons, List.length_nil, Option.toList, cond_true, cond_false, Nat.reduceBEq, Nat.reduceAdd, Nat.reduceLeDiff, beq_self_eq_true, true_and, and_true, BEq.rfl, Bool.false_eq_true, if_true, if_false, Sq_0, Sq_1, Sq_2, Sq_3, Sq_4, Sqf_0, Sqf_1, Sqf_2, Sqf_3, Sqf_4, Sqf_5, Sqf_6, Sqs_4, Sqs_5, Sqs_6, Squ_1, Squ_2, Squ_3, Squ_4]
      exact ⟨_, rfl, rfl, rfl, rfl, 0, none, Nat.zero_le _, rfl, fun i hi => absurd hi (Nat.not_lt_zero _), rfl⟩
    · rintro μ lv st C n z ⟨rfl, rfl, rfl, rfl, i, o4, hi, rfl, hw, rfl⟩
      simp only [b_X4_isWay_2, s_psh, s_ild, s_lld, s_ald, s_ist, s_lst, s_ast, s_inc, s_ib, s_ibz, s_iu, s_lb, s_lbz, s_lu, s_ls, s_il, s_li, s_cmp, s_dup, s_pop, s_dup2, s_cv, s_cs, s_ci, s_oi, s_get, s_put, s_iald, s_lald, s_zald, s_iast, s_last, s_zast, s_alen, s_iret, s_lret, s_aret, s_vret, s_al, gpad, gl, gst, gclr, gc2, gent, gcat, Value.category, List.drop_succ_cons, List.drop_zero, List.take_succ_cons, List.take_zero, List.reverse_cons, List.reverse_nil, List.nil_append, List.cons_append, List.append_nil, List.map_cons, List.map_nil, List.sum_cons, List.sum_nil, List.length_cons, List.length_nil, Option.toList, cond_true, cond_false, Nat.reduceBEq, Nat.reduceAdd, Nat.reduceLeDiff, beq_self_eq_true, true_and, and_true, BEq.rfl, Bool.false_eq_true, if_true, if_false, Sq_0, Sq_1, Sq_2, Sq_3, Sq_4, Sqf_0, Sqf_1, Sqf_2, Sqf_3, Sqf_4, Sqf_5, Sqf_6, Sqs_4, Sqs_5, Sqs_6, Squ_1, Squ_2, Squ_3, Squ_4, Tr_0, Tr_1, Trf_0, Trf_1, Trf_2, h2]
      refine if2i (fun g => ?_) (fun g => ?_)
      · rw [nI_leI (by omega) (by omega)] at g
        have : i = q := by omega
        subst this
        simp only [s_psh, s_ild, s_lld, s_ald, s_ist, s_lst, s_ast, s_inc, s_ib, s_ibz, s_iu, s_lb, s_lbz, s_lu, s_ls, s_il, s_li, s_cmp, s_dup, s_pop, s_dup2, s_cv, s_cs, s_ci, s_oi, s_get, s_put, s_iald, s_lald, s_zald, s_iast, s_last, s_zast, s_alen, s_iret, s_lret, s_aret, s_vret, s_al, gpad, gl, gst, gclr, gc2, gent, gcat, Value.category, List.drop_succ_cons, List.drop_zero, List.take_succ_cons, List.take_zero, List.reverse_cons, List.reverse_nil, List.nil_append, List.cons_append, List.append_nil, List.map_cons, List.map_nil, List.sum_cons, List.sum_nil, List.length_cons, List.length_nil, Option.toList, cond_true, cond_false, Nat.reduceBEq, Nat.reduceAdd, Nat.reduceLeDiff, beq_self_eq_true, true_and, and_true, BEq.rfl, Bool.false_eq_true, if_true, if_false, Sq_0, Sq_1, Sq_2, Sq_3, Sq_4, Sqf_0, Sqf_1, Sqf_2, Sqf_3, Sqf_4, Sqf_5, Sqf_6, Sqs_4, Sqs_5, Sqs_6, Squ_1, Squ_2, Squ_3, Squ_4]
        try simp only [true_and, and_true, lit, nI_add, nar_i, nar_0, nar_1, nar_b, fit_i, fit_l, pk_rem, nI_leI, nI_ltI, nI_eq, vin_iff, nI_clamp, nI_m1]
        rw [bI_t hw] at hQ
        exact hQ
      · rw [nI_leI (by omega) (by omega)] at g
        obtain ⟨b0, b1, b2, a0, a1, a2⟩ := hT i (by omega)
        have e0 : A 1 (3 * i + 0) = nI (t0 a i) := (hA i (by omega) 0 (by decide)).trans a0
        have e1 : A 1 (3 * i + 1) = nI (t1 a i) := (hA i (by omega) 1 (by decide)).trans a1
        have e2 : A 1 (3 * i + 2) = nI (t2 a i) := (hA i (by omega) 2 (by decide)).trans a2
        have hm := mi_le v (t0 a i) (t1 a i)
        have ee : (∀ j, j < i + 1 → -(e : Int) ≤ (mi v (t0 a j) (t1 a j) : Int) - (t2 a j : Int) ∧ (mi v (t0 a j) (t1 a j) : Int) - (t2 a j : Int) ≤ (e : Int)) ↔ (-(e : Int) ≤ (mi v (t0 a i) (t1 a i) : Int) - (t2 a i : Int) ∧ (mi v (t0 a i) (t1 a i) : Int) - (t2 a i : Int) ≤ (e : Int)) :=
          ⟨fun h => h i (by omega), fun h j hj => by
            rcases Nat.lt_or_ge j i with h3 | h3
            · exact hw j h3
            · rw [show j = i by omega]; exact h⟩
        simp only [sp_X10_part, sp_X4_barsOf, s_psh, s_ild, s_lld, s_ald, s_ist, s_lst, s_ast, s_inc, s_ib, s_ibz, s_iu, s_lb, s_lbz, s_lu, s_ls, s_il, s_li, s_cmp, s_dup, s_pop, s_dup2, s_cv, s_cs, s_ci, s_oi, s_get, s_put, s_iald, s_lald, s_zald, s_iast, s_last, s_zast, s_alen, s_iret, s_lret, s_aret, s_vret, s_al, gpad, gl, gst, gclr, gc2, gent, gcat, Value.category, List.drop_succ_cons, List.drop_zero, List.take_succ_cons, List.take_zero, List.reverse_cons, List.reverse_nil, List.nil_append, List.cons_append, List.append_nil, List.map_cons, List.map_nil, List.sum_cons, List.sum_nil, List.length_cons, List.length_nil, Option.toList, cond_true, cond_false, Nat.reduceBEq, Nat.reduceAdd, Nat.reduceLeDiff, beq_self_eq_true, true_and, and_true, BEq.rfl, Bool.false_eq_true, if_true, if_false, Sq_0, Sq_1, Sq_2, Sq_3, Sq_4, Sqf_0, Sqf_1, Sqf_2, Sqf_3, Sqf_4, Sqf_5, Sqf_6, Sqs_4, Sqs_5, Sqs_6, Squ_1, Squ_2, Squ_3, Squ_4, Tr_0, Tr_1, Trf_0, Trf_1, Trf_2]
        refine ⟨18, σ, A, R, i, 0, rfl, rfl, rfl, by omega, by decide, ?_⟩
        rw [e0]
        refine ⟨18, σ, A, R, i, 1, rfl, rfl, rfl, by omega, by decide, ?_⟩
        rw [e1]
        refine ⟨v, _, _, rfl, hv, rfl, by omega, rfl, b1, ?_⟩
        refine ⟨18, σ, A, R, i, 2, rfl, rfl, rfl, by omega, by decide, ?_⟩
        rw [e2]
        have es : nI (mi v (t0 a i) (t1 a i)) - nI (t2 a i) = iI ((mi v (t0 a i) (t1 a i) : Int) - (t2 a i : Int)) := nI_subI _ _
        rw [es]
        have fin : ∀ y : Int32, (y ≤ nI e ↔ (-(e : Int) ≤ (mi v (t0 a i) (t1 a i) : Int) - (t2 a i : Int) ∧ (mi v (t0 a i) (t1 a i) : Int) - (t2 a i : Int) ≤ (e : Int))) → s_if2 (fun x y => x ≤ y) (s_inc 3 1 fun lv st C n z => ∃ μ', μ' < q - i ∧ iwI t e v q a (TrE 18 t σ A R) n z μ' lv st C n z) (s_psh (.int 0) (s_iret .boolean Q)) [some (.ref t), some (.int (nI e)), some (.int (nI v)), some (.int (nI i)), some (.int (nI (mi v (t0 a i) (t1 a i))))] [.int (nI e), .int y] (TrE 18 t σ A R) n z := fun y hy => by
          refine if2i (fun g2 => ?_) (fun g2 => ?_)
          · simp only [s_psh, s_ild, s_lld, s_ald, s_ist, s_lst, s_ast, s_inc, s_ib, s_ibz, s_iu, s_lb, s_lbz, s_lu, s_ls, s_il, s_li, s_cmp, s_dup, s_pop, s_dup2, s_cv, s_cs, s_ci, s_oi, s_get, s_put, s_iald, s_lald, s_zald, s_iast, s_last, s_zast, s_alen, s_iret, s_lret, s_aret, s_vret, s_al, gpad, gl, gst, gclr, gc2, gent, gcat, Value.category, List.drop_succ_cons, List.drop_zero, List.take_succ_cons, List.take_zero, List.reverse_cons, List.reverse_nil, List.nil_append, List.cons_append, List.append_nil, List.map_cons, List.map_nil, List.sum_cons, List.sum_nil, List.length_cons, List.length_nil, Option.toList, cond_true, cond_false, Nat.reduceBEq, Nat.reduceAdd, Nat.reduceLeDiff, beq_self_eq_true, true_and, and_true, BEq.rfl, Bool.false_eq_true, if_true, if_false, Sq_0, Sq_1, Sq_2, Sq_3, Sq_4, Sqf_0, Sqf_1, Sqf_2, Sqf_3, Sqf_4, Sqf_5, Sqf_6, Sqs_4, Sqs_5, Sqs_6, Squ_1, Squ_2, Squ_3, Squ_4]
            simp (disch := omega) only [true_and, and_true, lit, nI_add, nar_i, nar_0, nar_1, nar_b, fit_i, fit_l, pk_rem, nI_leI, nI_ltI, nI_eq, vin_iff, nI_clamp, nI_m1]
            exact ⟨q - (i + 1), by omega, rfl, rfl, rfl, rfl, i + 1, _, by omega, rfl, ee.mpr (hy.mp g2), rfl⟩
          · simp only [s_psh, s_ild, s_lld, s_ald, s_ist, s_lst, s_ast, s_inc, s_ib, s_ibz, s_iu, s_lb, s_lbz, s_lu, s_ls, s_il, s_li, s_cmp, s_dup, s_pop, s_dup2, s_cv, s_cs, s_ci, s_oi, s_get, s_put, s_iald, s_lald, s_zald, s_iast, s_last, s_zast, s_alen, s_iret, s_lret, s_aret, s_vret, s_al, gpad, gl, gst, gclr, gc2, gent, gcat, Value.category, List.drop_succ_cons, List.drop_zero, List.take_succ_cons, List.take_zero, List.reverse_cons, List.reverse_nil, List.nil_append, List.cons_append, List.append_nil, List.map_cons, List.map_nil, List.sum_cons, List.sum_nil, List.length_cons, List.length_nil, Option.toList, cond_true, cond_false, Nat.reduceBEq, Nat.reduceAdd, Nat.reduceLeDiff, beq_self_eq_true, true_and, and_true, BEq.rfl, Bool.false_eq_true, if_true, if_false, Sq_0, Sq_1, Sq_2, Sq_3, Sq_4, Sqf_0, Sqf_1, Sqf_2, Sqf_3, Sqf_4, Sqf_5, Sqf_6, Sqs_4, Sqs_5, Sqs_6, Squ_1, Squ_2, Squ_3, Squ_4]
            try simp only [true_and, and_true, lit, nI_add, nar_i, nar_0, nar_1, nar_b, fit_i, fit_l, pk_rem, nI_leI, nI_ltI, nI_eq, vin_iff, nI_clamp, nI_m1]
            rw [bI_f (fun hh : wy a e v q => g2 (hy.mpr (hh i (by omega))))] at hQ
            exact hQ
        refine abs_sp (fun g2 => ?_) (fun g2 => ?_)
        · refine fin _ ?_
          rw [nI_iI, iI_le (by omega) (by omega) (by omega) (by omega)]
          rw [nI_iI, iI_le (by omega) (by omega) (by omega) (by omega)] at g2
          omega
        · refine fin _ ?_
          rw [nI_iI, iI_neg, iI_le (by omega) (by omega) (by omega) (by omega)]
          rw [nI_iI, iI_le (by omega) (by omega) (by omega) (by omega)] at g2
          omega
  · exact h.elim
