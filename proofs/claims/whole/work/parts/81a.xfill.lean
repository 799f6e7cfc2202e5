/-! the class: an array filled, a square made -/
def flF (f : Nat → Int32) (v : Int32) (N : Nat) : Nat → Int32 := fun j => if j < N then v else f j
theorem gup_self {C : gC} {a : Nat} {x : gE} (h : C a = some x) : gup C a x = C := by
  funext q
  unfold gup
  split
  · rename_i e; rw [e, h]
  · rfl
theorem flF_0 {f : Nat → Int32} {v : Int32} : flF f v 0 = f := by
  funext j
  exact if_neg (Nat.not_lt_zero _)
theorem flF_s {f : Nat → Int32} {v : Int32} {i : Nat} : upd (flF f v i) i v = flF f v (i + 1) := by
  funext j
  unfold flF
  by_cases h : j = i
  · rw [h, pk_us, if_pos (Nat.lt_succ_self i)]
  · rw [pk_un h]
    by_cases h2 : j < i
    · rw [if_pos h2, if_pos (by omega)]
    · rw [if_neg h2, if_neg (by omega)]
def flI (a N : Nat) (v : Int32) (f : Nat → Int32) (C0 : gC) (n0 z0 μ : Nat) : gKo := fun lv st C n z => st = [] ∧ n = n0 ∧ z = z0 ∧ ∃ i, i ≤ N ∧ μ = N - i ∧ C = gup C0 a (.inl (0, N, .inl (flF f v i))) ∧ lv = [some (.ref a), some (.int v), some (.int (nI i)), some (.int (nI N))]
def sp_J7_fill_53178 : gSp := fun as C n z Q => match as with
  | [.ref a, .int v] => ∃ N f, C a = some (.inl (0, N, .inl f)) ∧ N < 5000 ∧ Q none (gup C a (.inl (0, N, .inl (flF f v N)))) n z
  | _ => False
set_option maxRecDepth 100000 in
set_option maxHeartbeats 4000000 in
theorem c_J7_fill_53178 (l : Launch) : Con l yJ7_fill_53178 cJ7_fill_53178 4 none 0 0 0 sp_J7_fill_53178 := by
  refine m_J7_fill_53178 ?_
  intro as C0 n0 z0 Q h
  unfold sp_J7_fill_53178 at h
  split at h
  · rename_i a v
    obtain ⟨N, f, ha, hN, hQ⟩ := h
    refine ⟨Nat.le_of_ble_eq_true rfl, fun pc μ => flI a N v f C0 n0 z0 μ, ?_, ?_⟩
    · simp only [b_J7_fill_53178_0, ha, s_psh, s_ild, s_lld, s_ald, s_ist, s_lst, s_ast, s_inc, s_ib, s_ibz, s_iu, s_lb, s_lbz, s_lu, s_ls, s_il, s_li, s_cmp, s_dup, s_pop, s_dup2, s_cv, s_cs, s_ci, s_oi, s_get, s_put, s_iald, s_lald, s_zald, s_iast, s_last, s_zast, s_alen, s_iret, s_lret, s_aret, s_vret, s_al, gpad, gl, gst, gclr, gc2, gent, gcat, Value.category, List.drop_succ_cons, List.drop_zero, List.take_succ_cons, List.take_zero, List.reverse_cons, List.reverse_nil, List.nil_append, List.cons_append, List.append_nil, List.map_cons, List.map_nil, List.sum_cons, List.sum_nil, List.length_cons, List.length_nil, Option.toList, cond_true, cond_false, Nat.reduceBEq, Nat.reduceAdd, Nat.reduceLeDiff, beq_self_eq_true, true_and, and_true, BEq.rfl, Bool.false_eq_true, if_true, if_false, Sq_0, Sq_1, Sq_2, Sq_3, Sq_4, Sqf_0, Sqf_1, Sqf_2, Sqf_3, Sqf_4, Sqf_5, Sqf_6, Sqs_4, Sqs_5, Sqs_6, Squ_1, Squ_2, Squ_3, Squ_4]
      exact ⟨by decide, _, rfl, rfl, rfl, 0, Nat.zero_le _, rfl, by rw [flF_0, gup_self ha], rfl⟩
    · rintro μ lv st C n z ⟨rfl, rfl, rfl, i, hi, rfl, rfl, rfl⟩
      simp only [b_J7_fill_53178_5, s_psh, s_ild, s_lld, s_ald, s_ist, s_lst, s_ast, s_inc, s_ib, s_ibz, s_iu, s_lb, s_lbz, s_lu, s_ls, s_il, s_li, s_cmp, s_dup, s_pop, s_dup2, s_cv, s_cs, s_ci, s_oi, s_get, s_put, s_iald, s_lald, s_zald, s_iast, s_last, s_zast, s_alen, s_iret, s_lret, s_aret, s_vret, s_al, gpad, gl, gst, gclr, gc2, gent, gcat, Value.category, List.drop_succ_cons, List.drop_zero, List.take_succ_cons, List.take_zero, List.reverse_cons, List.reverse_nil, List.nil_append, List.cons_append, List.append_nil, List.map_cons, List.map_nil, List.sum_cons, List.sum_nil, List.length_cons, List.length_nil, Option.toList, cond_true, cond_false, Nat.reduceBEq, Nat.reduceAdd, Nat.reduceLeDiff, beq_self_eq_true, true_and, and_true, BEq.rfl, Bool.false_eq_true, if_true, if_false, Sq_0, Sq_1, Sq_2, Sq_3, Sq_4, Sqf_0, Sqf_1, Sqf_2, Sqf_3, Sqf_4, Sqf_5, Sqf_6, Sqs_4, Sqs_5, Sqs_6, Squ_1, Squ_2, Squ_3, Squ_4]
      refine if2i (fun g => ?_) (fun g => ?_)
      · rw [nI_leI (by omega) (by omega)] at g
        have : i = N := by omega
        subst this
        simp only [s_psh, s_ild, s_lld, s_ald, s_ist, s_lst, s_ast, s_inc, s_ib, s_ibz, s_iu, s_lb, s_lbz, s_lu, s_ls, s_il, s_li, s_cmp, s_dup, s_pop, s_dup2, s_cv, s_cs, s_ci, s_oi, s_get, s_put, s_iald, s_lald, s_zald, s_iast, s_last, s_zast, s_alen, s_iret, s_lret, s_aret, s_vret, s_al, gpad, gl, gst, gclr, gc2, gent, gcat, Value.category, List.drop_succ_cons, List.drop_zero, List.take_succ_cons, List.take_zero, List.reverse_cons, List.reverse_nil, List.nil_append, List.cons_append, List.append_nil, List.map_cons, List.map_nil, List.sum_cons, List.sum_nil, List.length_cons, List.length_nil, Option.toList, cond_true, cond_false, Nat.reduceBEq, Nat.reduceAdd, Nat.reduceLeDiff, beq_self_eq_true, true_and, and_true, BEq.rfl, Bool.false_eq_true, if_true, if_false, Sq_0, Sq_1, Sq_2, Sq_3, Sq_4, Sqf_0, Sqf_1, Sqf_2, Sqf_3, Sqf_4, Sqf_5, Sqf_6, Sqs_4, Sqs_5, Sqs_6, Squ_1, Squ_2, Squ_3, Squ_4]
        exact hQ
      · rw [nI_leI (by omega) (by omega)] at g
        simp only [s_psh, s_ild, s_lld, s_ald, s_ist, s_lst, s_ast, s_inc, s_ib, s_ibz, s_iu, s_lb, s_lbz, s_lu, s_ls, s_il, s_li, s_cmp, s_dup, s_pop, s_dup2, s_cv, s_cs, s_ci, s_oi, s_get, s_put, s_iald, s_lald, s_zald, s_iast, s_last, s_zast, s_alen, s_iret, s_lret, s_aret, s_vret, s_al, gpad, gl, gst, gclr, gc2, gent, gcat, Value.category, List.drop_succ_cons, List.drop_zero, List.take_succ_cons, List.take_zero, List.reverse_cons, List.reverse_nil, List.nil_append, List.cons_append, List.append_nil, List.map_cons, List.map_nil, List.sum_cons, List.sum_nil, List.length_cons, List.length_nil, Option.toList, cond_true, cond_false, Nat.reduceBEq, Nat.reduceAdd, Nat.reduceLeDiff, beq_self_eq_true, true_and, and_true, BEq.rfl, Bool.false_eq_true, if_true, if_false, Sq_0, Sq_1, Sq_2, Sq_3, Sq_4, Sqf_0, Sqf_1, Sqf_2, Sqf_3, Sqf_4, Sqf_5, Sqf_6, Sqs_4, Sqs_5, Sqs_6, Squ_1, Squ_2, Squ_3, Squ_4, gup_same, gup_gup]
        simp (disch := omega) only [true_and, and_true, lit, nI_add, nar_i, nar_0, nar_1, nar_b, fit_i, fit_l, pk_rem, nI_leI, nI_ltI, nI_eq, vin_iff, nI_clamp, nI_m1, flF_s]
        exact ⟨by omega, N - (i + 1), by omega, rfl, rfl, rfl, i + 1, by omega, rfl, rfl, rfl⟩
  · exact h.elim
def sqσ0 : Nat → Int32 := fun k => if k = 6 then nI 263 else nI 0
def sqA0 : Nat → Nat → Int32 := sup (sup (fun _ _ => 0) 1 (flF (fun _ => 0) (nI 1) 30)) 3 (flF (fun _ => 0) (-nI 1) 7)
def sq0 : List Value := [.null, .null, .null, .null, .int 0, .int 0, .int 0]
def sp_X5_init : gSp := fun as C n z Q => match as with
  | [.ref s] => C s = some (.inr (5, sq0)) ∧ n = s + 1 ∧ Q none (SqE s sqσ0 sqA0 C) (s + 5) (z + 187)
  | _ => False
theorem Sq_made {s : Nat} {X : gC} : oE s 5 (Sqfs s sqσ0) (gup (gup (gup (gup X (s + 1) (.inl (0, 30, .inl fun _ => 0))) (s + 2) (.inl (0, 30, .inl fun _ => 0))) (s + 3) (.inl (0, 7, .inl fun _ => 0))) (s + 4) (.inl (0, 120, .inl fun _ => 0))) = SqE s sqσ0 (fun _ _ => 0) X := by
  funext q
  unfold oE gup SqE
  by_cases h0 : q = s
  · simp only [if_pos h0]
  · by_cases h1 : q = s + 1
    · simp only [if_neg h0, if_pos h1, if_neg (show ¬ q = s + 2 by omega), if_neg (show ¬ q = s + 3 by omega), if_neg (show ¬ q = s + 4 by omega)]
    · by_cases h2 : q = s + 2
      · simp only [if_neg h0, if_neg h1, if_pos h2, if_neg (show ¬ q = s + 3 by omega), if_neg (show ¬ q = s + 4 by omega)]
      · by_cases h3 : q = s + 3
        · simp only [if_neg h0, if_neg h1, if_neg h2, if_pos h3, if_neg (show ¬ q = s + 4 by omega)]
        · by_cases h4 : q = s + 4
          · simp only [if_neg h0, if_neg h1, if_neg h2, if_neg h3, if_pos h4]
          · simp only [if_neg h0, if_neg h1, if_neg h2, if_neg h3, if_neg h4]
theorem Sq_oE {s ci : Nat} {fs : List Value} {σ : Nat → Int32} {A : Nat → Nat → Int32} {X : gC} : SqE s σ A (oE s ci fs X) = SqE s σ A X := by
  funext q
  unfold SqE oE
  by_cases h : q = s
  · rw [if_pos h, if_pos h]
  · rw [if_neg h, if_neg h, if_neg h]
set_option maxRecDepth 100000 in
set_option maxHeartbeats 4000000 in
theorem c_X5_init (l : Launch) : Con l yX5_init cX5_init 1 none 1 4 187 sp_X5_init := by
  refine m_X5_init (c_J7_fill_53178 l) (by decide) (by decide) ?_
  intro as C0 n0 z0 Q h
  unfold sp_X5_init at h
  split at h
  · rename_i s
    obtain ⟨hC, rfl, hQ⟩ := h
    obtain ⟨X, rfl⟩ : ∃ X, C0 = oE s 5 sq0 X := ⟨C0, oE_of hC⟩
    rw [Sq_oE] at hQ
    refine ⟨Nat.le_of_ble_eq_true rfl, ?_⟩
    simp only [b_X5_init_0, s_psh, s_ald, s_oi, s_newi, s_put, gpad, gl, gst, gclr, gc2, gent, gcat, Value.category, List.drop_succ_cons, List.drop_zero, List.take_succ_cons, List.take_zero, List.reverse_cons, List.reverse_nil, List.nil_append, List.cons_append, List.append_nil, List.map_cons, List.map_nil, List.sum_cons, List.sum_nil, List.length_cons, List.length_nil, Option.toList, cond_true, cond_false, Nat.reduceBEq, Nat.reduceAdd, Nat.reduceLeDiff, beq_self_eq_true, true_and, and_true, BEq.rfl, Bool.false_eq_true, if_true, if_false, oE_f, oE_s, oE_u, Nat.add_assoc, sq0, List.set_cons_zero, List.set_cons_succ, List.getElem?_cons_zero, List.getElem?_cons_succ, gfit_r, gfit_i]
    simp (disch := omega) only [true_and, and_true, lit, nI_add, nar_i, nar_0, nar_1, nar_b, fit_i, fit_l, pk_rem, nI_leI, nI_ltI, nI_eq, vin_iff, nI_clamp, nI_m1, gfree, gfit_1, gfit_i, oE_s, List.set_cons_zero, List.set_cons_succ, Nat.add_assoc, Nat.reduceAdd]
    refine ⟨⟨by decide, by omega, by omega, by omega⟩, ⟨by decide, by omega, by omega, by omega⟩, ⟨by decide, by omega, by omega, by omega⟩, ⟨by decide, by omega, by omega, by omega⟩, get_eq Sq_made ?_⟩
    simp only [sp_J7_fill_53178, s_psh, s_ild, s_lld, s_ald, s_ist, s_lst, s_ast, s_inc, s_ib, s_ibz, s_iu, s_lb, s_lbz, s_lu, s_ls, s_il, s_li, s_cmp, s_dup, s_pop, s_dup2, s_cv, s_cs, s_ci, s_oi, s_get, s_put, s_iald, s_lald, s_zald, s_iast, s_last, s_zast, s_alen, s_iret, s_lret, s_aret, s_vret, s_al, gpad, gl, gst, gclr, gc2, gent, gcat, Value.category, List.drop_succ_cons, List.drop_zero, List.take_succ_cons, List.take_zero, List.reverse_cons, List.reverse_nil, List.nil_append, List.cons_append, List.append_nil, List.map_cons, List.map_nil, List.sum_cons, List.sum_nil, List.length_cons, List.length_nil, Option.toList, cond_true, cond_false, Nat.reduceBEq, Nat.reduceAdd, Nat.reduceLeDiff, beq_self_eq_true, true_and, and_true, BEq.rfl, Bool.false_eq_true, if_true, if_false, Sq_0, Sq_1, Sq_2, Sq_3, Sq_4, Sqf_0, Sqf_1, Sqf_2, Sqf_3, Sqf_4, Sqf_5, Sqf_6, Sqs_4, Sqs_5, Sqs_6, Squ_1, Squ_2, Squ_3, Squ_4]
    refine ⟨30, _, rfl, by decide, ?_⟩
    simp only [sp_J7_fill_53178, s_psh, s_ild, s_lld, s_ald, s_ist, s_lst, s_ast, s_inc, s_ib, s_ibz, s_iu, s_lb, s_lbz, s_lu, s_ls, s_il, s_li, s_cmp, s_dup, s_pop, s_dup2, s_cv, s_cs, s_ci, s_oi, s_get, s_put, s_iald, s_lald, s_zald, s_iast, s_last, s_zast, s_alen, s_iret, s_lret, s_aret, s_vret, s_al, gpad, gl, gst, gclr, gc2, gent, gcat, Value.category, List.drop_succ_cons, List.drop_zero, List.take_succ_cons, List.take_zero, List.reverse_cons, List.reverse_nil, List.nil_append, List.cons_append, List.append_nil, List.map_cons, List.map_nil, List.sum_cons, List.sum_nil, List.length_cons, List.length_nil, Option.toList, cond_true, cond_false, Nat.reduceBEq, Nat.reduceAdd, Nat.reduceLeDiff, beq_self_eq_true, true_and, and_true, BEq.rfl, Bool.false_eq_true, if_true, if_false, Sq_0, Sq_1, Sq_2, Sq_3, Sq_4, Sqf_0, Sqf_1, Sqf_2, Sqf_3, Sqf_4, Sqf_5, Sqf_6, Sqs_4, Sqs_5, Sqs_6, Squ_1, Squ_2, Squ_3, Squ_4]
    refine ⟨7, _, rfl, by decide, ?_⟩
    simp only [s_psh, s_ild, s_lld, s_ald, s_ist, s_lst, s_ast, s_inc, s_ib, s_ibz, s_iu, s_lb, s_lbz, s_lu, s_ls, s_il, s_li, s_cmp, s_dup, s_pop, s_dup2, s_cv, s_cs, s_ci, s_oi, s_get, s_put, s_iald, s_lald, s_zald, s_iast, s_last, s_zast, s_alen, s_iret, s_lret, s_aret, s_vret, s_al, gpad, gl, gst, gclr, gc2, gent, gcat, Value.category, List.drop_succ_cons, List.drop_zero, List.take_succ_cons, List.take_zero, List.reverse_cons, List.reverse_nil, List.nil_append, List.cons_append, List.append_nil, List.map_cons, List.map_nil, List.sum_cons, List.sum_nil, List.length_cons, List.length_nil, Option.toList, cond_true, cond_false, Nat.reduceBEq, Nat.reduceAdd, Nat.reduceLeDiff, beq_self_eq_true, true_and, and_true, BEq.rfl, Bool.false_eq_true, if_true, if_false, Sq_0, Sq_1, Sq_2, Sq_3, Sq_4, Sqf_0, Sqf_1, Sqf_2, Sqf_3, Sqf_4, Sqf_5, Sqf_6, Sqs_4, Sqs_5, Sqs_6, Squ_1, Squ_2, Squ_3, Squ_4]
    try simp only [true_and, and_true, lit, nI_add, nar_i, nar_0, nar_1, nar_b, fit_i, fit_l, pk_rem, nI_leI, nI_ltI, nI_eq, vin_iff, nI_clamp, nI_m1]
    exact hQ
  · exact h.elim
