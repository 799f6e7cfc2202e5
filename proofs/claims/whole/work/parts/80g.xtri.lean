/-! the class's Triples -/
def Trfs (s : Nat) (σ : Nat → Int32) : List Value := [.ref (s + 1), .int (σ 1), .int (σ 2)]
def TrE (N s : Nat) (σ : Nat → Int32) (A : Nat → Nat → Int32) (R : gC) : gC := fun q => if q = s then some (.inr (10, Trfs s σ)) else if q = s + 1 then some (.inl (0, N, .inl (A 1))) else R q
def isTr (C : gC) (N s : Nat) : Prop := ∃ (σ : Nat → Int32) (A : Nat → Nat → Int32) (R : gC), C = TrE N s σ A R
section KK
variable {N s : Nat} {σ : Nat → Int32} {A : Nat → Nat → Int32} {R : gC}
theorem Tr_is : isTr (TrE N s σ A R) N s = True := eq_true ⟨σ, A, R, rfl⟩
theorem Tr_0 : TrE N s σ A R s = some (.inr (10, Trfs s σ)) := by simp [TrE]
theorem Tr_1 : TrE N s σ A R (s + 1) = some (.inl (0, N, .inl (A 1))) := by simp [TrE]
theorem Tra_1 : garr (TrE N s σ A R) (s + 1) = A 1 := by simp [garr, Tr_1]
theorem Trf_0 : gfld (TrE N s σ A R) s 10 0 = some (.ref (s + 1)) := by simp [gfld, Tr_0, Trfs]
theorem Trf_1 : gfld (TrE N s σ A R) s 10 1 = some (.int (σ 1)) := by simp [gfld, Tr_0, Trfs]
theorem Trf_2 : gfld (TrE N s σ A R) s 10 2 = some (.int (σ 2)) := by simp [gfld, Tr_0, Trfs]
theorem Tr_gup {x : gE} {a : Nat} {C' : gC} (h1 : C' a = some x) (h2 : ∀ q, q ≠ a → C' q = TrE N s σ A R q) : gup (TrE N s σ A R) a x = C' := by
  funext q
  unfold gup
  by_cases h : q = a
  · rw [if_pos h, h, h1]
  · rw [if_neg h, h2 q h]
theorem Tri_1 : gint (TrE N s σ A R) s 10 1 = σ 1 := by simp [gint, Trf_1]
theorem Trs_1 {v : Int32} : gsetf (TrE N s σ A R) s 1 (.int v) = TrE N s (sup σ 1 v) A R := by
  unfold gsetf
  rw [Tr_0]
  refine Tr_gup ?_ fun q hq => ?_
  · rw [Tr_0]; simp [Trfs, sup]
  · simp only [TrE, if_neg hq]
theorem Tri_2 : gint (TrE N s σ A R) s 10 2 = σ 2 := by simp [gint, Trf_2]
theorem Trs_2 {v : Int32} : gsetf (TrE N s σ A R) s 2 (.int v) = TrE N s (sup σ 2 v) A R := by
  unfold gsetf
  rw [Tr_0]
  refine Tr_gup ?_ fun q hq => ?_
  · rw [Tr_0]; simp [Trfs, sup]
  · simp only [TrE, if_neg hq]
theorem Tru_1 {f : Nat → Int32} : gup (TrE N s σ A R) (s + 1) (.inl (0, N, .inl f)) = TrE N s σ (sup A 1 f) R := by
  refine Tr_gup ?_ fun q hq => ?_
  · rw [Tr_1]; simp [sup]
  · simp only [TrE, if_neg hq]
end KK
def sp_X10_part : gSp := fun as C n z Q => match as with
  | [.ref s, .int x, .int y] => ∃ N σ A R i k, C = TrE N s σ A R ∧ x = nI i ∧ y = nI k ∧ 3 * i + k < N ∧ N ≤ 24 ∧ Q (some (.int (A 1 (3 * i + k)))) C n z
  | _ => False
set_option maxRecDepth 100000 in
set_option maxHeartbeats 4000000 in
theorem c_X10_part (l : Launch) : Con l yX10_part cX10_part 4 (some .int) 0 0 0 sp_X10_part := by
  refine m_X10_part ?_
  intro as C0 n0 z0 Q h
  unfold sp_X10_part at h
  split at h
  · obtain ⟨N, σ, A, R, i, k, rfl, rfl, rfl, hN, hN2, hQ⟩ := h
    refine ⟨Nat.le_of_ble_eq_true rfl, ?_⟩
    simp only [b_X10_part_0, s_psh, s_ild, s_lld, s_ald, s_ist, s_lst, s_ast, s_inc, s_ib, s_ibz, s_iu, s_lb, s_lbz, s_lu, s_ls, s_il, s_li, s_cmp, s_dup, s_pop, s_dup2, s_cv, s_cs, s_ci, s_oi, s_get, s_put, s_iald, s_lald, s_zald, s_iast, s_last, s_zast, s_alen, s_iret, s_lret, s_aret, s_vret, s_al, gpad, gl, gst, gclr, gc2, gent, gcat, Value.category, List.drop_succ_cons, List.drop_zero, List.take_succ_cons, List.take_zero, List.reverse_cons, List.reverse_nil, List.nil_append, List.cons_append, List.append_nil, List.map_cons, List.map_nil, List.sum_cons, List.sum_nil, List.length_cons, List.length_nil, Option.toList, cond_true, cond_false, Nat.reduceBEq, Nat.reduceAdd, Nat.reduceLeDiff, beq_self_eq_true, true_and, and_true, BEq.rfl, Bool.false_eq_true, if_true, if_false, Sq_0, Sq_1, Sq_2, Sq_3, Sq_4, Sqf_0, Sqf_1, Sqf_2, Sqf_3, Sqf_4, Sqf_5, Sqf_6, Sqs_4, Sqs_5, Sqs_6, Squ_1, Squ_2, Squ_3, Squ_4, Tr_0, Tr_1, Trf_0, Trf_1, Trf_2, Trs_1, Trs_2, Tru_1]
    simp (disch := omega) only [true_and, and_true, lit, nI_add, nar_i, nar_0, nar_1, nar_b, fit_i, fit_l, pk_rem, nI_leI, nI_ltI, nI_eq, vin_iff, nI_clamp, nI_m1, pk_mul]
    refine if1i (fun e => absurd e (nI_pos (by omega))) (fun _ => ?_)
    simp only [s_psh, s_ild, s_lld, s_ald, s_ist, s_lst, s_ast, s_inc, s_ib, s_ibz, s_iu, s_lb, s_lbz, s_lu, s_ls, s_il, s_li, s_cmp, s_dup, s_pop, s_dup2, s_cv, s_cs, s_ci, s_oi, s_get, s_put, s_iald, s_lald, s_zald, s_iast, s_last, s_zast, s_alen, s_iret, s_lret, s_aret, s_vret, s_al, gpad, gl, gst, gclr, gc2, gent, gcat, Value.category, List.drop_succ_cons, List.drop_zero, List.take_succ_cons, List.take_zero, List.reverse_cons, List.reverse_nil, List.nil_append, List.cons_append, List.append_nil, List.map_cons, List.map_nil, List.sum_cons, List.sum_nil, List.length_cons, List.length_nil, Option.toList, cond_true, cond_false, Nat.reduceBEq, Nat.reduceAdd, Nat.reduceLeDiff, beq_self_eq_true, true_and, and_true, BEq.rfl, Bool.false_eq_true, if_true, if_false, Sq_0, Sq_1, Sq_2, Sq_3, Sq_4, Sqf_0, Sqf_1, Sqf_2, Sqf_3, Sqf_4, Sqf_5, Sqf_6, Sqs_4, Sqs_5, Sqs_6, Squ_1, Squ_2, Squ_3, Squ_4, Tr_0, Tr_1, Trf_0, Trf_1, Trf_2, Trs_1, Trs_2, Tru_1]
    refine ⟨by decide, if2i (fun e => ?_) (fun e => ?_)⟩
    · rw [show Int32.ofNat N = nI N from rfl, nI_leI (by omega) (by omega)] at e
      omega
    · simp only [b_X10_part_29, s_psh, s_ild, s_lld, s_ald, s_ist, s_lst, s_ast, s_inc, s_ib, s_ibz, s_iu, s_lb, s_lbz, s_lu, s_ls, s_il, s_li, s_cmp, s_dup, s_pop, s_dup2, s_cv, s_cs, s_ci, s_oi, s_get, s_put, s_iald, s_lald, s_zald, s_iast, s_last, s_zast, s_alen, s_iret, s_lret, s_aret, s_vret, s_al, gpad, gl, gst, gclr, gc2, gent, gcat, Value.category, List.drop_succ_cons, List.drop_zero, List.take_succ_cons, List.take_zero, List.reverse_cons, List.reverse_nil, List.nil_append, List.cons_append, List.append_nil, List.map_cons, List.map_nil, List.sum_cons, List.sum_nil, List.length_cons, List.length_nil, Option.toList, cond_true, cond_false, Nat.reduceBEq, Nat.reduceAdd, Nat.reduceLeDiff, beq_self_eq_true, true_and, and_true, BEq.rfl, Bool.false_eq_true, if_true, if_false, Sq_0, Sq_1, Sq_2, Sq_3, Sq_4, Sqf_0, Sqf_1, Sqf_2, Sqf_3, Sqf_4, Sqf_5, Sqf_6, Sqs_4, Sqs_5, Sqs_6, Squ_1, Squ_2, Squ_3, Squ_4, Tr_0, Tr_1, Trf_0, Trf_1, Trf_2, Trs_1, Trs_2, Tru_1]
      simp (disch := omega) only [true_and, and_true, lit, nI_add, nar_i, nar_0, nar_1, nar_b, fit_i, fit_l, pk_rem, nI_leI, nI_ltI, nI_eq, vin_iff, nI_clamp, nI_m1]
      exact ⟨by omega, hQ⟩
  · exact h.elim
def putT (f : Nat → Int32) (q : Nat) (x y u : Int32) : Nat → Int32 := upd (upd (upd f (3 * q) x) (3 * q + 1) y) (3 * q + 2) u
def sp_X10_put : gSp := fun as C n z Q => match as with
  | [.ref s, .int x, .int y, .int u] => ∃ σ A R c q, C = TrE (3 * c) s σ A R ∧ σ 1 = nI c ∧ σ 2 = nI q ∧ c ≤ 8 ∧ q ≤ c ∧ (q < c → Q (some (.int (nI 1))) (TrE (3 * c) s (sup σ 2 (nI (q + 1))) (sup A 1 (putT (A 1) q x y u)) R) n z) ∧ (¬ q < c → Q (some (.int (nI 0))) C n z)
  | _ => False
set_option maxRecDepth 100000 in
set_option maxHeartbeats 4000000 in
theorem c_X10_put (l : Launch) : Con l yX10_put cX10_put 4 (some .boolean) 0 0 0 sp_X10_put := by
  refine m_X10_put ?_
  intro as C0 n0 z0 Q h
  unfold sp_X10_put at h
  split at h
  · obtain ⟨σ, A, R, c, q, rfl, e1, e2, hc, hq, h1, h2⟩ := h
    refine ⟨Nat.le_of_ble_eq_true rfl, ?_⟩
    simp only [b_X10_put_0, s_psh, s_ild, s_lld, s_ald, s_ist, s_lst, s_ast, s_inc, s_ib, s_ibz, s_iu, s_lb, s_lbz, s_lu, s_ls, s_il, s_li, s_cmp, s_dup, s_pop, s_dup2, s_cv, s_cs, s_ci, s_oi, s_get, s_put, s_iald, s_lald, s_zald, s_iast, s_last, s_zast, s_alen, s_iret, s_lret, s_aret, s_vret, s_al, gpad, gl, gst, gclr, gc2, gent, gcat, Value.category, List.drop_succ_cons, List.drop_zero, List.take_succ_cons, List.take_zero, List.reverse_cons, List.reverse_nil, List.nil_append, List.cons_append, List.append_nil, List.map_cons, List.map_nil, List.sum_cons, List.sum_nil, List.length_cons, List.length_nil, Option.toList, cond_true, cond_false, Nat.reduceBEq, Nat.reduceAdd, Nat.reduceLeDiff, beq_self_eq_true, true_and, and_true, BEq.rfl, Bool.false_eq_true, if_true, if_false, Sq_0, Sq_1, Sq_2, Sq_3, Sq_4, Sqf_0, Sqf_1, Sqf_2, Sqf_3, Sqf_4, Sqf_5, Sqf_6, Sqs_4, Sqs_5, Sqs_6, Squ_1, Squ_2, Squ_3, Squ_4, Tr_0, Tr_1, Trf_0, Trf_1, Trf_2, Trs_1, Trs_2, Tru_1]
    simp only [e1, e2]
    refine if2i (fun e => ?_) (fun e => ?_)
    · rw [nI_ltI (by omega) (by omega)] at e
      simp only [s_psh, s_ild, s_lld, s_ald, s_ist, s_lst, s_ast, s_inc, s_ib, s_ibz, s_iu, s_lb, s_lbz, s_lu, s_ls, s_il, s_li, s_cmp, s_dup, s_pop, s_dup2, s_cv, s_cs, s_ci, s_oi, s_get, s_put, s_iald, s_lald, s_zald, s_iast, s_last, s_zast, s_alen, s_iret, s_lret, s_aret, s_vret, s_al, gpad, gl, gst, gclr, gc2, gent, gcat, Value.category, List.drop_succ_cons, List.drop_zero, List.take_succ_cons, List.take_zero, List.reverse_cons, List.reverse_nil, List.nil_append, List.cons_append, List.append_nil, List.map_cons, List.map_nil, List.sum_cons, List.sum_nil, List.length_cons, List.length_nil, Option.toList, cond_true, cond_false, Nat.reduceBEq, Nat.reduceAdd, Nat.reduceLeDiff, beq_self_eq_true, true_and, and_true, BEq.rfl, Bool.false_eq_true, if_true, if_false, Sq_0, Sq_1, Sq_2, Sq_3, Sq_4, Sqf_0, Sqf_1, Sqf_2, Sqf_3, Sqf_4, Sqf_5, Sqf_6, Sqs_4, Sqs_5, Sqs_6, Squ_1, Squ_2, Squ_3, Squ_4, Tr_0, Tr_1, Trf_0, Trf_1, Trf_2, Trs_1, Trs_2, Tru_1]
      simp (disch := omega) only [true_and, and_true, lit, nI_add, nar_i, nar_0, nar_1, nar_b, fit_i, fit_l, pk_rem, nI_leI, nI_ltI, nI_eq, vin_iff, nI_clamp, nI_m1, e2, pk_mul, sup_same, sup_sup]
      exact ⟨by omega, by omega, by omega, h1 e⟩
    · rw [nI_ltI (by omega) (by omega)] at e
      simp only [s_psh, s_ild, s_lld, s_ald, s_ist, s_lst, s_ast, s_inc, s_ib, s_ibz, s_iu, s_lb, s_lbz, s_lu, s_ls, s_il, s_li, s_cmp, s_dup, s_pop, s_dup2, s_cv, s_cs, s_ci, s_oi, s_get, s_put, s_iald, s_lald, s_zald, s_iast, s_last, s_zast, s_alen, s_iret, s_lret, s_aret, s_vret, s_al, gpad, gl, gst, gclr, gc2, gent, gcat, Value.category, List.drop_succ_cons, List.drop_zero, List.take_succ_cons, List.take_zero, List.reverse_cons, List.reverse_nil, List.nil_append, List.cons_append, List.append_nil, List.map_cons, List.map_nil, List.sum_cons, List.sum_nil, List.length_cons, List.length_nil, Option.toList, cond_true, cond_false, Nat.reduceBEq, Nat.reduceAdd, Nat.reduceLeDiff, beq_self_eq_true, true_and, and_true, BEq.rfl, Bool.false_eq_true, if_true, if_false, Sq_0, Sq_1, Sq_2, Sq_3, Sq_4, Sqf_0, Sqf_1, Sqf_2, Sqf_3, Sqf_4, Sqf_5, Sqf_6, Sqs_4, Sqs_5, Sqs_6, Squ_1, Squ_2, Squ_3, Squ_4, Tr_0, Tr_1, Trf_0, Trf_1, Trf_2, Trs_1, Trs_2, Tru_1]
      try simp only [true_and, and_true, lit, nI_add, nar_i, nar_0, nar_1, nar_b, fit_i, fit_l, pk_rem, nI_leI, nI_ltI, nI_eq, vin_iff, nI_clamp, nI_m1]
      exact h2 e
  · exact h.elim
