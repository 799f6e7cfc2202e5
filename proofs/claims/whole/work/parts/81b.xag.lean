/-! the class's world read as its squares, triples and steps, and back -/
def agX (X : Nat) (σ : Nat → Nat → Int32) (ρ : Nat → Value) (A : Nat → Nat → Int32) (P : Nat → Nat → Option Nat) (C : gC) : Prop := ∀ k, k < 56 → C (X + k) = xcl X σ ρ A P k
def StE (s : Nat) (σ : Nat → Int32) (P : Nat → Option Nat) (R : gC) : gC := fun q => if q = s then some (.inr (7, [.ref (s + 1), .int (σ 1), .int (σ 2)])) else if q = s + 1 then some (.inl (3, 30, .inr (.inr (.inr (.inr P))))) else R q
def supq (A : Nat → Nat → Int32) (j : Nat) (A' : Nat → Nat → Int32) : Nat → Nat → Int32 := fun k => if j < k ∧ k ≤ j + 4 then A' (k - j) else A k
theorem s2_eq {σ : Nat → Nat → Int32} {j k : Nat} {v : Int32} : s2 σ j k v j k = v := if_pos ⟨rfl, rfl⟩
theorem s2_ne {σ : Nat → Nat → Int32} {j k a b : Nat} {v : Int32} (h : (a == j && b == k) = false) : s2 σ j k v a b = σ a b := if_neg (fun q => by rw [q.1, q.2] at h; simp at h)
theorem s2_row {σ : Nat → Nat → Int32} {j k a : Nat} {v : Int32} (h : a ≠ j) : s2 σ j k v a = σ a := by
  funext b
  exact if_neg (fun q => h q.1)
theorem s2_sup {σ : Nat → Nat → Int32} {j k : Nat} {v : Int32} : s2 σ j k v = sup σ j (sup (σ j) k v) := by
  funext a b
  unfold s2 sup
  by_cases h : a = j
  · by_cases h2 : b = k
    · rw [if_pos ⟨h, h2⟩, if_pos h, if_pos h2]
    · rw [if_neg (fun q => h2 q.2), if_pos h, if_neg h2, h]
  · rw [if_neg (fun q => h q.1), if_neg h]
section XG
variable {X : Nat} {σ : Nat → Nat → Int32} {ρ : Nat → Value} {A : Nat → Nat → Int32} {P : Nat → Nat → Option Nat} {R C : gC}
theorem agX_E : agX X σ ρ A P (xE X σ ρ A P R) := fun _ hk => xE_at hk
theorem xE_ext (h1 : agX X σ ρ A P C) (h2 : ∀ q, q < X ∨ X + 56 ≤ q → C q = R q) : C = xE X σ ρ A P R := by
  funext q
  by_cases h : X ≤ q ∧ q < X + 56
  · obtain ⟨k, hk, rfl⟩ : ∃ k, k < 56 ∧ q = X + k := ⟨q - X, by omega, by omega⟩
    rw [h1 k hk, xE_at hk]
  · rw [xE_out (by omega), h2 q (by omega)]
theorem xE_of (h : agX X σ ρ A P C) : C = xE X σ ρ A P C := xE_ext h fun _ _ => rfl
theorem xfs_sup {j a : Nat} {τ : Nat → Int32} (h : a ≠ j) : xfs X (sup σ j τ) ρ a = xfs X σ ρ a := by
  have e : sup σ j τ a = σ a := sup_ne h
  unfold xfs
  split <;> simp only [e]
def sq3 (j : Nat) : Prop := j = 2 ∨ j = 17 ∨ j = 50
def tr4 (j : Nat) : Prop := j = 9 ∨ j = 24
def tr5 (j : Nat) : Prop := j = 11 ∨ j = 26
def st2 (j : Nat) : Prop := j = 7 ∨ j = 22
theorem xcl_o {k : Nat} {σ' : Nat → Nat → Int32} {A' : Nat → Nat → Int32} {P' : Nat → Nat → Option Nat} (h1 : xfs X σ' ρ k = xfs X σ ρ k) (h2 : A' k = A k) (h3 : P' k = P k) : xcl X σ' ρ A' P' k = xcl X σ ρ A P k := by
  unfold xcl
  rw [h1, h2, h3]
theorem agSq {j : Nat} {τ : Nat → Int32} {B : Nat → Nat → Int32} (hj : sq3 j) (h : agX X σ ρ A P C) : agX X (sup σ j τ) ρ (supq A j B) P (SqE (X + j) τ B C) := by
  intro k hk
  by_cases h0 : k = j
  · subst h0
    rw [Sq_0]
    rcases hj with rfl | rfl | rfl <;> simp [xcl, xtb, xfs, Sqfs, sup, Nat.add_assoc]
  · by_cases h1 : k < j ∨ j + 4 < k
    · rw [Sq_out (by omega), h k hk]
      exact (xcl_o (xfs_sup h0) (if_neg (by omega)) rfl).symm
    · obtain ⟨i, hi, rfl⟩ : ∃ i, (i = 1 ∨ i = 2 ∨ i = 3 ∨ i = 4) ∧ k = j + i := ⟨k - j, by omega, by omega⟩
      have e : supq A j B (j + i) = B i := by
        unfold supq
        rw [if_pos (by omega), Nat.add_sub_cancel_left]
      rw [← Nat.add_assoc]
      unfold xcl
      rcases hi with rfl | rfl | rfl | rfl
      · rw [Sq_1, e]; rcases hj with rfl | rfl | rfl <;> rfl
      · rw [Sq_2, e]; rcases hj with rfl | rfl | rfl <;> rfl
      · rw [Sq_3, e]; rcases hj with rfl | rfl | rfl <;> rfl
      · rw [Sq_4, e]; rcases hj with rfl | rfl | rfl <;> rfl
theorem agSt {j : Nat} {τ : Nat → Int32} {B : Nat → Option Nat} (hj : st2 j) (h : agX X σ ρ A P C) : agX X (sup σ j τ) ρ A (sup P (j + 1) B) (StE (X + j) τ B C) := by
  intro k hk
  unfold StE
  by_cases h0 : k = j
  · subst h0
    rw [if_pos rfl]
    rcases hj with rfl | rfl <;> simp [xcl, xtb, xfs, sup, Nat.add_assoc]
  · rw [if_neg (by omega)]
    by_cases h1 : k = j + 1
    · rw [if_pos (by omega), h1]
      unfold xcl
      rw [sup_same]
      rcases hj with rfl | rfl <;> rfl
    · rw [if_neg (by omega), h k hk]
      exact (xcl_o (xfs_sup h0) rfl (sup_ne h1)).symm
theorem agTr {j N : Nat} {τ : Nat → Int32} {B : Nat → Nat → Int32} (hj : (tr4 j ∧ N = 18) ∨ (tr5 j ∧ N = 24)) (h : agX X σ ρ A P C) : agX X (sup σ j τ) ρ (sup A (j + 1) (B 1)) P (TrE N (X + j) τ B C) := by
  intro k hk
  unfold TrE
  by_cases h0 : k = j
  · subst h0
    rw [if_pos rfl]
    rcases hj with ⟨rfl | rfl, rfl⟩ | ⟨rfl | rfl, rfl⟩ <;> simp [xcl, xtb, xfs, Trfs, sup, Nat.add_assoc]
  · rw [if_neg (by omega)]
    by_cases h1 : k = j + 1
    · rw [if_pos (by omega), h1]
      unfold xcl
      rw [sup_same]
      rcases hj with ⟨rfl | rfl, rfl⟩ | ⟨rfl | rfl, rfl⟩ <;> rfl
    · rw [if_neg (by omega), h k hk]
      exact (xcl_o (xfs_sup h0) (sup_ne h1) rfl).symm
theorem xSq {j : Nat} (hj : sq3 j) : xE X σ ρ A P R = SqE (X + j) (σ j) (fun k => A (j + k)) (xE X σ ρ A P R) := by
  refine Eq.trans (b := xE X (sup σ j (σ j)) ρ (supq A j (fun k => A (j + k))) P R) ?_ (xE_ext (agSq hj agX_E) fun q hq => ?_).symm
  · congr 1
    · funext a
      rw [supa]
      split
      · rename_i e; rw [e]
      · rfl
    · funext k
      unfold supq
      split
      · rename_i e; show A k = A (j + (k - j)); rw [show j + (k - j) = k by omega]
      · rfl
  · rcases hj with rfl | rfl | rfl <;> rw [Sq_out (by omega), xE_out hq]
theorem xSqb {j : Nat} {τ : Nat → Int32} {B : Nat → Nat → Int32} (hj : sq3 j) : SqE (X + j) τ B (xE X σ ρ A P R) = xE X (sup σ j τ) ρ (supq A j B) P R := by
  refine xE_ext (agSq hj agX_E) fun q hq => ?_
  rcases hj with rfl | rfl | rfl <;> rw [Sq_out (by omega), xE_out hq]
theorem xTr9 : xE X σ ρ A P R = TrE 18 (X + 9) (σ 9) (fun _ => A 10) (xE X σ ρ A P R) := by
  funext q
  unfold TrE
  by_cases h : q = X + 9
  · rw [if_pos h, h, x_9]; rfl
  · rw [if_neg h]
    by_cases h2 : q = X + 9 + 1
    · rw [if_pos h2, h2, x_10]
    · rw [if_neg h2]
theorem xTr11 : xE X σ ρ A P R = TrE 24 (X + 11) (σ 11) (fun _ => A 12) (xE X σ ρ A P R) := by
  funext q
  unfold TrE
  by_cases h : q = X + 11
  · rw [if_pos h, h, x_11]; rfl
  · rw [if_neg h]
    by_cases h2 : q = X + 11 + 1
    · rw [if_pos h2, h2, x_12]
    · rw [if_neg h2]
end XG
theorem abs_sp {x : Int32} {C : gC} {n z : Nat} {Q : gQ} (h1 : nI 0 ≤ x → Q (some (.int x)) C n z) (h2 : ¬ nI 0 ≤ x → Q (some (.int (-x))) C n z) : sp_J9_abs_0f7a4 [.int x] C n z Q := by
  unfold sp_J9_abs_0f7a4
  refine ⟨Nat.le_of_ble_eq_true rfl, ?_⟩
  simp only [b_J9_abs_0f7a4_0, s_psh, s_ild, s_lld, s_ald, s_ist, s_lst, s_ast, s_inc, s_ib, s_ibz, s_iu, s_lb, s_lbz, s_lu, s_ls, s_il, s_li, s_cmp, s_dup, s_pop, s_dup2, s_cv, s_cs, s_ci, s_oi, s_get, s_put, s_iald, s_lald, s_zald, s_iast, s_last, s_zast, s_alen, s_iret, s_lret, s_aret, s_vret, s_al, gpad, gl, gst, gclr, gc2, gent, gcat, Value.category, List.drop_succ_cons, List.drop_zero, List.take_succ_cons, List.take_zero, List.reverse_cons, List.reverse_nil, List.nil_append, List.cons_append, List.append_nil, List.map_cons, List.map_nil, List.sum_cons, List.sum_nil, List.length_cons, List.length_nil, Option.toList, cond_true, cond_false, Nat.reduceBEq, Nat.reduceAdd, Nat.reduceLeDiff, beq_self_eq_true, true_and, and_true, BEq.rfl, Bool.false_eq_true, if_true, if_false, Sq_0, Sq_1, Sq_2, Sq_3, Sq_4, Sqf_0, Sqf_1, Sqf_2, Sqf_3, Sqf_4, Sqf_5, Sqf_6, Sqs_4, Sqs_5, Sqs_6, Squ_1, Squ_2, Squ_3, Squ_4]
  refine if1i (fun e => ?_) (fun e => ?_)
  · simp only [b_J9_abs_0f7a4_10, s_psh, s_ild, s_lld, s_ald, s_ist, s_lst, s_ast, s_inc, s_ib, s_ibz, s_iu, s_lb, s_lbz, s_lu, s_ls, s_il, s_li, s_cmp, s_dup, s_pop, s_dup2, s_cv, s_cs, s_ci, s_oi, s_get, s_put, s_iald, s_lald, s_zald, s_iast, s_last, s_zast, s_alen, s_iret, s_lret, s_aret, s_vret, s_al, gpad, gl, gst, gclr, gc2, gent, gcat, Value.category, List.drop_succ_cons, List.drop_zero, List.take_succ_cons, List.take_zero, List.reverse_cons, List.reverse_nil, List.nil_append, List.cons_append, List.append_nil, List.map_cons, List.map_nil, List.sum_cons, List.sum_nil, List.length_cons, List.length_nil, Option.toList, cond_true, cond_false, Nat.reduceBEq, Nat.reduceAdd, Nat.reduceLeDiff, beq_self_eq_true, true_and, and_true, BEq.rfl, Bool.false_eq_true, if_true, if_false, Sq_0, Sq_1, Sq_2, Sq_3, Sq_4, Sqf_0, Sqf_1, Sqf_2, Sqf_3, Sqf_4, Sqf_5, Sqf_6, Sqs_4, Sqs_5, Sqs_6, Squ_1, Squ_2, Squ_3, Squ_4]
    try simp only [true_and, and_true, lit, nI_add, nar_i, nar_0, nar_1, nar_b, fit_i, fit_l, pk_rem, nI_leI, nI_ltI, nI_eq, vin_iff, nI_clamp, nI_m1]
    exact h1 e
  · simp only [b_J9_abs_0f7a4_10, s_psh, s_ild, s_lld, s_ald, s_ist, s_lst, s_ast, s_inc, s_ib, s_ibz, s_iu, s_lb, s_lbz, s_lu, s_ls, s_il, s_li, s_cmp, s_dup, s_pop, s_dup2, s_cv, s_cs, s_ci, s_oi, s_get, s_put, s_iald, s_lald, s_zald, s_iast, s_last, s_zast, s_alen, s_iret, s_lret, s_aret, s_vret, s_al, gpad, gl, gst, gclr, gc2, gent, gcat, Value.category, List.drop_succ_cons, List.drop_zero, List.take_succ_cons, List.take_zero, List.reverse_cons, List.reverse_nil, List.nil_append, List.cons_append, List.append_nil, List.map_cons, List.map_nil, List.sum_cons, List.sum_nil, List.length_cons, List.length_nil, Option.toList, cond_true, cond_false, Nat.reduceBEq, Nat.reduceAdd, Nat.reduceLeDiff, beq_self_eq_true, true_and, and_true, BEq.rfl, Bool.false_eq_true, if_true, if_false, Sq_0, Sq_1, Sq_2, Sq_3, Sq_4, Sqf_0, Sqf_1, Sqf_2, Sqf_3, Sqf_4, Sqf_5, Sqf_6, Sqs_4, Sqs_5, Sqs_6, Squ_1, Squ_2, Squ_3, Squ_4]
    try simp only [true_and, and_true, lit, nI_add, nar_i, nar_0, nar_1, nar_b, fit_i, fit_l, pk_rem, nI_leI, nI_ltI, nI_eq, vin_iff, nI_clamp, nI_m1]
    exact h2 e
theorem max_sp {x y : Int32} {C : gC} {n z : Nat} {Q : gQ} (h1 : x < y → Q (some (.int y)) C n z) (h2 : ¬ x < y → Q (some (.int x)) C n z) : sp_J9_max_7cf53 [.int x, .int y] C n z Q := by
  unfold sp_J9_max_7cf53
  refine ⟨Nat.le_of_ble_eq_true rfl, ?_⟩
  simp only [b_J9_max_7cf53_0, s_psh, s_ild, s_lld, s_ald, s_ist, s_lst, s_ast, s_inc, s_ib, s_ibz, s_iu, s_lb, s_lbz, s_lu, s_ls, s_il, s_li, s_cmp, s_dup, s_pop, s_dup2, s_cv, s_cs, s_ci, s_oi, s_get, s_put, s_iald, s_lald, s_zald, s_iast, s_last, s_zast, s_alen, s_iret, s_lret, s_aret, s_vret, s_al, gpad, gl, gst, gclr, gc2, gent, gcat, Value.category, List.drop_succ_cons, List.drop_zero, List.take_succ_cons, List.take_zero, List.reverse_cons, List.reverse_nil, List.nil_append, List.cons_append, List.append_nil, List.map_cons, List.map_nil, List.sum_cons, List.sum_nil, List.length_cons, List.length_nil, Option.toList, cond_true, cond_false, Nat.reduceBEq, Nat.reduceAdd, Nat.reduceLeDiff, beq_self_eq_true, true_and, and_true, BEq.rfl, Bool.false_eq_true, if_true, if_false, Sq_0, Sq_1, Sq_2, Sq_3, Sq_4, Sqf_0, Sqf_1, Sqf_2, Sqf_3, Sqf_4, Sqf_5, Sqf_6, Sqs_4, Sqs_5, Sqs_6, Squ_1, Squ_2, Squ_3, Squ_4]
  refine if2i (fun e => ?_) (fun e => ?_)
  · simp only [b_J9_max_7cf53_10, s_psh, s_ild, s_lld, s_ald, s_ist, s_lst, s_ast, s_inc, s_ib, s_ibz, s_iu, s_lb, s_lbz, s_lu, s_ls, s_il, s_li, s_cmp, s_dup, s_pop, s_dup2, s_cv, s_cs, s_ci, s_oi, s_get, s_put, s_iald, s_lald, s_zald, s_iast, s_last, s_zast, s_alen, s_iret, s_lret, s_aret, s_vret, s_al, gpad, gl, gst, gclr, gc2, gent, gcat, Value.category, List.drop_succ_cons, List.drop_zero, List.take_succ_cons, List.take_zero, List.reverse_cons, List.reverse_nil, List.nil_append, List.cons_append, List.append_nil, List.map_cons, List.map_nil, List.sum_cons, List.sum_nil, List.length_cons, List.length_nil, Option.toList, cond_true, cond_false, Nat.reduceBEq, Nat.reduceAdd, Nat.reduceLeDiff, beq_self_eq_true, true_and, and_true, BEq.rfl, Bool.false_eq_true, if_true, if_false, Sq_0, Sq_1, Sq_2, Sq_3, Sq_4, Sqf_0, Sqf_1, Sqf_2, Sqf_3, Sqf_4, Sqf_5, Sqf_6, Sqs_4, Sqs_5, Sqs_6, Squ_1, Squ_2, Squ_3, Squ_4]
    try simp only [true_and, and_true, lit, nI_add, nar_i, nar_0, nar_1, nar_b, fit_i, fit_l, pk_rem, nI_leI, nI_ltI, nI_eq, vin_iff, nI_clamp, nI_m1]
    exact h1 e
  · simp only [b_J9_max_7cf53_10, s_psh, s_ild, s_lld, s_ald, s_ist, s_lst, s_ast, s_inc, s_ib, s_ibz, s_iu, s_lb, s_lbz, s_lu, s_ls, s_il, s_li, s_cmp, s_dup, s_pop, s_dup2, s_cv, s_cs, s_ci, s_oi, s_get, s_put, s_iald, s_lald, s_zald, s_iast, s_last, s_zast, s_alen, s_iret, s_lret, s_aret, s_vret, s_al, gpad, gl, gst, gclr, gc2, gent, gcat, Value.category, List.drop_succ_cons, List.drop_zero, List.take_succ_cons, List.take_zero, List.reverse_cons, List.reverse_nil, List.nil_append, List.cons_append, List.append_nil, List.map_cons, List.map_nil, List.sum_cons, List.sum_nil, List.length_cons, List.length_nil, Option.toList, cond_true, cond_false, Nat.reduceBEq, Nat.reduceAdd, Nat.reduceLeDiff, beq_self_eq_true, true_and, and_true, BEq.rfl, Bool.false_eq_true, if_true, if_false, Sq_0, Sq_1, Sq_2, Sq_3, Sq_4, Sqf_0, Sqf_1, Sqf_2, Sqf_3, Sqf_4, Sqf_5, Sqf_6, Sqs_4, Sqs_5, Sqs_6, Squ_1, Squ_2, Squ_3, Squ_4]
    try simp only [true_and, and_true, lit, nI_add, nar_i, nar_0, nar_1, nar_b, fit_i, fit_l, pk_rem, nI_leI, nI_ltI, nI_eq, vin_iff, nI_clamp, nI_m1]
    exact h2 e
