/-! the reference: clauses -/
/-- what reading a clause leaves as it was -/
def BF (t0 : Nat) (σ0 : Nat → Int32) (A0 : Nat → Nat → Int32) (σ : Nat → Int32) (A : Nat → Nat → Int32) : Prop := (∀ j, j ≠ 7 → j ≠ 8 → j ≠ 9 → j ≠ 10 → j ≠ 13 → j ≠ 16 → j ≠ 17 → j ≠ 18 → σ j = σ0 j) ∧ (∀ j, j ≠ 3 → j ≠ 5 → A j = A0 j) ∧ (∀ k, k < t0 ∨ t0 + 681 ≤ k → A 3 k = A0 3 k)
/-- a clause lies at x, its law in the code that is written -/
def clM (f : Nat → Int32) (x : Nat) (c : rCl) (out : List (Nat × Int)) : Prop := (2 ≤ c.1 → f (x + 1) = nI c.2.1 ∧ (c.1 ≤ 5 → f (x + 2) = nI c.2.2.1)) ∧ (c.1 ≤ 1 → ∃ pre post, out = pre ++ c.2.2.2.1 ++ post ∧ f (x + 1) = nI (List.length pre) ∧ f (x + 2) = nI (List.length pre + c.2.2.2.1.length))
def bodR (m : Nat) (L : Nat → Nat → Int64) (R : gC) (n z : Nat) (Q : gQ) (T : Nat → Nat) (len t0 : Nat) (σ0 : Nat → Int32) (A0 : Nat → Nat → Int32) (x : Nat) (out : List (Nat × Int)) : rX → Prop
  | .inl (f, j) => ∀ σ w A, 1 ≤ f → f ≤ 6 → TX σ w A T len j → BF t0 σ0 A0 σ A → Q (some (.int (nI f))) (menc m σ w A L R) n z
  | .inr (j, c) => ∀ σ w A o2, TX σ w A T len j → j ≤ len → σ 13 = nI (out ++ o2).length → codeM (A 3) (t0 + 73) (out ++ o2) → (out ++ o2).length ≤ j → clM (A 3) x c (out ++ o2) → (∀ k, k < t0 + 73 → k ≠ x + 1 → k ≠ x + 2 → A 3 k = A0 3 k) → BF t0 σ0 A0 σ A → Q (some (.int (nI 0))) (menc m σ w A L R) n z
def sp_X12_figure : gSp := fun as C n z Q => match as with
  | [.ref m, .int x, .int lo, .int hi] => ∃ σ w A L R T len i xx l h, C = menc m σ w A L R ∧ TX σ w A T len i ∧ i ≤ len ∧ x = nI xx ∧ xx < 2724 ∧ lo = nI l ∧ hi = nI h ∧ l ≤ 60 ∧ h ≤ 60 ∧ (¬ tkS T len i = 39 → Q (some (.int (nI 1))) C n z) ∧ (tkS T len i = 39 → (tkV T len i < l ∨ h < tkV T len i) → Q (some (.int (nI 2))) C n z) ∧ (tkS T len i = 39 → ¬ (tkV T len i < l ∨ h < tkV T len i) → ∀ σ' w', (∀ j, j ≠ 7 → j ≠ 8 → j ≠ 9 → j ≠ 10 → σ' j = σ j) → TX σ' w' (sup A 3 (upd (A 3) xx (nI (tkV T len i)))) T len (i + 1) → i + 1 ≤ len → Q (some (.int (nI 0))) (menc m σ' w' (sup A 3 (upd (A 3) xx (nI (tkV T len i)))) L R) n z)
  | _ => False
set_option maxRecDepth 100000 in
set_option maxHeartbeats 4000000 in
theorem c_X12_figure (l : Launch) : Con l yX12_figure cX12_figure 4 (some .int) 2 0 0 sp_X12_figure := by
  refine m_X12_figure (c_X12_isIn l) (by decide) (c_X12_nextT l) (by decide) ?_
  intro as C0 n0 z0 Q h
  unfold sp_X12_figure at h
  split at h
  · rename_i m x lo hi
    obtain ⟨σ, w, A, L, R, T, len, i, xx, l, h, rfl, ht, hi, rfl, hx, rfl, rfl, hl, hh, hQ1, hQ2, hQ3⟩ := h
    refine ⟨Nat.le_of_ble_eq_true rfl, ?_⟩
    simp only [b_X12_figure_0, sp_X12_isIn, sp_X12_nextT, supa, Nat.reduceEqDiff, reduceIte, s_psh, s_ild, s_lld, s_ald, s_ist, s_lst, s_ast, s_inc, s_ib, s_ibz, s_iu, s_lb, s_lbz, s_lu, s_ls, s_il, s_li, s_cmp, s_dup, s_pop, s_dup2, s_if1, s_if2, s_ifn, s_cv, s_cs, s_ci, s_oi, s_get, s_put, s_iald, s_lald, s_zald, s_iast, s_last, s_zast, s_alen, s_iret, s_lret, s_aret, s_vret, s_al, gpad, gl, gst, gclr, gc2, gent, gcat, Value.category, List.drop_succ_cons, List.drop_zero, List.take_succ_cons, List.take_zero, List.reverse_cons, List.reverse_nil, List.nil_append, List.cons_append, List.append_nil, List.map_cons, List.map_nil, List.sum_cons, List.sum_nil, List.length_cons, List.length_nil, Option.toList, cond_true, cond_false, Nat.reduceBEq, Nat.reduceAdd, Nat.reduceLeDiff, beq_self_eq_true, true_and, and_true, BEq.rfl, Bool.false_eq_true, if_true, if_false, menc_0, menc_1, menc_2, menc_3, menc_4, menc_5, menc_6, menc_7, menc_8, menc_9, menc_10, menc_11, menc_12, menc_13, menc_14, mf_0, mf_1, mf_2, mf_3, mf_4, mf_5, mf_6, mf_7, mf_8, mf_9, mf_10, mf_11, mf_12, mf_13, mf_14, mf_15, mf_16, mf_17, mf_18, mf_19, mf_20, mf_21, mf_22, mf_23, mf_24, mf_25, mf_26, mf_27, mf_28, mf_29, mf_30, mf_31, ms_4, ms_5, ms_6, ms_7, ms_8, ms_9, ms_10, ms_11, ms_12, ms_13, ms_14, ms_16, ms_17, ms_18, ms_19, ms_23, ms_24, ms_27, mu_1, mu_2, mu_3, mu_4, mu_5, mu_6, mu_7, mu_8, mu_9, mu_10, mu_11, mu_12, mu_13, mu_14]
    simp (disch := omega) only [true_and, and_true, lit, nI_add, nar_i, nar_0, nar_1, nar_b, fit_i, fit_l, pk_rem, nI_leI, nI_ltI, nI_eq, vin_iff, nI_clamp, nI_m1, bI_0, ts_1 ht]
    refine ⟨fun e => ?_, fun e => hQ1 e⟩
    obtain ⟨r, h10, hr, hv⟩ := ht.num e
    have hil : i < len := by
      rcases Nat.lt_or_ge i len with q | q
      · exact q
      · have := tkS_end (T := T) q
        omega
    rw [h10]
    simp (disch := omega) only [nI_leI]
    refine ⟨fun q => hQ2 e (by omega), fun q => ⟨hx, ?_⟩⟩
    have q' := Classical.not_not.mp q
    have hvr : tkV T len i = r := by rw [hv]; exact Nat.min_eq_left (by omega)
    refine ⟨_, _, _, _, _, T, len, i + 1, rfl, ?_, ht.2.1, ht.2.2.1, ht.2.2.2.1, ht.at, fun σ' w' hk ht' => ?_⟩
    · exact ht.1
    · rw [← hvr] at ht' ⊢
      exact hQ3 e (by omega) σ' w' hk ht' hil
  · exact h.elim
def sp_X12_lawClause : gSp := fun as C n z Q => match as with
  | [.ref m, .int y] => ∃ σ w A L R T len t0 i out sort x, C = menc m σ w A L R ∧ TX σ w A T len i ∧ i ≤ len ∧ σ 13 = nI (List.length out) ∧ codeM (A 3) (t0 + 73) out ∧ List.length out ≤ i ∧ t0 ≤ 2043 ∧ σ 12 = nI t0 ∧ sort ≤ 1 ∧ σ 14 = nI sort ∧ y = nI x ∧ t0 + 1 ≤ x ∧ x + 2 < t0 + 73 ∧ bodR m L R n z Q T len t0 σ A x out (rLaw (tkS T len) (tkV T len) sort i)
  | _ => False
set_option maxRecDepth 100000 in
set_option maxHeartbeats 4000000 in
theorem c_X12_lawClause (l : Launch) : Con l yX12_lawClause cX12_lawClause 3 (some .int) 8 0 0 sp_X12_lawClause := by
  refine m_X12_lawClause (c_X12_summed l) (by decide) ?_
  intro as C0 n0 z0 Q h
  unfold sp_X12_lawClause at h
  split at h
  · rename_i m y
    obtain ⟨σ, w, A, L, R, T, len, t0, i, out, sort, x, rfl, ht, hi, h13, hcd, hol, ht0, h12, hs, h14, rfl, hx1, hx2, hQ⟩ := h
    have hlen := ht.2.2.2.1
    refine ⟨Nat.le_of_ble_eq_true rfl, ?_⟩
    simp only [b_X12_lawClause_0, sp_X12_summed, s_psh, s_ild, s_lld, s_ald, s_ist, s_lst, s_ast, s_inc, s_ib, s_ibz, s_iu, s_lb, s_lbz, s_lu, s_ls, s_il, s_li, s_cmp, s_dup, s_pop, s_dup2, s_if1, s_if2, s_ifn, s_cv, s_cs, s_ci, s_oi, s_get, s_put, s_iald, s_lald, s_zald, s_iast, s_last, s_zast, s_alen, s_iret, s_lret, s_aret, s_vret, s_al, gpad, gl, gst, gclr, gc2, gent, gcat, Value.category, List.drop_succ_cons, List.drop_zero, List.take_succ_cons, List.take_zero, List.reverse_cons, List.reverse_nil, List.nil_append, List.cons_append, List.append_nil, List.map_cons, List.map_nil, List.sum_cons, List.sum_nil, List.length_cons, List.length_nil, Option.toList, cond_true, cond_false, Nat.reduceBEq, Nat.reduceAdd, Nat.reduceLeDiff, beq_self_eq_true, true_and, and_true, BEq.rfl, Bool.false_eq_true, if_true, if_false, menc_0, menc_1, menc_2, menc_3, menc_4, menc_5, menc_6, menc_7, menc_8, menc_9, menc_10, menc_11, menc_12, menc_13, menc_14, mf_0, mf_1, mf_2, mf_3, mf_4, mf_5, mf_6, mf_7, mf_8, mf_9, mf_10, mf_11, mf_12, mf_13, mf_14, mf_15, mf_16, mf_17, mf_18, mf_19, mf_20, mf_21, mf_22, mf_23, mf_24, mf_25, mf_26, mf_27, mf_28, mf_29, mf_30, mf_31, ms_4, ms_5, ms_6, ms_7, ms_8, ms_9, ms_10, ms_11, ms_12, ms_13, ms_14, ms_16, ms_17, ms_18, ms_19, ms_23, ms_24, ms_27, mu_1, mu_2, mu_3, mu_4, mu_5, mu_6, mu_7, mu_8, mu_9, mu_10, mu_11, mu_12, mu_13, mu_14]
    simp (disch := omega) only [true_and, and_true, lit, nI_add, nar_i, nar_0, nar_1, nar_b, fit_i, fit_l, pk_rem, nI_leI, nI_ltI, nI_eq, vin_iff, nI_clamp, nI_m1, h13]
    refine ⟨by omega, σ, w, _, L, R, T, len, t0, i, out, sort == 0, rfl, ?_, hi, h13, ?_, hol, ht0, h12, ?_, ?_⟩
    · refine ht.keep ?_ rfl rfl rfl rfl rfl
      rw [supa, if_neg (by decide)]
    · intro k c hk
      have hkl := (List.getElem?_eq_some_iff.mp hk).1
      rw [supa, if_pos rfl, pk_un (by omega), pk_un (by omega)]
      exact hcd k c hk
    · rw [h14]
      have : sort = 0 ∨ sort = 1 := by omega
      rcases this with e | e <;> rw [e] <;> rfl
    · unfold rLaw at hQ
      rcases e : rSum (tkS T len) (rLv (tkS T len) (tkV T len) (sort == 0) 8).1 i with ⟨f, j⟩ | ⟨j, a⟩
      · rw [e] at hQ
        intro σ1 w1 A1 hf1 hf6 ht1 ⟨r1, r2, r3⟩
        simp only [s_psh, s_ild, s_lld, s_ald, s_ist, s_lst, s_ast, s_inc, s_ib, s_ibz, s_iu, s_lb, s_lbz, s_lu, s_ls, s_il, s_li, s_cmp, s_dup, s_pop, s_dup2, s_if1, s_if2, s_ifn, s_cv, s_cs, s_ci, s_oi, s_get, s_put, s_iald, s_lald, s_zald, s_iast, s_last, s_zast, s_alen, s_iret, s_lret, s_aret, s_vret, s_al, gpad, gl, gst, gclr, gc2, gent, gcat, Value.category, List.drop_succ_cons, List.drop_zero, List.take_succ_cons, List.take_zero, List.reverse_cons, List.reverse_nil, List.nil_append, List.cons_append, List.append_nil, List.map_cons, List.map_nil, List.sum_cons, List.sum_nil, List.length_cons, List.length_nil, Option.toList, cond_true, cond_false, Nat.reduceBEq, Nat.reduceAdd, Nat.reduceLeDiff, beq_self_eq_true, true_and, and_true, BEq.rfl, Bool.false_eq_true, if_true, if_false, menc_0, menc_1, menc_2, menc_3, menc_4, menc_5, menc_6, menc_7, menc_8, menc_9, menc_10, menc_11, menc_12, menc_13, menc_14, mf_0, mf_1, mf_2, mf_3, mf_4, mf_5, mf_6, mf_7, mf_8, mf_9, mf_10, mf_11, mf_12, mf_13, mf_14, mf_15, mf_16, mf_17, mf_18, mf_19, mf_20, mf_21, mf_22, mf_23, mf_24, mf_25, mf_26, mf_27, mf_28, mf_29, mf_30, mf_31, ms_4, ms_5, ms_6, ms_7, ms_8, ms_9, ms_10, ms_11, ms_12, ms_13, ms_14, ms_16, ms_17, ms_18, ms_19, ms_23, ms_24, ms_27, mu_1, mu_2, mu_3, mu_4, mu_5, mu_6, mu_7, mu_8, mu_9, mu_10, mu_11, mu_12, mu_13, mu_14]
        simp (disch := omega) only [true_and, and_true, lit, nI_add, nar_i, nar_0, nar_1, nar_b, fit_i, fit_l, pk_rem, nI_leI, nI_ltI, nI_eq, vin_iff, nI_clamp, nI_m1]
        refine ⟨by omega, hQ _ _ _ hf1 hf6 ?_ ⟨r1, ?_, ?_⟩⟩
        · refine ht1.keep ?_ rfl rfl rfl rfl rfl
          rw [supa, if_neg (by decide)]
        · intro j q1 q2
          rw [supa, if_neg q1, r2 j q1 q2, supa, if_neg q1]
        · intro k hk
          rw [supa, if_pos rfl, pk_un (by omega), r3 k (by omega), supa, if_pos rfl, pk_un (by omega)]
      · rw [e] at hQ
        intro σ1 w1 A1 ht1 hj g13 gcd gol ⟨r1, r2, r3⟩
        simp only [s_psh, s_ild, s_lld, s_ald, s_ist, s_lst, s_ast, s_inc, s_ib, s_ibz, s_iu, s_lb, s_lbz, s_lu, s_ls, s_il, s_li, s_cmp, s_dup, s_pop, s_dup2, s_if1, s_if2, s_ifn, s_cv, s_cs, s_ci, s_oi, s_get, s_put, s_iald, s_lald, s_zald, s_iast, s_last, s_zast, s_alen, s_iret, s_lret, s_aret, s_vret, s_al, gpad, gl, gst, gclr, gc2, gent, gcat, Value.category, List.drop_succ_cons, List.drop_zero, List.take_succ_cons, List.take_zero, List.reverse_cons, List.reverse_nil, List.nil_append, List.cons_append, List.append_nil, List.map_cons, List.map_nil, List.sum_cons, List.sum_nil, List.length_cons, List.length_nil, Option.toList, cond_true, cond_false, Nat.reduceBEq, Nat.reduceAdd, Nat.reduceLeDiff, beq_self_eq_true, true_and, and_true, BEq.rfl, Bool.false_eq_true, if_true, if_false, menc_0, menc_1, menc_2, menc_3, menc_4, menc_5, menc_6, menc_7, menc_8, menc_9, menc_10, menc_11, menc_12, menc_13, menc_14, mf_0, mf_1, mf_2, mf_3, mf_4, mf_5, mf_6, mf_7, mf_8, mf_9, mf_10, mf_11, mf_12, mf_13, mf_14, mf_15, mf_16, mf_17, mf_18, mf_19, mf_20, mf_21, mf_22, mf_23, mf_24, mf_25, mf_26, mf_27, mf_28, mf_29, mf_30, mf_31, ms_4, ms_5, ms_6, ms_7, ms_8, ms_9, ms_10, ms_11, ms_12, ms_13, ms_14, ms_16, ms_17, ms_18, ms_19, ms_23, ms_24, ms_27, mu_1, mu_2, mu_3, mu_4, mu_5, mu_6, mu_7, mu_8, mu_9, mu_10, mu_11, mu_12, mu_13, mu_14]
        simp (disch := omega) only [true_and, and_true, lit, nI_add, nar_i, nar_0, nar_1, nar_b, fit_i, fit_l, pk_rem, nI_leI, nI_ltI, nI_eq, vin_iff, nI_clamp, nI_m1]
        refine ⟨by omega, hQ _ _ _ a.1 ?_ hj g13 ?_ gol ⟨fun q => absurd q (by simp only; omega), fun _ => ⟨out, [], by simp, ?_, ?_⟩⟩ ?_ ⟨r1, ?_, ?_⟩⟩
        · refine ht1.keep ?_ rfl rfl rfl rfl rfl
          rw [supa, if_neg (by decide)]
        · intro k c hk
          have hkl := (List.getElem?_eq_some_iff.mp hk).1
          rw [supa, if_pos rfl, pk_un (by omega), pk_un (by omega)]
          exact gcd k c hk
        · rw [supa, if_pos rfl, pk_un (by omega), r3 _ (by omega), supa, if_pos rfl, pk_us]
        · rw [supa, if_pos rfl, pk_us, g13]
          simp
        · intro k hk q1 q2
          rw [supa, if_pos rfl, pk_un q2, r3 _ (by omega), supa, if_pos rfl, pk_un q1]
        · intro j q1 q2
          rw [supa, if_neg q1, r2 j q1 q2, supa, if_neg q1]
        · intro k hk
          rw [supa, if_pos rfl, pk_un (by omega), r3 k (by omega), supa, if_pos rfl, pk_un (by omega)]
  · exact h.elim
def sp_X12_pair : gSp := fun as C n z Q => match as with
  | [.ref m, .int y, .int lo, .int hi, .long wd, .int hi2] => ∃ σ w A L R T len t0 i out sort x l h K h2, C = menc m σ w A L R ∧ TX σ w A T len i ∧ i ≤ len ∧ σ 13 = nI (List.length out) ∧ codeM (A 3) (t0 + 73) out ∧ List.length out ≤ i ∧ t0 ≤ 2043 ∧ 2 ≤ sort ∧ y = nI x ∧ t0 + 1 ≤ x ∧ x + 2 < t0 + 73 ∧ lo = nI l ∧ hi = nI h ∧ hi2 = nI h2 ∧ l ≤ 60 ∧ h ≤ 60 ∧ h2 ≤ 60 ∧ K < 40 ∧ (∀ σ' w' A' i', TX σ' w' A' T len i' → (σ' 9 = nI 2 ∧ w' = wd) = (tkS T len i' = K)) ∧ bodR m L R n z Q T len t0 σ A x out (rPair (tkS T len) (tkV T len) sort l h K h2 i)
  | _ => False
set_option maxRecDepth 100000 in
set_option maxHeartbeats 4000000 in
theorem c_X12_pair (l : Launch) : Con l yX12_pair cX12_pair 8 (some .int) 3 0 0 sp_X12_pair := by
  refine m_X12_pair (c_X12_figure l) (by decide) (c_X12_isWord l) (by decide) (c_X12_nextT l) (by decide) ?_
  intro as C0 n0 z0 Q h
  unfold sp_X12_pair at h
  split at h
  · rename_i m y lo hi wd hi2
    obtain ⟨σ, w, A, L, R, T, len, t0, i, out, sort, x, l, h, K, h2, rfl, ht, hi, h13, hcd, hol, ht0, hs, rfl, hx1, hx2, rfl, rfl, rfl, hl, hh, hh2, hK40, hK, hQ⟩ := h
    have hlen := ht.2.2.2.1
    refine ⟨Nat.le_of_ble_eq_true rfl, ?_⟩
    unfold rPair rNum at hQ
    have bf0 : BF t0 σ A σ A := ⟨fun _ _ _ _ _ _ _ _ _ => rfl, fun _ _ _ => rfl, fun _ _ => rfl⟩
    simp only [b_X12_pair_0, sp_X12_isWord, sp_X12_nextT, isM_menc, mi_9, mi_11, s_psh, s_ild, s_lld, s_ald, s_ist, s_lst, s_ast, s_inc, s_ib, s_ibz, s_iu, s_lb, s_lbz, s_lu, s_ls, s_il, s_li, s_cmp, s_dup, s_pop, s_dup2, s_if1, s_if2, s_ifn, s_cv, s_cs, s_ci, s_oi, s_get, s_put, s_iald, s_lald, s_zald, s_iast, s_last, s_zast, s_alen, s_iret, s_lret, s_aret, s_vret, s_al, gpad, gl, gst, gclr, gc2, gent, gcat, Value.category, List.drop_succ_cons, List.drop_zero, List.take_succ_cons, List.take_zero, List.reverse_cons, List.reverse_nil, List.nil_append, List.cons_append, List.append_nil, List.map_cons, List.map_nil, List.sum_cons, List.sum_nil, List.length_cons, List.length_nil, Option.toList, cond_true, cond_false, Nat.reduceBEq, Nat.reduceAdd, Nat.reduceLeDiff, beq_self_eq_true, true_and, and_true, BEq.rfl, Bool.false_eq_true, if_true, if_false, menc_0, menc_1, menc_2, menc_3, menc_4, menc_5, menc_6, menc_7, menc_8, menc_9, menc_10, menc_11, menc_12, menc_13, menc_14, mf_0, mf_1, mf_2, mf_3, mf_4, mf_5, mf_6, mf_7, mf_8, mf_9, mf_10, mf_11, mf_12, mf_13, mf_14, mf_15, mf_16, mf_17, mf_18, mf_19, mf_20, mf_21, mf_22, mf_23, mf_24, mf_25, mf_26, mf_27, mf_28, mf_29, mf_30, mf_31, ms_4, ms_5, ms_6, ms_7, ms_8, ms_9, ms_10, ms_11, ms_12, ms_13, ms_14, ms_16, ms_17, ms_18, ms_19, ms_23, ms_24, ms_27, mu_1, mu_2, mu_3, mu_4, mu_5, mu_6, mu_7, mu_8, mu_9, mu_10, mu_11, mu_12, mu_13, mu_14]
    simp only [true_and, and_true, lit, nI_add, nar_i, nar_0, nar_1, nar_b, fit_i, fit_l, pk_rem, nI_leI, nI_ltI, nI_eq, vin_iff, nI_clamp, nI_m1]
    refine ⟨σ, w, A, L, R, T, len, i, x + 1, l, h, rfl, ht, hi, rfl, by omega, rfl, rfl, hl, hh, fun e => ?_, fun e e2 => ?_, fun e e2 σ1 w1 f1 t1 hi1 => ?_⟩
    · rw [if_neg e] at hQ
      simp (disch := omega) only [s_psh, s_ild, s_lld, s_ald, s_ist, s_lst, s_ast, s_inc, s_ib, s_ibz, s_iu, s_lb, s_lbz, s_lu, s_ls, s_il, s_li, s_cmp, s_dup, s_pop, s_dup2, s_if1, s_if2, s_ifn, s_cv, s_cs, s_ci, s_oi, s_get, s_put, s_iald, s_lald, s_zald, s_iast, s_last, s_zast, s_alen, s_iret, s_lret, s_aret, s_vret, s_al, gpad, gl, gst, gclr, gc2, gent, gcat, Value.category, List.drop_succ_cons, List.drop_zero, List.take_succ_cons, List.take_zero, List.reverse_cons, List.reverse_nil, List.nil_append, List.cons_append, List.append_nil, List.map_cons, List.map_nil, List.sum_cons, List.sum_nil, List.length_cons, List.length_nil, Option.toList, cond_true, cond_false, Nat.reduceBEq, Nat.reduceAdd, Nat.reduceLeDiff, beq_self_eq_true, true_and, and_true, BEq.rfl, Bool.false_eq_true, if_true, if_false, menc_0, menc_1, menc_2, menc_3, menc_4, menc_5, menc_6, menc_7, menc_8, menc_9, menc_10, menc_11, menc_12, menc_13, menc_14, mf_0, mf_1, mf_2, mf_3, mf_4, mf_5, mf_6, mf_7, mf_8, mf_9, mf_10, mf_11, mf_12, mf_13, mf_14, mf_15, mf_16, mf_17, mf_18, mf_19, mf_20, mf_21, mf_22, mf_23, mf_24, mf_25, mf_26, mf_27, mf_28, mf_29, mf_30, mf_31, ms_4, ms_5, ms_6, ms_7, ms_8, ms_9, ms_10, ms_11, ms_12, ms_13, ms_14, ms_16, ms_17, ms_18, ms_19, ms_23, ms_24, ms_27, mu_1, mu_2, mu_3, mu_4, mu_5, mu_6, mu_7, mu_8, mu_9, mu_10, mu_11, mu_12, mu_13, mu_14, true_and, and_true, lit, nI_add, nar_i, nar_0, nar_1, nar_b, fit_i, fit_l, pk_rem, nI_leI, nI_ltI, nI_eq, vin_iff, nI_clamp, nI_m1]
      exact ⟨fun q => by omega, fun _ => hQ σ w A (by decide) (by decide) ht bf0⟩
    · rw [if_pos e, if_pos e2] at hQ
      simp (disch := omega) only [s_psh, s_ild, s_lld, s_ald, s_ist, s_lst, s_ast, s_inc, s_ib, s_ibz, s_iu, s_lb, s_lbz, s_lu, s_ls, s_il, s_li, s_cmp, s_dup, s_pop, s_dup2, s_if1, s_if2, s_ifn, s_cv, s_cs, s_ci, s_oi, s_get, s_put, s_iald, s_lald, s_zald, s_iast, s_last, s_zast, s_alen, s_iret, s_lret, s_aret, s_vret, s_al, gpad, gl, gst, gclr, gc2, gent, gcat, Value.category, List.drop_succ_cons, List.drop_zero, List.take_succ_cons, List.take_zero, List.reverse_cons, List.reverse_nil, List.nil_append, List.cons_append, List.append_nil, List.map_cons, List.map_nil, List.sum_cons, List.sum_nil, List.length_cons, List.length_nil, Option.toList, cond_true, cond_false, Nat.reduceBEq, Nat.reduceAdd, Nat.reduceLeDiff, beq_self_eq_true, true_and, and_true, BEq.rfl, Bool.false_eq_true, if_true, if_false, menc_0, menc_1, menc_2, menc_3, menc_4, menc_5, menc_6, menc_7, menc_8, menc_9, menc_10, menc_11, menc_12, menc_13, menc_14, mf_0, mf_1, mf_2, mf_3, mf_4, mf_5, mf_6, mf_7, mf_8, mf_9, mf_10, mf_11, mf_12, mf_13, mf_14, mf_15, mf_16, mf_17, mf_18, mf_19, mf_20, mf_21, mf_22, mf_23, mf_24, mf_25, mf_26, mf_27, mf_28, mf_29, mf_30, mf_31, ms_4, ms_5, ms_6, ms_7, ms_8, ms_9, ms_10, ms_11, ms_12, ms_13, ms_14, ms_16, ms_17, ms_18, ms_19, ms_23, ms_24, ms_27, mu_1, mu_2, mu_3, mu_4, mu_5, mu_6, mu_7, mu_8, mu_9, mu_10, mu_11, mu_12, mu_13, mu_14, true_and, and_true, lit, nI_add, nar_i, nar_0, nar_1, nar_b, fit_i, fit_l, pk_rem, nI_leI, nI_ltI, nI_eq, vin_iff, nI_clamp, nI_m1]
      exact ⟨fun q => by omega, fun _ => hQ σ w A (by decide) (by decide) ht bf0⟩
    · rw [if_pos e, if_neg e2] at hQ
      dsimp only at hQ
      have bf1 : BF t0 σ A σ1 (sup A 3 (upd (A 3) (x + 1) (nI (tkV T len i)))) := by
        refine ⟨fun j q1 q2 q3 q4 _ _ _ _ => f1 j q1 q2 q3 q4, fun j q1 _ => ?_, fun k hk => ?_⟩
        · rw [supa, if_neg q1]
        · rw [supa, if_pos rfl, pk_un (by omega)]
      simp (disch := omega) only [s_psh, s_ild, s_lld, s_ald, s_ist, s_lst, s_ast, s_inc, s_ib, s_ibz, s_iu, s_lb, s_lbz, s_lu, s_ls, s_il, s_li, s_cmp, s_dup, s_pop, s_dup2, s_if1, s_if2, s_ifn, s_cv, s_cs, s_ci, s_oi, s_get, s_put, s_iald, s_lald, s_zald, s_iast, s_last, s_zast, s_alen, s_iret, s_lret, s_aret, s_vret, s_al, gpad, gl, gst, gclr, gc2, gent, gcat, Value.category, List.drop_succ_cons, List.drop_zero, List.take_succ_cons, List.take_zero, List.reverse_cons, List.reverse_nil, List.nil_append, List.cons_append, List.append_nil, List.map_cons, List.map_nil, List.sum_cons, List.sum_nil, List.length_cons, List.length_nil, Option.toList, cond_true, cond_false, Nat.reduceBEq, Nat.reduceAdd, Nat.reduceLeDiff, beq_self_eq_true, true_and, and_true, BEq.rfl, Bool.false_eq_true, if_true, if_false, menc_0, menc_1, menc_2, menc_3, menc_4, menc_5, menc_6, menc_7, menc_8, menc_9, menc_10, menc_11, menc_12, menc_13, menc_14, mf_0, mf_1, mf_2, mf_3, mf_4, mf_5, mf_6, mf_7, mf_8, mf_9, mf_10, mf_11, mf_12, mf_13, mf_14, mf_15, mf_16, mf_17, mf_18, mf_19, mf_20, mf_21, mf_22, mf_23, mf_24, mf_25, mf_26, mf_27, mf_28, mf_29, mf_30, mf_31, ms_4, ms_5, ms_6, ms_7, ms_8, ms_9, ms_10, ms_11, ms_12, ms_13, ms_14, ms_16, ms_17, ms_18, ms_19, ms_23, ms_24, ms_27, mu_1, mu_2, mu_3, mu_4, mu_5, mu_6, mu_7, mu_8, mu_9, mu_10, mu_11, mu_12, mu_13, mu_14, true_and, and_true, lit, nI_add, nar_i, nar_0, nar_1, nar_b, fit_i, fit_l, pk_rem, nI_leI, nI_ltI, nI_eq, vin_iff, nI_clamp, nI_m1, isM_menc, mi_9, mi_11, bI_0, hK _ _ _ _ t1]
      refine ⟨fun _ => ⟨fun q => ?_, fun q => ?_⟩, fun q => absurd trivial q⟩
      · rw [if_neg q] at hQ
        exact hQ _ _ _ (by decide) (by decide) t1 bf1
      · have q' := Classical.not_not.mp q
        rw [if_pos q'] at hQ
        have hi2 : i + 1 < len := by
          rcases Nat.lt_or_ge (i + 1) len with q | q
          · exact q
          · have := tkS_end (T := T) q
            omega
        refine ⟨_, _, _, _, _, T, len, i + 1 + 1, rfl, t1.1, t1.2.1, t1.2.2.1, hlen, t1.at, fun σ2 w2 f2 t2 => ?_⟩
        have bf2 : BF t0 σ A σ2 (sup A 3 (upd (A 3) (x + 1) (nI (tkV T len i)))) := ⟨fun j q1 q2 q3 q4 q5 q6 q7 q8 => by rw [f2 j q1 q2 q3 q4]; exact bf1.1 j q1 q2 q3 q4 q5 q6 q7 q8, bf1.2.1, bf1.2.2⟩
        refine ⟨σ2, w2, _, L, R, T, len, i + 1 + 1, x + 2, 0, h2, rfl, t2, by omega, rfl, by omega, rfl, rfl, by omega, hh2, fun e3 => ?_, fun e3 e4 => ?_, fun e3 e4 σ3 w3 f3 t3 hi3 => ?_⟩
        · rw [if_neg e3] at hQ
          exact hQ _ _ _ (by decide) (by decide) t2 bf2
        · rw [if_pos e3, if_pos e4] at hQ
          exact hQ _ _ _ (by decide) (by decide) t2 bf2
        · rw [if_pos e3, if_neg e4] at hQ
          refine hQ _ _ _ [] t3 hi3 ?_ ?_ ?_ ?_ ?_ ?_
          · rw [List.append_nil, f3 13 (by decide) (by decide) (by decide) (by decide), f2 13 (by decide) (by decide) (by decide) (by decide), f1 13 (by decide) (by decide) (by decide) (by decide), h13]
          · intro k c hk
            rw [List.append_nil] at hk
            have hkl := (List.getElem?_eq_some_iff.mp hk).1
            simp only [supa, if_pos]
            rw [pk_un (by omega), pk_un (by omega), pk_un (by omega), pk_un (by omega)]
            exact hcd k c hk
          · rw [List.append_nil]; omega
          · refine ⟨fun _ => ⟨?_, fun _ => ?_⟩, fun q => absurd q (by simp only; omega)⟩
            · simp only [supa, if_pos]
              rw [pk_un (by omega), pk_us]
            · simp only [supa, if_pos]
              rw [pk_us]
          · intro k hk q1 q2
            simp only [supa, if_pos]
            rw [pk_un q2, pk_un q1]
          · refine ⟨fun j q1 q2 q3 q4 q5 q6 q7 q8 => by rw [f3 j q1 q2 q3 q4]; exact bf2.1 j q1 q2 q3 q4 q5 q6 q7 q8, fun j q1 q2 => ?_, fun k hk => ?_⟩
            · rw [supa, if_neg q1]; exact bf2.2.1 j q1 q2
            · simp only [supa, if_pos]
              rw [pk_un (by omega), pk_un (by omega)]
  · exact h.elim
