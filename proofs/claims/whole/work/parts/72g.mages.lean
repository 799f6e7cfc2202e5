/-! the reference: ages, what is played -/
def agL (tx : Nat → List rCl) (a : Nat → Int32) : Nat → Nat → Int32
  | 0 => a
  | k + 1 => hapA tx (upd (agL tx a k) 7 (nI (nx (agL tx a k 7).toNatClampNeg))) (agL tx a k 7).toNatClampNeg
theorem D3.ag {tx : Nat → List rCl} {a : Nat → Int32} {N : Nat} (h : D3 a N) : ∀ k, D3 (agL tx a k) N
  | 0 => h
  | k + 1 => D3.hap _ ((D3.ag h k).x7 (nx_lt _))
def agI (m : Nat) (tx : Nat → List rCl) (a0 : Nat → Int32) (sd k : Nat) (σ : Nat → Int32) (w : Int64) (A : Nat → Nat → Int32) (R : gC) (n0 z0 μ : Nat) : gKo := fun lv st C n z => st = [] ∧ n = n0 ∧ z = z0 ∧ ∃ σ' A' L' i o4, C = menc m σ' w A' L' R ∧ MF σ A σ' A' ∧ i ≤ k ∧ μ = k - i ∧ lv = [some (.ref m), some (.int (nI sd)), some (.int (nI k)), some (.int (nI i)), o4] ∧ A' 1 = agL tx a0 i
def sp_X12_ages : gSp := fun as C n z Q => match as with
  | [.ref m, .int x, .int y] => ∃ σ w A L R tx N s, C = menc m σ w A L R ∧ MS σ A tx N ∧ A 1 3 = nI s ∧ s ≤ 30 ∧ ((¬ ∃ sd k, sd ≤ 9999 ∧ 1 ≤ k ∧ k ≤ 40 ∧ x = nI sd ∧ y = nI k) → Q (some (.int (-nI 1))) C n z) ∧ (∀ sd k, sd ≤ 9999 → 1 ≤ k → k ≤ 40 → x = nI sd → y = nI k → ∀ σ' A' L', MF σ A σ' A' → A' 1 = agL tx (upd (keF (A 1) s) 7 (nI (sd * 2 + 263))) k → Q (some (.int (A' 1 6))) (menc m σ' w A' L' R) n z)
  | _ => False
set_option maxRecDepth 100000 in
set_option maxHeartbeats 4000000 in
theorem c_X12_ages (l : Launch) : Con l yX12_ages cX12_ages 5 (some .int) 8 0 0 sp_X12_ages := by
  refine m_X12_ages (c_X12_anew l) (by decide) (c_X12_happens l) (by decide) (c_X12_isIn l) (by decide) (c_X12_keep l) (by decide) ?_
  intro as C0 n0 z0 Q h
  unfold sp_X12_ages at h
  split at h
  · rename_i m x y
    obtain ⟨σ, w, A, L, R, tx, N, s, rfl, ⟨hT, hD, hNS, h23⟩, es, hs, hno, hyes⟩ := h
    by_cases hc : ∃ sd k, sd ≤ 9999 ∧ 1 ≤ k ∧ k ≤ 40 ∧ x = nI sd ∧ y = nI k
    · obtain ⟨sd, k, h1, h2, h3, rfl, rfl⟩ := hc
      have hy := hyes sd k h1 h2 h3 rfl rfl
      have hD0 : D3 (upd (keF (A 1) s) 7 (nI (sd * 2 + 263))) N := (hD.ke hs).x7 (by omega)
      generalize ha0 : upd (keF (A 1) s) 7 (nI (sd * 2 + 263)) = a0 at *
      refine ⟨Nat.le_of_ble_eq_true rfl, fun pc μ => agI m tx a0 sd k σ w A R n0 z0 μ, ?_, ?_⟩
      · simp only [b_X12_ages_0, sp_X12_isIn, s_psh, s_ild, s_lld, s_ald, s_ist, s_lst, s_ast, s_inc, s_ib, s_ibz, s_iu, s_lb, s_lbz, s_lu, s_ls, s_il, s_li, s_cmp, s_dup, s_pop, s_dup2, s_cv, s_cs, s_ci, s_oi, s_get, s_put, s_iald, s_lald, s_zald, s_iast, s_last, s_zast, s_alen, s_iret, s_lret, s_aret, s_vret, s_al, gpad, gl, gst, gclr, gc2, gent, gcat, Value.category, List.drop_succ_cons, List.drop_zero, List.take_succ_cons, List.take_zero, List.reverse_cons, List.reverse_nil, List.nil_append, List.cons_append, List.append_nil, List.map_cons, List.map_nil, List.sum_cons, List.sum_nil, List.length_cons, List.length_nil, Option.toList, cond_true, cond_false, Nat.reduceBEq, Nat.reduceAdd, Nat.reduceLeDiff, beq_self_eq_true, true_and, and_true, BEq.rfl, Bool.false_eq_true, if_true, if_false, menc_0, menc_1, menc_2, menc_3, menc_4, menc_5, menc_6, menc_7, menc_8, menc_9, menc_10, menc_11, menc_12, menc_13, menc_14, mf_0, mf_1, mf_2, mf_3, mf_4, mf_5, mf_6, mf_7, mf_8, mf_9, mf_10, mf_11, mf_12, mf_13, mf_14, mf_15, mf_16, mf_17, mf_18, mf_19, mf_20, mf_21, mf_22, mf_23, mf_24, mf_25, mf_26, mf_27, mf_28, mf_29, mf_30, mf_31, ms_4, ms_5, ms_6, ms_7, ms_8, ms_9, ms_10, ms_11, ms_12, ms_13, ms_14, ms_16, ms_17, ms_18, ms_19, ms_23, ms_24, ms_27, mu_1, mu_2, mu_3, mu_4, mu_5, mu_6, mu_7, mu_8, mu_9, mu_10, mu_11, mu_12, mu_13, mu_14]
        try simp only [true_and, and_true, lit, nI_add, nar_i, nar_0, nar_1, nar_b, fit_i, fit_l, pk_rem, nI_leI, nI_ltI, nI_eq, vin_iff, nI_clamp, nI_m1]
        refine if1i (fun e => absurd (in_i (Nat.zero_le _) h1 (by decide)) (bI_0.mp e)) (fun _ => ?_)
        simp only [sp_X12_isIn, s_psh, s_ild, s_lld, s_ald, s_ist, s_lst, s_ast, s_inc, s_ib, s_ibz, s_iu, s_lb, s_lbz, s_lu, s_ls, s_il, s_li, s_cmp, s_dup, s_pop, s_dup2, s_cv, s_cs, s_ci, s_oi, s_get, s_put, s_iald, s_lald, s_zald, s_iast, s_last, s_zast, s_alen, s_iret, s_lret, s_aret, s_vret, s_al, gpad, gl, gst, gclr, gc2, gent, gcat, Value.category, List.drop_succ_cons, List.drop_zero, List.take_succ_cons, List.take_zero, List.reverse_cons, List.reverse_nil, List.nil_append, List.cons_append, List.append_nil, List.map_cons, List.map_nil, List.sum_cons, List.sum_nil, List.length_cons, List.length_nil, Option.toList, cond_true, cond_false, Nat.reduceBEq, Nat.reduceAdd, Nat.reduceLeDiff, beq_self_eq_true, true_and, and_true, BEq.rfl, Bool.false_eq_true, if_true, if_false, menc_0, menc_1, menc_2, menc_3, menc_4, menc_5, menc_6, menc_7, menc_8, menc_9, menc_10, menc_11, menc_12, menc_13, menc_14, mf_0, mf_1, mf_2, mf_3, mf_4, mf_5, mf_6, mf_7, mf_8, mf_9, mf_10, mf_11, mf_12, mf_13, mf_14, mf_15, mf_16, mf_17, mf_18, mf_19, mf_20, mf_21, mf_22, mf_23, mf_24, mf_25, mf_26, mf_27, mf_28, mf_29, mf_30, mf_31, ms_4, ms_5, ms_6, ms_7, ms_8, ms_9, ms_10, ms_11, ms_12, ms_13, ms_14, ms_16, ms_17, ms_18, ms_19, ms_23, ms_24, ms_27, mu_1, mu_2, mu_3, mu_4, mu_5, mu_6, mu_7, mu_8, mu_9, mu_10, mu_11, mu_12, mu_13, mu_14]
        try simp only [true_and, and_true, lit, nI_add, nar_i, nar_0, nar_1, nar_b, fit_i, fit_l, pk_rem, nI_leI, nI_ltI, nI_eq, vin_iff, nI_clamp, nI_m1]
        refine if1i (fun e => absurd (in_i h2 h3 (by decide)) (bI_0.mp e)) (fun _ => ?_)
        simp only [sp_X12_keep, isM_menc, ma_1, s_psh, s_ild, s_lld, s_ald, s_ist, s_lst, s_ast, s_inc, s_ib, s_ibz, s_iu, s_lb, s_lbz, s_lu, s_ls, s_il, s_li, s_cmp, s_dup, s_pop, s_dup2, s_cv, s_cs, s_ci, s_oi, s_get, s_put, s_iald, s_lald, s_zald, s_iast, s_last, s_zast, s_alen, s_iret, s_lret, s_aret, s_vret, s_al, gpad, gl, gst, gclr, gc2, gent, gcat, Value.category, List.drop_succ_cons, List.drop_zero, List.take_succ_cons, List.take_zero, List.reverse_cons, List.reverse_nil, List.nil_append, List.cons_append, List.append_nil, List.map_cons, List.map_nil, List.sum_cons, List.sum_nil, List.length_cons, List.length_nil, Option.toList, cond_true, cond_false, Nat.reduceBEq, Nat.reduceAdd, Nat.reduceLeDiff, beq_self_eq_true, true_and, and_true, BEq.rfl, Bool.false_eq_true, if_true, if_false, menc_0, menc_1, menc_2, menc_3, menc_4, menc_5, menc_6, menc_7, menc_8, menc_9, menc_10, menc_11, menc_12, menc_13, menc_14, mf_0, mf_1, mf_2, mf_3, mf_4, mf_5, mf_6, mf_7, mf_8, mf_9, mf_10, mf_11, mf_12, mf_13, mf_14, mf_15, mf_16, mf_17, mf_18, mf_19, mf_20, mf_21, mf_22, mf_23, mf_24, mf_25, mf_26, mf_27, mf_28, mf_29, mf_30, mf_31, ms_4, ms_5, ms_6, ms_7, ms_8, ms_9, ms_10, ms_11, ms_12, ms_13, ms_14, ms_16, ms_17, ms_18, ms_19, ms_23, ms_24, ms_27, mu_1, mu_2, mu_3, mu_4, mu_5, mu_6, mu_7, mu_8, mu_9, mu_10, mu_11, mu_12, mu_13, mu_14]
        simp (disch := omega) only [true_and, and_true, lit, nI_add, nar_i, nar_0, nar_1, nar_b, fit_i, fit_l, pk_rem, nI_leI, nI_ltI, nI_eq, vin_iff, nI_clamp, nI_m1, Nat.reduceLT, es, pk_mul, supa, Nat.reduceEqDiff, reduceIte, sup2, ha0]
        exact ⟨by omega, _, rfl, rfl, rfl, σ, _, L, 0, none, rfl, (MF.refl hNS).s1, Nat.zero_le _, rfl, rfl, by rw [supa, if_pos rfl]; rfl⟩
      · rintro μ lv st C n z ⟨rfl, rfl, rfl, σ', A', L', i, o4, rfl, hMF, hi, rfl, rfl, hA1⟩
        have hdi := D3.ag (tx := tx) hD0 i
        obtain ⟨x7, hx7, e7⟩ := hdi.1.2.2.2.1
        simp only [b_X12_ages_43, s_psh, s_ild, s_lld, s_ald, s_ist, s_lst, s_ast, s_inc, s_ib, s_ibz, s_iu, s_lb, s_lbz, s_lu, s_ls, s_il, s_li, s_cmp, s_dup, s_pop, s_dup2, s_cv, s_cs, s_ci, s_oi, s_get, s_put, s_iald, s_lald, s_zald, s_iast, s_last, s_zast, s_alen, s_iret, s_lret, s_aret, s_vret, s_al, gpad, gl, gst, gclr, gc2, gent, gcat, Value.category, List.drop_succ_cons, List.drop_zero, List.take_succ_cons, List.take_zero, List.reverse_cons, List.reverse_nil, List.nil_append, List.cons_append, List.append_nil, List.map_cons, List.map_nil, List.sum_cons, List.sum_nil, List.length_cons, List.length_nil, Option.toList, cond_true, cond_false, Nat.reduceBEq, Nat.reduceAdd, Nat.reduceLeDiff, beq_self_eq_true, true_and, and_true, BEq.rfl, Bool.false_eq_true, if_true, if_false, menc_0, menc_1, menc_2, menc_3, menc_4, menc_5, menc_6, menc_7, menc_8, menc_9, menc_10, menc_11, menc_12, menc_13, menc_14, mf_0, mf_1, mf_2, mf_3, mf_4, mf_5, mf_6, mf_7, mf_8, mf_9, mf_10, mf_11, mf_12, mf_13, mf_14, mf_15, mf_16, mf_17, mf_18, mf_19, mf_20, mf_21, mf_22, mf_23, mf_24, mf_25, mf_26, mf_27, mf_28, mf_29, mf_30, mf_31, ms_4, ms_5, ms_6, ms_7, ms_8, ms_9, ms_10, ms_11, ms_12, ms_13, ms_14, ms_16, ms_17, ms_18, ms_19, ms_23, ms_24, ms_27, mu_1, mu_2, mu_3, mu_4, mu_5, mu_6, mu_7, mu_8, mu_9, mu_10, mu_11, mu_12, mu_13, mu_14]
        try simp only [true_and, and_true, lit, nI_add, nar_i, nar_0, nar_1, nar_b, fit_i, fit_l, pk_rem, nI_leI, nI_ltI, nI_eq, vin_iff, nI_clamp, nI_m1]
        refine if2i (fun q => ?_) (fun q => ?_)
        · rw [nI_leI (by omega) (by omega)] at q
          have hik : i = k := by omega
          subst hik
          simp only [s_psh, s_ild, s_lld, s_ald, s_ist, s_lst, s_ast, s_inc, s_ib, s_ibz, s_iu, s_lb, s_lbz, s_lu, s_ls, s_il, s_li, s_cmp, s_dup, s_pop, s_dup2, s_cv, s_cs, s_ci, s_oi, s_get, s_put, s_iald, s_lald, s_zald, s_iast, s_last, s_zast, s_alen, s_iret, s_lret, s_aret, s_vret, s_al, gpad, gl, gst, gclr, gc2, gent, gcat, Value.category, List.drop_succ_cons, List.drop_zero, List.take_succ_cons, List.take_zero, List.reverse_cons, List.reverse_nil, List.nil_append, List.cons_append, List.append_nil, List.map_cons, List.map_nil, List.sum_cons, List.sum_nil, List.length_cons, List.length_nil, Option.toList, cond_true, cond_false, Nat.reduceBEq, Nat.reduceAdd, Nat.reduceLeDiff, beq_self_eq_true, true_and, and_true, BEq.rfl, Bool.false_eq_true, if_true, if_false, menc_0, menc_1, menc_2, menc_3, menc_4, menc_5, menc_6, menc_7, menc_8, menc_9, menc_10, menc_11, menc_12, menc_13, menc_14, mf_0, mf_1, mf_2, mf_3, mf_4, mf_5, mf_6, mf_7, mf_8, mf_9, mf_10, mf_11, mf_12, mf_13, mf_14, mf_15, mf_16, mf_17, mf_18, mf_19, mf_20, mf_21, mf_22, mf_23, mf_24, mf_25, mf_26, mf_27, mf_28, mf_29, mf_30, mf_31, ms_4, ms_5, ms_6, ms_7, ms_8, ms_9, ms_10, ms_11, ms_12, ms_13, ms_14, ms_16, ms_17, ms_18, ms_19, ms_23, ms_24, ms_27, mu_1, mu_2, mu_3, mu_4, mu_5, mu_6, mu_7, mu_8, mu_9, mu_10, mu_11, mu_12, mu_13, mu_14]
          simp (disch := omega) only [true_and, and_true, lit, nI_add, nar_i, nar_0, nar_1, nar_b, fit_i, fit_l, pk_rem, nI_leI, nI_ltI, nI_eq, vin_iff, nI_clamp, nI_m1, Nat.reduceLT]
          exact hy σ' A' L' hMF hA1
        · rw [nI_leI (by omega) (by omega)] at q
          have eSt : agL tx a0 (i + 1) = hapA tx (upd (agL tx a0 i) 7 (nI (nx x7))) x7 := by rw [agL, e7, nI_clamp (by omega)]
          simp only [sp_X12_anew, s_psh, s_ild, s_lld, s_ald, s_ist, s_lst, s_ast, s_inc, s_ib, s_ibz, s_iu, s_lb, s_lbz, s_lu, s_ls, s_il, s_li, s_cmp, s_dup, s_pop, s_dup2, s_cv, s_cs, s_ci, s_oi, s_get, s_put, s_iald, s_lald, s_zald, s_iast, s_last, s_zast, s_alen, s_iret, s_lret, s_aret, s_vret, s_al, gpad, gl, gst, gclr, gc2, gent, gcat, Value.category, List.drop_succ_cons, List.drop_zero, List.take_succ_cons, List.take_zero, List.reverse_cons, List.reverse_nil, List.nil_append, List.cons_append, List.append_nil, List.map_cons, List.map_nil, List.sum_cons, List.sum_nil, List.length_cons, List.length_nil, Option.toList, cond_true, cond_false, Nat.reduceBEq, Nat.reduceAdd, Nat.reduceLeDiff, beq_self_eq_true, true_and, and_true, BEq.rfl, Bool.false_eq_true, if_true, if_false, menc_0, menc_1, menc_2, menc_3, menc_4, menc_5, menc_6, menc_7, menc_8, menc_9, menc_10, menc_11, menc_12, menc_13, menc_14, mf_0, mf_1, mf_2, mf_3, mf_4, mf_5, mf_6, mf_7, mf_8, mf_9, mf_10, mf_11, mf_12, mf_13, mf_14, mf_15, mf_16, mf_17, mf_18, mf_19, mf_20, mf_21, mf_22, mf_23, mf_24, mf_25, mf_26, mf_27, mf_28, mf_29, mf_30, mf_31, ms_4, ms_5, ms_6, ms_7, ms_8, ms_9, ms_10, ms_11, ms_12, ms_13, ms_14, ms_16, ms_17, ms_18, ms_19, ms_23, ms_24, ms_27, mu_1, mu_2, mu_3, mu_4, mu_5, mu_6, mu_7, mu_8, mu_9, mu_10, mu_11, mu_12, mu_13, mu_14]
          simp (disch := omega) only [true_and, and_true, lit, nI_add, nar_i, nar_0, nar_1, nar_b, fit_i, fit_l, pk_rem, nI_leI, nI_ltI, nI_eq, vin_iff, nI_clamp, nI_m1, Nat.reduceLT, hA1, e7]
          refine ⟨σ', w, A', L', R, x7, rfl, by rw [hA1, e7], hx7, ?_⟩
          simp only [sp_X12_happens, s_psh, s_ild, s_lld, s_ald, s_ist, s_lst, s_ast, s_inc, s_ib, s_ibz, s_iu, s_lb, s_lbz, s_lu, s_ls, s_il, s_li, s_cmp, s_dup, s_pop, s_dup2, s_cv, s_cs, s_ci, s_oi, s_get, s_put, s_iald, s_lald, s_zald, s_iast, s_last, s_zast, s_alen, s_iret, s_lret, s_aret, s_vret, s_al, gpad, gl, gst, gclr, gc2, gent, gcat, Value.category, List.drop_succ_cons, List.drop_zero, List.take_succ_cons, List.take_zero, List.reverse_cons, List.reverse_nil, List.nil_append, List.cons_append, List.append_nil, List.map_cons, List.map_nil, List.sum_cons, List.sum_nil, List.length_cons, List.length_nil, Option.toList, cond_true, cond_false, Nat.reduceBEq, Nat.reduceAdd, Nat.reduceLeDiff, beq_self_eq_true, true_and, and_true, BEq.rfl, Bool.false_eq_true, if_true, if_false, menc_0, menc_1, menc_2, menc_3, menc_4, menc_5, menc_6, menc_7, menc_8, menc_9, menc_10, menc_11, menc_12, menc_13, menc_14, mf_0, mf_1, mf_2, mf_3, mf_4, mf_5, mf_6, mf_7, mf_8, mf_9, mf_10, mf_11, mf_12, mf_13, mf_14, mf_15, mf_16, mf_17, mf_18, mf_19, mf_20, mf_21, mf_22, mf_23, mf_24, mf_25, mf_26, mf_27, mf_28, mf_29, mf_30, mf_31, ms_4, ms_5, ms_6, ms_7, ms_8, ms_9, ms_10, ms_11, ms_12, ms_13, ms_14, ms_16, ms_17, ms_18, ms_19, ms_23, ms_24, ms_27, mu_1, mu_2, mu_3, mu_4, mu_5, mu_6, mu_7, mu_8, mu_9, mu_10, mu_11, mu_12, mu_13, mu_14]
          refine ⟨σ', w, _, L', R, tx, N, x7, rfl, ⟨?_, ?_, ?_, ?_⟩, rfl, hx7, fun σ2 A2 L2 hM2 hA2 => ?_⟩
          · rw [supa, if_neg (by decide), hMF.2.1 3 (by decide) (by decide) (by decide)]; exact hT
          · rw [supa, if_pos rfl, hA1]; exact hdi.x7 (nx_lt _)
          · rw [supa, if_neg (by decide)]; exact hMF.2.2
          · rw [hMF.1 23 (by decide)]; exact h23
          try simp only [s_psh, s_ild, s_lld, s_ald, s_ist, s_lst, s_ast, s_inc, s_ib, s_ibz, s_iu, s_lb, s_lbz, s_lu, s_ls, s_il, s_li, s_cmp, s_dup, s_pop, s_dup2, s_cv, s_cs, s_ci, s_oi, s_get, s_put, s_iald, s_lald, s_zald, s_iast, s_last, s_zast, s_alen, s_iret, s_lret, s_aret, s_vret, s_al, gpad, gl, gst, gclr, gc2, gent, gcat, Value.category, List.drop_succ_cons, List.drop_zero, List.take_succ_cons, List.take_zero, List.reverse_cons, List.reverse_nil, List.nil_append, List.cons_append, List.append_nil, List.map_cons, List.map_nil, List.sum_cons, List.sum_nil, List.length_cons, List.length_nil, Option.toList, cond_true, cond_false, Nat.reduceBEq, Nat.reduceAdd, Nat.reduceLeDiff, beq_self_eq_true, true_and, and_true, BEq.rfl, Bool.false_eq_true, if_true, if_false, menc_0, menc_1, menc_2, menc_3, menc_4, menc_5, menc_6, menc_7, menc_8, menc_9, menc_10, menc_11, menc_12, menc_13, menc_14, mf_0, mf_1, mf_2, mf_3, mf_4, mf_5, mf_6, mf_7, mf_8, mf_9, mf_10, mf_11, mf_12, mf_13, mf_14, mf_15, mf_16, mf_17, mf_18, mf_19, mf_20, mf_21, mf_22, mf_23, mf_24, mf_25, mf_26, mf_27, mf_28, mf_29, mf_30, mf_31, ms_4, ms_5, ms_6, ms_7, ms_8, ms_9, ms_10, ms_11, ms_12, ms_13, ms_14, ms_16, ms_17, ms_18, ms_19, ms_23, ms_24, ms_27, mu_1, mu_2, mu_3, mu_4, mu_5, mu_6, mu_7, mu_8, mu_9, mu_10, mu_11, mu_12, mu_13, mu_14]
          try simp only [true_and, and_true, lit, nI_add, nar_i, nar_0, nar_1, nar_b, fit_i, fit_l, pk_rem, nI_leI, nI_ltI, nI_eq, vin_iff, nI_clamp, nI_m1]
          exact ⟨k - (i + 1), by omega, rfl, rfl, rfl, σ2, A2, L2, i + 1, _, rfl, hMF.s1.trans hM2, by omega, rfl, rfl, by rw [hA2, supa, if_pos rfl, hA1, eSt]⟩
    · have hn := hno hc
      refine ⟨Nat.le_of_ble_eq_true rfl, fun pc μ => fun _ _ _ _ _ => False, ?_, fun _ _ _ _ _ _ q => q.elim⟩
      simp only [b_X12_ages_0, sp_X12_isIn, s_psh, s_ild, s_lld, s_ald, s_ist, s_lst, s_ast, s_inc, s_ib, s_ibz, s_iu, s_lb, s_lbz, s_lu, s_ls, s_il, s_li, s_cmp, s_dup, s_pop, s_dup2, s_cv, s_cs, s_ci, s_oi, s_get, s_put, s_iald, s_lald, s_zald, s_iast, s_last, s_zast, s_alen, s_iret, s_lret, s_aret, s_vret, s_al, gpad, gl, gst, gclr, gc2, gent, gcat, Value.category, List.drop_succ_cons, List.drop_zero, List.take_succ_cons, List.take_zero, List.reverse_cons, List.reverse_nil, List.nil_append, List.cons_append, List.append_nil, List.map_cons, List.map_nil, List.sum_cons, List.sum_nil, List.length_cons, List.length_nil, Option.toList, cond_true, cond_false, Nat.reduceBEq, Nat.reduceAdd, Nat.reduceLeDiff, beq_self_eq_true, true_and, and_true, BEq.rfl, Bool.false_eq_true, if_true, if_false, menc_0, menc_1, menc_2, menc_3, menc_4, menc_5, menc_6, menc_7, menc_8, menc_9, menc_10, menc_11, menc_12, menc_13, menc_14, mf_0, mf_1, mf_2, mf_3, mf_4, mf_5, mf_6, mf_7, mf_8, mf_9, mf_10, mf_11, mf_12, mf_13, mf_14, mf_15, mf_16, mf_17, mf_18, mf_19, mf_20, mf_21, mf_22, mf_23, mf_24, mf_25, mf_26, mf_27, mf_28, mf_29, mf_30, mf_31, ms_4, ms_5, ms_6, ms_7, ms_8, ms_9, ms_10, ms_11, ms_12, ms_13, ms_14, ms_16, ms_17, ms_18, ms_19, ms_23, ms_24, ms_27, mu_1, mu_2, mu_3, mu_4, mu_5, mu_6, mu_7, mu_8, mu_9, mu_10, mu_11, mu_12, mu_13, mu_14]
      try simp only [true_and, and_true, lit, nI_add, nar_i, nar_0, nar_1, nar_b, fit_i, fit_l, pk_rem, nI_leI, nI_ltI, nI_eq, vin_iff, nI_clamp, nI_m1]
      have f21 : ∀ K, b_X12_ages_21 sp_X12_anew sp_X12_happens sp_X12_isIn sp_X12_keep Q K [some (.ref m), some (.int x), some (.int y), none, none] [] (menc m σ w A L R) n0 z0 := fun K => by
        simp only [b_X12_ages_21, s_psh, s_ild, s_lld, s_ald, s_ist, s_lst, s_ast, s_inc, s_ib, s_ibz, s_iu, s_lb, s_lbz, s_lu, s_ls, s_il, s_li, s_cmp, s_dup, s_pop, s_dup2, s_cv, s_cs, s_ci, s_oi, s_get, s_put, s_iald, s_lald, s_zald, s_iast, s_last, s_zast, s_alen, s_iret, s_lret, s_aret, s_vret, s_al, gpad, gl, gst, gclr, gc2, gent, gcat, Value.category, List.drop_succ_cons, List.drop_zero, List.take_succ_cons, List.take_zero, List.reverse_cons, List.reverse_nil, List.nil_append, List.cons_append, List.append_nil, List.map_cons, List.map_nil, List.sum_cons, List.sum_nil, List.length_cons, List.length_nil, Option.toList, cond_true, cond_false, Nat.reduceBEq, Nat.reduceAdd, Nat.reduceLeDiff, beq_self_eq_true, true_and, and_true, BEq.rfl, Bool.false_eq_true, if_true, if_false, menc_0, menc_1, menc_2, menc_3, menc_4, menc_5, menc_6, menc_7, menc_8, menc_9, menc_10, menc_11, menc_12, menc_13, menc_14, mf_0, mf_1, mf_2, mf_3, mf_4, mf_5, mf_6, mf_7, mf_8, mf_9, mf_10, mf_11, mf_12, mf_13, mf_14, mf_15, mf_16, mf_17, mf_18, mf_19, mf_20, mf_21, mf_22, mf_23, mf_24, mf_25, mf_26, mf_27, mf_28, mf_29, mf_30, mf_31, ms_4, ms_5, ms_6, ms_7, ms_8, ms_9, ms_10, ms_11, ms_12, ms_13, ms_14, ms_16, ms_17, ms_18, ms_19, ms_23, ms_24, ms_27, mu_1, mu_2, mu_3, mu_4, mu_5, mu_6, mu_7, mu_8, mu_9, mu_10, mu_11, mu_12, mu_13, mu_14]
        try simp only [true_and, and_true, lit, nI_add, nar_i, nar_0, nar_1, nar_b, fit_i, fit_l, pk_rem, nI_leI, nI_ltI, nI_eq, vin_iff, nI_clamp, nI_m1]
        exact hn
      refine if1i (fun _ => f21 _) (fun e => ?_)
      obtain ⟨sd, -, h1, rfl⟩ := in_of (by decide) (bI_n e) (by decide)
      simp only [sp_X12_isIn, s_psh, s_ild, s_lld, s_ald, s_ist, s_lst, s_ast, s_inc, s_ib, s_ibz, s_iu, s_lb, s_lbz, s_lu, s_ls, s_il, s_li, s_cmp, s_dup, s_pop, s_dup2, s_cv, s_cs, s_ci, s_oi, s_get, s_put, s_iald, s_lald, s_zald, s_iast, s_last, s_zast, s_alen, s_iret, s_lret, s_aret, s_vret, s_al, gpad, gl, gst, gclr, gc2, gent, gcat, Value.category, List.drop_succ_cons, List.drop_zero, List.take_succ_cons, List.take_zero, List.reverse_cons, List.reverse_nil, List.nil_append, List.cons_append, List.append_nil, List.map_cons, List.map_nil, List.sum_cons, List.sum_nil, List.length_cons, List.length_nil, Option.toList, cond_true, cond_false, Nat.reduceBEq, Nat.reduceAdd, Nat.reduceLeDiff, beq_self_eq_true, true_and, and_true, BEq.rfl, Bool.false_eq_true, if_true, if_false, menc_0, menc_1, menc_2, menc_3, menc_4, menc_5, menc_6, menc_7, menc_8, menc_9, menc_10, menc_11, menc_12, menc_13, menc_14, mf_0, mf_1, mf_2, mf_3, mf_4, mf_5, mf_6, mf_7, mf_8, mf_9, mf_10, mf_11, mf_12, mf_13, mf_14, mf_15, mf_16, mf_17, mf_18, mf_19, mf_20, mf_21, mf_22, mf_23, mf_24, mf_25, mf_26, mf_27, mf_28, mf_29, mf_30, mf_31, ms_4, ms_5, ms_6, ms_7, ms_8, ms_9, ms_10, ms_11, ms_12, ms_13, ms_14, ms_16, ms_17, ms_18, ms_19, ms_23, ms_24, ms_27, mu_1, mu_2, mu_3, mu_4, mu_5, mu_6, mu_7, mu_8, mu_9, mu_10, mu_11, mu_12, mu_13, mu_14]
      try simp only [true_and, and_true, lit, nI_add, nar_i, nar_0, nar_1, nar_b, fit_i, fit_l, pk_rem, nI_leI, nI_ltI, nI_eq, vin_iff, nI_clamp, nI_m1]
      refine if1i (fun _ => f21 _) (fun e2 => ?_)
      obtain ⟨k, h2, h3, rfl⟩ := in_of (by decide) (bI_n e2) (by decide)
      exact absurd ⟨sd, k, h1, h2, h3, rfl, rfl⟩ hc
  · exact h.elim
/-- a clause's numbers are told ones -/
def okR (c : rCl) : Prop := (c.1 = 2 → c.2.1 < 30 ∧ c.2.2.1 ≤ 3) ∧ (c.1 = 3 → c.2.1 ≤ 9 ∧ c.2.2.1 < 30) ∧ (c.1 = 4 → 1 ≤ c.2.1 ∧ c.2.1 ≤ 9 ∧ c.2.2.1 ≤ 9) ∧ (c.1 = 5 → c.2.1 ≤ 6 ∧ c.2.2.1 < 30) ∧ (c.1 = 6 → c.2.1 < 30) ∧ (c.1 = 7 → c.2.1 < 30) ∧ (c.1 = 8 → 1 ≤ c.2.1 ∧ c.2.1 ≤ 60) ∧ c.1 ≤ 8
def plC (tx : Nat → List rCl) (a : Nat → Int32) (c : rCl) : (Nat → Int32) × Bool :=
  if c.1 = 2 then (layF a (9 + c.2.1) (nI c.2.2.1) (a 3).toNatClampNeg, true)
  else if c.1 = 3 then (layF a (39 + c.2.2.1) (nI c.2.1) (a 3).toNatClampNeg, true)
  else if c.1 = 4 then (if (a 0).toNatClampNeg < 7 then (chA a (a 0).toNatClampNeg c.2.1 c.2.2.1, true) else (a, false))
  else if c.1 = 5 then (if c.2.1 < (a 0).toNatClampNeg ∧ a (69 + c.2.1) = -nI 1 then (runA tx true (keF a (a 3).toNatClampNeg) c.2.1 c.2.2.1 (a 7).toNatClampNeg, true) else (a, false))
  else if c.1 = 6 then (if a (9 + c.2.1) = nI 1 then (upd (keF a (a 3).toNatClampNeg) (9 + c.2.1) (nI 0), true) else (a, false))
  else if c.1 = 7 then (if a (9 + c.2.1) = nI 0 then (upd (upd (keF a (a 3).toNatClampNeg) (9 + c.2.1) (nI 1)) (39 + c.2.1) (nI 0), true) else (a, false))
  else if c.1 = 8 then ((apF tx a c.2.1).1, (apF tx a c.2.1).2.2)
  else (a, true)
theorem D3.lay9 {a : Nat → Int32} {N p k s : Nat} (h : D3 a N) (hp : p < 30) (hk : k < 4) : D3 (layF a (9 + p) (nI k) s) N := by
  obtain ⟨h1, h2⟩ := h
  have h' := h1
  obtain ⟨g0, g2, g6, g7, g8, gk, gp, gc⟩ := h'
  have e : ∀ j, j < 145 → j ≠ 9 + p → layF a (9 + p) (nI k) s j = a j := fun j q1 q2 => layF_at (by omega) q1 q2 s
  refine ⟨h1.up (e _ (by decide) (by omega)) (e _ (by decide) (by omega)) ?_ ?_ ?_ (fun j hj => ?_) (fun j hj => ?_) (fun j q1 q2 => e _ (by omega) (by omega)), by rw [e _ (by decide) (by omega)]; exact h2⟩
  · rw [e _ (by decide) (by omega)]; exact g6
  · rw [e _ (by decide) (by omega)]; exact g7
  · rw [e _ (by decide) (by omega)]; exact g8
  · by_cases q : j = p
    · rw [q, layF_x (by omega) (by omega)]; exact ⟨k, hk, rfl⟩
    · rw [e _ (by omega) (by omega)]; exact gk j hj
  · rw [e _ (by omega) (by omega)]; exact gp j hj
theorem D3.lay39 {a : Nat → Int32} {N p k s : Nat} (h : D3 a N) (hp : p < 30) (hk : k < 10) : D3 (layF a (39 + p) (nI k) s) N := by
  obtain ⟨h1, h2⟩ := h
  have h' := h1
  obtain ⟨g0, g2, g6, g7, g8, gk, gp, gc⟩ := h'
  have e : ∀ j, j < 145 → j ≠ 39 + p → layF a (39 + p) (nI k) s j = a j := fun j q1 q2 => layF_at (by omega) q1 q2 s
  refine ⟨h1.up (e _ (by decide) (by omega)) (e _ (by decide) (by omega)) ?_ ?_ ?_ (fun j hj => ?_) (fun j hj => ?_) (fun j q1 q2 => e _ (by omega) (by omega)), by rw [e _ (by decide) (by omega)]; exact h2⟩
  · rw [e _ (by decide) (by omega)]; exact g6
  · rw [e _ (by decide) (by omega)]; exact g7
  · rw [e _ (by decide) (by omega)]; exact g8
  · rw [e _ (by omega) (by omega)]; exact gk j hj
  · by_cases q : j = p
    · rw [q, layF_x (by omega) (by omega)]; exact ⟨k, hk, rfl⟩
    · rw [e _ (by omega) (by omega)]; exact gp j hj
theorem D3.chi {a : Nat → Int32} {N ch st lu : Nat} (h : D3 a N) (hc : ch < 7) (hs : st < 10) (hl : lu < 10) : D3 (chA a ch st lu) N := by
  obtain ⟨h1, h2⟩ := h
  obtain ⟨g0, g2, g6, g7, g8, gk, gp, gc⟩ := h1
  have e : ∀ j, j ≠ 76 + ch → j ≠ 83 + ch → j ≠ 69 + ch → j ≠ 0 → chA a ch st lu j = a j := fun j q1 q2 q3 q4 => by
    unfold chA
    rw [pk_un q4, pk_un q3, pk_un q2, pk_un q1]
  refine ⟨⟨⟨ch + 1, by omega, ?_⟩, ?_, ?_, ?_, ?_, fun j hj => ?_, fun j hj => ?_, fun c hc' => ⟨?_, ?_⟩⟩, ?_⟩
  · unfold chA; rw [pk_us]
  · unfold ruleOK; rw [e _ (by omega) (by omega) (by omega) (by omega)]; exact g2
  · rw [e _ (by omega) (by omega) (by omega) (by omega)]; exact g6
  · rw [e _ (by omega) (by omega) (by omega) (by omega)]; exact g7
  · rw [e _ (by omega) (by omega) (by omega) (by omega)]; exact g8
  · rw [e _ (by omega) (by omega) (by omega) (by omega)]; exact gk j hj
  · rw [e _ (by omega) (by omega) (by omega) (by omega)]; exact gp j hj
  · by_cases q : c = ch
    · unfold chA
      rw [q, pk_un (by omega), pk_un (by omega), pk_un (by omega), pk_us]
      exact ⟨st, hs, rfl⟩
    · rw [e _ (by omega) (by omega) (by omega) (by omega)]; exact (gc c hc').1
  · by_cases q : c = ch
    · unfold chA
      rw [q, pk_un (by omega), pk_un (by omega), pk_us]
      exact ⟨lu, hl, rfl⟩
    · rw [e _ (by omega) (by omega) (by omega) (by omega)]; exact (gc c hc').2
  · rw [e _ (by omega) (by omega) (by omega) (by omega)]; exact h2
theorem D3.pl {tx : Nat → List rCl} {a : Nat → Int32} {N : Nat} {c : rCl} (h : D3 a N) (hr : okR c) : D3 (plC tx a c).1 N := by
  obtain ⟨r2, r3, r4, r5, r6, r7, r8, -⟩ := hr
  obtain ⟨s, hs, es⟩ := h.2
  obtain ⟨x7, hx7, e7⟩ := h.1.2.2.2.1
  unfold plC
  rw [es, nI_clamp (by omega), e7, nI_clamp (by omega)]
  split
  · rename_i e; exact h.lay9 (r2 e).1 (by have := (r2 e).2; omega)
  · split
    · rename_i e; exact h.lay39 (r3 e).2 (by have := (r3 e).1; omega)
    · split
      · rename_i e
        split
        · rename_i q; exact h.chi q (by have := (r4 e).2.1; omega) (by have := (r4 e).2.2; omega)
        · exact h
      · split
        · rename_i e
          split
          · show D3 (runA tx true (keF a s) c.2.1 c.2.2.1 x7) N
            exact D3.run (c := c.2.1) (h.ke hs) (by have := (r5 e).1; omega) hx7
          · exact h
        · split
          · rename_i e
            split
            · exact (h.ke hs).k9 (r6 e) (by decide)
            · exact h
          · split
            · rename_i e
              split
              · exact ((h.ke hs).k9 (r7 e) (by decide)).p39 (r7 e) (by decide)
              · exact h
            · split
              · exact (apF_ok h _).1
              · exact h
