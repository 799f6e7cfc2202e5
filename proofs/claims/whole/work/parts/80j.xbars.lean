/-! the class's riddles: barsOf -/
def sp_X4_barsOf : gSp := fun as C n z Q => match as with
  | [.int x, .int y, .int u] => ∃ v f k, x = nI v ∧ v < 4096 ∧ y = nI f ∧ f ≤ 12 ∧ u = nI k ∧ k ≤ 12 ∧ Q (some (.int (nI (mi v f k)))) C n z
  | _ => False
set_option maxRecDepth 100000 in
set_option maxHeartbeats 4000000 in
theorem c_X4_barsOf (l : Launch) : Con l yX4_barsOf cX4_barsOf 3 (some .int) 1 0 0 sp_X4_barsOf := by
  refine m_X4_barsOf (c_J6_bitCount_0f7a4 l) (by decide) ?_
  intro as C0 n0 z0 Q h
  unfold sp_X4_barsOf at h
  split at h
  · obtain ⟨v, f, k, rfl, hv, rfl, hf, rfl, hk, hQ⟩ := h
    refine ⟨Nat.le_of_ble_eq_true rfl, ?_⟩
    have e : nI v >>> (nI f &&& nI 31) &&& (nI 1 <<< (nI k &&& nI 31) - nI 1) = nI (v / 2 ^ f &&& (2 ^ k - 1)) := by
      rw [i_shr (by omega) _ f (sm32 f (by omega)), i_shl1 k (by omega), pk_sub (Nat.two_pow_pos k), nI_and]
    have hl : v / 2 ^ f &&& (2 ^ k - 1) < 4096 := Nat.lt_of_le_of_lt (Nat.and_le_left) (Nat.lt_of_le_of_lt (Nat.div_le_self _ _) hv)
    simp only [b_X4_barsOf_0, sp_J6_bitCount_0f7a4, s_psh, s_ild, s_lld, s_ald, s_ist, s_lst, s_ast, s_inc, s_ib, s_ibz, s_iu, s_lb, s_lbz, s_lu, s_ls, s_il, s_li, s_cmp, s_dup, s_pop, s_dup2, s_if1, s_if2, s_ifn, s_cv, s_cs, s_ci, s_oi, s_get, s_put, s_iald, s_lald, s_zald, s_iast, s_last, s_zast, s_alen, s_iret, s_lret, s_aret, s_vret, s_al, gpad, gl, gst, gclr, gc2, gent, gcat, Value.category, List.drop_succ_cons, List.drop_zero, List.take_succ_cons, List.take_zero, List.reverse_cons, List.reverse_nil, List.nil_append, List.cons_append, List.append_nil, List.map_cons, List.map_nil, List.sum_cons, List.sum_nil, List.length_cons, List.length_nil, Option.toList, cond_true, cond_false, Nat.reduceBEq, Nat.reduceAdd, Nat.reduceLeDiff, beq_self_eq_true, true_and, and_true, BEq.rfl, Bool.false_eq_true, if_true, if_false, menc_0, menc_1, menc_2, menc_3, menc_4, menc_5, menc_6, menc_7, menc_8, menc_9, menc_10, menc_11, menc_12, menc_13, menc_14, mf_0, mf_1, mf_2, mf_3, mf_4, mf_5, mf_6, mf_7, mf_8, mf_9, mf_10, mf_11, mf_12, mf_13, mf_14, mf_15, mf_16, mf_17, mf_18, mf_19, mf_20, mf_21, mf_22, mf_23, mf_24, mf_25, mf_26, mf_27, mf_28, mf_29, mf_30, mf_31, ms_4, ms_5, ms_6, ms_7, ms_8, ms_9, ms_10, ms_11, ms_12, ms_13, ms_14, ms_16, ms_17, ms_18, ms_19, ms_23, ms_24, ms_27, mu_1, mu_2, mu_3, mu_4, mu_5, mu_6, mu_7, mu_8, mu_9, mu_10, mu_11, mu_12, mu_13, mu_14]
    simp only [lit, e]
    refine ⟨_, rfl, hl, ?_⟩
    try simp only [true_and, and_true, lit, nI_add, nar_i, nar_0, nar_1, nar_b, fit_i, fit_l, pk_rem, nI_leI, nI_ltI, nI_eq, vin_iff, nI_clamp, nI_m1]
    exact hQ
  · exact h.elim
