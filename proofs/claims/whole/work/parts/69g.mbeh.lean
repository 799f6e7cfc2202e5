/-! the reference: behind one; a sum -/
noncomputable def btV (k : Nat) : Int32 := if k = 0 then -nI 1 else nI k
noncomputable def ptV (k : Nat) : Int32 := if k = 0 then -nI 1 else if k = 1 then nI 0 else nI k
def sp_X12_compareOf : gSp := fun as C n z Q => (lg_sl as).length ≤ 1 ∧ b_X12_compareOf_0 Q (gpad 1 (gent as)) [] C n z
theorem c_X12_compareOf (l : Launch) : Con l yX12_compareOf cX12_compareOf 1 (some .int) 0 0 0 sp_X12_compareOf := m_X12_compareOf fun _ _ _ _ _ h => h
def sp_X12_betweenOf : gSp := fun as C n z Q => match as with
  | [.ref m] => ∃ σ w A L R T len i P, C = menc m σ w A L R ∧ TX σ w A T len i ∧ pw σ A P ∧ Q (some (.int (btV (btwM P (tkS T len i))))) C n z
  | _ => False
set_option maxRecDepth 100000 in
set_option maxHeartbeats 4000000 in
theorem c_X12_betweenOf (l : Launch) : Con l yX12_betweenOf cX12_betweenOf 1 (some .int) 3 0 0 sp_X12_betweenOf := by
  refine m_X12_betweenOf (c_X12_openNow l) (by decide) (c_X12_isCompared l) (by decide) (c_X12_w3 l) (by decide) (c_X12_isWord l) (by decide) (c_X12_w2 l) (by decide) (c_X12_compareOf l) (by decide) ?_
  intro as C0 n0 z0 Q h
  unfold sp_X12_betweenOf at h
  split at h
  · rename_i m
    obtain ⟨σ, w, A, L, R, T, len, i, P, rfl, ht, hw, hQ⟩ := h
    refine ⟨Nat.le_of_ble_eq_true rfl, ?_⟩
    have fin : ∀ v, btV (btwM P (tkS T len i)) = v → Q (some (.int v)) (menc m σ w A L R) n0 z0 := fun v e => by rw [← e]; exact hQ
    simp only [b_X12_betweenOf_0, b_X12_betweenOf_112, sp_X12_openNow, sp_X12_isCompared, sp_X12_w3, sp_X12_w2, sp_X12_isWord, sp_X12_compareOf, b_X12_compareOf_0, b_X12_compareOf_83, isM_menc, mi_9, mi_11, s_psh, s_ild, s_lld, s_ald, s_ist, s_lst, s_ast, s_inc, s_ib, s_ibz, s_iu, s_lb, s_lbz, s_lu, s_ls, s_il, s_li, s_cmp, s_dup, s_pop, s_dup2, s_if1, s_if2, s_ifn, s_cv, s_cs, s_ci, s_oi, s_get, s_put, s_iald, s_lald, s_zald, s_iast, s_last, s_zast, s_alen, s_iret, s_lret, s_aret, s_vret, s_al, gpad, gl, gst, gclr, gc2, gent, gcat, Value.category, List.drop_succ_cons, List.drop_zero, List.take_succ_cons, List.take_zero, List.reverse_cons, List.reverse_nil, List.nil_append, List.cons_append, List.append_nil, List.map_cons, List.map_nil, List.sum_cons, List.sum_nil, List.length_cons, List.length_nil, Option.toList, cond_true, cond_false, Nat.reduceBEq, Nat.reduceAdd, Nat.reduceLeDiff, beq_self_eq_true, true_and, and_true, BEq.rfl, Bool.false_eq_true, if_true, if_false, menc_0, menc_1, menc_2, menc_3, menc_4, menc_5, menc_6, menc_7, menc_8, menc_9, menc_10, menc_11, menc_12, menc_13, menc_14, mf_0, mf_1, mf_2, mf_3, mf_4, mf_5, mf_6, mf_7, mf_8, mf_9, mf_10, mf_11, mf_12, mf_13, mf_14, mf_15, mf_16, mf_17, mf_18, mf_19, mf_20, mf_21, mf_22, mf_23, mf_24, mf_25, mf_26, mf_27, mf_28, mf_29, mf_30, mf_31, ms_4, ms_5, ms_6, ms_7, ms_8, ms_9, ms_10, ms_11, ms_12, ms_13, ms_14, ms_16, ms_17, ms_18, ms_19, ms_23, ms_24, ms_27, mu_1, mu_2, mu_3, mu_4, mu_5, mu_6, mu_7, mu_8, mu_9, mu_10, mu_11, mu_12, mu_13, mu_14]
    simp (disch := omega) only [true_and, and_true, lit, nI_add, nar_i, nar_0, nar_1, nar_b, fit_i, fit_l, pk_rem, nI_leI, nI_ltI, nI_eq, vin_iff, nI_clamp, nI_m1, bI_0, Nat.reduceMul, Nat.reduceAdd, Nat.reduceLT, ts_43 ht, ts_45 ht, ts_42 ht, ts_47 ht, ts_60 ht, ts_4 ht, ts_62 ht, ts_5 ht, ts_61 ht, ts_35 ht, tw_21 ht, tw_20 ht]
    generalize tkS T len i = s at *
    refine ⟨fun e => fin _ (by subst e; rfl), fun e1 => ⟨fun e => fin _ (by subst e; rfl), fun e2 => ⟨fun e => fin _ (by subst e; rfl), fun e3 => ⟨fun e => fin _ (by subst e; rfl), fun e4 => ⟨σ, w, A, L, R, P, rfl, hw, ?_⟩⟩⟩⟩⟩
    simp only [true_and, and_true, lit, nI_add, nar_i, nar_0, nar_1, nar_b, fit_i, fit_l, pk_rem, nI_leI, nI_ltI, nI_eq, vin_iff, nI_clamp, nI_m1, opV_42 hw.2.1]
    refine ⟨fun e42 => ⟨σ, w, A, L, R, P, rfl, hw, ?_⟩, fun e42 => fin _ ?_⟩
    · try simp only [bI_0]
      refine ⟨fun ec => ?_, fun ec => ?_⟩
      · refine ⟨Nat.le_of_ble_eq_true rfl, ?_⟩
        repeat' first | (refine And.intro ?_ ?_) | intro _
        all_goals refine fin _ ?_
        all_goals simp_all [btV, btwM, oOf, isCmp]
      · have hcd : cpd P = true := by
          cases hh : cpd P
          · exact absurd hh (by simpa using ec)
          · rfl
        have hb : btwM P s = if s = 21 ∨ s = 20 then oOf s else 0 := by
          unfold btwM
          rw [if_neg (by omega), if_pos e42, if_neg (by rw [hcd]; decide)]
        rw [hb] at fin
        clear hQ hw hb ec
        repeat' first | (refine And.intro ?_ ?_) | intro _
        all_goals refine fin _ ?_
        all_goals clear fin
        all_goals (by_cases s1 : s = 21 <;> by_cases s2 : s = 20 <;> simp_all [btV, oOf])
    · simp_all [btV, btwM]
  · exact h.elim
def sp_X12_partOf : gSp := fun as C n z Q => match as with
  | [.ref m, .int x] => ∃ σ w A L R T len i P, C = menc m σ w A L R ∧ TX σ w A T len i ∧ pw σ A P ∧ x = opV P ∧ Q (some (.int (ptV (prtM P (tkS T len i))))) C n z
  | _ => False
set_option maxRecDepth 100000 in
set_option maxHeartbeats 4000000 in
theorem c_X12_partOf (l : Launch) : Con l yX12_partOf cX12_partOf 2 (some .int) 3 0 0 sp_X12_partOf := by
  refine m_X12_partOf (c_X12_w4 l) (by decide) (c_X12_isWord l) (by decide) (c_X12_isCompared l) (by decide) (c_X12_w3 l) (by decide) ?_
  intro as C0 n0 z0 Q h
  unfold sp_X12_partOf at h
  split at h
  · rename_i m x
    obtain ⟨σ, w, A, L, R, T, len, i, P, rfl, ht, hw, rfl, hQ⟩ := h
    refine ⟨Nat.le_of_ble_eq_true rfl, ?_⟩
    have fin : ∀ v, ptV (prtM P (tkS T len i)) = v → Q (some (.int v)) (menc m σ w A L R) n0 z0 := fun v e => by rw [← e]; exact hQ
    simp only [b_X12_partOf_0, b_X12_partOf_50, b_X12_partOf_81, b_X12_partOf_82, b_X12_partOf_107, b_X12_partOf_129, s_sw, List.forall_mem_cons, sp_X12_isCompared, sp_X12_w3, sp_X12_w4, sp_X12_isWord, isM_menc, mi_9, mi_11, s_psh, s_ild, s_lld, s_ald, s_ist, s_lst, s_ast, s_inc, s_ib, s_ibz, s_iu, s_lb, s_lbz, s_lu, s_ls, s_il, s_li, s_cmp, s_dup, s_pop, s_dup2, s_if1, s_if2, s_ifn, s_cv, s_cs, s_ci, s_oi, s_get, s_put, s_iald, s_lald, s_zald, s_iast, s_last, s_zast, s_alen, s_iret, s_lret, s_aret, s_vret, s_al, gpad, gl, gst, gclr, gc2, gent, gcat, Value.category, List.drop_succ_cons, List.drop_zero, List.take_succ_cons, List.take_zero, List.reverse_cons, List.reverse_nil, List.nil_append, List.cons_append, List.append_nil, List.map_cons, List.map_nil, List.sum_cons, List.sum_nil, List.length_cons, List.length_nil, Option.toList, cond_true, cond_false, Nat.reduceBEq, Nat.reduceAdd, Nat.reduceLeDiff, beq_self_eq_true, true_and, and_true, BEq.rfl, Bool.false_eq_true, if_true, if_false, menc_0, menc_1, menc_2, menc_3, menc_4, menc_5, menc_6, menc_7, menc_8, menc_9, menc_10, menc_11, menc_12, menc_13, menc_14, mf_0, mf_1, mf_2, mf_3, mf_4, mf_5, mf_6, mf_7, mf_8, mf_9, mf_10, mf_11, mf_12, mf_13, mf_14, mf_15, mf_16, mf_17, mf_18, mf_19, mf_20, mf_21, mf_22, mf_23, mf_24, mf_25, mf_26, mf_27, mf_28, mf_29, mf_30, mf_31, ms_4, ms_5, ms_6, ms_7, ms_8, ms_9, ms_10, ms_11, ms_12, ms_13, ms_14, ms_16, ms_17, ms_18, ms_19, ms_23, ms_24, ms_27, mu_1, mu_2, mu_3, mu_4, mu_5, mu_6, mu_7, mu_8, mu_9, mu_10, mu_11, mu_12, mu_13, mu_14]
    simp (disch := omega) only [true_and, and_true, lit, nI_add, nar_i, nar_0, nar_1, nar_b, fit_i, fit_l, pk_rem, nI_leI, nI_ltI, nI_eq, vin_iff, nI_clamp, nI_m1, bI_0, Nat.reduceMul, Nat.reduceAdd, Nat.reduceLT, ts_41 ht, tw_17 ht, tw_18 ht, tw_19 ht]
    generalize tkS T len i = s at *
    have hop : ∀ k, k < 50 → 40 ≤ k → (opV P = nI k) = (opM P = k) := fun k hk hk' => by
      unfold opV
      rcases oix_of hw.2.1 with ⟨e1, _⟩ | ⟨j, _, _, _, e4, e5⟩
      · rw [if_pos e1, e1]
        refine propext ⟨fun q => ?_, fun q => by omega⟩
        have := nI_m1 k (by omega)
        rw [← q] at this
        exact absurd rfl (by rw [this]; exact id)
      · rw [if_neg (by omega)]
        exact propext (nI_eq (by omega) (by omega))
    simp (disch := decide) only [hop 40, hop 41, hop 42, hop 43, hop 44]
    refine ⟨?_, fun e => fin _ ?_⟩
    · and_intros
      · intro e
        refine ⟨fun q => fin _ ?_, fun q => fin _ ?_⟩ <;> simp_all [ptV, prtM]
      · intro e
        refine fin _ ?_
        simp_all [ptV, prtM]
      · intro e
        refine ⟨fun q => fin _ ?_, fun q => ⟨σ, w, A, L, R, P, rfl, hw, ?_⟩⟩
        · simp_all [ptV, prtM]
        · try simp only [bI_0]
          refine ⟨fun q => fin _ ?_, fun q => fin _ ?_⟩ <;> simp_all [ptV, prtM]
      · intro e
        refine ⟨fun q => fin _ ?_, fun q => fin _ ?_⟩ <;> simp_all [ptV, prtM]
      · intro e
        refine ⟨fun q => fin _ ?_, fun q => fin _ ?_⟩ <;> simp_all [ptV, prtM]
      · intro x hx; simp at hx
    · simp_all [ptV, prtM]
  · exact h.elim
