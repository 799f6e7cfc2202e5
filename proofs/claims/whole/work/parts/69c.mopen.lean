/-! the reference: what is open, what is compared, names and signs -/
def pw (σ : Nat → Int32) (A : Nat → Nat → Int32) (P : List Nat) : Prop := σ 16 = nI P.length ∧ pileM (A 5) P ∧ P.length ≤ 155
noncomputable def topI : List Nat → Int32
  | [] => -nI 1
  | _ :: L => nI L.length
theorem top_len (P : List Nat) : nI P.length - nI 1 = topI P := by
  cases P with
  | nil => simp only [List.length_nil, topI]; decide
  | cons p P => simp only [List.length_cons, topI]; rw [pk_sub (by omega), Nat.add_sub_cancel]
theorem top_len' (P : List Nat) : nI P.length + -nI 1 = topI P := by
  rw [← top_len, Int32.sub_eq_add_neg]
noncomputable def oixI : List Nat → Int32
  | [] => -nI 1
  | p :: L => if 40 ≤ p then nI L.length else oixI L
theorem neg1_lt : (-nI 1 : Int32) < nI 0 := by decide
theorem n1t : ((-nI 1 : Int32) < nI 0) = True := eq_true neg1_lt
theorem top_nil : topI [] = -nI 1 := rfl
theorem top_cons {p : Nat} {P : List Nat} : topI (p :: P) = nI P.length := rfl
def sp_X12_openAt : gSp := fun as C n z Q => match as with
  | [.ref m] => ∃ σ w A L R P, C = menc m σ w A L R ∧ pw σ A P ∧ Q (some (.int (oixI P))) C n z
  | _ => False
set_option maxRecDepth 100000 in
set_option maxHeartbeats 4000000 in
theorem c_X12_openAt (l : Launch) : Con l yX12_openAt cX12_openAt 2 (some .int) 0 0 0 sp_X12_openAt := by
  refine m_X12_openAt ?_
  intro as C0 n0 z0 Q h
  unfold sp_X12_openAt at h
  split at h
  · rename_i m
    obtain ⟨σ, w, A, L, R, P0, rfl, ⟨h16, hp, hl⟩, hQ⟩ := h
    refine ⟨Nat.le_of_ble_eq_true rfl, fun pc μ lv st C n z => n = n0 ∧ z = z0 ∧ st = [] ∧ C = menc m σ w A L R ∧ ∃ P, lv = [some (.ref m), some (.int (topI P))] ∧ pileM (A 5) P ∧ oixI P = oixI P0 ∧ P.length ≤ 155 ∧ μ = P.length, ?_, ?_⟩
    · simp only [b_X12_openAt_0, s_psh, s_ild, s_lld, s_ald, s_ist, s_lst, s_ast, s_inc, s_ib, s_ibz, s_iu, s_lb, s_lbz, s_lu, s_ls, s_il, s_li, s_cmp, s_dup, s_pop, s_dup2, s_if1, s_if2, s_ifn, s_cv, s_cs, s_ci, s_oi, s_get, s_put, s_iald, s_lald, s_zald, s_iast, s_last, s_zast, s_alen, s_iret, s_lret, s_aret, s_vret, s_al, gpad, gl, gst, gclr, gc2, gent, gcat, Value.category, List.drop_succ_cons, List.drop_zero, List.take_succ_cons, List.take_zero, List.reverse_cons, List.reverse_nil, List.nil_append, List.cons_append, List.append_nil, List.map_cons, List.map_nil, List.sum_cons, List.sum_nil, List.length_cons, List.length_nil, Option.toList, cond_true, cond_false, Nat.reduceBEq, Nat.reduceAdd, Nat.reduceLeDiff, beq_self_eq_true, true_and, and_true, BEq.rfl, Bool.false_eq_true, if_true, if_false, menc_0, menc_1, menc_2, menc_3, menc_4, menc_5, menc_6, menc_7, menc_8, menc_9, menc_10, menc_11, menc_12, menc_13, menc_14, mf_0, mf_1, mf_2, mf_3, mf_4, mf_5, mf_6, mf_7, mf_8, mf_9, mf_10, mf_11, mf_12, mf_13, mf_14, mf_15, mf_16, mf_17, mf_18, mf_19, mf_20, mf_21, mf_22, mf_23, mf_24, mf_25, mf_26, mf_27, mf_28, mf_29, mf_30, mf_31, ms_4, ms_5, ms_6, ms_7, ms_8, ms_9, ms_10, ms_11, ms_12, ms_13, ms_14, ms_16, ms_17, ms_18, ms_19, ms_23, ms_24, ms_27, mu_1, mu_2, mu_3, mu_4, mu_5, mu_6, mu_7, mu_8, mu_9, mu_10, mu_11, mu_12, mu_13, mu_14]
      simp only [true_and, and_true, lit, nI_add, nar_i, nar_0, nar_1, nar_b, fit_i, fit_l, pk_rem, nI_leI, nI_ltI, nI_eq, vin_iff, nI_clamp, nI_m1, h16, top_len]
      exact ⟨_, P0, rfl, hp, rfl, hl, rfl⟩
    · rintro μ lv st C n z ⟨rfl, rfl, rfl, rfl, P, rfl, gp, go, gle, rfl⟩
      simp only [b_X12_openAt_7, b_X12_openAt_28, s_psh, s_ild, s_lld, s_ald, s_ist, s_lst, s_ast, s_inc, s_ib, s_ibz, s_iu, s_lb, s_lbz, s_lu, s_ls, s_il, s_li, s_cmp, s_dup, s_pop, s_dup2, s_if1, s_if2, s_ifn, s_cv, s_cs, s_ci, s_oi, s_get, s_put, s_iald, s_lald, s_zald, s_iast, s_last, s_zast, s_alen, s_iret, s_lret, s_aret, s_vret, s_al, gpad, gl, gst, gclr, gc2, gent, gcat, Value.category, List.drop_succ_cons, List.drop_zero, List.take_succ_cons, List.take_zero, List.reverse_cons, List.reverse_nil, List.nil_append, List.cons_append, List.append_nil, List.map_cons, List.map_nil, List.sum_cons, List.sum_nil, List.length_cons, List.length_nil, Option.toList, cond_true, cond_false, Nat.reduceBEq, Nat.reduceAdd, Nat.reduceLeDiff, beq_self_eq_true, true_and, and_true, BEq.rfl, Bool.false_eq_true, if_true, if_false, menc_0, menc_1, menc_2, menc_3, menc_4, menc_5, menc_6, menc_7, menc_8, menc_9, menc_10, menc_11, menc_12, menc_13, menc_14, mf_0, mf_1, mf_2, mf_3, mf_4, mf_5, mf_6, mf_7, mf_8, mf_9, mf_10, mf_11, mf_12, mf_13, mf_14, mf_15, mf_16, mf_17, mf_18, mf_19, mf_20, mf_21, mf_22, mf_23, mf_24, mf_25, mf_26, mf_27, mf_28, mf_29, mf_30, mf_31, ms_4, ms_5, ms_6, ms_7, ms_8, ms_9, ms_10, ms_11, ms_12, ms_13, ms_14, ms_16, ms_17, ms_18, ms_19, ms_23, ms_24, ms_27, mu_1, mu_2, mu_3, mu_4, mu_5, mu_6, mu_7, mu_8, mu_9, mu_10, mu_11, mu_12, mu_13, mu_14]
      cases P with
      | nil =>
        simp only [top_nil, true_and, and_true, lit, nI_add, nar_i, nar_0, nar_1, nar_b, fit_i, fit_l, pk_rem, nI_leI, nI_ltI, nI_eq, vin_iff, nI_clamp, nI_m1, n1t]
        refine ⟨fun _ => ?_, fun q => absurd trivial q⟩
        rw [← go] at hQ
        exact hQ
      | cons p P =>
        obtain ⟨g1, g2, g3⟩ := gp
        simp only [List.length_cons] at gle
        simp (disch := omega) only [top_cons, true_and, and_true, lit, nI_add, nar_i, nar_0, nar_1, nar_b, fit_i, fit_l, pk_rem, nI_leI, nI_ltI, nI_eq, vin_iff, nI_clamp, nI_m1, g1, nI_not_lt0]
        refine ⟨fun q => absurd q (by omega), fun _ => ⟨by omega, fun e => ?_, fun e => ⟨_, ?_, P, ?_, g3, ?_, by omega, rfl⟩⟩⟩
        · rw [← go, oixI, if_pos e] at hQ; exact hQ
        · simp
        · rw [top_len']
        · rw [← go, oixI, if_neg e]
  · exact h.elim
theorem oix_of {f : Nat → Int32} : ∀ {P : List Nat}, pileM f P → (opM P = 0 ∧ oixI P = -nI 1) ∨ ∃ k, k < P.length ∧ oixI P = nI k ∧ f k = nI (opM P) ∧ 40 ≤ opM P ∧ opM P < 50
  | [], _ => Or.inl ⟨rfl, rfl⟩
  | p :: P, ⟨h1, h2, h3⟩ => by
    by_cases hp : 40 ≤ p
    · refine Or.inr ⟨P.length, by simp, by rw [oixI, if_pos hp], ?_, ?_, ?_⟩ <;> rw [opM_hd hp]
      · exact h1
      · exact hp
      · exact h2
    · have e1 : oixI (p :: P) = oixI P := by rw [oixI, if_neg hp]
      have e2 : opM (p :: P) = opM P := by
        unfold opM
        rw [List.find?_cons_of_neg (by simpa using hp)]
      rw [e1, e2]
      rcases oix_of h3 with h | ⟨k, a, b⟩
      · exact Or.inl h
      · exact Or.inr ⟨k, by simp; omega, b⟩
noncomputable def opV (P : List Nat) : Int32 := if opM P = 0 then -nI 1 else nI (opM P)
def sp_X12_openNow : gSp := fun as C n z Q => match as with
  | [.ref m] => ∃ σ w A L R P, C = menc m σ w A L R ∧ pw σ A P ∧ Q (some (.int (opV P))) C n z
  | _ => False
set_option maxRecDepth 100000 in
theorem c_X12_openNow (l : Launch) : Con l yX12_openNow cX12_openNow 1 (some .int) 1 0 0 sp_X12_openNow := by
  refine m_X12_openNow (c_X12_openAt l) (by decide) ?_
  intro as C0 n0 z0 Q h
  unfold sp_X12_openNow at h
  split at h
  · rename_i m
    obtain ⟨σ, w, A, L, R, P, rfl, hw, hQ⟩ := h
    refine ⟨Nat.le_of_ble_eq_true rfl, ?_⟩
    simp only [b_X12_openNow_0, b_X12_openNow_20, sp_X12_openAt, s_psh, s_ild, s_lld, s_ald, s_ist, s_lst, s_ast, s_inc, s_ib, s_ibz, s_iu, s_lb, s_lbz, s_lu, s_ls, s_il, s_li, s_cmp, s_dup, s_pop, s_dup2, s_if1, s_if2, s_ifn, s_cv, s_cs, s_ci, s_oi, s_get, s_put, s_iald, s_lald, s_zald, s_iast, s_last, s_zast, s_alen, s_iret, s_lret, s_aret, s_vret, s_al, gpad, gl, gst, gclr, gc2, gent, gcat, Value.category, List.drop_succ_cons, List.drop_zero, List.take_succ_cons, List.take_zero, List.reverse_cons, List.reverse_nil, List.nil_append, List.cons_append, List.append_nil, List.map_cons, List.map_nil, List.sum_cons, List.sum_nil, List.length_cons, List.length_nil, Option.toList, cond_true, cond_false, Nat.reduceBEq, Nat.reduceAdd, Nat.reduceLeDiff, beq_self_eq_true, true_and, and_true, BEq.rfl, Bool.false_eq_true, if_true, if_false, menc_0, menc_1, menc_2, menc_3, menc_4, menc_5, menc_6, menc_7, menc_8, menc_9, menc_10, menc_11, menc_12, menc_13, menc_14, mf_0, mf_1, mf_2, mf_3, mf_4, mf_5, mf_6, mf_7, mf_8, mf_9, mf_10, mf_11, mf_12, mf_13, mf_14, mf_15, mf_16, mf_17, mf_18, mf_19, mf_20, mf_21, mf_22, mf_23, mf_24, mf_25, mf_26, mf_27, mf_28, mf_29, mf_30, mf_31, ms_4, ms_5, ms_6, ms_7, ms_8, ms_9, ms_10, ms_11, ms_12, ms_13, ms_14, ms_16, ms_17, ms_18, ms_19, ms_23, ms_24, ms_27, mu_1, mu_2, mu_3, mu_4, mu_5, mu_6, mu_7, mu_8, mu_9, mu_10, mu_11, mu_12, mu_13, mu_14]
    refine ⟨σ, w, A, L, R, P, rfl, hw, ?_⟩
    rcases oix_of hw.2.1 with ⟨e1, e2⟩ | ⟨k, e1, e2, e3, e4, e5⟩
    · rw [e2]
      simp only [true_and, and_true, lit, nI_add, nar_i, nar_0, nar_1, nar_b, fit_i, fit_l, pk_rem, nI_leI, nI_ltI, nI_eq, vin_iff, nI_clamp, nI_m1]
      refine ⟨fun q => absurd q (by decide), fun _ => ?_⟩
      rw [opV, if_pos e1] at hQ
      exact hQ
    · have := hw.2.2
      rw [e2]
      simp (disch := omega) only [true_and, and_true, lit, nI_add, nar_i, nar_0, nar_1, nar_b, fit_i, fit_l, pk_rem, nI_leI, nI_ltI, nI_eq, vin_iff, nI_clamp, nI_m1, Nat.zero_le]
      refine ⟨fun _ => ⟨σ, w, A, L, R, P, rfl, hw, ?_⟩, fun q => absurd trivial q⟩
      rw [e2]
      simp (disch := omega) only [true_and, and_true, lit, nI_add, nar_i, nar_0, nar_1, nar_b, fit_i, fit_l, pk_rem, nI_leI, nI_ltI, nI_eq, vin_iff, nI_clamp, nI_m1, e3]
      refine ⟨by omega, ?_⟩
      rw [opV, if_neg (by omega)] at hQ
      exact hQ
  · exact h.elim
def sp_X12_isCompared : gSp := fun as C n z Q => match as with
  | [.ref m] => ∃ σ w A L R P, C = menc m σ w A L R ∧ pw σ A P ∧ Q (some (.int (bI (cpd P = true)))) C n z
  | _ => False
set_option maxRecDepth 100000 in
set_option maxHeartbeats 4000000 in
theorem c_X12_isCompared (l : Launch) : Con l yX12_isCompared cX12_isCompared 2 (some .boolean) 1 0 0 sp_X12_isCompared := by
  refine m_X12_isCompared (c_X12_rank l) (by decide) ?_
  intro as C0 n0 z0 Q h
  unfold sp_X12_isCompared at h
  split at h
  · rename_i m
    obtain ⟨σ, w, A, L, R, P0, rfl, ⟨h16, hp, hl⟩, hQ⟩ := h
    refine ⟨Nat.le_of_ble_eq_true rfl, fun pc μ lv st C n z => n = n0 ∧ z = z0 ∧ st = [] ∧ C = menc m σ w A L R ∧ ∃ P, lv = [some (.ref m), some (.int (topI P))] ∧ pileM (A 5) P ∧ cpd P = cpd P0 ∧ P.length ≤ 155 ∧ μ = P.length, ?_, ?_⟩
    · simp only [b_X12_isCompared_0, s_psh, s_ild, s_lld, s_ald, s_ist, s_lst, s_ast, s_inc, s_ib, s_ibz, s_iu, s_lb, s_lbz, s_lu, s_ls, s_il, s_li, s_cmp, s_dup, s_pop, s_dup2, s_if1, s_if2, s_ifn, s_cv, s_cs, s_ci, s_oi, s_get, s_put, s_iald, s_lald, s_zald, s_iast, s_last, s_zast, s_alen, s_iret, s_lret, s_aret, s_vret, s_al, gpad, gl, gst, gclr, gc2, gent, gcat, Value.category, List.drop_succ_cons, List.drop_zero, List.take_succ_cons, List.take_zero, List.reverse_cons, List.reverse_nil, List.nil_append, List.cons_append, List.append_nil, List.map_cons, List.map_nil, List.sum_cons, List.sum_nil, List.length_cons, List.length_nil, Option.toList, cond_true, cond_false, Nat.reduceBEq, Nat.reduceAdd, Nat.reduceLeDiff, beq_self_eq_true, true_and, and_true, BEq.rfl, Bool.false_eq_true, if_true, if_false, menc_0, menc_1, menc_2, menc_3, menc_4, menc_5, menc_6, menc_7, menc_8, menc_9, menc_10, menc_11, menc_12, menc_13, menc_14, mf_0, mf_1, mf_2, mf_3, mf_4, mf_5, mf_6, mf_7, mf_8, mf_9, mf_10, mf_11, mf_12, mf_13, mf_14, mf_15, mf_16, mf_17, mf_18, mf_19, mf_20, mf_21, mf_22, mf_23, mf_24, mf_25, mf_26, mf_27, mf_28, mf_29, mf_30, mf_31, ms_4, ms_5, ms_6, ms_7, ms_8, ms_9, ms_10, ms_11, ms_12, ms_13, ms_14, ms_16, ms_17, ms_18, ms_19, ms_23, ms_24, ms_27, mu_1, mu_2, mu_3, mu_4, mu_5, mu_6, mu_7, mu_8, mu_9, mu_10, mu_11, mu_12, mu_13, mu_14]
      simp only [true_and, and_true, lit, nI_add, nar_i, nar_0, nar_1, nar_b, fit_i, fit_l, pk_rem, nI_leI, nI_ltI, nI_eq, vin_iff, nI_clamp, nI_m1, h16, top_len]
      exact ⟨_, P0, rfl, hp, rfl, hl, rfl⟩
    · rintro μ lv st C n z ⟨rfl, rfl, rfl, rfl, P, rfl, gp, go, gle, rfl⟩
      simp only [b_X12_isCompared_7, b_X12_isCompared_30, b_X12_isCompared_51, b_X12_isCompared_52, sp_X12_rank, s_psh, s_ild, s_lld, s_ald, s_ist, s_lst, s_ast, s_inc, s_ib, s_ibz, s_iu, s_lb, s_lbz, s_lu, s_ls, s_il, s_li, s_cmp, s_dup, s_pop, s_dup2, s_if1, s_if2, s_ifn, s_cv, s_cs, s_ci, s_oi, s_get, s_put, s_iald, s_lald, s_zald, s_iast, s_last, s_zast, s_alen, s_iret, s_lret, s_aret, s_vret, s_al, gpad, gl, gst, gclr, gc2, gent, gcat, Value.category, List.drop_succ_cons, List.drop_zero, List.take_succ_cons, List.take_zero, List.reverse_cons, List.reverse_nil, List.nil_append, List.cons_append, List.append_nil, List.map_cons, List.map_nil, List.sum_cons, List.sum_nil, List.length_cons, List.length_nil, Option.toList, cond_true, cond_false, Nat.reduceBEq, Nat.reduceAdd, Nat.reduceLeDiff, beq_self_eq_true, true_and, and_true, BEq.rfl, Bool.false_eq_true, if_true, if_false, menc_0, menc_1, menc_2, menc_3, menc_4, menc_5, menc_6, menc_7, menc_8, menc_9, menc_10, menc_11, menc_12, menc_13, menc_14, mf_0, mf_1, mf_2, mf_3, mf_4, mf_5, mf_6, mf_7, mf_8, mf_9, mf_10, mf_11, mf_12, mf_13, mf_14, mf_15, mf_16, mf_17, mf_18, mf_19, mf_20, mf_21, mf_22, mf_23, mf_24, mf_25, mf_26, mf_27, mf_28, mf_29, mf_30, mf_31, ms_4, ms_5, ms_6, ms_7, ms_8, ms_9, ms_10, ms_11, ms_12, ms_13, ms_14, ms_16, ms_17, ms_18, ms_19, ms_23, ms_24, ms_27, mu_1, mu_2, mu_3, mu_4, mu_5, mu_6, mu_7, mu_8, mu_9, mu_10, mu_11, mu_12, mu_13, mu_14]
      cases P with
      | nil =>
        simp only [top_nil, true_and, and_true, lit, nI_add, nar_i, nar_0, nar_1, nar_b, fit_i, fit_l, pk_rem, nI_leI, nI_ltI, nI_eq, vin_iff, nI_clamp, nI_m1, n1t]
        have hf : ¬ cpd P0 = true := by rw [← go]; decide
        rw [bI_f hf] at hQ
        refine ⟨fun _ => ⟨fun _ => hQ, fun q => absurd trivial q⟩, fun q => absurd trivial q⟩
      | cons p P =>
        obtain ⟨g1, g2, g3⟩ := gp
        have hrk := rk_le p
        simp only [List.length_cons] at gle
        simp (disch := omega) only [top_cons, true_and, and_true, lit, nI_add, nar_i, nar_0, nar_1, nar_b, fit_i, fit_l, pk_rem, nI_leI, nI_ltI, nI_eq, vin_iff, nI_clamp, nI_m1, g1, nI_not_lt0]
        refine ⟨fun q => absurd q (by omega), fun _ => ⟨by omega, p, by omega, rfl, fun e => ⟨fun q => absurd q (by omega), fun _ => ⟨by omega, p, by omega, rfl, fun e2 => ?_, fun e2 => ?_⟩⟩, fun e => ⟨_, ?_, P, ?_, g3, ?_, by omega, rfl⟩⟩⟩
        · rw [nI_leI (by omega) (by omega)] at e
          rw [nI_eq (by omega) (by omega)] at e2
          rw [bI_t (by rw [← go]; simp only [cpd, if_neg (show ¬ 4 < rk p by omega), e2]; rfl)] at hQ; exact hQ
        · rw [nI_leI (by omega) (by omega)] at e
          rw [nI_eq (by omega) (by omega)] at e2
          rw [bI_f (by rw [← go]; simp only [cpd, if_neg (show ¬ 4 < rk p by omega)]; simpa using e2)] at hQ; exact hQ
        · simp
        · rw [top_len']
        · rw [nI_leI (by omega) (by omega)] at e
          rw [← go]
          simp only [cpd, if_pos (show 4 < rk p by omega)]
  · exact h.elim
theorem opV_42 {f : Nat → Int32} {P : List Nat} (h : pileM f P) : (opV P = nI 42) = (opM P = 42) := by
  unfold opV
  rcases oix_of h with ⟨e1, _⟩ | ⟨k, _, _, _, e4, e5⟩
  · rw [if_pos e1, e1]
    exact propext ⟨fun q => absurd q (by decide), fun q => absurd q (by decide)⟩
  · rw [if_neg (by omega)]
    exact propext (nI_eq (by omega) (by decide))
def sp_X12_isAskAhead : gSp := fun as C n z Q => match as with
  | [.ref m] => ∃ σ w A L R P, C = menc m σ w A L R ∧ pw σ A P ∧ Q (some (.int (bI (askM P = true)))) C n z
  | _ => False
set_option maxRecDepth 100000 in
theorem c_X12_isAskAhead (l : Launch) : Con l yX12_isAskAhead cX12_isAskAhead 1 (some .boolean) 2 0 0 sp_X12_isAskAhead := by
  refine m_X12_isAskAhead (c_X12_openNow l) (by decide) (c_X12_rank l) (by decide) (c_X12_isIn l) (by decide) ?_
  intro as C0 n0 z0 Q h
  unfold sp_X12_isAskAhead at h
  split at h
  · rename_i m
    obtain ⟨σ, w, A, L, R, P, rfl, hw, hQ⟩ := h
    refine ⟨Nat.le_of_ble_eq_true rfl, ?_⟩
    obtain ⟨h16, hp, hl⟩ := hw
    simp only [b_X12_isAskAhead_0, b_X12_isAskAhead_47, b_X12_isAskAhead_51, b_X12_isAskAhead_52, sp_X12_openNow, sp_X12_rank, sp_X12_isIn, s_psh, s_ild, s_lld, s_ald, s_ist, s_lst, s_ast, s_inc, s_ib, s_ibz, s_iu, s_lb, s_lbz, s_lu, s_ls, s_il, s_li, s_cmp, s_dup, s_pop, s_dup2, s_if1, s_if2, s_ifn, s_cv, s_cs, s_ci, s_oi, s_get, s_put, s_iald, s_lald, s_zald, s_iast, s_last, s_zast, s_alen, s_iret, s_lret, s_aret, s_vret, s_al, gpad, gl, gst, gclr, gc2, gent, gcat, Value.category, List.drop_succ_cons, List.drop_zero, List.take_succ_cons, List.take_zero, List.reverse_cons, List.reverse_nil, List.nil_append, List.cons_append, List.append_nil, List.map_cons, List.map_nil, List.sum_cons, List.sum_nil, List.length_cons, List.length_nil, Option.toList, cond_true, cond_false, Nat.reduceBEq, Nat.reduceAdd, Nat.reduceLeDiff, beq_self_eq_true, true_and, and_true, BEq.rfl, Bool.false_eq_true, if_true, if_false, menc_0, menc_1, menc_2, menc_3, menc_4, menc_5, menc_6, menc_7, menc_8, menc_9, menc_10, menc_11, menc_12, menc_13, menc_14, mf_0, mf_1, mf_2, mf_3, mf_4, mf_5, mf_6, mf_7, mf_8, mf_9, mf_10, mf_11, mf_12, mf_13, mf_14, mf_15, mf_16, mf_17, mf_18, mf_19, mf_20, mf_21, mf_22, mf_23, mf_24, mf_25, mf_26, mf_27, mf_28, mf_29, mf_30, mf_31, ms_4, ms_5, ms_6, ms_7, ms_8, ms_9, ms_10, ms_11, ms_12, ms_13, ms_14, ms_16, ms_17, ms_18, ms_19, ms_23, ms_24, ms_27, mu_1, mu_2, mu_3, mu_4, mu_5, mu_6, mu_7, mu_8, mu_9, mu_10, mu_11, mu_12, mu_13, mu_14]
    refine ⟨σ, w, A, L, R, P, rfl, ⟨h16, hp, hl⟩, ?_⟩
    simp only [true_and, and_true, lit, nI_add, nar_i, nar_0, nar_1, nar_b, fit_i, fit_l, pk_rem, nI_leI, nI_ltI, nI_eq, vin_iff, nI_clamp, nI_m1, opV_42 hp]
    cases P with
    | nil =>
      refine ⟨fun q => absurd q (by decide), fun _ => ?_⟩
      rw [bI_f (by decide)] at hQ; exact hQ
    | cons p P =>
      obtain ⟨g1, g2, g3⟩ := hp
      have hrk := rk_le p
      simp only [List.length_cons] at h16 hl
      simp (disch := omega) only [h16, true_and, and_true, lit, nI_add, nar_i, nar_0, nar_1, nar_b, fit_i, fit_l, pk_rem, nI_leI, nI_ltI, nI_eq, vin_iff, nI_clamp, nI_m1, pk_sub, Nat.add_sub_cancel, g1]
      refine ⟨fun e => ⟨by omega, fun e2 => ?_, fun e2 => ⟨by omega, p, by omega, rfl, ?_⟩⟩, fun e => ?_⟩
      · rw [bI_t (by simp only [askM, e]; simp [e2])] at hQ; exact hQ
      · simp (disch := omega) only [true_and, and_true, lit, nI_add, nar_i, nar_0, nar_1, nar_b, fit_i, fit_l, pk_rem, nI_leI, nI_ltI, nI_eq, vin_iff, nI_clamp, nI_m1, bI_0]
        refine ⟨fun e3 => ?_, fun e3 => ?_⟩
        · rw [bI_f (by simp only [askM, e]; simp; omega)] at hQ; exact hQ
        · rw [bI_t (by simp only [askM, e]; simp; omega)] at hQ; exact hQ
      · rw [bI_f (by simp only [askM]; simp [e])] at hQ; exact hQ
  · exact h.elim
noncomputable def nmI (s : Nat) : Int32 := if nmOf s < 8 then nI (nmOf s) else -nI 1
def sp_X12_nameOf : gSp := fun as C n z Q => match as with
  | [.ref m] => ∃ σ w A L R T len i, C = menc m σ w A L R ∧ TX σ w A T len i ∧ Q (some (.int (nmI (tkS T len i)))) C n z
  | _ => False
set_option maxRecDepth 100000 in
set_option maxHeartbeats 4000000 in
theorem c_X12_nameOf (l : Launch) : Con l yX12_nameOf cX12_nameOf 1 (some .int) 5 0 0 sp_X12_nameOf := by
  refine m_X12_nameOf (c_X12_w4 l) (by decide) (c_X12_w5 l) (by decide) (c_X12_w6 l) (by decide) (c_X12_w3 l) (by decide) ?_
  intro as C0 n0 z0 Q h
  unfold sp_X12_nameOf at h
  split at h
  · rename_i m
    obtain ⟨σ, w, A, L, R, T, len, i, rfl, ht, hQ⟩ := h
    refine ⟨Nat.le_of_ble_eq_true rfl, ?_⟩
    have t12 := tw_12 ht
    have t2 := tw_2 ht
    have t3 := tw_3 ht
    have t4 := tw_4 ht
    have t23 := tw_23 ht
    have t24 := tw_24 ht
    have t7 := tw_7 ht
    have t25 := tw_25 ht
    generalize tkS T len i = s at *
    have fin : ∀ v, nmI s = v → Q (some (.int v)) (menc m σ w A L R) n0 z0 := fun v e => by rw [← e]; exact hQ
    simp only [b_X12_nameOf_0, b_X12_nameOf_193, sp_X12_w3, sp_X12_w4, sp_X12_w5, sp_X12_w6, s_psh, s_ild, s_lld, s_ald, s_ist, s_lst, s_ast, s_inc, s_ib, s_ibz, s_iu, s_lb, s_lbz, s_lu, s_ls, s_il, s_li, s_cmp, s_dup, s_pop, s_dup2, s_if1, s_if2, s_ifn, s_cv, s_cs, s_ci, s_oi, s_get, s_put, s_iald, s_lald, s_zald, s_iast, s_last, s_zast, s_alen, s_iret, s_lret, s_aret, s_vret, s_al, gpad, gl, gst, gclr, gc2, gent, gcat, Value.category, List.drop_succ_cons, List.drop_zero, List.take_succ_cons, List.take_zero, List.reverse_cons, List.reverse_nil, List.nil_append, List.cons_append, List.append_nil, List.map_cons, List.map_nil, List.sum_cons, List.sum_nil, List.length_cons, List.length_nil, Option.toList, cond_true, cond_false, Nat.reduceBEq, Nat.reduceAdd, Nat.reduceLeDiff, beq_self_eq_true, true_and, and_true, BEq.rfl, Bool.false_eq_true, if_true, if_false, menc_0, menc_1, menc_2, menc_3, menc_4, menc_5, menc_6, menc_7, menc_8, menc_9, menc_10, menc_11, menc_12, menc_13, menc_14, mf_0, mf_1, mf_2, mf_3, mf_4, mf_5, mf_6, mf_7, mf_8, mf_9, mf_10, mf_11, mf_12, mf_13, mf_14, mf_15, mf_16, mf_17, mf_18, mf_19, mf_20, mf_21, mf_22, mf_23, mf_24, mf_25, mf_26, mf_27, mf_28, mf_29, mf_30, mf_31, ms_4, ms_5, ms_6, ms_7, ms_8, ms_9, ms_10, ms_11, ms_12, ms_13, ms_14, ms_16, ms_17, ms_18, ms_19, ms_23, ms_24, ms_27, mu_1, mu_2, mu_3, mu_4, mu_5, mu_6, mu_7, mu_8, mu_9, mu_10, mu_11, mu_12, mu_13, mu_14]
    simp (disch := omega) only [true_and, and_true, lit, nI_add, nar_i, nar_0, nar_1, nar_b, fit_i, fit_l, pk_rem, nI_leI, nI_ltI, nI_eq, vin_iff, nI_clamp, nI_m1, lcmp_eq, Nat.reduceMul, Nat.reduceAdd, Nat.reduceLT]
    refine ⟨fun e => ?_, fun e => ?_⟩
    · simp only [e, true_and] at t12 t2 t3 t4 t23 t24 t7 t25
      simp only [t12, t2, t3, t4, t23, t24, t7, t25]
      repeat' first | (refine And.intro ?_ ?_) | intro _
      all_goals refine fin _ ?_
      all_goals simp_all [nmI, nmOf]
    · simp only [e, false_and] at t12 t2 t3 t4 t23 t24 t7 t25
      refine fin _ ?_
      have n12 : ¬ s = 12 := t12 ▸ id
      have n2 : ¬ s = 2 := t2 ▸ id
      have n3 : ¬ s = 3 := t3 ▸ id
      have n4 : ¬ s = 4 := t4 ▸ id
      have n23 : ¬ s = 23 := t23 ▸ id
      have n24 : ¬ s = 24 := t24 ▸ id
      have n7 : ¬ s = 7 := t7 ▸ id
      have n25 : ¬ s = 25 := t25 ▸ id
      simp [nmI, nmOf, n12, n2, n3, n4, n23, n24, n7, n25]
  · exact h.elim

