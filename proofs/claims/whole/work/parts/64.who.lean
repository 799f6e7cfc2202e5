/-! the reference: who there is, the ledger, meetings -/
def isPl (x : Int32) : Prop := nI 0 ≤ x ∧ x ≤ nI 29
def isCh (k x : Int32) : Prop := nI 0 ≤ x ∧ x ≤ k - nI 1
theorem isPl_of {x : Int32} (h : isPl x) : ∃ p, p < 30 ∧ x = nI p := by
  rcases int_in x 29 (by decide) with (q | q) | ⟨p, h1, h2⟩
  · exact absurd q (Int32.not_lt.mpr h.1)
  · exact absurd q (Int32.not_lt.mpr h.2)
  · exact ⟨p, by omega, h2⟩
theorem isCh_of {x : Int32} {k : Nat} (hk : k < 8) (h : isCh (nI k) x) : ∃ c, c < k ∧ x = nI c := by
  by_cases h0 : k = 0
  · subst h0
    exact absurd (Int32.le_trans h.1 h.2) (by decide)
  · obtain ⟨h1, h2⟩ := h
    rw [pk_sub (by omega)] at h2
    rcases int_in x (k - 1) (by omega) with (q | q) | ⟨p, g1, g2⟩
    · exact absurd q (Int32.not_lt.mpr h1)
    · exact absurd q (Int32.not_lt.mpr h2)
    · exact ⟨p, by omega, g2⟩
theorem isCh_i {c k : Nat} (h : c < k) (hk : k < 8) : isCh (nI k) (nI c) := ⟨nI_pos' (by omega), by rw [pk_sub (by omega)]; exact (nI_leI (by omega) (by omega)).mpr (by omega)⟩
theorem isPl_i {p : Nat} (h : p < 30) : isPl (nI p) := ⟨nI_pos' (by omega), (nI_leI (by omega) (by decide)).mpr (by omega)⟩
def entF (v what : Int32) : Int32 := if what = nI 0 then v / nI 12810 else if what = nI 1 then v / nI 1830 - v / nI 1830 / nI 7 * nI 7 else if what = nI 2 then v / nI 61 - v / nI 61 / nI 30 * nI 30 else v - v / nI 61 * nI 61
noncomputable def ledF (a : Nat → Int32) (ch : Int32) : Nat → Int32
  | 0 => nI 0
  | i + 1 => ledF a ch i + pif (ch = -nI 1 ∨ entF (a (3175 + i)) (nI 1) = ch) (entF (a (3175 + i)) (nI 3)) (nI 0)
def meetF (p s q t k : Nat) : Prop := (p + k * s) % 30 = (q + k * t) % 30
theorem bI_not {P : Prop} : (bI P = nI 0) = ¬ P := propext bI_0

def sp_X12_isPlace : gSp := fun as C n z Q => match as with
  | [.int x] => Q (some (.int (bI (isPl x)))) C n z
  | _ => False
set_option maxRecDepth 100000 in
set_option maxHeartbeats 4000000 in
theorem c_X12_isPlace (l : Launch) : Con l yX12_isPlace cX12_isPlace 1 (some .boolean) 1 0 0 sp_X12_isPlace := by
  refine m_X12_isPlace (c_X12_isIn l) (by decide) ?_
  intro as C0 n0 z0 Q h
  unfold sp_X12_isPlace at h
  split at h
  · rename_i x
    have hQ := h
    refine ⟨Nat.le_of_ble_eq_true rfl, ?_⟩
    · simp only [b_X12_isPlace_0, sp_X12_isIn, s_psh, s_ild, s_lld, s_ald, s_ist, s_lst, s_ast, s_inc, s_ib, s_ibz, s_iu, s_lb, s_lbz, s_lu, s_ls, s_il, s_li, s_cmp, s_dup, s_pop, s_dup2, s_if1, s_if2, s_ifn, s_cv, s_cs, s_ci, s_oi, s_get, s_put, s_iald, s_lald, s_zald, s_iast, s_last, s_zast, s_alen, s_iret, s_lret, s_aret, s_vret, s_al, gpad, gl, gst, gclr, gc2, gent, gcat, Value.category, List.drop_succ_cons, List.drop_zero, List.take_succ_cons, List.take_zero, List.reverse_cons, List.reverse_nil, List.nil_append, List.cons_append, List.append_nil, List.map_cons, List.map_nil, List.sum_cons, List.sum_nil, List.length_cons, List.length_nil, Option.toList, cond_true, cond_false, Nat.reduceBEq, Nat.reduceAdd, Nat.reduceLeDiff, beq_self_eq_true, true_and, and_true, BEq.rfl, Bool.false_eq_true, if_true, if_false, menc_0, menc_1, menc_2, menc_3, menc_4, menc_5, menc_6, menc_7, menc_8, menc_9, menc_10, menc_11, menc_12, menc_13, menc_14, mf_0, mf_1, mf_2, mf_3, mf_4, mf_5, mf_6, mf_7, mf_8, mf_9, mf_10, mf_11, mf_12, mf_13, mf_14, mf_15, mf_16, mf_17, mf_18, mf_19, mf_20, mf_21, mf_22, mf_23, mf_24, mf_25, mf_26, mf_27, mf_28, mf_29, mf_30, mf_31, ms_4, ms_5, ms_6, ms_7, ms_8, ms_9, ms_10, ms_11, ms_12, ms_13, ms_14, ms_16, ms_17, ms_18, ms_19, ms_23, ms_24, ms_27, mu_1, mu_2, mu_3, mu_4, mu_5, mu_6, mu_7, mu_8, mu_9, mu_10, mu_11, mu_12, mu_13, mu_14]
      simp (disch := omega) only [true_and, and_true, lit, nI_add, nar_i, nar_0, nar_1, nar_b, fit_i, fit_l, pk_rem, nI_leI, nI_ltI, nI_eq, vin_iff, nI_clamp, nI_m1]
      exact hQ
  · exact h.elim

def sp_X12_isChild : gSp := fun as C n z Q => match as with
  | [.ref m, .int x] => isM C m ∧ Q (some (.int (bI (isCh (garr C (m + 1) 0) x)))) C n z
  | _ => False
set_option maxRecDepth 100000 in
set_option maxHeartbeats 4000000 in
theorem c_X12_isChild (l : Launch) : Con l yX12_isChild cX12_isChild 2 (some .boolean) 1 0 0 sp_X12_isChild := by
  refine m_X12_isChild (c_X12_isIn l) (by decide) ?_
  intro as C0 n0 z0 Q h
  unfold sp_X12_isChild at h
  split at h
  · rename_i m x
    obtain ⟨⟨σ, w, A, L, R, rfl⟩, hQ⟩ := h
    simp only [ma_1] at hQ
    refine ⟨Nat.le_of_ble_eq_true rfl, ?_⟩
    · simp only [b_X12_isChild_0, sp_X12_isIn, s_psh, s_ild, s_lld, s_ald, s_ist, s_lst, s_ast, s_inc, s_ib, s_ibz, s_iu, s_lb, s_lbz, s_lu, s_ls, s_il, s_li, s_cmp, s_dup, s_pop, s_dup2, s_if1, s_if2, s_ifn, s_cv, s_cs, s_ci, s_oi, s_get, s_put, s_iald, s_lald, s_zald, s_iast, s_last, s_zast, s_alen, s_iret, s_lret, s_aret, s_vret, s_al, gpad, gl, gst, gclr, gc2, gent, gcat, Value.category, List.drop_succ_cons, List.drop_zero, List.take_succ_cons, List.take_zero, List.reverse_cons, List.reverse_nil, List.nil_append, List.cons_append, List.append_nil, List.map_cons, List.map_nil, List.sum_cons, List.sum_nil, List.length_cons, List.length_nil, Option.toList, cond_true, cond_false, Nat.reduceBEq, Nat.reduceAdd, Nat.reduceLeDiff, beq_self_eq_true, true_and, and_true, BEq.rfl, Bool.false_eq_true, if_true, if_false, menc_0, menc_1, menc_2, menc_3, menc_4, menc_5, menc_6, menc_7, menc_8, menc_9, menc_10, menc_11, menc_12, menc_13, menc_14, mf_0, mf_1, mf_2, mf_3, mf_4, mf_5, mf_6, mf_7, mf_8, mf_9, mf_10, mf_11, mf_12, mf_13, mf_14, mf_15, mf_16, mf_17, mf_18, mf_19, mf_20, mf_21, mf_22, mf_23, mf_24, mf_25, mf_26, mf_27, mf_28, mf_29, mf_30, mf_31, ms_4, ms_5, ms_6, ms_7, ms_8, ms_9, ms_10, ms_11, ms_12, ms_13, ms_14, ms_16, ms_17, ms_18, ms_19, ms_23, ms_24, ms_27, mu_1, mu_2, mu_3, mu_4, mu_5, mu_6, mu_7, mu_8, mu_9, mu_10, mu_11, mu_12, mu_13, mu_14]
      simp (disch := omega) only [true_and, and_true, lit, nI_add, nar_i, nar_0, nar_1, nar_b, fit_i, fit_l, pk_rem, nI_leI, nI_ltI, nI_eq, vin_iff, nI_clamp, nI_m1, Nat.reduceLT]
      exact hQ
  · exact h.elim

def sp_X12_areRunning : gSp := fun as C n z Q => match as with
  | [.ref m, .int x, .int y] => isM C m ∧ Q (some (.int (bI (isCh (garr C (m + 1) 0) x ∧ isPl y)))) C n z
  | _ => False
set_option maxRecDepth 100000 in
set_option maxHeartbeats 4000000 in
theorem c_X12_areRunning (l : Launch) : Con l yX12_areRunning cX12_areRunning 3 (some .boolean) 2 0 0 sp_X12_areRunning := by
  refine m_X12_areRunning (c_X12_isChild l) (by decide) (c_X12_isPlace l) (by decide) ?_
  intro as C0 n0 z0 Q h
  unfold sp_X12_areRunning at h
  split at h
  · rename_i m x y
    obtain ⟨⟨σ, w, A, L, R, rfl⟩, hQ⟩ := h
    simp only [ma_1] at hQ
    refine ⟨Nat.le_of_ble_eq_true rfl, ?_⟩
    · simp only [b_X12_areRunning_0, b_X12_areRunning_19, b_X12_areRunning_20, sp_X12_isChild, sp_X12_isPlace, isM_menc, ma_1, s_psh, s_ild, s_lld, s_ald, s_ist, s_lst, s_ast, s_inc, s_ib, s_ibz, s_iu, s_lb, s_lbz, s_lu, s_ls, s_il, s_li, s_cmp, s_dup, s_pop, s_dup2, s_if1, s_if2, s_ifn, s_cv, s_cs, s_ci, s_oi, s_get, s_put, s_iald, s_lald, s_zald, s_iast, s_last, s_zast, s_alen, s_iret, s_lret, s_aret, s_vret, s_al, gpad, gl, gst, gclr, gc2, gent, gcat, Value.category, List.drop_succ_cons, List.drop_zero, List.take_succ_cons, List.take_zero, List.reverse_cons, List.reverse_nil, List.nil_append, List.cons_append, List.append_nil, List.map_cons, List.map_nil, List.sum_cons, List.sum_nil, List.length_cons, List.length_nil, Option.toList, cond_true, cond_false, Nat.reduceBEq, Nat.reduceAdd, Nat.reduceLeDiff, beq_self_eq_true, true_and, and_true, BEq.rfl, Bool.false_eq_true, if_true, if_false, menc_0, menc_1, menc_2, menc_3, menc_4, menc_5, menc_6, menc_7, menc_8, menc_9, menc_10, menc_11, menc_12, menc_13, menc_14, mf_0, mf_1, mf_2, mf_3, mf_4, mf_5, mf_6, mf_7, mf_8, mf_9, mf_10, mf_11, mf_12, mf_13, mf_14, mf_15, mf_16, mf_17, mf_18, mf_19, mf_20, mf_21, mf_22, mf_23, mf_24, mf_25, mf_26, mf_27, mf_28, mf_29, mf_30, mf_31, ms_4, ms_5, ms_6, ms_7, ms_8, ms_9, ms_10, ms_11, ms_12, ms_13, ms_14, ms_16, ms_17, ms_18, ms_19, ms_23, ms_24, ms_27, mu_1, mu_2, mu_3, mu_4, mu_5, mu_6, mu_7, mu_8, mu_9, mu_10, mu_11, mu_12, mu_13, mu_14]
      simp (disch := omega) only [true_and, and_true, lit, nI_add, nar_i, nar_0, nar_1, nar_b, fit_i, fit_l, pk_rem, nI_leI, nI_ltI, nI_eq, vin_iff, nI_clamp, nI_m1, bI_0]
      refine ⟨fun e => ?_, fun e => ⟨fun g => ?_, fun g => ?_⟩⟩
      · rw [bI_f (fun q => e q.1)] at hQ; exact hQ
      · rw [bI_f (fun q => g q.2)] at hQ; exact hQ
      · rw [bI_t ⟨Classical.not_not.mp e, Classical.not_not.mp g⟩] at hQ; exact hQ
  · exact h.elim

def sp_X12_entry : gSp := fun as C n z Q => match as with
  | [.ref m, .int x, .int y] => isM C m ∧ vp_in x 30 ∧ Q (some (.int (entF (garr C (m + 1) (3175 + x.toNatClampNeg)) y))) C n z
  | _ => False
set_option maxRecDepth 100000 in
set_option maxHeartbeats 4000000 in
theorem c_X12_entry (l : Launch) : Con l yX12_entry cX12_entry 4 (some .int) 0 0 0 sp_X12_entry := by
  refine m_X12_entry ?_
  intro as C0 n0 z0 Q h
  unfold sp_X12_entry at h
  split at h
  · rename_i m x y
    obtain ⟨⟨σ, w, A, L, R, rfl⟩, hx, hQ⟩ := h
    obtain ⟨i, hi, rfl⟩ := vp_in_of hx (by decide)
    simp (disch := omega) only [nI_clamp, ma_1] at hQ
    refine ⟨Nat.le_of_ble_eq_true rfl, ?_⟩
    · simp only [b_X12_entry_0, b_X12_entry_58, s_psh, s_ild, s_lld, s_ald, s_ist, s_lst, s_ast, s_inc, s_ib, s_ibz, s_iu, s_lb, s_lbz, s_lu, s_ls, s_il, s_li, s_cmp, s_dup, s_pop, s_dup2, s_if1, s_if2, s_ifn, s_cv, s_cs, s_ci, s_oi, s_get, s_put, s_iald, s_lald, s_zald, s_iast, s_last, s_zast, s_alen, s_iret, s_lret, s_aret, s_vret, s_al, gpad, gl, gst, gclr, gc2, gent, gcat, Value.category, List.drop_succ_cons, List.drop_zero, List.take_succ_cons, List.take_zero, List.reverse_cons, List.reverse_nil, List.nil_append, List.cons_append, List.append_nil, List.map_cons, List.map_nil, List.sum_cons, List.sum_nil, List.length_cons, List.length_nil, Option.toList, cond_true, cond_false, Nat.reduceBEq, Nat.reduceAdd, Nat.reduceLeDiff, beq_self_eq_true, true_and, and_true, BEq.rfl, Bool.false_eq_true, if_true, if_false, menc_0, menc_1, menc_2, menc_3, menc_4, menc_5, menc_6, menc_7, menc_8, menc_9, menc_10, menc_11, menc_12, menc_13, menc_14, mf_0, mf_1, mf_2, mf_3, mf_4, mf_5, mf_6, mf_7, mf_8, mf_9, mf_10, mf_11, mf_12, mf_13, mf_14, mf_15, mf_16, mf_17, mf_18, mf_19, mf_20, mf_21, mf_22, mf_23, mf_24, mf_25, mf_26, mf_27, mf_28, mf_29, mf_30, mf_31, ms_4, ms_5, ms_6, ms_7, ms_8, ms_9, ms_10, ms_11, ms_12, ms_13, ms_14, ms_16, ms_17, ms_18, ms_19, ms_23, ms_24, ms_27, mu_1, mu_2, mu_3, mu_4, mu_5, mu_6, mu_7, mu_8, mu_9, mu_10, mu_11, mu_12, mu_13, mu_14]
      simp (disch := omega) only [true_and, and_true, lit, nI_add, nar_i, nar_0, nar_1, nar_b, fit_i, fit_l, pk_rem, nI_leI, nI_ltI, nI_eq, vin_iff, nI_clamp, nI_m1]
      unfold entF at hQ
      refine ⟨by omega, fun e => ⟨by omega, ?_⟩, fun e => ⟨fun e1 => ⟨by omega, by omega, ?_⟩, fun e1 => ⟨fun e2 => ⟨by omega, by omega, ?_⟩, fun e2 => ⟨by omega, ?_⟩⟩⟩⟩
      · rw [if_pos e] at hQ; exact hQ
      · rw [if_neg e, if_pos e1] at hQ; exact hQ
      · rw [if_neg e, if_neg e1, if_pos e2] at hQ; exact hQ
      · rw [if_neg e, if_neg e1, if_neg e2] at hQ; exact hQ
  · exact h.elim

def sp_X12_ledger : gSp := fun as C n z Q => match as with
  | [.ref m, .int x] => isM C m ∧ vp_in (garr C (m + 1) 8) 31 ∧ Q (some (.int (pif (x = -nI 1 ∨ isCh (garr C (m + 1) 0) x) (ledF (garr C (m + 1)) x (garr C (m + 1) 8).toNatClampNeg) (-nI 2)))) C n z
  | _ => False
set_option maxRecDepth 100000 in
set_option maxHeartbeats 4000000 in
theorem c_X12_ledger (l : Launch) : Con l yX12_ledger cX12_ledger 4 (some .int) 2 0 0 sp_X12_ledger := by
  refine m_X12_ledger (c_X12_entry l) (by decide) (c_X12_isChild l) (by decide) ?_
  intro as C0 n0 z0 Q h
  unfold sp_X12_ledger at h
  split at h
  · rename_i m x
    obtain ⟨⟨σ, w, A, L, R, rfl⟩, hb, hQ⟩ := h
    simp only [ma_1] at hb hQ
    obtain ⟨b, hb, hA⟩ := vp_in_of hb (by decide)
    rw [hA] at hQ
    simp (disch := omega) only [nI_clamp] at hQ
    by_cases hx : x = -nI 1 ∨ isCh (A 1 0) x
    rotate_left
    · rw [pif_f hx] at hQ
      refine ⟨Nat.le_of_ble_eq_true rfl, fun _ _ _ _ _ _ _ => False, ?_, fun _ _ _ _ _ _ h => h.elim⟩
      simp only [b_X12_ledger_0, b_X12_ledger_16, sp_X12_isChild, isM_menc, ma_1, s_psh, s_ild, s_lld, s_ald, s_ist, s_lst, s_ast, s_inc, s_ib, s_ibz, s_iu, s_lb, s_lbz, s_lu, s_ls, s_il, s_li, s_cmp, s_dup, s_pop, s_dup2, s_if1, s_if2, s_ifn, s_cv, s_cs, s_ci, s_oi, s_get, s_put, s_iald, s_lald, s_zald, s_iast, s_last, s_zast, s_alen, s_iret, s_lret, s_aret, s_vret, s_al, gpad, gl, gst, gclr, gc2, gent, gcat, Value.category, List.drop_succ_cons, List.drop_zero, List.take_succ_cons, List.take_zero, List.reverse_cons, List.reverse_nil, List.nil_append, List.cons_append, List.append_nil, List.map_cons, List.map_nil, List.sum_cons, List.sum_nil, List.length_cons, List.length_nil, Option.toList, cond_true, cond_false, Nat.reduceBEq, Nat.reduceAdd, Nat.reduceLeDiff, beq_self_eq_true, true_and, and_true, BEq.rfl, Bool.false_eq_true, if_true, if_false, menc_0, menc_1, menc_2, menc_3, menc_4, menc_5, menc_6, menc_7, menc_8, menc_9, menc_10, menc_11, menc_12, menc_13, menc_14, mf_0, mf_1, mf_2, mf_3, mf_4, mf_5, mf_6, mf_7, mf_8, mf_9, mf_10, mf_11, mf_12, mf_13, mf_14, mf_15, mf_16, mf_17, mf_18, mf_19, mf_20, mf_21, mf_22, mf_23, mf_24, mf_25, mf_26, mf_27, mf_28, mf_29, mf_30, mf_31, ms_4, ms_5, ms_6, ms_7, ms_8, ms_9, ms_10, ms_11, ms_12, ms_13, ms_14, ms_16, ms_17, ms_18, ms_19, ms_23, ms_24, ms_27, mu_1, mu_2, mu_3, mu_4, mu_5, mu_6, mu_7, mu_8, mu_9, mu_10, mu_11, mu_12, mu_13, mu_14]
      simp (disch := omega) only [true_and, and_true, lit, nI_add, nar_i, nar_0, nar_1, nar_b, fit_i, fit_l, pk_rem, nI_leI, nI_ltI, nI_eq, vin_iff, nI_clamp, nI_m1, bI_0]
      exact ⟨fun q => absurd (Or.inl q) hx, fun _ => ⟨fun _ => hQ, fun q => absurd (Or.inr (Classical.not_not.mp q)) hx⟩⟩
    rw [pif_t hx] at hQ
    refine ⟨Nat.le_of_ble_eq_true rfl, fun pc μ lv st C n z => ∃ i, i ≤ b ∧ μ = b - i ∧ lv = [some (.ref m), some (.int x), some (.int (ledF (A 1) x i)), some (.int (nI i))] ∧ st = [] ∧ C = menc m σ w A L R ∧ n = n0 ∧ z = z0, ?_, ?_⟩
    · simp only [b_X12_ledger_0, b_X12_ledger_16, sp_X12_isChild, isM_menc, ma_1, s_psh, s_ild, s_lld, s_ald, s_ist, s_lst, s_ast, s_inc, s_ib, s_ibz, s_iu, s_lb, s_lbz, s_lu, s_ls, s_il, s_li, s_cmp, s_dup, s_pop, s_dup2, s_if1, s_if2, s_ifn, s_cv, s_cs, s_ci, s_oi, s_get, s_put, s_iald, s_lald, s_zald, s_iast, s_last, s_zast, s_alen, s_iret, s_lret, s_aret, s_vret, s_al, gpad, gl, gst, gclr, gc2, gent, gcat, Value.category, List.drop_succ_cons, List.drop_zero, List.take_succ_cons, List.take_zero, List.reverse_cons, List.reverse_nil, List.nil_append, List.cons_append, List.append_nil, List.map_cons, List.map_nil, List.sum_cons, List.sum_nil, List.length_cons, List.length_nil, Option.toList, cond_true, cond_false, Nat.reduceBEq, Nat.reduceAdd, Nat.reduceLeDiff, beq_self_eq_true, true_and, and_true, BEq.rfl, Bool.false_eq_true, if_true, if_false, menc_0, menc_1, menc_2, menc_3, menc_4, menc_5, menc_6, menc_7, menc_8, menc_9, menc_10, menc_11, menc_12, menc_13, menc_14, mf_0, mf_1, mf_2, mf_3, mf_4, mf_5, mf_6, mf_7, mf_8, mf_9, mf_10, mf_11, mf_12, mf_13, mf_14, mf_15, mf_16, mf_17, mf_18, mf_19, mf_20, mf_21, mf_22, mf_23, mf_24, mf_25, mf_26, mf_27, mf_28, mf_29, mf_30, mf_31, ms_4, ms_5, ms_6, ms_7, ms_8, ms_9, ms_10, ms_11, ms_12, ms_13, ms_14, ms_16, ms_17, ms_18, ms_19, ms_23, ms_24, ms_27, mu_1, mu_2, mu_3, mu_4, mu_5, mu_6, mu_7, mu_8, mu_9, mu_10, mu_11, mu_12, mu_13, mu_14]
      simp (disch := omega) only [true_and, and_true, lit, nI_add, nar_i, nar_0, nar_1, nar_b, fit_i, fit_l, pk_rem, nI_leI, nI_ltI, nI_eq, vin_iff, nI_clamp, nI_m1, bI_0]
      exact ⟨fun q => ⟨_, 0, by omega, rfl, rfl⟩, fun q => ⟨fun e => absurd hx (fun z => z.elim q e), fun _ => ⟨_, 0, by omega, rfl, rfl⟩⟩⟩
    · rintro μ lv st C n z ⟨i, hi, rfl, rfl, rfl, rfl, rfl, rfl⟩
      simp only [b_X12_ledger_20, b_X12_ledger_47, b_X12_ledger_57, sp_X12_entry, isM_menc, ma_1, s_psh, s_ild, s_lld, s_ald, s_ist, s_lst, s_ast, s_inc, s_ib, s_ibz, s_iu, s_lb, s_lbz, s_lu, s_ls, s_il, s_li, s_cmp, s_dup, s_pop, s_dup2, s_if1, s_if2, s_ifn, s_cv, s_cs, s_ci, s_oi, s_get, s_put, s_iald, s_lald, s_zald, s_iast, s_last, s_zast, s_alen, s_iret, s_lret, s_aret, s_vret, s_al, gpad, gl, gst, gclr, gc2, gent, gcat, Value.category, List.drop_succ_cons, List.drop_zero, List.take_succ_cons, List.take_zero, List.reverse_cons, List.reverse_nil, List.nil_append, List.cons_append, List.append_nil, List.map_cons, List.map_nil, List.sum_cons, List.sum_nil, List.length_cons, List.length_nil, Option.toList, cond_true, cond_false, Nat.reduceBEq, Nat.reduceAdd, Nat.reduceLeDiff, beq_self_eq_true, true_and, and_true, BEq.rfl, Bool.false_eq_true, if_true, if_false, menc_0, menc_1, menc_2, menc_3, menc_4, menc_5, menc_6, menc_7, menc_8, menc_9, menc_10, menc_11, menc_12, menc_13, menc_14, mf_0, mf_1, mf_2, mf_3, mf_4, mf_5, mf_6, mf_7, mf_8, mf_9, mf_10, mf_11, mf_12, mf_13, mf_14, mf_15, mf_16, mf_17, mf_18, mf_19, mf_20, mf_21, mf_22, mf_23, mf_24, mf_25, mf_26, mf_27, mf_28, mf_29, mf_30, mf_31, ms_4, ms_5, ms_6, ms_7, ms_8, ms_9, ms_10, ms_11, ms_12, ms_13, ms_14, ms_16, ms_17, ms_18, ms_19, ms_23, ms_24, ms_27, mu_1, mu_2, mu_3, mu_4, mu_5, mu_6, mu_7, mu_8, mu_9, mu_10, mu_11, mu_12, mu_13, mu_14]
      simp (disch := omega) only [true_and, and_true, lit, nI_add, nar_i, nar_0, nar_1, nar_b, fit_i, fit_l, pk_rem, nI_leI, nI_ltI, nI_eq, vin_iff, nI_clamp, nI_m1, hA]
      have step : ∀ (P : Prop), P = (x = -nI 1 ∨ entF (A 1 (3175 + i)) (nI 1) = x) → ledF (A 1) x (i + 1) = ledF (A 1) x i + pif P (entF (A 1 (3175 + i)) (nI 3)) (nI 0) := fun P e => by rw [e]; rfl
      refine ⟨by omega, fun h => ?_, fun h => ⟨fun e => ⟨by omega, _, ?_, i + 1, by omega, rfl, ?_⟩, fun e => ⟨by omega, fun g => ⟨by omega, _, ?_, i + 1, by omega, rfl, ?_⟩, fun g => ⟨_, ?_, i + 1, by omega, rfl, ?_⟩⟩⟩⟩
      · rw [show b = i by omega] at hQ; exact hQ
      · omega
      · rw [step _ rfl, pif_t (Or.inl e)]
      · omega
      · rw [step _ rfl, pif_t (Or.inr g)]
      · omega
      · rw [step _ rfl, pif_f (fun z => z.elim e g)]
  · exact h.elim

def sp_X12_meet : gSp := fun as C n z Q => match as with
  | [.ref m, .int x, .int y, .int u, .int v] => isM C m ∧ vp_in (garr C (m + 1) 0) 8 ∧ (∀ c, c < 7 → vp_in (garr C (m + 1) (76 + c)) 10) ∧ (¬ ((isCh (garr C (m + 1) 0) x ∧ isPl y) ∧ (isCh (garr C (m + 1) 0) u ∧ isPl v)) → Q (some (.int (-nI 1))) C n z) ∧ ((isCh (garr C (m + 1) 0) x ∧ isPl y) → (isCh (garr C (m + 1) 0) u ∧ isPl v) → (∀ k, k < 30 → meetF y.toNatClampNeg (garr C (m + 1) (76 + x.toNatClampNeg)).toNatClampNeg v.toNatClampNeg (garr C (m + 1) (76 + u.toNatClampNeg)).toNatClampNeg k → (∀ j, j < k → ¬ meetF y.toNatClampNeg (garr C (m + 1) (76 + x.toNatClampNeg)).toNatClampNeg v.toNatClampNeg (garr C (m + 1) (76 + u.toNatClampNeg)).toNatClampNeg j) → Q (some (.int (nI k))) C n z) ∧ ((∀ j, j < 30 → ¬ meetF y.toNatClampNeg (garr C (m + 1) (76 + x.toNatClampNeg)).toNatClampNeg v.toNatClampNeg (garr C (m + 1) (76 + u.toNatClampNeg)).toNatClampNeg j) → Q (some (.int (-nI 1))) C n z))
  | _ => False
set_option maxRecDepth 100000 in
set_option maxHeartbeats 4000000 in
theorem c_X12_meet (l : Launch) : Con l yX12_meet cX12_meet 6 (some .int) 3 0 0 sp_X12_meet := by
  refine m_X12_meet (c_X12_areRunning l) (by decide) ?_
  intro as C0 n0 z0 Q h
  unfold sp_X12_meet at h
  split at h
  · rename_i m x y u v
    obtain ⟨⟨σ, w, A, L, R, rfl⟩, hk, hst, hQ0, hQ1⟩ := h
    simp only [ma_1] at hk hst hQ0 hQ1
    by_cases ha : isCh (A 1 0) x ∧ isPl y
    rotate_left
    · refine ⟨Nat.le_of_ble_eq_true rfl, fun _ _ _ _ _ _ _ => False, ?_, fun _ _ _ _ _ _ h => h.elim⟩
      simp only [b_X12_meet_0, b_X12_meet_19, sp_X12_areRunning, isM_menc, ma_1, s_psh, s_ild, s_lld, s_ald, s_ist, s_lst, s_ast, s_inc, s_ib, s_ibz, s_iu, s_lb, s_lbz, s_lu, s_ls, s_il, s_li, s_cmp, s_dup, s_pop, s_dup2, s_if1, s_if2, s_ifn, s_cv, s_cs, s_ci, s_oi, s_get, s_put, s_iald, s_lald, s_zald, s_iast, s_last, s_zast, s_alen, s_iret, s_lret, s_aret, s_vret, s_al, gpad, gl, gst, gclr, gc2, gent, gcat, Value.category, List.drop_succ_cons, List.drop_zero, List.take_succ_cons, List.take_zero, List.reverse_cons, List.reverse_nil, List.nil_append, List.cons_append, List.append_nil, List.map_cons, List.map_nil, List.sum_cons, List.sum_nil, List.length_cons, List.length_nil, Option.toList, cond_true, cond_false, Nat.reduceBEq, Nat.reduceAdd, Nat.reduceLeDiff, beq_self_eq_true, true_and, and_true, BEq.rfl, Bool.false_eq_true, if_true, if_false, menc_0, menc_1, menc_2, menc_3, menc_4, menc_5, menc_6, menc_7, menc_8, menc_9, menc_10, menc_11, menc_12, menc_13, menc_14, mf_0, mf_1, mf_2, mf_3, mf_4, mf_5, mf_6, mf_7, mf_8, mf_9, mf_10, mf_11, mf_12, mf_13, mf_14, mf_15, mf_16, mf_17, mf_18, mf_19, mf_20, mf_21, mf_22, mf_23, mf_24, mf_25, mf_26, mf_27, mf_28, mf_29, mf_30, mf_31, ms_4, ms_5, ms_6, ms_7, ms_8, ms_9, ms_10, ms_11, ms_12, ms_13, ms_14, ms_16, ms_17, ms_18, ms_19, ms_23, ms_24, ms_27, mu_1, mu_2, mu_3, mu_4, mu_5, mu_6, mu_7, mu_8, mu_9, mu_10, mu_11, mu_12, mu_13, mu_14]
      simp (disch := omega) only [true_and, and_true, lit, nI_add, nar_i, nar_0, nar_1, nar_b, fit_i, fit_l, pk_rem, nI_leI, nI_ltI, nI_eq, vin_iff, nI_clamp, nI_m1, bI_0]
      exact ⟨fun _ => hQ0 (fun q => ha q.1), fun q => absurd (Classical.not_not.mp q) ha⟩
    by_cases hb : isCh (A 1 0) u ∧ isPl v
    rotate_left
    · refine ⟨Nat.le_of_ble_eq_true rfl, fun _ _ _ _ _ _ _ => False, ?_, fun _ _ _ _ _ _ h => h.elim⟩
      simp only [b_X12_meet_0, b_X12_meet_19, sp_X12_areRunning, isM_menc, ma_1, s_psh, s_ild, s_lld, s_ald, s_ist, s_lst, s_ast, s_inc, s_ib, s_ibz, s_iu, s_lb, s_lbz, s_lu, s_ls, s_il, s_li, s_cmp, s_dup, s_pop, s_dup2, s_if1, s_if2, s_ifn, s_cv, s_cs, s_ci, s_oi, s_get, s_put, s_iald, s_lald, s_zald, s_iast, s_last, s_zast, s_alen, s_iret, s_lret, s_aret, s_vret, s_al, gpad, gl, gst, gclr, gc2, gent, gcat, Value.category, List.drop_succ_cons, List.drop_zero, List.take_succ_cons, List.take_zero, List.reverse_cons, List.reverse_nil, List.nil_append, List.cons_append, List.append_nil, List.map_cons, List.map_nil, List.sum_cons, List.sum_nil, List.length_cons, List.length_nil, Option.toList, cond_true, cond_false, Nat.reduceBEq, Nat.reduceAdd, Nat.reduceLeDiff, beq_self_eq_true, true_and, and_true, BEq.rfl, Bool.false_eq_true, if_true, if_false, menc_0, menc_1, menc_2, menc_3, menc_4, menc_5, menc_6, menc_7, menc_8, menc_9, menc_10, menc_11, menc_12, menc_13, menc_14, mf_0, mf_1, mf_2, mf_3, mf_4, mf_5, mf_6, mf_7, mf_8, mf_9, mf_10, mf_11, mf_12, mf_13, mf_14, mf_15, mf_16, mf_17, mf_18, mf_19, mf_20, mf_21, mf_22, mf_23, mf_24, mf_25, mf_26, mf_27, mf_28, mf_29, mf_30, mf_31, ms_4, ms_5, ms_6, ms_7, ms_8, ms_9, ms_10, ms_11, ms_12, ms_13, ms_14, ms_16, ms_17, ms_18, ms_19, ms_23, ms_24, ms_27, mu_1, mu_2, mu_3, mu_4, mu_5, mu_6, mu_7, mu_8, mu_9, mu_10, mu_11, mu_12, mu_13, mu_14]
      simp (disch := omega) only [true_and, and_true, lit, nI_add, nar_i, nar_0, nar_1, nar_b, fit_i, fit_l, pk_rem, nI_leI, nI_ltI, nI_eq, vin_iff, nI_clamp, nI_m1, bI_0]
      exact ⟨fun q => absurd ha q, fun _ => ⟨fun _ => hQ0 (fun q => hb q.2), fun q => absurd (Classical.not_not.mp q) hb⟩⟩
    obtain ⟨hQ1, hQ2⟩ := hQ1 ha hb
    obtain ⟨k, hk, hA⟩ := vp_in_of hk (by decide)
    rw [hA] at ha hb
    obtain ⟨c, hc, rfl⟩ := isCh_of hk ha.1
    obtain ⟨p, hp, rfl⟩ := isPl_of ha.2
    obtain ⟨d, hd, rfl⟩ := isCh_of hk hb.1
    obtain ⟨q, hq, rfl⟩ := isPl_of hb.2
    obtain ⟨s, hs, hAs⟩ := vp_in_of (hst c (by omega)) (by decide)
    obtain ⟨t, ht, hAt⟩ := vp_in_of (hst d (by omega)) (by decide)
    simp (disch := omega) only [nI_clamp, hAs, hAt] at hQ1 hQ2
    refine ⟨Nat.le_of_ble_eq_true rfl, fun pc μ lv st C n z => ∃ i, i ≤ 30 ∧ μ = 30 - i ∧ lv = [some (.ref m), some (.int (nI c)), some (.int (nI p)), some (.int (nI d)), some (.int (nI q)), some (.int (nI i))] ∧ st = [] ∧ C = menc m σ w A L R ∧ n = n0 ∧ z = z0 ∧ (∀ j, j < i → ¬ meetF p s q t j), ?_, ?_⟩
    · simp only [b_X12_meet_0, b_X12_meet_19, sp_X12_areRunning, isM_menc, ma_1, s_psh, s_ild, s_lld, s_ald, s_ist, s_lst, s_ast, s_inc, s_ib, s_ibz, s_iu, s_lb, s_lbz, s_lu, s_ls, s_il, s_li, s_cmp, s_dup, s_pop, s_dup2, s_if1, s_if2, s_ifn, s_cv, s_cs, s_ci, s_oi, s_get, s_put, s_iald, s_lald, s_zald, s_iast, s_last, s_zast, s_alen, s_iret, s_lret, s_aret, s_vret, s_al, gpad, gl, gst, gclr, gc2, gent, gcat, Value.category, List.drop_succ_cons, List.drop_zero, List.take_succ_cons, List.take_zero, List.reverse_cons, List.reverse_nil, List.nil_append, List.cons_append, List.append_nil, List.map_cons, List.map_nil, List.sum_cons, List.sum_nil, List.length_cons, List.length_nil, Option.toList, cond_true, cond_false, Nat.reduceBEq, Nat.reduceAdd, Nat.reduceLeDiff, beq_self_eq_true, true_and, and_true, BEq.rfl, Bool.false_eq_true, if_true, if_false, menc_0, menc_1, menc_2, menc_3, menc_4, menc_5, menc_6, menc_7, menc_8, menc_9, menc_10, menc_11, menc_12, menc_13, menc_14, mf_0, mf_1, mf_2, mf_3, mf_4, mf_5, mf_6, mf_7, mf_8, mf_9, mf_10, mf_11, mf_12, mf_13, mf_14, mf_15, mf_16, mf_17, mf_18, mf_19, mf_20, mf_21, mf_22, mf_23, mf_24, mf_25, mf_26, mf_27, mf_28, mf_29, mf_30, mf_31, ms_4, ms_5, ms_6, ms_7, ms_8, ms_9, ms_10, ms_11, ms_12, ms_13, ms_14, ms_16, ms_17, ms_18, ms_19, ms_23, ms_24, ms_27, mu_1, mu_2, mu_3, mu_4, mu_5, mu_6, mu_7, mu_8, mu_9, mu_10, mu_11, mu_12, mu_13, mu_14]
      simp (disch := omega) only [true_and, and_true, lit, nI_add, nar_i, nar_0, nar_1, nar_b, fit_i, fit_l, pk_rem, nI_leI, nI_ltI, nI_eq, vin_iff, nI_clamp, nI_m1, bI_0, hA]
      exact ⟨fun z => absurd ha z, fun _ => ⟨fun z => absurd hb z, fun _ => ⟨_, 0, by omega, rfl, rfl, fun _ h => absurd h (by omega)⟩⟩⟩
    · rintro μ lv st C n z ⟨i, hi, rfl, rfl, rfl, rfl, rfl, rfl, hall⟩
      simp only [b_X12_meet_24, s_psh, s_ild, s_lld, s_ald, s_ist, s_lst, s_ast, s_inc, s_ib, s_ibz, s_iu, s_lb, s_lbz, s_lu, s_ls, s_il, s_li, s_cmp, s_dup, s_pop, s_dup2, s_if1, s_if2, s_ifn, s_cv, s_cs, s_ci, s_oi, s_get, s_put, s_iald, s_lald, s_zald, s_iast, s_last, s_zast, s_alen, s_iret, s_lret, s_aret, s_vret, s_al, gpad, gl, gst, gclr, gc2, gent, gcat, Value.category, List.drop_succ_cons, List.drop_zero, List.take_succ_cons, List.take_zero, List.reverse_cons, List.reverse_nil, List.nil_append, List.cons_append, List.append_nil, List.map_cons, List.map_nil, List.sum_cons, List.sum_nil, List.length_cons, List.length_nil, Option.toList, cond_true, cond_false, Nat.reduceBEq, Nat.reduceAdd, Nat.reduceLeDiff, beq_self_eq_true, true_and, and_true, BEq.rfl, Bool.false_eq_true, if_true, if_false, menc_0, menc_1, menc_2, menc_3, menc_4, menc_5, menc_6, menc_7, menc_8, menc_9, menc_10, menc_11, menc_12, menc_13, menc_14, mf_0, mf_1, mf_2, mf_3, mf_4, mf_5, mf_6, mf_7, mf_8, mf_9, mf_10, mf_11, mf_12, mf_13, mf_14, mf_15, mf_16, mf_17, mf_18, mf_19, mf_20, mf_21, mf_22, mf_23, mf_24, mf_25, mf_26, mf_27, mf_28, mf_29, mf_30, mf_31, ms_4, ms_5, ms_6, ms_7, ms_8, ms_9, ms_10, ms_11, ms_12, ms_13, ms_14, ms_16, ms_17, ms_18, ms_19, ms_23, ms_24, ms_27, mu_1, mu_2, mu_3, mu_4, mu_5, mu_6, mu_7, mu_8, mu_9, mu_10, mu_11, mu_12, mu_13, mu_14]
      simp (disch := omega) only [true_and, and_true, lit, nI_add, nar_i, nar_0, nar_1, nar_b, fit_i, fit_l, pk_rem, nI_leI, nI_ltI, nI_eq, vin_iff, nI_clamp, nI_m1, hA]
      have hm1 : i * s < 300 := Nat.lt_of_le_of_lt (Nat.mul_le_mul hi (Nat.le_of_lt_succ hs)) (by decide)
      have hm2 : i * t < 300 := Nat.lt_of_le_of_lt (Nat.mul_le_mul hi (Nat.le_of_lt_succ ht)) (by decide)
      simp (disch := omega) only [true_and, and_true, lit, nI_add, nar_i, nar_0, nar_1, nar_b, fit_i, fit_l, pk_rem, nI_leI, nI_ltI, nI_eq, vin_iff, nI_clamp, nI_m1, hAs, hAt, pk_mul]
      refine ⟨fun h => hQ2 (fun j hj => hall j (by omega)), fun h => ⟨by omega, by omega, by omega, by omega, fun e => hQ1 i (by omega) e hall, fun e => ⟨_, ?_, i + 1, by omega, rfl, rfl, lt_s hall e⟩⟩⟩
      omega
  · exact h.elim
