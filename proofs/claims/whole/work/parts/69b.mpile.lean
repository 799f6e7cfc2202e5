/-! the reference: words, ranks, the pile -/
def sp_X12_w2 : gSp := fun as C n z Q => match as with
  | [.int x, .int y] => vp_in x 256 ∧ vp_in y 256 ∧ Q (some (.long (lN (x.toNatClampNeg * 256 + y.toNatClampNeg)))) C n z
  | _ => False
theorem shl8' {w b : Nat} (h : w < 2 ^ 48) (hb : b < 256) : lN w <<< (lN 8 &&& 63) ||| lN b = lN (w * 256 + b) := by
  rw [pk_lshl _ 8 (by decide) (by omega), lN_or, show (2 : Nat) ^ 8 = 256 from rfl, or_byte hb]
set_option maxRecDepth 100000 in
theorem c_X12_w2 (l : Launch) : Con l yX12_w2 cX12_w2 2 (some .long) 0 0 0 sp_X12_w2 := by
  refine m_X12_w2 ?_
  intro as C0 n0 z0 Q h
  unfold sp_X12_w2 at h
  split at h
  · obtain ⟨hx, hy, h⟩ := h
    obtain ⟨a, ha, rfl⟩ := vp_in_of hx (by decide)
    obtain ⟨b, hb, rfl⟩ := vp_in_of hy (by decide)
    refine ⟨Nat.le_of_ble_eq_true rfl, ?_⟩
    simp only [b_X12_w2_0, s_psh, s_ild, s_lld, s_ald, s_ist, s_lst, s_ast, s_inc, s_ib, s_ibz, s_iu, s_lb, s_lbz, s_lu, s_ls, s_il, s_li, s_cmp, s_dup, s_pop, s_dup2, s_if1, s_if2, s_ifn, s_cv, s_cs, s_ci, s_oi, s_get, s_put, s_iald, s_lald, s_zald, s_iast, s_last, s_zast, s_alen, s_iret, s_lret, s_aret, s_vret, s_al, gpad, gl, gst, gclr, gc2, gent, gcat, Value.category, List.drop_succ_cons, List.drop_zero, List.take_succ_cons, List.take_zero, List.reverse_cons, List.reverse_nil, List.nil_append, List.cons_append, List.append_nil, List.map_cons, List.map_nil, List.sum_cons, List.sum_nil, List.length_cons, List.length_nil, Option.toList, cond_true, cond_false, Nat.reduceBEq, Nat.reduceAdd, Nat.reduceLeDiff, beq_self_eq_true, true_and, and_true, BEq.rfl, Bool.false_eq_true, if_true, if_false, menc_0, menc_1, menc_2, menc_3, menc_4, menc_5, menc_6, menc_7, menc_8, menc_9, menc_10, menc_11, menc_12, menc_13, menc_14, mf_0, mf_1, mf_2, mf_3, mf_4, mf_5, mf_6, mf_7, mf_8, mf_9, mf_10, mf_11, mf_12, mf_13, mf_14, mf_15, mf_16, mf_17, mf_18, mf_19, mf_20, mf_21, mf_22, mf_23, mf_24, mf_25, mf_26, mf_27, mf_28, mf_29, mf_30, mf_31, ms_4, ms_5, ms_6, ms_7, ms_8, ms_9, ms_10, ms_11, ms_12, ms_13, ms_14, ms_16, ms_17, ms_18, ms_19, ms_23, ms_24, ms_27, mu_1, mu_2, mu_3, mu_4, mu_5, mu_6, mu_7, mu_8, mu_9, mu_10, mu_11, mu_12, mu_13, mu_14]
    simp (disch := omega) only [true_and, and_true, lit, nI_add, nar_i, nar_0, nar_1, nar_b, fit_i, fit_l, pk_rem, nI_leI, nI_ltI, nI_eq, vin_iff, nI_clamp, nI_m1, nI_l, shl8'] at h ⊢
    exact h
  · exact h.elim
def sp_X12_w3 : gSp := fun as C n z Q => match as with
  | [.int x0, .int x1, .int x2] => vp_in x0 256 ∧ vp_in x1 256 ∧ vp_in x2 256 ∧ Q (some (.long (lN (((x0.toNatClampNeg * 256 + x1.toNatClampNeg) * 256 + x2.toNatClampNeg))))) C n z
  | _ => False
set_option maxRecDepth 100000 in
theorem c_X12_w3 (l : Launch) : Con l yX12_w3 cX12_w3 3 (some .long) 1 0 0 sp_X12_w3 := by
  refine m_X12_w3 (c_X12_w2 l) (by decide) ?_
  intro as C0 n0 z0 Q h
  unfold sp_X12_w3 at h
  split at h
  · obtain ⟨hx0, hx1, hx2, h⟩ := h
    obtain ⟨a, ha, rfl⟩ := vp_in_of hx0 (by decide)
    obtain ⟨b, hb, rfl⟩ := vp_in_of hx1 (by decide)
    obtain ⟨c, hc, rfl⟩ := vp_in_of hx2 (by decide)
    refine ⟨Nat.le_of_ble_eq_true rfl, ?_⟩
    simp only [b_X12_w3_0, sp_X12_w2, s_psh, s_ild, s_lld, s_ald, s_ist, s_lst, s_ast, s_inc, s_ib, s_ibz, s_iu, s_lb, s_lbz, s_lu, s_ls, s_il, s_li, s_cmp, s_dup, s_pop, s_dup2, s_if1, s_if2, s_ifn, s_cv, s_cs, s_ci, s_oi, s_get, s_put, s_iald, s_lald, s_zald, s_iast, s_last, s_zast, s_alen, s_iret, s_lret, s_aret, s_vret, s_al, gpad, gl, gst, gclr, gc2, gent, gcat, Value.category, List.drop_succ_cons, List.drop_zero, List.take_succ_cons, List.take_zero, List.reverse_cons, List.reverse_nil, List.nil_append, List.cons_append, List.append_nil, List.map_cons, List.map_nil, List.sum_cons, List.sum_nil, List.length_cons, List.length_nil, Option.toList, cond_true, cond_false, Nat.reduceBEq, Nat.reduceAdd, Nat.reduceLeDiff, beq_self_eq_true, true_and, and_true, BEq.rfl, Bool.false_eq_true, if_true, if_false, menc_0, menc_1, menc_2, menc_3, menc_4, menc_5, menc_6, menc_7, menc_8, menc_9, menc_10, menc_11, menc_12, menc_13, menc_14, mf_0, mf_1, mf_2, mf_3, mf_4, mf_5, mf_6, mf_7, mf_8, mf_9, mf_10, mf_11, mf_12, mf_13, mf_14, mf_15, mf_16, mf_17, mf_18, mf_19, mf_20, mf_21, mf_22, mf_23, mf_24, mf_25, mf_26, mf_27, mf_28, mf_29, mf_30, mf_31, ms_4, ms_5, ms_6, ms_7, ms_8, ms_9, ms_10, ms_11, ms_12, ms_13, ms_14, ms_16, ms_17, ms_18, ms_19, ms_23, ms_24, ms_27, mu_1, mu_2, mu_3, mu_4, mu_5, mu_6, mu_7, mu_8, mu_9, mu_10, mu_11, mu_12, mu_13, mu_14]
    simp (disch := omega) only [true_and, and_true, lit, nI_add, nar_i, nar_0, nar_1, nar_b, fit_i, fit_l, pk_rem, nI_leI, nI_ltI, nI_eq, vin_iff, nI_clamp, nI_m1, nI_l, shl8'] at h ⊢
    simpa only [true_and, and_true, ha, hb, hc] using h
  · exact h.elim
def sp_X12_w4 : gSp := fun as C n z Q => match as with
  | [.int x0, .int x1, .int x2, .int x3] => vp_in x0 256 ∧ vp_in x1 256 ∧ vp_in x2 256 ∧ vp_in x3 256 ∧ Q (some (.long (lN ((((x0.toNatClampNeg * 256 + x1.toNatClampNeg) * 256 + x2.toNatClampNeg) * 256 + x3.toNatClampNeg))))) C n z
  | _ => False
set_option maxRecDepth 100000 in
theorem c_X12_w4 (l : Launch) : Con l yX12_w4 cX12_w4 4 (some .long) 2 0 0 sp_X12_w4 := by
  refine m_X12_w4 (c_X12_w3 l) (by decide) ?_
  intro as C0 n0 z0 Q h
  unfold sp_X12_w4 at h
  split at h
  · obtain ⟨hx0, hx1, hx2, hx3, h⟩ := h
    obtain ⟨a, ha, rfl⟩ := vp_in_of hx0 (by decide)
    obtain ⟨b, hb, rfl⟩ := vp_in_of hx1 (by decide)
    obtain ⟨c, hc, rfl⟩ := vp_in_of hx2 (by decide)
    obtain ⟨d, hd, rfl⟩ := vp_in_of hx3 (by decide)
    refine ⟨Nat.le_of_ble_eq_true rfl, ?_⟩
    simp only [b_X12_w4_0, sp_X12_w3, s_psh, s_ild, s_lld, s_ald, s_ist, s_lst, s_ast, s_inc, s_ib, s_ibz, s_iu, s_lb, s_lbz, s_lu, s_ls, s_il, s_li, s_cmp, s_dup, s_pop, s_dup2, s_if1, s_if2, s_ifn, s_cv, s_cs, s_ci, s_oi, s_get, s_put, s_iald, s_lald, s_zald, s_iast, s_last, s_zast, s_alen, s_iret, s_lret, s_aret, s_vret, s_al, gpad, gl, gst, gclr, gc2, gent, gcat, Value.category, List.drop_succ_cons, List.drop_zero, List.take_succ_cons, List.take_zero, List.reverse_cons, List.reverse_nil, List.nil_append, List.cons_append, List.append_nil, List.map_cons, List.map_nil, List.sum_cons, List.sum_nil, List.length_cons, List.length_nil, Option.toList, cond_true, cond_false, Nat.reduceBEq, Nat.reduceAdd, Nat.reduceLeDiff, beq_self_eq_true, true_and, and_true, BEq.rfl, Bool.false_eq_true, if_true, if_false, menc_0, menc_1, menc_2, menc_3, menc_4, menc_5, menc_6, menc_7, menc_8, menc_9, menc_10, menc_11, menc_12, menc_13, menc_14, mf_0, mf_1, mf_2, mf_3, mf_4, mf_5, mf_6, mf_7, mf_8, mf_9, mf_10, mf_11, mf_12, mf_13, mf_14, mf_15, mf_16, mf_17, mf_18, mf_19, mf_20, mf_21, mf_22, mf_23, mf_24, mf_25, mf_26, mf_27, mf_28, mf_29, mf_30, mf_31, ms_4, ms_5, ms_6, ms_7, ms_8, ms_9, ms_10, ms_11, ms_12, ms_13, ms_14, ms_16, ms_17, ms_18, ms_19, ms_23, ms_24, ms_27, mu_1, mu_2, mu_3, mu_4, mu_5, mu_6, mu_7, mu_8, mu_9, mu_10, mu_11, mu_12, mu_13, mu_14]
    simp (disch := omega) only [true_and, and_true, lit, nI_add, nar_i, nar_0, nar_1, nar_b, fit_i, fit_l, pk_rem, nI_leI, nI_ltI, nI_eq, vin_iff, nI_clamp, nI_m1, nI_l, shl8'] at h ⊢
    simpa only [true_and, and_true, ha, hb, hc, hd] using h
  · exact h.elim
def sp_X12_w5 : gSp := fun as C n z Q => match as with
  | [.int x0, .int x1, .int x2, .int x3, .int x4] => vp_in x0 256 ∧ vp_in x1 256 ∧ vp_in x2 256 ∧ vp_in x3 256 ∧ vp_in x4 256 ∧ Q (some (.long (lN (((((x0.toNatClampNeg * 256 + x1.toNatClampNeg) * 256 + x2.toNatClampNeg) * 256 + x3.toNatClampNeg) * 256 + x4.toNatClampNeg))))) C n z
  | _ => False
set_option maxRecDepth 100000 in
theorem c_X12_w5 (l : Launch) : Con l yX12_w5 cX12_w5 5 (some .long) 3 0 0 sp_X12_w5 := by
  refine m_X12_w5 (c_X12_w4 l) (by decide) ?_
  intro as C0 n0 z0 Q h
  unfold sp_X12_w5 at h
  split at h
  · obtain ⟨hx0, hx1, hx2, hx3, hx4, h⟩ := h
    obtain ⟨a, ha, rfl⟩ := vp_in_of hx0 (by decide)
    obtain ⟨b, hb, rfl⟩ := vp_in_of hx1 (by decide)
    obtain ⟨c, hc, rfl⟩ := vp_in_of hx2 (by decide)
    obtain ⟨d, hd, rfl⟩ := vp_in_of hx3 (by decide)
    obtain ⟨e, he, rfl⟩ := vp_in_of hx4 (by decide)
    refine ⟨Nat.le_of_ble_eq_true rfl, ?_⟩
    simp only [b_X12_w5_0, sp_X12_w4, s_psh, s_ild, s_lld, s_ald, s_ist, s_lst, s_ast, s_inc, s_ib, s_ibz, s_iu, s_lb, s_lbz, s_lu, s_ls, s_il, s_li, s_cmp, s_dup, s_pop, s_dup2, s_if1, s_if2, s_ifn, s_cv, s_cs, s_ci, s_oi, s_get, s_put, s_iald, s_lald, s_zald, s_iast, s_last, s_zast, s_alen, s_iret, s_lret, s_aret, s_vret, s_al, gpad, gl, gst, gclr, gc2, gent, gcat, Value.category, List.drop_succ_cons, List.drop_zero, List.take_succ_cons, List.take_zero, List.reverse_cons, List.reverse_nil, List.nil_append, List.cons_append, List.append_nil, List.map_cons, List.map_nil, List.sum_cons, List.sum_nil, List.length_cons, List.length_nil, Option.toList, cond_true, cond_false, Nat.reduceBEq, Nat.reduceAdd, Nat.reduceLeDiff, beq_self_eq_true, true_and, and_true, BEq.rfl, Bool.false_eq_true, if_true, if_false, menc_0, menc_1, menc_2, menc_3, menc_4, menc_5, menc_6, menc_7, menc_8, menc_9, menc_10, menc_11, menc_12, menc_13, menc_14, mf_0, mf_1, mf_2, mf_3, mf_4, mf_5, mf_6, mf_7, mf_8, mf_9, mf_10, mf_11, mf_12, mf_13, mf_14, mf_15, mf_16, mf_17, mf_18, mf_19, mf_20, mf_21, mf_22, mf_23, mf_24, mf_25, mf_26, mf_27, mf_28, mf_29, mf_30, mf_31, ms_4, ms_5, ms_6, ms_7, ms_8, ms_9, ms_10, ms_11, ms_12, ms_13, ms_14, ms_16, ms_17, ms_18, ms_19, ms_23, ms_24, ms_27, mu_1, mu_2, mu_3, mu_4, mu_5, mu_6, mu_7, mu_8, mu_9, mu_10, mu_11, mu_12, mu_13, mu_14]
    simp (disch := omega) only [true_and, and_true, lit, nI_add, nar_i, nar_0, nar_1, nar_b, fit_i, fit_l, pk_rem, nI_leI, nI_ltI, nI_eq, vin_iff, nI_clamp, nI_m1, nI_l, shl8'] at h ⊢
    simpa only [true_and, and_true, ha, hb, hc, hd, he] using h
  · exact h.elim
def sp_X12_w6 : gSp := fun as C n z Q => match as with
  | [.int x0, .int x1, .int x2, .int x3, .int x4, .int x5] => vp_in x0 256 ∧ vp_in x1 256 ∧ vp_in x2 256 ∧ vp_in x3 256 ∧ vp_in x4 256 ∧ vp_in x5 256 ∧ Q (some (.long (lN ((((((x0.toNatClampNeg * 256 + x1.toNatClampNeg) * 256 + x2.toNatClampNeg) * 256 + x3.toNatClampNeg) * 256 + x4.toNatClampNeg) * 256 + x5.toNatClampNeg))))) C n z
  | _ => False
set_option maxRecDepth 100000 in
theorem c_X12_w6 (l : Launch) : Con l yX12_w6 cX12_w6 6 (some .long) 4 0 0 sp_X12_w6 := by
  refine m_X12_w6 (c_X12_w5 l) (by decide) ?_
  intro as C0 n0 z0 Q h
  unfold sp_X12_w6 at h
  split at h
  · obtain ⟨hx0, hx1, hx2, hx3, hx4, hx5, h⟩ := h
    obtain ⟨a, ha, rfl⟩ := vp_in_of hx0 (by decide)
    obtain ⟨b, hb, rfl⟩ := vp_in_of hx1 (by decide)
    obtain ⟨c, hc, rfl⟩ := vp_in_of hx2 (by decide)
    obtain ⟨d, hd, rfl⟩ := vp_in_of hx3 (by decide)
    obtain ⟨e, he, rfl⟩ := vp_in_of hx4 (by decide)
    obtain ⟨f, hf, rfl⟩ := vp_in_of hx5 (by decide)
    refine ⟨Nat.le_of_ble_eq_true rfl, ?_⟩
    simp only [b_X12_w6_0, sp_X12_w5, s_psh, s_ild, s_lld, s_ald, s_ist, s_lst, s_ast, s_inc, s_ib, s_ibz, s_iu, s_lb, s_lbz, s_lu, s_ls, s_il, s_li, s_cmp, s_dup, s_pop, s_dup2, s_if1, s_if2, s_ifn, s_cv, s_cs, s_ci, s_oi, s_get, s_put, s_iald, s_lald, s_zald, s_iast, s_last, s_zast, s_alen, s_iret, s_lret, s_aret, s_vret, s_al, gpad, gl, gst, gclr, gc2, gent, gcat, Value.category, List.drop_succ_cons, List.drop_zero, List.take_succ_cons, List.take_zero, List.reverse_cons, List.reverse_nil, List.nil_append, List.cons_append, List.append_nil, List.map_cons, List.map_nil, List.sum_cons, List.sum_nil, List.length_cons, List.length_nil, Option.toList, cond_true, cond_false, Nat.reduceBEq, Nat.reduceAdd, Nat.reduceLeDiff, beq_self_eq_true, true_and, and_true, BEq.rfl, Bool.false_eq_true, if_true, if_false, menc_0, menc_1, menc_2, menc_3, menc_4, menc_5, menc_6, menc_7, menc_8, menc_9, menc_10, menc_11, menc_12, menc_13, menc_14, mf_0, mf_1, mf_2, mf_3, mf_4, mf_5, mf_6, mf_7, mf_8, mf_9, mf_10, mf_11, mf_12, mf_13, mf_14, mf_15, mf_16, mf_17, mf_18, mf_19, mf_20, mf_21, mf_22, mf_23, mf_24, mf_25, mf_26, mf_27, mf_28, mf_29, mf_30, mf_31, ms_4, ms_5, ms_6, ms_7, ms_8, ms_9, ms_10, ms_11, ms_12, ms_13, ms_14, ms_16, ms_17, ms_18, ms_19, ms_23, ms_24, ms_27, mu_1, mu_2, mu_3, mu_4, mu_5, mu_6, mu_7, mu_8, mu_9, mu_10, mu_11, mu_12, mu_13, mu_14]
    simp (disch := omega) only [true_and, and_true, lit, nI_add, nar_i, nar_0, nar_1, nar_b, fit_i, fit_l, pk_rem, nI_leI, nI_ltI, nI_eq, vin_iff, nI_clamp, nI_m1, nI_l, shl8'] at h ⊢
    simpa only [true_and, and_true, ha, hb, hc, hd, he, hf] using h
  · exact h.elim
def sp_X12_isWord : gSp := fun as C n z Q => match as with
  | [.ref m, .long x] => isM C m ∧ Q (some (.int (bI (gint C m 12 9 = nI 2 ∧ glon C m 12 11 = x)))) C n z
  | _ => False
theorem lcmp_eq {x y : Int64} : (lg_cmp x y = nI 0) = (x = y) := by
  unfold lg_cmp
  apply propext
  constructor
  · intro h
    split at h
    · exact absurd h (by decide)
    · split at h
      · assumption
      · exact absurd h (by decide)
  · intro h
    rw [h, if_neg (fun q => Int64.lt_irrefl q), if_pos rfl]
    rfl
set_option maxRecDepth 100000 in
theorem c_X12_isWord (l : Launch) : Con l yX12_isWord cX12_isWord 3 (some .boolean) 0 0 0 sp_X12_isWord := by
  refine m_X12_isWord ?_
  intro as C0 n0 z0 Q h
  unfold sp_X12_isWord at h
  split at h
  · rename_i m x
    obtain ⟨⟨σ, w, A, L, R, rfl⟩, hQ⟩ := h
    refine ⟨Nat.le_of_ble_eq_true rfl, ?_⟩
    simp only [mi_9, mi_11] at hQ
    simp only [b_X12_isWord_0, b_X12_isWord_21, b_X12_isWord_22, s_psh, s_ild, s_lld, s_ald, s_ist, s_lst, s_ast, s_inc, s_ib, s_ibz, s_iu, s_lb, s_lbz, s_lu, s_ls, s_il, s_li, s_cmp, s_dup, s_pop, s_dup2, s_if1, s_if2, s_ifn, s_cv, s_cs, s_ci, s_oi, s_get, s_put, s_iald, s_lald, s_zald, s_iast, s_last, s_zast, s_alen, s_iret, s_lret, s_aret, s_vret, s_al, gpad, gl, gst, gclr, gc2, gent, gcat, Value.category, List.drop_succ_cons, List.drop_zero, List.take_succ_cons, List.take_zero, List.reverse_cons, List.reverse_nil, List.nil_append, List.cons_append, List.append_nil, List.map_cons, List.map_nil, List.sum_cons, List.sum_nil, List.length_cons, List.length_nil, Option.toList, cond_true, cond_false, Nat.reduceBEq, Nat.reduceAdd, Nat.reduceLeDiff, beq_self_eq_true, true_and, and_true, BEq.rfl, Bool.false_eq_true, if_true, if_false, menc_0, menc_1, menc_2, menc_3, menc_4, menc_5, menc_6, menc_7, menc_8, menc_9, menc_10, menc_11, menc_12, menc_13, menc_14, mf_0, mf_1, mf_2, mf_3, mf_4, mf_5, mf_6, mf_7, mf_8, mf_9, mf_10, mf_11, mf_12, mf_13, mf_14, mf_15, mf_16, mf_17, mf_18, mf_19, mf_20, mf_21, mf_22, mf_23, mf_24, mf_25, mf_26, mf_27, mf_28, mf_29, mf_30, mf_31, ms_4, ms_5, ms_6, ms_7, ms_8, ms_9, ms_10, ms_11, ms_12, ms_13, ms_14, ms_16, ms_17, ms_18, ms_19, ms_23, ms_24, ms_27, mu_1, mu_2, mu_3, mu_4, mu_5, mu_6, mu_7, mu_8, mu_9, mu_10, mu_11, mu_12, mu_13, mu_14]
    simp only [true_and, and_true, lit, nI_add, nar_i, nar_0, nar_1, nar_b, fit_i, fit_l, pk_rem, nI_leI, nI_ltI, nI_eq, vin_iff, nI_clamp, nI_m1, lcmp_eq]
    refine ⟨fun e => ⟨fun e2 => ?_, fun e2 => ?_⟩, fun e => ?_⟩
    · rw [bI_t ⟨e, e2⟩] at hQ; exact hQ
    · rw [bI_f (fun q => e2 q.2)] at hQ; exact hQ
    · rw [bI_f (fun q => e q.1)] at hQ; exact hQ
  · exact h.elim
def sp_X12_rank : gSp := fun as C n z Q => match as with
  | [.int x] => ∃ o, o < 100 ∧ x = nI o ∧ Q (some (.int (nI (rk o)))) C n z
  | _ => False
set_option maxRecDepth 100000 in
theorem c_X12_rank (l : Launch) : Con l yX12_rank cX12_rank 1 (some .int) 0 0 0 sp_X12_rank := by
  refine m_X12_rank ?_
  intro as C0 n0 z0 Q h
  unfold sp_X12_rank at h
  split at h
  · obtain ⟨o, ho, rfl, h⟩ := h
    refine ⟨Nat.le_of_ble_eq_true rfl, ?_⟩
    have t : ∀ k, rk o = k → Q (some (.int (nI k))) C0 n0 z0 := fun k e => by rw [← e]; exact h
    simp only [b_X12_rank_0, b_X12_rank_65, b_X12_rank_82, s_psh, s_ild, s_lld, s_ald, s_ist, s_lst, s_ast, s_inc, s_ib, s_ibz, s_iu, s_lb, s_lbz, s_lu, s_ls, s_il, s_li, s_cmp, s_dup, s_pop, s_dup2, s_if1, s_if2, s_ifn, s_cv, s_cs, s_ci, s_oi, s_get, s_put, s_iald, s_lald, s_zald, s_iast, s_last, s_zast, s_alen, s_iret, s_lret, s_aret, s_vret, s_al, gpad, gl, gst, gclr, gc2, gent, gcat, Value.category, List.drop_succ_cons, List.drop_zero, List.take_succ_cons, List.take_zero, List.reverse_cons, List.reverse_nil, List.nil_append, List.cons_append, List.append_nil, List.map_cons, List.map_nil, List.sum_cons, List.sum_nil, List.length_cons, List.length_nil, Option.toList, cond_true, cond_false, Nat.reduceBEq, Nat.reduceAdd, Nat.reduceLeDiff, beq_self_eq_true, true_and, and_true, BEq.rfl, Bool.false_eq_true, if_true, if_false, menc_0, menc_1, menc_2, menc_3, menc_4, menc_5, menc_6, menc_7, menc_8, menc_9, menc_10, menc_11, menc_12, menc_13, menc_14, mf_0, mf_1, mf_2, mf_3, mf_4, mf_5, mf_6, mf_7, mf_8, mf_9, mf_10, mf_11, mf_12, mf_13, mf_14, mf_15, mf_16, mf_17, mf_18, mf_19, mf_20, mf_21, mf_22, mf_23, mf_24, mf_25, mf_26, mf_27, mf_28, mf_29, mf_30, mf_31, ms_4, ms_5, ms_6, ms_7, ms_8, ms_9, ms_10, ms_11, ms_12, ms_13, ms_14, ms_16, ms_17, ms_18, ms_19, ms_23, ms_24, ms_27, mu_1, mu_2, mu_3, mu_4, mu_5, mu_6, mu_7, mu_8, mu_9, mu_10, mu_11, mu_12, mu_13, mu_14]
    simp (disch := omega) only [true_and, and_true, lit, nI_add, nar_i, nar_0, nar_1, nar_b, fit_i, fit_l, pk_rem, nI_leI, nI_ltI, nI_eq, vin_iff, nI_clamp, nI_m1]
    repeat' first | (refine And.intro ?_ ?_) | intro _
    all_goals refine t _ ?_
    all_goals unfold rk
    all_goals repeat' split
    all_goals omega
  · exact h.elim
/-- the pile, its top first -/
def pileM (f : Nat → Int32) : List Nat → Prop
  | [] => True
  | p :: L => f L.length = nI p ∧ p < 50 ∧ pileM f L
theorem pile_upd {f : Nat → Int32} {k : Nat} {v : Int32} : ∀ {L : List Nat}, L.length ≤ k → pileM f L → pileM (upd f k v) L
  | [], _, _ => trivial
  | p :: L, hk, h => by
    simp only [List.length_cons] at hk
    exact ⟨by rw [pk_un (by omega)]; exact h.1, h.2.1, pile_upd (by omega) h.2.2⟩
def cntO : List Nat → Nat
  | [] => 0
  | p :: L => cntO L + if 40 ≤ p ∨ rk p = 7 ∨ p = 20 then 1 else 0
def codeM (f : Nat → Int32) (b : Nat) (out : List (Nat × Int)) : Prop := ∀ k c, out[k]? = some c → f (b + 2 * k) = nI c.1 ∧ f (b + 2 * k + 1) = nI c.2.toNat
theorem rk_le (p : Nat) : rk p ≤ 7 := by
  unfold rk
  repeat' split
  all_goals omega
theorem codeM_snoc {f : Nat → Int32} {b o v : Nat} {out : List (Nat × Int)} (h : codeM f b out) : codeM (upd (upd f (b + 2 * out.length) (nI o)) (b + 2 * out.length + 1) (nI v)) b (out ++ [(o, (v : Int))]) := by
  intro k c hc
  by_cases hk : k < out.length
  · rw [List.getElem?_append_left hk] at hc
    rw [pk_un (by omega), pk_un (by omega), pk_un (by omega), pk_un (by omega)]
    exact h k c hc
  · by_cases hk2 : k = out.length
    · subst hk2
      rw [List.getElem?_append_right (Nat.le_refl _), Nat.sub_self, List.getElem?_cons_zero] at hc
      rw [← Option.some.inj hc, pk_un (by omega), pk_us, pk_us]
      exact ⟨rfl, rfl⟩
    · have : (out ++ [(o, (v : Int))])[k]? = none := List.getElem?_eq_none (by simp; omega)
      rw [this] at hc; cases hc
/-- the code is written in a text from t0 on -/
def frC (t0 n : Nat) (f f' : Nat → Int32) : Prop := ∀ k, k < t0 + 73 + 2 * n ∨ t0 + 681 ≤ k → f' k = f k
def sp_X12_emit : gSp := fun as C n z Q => (lg_sl as).length ≤ 3 ∧ b_X12_emit_0 Q (gpad 3 (gent as)) [] C n z
theorem c_X12_emit (l : Launch) : Con l yX12_emit cX12_emit 3 none 0 0 0 sp_X12_emit := m_X12_emit fun _ _ _ _ _ h => h
def settled (t0 : Nat) (σ σ' : Nat → Int32) (A A' : Nat → Nat → Int32) (n : Nat) (s : List Nat × Nat × List (Nat × Int)) : Prop := (∀ j, j ≠ 13 → j ≠ 16 → j ≠ 17 → σ' j = σ j) ∧ (∀ j, j ≠ 3 → A' j = A j) ∧ frC t0 n (A 3) (A' 3) ∧ σ' 16 = nI s.1.length ∧ pileM (A' 5) s.1 ∧ σ' 17 = nI s.2.1 ∧ cntO s.1 ≤ s.2.1 ∧ σ' 13 = nI s.2.2.length ∧ codeM (A' 3) (t0 + 73) s.2.2
def sp_X12_settle : gSp := fun as C n z Q => match as with
  | [.ref m, .int x] => ∃ σ w A L R P o out t0 r, C = menc m σ w A L R ∧ x = nI r ∧ r < 10 ∧ σ 16 = nI P.length ∧ pileM (A 5) P ∧ σ 17 = nI o ∧ cntO P ≤ o ∧ o < 100 ∧ σ 13 = nI out.length ∧ σ 12 = nI t0 ∧ codeM (A 3) (t0 + 73) out ∧ out.length + P.length ≤ 300 ∧ P.length ≤ 155 ∧ t0 ≤ 2043 ∧ ∀ σ' A', settled t0 σ σ' A A' out.length (stl r P o out) → Q none (menc m σ' w A' L R) n z
  | _ => False
set_option maxRecDepth 100000 in
set_option maxHeartbeats 4000000 in
theorem c_X12_settle (l : Launch) : Con l yX12_settle cX12_settle 2 none 1 0 0 sp_X12_settle := by
  refine m_X12_settle (c_X12_rank l) (by decide) (c_X12_emit l) (by decide) ?_
  intro as C0 n0 z0 Q h
  unfold sp_X12_settle at h
  split at h
  · rename_i m x
    obtain ⟨σ, w, A, L, R, P0, o0, out0, t0, r, rfl, rfl, hr, h16, hp, h17, hc, ho, h13, h12, hcd, hln, hP0, ht0, hQ⟩ := h
    refine ⟨Nat.le_of_ble_eq_true rfl, fun pc μ lv st C n z => n = n0 ∧ z = z0 ∧ st = [] ∧ lv = [some (.ref m), some (.int (nI r))] ∧ ∃ σ' A' P o out, C = menc m σ' w A' L R ∧ stl r P o out = stl r P0 o0 out0 ∧ settled t0 σ σ' A A' out0.length (P, o, out) ∧ o < 100 ∧ out.length + P.length ≤ 300 ∧ P.length ≤ 155 ∧ out0.length ≤ out.length ∧ μ = P.length, ?_, ?_⟩
    · exact ⟨_, rfl, rfl, rfl, rfl, σ, A, P0, o0, out0, rfl, rfl, ⟨fun _ _ _ _ => rfl, fun _ _ => rfl, fun _ _ => rfl, h16, hp, h17, hc, h13, hcd⟩, ho, hln, hP0, Nat.le_refl _, rfl⟩
    · rintro μ lv st C n z ⟨rfl, rfl, rfl, rfl, σ', A', P, o, out, rfl, hst, ⟨f1, f2, f3, g16, gp, g17, gc, g13, gcd⟩, ho', hln', hP, hol, rfl⟩
      simp only at g16 gp g17 gc g13 gcd
      have g12 : σ' 12 = nI t0 := by rw [f1 12 (by decide) (by decide) (by decide), h12]
      simp only [b_X12_settle_0, b_X12_settle_80, b_X12_settle_93, sp_X12_rank, sp_X12_emit, b_X12_emit_0, supa, Nat.reduceEqDiff, reduceIte, s_psh, s_ild, s_lld, s_ald, s_ist, s_lst, s_ast, s_inc, s_ib, s_ibz, s_iu, s_lb, s_lbz, s_lu, s_ls, s_il, s_li, s_cmp, s_dup, s_pop, s_dup2, s_if1, s_if2, s_ifn, s_cv, s_cs, s_ci, s_oi, s_get, s_put, s_iald, s_lald, s_zald, s_iast, s_last, s_zast, s_alen, s_iret, s_lret, s_aret, s_vret, s_al, gpad, gl, gst, gclr, gc2, gent, gcat, Value.category, List.drop_succ_cons, List.drop_zero, List.take_succ_cons, List.take_zero, List.reverse_cons, List.reverse_nil, List.nil_append, List.cons_append, List.append_nil, List.map_cons, List.map_nil, List.sum_cons, List.sum_nil, List.length_cons, List.length_nil, Option.toList, cond_true, cond_false, Nat.reduceBEq, Nat.reduceAdd, Nat.reduceLeDiff, beq_self_eq_true, true_and, and_true, BEq.rfl, Bool.false_eq_true, if_true, if_false, menc_0, menc_1, menc_2, menc_3, menc_4, menc_5, menc_6, menc_7, menc_8, menc_9, menc_10, menc_11, menc_12, menc_13, menc_14, mf_0, mf_1, mf_2, mf_3, mf_4, mf_5, mf_6, mf_7, mf_8, mf_9, mf_10, mf_11, mf_12, mf_13, mf_14, mf_15, mf_16, mf_17, mf_18, mf_19, mf_20, mf_21, mf_22, mf_23, mf_24, mf_25, mf_26, mf_27, mf_28, mf_29, mf_30, mf_31, ms_4, ms_5, ms_6, ms_7, ms_8, ms_9, ms_10, ms_11, ms_12, ms_13, ms_14, ms_16, ms_17, ms_18, ms_19, ms_23, ms_24, ms_27, mu_1, mu_2, mu_3, mu_4, mu_5, mu_6, mu_7, mu_8, mu_9, mu_10, mu_11, mu_12, mu_13, mu_14]
      cases P with
      | nil =>
        simp only [List.length_nil] at g16
        simp (disch := omega) only [true_and, and_true, lit, nI_add, nar_i, nar_0, nar_1, nar_b, fit_i, fit_l, pk_rem, nI_leI, nI_ltI, nI_eq, vin_iff, nI_clamp, nI_m1, g16]
        refine ⟨fun _ => hQ _ _ ?_, fun q => absurd (by decide) q⟩
        rw [← hst]
        exact ⟨f1, f2, f3, g16, gp, g17, gc, g13, gcd⟩
      | cons p P =>
        obtain ⟨gp1, gp2, gp3⟩ := gp
        simp only [List.length_cons] at g16 hln' hP
        simp (disch := omega) only [true_and, and_true, lit, nI_add, nar_i, nar_0, nar_1, nar_b, fit_i, fit_l, pk_rem, nI_leI, nI_ltI, nI_eq, vin_iff, nI_clamp, nI_m1, g16, g12, g13, g17, pk_sub, pk_mul, Nat.add_sub_cancel, gp1]
        have hrk := rk_le p
        have hcn : cntO (p :: P) = cntO P + if 40 ≤ p ∨ rk p = 7 ∨ p = 20 then 1 else 0 := rfl
        have step : ∀ (o' : Nat) (σ'' : Nat → Int32), r ≤ rk p → o' = (if rk p = 7 ∨ p = 20 then o - 1 else o) → σ'' 17 = nI o' → (∀ j, j ≠ 13 → j ≠ 16 → j ≠ 17 → σ'' j = σ' j) → σ'' 16 = nI P.length → σ'' 13 = nI (out.length + 1) → ∃ μ', μ' < (p :: P).length ∧ ∃ σ'_1 A'_1 P_1 o_3 out_1, menc m σ'' w (sup (sup A' 3 (upd (A' 3) (t0 + 73 + 2 * out.length) (nI p))) 3 (upd (upd (A' 3) (t0 + 73 + 2 * out.length) (nI p)) (t0 + 73 + 2 * out.length + 1) (nI 0))) L R = menc m σ'_1 w A'_1 L R ∧ stl r P_1 o_3 out_1 = stl r P0 o0 out0 ∧ settled t0 σ σ'_1 A A'_1 out0.length (P_1, o_3, out_1) ∧ o_3 < 100 ∧ out_1.length + P_1.length ≤ 300 ∧ P_1.length ≤ 155 ∧ out0.length ≤ out_1.length ∧ μ' = P_1.length := by
          intro o' σ'' hle eo k17 kf k16 k13
          refine ⟨P.length, by simp, _, _, P, o', out ++ [(p, ((0 : Nat) : Int))], rfl, ?_, ⟨fun j a b c => by rw [kf j a b c]; exact f1 j a b c, fun j a => by rw [supa, if_neg a, supa, if_neg a]; exact f2 j a, fun k hk => ?_, k16, ?_, k17, ?_, by simpa using k13, ?_⟩, ?_, by simp; omega, by omega, by simp; omega, rfl⟩
          · rw [← hst]
            conv => rhs; unfold stl
            rw [if_pos hle, eo]
            rfl
          · rw [supa, if_pos rfl, pk_un (by omega), pk_un (by omega)]
            exact f3 k hk
          · rw [supa, if_neg (by decide), supa, if_neg (by decide)]
            exact gp3
          · simp only
            rw [hcn] at gc
            rw [eo]
            by_cases q : rk p = 7 ∨ p = 20
            · rw [if_pos q]
              rw [if_pos (Or.inr q)] at gc
              omega
            · rw [if_neg q]; omega
          · rw [supa, if_pos rfl]
            exact codeM_snoc gcd
          · rw [eo]; split <;> omega
        refine ⟨fun q => absurd q (by omega), fun _ => ⟨by omega, p, by omega, rfl, fun q => ?_, fun q => ⟨by omega, Nat.le_of_ble_eq_true rfl, by omega, by omega, by omega, p, by omega, rfl, fun q7 => ?_, fun q7 => ⟨by omega, fun e => ?_, fun e => ?_⟩⟩⟩⟩
        · refine hQ _ _ ?_
          rw [← hst]
          rw [nI_ltI (by omega) (by omega)] at q
          rw [show stl r (p :: P) o out = (p :: P, o, out) by unfold stl; rw [if_neg (by omega)]]
          exact ⟨f1, f2, f3, g16, ⟨gp1, gp2, gp3⟩, g17, gc, g13, gcd⟩
        all_goals rw [nI_ltI (by omega) (by omega)] at q
        all_goals rw [nI_eq (by omega) (by omega)] at q7
        · rw [hcn, if_pos (Or.inr (Or.inl q7))] at gc
          refine step (o - 1) _ (by omega) (by rw [if_pos (Or.inl q7)]) ?_ (fun j a b c => ?_) ?_ ?_
          · simp only [supa, reduceIte]; rw [pk_sub (by omega)]
          · simp only [supa, if_neg a, if_neg b, if_neg c]
          · simp only [supa, Nat.reduceEqDiff, reduceIte]
          · simp only [supa, Nat.reduceEqDiff, reduceIte]
        · rw [hcn, if_pos (Or.inr (Or.inr e))] at gc
          refine step (o - 1) _ (by omega) (by rw [if_pos (Or.inr e)]) ?_ (fun j a b c => ?_) ?_ ?_
          · simp only [supa, reduceIte]; rw [pk_sub (by omega)]
          · simp only [supa, if_neg a, if_neg b, if_neg c]
          · simp only [supa, Nat.reduceEqDiff, reduceIte]
          · simp only [supa, Nat.reduceEqDiff, reduceIte]
        · refine step o _ (by omega) (by rw [if_neg (by omega)]) ?_ (fun j a b c => ?_) ?_ ?_
          · simp only [supa, Nat.reduceEqDiff, reduceIte]; exact g17
          · simp only [supa, if_neg a, if_neg b]
          · simp only [supa, Nat.reduceEqDiff, reduceIte]
          · simp only [supa, Nat.reduceEqDiff, reduceIte]
  · exact h.elim
