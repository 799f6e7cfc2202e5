/-! the reference: the longest of a kind, what is told, the tape, the book, steps -/
/-- how many of the kind k stand from p + n on, f at most -/
def runl (K : Nat → Int32) (k : Int32) (p : Nat) : Nat → Nat → Nat
  | n, 0 => n
  | n, f + 1 => if K ((p + n) % 30) = k then runl K k p (n + 1) f else n
theorem runl_le (K : Nat → Int32) (k : Int32) (p : Nat) : ∀ (f n : Nat), runl K k p n f ≤ n + f
  | 0, n => Nat.le_refl _
  | f + 1, n => by
    unfold runl
    split
    · have := runl_le K k p f (n + 1)
      omega
    · omega
def lng (K : Nat → Int32) (k : Int32) : Nat → Nat × Int32
  | 0 => (0, -nI 1)
  | p + 1 => if (lng K k p).1 < runl K k p 0 30 then (runl K k p 0 30, nI p) else lng K k p
theorem lng_le (K : Nat → Int32) (k : Int32) : ∀ p, (lng K k p).1 ≤ 30
  | 0 => by simp [lng]
  | p + 1 => by
    unfold lng
    split
    · have := runl_le K k p 30 0
      simpa using this
    · exact lng_le K k p

def sp_X12_longest : gSp := fun as C n z Q => match as with
  | [.ref m, .int x, .int y] => isM C m ∧ Q (some (.int (pif (nI 0 ≤ x ∧ x ≤ nI 3) (pif (y = nI 0) (nI (lng (mKd C m) x 30).1) (lng (mKd C m) x 30).2) (-nI 2)))) C n z
  | _ => False
set_option maxRecDepth 100000 in
set_option maxHeartbeats 4000000 in
theorem c_X12_longest (l : Launch) : Con l yX12_longest cX12_longest 7 (some .int) 1 0 0 sp_X12_longest := by
  refine m_X12_longest (c_X12_isIn l) (by decide) ?_
  intro as C0 n0 z0 Q h
  unfold sp_X12_longest at h
  split at h
  · rename_i m x y
    obtain ⟨⟨σ, w, A, L, R, rfl⟩, hQ⟩ := h
    simp only [mKd_e] at hQ
    by_cases hx : nI 0 ≤ x ∧ x ≤ nI 3
    rotate_left
    · rw [pif_f hx] at hQ
      refine ⟨Nat.le_of_ble_eq_true rfl, fun _ _ _ _ _ _ _ => False, ?_, fun _ _ _ _ _ _ h => h.elim, fun _ _ _ _ _ _ h => h.elim⟩
      simp only [b_X12_longest_0, sp_X12_isIn, s_psh, s_ild, s_lld, s_ald, s_ist, s_lst, s_ast, s_inc, s_ib, s_ibz, s_iu, s_lb, s_lbz, s_lu, s_ls, s_il, s_li, s_cmp, s_dup, s_pop, s_dup2, s_if1, s_if2, s_ifn, s_cv, s_cs, s_ci, s_oi, s_get, s_put, s_iald, s_lald, s_zald, s_iast, s_last, s_zast, s_alen, s_iret, s_lret, s_aret, s_vret, s_al, gpad, gl, gst, gclr, gc2, gent, gcat, Value.category, List.drop_succ_cons, List.drop_zero, List.take_succ_cons, List.take_zero, List.reverse_cons, List.reverse_nil, List.nil_append, List.cons_append, List.append_nil, List.map_cons, List.map_nil, List.sum_cons, List.sum_nil, List.length_cons, List.length_nil, Option.toList, cond_true, cond_false, Nat.reduceBEq, Nat.reduceAdd, Nat.reduceLeDiff, beq_self_eq_true, true_and, and_true, BEq.rfl, Bool.false_eq_true, if_true, if_false, menc_0, menc_1, menc_2, menc_3, menc_4, menc_5, menc_6, menc_7, menc_8, menc_9, menc_10, menc_11, menc_12, menc_13, menc_14, mf_0, mf_1, mf_2, mf_3, mf_4, mf_5, mf_6, mf_7, mf_8, mf_9, mf_10, mf_11, mf_12, mf_13, mf_14, mf_15, mf_16, mf_17, mf_18, mf_19, mf_20, mf_21, mf_22, mf_23, mf_24, mf_25, mf_26, mf_27, mf_28, mf_29, mf_30, mf_31, ms_4, ms_5, ms_6, ms_7, ms_8, ms_9, ms_10, ms_11, ms_12, ms_13, ms_14, ms_16, ms_17, ms_18, ms_19, ms_23, ms_24, ms_27, mu_1, mu_2, mu_3, mu_4, mu_5, mu_6, mu_7, mu_8, mu_9, mu_10, mu_11, mu_12, mu_13, mu_14]
      simp (disch := omega) only [true_and, and_true, lit, nI_add, nar_i, nar_0, nar_1, nar_b, fit_i, fit_l, pk_rem, nI_leI, nI_ltI, nI_eq, vin_iff, nI_clamp, nI_m1, bI_0]
      exact ⟨fun _ => hQ, fun q => absurd hx q⟩
    rw [pif_t hx] at hQ
    refine ⟨Nat.le_of_ble_eq_true rfl, fun pc μ lv st C n z => if pc = 20 then ∃ i o6, i ≤ 30 ∧ μ = (30 - i) * 40 + 35 ∧ lv = [some (.ref m), some (.int x), some (.int y), some (.int (nI (lng (fun j => A 1 (9 + j)) x i).1)), some (.int (lng (fun j => A 1 (9 + j)) x i).2), some (.int (nI i)), o6] ∧ st = [] ∧ C = menc m σ w A L R ∧ n = n0 ∧ z = z0 else ∃ i d, i < 30 ∧ d ≤ 30 ∧ μ = (30 - i) * 40 + (30 - d) ∧ lv = [some (.ref m), some (.int x), some (.int y), some (.int (nI (lng (fun j => A 1 (9 + j)) x i).1)), some (.int (lng (fun j => A 1 (9 + j)) x i).2), some (.int (nI i)), some (.int (nI d))] ∧ st = [] ∧ C = menc m σ w A L R ∧ n = n0 ∧ z = z0 ∧ runl (fun j => A 1 (9 + j)) x i 0 30 = runl (fun j => A 1 (9 + j)) x i d (30 - d), ?_, ?_, ?_⟩
    · simp only [b_X12_longest_0, sp_X12_isIn, s_psh, s_ild, s_lld, s_ald, s_ist, s_lst, s_ast, s_inc, s_ib, s_ibz, s_iu, s_lb, s_lbz, s_lu, s_ls, s_il, s_li, s_cmp, s_dup, s_pop, s_dup2, s_if1, s_if2, s_ifn, s_cv, s_cs, s_ci, s_oi, s_get, s_put, s_iald, s_lald, s_zald, s_iast, s_last, s_zast, s_alen, s_iret, s_lret, s_aret, s_vret, s_al, gpad, gl, gst, gclr, gc2, gent, gcat, Value.category, List.drop_succ_cons, List.drop_zero, List.take_succ_cons, List.take_zero, List.reverse_cons, List.reverse_nil, List.nil_append, List.cons_append, List.append_nil, List.map_cons, List.map_nil, List.sum_cons, List.sum_nil, List.length_cons, List.length_nil, Option.toList, cond_true, cond_false, Nat.reduceBEq, Nat.reduceAdd, Nat.reduceLeDiff, beq_self_eq_true, true_and, and_true, BEq.rfl, Bool.false_eq_true, if_true, if_false, menc_0, menc_1, menc_2, menc_3, menc_4, menc_5, menc_6, menc_7, menc_8, menc_9, menc_10, menc_11, menc_12, menc_13, menc_14, mf_0, mf_1, mf_2, mf_3, mf_4, mf_5, mf_6, mf_7, mf_8, mf_9, mf_10, mf_11, mf_12, mf_13, mf_14, mf_15, mf_16, mf_17, mf_18, mf_19, mf_20, mf_21, mf_22, mf_23, mf_24, mf_25, mf_26, mf_27, mf_28, mf_29, mf_30, mf_31, ms_4, ms_5, ms_6, ms_7, ms_8, ms_9, ms_10, ms_11, ms_12, ms_13, ms_14, ms_16, ms_17, ms_18, ms_19, ms_23, ms_24, ms_27, mu_1, mu_2, mu_3, mu_4, mu_5, mu_6, mu_7, mu_8, mu_9, mu_10, mu_11, mu_12, mu_13, mu_14]
      simp only [true_and, and_true, lit, nI_add, nar_i, nar_0, nar_1, nar_b, fit_i, fit_l, pk_rem, nI_leI, nI_ltI, nI_eq, vin_iff, nI_clamp, nI_m1, bI_0]
      exact ⟨fun q => absurd hx q, fun _ => ⟨_, 0, none, by omega, rfl, rfl⟩⟩
    · rintro μ lv st C n z ⟨i, o6, hi, rfl, rfl, rfl, rfl, rfl, rfl⟩
      simp only [b_X12_longest_20, b_X12_longest_95, s_psh, s_ild, s_lld, s_ald, s_ist, s_lst, s_ast, s_inc, s_ib, s_ibz, s_iu, s_lb, s_lbz, s_lu, s_ls, s_il, s_li, s_cmp, s_dup, s_pop, s_dup2, s_if1, s_if2, s_ifn, s_cv, s_cs, s_ci, s_oi, s_get, s_put, s_iald, s_lald, s_zald, s_iast, s_last, s_zast, s_alen, s_iret, s_lret, s_aret, s_vret, s_al, gpad, gl, gst, gclr, gc2, gent, gcat, Value.category, List.drop_succ_cons, List.drop_zero, List.take_succ_cons, List.take_zero, List.reverse_cons, List.reverse_nil, List.nil_append, List.cons_append, List.append_nil, List.map_cons, List.map_nil, List.sum_cons, List.sum_nil, List.length_cons, List.length_nil, Option.toList, cond_true, cond_false, Nat.reduceBEq, Nat.reduceAdd, Nat.reduceLeDiff, beq_self_eq_true, true_and, and_true, BEq.rfl, Bool.false_eq_true, if_true, if_false, menc_0, menc_1, menc_2, menc_3, menc_4, menc_5, menc_6, menc_7, menc_8, menc_9, menc_10, menc_11, menc_12, menc_13, menc_14, mf_0, mf_1, mf_2, mf_3, mf_4, mf_5, mf_6, mf_7, mf_8, mf_9, mf_10, mf_11, mf_12, mf_13, mf_14, mf_15, mf_16, mf_17, mf_18, mf_19, mf_20, mf_21, mf_22, mf_23, mf_24, mf_25, mf_26, mf_27, mf_28, mf_29, mf_30, mf_31, ms_4, ms_5, ms_6, ms_7, ms_8, ms_9, ms_10, ms_11, ms_12, ms_13, ms_14, ms_16, ms_17, ms_18, ms_19, ms_23, ms_24, ms_27, mu_1, mu_2, mu_3, mu_4, mu_5, mu_6, mu_7, mu_8, mu_9, mu_10, mu_11, mu_12, mu_13, mu_14]
      simp (disch := omega) only [true_and, and_true, lit, nI_add, nar_i, nar_0, nar_1, nar_b, fit_i, fit_l, pk_rem, nI_leI, nI_ltI, nI_eq, vin_iff, nI_clamp, nI_m1, reduceIte, Nat.reduceEqDiff]
      refine ⟨fun h => ⟨fun e => ?_, fun e => ?_⟩, fun h => ⟨_, ?_, i, 0, by omega, by omega, rfl, rfl, rfl⟩⟩
      · have e2 : i = 30 := by omega
        subst e2
        rw [pif_t e] at hQ; exact hQ
      · have e2 : i = 30 := by omega
        subst e2
        rw [pif_f e] at hQ; exact hQ
      · omega
    · rintro μ lv st C n z ⟨i, d, hi, hd, rfl, rfl, rfl, rfl, rfl, rfl, hr⟩
      simp only [b_X12_longest_30, b_X12_longest_63, b_X12_longest_79, s_psh, s_ild, s_lld, s_ald, s_ist, s_lst, s_ast, s_inc, s_ib, s_ibz, s_iu, s_lb, s_lbz, s_lu, s_ls, s_il, s_li, s_cmp, s_dup, s_pop, s_dup2, s_if1, s_if2, s_ifn, s_cv, s_cs, s_ci, s_oi, s_get, s_put, s_iald, s_lald, s_zald, s_iast, s_last, s_zast, s_alen, s_iret, s_lret, s_aret, s_vret, s_al, gpad, gl, gst, gclr, gc2, gent, gcat, Value.category, List.drop_succ_cons, List.drop_zero, List.take_succ_cons, List.take_zero, List.reverse_cons, List.reverse_nil, List.nil_append, List.cons_append, List.append_nil, List.map_cons, List.map_nil, List.sum_cons, List.sum_nil, List.length_cons, List.length_nil, Option.toList, cond_true, cond_false, Nat.reduceBEq, Nat.reduceAdd, Nat.reduceLeDiff, beq_self_eq_true, true_and, and_true, BEq.rfl, Bool.false_eq_true, if_true, if_false, menc_0, menc_1, menc_2, menc_3, menc_4, menc_5, menc_6, menc_7, menc_8, menc_9, menc_10, menc_11, menc_12, menc_13, menc_14, mf_0, mf_1, mf_2, mf_3, mf_4, mf_5, mf_6, mf_7, mf_8, mf_9, mf_10, mf_11, mf_12, mf_13, mf_14, mf_15, mf_16, mf_17, mf_18, mf_19, mf_20, mf_21, mf_22, mf_23, mf_24, mf_25, mf_26, mf_27, mf_28, mf_29, mf_30, mf_31, ms_4, ms_5, ms_6, ms_7, ms_8, ms_9, ms_10, ms_11, ms_12, ms_13, ms_14, ms_16, ms_17, ms_18, ms_19, ms_23, ms_24, ms_27, mu_1, mu_2, mu_3, mu_4, mu_5, mu_6, mu_7, mu_8, mu_9, mu_10, mu_11, mu_12, mu_13, mu_14]
      simp (disch := omega) only [true_and, and_true, lit, nI_add, nar_i, nar_0, nar_1, nar_b, fit_i, fit_l, pk_rem, nI_leI, nI_ltI, nI_eq, vin_iff, nI_clamp, nI_m1, reduceIte, Nat.reduceEqDiff]
      have hl := lng_le (fun j => A 1 (9 + j)) x i
      have out : runl (fun j => A 1 (9 + j)) x i 0 30 = d → ∀ g : (lng (fun j => A 1 (9 + j)) x i).1 < d ∨ ¬ (lng (fun j => A 1 (9 + j)) x i).1 < d, lng (fun j => A 1 (9 + j)) x (i + 1) = if (lng (fun j => A 1 (9 + j)) x i).1 < d then (d, nI i) else lng (fun j => A 1 (9 + j)) x i := fun q _ => by
        rw [← q]; rfl
      simp (disch := omega) only [true_and, and_true, lit, nI_add, nar_i, nar_0, nar_1, nar_b, fit_i, fit_l, pk_rem, nI_leI, nI_ltI, nI_eq, vin_iff, nI_clamp, nI_m1, not_false_eq_true]
      have fin : runl (fun j => A 1 (9 + j)) x i 0 30 = d → ((lng (fun j => A 1 (9 + j)) x i).1 < d → lng (fun j => A 1 (9 + j)) x (i + 1) = (d, nI i)) ∧ (¬ (lng (fun j => A 1 (9 + j)) x i).1 < d → lng (fun j => A 1 (9 + j)) x (i + 1) = lng (fun j => A 1 (9 + j)) x i) := fun q => ⟨fun g => by rw [out q (Or.inl g), if_pos g], fun g => by rw [out q (Or.inr g), if_neg g]⟩
      have e1 : 30 ≤ d → runl (fun j => A 1 (9 + j)) x i 0 30 = d := fun h => by
        rw [hr, show 30 - d = 0 by omega]; rfl
      have e2 : ¬ 30 ≤ d → ¬ A 1 (9 + (i + d) % 30) = x → runl (fun j => A 1 (9 + j)) x i 0 30 = d := fun h g => by
        rw [hr]
        obtain ⟨f, hf⟩ : ∃ f, 30 - d = f + 1 := ⟨29 - d, by omega⟩
        rw [hf]
        exact if_neg g
      have e3 : ¬ 30 ≤ d → A 1 (9 + (i + d) % 30) = x → runl (fun j => A 1 (9 + j)) x i 0 30 = runl (fun j => A 1 (9 + j)) x i (d + 1) (30 - (d + 1)) := fun h g => by
        rw [hr]
        obtain ⟨f, hf⟩ : ∃ f, 30 - d = f + 1 := ⟨29 - d, by omega⟩
        rw [hf, show 30 - (d + 1) = f by omega]
        exact if_pos g
      refine ⟨fun h => ⟨fun g => ⟨_, ?_, i + 1, some (.int (nI d)), by omega, rfl, ?_⟩, fun g => ⟨_, ?_, i + 1, some (.int (nI d)), by omega, rfl, ?_⟩⟩, fun h => ⟨by omega, fun e => ⟨_, ?_, i, d + 1, by omega, by omega, rfl, rfl, e3 h e⟩, fun e => ⟨fun g => ⟨_, ?_, i + 1, some (.int (nI d)), by omega, rfl, ?_⟩, fun g => ⟨_, ?_, i + 1, some (.int (nI d)), by omega, rfl, ?_⟩⟩⟩⟩
      · omega
      · rw [(fin (e1 h)).1 g]
      · omega
      · rw [(fin (e1 h)).2 g]
      · omega
      · omega
      · rw [(fin (e2 h e)).1 g]
      · omega
      · rw [(fin (e2 h e)).2 g]
  · exact h.elim

/-- what is told: in the square and in all that is kept -/
def layF (a : Nat → Int32) (x : Nat) (v : Int32) : Nat → Nat → Int32
  | 0 => upd a x v
  | k + 1 => upd (layF a x v k) (145 + 101 * k + 1 + x - 6) v
def sp_X12_lay : gSp := fun as C n z Q => match as with
  | [.ref m, .int x, .int v] => isM C m ∧ vp_in (garr C (m + 1) 3) 31 ∧ (∃ p, x = nI p ∧ 9 ≤ p ∧ p < 76) ∧ Q none (gup C (m + 1) (.inl (0, 3205, .inl (layF (garr C (m + 1)) x.toNatClampNeg v (garr C (m + 1) 3).toNatClampNeg)))) n z
  | _ => False
set_option maxRecDepth 100000 in
set_option maxHeartbeats 4000000 in
theorem c_X12_lay (l : Launch) : Con l yX12_lay cX12_lay 4 none 0 0 0 sp_X12_lay := by
  refine m_X12_lay ?_
  intro as C0 n0 z0 Q h
  unfold sp_X12_lay at h
  split at h
  · rename_i m x v
    obtain ⟨⟨σ, w, A, L, R, rfl⟩, hs, ⟨p, rfl, hp1, hp2⟩, hQ⟩ := h
    simp only [ma_1, mu_1] at hs hQ
    obtain ⟨k, hk, hA⟩ := vp_in_of hs (by decide)
    rw [hA] at hQ
    simp (disch := omega) only [nI_clamp] at hQ
    have h3 : ∀ i, layF (A 1) p v i 3 = nI k := by
      intro i
      induction i with
      | zero => simp only [layF]; rw [pk_un (by omega)]; exact hA
      | succ i ih => simp only [layF]; rw [pk_un (by omega)]; exact ih
    refine ⟨Nat.le_of_ble_eq_true rfl, fun pc μ lv st C n z => ∃ i, i ≤ k ∧ μ = k - i ∧ lv = [some (.ref m), some (.int (nI p)), some (.int v), some (.int (nI i))] ∧ st = [] ∧ C = menc m σ w (sup A 1 (layF (A 1) p v i)) L R ∧ n = n0 ∧ z = z0, ?_, ?_⟩
    · simp only [b_X12_lay_0, s_psh, s_ild, s_lld, s_ald, s_ist, s_lst, s_ast, s_inc, s_ib, s_ibz, s_iu, s_lb, s_lbz, s_lu, s_ls, s_il, s_li, s_cmp, s_dup, s_pop, s_dup2, s_if1, s_if2, s_ifn, s_cv, s_cs, s_ci, s_oi, s_get, s_put, s_iald, s_lald, s_zald, s_iast, s_last, s_zast, s_alen, s_iret, s_lret, s_aret, s_vret, s_al, gpad, gl, gst, gclr, gc2, gent, gcat, Value.category, List.drop_succ_cons, List.drop_zero, List.take_succ_cons, List.take_zero, List.reverse_cons, List.reverse_nil, List.nil_append, List.cons_append, List.append_nil, List.map_cons, List.map_nil, List.sum_cons, List.sum_nil, List.length_cons, List.length_nil, Option.toList, cond_true, cond_false, Nat.reduceBEq, Nat.reduceAdd, Nat.reduceLeDiff, beq_self_eq_true, true_and, and_true, BEq.rfl, Bool.false_eq_true, if_true, if_false, menc_0, menc_1, menc_2, menc_3, menc_4, menc_5, menc_6, menc_7, menc_8, menc_9, menc_10, menc_11, menc_12, menc_13, menc_14, mf_0, mf_1, mf_2, mf_3, mf_4, mf_5, mf_6, mf_7, mf_8, mf_9, mf_10, mf_11, mf_12, mf_13, mf_14, mf_15, mf_16, mf_17, mf_18, mf_19, mf_20, mf_21, mf_22, mf_23, mf_24, mf_25, mf_26, mf_27, mf_28, mf_29, mf_30, mf_31, ms_4, ms_5, ms_6, ms_7, ms_8, ms_9, ms_10, ms_11, ms_12, ms_13, ms_14, ms_16, ms_17, ms_18, ms_19, ms_23, ms_24, ms_27, mu_1, mu_2, mu_3, mu_4, mu_5, mu_6, mu_7, mu_8, mu_9, mu_10, mu_11, mu_12, mu_13, mu_14]
      simp (disch := omega) only [true_and, and_true, lit, nI_add, nar_i, nar_0, nar_1, nar_b, fit_i, fit_l, pk_rem, nI_leI, nI_ltI, nI_eq, vin_iff, nI_clamp, nI_m1]
      exact ⟨by omega, _, 0, by omega, rfl, rfl, rfl⟩
    · rintro μ lv st C n z ⟨i, hi, rfl, rfl, rfl, rfl, rfl, rfl⟩
      simp only [b_X12_lay_9, sup_same, sup_sup, s_psh, s_ild, s_lld, s_ald, s_ist, s_lst, s_ast, s_inc, s_ib, s_ibz, s_iu, s_lb, s_lbz, s_lu, s_ls, s_il, s_li, s_cmp, s_dup, s_pop, s_dup2, s_if1, s_if2, s_ifn, s_cv, s_cs, s_ci, s_oi, s_get, s_put, s_iald, s_lald, s_zald, s_iast, s_last, s_zast, s_alen, s_iret, s_lret, s_aret, s_vret, s_al, gpad, gl, gst, gclr, gc2, gent, gcat, Value.category, List.drop_succ_cons, List.drop_zero, List.take_succ_cons, List.take_zero, List.reverse_cons, List.reverse_nil, List.nil_append, List.cons_append, List.append_nil, List.map_cons, List.map_nil, List.sum_cons, List.sum_nil, List.length_cons, List.length_nil, Option.toList, cond_true, cond_false, Nat.reduceBEq, Nat.reduceAdd, Nat.reduceLeDiff, beq_self_eq_true, true_and, and_true, BEq.rfl, Bool.false_eq_true, if_true, if_false, menc_0, menc_1, menc_2, menc_3, menc_4, menc_5, menc_6, menc_7, menc_8, menc_9, menc_10, menc_11, menc_12, menc_13, menc_14, mf_0, mf_1, mf_2, mf_3, mf_4, mf_5, mf_6, mf_7, mf_8, mf_9, mf_10, mf_11, mf_12, mf_13, mf_14, mf_15, mf_16, mf_17, mf_18, mf_19, mf_20, mf_21, mf_22, mf_23, mf_24, mf_25, mf_26, mf_27, mf_28, mf_29, mf_30, mf_31, ms_4, ms_5, ms_6, ms_7, ms_8, ms_9, ms_10, ms_11, ms_12, ms_13, ms_14, ms_16, ms_17, ms_18, ms_19, ms_23, ms_24, ms_27, mu_1, mu_2, mu_3, mu_4, mu_5, mu_6, mu_7, mu_8, mu_9, mu_10, mu_11, mu_12, mu_13, mu_14]
      simp (disch := omega) only [true_and, and_true, lit, nI_add, nar_i, nar_0, nar_1, nar_b, fit_i, fit_l, pk_rem, nI_leI, nI_ltI, nI_eq, vin_iff, nI_clamp, nI_m1]
      simp (disch := omega) only [true_and, and_true, lit, nI_add, nar_i, nar_0, nar_1, nar_b, fit_i, fit_l, pk_rem, nI_leI, nI_ltI, nI_eq, vin_iff, nI_clamp, nI_m1, h3, pk_mul, pk_sub]
      refine ⟨by omega, fun h => ?_, fun h => ⟨by omega, _, ?_, i + 1, by omega, rfl, rfl, rfl⟩⟩
      · rw [show k = i by omega] at hQ; exact hQ
      · omega
  · exact h.elim

theorem sup_id {α : Type} {f : Nat → α} {k : Nat} {v : α} (h : f k = v) : sup f k v = f := by
  funext j
  unfold sup
  split
  · rename_i hj
    rw [hj, h]
  · rfl
theorem f_step : ∀ i, i < 4 → nI 24 - nI (8 * i) + -nI 8 = nI 24 - nI (8 * (i + 1)) := by decide
theorem f_neg : nI 24 - nI (8 * 4) < nI 0 := by decide
theorem f_pos : ∀ i, i < 4 → ¬ nI 24 - nI (8 * i) < nI 0 := by decide

/-- the four bytes of a word behind the tape, the highest first -/
def byte4 (v : Int32) (i : Nat) : Int32 := v >>> (nI 24 - nI (8 * i) &&& nI 31) &&& nI 255
def tape4 (f : Nat → Int32) (t : Nat) (v : Int32) : Nat → Nat → Int32
  | 0 => f
  | i + 1 => upd (tape4 f t v i) (t + i) (byte4 v i)
def sp_X12_four : gSp := fun as C n z Q => match as with
  | [.ref m, .int v] => isM C m ∧ vp_in (gint C m 12 4) 297 ∧ Q none (gsetf (gup C (m + 4) (.inl (0, 300, .inl (tape4 (garr C (m + 4)) (gint C m 12 4).toNatClampNeg v 4)))) m 4 (.int (nI ((gint C m 12 4).toNatClampNeg + 4)))) n z
  | _ => False
set_option maxRecDepth 100000 in
set_option maxHeartbeats 4000000 in
theorem c_X12_four (l : Launch) : Con l yX12_four cX12_four 3 none 0 0 0 sp_X12_four := by
  refine m_X12_four ?_
  intro as C0 n0 z0 Q h
  unfold sp_X12_four at h
  split at h
  · rename_i m v
    obtain ⟨⟨σ, w, A, L, R, rfl⟩, hs, hQ⟩ := h
    simp only [ma_4, mu_4, mi_4, ms_4] at hs hQ
    obtain ⟨t, ht, hA⟩ := vp_in_of hs (by decide)
    rw [hA] at hQ
    simp (disch := omega) only [nI_clamp] at hQ
    refine ⟨Nat.le_of_ble_eq_true rfl, fun pc μ lv st C n z => ∃ (i : Nat), i ≤ 4 ∧ μ = 4 - i ∧ lv = [some (.ref m), some (.int v), some (.int (nI 24 - nI (8 * i)))] ∧ st = [] ∧ C = menc m (sup σ 4 (nI (t + i))) w (sup A 4 (tape4 (A 4) t v i)) L R ∧ n = n0 ∧ z = z0, ?_, ?_⟩
    · simp only [b_X12_four_0, s_psh, s_ild, s_lld, s_ald, s_ist, s_lst, s_ast, s_inc, s_ib, s_ibz, s_iu, s_lb, s_lbz, s_lu, s_ls, s_il, s_li, s_cmp, s_dup, s_pop, s_dup2, s_if1, s_if2, s_ifn, s_cv, s_cs, s_ci, s_oi, s_get, s_put, s_iald, s_lald, s_zald, s_iast, s_last, s_zast, s_alen, s_iret, s_lret, s_aret, s_vret, s_al, gpad, gl, gst, gclr, gc2, gent, gcat, Value.category, List.drop_succ_cons, List.drop_zero, List.take_succ_cons, List.take_zero, List.reverse_cons, List.reverse_nil, List.nil_append, List.cons_append, List.append_nil, List.map_cons, List.map_nil, List.sum_cons, List.sum_nil, List.length_cons, List.length_nil, Option.toList, cond_true, cond_false, Nat.reduceBEq, Nat.reduceAdd, Nat.reduceLeDiff, beq_self_eq_true, true_and, and_true, BEq.rfl, Bool.false_eq_true, if_true, if_false, menc_0, menc_1, menc_2, menc_3, menc_4, menc_5, menc_6, menc_7, menc_8, menc_9, menc_10, menc_11, menc_12, menc_13, menc_14, mf_0, mf_1, mf_2, mf_3, mf_4, mf_5, mf_6, mf_7, mf_8, mf_9, mf_10, mf_11, mf_12, mf_13, mf_14, mf_15, mf_16, mf_17, mf_18, mf_19, mf_20, mf_21, mf_22, mf_23, mf_24, mf_25, mf_26, mf_27, mf_28, mf_29, mf_30, mf_31, ms_4, ms_5, ms_6, ms_7, ms_8, ms_9, ms_10, ms_11, ms_12, ms_13, ms_14, ms_16, ms_17, ms_18, ms_19, ms_23, ms_24, ms_27, mu_1, mu_2, mu_3, mu_4, mu_5, mu_6, mu_7, mu_8, mu_9, mu_10, mu_11, mu_12, mu_13, mu_14]
      refine ⟨_, 0, by omega, rfl, rfl, ?_⟩
      rw [Nat.add_zero, sup_id hA, sup_id (show A 4 = tape4 (A 4) t v 0 from rfl)]
    · rintro μ lv st C n z ⟨i, hi, rfl, rfl, rfl, rfl, rfl, rfl⟩
      simp only [b_X12_four_3, sup_same, sup_sup, s_psh, s_ild, s_lld, s_ald, s_ist, s_lst, s_ast, s_inc, s_ib, s_ibz, s_iu, s_lb, s_lbz, s_lu, s_ls, s_il, s_li, s_cmp, s_dup, s_pop, s_dup2, s_if1, s_if2, s_ifn, s_cv, s_cs, s_ci, s_oi, s_get, s_put, s_iald, s_lald, s_zald, s_iast, s_last, s_zast, s_alen, s_iret, s_lret, s_aret, s_vret, s_al, gpad, gl, gst, gclr, gc2, gent, gcat, Value.category, List.drop_succ_cons, List.drop_zero, List.take_succ_cons, List.take_zero, List.reverse_cons, List.reverse_nil, List.nil_append, List.cons_append, List.append_nil, List.map_cons, List.map_nil, List.sum_cons, List.sum_nil, List.length_cons, List.length_nil, Option.toList, cond_true, cond_false, Nat.reduceBEq, Nat.reduceAdd, Nat.reduceLeDiff, beq_self_eq_true, true_and, and_true, BEq.rfl, Bool.false_eq_true, if_true, if_false, menc_0, menc_1, menc_2, menc_3, menc_4, menc_5, menc_6, menc_7, menc_8, menc_9, menc_10, menc_11, menc_12, menc_13, menc_14, mf_0, mf_1, mf_2, mf_3, mf_4, mf_5, mf_6, mf_7, mf_8, mf_9, mf_10, mf_11, mf_12, mf_13, mf_14, mf_15, mf_16, mf_17, mf_18, mf_19, mf_20, mf_21, mf_22, mf_23, mf_24, mf_25, mf_26, mf_27, mf_28, mf_29, mf_30, mf_31, ms_4, ms_5, ms_6, ms_7, ms_8, ms_9, ms_10, ms_11, ms_12, ms_13, ms_14, ms_16, ms_17, ms_18, ms_19, ms_23, ms_24, ms_27, mu_1, mu_2, mu_3, mu_4, mu_5, mu_6, mu_7, mu_8, mu_9, mu_10, mu_11, mu_12, mu_13, mu_14]
      simp (disch := omega) only [true_and, and_true, lit, nI_add, nar_i, nar_0, nar_1, nar_b, fit_i, fit_l, pk_rem, nI_leI, nI_ltI, nI_eq, vin_iff, nI_clamp, nI_m1]
      by_cases h4 : i = 4
      · subst h4
        exact ⟨fun _ => hQ, fun q => absurd f_neg q⟩
      · refine ⟨fun q => absurd q (f_pos i (by omega)), fun _ => ⟨by omega, _, ?_, i + 1, by omega, rfl, ?_, rfl⟩⟩
        · omega
        · rw [f_step i (by omega)]
  · exact h.elim

/-- the bars that a run would meet: f places left, at p; the list so far is (k, g) -/
def barsL (K : Nat → Int32) (p : Nat) : Nat → Nat → (Nat → Int32) → Nat × (Nat → Int32)
  | 0, k, g => (k, g)
  | f + 1, k, g => if K ((p + (59 - f)) % 30) = nI 3 then (k, g) else if K ((p + (59 - f)) % 30) = nI 1 then barsL K p f (k + 1) (upd g k (nI ((p + (59 - f)) % 30))) else barsL K p f k g
theorem barsL_s {K : Nat → Int32} {p i k : Nat} {g : Nat → Int32} (h : i < 60) : barsL K p (60 - i) k g = if K ((p + i) % 30) = nI 3 then (k, g) else if K ((p + i) % 30) = nI 1 then barsL K p (60 - (i + 1)) (k + 1) (upd g k (nI ((p + i) % 30))) else barsL K p (60 - (i + 1)) k g := by
  obtain ⟨f, hf⟩ : ∃ f, 60 - i = f + 1 := ⟨59 - i, by omega⟩
  rw [hf, show 60 - (i + 1) = f by omega]
  simp only [barsL, show 59 - f = i by omega]
def sp_X12_layBars : gSp := fun as C n z Q => match as with
  | [.ref m, .int x] => isM C m ∧ vp_in x 30 ∧ Q none (gsetf (gup C (m + 10) (.inl (0, 60, .inl (barsL (mKd C m) x.toNatClampNeg 60 0 (garr C (m + 10))).2))) m 27 (.int (nI (barsL (mKd C m) x.toNatClampNeg 60 0 (garr C (m + 10))).1))) n z
  | _ => False
set_option maxRecDepth 100000 in
set_option maxHeartbeats 4000000 in
theorem c_X12_layBars (l : Launch) : Con l yX12_layBars cX12_layBars 4 none 1 0 0 sp_X12_layBars := by
  refine m_X12_layBars (c_X12_isBar l) (by decide) ?_
  intro as C0 n0 z0 Q h
  unfold sp_X12_layBars at h
  split at h
  · rename_i m x
    obtain ⟨⟨σ, w, A, L, R, rfl⟩, hx, hQ⟩ := h
    simp only [ma_10, mu_10, ms_27, mKd_e] at hQ
    obtain ⟨p, hp, rfl⟩ := vp_in_of hx (by decide)
    simp (disch := omega) only [nI_clamp] at hQ
    refine ⟨Nat.le_of_ble_eq_true rfl, fun pc μ lv st C n z => ∃ (i k : Nat) (g : Nat → Int32) (o3 : Option Value), i ≤ 60 ∧ k ≤ i ∧ μ = 60 - i ∧ lv = [some (.ref m), some (.int (nI p)), some (.int (nI i)), o3] ∧ st = [] ∧ C = menc m (sup σ 27 (nI k)) w (sup A 10 g) L R ∧ n = n0 ∧ z = z0 ∧ barsL (fun j => A 1 (9 + j)) p 60 0 (A 10) = barsL (fun j => A 1 (9 + j)) p (60 - i) k g, ?_, ?_⟩
    · simp only [b_X12_layBars_0, s_psh, s_ild, s_lld, s_ald, s_ist, s_lst, s_ast, s_inc, s_ib, s_ibz, s_iu, s_lb, s_lbz, s_lu, s_ls, s_il, s_li, s_cmp, s_dup, s_pop, s_dup2, s_if1, s_if2, s_ifn, s_cv, s_cs, s_ci, s_oi, s_get, s_put, s_iald, s_lald, s_zald, s_iast, s_last, s_zast, s_alen, s_iret, s_lret, s_aret, s_vret, s_al, gpad, gl, gst, gclr, gc2, gent, gcat, Value.category, List.drop_succ_cons, List.drop_zero, List.take_succ_cons, List.take_zero, List.reverse_cons, List.reverse_nil, List.nil_append, List.cons_append, List.append_nil, List.map_cons, List.map_nil, List.sum_cons, List.sum_nil, List.length_cons, List.length_nil, Option.toList, cond_true, cond_false, Nat.reduceBEq, Nat.reduceAdd, Nat.reduceLeDiff, beq_self_eq_true, true_and, and_true, BEq.rfl, Bool.false_eq_true, if_true, if_false, menc_0, menc_1, menc_2, menc_3, menc_4, menc_5, menc_6, menc_7, menc_8, menc_9, menc_10, menc_11, menc_12, menc_13, menc_14, mf_0, mf_1, mf_2, mf_3, mf_4, mf_5, mf_6, mf_7, mf_8, mf_9, mf_10, mf_11, mf_12, mf_13, mf_14, mf_15, mf_16, mf_17, mf_18, mf_19, mf_20, mf_21, mf_22, mf_23, mf_24, mf_25, mf_26, mf_27, mf_28, mf_29, mf_30, mf_31, ms_4, ms_5, ms_6, ms_7, ms_8, ms_9, ms_10, ms_11, ms_12, ms_13, ms_14, ms_16, ms_17, ms_18, ms_19, ms_23, ms_24, ms_27, mu_1, mu_2, mu_3, mu_4, mu_5, mu_6, mu_7, mu_8, mu_9, mu_10, mu_11, mu_12, mu_13, mu_14]
      simp (disch := omega) only [true_and, and_true, lit, nI_add, nar_i, nar_0, nar_1, nar_b, fit_i, fit_l, pk_rem, nI_leI, nI_ltI, nI_eq, vin_iff, nI_clamp, nI_m1]
      refine ⟨_, 0, 0, A 10, none, by omega, by omega, rfl, rfl, ?_, rfl⟩
      rw [sup_id rfl]
    · rintro μ lv st C n z ⟨i, k, g, o3, hi, hk, rfl, rfl, rfl, rfl, rfl, rfl, hb⟩
      simp only [b_X12_layBars_7, b_X12_layBars_69, b_X12_layBars_75, sp_X12_isBar, b_X12_isBar_0, b_X12_isBar_18, sup_same, sup_sup, sup, Nat.reduceEqDiff, reduceIte, s_psh, s_ild, s_lld, s_ald, s_ist, s_lst, s_ast, s_inc, s_ib, s_ibz, s_iu, s_lb, s_lbz, s_lu, s_ls, s_il, s_li, s_cmp, s_dup, s_pop, s_dup2, s_if1, s_if2, s_ifn, s_cv, s_cs, s_ci, s_oi, s_get, s_put, s_iald, s_lald, s_zald, s_iast, s_last, s_zast, s_alen, s_iret, s_lret, s_aret, s_vret, s_al, gpad, gl, gst, gclr, gc2, gent, gcat, Value.category, List.drop_succ_cons, List.drop_zero, List.take_succ_cons, List.take_zero, List.reverse_cons, List.reverse_nil, List.nil_append, List.cons_append, List.append_nil, List.map_cons, List.map_nil, List.sum_cons, List.sum_nil, List.length_cons, List.length_nil, Option.toList, cond_true, cond_false, Nat.reduceBEq, Nat.reduceAdd, Nat.reduceLeDiff, beq_self_eq_true, true_and, and_true, BEq.rfl, Bool.false_eq_true, if_true, if_false, menc_0, menc_1, menc_2, menc_3, menc_4, menc_5, menc_6, menc_7, menc_8, menc_9, menc_10, menc_11, menc_12, menc_13, menc_14, mf_0, mf_1, mf_2, mf_3, mf_4, mf_5, mf_6, mf_7, mf_8, mf_9, mf_10, mf_11, mf_12, mf_13, mf_14, mf_15, mf_16, mf_17, mf_18, mf_19, mf_20, mf_21, mf_22, mf_23, mf_24, mf_25, mf_26, mf_27, mf_28, mf_29, mf_30, mf_31, ms_4, ms_5, ms_6, ms_7, ms_8, ms_9, ms_10, ms_11, ms_12, ms_13, ms_14, ms_16, ms_17, ms_18, ms_19, ms_23, ms_24, ms_27, mu_1, mu_2, mu_3, mu_4, mu_5, mu_6, mu_7, mu_8, mu_9, mu_10, mu_11, mu_12, mu_13, mu_14]
      simp (disch := omega) only [true_and, and_true, lit, nI_add, nar_i, nar_0, nar_1, nar_b, fit_i, fit_l, pk_rem, nI_leI, nI_ltI, nI_eq, vin_iff, nI_clamp, nI_m1]
      have hend : barsL (fun j => A 1 (9 + j)) p (60 - i) k g = (k, g) → Q none (menc m (sup σ 27 (nI k)) w (sup A 10 g) L R) n z := fun e => by
        rw [hb, e] at hQ; exact hQ
      refine ⟨fun h => hend ?_, fun h => ⟨by omega, by omega, fun e => hend ?_, fun e => ⟨by omega, Nat.le_of_ble_eq_true rfl, by omega, fun e1 => ⟨fun q => absurd q (by decide), fun _ => ⟨by omega, _, ?_, i + 1, k + 1, _, some (.int (nI ((p + i) % 30))), by omega, by omega, rfl, rfl, rfl, ?_⟩⟩, fun e1 => ⟨fun _ => ⟨_, ?_, i + 1, k, g, some (.int (nI ((p + i) % 30))), by omega, by omega, rfl, rfl, rfl, ?_⟩, fun q => absurd trivial q⟩⟩⟩⟩
      · rw [show 60 - i = 0 by omega]; rfl
      · rw [barsL_s (by omega)]; exact if_pos e
      · omega
      · rw [hb, barsL_s (by omega)]
        exact (if_neg e).trans (if_pos e1)
      · omega
      · rw [hb, barsL_s (by omega)]
        exact (if_neg e).trans (if_neg e1)
  · exact h.elim
