/-! the reference: what a law says -/
def clN (top : Nat) (x : Int) : Nat := if x < 0 then 0 else if (top : Int) < x then top else x.toNat
theorem clN_le (top : Nat) (x : Int) : clN top x ≤ top := by
  unfold clN
  split
  · exact Nat.zero_le _
  · split
    · exact Nat.le_refl _
    · omega
def sp_X12_held : gSp := fun as C n z Q => match as with
  | [.long v, .int lo, .int hi] => ∃ (x : Int) (top : Nat), v = lI x ∧ -1000000000000 ≤ x ∧ x ≤ 1000000000000 ∧ lo = nI 0 ∧ hi = nI top ∧ top ≤ 100 ∧ Q (some (.int (nI (clN top x)))) C n z
  | _ => False
set_option maxRecDepth 100000 in
theorem c_X12_held (l : Launch) : Con l yX12_held cX12_held 4 (some .int) 0 0 0 sp_X12_held := by
  refine m_X12_held ?_
  intro as C0 n0 z0 Q h
  unfold sp_X12_held at h
  split at h
  · obtain ⟨x, top, rfl, h1, h2, rfl, rfl, ht, hQ⟩ := h
    have fin : ∀ v, clN top x = v → Q (some (.int (nI v))) C0 n0 z0 := fun v e => by rw [← e]; exact hQ
    have e0 : (nI 0).toInt64 = lI 0 := by rw [nI_l (by decide), lN_lI]; rfl
    have et : (nI top).toInt64 = lI top := by rw [nI_l (by omega), lN_lI]
    refine ⟨Nat.le_of_ble_eq_true rfl, ?_⟩
    simp only [b_X12_held_0, b_X12_held_24, s_psh, s_ild, s_lld, s_ald, s_ist, s_lst, s_ast, s_inc, s_ib, s_ibz, s_iu, s_lb, s_lbz, s_lu, s_ls, s_il, s_li, s_cmp, s_dup, s_pop, s_dup2, s_if1, s_if2, s_ifn, s_cv, s_cs, s_ci, s_oi, s_get, s_put, s_iald, s_lald, s_zald, s_iast, s_last, s_zast, s_alen, s_iret, s_lret, s_aret, s_vret, s_al, gpad, gl, gst, gclr, gc2, gent, gcat, Value.category, List.drop_succ_cons, List.drop_zero, List.take_succ_cons, List.take_zero, List.reverse_cons, List.reverse_nil, List.nil_append, List.cons_append, List.append_nil, List.map_cons, List.map_nil, List.sum_cons, List.sum_nil, List.length_cons, List.length_nil, Option.toList, cond_true, cond_false, Nat.reduceBEq, Nat.reduceAdd, Nat.reduceLeDiff, beq_self_eq_true, true_and, and_true, BEq.rfl, Bool.false_eq_true, if_true, if_false]
    simp (disch := omega) only [true_and, and_true, lit, nI_add, nar_i, nar_0, nar_1, nar_b, fit_i, fit_l, pk_rem, nI_leI, nI_ltI, nI_eq, vin_iff, nI_clamp, nI_m1, e0, et, cmp_0le, cmp_le0, lI_le, lI_i]
    refine ⟨fun q => ⟨fun q2 => ?_, fun q2 => fin _ ?_⟩, fun q => fin _ ?_⟩
    · rw [iI_nat q]
      refine fin _ ?_
      unfold clN
      rw [if_neg (by omega), if_neg (by omega)]
    · unfold clN
      rw [if_neg (by omega), if_pos (by omega)]
    · unfold clN
      rw [if_pos (by omega)]
  · exact h.elim
def lawOf (l : List rCl) (sort : Nat) : Option rI := (l.find? (fun c => c.1 == sort)).map (fun c => c.2.2.2)
def lawV (l : List rCl) (sort top : Nat) (ν κ : Nat → Int) : Nat := match lawOf l sort with
  | none => 1
  | some d => clN top (d.2 ν κ)
def okT (l : List rCl) : Prop := ∀ c ∈ l, c.1 ≤ 8 ∧ (c.1 ≤ 1 → meA (c.1 == 0) c.2.2.2)
def tI : Option Nat → Int32
  | none => -nI 1
  | some t => nI t
def sp_X12_says : gSp := fun as C n z Q => match as with
  | [.ref m, .int x, .int s, .int y] => ∃ σ w A L R t l sort top, ∃ (ν κ : Nat → Int), C = menc m σ w A L R ∧ x = tI t ∧ s = nI sort ∧ sort ≤ 1 ∧ y = nI top ∧ top ≤ 10 ∧ (∀ t', t = some t' → t' < 4 ∧ txtM (A 3) t' l) ∧ okT l ∧ bndE ν κ ∧ (∀ j, j < 8 → A 6 j = iI (ν j)) ∧ (∀ j, j < 30 → A 1 (9 + j) = iI (κ j)) ∧ ∀ A' L', (∀ j, j ≠ 8 → A' j = A j) → (∀ j, j ≠ 7 → L' j = L j) → Q (some (.int (nI (match t with
    | none => 1
    | some _ => lawV l sort top ν κ)))) (menc m σ w A' L' R) n z
  | _ => False
set_option maxRecDepth 100000 in
set_option maxHeartbeats 4000000 in
theorem c_X12_says (l : Launch) : Con l yX12_says cX12_says 5 (some .int) 3 0 0 sp_X12_says := by
  refine m_X12_says (c_X12_summedUp l) (by decide) (c_X12_held l) (by decide) ?_
  intro as C0 n0 z0 Q h
  unfold sp_X12_says at h
  split at h
  · rename_i m x s y
    obtain ⟨σ, w, A, L, R, t, ls, sort, top, ν, κ, rfl, rfl, rfl, hs, rfl, htop, htx, hok, hbd, hν, hκ, hQ⟩ := h
    refine ⟨Nat.le_of_ble_eq_true rfl, fun pc μ lv st C n z => ∃ i, i ≤ ls.length ∧ μ = ls.length - i ∧ lv = [some (.ref m), some (.int (tI t)), some (.int (nI sort)), some (.int (nI top)), some (.int (nI i))] ∧ st = [] ∧ C = menc m σ w A L R ∧ n = n0 ∧ z = z0 ∧ (ls.drop i).find? (fun c => c.1 == sort) = ls.find? (fun c => c.1 == sort), ?_, ?_⟩
    · simp only [b_X12_says_0, s_psh, s_ild, s_lld, s_ald, s_ist, s_lst, s_ast, s_inc, s_ib, s_ibz, s_iu, s_lb, s_lbz, s_lu, s_ls, s_il, s_li, s_cmp, s_dup, s_pop, s_dup2, s_if1, s_if2, s_ifn, s_cv, s_cs, s_ci, s_oi, s_get, s_put, s_iald, s_lald, s_zald, s_iast, s_last, s_zast, s_alen, s_iret, s_lret, s_aret, s_vret, s_al, gpad, gl, gst, gclr, gc2, gent, gcat, Value.category, List.drop_succ_cons, List.drop_zero, List.take_succ_cons, List.take_zero, List.reverse_cons, List.reverse_nil, List.nil_append, List.cons_append, List.append_nil, List.map_cons, List.map_nil, List.sum_cons, List.sum_nil, List.length_cons, List.length_nil, Option.toList, cond_true, cond_false, Nat.reduceBEq, Nat.reduceAdd, Nat.reduceLeDiff, beq_self_eq_true, true_and, and_true, BEq.rfl, Bool.false_eq_true, if_true, if_false, menc_0, menc_1, menc_2, menc_3, menc_4, menc_5, menc_6, menc_7, menc_8, menc_9, menc_10, menc_11, menc_12, menc_13, menc_14, mf_0, mf_1, mf_2, mf_3, mf_4, mf_5, mf_6, mf_7, mf_8, mf_9, mf_10, mf_11, mf_12, mf_13, mf_14, mf_15, mf_16, mf_17, mf_18, mf_19, mf_20, mf_21, mf_22, mf_23, mf_24, mf_25, mf_26, mf_27, mf_28, mf_29, mf_30, mf_31, ms_4, ms_5, ms_6, ms_7, ms_8, ms_9, ms_10, ms_11, ms_12, ms_13, ms_14, ms_16, ms_17, ms_18, ms_19, ms_23, ms_24, ms_27, mu_1, mu_2, mu_3, mu_4, mu_5, mu_6, mu_7, mu_8, mu_9, mu_10, mu_11, mu_12, mu_13, mu_14]
      exact ⟨_, 0, Nat.zero_le _, rfl, rfl, rfl⟩
    · rintro μ lv st C n z ⟨i, hi, rfl, rfl, rfl, rfl, rfl, rfl, hf⟩
      simp only [b_X12_says_3, s_psh, s_ild, s_lld, s_ald, s_ist, s_lst, s_ast, s_inc, s_ib, s_ibz, s_iu, s_lb, s_lbz, s_lu, s_ls, s_il, s_li, s_cmp, s_dup, s_pop, s_dup2, s_cv, s_cs, s_ci, s_oi, s_get, s_put, s_iald, s_lald, s_zald, s_iast, s_last, s_zast, s_alen, s_iret, s_lret, s_aret, s_vret, s_al, gpad, gl, gst, gclr, gc2, gent, gcat, Value.category, List.drop_succ_cons, List.drop_zero, List.take_succ_cons, List.take_zero, List.reverse_cons, List.reverse_nil, List.nil_append, List.cons_append, List.append_nil, List.map_cons, List.map_nil, List.sum_cons, List.sum_nil, List.length_cons, List.length_nil, Option.toList, cond_true, cond_false, Nat.reduceBEq, Nat.reduceAdd, Nat.reduceLeDiff, beq_self_eq_true, true_and, and_true, BEq.rfl, Bool.false_eq_true, if_true, if_false, menc_0, menc_1, menc_2, menc_3, menc_4, menc_5, menc_6, menc_7, menc_8, menc_9, menc_10, menc_11, menc_12, menc_13, menc_14, mf_0, mf_1, mf_2, mf_3, mf_4, mf_5, mf_6, mf_7, mf_8, mf_9, mf_10, mf_11, mf_12, mf_13, mf_14, mf_15, mf_16, mf_17, mf_18, mf_19, mf_20, mf_21, mf_22, mf_23, mf_24, mf_25, mf_26, mf_27, mf_28, mf_29, mf_30, mf_31, ms_4, ms_5, ms_6, ms_7, ms_8, ms_9, ms_10, ms_11, ms_12, ms_13, ms_14, ms_16, ms_17, ms_18, ms_19, ms_23, ms_24, ms_27, mu_1, mu_2, mu_3, mu_4, mu_5, mu_6, mu_7, mu_8, mu_9, mu_10, mu_11, mu_12, mu_13, mu_14]
      cases t with
      | none =>
        refine if1i (fun _ => ?_) (fun q => absurd (by decide) q)
        simp only [b_X12_says_62, s_psh, s_ild, s_lld, s_ald, s_ist, s_lst, s_ast, s_inc, s_ib, s_ibz, s_iu, s_lb, s_lbz, s_lu, s_ls, s_il, s_li, s_cmp, s_dup, s_pop, s_dup2, s_cv, s_cs, s_ci, s_oi, s_get, s_put, s_iald, s_lald, s_zald, s_iast, s_last, s_zast, s_alen, s_iret, s_lret, s_aret, s_vret, s_al, gpad, gl, gst, gclr, gc2, gent, gcat, Value.category, List.drop_succ_cons, List.drop_zero, List.take_succ_cons, List.take_zero, List.reverse_cons, List.reverse_nil, List.nil_append, List.cons_append, List.append_nil, List.map_cons, List.map_nil, List.sum_cons, List.sum_nil, List.length_cons, List.length_nil, Option.toList, cond_true, cond_false, Nat.reduceBEq, Nat.reduceAdd, Nat.reduceLeDiff, beq_self_eq_true, true_and, and_true, BEq.rfl, Bool.false_eq_true, if_true, if_false, menc_0, menc_1, menc_2, menc_3, menc_4, menc_5, menc_6, menc_7, menc_8, menc_9, menc_10, menc_11, menc_12, menc_13, menc_14, mf_0, mf_1, mf_2, mf_3, mf_4, mf_5, mf_6, mf_7, mf_8, mf_9, mf_10, mf_11, mf_12, mf_13, mf_14, mf_15, mf_16, mf_17, mf_18, mf_19, mf_20, mf_21, mf_22, mf_23, mf_24, mf_25, mf_26, mf_27, mf_28, mf_29, mf_30, mf_31, ms_4, ms_5, ms_6, ms_7, ms_8, ms_9, ms_10, ms_11, ms_12, ms_13, ms_14, ms_16, ms_17, ms_18, ms_19, ms_23, ms_24, ms_27, mu_1, mu_2, mu_3, mu_4, mu_5, mu_6, mu_7, mu_8, mu_9, mu_10, mu_11, mu_12, mu_13, mu_14]
        simp only [true_and, and_true, lit, nI_add, nar_i, nar_0, nar_1, nar_b, fit_i, fit_l, pk_rem, nI_leI, nI_ltI, nI_eq, vin_iff, nI_clamp, nI_m1]
        exact hQ A L (fun _ _ => rfl) (fun _ _ => rfl)
      | some t =>
        obtain ⟨ht4, h1, h24, hcl⟩ := htx t rfl
        refine if1i (fun q => absurd q (nI_pos (show t < 2 ^ 31 by omega))) (fun _ => ?_)
        rw [show tI (some t) = nI t from rfl]
        simp only [s_psh, s_ild, s_lld, s_ald, s_ist, s_lst, s_ast, s_inc, s_ib, s_ibz, s_iu, s_lb, s_lbz, s_lu, s_ls, s_il, s_li, s_cmp, s_dup, s_pop, s_dup2, s_cv, s_cs, s_ci, s_oi, s_get, s_put, s_iald, s_lald, s_zald, s_iast, s_last, s_zast, s_alen, s_iret, s_lret, s_aret, s_vret, s_al, gpad, gl, gst, gclr, gc2, gent, gcat, Value.category, List.drop_succ_cons, List.drop_zero, List.take_succ_cons, List.take_zero, List.reverse_cons, List.reverse_nil, List.nil_append, List.cons_append, List.append_nil, List.map_cons, List.map_nil, List.sum_cons, List.sum_nil, List.length_cons, List.length_nil, Option.toList, cond_true, cond_false, Nat.reduceBEq, Nat.reduceAdd, Nat.reduceLeDiff, beq_self_eq_true, true_and, and_true, BEq.rfl, Bool.false_eq_true, if_true, if_false, menc_0, menc_1, menc_2, menc_3, menc_4, menc_5, menc_6, menc_7, menc_8, menc_9, menc_10, menc_11, menc_12, menc_13, menc_14, mf_0, mf_1, mf_2, mf_3, mf_4, mf_5, mf_6, mf_7, mf_8, mf_9, mf_10, mf_11, mf_12, mf_13, mf_14, mf_15, mf_16, mf_17, mf_18, mf_19, mf_20, mf_21, mf_22, mf_23, mf_24, mf_25, mf_26, mf_27, mf_28, mf_29, mf_30, mf_31, ms_4, ms_5, ms_6, ms_7, ms_8, ms_9, ms_10, ms_11, ms_12, ms_13, ms_14, ms_16, ms_17, ms_18, ms_19, ms_23, ms_24, ms_27, mu_1, mu_2, mu_3, mu_4, mu_5, mu_6, mu_7, mu_8, mu_9, mu_10, mu_11, mu_12, mu_13, mu_14]
        simp (disch := omega) only [true_and, and_true, lit, nI_add, nar_i, nar_0, nar_1, nar_b, fit_i, fit_l, pk_rem, nI_leI, nI_ltI, nI_eq, vin_iff, nI_clamp, nI_m1, pk_mul, h1]
        refine ⟨by omega, if2i (fun q => ?_) (fun q => ?_)⟩
        · simp (disch := omega) only [nI_leI] at q
          have hil : i = ls.length := by omega
          rw [hil, List.drop_length, List.find?_nil] at hf
          simp only [b_X12_says_62, s_psh, s_ild, s_lld, s_ald, s_ist, s_lst, s_ast, s_inc, s_ib, s_ibz, s_iu, s_lb, s_lbz, s_lu, s_ls, s_il, s_li, s_cmp, s_dup, s_pop, s_dup2, s_cv, s_cs, s_ci, s_oi, s_get, s_put, s_iald, s_lald, s_zald, s_iast, s_last, s_zast, s_alen, s_iret, s_lret, s_aret, s_vret, s_al, gpad, gl, gst, gclr, gc2, gent, gcat, Value.category, List.drop_succ_cons, List.drop_zero, List.take_succ_cons, List.take_zero, List.reverse_cons, List.reverse_nil, List.nil_append, List.cons_append, List.append_nil, List.map_cons, List.map_nil, List.sum_cons, List.sum_nil, List.length_cons, List.length_nil, Option.toList, cond_true, cond_false, Nat.reduceBEq, Nat.reduceAdd, Nat.reduceLeDiff, beq_self_eq_true, true_and, and_true, BEq.rfl, Bool.false_eq_true, if_true, if_false, menc_0, menc_1, menc_2, menc_3, menc_4, menc_5, menc_6, menc_7, menc_8, menc_9, menc_10, menc_11, menc_12, menc_13, menc_14, mf_0, mf_1, mf_2, mf_3, mf_4, mf_5, mf_6, mf_7, mf_8, mf_9, mf_10, mf_11, mf_12, mf_13, mf_14, mf_15, mf_16, mf_17, mf_18, mf_19, mf_20, mf_21, mf_22, mf_23, mf_24, mf_25, mf_26, mf_27, mf_28, mf_29, mf_30, mf_31, ms_4, ms_5, ms_6, ms_7, ms_8, ms_9, ms_10, ms_11, ms_12, ms_13, ms_14, ms_16, ms_17, ms_18, ms_19, ms_23, ms_24, ms_27, mu_1, mu_2, mu_3, mu_4, mu_5, mu_6, mu_7, mu_8, mu_9, mu_10, mu_11, mu_12, mu_13, mu_14]
          simp only [true_and, and_true, lit, nI_add, nar_i, nar_0, nar_1, nar_b, fit_i, fit_l, pk_rem, nI_leI, nI_ltI, nI_eq, vin_iff, nI_clamp, nI_m1]
          have := hQ A L (fun _ _ => rfl) (fun _ _ => rfl)
          simp only [lawV, lawOf, ← hf, Option.map_none] at this
          exact this
        · simp (disch := omega) only [nI_leI] at q
          have hil : i < ls.length := by omega
          obtain ⟨g1, g2, g3⟩ := hcl i _ (List.getElem?_eq_getElem hil)
          have hoc := hok _ (List.getElem_mem hil)
          rw [List.drop_eq_getElem_cons hil] at hf
          generalize ls[i] = c at *
          simp only [s_psh, s_ild, s_lld, s_ald, s_ist, s_lst, s_ast, s_inc, s_ib, s_ibz, s_iu, s_lb, s_lbz, s_lu, s_ls, s_il, s_li, s_cmp, s_dup, s_pop, s_dup2, s_cv, s_cs, s_ci, s_oi, s_get, s_put, s_iald, s_lald, s_zald, s_iast, s_last, s_zast, s_alen, s_iret, s_lret, s_aret, s_vret, s_al, gpad, gl, gst, gclr, gc2, gent, gcat, Value.category, List.drop_succ_cons, List.drop_zero, List.take_succ_cons, List.take_zero, List.reverse_cons, List.reverse_nil, List.nil_append, List.cons_append, List.append_nil, List.map_cons, List.map_nil, List.sum_cons, List.sum_nil, List.length_cons, List.length_nil, Option.toList, cond_true, cond_false, Nat.reduceBEq, Nat.reduceAdd, Nat.reduceLeDiff, beq_self_eq_true, true_and, and_true, BEq.rfl, Bool.false_eq_true, if_true, if_false, menc_0, menc_1, menc_2, menc_3, menc_4, menc_5, menc_6, menc_7, menc_8, menc_9, menc_10, menc_11, menc_12, menc_13, menc_14, mf_0, mf_1, mf_2, mf_3, mf_4, mf_5, mf_6, mf_7, mf_8, mf_9, mf_10, mf_11, mf_12, mf_13, mf_14, mf_15, mf_16, mf_17, mf_18, mf_19, mf_20, mf_21, mf_22, mf_23, mf_24, mf_25, mf_26, mf_27, mf_28, mf_29, mf_30, mf_31, ms_4, ms_5, ms_6, ms_7, ms_8, ms_9, ms_10, ms_11, ms_12, ms_13, ms_14, ms_16, ms_17, ms_18, ms_19, ms_23, ms_24, ms_27, mu_1, mu_2, mu_3, mu_4, mu_5, mu_6, mu_7, mu_8, mu_9, mu_10, mu_11, mu_12, mu_13, mu_14]
          simp (disch := omega) only [true_and, and_true, lit, nI_add, nar_i, nar_0, nar_1, nar_b, fit_i, fit_l, pk_rem, nI_leI, nI_ltI, nI_eq, vin_iff, nI_clamp, nI_m1, pk_mul, g1]
          refine ⟨by omega, if2i (fun e => ?_) (fun e => ?_)⟩
          · simp (disch := omega) only [nI_eq] at e
            have hc1 : c.1 ≤ 1 := by omega
            rw [List.find?_cons_of_pos (by simp [e])] at hf
            obtain ⟨s0, y1, y2, y3, y4⟩ := g3 hc1
            have hme := hoc.2 hc1
            have hfd := hme.1.2.1 ν κ hbd
            unfold fits6 at hfd
            simp only [sp_X12_summedUp, s_psh, s_ild, s_lld, s_ald, s_ist, s_lst, s_ast, s_inc, s_ib, s_ibz, s_iu, s_lb, s_lbz, s_lu, s_ls, s_il, s_li, s_cmp, s_dup, s_pop, s_dup2, s_cv, s_cs, s_ci, s_oi, s_get, s_put, s_iald, s_lald, s_zald, s_iast, s_last, s_zast, s_alen, s_iret, s_lret, s_aret, s_vret, s_al, gpad, gl, gst, gclr, gc2, gent, gcat, Value.category, List.drop_succ_cons, List.drop_zero, List.take_succ_cons, List.take_zero, List.reverse_cons, List.reverse_nil, List.nil_append, List.cons_append, List.append_nil, List.map_cons, List.map_nil, List.sum_cons, List.sum_nil, List.length_cons, List.length_nil, Option.toList, cond_true, cond_false, Nat.reduceBEq, Nat.reduceAdd, Nat.reduceLeDiff, beq_self_eq_true, true_and, and_true, BEq.rfl, Bool.false_eq_true, if_true, if_false, menc_0, menc_1, menc_2, menc_3, menc_4, menc_5, menc_6, menc_7, menc_8, menc_9, menc_10, menc_11, menc_12, menc_13, menc_14, mf_0, mf_1, mf_2, mf_3, mf_4, mf_5, mf_6, mf_7, mf_8, mf_9, mf_10, mf_11, mf_12, mf_13, mf_14, mf_15, mf_16, mf_17, mf_18, mf_19, mf_20, mf_21, mf_22, mf_23, mf_24, mf_25, mf_26, mf_27, mf_28, mf_29, mf_30, mf_31, ms_4, ms_5, ms_6, ms_7, ms_8, ms_9, ms_10, ms_11, ms_12, ms_13, ms_14, ms_16, ms_17, ms_18, ms_19, ms_23, ms_24, ms_27, mu_1, mu_2, mu_3, mu_4, mu_5, mu_6, mu_7, mu_8, mu_9, mu_10, mu_11, mu_12, mu_13, mu_14]
            refine ⟨σ, w, A, L, R, t, i, s0, c.2.2.2.1, c.1 == 0, c.2.2.2.2 ν κ, ν, κ, rfl, rfl, rfl, ht4, by omega, y1, y2, y3, y4, hme.1.1, hme.2 ν κ [] [], hbd, hν, hκ, fun A' L' fA fL => ?_⟩
            simp only [sp_X12_held, s_psh, s_ild, s_lld, s_ald, s_ist, s_lst, s_ast, s_inc, s_ib, s_ibz, s_iu, s_lb, s_lbz, s_lu, s_ls, s_il, s_li, s_cmp, s_dup, s_pop, s_dup2, s_cv, s_cs, s_ci, s_oi, s_get, s_put, s_iald, s_lald, s_zald, s_iast, s_last, s_zast, s_alen, s_iret, s_lret, s_aret, s_vret, s_al, gpad, gl, gst, gclr, gc2, gent, gcat, Value.category, List.drop_succ_cons, List.drop_zero, List.take_succ_cons, List.take_zero, List.reverse_cons, List.reverse_nil, List.nil_append, List.cons_append, List.append_nil, List.map_cons, List.map_nil, List.sum_cons, List.sum_nil, List.length_cons, List.length_nil, Option.toList, cond_true, cond_false, Nat.reduceBEq, Nat.reduceAdd, Nat.reduceLeDiff, beq_self_eq_true, true_and, and_true, BEq.rfl, Bool.false_eq_true, if_true, if_false, menc_0, menc_1, menc_2, menc_3, menc_4, menc_5, menc_6, menc_7, menc_8, menc_9, menc_10, menc_11, menc_12, menc_13, menc_14, mf_0, mf_1, mf_2, mf_3, mf_4, mf_5, mf_6, mf_7, mf_8, mf_9, mf_10, mf_11, mf_12, mf_13, mf_14, mf_15, mf_16, mf_17, mf_18, mf_19, mf_20, mf_21, mf_22, mf_23, mf_24, mf_25, mf_26, mf_27, mf_28, mf_29, mf_30, mf_31, ms_4, ms_5, ms_6, ms_7, ms_8, ms_9, ms_10, ms_11, ms_12, ms_13, ms_14, ms_16, ms_17, ms_18, ms_19, ms_23, ms_24, ms_27, mu_1, mu_2, mu_3, mu_4, mu_5, mu_6, mu_7, mu_8, mu_9, mu_10, mu_11, mu_12, mu_13, mu_14]
            simp only [true_and, and_true, lit, nI_add, nar_i, nar_0, nar_1, nar_b, fit_i, fit_l, pk_rem, nI_leI, nI_ltI, nI_eq, vin_iff, nI_clamp, nI_m1]
            refine ⟨c.2.2.2.2 ν κ, top, rfl, by omega, by omega, rfl, by omega, ?_⟩
            have := hQ A' L' fA fL
            simp only [lawV, lawOf, ← hf, Option.map_some] at this
            exact this
          · simp (disch := omega) only [nI_eq] at e
            rw [List.find?_cons_of_neg (by simpa using e)] at hf
            simp only [s_psh, s_ild, s_lld, s_ald, s_ist, s_lst, s_ast, s_inc, s_ib, s_ibz, s_iu, s_lb, s_lbz, s_lu, s_ls, s_il, s_li, s_cmp, s_dup, s_pop, s_dup2, s_cv, s_cs, s_ci, s_oi, s_get, s_put, s_iald, s_lald, s_zald, s_iast, s_last, s_zast, s_alen, s_iret, s_lret, s_aret, s_vret, s_al, gpad, gl, gst, gclr, gc2, gent, gcat, Value.category, List.drop_succ_cons, List.drop_zero, List.take_succ_cons, List.take_zero, List.reverse_cons, List.reverse_nil, List.nil_append, List.cons_append, List.append_nil, List.map_cons, List.map_nil, List.sum_cons, List.sum_nil, List.length_cons, List.length_nil, Option.toList, cond_true, cond_false, Nat.reduceBEq, Nat.reduceAdd, Nat.reduceLeDiff, beq_self_eq_true, true_and, and_true, BEq.rfl, Bool.false_eq_true, if_true, if_false, menc_0, menc_1, menc_2, menc_3, menc_4, menc_5, menc_6, menc_7, menc_8, menc_9, menc_10, menc_11, menc_12, menc_13, menc_14, mf_0, mf_1, mf_2, mf_3, mf_4, mf_5, mf_6, mf_7, mf_8, mf_9, mf_10, mf_11, mf_12, mf_13, mf_14, mf_15, mf_16, mf_17, mf_18, mf_19, mf_20, mf_21, mf_22, mf_23, mf_24, mf_25, mf_26, mf_27, mf_28, mf_29, mf_30, mf_31, ms_4, ms_5, ms_6, ms_7, ms_8, ms_9, ms_10, ms_11, ms_12, ms_13, ms_14, ms_16, ms_17, ms_18, ms_19, ms_23, ms_24, ms_27, mu_1, mu_2, mu_3, mu_4, mu_5, mu_6, mu_7, mu_8, mu_9, mu_10, mu_11, mu_12, mu_13, mu_14]
            simp only [true_and, and_true, lit, nI_add, nar_i, nar_0, nar_1, nar_b, fit_i, fit_l, pk_rem, nI_leI, nI_ltI, nI_eq, vin_iff, nI_clamp, nI_m1]
            exact ⟨_, by omega, i + 1, hil, rfl, rfl, hf⟩
  · exact h.elim
def nuC (a : Nat → Int32) (c p k : Nat) : Nat → Int := fun j => if j = 0 then (a 6).toInt else if j = 1 then (p : Int) else if j = 2 then (a (9 + p)).toInt else if j = 3 then (a (39 + p)).toInt else if j = 4 then (k : Int) else if j = 5 then (a (76 + c)).toInt else if j = 6 then (a (83 + c)).toInt else if j = 7 then (c : Int) else 0
def nuP (a : Nat → Int32) (p : Nat) : Nat → Int := fun j => if j = 0 then (a 6).toInt else if j = 1 then (p : Int) else if j = 2 then (a (9 + p)).toInt else if j = 3 then (a (39 + p)).toInt else 0
def kaA (a : Nat → Int32) : Nat → Int := fun j => if j < 30 then (a (9 + j)).toInt else 0
def catF (tx : Nat → List rCl) (a : Nat → Int32) (t : Option Nat) (c p k : Nat) : Nat := match t with
  | none => 1
  | some t => lawV (tx t) 0 10 (nuC a c p k) (kaA a)
def pntF (tx : Nat → List rCl) (a : Nat → Int32) (t : Option Nat) (p : Nat) : Nat := match t with
  | none => 1
  | some t => lawV (tx t) 1 9 (nuP a p) (kaA a)
/-- small: what the laws ask -/
def SM (a : Nat → Int32) : Prop := (∀ j, j < 30 → fits6 (a (9 + j)).toInt ∧ fits6 (a (39 + j)).toInt) ∧ fits6 (a 6).toInt ∧ ∀ c, c < 7 → fits6 (a (76 + c)).toInt ∧ fits6 (a (83 + c)).toInt
def NS (f : Nat → Int32) : Prop := ∀ j, j < 8 → fits6 (f j).toInt
/-- texts lie there, up to N -/
def TXS (f : Nat → Int32) (tx : Nat → List rCl) (N : Nat) : Prop := N ≤ 4 ∧ ∀ t, t < N → txtM f t (tx t) ∧ okT (tx t)
theorem fits_nat {k : Nat} (h : k ≤ 1000000) : fits6 (k : Int) := by unfold fits6; omega
theorem nuC_fits {a : Nat → Int32} {c p k : Nat} (h : SM a) (hc : c < 7) (hp : p < 30) (hk : k ≤ 60) (j : Nat) : fits6 (nuC a c p k j) := by
  unfold nuC
  repeat' split
  all_goals first
    | exact h.2.1
    | exact fits_nat (by omega)
    | exact (h.1 p hp).1
    | exact (h.1 p hp).2
    | exact (h.2.2 c hc).1
    | exact (h.2.2 c hc).2
    | exact ⟨by decide, by decide⟩
theorem kaA_fits {a : Nat → Int32} (h : SM a) (j : Nat) : fits6 (kaA a j) := by
  unfold kaA
  split
  · rename_i hj; exact (h.1 j hj).1
  · exact ⟨by decide, by decide⟩
theorem kaA_e {a : Nat → Int32} {j : Nat} (h : j < 30) : a (9 + j) = iI (kaA a j) := by
  unfold kaA
  rw [if_pos h, iI_of]
def sp_X12_name : gSp := fun as C n z Q => (lg_sl as).length ≤ 2 ∧ b_X12_name_0 Q (gpad 2 (gent as)) [] C n z
theorem c_X12_name (l : Launch) : Con l yX12_name cX12_name 2 none 0 0 0 sp_X12_name := m_X12_name fun _ _ _ _ _ h => h
def sp_X12_catchesOf : gSp := fun as C n z Q => match as with
  | [.ref m, .int x, .int u, .int v, .int y] => ∃ σ w A L R t tx N c p k, C = menc m σ w A L R ∧ x = tI t ∧ u = nI c ∧ v = nI p ∧ y = nI k ∧ c < 7 ∧ p < 30 ∧ k ≤ 60 ∧ TXS (A 3) tx N ∧ (∀ t', t = some t' → t' < N) ∧ SM (A 1) ∧ ∀ A' L', (∀ j, j ≠ 6 → j ≠ 8 → A' j = A j) → (∀ j, j ≠ 7 → L' j = L j) → NS (A' 6) → Q (some (.int (nI (catF tx (A 1) t c p k)))) (menc m σ w A' L' R) n z
  | _ => False
theorem upd_at {f : Nat → Int32} {k j : Nat} {v : Int32} : upd f k v j = if j = k then v else f j := rfl
set_option maxRecDepth 100000 in
set_option maxHeartbeats 4000000 in
theorem c_X12_catchesOf (l : Launch) : Con l yX12_catchesOf cX12_catchesOf 5 (some .int) 4 0 0 sp_X12_catchesOf := by
  refine m_X12_catchesOf (c_X12_name l) (by decide) (c_X12_says l) (by decide) ?_
  intro as C0 n0 z0 Q h
  unfold sp_X12_catchesOf at h
  split at h
  · rename_i m x u v y
    obtain ⟨σ, w, A, L, R, t, tx, N, c, p, k, rfl, rfl, rfl, rfl, rfl, hc, hp, hk, hT, htN, hS, hQ⟩ := h
    refine ⟨Nat.le_of_ble_eq_true rfl, ?_⟩
    simp only [b_X12_catchesOf_0, sp_X12_name, b_X12_name_0, supa, Nat.reduceEqDiff, reduceIte, s_psh, s_ild, s_lld, s_ald, s_ist, s_lst, s_ast, s_inc, s_ib, s_ibz, s_iu, s_lb, s_lbz, s_lu, s_ls, s_il, s_li, s_cmp, s_dup, s_pop, s_dup2, s_if1, s_if2, s_ifn, s_cv, s_cs, s_ci, s_oi, s_get, s_put, s_iald, s_lald, s_zald, s_iast, s_last, s_zast, s_alen, s_iret, s_lret, s_aret, s_vret, s_al, gpad, gl, gst, gclr, gc2, gent, gcat, Value.category, List.drop_succ_cons, List.drop_zero, List.take_succ_cons, List.take_zero, List.reverse_cons, List.reverse_nil, List.nil_append, List.cons_append, List.append_nil, List.map_cons, List.map_nil, List.sum_cons, List.sum_nil, List.length_cons, List.length_nil, Option.toList, cond_true, cond_false, Nat.reduceBEq, Nat.reduceAdd, Nat.reduceLeDiff, beq_self_eq_true, true_and, and_true, BEq.rfl, Bool.false_eq_true, if_true, if_false, menc_0, menc_1, menc_2, menc_3, menc_4, menc_5, menc_6, menc_7, menc_8, menc_9, menc_10, menc_11, menc_12, menc_13, menc_14, mf_0, mf_1, mf_2, mf_3, mf_4, mf_5, mf_6, mf_7, mf_8, mf_9, mf_10, mf_11, mf_12, mf_13, mf_14, mf_15, mf_16, mf_17, mf_18, mf_19, mf_20, mf_21, mf_22, mf_23, mf_24, mf_25, mf_26, mf_27, mf_28, mf_29, mf_30, mf_31, ms_4, ms_5, ms_6, ms_7, ms_8, ms_9, ms_10, ms_11, ms_12, ms_13, ms_14, ms_16, ms_17, ms_18, ms_19, ms_23, ms_24, ms_27, mu_1, mu_2, mu_3, mu_4, mu_5, mu_6, mu_7, mu_8, mu_9, mu_10, mu_11, mu_12, mu_13, mu_14]
    simp (disch := omega) only [true_and, and_true, lit, nI_add, nar_i, nar_0, nar_1, nar_b, fit_i, fit_l, pk_rem, nI_leI, nI_ltI, nI_eq, vin_iff, nI_clamp, nI_m1, Nat.reduceLT]
    refine ⟨Nat.le_of_ble_eq_true rfl, by omega, by omega, by omega, by omega, ?_⟩
    have hN6 : ∀ j, j < 8 → (upd (upd (upd (upd (upd (upd (upd (upd (A 6) 0 (A 1 6)) 1 (nI p)) 2 (A 1 (9 + p))) 3 (A 1 (39 + p))) 4 (nI k)) 5 (A 1 (76 + c))) 6 (A 1 (83 + c))) 7 (nI c)) j = iI (nuC (A 1) c p k j) := by
      intro j hj
      simp only [upd_at, nuC]
      have : j = 0 ∨ j = 1 ∨ j = 2 ∨ j = 3 ∨ j = 4 ∨ j = 5 ∨ j = 6 ∨ j = 7 := by omega
      rcases this with rfl | rfl | rfl | rfl | rfl | rfl | rfl | rfl <;> simp only [Nat.reduceEqDiff, reduceIte, iI_of, nI_iI]
    refine ⟨_, _, _, _, _, t, (match t with
      | none => []
      | some t' => tx t'), 0, 10, nuC (A 1) c p k, kaA (A 1), rfl, rfl, rfl, by decide, rfl, by decide, fun t' e => ?_, ?_, ⟨nuC_fits hS hc hp hk, kaA_fits hS⟩, ?_, fun j hj => ?_, fun A' L' fA fL => ?_⟩
    · subst e
      have := htN t' rfl
      refine ⟨by have := hT.1; omega, ?_⟩
      simp only [supa, Nat.reduceEqDiff, reduceIte]
      exact (hT.2 t' this).1
    · cases t with
      | none => intro c hc; cases hc
      | some t' => exact (hT.2 t' (htN t' rfl)).2
    · intro j hj
      simp only [supa, Nat.reduceEqDiff, reduceIte]
      exact hN6 j hj
    · simp only [supa, Nat.reduceEqDiff, reduceIte]
      exact kaA_e hj
    · simp only [s_psh, s_ild, s_lld, s_ald, s_ist, s_lst, s_ast, s_inc, s_ib, s_ibz, s_iu, s_lb, s_lbz, s_lu, s_ls, s_il, s_li, s_cmp, s_dup, s_pop, s_dup2, s_if1, s_if2, s_ifn, s_cv, s_cs, s_ci, s_oi, s_get, s_put, s_iald, s_lald, s_zald, s_iast, s_last, s_zast, s_alen, s_iret, s_lret, s_aret, s_vret, s_al, gpad, gl, gst, gclr, gc2, gent, gcat, Value.category, List.drop_succ_cons, List.drop_zero, List.take_succ_cons, List.take_zero, List.reverse_cons, List.reverse_nil, List.nil_append, List.cons_append, List.append_nil, List.map_cons, List.map_nil, List.sum_cons, List.sum_nil, List.length_cons, List.length_nil, Option.toList, cond_true, cond_false, Nat.reduceBEq, Nat.reduceAdd, Nat.reduceLeDiff, beq_self_eq_true, true_and, and_true, BEq.rfl, Bool.false_eq_true, if_true, if_false, menc_0, menc_1, menc_2, menc_3, menc_4, menc_5, menc_6, menc_7, menc_8, menc_9, menc_10, menc_11, menc_12, menc_13, menc_14, mf_0, mf_1, mf_2, mf_3, mf_4, mf_5, mf_6, mf_7, mf_8, mf_9, mf_10, mf_11, mf_12, mf_13, mf_14, mf_15, mf_16, mf_17, mf_18, mf_19, mf_20, mf_21, mf_22, mf_23, mf_24, mf_25, mf_26, mf_27, mf_28, mf_29, mf_30, mf_31, ms_4, ms_5, ms_6, ms_7, ms_8, ms_9, ms_10, ms_11, ms_12, ms_13, ms_14, ms_16, ms_17, ms_18, ms_19, ms_23, ms_24, ms_27, mu_1, mu_2, mu_3, mu_4, mu_5, mu_6, mu_7, mu_8, mu_9, mu_10, mu_11, mu_12, mu_13, mu_14]
      have h6 : NS (A' 6) := by
        intro j hj
        rw [fA 6 (by decide)]
        simp only [supa, Nat.reduceEqDiff, reduceIte]
        rw [hN6 j hj]
        have hf := nuC_fits (j := j) hS hc hp hk
        rw [iI_T (by unfold fits6 at hf; omega) (by unfold fits6 at hf; omega)]
        exact hf
      have := hQ A' L' (fun j q1 q2 => by rw [fA j q2]; simp only [supa, if_neg q1]) fL h6
      cases t with
      | none => exact this
      | some t' => exact this
  · exact h.elim
def sp_X12_paintsOf : gSp := fun as C n z Q => match as with
  | [.ref m, .int v] => ∃ σ w A L R t tx N p, C = menc m σ w A L R ∧ A 1 2 = tI t ∧ v = nI p ∧ p < 30 ∧ TXS (A 3) tx N ∧ (∀ t', t = some t' → t' < N) ∧ SM (A 1) ∧ NS (A 6) ∧ ∀ A' L', (∀ j, j ≠ 6 → j ≠ 8 → A' j = A j) → (∀ j, j ≠ 7 → L' j = L j) → NS (A' 6) → Q (some (.int (nI (pntF tx (A 1) t p)))) (menc m σ w A' L' R) n z
  | _ => False
set_option maxRecDepth 100000 in
set_option maxHeartbeats 4000000 in
theorem c_X12_paintsOf (l : Launch) : Con l yX12_paintsOf cX12_paintsOf 2 (some .int) 4 0 0 sp_X12_paintsOf := by
  refine m_X12_paintsOf (c_X12_name l) (by decide) (c_X12_says l) (by decide) ?_
  intro as C0 n0 z0 Q h
  unfold sp_X12_paintsOf at h
  split at h
  · rename_i m v
    obtain ⟨σ, w, A, L, R, t, tx, N, p, rfl, h2, rfl, hp, hT, htN, hS, hNS, hQ⟩ := h
    refine ⟨Nat.le_of_ble_eq_true rfl, ?_⟩
    simp only [b_X12_paintsOf_0, sp_X12_name, b_X12_name_0, supa, Nat.reduceEqDiff, reduceIte, s_psh, s_ild, s_lld, s_ald, s_ist, s_lst, s_ast, s_inc, s_ib, s_ibz, s_iu, s_lb, s_lbz, s_lu, s_ls, s_il, s_li, s_cmp, s_dup, s_pop, s_dup2, s_if1, s_if2, s_ifn, s_cv, s_cs, s_ci, s_oi, s_get, s_put, s_iald, s_lald, s_zald, s_iast, s_last, s_zast, s_alen, s_iret, s_lret, s_aret, s_vret, s_al, gpad, gl, gst, gclr, gc2, gent, gcat, Value.category, List.drop_succ_cons, List.drop_zero, List.take_succ_cons, List.take_zero, List.reverse_cons, List.reverse_nil, List.nil_append, List.cons_append, List.append_nil, List.map_cons, List.map_nil, List.sum_cons, List.sum_nil, List.length_cons, List.length_nil, Option.toList, cond_true, cond_false, Nat.reduceBEq, Nat.reduceAdd, Nat.reduceLeDiff, beq_self_eq_true, true_and, and_true, BEq.rfl, Bool.false_eq_true, if_true, if_false, menc_0, menc_1, menc_2, menc_3, menc_4, menc_5, menc_6, menc_7, menc_8, menc_9, menc_10, menc_11, menc_12, menc_13, menc_14, mf_0, mf_1, mf_2, mf_3, mf_4, mf_5, mf_6, mf_7, mf_8, mf_9, mf_10, mf_11, mf_12, mf_13, mf_14, mf_15, mf_16, mf_17, mf_18, mf_19, mf_20, mf_21, mf_22, mf_23, mf_24, mf_25, mf_26, mf_27, mf_28, mf_29, mf_30, mf_31, ms_4, ms_5, ms_6, ms_7, ms_8, ms_9, ms_10, ms_11, ms_12, ms_13, ms_14, ms_16, ms_17, ms_18, ms_19, ms_23, ms_24, ms_27, mu_1, mu_2, mu_3, mu_4, mu_5, mu_6, mu_7, mu_8, mu_9, mu_10, mu_11, mu_12, mu_13, mu_14]
    simp (disch := omega) only [true_and, and_true, lit, nI_add, nar_i, nar_0, nar_1, nar_b, fit_i, fit_l, pk_rem, nI_leI, nI_ltI, nI_eq, vin_iff, nI_clamp, nI_m1, h2, Nat.reduceLT]
    refine ⟨Nat.le_of_ble_eq_true rfl, by omega, by omega, ?_⟩
    have hN6 : ∀ j, j < 8 → fits6 ((upd (upd (upd (upd (A 6) 0 (A 1 6)) 1 (nI p)) 2 (A 1 (9 + p))) 3 (A 1 (39 + p))) j).toInt := by
      intro j hj
      simp only [upd_at]
      repeat' split
      · exact (hS.1 p hp).2
      · exact (hS.1 p hp).1
      · rw [nI_toInt (by omega)]; exact fits_nat (by omega)
      · exact hS.2.1
      · exact hNS j hj
    have hP : ∀ j, j ≤ 3 → (fun j => if j < 8 then ((upd (upd (upd (upd (A 6) 0 (A 1 6)) 1 (nI p)) 2 (A 1 (9 + p))) 3 (A 1 (39 + p))) j).toInt else 0) j = nuP (A 1) p j := by
      intro j hj
      simp only [upd_at, nuP]
      have : j = 0 ∨ j = 1 ∨ j = 2 ∨ j = 3 := by omega
      rcases this with rfl | rfl | rfl | rfl <;> simp only [Nat.reduceEqDiff, Nat.reduceLT, reduceIte]
      rw [nI_toInt (by omega)]
    refine ⟨_, _, _, _, _, t, (match t with
      | none => []
      | some t' => tx t'), 1, 9, (fun j => if j < 8 then ((upd (upd (upd (upd (A 6) 0 (A 1 6)) 1 (nI p)) 2 (A 1 (9 + p))) 3 (A 1 (39 + p))) j).toInt else 0), kaA (A 1), rfl, rfl, rfl, by decide, rfl, by decide, fun t' e => ?_, ?_, ⟨fun j => ?_, kaA_fits hS⟩, ?_, fun j hj => ?_, fun A' L' fA fL => ?_⟩
    · subst e
      have := htN t' rfl
      refine ⟨by have := hT.1; omega, ?_⟩
      simp only [supa, Nat.reduceEqDiff, reduceIte]
      exact (hT.2 t' this).1
    · cases t with
      | none => intro c hc; cases hc
      | some t' => exact (hT.2 t' (htN t' rfl)).2
    · show fits6 (if j < 8 then _ else 0)
      split
      · rename_i hj; exact hN6 j hj
      · exact ⟨by decide, by decide⟩
    · intro j hj
      simp only [supa, Nat.reduceEqDiff, reduceIte, if_pos hj, iI_of]
    · simp only [supa, Nat.reduceEqDiff, reduceIte]
      exact kaA_e hj
    · simp only [s_psh, s_ild, s_lld, s_ald, s_ist, s_lst, s_ast, s_inc, s_ib, s_ibz, s_iu, s_lb, s_lbz, s_lu, s_ls, s_il, s_li, s_cmp, s_dup, s_pop, s_dup2, s_if1, s_if2, s_ifn, s_cv, s_cs, s_ci, s_oi, s_get, s_put, s_iald, s_lald, s_zald, s_iast, s_last, s_zast, s_alen, s_iret, s_lret, s_aret, s_vret, s_al, gpad, gl, gst, gclr, gc2, gent, gcat, Value.category, List.drop_succ_cons, List.drop_zero, List.take_succ_cons, List.take_zero, List.reverse_cons, List.reverse_nil, List.nil_append, List.cons_append, List.append_nil, List.map_cons, List.map_nil, List.sum_cons, List.sum_nil, List.length_cons, List.length_nil, Option.toList, cond_true, cond_false, Nat.reduceBEq, Nat.reduceAdd, Nat.reduceLeDiff, beq_self_eq_true, true_and, and_true, BEq.rfl, Bool.false_eq_true, if_true, if_false, menc_0, menc_1, menc_2, menc_3, menc_4, menc_5, menc_6, menc_7, menc_8, menc_9, menc_10, menc_11, menc_12, menc_13, menc_14, mf_0, mf_1, mf_2, mf_3, mf_4, mf_5, mf_6, mf_7, mf_8, mf_9, mf_10, mf_11, mf_12, mf_13, mf_14, mf_15, mf_16, mf_17, mf_18, mf_19, mf_20, mf_21, mf_22, mf_23, mf_24, mf_25, mf_26, mf_27, mf_28, mf_29, mf_30, mf_31, ms_4, ms_5, ms_6, ms_7, ms_8, ms_9, ms_10, ms_11, ms_12, ms_13, ms_14, ms_16, ms_17, ms_18, ms_19, ms_23, ms_24, ms_27, mu_1, mu_2, mu_3, mu_4, mu_5, mu_6, mu_7, mu_8, mu_9, mu_10, mu_11, mu_12, mu_13, mu_14]
      have h6 : NS (A' 6) := by
        intro j hj
        rw [fA 6 (by decide)]
        simp only [supa, Nat.reduceEqDiff, reduceIte]
        exact hN6 j hj
      have := hQ A' L' (fun j q1 q2 => by rw [fA j q2]; simp only [supa, if_neg q1]) fL h6
      cases t with
      | none => exact this
      | some t' =>
        have hok := (hT.2 t' (htN t' rfl)).2
        simp only [pntF, lawV] at this ⊢
        cases hl : lawOf (tx t') 1 with
        | none => rw [hl] at this; exact this
        | some d =>
          rw [hl] at this
          unfold lawOf at hl
          obtain ⟨c, hc, rfl⟩ := Option.map_eq_some_iff.mp hl
          have hc1 : c.1 = 1 := by simpa using List.find?_some hc
          have hme := (hok c (List.mem_of_find?_eq_some hc)).2 (by omega)
          rw [hc1] at hme
          simp only at this ⊢
          rw [hme.1.2.2 rfl _ (nuP (A 1) p) (kaA (A 1)) hP]
          exact this
  · exact h.elim
