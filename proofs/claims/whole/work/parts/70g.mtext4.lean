/-! the reference: a text -/
theorem rBody_gt {S V : Nat → Nat} {sort i j : Nat} {c : rCl} (h : rBody S V sort i = .inr (j, c)) : i < j := by
  unfold rBody at h
  split at h
  · have := (rPair_inr h).2.2.1; omega
  · split at h
    · have := (rPair_inr h).2.2.1; omega
    · split at h
      · have := (rPair_inr h).2.2.1; omega
      · split at h
        · have := (rPair_inr h).2.2.1; omega
        · split at h
          · have := (rFig_inr h).2.1; omega
          · split at h
            · have := (rFig_inr h).2.1; omega
            · split at h
              · have := (rFig_inr h).2.1; omega
              · obtain ⟨a, e, -⟩ := rLaw_inr h
                exact rSum_mono (rLv_mono S V (sort == 0) 8).1 _ _ _ e
theorem rClause_gt {S V : Nat → Nat} {l : List rCl} {i j : Nat} {c : rCl} (h : rClause S V l i = .inr (j, c)) : i < j ∧ l.length ≠ 24 := by
  unfold rClause at h
  split at h
  · cases h
  · split at h
    · cases h
    · split at h
      · cases h
      · rename_i h24
        split at h
        · cases h
        · rename_i j' c' e
          split at h
          · have := rBody_gt e
            simp only [Sum.inr.injEq, Prod.mk.injEq] at h
            exact ⟨by omega, h24⟩
          · cases h
def texR (m : Nat) (L : Nat → Nat → Int64) (R : gC) (n z : Nat) (Q : gQ) (T : Nat → Nat) (len t0 : Nat) (σ0 : Nat → Int32) (A0 : Nat → Nat → Int32) : (Nat × Nat) ⊕ List rCl → Prop
  | .inl (f, j) => ∀ σ w A, 1 ≤ f → f ≤ 6 → TX σ w A T len j → CF t0 σ0 A0 σ A → Q (some (.int (nI f))) (menc m σ w A L R) n z
  | .inr l => ∀ σ w A out, clsM (A 3) t0 l out → codeM (A 3) (t0 + 73) out → out.length ≤ 300 → l.length ≤ 24 → CF t0 σ0 A0 σ A → Q (some (.int (nI 0))) (menc m σ w A L R) n z
theorem CF.trans {t0 : Nat} {σ0 σ1 σ2 : Nat → Int32} {A0 A1 A2 : Nat → Nat → Int32} (h : CF t0 σ0 A0 σ1 A1) (h2 : CF t0 σ1 A1 σ2 A2) : CF t0 σ0 A0 σ2 A2 :=
  ⟨fun j q1 q2 q3 q4 q5 q6 q7 q8 q9 q10 => by rw [h2.1 j q1 q2 q3 q4 q5 q6 q7 q8 q9 q10, h.1 j q1 q2 q3 q4 q5 q6 q7 q8 q9 q10], fun j q1 q2 => by rw [h2.2.1 j q1 q2, h.2.1 j q1 q2], fun k hk => by rw [h2.2.2 k hk, h.2.2 k hk]⟩
def sp_X12_readText : gSp := fun as C n z Q => match as with
  | [.ref m] => ∃ σ w A L R T len tx, C = menc m σ w A L R ∧ A 4 = (fun k => nI (T k)) ∧ (∀ k, T k < 256) ∧ σ 4 = nI len ∧ len ≤ 300 ∧ A 1 1 = nI tx ∧ tx < 4 ∧ texR m L R n z Q T len (681 * tx) (sup σ 12 (nI (681 * tx))) A (rText (tkS T len) (tkV T len) 302 0 [])
  | _ => False
set_option maxRecDepth 100000 in
set_option maxHeartbeats 4000000 in
theorem c_X12_readText (l : Launch) : Con l yX12_readText cX12_readText 2 (some .int) 11 0 0 sp_X12_readText := by
  refine m_X12_readText (c_X12_clause l) (by decide) (c_X12_nextT l) (by decide) ?_
  intro as C0 n0 z0 Q h
  unfold sp_X12_readText at h
  split at h
  · rename_i m
    obtain ⟨σ0, w0, A0, L, R, T, len, tx, rfl, hA, hT, h4, hlen, h1, htx, hQ⟩ := h
    have hcn : ∀ (C' : gC) (n' z' : Nat) (v : Int32) (_ : Q (some (.int v)) C' n' z'), Q (some (.int v)) C' n' z' := fun _ _ _ _ q => q
    refine ⟨Nat.le_of_ble_eq_true rfl, fun pc μ lv st C n z => ∃ σ w A i l out o1, n = n0 ∧ z = z0 ∧ st = [] ∧ lv = [some (.ref m), o1] ∧ C = menc m σ w A L R ∧ RC T len (681 * tx) l out i σ w A ∧ CF (681 * tx) (sup σ0 12 (nI (681 * tx))) A0 σ A ∧ rText (tkS T len) (tkV T len) μ i l = rText (tkS T len) (tkV T len) 302 0 [] ∧ 302 ≤ i + μ, ?_, ?_⟩
    · simp only [b_X12_readText_0, sp_X12_nextT, supa, Nat.reduceEqDiff, reduceIte, s_psh, s_ild, s_lld, s_ald, s_ist, s_lst, s_ast, s_inc, s_ib, s_ibz, s_iu, s_lb, s_lbz, s_lu, s_ls, s_il, s_li, s_cmp, s_dup, s_pop, s_dup2, s_if1, s_if2, s_ifn, s_cv, s_cs, s_ci, s_oi, s_get, s_put, s_iald, s_lald, s_zald, s_iast, s_last, s_zast, s_alen, s_iret, s_lret, s_aret, s_vret, s_al, gpad, gl, gst, gclr, gc2, gent, gcat, Value.category, List.drop_succ_cons, List.drop_zero, List.take_succ_cons, List.take_zero, List.reverse_cons, List.reverse_nil, List.nil_append, List.cons_append, List.append_nil, List.map_cons, List.map_nil, List.sum_cons, List.sum_nil, List.length_cons, List.length_nil, Option.toList, cond_true, cond_false, Nat.reduceBEq, Nat.reduceAdd, Nat.reduceLeDiff, beq_self_eq_true, true_and, and_true, BEq.rfl, Bool.false_eq_true, if_true, if_false, menc_0, menc_1, menc_2, menc_3, menc_4, menc_5, menc_6, menc_7, menc_8, menc_9, menc_10, menc_11, menc_12, menc_13, menc_14, mf_0, mf_1, mf_2, mf_3, mf_4, mf_5, mf_6, mf_7, mf_8, mf_9, mf_10, mf_11, mf_12, mf_13, mf_14, mf_15, mf_16, mf_17, mf_18, mf_19, mf_20, mf_21, mf_22, mf_23, mf_24, mf_25, mf_26, mf_27, mf_28, mf_29, mf_30, mf_31, ms_4, ms_5, ms_6, ms_7, ms_8, ms_9, ms_10, ms_11, ms_12, ms_13, ms_14, ms_16, ms_17, ms_18, ms_19, ms_23, ms_24, ms_27, mu_1, mu_2, mu_3, mu_4, mu_5, mu_6, mu_7, mu_8, mu_9, mu_10, mu_11, mu_12, mu_13, mu_14]
      simp (disch := omega) only [true_and, and_true, lit, nI_add, nar_i, nar_0, nar_1, nar_b, fit_i, fit_l, pk_rem, nI_leI, nI_ltI, nI_eq, vin_iff, nI_clamp, nI_m1, h1, pk_mul]
      refine ⟨by omega, by omega, _, _, _, _, _, T, len, 0, rfl, ?_, hT, ?_, hlen, ?_, fun σ1 w1 f1 t1 => ⟨302, σ1, w1, _, 0, [], [], _, rfl, rfl, ?_, ?_, rfl, by omega⟩⟩
      · rw [supa, if_neg (by decide)]; exact hA
      · simp only [supa, Nat.reduceEqDiff, reduceIte]; exact h4
      · simp only [supa, Nat.reduceEqDiff, reduceIte]; rfl
      · refine ⟨t1, Nat.zero_le _, ?_, by omega, ?_, ?_, Nat.zero_le _, ?_, Nat.zero_le _, ?_, ?_⟩
        · rw [f1 12 (by decide) (by decide) (by decide) (by decide)]; simp only [supa, Nat.reduceEqDiff, reduceIte]
        · rw [f1 13 (by decide) (by decide) (by decide) (by decide)]; simp only [supa, Nat.reduceEqDiff, reduceIte]; rfl
        · intro k c hk; cases hk
        · rw [f1 19 (by decide) (by decide) (by decide) (by decide)]; simp only [supa, Nat.reduceEqDiff, reduceIte]; rfl
        · rw [supa, if_pos rfl, pk_us]; rfl
        · intro k c hk; cases hk
      · refine ⟨fun j q1 q2 q3 q4 q5 q6 q7 q8 q9 q10 => ?_, fun j q1 q2 => ?_, fun k hk => ?_⟩
        · rw [f1 j q1 q2 q3 q4]
          simp only [supa, if_neg q1, if_neg q5, if_neg q10]
        · rw [supa, if_neg q1]
        · rw [supa, if_pos rfl, pk_un (by omega)]
    · rintro μ lv st C n z ⟨σ, w, A, i, l, out, o1, rfl, rfl, rfl, rfl, rfl, hrc, hcf, hrt, hμ⟩
      have hrc' := hrc
      obtain ⟨t1, hi, g12, gt0, g13, gcd, gol, g19, gll, gcl⟩ := hrc'
      simp only [b_X12_readText_43, s_psh, s_ild, s_lld, s_ald, s_ist, s_lst, s_ast, s_inc, s_ib, s_ibz, s_iu, s_lb, s_lbz, s_lu, s_ls, s_il, s_li, s_cmp, s_dup, s_pop, s_dup2, s_cv, s_cs, s_ci, s_oi, s_get, s_put, s_iald, s_lald, s_zald, s_iast, s_last, s_zast, s_alen, s_iret, s_lret, s_aret, s_vret, s_al, gpad, gl, gst, gclr, gc2, gent, gcat, Value.category, List.drop_succ_cons, List.drop_zero, List.take_succ_cons, List.take_zero, List.reverse_cons, List.reverse_nil, List.nil_append, List.cons_append, List.append_nil, List.map_cons, List.map_nil, List.sum_cons, List.sum_nil, List.length_cons, List.length_nil, Option.toList, cond_true, cond_false, Nat.reduceBEq, Nat.reduceAdd, Nat.reduceLeDiff, beq_self_eq_true, true_and, and_true, BEq.rfl, Bool.false_eq_true, if_true, if_false, menc_0, menc_1, menc_2, menc_3, menc_4, menc_5, menc_6, menc_7, menc_8, menc_9, menc_10, menc_11, menc_12, menc_13, menc_14, mf_0, mf_1, mf_2, mf_3, mf_4, mf_5, mf_6, mf_7, mf_8, mf_9, mf_10, mf_11, mf_12, mf_13, mf_14, mf_15, mf_16, mf_17, mf_18, mf_19, mf_20, mf_21, mf_22, mf_23, mf_24, mf_25, mf_26, mf_27, mf_28, mf_29, mf_30, mf_31, ms_4, ms_5, ms_6, ms_7, ms_8, ms_9, ms_10, ms_11, ms_12, ms_13, ms_14, ms_16, ms_17, ms_18, ms_19, ms_23, ms_24, ms_27, mu_1, mu_2, mu_3, mu_4, mu_5, mu_6, mu_7, mu_8, mu_9, mu_10, mu_11, mu_12, mu_13, mu_14]
      simp only [true_and, and_true, lit, nI_add, nar_i, nar_0, nar_1, nar_b, fit_i, fit_l, pk_rem, nI_leI, nI_ltI, nI_eq, vin_iff, nI_clamp, nI_m1]
      refine if1i (fun e => ?_) (fun e => ?_)
      · simp only [lit, ts_0 t1] at e
        obtain ⟨f, rfl⟩ : ∃ f, μ = f + 1 := ⟨μ - 1, by omega⟩
        rw [rText, if_pos e] at hrt
        rw [← hrt] at hQ
        simp only [s_psh, s_ild, s_lld, s_ald, s_ist, s_lst, s_ast, s_inc, s_ib, s_ibz, s_iu, s_lb, s_lbz, s_lu, s_ls, s_il, s_li, s_cmp, s_dup, s_pop, s_dup2, s_cv, s_cs, s_ci, s_oi, s_get, s_put, s_iald, s_lald, s_zald, s_iast, s_last, s_zast, s_alen, s_iret, s_lret, s_aret, s_vret, s_al, gpad, gl, gst, gclr, gc2, gent, gcat, Value.category, List.drop_succ_cons, List.drop_zero, List.take_succ_cons, List.take_zero, List.reverse_cons, List.reverse_nil, List.nil_append, List.cons_append, List.append_nil, List.map_cons, List.map_nil, List.sum_cons, List.sum_nil, List.length_cons, List.length_nil, Option.toList, cond_true, cond_false, Nat.reduceBEq, Nat.reduceAdd, Nat.reduceLeDiff, beq_self_eq_true, true_and, and_true, BEq.rfl, Bool.false_eq_true, if_true, if_false, menc_0, menc_1, menc_2, menc_3, menc_4, menc_5, menc_6, menc_7, menc_8, menc_9, menc_10, menc_11, menc_12, menc_13, menc_14, mf_0, mf_1, mf_2, mf_3, mf_4, mf_5, mf_6, mf_7, mf_8, mf_9, mf_10, mf_11, mf_12, mf_13, mf_14, mf_15, mf_16, mf_17, mf_18, mf_19, mf_20, mf_21, mf_22, mf_23, mf_24, mf_25, mf_26, mf_27, mf_28, mf_29, mf_30, mf_31, ms_4, ms_5, ms_6, ms_7, ms_8, ms_9, ms_10, ms_11, ms_12, ms_13, ms_14, ms_16, ms_17, ms_18, ms_19, ms_23, ms_24, ms_27, mu_1, mu_2, mu_3, mu_4, mu_5, mu_6, mu_7, mu_8, mu_9, mu_10, mu_11, mu_12, mu_13, mu_14]
        simp only [true_and, and_true, lit, nI_add, nar_i, nar_0, nar_1, nar_b, fit_i, fit_l, pk_rem, nI_leI, nI_ltI, nI_eq, vin_iff, nI_clamp, nI_m1]
        exact hQ σ w A out gcl gcd (by omega) gll hcf
      · simp only [lit, ts_0 t1] at e
        obtain ⟨f, rfl⟩ : ∃ f, μ = f + 1 := ⟨μ - 1, by omega⟩
        rw [rText, if_neg e] at hrt
        simp only [sp_X12_clause, s_psh, s_ild, s_lld, s_ald, s_ist, s_lst, s_ast, s_inc, s_ib, s_ibz, s_iu, s_lb, s_lbz, s_lu, s_ls, s_il, s_li, s_cmp, s_dup, s_pop, s_dup2, s_cv, s_cs, s_ci, s_oi, s_get, s_put, s_iald, s_lald, s_zald, s_iast, s_last, s_zast, s_alen, s_iret, s_lret, s_aret, s_vret, s_al, gpad, gl, gst, gclr, gc2, gent, gcat, Value.category, List.drop_succ_cons, List.drop_zero, List.take_succ_cons, List.take_zero, List.reverse_cons, List.reverse_nil, List.nil_append, List.cons_append, List.append_nil, List.map_cons, List.map_nil, List.sum_cons, List.sum_nil, List.length_cons, List.length_nil, Option.toList, cond_true, cond_false, Nat.reduceBEq, Nat.reduceAdd, Nat.reduceLeDiff, beq_self_eq_true, true_and, and_true, BEq.rfl, Bool.false_eq_true, if_true, if_false, menc_0, menc_1, menc_2, menc_3, menc_4, menc_5, menc_6, menc_7, menc_8, menc_9, menc_10, menc_11, menc_12, menc_13, menc_14, mf_0, mf_1, mf_2, mf_3, mf_4, mf_5, mf_6, mf_7, mf_8, mf_9, mf_10, mf_11, mf_12, mf_13, mf_14, mf_15, mf_16, mf_17, mf_18, mf_19, mf_20, mf_21, mf_22, mf_23, mf_24, mf_25, mf_26, mf_27, mf_28, mf_29, mf_30, mf_31, ms_4, ms_5, ms_6, ms_7, ms_8, ms_9, ms_10, ms_11, ms_12, ms_13, ms_14, ms_16, ms_17, ms_18, ms_19, ms_23, ms_24, ms_27, mu_1, mu_2, mu_3, mu_4, mu_5, mu_6, mu_7, mu_8, mu_9, mu_10, mu_11, mu_12, mu_13, mu_14]
        refine ⟨σ, w, A, L, R, T, len, 681 * tx, i, out, l, rfl, hrc, ?_⟩
        rcases ec : rClause (tkS T len) (tkV T len) l i with ⟨ff, j⟩ | ⟨j, c⟩
        · rw [ec] at hrt
          simp only at hrt
          rw [← hrt] at hQ
          intro σ2 w2 A2 hf1 hf6 t2 cf2
          simp only [s_psh, s_ild, s_lld, s_ald, s_ist, s_lst, s_ast, s_inc, s_ib, s_ibz, s_iu, s_lb, s_lbz, s_lu, s_ls, s_il, s_li, s_cmp, s_dup, s_pop, s_dup2, s_if1, s_if2, s_ifn, s_cv, s_cs, s_ci, s_oi, s_get, s_put, s_iald, s_lald, s_zald, s_iast, s_last, s_zast, s_alen, s_iret, s_lret, s_aret, s_vret, s_al, gpad, gl, gst, gclr, gc2, gent, gcat, Value.category, List.drop_succ_cons, List.drop_zero, List.take_succ_cons, List.take_zero, List.reverse_cons, List.reverse_nil, List.nil_append, List.cons_append, List.append_nil, List.map_cons, List.map_nil, List.sum_cons, List.sum_nil, List.length_cons, List.length_nil, Option.toList, cond_true, cond_false, Nat.reduceBEq, Nat.reduceAdd, Nat.reduceLeDiff, beq_self_eq_true, true_and, and_true, BEq.rfl, Bool.false_eq_true, if_true, if_false, menc_0, menc_1, menc_2, menc_3, menc_4, menc_5, menc_6, menc_7, menc_8, menc_9, menc_10, menc_11, menc_12, menc_13, menc_14, mf_0, mf_1, mf_2, mf_3, mf_4, mf_5, mf_6, mf_7, mf_8, mf_9, mf_10, mf_11, mf_12, mf_13, mf_14, mf_15, mf_16, mf_17, mf_18, mf_19, mf_20, mf_21, mf_22, mf_23, mf_24, mf_25, mf_26, mf_27, mf_28, mf_29, mf_30, mf_31, ms_4, ms_5, ms_6, ms_7, ms_8, ms_9, ms_10, ms_11, ms_12, ms_13, ms_14, ms_16, ms_17, ms_18, ms_19, ms_23, ms_24, ms_27, mu_1, mu_2, mu_3, mu_4, mu_5, mu_6, mu_7, mu_8, mu_9, mu_10, mu_11, mu_12, mu_13, mu_14]
          simp (disch := omega) only [true_and, and_true, lit, nI_add, nar_i, nar_0, nar_1, nar_b, fit_i, fit_l, pk_rem, nI_leI, nI_ltI, nI_eq, vin_iff, nI_clamp, nI_m1]
          exact ⟨fun q => by omega, fun _ => hQ σ2 w2 A2 hf1 hf6 t2 (hcf.trans cf2)⟩
        · rw [ec] at hrt
          simp only at hrt
          have hgt := rClause_gt ec
          intro σ2 w2 A2 out2 rc2 cf2
          simp only [s_psh, s_ild, s_lld, s_ald, s_ist, s_lst, s_ast, s_inc, s_ib, s_ibz, s_iu, s_lb, s_lbz, s_lu, s_ls, s_il, s_li, s_cmp, s_dup, s_pop, s_dup2, s_if1, s_if2, s_ifn, s_cv, s_cs, s_ci, s_oi, s_get, s_put, s_iald, s_lald, s_zald, s_iast, s_last, s_zast, s_alen, s_iret, s_lret, s_aret, s_vret, s_al, gpad, gl, gst, gclr, gc2, gent, gcat, Value.category, List.drop_succ_cons, List.drop_zero, List.take_succ_cons, List.take_zero, List.reverse_cons, List.reverse_nil, List.nil_append, List.cons_append, List.append_nil, List.map_cons, List.map_nil, List.sum_cons, List.sum_nil, List.length_cons, List.length_nil, Option.toList, cond_true, cond_false, Nat.reduceBEq, Nat.reduceAdd, Nat.reduceLeDiff, beq_self_eq_true, true_and, and_true, BEq.rfl, Bool.false_eq_true, if_true, if_false, menc_0, menc_1, menc_2, menc_3, menc_4, menc_5, menc_6, menc_7, menc_8, menc_9, menc_10, menc_11, menc_12, menc_13, menc_14, mf_0, mf_1, mf_2, mf_3, mf_4, mf_5, mf_6, mf_7, mf_8, mf_9, mf_10, mf_11, mf_12, mf_13, mf_14, mf_15, mf_16, mf_17, mf_18, mf_19, mf_20, mf_21, mf_22, mf_23, mf_24, mf_25, mf_26, mf_27, mf_28, mf_29, mf_30, mf_31, ms_4, ms_5, ms_6, ms_7, ms_8, ms_9, ms_10, ms_11, ms_12, ms_13, ms_14, ms_16, ms_17, ms_18, ms_19, ms_23, ms_24, ms_27, mu_1, mu_2, mu_3, mu_4, mu_5, mu_6, mu_7, mu_8, mu_9, mu_10, mu_11, mu_12, mu_13, mu_14]
          simp (disch := omega) only [true_and, and_true, lit, nI_add, nar_i, nar_0, nar_1, nar_b, fit_i, fit_l, pk_rem, nI_leI, nI_ltI, nI_eq, vin_iff, nI_clamp, nI_m1]
          exact ⟨fun _ => ⟨f, Nat.lt_succ_self f, σ2, w2, A2, j, l ++ [c], out2, _, rfl, rfl, rc2, hcf.trans cf2, hrt, by omega⟩, fun q => absurd trivial q⟩
  · exact h.elim
/-- a text lies there -/
def txtM (f : Nat → Int32) (t : Nat) (l : List rCl) : Prop := f (681 * t) = nI l.length ∧ l.length ≤ 24 ∧ ∀ k c, l[k]? = some c → f (681 * t + 1 + 3 * k) = nI c.1 ∧ (2 ≤ c.1 → f (681 * t + 1 + 3 * k + 1) = nI c.2.1 ∧ (c.1 ≤ 5 → f (681 * t + 1 + 3 * k + 2) = nI c.2.2.1)) ∧ (c.1 ≤ 1 → ∃ s0, f (681 * t + 1 + 3 * k + 1) = nI s0 ∧ f (681 * t + 1 + 3 * k + 2) = nI (s0 + c.2.2.2.1.length) ∧ s0 + c.2.2.2.1.length ≤ 304 ∧ codeM f (681 * t + 73 + 2 * s0) c.2.2.2.1)
theorem codeM_seg {f : Nat → Int32} {b : Nat} {pre cs post : List (Nat × Int)} (h : codeM f b (pre ++ cs ++ post)) : codeM f (b + 2 * pre.length) cs := by
  intro k c hk
  have hkl := (List.getElem?_eq_some_iff.mp hk).1
  have := h (pre.length + k) c (by rw [List.append_assoc, List.getElem?_append_right (by omega), show pre.length + k - pre.length = k by omega, List.getElem?_append_left hkl]; exact hk)
  rw [show b + 2 * (pre.length + k) = b + 2 * pre.length + 2 * k by omega] at this
  exact this
theorem txtM_of {f : Nat → Int32} {t : Nat} {l : List rCl} {out : List (Nat × Int)} (h : clsM f (681 * t) l out) (hc : codeM f (681 * t + 73) out) (ho : out.length ≤ 300) (hl : l.length ≤ 24) : txtM f t l := by
  refine ⟨h.1, hl, fun k c hk => ?_⟩
  obtain ⟨h1, h2, h3⟩ := h.2 k c hk
  refine ⟨h1, h2, fun q => ?_⟩
  obtain ⟨pre, post, e, g1, g2⟩ := h3 q
  rw [e] at hc ho
  simp only [List.length_append] at ho
  exact ⟨pre.length, g1, g2, by omega, codeM_seg hc⟩
theorem txtM_keep {f f' : Nat → Int32} {t t' : Nat} {l : List rCl} (h : txtM f t l) (ht : t < t') (hk : ∀ k, k < 681 * t' → f' k = f k) : txtM f' t l := by
  obtain ⟨h1, h2, h3⟩ := h
  refine ⟨by rw [hk _ (by omega)]; exact h1, h2, fun k c e => ?_⟩
  have hkl := (List.getElem?_eq_some_iff.mp e).1
  obtain ⟨g1, g2, g3⟩ := h3 k c e
  refine ⟨by rw [hk _ (by omega)]; exact g1, fun q => ⟨by rw [hk _ (by omega)]; exact (g2 q).1, fun q2 => by rw [hk _ (by omega)]; exact (g2 q).2 q2⟩, fun q => ?_⟩
  obtain ⟨s0, y1, y2, y3, y4⟩ := g3 q
  refine ⟨s0, by rw [hk _ (by omega)]; exact y1, by rw [hk _ (by omega)]; exact y2, y3, fun k c e => ?_⟩
  have hkl := (List.getElem?_eq_some_iff.mp e).1
  rw [hk _ (by omega), hk _ (by omega)]
  exact y4 k c e
def sp_X12_text : gSp := fun as C n z Q => match as with
  | [.ref m] => ∃ σ w A L R T len tx, C = menc m σ w A L R ∧ A 4 = (fun k => nI (T k)) ∧ (∀ k, T k < 256) ∧ σ 4 = nI len ∧ len ≤ 300 ∧ A 1 1 = nI tx ∧ tx ≤ 4 ∧ (tx = 4 → Q (some (.int (-nI 1))) C n z) ∧ (tx < 4 → match rText (tkS T len) (tkV T len) 302 0 [] with
    | .inl (f, j) => ∀ σ' w' A', 1 ≤ f → f ≤ 6 → σ' 4 = nI 0 → σ' 5 = nI f → σ' 6 = nI (tB T len j) → σ' 23 = σ 23 → (∀ j, j ≠ 3 → j ≠ 5 → A' j = A j) → (∀ k, k < 681 * tx → A' 3 k = A 3 k) → Q (some (.int (-nI 1))) (menc m σ' w' A' L R) n z
    | .inr l => ∀ σ' w' A', σ' 4 = nI 0 → σ' 5 = nI 0 → σ' 6 = -nI 1 → σ' 23 = σ 23 → (∀ j, j ≠ 1 → j ≠ 3 → j ≠ 5 → A' j = A j) → A' 1 = upd (A 1) 1 (nI (tx + 1)) → (∀ k, k < 681 * tx → A' 3 k = A 3 k) → txtM (A' 3) tx l → Q (some (.int (nI tx))) (menc m σ' w' A' L R) n z)
  | _ => False
set_option maxRecDepth 100000 in
set_option maxHeartbeats 4000000 in
theorem c_X12_text (l : Launch) : Con l yX12_text cX12_text 1 (some .int) 12 0 0 sp_X12_text := by
  refine m_X12_text (c_X12_readText l) (by decide) ?_
  intro as C0 n0 z0 Q h
  unfold sp_X12_text at h
  split at h
  · rename_i m
    obtain ⟨σ0, w0, A0, L, R, T, len, tx, rfl, hA, hT, h4, hlen, h1, htx, hQ4, hQ⟩ := h
    refine ⟨Nat.le_of_ble_eq_true rfl, ?_⟩
    simp only [b_X12_text_0, s_psh, s_ild, s_lld, s_ald, s_ist, s_lst, s_ast, s_inc, s_ib, s_ibz, s_iu, s_lb, s_lbz, s_lu, s_ls, s_il, s_li, s_cmp, s_dup, s_pop, s_dup2, s_cv, s_cs, s_ci, s_oi, s_get, s_put, s_iald, s_lald, s_zald, s_iast, s_last, s_zast, s_alen, s_iret, s_lret, s_aret, s_vret, s_al, gpad, gl, gst, gclr, gc2, gent, gcat, Value.category, List.drop_succ_cons, List.drop_zero, List.take_succ_cons, List.take_zero, List.reverse_cons, List.reverse_nil, List.nil_append, List.cons_append, List.append_nil, List.map_cons, List.map_nil, List.sum_cons, List.sum_nil, List.length_cons, List.length_nil, Option.toList, cond_true, cond_false, Nat.reduceBEq, Nat.reduceAdd, Nat.reduceLeDiff, beq_self_eq_true, true_and, and_true, BEq.rfl, Bool.false_eq_true, if_true, if_false, menc_0, menc_1, menc_2, menc_3, menc_4, menc_5, menc_6, menc_7, menc_8, menc_9, menc_10, menc_11, menc_12, menc_13, menc_14, mf_0, mf_1, mf_2, mf_3, mf_4, mf_5, mf_6, mf_7, mf_8, mf_9, mf_10, mf_11, mf_12, mf_13, mf_14, mf_15, mf_16, mf_17, mf_18, mf_19, mf_20, mf_21, mf_22, mf_23, mf_24, mf_25, mf_26, mf_27, mf_28, mf_29, mf_30, mf_31, ms_4, ms_5, ms_6, ms_7, ms_8, ms_9, ms_10, ms_11, ms_12, ms_13, ms_14, ms_16, ms_17, ms_18, ms_19, ms_23, ms_24, ms_27, mu_1, mu_2, mu_3, mu_4, mu_5, mu_6, mu_7, mu_8, mu_9, mu_10, mu_11, mu_12, mu_13, mu_14]
    simp (disch := omega) only [true_and, and_true, lit, nI_add, nar_i, nar_0, nar_1, nar_b, fit_i, fit_l, pk_rem, nI_leI, nI_ltI, nI_eq, vin_iff, nI_clamp, nI_m1, h1]
    refine ⟨by omega, if2i (fun e => ?_) (fun e => ?_)⟩
    · simp (disch := omega) only [nI_eq] at e
      simp only [s_psh, s_ild, s_lld, s_ald, s_ist, s_lst, s_ast, s_inc, s_ib, s_ibz, s_iu, s_lb, s_lbz, s_lu, s_ls, s_il, s_li, s_cmp, s_dup, s_pop, s_dup2, s_cv, s_cs, s_ci, s_oi, s_get, s_put, s_iald, s_lald, s_zald, s_iast, s_last, s_zast, s_alen, s_iret, s_lret, s_aret, s_vret, s_al, gpad, gl, gst, gclr, gc2, gent, gcat, Value.category, List.drop_succ_cons, List.drop_zero, List.take_succ_cons, List.take_zero, List.reverse_cons, List.reverse_nil, List.nil_append, List.cons_append, List.append_nil, List.map_cons, List.map_nil, List.sum_cons, List.sum_nil, List.length_cons, List.length_nil, Option.toList, cond_true, cond_false, Nat.reduceBEq, Nat.reduceAdd, Nat.reduceLeDiff, beq_self_eq_true, true_and, and_true, BEq.rfl, Bool.false_eq_true, if_true, if_false, menc_0, menc_1, menc_2, menc_3, menc_4, menc_5, menc_6, menc_7, menc_8, menc_9, menc_10, menc_11, menc_12, menc_13, menc_14, mf_0, mf_1, mf_2, mf_3, mf_4, mf_5, mf_6, mf_7, mf_8, mf_9, mf_10, mf_11, mf_12, mf_13, mf_14, mf_15, mf_16, mf_17, mf_18, mf_19, mf_20, mf_21, mf_22, mf_23, mf_24, mf_25, mf_26, mf_27, mf_28, mf_29, mf_30, mf_31, ms_4, ms_5, ms_6, ms_7, ms_8, ms_9, ms_10, ms_11, ms_12, ms_13, ms_14, ms_16, ms_17, ms_18, ms_19, ms_23, ms_24, ms_27, mu_1, mu_2, mu_3, mu_4, mu_5, mu_6, mu_7, mu_8, mu_9, mu_10, mu_11, mu_12, mu_13, mu_14]
      simp only [true_and, and_true, lit, nI_add, nar_i, nar_0, nar_1, nar_b, fit_i, fit_l, pk_rem, nI_leI, nI_ltI, nI_eq, vin_iff, nI_clamp, nI_m1]
      exact hQ4 e
    · simp (disch := omega) only [nI_eq] at e
      have htx4 : tx < 4 := by omega
      have hQ := hQ htx4
      simp only [sp_X12_readText, s_psh, s_ild, s_lld, s_ald, s_ist, s_lst, s_ast, s_inc, s_ib, s_ibz, s_iu, s_lb, s_lbz, s_lu, s_ls, s_il, s_li, s_cmp, s_dup, s_pop, s_dup2, s_cv, s_cs, s_ci, s_oi, s_get, s_put, s_iald, s_lald, s_zald, s_iast, s_last, s_zast, s_alen, s_iret, s_lret, s_aret, s_vret, s_al, gpad, gl, gst, gclr, gc2, gent, gcat, Value.category, List.drop_succ_cons, List.drop_zero, List.take_succ_cons, List.take_zero, List.reverse_cons, List.reverse_nil, List.nil_append, List.cons_append, List.append_nil, List.map_cons, List.map_nil, List.sum_cons, List.sum_nil, List.length_cons, List.length_nil, Option.toList, cond_true, cond_false, Nat.reduceBEq, Nat.reduceAdd, Nat.reduceLeDiff, beq_self_eq_true, true_and, and_true, BEq.rfl, Bool.false_eq_true, if_true, if_false, menc_0, menc_1, menc_2, menc_3, menc_4, menc_5, menc_6, menc_7, menc_8, menc_9, menc_10, menc_11, menc_12, menc_13, menc_14, mf_0, mf_1, mf_2, mf_3, mf_4, mf_5, mf_6, mf_7, mf_8, mf_9, mf_10, mf_11, mf_12, mf_13, mf_14, mf_15, mf_16, mf_17, mf_18, mf_19, mf_20, mf_21, mf_22, mf_23, mf_24, mf_25, mf_26, mf_27, mf_28, mf_29, mf_30, mf_31, ms_4, ms_5, ms_6, ms_7, ms_8, ms_9, ms_10, ms_11, ms_12, ms_13, ms_14, ms_16, ms_17, ms_18, ms_19, ms_23, ms_24, ms_27, mu_1, mu_2, mu_3, mu_4, mu_5, mu_6, mu_7, mu_8, mu_9, mu_10, mu_11, mu_12, mu_13, mu_14]
      refine ⟨σ0, w0, A0, L, R, T, len, tx, rfl, hA, hT, h4, hlen, h1, htx4, ?_⟩
      rcases er : rText (tkS T len) (tkV T len) 302 0 [] with ⟨f, j⟩ | ls
      · rw [er] at hQ
        simp only at hQ
        intro σ w A hf1 hf6 t1 ⟨c1, c2, c3⟩
        have h8 := t1.2.2.2.2.1
        simp only [s_psh, s_ild, s_lld, s_ald, s_ist, s_lst, s_ast, s_inc, s_ib, s_ibz, s_iu, s_lb, s_lbz, s_lu, s_ls, s_il, s_li, s_cmp, s_dup, s_pop, s_dup2, s_cv, s_cs, s_ci, s_oi, s_get, s_put, s_iald, s_lald, s_zald, s_iast, s_last, s_zast, s_alen, s_iret, s_lret, s_aret, s_vret, s_al, gpad, gl, gst, gclr, gc2, gent, gcat, Value.category, List.drop_succ_cons, List.drop_zero, List.take_succ_cons, List.take_zero, List.reverse_cons, List.reverse_nil, List.nil_append, List.cons_append, List.append_nil, List.map_cons, List.map_nil, List.sum_cons, List.sum_nil, List.length_cons, List.length_nil, Option.toList, cond_true, cond_false, Nat.reduceBEq, Nat.reduceAdd, Nat.reduceLeDiff, beq_self_eq_true, true_and, and_true, BEq.rfl, Bool.false_eq_true, if_true, if_false, menc_0, menc_1, menc_2, menc_3, menc_4, menc_5, menc_6, menc_7, menc_8, menc_9, menc_10, menc_11, menc_12, menc_13, menc_14, mf_0, mf_1, mf_2, mf_3, mf_4, mf_5, mf_6, mf_7, mf_8, mf_9, mf_10, mf_11, mf_12, mf_13, mf_14, mf_15, mf_16, mf_17, mf_18, mf_19, mf_20, mf_21, mf_22, mf_23, mf_24, mf_25, mf_26, mf_27, mf_28, mf_29, mf_30, mf_31, ms_4, ms_5, ms_6, ms_7, ms_8, ms_9, ms_10, ms_11, ms_12, ms_13, ms_14, ms_16, ms_17, ms_18, ms_19, ms_23, ms_24, ms_27, mu_1, mu_2, mu_3, mu_4, mu_5, mu_6, mu_7, mu_8, mu_9, mu_10, mu_11, mu_12, mu_13, mu_14]
        simp (disch := omega) only [true_and, and_true, lit, nI_add, nar_i, nar_0, nar_1, nar_b, fit_i, fit_l, pk_rem, nI_leI, nI_ltI, nI_eq, vin_iff, nI_clamp, nI_m1]
        refine if1i (fun e0 => ?_) (fun e0 => ?_)
        · simp (disch := omega) only [supa, Nat.reduceEqDiff, reduceIte, nI_eq] at e0
          omega
        · simp only [b_X12_text_36, s_psh, s_ild, s_lld, s_ald, s_ist, s_lst, s_ast, s_inc, s_ib, s_ibz, s_iu, s_lb, s_lbz, s_lu, s_ls, s_il, s_li, s_cmp, s_dup, s_pop, s_dup2, s_cv, s_cs, s_ci, s_oi, s_get, s_put, s_iald, s_lald, s_zald, s_iast, s_last, s_zast, s_alen, s_iret, s_lret, s_aret, s_vret, s_al, gpad, gl, gst, gclr, gc2, gent, gcat, Value.category, List.drop_succ_cons, List.drop_zero, List.take_succ_cons, List.take_zero, List.reverse_cons, List.reverse_nil, List.nil_append, List.cons_append, List.append_nil, List.map_cons, List.map_nil, List.sum_cons, List.sum_nil, List.length_cons, List.length_nil, Option.toList, cond_true, cond_false, Nat.reduceBEq, Nat.reduceAdd, Nat.reduceLeDiff, beq_self_eq_true, true_and, and_true, BEq.rfl, Bool.false_eq_true, if_true, if_false, menc_0, menc_1, menc_2, menc_3, menc_4, menc_5, menc_6, menc_7, menc_8, menc_9, menc_10, menc_11, menc_12, menc_13, menc_14, mf_0, mf_1, mf_2, mf_3, mf_4, mf_5, mf_6, mf_7, mf_8, mf_9, mf_10, mf_11, mf_12, mf_13, mf_14, mf_15, mf_16, mf_17, mf_18, mf_19, mf_20, mf_21, mf_22, mf_23, mf_24, mf_25, mf_26, mf_27, mf_28, mf_29, mf_30, mf_31, ms_4, ms_5, ms_6, ms_7, ms_8, ms_9, ms_10, ms_11, ms_12, ms_13, ms_14, ms_16, ms_17, ms_18, ms_19, ms_23, ms_24, ms_27, mu_1, mu_2, mu_3, mu_4, mu_5, mu_6, mu_7, mu_8, mu_9, mu_10, mu_11, mu_12, mu_13, mu_14]
          simp (disch := omega) only [true_and, and_true, lit, nI_add, nar_i, nar_0, nar_1, nar_b, fit_i, fit_l, pk_rem, nI_leI, nI_ltI, nI_eq, vin_iff, nI_clamp, nI_m1]
          refine if1i (fun e1 => ?_) (fun e1 => ?_)
          · simp (disch := omega) only [supa, Nat.reduceEqDiff, reduceIte, nI_eq] at e1
            omega
          · simp only [s_psh, s_ild, s_lld, s_ald, s_ist, s_lst, s_ast, s_inc, s_ib, s_ibz, s_iu, s_lb, s_lbz, s_lu, s_ls, s_il, s_li, s_cmp, s_dup, s_pop, s_dup2, s_cv, s_cs, s_ci, s_oi, s_get, s_put, s_iald, s_lald, s_zald, s_iast, s_last, s_zast, s_alen, s_iret, s_lret, s_aret, s_vret, s_al, gpad, gl, gst, gclr, gc2, gent, gcat, Value.category, List.drop_succ_cons, List.drop_zero, List.take_succ_cons, List.take_zero, List.reverse_cons, List.reverse_nil, List.nil_append, List.cons_append, List.append_nil, List.map_cons, List.map_nil, List.sum_cons, List.sum_nil, List.length_cons, List.length_nil, Option.toList, cond_true, cond_false, Nat.reduceBEq, Nat.reduceAdd, Nat.reduceLeDiff, beq_self_eq_true, true_and, and_true, BEq.rfl, Bool.false_eq_true, if_true, if_false, menc_0, menc_1, menc_2, menc_3, menc_4, menc_5, menc_6, menc_7, menc_8, menc_9, menc_10, menc_11, menc_12, menc_13, menc_14, mf_0, mf_1, mf_2, mf_3, mf_4, mf_5, mf_6, mf_7, mf_8, mf_9, mf_10, mf_11, mf_12, mf_13, mf_14, mf_15, mf_16, mf_17, mf_18, mf_19, mf_20, mf_21, mf_22, mf_23, mf_24, mf_25, mf_26, mf_27, mf_28, mf_29, mf_30, mf_31, ms_4, ms_5, ms_6, ms_7, ms_8, ms_9, ms_10, ms_11, ms_12, ms_13, ms_14, ms_16, ms_17, ms_18, ms_19, ms_23, ms_24, ms_27, mu_1, mu_2, mu_3, mu_4, mu_5, mu_6, mu_7, mu_8, mu_9, mu_10, mu_11, mu_12, mu_13, mu_14]
            simp only [true_and, and_true, lit, nI_add, nar_i, nar_0, nar_1, nar_b, fit_i, fit_l, pk_rem, nI_leI, nI_ltI, nI_eq, vin_iff, nI_clamp, nI_m1]
            refine hQ _ _ _ hf1 hf6 ?_ ?_ ?_ ?_ c2 (fun k hk => c3 k (Or.inl hk))
            · simp only [supa, Nat.reduceEqDiff, reduceIte]
            · simp only [supa, Nat.reduceEqDiff, reduceIte]
            · simp only [supa, Nat.reduceEqDiff, reduceIte]; exact h8
            · simp only [supa, Nat.reduceEqDiff, reduceIte]
              rw [c1 23 (by decide) (by decide) (by decide) (by decide) (by decide) (by decide) (by decide) (by decide) (by decide) (by decide), supa, if_neg (by decide)]
      · rw [er] at hQ
        simp only at hQ
        intro σ w A out hcl hcd hol hll ⟨c1, c2, c3⟩
        have e1 : A 1 = A0 1 := c2 1 (by decide) (by decide)
        simp only [s_psh, s_ild, s_lld, s_ald, s_ist, s_lst, s_ast, s_inc, s_ib, s_ibz, s_iu, s_lb, s_lbz, s_lu, s_ls, s_il, s_li, s_cmp, s_dup, s_pop, s_dup2, s_cv, s_cs, s_ci, s_oi, s_get, s_put, s_iald, s_lald, s_zald, s_iast, s_last, s_zast, s_alen, s_iret, s_lret, s_aret, s_vret, s_al, gpad, gl, gst, gclr, gc2, gent, gcat, Value.category, List.drop_succ_cons, List.drop_zero, List.take_succ_cons, List.take_zero, List.reverse_cons, List.reverse_nil, List.nil_append, List.cons_append, List.append_nil, List.map_cons, List.map_nil, List.sum_cons, List.sum_nil, List.length_cons, List.length_nil, Option.toList, cond_true, cond_false, Nat.reduceBEq, Nat.reduceAdd, Nat.reduceLeDiff, beq_self_eq_true, true_and, and_true, BEq.rfl, Bool.false_eq_true, if_true, if_false, menc_0, menc_1, menc_2, menc_3, menc_4, menc_5, menc_6, menc_7, menc_8, menc_9, menc_10, menc_11, menc_12, menc_13, menc_14, mf_0, mf_1, mf_2, mf_3, mf_4, mf_5, mf_6, mf_7, mf_8, mf_9, mf_10, mf_11, mf_12, mf_13, mf_14, mf_15, mf_16, mf_17, mf_18, mf_19, mf_20, mf_21, mf_22, mf_23, mf_24, mf_25, mf_26, mf_27, mf_28, mf_29, mf_30, mf_31, ms_4, ms_5, ms_6, ms_7, ms_8, ms_9, ms_10, ms_11, ms_12, ms_13, ms_14, ms_16, ms_17, ms_18, ms_19, ms_23, ms_24, ms_27, mu_1, mu_2, mu_3, mu_4, mu_5, mu_6, mu_7, mu_8, mu_9, mu_10, mu_11, mu_12, mu_13, mu_14]
        simp (disch := omega) only [true_and, and_true, lit, nI_add, nar_i, nar_0, nar_1, nar_b, fit_i, fit_l, pk_rem, nI_leI, nI_ltI, nI_eq, vin_iff, nI_clamp, nI_m1]
        refine if1i (fun e0 => ?_) (fun e0 => ?_)
        · simp only [b_X12_text_36, s_psh, s_ild, s_lld, s_ald, s_ist, s_lst, s_ast, s_inc, s_ib, s_ibz, s_iu, s_lb, s_lbz, s_lu, s_ls, s_il, s_li, s_cmp, s_dup, s_pop, s_dup2, s_cv, s_cs, s_ci, s_oi, s_get, s_put, s_iald, s_lald, s_zald, s_iast, s_last, s_zast, s_alen, s_iret, s_lret, s_aret, s_vret, s_al, gpad, gl, gst, gclr, gc2, gent, gcat, Value.category, List.drop_succ_cons, List.drop_zero, List.take_succ_cons, List.take_zero, List.reverse_cons, List.reverse_nil, List.nil_append, List.cons_append, List.append_nil, List.map_cons, List.map_nil, List.sum_cons, List.sum_nil, List.length_cons, List.length_nil, Option.toList, cond_true, cond_false, Nat.reduceBEq, Nat.reduceAdd, Nat.reduceLeDiff, beq_self_eq_true, true_and, and_true, BEq.rfl, Bool.false_eq_true, if_true, if_false, menc_0, menc_1, menc_2, menc_3, menc_4, menc_5, menc_6, menc_7, menc_8, menc_9, menc_10, menc_11, menc_12, menc_13, menc_14, mf_0, mf_1, mf_2, mf_3, mf_4, mf_5, mf_6, mf_7, mf_8, mf_9, mf_10, mf_11, mf_12, mf_13, mf_14, mf_15, mf_16, mf_17, mf_18, mf_19, mf_20, mf_21, mf_22, mf_23, mf_24, mf_25, mf_26, mf_27, mf_28, mf_29, mf_30, mf_31, ms_4, ms_5, ms_6, ms_7, ms_8, ms_9, ms_10, ms_11, ms_12, ms_13, ms_14, ms_16, ms_17, ms_18, ms_19, ms_23, ms_24, ms_27, mu_1, mu_2, mu_3, mu_4, mu_5, mu_6, mu_7, mu_8, mu_9, mu_10, mu_11, mu_12, mu_13, mu_14]
          simp (disch := omega) only [true_and, and_true, lit, nI_add, nar_i, nar_0, nar_1, nar_b, fit_i, fit_l, pk_rem, nI_leI, nI_ltI, nI_eq, vin_iff, nI_clamp, nI_m1]
          refine if1i (fun e2 => ?_) (fun e2 => ?_)
          · simp only [s_psh, s_ild, s_lld, s_ald, s_ist, s_lst, s_ast, s_inc, s_ib, s_ibz, s_iu, s_lb, s_lbz, s_lu, s_ls, s_il, s_li, s_cmp, s_dup, s_pop, s_dup2, s_cv, s_cs, s_ci, s_oi, s_get, s_put, s_iald, s_lald, s_zald, s_iast, s_last, s_zast, s_alen, s_iret, s_lret, s_aret, s_vret, s_al, gpad, gl, gst, gclr, gc2, gent, gcat, Value.category, List.drop_succ_cons, List.drop_zero, List.take_succ_cons, List.take_zero, List.reverse_cons, List.reverse_nil, List.nil_append, List.cons_append, List.append_nil, List.map_cons, List.map_nil, List.sum_cons, List.sum_nil, List.length_cons, List.length_nil, Option.toList, cond_true, cond_false, Nat.reduceBEq, Nat.reduceAdd, Nat.reduceLeDiff, beq_self_eq_true, true_and, and_true, BEq.rfl, Bool.false_eq_true, if_true, if_false, menc_0, menc_1, menc_2, menc_3, menc_4, menc_5, menc_6, menc_7, menc_8, menc_9, menc_10, menc_11, menc_12, menc_13, menc_14, mf_0, mf_1, mf_2, mf_3, mf_4, mf_5, mf_6, mf_7, mf_8, mf_9, mf_10, mf_11, mf_12, mf_13, mf_14, mf_15, mf_16, mf_17, mf_18, mf_19, mf_20, mf_21, mf_22, mf_23, mf_24, mf_25, mf_26, mf_27, mf_28, mf_29, mf_30, mf_31, ms_4, ms_5, ms_6, ms_7, ms_8, ms_9, ms_10, ms_11, ms_12, ms_13, ms_14, ms_16, ms_17, ms_18, ms_19, ms_23, ms_24, ms_27, mu_1, mu_2, mu_3, mu_4, mu_5, mu_6, mu_7, mu_8, mu_9, mu_10, mu_11, mu_12, mu_13, mu_14, e1, h1]
            simp (disch := omega) only [true_and, and_true, lit, nI_add, nar_i, nar_0, nar_1, nar_b, fit_i, fit_l, pk_rem, nI_leI, nI_ltI, nI_eq, vin_iff, nI_clamp, nI_m1, e1, h1, supa, Nat.reduceEqDiff, reduceIte, pk_us, pk_sub, Nat.add_sub_cancel]
            refine ⟨by omega, by omega, by omega, ?_⟩
            refine hQ _ _ _ ?_ ?_ ?_ ?_ ?_ ?_ ?_ ?_
            · simp only [supa, Nat.reduceEqDiff, reduceIte]
            · simp only [supa, Nat.reduceEqDiff, reduceIte]
            · simp only [supa, Nat.reduceEqDiff, reduceIte]
            · simp only [supa, Nat.reduceEqDiff, reduceIte]
              rw [c1 23 (by decide) (by decide) (by decide) (by decide) (by decide) (by decide) (by decide) (by decide) (by decide) (by decide), supa, if_neg (by decide)]
            · intro j q1 q2 q3
              rw [supa, if_neg q1]; exact c2 j q2 q3
            · rw [supa, if_pos rfl]
            · intro k hk
              rw [supa, if_neg (by decide)]; exact c3 k (Or.inl hk)
            · rw [supa, if_neg (by decide)]; exact txtM_of hcl hcd hol hll
          · simp only [supa, Nat.reduceEqDiff, reduceIte] at e2
            exact absurd trivial e2
        · simp only [supa, Nat.reduceEqDiff, reduceIte] at e0
          exact absurd trivial e0
  · exact h.elim
