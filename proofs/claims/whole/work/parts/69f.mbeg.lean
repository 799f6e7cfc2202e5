/-! the reference: a one begins -/
theorem nmOf_ne {s : Nat} (h : nmOf s < 8) : s ≠ 39 ∧ s ≠ 40 ∧ s ≠ 34 ∧ s ≠ 31 ∧ s ≠ 13 ∧ s ≠ 15 ∧ s ≠ 16 ∧ s ≠ 22 := by
  refine ⟨?_, ?_, ?_, ?_, ?_, ?_, ?_, ?_⟩ <;> (rintro rfl; exact absurd h (by decide))
theorem nmI_t {s : Nat} (h : nmOf s < 8) : nmI s = nI (nmOf s) := if_pos h
theorem nmI_f {s : Nat} (h : ¬ nmOf s < 8) : nmI s = -nI 1 := if_neg h
theorem RDp.mono {m : Nat} {L : Nat → Nat → Int64} {R : gC} {n z : Nat} {Q Q' : gQ} {T : Nat → Nat} {len t0 : Nat} {σ0 : Nat → Int32} {A0 : Nat → Nat → Int32} {n0 : Nat} {x : rS ⊕ rF} (h : RDp m L R n z Q T len t0 σ0 A0 n0 x) (hq : ∀ v C n z, Q (some (.int v)) C n z → Q' (some (.int v)) C n z) : RDp m L R n z Q' T len t0 σ0 A0 n0 x := by
  rcases x with s | ⟨f, j⟩ | s
  · exact fun σ w A q => hq _ _ _ _ (h σ w A q)
  · exact fun σ w A q1 q2 q3 q4 => hq _ _ _ _ (h σ w A q1 q2 q3 q4)
  · exact h
def sp_X12_beginOne : gSp := fun as C n z Q => match as with
  | [.ref m] => ∃ σ w A L R T len t0 σ0 A0 n0 P i o out cat, C = menc m σ w A L R ∧ RD T len t0 σ0 A0 n0 0 (false, P, i, o, out) σ w A ∧ P.length < 150 ∧ σ 14 = nI (if cat = true then 0 else 1) ∧ RDp m L R n z Q T len t0 σ0 A0 n0 (begM (tkS T len) (tkV T len) cat P i o out)
  | _ => False
theorem m1_le3 : (-nI 1 : Int32) ≤ nI 3 := by decide
theorem m1_lt0 : ((-nI 1 : Int32) < nI 0) = True := eq_true (by decide)
theorem m1_le3' : ((-nI 1 : Int32) ≤ nI 3) = True := eq_true (by decide)
set_option maxRecDepth 100000 in
set_option maxHeartbeats 4000000 in
theorem c_X12_beginOne (l : Launch) : Con l yX12_beginOne cX12_beginOne 2 (some .int) 6 0 0 sp_X12_beginOne := by
  refine m_X12_beginOne (c_X12_emit l) (by decide) (c_X12_nextT l) (by decide) (c_X12_endOne l) (by decide) (c_X12_w5 l) (by decide) (c_X12_isWord l) (by decide) (c_X12_w2 l) (by decide) (c_X12_w3 l) (by decide) (c_X12_isAskAhead l) (by decide) (c_X12_opened l) (by decide) (c_X12_nameOf l) (by decide) ?_
  intro as C0 n0 z0 Q h
  unfold sp_X12_beginOne at h
  split at h
  · rename_i m
    obtain ⟨σ, w, A, L, R, T, len, t0, σ0, A0, k0, P, i, o, out, cat, rfl, hr, hP, hcat, hQ⟩ := h
    have hr' := hr
    obtain ⟨a1, a2, a3, a4, a5, a6, a7, a8, a9, a10, a11, a12, a13, a14, b1, b2, b3⟩ := hr'
    simp only at a2 a3 a4 a5 a6 a7 a8 a9 a10 a11 a12
    have hlen := a1.2.2.2.1
    refine ⟨Nat.le_of_ble_eq_true rfl, ?_⟩
    have fopn : ∀ (p : Nat) (Q' : gQ), p < 50 → tkS T len i ≠ 40 → begM (tkS T len) (tkV T len) cat P i o out = pushM p P i o out → (∀ v C n z, Q (some (.int v)) C n z → Q' (some (.int v)) C n z) → sp_X12_opened [Value.ref m, Value.int (nI p)] (menc m σ w A L R) n0 z0 Q' := fun p Q' hp h40 he hq => by
      rw [he] at hQ
      exact ⟨σ, w, A, L, R, T, len, t0, σ0, A0, k0, false, P, i, o, out, p, rfl, hr, rfl, rfl, hp, hr.lt h40, hP, hQ.mono hq⟩
    have k51 : ∀ (v : Int32) (c u : Nat), tkS T len i ≠ 40 → (tkS T len i = 39 → c = 0 ∧ σ 10 = nI u) → (¬ tkS T len i = 39 → c = 1 ∧ v = nI u) → begM (tkS T len) (tkV T len) cat P i o out = endM (tkS T len) P (i + 1) o (out ++ [(c, (u : Int))]) → b_X12_beginOne_51 sp_X12_emit sp_X12_nextT sp_X12_endOne sp_X12_w5 sp_X12_isWord sp_X12_w2 sp_X12_w3 sp_X12_isAskAhead sp_X12_opened sp_X12_nameOf Q [some (.ref m), some (.int v)] [] (menc m σ w A L R) n0 z0 := by
      intro v c u h40 hc1 hc2 he
      have hi := hr.lt h40
      rw [he] at hQ
      have r1 : RD T len t0 σ0 A0 k0 1 (false, P, i, o, out ++ [(c, (u : Int))]) (sup σ 13 (nI (out.length + 1))) w (sup (sup A 3 (upd (A 3) (t0 + 73 + 2 * out.length) (nI c))) 3 (upd (upd (A 3) (t0 + 73 + 2 * out.length) (nI c)) (t0 + 73 + 2 * out.length + 1) (nI u))) := RD.emt hr (fun j q => by rw [supa, if_neg q]) (fun j q => by rw [supa, if_neg q, supa, if_neg q]) (by simp [sup]) (by simp [sup]) (by omega) (by omega)
      simp only [b_X12_beginOne_51, b_X12_beginOne_65, b_X12_beginOne_81, s_psh, s_ild, s_lld, s_ald, s_ist, s_lst, s_ast, s_inc, s_ib, s_ibz, s_iu, s_lb, s_lbz, s_lu, s_ls, s_il, s_li, s_cmp, s_dup, s_pop, s_dup2, s_if1, s_if2, s_ifn, s_cv, s_cs, s_ci, s_oi, s_get, s_put, s_iald, s_lald, s_zald, s_iast, s_last, s_zast, s_alen, s_iret, s_lret, s_aret, s_vret, s_al, gpad, gl, gst, gclr, gc2, gent, gcat, Value.category, List.drop_succ_cons, List.drop_zero, List.take_succ_cons, List.take_zero, List.reverse_cons, List.reverse_nil, List.nil_append, List.cons_append, List.append_nil, List.map_cons, List.map_nil, List.sum_cons, List.sum_nil, List.length_cons, List.length_nil, Option.toList, cond_true, cond_false, Nat.reduceBEq, Nat.reduceAdd, Nat.reduceLeDiff, beq_self_eq_true, true_and, and_true, BEq.rfl, Bool.false_eq_true, if_true, if_false, menc_0, menc_1, menc_2, menc_3, menc_4, menc_5, menc_6, menc_7, menc_8, menc_9, menc_10, menc_11, menc_12, menc_13, menc_14, mf_0, mf_1, mf_2, mf_3, mf_4, mf_5, mf_6, mf_7, mf_8, mf_9, mf_10, mf_11, mf_12, mf_13, mf_14, mf_15, mf_16, mf_17, mf_18, mf_19, mf_20, mf_21, mf_22, mf_23, mf_24, mf_25, mf_26, mf_27, mf_28, mf_29, mf_30, mf_31, ms_4, ms_5, ms_6, ms_7, ms_8, ms_9, ms_10, ms_11, ms_12, ms_13, ms_14, ms_16, ms_17, ms_18, ms_19, ms_23, ms_24, ms_27, mu_1, mu_2, mu_3, mu_4, mu_5, mu_6, mu_7, mu_8, mu_9, mu_10, mu_11, mu_12, mu_13, mu_14]
      simp only [true_and, and_true, lit, nI_add, nar_i, nar_0, nar_1, nar_b, fit_i, fit_l, pk_rem, nI_leI, nI_ltI, nI_eq, vin_iff, nI_clamp, nI_m1, ts_1 a1]
      refine ⟨fun e => ⟨fun _ => ?_, fun q => absurd e q⟩, fun e => ⟨fun q => absurd q e, fun _ => ?_⟩⟩
      · obtain ⟨rfl, h10⟩ := hc1 e
        simp only [sp_X12_emit, b_X12_emit_0, sp_X12_nextT, supa, Nat.reduceEqDiff, reduceIte, s_psh, s_ild, s_lld, s_ald, s_ist, s_lst, s_ast, s_inc, s_ib, s_ibz, s_iu, s_lb, s_lbz, s_lu, s_ls, s_il, s_li, s_cmp, s_dup, s_pop, s_dup2, s_if1, s_if2, s_ifn, s_cv, s_cs, s_ci, s_oi, s_get, s_put, s_iald, s_lald, s_zald, s_iast, s_last, s_zast, s_alen, s_iret, s_lret, s_aret, s_vret, s_al, gpad, gl, gst, gclr, gc2, gent, gcat, Value.category, List.drop_succ_cons, List.drop_zero, List.take_succ_cons, List.take_zero, List.reverse_cons, List.reverse_nil, List.nil_append, List.cons_append, List.append_nil, List.map_cons, List.map_nil, List.sum_cons, List.sum_nil, List.length_cons, List.length_nil, Option.toList, cond_true, cond_false, Nat.reduceBEq, Nat.reduceAdd, Nat.reduceLeDiff, beq_self_eq_true, true_and, and_true, BEq.rfl, Bool.false_eq_true, if_true, if_false, menc_0, menc_1, menc_2, menc_3, menc_4, menc_5, menc_6, menc_7, menc_8, menc_9, menc_10, menc_11, menc_12, menc_13, menc_14, mf_0, mf_1, mf_2, mf_3, mf_4, mf_5, mf_6, mf_7, mf_8, mf_9, mf_10, mf_11, mf_12, mf_13, mf_14, mf_15, mf_16, mf_17, mf_18, mf_19, mf_20, mf_21, mf_22, mf_23, mf_24, mf_25, mf_26, mf_27, mf_28, mf_29, mf_30, mf_31, ms_4, ms_5, ms_6, ms_7, ms_8, ms_9, ms_10, ms_11, ms_12, ms_13, ms_14, ms_16, ms_17, ms_18, ms_19, ms_23, ms_24, ms_27, mu_1, mu_2, mu_3, mu_4, mu_5, mu_6, mu_7, mu_8, mu_9, mu_10, mu_11, mu_12, mu_13, mu_14]
        simp (disch := omega) only [true_and, and_true, lit, nI_add, nar_i, nar_0, nar_1, nar_b, fit_i, fit_l, pk_rem, nI_leI, nI_ltI, nI_eq, vin_iff, nI_clamp, nI_m1, a9, a14, pk_mul, h10]
        exact ⟨Nat.le_of_ble_eq_true rfl, by omega, by omega, _, _, _, _, _, T, len, i + 1, rfl, r1.1.1, r1.1.2.1, r1.1.2.2.1, hlen, r1.1.at, fun σ' w' hk ht => ⟨_, _, _, _, _, T, len, t0, σ0, A0, k0, false, P, i + 1, o, _, rfl, RD.nxt r1 hi hk ht, by omega, hQ.mono fun _ _ _ _ q => q⟩⟩
      · obtain ⟨rfl, rfl⟩ := hc2 e
        simp only [sp_X12_emit, b_X12_emit_0, sp_X12_nextT, supa, Nat.reduceEqDiff, reduceIte, s_psh, s_ild, s_lld, s_ald, s_ist, s_lst, s_ast, s_inc, s_ib, s_ibz, s_iu, s_lb, s_lbz, s_lu, s_ls, s_il, s_li, s_cmp, s_dup, s_pop, s_dup2, s_if1, s_if2, s_ifn, s_cv, s_cs, s_ci, s_oi, s_get, s_put, s_iald, s_lald, s_zald, s_iast, s_last, s_zast, s_alen, s_iret, s_lret, s_aret, s_vret, s_al, gpad, gl, gst, gclr, gc2, gent, gcat, Value.category, List.drop_succ_cons, List.drop_zero, List.take_succ_cons, List.take_zero, List.reverse_cons, List.reverse_nil, List.nil_append, List.cons_append, List.append_nil, List.map_cons, List.map_nil, List.sum_cons, List.sum_nil, List.length_cons, List.length_nil, Option.toList, cond_true, cond_false, Nat.reduceBEq, Nat.reduceAdd, Nat.reduceLeDiff, beq_self_eq_true, true_and, and_true, BEq.rfl, Bool.false_eq_true, if_true, if_false, menc_0, menc_1, menc_2, menc_3, menc_4, menc_5, menc_6, menc_7, menc_8, menc_9, menc_10, menc_11, menc_12, menc_13, menc_14, mf_0, mf_1, mf_2, mf_3, mf_4, mf_5, mf_6, mf_7, mf_8, mf_9, mf_10, mf_11, mf_12, mf_13, mf_14, mf_15, mf_16, mf_17, mf_18, mf_19, mf_20, mf_21, mf_22, mf_23, mf_24, mf_25, mf_26, mf_27, mf_28, mf_29, mf_30, mf_31, ms_4, ms_5, ms_6, ms_7, ms_8, ms_9, ms_10, ms_11, ms_12, ms_13, ms_14, ms_16, ms_17, ms_18, ms_19, ms_23, ms_24, ms_27, mu_1, mu_2, mu_3, mu_4, mu_5, mu_6, mu_7, mu_8, mu_9, mu_10, mu_11, mu_12, mu_13, mu_14]
        simp (disch := omega) only [true_and, and_true, lit, nI_add, nar_i, nar_0, nar_1, nar_b, fit_i, fit_l, pk_rem, nI_leI, nI_ltI, nI_eq, vin_iff, nI_clamp, nI_m1, a9, a14, pk_mul]
        exact ⟨Nat.le_of_ble_eq_true rfl, by omega, by omega, _, _, _, _, _, T, len, i + 1, rfl, r1.1.1, r1.1.2.1, r1.1.2.2.1, hlen, r1.1.at, fun σ' w' hk ht => ⟨_, _, _, _, _, T, len, t0, σ0, A0, k0, false, P, i + 1, o, _, rfl, RD.nxt r1 hi hk ht, by omega, hQ.mono fun _ _ _ _ q => q⟩⟩
    have k39 : (tkS T len i = 39 → ∃ u, σ 10 = nI u ∧ begM (tkS T len) (tkV T len) cat P i o out = endM (tkS T len) P (i + 1) o (out ++ [(0, (u : Int))])) → (nmOf (tkS T len i) < 8 → ¬ (3 < nmOf (tkS T len i) ∧ cat = false)) → b_X12_beginOne_39 sp_X12_emit sp_X12_nextT sp_X12_endOne sp_X12_w5 sp_X12_isWord sp_X12_w2 sp_X12_w3 sp_X12_isAskAhead sp_X12_opened sp_X12_nameOf Q [some (.ref m), some (.int (nmI (tkS T len i)))] [] (menc m σ w A L R) n0 z0 := by
      intro h39 hnm
      simp only [b_X12_beginOne_39, b_X12_beginOne_230, b_X12_beginOne_231, sp_X12_w2, sp_X12_w3, sp_X12_w5, sp_X12_isWord, isM_menc, mi_9, mi_11, s_psh, s_ild, s_lld, s_ald, s_ist, s_lst, s_ast, s_inc, s_ib, s_ibz, s_iu, s_lb, s_lbz, s_lu, s_ls, s_il, s_li, s_cmp, s_dup, s_pop, s_dup2, s_if1, s_if2, s_ifn, s_cv, s_cs, s_ci, s_oi, s_get, s_put, s_iald, s_lald, s_zald, s_iast, s_last, s_zast, s_alen, s_iret, s_lret, s_aret, s_vret, s_al, gpad, gl, gst, gclr, gc2, gent, gcat, Value.category, List.drop_succ_cons, List.drop_zero, List.take_succ_cons, List.take_zero, List.reverse_cons, List.reverse_nil, List.nil_append, List.cons_append, List.append_nil, List.map_cons, List.map_nil, List.sum_cons, List.sum_nil, List.length_cons, List.length_nil, Option.toList, cond_true, cond_false, Nat.reduceBEq, Nat.reduceAdd, Nat.reduceLeDiff, beq_self_eq_true, true_and, and_true, BEq.rfl, Bool.false_eq_true, if_true, if_false, menc_0, menc_1, menc_2, menc_3, menc_4, menc_5, menc_6, menc_7, menc_8, menc_9, menc_10, menc_11, menc_12, menc_13, menc_14, mf_0, mf_1, mf_2, mf_3, mf_4, mf_5, mf_6, mf_7, mf_8, mf_9, mf_10, mf_11, mf_12, mf_13, mf_14, mf_15, mf_16, mf_17, mf_18, mf_19, mf_20, mf_21, mf_22, mf_23, mf_24, mf_25, mf_26, mf_27, mf_28, mf_29, mf_30, mf_31, ms_4, ms_5, ms_6, ms_7, ms_8, ms_9, ms_10, ms_11, ms_12, ms_13, ms_14, ms_16, ms_17, ms_18, ms_19, ms_23, ms_24, ms_27, mu_1, mu_2, mu_3, mu_4, mu_5, mu_6, mu_7, mu_8, mu_9, mu_10, mu_11, mu_12, mu_13, mu_14]
      simp (disch := omega) only [true_and, and_true, lit, nI_add, nar_i, nar_0, nar_1, nar_b, fit_i, fit_l, pk_rem, nI_leI, nI_ltI, nI_eq, vin_iff, nI_clamp, nI_m1, bI_0, Nat.reduceMul, Nat.reduceAdd, Nat.reduceLT, ts_1 a1, ts_40 a1, ts_45 a1, tw_13 a1, tw_15 a1, tw_16 a1, tw_22 a1]
      by_cases s39 : tkS T len i = 39
      · obtain ⟨u, hu, he⟩ := h39 s39
        exact ⟨fun _ => k51 _ 0 u (by omega) (fun _ => ⟨rfl, hu⟩) (fun q => absurd s39 q) he, fun q => absurd s39 q⟩
      · refine ⟨fun q => absurd q s39, fun _ => ?_⟩
        by_cases hn : nmOf (tkS T len i) < 8
        · obtain ⟨q1, q2, q3, q4, q5, q6, q7, q8⟩ := nmOf_ne hn
          rw [nmI_t hn]
          refine ⟨fun q => absurd q (nI_pos (by omega)), fun _ => k51 _ 1 (nmOf (tkS T len i)) q2 (fun q => absurd q s39) (fun _ => ⟨rfl, rfl⟩) ?_⟩
          unfold begM
          rw [if_neg s39, if_pos hn, if_neg (hnm hn)]
        · rw [nmI_f hn]
          refine ⟨fun _ => ?_, fun q => absurd (by decide) q⟩
          have hb : begM (tkS T len) (tkV T len) cat P i o out = (if tkS T len i = 34 then pushM 40 P i o out else if tkS T len i = 31 then pushM 5 P i o out else if tkS T len i = 13 then pushM 41 P i o out else if tkS T len i = 15 then pushM 2 P i o out else if tkS T len i = 16 then pushM 42 P i o out else if tkS T len i = 22 ∧ askM P = true then pushM 20 P i o out else .inr (.inl (1, i))) := by
            unfold begM
            rw [if_neg s39, if_neg hn]
          have fl : begM (tkS T len) (tkV T len) cat P i o out = .inr (.inl (1, i)) → Q (some (.int (nI 1))) (menc m σ w A L R) n0 z0 := fun he => by
            rw [he] at hQ
            exact hQ σ w A (by decide) (by decide) a1 ⟨b1, b2, b3⟩
          refine ⟨fun e => fopn 40 _ (by decide) (by omega) (by rw [hb, if_pos e]) (fun _ _ _ _ q => q), fun e1 => ⟨fun e => fopn 5 _ (by decide) (by omega) (by rw [hb, if_neg e1, if_pos e]) (fun _ _ _ _ q => q), fun e2 => ⟨fun e3 => ⟨fun e4 => ⟨fun e5 => ⟨fun e6 => ?_, fun e6 => ?_⟩, fun e5 => ?_⟩, fun e4 => ?_⟩, fun e3 => ?_⟩⟩⟩
          · exact fl (by rw [hb, if_neg e1, if_neg e2, if_neg e3, if_neg e4, if_neg e5, if_neg (fun q => e6 q.1)])
          · refine ⟨σ, w, A, L, R, P, rfl, ⟨a4, a5, by omega⟩, ?_⟩
            simp only [bI_0, s_psh, s_ild, s_lld, s_ald, s_ist, s_lst, s_ast, s_inc, s_ib, s_ibz, s_iu, s_lb, s_lbz, s_lu, s_ls, s_il, s_li, s_cmp, s_dup, s_pop, s_dup2, s_if1, s_if2, s_ifn, s_cv, s_cs, s_ci, s_oi, s_get, s_put, s_iald, s_lald, s_zald, s_iast, s_last, s_zast, s_alen, s_iret, s_lret, s_aret, s_vret, s_al, gpad, gl, gst, gclr, gc2, gent, gcat, Value.category, List.drop_succ_cons, List.drop_zero, List.take_succ_cons, List.take_zero, List.reverse_cons, List.reverse_nil, List.nil_append, List.cons_append, List.append_nil, List.map_cons, List.map_nil, List.sum_cons, List.sum_nil, List.length_cons, List.length_nil, Option.toList, cond_true, cond_false, Nat.reduceBEq, Nat.reduceAdd, Nat.reduceLeDiff, beq_self_eq_true, true_and, and_true, BEq.rfl, Bool.false_eq_true, if_true, if_false, menc_0, menc_1, menc_2, menc_3, menc_4, menc_5, menc_6, menc_7, menc_8, menc_9, menc_10, menc_11, menc_12, menc_13, menc_14, mf_0, mf_1, mf_2, mf_3, mf_4, mf_5, mf_6, mf_7, mf_8, mf_9, mf_10, mf_11, mf_12, mf_13, mf_14, mf_15, mf_16, mf_17, mf_18, mf_19, mf_20, mf_21, mf_22, mf_23, mf_24, mf_25, mf_26, mf_27, mf_28, mf_29, mf_30, mf_31, ms_4, ms_5, ms_6, ms_7, ms_8, ms_9, ms_10, ms_11, ms_12, ms_13, ms_14, ms_16, ms_17, ms_18, ms_19, ms_23, ms_24, ms_27, mu_1, mu_2, mu_3, mu_4, mu_5, mu_6, mu_7, mu_8, mu_9, mu_10, mu_11, mu_12, mu_13, mu_14]
            refine ⟨fun e7 => fl (by rw [hb, if_neg e1, if_neg e2, if_neg e3, if_neg e4, if_neg e5, if_neg (fun q => e7 q.2)]), fun e7 => fopn 20 _ (by decide) (by omega) (by rw [hb, if_neg e1, if_neg e2, if_neg e3, if_neg e4, if_neg e5, if_pos ⟨Classical.not_not.mp e6, Classical.not_not.mp e7⟩]) (fun _ _ _ _ q => q)⟩
          · exact fopn 42 _ (by decide) (by omega) (by rw [hb, if_neg e1, if_neg e2, if_neg e3, if_neg e4, if_pos (Classical.not_not.mp e5)]) (fun _ _ _ _ q => q)
          · exact fopn 2 _ (by decide) (by omega) (by rw [hb, if_neg e1, if_neg e2, if_neg e3, if_pos (Classical.not_not.mp e4)]) (fun _ _ _ _ q => q)
          · exact fopn 41 _ (by decide) (by omega) (by rw [hb, if_neg e1, if_neg e2, if_pos (Classical.not_not.mp e3)]) (fun _ _ _ _ q => q)
    have k20 : (tkS T len i = 39 → ∃ u, σ 10 = nI u ∧ begM (tkS T len) (tkV T len) cat P i o out = endM (tkS T len) P (i + 1) o (out ++ [(0, (u : Int))])) → b_X12_beginOne_20 sp_X12_emit sp_X12_nextT sp_X12_endOne sp_X12_w5 sp_X12_isWord sp_X12_w2 sp_X12_w3 sp_X12_isAskAhead sp_X12_opened sp_X12_nameOf Q [some (.ref m), none] [] (menc m σ w A L R) n0 z0 := by
      intro h39
      simp only [b_X12_beginOne_20, sp_X12_nameOf, s_psh, s_ild, s_lld, s_ald, s_ist, s_lst, s_ast, s_inc, s_ib, s_ibz, s_iu, s_lb, s_lbz, s_lu, s_ls, s_il, s_li, s_cmp, s_dup, s_pop, s_dup2, s_if1, s_if2, s_ifn, s_cv, s_cs, s_ci, s_oi, s_get, s_put, s_iald, s_lald, s_zald, s_iast, s_last, s_zast, s_alen, s_iret, s_lret, s_aret, s_vret, s_al, gpad, gl, gst, gclr, gc2, gent, gcat, Value.category, List.drop_succ_cons, List.drop_zero, List.take_succ_cons, List.take_zero, List.reverse_cons, List.reverse_nil, List.nil_append, List.cons_append, List.append_nil, List.map_cons, List.map_nil, List.sum_cons, List.sum_nil, List.length_cons, List.length_nil, Option.toList, cond_true, cond_false, Nat.reduceBEq, Nat.reduceAdd, Nat.reduceLeDiff, beq_self_eq_true, true_and, and_true, BEq.rfl, Bool.false_eq_true, if_true, if_false, menc_0, menc_1, menc_2, menc_3, menc_4, menc_5, menc_6, menc_7, menc_8, menc_9, menc_10, menc_11, menc_12, menc_13, menc_14, mf_0, mf_1, mf_2, mf_3, mf_4, mf_5, mf_6, mf_7, mf_8, mf_9, mf_10, mf_11, mf_12, mf_13, mf_14, mf_15, mf_16, mf_17, mf_18, mf_19, mf_20, mf_21, mf_22, mf_23, mf_24, mf_25, mf_26, mf_27, mf_28, mf_29, mf_30, mf_31, ms_4, ms_5, ms_6, ms_7, ms_8, ms_9, ms_10, ms_11, ms_12, ms_13, ms_14, ms_16, ms_17, ms_18, ms_19, ms_23, ms_24, ms_27, mu_1, mu_2, mu_3, mu_4, mu_5, mu_6, mu_7, mu_8, mu_9, mu_10, mu_11, mu_12, mu_13, mu_14]
      refine ⟨σ, w, A, L, R, T, len, i, rfl, a1, ?_⟩
      simp only [true_and, and_true, lit, nI_add, nar_i, nar_0, nar_1, nar_b, fit_i, fit_l, pk_rem, nI_leI, nI_ltI, nI_eq, vin_iff, nI_clamp, nI_m1, hcat]
      by_cases hn : nmOf (tkS T len i) < 8
      · have e1 := nmI_t hn
        refine ⟨fun e => k39 h39 (fun _ q => ?_), fun e => ⟨fun e2 => k39 h39 (fun _ q => ?_), fun e2 => ?_⟩⟩
        · rw [e1, nI_leI (by omega) (by decide)] at e
          omega
        · rw [q.2] at e2
          exact absurd e2 (by decide)
        · rw [e1, nI_leI (by omega) (by decide)] at e
          have hcf : cat = false := by
            cases cat
            · rfl
            · exact absurd rfl e2
          have hb : begM (tkS T len) (tkV T len) cat P i o out = .inr (.inl (5, i)) := by
            unfold begM
            rw [if_neg (nmOf_ne hn).1, if_pos hn, if_pos ⟨by omega, hcf⟩]
          rw [hb] at hQ
          exact hQ σ w A (by decide) (by decide) a1 ⟨b1, b2, b3⟩
      · have e1 := nmI_f hn
        refine ⟨fun e => k39 h39 (fun q => absurd q hn), fun e => absurd ?_ e⟩
        rw [e1]
        decide
    simp only [b_X12_beginOne_0, s_psh, s_ild, s_lld, s_ald, s_ist, s_lst, s_ast, s_inc, s_ib, s_ibz, s_iu, s_lb, s_lbz, s_lu, s_ls, s_il, s_li, s_cmp, s_dup, s_pop, s_dup2, s_if1, s_if2, s_ifn, s_cv, s_cs, s_ci, s_oi, s_get, s_put, s_iald, s_lald, s_zald, s_iast, s_last, s_zast, s_alen, s_iret, s_lret, s_aret, s_vret, s_al, gpad, gl, gst, gclr, gc2, gent, gcat, Value.category, List.drop_succ_cons, List.drop_zero, List.take_succ_cons, List.take_zero, List.reverse_cons, List.reverse_nil, List.nil_append, List.cons_append, List.append_nil, List.map_cons, List.map_nil, List.sum_cons, List.sum_nil, List.length_cons, List.length_nil, Option.toList, cond_true, cond_false, Nat.reduceBEq, Nat.reduceAdd, Nat.reduceLeDiff, beq_self_eq_true, true_and, and_true, BEq.rfl, Bool.false_eq_true, if_true, if_false, menc_0, menc_1, menc_2, menc_3, menc_4, menc_5, menc_6, menc_7, menc_8, menc_9, menc_10, menc_11, menc_12, menc_13, menc_14, mf_0, mf_1, mf_2, mf_3, mf_4, mf_5, mf_6, mf_7, mf_8, mf_9, mf_10, mf_11, mf_12, mf_13, mf_14, mf_15, mf_16, mf_17, mf_18, mf_19, mf_20, mf_21, mf_22, mf_23, mf_24, mf_25, mf_26, mf_27, mf_28, mf_29, mf_30, mf_31, ms_4, ms_5, ms_6, ms_7, ms_8, ms_9, ms_10, ms_11, ms_12, ms_13, ms_14, ms_16, ms_17, ms_18, ms_19, ms_23, ms_24, ms_27, mu_1, mu_2, mu_3, mu_4, mu_5, mu_6, mu_7, mu_8, mu_9, mu_10, mu_11, mu_12, mu_13, mu_14]
    simp (disch := omega) only [true_and, and_true, lit, nI_add, nar_i, nar_0, nar_1, nar_b, fit_i, fit_l, pk_rem, nI_leI, nI_ltI, nI_eq, vin_iff, nI_clamp, nI_m1, ts_1 a1]
    refine ⟨fun e => ⟨fun e2 => k20 fun _ => ?_, fun e2 => ?_⟩, fun e => k20 (fun q => absurd q e)⟩
    · obtain ⟨r, g1, g2, g3⟩ := a1.num e
      rw [g1, nI_leI (by omega) (by decide)] at e2
      refine ⟨r, g1, ?_⟩
      unfold begM
      rw [if_pos e, g3, Nat.min_eq_left (by omega), if_neg (by omega)]
    · obtain ⟨r, g1, g2, g3⟩ := a1.num e
      rw [g1, nI_leI (by omega) (by decide)] at e2
      have hb : begM (tkS T len) (tkV T len) cat P i o out = .inr (.inl (2, i)) := by
        unfold begM
        rw [if_pos e, g3, if_pos (Nat.lt_min.mpr ⟨by omega, by decide⟩)]
      rw [hb] at hQ
      exact hQ σ w A (by decide) (by decide) a1 ⟨b1, b2, b3⟩
  · exact h.elim
