/-! the class's judge: isLeaf, isOfOne, ofTwo, within -/
def twoR (o : Nat) (x y : Int) : Int := if o = 13 then rndI x y else if isCmp o = true then bi (cmpI o x y) else if o = 21 then bi (decide (x ≠ 0 ∧ y ≠ 0)) else if o = 30 then x + y else if o = 31 then x - y else if o = 32 then x * y else if o = 33 then (if y = 0 then 0 else x.tdiv y) else bi (decide (x ≠ 0 ∨ y ≠ 0))
theorem clip_id {x : Int} (h : fits6 x) : clipI x = x := by
  unfold fits6 at h
  unfold clipI
  rw [if_neg (by omega), if_neg (by omega)]
theorem twoR_C {o : Nat} {x y : Int} (hy : fits6 y) : clipI (twoR o x y) = twoC o x y := by
  unfold twoR twoC
  by_cases h1 : o = 13
  · rw [if_pos h1, if_pos h1, clip_id (rnd_fits hy)]
  · rw [if_neg h1, if_neg h1]
    by_cases h2 : isCmp o = true
    · rw [if_pos h2, if_pos h2, clip_id (bi_fits _)]
    · rw [if_neg h2, if_neg h2]
      by_cases h3 : o = 21
      · rw [if_pos h3, if_pos h3, clip_id (bi_fits _)]
      · rw [if_neg h3, if_neg h3]
        by_cases h4 : o = 30
        · rw [if_pos h4, if_pos (by rw [h4]; decide), h4, of30]
        · rw [if_neg h4]
          by_cases h5 : o = 31
          · rw [if_pos h5, if_pos (by rw [h5]; decide), h5, of31]
          · rw [if_neg h5]
            by_cases h6 : o = 32
            · rw [if_pos h6, if_pos (by rw [h6]; decide), h6, of32]
            · rw [if_neg h6]
              by_cases h7 : o = 33
              · rw [if_pos h7, if_pos (show isAdd o = true ∨ isMul o = true by rw [h7]; decide), h7, of33]
                by_cases h8 : y = 0
                · rw [if_pos h8, if_pos h8]; rfl
                · rw [if_neg h8, if_neg h8]
              · rw [if_neg h7, if_neg (by simp [isAdd, isMul]; omega), clip_id (bi_fits _)]
def sp_X0_within : gSp := fun as C n z Q => match as with
  | [.long v] => ∃ x : Int, v = lI x ∧ -4611686018427387904 ≤ x ∧ x ≤ 4611686018427387904 ∧ Q (some (.int (iI (clipI x)))) C n z
  | _ => False
set_option maxRecDepth 100000 in
theorem c_X0_within (l : Launch) : Con l yX0_within cX0_within 4 (some .int) 0 0 0 sp_X0_within := by
  refine m_X0_within ?_
  intro as C0 n0 z0 Q h
  unfold sp_X0_within at h
  split at h
  · obtain ⟨x, rfl, h1, h2, hQ⟩ := h
    have fin : ∀ v, clipI x = v → Q (some (.int (iI v))) C0 n0 z0 := fun v e => by rw [← e]; exact hQ
    refine ⟨Nat.le_of_ble_eq_true rfl, ?_⟩
    simp only [b_X0_within_0, b_X0_within_15, b_X0_within_31, s_psh, s_ild, s_lld, s_ald, s_ist, s_lst, s_ast, s_inc, s_ib, s_ibz, s_iu, s_lb, s_lbz, s_lu, s_ls, s_il, s_li, s_cmp, s_dup, s_pop, s_dup2, s_if1, s_if2, s_ifn, s_cv, s_cs, s_ci, s_oi, s_get, s_put, s_iald, s_lald, s_zald, s_iast, s_last, s_zast, s_alen, s_iret, s_lret, s_aret, s_vret, s_al, gpad, gl, gst, gclr, gc2, gent, gcat, Value.category, List.drop_succ_cons, List.drop_zero, List.take_succ_cons, List.take_zero, List.reverse_cons, List.reverse_nil, List.nil_append, List.cons_append, List.append_nil, List.map_cons, List.map_nil, List.sum_cons, List.sum_nil, List.length_cons, List.length_nil, Option.toList, cond_true, cond_false, Nat.reduceBEq, Nat.reduceAdd, Nat.reduceLeDiff, beq_self_eq_true, true_and, and_true, BEq.rfl, Bool.false_eq_true, if_true, if_false, menc_0, menc_1, menc_2, menc_3, menc_4, menc_5, menc_6, menc_7, menc_8, menc_9, menc_10, menc_11, menc_12, menc_13, menc_14, mf_0, mf_1, mf_2, mf_3, mf_4, mf_5, mf_6, mf_7, mf_8, mf_9, mf_10, mf_11, mf_12, mf_13, mf_14, mf_15, mf_16, mf_17, mf_18, mf_19, mf_20, mf_21, mf_22, mf_23, mf_24, mf_25, mf_26, mf_27, mf_28, mf_29, mf_30, mf_31, ms_4, ms_5, ms_6, ms_7, ms_8, ms_9, ms_10, ms_11, ms_12, ms_13, ms_14, ms_16, ms_17, ms_18, ms_19, ms_23, ms_24, ms_27, mu_1, mu_2, mu_3, mu_4, mu_5, mu_6, mu_7, mu_8, mu_9, mu_10, mu_11, mu_12, mu_13, mu_14]
    simp (disch := omega) only [true_and, and_true, lit, nI_add, nar_i, nar_0, nar_1, nar_b, fit_i, fit_l, pk_rem, nI_leI, nI_ltI, nI_eq, vin_iff, nI_clamp, nI_m1, litI, lI_neg, cmp_le0, cmp_0le, lI_le, lI_i]
    refine ⟨fun e => ⟨fun e2 => fin _ ?_, fun e2 => fin _ ?_⟩, fun e => ⟨fun e2 => fin _ ?_, fun e2 => ?_⟩⟩
    · unfold clipI; rw [if_neg (by omega), if_neg (by omega)]
    · unfold clipI; rw [if_pos (by omega)]
    · unfold clipI; rw [if_neg (by omega), if_pos (by omega)]
    · exact absurd (by decide) e2
  · exact h.elim
theorem c_isLeaf_b (s : Nat) (h : s < 20000) : (isLeafC s = true) = (s = 39 ∨ s = 12 ∨ s = 7 ∨ (2 ≤ s ∧ s ≤ 4) ∨ (23 ≤ s ∧ s ≤ 25)) := by
  unfold isLeafC nmOf
  apply propext
  rw [Bool.or_eq_true, beq_iff_eq, decide_eq_true_iff]
  constructor
  · rintro (h | h)
    · exact .inl h
    · repeat' split at h
      all_goals omega
  · intro h
    by_cases h39 : s = 39
    · exact .inl h39
    · refine .inr ?_
      repeat' split
      all_goals omega
def sp_X0_isLeaf : gSp := fun as C n z Q => match as with
  | [.int o] => ∃ c, o = nI c ∧ c < 20000 ∧ Q (some (.int (bB (isLeafC c)))) C n z
  | _ => False
set_option maxRecDepth 100000 in
set_option maxHeartbeats 4000000 in
theorem c_X0_isLeaf (l : Launch) : Con l yX0_isLeaf cX0_isLeaf 1 (some .boolean) 0 0 0 sp_X0_isLeaf := by
  refine m_X0_isLeaf ?_
  intro as C0 n0 z0 Q h
  unfold sp_X0_isLeaf at h
  split at h
  · obtain ⟨c, rfl, hc, hQ⟩ := h
    have t1 : (c = 39 ∨ c = 12 ∨ c = 7 ∨ (2 ≤ c ∧ c ≤ 4) ∨ (23 ≤ c ∧ c ≤ 25)) → Q (some (.int (nI 1))) C0 n0 z0 := fun e => by
      rw [← c_isLeaf_b c hc] at e
      rw [e] at hQ; exact hQ
    have t0 : ¬ (c = 39 ∨ c = 12 ∨ c = 7 ∨ (2 ≤ c ∧ c ≤ 4) ∨ (23 ≤ c ∧ c ≤ 25)) → Q (some (.int (nI 0))) C0 n0 z0 := fun e => by
      rw [← c_isLeaf_b c hc] at e
      rw [Bool.not_eq_true] at e
      rw [e] at hQ; exact hQ
    refine ⟨Nat.le_of_ble_eq_true rfl, ?_⟩
    simp only [b_X0_isLeaf_0, b_X0_isLeaf_28, b_X0_isLeaf_40, b_X0_isLeaf_44, b_X0_isLeaf_45, s_psh, s_ild, s_lld, s_ald, s_ist, s_lst, s_ast, s_inc, s_ib, s_ibz, s_iu, s_lb, s_lbz, s_lu, s_ls, s_il, s_li, s_cmp, s_dup, s_pop, s_dup2, s_if1, s_if2, s_ifn, s_cv, s_cs, s_ci, s_oi, s_get, s_put, s_iald, s_lald, s_zald, s_iast, s_last, s_zast, s_alen, s_iret, s_lret, s_aret, s_vret, s_al, gpad, gl, gst, gclr, gc2, gent, gcat, Value.category, List.drop_succ_cons, List.drop_zero, List.take_succ_cons, List.take_zero, List.reverse_cons, List.reverse_nil, List.nil_append, List.cons_append, List.append_nil, List.map_cons, List.map_nil, List.sum_cons, List.sum_nil, List.length_cons, List.length_nil, Option.toList, cond_true, cond_false, Nat.reduceBEq, Nat.reduceAdd, Nat.reduceLeDiff, beq_self_eq_true, true_and, and_true, BEq.rfl, Bool.false_eq_true, if_true, if_false, menc_0, menc_1, menc_2, menc_3, menc_4, menc_5, menc_6, menc_7, menc_8, menc_9, menc_10, menc_11, menc_12, menc_13, menc_14, mf_0, mf_1, mf_2, mf_3, mf_4, mf_5, mf_6, mf_7, mf_8, mf_9, mf_10, mf_11, mf_12, mf_13, mf_14, mf_15, mf_16, mf_17, mf_18, mf_19, mf_20, mf_21, mf_22, mf_23, mf_24, mf_25, mf_26, mf_27, mf_28, mf_29, mf_30, mf_31, ms_4, ms_5, ms_6, ms_7, ms_8, ms_9, ms_10, ms_11, ms_12, ms_13, ms_14, ms_16, ms_17, ms_18, ms_19, ms_23, ms_24, ms_27, mu_1, mu_2, mu_3, mu_4, mu_5, mu_6, mu_7, mu_8, mu_9, mu_10, mu_11, mu_12, mu_13, mu_14]
    simp (disch := omega) only [true_and, and_true, lit, nI_add, nar_i, nar_0, nar_1, nar_b, fit_i, fit_l, pk_rem, nI_leI, nI_ltI, nI_eq, vin_iff, nI_clamp, nI_m1]
    refine ⟨fun e => t1 (by omega), fun e1 => ⟨fun e => t1 (by omega), fun e2 => ⟨fun e => t1 (by omega), fun e3 => ⟨fun e4 => ⟨fun e => t0 (by omega), fun e5 => ⟨fun e => t0 (by omega), fun e => t1 (by omega)⟩⟩, fun e4 => ⟨fun e => t1 (by omega), fun e5 => ⟨fun e => t0 (by omega), fun e6 => ⟨fun e => t0 (by omega), fun e => t1 (by omega)⟩⟩⟩⟩⟩⟩⟩
  · exact h.elim
def sp_X0_isOfOne : gSp := fun as C n z Q => match as with
  | [.int o] => ∃ c, o = nI c ∧ c < 20000 ∧ Q (some (.int (bI (c = 22 ∨ c = 15)))) C n z
  | _ => False
set_option maxRecDepth 100000 in
set_option maxHeartbeats 4000000 in
theorem c_X0_isOfOne (l : Launch) : Con l yX0_isOfOne cX0_isOfOne 1 (some .boolean) 0 0 0 sp_X0_isOfOne := by
  refine m_X0_isOfOne ?_
  intro as C0 n0 z0 Q h
  unfold sp_X0_isOfOne at h
  split at h
  · obtain ⟨c, rfl, hc, hQ⟩ := h
    refine ⟨Nat.le_of_ble_eq_true rfl, ?_⟩
    simp only [b_X0_isOfOne_0, b_X0_isOfOne_12, b_X0_isOfOne_17, s_psh, s_ild, s_lld, s_ald, s_ist, s_lst, s_ast, s_inc, s_ib, s_ibz, s_iu, s_lb, s_lbz, s_lu, s_ls, s_il, s_li, s_cmp, s_dup, s_pop, s_dup2, s_if1, s_if2, s_ifn, s_cv, s_cs, s_ci, s_oi, s_get, s_put, s_iald, s_lald, s_zald, s_iast, s_last, s_zast, s_alen, s_iret, s_lret, s_aret, s_vret, s_al, gpad, gl, gst, gclr, gc2, gent, gcat, Value.category, List.drop_succ_cons, List.drop_zero, List.take_succ_cons, List.take_zero, List.reverse_cons, List.reverse_nil, List.nil_append, List.cons_append, List.append_nil, List.map_cons, List.map_nil, List.sum_cons, List.sum_nil, List.length_cons, List.length_nil, Option.toList, cond_true, cond_false, Nat.reduceBEq, Nat.reduceAdd, Nat.reduceLeDiff, beq_self_eq_true, true_and, and_true, BEq.rfl, Bool.false_eq_true, if_true, if_false, menc_0, menc_1, menc_2, menc_3, menc_4, menc_5, menc_6, menc_7, menc_8, menc_9, menc_10, menc_11, menc_12, menc_13, menc_14, mf_0, mf_1, mf_2, mf_3, mf_4, mf_5, mf_6, mf_7, mf_8, mf_9, mf_10, mf_11, mf_12, mf_13, mf_14, mf_15, mf_16, mf_17, mf_18, mf_19, mf_20, mf_21, mf_22, mf_23, mf_24, mf_25, mf_26, mf_27, mf_28, mf_29, mf_30, mf_31, ms_4, ms_5, ms_6, ms_7, ms_8, ms_9, ms_10, ms_11, ms_12, ms_13, ms_14, ms_16, ms_17, ms_18, ms_19, ms_23, ms_24, ms_27, mu_1, mu_2, mu_3, mu_4, mu_5, mu_6, mu_7, mu_8, mu_9, mu_10, mu_11, mu_12, mu_13, mu_14]
    simp (disch := omega) only [true_and, and_true, lit, nI_add, nar_i, nar_0, nar_1, nar_b, fit_i, fit_l, pk_rem, nI_leI, nI_ltI, nI_eq, vin_iff, nI_clamp, nI_m1]
    refine ⟨fun e => ?_, fun e1 => ⟨fun e => ?_, fun e2 => ?_⟩⟩
    · rw [bI_t (.inl e)] at hQ; exact hQ
    · rw [bI_t (.inr e)] at hQ; exact hQ
    · rw [bI_f (by omega)] at hQ; exact hQ
  · exact h.elim
def sp_X0_ofTwo : gSp := fun as C n z Q => match as with
  | [.int o, .long v, .long w] => ∃ (c : Nat) (x y : Int), o = nI c ∧ c < 20000 ∧ v = lI x ∧ w = lI y ∧ fits6 x ∧ fits6 y ∧ Q (some (.long (lI (twoR c x y)))) C n z
  | _ => False
set_option maxRecDepth 100000 in
set_option maxHeartbeats 8000000 in
theorem c_X0_ofTwo (l : Launch) : Con l yX0_ofTwo cX0_ofTwo 5 (some .long) 0 0 0 sp_X0_ofTwo := by
  refine m_X0_ofTwo ?_
  intro as C0 n0 z0 Q h
  unfold sp_X0_ofTwo at h
  split at h
  · obtain ⟨c, x, y, rfl, hc, rfl, rfl, hx, hy, hQ⟩ := h
    have fin : ∀ v, twoR c x y = v → Q (some (.long (lI v))) C0 n0 z0 := fun v e => by rw [← e]; exact hQ
    refine ⟨Nat.le_of_ble_eq_true rfl, ?_⟩
    have hx' := hx
    have hy' := hy
    unfold fits6 at hx' hy'
    have hor : twoR c x y = bi (decide (x ≠ 0 ∨ y ≠ 0)) → (x = 0 → (y = 0 → Q (some (.long (lI 0))) C0 n0 z0) ∧ (¬ y = 0 → Q (some (.long (lI 1))) C0 n0 z0)) ∧ (¬ x = 0 → Q (some (.long (lI 1))) C0 n0 z0) := fun e => by
      refine ⟨fun q1 => ⟨fun q2 => fin _ ?_, fun q2 => fin _ ?_⟩, fun q1 => fin _ ?_⟩
      · rw [e, decide_eq_false (by omega)]; rfl
      · rw [e, decide_eq_true (by omega)]; rfl
      · rw [e, decide_eq_true (by omega)]; rfl
    have hrem : ∀ a : Int, fits6 a → 0 < y → lI a - lI a / lI y * lI y = lI (a.tmod y) := fun a ha _ => by
      unfold fits6 at ha
      exact lI_rem (by omega) (by omega) (by omega) (by omega)
    have h2m : 0 < y → -2000000 ≤ x.tmod y + y ∧ x.tmod y + y ≤ 2000000 := fun h => by
      have h1 := Int.lt_tmod_of_pos x h
      have h2 := Int.tmod_lt_of_pos x h
      omega
    simp only [b_X0_ofTwo_0, b_X0_ofTwo_163, b_X0_ofTwo_271, b_X0_ofTwo_266, b_X0_ofTwo_253, b_X0_ofTwo_252, b_X0_ofTwo_175, b_X0_ofTwo_199, b_X0_ofTwo_223, b_X0_ofTwo_235, b_X0_ofTwo_145, b_X0_ofTwo_187, b_X0_ofTwo_211, s_sw, List.forall_mem_cons, lI_add, lI_sub, lI_mul, s_psh, s_ild, s_lld, s_ald, s_ist, s_lst, s_ast, s_inc, s_ib, s_ibz, s_iu, s_lb, s_lbz, s_lu, s_ls, s_il, s_li, s_cmp, s_dup, s_pop, s_dup2, s_if1, s_if2, s_ifn, s_cv, s_cs, s_ci, s_oi, s_get, s_put, s_iald, s_lald, s_zald, s_iast, s_last, s_zast, s_alen, s_iret, s_lret, s_aret, s_vret, s_al, gpad, gl, gst, gclr, gc2, gent, gcat, Value.category, List.drop_succ_cons, List.drop_zero, List.take_succ_cons, List.take_zero, List.reverse_cons, List.reverse_nil, List.nil_append, List.cons_append, List.append_nil, List.map_cons, List.map_nil, List.sum_cons, List.sum_nil, List.length_cons, List.length_nil, Option.toList, cond_true, cond_false, Nat.reduceBEq, Nat.reduceAdd, Nat.reduceLeDiff, beq_self_eq_true, true_and, and_true, BEq.rfl, Bool.false_eq_true, if_true, if_false, menc_0, menc_1, menc_2, menc_3, menc_4, menc_5, menc_6, menc_7, menc_8, menc_9, menc_10, menc_11, menc_12, menc_13, menc_14, mf_0, mf_1, mf_2, mf_3, mf_4, mf_5, mf_6, mf_7, mf_8, mf_9, mf_10, mf_11, mf_12, mf_13, mf_14, mf_15, mf_16, mf_17, mf_18, mf_19, mf_20, mf_21, mf_22, mf_23, mf_24, mf_25, mf_26, mf_27, mf_28, mf_29, mf_30, mf_31, ms_4, ms_5, ms_6, ms_7, ms_8, ms_9, ms_10, ms_11, ms_12, ms_13, ms_14, ms_16, ms_17, ms_18, ms_19, ms_23, ms_24, ms_27, mu_1, mu_2, mu_3, mu_4, mu_5, mu_6, mu_7, mu_8, mu_9, mu_10, mu_11, mu_12, mu_13, mu_14]
    simp (disch := omega) only [true_and, and_true, lit, nI_add, nar_i, nar_0, nar_1, nar_b, fit_i, fit_l, pk_rem, nI_leI, nI_ltI, nI_eq, vin_iff, nI_clamp, nI_m1, litI, lcmp_eq, cmp_le0, cmp_0le, cmp_lt0, cmp_0lt, lI_eq, lI_lt, lI_le, lI_div]
    refine ⟨⟨fun e => ⟨fun h => ⟨by omega, by omega, ?_⟩, fun h => fin _ (by rw [e]; show rndI x y = _; rw [rndI, if_pos (by omega)])⟩,
      fun e => hor (by rw [e]; rfl),
      fun e => hor (by rw [e]; rfl),
      fun e => hor (by rw [e]; rfl),
      fun e => hor (by rw [e]; rfl),
      fun e => hor (by rw [e]; rfl),
      fun e => hor (by rw [e]; rfl),
      fun e => hor (by rw [e]; rfl),
      fun e => ⟨fun q => fin _ (by rw [e]; show bi (decide (x ≠ 0 ∧ y ≠ 0)) = _; rw [decide_eq_false (by omega)]; rfl), fun q => ⟨fun q2 => fin _ (by rw [e]; show bi (decide (x ≠ 0 ∧ y ≠ 0)) = _; rw [decide_eq_false (by omega)]; rfl), fun q2 => fin _ (by rw [e]; show bi (decide (x ≠ 0 ∧ y ≠ 0)) = _; rw [decide_eq_true (by omega)]; rfl)⟩⟩,
      fun e => hor (by rw [e]; rfl),
      fun e => hor (by rw [e]; rfl),
      fun e => hor (by rw [e]; rfl),
      fun e => hor (by rw [e]; rfl),
      fun e => ⟨fun q => fin _ (by rw [e]; show bi (cmpI 26 x y) = _; rw [cm26, decide_eq_false (by omega)]; rfl), fun q => fin _ (by rw [e]; show bi (cmpI 26 x y) = _; rw [cm26, decide_eq_true (by omega)]; rfl)⟩,
      fun e => ⟨fun q => fin _ (by rw [e]; show bi (cmpI 27 x y) = _; rw [cm27, decide_eq_false (by omega)]; rfl), fun q => fin _ (by rw [e]; show bi (cmpI 27 x y) = _; rw [cm27, decide_eq_true (by omega)]; rfl)⟩,
      fun e => ⟨fun q => fin _ (by rw [e]; show bi (cmpI 28 x y) = _; rw [cm28, decide_eq_true (by omega)]; rfl), fun q => fin _ (by rw [e]; show bi (cmpI 28 x y) = _; rw [cm28, decide_eq_false (by omega)]; rfl)⟩,
      fun e => ⟨fun q => fin _ (by rw [e]; show bi (cmpI 29 x y) = _; rw [cm29, decide_eq_false (by omega)]; rfl), fun q => fin _ (by rw [e]; show bi (cmpI 29 x y) = _; rw [cm29, decide_eq_true (by omega)]; rfl)⟩,
      fun e => fin _ (by rw [e]; rfl),
      fun e => fin _ (by rw [e]; rfl),
      fun e => fin _ (by rw [e]; rfl),
      fun e => ⟨fun q => fin _ (by rw [e]; show (if y = 0 then 0 else x.tdiv y) = _; rw [if_pos q]), fun q => ⟨q, fin _ (by rw [e]; show (if y = 0 then 0 else x.tdiv y) = _; rw [if_neg q])⟩⟩,
      fun e => hor (by rw [e]; rfl),
      fun e => hor (by rw [e]; rfl),
      fun e => hor (by rw [e]; rfl),
      fun e => ⟨fun q => fin _ (by rw [e]; show bi (cmpI 37 x y) = _; rw [cm37, decide_eq_false (by omega)]; rfl), fun q => fin _ (by rw [e]; show bi (cmpI 37 x y) = _; rw [cm37, decide_eq_true (by omega)]; rfl)⟩,
      fun e => ⟨fun q => fin _ (by rw [e]; show bi (cmpI 38 x y) = _; rw [cm38, decide_eq_false (by omega)]; rfl), fun q => fin _ (by rw [e]; show bi (cmpI 38 x y) = _; rw [cm38, decide_eq_true (by omega)]; rfl)⟩,
      fun q hq => by cases hq⟩, fun e => hor ?_⟩
    · have e1 : lI x - lI (x.tdiv y) * lI y = lI (x.tmod y) := by rw [lI_mul, lI_sub, Int.tmod_def, Int.mul_comm y]
      have := h2m h
      rw [e1, lI_add, lI_rem (by omega) (by omega) (by omega) (by omega)]
      refine fin _ ?_
      rw [e]
      show rndI x y = _
      rw [rndI, if_neg (by omega)]
    · obtain ⟨e13, e14, e15, e16, e17, e18, e19, e20, e21, e22, e23, e24, e25, e26, e27, e28, e29, e30, e31, e32, e33, e34, e35, e36, e37, e38, -⟩ := e
      unfold twoR
      rw [if_neg e13, if_neg (by simp [isCmp, e26, e27, e28, e29, e37, e38]), if_neg e21, if_neg e30, if_neg e31, if_neg e32, if_neg e33]
  · exact h.elim
