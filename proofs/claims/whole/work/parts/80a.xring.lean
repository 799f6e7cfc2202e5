/-! the class: the JDK's small ones, the square's ring -/
def sp_J9_max_7cf53 : gSp := fun as C n z Q => (lg_sl as).length ≤ 2 ∧ b_J9_max_7cf53_0 Q (gpad 2 (gent as)) [] C n z
theorem c_J9_max_7cf53 (l : Launch) : Con l yJ9_max_7cf53 cJ9_max_7cf53 2 (some .int) 0 0 0 sp_J9_max_7cf53 := m_J9_max_7cf53 fun _ _ _ _ _ h => h
def sp_J9_min_7cf53 : gSp := fun as C n z Q => (lg_sl as).length ≤ 2 ∧ b_J9_min_7cf53_0 Q (gpad 2 (gent as)) [] C n z
theorem c_J9_min_7cf53 (l : Launch) : Con l yJ9_min_7cf53 cJ9_min_7cf53 2 (some .int) 0 0 0 sp_J9_min_7cf53 := m_J9_min_7cf53 fun _ _ _ _ _ h => h
def sp_J9_max_f86c9 : gSp := fun as C n z Q => (lg_sl as).length ≤ 4 ∧ b_J9_max_f86c9_0 Q (gpad 4 (gent as)) [] C n z
theorem c_J9_max_f86c9 (l : Launch) : Con l yJ9_max_f86c9 cJ9_max_f86c9 4 (some .long) 0 0 0 sp_J9_max_f86c9 := m_J9_max_f86c9 fun _ _ _ _ _ h => h
def sp_J9_abs_0f7a4 : gSp := fun as C n z Q => (lg_sl as).length ≤ 1 ∧ b_J9_abs_0f7a4_0 Q (gpad 1 (gent as)) [] C n z
theorem c_J9_abs_0f7a4 (l : Launch) : Con l yJ9_abs_0f7a4 cJ9_abs_0f7a4 1 (some .int) 0 0 0 sp_J9_abs_0f7a4 := m_J9_abs_0f7a4 fun _ _ _ _ _ h => h
def sp_J6_compare_7cf53 : gSp := fun as C n z Q => (lg_sl as).length ≤ 2 ∧ b_J6_compare_7cf53_0 Q (gpad 2 (gent as)) [] C n z
theorem c_J6_compare_7cf53 (l : Launch) : Con l yJ6_compare_7cf53 cJ6_compare_7cf53 2 (some .int) 0 0 0 sp_J6_compare_7cf53 := m_J6_compare_7cf53 fun _ _ _ _ _ h => h
theorem nI_xor (a b : Nat) : nI a ^^^ nI b = nI (a ^^^ b) := by
  apply Int32.toBitVec_inj.mp
  rw [Int32.toBitVec_xor]
  apply BitVec.eq_of_getLsbD_eq
  intro i hi
  show (BitVec.ofNat 32 a ^^^ BitVec.ofNat 32 b).getLsbD i = (BitVec.ofNat 32 (a ^^^ b)).getLsbD i
  simp [BitVec.getLsbD_ofNat, Nat.testBit_xor, hi]
theorem iI_rem {x y : Int} (h1 : -2147483647 ≤ x) (h2 : x ≤ 2147483647) (h3 : -2147483647 ≤ y) (h4 : y ≤ 2147483647) : iI x - iI x / iI y * iI y = iI (x.tmod y) := by
  have e : iI x / iI y = iI (x.tdiv y) := (Int32.ofInt_tdiv (by rw [Int32.toInt_minValue]; omega) (by rw [Int32.toInt_maxValue]; omega) (by rw [Int32.toInt_minValue]; omega) (by rw [Int32.toInt_maxValue]; omega)).symm
  rw [e, iI_mul, iI_sub, Int.tmod_def, Int.mul_comm]
theorem nI_neg {k : Nat} : -nI k = iI (-(k : Int)) := by rw [nI_iI, iI_neg]
theorem nI_subI (a b : Nat) : nI a - nI b = iI ((a : Int) - b) := by rw [nI_iI, nI_iI, iI_sub]
theorem xor30 : ∀ k : Fin 1024, (nI 0 ≤ (-nI (k.1 + 1)) ^^^ nI 30) = False := by
  intro k
  refine eq_false ?_
  revert k
  decide +kernel
def sp_J9_floorMod_7cf53 : gSp := fun as C n z Q => match as with
  | [.int x, .int y] => ∃ a b : Nat, x = nI a - nI b ∧ a < 1000 ∧ b ≤ 900 ∧ y = nI 30 ∧ Q (some (.int (nI ((a + 900 - b) % 30)))) C n z
  | _ => False
set_option maxRecDepth 100000 in
theorem c_J9_floorMod_7cf53 (l : Launch) : Con l yJ9_floorMod_7cf53 cJ9_floorMod_7cf53 3 (some .int) 0 0 0 sp_J9_floorMod_7cf53 := by
  refine m_J9_floorMod_7cf53 ?_
  intro as C0 n0 z0 Q h
  unfold sp_J9_floorMod_7cf53 at h
  split at h
  · obtain ⟨a, b, rfl, ha, hb, rfl, hQ⟩ := h
    refine ⟨Nat.le_of_ble_eq_true rfl, ?_⟩
    simp only [b_J9_floorMod_7cf53_0, b_J9_floorMod_7cf53_18, s_psh, s_ild, s_lld, s_ald, s_ist, s_lst, s_ast, s_inc, s_ib, s_ibz, s_iu, s_lb, s_lbz, s_lu, s_ls, s_il, s_li, s_cmp, s_dup, s_pop, s_dup2, s_if1, s_if2, s_ifn, s_cv, s_cs, s_ci, s_oi, s_get, s_put, s_iald, s_lald, s_zald, s_iast, s_last, s_zast, s_alen, s_iret, s_lret, s_aret, s_vret, s_al, gpad, gl, gst, gclr, gc2, gent, gcat, Value.category, List.drop_succ_cons, List.drop_zero, List.take_succ_cons, List.take_zero, List.reverse_cons, List.reverse_nil, List.nil_append, List.cons_append, List.append_nil, List.map_cons, List.map_nil, List.sum_cons, List.sum_nil, List.length_cons, List.length_nil, Option.toList, cond_true, cond_false, Nat.reduceBEq, Nat.reduceAdd, Nat.reduceLeDiff, beq_self_eq_true, true_and, and_true, BEq.rfl, Bool.false_eq_true, if_true, if_false]
    simp only [true_and, and_true, lit, nI_add, nar_i, nar_0, nar_1, nar_b, fit_i, fit_l, pk_rem, nI_leI, nI_ltI, nI_eq, vin_iff, nI_clamp, nI_m1]
    have h30 : ¬ nI 30 = nI 0 := by decide
    rcases Nat.lt_or_ge a b with hab | hab
    · obtain ⟨k, hk⟩ : ∃ k, b - a = k + 1 := ⟨b - a - 1, by omega⟩
      have ex : nI a - nI b = -nI (k + 1) := by
        rw [nI_subI, nI_neg]
        congr 1
        omega
      have hr : nI a - nI b - (nI a - nI b) / nI 30 * nI 30 = -nI ((k + 1) % 30) := by
        rw [ex, nI_neg, nI_iI 30, iI_rem (by omega) (by omega) (by decide) (by decide), nI_neg, Int.neg_tmod]
        congr 1
      rw [hr]
      refine ⟨h30, fun q => ?_, fun q => ⟨fun e => ?_, fun e => ?_⟩⟩
      · rw [ex, xor30 ⟨k, by omega⟩] at q
        exact q.elim
      · have e0 : (k + 1) % 30 = 0 := by
          have := congrArg Int32.toInt e
          rw [nI_neg, iI_T (by omega) (by omega), nI_toInt (by decide)] at this
          omega
        rw [e0]
        rw [show (a + 900 - b) % 30 = 0 by omega] at hQ
        exact hQ
      · have e0 : ¬ (k + 1) % 30 = 0 := fun e1 => e (by rw [e1]; decide)
        rw [show -nI ((k + 1) % 30) + nI 30 = nI ((a + 900 - b) % 30) by
          rw [nI_neg, nI_iI 30, iI_add, nI_iI]
          congr 1
          omega]
        exact hQ
    · rw [pk_sub hab, nI_xor]
      have hx : (a - b) ^^^ 30 < 2 ^ 10 := Nat.xor_lt_two_pow (by omega) (by omega)
      simp (disch := omega) only [true_and, and_true, lit, nI_add, nar_i, nar_0, nar_1, nar_b, fit_i, fit_l, pk_rem, nI_leI, nI_ltI, nI_eq, vin_iff, nI_clamp, nI_m1]
      refine ⟨by decide, fun _ => ?_, fun q => absurd (Nat.zero_le _) q⟩
      rw [show (a - b) % 30 = (a + 900 - b) % 30 by omega]
      exact hQ
  · exact h.elim
theorem sub0 (a : Nat) : nI a = nI a - nI 0 := (pk_sub (Nat.zero_le a)).symm
def sp_X5_kindAt : gSp := fun as C n z Q => match as with
  | [.ref s, .int x] => ∃ (K : Nat → Int32) (a b : Nat), isSq C s ∧ (∀ j, j < 30 → garr C (s + 1) j = K j) ∧ x = nI a - nI b ∧ a < 1000 ∧ b ≤ 900 ∧ Q (some (.int (K ((a + 900 - b) % 30)))) C n z
  | _ => False
set_option maxRecDepth 100000 in
theorem c_X5_kindAt (l : Launch) : Con l yX5_kindAt cX5_kindAt 2 (some .int) 1 0 0 sp_X5_kindAt := by
  refine m_X5_kindAt (c_J9_floorMod_7cf53 l) (by decide) ?_
  intro as C0 n0 z0 Q h
  unfold sp_X5_kindAt at h
  split at h
  · rename_i s x
    obtain ⟨K, a, b, ⟨σ, A, R, rfl⟩, hK, rfl, ha, hb, hQ⟩ := h
    simp only [Sqa_1] at hK
    refine ⟨Nat.le_of_ble_eq_true rfl, ?_⟩
    simp only [b_X5_kindAt_0, sp_J9_floorMod_7cf53, s_psh, s_ild, s_lld, s_ald, s_ist, s_lst, s_ast, s_inc, s_ib, s_ibz, s_iu, s_lb, s_lbz, s_lu, s_ls, s_il, s_li, s_cmp, s_dup, s_pop, s_dup2, s_if1, s_if2, s_ifn, s_cv, s_cs, s_ci, s_oi, s_get, s_put, s_iald, s_lald, s_zald, s_iast, s_last, s_zast, s_alen, s_iret, s_lret, s_aret, s_vret, s_al, gpad, gl, gst, gclr, gc2, gent, gcat, Value.category, List.drop_succ_cons, List.drop_zero, List.take_succ_cons, List.take_zero, List.reverse_cons, List.reverse_nil, List.nil_append, List.cons_append, List.append_nil, List.map_cons, List.map_nil, List.sum_cons, List.sum_nil, List.length_cons, List.length_nil, Option.toList, cond_true, cond_false, Nat.reduceBEq, Nat.reduceAdd, Nat.reduceLeDiff, beq_self_eq_true, true_and, and_true, BEq.rfl, Bool.false_eq_true, if_true, if_false, Sq_0, Sq_1, Sq_2, Sq_3, Sq_4, Sqf_0, Sqf_1, Sqf_2, Sqf_3, Sqf_4, Sqf_5, Sqf_6, Sqs_4, Sqs_5, Sqs_6, Squ_1, Squ_2, Squ_3, Squ_4]
    refine ⟨a, b, rfl, ha, hb, rfl, ?_⟩
    have hl : (a + 900 - b) % 30 < 30 := Nat.mod_lt _ (by decide)
    simp (disch := omega) only [true_and, and_true, lit, nI_add, nar_i, nar_0, nar_1, nar_b, fit_i, fit_l, pk_rem, nI_leI, nI_ltI, nI_eq, vin_iff, nI_clamp, nI_m1, hK]
    exact ⟨hl, hQ⟩
  · exact h.elim
def sp_X5_barsFrom : gSp := fun as C n z Q => match as with
  | [.ref s, .int x, .int y] => ∃ (K : Nat → Int32) (p k : Nat), isSq C s ∧ (∀ j, j < 30 → garr C (s + 1) j = K j) ∧ x = nI p ∧ y = nI k ∧ p < 60 ∧ k < 61 ∧ Q (some (.int (nI (cnt K p k)))) C n z
  | _ => False
set_option maxRecDepth 100000 in
set_option maxHeartbeats 4000000 in
theorem c_X5_barsFrom (l : Launch) : Con l yX5_barsFrom cX5_barsFrom 5 (some .int) 2 0 0 sp_X5_barsFrom := by
  refine m_X5_barsFrom (c_X5_kindAt l) (by decide) ?_
  intro as C0 n0 z0 Q h
  unfold sp_X5_barsFrom at h
  split at h
  · rename_i s x y
    obtain ⟨K, p, k, hS, hK, rfl, rfl, hp, hk, hQ⟩ := h
    have hS' := hS
    obtain ⟨σ, A, R, rfl⟩ := hS
    refine ⟨Nat.le_of_ble_eq_true rfl, fun pc μ lv st C n z => ∃ i, i ≤ k ∧ μ = k - i ∧ lv = [some (.ref s), some (.int (nI p)), some (.int (nI k)), some (.int (nI (cnt K p i))), some (.int (nI i))] ∧ st = [] ∧ C = SqE s σ A R ∧ n = n0 ∧ z = z0, ?_, ?_⟩
    · simp only [b_X5_barsFrom_0, s_psh, s_ild, s_lld, s_ald, s_ist, s_lst, s_ast, s_inc, s_ib, s_ibz, s_iu, s_lb, s_lbz, s_lu, s_ls, s_il, s_li, s_cmp, s_dup, s_pop, s_dup2, s_if1, s_if2, s_ifn, s_cv, s_cs, s_ci, s_oi, s_get, s_put, s_iald, s_lald, s_zald, s_iast, s_last, s_zast, s_alen, s_iret, s_lret, s_aret, s_vret, s_al, gpad, gl, gst, gclr, gc2, gent, gcat, Value.category, List.drop_succ_cons, List.drop_zero, List.take_succ_cons, List.take_zero, List.reverse_cons, List.reverse_nil, List.nil_append, List.cons_append, List.append_nil, List.map_cons, List.map_nil, List.sum_cons, List.sum_nil, List.length_cons, List.length_nil, Option.toList, cond_true, cond_false, Nat.reduceBEq, Nat.reduceAdd, Nat.reduceLeDiff, beq_self_eq_true, true_and, and_true, BEq.rfl, Bool.false_eq_true, if_true, if_false, Sq_0, Sq_1, Sq_2, Sq_3, Sq_4, Sqf_0, Sqf_1, Sqf_2, Sqf_3, Sqf_4, Sqf_5, Sqf_6, Sqs_4, Sqs_5, Sqs_6, Squ_1, Squ_2, Squ_3, Squ_4]
      exact ⟨_, 0, by omega, rfl, rfl⟩
    · rintro μ lv st C n z ⟨i, hi, rfl, rfl, rfl, rfl, rfl, rfl⟩
      simp only [b_X5_barsFrom_5, b_X5_barsFrom_26, sp_X5_kindAt, s_psh, s_ild, s_lld, s_ald, s_ist, s_lst, s_ast, s_inc, s_ib, s_ibz, s_iu, s_lb, s_lbz, s_lu, s_ls, s_il, s_li, s_cmp, s_dup, s_pop, s_dup2, s_if1, s_if2, s_ifn, s_cv, s_cs, s_ci, s_oi, s_get, s_put, s_iald, s_lald, s_zald, s_iast, s_last, s_zast, s_alen, s_iret, s_lret, s_aret, s_vret, s_al, gpad, gl, gst, gclr, gc2, gent, gcat, Value.category, List.drop_succ_cons, List.drop_zero, List.take_succ_cons, List.take_zero, List.reverse_cons, List.reverse_nil, List.nil_append, List.cons_append, List.append_nil, List.map_cons, List.map_nil, List.sum_cons, List.sum_nil, List.length_cons, List.length_nil, Option.toList, cond_true, cond_false, Nat.reduceBEq, Nat.reduceAdd, Nat.reduceLeDiff, beq_self_eq_true, true_and, and_true, BEq.rfl, Bool.false_eq_true, if_true, if_false, Sq_0, Sq_1, Sq_2, Sq_3, Sq_4, Sqf_0, Sqf_1, Sqf_2, Sqf_3, Sqf_4, Sqf_5, Sqf_6, Sqs_4, Sqs_5, Sqs_6, Squ_1, Squ_2, Squ_3, Squ_4]
      simp (disch := omega) only [true_and, and_true, lit, nI_add, nar_i, nar_0, nar_1, nar_b, fit_i, fit_l, pk_rem, nI_leI, nI_ltI, nI_eq, vin_iff, nI_clamp, nI_m1]
      refine ⟨fun h => ?_, fun h => ⟨K, p + i, 0, hS', hK, sub0 _, by omega, by omega, fun e => ⟨_, ?_, i + 1, by omega, rfl, ?_⟩, fun e => ⟨_, ?_, i + 1, by omega, rfl, ?_⟩⟩⟩
      · rw [show k = i by omega] at hQ; exact hQ
      · omega
      · rw [show (p + i + 900 - 0) % 30 = (p + i) % 30 by omega] at e
        simp only [cnt, e, if_true]
      · omega
      · rw [show (p + i + 900 - 0) % 30 = (p + i) % 30 by omega] at e
        simp only [cnt, e, if_false]
        rfl
  · exact h.elim
def sp_X5_likeFrom : gSp := fun as C n z Q => match as with
  | [.ref s, .int x, .int y] => ∃ (K : Nat → Int32) (p : Nat), isSq C s ∧ (∀ j, j < 30 → garr C (s + 1) j = K j) ∧ x = nI p ∧ p < 60 ∧ Q (some (.int (nI (runl K y p 0 30)))) C n z
  | _ => False
set_option maxRecDepth 100000 in
set_option maxHeartbeats 4000000 in
theorem c_X5_likeFrom (l : Launch) : Con l yX5_likeFrom cX5_likeFrom 4 (some .int) 2 0 0 sp_X5_likeFrom := by
  refine m_X5_likeFrom (c_X5_kindAt l) (by decide) ?_
  intro as C0 n0 z0 Q h
  unfold sp_X5_likeFrom at h
  split at h
  · rename_i s x y
    obtain ⟨K, p, hS, hK, rfl, hp, hQ⟩ := h
    have hS' := hS
    obtain ⟨σ, A, R, rfl⟩ := hS
    refine ⟨Nat.le_of_ble_eq_true rfl, fun pc μ lv st C n z => ∃ i, i ≤ 30 ∧ μ = 30 - i ∧ lv = [some (.ref s), some (.int (nI p)), some (.int y), some (.int (nI i))] ∧ st = [] ∧ C = SqE s σ A R ∧ n = n0 ∧ z = z0 ∧ runl K y p 0 30 = runl K y p i (30 - i), ?_, ?_⟩
    · simp only [b_X5_likeFrom_0, s_psh, s_ild, s_lld, s_ald, s_ist, s_lst, s_ast, s_inc, s_ib, s_ibz, s_iu, s_lb, s_lbz, s_lu, s_ls, s_il, s_li, s_cmp, s_dup, s_pop, s_dup2, s_if1, s_if2, s_ifn, s_cv, s_cs, s_ci, s_oi, s_get, s_put, s_iald, s_lald, s_zald, s_iast, s_last, s_zast, s_alen, s_iret, s_lret, s_aret, s_vret, s_al, gpad, gl, gst, gclr, gc2, gent, gcat, Value.category, List.drop_succ_cons, List.drop_zero, List.take_succ_cons, List.take_zero, List.reverse_cons, List.reverse_nil, List.nil_append, List.cons_append, List.append_nil, List.map_cons, List.map_nil, List.sum_cons, List.sum_nil, List.length_cons, List.length_nil, Option.toList, cond_true, cond_false, Nat.reduceBEq, Nat.reduceAdd, Nat.reduceLeDiff, beq_self_eq_true, true_and, and_true, BEq.rfl, Bool.false_eq_true, if_true, if_false, Sq_0, Sq_1, Sq_2, Sq_3, Sq_4, Sqf_0, Sqf_1, Sqf_2, Sqf_3, Sqf_4, Sqf_5, Sqf_6, Sqs_4, Sqs_5, Sqs_6, Squ_1, Squ_2, Squ_3, Squ_4]
      exact ⟨_, 0, by omega, rfl, rfl, rfl⟩
    · rintro μ lv st C n z ⟨i, hi, rfl, rfl, rfl, rfl, rfl, rfl, hr⟩
      simp only [b_X5_likeFrom_2, b_X5_likeFrom_25, sp_X5_kindAt, s_psh, s_ild, s_lld, s_ald, s_ist, s_lst, s_ast, s_inc, s_ib, s_ibz, s_iu, s_lb, s_lbz, s_lu, s_ls, s_il, s_li, s_cmp, s_dup, s_pop, s_dup2, s_if1, s_if2, s_ifn, s_cv, s_cs, s_ci, s_oi, s_get, s_put, s_iald, s_lald, s_zald, s_iast, s_last, s_zast, s_alen, s_iret, s_lret, s_aret, s_vret, s_al, gpad, gl, gst, gclr, gc2, gent, gcat, Value.category, List.drop_succ_cons, List.drop_zero, List.take_succ_cons, List.take_zero, List.reverse_cons, List.reverse_nil, List.nil_append, List.cons_append, List.append_nil, List.map_cons, List.map_nil, List.sum_cons, List.sum_nil, List.length_cons, List.length_nil, Option.toList, cond_true, cond_false, Nat.reduceBEq, Nat.reduceAdd, Nat.reduceLeDiff, beq_self_eq_true, true_and, and_true, BEq.rfl, Bool.false_eq_true, if_true, if_false, Sq_0, Sq_1, Sq_2, Sq_3, Sq_4, Sqf_0, Sqf_1, Sqf_2, Sqf_3, Sqf_4, Sqf_5, Sqf_6, Sqs_4, Sqs_5, Sqs_6, Squ_1, Squ_2, Squ_3, Squ_4]
      simp (disch := omega) only [true_and, and_true, lit, nI_add, nar_i, nar_0, nar_1, nar_b, fit_i, fit_l, pk_rem, nI_leI, nI_ltI, nI_eq, vin_iff, nI_clamp, nI_m1]
      rw [hr] at hQ
      refine ⟨fun h => ?_, fun h => ⟨K, p + i, 0, hS', hK, sub0 _, by omega, by omega, fun e => ⟨_, ?_, i + 1, by omega, rfl, rfl, ?_⟩, fun e => ?_⟩⟩
      · rw [show 30 - i = 0 by omega] at hQ; exact hQ
      · omega
      · rw [show (p + i + 900 - 0) % 30 = (p + i) % 30 by omega] at e
        rw [hr]
        obtain ⟨f, hf⟩ : ∃ f, 30 - i = f + 1 := ⟨29 - i, by omega⟩
        rw [hf, show 30 - (i + 1) = f by omega]
        simp only [runl, e, if_true]
      · rw [show (p + i + 900 - 0) % 30 = (p + i) % 30 by omega] at e
        obtain ⟨f, hf⟩ : ∃ f, 30 - i = f + 1 := ⟨29 - i, by omega⟩
        rw [hf] at hQ
        simp only [runl, e, if_false] at hQ
        exact hQ
  · exact h.elim
def sp_X5_isMirror : gSp := fun as C n z Q => match as with
  | [.ref s, .int x] => ∃ (K : Nat → Int32) (t : Nat), isSq C s ∧ (∀ j, j < 30 → garr C (s + 1) j = K j) ∧ x = nI t ∧ t < 30 ∧ Q (some (.int (bI (isMirror K t)))) C n z
  | _ => False
set_option maxRecDepth 100000 in
set_option maxHeartbeats 4000000 in
theorem c_X5_isMirror (l : Launch) : Con l yX5_isMirror cX5_isMirror 3 (some .boolean) 2 0 0 sp_X5_isMirror := by
  refine m_X5_isMirror (c_X5_kindAt l) (by decide) ?_
  intro as C0 n0 z0 Q h
  unfold sp_X5_isMirror at h
  split at h
  · rename_i s x
    obtain ⟨K, t, hS, hK, rfl, ht, hQ⟩ := h
    have hS' := hS
    obtain ⟨σ, A, R, rfl⟩ := hS
    refine ⟨Nat.le_of_ble_eq_true rfl, fun pc μ lv st C n z => ∃ i, i ≤ 30 ∧ μ = 30 - i ∧ lv = [some (.ref s), some (.int (nI t)), some (.int (nI i))] ∧ st = [] ∧ C = SqE s σ A R ∧ n = n0 ∧ z = z0 ∧ (∀ p, p < i → K p = K ((t + 30 - p) % 30)), ?_, ?_⟩
    · simp only [b_X5_isMirror_0, s_psh, s_ild, s_lld, s_ald, s_ist, s_lst, s_ast, s_inc, s_ib, s_ibz, s_iu, s_lb, s_lbz, s_lu, s_ls, s_il, s_li, s_cmp, s_dup, s_pop, s_dup2, s_if1, s_if2, s_ifn, s_cv, s_cs, s_ci, s_oi, s_get, s_put, s_iald, s_lald, s_zald, s_iast, s_last, s_zast, s_alen, s_iret, s_lret, s_aret, s_vret, s_al, gpad, gl, gst, gclr, gc2, gent, gcat, Value.category, List.drop_succ_cons, List.drop_zero, List.take_succ_cons, List.take_zero, List.reverse_cons, List.reverse_nil, List.nil_append, List.cons_append, List.append_nil, List.map_cons, List.map_nil, List.sum_cons, List.sum_nil, List.length_cons, List.length_nil, Option.toList, cond_true, cond_false, Nat.reduceBEq, Nat.reduceAdd, Nat.reduceLeDiff, beq_self_eq_true, true_and, and_true, BEq.rfl, Bool.false_eq_true, if_true, if_false, Sq_0, Sq_1, Sq_2, Sq_3, Sq_4, Sqf_0, Sqf_1, Sqf_2, Sqf_3, Sqf_4, Sqf_5, Sqf_6, Sqs_4, Sqs_5, Sqs_6, Squ_1, Squ_2, Squ_3, Squ_4]
      exact ⟨_, 0, by omega, rfl, rfl, fun _ h => absurd h (by omega)⟩
    · rintro μ lv st C n z ⟨i, hi, rfl, rfl, rfl, rfl, rfl, rfl, hall⟩
      simp only [b_X5_isMirror_2, sp_X5_kindAt, s_psh, s_ild, s_lld, s_ald, s_ist, s_lst, s_ast, s_inc, s_ib, s_ibz, s_iu, s_lb, s_lbz, s_lu, s_ls, s_il, s_li, s_cmp, s_dup, s_pop, s_dup2, s_if1, s_if2, s_ifn, s_cv, s_cs, s_ci, s_oi, s_get, s_put, s_iald, s_lald, s_zald, s_iast, s_last, s_zast, s_alen, s_iret, s_lret, s_aret, s_vret, s_al, gpad, gl, gst, gclr, gc2, gent, gcat, Value.category, List.drop_succ_cons, List.drop_zero, List.take_succ_cons, List.take_zero, List.reverse_cons, List.reverse_nil, List.nil_append, List.cons_append, List.append_nil, List.map_cons, List.map_nil, List.sum_cons, List.sum_nil, List.length_cons, List.length_nil, Option.toList, cond_true, cond_false, Nat.reduceBEq, Nat.reduceAdd, Nat.reduceLeDiff, beq_self_eq_true, true_and, and_true, BEq.rfl, Bool.false_eq_true, if_true, if_false, Sq_0, Sq_1, Sq_2, Sq_3, Sq_4, Sqf_0, Sqf_1, Sqf_2, Sqf_3, Sqf_4, Sqf_5, Sqf_6, Sqs_4, Sqs_5, Sqs_6, Squ_1, Squ_2, Squ_3, Squ_4]
      simp (disch := omega) only [true_and, and_true, lit, nI_add, nar_i, nar_0, nar_1, nar_b, fit_i, fit_l, pk_rem, nI_leI, nI_ltI, nI_eq, vin_iff, nI_clamp, nI_m1]
      refine ⟨fun h => ?_, fun h => ⟨K, i, 0, hS', hK, sub0 _, by omega, by omega, K, t, i, hS', hK, rfl, by omega, by omega, fun e => ⟨_, ?_, i + 1, by omega, rfl, rfl, ?_⟩, fun e => ?_⟩⟩
      · rw [bI_t (show isMirror K t from fun p hp => hall p (by omega))] at hQ; exact hQ
      · omega
      · rw [show (i + 900 - 0) % 30 = i by omega, show (t + 900 - i) % 30 = (t + 30 - i) % 30 by omega] at e
        exact lt_s hall e
      · rw [show (i + 900 - 0) % 30 = i by omega, show (t + 900 - i) % 30 = (t + 30 - i) % 30 by omega] at e
        rw [bI_f (fun q : isMirror K t => e (q i (by omega)))] at hQ; exact hQ
  · exact h.elim
def sp_X5_mirrorCount : gSp := fun as C n z Q => match as with
  | [.ref s] => ∃ (K : Nat → Int32), isSq C s ∧ (∀ j, j < 30 → garr C (s + 1) j = K j) ∧ Q (some (.int (nI (howmany (fun m => tt (isMirror K m)) 30)))) C n z
  | _ => False
set_option maxRecDepth 100000 in
set_option maxHeartbeats 4000000 in
theorem c_X5_mirrorCount (l : Launch) : Con l yX5_mirrorCount cX5_mirrorCount 3 (some .int) 3 0 0 sp_X5_mirrorCount := by
  refine m_X5_mirrorCount (c_X5_isMirror l) (by decide) ?_
  intro as C0 n0 z0 Q h
  unfold sp_X5_mirrorCount at h
  split at h
  · rename_i s
    obtain ⟨K, hS, hK, hQ⟩ := h
    have hS' := hS
    obtain ⟨σ, A, R, rfl⟩ := hS
    refine ⟨Nat.le_of_ble_eq_true rfl, fun pc μ lv st C n z => ∃ i, i ≤ 30 ∧ μ = 30 - i ∧ lv = [some (.ref s), some (.int (nI (howmany (fun m => tt (isMirror K m)) i))), some (.int (nI i))] ∧ st = [] ∧ C = SqE s σ A R ∧ n = n0 ∧ z = z0, ?_, ?_⟩
    · simp only [b_X5_mirrorCount_0, s_psh, s_ild, s_lld, s_ald, s_ist, s_lst, s_ast, s_inc, s_ib, s_ibz, s_iu, s_lb, s_lbz, s_lu, s_ls, s_il, s_li, s_cmp, s_dup, s_pop, s_dup2, s_if1, s_if2, s_ifn, s_cv, s_cs, s_ci, s_oi, s_get, s_put, s_iald, s_lald, s_zald, s_iast, s_last, s_zast, s_alen, s_iret, s_lret, s_aret, s_vret, s_al, gpad, gl, gst, gclr, gc2, gent, gcat, Value.category, List.drop_succ_cons, List.drop_zero, List.take_succ_cons, List.take_zero, List.reverse_cons, List.reverse_nil, List.nil_append, List.cons_append, List.append_nil, List.map_cons, List.map_nil, List.sum_cons, List.sum_nil, List.length_cons, List.length_nil, Option.toList, cond_true, cond_false, Nat.reduceBEq, Nat.reduceAdd, Nat.reduceLeDiff, beq_self_eq_true, true_and, and_true, BEq.rfl, Bool.false_eq_true, if_true, if_false, Sq_0, Sq_1, Sq_2, Sq_3, Sq_4, Sqf_0, Sqf_1, Sqf_2, Sqf_3, Sqf_4, Sqf_5, Sqf_6, Sqs_4, Sqs_5, Sqs_6, Squ_1, Squ_2, Squ_3, Squ_4]
      exact ⟨_, 0, by omega, rfl, rfl⟩
    · rintro μ lv st C n z ⟨i, hi, rfl, rfl, rfl, rfl, rfl, rfl⟩
      simp only [b_X5_mirrorCount_4, b_X5_mirrorCount_21, sp_X5_isMirror, s_psh, s_ild, s_lld, s_ald, s_ist, s_lst, s_ast, s_inc, s_ib, s_ibz, s_iu, s_lb, s_lbz, s_lu, s_ls, s_il, s_li, s_cmp, s_dup, s_pop, s_dup2, s_if1, s_if2, s_ifn, s_cv, s_cs, s_ci, s_oi, s_get, s_put, s_iald, s_lald, s_zald, s_iast, s_last, s_zast, s_alen, s_iret, s_lret, s_aret, s_vret, s_al, gpad, gl, gst, gclr, gc2, gent, gcat, Value.category, List.drop_succ_cons, List.drop_zero, List.take_succ_cons, List.take_zero, List.reverse_cons, List.reverse_nil, List.nil_append, List.cons_append, List.append_nil, List.map_cons, List.map_nil, List.sum_cons, List.sum_nil, List.length_cons, List.length_nil, Option.toList, cond_true, cond_false, Nat.reduceBEq, Nat.reduceAdd, Nat.reduceLeDiff, beq_self_eq_true, true_and, and_true, BEq.rfl, Bool.false_eq_true, if_true, if_false, Sq_0, Sq_1, Sq_2, Sq_3, Sq_4, Sqf_0, Sqf_1, Sqf_2, Sqf_3, Sqf_4, Sqf_5, Sqf_6, Sqs_4, Sqs_5, Sqs_6, Squ_1, Squ_2, Squ_3, Squ_4]
      simp (disch := omega) only [true_and, and_true, lit, nI_add, nar_i, nar_0, nar_1, nar_b, fit_i, fit_l, pk_rem, nI_leI, nI_ltI, nI_eq, vin_iff, nI_clamp, nI_m1]
      refine ⟨fun h => ?_, fun h => ⟨K, i, hS', hK, rfl, by omega, fun e => ⟨_, ?_, i + 1, by omega, rfl, ?_⟩, fun e => ⟨_, ?_, i + 1, by omega, rfl, ?_⟩⟩⟩
      · rw [show i = 30 by omega]; exact hQ
      · omega
      · rw [howmany_f (show (fun m => tt (isMirror K m)) i = false from tt_f (bI_0.mp e))]
      · omega
      · rw [howmany_t (show (fun m => tt (isMirror K m)) i = true from tt_t (Classical.not_not.mp fun q => e (bI_0.mpr q)))]
  · exact h.elim
