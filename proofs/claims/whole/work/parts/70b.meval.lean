/-! the reference: a law is asked -/
theorem litI (n : Nat) : (OfNat.ofNat n : Int64) = lI (OfNat.ofNat n : Int) := (Int64.ofInt_eq_ofNat (n := n)).symm
theorem litN (n : Nat) : (-(OfNat.ofNat n) : Int64) = lI (-(OfNat.ofNat n : Int)) := by
  rw [← lI_neg, ← litI]
def bB (b : Bool) : Int32 := if b = true then nI 1 else nI 0
theorem bB_0 {b : Bool} : (bB b = nI 0) = (b = false) := by cases b <;> simp [bB] <;> decide
theorem nar_bB {b : Bool} : (narrow FieldType.boolean (Value.int (bB b)) = Value.int (bB b)) = True := by cases b <;> exact eq_true rfl
theorem vnar_bB {b : Bool} : vp_nar .boolean (bB b) = bB b := by cases b <;> rfl
theorem vnar_0 : vp_nar .boolean (nI 0) = bB false := rfl
theorem vnar_1 : vp_nar .boolean (nI 1) = bB true := rfl
def sp_X12_clip : gSp := fun as C n z Q => match as with
  | [.long v] => ∃ x : Int, v = lI x ∧ -4611686018427387904 ≤ x ∧ x ≤ 4611686018427387904 ∧ Q (some (.long (lI (clipI x)))) C n z
  | _ => False
set_option maxRecDepth 100000 in
theorem c_X12_clip (l : Launch) : Con l yX12_clip cX12_clip 2 (some .long) 0 0 0 sp_X12_clip := by
  refine m_X12_clip ?_
  intro as C0 n0 z0 Q h
  unfold sp_X12_clip at h
  split at h
  · obtain ⟨x, rfl, h1, h2, hQ⟩ := h
    have fin : ∀ v, clipI x = v → Q (some (.long (lI v))) C0 n0 z0 := fun v e => by rw [← e]; exact hQ
    refine ⟨Nat.le_of_ble_eq_true rfl, ?_⟩
    simp only [b_X12_clip_0, b_X12_clip_29, s_psh, s_ild, s_lld, s_ald, s_ist, s_lst, s_ast, s_inc, s_ib, s_ibz, s_iu, s_lb, s_lbz, s_lu, s_ls, s_il, s_li, s_cmp, s_dup, s_pop, s_dup2, s_if1, s_if2, s_ifn, s_cv, s_cs, s_ci, s_oi, s_get, s_put, s_iald, s_lald, s_zald, s_iast, s_last, s_zast, s_alen, s_iret, s_lret, s_aret, s_vret, s_al, gpad, gl, gst, gclr, gc2, gent, gcat, Value.category, List.drop_succ_cons, List.drop_zero, List.take_succ_cons, List.take_zero, List.reverse_cons, List.reverse_nil, List.nil_append, List.cons_append, List.append_nil, List.map_cons, List.map_nil, List.sum_cons, List.sum_nil, List.length_cons, List.length_nil, Option.toList, cond_true, cond_false, Nat.reduceBEq, Nat.reduceAdd, Nat.reduceLeDiff, beq_self_eq_true, true_and, and_true, BEq.rfl, Bool.false_eq_true, if_true, if_false, menc_0, menc_1, menc_2, menc_3, menc_4, menc_5, menc_6, menc_7, menc_8, menc_9, menc_10, menc_11, menc_12, menc_13, menc_14, mf_0, mf_1, mf_2, mf_3, mf_4, mf_5, mf_6, mf_7, mf_8, mf_9, mf_10, mf_11, mf_12, mf_13, mf_14, mf_15, mf_16, mf_17, mf_18, mf_19, mf_20, mf_21, mf_22, mf_23, mf_24, mf_25, mf_26, mf_27, mf_28, mf_29, mf_30, mf_31, ms_4, ms_5, ms_6, ms_7, ms_8, ms_9, ms_10, ms_11, ms_12, ms_13, ms_14, ms_16, ms_17, ms_18, ms_19, ms_23, ms_24, ms_27, mu_1, mu_2, mu_3, mu_4, mu_5, mu_6, mu_7, mu_8, mu_9, mu_10, mu_11, mu_12, mu_13, mu_14]
    simp (disch := omega) only [true_and, and_true, lit, nI_add, nar_i, nar_0, nar_1, nar_b, fit_i, fit_l, pk_rem, nI_leI, nI_ltI, nI_eq, vin_iff, nI_clamp, nI_m1, litI, lI_neg, cmp_le0, cmp_0le, lI_le]
    refine ⟨fun e => ⟨fun e2 => fin _ ?_, fun e2 => fin _ ?_⟩, fun e => fin _ ?_⟩
    · unfold clipI; rw [if_neg (by omega), if_neg (by omega)]
    · unfold clipI; rw [if_neg (by omega), if_pos (by omega)]
    · unfold clipI; rw [if_pos (by omega)]
  · exact h.elim
theorem mul6 {a b : Int} (ha : fits6 a) (hb : fits6 b) : -1000000000000 ≤ a * b ∧ a * b ≤ 1000000000000 := by
  obtain ⟨a1, a2⟩ := ha
  obtain ⟨b1, b2⟩ := hb
  have h : (a * b).natAbs ≤ 1000000 * 1000000 := by
    rw [Int.natAbs_mul]
    exact Nat.mul_le_mul (by omega) (by omega)
  omega
theorem tdiv6 {a b : Int} (ha : fits6 a) : fits6 (a.tdiv b) := by
  obtain ⟨a1, a2⟩ := ha
  have h := Int.natAbs_tdiv_le_natAbs a b
  unfold fits6
  omega
theorem of30 {x y : Int} : ofTwoI 30 x y = clipI (x + y) := if_pos rfl
theorem of31 {x y : Int} : ofTwoI 31 x y = clipI (x - y) := by
  unfold ofTwoI
  rw [if_neg (by decide), if_pos rfl]
theorem of32 {x y : Int} : ofTwoI 32 x y = clipI (x * y) := by
  unfold ofTwoI
  rw [if_neg (by decide), if_neg (by decide), if_pos rfl]
theorem of33 {x y : Int} : ofTwoI 33 x y = if y = 0 then 0 else clipI (x.tdiv y) := by
  unfold ofTwoI
  rw [if_neg (by decide), if_neg (by decide), if_neg (by decide)]
def sp_X12_two : gSp := fun as C n z Q => match as with
  | [.int o, .long v, .long w] => ∃ (c : Nat) (x y : Int), o = nI c ∧ 6 ≤ c ∧ c ≤ 9 ∧ v = lI x ∧ w = lI y ∧ fits6 x ∧ fits6 y ∧ Q (some (.long (lI (ofTwoI (c + 24) x y)))) C n z
  | _ => False
set_option maxRecDepth 100000 in
set_option maxHeartbeats 4000000 in
theorem c_X12_two (l : Launch) : Con l yX12_two cX12_two 5 (some .long) 1 0 0 sp_X12_two := by
  refine m_X12_two (c_X12_clip l) (by decide) ?_
  intro as C0 n0 z0 Q h
  unfold sp_X12_two at h
  split at h
  · obtain ⟨c, x, y, rfl, hc1, hc2, rfl, rfl, hx, hy, hQ⟩ := h
    have fin : ∀ v, ofTwoI (c + 24) x y = v → Q (some (.long (lI v))) C0 n0 z0 := fun v e => by rw [← e]; exact hQ
    refine ⟨Nat.le_of_ble_eq_true rfl, ?_⟩
    have hm := mul6 hx hy
    have hd := tdiv6 (b := y) hx
    have hx' := hx
    have hy' := hy
    unfold fits6 at hx' hy' hd
    simp only [b_X12_two_0, b_X12_two_65, s_sw, List.forall_mem_cons, sp_X12_clip, lI_add, lI_sub, lI_mul, s_psh, s_ild, s_lld, s_ald, s_ist, s_lst, s_ast, s_inc, s_ib, s_ibz, s_iu, s_lb, s_lbz, s_lu, s_ls, s_il, s_li, s_cmp, s_dup, s_pop, s_dup2, s_if1, s_if2, s_ifn, s_cv, s_cs, s_ci, s_oi, s_get, s_put, s_iald, s_lald, s_zald, s_iast, s_last, s_zast, s_alen, s_iret, s_lret, s_aret, s_vret, s_al, gpad, gl, gst, gclr, gc2, gent, gcat, Value.category, List.drop_succ_cons, List.drop_zero, List.take_succ_cons, List.take_zero, List.reverse_cons, List.reverse_nil, List.nil_append, List.cons_append, List.append_nil, List.map_cons, List.map_nil, List.sum_cons, List.sum_nil, List.length_cons, List.length_nil, Option.toList, cond_true, cond_false, Nat.reduceBEq, Nat.reduceAdd, Nat.reduceLeDiff, beq_self_eq_true, true_and, and_true, BEq.rfl, Bool.false_eq_true, if_true, if_false, menc_0, menc_1, menc_2, menc_3, menc_4, menc_5, menc_6, menc_7, menc_8, menc_9, menc_10, menc_11, menc_12, menc_13, menc_14, mf_0, mf_1, mf_2, mf_3, mf_4, mf_5, mf_6, mf_7, mf_8, mf_9, mf_10, mf_11, mf_12, mf_13, mf_14, mf_15, mf_16, mf_17, mf_18, mf_19, mf_20, mf_21, mf_22, mf_23, mf_24, mf_25, mf_26, mf_27, mf_28, mf_29, mf_30, mf_31, ms_4, ms_5, ms_6, ms_7, ms_8, ms_9, ms_10, ms_11, ms_12, ms_13, ms_14, ms_16, ms_17, ms_18, ms_19, ms_23, ms_24, ms_27, mu_1, mu_2, mu_3, mu_4, mu_5, mu_6, mu_7, mu_8, mu_9, mu_10, mu_11, mu_12, mu_13, mu_14]
    simp (disch := omega) only [true_and, and_true, lit, nI_add, nar_i, nar_0, nar_1, nar_b, fit_i, fit_l, pk_rem, nI_leI, nI_ltI, nI_eq, vin_iff, nI_clamp, nI_m1, litI, lcmp_eq, lI_eq, lI_div]
    refine ⟨?_, fun e => ?_⟩
    · refine ⟨fun e => ⟨x + y, rfl, by omega, by omega, fin _ ?_⟩, fun e => ⟨x - y, rfl, by omega, by omega, fin _ ?_⟩, fun e => ⟨x * y, rfl, by omega, by omega, fin _ ?_⟩, fun q hq => by cases hq⟩
      · rw [e]; exact of30
      · rw [e]; exact of31
      · rw [e]; exact of32
    · have e9 : c = 9 := by omega
      refine ⟨fun e => fin _ ?_, fun e => ⟨e, x.tdiv y, rfl, by omega, by omega, fin _ ?_⟩⟩
      · rw [e9]; exact of33.trans (if_pos e)
      · rw [e9]; exact of33.trans (if_neg e)
  · exact h.elim
theorem cm26 {x y : Int} : cmpI 26 x y = decide (x < y) := by
  unfold cmpI
  rw [if_pos rfl]
theorem cm37 {x y : Int} : cmpI 37 x y = decide (x ≤ y) := by
  unfold cmpI
  rw [if_neg (by decide), if_pos rfl]
theorem cm27 {x y : Int} : cmpI 27 x y = decide (y < x) := by
  unfold cmpI
  rw [if_neg (by decide), if_neg (by decide), if_pos rfl]
theorem cm38 {x y : Int} : cmpI 38 x y = decide (y ≤ x) := by
  unfold cmpI
  rw [if_neg (by decide), if_neg (by decide), if_neg (by decide), if_pos rfl]
theorem cm28 {x y : Int} : cmpI 28 x y = decide (x = y) := by
  unfold cmpI
  rw [if_neg (by decide), if_neg (by decide), if_neg (by decide), if_neg (by decide), if_pos rfl]
theorem cm29 {x y : Int} : cmpI 29 x y = decide (x ≠ y) := by
  unfold cmpI
  rw [if_neg (by decide), if_neg (by decide), if_neg (by decide), if_neg (by decide), if_neg (by decide)]
def sp_X12_isAsked : gSp := fun as C n z Q => match as with
  | [.int o, .long v, .long w] => ∃ (c : Nat) (x y : Int), o = nI c ∧ 10 ≤ c ∧ c < 20 ∧ v = lI x ∧ w = lI y ∧ fits6 x ∧ fits6 y ∧ Q (some (.int (bB (cmpI (if c = 10 then 26 else if c = 11 then 37 else if c = 12 then 27 else if c = 13 then 38 else if c = 14 then 28 else 29) x y)))) C n z
  | _ => False
set_option maxRecDepth 100000 in
set_option maxHeartbeats 4000000 in
theorem c_X12_isAsked (l : Launch) : Con l yX12_isAsked cX12_isAsked 5 (some .boolean) 0 0 0 sp_X12_isAsked := by
  refine m_X12_isAsked ?_
  intro as C0 n0 z0 Q h
  unfold sp_X12_isAsked at h
  split at h
  · obtain ⟨c, x, y, rfl, hc1, hc2, rfl, rfl, hx, hy, hQ⟩ := h
    have t1 : cmpI (if c = 10 then 26 else if c = 11 then 37 else if c = 12 then 27 else if c = 13 then 38 else if c = 14 then 28 else 29) x y = true → Q (some (.int (nI 1))) C0 n0 z0 := fun e => by rw [e] at hQ; exact hQ
    have t0 : cmpI (if c = 10 then 26 else if c = 11 then 37 else if c = 12 then 27 else if c = 13 then 38 else if c = 14 then 28 else 29) x y = false → Q (some (.int (nI 0))) C0 n0 z0 := fun e => by rw [e] at hQ; exact hQ
    refine ⟨Nat.le_of_ble_eq_true rfl, ?_⟩
    unfold fits6 at hx hy
    simp only [b_X12_isAsked_0, b_X12_isAsked_111, s_psh, s_ild, s_lld, s_ald, s_ist, s_lst, s_ast, s_inc, s_ib, s_ibz, s_iu, s_lb, s_lbz, s_lu, s_ls, s_il, s_li, s_cmp, s_dup, s_pop, s_dup2, s_if1, s_if2, s_ifn, s_cv, s_cs, s_ci, s_oi, s_get, s_put, s_iald, s_lald, s_zald, s_iast, s_last, s_zast, s_alen, s_iret, s_lret, s_aret, s_vret, s_al, gpad, gl, gst, gclr, gc2, gent, gcat, Value.category, List.drop_succ_cons, List.drop_zero, List.take_succ_cons, List.take_zero, List.reverse_cons, List.reverse_nil, List.nil_append, List.cons_append, List.append_nil, List.map_cons, List.map_nil, List.sum_cons, List.sum_nil, List.length_cons, List.length_nil, Option.toList, cond_true, cond_false, Nat.reduceBEq, Nat.reduceAdd, Nat.reduceLeDiff, beq_self_eq_true, true_and, and_true, BEq.rfl, Bool.false_eq_true, if_true, if_false, menc_0, menc_1, menc_2, menc_3, menc_4, menc_5, menc_6, menc_7, menc_8, menc_9, menc_10, menc_11, menc_12, menc_13, menc_14, mf_0, mf_1, mf_2, mf_3, mf_4, mf_5, mf_6, mf_7, mf_8, mf_9, mf_10, mf_11, mf_12, mf_13, mf_14, mf_15, mf_16, mf_17, mf_18, mf_19, mf_20, mf_21, mf_22, mf_23, mf_24, mf_25, mf_26, mf_27, mf_28, mf_29, mf_30, mf_31, ms_4, ms_5, ms_6, ms_7, ms_8, ms_9, ms_10, ms_11, ms_12, ms_13, ms_14, ms_16, ms_17, ms_18, ms_19, ms_23, ms_24, ms_27, mu_1, mu_2, mu_3, mu_4, mu_5, mu_6, mu_7, mu_8, mu_9, mu_10, mu_11, mu_12, mu_13, mu_14]
    simp (disch := omega) only [true_and, and_true, lit, nI_add, nar_i, nar_0, nar_1, nar_b, fit_i, fit_l, pk_rem, nI_leI, nI_ltI, nI_eq, vin_iff, nI_clamp, nI_m1, cmp_le0, cmp_0le, cmp_lt0, cmp_0lt, lcmp_eq, lI_eq, lI_lt, lI_le]
    refine ⟨fun e => ⟨fun q => t0 ?_, fun q => t1 ?_⟩, fun e1 => ⟨fun e => ⟨fun q => t0 ?_, fun q => t1 ?_⟩, fun e2 => ⟨fun e => ⟨fun q => t0 ?_, fun q => t1 ?_⟩, fun e3 => ⟨fun e => ⟨fun q => t0 ?_, fun q => t1 ?_⟩, fun e4 => ⟨fun e => ⟨fun q => t1 ?_, fun q => t0 ?_⟩, fun e5 => ⟨fun q => t0 ?_, fun q => t1 ?_⟩⟩⟩⟩⟩⟩
    · rw [if_pos e, cm26]; exact decide_eq_false (by omega)
    · rw [if_pos e, cm26]; exact decide_eq_true (by omega)
    · rw [if_neg e1, if_pos e, cm37]; exact decide_eq_false (by omega)
    · rw [if_neg e1, if_pos e, cm37]; exact decide_eq_true (by omega)
    · rw [if_neg e1, if_neg e2, if_pos e, cm27]; exact decide_eq_false (by omega)
    · rw [if_neg e1, if_neg e2, if_pos e, cm27]; exact decide_eq_true (by omega)
    · rw [if_neg e1, if_neg e2, if_neg e3, if_pos e, cm38]; exact decide_eq_false (by omega)
    · rw [if_neg e1, if_neg e2, if_neg e3, if_pos e, cm38]; exact decide_eq_true (by omega)
    · rw [if_neg e1, if_neg e2, if_neg e3, if_neg e4, if_pos e, cm28]; exact decide_eq_true q
    · rw [if_neg e1, if_neg e2, if_neg e3, if_neg e4, if_pos e, cm28]; exact decide_eq_false q
    · rw [if_neg e1, if_neg e2, if_neg e3, if_neg e4, if_neg e5, cm29]; exact decide_eq_false (fun r => r q)
    · rw [if_neg e1, if_neg e2, if_neg e3, if_neg e4, if_neg e5, cm29]; exact decide_eq_true q
  · exact h.elim
def sp_X12_kindAt : gSp := fun as C n z Q => match as with
  | [.ref m, .long v] => ∃ σ w A L R, ∃ (κ : Nat → Int) (x : Int), C = menc m σ w A L R ∧ (∀ j, j < 30 → A 1 (9 + j) = iI (κ j)) ∧ (∀ j, fits6 (κ j)) ∧ v = lI x ∧ fits6 x ∧ Q (some (.long (lI (kndI κ x)))) C n z
  | _ => False
theorem iI_nat {x : Int} (h : 0 ≤ x) : iI x = nI x.toNat := by
  rw [nI_iI, Int.toNat_of_nonneg h]
set_option maxRecDepth 100000 in
set_option maxHeartbeats 4000000 in
theorem c_X12_kindAt (l : Launch) : Con l yX12_kindAt cX12_kindAt 3 (some .long) 0 0 0 sp_X12_kindAt := by
  refine m_X12_kindAt ?_
  intro as C0 n0 z0 Q h
  unfold sp_X12_kindAt at h
  split at h
  · obtain ⟨σ, w, A, L, R, κ, x, rfl, hκ, hf, rfl, hx, hQ⟩ := h
    have fin : ∀ v, kndI κ x = v → Q (some (.long (lI v))) _ n0 z0 := fun v e => by rw [← e]; exact hQ
    refine ⟨Nat.le_of_ble_eq_true rfl, ?_⟩
    unfold fits6 at hx
    simp only [b_X12_kindAt_0, b_X12_kindAt_28, b_X12_kindAt_29, s_psh, s_ild, s_lld, s_ald, s_ist, s_lst, s_ast, s_inc, s_ib, s_ibz, s_iu, s_lb, s_lbz, s_lu, s_ls, s_il, s_li, s_cmp, s_dup, s_pop, s_dup2, s_if1, s_if2, s_ifn, s_cv, s_cs, s_ci, s_oi, s_get, s_put, s_iald, s_lald, s_zald, s_iast, s_last, s_zast, s_alen, s_iret, s_lret, s_aret, s_vret, s_al, gpad, gl, gst, gclr, gc2, gent, gcat, Value.category, List.drop_succ_cons, List.drop_zero, List.take_succ_cons, List.take_zero, List.reverse_cons, List.reverse_nil, List.nil_append, List.cons_append, List.append_nil, List.map_cons, List.map_nil, List.sum_cons, List.sum_nil, List.length_cons, List.length_nil, Option.toList, cond_true, cond_false, Nat.reduceBEq, Nat.reduceAdd, Nat.reduceLeDiff, beq_self_eq_true, true_and, and_true, BEq.rfl, Bool.false_eq_true, if_true, if_false, menc_0, menc_1, menc_2, menc_3, menc_4, menc_5, menc_6, menc_7, menc_8, menc_9, menc_10, menc_11, menc_12, menc_13, menc_14, mf_0, mf_1, mf_2, mf_3, mf_4, mf_5, mf_6, mf_7, mf_8, mf_9, mf_10, mf_11, mf_12, mf_13, mf_14, mf_15, mf_16, mf_17, mf_18, mf_19, mf_20, mf_21, mf_22, mf_23, mf_24, mf_25, mf_26, mf_27, mf_28, mf_29, mf_30, mf_31, ms_4, ms_5, ms_6, ms_7, ms_8, ms_9, ms_10, ms_11, ms_12, ms_13, ms_14, ms_16, ms_17, ms_18, ms_19, ms_23, ms_24, ms_27, mu_1, mu_2, mu_3, mu_4, mu_5, mu_6, mu_7, mu_8, mu_9, mu_10, mu_11, mu_12, mu_13, mu_14]
    simp (disch := omega) only [true_and, and_true, lit, nI_add, nar_i, nar_0, nar_1, nar_b, fit_i, fit_l, pk_rem, nI_leI, nI_ltI, nI_eq, vin_iff, nI_clamp, nI_m1, litI, cmp_0le, cmp_lt0, lI_lt, lI_le, lI_i]
    refine ⟨fun e => fin _ ?_, fun e => ⟨fun e2 => fin _ ?_, fun e2 => ?_⟩⟩
    · unfold kndI; rw [if_neg (by omega)]
    · unfold kndI; rw [if_neg (by omega)]
    · have hk := hf x.toNat
      unfold fits6 at hk
      rw [iI_nat (by omega)]
      simp (disch := omega) only [true_and, and_true, lit, nI_add, nar_i, nar_0, nar_1, nar_b, fit_i, fit_l, pk_rem, nI_leI, nI_ltI, nI_eq, vin_iff, nI_clamp, nI_m1, hκ, iI_l]
      refine ⟨by omega, fin _ ?_⟩
      unfold kndI; rw [if_pos (by omega)]
  · exact h.elim
def sp_X12_roundOf : gSp := fun as C n z Q => match as with
  | [.long v, .long u] => ∃ (x y : Int), v = lI x ∧ u = lI y ∧ fits6 x ∧ fits6 y ∧ Q (some (.long (lI (rndI x y)))) C n z
  | _ => False
theorem tmod_b {a b : Int} (ha : fits6 a) (hb : 0 < b) : -1000000 ≤ a.tmod b ∧ a.tmod b ≤ 1000000 := by
  have h : (a.tmod b).natAbs ≤ a.natAbs := by
    rw [Int.natAbs_tmod]
    exact Nat.mod_le _ _
  unfold fits6 at ha
  omega
set_option maxRecDepth 100000 in
set_option maxHeartbeats 4000000 in
theorem c_X12_roundOf (l : Launch) : Con l yX12_roundOf cX12_roundOf 4 (some .long) 0 0 0 sp_X12_roundOf := by
  refine m_X12_roundOf ?_
  intro as C0 n0 z0 Q h
  unfold sp_X12_roundOf at h
  split at h
  · obtain ⟨x, y, rfl, rfl, hx, hy, hQ⟩ := h
    have fin : ∀ v, rndI x y = v → Q (some (.long (lI v))) _ n0 z0 := fun v e => by rw [← e]; exact hQ
    refine ⟨Nat.le_of_ble_eq_true rfl, ?_⟩
    have hx' := hx
    have hy' := hy
    unfold fits6 at hx' hy'
    simp only [b_X12_roundOf_0, b_X12_roundOf_17, s_psh, s_ild, s_lld, s_ald, s_ist, s_lst, s_ast, s_inc, s_ib, s_ibz, s_iu, s_lb, s_lbz, s_lu, s_ls, s_il, s_li, s_cmp, s_dup, s_pop, s_dup2, s_if1, s_if2, s_ifn, s_cv, s_cs, s_ci, s_oi, s_get, s_put, s_iald, s_lald, s_zald, s_iast, s_last, s_zast, s_alen, s_iret, s_lret, s_aret, s_vret, s_al, gpad, gl, gst, gclr, gc2, gent, gcat, Value.category, List.drop_succ_cons, List.drop_zero, List.take_succ_cons, List.take_zero, List.reverse_cons, List.reverse_nil, List.nil_append, List.cons_append, List.append_nil, List.map_cons, List.map_nil, List.sum_cons, List.sum_nil, List.length_cons, List.length_nil, Option.toList, cond_true, cond_false, Nat.reduceBEq, Nat.reduceAdd, Nat.reduceLeDiff, beq_self_eq_true, true_and, and_true, BEq.rfl, Bool.false_eq_true, if_true, if_false, menc_0, menc_1, menc_2, menc_3, menc_4, menc_5, menc_6, menc_7, menc_8, menc_9, menc_10, menc_11, menc_12, menc_13, menc_14, mf_0, mf_1, mf_2, mf_3, mf_4, mf_5, mf_6, mf_7, mf_8, mf_9, mf_10, mf_11, mf_12, mf_13, mf_14, mf_15, mf_16, mf_17, mf_18, mf_19, mf_20, mf_21, mf_22, mf_23, mf_24, mf_25, mf_26, mf_27, mf_28, mf_29, mf_30, mf_31, ms_4, ms_5, ms_6, ms_7, ms_8, ms_9, ms_10, ms_11, ms_12, ms_13, ms_14, ms_16, ms_17, ms_18, ms_19, ms_23, ms_24, ms_27, mu_1, mu_2, mu_3, mu_4, mu_5, mu_6, mu_7, mu_8, mu_9, mu_10, mu_11, mu_12, mu_13, mu_14]
    simp (disch := omega) only [true_and, and_true, lit, nI_add, nar_i, nar_0, nar_1, nar_b, fit_i, fit_l, pk_rem, nI_leI, nI_ltI, nI_eq, vin_iff, nI_clamp, nI_m1, litI, cmp_0lt, lI_lt, lI_eq, lI_rem]
    refine ⟨fun e => ⟨by omega, ?_⟩, fun e => fin _ ?_⟩
    · have hb := tmod_b (b := y) hx e
      simp (disch := omega) only [lI_add, lI_rem]
      refine ⟨by omega, fin _ ?_⟩
      unfold rndI; rw [if_neg (by omega)]
    · unfold rndI; rw [if_pos (by omega)]
  · exact h.elim
def sp_X12_joined : gSp := fun as C n z Q => match as with
  | [.int o, .int v, .int u] => ∃ (c : Nat) (p q : Bool), o = nI c ∧ c < 100 ∧ v = bB p ∧ u = bB q ∧ Q (some (.int (bB (if c = 21 then p && q else p || q)))) C n z
  | _ => False
set_option maxRecDepth 100000 in
theorem c_X12_joined (l : Launch) : Con l yX12_joined cX12_joined 3 (some .boolean) 0 0 0 sp_X12_joined := by
  refine m_X12_joined ?_
  intro as C0 n0 z0 Q h
  unfold sp_X12_joined at h
  split at h
  · obtain ⟨c, p, q, rfl, hc, rfl, rfl, hQ⟩ := h
    have t1 : (if c = 21 then p && q else p || q) = true → Q (some (.int (nI 1))) C0 n0 z0 := fun e => by rw [e] at hQ; exact hQ
    have t0 : (if c = 21 then p && q else p || q) = false → Q (some (.int (nI 0))) C0 n0 z0 := fun e => by rw [e] at hQ; exact hQ
    refine ⟨Nat.le_of_ble_eq_true rfl, ?_⟩
    simp only [b_X12_joined_0, b_X12_joined_18, b_X12_joined_30, b_X12_joined_35, s_psh, s_ild, s_lld, s_ald, s_ist, s_lst, s_ast, s_inc, s_ib, s_ibz, s_iu, s_lb, s_lbz, s_lu, s_ls, s_il, s_li, s_cmp, s_dup, s_pop, s_dup2, s_if1, s_if2, s_ifn, s_cv, s_cs, s_ci, s_oi, s_get, s_put, s_iald, s_lald, s_zald, s_iast, s_last, s_zast, s_alen, s_iret, s_lret, s_aret, s_vret, s_al, gpad, gl, gst, gclr, gc2, gent, gcat, Value.category, List.drop_succ_cons, List.drop_zero, List.take_succ_cons, List.take_zero, List.reverse_cons, List.reverse_nil, List.nil_append, List.cons_append, List.append_nil, List.map_cons, List.map_nil, List.sum_cons, List.sum_nil, List.length_cons, List.length_nil, Option.toList, cond_true, cond_false, Nat.reduceBEq, Nat.reduceAdd, Nat.reduceLeDiff, beq_self_eq_true, true_and, and_true, BEq.rfl, Bool.false_eq_true, if_true, if_false, menc_0, menc_1, menc_2, menc_3, menc_4, menc_5, menc_6, menc_7, menc_8, menc_9, menc_10, menc_11, menc_12, menc_13, menc_14, mf_0, mf_1, mf_2, mf_3, mf_4, mf_5, mf_6, mf_7, mf_8, mf_9, mf_10, mf_11, mf_12, mf_13, mf_14, mf_15, mf_16, mf_17, mf_18, mf_19, mf_20, mf_21, mf_22, mf_23, mf_24, mf_25, mf_26, mf_27, mf_28, mf_29, mf_30, mf_31, ms_4, ms_5, ms_6, ms_7, ms_8, ms_9, ms_10, ms_11, ms_12, ms_13, ms_14, ms_16, ms_17, ms_18, ms_19, ms_23, ms_24, ms_27, mu_1, mu_2, mu_3, mu_4, mu_5, mu_6, mu_7, mu_8, mu_9, mu_10, mu_11, mu_12, mu_13, mu_14]
    simp (disch := omega) only [true_and, and_true, lit, nI_add, nar_i, nar_0, nar_1, nar_b, fit_i, fit_l, pk_rem, nI_leI, nI_ltI, nI_eq, vin_iff, nI_clamp, nI_m1, bB_0]
    refine ⟨fun e => ⟨fun a => t0 ?_, fun a => ⟨fun b => t0 ?_, fun b => t1 ?_⟩⟩, fun e => ⟨fun a => ⟨fun b => t0 ?_, fun b => t1 ?_⟩, fun a => t1 ?_⟩⟩
    all_goals first | rw [if_pos e] | rw [if_neg e]
    all_goals clear t0 t1 hQ
    all_goals (cases p <;> cases q <;> first | rfl | (exact absurd rfl a) | (exact absurd rfl b) | (cases a; done) | (cases b; done))
  · exact h.elim
/-- the values that wait, the last first -/
def vsM (f : Nat → Int64) : List Int → Prop
  | [] => True
  | x :: vs => f vs.length = lI x ∧ fits6 x ∧ vsM f vs
theorem vs_upd {f : Nat → Int64} {k : Nat} {v : Int64} : ∀ {L : List Int}, L.length ≤ k → vsM f L → vsM (vp_updL f k v) L
  | [], _, _ => trivial
  | p :: L, hk, h => by
    simp only [List.length_cons] at hk
    exact ⟨by rw [pk_uLn (by omega)]; exact h.1, h.2.1, vs_upd (by omega) h.2.2⟩
theorem vs_push {f : Nat → Int64} {k : Nat} {x : Int} {L : List Int} (hk : L.length = k) (hx : fits6 x) (h : vsM f L) : vsM (vp_updL f k (lI x)) (x :: L) :=
  ⟨by rw [hk]; exact pk_uLs, hx, vs_upd (by omega) h⟩
def bsM (f : Nat → Int32) : List Bool → Prop
  | [] => True
  | x :: vs => f vs.length = bB x ∧ bsM f vs
theorem bs_upd {f : Nat → Int32} {k : Nat} {v : Int32} : ∀ {L : List Bool}, L.length ≤ k → bsM f L → bsM (upd f k v) L
  | [], _, _ => trivial
  | p :: L, hk, h => by
    simp only [List.length_cons] at hk
    exact ⟨by rw [pk_un (by omega)]; exact h.1, bs_upd (by omega) h.2⟩
theorem bs_push {f : Nat → Int32} {k : Nat} {x : Bool} {L : List Bool} (hk : L.length = k) (h : bsM f L) : bsM (upd f k (bB x)) (x :: L) :=
  ⟨by rw [hk]; exact pk_us, bs_upd (by omega) h⟩
section STE
variable {ν κ : Nat → Int} {c : Nat × Int} {vs : List Int} {bs : List Bool} {s : List Int × List Bool}
theorem stE_leaf (h : stE ν κ c (vs, bs) = some s) (hc : c.1 ≤ 1) : s = ((if c.1 = 0 then c.2 else ν c.2.toNat) :: vs, bs) := by
  unfold stE at h
  rw [if_pos hc] at h
  exact (Option.some.inj h).symm
theorem stE_sel (h : stE ν κ c (vs, bs) = some s) (hc : c.1 = 3) : ∃ y x vs' b bs', vs = y :: x :: vs' ∧ bs = b :: bs' ∧ s = ((if b = true then x else y) :: vs', bs') := by
  unfold stE at h
  rw [if_neg (by omega), if_pos hc] at h
  split at h
  · rename_i y x vs' b bs' e1 e2
    exact ⟨y, x, vs', b, bs', e1, e2, (Option.some.inj h).symm⟩
  · cases h
theorem stE_un (h : stE ν κ c (vs, bs) = some s) (hc : c.1 = 5 ∨ c.1 = 2) : ∃ x vs', vs = x :: vs' ∧ s = ((if c.1 = 5 then -x else kndI κ x) :: vs', bs) := by
  unfold stE at h
  rw [if_neg (by omega), if_neg (by omega), if_pos hc] at h
  split at h
  · rename_i x vs' e1
    exact ⟨x, vs', e1, (Option.some.inj h).symm⟩
  · cases h
theorem stE_bin (h : stE ν κ c (vs, bs) = some s) (h1 : ¬ c.1 ≤ 1) (h3 : c.1 ≠ 3) (h5 : ¬ (c.1 = 5 ∨ c.1 = 2)) (hc : c.1 < 10) : ∃ y x vs', vs = y :: x :: vs' ∧ s = ((if c.1 = 4 then rndI x y else ofTwoI (c.1 + 24) x y) :: vs', bs) := by
  unfold stE at h
  rw [if_neg h1, if_neg h3, if_neg h5, if_pos hc] at h
  split at h
  · rename_i y x vs' e1
    exact ⟨y, x, vs', e1, (Option.some.inj h).symm⟩
  · cases h
theorem stE_cmp (h : stE ν κ c (vs, bs) = some s) (hc : ¬ c.1 < 10) (hc2 : c.1 < 20) : ∃ y x vs', vs = y :: x :: vs' ∧ s = (vs', cmpI (if c.1 = 10 then 26 else if c.1 = 11 then 37 else if c.1 = 12 then 27 else if c.1 = 13 then 38 else if c.1 = 14 then 28 else 29) x y :: bs) := by
  unfold stE at h
  rw [if_neg (by omega), if_neg (by omega), if_neg (by omega), if_neg hc, if_pos hc2] at h
  split at h
  · rename_i y x vs' e1
    exact ⟨y, x, vs', e1, (Option.some.inj h).symm⟩
  · cases h
theorem stE_not (h : stE ν κ c (vs, bs) = some s) (hc : c.1 = 20) : ∃ b bs', bs = b :: bs' ∧ s = (vs, (!b) :: bs') := by
  unfold stE at h
  rw [if_neg (by omega), if_neg (by omega), if_neg (by omega), if_neg (by omega), if_neg (by omega), if_pos hc] at h
  split at h
  · rename_i b bs' e1
    exact ⟨b, bs', e1, (Option.some.inj h).symm⟩
  · cases h
theorem stE_jn (h : stE ν κ c (vs, bs) = some s) (hc : 20 < c.1) : ∃ b a bs', bs = b :: a :: bs' ∧ s = (vs, (if c.1 = 21 then a && b else a || b) :: bs') := by
  unfold stE at h
  rw [if_neg (by omega), if_neg (by omega), if_neg (by omega), if_neg (by omega), if_neg (by omega), if_neg (by omega)] at h
  split at h
  · rename_i b a bs' e1
    exact ⟨b, a, bs', e1, (Option.some.inj h).symm⟩
  · cases h
theorem evE_cons {cs : List (Nat × Int)} {s0 t : List Int × List Bool} (h : evE ν κ (c :: cs) s0 = some t) : ∃ s, stE ν κ c s0 = some s ∧ evE ν κ cs s = some t := by
  have h' : (match stE ν κ c s0 with
      | some s' => evE ν κ cs s'
      | none => none) = some t := h
  cases e : stE ν κ c s0 with
  | none => rw [e] at h'; cases h'
  | some s' => rw [e] at h'; exact ⟨s', rfl, h'⟩
end STE
