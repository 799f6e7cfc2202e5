/-! the reference: children, powers, divisors, bits, copies -/
theorem sup_same {α : Type} {f : Nat → α} {k : Nat} {v : α} : sup f k v k = v := if_pos rfl
theorem sup_sup {α : Type} {f : Nat → α} {k : Nat} {v w : α} : sup (sup f k v) k w = sup f k w := by
  funext j
  unfold sup
  split <;> rfl
theorem gup_same {C : gC} {a : Nat} {x : gE} : gup C a x a = some x := if_pos rfl
theorem gup_ne {C : gC} {a q : Nat} {x : gE} (h : ¬ q = a) : gup C a x q = C q := if_neg h
theorem gup_gup {C : gC} {a : Nat} {x y : gE} : gup (gup C a x) a y = gup C a y := by
  funext j
  unfold gup
  split <;> rfl
def mNum (C : gC) (m : Nat) : Nat → Int32 := fun j => garr C (m + 1) (69 + j)
theorem mNum_e {m : Nat} {σ : Nat → Int32} {w : Int64} {A : Nat → Nat → Int32} {L : Nat → Nat → Int64} {R : gC} : mNum (menc m σ w A L R) m = fun j => A 1 (69 + j) := by
  funext j
  simp only [mNum, ma_1]
noncomputable def grF (num : Nat → Int32) : Nat → Int32
  | 0 => -nI 1
  | i + 1 => pif (¬ num i = -nI 1 ∧ (grF num i = -nI 1 ∨ num (grF num i).toNatClampNeg < num i)) (nI i) (grF num i)
theorem grF_in (num : Nat → Int32) : ∀ i, grF num i = -nI 1 ∨ ∃ f, f < i ∧ grF num i = nI f
  | 0 => Or.inl rfl
  | i + 1 => by
    unfold grF
    by_cases h : ¬ num i = -nI 1 ∧ (grF num i = -nI 1 ∨ num (grF num i).toNatClampNeg < num i)
    · rw [pif_t h]; exact Or.inr ⟨i, by omega, rfl⟩
    · rw [pif_f h]
      rcases grF_in num i with q | ⟨f, q1, q2⟩
      · exact Or.inl q
      · exact Or.inr ⟨f, by omega, q2⟩
/-- of those behind c, how many are like c -/
def twC (num : Nat → Int32) (c : Nat) : Nat → Nat := howmany fun d => decide (c < d) && (!decide (num c = -nI 1) && decide (num c = num d))
def twF (num : Nat → Int32) (k : Nat) : Nat → Nat
  | 0 => 0
  | c + 1 => twF num k c + twC num c k
theorem twC_0 (num : Nat → Int32) (c : Nat) : ∀ d, d ≤ c + 1 → twC num c d = 0
  | 0, _ => rfl
  | d + 1, h => by
    have h0 := twC_0 num c d (by omega)
    unfold twC at h0 ⊢
    rw [howmany_f (by simp; omega), h0]
theorem twF_le (num : Nat → Int32) (k : Nat) : ∀ c, twF num k c ≤ c * k
  | 0 => by simp [twF]
  | c + 1 => by
    have := twF_le num k c
    have h2 := howmany_le (fun d => decide (c < d) && (!decide (num c = -nI 1) && decide (num c = num d))) k
    unfold twF twC
    rw [Nat.succ_mul]
    omega
def popc (v : Nat) : Nat := howmany (fun j => v.testBit j) 12
theorem by64 {P : Nat → Prop} (h : ∀ a, a < 64 → ∀ b, b < 64 → P (64 * a + b)) : ∀ v, v < 4096 → P v := fun v hv => by
  have := h (v / 64) (by omega) (v % 64) (by omega)
  rwa [show 64 * (v / 64) + v % 64 = v by omega] at this
theorem popc_s : ∀ v, v < 4096 → 0 < v → popc (v &&& (v - 1)) + 1 = popc v := by64 (by decide +kernel)
theorem and_lt : ∀ v, v < 4096 → 0 < v → v &&& (v - 1) < v := by64 (by decide +kernel)
theorem nI_and (a b : Nat) : nI a &&& nI b = nI (a &&& b) := by
  apply Int32.toBitVec_inj.mp
  show (BitVec.ofNat 32 a) &&& (BitVec.ofNat 32 b) = BitVec.ofNat 32 (a &&& b)
  apply BitVec.eq_of_getLsbD_eq
  intro i hi
  simp [Nat.testBit_and, hi]
theorem lcmp0 {n : Nat} (h : n < 2 ^ 63) : (lg_cmp (lN n) (lN 0) = nI 0) = (n = 0) := by
  unfold lg_cmp
  by_cases hn : n = 0
  · subst hn
    exact propext ⟨fun _ => rfl, fun _ => by decide⟩
  · refine propext ⟨fun e => ?_, fun e => absurd e hn⟩
    exfalso
    have h1 : ¬ lN n = lN 0 := fun q => hn ((pk_lEQ h (by decide)).mp q)
    have h2 : ¬ lN n < lN 0 := fun q => absurd ((pk_lLT h (by decide)).mp q) (by omega)
    have h3 : lN 0 < lN n := (pk_lLT (by decide) h).mpr (by omega)
    revert e
    simp [h1, h2, h3, lit]
    try decide
theorem lmul (a b : Nat) : lN a * lN b = lN (a * b) := lN_mul a b

def sp_X12_numberless : gSp := fun as C n z Q => match as with
  | [.ref m] => isM C m ∧ vp_in (garr C (m + 1) 0) 8 ∧ Q (some (.int (obits (fun c => decide (mNum C m c = -nI 1)) (garr C (m + 1) 0).toNatClampNeg))) C n z
  | _ => False
set_option maxRecDepth 100000 in
set_option maxHeartbeats 4000000 in
theorem c_X12_numberless (l : Launch) : Con l yX12_numberless cX12_numberless 3 (some .int) 0 0 0 sp_X12_numberless := by
  refine m_X12_numberless ?_
  intro as C0 n0 z0 Q h
  unfold sp_X12_numberless at h
  split at h
  · rename_i m
    obtain ⟨⟨σ, w, A, L, R, rfl⟩, hx, hQ⟩ := h
    simp only [ma_1, mNum_e] at hx hQ
    obtain ⟨c, hc, hA⟩ := vp_in_of hx (by decide)
    rw [hA] at hQ
    simp (disch := omega) only [nI_clamp] at hQ
    refine ⟨Nat.le_of_ble_eq_true rfl, fun pc μ lv st C n z => ∃ i, i ≤ c ∧ μ = c - i ∧ lv = [some (.ref m), some (.int (obits (fun c => decide (A 1 (69 + c) = -nI 1)) i)), some (.int (nI i))] ∧ st = [] ∧ C = menc m σ w A L R ∧ n = n0 ∧ z = z0, ?_, ?_⟩
    · simp only [b_X12_numberless_0, s_psh, s_ild, s_lld, s_ald, s_ist, s_lst, s_ast, s_inc, s_ib, s_ibz, s_iu, s_lb, s_lbz, s_lu, s_ls, s_il, s_li, s_cmp, s_dup, s_pop, s_dup2, s_if1, s_if2, s_ifn, s_cv, s_cs, s_ci, s_oi, s_get, s_put, s_iald, s_lald, s_zald, s_iast, s_last, s_zast, s_alen, s_iret, s_lret, s_aret, s_vret, s_al, gpad, gl, gst, gclr, gc2, gent, gcat, Value.category, List.drop_succ_cons, List.drop_zero, List.take_succ_cons, List.take_zero, List.reverse_cons, List.reverse_nil, List.nil_append, List.cons_append, List.append_nil, List.map_cons, List.map_nil, List.sum_cons, List.sum_nil, List.length_cons, List.length_nil, Option.toList, cond_true, cond_false, Nat.reduceBEq, Nat.reduceAdd, Nat.reduceLeDiff, beq_self_eq_true, true_and, and_true, BEq.rfl, Bool.false_eq_true, if_true, if_false, menc_0, menc_1, menc_2, menc_3, menc_4, menc_5, menc_6, menc_7, menc_8, menc_9, menc_10, menc_11, menc_12, menc_13, menc_14, mf_0, mf_1, mf_2, mf_3, mf_4, mf_5, mf_6, mf_7, mf_8, mf_9, mf_10, mf_11, mf_12, mf_13, mf_14, mf_15, mf_16, mf_17, mf_18, mf_19, mf_20, mf_21, mf_22, mf_23, mf_24, mf_25, mf_26, mf_27, mf_28, mf_29, mf_30, mf_31, ms_4, ms_5, ms_6, ms_7, ms_8, ms_9, ms_10, ms_11, ms_12, ms_13, ms_14, ms_16, ms_17, ms_18, ms_19, ms_23, ms_24, ms_27, mu_1, mu_2, mu_3, mu_4, mu_5, mu_6, mu_7, mu_8, mu_9, mu_10, mu_11, mu_12, mu_13, mu_14]
      exact ⟨_, 0, by omega, rfl, rfl⟩
    · rintro μ lv st C n z ⟨i, hi, rfl, rfl, rfl, rfl, rfl, rfl⟩
      simp only [b_X12_numberless_4, b_X12_numberless_35, s_psh, s_ild, s_lld, s_ald, s_ist, s_lst, s_ast, s_inc, s_ib, s_ibz, s_iu, s_lb, s_lbz, s_lu, s_ls, s_il, s_li, s_cmp, s_dup, s_pop, s_dup2, s_if1, s_if2, s_ifn, s_cv, s_cs, s_ci, s_oi, s_get, s_put, s_iald, s_lald, s_zald, s_iast, s_last, s_zast, s_alen, s_iret, s_lret, s_aret, s_vret, s_al, gpad, gl, gst, gclr, gc2, gent, gcat, Value.category, List.drop_succ_cons, List.drop_zero, List.take_succ_cons, List.take_zero, List.reverse_cons, List.reverse_nil, List.nil_append, List.cons_append, List.append_nil, List.map_cons, List.map_nil, List.sum_cons, List.sum_nil, List.length_cons, List.length_nil, Option.toList, cond_true, cond_false, Nat.reduceBEq, Nat.reduceAdd, Nat.reduceLeDiff, beq_self_eq_true, true_and, and_true, BEq.rfl, Bool.false_eq_true, if_true, if_false, menc_0, menc_1, menc_2, menc_3, menc_4, menc_5, menc_6, menc_7, menc_8, menc_9, menc_10, menc_11, menc_12, menc_13, menc_14, mf_0, mf_1, mf_2, mf_3, mf_4, mf_5, mf_6, mf_7, mf_8, mf_9, mf_10, mf_11, mf_12, mf_13, mf_14, mf_15, mf_16, mf_17, mf_18, mf_19, mf_20, mf_21, mf_22, mf_23, mf_24, mf_25, mf_26, mf_27, mf_28, mf_29, mf_30, mf_31, ms_4, ms_5, ms_6, ms_7, ms_8, ms_9, ms_10, ms_11, ms_12, ms_13, ms_14, ms_16, ms_17, ms_18, ms_19, ms_23, ms_24, ms_27, mu_1, mu_2, mu_3, mu_4, mu_5, mu_6, mu_7, mu_8, mu_9, mu_10, mu_11, mu_12, mu_13, mu_14]
      simp (disch := omega) only [true_and, and_true, lit, nI_add, nar_i, nar_0, nar_1, nar_b, fit_i, fit_l, pk_rem, nI_leI, nI_ltI, nI_eq, vin_iff, nI_clamp, nI_m1, hA]
      refine ⟨by omega, fun h => ?_, fun h => ⟨by omega, fun e => ⟨_, ?_, i + 1, by omega, rfl, ?_⟩, fun e => ⟨_, ?_, i + 1, by omega, rfl, ?_⟩⟩⟩
      · rw [show c = i by omega] at hQ; exact hQ
      · omega
      · rw [obits_t (by simp [e])]
      · omega
      · rw [or_0, obits_f (by simp [e])]
  · exact h.elim

def oddF (x : Int32) : Bool := !decide (x = -nI 1) && decide (x - x / nI 2 * nI 2 = nI 1)
def sp_X12_odd : gSp := fun as C n z Q => match as with
  | [.ref m] => isM C m ∧ vp_in (garr C (m + 1) 0) 8 ∧ Q (some (.int (obits (fun c => oddF (mNum C m c)) (garr C (m + 1) 0).toNatClampNeg))) C n z
  | _ => False
set_option maxRecDepth 100000 in
set_option maxHeartbeats 4000000 in
theorem c_X12_odd (l : Launch) : Con l yX12_odd cX12_odd 3 (some .int) 0 0 0 sp_X12_odd := by
  refine m_X12_odd ?_
  intro as C0 n0 z0 Q h
  unfold sp_X12_odd at h
  split at h
  · rename_i m
    obtain ⟨⟨σ, w, A, L, R, rfl⟩, hx, hQ⟩ := h
    simp only [ma_1, mNum_e] at hx hQ
    obtain ⟨c, hc, hA⟩ := vp_in_of hx (by decide)
    rw [hA] at hQ
    simp (disch := omega) only [nI_clamp] at hQ
    refine ⟨Nat.le_of_ble_eq_true rfl, fun pc μ lv st C n z => ∃ i, i ≤ c ∧ μ = c - i ∧ lv = [some (.ref m), some (.int (obits (fun c => oddF (A 1 (69 + c))) i)), some (.int (nI i))] ∧ st = [] ∧ C = menc m σ w A L R ∧ n = n0 ∧ z = z0, ?_, ?_⟩
    · simp only [b_X12_odd_0, s_psh, s_ild, s_lld, s_ald, s_ist, s_lst, s_ast, s_inc, s_ib, s_ibz, s_iu, s_lb, s_lbz, s_lu, s_ls, s_il, s_li, s_cmp, s_dup, s_pop, s_dup2, s_if1, s_if2, s_ifn, s_cv, s_cs, s_ci, s_oi, s_get, s_put, s_iald, s_lald, s_zald, s_iast, s_last, s_zast, s_alen, s_iret, s_lret, s_aret, s_vret, s_al, gpad, gl, gst, gclr, gc2, gent, gcat, Value.category, List.drop_succ_cons, List.drop_zero, List.take_succ_cons, List.take_zero, List.reverse_cons, List.reverse_nil, List.nil_append, List.cons_append, List.append_nil, List.map_cons, List.map_nil, List.sum_cons, List.sum_nil, List.length_cons, List.length_nil, Option.toList, cond_true, cond_false, Nat.reduceBEq, Nat.reduceAdd, Nat.reduceLeDiff, beq_self_eq_true, true_and, and_true, BEq.rfl, Bool.false_eq_true, if_true, if_false, menc_0, menc_1, menc_2, menc_3, menc_4, menc_5, menc_6, menc_7, menc_8, menc_9, menc_10, menc_11, menc_12, menc_13, menc_14, mf_0, mf_1, mf_2, mf_3, mf_4, mf_5, mf_6, mf_7, mf_8, mf_9, mf_10, mf_11, mf_12, mf_13, mf_14, mf_15, mf_16, mf_17, mf_18, mf_19, mf_20, mf_21, mf_22, mf_23, mf_24, mf_25, mf_26, mf_27, mf_28, mf_29, mf_30, mf_31, ms_4, ms_5, ms_6, ms_7, ms_8, ms_9, ms_10, ms_11, ms_12, ms_13, ms_14, ms_16, ms_17, ms_18, ms_19, ms_23, ms_24, ms_27, mu_1, mu_2, mu_3, mu_4, mu_5, mu_6, mu_7, mu_8, mu_9, mu_10, mu_11, mu_12, mu_13, mu_14]
      exact ⟨_, 0, by omega, rfl, rfl⟩
    · rintro μ lv st C n z ⟨i, hi, rfl, rfl, rfl, rfl, rfl, rfl⟩
      simp only [b_X12_odd_4, b_X12_odd_49, b_X12_odd_50, s_psh, s_ild, s_lld, s_ald, s_ist, s_lst, s_ast, s_inc, s_ib, s_ibz, s_iu, s_lb, s_lbz, s_lu, s_ls, s_il, s_li, s_cmp, s_dup, s_pop, s_dup2, s_if1, s_if2, s_ifn, s_cv, s_cs, s_ci, s_oi, s_get, s_put, s_iald, s_lald, s_zald, s_iast, s_last, s_zast, s_alen, s_iret, s_lret, s_aret, s_vret, s_al, gpad, gl, gst, gclr, gc2, gent, gcat, Value.category, List.drop_succ_cons, List.drop_zero, List.take_succ_cons, List.take_zero, List.reverse_cons, List.reverse_nil, List.nil_append, List.cons_append, List.append_nil, List.map_cons, List.map_nil, List.sum_cons, List.sum_nil, List.length_cons, List.length_nil, Option.toList, cond_true, cond_false, Nat.reduceBEq, Nat.reduceAdd, Nat.reduceLeDiff, beq_self_eq_true, true_and, and_true, BEq.rfl, Bool.false_eq_true, if_true, if_false, menc_0, menc_1, menc_2, menc_3, menc_4, menc_5, menc_6, menc_7, menc_8, menc_9, menc_10, menc_11, menc_12, menc_13, menc_14, mf_0, mf_1, mf_2, mf_3, mf_4, mf_5, mf_6, mf_7, mf_8, mf_9, mf_10, mf_11, mf_12, mf_13, mf_14, mf_15, mf_16, mf_17, mf_18, mf_19, mf_20, mf_21, mf_22, mf_23, mf_24, mf_25, mf_26, mf_27, mf_28, mf_29, mf_30, mf_31, ms_4, ms_5, ms_6, ms_7, ms_8, ms_9, ms_10, ms_11, ms_12, ms_13, ms_14, ms_16, ms_17, ms_18, ms_19, ms_23, ms_24, ms_27, mu_1, mu_2, mu_3, mu_4, mu_5, mu_6, mu_7, mu_8, mu_9, mu_10, mu_11, mu_12, mu_13, mu_14]
      simp (disch := omega) only [true_and, and_true, lit, nI_add, nar_i, nar_0, nar_1, nar_b, fit_i, fit_l, pk_rem, nI_leI, nI_ltI, nI_eq, vin_iff, nI_clamp, nI_m1, hA]
      refine ⟨by omega, fun h => ?_, fun h => ⟨by omega, fun e => ⟨_, ?_, i + 1, by omega, rfl, ?_⟩, fun e => ⟨by omega, by omega, fun g => ⟨_, ?_, i + 1, by omega, rfl, ?_⟩, fun g => ⟨_, ?_, i + 1, by omega, rfl, ?_⟩⟩⟩⟩
      · rw [show c = i by omega] at hQ; exact hQ
      · omega
      · rw [or_0, obits_f (by simp [oddF, e])]
      · omega
      · rw [obits_t (by simp [oddF, e, g])]
      · omega
      · rw [or_0, obits_f (by simp [oddF, g])]
  · exact h.elim

def sp_X12_greatest : gSp := fun as C n z Q => match as with
  | [.ref m] => isM C m ∧ vp_in (garr C (m + 1) 0) 8 ∧ Q (some (.int (grF (mNum C m) (garr C (m + 1) 0).toNatClampNeg))) C n z
  | _ => False
set_option maxRecDepth 100000 in
set_option maxHeartbeats 4000000 in
theorem c_X12_greatest (l : Launch) : Con l yX12_greatest cX12_greatest 3 (some .int) 0 0 0 sp_X12_greatest := by
  refine m_X12_greatest ?_
  intro as C0 n0 z0 Q h
  unfold sp_X12_greatest at h
  split at h
  · rename_i m
    obtain ⟨⟨σ, w, A, L, R, rfl⟩, hx, hQ⟩ := h
    simp only [ma_1, mNum_e] at hx hQ
    obtain ⟨c, hc, hA⟩ := vp_in_of hx (by decide)
    rw [hA] at hQ
    simp (disch := omega) only [nI_clamp] at hQ
    refine ⟨Nat.le_of_ble_eq_true rfl, fun pc μ lv st C n z => ∃ i, i ≤ c ∧ μ = c - i ∧ lv = [some (.ref m), some (.int (grF (fun c => A 1 (69 + c)) i)), some (.int (nI i))] ∧ st = [] ∧ C = menc m σ w A L R ∧ n = n0 ∧ z = z0, ?_, ?_⟩
    · simp only [b_X12_greatest_0, s_psh, s_ild, s_lld, s_ald, s_ist, s_lst, s_ast, s_inc, s_ib, s_ibz, s_iu, s_lb, s_lbz, s_lu, s_ls, s_il, s_li, s_cmp, s_dup, s_pop, s_dup2, s_if1, s_if2, s_ifn, s_cv, s_cs, s_ci, s_oi, s_get, s_put, s_iald, s_lald, s_zald, s_iast, s_last, s_zast, s_alen, s_iret, s_lret, s_aret, s_vret, s_al, gpad, gl, gst, gclr, gc2, gent, gcat, Value.category, List.drop_succ_cons, List.drop_zero, List.take_succ_cons, List.take_zero, List.reverse_cons, List.reverse_nil, List.nil_append, List.cons_append, List.append_nil, List.map_cons, List.map_nil, List.sum_cons, List.sum_nil, List.length_cons, List.length_nil, Option.toList, cond_true, cond_false, Nat.reduceBEq, Nat.reduceAdd, Nat.reduceLeDiff, beq_self_eq_true, true_and, and_true, BEq.rfl, Bool.false_eq_true, if_true, if_false, menc_0, menc_1, menc_2, menc_3, menc_4, menc_5, menc_6, menc_7, menc_8, menc_9, menc_10, menc_11, menc_12, menc_13, menc_14, mf_0, mf_1, mf_2, mf_3, mf_4, mf_5, mf_6, mf_7, mf_8, mf_9, mf_10, mf_11, mf_12, mf_13, mf_14, mf_15, mf_16, mf_17, mf_18, mf_19, mf_20, mf_21, mf_22, mf_23, mf_24, mf_25, mf_26, mf_27, mf_28, mf_29, mf_30, mf_31, ms_4, ms_5, ms_6, ms_7, ms_8, ms_9, ms_10, ms_11, ms_12, ms_13, ms_14, ms_16, ms_17, ms_18, ms_19, ms_23, ms_24, ms_27, mu_1, mu_2, mu_3, mu_4, mu_5, mu_6, mu_7, mu_8, mu_9, mu_10, mu_11, mu_12, mu_13, mu_14]
      exact ⟨_, 0, by omega, rfl, rfl⟩
    · rintro μ lv st C n z ⟨i, hi, rfl, rfl, rfl, rfl, rfl, rfl⟩
      simp only [b_X12_greatest_4, b_X12_greatest_53, b_X12_greatest_55, s_psh, s_ild, s_lld, s_ald, s_ist, s_lst, s_ast, s_inc, s_ib, s_ibz, s_iu, s_lb, s_lbz, s_lu, s_ls, s_il, s_li, s_cmp, s_dup, s_pop, s_dup2, s_if1, s_if2, s_ifn, s_cv, s_cs, s_ci, s_oi, s_get, s_put, s_iald, s_lald, s_zald, s_iast, s_last, s_zast, s_alen, s_iret, s_lret, s_aret, s_vret, s_al, gpad, gl, gst, gclr, gc2, gent, gcat, Value.category, List.drop_succ_cons, List.drop_zero, List.take_succ_cons, List.take_zero, List.reverse_cons, List.reverse_nil, List.nil_append, List.cons_append, List.append_nil, List.map_cons, List.map_nil, List.sum_cons, List.sum_nil, List.length_cons, List.length_nil, Option.toList, cond_true, cond_false, Nat.reduceBEq, Nat.reduceAdd, Nat.reduceLeDiff, beq_self_eq_true, true_and, and_true, BEq.rfl, Bool.false_eq_true, if_true, if_false, menc_0, menc_1, menc_2, menc_3, menc_4, menc_5, menc_6, menc_7, menc_8, menc_9, menc_10, menc_11, menc_12, menc_13, menc_14, mf_0, mf_1, mf_2, mf_3, mf_4, mf_5, mf_6, mf_7, mf_8, mf_9, mf_10, mf_11, mf_12, mf_13, mf_14, mf_15, mf_16, mf_17, mf_18, mf_19, mf_20, mf_21, mf_22, mf_23, mf_24, mf_25, mf_26, mf_27, mf_28, mf_29, mf_30, mf_31, ms_4, ms_5, ms_6, ms_7, ms_8, ms_9, ms_10, ms_11, ms_12, ms_13, ms_14, ms_16, ms_17, ms_18, ms_19, ms_23, ms_24, ms_27, mu_1, mu_2, mu_3, mu_4, mu_5, mu_6, mu_7, mu_8, mu_9, mu_10, mu_11, mu_12, mu_13, mu_14]
      simp (disch := omega) only [true_and, and_true, lit, nI_add, nar_i, nar_0, nar_1, nar_b, fit_i, fit_l, pk_rem, nI_leI, nI_ltI, nI_eq, vin_iff, nI_clamp, nI_m1, hA]
      have hgr : ∀ (P : Prop), P = (¬ A 1 (69 + i) = -nI 1 ∧ (grF (fun c => A 1 (69 + c)) i = -nI 1 ∨ A 1 (69 + (grF (fun c => A 1 (69 + c)) i).toNatClampNeg) < A 1 (69 + i))) → grF (fun c => A 1 (69 + c)) (i + 1) = pif P (nI i) (grF (fun c => A 1 (69 + c)) i) := fun P hP => by rw [hP]; rfl
      rcases grF_in (fun c => A 1 (69 + c)) i with q | ⟨f, q1, q2⟩
      · have g1 : (nI 1 = -nI 1) = False := nI_m1 1 (by decide)
        rw [q] at hgr ⊢
        refine ⟨by omega, fun h => ?_, fun h => ⟨by omega, fun e => ⟨_, ?_, i + 1, by omega, rfl, ?_⟩, fun e => ⟨fun _ => ⟨_, ?_, i + 1, by omega, rfl, ?_⟩, fun k => absurd rfl k⟩⟩⟩
        · rw [show c = i by omega, q] at hQ; exact hQ
        · omega
        · rw [hgr _ rfl, pif_f (fun z => z.1 e)]
        · omega
        · rw [hgr _ rfl, pif_t ⟨e, Or.inl rfl⟩]
      · rw [q2] at hgr ⊢
        simp (disch := omega) only [true_and, and_true, lit, nI_add, nar_i, nar_0, nar_1, nar_b, fit_i, fit_l, pk_rem, nI_leI, nI_ltI, nI_eq, vin_iff, nI_clamp, nI_m1] at hgr ⊢
        refine ⟨by omega, fun h => ?_, fun h => ⟨by omega, fun e => ⟨_, ?_, i + 1, by omega, rfl, ?_⟩, fun e => ⟨fun k => k.elim, fun _ => ⟨by omega, by omega, fun k => ⟨_, ?_, i + 1, by omega, rfl, ?_⟩, fun k => ⟨_, ?_, i + 1, by omega, rfl, ?_⟩⟩⟩⟩⟩
        · rw [show c = i by omega, q2] at hQ; exact hQ
        · omega
        · rw [hgr _ rfl, pif_f (fun z => z.1 e)]
        · omega
        · rw [hgr _ rfl, pif_f (fun z => z.2.elim (fun k => k) (fun y => Int32.not_lt.mpr k y))]
        · omega
        · rw [hgr _ rfl, pif_t ⟨e, Or.inr (Int32.not_le.mp k)⟩]
  · exact h.elim

def sp_X12_tens : gSp := fun as C n z Q => match as with
  | [.int x] => vp_in x 19 ∧ Q (some (.long (lN (10 ^ x.toNatClampNeg)))) C n z
  | _ => False
set_option maxRecDepth 100000 in
set_option maxHeartbeats 4000000 in
theorem c_X12_tens (l : Launch) : Con l yX12_tens cX12_tens 4 (some .long) 0 0 0 sp_X12_tens := by
  refine m_X12_tens ?_
  intro as C0 n0 z0 Q h
  unfold sp_X12_tens at h
  split at h
  · rename_i x
    obtain ⟨hx, hQ⟩ := h
    obtain ⟨k, hk, rfl⟩ := vp_in_of hx (by decide)
    simp (disch := omega) only [nI_clamp] at hQ
    refine ⟨Nat.le_of_ble_eq_true rfl, fun pc μ lv st C n z => ∃ i, i ≤ k ∧ μ = k - i ∧ lv = [some (.int (nI k)), some (.long (lN (10 ^ i))), none, some (.int (nI i))] ∧ st = [] ∧ C = C0 ∧ n = n0 ∧ z = z0, ?_, ?_⟩
    · simp only [b_X12_tens_0, s_psh, s_ild, s_lld, s_ald, s_ist, s_lst, s_ast, s_inc, s_ib, s_ibz, s_iu, s_lb, s_lbz, s_lu, s_ls, s_il, s_li, s_cmp, s_dup, s_pop, s_dup2, s_if1, s_if2, s_ifn, s_cv, s_cs, s_ci, s_oi, s_get, s_put, s_iald, s_lald, s_zald, s_iast, s_last, s_zast, s_alen, s_iret, s_lret, s_aret, s_vret, s_al, gpad, gl, gst, gclr, gc2, gent, gcat, Value.category, List.drop_succ_cons, List.drop_zero, List.take_succ_cons, List.take_zero, List.reverse_cons, List.reverse_nil, List.nil_append, List.cons_append, List.append_nil, List.map_cons, List.map_nil, List.sum_cons, List.sum_nil, List.length_cons, List.length_nil, Option.toList, cond_true, cond_false, Nat.reduceBEq, Nat.reduceAdd, Nat.reduceLeDiff, beq_self_eq_true, true_and, and_true, BEq.rfl, Bool.false_eq_true, if_true, if_false, menc_0, menc_1, menc_2, menc_3, menc_4, menc_5, menc_6, menc_7, menc_8, menc_9, menc_10, menc_11, menc_12, menc_13, menc_14, mf_0, mf_1, mf_2, mf_3, mf_4, mf_5, mf_6, mf_7, mf_8, mf_9, mf_10, mf_11, mf_12, mf_13, mf_14, mf_15, mf_16, mf_17, mf_18, mf_19, mf_20, mf_21, mf_22, mf_23, mf_24, mf_25, mf_26, mf_27, mf_28, mf_29, mf_30, mf_31, ms_4, ms_5, ms_6, ms_7, ms_8, ms_9, ms_10, ms_11, ms_12, ms_13, ms_14, ms_16, ms_17, ms_18, ms_19, ms_23, ms_24, ms_27, mu_1, mu_2, mu_3, mu_4, mu_5, mu_6, mu_7, mu_8, mu_9, mu_10, mu_11, mu_12, mu_13, mu_14]
      exact ⟨_, 0, by omega, rfl, rfl⟩
    · rintro μ lv st C n z ⟨i, hi, rfl, rfl, rfl, rfl, rfl, rfl⟩
      simp only [b_X12_tens_4, s_psh, s_ild, s_lld, s_ald, s_ist, s_lst, s_ast, s_inc, s_ib, s_ibz, s_iu, s_lb, s_lbz, s_lu, s_ls, s_il, s_li, s_cmp, s_dup, s_pop, s_dup2, s_if1, s_if2, s_ifn, s_cv, s_cs, s_ci, s_oi, s_get, s_put, s_iald, s_lald, s_zald, s_iast, s_last, s_zast, s_alen, s_iret, s_lret, s_aret, s_vret, s_al, gpad, gl, gst, gclr, gc2, gent, gcat, Value.category, List.drop_succ_cons, List.drop_zero, List.take_succ_cons, List.take_zero, List.reverse_cons, List.reverse_nil, List.nil_append, List.cons_append, List.append_nil, List.map_cons, List.map_nil, List.sum_cons, List.sum_nil, List.length_cons, List.length_nil, Option.toList, cond_true, cond_false, Nat.reduceBEq, Nat.reduceAdd, Nat.reduceLeDiff, beq_self_eq_true, true_and, and_true, BEq.rfl, Bool.false_eq_true, if_true, if_false, menc_0, menc_1, menc_2, menc_3, menc_4, menc_5, menc_6, menc_7, menc_8, menc_9, menc_10, menc_11, menc_12, menc_13, menc_14, mf_0, mf_1, mf_2, mf_3, mf_4, mf_5, mf_6, mf_7, mf_8, mf_9, mf_10, mf_11, mf_12, mf_13, mf_14, mf_15, mf_16, mf_17, mf_18, mf_19, mf_20, mf_21, mf_22, mf_23, mf_24, mf_25, mf_26, mf_27, mf_28, mf_29, mf_30, mf_31, ms_4, ms_5, ms_6, ms_7, ms_8, ms_9, ms_10, ms_11, ms_12, ms_13, ms_14, ms_16, ms_17, ms_18, ms_19, ms_23, ms_24, ms_27, mu_1, mu_2, mu_3, mu_4, mu_5, mu_6, mu_7, mu_8, mu_9, mu_10, mu_11, mu_12, mu_13, mu_14]
      simp (disch := omega) only [true_and, and_true, lit, nI_add, nar_i, nar_0, nar_1, nar_b, fit_i, fit_l, pk_rem, nI_leI, nI_ltI, nI_eq, vin_iff, nI_clamp, nI_m1, litL, lN_mul]
      refine ⟨fun h => ?_, fun h => ⟨_, ?_, i + 1, by omega, rfl, ?_⟩⟩
      · rw [show k = i by omega] at hQ; exact hQ
      · omega
      · rw [Nat.pow_succ]
  · exact h.elim

def sp_X12_divisor : gSp := fun as C n z Q => match as with
  | [.long x, .long y] => ∃ a b, a < 2 ^ 63 ∧ b < 2 ^ 63 ∧ x = lN a ∧ y = lN b ∧ Q (some (.long (lN (Nat.gcd a b)))) C n z
  | _ => False
set_option maxRecDepth 100000 in
set_option maxHeartbeats 4000000 in
theorem c_X12_divisor (l : Launch) : Con l yX12_divisor cX12_divisor 10 (some .long) 0 0 0 sp_X12_divisor := by
  refine m_X12_divisor ?_
  intro as C0 n0 z0 Q h
  unfold sp_X12_divisor at h
  split at h
  · rename_i x y
    obtain ⟨a, b, ha, hb, rfl, rfl, hQ⟩ := h
    refine ⟨Nat.le_of_ble_eq_true rfl, fun pc μ lv st C n z => ∃ p q o8, p < 2 ^ 63 ∧ q < 2 ^ 63 ∧ Nat.gcd p q = Nat.gcd a b ∧ μ = q ∧ lv = [some (.long (lN a)), none, some (.long (lN b)), none, some (.long (lN p)), none, some (.long (lN q)), none, o8, none] ∧ st = [] ∧ C = C0 ∧ n = n0 ∧ z = z0, ?_, ?_⟩
    · simp only [b_X12_divisor_0, s_psh, s_ild, s_lld, s_ald, s_ist, s_lst, s_ast, s_inc, s_ib, s_ibz, s_iu, s_lb, s_lbz, s_lu, s_ls, s_il, s_li, s_cmp, s_dup, s_pop, s_dup2, s_if1, s_if2, s_ifn, s_cv, s_cs, s_ci, s_oi, s_get, s_put, s_iald, s_lald, s_zald, s_iast, s_last, s_zast, s_alen, s_iret, s_lret, s_aret, s_vret, s_al, gpad, gl, gst, gclr, gc2, gent, gcat, Value.category, List.drop_succ_cons, List.drop_zero, List.take_succ_cons, List.take_zero, List.reverse_cons, List.reverse_nil, List.nil_append, List.cons_append, List.append_nil, List.map_cons, List.map_nil, List.sum_cons, List.sum_nil, List.length_cons, List.length_nil, Option.toList, cond_true, cond_false, Nat.reduceBEq, Nat.reduceAdd, Nat.reduceLeDiff, beq_self_eq_true, true_and, and_true, BEq.rfl, Bool.false_eq_true, if_true, if_false, menc_0, menc_1, menc_2, menc_3, menc_4, menc_5, menc_6, menc_7, menc_8, menc_9, menc_10, menc_11, menc_12, menc_13, menc_14, mf_0, mf_1, mf_2, mf_3, mf_4, mf_5, mf_6, mf_7, mf_8, mf_9, mf_10, mf_11, mf_12, mf_13, mf_14, mf_15, mf_16, mf_17, mf_18, mf_19, mf_20, mf_21, mf_22, mf_23, mf_24, mf_25, mf_26, mf_27, mf_28, mf_29, mf_30, mf_31, ms_4, ms_5, ms_6, ms_7, ms_8, ms_9, ms_10, ms_11, ms_12, ms_13, ms_14, ms_16, ms_17, ms_18, ms_19, ms_23, ms_24, ms_27, mu_1, mu_2, mu_3, mu_4, mu_5, mu_6, mu_7, mu_8, mu_9, mu_10, mu_11, mu_12, mu_13, mu_14]
      exact ⟨_, a, b, none, ha, hb, rfl, rfl, rfl⟩
    · rintro μ lv st C n z ⟨p, q, o8, hp, hq, hg, rfl, rfl, rfl, rfl, rfl, rfl⟩
      simp only [b_X12_divisor_6, s_psh, s_ild, s_lld, s_ald, s_ist, s_lst, s_ast, s_inc, s_ib, s_ibz, s_iu, s_lb, s_lbz, s_lu, s_ls, s_il, s_li, s_cmp, s_dup, s_pop, s_dup2, s_if1, s_if2, s_ifn, s_cv, s_cs, s_ci, s_oi, s_get, s_put, s_iald, s_lald, s_zald, s_iast, s_last, s_zast, s_alen, s_iret, s_lret, s_aret, s_vret, s_al, gpad, gl, gst, gclr, gc2, gent, gcat, Value.category, List.drop_succ_cons, List.drop_zero, List.take_succ_cons, List.take_zero, List.reverse_cons, List.reverse_nil, List.nil_append, List.cons_append, List.append_nil, List.map_cons, List.map_nil, List.sum_cons, List.sum_nil, List.length_cons, List.length_nil, Option.toList, cond_true, cond_false, Nat.reduceBEq, Nat.reduceAdd, Nat.reduceLeDiff, beq_self_eq_true, true_and, and_true, BEq.rfl, Bool.false_eq_true, if_true, if_false, menc_0, menc_1, menc_2, menc_3, menc_4, menc_5, menc_6, menc_7, menc_8, menc_9, menc_10, menc_11, menc_12, menc_13, menc_14, mf_0, mf_1, mf_2, mf_3, mf_4, mf_5, mf_6, mf_7, mf_8, mf_9, mf_10, mf_11, mf_12, mf_13, mf_14, mf_15, mf_16, mf_17, mf_18, mf_19, mf_20, mf_21, mf_22, mf_23, mf_24, mf_25, mf_26, mf_27, mf_28, mf_29, mf_30, mf_31, ms_4, ms_5, ms_6, ms_7, ms_8, ms_9, ms_10, ms_11, ms_12, ms_13, ms_14, ms_16, ms_17, ms_18, ms_19, ms_23, ms_24, ms_27, mu_1, mu_2, mu_3, mu_4, mu_5, mu_6, mu_7, mu_8, mu_9, mu_10, mu_11, mu_12, mu_13, mu_14]
      simp (disch := omega) only [true_and, and_true, lit, nI_add, nar_i, nar_0, nar_1, nar_b, fit_i, fit_l, pk_rem, nI_leI, nI_ltI, nI_eq, vin_iff, nI_clamp, nI_m1, litL, lcmp0, pk_lRem]
      refine ⟨fun h => ?_, fun h => ⟨fun e => h ((pk_lEQ hq (by decide)).mp e), _, ?_, μ, p % μ, some (.long (lN (p % μ))), hq, ?_, ?_, rfl, ?_⟩⟩
      · subst h
        rw [Nat.gcd_zero_right] at hg
        rw [hg]; exact hQ
      · exact Nat.mod_lt _ (by omega)
      · exact Nat.lt_of_le_of_lt (Nat.mod_le _ _) hp
      · rw [← hg, Nat.gcd_comm μ, ← Nat.gcd_rec, Nat.gcd_comm]
      · rw [pk_lRem hp (by omega) hq]
  · exact h.elim

def sp_X12_bits : gSp := fun as C n z Q => match as with
  | [.int x] => vp_in x 4096 ∧ Q (some (.int (nI (popc x.toNatClampNeg)))) C n z
  | _ => False
set_option maxRecDepth 100000 in
set_option maxHeartbeats 4000000 in
theorem c_X12_bits (l : Launch) : Con l yX12_bits cX12_bits 3 (some .int) 0 0 0 sp_X12_bits := by
  refine m_X12_bits ?_
  intro as C0 n0 z0 Q h
  unfold sp_X12_bits at h
  split at h
  · rename_i x
    obtain ⟨hx, hQ⟩ := h
    obtain ⟨v, hv, rfl⟩ := vp_in_of hx (by decide)
    simp (disch := omega) only [nI_clamp] at hQ
    refine ⟨Nat.le_of_ble_eq_true rfl, fun pc μ lv st C n z => ∃ y k, y < 4096 ∧ k + popc y = popc v ∧ μ = y ∧ lv = [some (.int (nI v)), some (.int (nI k)), some (.int (nI y))] ∧ st = [] ∧ C = C0 ∧ n = n0 ∧ z = z0, ?_, ?_⟩
    · simp only [b_X12_bits_0, s_psh, s_ild, s_lld, s_ald, s_ist, s_lst, s_ast, s_inc, s_ib, s_ibz, s_iu, s_lb, s_lbz, s_lu, s_ls, s_il, s_li, s_cmp, s_dup, s_pop, s_dup2, s_if1, s_if2, s_ifn, s_cv, s_cs, s_ci, s_oi, s_get, s_put, s_iald, s_lald, s_zald, s_iast, s_last, s_zast, s_alen, s_iret, s_lret, s_aret, s_vret, s_al, gpad, gl, gst, gclr, gc2, gent, gcat, Value.category, List.drop_succ_cons, List.drop_zero, List.take_succ_cons, List.take_zero, List.reverse_cons, List.reverse_nil, List.nil_append, List.cons_append, List.append_nil, List.map_cons, List.map_nil, List.sum_cons, List.sum_nil, List.length_cons, List.length_nil, Option.toList, cond_true, cond_false, Nat.reduceBEq, Nat.reduceAdd, Nat.reduceLeDiff, beq_self_eq_true, true_and, and_true, BEq.rfl, Bool.false_eq_true, if_true, if_false, menc_0, menc_1, menc_2, menc_3, menc_4, menc_5, menc_6, menc_7, menc_8, menc_9, menc_10, menc_11, menc_12, menc_13, menc_14, mf_0, mf_1, mf_2, mf_3, mf_4, mf_5, mf_6, mf_7, mf_8, mf_9, mf_10, mf_11, mf_12, mf_13, mf_14, mf_15, mf_16, mf_17, mf_18, mf_19, mf_20, mf_21, mf_22, mf_23, mf_24, mf_25, mf_26, mf_27, mf_28, mf_29, mf_30, mf_31, ms_4, ms_5, ms_6, ms_7, ms_8, ms_9, ms_10, ms_11, ms_12, ms_13, ms_14, ms_16, ms_17, ms_18, ms_19, ms_23, ms_24, ms_27, mu_1, mu_2, mu_3, mu_4, mu_5, mu_6, mu_7, mu_8, mu_9, mu_10, mu_11, mu_12, mu_13, mu_14]
      exact ⟨_, v, 0, hv, by omega, rfl, rfl⟩
    · rintro μ lv st C n z ⟨y, k, hy, hk, rfl, rfl, rfl, rfl, rfl, rfl⟩
      simp only [b_X12_bits_4, s_psh, s_ild, s_lld, s_ald, s_ist, s_lst, s_ast, s_inc, s_ib, s_ibz, s_iu, s_lb, s_lbz, s_lu, s_ls, s_il, s_li, s_cmp, s_dup, s_pop, s_dup2, s_if1, s_if2, s_ifn, s_cv, s_cs, s_ci, s_oi, s_get, s_put, s_iald, s_lald, s_zald, s_iast, s_last, s_zast, s_alen, s_iret, s_lret, s_aret, s_vret, s_al, gpad, gl, gst, gclr, gc2, gent, gcat, Value.category, List.drop_succ_cons, List.drop_zero, List.take_succ_cons, List.take_zero, List.reverse_cons, List.reverse_nil, List.nil_append, List.cons_append, List.append_nil, List.map_cons, List.map_nil, List.sum_cons, List.sum_nil, List.length_cons, List.length_nil, Option.toList, cond_true, cond_false, Nat.reduceBEq, Nat.reduceAdd, Nat.reduceLeDiff, beq_self_eq_true, true_and, and_true, BEq.rfl, Bool.false_eq_true, if_true, if_false, menc_0, menc_1, menc_2, menc_3, menc_4, menc_5, menc_6, menc_7, menc_8, menc_9, menc_10, menc_11, menc_12, menc_13, menc_14, mf_0, mf_1, mf_2, mf_3, mf_4, mf_5, mf_6, mf_7, mf_8, mf_9, mf_10, mf_11, mf_12, mf_13, mf_14, mf_15, mf_16, mf_17, mf_18, mf_19, mf_20, mf_21, mf_22, mf_23, mf_24, mf_25, mf_26, mf_27, mf_28, mf_29, mf_30, mf_31, ms_4, ms_5, ms_6, ms_7, ms_8, ms_9, ms_10, ms_11, ms_12, ms_13, ms_14, ms_16, ms_17, ms_18, ms_19, ms_23, ms_24, ms_27, mu_1, mu_2, mu_3, mu_4, mu_5, mu_6, mu_7, mu_8, mu_9, mu_10, mu_11, mu_12, mu_13, mu_14]
      simp (disch := omega) only [true_and, and_true, lit, nI_add, nar_i, nar_0, nar_1, nar_b, fit_i, fit_l, pk_rem, nI_leI, nI_ltI, nI_eq, vin_iff, nI_clamp, nI_m1, nI_and]
      refine ⟨fun h => ?_, fun h => ⟨_, ?_, μ &&& (μ - 1), k + 1, ?_, ?_, rfl, ?_⟩⟩
      · subst h
        rw [show popc v = k from by rw [← hk]; rfl] at hQ; exact hQ
      · exact and_lt μ hy (by omega)
      · exact Nat.lt_trans (and_lt μ hy (by omega)) hy
      · have := popc_s μ hy (by omega)
        omega
      · rw [pk_sub (by omega), nI_and]
  · exact h.elim

def sp_X12_copy : gSp := fun as C n z Q => match as with
  | [.ref p, .ref q] => C p = some (.inl (0, 3205, .inl (garr C p))) ∧ C q = some (.inl (0, 3205, .inl (garr C q))) ∧ ¬ p = q ∧ Q none (gup C q (.inl (0, 3205, .inl (fun j => if j < 3205 then garr C p j else garr C q j)))) n z
  | _ => False
set_option maxRecDepth 100000 in
set_option maxHeartbeats 4000000 in
theorem c_X12_copy (l : Launch) : Con l yX12_copy cX12_copy 3 none 0 0 0 sp_X12_copy := by
  refine m_X12_copy ?_
  intro as C0 n0 z0 Q h
  unfold sp_X12_copy at h
  split at h
  · rename_i p q
    obtain ⟨h1, h2, hne, hQ⟩ := h
    generalize garr C0 p = f at h1 hQ
    generalize garr C0 q = g at h2 hQ
    refine ⟨Nat.le_of_ble_eq_true rfl, fun pc μ lv st C n z => ∃ i, i ≤ 3205 ∧ μ = 3205 - i ∧ lv = [some (.ref p), some (.ref q), some (.int (nI i))] ∧ st = [] ∧ C = gup C0 q (.inl (0, 3205, .inl (fun j => if j < i then f j else g j))) ∧ n = n0 ∧ z = z0, ?_, ?_⟩
    · simp only [b_X12_copy_0, s_psh, s_ild, s_lld, s_ald, s_ist, s_lst, s_ast, s_inc, s_ib, s_ibz, s_iu, s_lb, s_lbz, s_lu, s_ls, s_il, s_li, s_cmp, s_dup, s_pop, s_dup2, s_if1, s_if2, s_ifn, s_cv, s_cs, s_ci, s_oi, s_get, s_put, s_iald, s_lald, s_zald, s_iast, s_last, s_zast, s_alen, s_iret, s_lret, s_aret, s_vret, s_al, gpad, gl, gst, gclr, gc2, gent, gcat, Value.category, List.drop_succ_cons, List.drop_zero, List.take_succ_cons, List.take_zero, List.reverse_cons, List.reverse_nil, List.nil_append, List.cons_append, List.append_nil, List.map_cons, List.map_nil, List.sum_cons, List.sum_nil, List.length_cons, List.length_nil, Option.toList, cond_true, cond_false, Nat.reduceBEq, Nat.reduceAdd, Nat.reduceLeDiff, beq_self_eq_true, true_and, and_true, BEq.rfl, Bool.false_eq_true, if_true, if_false, menc_0, menc_1, menc_2, menc_3, menc_4, menc_5, menc_6, menc_7, menc_8, menc_9, menc_10, menc_11, menc_12, menc_13, menc_14, mf_0, mf_1, mf_2, mf_3, mf_4, mf_5, mf_6, mf_7, mf_8, mf_9, mf_10, mf_11, mf_12, mf_13, mf_14, mf_15, mf_16, mf_17, mf_18, mf_19, mf_20, mf_21, mf_22, mf_23, mf_24, mf_25, mf_26, mf_27, mf_28, mf_29, mf_30, mf_31, ms_4, ms_5, ms_6, ms_7, ms_8, ms_9, ms_10, ms_11, ms_12, ms_13, ms_14, ms_16, ms_17, ms_18, ms_19, ms_23, ms_24, ms_27, mu_1, mu_2, mu_3, mu_4, mu_5, mu_6, mu_7, mu_8, mu_9, mu_10, mu_11, mu_12, mu_13, mu_14]
      refine ⟨_, 0, by omega, rfl, rfl, ?_⟩
      funext j
      unfold gup
      split
      · rename_i hj
        subst hj
        rw [h2]
        simp
      · rfl
    · rintro μ lv st C n z ⟨i, hi, rfl, rfl, rfl, rfl, rfl, rfl⟩
      simp only [b_X12_copy_2, gup_ne hne, gup_same, gup_gup, h1, s_psh, s_ild, s_lld, s_ald, s_ist, s_lst, s_ast, s_inc, s_ib, s_ibz, s_iu, s_lb, s_lbz, s_lu, s_ls, s_il, s_li, s_cmp, s_dup, s_pop, s_dup2, s_if1, s_if2, s_ifn, s_cv, s_cs, s_ci, s_oi, s_get, s_put, s_iald, s_lald, s_zald, s_iast, s_last, s_zast, s_alen, s_iret, s_lret, s_aret, s_vret, s_al, gpad, gl, gst, gclr, gc2, gent, gcat, Value.category, List.drop_succ_cons, List.drop_zero, List.take_succ_cons, List.take_zero, List.reverse_cons, List.reverse_nil, List.nil_append, List.cons_append, List.append_nil, List.map_cons, List.map_nil, List.sum_cons, List.sum_nil, List.length_cons, List.length_nil, Option.toList, cond_true, cond_false, Nat.reduceBEq, Nat.reduceAdd, Nat.reduceLeDiff, beq_self_eq_true, true_and, and_true, BEq.rfl, Bool.false_eq_true, if_true, if_false, menc_0, menc_1, menc_2, menc_3, menc_4, menc_5, menc_6, menc_7, menc_8, menc_9, menc_10, menc_11, menc_12, menc_13, menc_14, mf_0, mf_1, mf_2, mf_3, mf_4, mf_5, mf_6, mf_7, mf_8, mf_9, mf_10, mf_11, mf_12, mf_13, mf_14, mf_15, mf_16, mf_17, mf_18, mf_19, mf_20, mf_21, mf_22, mf_23, mf_24, mf_25, mf_26, mf_27, mf_28, mf_29, mf_30, mf_31, ms_4, ms_5, ms_6, ms_7, ms_8, ms_9, ms_10, ms_11, ms_12, ms_13, ms_14, ms_16, ms_17, ms_18, ms_19, ms_23, ms_24, ms_27, mu_1, mu_2, mu_3, mu_4, mu_5, mu_6, mu_7, mu_8, mu_9, mu_10, mu_11, mu_12, mu_13, mu_14]
      simp (disch := omega) only [true_and, and_true, lit, nI_add, nar_i, nar_0, nar_1, nar_b, fit_i, fit_l, pk_rem, nI_leI, nI_ltI, nI_eq, vin_iff, nI_clamp, nI_m1]
      refine ⟨fun h => ?_, fun h => ⟨by omega, by omega, _, ?_, i + 1, by omega, rfl, rfl, ?_⟩⟩
      · have e : i = 3205 := by omega
        subst e
        exact hQ
      · omega
      · have e : upd (fun j => if j < i then f j else g j) i (f i) = fun j => if j < i + 1 then f j else g j := ?_
        · rw [e]
        funext j
        unfold upd
        by_cases hj : j = i
        · subst hj; simp
        · rw [if_neg hj]
          show (if j < i then f j else g j) = _
          by_cases hj2 : j < i
          · rw [if_pos hj2, if_pos (by omega)]
          · rw [if_neg hj2, if_neg (by omega)]
  · exact h.elim

def sp_X12_twins : gSp := fun as C n z Q => match as with
  | [.ref m] => isM C m ∧ vp_in (garr C (m + 1) 0) 8 ∧ Q (some (.int (nI (twF (mNum C m) (garr C (m + 1) 0).toNatClampNeg (garr C (m + 1) 0).toNatClampNeg)))) C n z
  | _ => False
set_option maxRecDepth 100000 in
set_option maxHeartbeats 4000000 in
theorem c_X12_twins (l : Launch) : Con l yX12_twins cX12_twins 4 (some .int) 0 0 0 sp_X12_twins := by
  refine m_X12_twins ?_
  intro as C0 n0 z0 Q h
  unfold sp_X12_twins at h
  split at h
  · rename_i m
    obtain ⟨⟨σ, w, A, L, R, rfl⟩, hx, hQ⟩ := h
    simp only [ma_1, mNum_e] at hx hQ
    obtain ⟨k, hk, hA⟩ := vp_in_of hx (by decide)
    rw [hA] at hQ
    simp (disch := omega) only [nI_clamp] at hQ
    refine ⟨Nat.le_of_ble_eq_true rfl, fun pc μ lv st C n z => if pc = 4 then ∃ i o3, i ≤ k ∧ μ = (8 - i) * 20 + 19 ∧ lv = [some (.ref m), some (.int (nI (twF (fun j => A 1 (69 + j)) k i))), some (.int (nI i)), o3] ∧ st = [] ∧ C = menc m σ w A L R ∧ n = n0 ∧ z = z0 else ∃ i d, i < k ∧ d ≤ k ∧ i < d ∧ μ = (8 - i) * 20 + (8 - d) ∧ lv = [some (.ref m), some (.int (nI (twF (fun j => A 1 (69 + j)) k i + twC (fun j => A 1 (69 + j)) i d))), some (.int (nI i)), some (.int (nI d))] ∧ st = [] ∧ C = menc m σ w A L R ∧ n = n0 ∧ z = z0, ?_, ?_, ?_⟩
    · simp only [b_X12_twins_0, s_psh, s_ild, s_lld, s_ald, s_ist, s_lst, s_ast, s_inc, s_ib, s_ibz, s_iu, s_lb, s_lbz, s_lu, s_ls, s_il, s_li, s_cmp, s_dup, s_pop, s_dup2, s_if1, s_if2, s_ifn, s_cv, s_cs, s_ci, s_oi, s_get, s_put, s_iald, s_lald, s_zald, s_iast, s_last, s_zast, s_alen, s_iret, s_lret, s_aret, s_vret, s_al, gpad, gl, gst, gclr, gc2, gent, gcat, Value.category, List.drop_succ_cons, List.drop_zero, List.take_succ_cons, List.take_zero, List.reverse_cons, List.reverse_nil, List.nil_append, List.cons_append, List.append_nil, List.map_cons, List.map_nil, List.sum_cons, List.sum_nil, List.length_cons, List.length_nil, Option.toList, cond_true, cond_false, Nat.reduceBEq, Nat.reduceAdd, Nat.reduceLeDiff, beq_self_eq_true, true_and, and_true, BEq.rfl, Bool.false_eq_true, if_true, if_false, menc_0, menc_1, menc_2, menc_3, menc_4, menc_5, menc_6, menc_7, menc_8, menc_9, menc_10, menc_11, menc_12, menc_13, menc_14, mf_0, mf_1, mf_2, mf_3, mf_4, mf_5, mf_6, mf_7, mf_8, mf_9, mf_10, mf_11, mf_12, mf_13, mf_14, mf_15, mf_16, mf_17, mf_18, mf_19, mf_20, mf_21, mf_22, mf_23, mf_24, mf_25, mf_26, mf_27, mf_28, mf_29, mf_30, mf_31, ms_4, ms_5, ms_6, ms_7, ms_8, ms_9, ms_10, ms_11, ms_12, ms_13, ms_14, ms_16, ms_17, ms_18, ms_19, ms_23, ms_24, ms_27, mu_1, mu_2, mu_3, mu_4, mu_5, mu_6, mu_7, mu_8, mu_9, mu_10, mu_11, mu_12, mu_13, mu_14]
      exact ⟨_, 0, none, by omega, rfl, rfl⟩
    · rintro μ lv st C n z ⟨i, o3, hi, rfl, rfl, rfl, rfl, rfl, rfl⟩
      simp only [b_X12_twins_4, s_psh, s_ild, s_lld, s_ald, s_ist, s_lst, s_ast, s_inc, s_ib, s_ibz, s_iu, s_lb, s_lbz, s_lu, s_ls, s_il, s_li, s_cmp, s_dup, s_pop, s_dup2, s_if1, s_if2, s_ifn, s_cv, s_cs, s_ci, s_oi, s_get, s_put, s_iald, s_lald, s_zald, s_iast, s_last, s_zast, s_alen, s_iret, s_lret, s_aret, s_vret, s_al, gpad, gl, gst, gclr, gc2, gent, gcat, Value.category, List.drop_succ_cons, List.drop_zero, List.take_succ_cons, List.take_zero, List.reverse_cons, List.reverse_nil, List.nil_append, List.cons_append, List.append_nil, List.map_cons, List.map_nil, List.sum_cons, List.sum_nil, List.length_cons, List.length_nil, Option.toList, cond_true, cond_false, Nat.reduceBEq, Nat.reduceAdd, Nat.reduceLeDiff, beq_self_eq_true, true_and, and_true, BEq.rfl, Bool.false_eq_true, if_true, if_false, menc_0, menc_1, menc_2, menc_3, menc_4, menc_5, menc_6, menc_7, menc_8, menc_9, menc_10, menc_11, menc_12, menc_13, menc_14, mf_0, mf_1, mf_2, mf_3, mf_4, mf_5, mf_6, mf_7, mf_8, mf_9, mf_10, mf_11, mf_12, mf_13, mf_14, mf_15, mf_16, mf_17, mf_18, mf_19, mf_20, mf_21, mf_22, mf_23, mf_24, mf_25, mf_26, mf_27, mf_28, mf_29, mf_30, mf_31, ms_4, ms_5, ms_6, ms_7, ms_8, ms_9, ms_10, ms_11, ms_12, ms_13, ms_14, ms_16, ms_17, ms_18, ms_19, ms_23, ms_24, ms_27, mu_1, mu_2, mu_3, mu_4, mu_5, mu_6, mu_7, mu_8, mu_9, mu_10, mu_11, mu_12, mu_13, mu_14]
      simp (disch := omega) only [true_and, and_true, lit, nI_add, nar_i, nar_0, nar_1, nar_b, fit_i, fit_l, pk_rem, nI_leI, nI_ltI, nI_eq, vin_iff, nI_clamp, nI_m1, hA, reduceIte, Nat.reduceEqDiff]
      refine ⟨by omega, fun h => ?_, fun h => ⟨_, ?_, i, i + 1, by omega, by omega, by omega, rfl, ?_⟩⟩
      · have e : i = k := by omega
        subst e
        exact hQ
      · omega
      · rw [twC_0 _ _ _ (Nat.le_refl _)]; rfl
    · rintro μ lv st C n z ⟨i, d, hi, hd, hid, rfl, rfl, rfl, rfl, rfl, rfl⟩
      simp only [b_X12_twins_18, b_X12_twins_67, b_X12_twins_68, s_psh, s_ild, s_lld, s_ald, s_ist, s_lst, s_ast, s_inc, s_ib, s_ibz, s_iu, s_lb, s_lbz, s_lu, s_ls, s_il, s_li, s_cmp, s_dup, s_pop, s_dup2, s_if1, s_if2, s_ifn, s_cv, s_cs, s_ci, s_oi, s_get, s_put, s_iald, s_lald, s_zald, s_iast, s_last, s_zast, s_alen, s_iret, s_lret, s_aret, s_vret, s_al, gpad, gl, gst, gclr, gc2, gent, gcat, Value.category, List.drop_succ_cons, List.drop_zero, List.take_succ_cons, List.take_zero, List.reverse_cons, List.reverse_nil, List.nil_append, List.cons_append, List.append_nil, List.map_cons, List.map_nil, List.sum_cons, List.sum_nil, List.length_cons, List.length_nil, Option.toList, cond_true, cond_false, Nat.reduceBEq, Nat.reduceAdd, Nat.reduceLeDiff, beq_self_eq_true, true_and, and_true, BEq.rfl, Bool.false_eq_true, if_true, if_false, menc_0, menc_1, menc_2, menc_3, menc_4, menc_5, menc_6, menc_7, menc_8, menc_9, menc_10, menc_11, menc_12, menc_13, menc_14, mf_0, mf_1, mf_2, mf_3, mf_4, mf_5, mf_6, mf_7, mf_8, mf_9, mf_10, mf_11, mf_12, mf_13, mf_14, mf_15, mf_16, mf_17, mf_18, mf_19, mf_20, mf_21, mf_22, mf_23, mf_24, mf_25, mf_26, mf_27, mf_28, mf_29, mf_30, mf_31, ms_4, ms_5, ms_6, ms_7, ms_8, ms_9, ms_10, ms_11, ms_12, ms_13, ms_14, ms_16, ms_17, ms_18, ms_19, ms_23, ms_24, ms_27, mu_1, mu_2, mu_3, mu_4, mu_5, mu_6, mu_7, mu_8, mu_9, mu_10, mu_11, mu_12, mu_13, mu_14]
      simp (disch := omega) only [true_and, and_true, lit, nI_add, nar_i, nar_0, nar_1, nar_b, fit_i, fit_l, pk_rem, nI_leI, nI_ltI, nI_eq, vin_iff, nI_clamp, nI_m1, hA, reduceIte, Nat.reduceEqDiff]
      refine ⟨by omega, fun h => ⟨_, ?_, i + 1, some (.int (nI d)), by omega, rfl, ?_⟩, fun h => ⟨by omega, fun e => ⟨_, ?_, i, d + 1, by omega, by omega, by omega, rfl, ?_⟩, fun e => ⟨by omega, by omega, fun g => ⟨_, ?_, i, d + 1, by omega, by omega, by omega, rfl, ?_⟩, fun g => ⟨_, ?_, i, d + 1, by omega, by omega, by omega, rfl, ?_⟩⟩⟩⟩
      · omega
      · have e : d = k := by omega
        subst e
        rfl
      · omega
      · rw [show twC (fun j => A 1 (69 + j)) i (d + 1) = twC (fun j => A 1 (69 + j)) i d from howmany_f (by simp [e])]; rfl
      · omega
      · rw [show twC (fun j => A 1 (69 + j)) i (d + 1) = twC (fun j => A 1 (69 + j)) i d + 1 from howmany_t (by simp [hid]; exact ⟨e, g⟩)]; rfl
      · omega
      · rw [show twC (fun j => A 1 (69 + j)) i (d + 1) = twC (fun j => A 1 (69 + j)) i d from howmany_f (by simp [g])]; rfl
  · exact h.elim
