/-! the reference: the ring's shape -/
noncomputable def tt (P : Prop) : Bool := @decide P (Classical.propDecidable P)
theorem tt_t {P : Prop} (p : P) : tt P = true := by unfold tt; exact @decide_eq_true P (Classical.propDecidable P) p
theorem tt_f {P : Prop} (p : ¬ P) : tt P = false := by unfold tt; exact @decide_eq_false P (Classical.propDecidable P) p
noncomputable def pif {α : Type} (P : Prop) (a b : α) : α := @ite α P (Classical.propDecidable P) a b
theorem pif_t {α : Type} {P : Prop} {a b : α} (p : P) : pif P a b = a := by unfold pif; rw [if_pos p]
theorem pif_f {α : Type} {P : Prop} {a b : α} (p : ¬ P) : pif P a b = b := by unfold pif; rw [if_neg p]
def mKd (C : gC) (m : Nat) : Nat → Int32 := fun j => garr C (m + 1) (9 + j)
theorem mKd_e {m : Nat} {σ : Nat → Int32} {w : Int64} {A : Nat → Nat → Int32} {L : Nat → Nat → Int64} {R : gC} : mKd (menc m σ w A L R) m = fun j => A 1 (9 + j) := by
  funext j
  simp only [mKd, ma_1]
theorem sub_add {a b c : Nat} (h : b ≤ a + c) : nI a - nI b + nI c = nI (a + c - b) := by
  have e : nI a - nI b + nI c = nI a + nI c - nI b := by
    rw [Int32.sub_eq_add_neg, Int32.sub_eq_add_neg, Int32.add_assoc, Int32.add_comm (-nI b), ← Int32.add_assoc]
  rw [e, nI_add, pk_sub h]
def sp_X12_isBar : gSp := fun as C n z Q => (lg_sl as).length ≤ 2 ∧ b_X12_isBar_0 Q (gpad 2 (gent as)) [] C n z
theorem c_X12_isBar (l : Launch) : Con l yX12_isBar cX12_isBar 2 (some .boolean) 0 0 0 sp_X12_isBar := m_X12_isBar fun _ _ _ _ _ h => h
def isTurn (K : Nat → Int32) (t : Nat) : Prop := ∀ p, p < 30 → K p = K ((p + t) % 30)
theorem isTurn_30 (K : Nat → Int32) : isTurn K 30 := fun p hp => by rw [show (p + 30) % 30 = p by omega]
def isMirror (K : Nat → Int32) (t : Nat) : Prop := ∀ p, p < 30 → K p = K ((t + 30 - p) % 30)
/-- the reading from p on against that from q on, f places left: the first difference -/
def isAhead (K : Nat → Int32) (p q : Nat) : Nat → Prop
  | 0 => False
  | f + 1 => if K ((p + (29 - f)) % 30) = K ((q + (29 - f)) % 30) then isAhead K p q f else K ((p + (29 - f)) % 30) < K ((q + (29 - f)) % 30)
theorem isAhead_eq {K : Nat → Int32} {p q i : Nat} (hi : i < 30) (h : K ((p + i) % 30) = K ((q + i) % 30)) : isAhead K p q (30 - i) ↔ isAhead K p q (30 - (i + 1)) := by
  obtain ⟨f, hf⟩ : ∃ f, 30 - i = f + 1 := ⟨29 - i, by omega⟩
  rw [hf, show 30 - (i + 1) = f by omega]
  simp only [isAhead, show 29 - f = i by omega, h, if_true]
theorem isAhead_ne {K : Nat → Int32} {p q i : Nat} (hi : i < 30) (h : ¬ K ((p + i) % 30) = K ((q + i) % 30)) : isAhead K p q (30 - i) ↔ K ((p + i) % 30) < K ((q + i) % 30) := by
  obtain ⟨f, hf⟩ : ∃ f, 30 - i = f + 1 := ⟨29 - i, by omega⟩
  rw [hf]
  simp only [isAhead, show 29 - f = i by omega, h, if_false]
def cnt (K : Nat → Int32) (p : Nat) : Nat → Nat
  | 0 => 0
  | n + 1 => cnt K p n + if K ((p + n) % 30) = nI 1 then 1 else 0
theorem cnt_le (K : Nat → Int32) (p : Nat) : ∀ n, cnt K p n ≤ n
  | 0 => Nat.le_refl _
  | n + 1 => by
    have := cnt_le K p n
    unfold cnt
    split <;> omega
noncomputable def lst (K : Nat → Int32) : Nat → Nat
  | 0 => 0
  | p + 1 => pif (isAhead K p (lst K p) 30) p (lst K p)
theorem lst_lt (K : Nat → Int32) : ∀ p, lst K (p + 1) ≤ p
  | 0 => by
    unfold lst lst
    by_cases h : isAhead K 0 0 30
    · rw [pif_t h]; exact Nat.le_refl _
    · rw [pif_f h]; exact Nat.le_refl _
  | p + 1 => by
    have := lst_lt K p
    unfold lst
    by_cases h : isAhead K (p + 1) (lst K (p + 1)) 30
    · rw [pif_t h]; exact Nat.le_refl _
    · rw [pif_f h]; omega
def arcF (K : Nat → Int32) (n : Nat) : Nat → Nat
  | 0 => 0
  | p + 1 => if cnt K (arcF K n p) n < cnt K p n then p else arcF K n p
theorem arcF_lt (K : Nat → Int32) (n : Nat) : ∀ p, arcF K n (p + 1) ≤ p
  | 0 => by
    unfold arcF arcF
    split <;> exact Nat.le_refl _
  | p + 1 => by
    have := arcF_lt K n p
    unfold arcF
    split
    · exact Nat.le_refl _
    · omega
def thF (P : Nat → Int32) : Nat → Nat
  | 0 => 0
  | p + 1 => if P (thF P p) < P p then p else thF P p
theorem thF_lt (P : Nat → Int32) : ∀ p, thF P (p + 1) ≤ p
  | 0 => by
    unfold thF thF
    split <;> exact Nat.le_refl _
  | p + 1 => by
    have := thF_lt P p
    unfold thF
    split
    · exact Nat.le_refl _
    · omega
def sp_X12_isIn : gSp := fun as C n z Q => match as with
  | [.int v, .int lo, .int hi] => Q (some (.int (bI (lo ≤ v ∧ v ≤ hi)))) C n z
  | _ => False
set_option maxRecDepth 100000 in
theorem c_X12_isIn (l : Launch) : Con l yX12_isIn cX12_isIn 3 (some .boolean) 0 0 0 sp_X12_isIn := by
  refine m_X12_isIn ?_
  intro as C0 n0 z0 Q h
  unfold sp_X12_isIn at h
  split at h
  · rename_i v lo hi
    refine ⟨Nat.le_of_ble_eq_true rfl, ?_⟩
    simp only [b_X12_isIn_0, b_X12_isIn_14, b_X12_isIn_15, s_psh, s_ild, s_lld, s_ald, s_ist, s_lst, s_ast, s_inc, s_ib, s_ibz, s_iu, s_lb, s_lbz, s_lu, s_ls, s_il, s_li, s_cmp, s_dup, s_pop, s_dup2, s_if1, s_if2, s_ifn, s_cv, s_cs, s_ci, s_oi, s_get, s_put, s_iald, s_lald, s_zald, s_iast, s_last, s_zast, s_alen, s_iret, s_lret, s_aret, s_vret, s_al, gpad, gl, gst, gclr, gc2, gent, gcat, Value.category, List.drop_succ_cons, List.drop_zero, List.take_succ_cons, List.take_zero, List.reverse_cons, List.reverse_nil, List.nil_append, List.cons_append, List.append_nil, List.map_cons, List.map_nil, List.sum_cons, List.sum_nil, List.length_cons, List.length_nil, Option.toList, cond_true, cond_false, Nat.reduceBEq, Nat.reduceAdd, Nat.reduceLeDiff, beq_self_eq_true, true_and, and_true, BEq.rfl, Bool.false_eq_true, if_true, if_false, menc_0, menc_1, menc_2, menc_3, menc_4, menc_5, menc_6, menc_7, menc_8, menc_9, menc_10, menc_11, menc_12, menc_13, menc_14, mf_0, mf_1, mf_2, mf_3, mf_4, mf_5, mf_6, mf_7, mf_8, mf_9, mf_10, mf_11, mf_12, mf_13, mf_14, mf_15, mf_16, mf_17, mf_18, mf_19, mf_20, mf_21, mf_22, mf_23, mf_24, mf_25, mf_26, mf_27, mf_28, mf_29, mf_30, mf_31, ms_4, ms_5, ms_6, ms_7, ms_8, ms_9, ms_10, ms_11, ms_12, ms_13, ms_14, ms_16, ms_17, ms_18, ms_19, ms_23, ms_24, ms_27, mu_1, mu_2, mu_3, mu_4, mu_5, mu_6, mu_7, mu_8, mu_9, mu_10, mu_11, mu_12, mu_13, mu_14]
    simp only [true_and, and_true, lit, nI_add, nar_i, nar_0, nar_1, nar_b, fit_i, fit_l, pk_rem, nI_leI, nI_ltI, nI_eq, vin_iff, nI_clamp, nI_m1]
    refine ⟨fun e => ?_, fun e => ⟨fun e2 => ?_, fun e2 => ?_⟩⟩
    · rw [bI_f (fun q => Int32.not_lt.mpr q.1 e)] at h; exact h
    · rw [bI_f (fun q => Int32.not_lt.mpr q.2 e2)] at h; exact h
    · rw [bI_t ⟨Int32.not_lt.mp e, Int32.not_lt.mp e2⟩] at h; exact h
  · exact h.elim

def sp_X12_isTurn : gSp := fun as C n z Q => match as with
  | [.ref m, .int x] => isM C m ∧ vp_in x 31 ∧ Q (some (.int (bI (isTurn (mKd C m) x.toNatClampNeg)))) C n z
  | _ => False
set_option maxRecDepth 100000 in
set_option maxHeartbeats 4000000 in
theorem c_X12_isTurn (l : Launch) : Con l yX12_isTurn cX12_isTurn 3 (some .boolean) 0 0 0 sp_X12_isTurn := by
  refine m_X12_isTurn ?_
  intro as C0 n0 z0 Q h
  unfold sp_X12_isTurn at h
  split at h
  · rename_i m x
    obtain ⟨⟨σ, w, A, L, R, rfl⟩, hx, hQ⟩ := h
    obtain ⟨t, ht, rfl⟩ := vp_in_of hx (by decide)
    simp (disch := omega) only [nI_clamp, mKd_e] at hQ
    refine ⟨Nat.le_of_ble_eq_true rfl, fun pc μ lv st C n z => ∃ i, i ≤ 30 ∧ μ = 30 - i ∧ lv = [some (.ref m), some (.int (nI t)), some (.int (nI i))] ∧ st = [] ∧ C = menc m σ w A L R ∧ n = n0 ∧ z = z0 ∧ (∀ p, p < i → A 1 (9 + p) = A 1 (9 + (p + t) % 30)), ?_, ?_⟩
    · simp only [b_X12_isTurn_0, s_psh, s_ild, s_lld, s_ald, s_ist, s_lst, s_ast, s_inc, s_ib, s_ibz, s_iu, s_lb, s_lbz, s_lu, s_ls, s_il, s_li, s_cmp, s_dup, s_pop, s_dup2, s_if1, s_if2, s_ifn, s_cv, s_cs, s_ci, s_oi, s_get, s_put, s_iald, s_lald, s_zald, s_iast, s_last, s_zast, s_alen, s_iret, s_lret, s_aret, s_vret, s_al, gpad, gl, gst, gclr, gc2, gent, gcat, Value.category, List.drop_succ_cons, List.drop_zero, List.take_succ_cons, List.take_zero, List.reverse_cons, List.reverse_nil, List.nil_append, List.cons_append, List.append_nil, List.map_cons, List.map_nil, List.sum_cons, List.sum_nil, List.length_cons, List.length_nil, Option.toList, cond_true, cond_false, Nat.reduceBEq, Nat.reduceAdd, Nat.reduceLeDiff, beq_self_eq_true, true_and, and_true, BEq.rfl, Bool.false_eq_true, if_true, if_false, menc_0, menc_1, menc_2, menc_3, menc_4, menc_5, menc_6, menc_7, menc_8, menc_9, menc_10, menc_11, menc_12, menc_13, menc_14, mf_0, mf_1, mf_2, mf_3, mf_4, mf_5, mf_6, mf_7, mf_8, mf_9, mf_10, mf_11, mf_12, mf_13, mf_14, mf_15, mf_16, mf_17, mf_18, mf_19, mf_20, mf_21, mf_22, mf_23, mf_24, mf_25, mf_26, mf_27, mf_28, mf_29, mf_30, mf_31, ms_4, ms_5, ms_6, ms_7, ms_8, ms_9, ms_10, ms_11, ms_12, ms_13, ms_14, ms_16, ms_17, ms_18, ms_19, ms_23, ms_24, ms_27, mu_1, mu_2, mu_3, mu_4, mu_5, mu_6, mu_7, mu_8, mu_9, mu_10, mu_11, mu_12, mu_13, mu_14]
      exact ⟨_, 0, by omega, rfl, rfl, fun _ h => absurd h (by omega)⟩
    · rintro μ lv st C n z ⟨i, hi, rfl, rfl, rfl, rfl, rfl, rfl, hall⟩
      simp only [b_X12_isTurn_2, s_psh, s_ild, s_lld, s_ald, s_ist, s_lst, s_ast, s_inc, s_ib, s_ibz, s_iu, s_lb, s_lbz, s_lu, s_ls, s_il, s_li, s_cmp, s_dup, s_pop, s_dup2, s_if1, s_if2, s_ifn, s_cv, s_cs, s_ci, s_oi, s_get, s_put, s_iald, s_lald, s_zald, s_iast, s_last, s_zast, s_alen, s_iret, s_lret, s_aret, s_vret, s_al, gpad, gl, gst, gclr, gc2, gent, gcat, Value.category, List.drop_succ_cons, List.drop_zero, List.take_succ_cons, List.take_zero, List.reverse_cons, List.reverse_nil, List.nil_append, List.cons_append, List.append_nil, List.map_cons, List.map_nil, List.sum_cons, List.sum_nil, List.length_cons, List.length_nil, Option.toList, cond_true, cond_false, Nat.reduceBEq, Nat.reduceAdd, Nat.reduceLeDiff, beq_self_eq_true, true_and, and_true, BEq.rfl, Bool.false_eq_true, if_true, if_false, menc_0, menc_1, menc_2, menc_3, menc_4, menc_5, menc_6, menc_7, menc_8, menc_9, menc_10, menc_11, menc_12, menc_13, menc_14, mf_0, mf_1, mf_2, mf_3, mf_4, mf_5, mf_6, mf_7, mf_8, mf_9, mf_10, mf_11, mf_12, mf_13, mf_14, mf_15, mf_16, mf_17, mf_18, mf_19, mf_20, mf_21, mf_22, mf_23, mf_24, mf_25, mf_26, mf_27, mf_28, mf_29, mf_30, mf_31, ms_4, ms_5, ms_6, ms_7, ms_8, ms_9, ms_10, ms_11, ms_12, ms_13, ms_14, ms_16, ms_17, ms_18, ms_19, ms_23, ms_24, ms_27, mu_1, mu_2, mu_3, mu_4, mu_5, mu_6, mu_7, mu_8, mu_9, mu_10, mu_11, mu_12, mu_13, mu_14]
      simp (disch := omega) only [true_and, and_true, lit, nI_add, nar_i, nar_0, nar_1, nar_b, fit_i, fit_l, pk_rem, nI_leI, nI_ltI, nI_eq, vin_iff, nI_clamp, nI_m1]
      refine ⟨fun h => ?_, fun h => ⟨by omega, by omega, by omega, fun e => ⟨_, ?_, i + 1, by omega, rfl, rfl, lt_s hall e⟩, fun e => ?_⟩⟩
      · rw [bI_t (show isTurn _ _ from fun p hp => hall p (by omega))] at hQ; exact hQ
      · omega
      · rw [bI_f (fun q : isTurn _ _ => e (q i (by omega)))] at hQ; exact hQ
  · exact h.elim

def sp_X12_isMirror : gSp := fun as C n z Q => match as with
  | [.ref m, .int x] => isM C m ∧ vp_in x 30 ∧ Q (some (.int (bI (isMirror (mKd C m) x.toNatClampNeg)))) C n z
  | _ => False
set_option maxRecDepth 100000 in
set_option maxHeartbeats 4000000 in
theorem c_X12_isMirror (l : Launch) : Con l yX12_isMirror cX12_isMirror 3 (some .boolean) 0 0 0 sp_X12_isMirror := by
  refine m_X12_isMirror ?_
  intro as C0 n0 z0 Q h
  unfold sp_X12_isMirror at h
  split at h
  · rename_i m x
    obtain ⟨⟨σ, w, A, L, R, rfl⟩, hx, hQ⟩ := h
    obtain ⟨t, ht, rfl⟩ := vp_in_of hx (by decide)
    simp (disch := omega) only [nI_clamp, mKd_e] at hQ
    refine ⟨Nat.le_of_ble_eq_true rfl, fun pc μ lv st C n z => ∃ i, i ≤ 30 ∧ μ = 30 - i ∧ lv = [some (.ref m), some (.int (nI t)), some (.int (nI i))] ∧ st = [] ∧ C = menc m σ w A L R ∧ n = n0 ∧ z = z0 ∧ (∀ p, p < i → A 1 (9 + p) = A 1 (9 + (t + 30 - p) % 30)), ?_, ?_⟩
    · simp only [b_X12_isMirror_0, s_psh, s_ild, s_lld, s_ald, s_ist, s_lst, s_ast, s_inc, s_ib, s_ibz, s_iu, s_lb, s_lbz, s_lu, s_ls, s_il, s_li, s_cmp, s_dup, s_pop, s_dup2, s_if1, s_if2, s_ifn, s_cv, s_cs, s_ci, s_oi, s_get, s_put, s_iald, s_lald, s_zald, s_iast, s_last, s_zast, s_alen, s_iret, s_lret, s_aret, s_vret, s_al, gpad, gl, gst, gclr, gc2, gent, gcat, Value.category, List.drop_succ_cons, List.drop_zero, List.take_succ_cons, List.take_zero, List.reverse_cons, List.reverse_nil, List.nil_append, List.cons_append, List.append_nil, List.map_cons, List.map_nil, List.sum_cons, List.sum_nil, List.length_cons, List.length_nil, Option.toList, cond_true, cond_false, Nat.reduceBEq, Nat.reduceAdd, Nat.reduceLeDiff, beq_self_eq_true, true_and, and_true, BEq.rfl, Bool.false_eq_true, if_true, if_false, menc_0, menc_1, menc_2, menc_3, menc_4, menc_5, menc_6, menc_7, menc_8, menc_9, menc_10, menc_11, menc_12, menc_13, menc_14, mf_0, mf_1, mf_2, mf_3, mf_4, mf_5, mf_6, mf_7, mf_8, mf_9, mf_10, mf_11, mf_12, mf_13, mf_14, mf_15, mf_16, mf_17, mf_18, mf_19, mf_20, mf_21, mf_22, mf_23, mf_24, mf_25, mf_26, mf_27, mf_28, mf_29, mf_30, mf_31, ms_4, ms_5, ms_6, ms_7, ms_8, ms_9, ms_10, ms_11, ms_12, ms_13, ms_14, ms_16, ms_17, ms_18, ms_19, ms_23, ms_24, ms_27, mu_1, mu_2, mu_3, mu_4, mu_5, mu_6, mu_7, mu_8, mu_9, mu_10, mu_11, mu_12, mu_13, mu_14]
      exact ⟨_, 0, by omega, rfl, rfl, fun _ h => absurd h (by omega)⟩
    · rintro μ lv st C n z ⟨i, hi, rfl, rfl, rfl, rfl, rfl, rfl, hall⟩
      simp only [b_X12_isMirror_2, s_psh, s_ild, s_lld, s_ald, s_ist, s_lst, s_ast, s_inc, s_ib, s_ibz, s_iu, s_lb, s_lbz, s_lu, s_ls, s_il, s_li, s_cmp, s_dup, s_pop, s_dup2, s_if1, s_if2, s_ifn, s_cv, s_cs, s_ci, s_oi, s_get, s_put, s_iald, s_lald, s_zald, s_iast, s_last, s_zast, s_alen, s_iret, s_lret, s_aret, s_vret, s_al, gpad, gl, gst, gclr, gc2, gent, gcat, Value.category, List.drop_succ_cons, List.drop_zero, List.take_succ_cons, List.take_zero, List.reverse_cons, List.reverse_nil, List.nil_append, List.cons_append, List.append_nil, List.map_cons, List.map_nil, List.sum_cons, List.sum_nil, List.length_cons, List.length_nil, Option.toList, cond_true, cond_false, Nat.reduceBEq, Nat.reduceAdd, Nat.reduceLeDiff, beq_self_eq_true, true_and, and_true, BEq.rfl, Bool.false_eq_true, if_true, if_false, menc_0, menc_1, menc_2, menc_3, menc_4, menc_5, menc_6, menc_7, menc_8, menc_9, menc_10, menc_11, menc_12, menc_13, menc_14, mf_0, mf_1, mf_2, mf_3, mf_4, mf_5, mf_6, mf_7, mf_8, mf_9, mf_10, mf_11, mf_12, mf_13, mf_14, mf_15, mf_16, mf_17, mf_18, mf_19, mf_20, mf_21, mf_22, mf_23, mf_24, mf_25, mf_26, mf_27, mf_28, mf_29, mf_30, mf_31, ms_4, ms_5, ms_6, ms_7, ms_8, ms_9, ms_10, ms_11, ms_12, ms_13, ms_14, ms_16, ms_17, ms_18, ms_19, ms_23, ms_24, ms_27, mu_1, mu_2, mu_3, mu_4, mu_5, mu_6, mu_7, mu_8, mu_9, mu_10, mu_11, mu_12, mu_13, mu_14]
      simp (disch := omega) only [true_and, and_true, lit, nI_add, nar_i, nar_0, nar_1, nar_b, fit_i, fit_l, pk_rem, nI_leI, nI_ltI, nI_eq, vin_iff, nI_clamp, nI_m1, sub_add]
      refine ⟨fun h => ?_, fun h => ⟨by omega, by omega, by omega, fun e => ⟨_, ?_, i + 1, by omega, rfl, rfl, lt_s hall e⟩, fun e => ?_⟩⟩
      · rw [bI_t (show isMirror _ _ from fun p hp => hall p (by omega))] at hQ; exact hQ
      · omega
      · rw [bI_f (fun q : isMirror _ _ => e (q i (by omega)))] at hQ; exact hQ
  · exact h.elim

def sp_X12_isAhead : gSp := fun as C n z Q => match as with
  | [.ref m, .int x, .int y] => isM C m ∧ vp_in x 30 ∧ vp_in y 30 ∧ Q (some (.int (bI (isAhead (mKd C m) x.toNatClampNeg y.toNatClampNeg 30)))) C n z
  | _ => False
set_option maxRecDepth 100000 in
set_option maxHeartbeats 4000000 in
theorem c_X12_isAhead (l : Launch) : Con l yX12_isAhead cX12_isAhead 6 (some .boolean) 0 0 0 sp_X12_isAhead := by
  refine m_X12_isAhead ?_
  intro as C0 n0 z0 Q h
  unfold sp_X12_isAhead at h
  split at h
  · rename_i m x y
    obtain ⟨⟨σ, w, A, L, R, rfl⟩, hx, hy, hQ⟩ := h
    obtain ⟨p, hp, rfl⟩ := vp_in_of hx (by decide)
    obtain ⟨q, hq, rfl⟩ := vp_in_of hy (by decide)
    simp (disch := omega) only [nI_clamp, mKd_e] at hQ
    refine ⟨Nat.le_of_ble_eq_true rfl, fun pc μ lv st C n z => ∃ i o4 o5, i ≤ 30 ∧ μ = 30 - i ∧ lv = [some (.ref m), some (.int (nI p)), some (.int (nI q)), some (.int (nI i)), o4, o5] ∧ (o4 = none ∨ ∃ v, o4 = some (.int v)) ∧ st = [] ∧ C = menc m σ w A L R ∧ n = n0 ∧ z = z0 ∧ (isAhead (fun j => A 1 (9 + j)) p q 30 ↔ isAhead (fun j => A 1 (9 + j)) p q (30 - i)), ?_, ?_⟩
    · simp only [b_X12_isAhead_0, s_psh, s_ild, s_lld, s_ald, s_ist, s_lst, s_ast, s_inc, s_ib, s_ibz, s_iu, s_lb, s_lbz, s_lu, s_ls, s_il, s_li, s_cmp, s_dup, s_pop, s_dup2, s_if1, s_if2, s_ifn, s_cv, s_cs, s_ci, s_oi, s_get, s_put, s_iald, s_lald, s_zald, s_iast, s_last, s_zast, s_alen, s_iret, s_lret, s_aret, s_vret, s_al, gpad, gl, gst, gclr, gc2, gent, gcat, Value.category, List.drop_succ_cons, List.drop_zero, List.take_succ_cons, List.take_zero, List.reverse_cons, List.reverse_nil, List.nil_append, List.cons_append, List.append_nil, List.map_cons, List.map_nil, List.sum_cons, List.sum_nil, List.length_cons, List.length_nil, Option.toList, cond_true, cond_false, Nat.reduceBEq, Nat.reduceAdd, Nat.reduceLeDiff, beq_self_eq_true, true_and, and_true, BEq.rfl, Bool.false_eq_true, if_true, if_false, menc_0, menc_1, menc_2, menc_3, menc_4, menc_5, menc_6, menc_7, menc_8, menc_9, menc_10, menc_11, menc_12, menc_13, menc_14, mf_0, mf_1, mf_2, mf_3, mf_4, mf_5, mf_6, mf_7, mf_8, mf_9, mf_10, mf_11, mf_12, mf_13, mf_14, mf_15, mf_16, mf_17, mf_18, mf_19, mf_20, mf_21, mf_22, mf_23, mf_24, mf_25, mf_26, mf_27, mf_28, mf_29, mf_30, mf_31, ms_4, ms_5, ms_6, ms_7, ms_8, ms_9, ms_10, ms_11, ms_12, ms_13, ms_14, ms_16, ms_17, ms_18, ms_19, ms_23, ms_24, ms_27, mu_1, mu_2, mu_3, mu_4, mu_5, mu_6, mu_7, mu_8, mu_9, mu_10, mu_11, mu_12, mu_13, mu_14]
      exact ⟨_, 0, none, none, by omega, rfl, rfl, Or.inl rfl, Iff.rfl⟩
    · rintro μ lv st C n z ⟨i, o4, o5, hi, rfl, rfl, ho, rfl, rfl, rfl, rfl, hall⟩
      simp only [b_X12_isAhead_2, b_X12_isAhead_59, s_psh, s_ild, s_lld, s_ald, s_ist, s_lst, s_ast, s_inc, s_ib, s_ibz, s_iu, s_lb, s_lbz, s_lu, s_ls, s_il, s_li, s_cmp, s_dup, s_pop, s_dup2, s_if1, s_if2, s_ifn, s_cv, s_cs, s_ci, s_oi, s_get, s_put, s_iald, s_lald, s_zald, s_iast, s_last, s_zast, s_alen, s_iret, s_lret, s_aret, s_vret, s_al, gpad, gl, gst, gclr, gc2, gent, gcat, Value.category, List.drop_succ_cons, List.drop_zero, List.take_succ_cons, List.take_zero, List.reverse_cons, List.reverse_nil, List.nil_append, List.cons_append, List.append_nil, List.map_cons, List.map_nil, List.sum_cons, List.sum_nil, List.length_cons, List.length_nil, Option.toList, cond_true, cond_false, Nat.reduceBEq, Nat.reduceAdd, Nat.reduceLeDiff, beq_self_eq_true, true_and, and_true, BEq.rfl, Bool.false_eq_true, if_true, if_false, menc_0, menc_1, menc_2, menc_3, menc_4, menc_5, menc_6, menc_7, menc_8, menc_9, menc_10, menc_11, menc_12, menc_13, menc_14, mf_0, mf_1, mf_2, mf_3, mf_4, mf_5, mf_6, mf_7, mf_8, mf_9, mf_10, mf_11, mf_12, mf_13, mf_14, mf_15, mf_16, mf_17, mf_18, mf_19, mf_20, mf_21, mf_22, mf_23, mf_24, mf_25, mf_26, mf_27, mf_28, mf_29, mf_30, mf_31, ms_4, ms_5, ms_6, ms_7, ms_8, ms_9, ms_10, ms_11, ms_12, ms_13, ms_14, ms_16, ms_17, ms_18, ms_19, ms_23, ms_24, ms_27, mu_1, mu_2, mu_3, mu_4, mu_5, mu_6, mu_7, mu_8, mu_9, mu_10, mu_11, mu_12, mu_13, mu_14]
      simp (disch := omega) only [true_and, and_true, lit, nI_add, nar_i, nar_0, nar_1, nar_b, fit_i, fit_l, pk_rem, nI_leI, nI_ltI, nI_eq, vin_iff, nI_clamp, nI_m1]
      refine ⟨fun h => ?_, fun h => ⟨by omega, by omega, by omega, by omega, fun e => ⟨_, ?_, i + 1, _, _, by omega, rfl, rfl, Or.inr ⟨_, rfl⟩, hall.trans (isAhead_eq (K := fun j => A 1 (9 + j)) (by omega) e)⟩, fun e => ⟨fun g => ?_, fun g => ?_⟩⟩⟩
      · have hf : ¬ isAhead (fun j => A 1 (9 + j)) p q 30 := by
          rw [hall, show 30 - i = 0 by omega]
          exact fun q => q
        rw [bI_f hf] at hQ; exact hQ
      · omega
      · rw [bI_f (fun q => Int32.not_lt.mpr g ((isAhead_ne (K := fun j => A 1 (9 + j)) (by omega) e).mp (hall.mp q)))] at hQ; exact hQ
      · rw [bI_t (hall.mpr ((isAhead_ne (K := fun j => A 1 (9 + j)) (by omega) e).mpr (Int32.not_le.mp g)))] at hQ; exact hQ
  · exact h.elim

def sp_X12_barsFrom : gSp := fun as C n z Q => match as with
  | [.ref m, .int x, .int y] => isM C m ∧ vp_in x 60 ∧ vp_in y 61 ∧ Q (some (.int (nI (cnt (mKd C m) x.toNatClampNeg y.toNatClampNeg)))) C n z
  | _ => False
set_option maxRecDepth 100000 in
set_option maxHeartbeats 4000000 in
theorem c_X12_barsFrom (l : Launch) : Con l yX12_barsFrom cX12_barsFrom 5 (some .int) 1 0 0 sp_X12_barsFrom := by
  refine m_X12_barsFrom (c_X12_isBar l) (by decide) ?_
  intro as C0 n0 z0 Q h
  unfold sp_X12_barsFrom at h
  split at h
  · rename_i m x y
    obtain ⟨⟨σ, w, A, L, R, rfl⟩, hx, hy, hQ⟩ := h
    obtain ⟨p, hp, rfl⟩ := vp_in_of hx (by decide)
    obtain ⟨k, hk, rfl⟩ := vp_in_of hy (by decide)
    simp (disch := omega) only [nI_clamp, mKd_e] at hQ
    refine ⟨Nat.le_of_ble_eq_true rfl, fun pc μ lv st C n z => ∃ i, i ≤ k ∧ μ = k - i ∧ lv = [some (.ref m), some (.int (nI p)), some (.int (nI k)), some (.int (nI (cnt (fun j => A 1 (9 + j)) p i))), some (.int (nI i))] ∧ st = [] ∧ C = menc m σ w A L R ∧ n = n0 ∧ z = z0, ?_, ?_⟩
    · simp only [b_X12_barsFrom_0, s_psh, s_ild, s_lld, s_ald, s_ist, s_lst, s_ast, s_inc, s_ib, s_ibz, s_iu, s_lb, s_lbz, s_lu, s_ls, s_il, s_li, s_cmp, s_dup, s_pop, s_dup2, s_if1, s_if2, s_ifn, s_cv, s_cs, s_ci, s_oi, s_get, s_put, s_iald, s_lald, s_zald, s_iast, s_last, s_zast, s_alen, s_iret, s_lret, s_aret, s_vret, s_al, gpad, gl, gst, gclr, gc2, gent, gcat, Value.category, List.drop_succ_cons, List.drop_zero, List.take_succ_cons, List.take_zero, List.reverse_cons, List.reverse_nil, List.nil_append, List.cons_append, List.append_nil, List.map_cons, List.map_nil, List.sum_cons, List.sum_nil, List.length_cons, List.length_nil, Option.toList, cond_true, cond_false, Nat.reduceBEq, Nat.reduceAdd, Nat.reduceLeDiff, beq_self_eq_true, true_and, and_true, BEq.rfl, Bool.false_eq_true, if_true, if_false, menc_0, menc_1, menc_2, menc_3, menc_4, menc_5, menc_6, menc_7, menc_8, menc_9, menc_10, menc_11, menc_12, menc_13, menc_14, mf_0, mf_1, mf_2, mf_3, mf_4, mf_5, mf_6, mf_7, mf_8, mf_9, mf_10, mf_11, mf_12, mf_13, mf_14, mf_15, mf_16, mf_17, mf_18, mf_19, mf_20, mf_21, mf_22, mf_23, mf_24, mf_25, mf_26, mf_27, mf_28, mf_29, mf_30, mf_31, ms_4, ms_5, ms_6, ms_7, ms_8, ms_9, ms_10, ms_11, ms_12, ms_13, ms_14, ms_16, ms_17, ms_18, ms_19, ms_23, ms_24, ms_27, mu_1, mu_2, mu_3, mu_4, mu_5, mu_6, mu_7, mu_8, mu_9, mu_10, mu_11, mu_12, mu_13, mu_14]
      exact ⟨_, 0, by omega, rfl, rfl⟩
    · rintro μ lv st C n z ⟨i, hi, rfl, rfl, rfl, rfl, rfl, rfl⟩
      simp only [b_X12_barsFrom_5, b_X12_barsFrom_31, sp_X12_isBar, b_X12_isBar_0, b_X12_isBar_18, s_psh, s_ild, s_lld, s_ald, s_ist, s_lst, s_ast, s_inc, s_ib, s_ibz, s_iu, s_lb, s_lbz, s_lu, s_ls, s_il, s_li, s_cmp, s_dup, s_pop, s_dup2, s_if1, s_if2, s_ifn, s_cv, s_cs, s_ci, s_oi, s_get, s_put, s_iald, s_lald, s_zald, s_iast, s_last, s_zast, s_alen, s_iret, s_lret, s_aret, s_vret, s_al, gpad, gl, gst, gclr, gc2, gent, gcat, Value.category, List.drop_succ_cons, List.drop_zero, List.take_succ_cons, List.take_zero, List.reverse_cons, List.reverse_nil, List.nil_append, List.cons_append, List.append_nil, List.map_cons, List.map_nil, List.sum_cons, List.sum_nil, List.length_cons, List.length_nil, Option.toList, cond_true, cond_false, Nat.reduceBEq, Nat.reduceAdd, Nat.reduceLeDiff, beq_self_eq_true, true_and, and_true, BEq.rfl, Bool.false_eq_true, if_true, if_false, menc_0, menc_1, menc_2, menc_3, menc_4, menc_5, menc_6, menc_7, menc_8, menc_9, menc_10, menc_11, menc_12, menc_13, menc_14, mf_0, mf_1, mf_2, mf_3, mf_4, mf_5, mf_6, mf_7, mf_8, mf_9, mf_10, mf_11, mf_12, mf_13, mf_14, mf_15, mf_16, mf_17, mf_18, mf_19, mf_20, mf_21, mf_22, mf_23, mf_24, mf_25, mf_26, mf_27, mf_28, mf_29, mf_30, mf_31, ms_4, ms_5, ms_6, ms_7, ms_8, ms_9, ms_10, ms_11, ms_12, ms_13, ms_14, ms_16, ms_17, ms_18, ms_19, ms_23, ms_24, ms_27, mu_1, mu_2, mu_3, mu_4, mu_5, mu_6, mu_7, mu_8, mu_9, mu_10, mu_11, mu_12, mu_13, mu_14]
      simp (disch := omega) only [true_and, and_true, lit, nI_add, nar_i, nar_0, nar_1, nar_b, fit_i, fit_l, pk_rem, nI_leI, nI_ltI, nI_eq, vin_iff, nI_clamp, nI_m1]
      refine ⟨fun h => ?_, fun h => ⟨by omega, Nat.le_of_ble_eq_true rfl, by omega, fun e => ⟨fun q => absurd q (by decide), fun _ => ⟨_, ?_, i + 1, by omega, rfl, ?_⟩⟩, fun e => ⟨fun _ => ⟨_, ?_, i + 1, by omega, rfl, ?_⟩, fun q => absurd trivial q⟩⟩⟩
      · rw [show k = i by omega] at hQ; exact hQ
      · omega
      · simp only [cnt, e, if_true]
      · omega
      · simp only [cnt, e, if_false]
  · exact h.elim

def mPd (C : gC) (m : Nat) : Nat → Int32 := fun j => garr C (m + 1) (39 + j)
theorem mPd_e {m : Nat} {σ : Nat → Int32} {w : Int64} {A : Nat → Nat → Int32} {L : Nat → Nat → Int64} {R : gC} : mPd (menc m σ w A L R) m = fun j => A 1 (39 + j) := by
  funext j
  simp only [mPd, ma_1]
def sp_X12_thickest : gSp := fun as C n z Q => match as with
  | [.ref m] => isM C m ∧ Q (some (.int (nI (thF (mPd C m) 30)))) C n z
  | _ => False
set_option maxRecDepth 100000 in
set_option maxHeartbeats 4000000 in
theorem c_X12_thickest (l : Launch) : Con l yX12_thickest cX12_thickest 3 (some .int) 0 0 0 sp_X12_thickest := by
  refine m_X12_thickest ?_
  intro as C0 n0 z0 Q h
  unfold sp_X12_thickest at h
  split at h
  · rename_i m
    obtain ⟨⟨σ, w, A, L, R, rfl⟩, hQ⟩ := h
    simp only [mPd_e] at hQ
    refine ⟨Nat.le_of_ble_eq_true rfl, fun pc μ lv st C n z => ∃ i, 1 ≤ i ∧ i ≤ 30 ∧ μ = 30 - i ∧ lv = [some (.ref m), some (.int (nI (thF (fun j => A 1 (39 + j)) i))), some (.int (nI i))] ∧ st = [] ∧ C = menc m σ w A L R ∧ n = n0 ∧ z = z0, ?_, ?_⟩
    · simp only [b_X12_thickest_0, s_psh, s_ild, s_lld, s_ald, s_ist, s_lst, s_ast, s_inc, s_ib, s_ibz, s_iu, s_lb, s_lbz, s_lu, s_ls, s_il, s_li, s_cmp, s_dup, s_pop, s_dup2, s_if1, s_if2, s_ifn, s_cv, s_cs, s_ci, s_oi, s_get, s_put, s_iald, s_lald, s_zald, s_iast, s_last, s_zast, s_alen, s_iret, s_lret, s_aret, s_vret, s_al, gpad, gl, gst, gclr, gc2, gent, gcat, Value.category, List.drop_succ_cons, List.drop_zero, List.take_succ_cons, List.take_zero, List.reverse_cons, List.reverse_nil, List.nil_append, List.cons_append, List.append_nil, List.map_cons, List.map_nil, List.sum_cons, List.sum_nil, List.length_cons, List.length_nil, Option.toList, cond_true, cond_false, Nat.reduceBEq, Nat.reduceAdd, Nat.reduceLeDiff, beq_self_eq_true, true_and, and_true, BEq.rfl, Bool.false_eq_true, if_true, if_false, menc_0, menc_1, menc_2, menc_3, menc_4, menc_5, menc_6, menc_7, menc_8, menc_9, menc_10, menc_11, menc_12, menc_13, menc_14, mf_0, mf_1, mf_2, mf_3, mf_4, mf_5, mf_6, mf_7, mf_8, mf_9, mf_10, mf_11, mf_12, mf_13, mf_14, mf_15, mf_16, mf_17, mf_18, mf_19, mf_20, mf_21, mf_22, mf_23, mf_24, mf_25, mf_26, mf_27, mf_28, mf_29, mf_30, mf_31, ms_4, ms_5, ms_6, ms_7, ms_8, ms_9, ms_10, ms_11, ms_12, ms_13, ms_14, ms_16, ms_17, ms_18, ms_19, ms_23, ms_24, ms_27, mu_1, mu_2, mu_3, mu_4, mu_5, mu_6, mu_7, mu_8, mu_9, mu_10, mu_11, mu_12, mu_13, mu_14]
      refine ⟨_, 1, by omega, by omega, rfl, ?_⟩
      rw [show thF (fun j => A 1 (39 + j)) 1 = 0 from Nat.le_zero.mp (thF_lt _ 0)]
      rfl
    · rintro μ lv st C n z ⟨i, h1, hi, rfl, rfl, rfl, rfl, rfl, rfl⟩
      simp only [b_X12_thickest_4, b_X12_thickest_33, s_psh, s_ild, s_lld, s_ald, s_ist, s_lst, s_ast, s_inc, s_ib, s_ibz, s_iu, s_lb, s_lbz, s_lu, s_ls, s_il, s_li, s_cmp, s_dup, s_pop, s_dup2, s_if1, s_if2, s_ifn, s_cv, s_cs, s_ci, s_oi, s_get, s_put, s_iald, s_lald, s_zald, s_iast, s_last, s_zast, s_alen, s_iret, s_lret, s_aret, s_vret, s_al, gpad, gl, gst, gclr, gc2, gent, gcat, Value.category, List.drop_succ_cons, List.drop_zero, List.take_succ_cons, List.take_zero, List.reverse_cons, List.reverse_nil, List.nil_append, List.cons_append, List.append_nil, List.map_cons, List.map_nil, List.sum_cons, List.sum_nil, List.length_cons, List.length_nil, Option.toList, cond_true, cond_false, Nat.reduceBEq, Nat.reduceAdd, Nat.reduceLeDiff, beq_self_eq_true, true_and, and_true, BEq.rfl, Bool.false_eq_true, if_true, if_false, menc_0, menc_1, menc_2, menc_3, menc_4, menc_5, menc_6, menc_7, menc_8, menc_9, menc_10, menc_11, menc_12, menc_13, menc_14, mf_0, mf_1, mf_2, mf_3, mf_4, mf_5, mf_6, mf_7, mf_8, mf_9, mf_10, mf_11, mf_12, mf_13, mf_14, mf_15, mf_16, mf_17, mf_18, mf_19, mf_20, mf_21, mf_22, mf_23, mf_24, mf_25, mf_26, mf_27, mf_28, mf_29, mf_30, mf_31, ms_4, ms_5, ms_6, ms_7, ms_8, ms_9, ms_10, ms_11, ms_12, ms_13, ms_14, ms_16, ms_17, ms_18, ms_19, ms_23, ms_24, ms_27, mu_1, mu_2, mu_3, mu_4, mu_5, mu_6, mu_7, mu_8, mu_9, mu_10, mu_11, mu_12, mu_13, mu_14]
      simp (disch := omega) only [true_and, and_true, lit, nI_add, nar_i, nar_0, nar_1, nar_b, fit_i, fit_l, pk_rem, nI_leI, nI_ltI, nI_eq, vin_iff, nI_clamp, nI_m1]
      have hth : thF (fun j => A 1 (39 + j)) i < 30 := by
        obtain ⟨k, rfl⟩ : ∃ k, i = k + 1 := ⟨i - 1, by omega⟩
        have := thF_lt (fun j => A 1 (39 + j)) k
        omega
      simp (disch := omega) only [true_and, and_true, lit, nI_add, nar_i, nar_0, nar_1, nar_b, fit_i, fit_l, pk_rem, nI_leI, nI_ltI, nI_eq, vin_iff, nI_clamp, nI_m1]
      refine ⟨fun h => ?_, fun h => ⟨by omega, by omega, fun e => ⟨_, ?_, i + 1, by omega, by omega, rfl, ?_⟩, fun e => ⟨_, ?_, i + 1, by omega, by omega, rfl, ?_⟩⟩⟩
      · rw [show (30 : Nat) = i by omega] at hQ; exact hQ
      · omega
      · rw [show thF (fun j => A 1 (39 + j)) (i + 1) = thF (fun j => A 1 (39 + j)) i from if_neg (Int32.not_lt.mpr e)]
      · omega
      · rw [show thF (fun j => A 1 (39 + j)) (i + 1) = i from if_pos (Int32.not_le.mp e)]
  · exact h.elim

def sp_X12_period : gSp := fun as C n z Q => match as with
  | [.ref m] => isM C m ∧ ∀ r, 1 ≤ r → r ≤ 30 → isTurn (mKd C m) r → (∀ j, 1 ≤ j → j < r → ¬ isTurn (mKd C m) j) → Q (some (.int (nI r))) C n z
  | _ => False
set_option maxRecDepth 100000 in
set_option maxHeartbeats 4000000 in
theorem c_X12_period (l : Launch) : Con l yX12_period cX12_period 2 (some .int) 1 0 0 sp_X12_period := by
  refine m_X12_period (c_X12_isTurn l) (by decide) ?_
  intro as C0 n0 z0 Q h
  unfold sp_X12_period at h
  split at h
  · rename_i m
    obtain ⟨⟨σ, w, A, L, R, rfl⟩, hQ⟩ := h
    simp only [mKd_e] at hQ
    refine ⟨Nat.le_of_ble_eq_true rfl, fun pc μ lv st C n z => ∃ i, 1 ≤ i ∧ i ≤ 30 ∧ μ = 30 - i ∧ lv = [some (.ref m), some (.int (nI i))] ∧ st = [] ∧ C = menc m σ w A L R ∧ n = n0 ∧ z = z0 ∧ (∀ j, 1 ≤ j → j < i → ¬ isTurn (fun j => A 1 (9 + j)) j), ?_, ?_⟩
    · simp only [b_X12_period_0, s_psh, s_ild, s_lld, s_ald, s_ist, s_lst, s_ast, s_inc, s_ib, s_ibz, s_iu, s_lb, s_lbz, s_lu, s_ls, s_il, s_li, s_cmp, s_dup, s_pop, s_dup2, s_if1, s_if2, s_ifn, s_cv, s_cs, s_ci, s_oi, s_get, s_put, s_iald, s_lald, s_zald, s_iast, s_last, s_zast, s_alen, s_iret, s_lret, s_aret, s_vret, s_al, gpad, gl, gst, gclr, gc2, gent, gcat, Value.category, List.drop_succ_cons, List.drop_zero, List.take_succ_cons, List.take_zero, List.reverse_cons, List.reverse_nil, List.nil_append, List.cons_append, List.append_nil, List.map_cons, List.map_nil, List.sum_cons, List.sum_nil, List.length_cons, List.length_nil, Option.toList, cond_true, cond_false, Nat.reduceBEq, Nat.reduceAdd, Nat.reduceLeDiff, beq_self_eq_true, true_and, and_true, BEq.rfl, Bool.false_eq_true, if_true, if_false, menc_0, menc_1, menc_2, menc_3, menc_4, menc_5, menc_6, menc_7, menc_8, menc_9, menc_10, menc_11, menc_12, menc_13, menc_14, mf_0, mf_1, mf_2, mf_3, mf_4, mf_5, mf_6, mf_7, mf_8, mf_9, mf_10, mf_11, mf_12, mf_13, mf_14, mf_15, mf_16, mf_17, mf_18, mf_19, mf_20, mf_21, mf_22, mf_23, mf_24, mf_25, mf_26, mf_27, mf_28, mf_29, mf_30, mf_31, ms_4, ms_5, ms_6, ms_7, ms_8, ms_9, ms_10, ms_11, ms_12, ms_13, ms_14, ms_16, ms_17, ms_18, ms_19, ms_23, ms_24, ms_27, mu_1, mu_2, mu_3, mu_4, mu_5, mu_6, mu_7, mu_8, mu_9, mu_10, mu_11, mu_12, mu_13, mu_14]
      exact ⟨_, 1, by omega, by omega, rfl, rfl, fun j h1 h2 => absurd h2 (by omega)⟩
    · rintro μ lv st C n z ⟨i, h1, hi, rfl, rfl, rfl, rfl, rfl, rfl, hall⟩
      simp only [b_X12_period_2, sp_X12_isTurn, isM_menc, mKd_e, s_psh, s_ild, s_lld, s_ald, s_ist, s_lst, s_ast, s_inc, s_ib, s_ibz, s_iu, s_lb, s_lbz, s_lu, s_ls, s_il, s_li, s_cmp, s_dup, s_pop, s_dup2, s_if1, s_if2, s_ifn, s_cv, s_cs, s_ci, s_oi, s_get, s_put, s_iald, s_lald, s_zald, s_iast, s_last, s_zast, s_alen, s_iret, s_lret, s_aret, s_vret, s_al, gpad, gl, gst, gclr, gc2, gent, gcat, Value.category, List.drop_succ_cons, List.drop_zero, List.take_succ_cons, List.take_zero, List.reverse_cons, List.reverse_nil, List.nil_append, List.cons_append, List.append_nil, List.map_cons, List.map_nil, List.sum_cons, List.sum_nil, List.length_cons, List.length_nil, Option.toList, cond_true, cond_false, Nat.reduceBEq, Nat.reduceAdd, Nat.reduceLeDiff, beq_self_eq_true, true_and, and_true, BEq.rfl, Bool.false_eq_true, if_true, if_false, menc_0, menc_1, menc_2, menc_3, menc_4, menc_5, menc_6, menc_7, menc_8, menc_9, menc_10, menc_11, menc_12, menc_13, menc_14, mf_0, mf_1, mf_2, mf_3, mf_4, mf_5, mf_6, mf_7, mf_8, mf_9, mf_10, mf_11, mf_12, mf_13, mf_14, mf_15, mf_16, mf_17, mf_18, mf_19, mf_20, mf_21, mf_22, mf_23, mf_24, mf_25, mf_26, mf_27, mf_28, mf_29, mf_30, mf_31, ms_4, ms_5, ms_6, ms_7, ms_8, ms_9, ms_10, ms_11, ms_12, ms_13, ms_14, ms_16, ms_17, ms_18, ms_19, ms_23, ms_24, ms_27, mu_1, mu_2, mu_3, mu_4, mu_5, mu_6, mu_7, mu_8, mu_9, mu_10, mu_11, mu_12, mu_13, mu_14]
      simp (disch := omega) only [true_and, and_true, lit, nI_add, nar_i, nar_0, nar_1, nar_b, fit_i, fit_l, pk_rem, nI_leI, nI_ltI, nI_eq, vin_iff, nI_clamp, nI_m1, bI_0]
      refine ⟨by omega, fun e => ⟨_, ?_, i + 1, by omega, ?_, rfl, rfl, fun j g1 g2 => ?_⟩, fun e => hQ i h1 hi (Classical.not_not.mp e) hall⟩
      · have : i ≠ 30 := fun q => e (q ▸ isTurn_30 _)
        omega
      · have : i ≠ 30 := fun q => e (q ▸ isTurn_30 _)
        omega
      · by_cases hj : j = i
        · rw [hj]; exact e
        · exact hall j g1 (by omega)
  · exact h.elim

def mIm (C : gC) (m : Nat) : Nat → Int32 := fun j => garr C (m + 2) (9 + j)
theorem mIm_e {m : Nat} {σ : Nat → Int32} {w : Int64} {A : Nat → Nat → Int32} {L : Nat → Nat → Int64} {R : gC} : mIm (menc m σ w A L R) m = fun j => A 2 (9 + j) := by
  funext j
  simp only [mIm, ma_2]
def sp_X12_changed : gSp := fun as C n z Q => match as with
  | [.ref m] => isM C m ∧ Q (some (.int (obits (fun p => !decide (mKd C m p = mIm C m p)) 30))) C n z
  | _ => False
set_option maxRecDepth 100000 in
set_option maxHeartbeats 4000000 in
theorem c_X12_changed (l : Launch) : Con l yX12_changed cX12_changed 3 (some .int) 0 0 0 sp_X12_changed := by
  refine m_X12_changed ?_
  intro as C0 n0 z0 Q h
  unfold sp_X12_changed at h
  split at h
  · rename_i m
    obtain ⟨⟨σ, w, A, L, R, rfl⟩, hQ⟩ := h
    simp only [mKd_e, mIm_e] at hQ
    refine ⟨Nat.le_of_ble_eq_true rfl, fun pc μ lv st C n z => ∃ i, i ≤ 30 ∧ μ = 30 - i ∧ lv = [some (.ref m), some (.int (obits (fun p => !decide (A 1 (9 + p) = A 2 (9 + p))) i)), some (.int (nI i))] ∧ st = [] ∧ C = menc m σ w A L R ∧ n = n0 ∧ z = z0, ?_, ?_⟩
    · simp only [b_X12_changed_0, s_psh, s_ild, s_lld, s_ald, s_ist, s_lst, s_ast, s_inc, s_ib, s_ibz, s_iu, s_lb, s_lbz, s_lu, s_ls, s_il, s_li, s_cmp, s_dup, s_pop, s_dup2, s_if1, s_if2, s_ifn, s_cv, s_cs, s_ci, s_oi, s_get, s_put, s_iald, s_lald, s_zald, s_iast, s_last, s_zast, s_alen, s_iret, s_lret, s_aret, s_vret, s_al, gpad, gl, gst, gclr, gc2, gent, gcat, Value.category, List.drop_succ_cons, List.drop_zero, List.take_succ_cons, List.take_zero, List.reverse_cons, List.reverse_nil, List.nil_append, List.cons_append, List.append_nil, List.map_cons, List.map_nil, List.sum_cons, List.sum_nil, List.length_cons, List.length_nil, Option.toList, cond_true, cond_false, Nat.reduceBEq, Nat.reduceAdd, Nat.reduceLeDiff, beq_self_eq_true, true_and, and_true, BEq.rfl, Bool.false_eq_true, if_true, if_false, menc_0, menc_1, menc_2, menc_3, menc_4, menc_5, menc_6, menc_7, menc_8, menc_9, menc_10, menc_11, menc_12, menc_13, menc_14, mf_0, mf_1, mf_2, mf_3, mf_4, mf_5, mf_6, mf_7, mf_8, mf_9, mf_10, mf_11, mf_12, mf_13, mf_14, mf_15, mf_16, mf_17, mf_18, mf_19, mf_20, mf_21, mf_22, mf_23, mf_24, mf_25, mf_26, mf_27, mf_28, mf_29, mf_30, mf_31, ms_4, ms_5, ms_6, ms_7, ms_8, ms_9, ms_10, ms_11, ms_12, ms_13, ms_14, ms_16, ms_17, ms_18, ms_19, ms_23, ms_24, ms_27, mu_1, mu_2, mu_3, mu_4, mu_5, mu_6, mu_7, mu_8, mu_9, mu_10, mu_11, mu_12, mu_13, mu_14]
      exact ⟨_, 0, by omega, rfl, rfl⟩
    · rintro μ lv st C n z ⟨i, hi, rfl, rfl, rfl, rfl, rfl, rfl⟩
      simp only [b_X12_changed_4, b_X12_changed_39, s_psh, s_ild, s_lld, s_ald, s_ist, s_lst, s_ast, s_inc, s_ib, s_ibz, s_iu, s_lb, s_lbz, s_lu, s_ls, s_il, s_li, s_cmp, s_dup, s_pop, s_dup2, s_if1, s_if2, s_ifn, s_cv, s_cs, s_ci, s_oi, s_get, s_put, s_iald, s_lald, s_zald, s_iast, s_last, s_zast, s_alen, s_iret, s_lret, s_aret, s_vret, s_al, gpad, gl, gst, gclr, gc2, gent, gcat, Value.category, List.drop_succ_cons, List.drop_zero, List.take_succ_cons, List.take_zero, List.reverse_cons, List.reverse_nil, List.nil_append, List.cons_append, List.append_nil, List.map_cons, List.map_nil, List.sum_cons, List.sum_nil, List.length_cons, List.length_nil, Option.toList, cond_true, cond_false, Nat.reduceBEq, Nat.reduceAdd, Nat.reduceLeDiff, beq_self_eq_true, true_and, and_true, BEq.rfl, Bool.false_eq_true, if_true, if_false, menc_0, menc_1, menc_2, menc_3, menc_4, menc_5, menc_6, menc_7, menc_8, menc_9, menc_10, menc_11, menc_12, menc_13, menc_14, mf_0, mf_1, mf_2, mf_3, mf_4, mf_5, mf_6, mf_7, mf_8, mf_9, mf_10, mf_11, mf_12, mf_13, mf_14, mf_15, mf_16, mf_17, mf_18, mf_19, mf_20, mf_21, mf_22, mf_23, mf_24, mf_25, mf_26, mf_27, mf_28, mf_29, mf_30, mf_31, ms_4, ms_5, ms_6, ms_7, ms_8, ms_9, ms_10, ms_11, ms_12, ms_13, ms_14, ms_16, ms_17, ms_18, ms_19, ms_23, ms_24, ms_27, mu_1, mu_2, mu_3, mu_4, mu_5, mu_6, mu_7, mu_8, mu_9, mu_10, mu_11, mu_12, mu_13, mu_14]
      simp (disch := omega) only [true_and, and_true, lit, nI_add, nar_i, nar_0, nar_1, nar_b, fit_i, fit_l, pk_rem, nI_leI, nI_ltI, nI_eq, vin_iff, nI_clamp, nI_m1]
      refine ⟨fun h => ?_, fun h => ⟨by omega, by omega, fun e => ⟨_, ?_, i + 1, by omega, rfl, ?_⟩, fun e => ⟨_, ?_, i + 1, by omega, rfl, ?_⟩⟩⟩
      · rw [show (30 : Nat) = i by omega] at hQ; exact hQ
      · omega
      · rw [or_0, obits_f (by simp [e])]
      · omega
      · rw [obits_t (by simp [e])]
  · exact h.elim

def sp_X12_least : gSp := fun as C n z Q => match as with
  | [.ref m] => isM C m ∧ Q (some (.int (nI (lst (mKd C m) 30)))) C n z
  | _ => False
set_option maxRecDepth 100000 in
set_option maxHeartbeats 4000000 in
theorem c_X12_least (l : Launch) : Con l yX12_least cX12_least 3 (some .int) 1 0 0 sp_X12_least := by
  refine m_X12_least (c_X12_isAhead l) (by decide) ?_
  intro as C0 n0 z0 Q h
  unfold sp_X12_least at h
  split at h
  · rename_i m
    obtain ⟨⟨σ, w, A, L, R, rfl⟩, hQ⟩ := h
    simp only [mKd_e] at hQ
    refine ⟨Nat.le_of_ble_eq_true rfl, fun pc μ lv st C n z => ∃ i, 1 ≤ i ∧ i ≤ 30 ∧ μ = 30 - i ∧ lv = [some (.ref m), some (.int (nI (lst (fun j => A 1 (9 + j)) i))), some (.int (nI i))] ∧ st = [] ∧ C = menc m σ w A L R ∧ n = n0 ∧ z = z0, ?_, ?_⟩
    · simp only [b_X12_least_0, s_psh, s_ild, s_lld, s_ald, s_ist, s_lst, s_ast, s_inc, s_ib, s_ibz, s_iu, s_lb, s_lbz, s_lu, s_ls, s_il, s_li, s_cmp, s_dup, s_pop, s_dup2, s_if1, s_if2, s_ifn, s_cv, s_cs, s_ci, s_oi, s_get, s_put, s_iald, s_lald, s_zald, s_iast, s_last, s_zast, s_alen, s_iret, s_lret, s_aret, s_vret, s_al, gpad, gl, gst, gclr, gc2, gent, gcat, Value.category, List.drop_succ_cons, List.drop_zero, List.take_succ_cons, List.take_zero, List.reverse_cons, List.reverse_nil, List.nil_append, List.cons_append, List.append_nil, List.map_cons, List.map_nil, List.sum_cons, List.sum_nil, List.length_cons, List.length_nil, Option.toList, cond_true, cond_false, Nat.reduceBEq, Nat.reduceAdd, Nat.reduceLeDiff, beq_self_eq_true, true_and, and_true, BEq.rfl, Bool.false_eq_true, if_true, if_false, menc_0, menc_1, menc_2, menc_3, menc_4, menc_5, menc_6, menc_7, menc_8, menc_9, menc_10, menc_11, menc_12, menc_13, menc_14, mf_0, mf_1, mf_2, mf_3, mf_4, mf_5, mf_6, mf_7, mf_8, mf_9, mf_10, mf_11, mf_12, mf_13, mf_14, mf_15, mf_16, mf_17, mf_18, mf_19, mf_20, mf_21, mf_22, mf_23, mf_24, mf_25, mf_26, mf_27, mf_28, mf_29, mf_30, mf_31, ms_4, ms_5, ms_6, ms_7, ms_8, ms_9, ms_10, ms_11, ms_12, ms_13, ms_14, ms_16, ms_17, ms_18, ms_19, ms_23, ms_24, ms_27, mu_1, mu_2, mu_3, mu_4, mu_5, mu_6, mu_7, mu_8, mu_9, mu_10, mu_11, mu_12, mu_13, mu_14]
      refine ⟨_, 1, by omega, by omega, rfl, ?_⟩
      rw [show lst (fun j => A 1 (9 + j)) 1 = 0 from Nat.le_zero.mp (lst_lt _ 0)]
      rfl
    · rintro μ lv st C n z ⟨i, h1, hi, rfl, rfl, rfl, rfl, rfl, rfl⟩
      simp only [b_X12_least_4, b_X12_least_21, sp_X12_isAhead, isM_menc, mKd_e, s_psh, s_ild, s_lld, s_ald, s_ist, s_lst, s_ast, s_inc, s_ib, s_ibz, s_iu, s_lb, s_lbz, s_lu, s_ls, s_il, s_li, s_cmp, s_dup, s_pop, s_dup2, s_if1, s_if2, s_ifn, s_cv, s_cs, s_ci, s_oi, s_get, s_put, s_iald, s_lald, s_zald, s_iast, s_last, s_zast, s_alen, s_iret, s_lret, s_aret, s_vret, s_al, gpad, gl, gst, gclr, gc2, gent, gcat, Value.category, List.drop_succ_cons, List.drop_zero, List.take_succ_cons, List.take_zero, List.reverse_cons, List.reverse_nil, List.nil_append, List.cons_append, List.append_nil, List.map_cons, List.map_nil, List.sum_cons, List.sum_nil, List.length_cons, List.length_nil, Option.toList, cond_true, cond_false, Nat.reduceBEq, Nat.reduceAdd, Nat.reduceLeDiff, beq_self_eq_true, true_and, and_true, BEq.rfl, Bool.false_eq_true, if_true, if_false, menc_0, menc_1, menc_2, menc_3, menc_4, menc_5, menc_6, menc_7, menc_8, menc_9, menc_10, menc_11, menc_12, menc_13, menc_14, mf_0, mf_1, mf_2, mf_3, mf_4, mf_5, mf_6, mf_7, mf_8, mf_9, mf_10, mf_11, mf_12, mf_13, mf_14, mf_15, mf_16, mf_17, mf_18, mf_19, mf_20, mf_21, mf_22, mf_23, mf_24, mf_25, mf_26, mf_27, mf_28, mf_29, mf_30, mf_31, ms_4, ms_5, ms_6, ms_7, ms_8, ms_9, ms_10, ms_11, ms_12, ms_13, ms_14, ms_16, ms_17, ms_18, ms_19, ms_23, ms_24, ms_27, mu_1, mu_2, mu_3, mu_4, mu_5, mu_6, mu_7, mu_8, mu_9, mu_10, mu_11, mu_12, mu_13, mu_14]
      simp (disch := omega) only [true_and, and_true, lit, nI_add, nar_i, nar_0, nar_1, nar_b, fit_i, fit_l, pk_rem, nI_leI, nI_ltI, nI_eq, vin_iff, nI_clamp, nI_m1]
      have hth : lst (fun j => A 1 (9 + j)) i < 30 := by
        obtain ⟨k, rfl⟩ : ∃ k, i = k + 1 := ⟨i - 1, by omega⟩
        have := lst_lt (fun j => A 1 (9 + j)) k
        omega
      simp (disch := omega) only [true_and, and_true, lit, nI_add, nar_i, nar_0, nar_1, nar_b, fit_i, fit_l, pk_rem, nI_leI, nI_ltI, nI_eq, vin_iff, nI_clamp, nI_m1, bI_0]
      refine ⟨fun h => ?_, fun h => ⟨by omega, by omega, fun e => ⟨_, ?_, i + 1, by omega, by omega, rfl, ?_⟩, fun e => ⟨_, ?_, i + 1, by omega, by omega, rfl, ?_⟩⟩⟩
      · rw [show (30 : Nat) = i by omega] at hQ; exact hQ
      · omega
      · rw [show lst (fun j => A 1 (9 + j)) (i + 1) = lst (fun j => A 1 (9 + j)) i from pif_f e]
      · omega
      · rw [show lst (fun j => A 1 (9 + j)) (i + 1) = i from pif_t (Classical.not_not.mp e)]
  · exact h.elim

def sp_X12_mirrors : gSp := fun as C n z Q => match as with
  | [.ref m] => isM C m ∧ Q (some (.int (nI (howmany (fun t => tt (isMirror (mKd C m) t)) 30)))) C n z
  | _ => False
set_option maxRecDepth 100000 in
set_option maxHeartbeats 4000000 in
theorem c_X12_mirrors (l : Launch) : Con l yX12_mirrors cX12_mirrors 3 (some .int) 1 0 0 sp_X12_mirrors := by
  refine m_X12_mirrors (c_X12_isMirror l) (by decide) ?_
  intro as C0 n0 z0 Q h
  unfold sp_X12_mirrors at h
  split at h
  · rename_i m
    obtain ⟨⟨σ, w, A, L, R, rfl⟩, hQ⟩ := h
    simp only [mKd_e] at hQ
    refine ⟨Nat.le_of_ble_eq_true rfl, fun pc μ lv st C n z => ∃ i, i ≤ 30 ∧ μ = 30 - i ∧ lv = [some (.ref m), some (.int (nI (howmany (fun t => tt (isMirror (fun j => A 1 (9 + j)) t)) i))), some (.int (nI i))] ∧ st = [] ∧ C = menc m σ w A L R ∧ n = n0 ∧ z = z0, ?_, ?_⟩
    · simp only [b_X12_mirrors_0, s_psh, s_ild, s_lld, s_ald, s_ist, s_lst, s_ast, s_inc, s_ib, s_ibz, s_iu, s_lb, s_lbz, s_lu, s_ls, s_il, s_li, s_cmp, s_dup, s_pop, s_dup2, s_if1, s_if2, s_ifn, s_cv, s_cs, s_ci, s_oi, s_get, s_put, s_iald, s_lald, s_zald, s_iast, s_last, s_zast, s_alen, s_iret, s_lret, s_aret, s_vret, s_al, gpad, gl, gst, gclr, gc2, gent, gcat, Value.category, List.drop_succ_cons, List.drop_zero, List.take_succ_cons, List.take_zero, List.reverse_cons, List.reverse_nil, List.nil_append, List.cons_append, List.append_nil, List.map_cons, List.map_nil, List.sum_cons, List.sum_nil, List.length_cons, List.length_nil, Option.toList, cond_true, cond_false, Nat.reduceBEq, Nat.reduceAdd, Nat.reduceLeDiff, beq_self_eq_true, true_and, and_true, BEq.rfl, Bool.false_eq_true, if_true, if_false, menc_0, menc_1, menc_2, menc_3, menc_4, menc_5, menc_6, menc_7, menc_8, menc_9, menc_10, menc_11, menc_12, menc_13, menc_14, mf_0, mf_1, mf_2, mf_3, mf_4, mf_5, mf_6, mf_7, mf_8, mf_9, mf_10, mf_11, mf_12, mf_13, mf_14, mf_15, mf_16, mf_17, mf_18, mf_19, mf_20, mf_21, mf_22, mf_23, mf_24, mf_25, mf_26, mf_27, mf_28, mf_29, mf_30, mf_31, ms_4, ms_5, ms_6, ms_7, ms_8, ms_9, ms_10, ms_11, ms_12, ms_13, ms_14, ms_16, ms_17, ms_18, ms_19, ms_23, ms_24, ms_27, mu_1, mu_2, mu_3, mu_4, mu_5, mu_6, mu_7, mu_8, mu_9, mu_10, mu_11, mu_12, mu_13, mu_14]
      exact ⟨_, 0, by omega, rfl, rfl⟩
    · rintro μ lv st C n z ⟨i, hi, rfl, rfl, rfl, rfl, rfl, rfl⟩
      simp only [b_X12_mirrors_4, b_X12_mirrors_24, sp_X12_isMirror, isM_menc, mKd_e, s_psh, s_ild, s_lld, s_ald, s_ist, s_lst, s_ast, s_inc, s_ib, s_ibz, s_iu, s_lb, s_lbz, s_lu, s_ls, s_il, s_li, s_cmp, s_dup, s_pop, s_dup2, s_if1, s_if2, s_ifn, s_cv, s_cs, s_ci, s_oi, s_get, s_put, s_iald, s_lald, s_zald, s_iast, s_last, s_zast, s_alen, s_iret, s_lret, s_aret, s_vret, s_al, gpad, gl, gst, gclr, gc2, gent, gcat, Value.category, List.drop_succ_cons, List.drop_zero, List.take_succ_cons, List.take_zero, List.reverse_cons, List.reverse_nil, List.nil_append, List.cons_append, List.append_nil, List.map_cons, List.map_nil, List.sum_cons, List.sum_nil, List.length_cons, List.length_nil, Option.toList, cond_true, cond_false, Nat.reduceBEq, Nat.reduceAdd, Nat.reduceLeDiff, beq_self_eq_true, true_and, and_true, BEq.rfl, Bool.false_eq_true, if_true, if_false, menc_0, menc_1, menc_2, menc_3, menc_4, menc_5, menc_6, menc_7, menc_8, menc_9, menc_10, menc_11, menc_12, menc_13, menc_14, mf_0, mf_1, mf_2, mf_3, mf_4, mf_5, mf_6, mf_7, mf_8, mf_9, mf_10, mf_11, mf_12, mf_13, mf_14, mf_15, mf_16, mf_17, mf_18, mf_19, mf_20, mf_21, mf_22, mf_23, mf_24, mf_25, mf_26, mf_27, mf_28, mf_29, mf_30, mf_31, ms_4, ms_5, ms_6, ms_7, ms_8, ms_9, ms_10, ms_11, ms_12, ms_13, ms_14, ms_16, ms_17, ms_18, ms_19, ms_23, ms_24, ms_27, mu_1, mu_2, mu_3, mu_4, mu_5, mu_6, mu_7, mu_8, mu_9, mu_10, mu_11, mu_12, mu_13, mu_14]
      simp (disch := omega) only [true_and, and_true, lit, nI_add, nar_i, nar_0, nar_1, nar_b, fit_i, fit_l, pk_rem, nI_leI, nI_ltI, nI_eq, vin_iff, nI_clamp, nI_m1, bI_0]
      refine ⟨fun h => ?_, fun h => ⟨by omega, fun e => ⟨_, ?_, i + 1, by omega, rfl, ?_⟩, fun e => ⟨_, ?_, i + 1, by omega, rfl, ?_⟩⟩⟩
      · rw [show (30 : Nat) = i by omega] at hQ; exact hQ
      · omega
      · rw [howmany_f (tt_f e)]; rfl
      · omega
      · rw [howmany_t (tt_t (Classical.not_not.mp e))]
  · exact h.elim

def sp_X12_arc : gSp := fun as C n z Q => match as with
  | [.ref m, .int x] => isM C m ∧ Q (some (.int (pif (nI 1 ≤ x ∧ x ≤ nI 30) (nI (arcF (mKd C m) x.toNatClampNeg 30)) (-nI 1)))) C n z
  | _ => False
set_option maxRecDepth 100000 in
set_option maxHeartbeats 4000000 in
theorem c_X12_arc (l : Launch) : Con l yX12_arc cX12_arc 4 (some .int) 2 0 0 sp_X12_arc := by
  refine m_X12_arc (c_X12_barsFrom l) (by decide) (c_X12_isIn l) (by decide) ?_
  intro as C0 n0 z0 Q h
  unfold sp_X12_arc at h
  split at h
  · rename_i m x
    obtain ⟨⟨σ, w, A, L, R, rfl⟩, hQ⟩ := h
    simp only [mKd_e] at hQ
    by_cases hx : nI 1 ≤ x ∧ x ≤ nI 30
    rotate_left
    · rw [pif_f hx] at hQ
      refine ⟨Nat.le_of_ble_eq_true rfl, fun _ _ _ _ _ _ _ => False, ?_, fun _ _ _ _ _ _ h => h.elim⟩
      simp only [b_X12_arc_0, sp_X12_isIn, s_psh, s_ild, s_lld, s_ald, s_ist, s_lst, s_ast, s_inc, s_ib, s_ibz, s_iu, s_lb, s_lbz, s_lu, s_ls, s_il, s_li, s_cmp, s_dup, s_pop, s_dup2, s_if1, s_if2, s_ifn, s_cv, s_cs, s_ci, s_oi, s_get, s_put, s_iald, s_lald, s_zald, s_iast, s_last, s_zast, s_alen, s_iret, s_lret, s_aret, s_vret, s_al, gpad, gl, gst, gclr, gc2, gent, gcat, Value.category, List.drop_succ_cons, List.drop_zero, List.take_succ_cons, List.take_zero, List.reverse_cons, List.reverse_nil, List.nil_append, List.cons_append, List.append_nil, List.map_cons, List.map_nil, List.sum_cons, List.sum_nil, List.length_cons, List.length_nil, Option.toList, cond_true, cond_false, Nat.reduceBEq, Nat.reduceAdd, Nat.reduceLeDiff, beq_self_eq_true, true_and, and_true, BEq.rfl, Bool.false_eq_true, if_true, if_false, menc_0, menc_1, menc_2, menc_3, menc_4, menc_5, menc_6, menc_7, menc_8, menc_9, menc_10, menc_11, menc_12, menc_13, menc_14, mf_0, mf_1, mf_2, mf_3, mf_4, mf_5, mf_6, mf_7, mf_8, mf_9, mf_10, mf_11, mf_12, mf_13, mf_14, mf_15, mf_16, mf_17, mf_18, mf_19, mf_20, mf_21, mf_22, mf_23, mf_24, mf_25, mf_26, mf_27, mf_28, mf_29, mf_30, mf_31, ms_4, ms_5, ms_6, ms_7, ms_8, ms_9, ms_10, ms_11, ms_12, ms_13, ms_14, ms_16, ms_17, ms_18, ms_19, ms_23, ms_24, ms_27, mu_1, mu_2, mu_3, mu_4, mu_5, mu_6, mu_7, mu_8, mu_9, mu_10, mu_11, mu_12, mu_13, mu_14]
      simp (disch := omega) only [true_and, and_true, lit, nI_add, nar_i, nar_0, nar_1, nar_b, fit_i, fit_l, pk_rem, nI_leI, nI_ltI, nI_eq, vin_iff, nI_clamp, nI_m1, bI_0]
      exact ⟨fun _ => hQ, fun q => absurd hx q⟩
    rw [pif_t hx] at hQ
    obtain ⟨k, hk, rfl⟩ : ∃ k, k ≤ 30 ∧ x = nI k := by
      rcases int_in x 30 (by decide) with (h | h) | h
      · exact absurd (Int32.lt_of_lt_of_le h (by decide : nI 0 ≤ nI 1)) (Int32.not_lt.mpr hx.1)
      · exact absurd h (Int32.not_lt.mpr hx.2)
      · exact h
    simp (disch := omega) only [nI_clamp] at hQ
    refine ⟨Nat.le_of_ble_eq_true rfl, fun pc μ lv st C n z => ∃ i, 1 ≤ i ∧ i ≤ 30 ∧ μ = 30 - i ∧ lv = [some (.ref m), some (.int (nI k)), some (.int (nI (arcF (fun j => A 1 (9 + j)) k i))), some (.int (nI i))] ∧ st = [] ∧ C = menc m σ w A L R ∧ n = n0 ∧ z = z0, ?_, ?_⟩
    · simp only [b_X12_arc_0, sp_X12_isIn, s_psh, s_ild, s_lld, s_ald, s_ist, s_lst, s_ast, s_inc, s_ib, s_ibz, s_iu, s_lb, s_lbz, s_lu, s_ls, s_il, s_li, s_cmp, s_dup, s_pop, s_dup2, s_if1, s_if2, s_ifn, s_cv, s_cs, s_ci, s_oi, s_get, s_put, s_iald, s_lald, s_zald, s_iast, s_last, s_zast, s_alen, s_iret, s_lret, s_aret, s_vret, s_al, gpad, gl, gst, gclr, gc2, gent, gcat, Value.category, List.drop_succ_cons, List.drop_zero, List.take_succ_cons, List.take_zero, List.reverse_cons, List.reverse_nil, List.nil_append, List.cons_append, List.append_nil, List.map_cons, List.map_nil, List.sum_cons, List.sum_nil, List.length_cons, List.length_nil, Option.toList, cond_true, cond_false, Nat.reduceBEq, Nat.reduceAdd, Nat.reduceLeDiff, beq_self_eq_true, true_and, and_true, BEq.rfl, Bool.false_eq_true, if_true, if_false, menc_0, menc_1, menc_2, menc_3, menc_4, menc_5, menc_6, menc_7, menc_8, menc_9, menc_10, menc_11, menc_12, menc_13, menc_14, mf_0, mf_1, mf_2, mf_3, mf_4, mf_5, mf_6, mf_7, mf_8, mf_9, mf_10, mf_11, mf_12, mf_13, mf_14, mf_15, mf_16, mf_17, mf_18, mf_19, mf_20, mf_21, mf_22, mf_23, mf_24, mf_25, mf_26, mf_27, mf_28, mf_29, mf_30, mf_31, ms_4, ms_5, ms_6, ms_7, ms_8, ms_9, ms_10, ms_11, ms_12, ms_13, ms_14, ms_16, ms_17, ms_18, ms_19, ms_23, ms_24, ms_27, mu_1, mu_2, mu_3, mu_4, mu_5, mu_6, mu_7, mu_8, mu_9, mu_10, mu_11, mu_12, mu_13, mu_14]
      simp only [true_and, and_true, lit, nI_add, nar_i, nar_0, nar_1, nar_b, fit_i, fit_l, pk_rem, nI_leI, nI_ltI, nI_eq, vin_iff, nI_clamp, nI_m1, bI_0]
      refine ⟨fun q => absurd hx q, fun _ => ⟨_, 1, by omega, by omega, rfl, ?_⟩⟩
      rw [show arcF (fun j => A 1 (9 + j)) k 1 = 0 from Nat.le_zero.mp (arcF_lt _ k 0)]
    · rintro μ lv st C n z ⟨i, h1, hi, rfl, rfl, rfl, rfl, rfl, rfl⟩
      simp only [b_X12_arc_16, b_X12_arc_39, sp_X12_barsFrom, isM_menc, mKd_e, s_psh, s_ild, s_lld, s_ald, s_ist, s_lst, s_ast, s_inc, s_ib, s_ibz, s_iu, s_lb, s_lbz, s_lu, s_ls, s_il, s_li, s_cmp, s_dup, s_pop, s_dup2, s_if1, s_if2, s_ifn, s_cv, s_cs, s_ci, s_oi, s_get, s_put, s_iald, s_lald, s_zald, s_iast, s_last, s_zast, s_alen, s_iret, s_lret, s_aret, s_vret, s_al, gpad, gl, gst, gclr, gc2, gent, gcat, Value.category, List.drop_succ_cons, List.drop_zero, List.take_succ_cons, List.take_zero, List.reverse_cons, List.reverse_nil, List.nil_append, List.cons_append, List.append_nil, List.map_cons, List.map_nil, List.sum_cons, List.sum_nil, List.length_cons, List.length_nil, Option.toList, cond_true, cond_false, Nat.reduceBEq, Nat.reduceAdd, Nat.reduceLeDiff, beq_self_eq_true, true_and, and_true, BEq.rfl, Bool.false_eq_true, if_true, if_false, menc_0, menc_1, menc_2, menc_3, menc_4, menc_5, menc_6, menc_7, menc_8, menc_9, menc_10, menc_11, menc_12, menc_13, menc_14, mf_0, mf_1, mf_2, mf_3, mf_4, mf_5, mf_6, mf_7, mf_8, mf_9, mf_10, mf_11, mf_12, mf_13, mf_14, mf_15, mf_16, mf_17, mf_18, mf_19, mf_20, mf_21, mf_22, mf_23, mf_24, mf_25, mf_26, mf_27, mf_28, mf_29, mf_30, mf_31, ms_4, ms_5, ms_6, ms_7, ms_8, ms_9, ms_10, ms_11, ms_12, ms_13, ms_14, ms_16, ms_17, ms_18, ms_19, ms_23, ms_24, ms_27, mu_1, mu_2, mu_3, mu_4, mu_5, mu_6, mu_7, mu_8, mu_9, mu_10, mu_11, mu_12, mu_13, mu_14]
      simp (disch := omega) only [true_and, and_true, lit, nI_add, nar_i, nar_0, nar_1, nar_b, fit_i, fit_l, pk_rem, nI_leI, nI_ltI, nI_eq, vin_iff, nI_clamp, nI_m1]
      have hth : arcF (fun j => A 1 (9 + j)) k i < 30 := by
        obtain ⟨j, rfl⟩ : ∃ j, i = j + 1 := ⟨i - 1, by omega⟩
        have := arcF_lt (fun j => A 1 (9 + j)) k j
        omega
      have hc1 := cnt_le (fun j => A 1 (9 + j)) i k
      have hc2 := cnt_le (fun j => A 1 (9 + j)) (arcF (fun j => A 1 (9 + j)) k i) k
      simp (disch := omega) only [true_and, and_true, lit, nI_add, nar_i, nar_0, nar_1, nar_b, fit_i, fit_l, pk_rem, nI_leI, nI_ltI, nI_eq, vin_iff, nI_clamp, nI_m1]
      refine ⟨fun h => ?_, fun h => ⟨by omega, by omega, by omega, by omega, fun e => ⟨_, ?_, i + 1, by omega, by omega, rfl, ?_⟩, fun e => ⟨_, ?_, i + 1, by omega, by omega, rfl, ?_⟩⟩⟩
      · rw [show (30 : Nat) = i by omega] at hQ; exact hQ
      · omega
      · rw [show arcF (fun j => A 1 (9 + j)) k (i + 1) = arcF (fun j => A 1 (9 + j)) k i from if_neg (by omega)]
      · omega
      · rw [show arcF (fun j => A 1 (9 + j)) k (i + 1) = i from if_pos (by omega)]
  · exact h.elim

def sp_X12_quiet : gSp := fun as C n z Q => match as with
  | [.ref m, .int x] => isM C m ∧ Q (some (.int (pif (nI 1 ≤ x ∧ x ≤ nI 30) (nI (howmany (fun p => decide (cnt (mKd C m) p x.toNatClampNeg = 0)) 30)) (-nI 1)))) C n z
  | _ => False
set_option maxRecDepth 100000 in
set_option maxHeartbeats 4000000 in
theorem c_X12_quiet (l : Launch) : Con l yX12_quiet cX12_quiet 4 (some .int) 2 0 0 sp_X12_quiet := by
  refine m_X12_quiet (c_X12_barsFrom l) (by decide) (c_X12_isIn l) (by decide) ?_
  intro as C0 n0 z0 Q h
  unfold sp_X12_quiet at h
  split at h
  · rename_i m x
    obtain ⟨⟨σ, w, A, L, R, rfl⟩, hQ⟩ := h
    simp only [mKd_e] at hQ
    by_cases hx : nI 1 ≤ x ∧ x ≤ nI 30
    rotate_left
    · rw [pif_f hx] at hQ
      refine ⟨Nat.le_of_ble_eq_true rfl, fun _ _ _ _ _ _ _ => False, ?_, fun _ _ _ _ _ _ h => h.elim⟩
      simp only [b_X12_quiet_0, sp_X12_isIn, s_psh, s_ild, s_lld, s_ald, s_ist, s_lst, s_ast, s_inc, s_ib, s_ibz, s_iu, s_lb, s_lbz, s_lu, s_ls, s_il, s_li, s_cmp, s_dup, s_pop, s_dup2, s_if1, s_if2, s_ifn, s_cv, s_cs, s_ci, s_oi, s_get, s_put, s_iald, s_lald, s_zald, s_iast, s_last, s_zast, s_alen, s_iret, s_lret, s_aret, s_vret, s_al, gpad, gl, gst, gclr, gc2, gent, gcat, Value.category, List.drop_succ_cons, List.drop_zero, List.take_succ_cons, List.take_zero, List.reverse_cons, List.reverse_nil, List.nil_append, List.cons_append, List.append_nil, List.map_cons, List.map_nil, List.sum_cons, List.sum_nil, List.length_cons, List.length_nil, Option.toList, cond_true, cond_false, Nat.reduceBEq, Nat.reduceAdd, Nat.reduceLeDiff, beq_self_eq_true, true_and, and_true, BEq.rfl, Bool.false_eq_true, if_true, if_false, menc_0, menc_1, menc_2, menc_3, menc_4, menc_5, menc_6, menc_7, menc_8, menc_9, menc_10, menc_11, menc_12, menc_13, menc_14, mf_0, mf_1, mf_2, mf_3, mf_4, mf_5, mf_6, mf_7, mf_8, mf_9, mf_10, mf_11, mf_12, mf_13, mf_14, mf_15, mf_16, mf_17, mf_18, mf_19, mf_20, mf_21, mf_22, mf_23, mf_24, mf_25, mf_26, mf_27, mf_28, mf_29, mf_30, mf_31, ms_4, ms_5, ms_6, ms_7, ms_8, ms_9, ms_10, ms_11, ms_12, ms_13, ms_14, ms_16, ms_17, ms_18, ms_19, ms_23, ms_24, ms_27, mu_1, mu_2, mu_3, mu_4, mu_5, mu_6, mu_7, mu_8, mu_9, mu_10, mu_11, mu_12, mu_13, mu_14]
      simp (disch := omega) only [true_and, and_true, lit, nI_add, nar_i, nar_0, nar_1, nar_b, fit_i, fit_l, pk_rem, nI_leI, nI_ltI, nI_eq, vin_iff, nI_clamp, nI_m1, bI_0]
      exact ⟨fun _ => hQ, fun q => absurd hx q⟩
    rw [pif_t hx] at hQ
    obtain ⟨k, hk, rfl⟩ : ∃ k, k ≤ 30 ∧ x = nI k := by
      rcases int_in x 30 (by decide) with (h | h) | h
      · exact absurd (Int32.lt_of_lt_of_le h (by decide : nI 0 ≤ nI 1)) (Int32.not_lt.mpr hx.1)
      · exact absurd h (Int32.not_lt.mpr hx.2)
      · exact h
    simp (disch := omega) only [nI_clamp] at hQ
    refine ⟨Nat.le_of_ble_eq_true rfl, fun pc μ lv st C n z => ∃ i, i ≤ 30 ∧ μ = 30 - i ∧ lv = [some (.ref m), some (.int (nI k)), some (.int (nI (howmany (fun p => decide (cnt (fun j => A 1 (9 + j)) p k = 0)) i))), some (.int (nI i))] ∧ st = [] ∧ C = menc m σ w A L R ∧ n = n0 ∧ z = z0, ?_, ?_⟩
    · simp only [b_X12_quiet_0, sp_X12_isIn, s_psh, s_ild, s_lld, s_ald, s_ist, s_lst, s_ast, s_inc, s_ib, s_ibz, s_iu, s_lb, s_lbz, s_lu, s_ls, s_il, s_li, s_cmp, s_dup, s_pop, s_dup2, s_if1, s_if2, s_ifn, s_cv, s_cs, s_ci, s_oi, s_get, s_put, s_iald, s_lald, s_zald, s_iast, s_last, s_zast, s_alen, s_iret, s_lret, s_aret, s_vret, s_al, gpad, gl, gst, gclr, gc2, gent, gcat, Value.category, List.drop_succ_cons, List.drop_zero, List.take_succ_cons, List.take_zero, List.reverse_cons, List.reverse_nil, List.nil_append, List.cons_append, List.append_nil, List.map_cons, List.map_nil, List.sum_cons, List.sum_nil, List.length_cons, List.length_nil, Option.toList, cond_true, cond_false, Nat.reduceBEq, Nat.reduceAdd, Nat.reduceLeDiff, beq_self_eq_true, true_and, and_true, BEq.rfl, Bool.false_eq_true, if_true, if_false, menc_0, menc_1, menc_2, menc_3, menc_4, menc_5, menc_6, menc_7, menc_8, menc_9, menc_10, menc_11, menc_12, menc_13, menc_14, mf_0, mf_1, mf_2, mf_3, mf_4, mf_5, mf_6, mf_7, mf_8, mf_9, mf_10, mf_11, mf_12, mf_13, mf_14, mf_15, mf_16, mf_17, mf_18, mf_19, mf_20, mf_21, mf_22, mf_23, mf_24, mf_25, mf_26, mf_27, mf_28, mf_29, mf_30, mf_31, ms_4, ms_5, ms_6, ms_7, ms_8, ms_9, ms_10, ms_11, ms_12, ms_13, ms_14, ms_16, ms_17, ms_18, ms_19, ms_23, ms_24, ms_27, mu_1, mu_2, mu_3, mu_4, mu_5, mu_6, mu_7, mu_8, mu_9, mu_10, mu_11, mu_12, mu_13, mu_14]
      simp only [true_and, and_true, lit, nI_add, nar_i, nar_0, nar_1, nar_b, fit_i, fit_l, pk_rem, nI_leI, nI_ltI, nI_eq, vin_iff, nI_clamp, nI_m1, bI_0]
      exact ⟨fun q => absurd hx q, fun _ => ⟨_, 0, by omega, rfl, rfl⟩⟩
    · rintro μ lv st C n z ⟨i, hi, rfl, rfl, rfl, rfl, rfl, rfl⟩
      simp only [b_X12_quiet_16, b_X12_quiet_37, sp_X12_barsFrom, isM_menc, mKd_e, s_psh, s_ild, s_lld, s_ald, s_ist, s_lst, s_ast, s_inc, s_ib, s_ibz, s_iu, s_lb, s_lbz, s_lu, s_ls, s_il, s_li, s_cmp, s_dup, s_pop, s_dup2, s_if1, s_if2, s_ifn, s_cv, s_cs, s_ci, s_oi, s_get, s_put, s_iald, s_lald, s_zald, s_iast, s_last, s_zast, s_alen, s_iret, s_lret, s_aret, s_vret, s_al, gpad, gl, gst, gclr, gc2, gent, gcat, Value.category, List.drop_succ_cons, List.drop_zero, List.take_succ_cons, List.take_zero, List.reverse_cons, List.reverse_nil, List.nil_append, List.cons_append, List.append_nil, List.map_cons, List.map_nil, List.sum_cons, List.sum_nil, List.length_cons, List.length_nil, Option.toList, cond_true, cond_false, Nat.reduceBEq, Nat.reduceAdd, Nat.reduceLeDiff, beq_self_eq_true, true_and, and_true, BEq.rfl, Bool.false_eq_true, if_true, if_false, menc_0, menc_1, menc_2, menc_3, menc_4, menc_5, menc_6, menc_7, menc_8, menc_9, menc_10, menc_11, menc_12, menc_13, menc_14, mf_0, mf_1, mf_2, mf_3, mf_4, mf_5, mf_6, mf_7, mf_8, mf_9, mf_10, mf_11, mf_12, mf_13, mf_14, mf_15, mf_16, mf_17, mf_18, mf_19, mf_20, mf_21, mf_22, mf_23, mf_24, mf_25, mf_26, mf_27, mf_28, mf_29, mf_30, mf_31, ms_4, ms_5, ms_6, ms_7, ms_8, ms_9, ms_10, ms_11, ms_12, ms_13, ms_14, ms_16, ms_17, ms_18, ms_19, ms_23, ms_24, ms_27, mu_1, mu_2, mu_3, mu_4, mu_5, mu_6, mu_7, mu_8, mu_9, mu_10, mu_11, mu_12, mu_13, mu_14]
      simp (disch := omega) only [true_and, and_true, lit, nI_add, nar_i, nar_0, nar_1, nar_b, fit_i, fit_l, pk_rem, nI_leI, nI_ltI, nI_eq, vin_iff, nI_clamp, nI_m1]
      have hc1 := cnt_le (fun j => A 1 (9 + j)) i k
      simp (disch := omega) only [true_and, and_true, lit, nI_add, nar_i, nar_0, nar_1, nar_b, fit_i, fit_l, pk_rem, nI_leI, nI_ltI, nI_eq, vin_iff, nI_clamp, nI_m1]
      refine ⟨fun h => ?_, fun h => ⟨by omega, by omega, fun e => ⟨_, ?_, i + 1, by omega, rfl, ?_⟩, fun e => ⟨_, ?_, i + 1, by omega, rfl, ?_⟩⟩⟩
      · rw [show (30 : Nat) = i by omega] at hQ; exact hQ
      · omega
      · rw [howmany_t (by simp [e])]
      · omega
      · rw [howmany_f (by simp [e])]; rfl
  · exact h.elim
