/-! the reference: odds -/
def bl (K : Nat → Int32) (p : Nat) : Nat → List Nat
  | 0 => []
  | f + 1 => if K ((p + (59 - f)) % 30) = nI 3 then [] else if K ((p + (59 - f)) % 30) = nI 1 then (p + (59 - f)) % 30 :: bl K p f else bl K p f
theorem bl_s {K : Nat → Int32} {p i : Nat} (h : i < 60) : bl K p (60 - i) = if K ((p + i) % 30) = nI 3 then [] else if K ((p + i) % 30) = nI 1 then (p + i) % 30 :: bl K p (60 - (i + 1)) else bl K p (60 - (i + 1)) := by
  obtain ⟨f, hf⟩ : ∃ f, 60 - i = f + 1 := ⟨59 - i, by omega⟩
  rw [hf, show 60 - (i + 1) = f by omega, bl, show 59 - f = i by omega]
theorem bl_len (K : Nat → Int32) (p : Nat) : ∀ f, (bl K p f).length ≤ f
  | 0 => Nat.le_refl _
  | f + 1 => by
    have := bl_len K p f
    rw [bl]
    split
    · exact Nat.zero_le _
    · split
      · simp only [List.length_cons]; omega
      · omega
theorem bl_lt (K : Nat → Int32) (p : Nat) : ∀ f q, q ∈ bl K p f → q < 30
  | 0, q, h => by cases h
  | f + 1, q, h => by
    rw [bl] at h
    split at h
    · cases h
    · split at h
      · rcases List.mem_cons.mp h with e | e
        · rw [e]; exact Nat.mod_lt _ (by decide)
        · exact bl_lt K p f q e
      · exact bl_lt K p f q h
theorem barsL_bl (K : Nat → Int32) (p : Nat) : ∀ f k (g : Nat → Int32), (barsL K p f k g).1 = k + (bl K p f).length ∧ (∀ j, j < k → (barsL K p f k g).2 j = g j) ∧ ∀ j q, (bl K p f)[j]? = some q → (barsL K p f k g).2 (k + j) = nI q
  | 0, k, g => ⟨rfl, fun _ _ => rfl, fun j q h => by simp [bl] at h⟩
  | f + 1, k, g => by
    rw [barsL, bl]
    split
    · exact ⟨rfl, fun _ _ => rfl, fun j q h => by simp at h⟩
    · split
      · obtain ⟨i1, i2, i3⟩ := barsL_bl K p f (k + 1) (upd g k (nI ((p + (59 - f)) % 30)))
        refine ⟨by rw [i1]; simp only [List.length_cons]; omega, fun j hj => by rw [i2 j (by omega), pk_un (by omega)], fun j q h => ?_⟩
        cases j with
        | zero =>
          simp only [List.getElem?_cons_zero, Option.some.injEq] at h
          rw [← h]
          exact (i2 k (by omega)).trans pk_us
        | succ j =>
          rw [List.getElem?_cons_succ] at h
          rw [show k + (j + 1) = k + 1 + j by omega]
          exact i3 j q h
      · exact barsL_bl K p f k g
def barsOK (σ : Nat → Int32) (A : Nat → Nat → Int32) (B : List Nat) : Prop := σ 27 = nI B.length ∧ B.length ≤ 60 ∧ (∀ q, q ∈ B → q < 30) ∧ ∀ j q, B[j]? = some q → A 10 j = nI q
def MO (σ : Nat → Int32) (A : Nat → Nat → Int32) (σ' : Nat → Int32) (A' : Nat → Nat → Int32) : Prop := (∀ j, j ≠ 27 → σ' j = σ j) ∧ (∀ j, j ≠ 6 → j ≠ 8 → j ≠ 10 → A' j = A j) ∧ NS (A' 6)
theorem MO.refl {σ : Nat → Int32} {A : Nat → Nat → Int32} (h : NS (A 6)) : MO σ A σ A := ⟨fun _ _ => rfl, fun _ _ _ _ => rfl, h⟩
theorem MO.trans {σ0 σ1 σ2 : Nat → Int32} {A0 A1 A2 : Nat → Nat → Int32} (h : MO σ0 A0 σ1 A1) (h2 : MO σ1 A1 σ2 A2) : MO σ0 A0 σ2 A2 := ⟨fun j q => by rw [h2.1 j q, h.1 j q], fun j q1 q2 q3 => by rw [h2.2.1 j q1 q2 q3, h.2.1 j q1 q2 q3], h2.2.2⟩
theorem MO.ms {σ σ' : Nat → Int32} {A A' : Nat → Nat → Int32} {tx : Nat → List rCl} {N : Nat} (h : MO σ A σ' A') (hm : MS σ A tx N) : MS σ' A' tx N := ⟨by rw [h.2.1 3 (by decide) (by decide) (by decide)]; exact hm.1, by rw [h.2.1 1 (by decide) (by decide) (by decide)]; exact hm.2.1, h.2.2, by rw [h.1 23 (by decide)]; exact hm.2.2.2⟩
/-- the bars ahead are laid -/
def sp_X12_layB : gSp := fun as C n z Q => match as with
  | [.ref m, .int v] => ∃ σ w A L R p, C = menc m σ w A L R ∧ v = nI p ∧ p < 30 ∧ NS (A 6) ∧ ∀ σ' A', MO σ A σ' A' → barsOK σ' A' (bl (fun j => A 1 (9 + j)) p 60) → Q none (menc m σ' w A' L R) n z
  | _ => False
theorem c_X12_layB (l : Launch) : Con l yX12_layBars cX12_layBars 4 none 1 0 0 sp_X12_layB := by
  refine Con.mono (c_X12_layBars l) ?_
  intro as C n z Q h
  unfold sp_X12_layB at h
  split at h
  · obtain ⟨σ, w, A, L, R, p, rfl, rfl, hp, hNS, hQ⟩ := h
    refine ⟨⟨σ, w, A, L, R, rfl⟩, (vin_iff (by omega)).mpr hp, ?_⟩
    rw [nI_clamp (by omega), mKd_e, ma_10, mu_10, ms_27]
    obtain ⟨b1, b2, b3⟩ := barsL_bl (fun j => A 1 (9 + j)) p 60 0 (A 10)
    refine hQ _ _ ⟨fun j q => by rw [supa, if_neg q], fun j q1 q2 q3 => by rw [supa, if_neg q3], by rw [supa, if_neg (by decide)]; exact hNS⟩ ⟨?_, bl_len _ _ _, bl_lt _ _ _, fun j q hq => ?_⟩
    · rw [supa, if_pos rfl, b1, Nat.zero_add]
    · rw [supa, if_pos rfl]
      have := b3 j q hq
      rw [Nat.zero_add] at this
      exact this
  · exact h.elim
def cvB (tx : Nat → List rCl) (a : Nat → Int32) (c : Nat) (B : List Nat) (k : Nat) : Nat := catF tx a (ruleO a) c (B.getD (k - 1) 0) k
theorem cvB_le (tx : Nat → List rCl) (a : Nat → Int32) (c : Nat) (B : List Nat) (k : Nat) : cvB tx a c B k ≤ 10 := catF_le _ _ _ _ _ _
def sp_X12_caughtAt : gSp := fun as C n z Q => match as with
  | [.ref m, .int u, .int y] => ∃ σ w A L R tx N c k B, C = menc m σ w A L R ∧ MS σ A tx N ∧ u = nI c ∧ y = nI k ∧ c < 7 ∧ barsOK σ A B ∧ 1 ≤ k ∧ k ≤ B.length ∧ ∀ A' L', (∀ j, j ≠ 6 → j ≠ 8 → A' j = A j) → (∀ j, j ≠ 7 → L' j = L j) → NS (A' 6) → Q (some (.int (nI (cvB tx (A 1) c B k)))) (menc m σ w A' L' R) n z
  | _ => False
set_option maxRecDepth 100000 in
set_option maxHeartbeats 4000000 in
theorem c_X12_caughtAt (l : Launch) : Con l yX12_caughtAt cX12_caughtAt 3 (some .int) 5 0 0 sp_X12_caughtAt := by
  refine m_X12_caughtAt (c_X12_catchesOf l) (by decide) ?_
  intro as C0 n0 z0 Q h
  unfold sp_X12_caughtAt at h
  split at h
  · rename_i m u y
    obtain ⟨σ, w, A, L, R, tx, N, c, k, B, rfl, ⟨hT, hD, hNS, h23⟩, rfl, rfl, hc, ⟨h27, hB60, hB30, hB⟩, hk1, hk2, hQ⟩ := h
    obtain ⟨hr2, hrN⟩ := hD.1.2.1.e hT.1
    have hkl : k - 1 < B.length := by omega
    have eB := hB (k - 1) _ (List.getElem?_eq_getElem hkl)
    have eq30 := hB30 _ (List.getElem_mem hkl)
    have egd : B.getD (k - 1) 0 = B[k - 1] := by rw [List.getD_eq_getElem?_getD, List.getElem?_eq_getElem hkl]; rfl
    unfold cvB at hQ
    rw [egd] at hQ
    generalize B[k - 1] = q at *
    refine ⟨Nat.le_of_ble_eq_true rfl, ?_⟩
    simp only [b_X12_caughtAt_0, sp_X12_catchesOf, s_psh, s_ild, s_lld, s_ald, s_ist, s_lst, s_ast, s_inc, s_ib, s_ibz, s_iu, s_lb, s_lbz, s_lu, s_ls, s_il, s_li, s_cmp, s_dup, s_pop, s_dup2, s_cv, s_cs, s_ci, s_oi, s_get, s_put, s_iald, s_lald, s_zald, s_iast, s_last, s_zast, s_alen, s_iret, s_lret, s_aret, s_vret, s_al, gpad, gl, gst, gclr, gc2, gent, gcat, Value.category, List.drop_succ_cons, List.drop_zero, List.take_succ_cons, List.take_zero, List.reverse_cons, List.reverse_nil, List.nil_append, List.cons_append, List.append_nil, List.map_cons, List.map_nil, List.sum_cons, List.sum_nil, List.length_cons, List.length_nil, Option.toList, cond_true, cond_false, Nat.reduceBEq, Nat.reduceAdd, Nat.reduceLeDiff, beq_self_eq_true, true_and, and_true, BEq.rfl, Bool.false_eq_true, if_true, if_false, menc_0, menc_1, menc_2, menc_3, menc_4, menc_5, menc_6, menc_7, menc_8, menc_9, menc_10, menc_11, menc_12, menc_13, menc_14, mf_0, mf_1, mf_2, mf_3, mf_4, mf_5, mf_6, mf_7, mf_8, mf_9, mf_10, mf_11, mf_12, mf_13, mf_14, mf_15, mf_16, mf_17, mf_18, mf_19, mf_20, mf_21, mf_22, mf_23, mf_24, mf_25, mf_26, mf_27, mf_28, mf_29, mf_30, mf_31, ms_4, ms_5, ms_6, ms_7, ms_8, ms_9, ms_10, ms_11, ms_12, ms_13, ms_14, ms_16, ms_17, ms_18, ms_19, ms_23, ms_24, ms_27, mu_1, mu_2, mu_3, mu_4, mu_5, mu_6, mu_7, mu_8, mu_9, mu_10, mu_11, mu_12, mu_13, mu_14]
    simp (disch := omega) only [true_and, and_true, lit, nI_add, nar_i, nar_0, nar_1, nar_b, fit_i, fit_l, pk_rem, nI_leI, nI_ltI, nI_eq, vin_iff, nI_clamp, nI_m1, Nat.reduceLT, pk_sub, eB, hr2]
    refine ⟨by omega, σ, w, A, L, R, ruleO (A 1), tx, N, c, q, k, rfl, rfl, rfl, rfl, rfl, hc, eq30, by omega, hT, hrN, hD.1.sm, fun A' L' fA fL h6 => ?_⟩
    try simp only [s_psh, s_ild, s_lld, s_ald, s_ist, s_lst, s_ast, s_inc, s_ib, s_ibz, s_iu, s_lb, s_lbz, s_lu, s_ls, s_il, s_li, s_cmp, s_dup, s_pop, s_dup2, s_cv, s_cs, s_ci, s_oi, s_get, s_put, s_iald, s_lald, s_zald, s_iast, s_last, s_zast, s_alen, s_iret, s_lret, s_aret, s_vret, s_al, gpad, gl, gst, gclr, gc2, gent, gcat, Value.category, List.drop_succ_cons, List.drop_zero, List.take_succ_cons, List.take_zero, List.reverse_cons, List.reverse_nil, List.nil_append, List.cons_append, List.append_nil, List.map_cons, List.map_nil, List.sum_cons, List.sum_nil, List.length_cons, List.length_nil, Option.toList, cond_true, cond_false, Nat.reduceBEq, Nat.reduceAdd, Nat.reduceLeDiff, beq_self_eq_true, true_and, and_true, BEq.rfl, Bool.false_eq_true, if_true, if_false, menc_0, menc_1, menc_2, menc_3, menc_4, menc_5, menc_6, menc_7, menc_8, menc_9, menc_10, menc_11, menc_12, menc_13, menc_14, mf_0, mf_1, mf_2, mf_3, mf_4, mf_5, mf_6, mf_7, mf_8, mf_9, mf_10, mf_11, mf_12, mf_13, mf_14, mf_15, mf_16, mf_17, mf_18, mf_19, mf_20, mf_21, mf_22, mf_23, mf_24, mf_25, mf_26, mf_27, mf_28, mf_29, mf_30, mf_31, ms_4, ms_5, ms_6, ms_7, ms_8, ms_9, ms_10, ms_11, ms_12, ms_13, ms_14, ms_16, ms_17, ms_18, ms_19, ms_23, ms_24, ms_27, mu_1, mu_2, mu_3, mu_4, mu_5, mu_6, mu_7, mu_8, mu_9, mu_10, mu_11, mu_12, mu_13, mu_14]
    try simp only [true_and, and_true, lit, nI_add, nar_i, nar_0, nar_1, nar_b, fit_i, fit_l, pk_rem, nI_leI, nI_ltI, nI_eq, vin_iff, nI_clamp, nI_m1]
    exact hQ A' L' fA fL h6
  · exact h.elim
def prB (f : Nat → Nat) : Nat → Nat
  | 0 => 1
  | k + 1 => prB f k * (10 - f (k + 1))
theorem prB_le (f : Nat → Nat) : ∀ k, prB f k ≤ 10 ^ k
  | 0 => Nat.le_refl _
  | k + 1 => by
    rw [prB, Nat.pow_succ]
    exact Nat.mul_le_mul (prB_le f k) (by omega)
def wgt (f : Nat → Nat) (len n : Nat) : Nat := if len < n then 0 else if n = 0 then (if len = 0 then 1 else 0) else prB f (n - 1) * (if n = len then 10 else f n)
theorem wgt_le (f : Nat → Nat) (hf : ∀ k, f k ≤ 10) (len n : Nat) : wgt f len n ≤ 10 ^ n := by
  unfold wgt
  split
  · exact Nat.zero_le _
  · split
    · rename_i e
      rw [e]
      split <;> simp
    · rename_i e
      obtain ⟨k, rfl⟩ : ∃ k, n = k + 1 := ⟨n - 1, by omega⟩
      rw [Nat.pow_succ]
      refine Nat.mul_le_mul (prB_le f k) ?_
      split
      · exact Nat.le_refl _
      · exact hf _
theorem p12 {n : Nat} (h : n ≤ 12) : 10 ^ n ≤ 1000000000000 := Nat.pow_le_pow_right (by decide) h
def wgF (tx : Nat → List rCl) (a : Nat → Int32) (c p k : Nat) : Nat := wgt (cvB tx a c (bl (fun j => a (9 + j)) p 60)) (bl (fun j => a (9 + j)) p 60).length k
theorem wgF_le (tx : Nat → List rCl) (a : Nat → Int32) (c p k : Nat) : wgF tx a c p k ≤ 10 ^ k := wgt_le _ (fun _ => cvB_le _ _ _ _ _) _ _
def weI (m : Nat) (tx : Nat → List rCl) (c p k : Nat) (B : List Nat) (σ : Nat → Int32) (w : Int64) (A : Nat → Nat → Int32) (L : Nat → Nat → Int64) (R : gC) (n0 z0 μ : Nat) : gKo := fun lv st C n z => st = [] ∧ n = n0 ∧ z = z0 ∧ ∃ σ' A' L' i, C = menc m σ' w A' L' R ∧ MO σ A σ' A' ∧ (∀ j, j ≠ 7 → L' j = L j) ∧ barsOK σ' A' B ∧ k ≤ B.length ∧ 1 ≤ i ∧ i ≤ k ∧ μ = k - i ∧ lv = [some (.ref m), some (.int (nI c)), some (.int (nI p)), some (.int (nI k)), some (.long (lN (prB (cvB tx (A 1) c B) (i - 1)))), none, some (.int (nI i))]
def sp_X12_weightOf : gSp := fun as C n z Q => match as with
  | [.ref m, .int u, .int v, .int y] => ∃ σ w A L R tx N c p k, C = menc m σ w A L R ∧ MS σ A tx N ∧ u = nI c ∧ v = nI p ∧ y = nI k ∧ c < 7 ∧ p < 30 ∧ k ≤ 12 ∧ ∀ σ' A' L', MO σ A σ' A' → (∀ j, j ≠ 7 → L' j = L j) → Q (some (.long (lN (wgF tx (A 1) c p k)))) (menc m σ' w A' L' R) n z
  | _ => False
set_option maxRecDepth 100000 in
set_option maxHeartbeats 4000000 in
theorem c_X12_weightOf (l : Launch) : Con l yX12_weightOf cX12_weightOf 7 (some .long) 6 0 0 sp_X12_weightOf := by
  refine m_X12_weightOf (c_X12_caughtAt l) (by decide) (c_X12_layB l) (by decide) ?_
  intro as C0 n0 z0 Q h
  unfold sp_X12_weightOf at h
  split at h
  · rename_i m u v y
    obtain ⟨σ, w, A, L, R, tx, N, c, p, k, rfl, hMS, rfl, rfl, rfl, hc, hp, hk, hQ⟩ := h
    unfold wgF at hQ
    generalize hB : bl (fun j => A 1 (9 + j)) p 60 = B at *
    refine ⟨Nat.le_of_ble_eq_true rfl, fun pc μ => weI m tx c p k B σ w A L R n0 z0 μ, ?_, ?_⟩
    · simp only [b_X12_weightOf_0, sp_X12_layB, s_psh, s_ild, s_lld, s_ald, s_ist, s_lst, s_ast, s_inc, s_ib, s_ibz, s_iu, s_lb, s_lbz, s_lu, s_ls, s_il, s_li, s_cmp, s_dup, s_pop, s_dup2, s_cv, s_cs, s_ci, s_oi, s_get, s_put, s_iald, s_lald, s_zald, s_iast, s_last, s_zast, s_alen, s_iret, s_lret, s_aret, s_vret, s_al, gpad, gl, gst, gclr, gc2, gent, gcat, Value.category, List.drop_succ_cons, List.drop_zero, List.take_succ_cons, List.take_zero, List.reverse_cons, List.reverse_nil, List.nil_append, List.cons_append, List.append_nil, List.map_cons, List.map_nil, List.sum_cons, List.sum_nil, List.length_cons, List.length_nil, Option.toList, cond_true, cond_false, Nat.reduceBEq, Nat.reduceAdd, Nat.reduceLeDiff, beq_self_eq_true, true_and, and_true, BEq.rfl, Bool.false_eq_true, if_true, if_false, menc_0, menc_1, menc_2, menc_3, menc_4, menc_5, menc_6, menc_7, menc_8, menc_9, menc_10, menc_11, menc_12, menc_13, menc_14, mf_0, mf_1, mf_2, mf_3, mf_4, mf_5, mf_6, mf_7, mf_8, mf_9, mf_10, mf_11, mf_12, mf_13, mf_14, mf_15, mf_16, mf_17, mf_18, mf_19, mf_20, mf_21, mf_22, mf_23, mf_24, mf_25, mf_26, mf_27, mf_28, mf_29, mf_30, mf_31, ms_4, ms_5, ms_6, ms_7, ms_8, ms_9, ms_10, ms_11, ms_12, ms_13, ms_14, ms_16, ms_17, ms_18, ms_19, ms_23, ms_24, ms_27, mu_1, mu_2, mu_3, mu_4, mu_5, mu_6, mu_7, mu_8, mu_9, mu_10, mu_11, mu_12, mu_13, mu_14]
      refine ⟨σ, w, A, L, R, p, rfl, rfl, hp, hMS.2.2.1, fun σ1 A1 hM1 hB1 => ?_⟩
      rw [hB] at hB1
      have hB1' := hB1
      obtain ⟨h27, hB60, hB30, hBv⟩ := hB1'
      try simp only [s_psh, s_ild, s_lld, s_ald, s_ist, s_lst, s_ast, s_inc, s_ib, s_ibz, s_iu, s_lb, s_lbz, s_lu, s_ls, s_il, s_li, s_cmp, s_dup, s_pop, s_dup2, s_cv, s_cs, s_ci, s_oi, s_get, s_put, s_iald, s_lald, s_zald, s_iast, s_last, s_zast, s_alen, s_iret, s_lret, s_aret, s_vret, s_al, gpad, gl, gst, gclr, gc2, gent, gcat, Value.category, List.drop_succ_cons, List.drop_zero, List.take_succ_cons, List.take_zero, List.reverse_cons, List.reverse_nil, List.nil_append, List.cons_append, List.append_nil, List.map_cons, List.map_nil, List.sum_cons, List.sum_nil, List.length_cons, List.length_nil, Option.toList, cond_true, cond_false, Nat.reduceBEq, Nat.reduceAdd, Nat.reduceLeDiff, beq_self_eq_true, true_and, and_true, BEq.rfl, Bool.false_eq_true, if_true, if_false, menc_0, menc_1, menc_2, menc_3, menc_4, menc_5, menc_6, menc_7, menc_8, menc_9, menc_10, menc_11, menc_12, menc_13, menc_14, mf_0, mf_1, mf_2, mf_3, mf_4, mf_5, mf_6, mf_7, mf_8, mf_9, mf_10, mf_11, mf_12, mf_13, mf_14, mf_15, mf_16, mf_17, mf_18, mf_19, mf_20, mf_21, mf_22, mf_23, mf_24, mf_25, mf_26, mf_27, mf_28, mf_29, mf_30, mf_31, ms_4, ms_5, ms_6, ms_7, ms_8, ms_9, ms_10, ms_11, ms_12, ms_13, ms_14, ms_16, ms_17, ms_18, ms_19, ms_23, ms_24, ms_27, mu_1, mu_2, mu_3, mu_4, mu_5, mu_6, mu_7, mu_8, mu_9, mu_10, mu_11, mu_12, mu_13, mu_14]
      simp only [true_and, and_true, lit, nI_add, nar_i, nar_0, nar_1, nar_b, fit_i, fit_l, pk_rem, nI_leI, nI_ltI, nI_eq, vin_iff, nI_clamp, nI_m1, h27]
      refine if2i (fun e => ?_) (fun e => ?_)
      · rw [nI_leI (by omega) (by omega)] at e
        simp only [s_psh, s_ild, s_lld, s_ald, s_ist, s_lst, s_ast, s_inc, s_ib, s_ibz, s_iu, s_lb, s_lbz, s_lu, s_ls, s_il, s_li, s_cmp, s_dup, s_pop, s_dup2, s_cv, s_cs, s_ci, s_oi, s_get, s_put, s_iald, s_lald, s_zald, s_iast, s_last, s_zast, s_alen, s_iret, s_lret, s_aret, s_vret, s_al, gpad, gl, gst, gclr, gc2, gent, gcat, Value.category, List.drop_succ_cons, List.drop_zero, List.take_succ_cons, List.take_zero, List.reverse_cons, List.reverse_nil, List.nil_append, List.cons_append, List.append_nil, List.map_cons, List.map_nil, List.sum_cons, List.sum_nil, List.length_cons, List.length_nil, Option.toList, cond_true, cond_false, Nat.reduceBEq, Nat.reduceAdd, Nat.reduceLeDiff, beq_self_eq_true, true_and, and_true, BEq.rfl, Bool.false_eq_true, if_true, if_false, menc_0, menc_1, menc_2, menc_3, menc_4, menc_5, menc_6, menc_7, menc_8, menc_9, menc_10, menc_11, menc_12, menc_13, menc_14, mf_0, mf_1, mf_2, mf_3, mf_4, mf_5, mf_6, mf_7, mf_8, mf_9, mf_10, mf_11, mf_12, mf_13, mf_14, mf_15, mf_16, mf_17, mf_18, mf_19, mf_20, mf_21, mf_22, mf_23, mf_24, mf_25, mf_26, mf_27, mf_28, mf_29, mf_30, mf_31, ms_4, ms_5, ms_6, ms_7, ms_8, ms_9, ms_10, ms_11, ms_12, ms_13, ms_14, ms_16, ms_17, ms_18, ms_19, ms_23, ms_24, ms_27, mu_1, mu_2, mu_3, mu_4, mu_5, mu_6, mu_7, mu_8, mu_9, mu_10, mu_11, mu_12, mu_13, mu_14]
        refine if1i (fun e0 => ?_) (fun e0 => ?_)
        · rw [nI_eq (by omega) (by decide)] at e0
          have hw : wgt (cvB tx (A 1) c B) B.length k = if B.length = 0 then 1 else 0 := by
            unfold wgt
            rw [if_neg (by omega), if_pos e0]
          rw [hw] at hQ
          simp only [s_psh, s_ild, s_lld, s_ald, s_ist, s_lst, s_ast, s_inc, s_ib, s_ibz, s_iu, s_lb, s_lbz, s_lu, s_ls, s_il, s_li, s_cmp, s_dup, s_pop, s_dup2, s_cv, s_cs, s_ci, s_oi, s_get, s_put, s_iald, s_lald, s_zald, s_iast, s_last, s_zast, s_alen, s_iret, s_lret, s_aret, s_vret, s_al, gpad, gl, gst, gclr, gc2, gent, gcat, Value.category, List.drop_succ_cons, List.drop_zero, List.take_succ_cons, List.take_zero, List.reverse_cons, List.reverse_nil, List.nil_append, List.cons_append, List.append_nil, List.map_cons, List.map_nil, List.sum_cons, List.sum_nil, List.length_cons, List.length_nil, Option.toList, cond_true, cond_false, Nat.reduceBEq, Nat.reduceAdd, Nat.reduceLeDiff, beq_self_eq_true, true_and, and_true, BEq.rfl, Bool.false_eq_true, if_true, if_false, menc_0, menc_1, menc_2, menc_3, menc_4, menc_5, menc_6, menc_7, menc_8, menc_9, menc_10, menc_11, menc_12, menc_13, menc_14, mf_0, mf_1, mf_2, mf_3, mf_4, mf_5, mf_6, mf_7, mf_8, mf_9, mf_10, mf_11, mf_12, mf_13, mf_14, mf_15, mf_16, mf_17, mf_18, mf_19, mf_20, mf_21, mf_22, mf_23, mf_24, mf_25, mf_26, mf_27, mf_28, mf_29, mf_30, mf_31, ms_4, ms_5, ms_6, ms_7, ms_8, ms_9, ms_10, ms_11, ms_12, ms_13, ms_14, ms_16, ms_17, ms_18, ms_19, ms_23, ms_24, ms_27, mu_1, mu_2, mu_3, mu_4, mu_5, mu_6, mu_7, mu_8, mu_9, mu_10, mu_11, mu_12, mu_13, mu_14]
          simp only [true_and, and_true, lit, nI_add, nar_i, nar_0, nar_1, nar_b, fit_i, fit_l, pk_rem, nI_leI, nI_ltI, nI_eq, vin_iff, nI_clamp, nI_m1, h27]
          refine if1i (fun e1 => ?_) (fun e1 => ?_)
          · rw [nI_eq (by omega) (by decide)] at e1
            rw [if_pos e1] at hQ
            simp only [b_X12_weightOf_31, s_psh, s_ild, s_lld, s_ald, s_ist, s_lst, s_ast, s_inc, s_ib, s_ibz, s_iu, s_lb, s_lbz, s_lu, s_ls, s_il, s_li, s_cmp, s_dup, s_pop, s_dup2, s_cv, s_cs, s_ci, s_oi, s_get, s_put, s_iald, s_lald, s_zald, s_iast, s_last, s_zast, s_alen, s_iret, s_lret, s_aret, s_vret, s_al, gpad, gl, gst, gclr, gc2, gent, gcat, Value.category, List.drop_succ_cons, List.drop_zero, List.take_succ_cons, List.take_zero, List.reverse_cons, List.reverse_nil, List.nil_append, List.cons_append, List.append_nil, List.map_cons, List.map_nil, List.sum_cons, List.sum_nil, List.length_cons, List.length_nil, Option.toList, cond_true, cond_false, Nat.reduceBEq, Nat.reduceAdd, Nat.reduceLeDiff, beq_self_eq_true, true_and, and_true, BEq.rfl, Bool.false_eq_true, if_true, if_false, menc_0, menc_1, menc_2, menc_3, menc_4, menc_5, menc_6, menc_7, menc_8, menc_9, menc_10, menc_11, menc_12, menc_13, menc_14, mf_0, mf_1, mf_2, mf_3, mf_4, mf_5, mf_6, mf_7, mf_8, mf_9, mf_10, mf_11, mf_12, mf_13, mf_14, mf_15, mf_16, mf_17, mf_18, mf_19, mf_20, mf_21, mf_22, mf_23, mf_24, mf_25, mf_26, mf_27, mf_28, mf_29, mf_30, mf_31, ms_4, ms_5, ms_6, ms_7, ms_8, ms_9, ms_10, ms_11, ms_12, ms_13, ms_14, ms_16, ms_17, ms_18, ms_19, ms_23, ms_24, ms_27, mu_1, mu_2, mu_3, mu_4, mu_5, mu_6, mu_7, mu_8, mu_9, mu_10, mu_11, mu_12, mu_13, mu_14]
            exact hQ σ1 A1 L hM1 (fun _ _ => rfl)
          · rw [nI_eq (by omega) (by decide)] at e1
            rw [if_neg e1] at hQ
            simp only [b_X12_weightOf_31, s_psh, s_ild, s_lld, s_ald, s_ist, s_lst, s_ast, s_inc, s_ib, s_ibz, s_iu, s_lb, s_lbz, s_lu, s_ls, s_il, s_li, s_cmp, s_dup, s_pop, s_dup2, s_cv, s_cs, s_ci, s_oi, s_get, s_put, s_iald, s_lald, s_zald, s_iast, s_last, s_zast, s_alen, s_iret, s_lret, s_aret, s_vret, s_al, gpad, gl, gst, gclr, gc2, gent, gcat, Value.category, List.drop_succ_cons, List.drop_zero, List.take_succ_cons, List.take_zero, List.reverse_cons, List.reverse_nil, List.nil_append, List.cons_append, List.append_nil, List.map_cons, List.map_nil, List.sum_cons, List.sum_nil, List.length_cons, List.length_nil, Option.toList, cond_true, cond_false, Nat.reduceBEq, Nat.reduceAdd, Nat.reduceLeDiff, beq_self_eq_true, true_and, and_true, BEq.rfl, Bool.false_eq_true, if_true, if_false, menc_0, menc_1, menc_2, menc_3, menc_4, menc_5, menc_6, menc_7, menc_8, menc_9, menc_10, menc_11, menc_12, menc_13, menc_14, mf_0, mf_1, mf_2, mf_3, mf_4, mf_5, mf_6, mf_7, mf_8, mf_9, mf_10, mf_11, mf_12, mf_13, mf_14, mf_15, mf_16, mf_17, mf_18, mf_19, mf_20, mf_21, mf_22, mf_23, mf_24, mf_25, mf_26, mf_27, mf_28, mf_29, mf_30, mf_31, ms_4, ms_5, ms_6, ms_7, ms_8, ms_9, ms_10, ms_11, ms_12, ms_13, ms_14, ms_16, ms_17, ms_18, ms_19, ms_23, ms_24, ms_27, mu_1, mu_2, mu_3, mu_4, mu_5, mu_6, mu_7, mu_8, mu_9, mu_10, mu_11, mu_12, mu_13, mu_14]
            exact hQ σ1 A1 L hM1 (fun _ _ => rfl)
        · rw [nI_eq (by omega) (by decide)] at e0
          simp only [s_psh, s_ild, s_lld, s_ald, s_ist, s_lst, s_ast, s_inc, s_ib, s_ibz, s_iu, s_lb, s_lbz, s_lu, s_ls, s_il, s_li, s_cmp, s_dup, s_pop, s_dup2, s_cv, s_cs, s_ci, s_oi, s_get, s_put, s_iald, s_lald, s_zald, s_iast, s_last, s_zast, s_alen, s_iret, s_lret, s_aret, s_vret, s_al, gpad, gl, gst, gclr, gc2, gent, gcat, Value.category, List.drop_succ_cons, List.drop_zero, List.take_succ_cons, List.take_zero, List.reverse_cons, List.reverse_nil, List.nil_append, List.cons_append, List.append_nil, List.map_cons, List.map_nil, List.sum_cons, List.sum_nil, List.length_cons, List.length_nil, Option.toList, cond_true, cond_false, Nat.reduceBEq, Nat.reduceAdd, Nat.reduceLeDiff, beq_self_eq_true, true_and, and_true, BEq.rfl, Bool.false_eq_true, if_true, if_false, menc_0, menc_1, menc_2, menc_3, menc_4, menc_5, menc_6, menc_7, menc_8, menc_9, menc_10, menc_11, menc_12, menc_13, menc_14, mf_0, mf_1, mf_2, mf_3, mf_4, mf_5, mf_6, mf_7, mf_8, mf_9, mf_10, mf_11, mf_12, mf_13, mf_14, mf_15, mf_16, mf_17, mf_18, mf_19, mf_20, mf_21, mf_22, mf_23, mf_24, mf_25, mf_26, mf_27, mf_28, mf_29, mf_30, mf_31, ms_4, ms_5, ms_6, ms_7, ms_8, ms_9, ms_10, ms_11, ms_12, ms_13, ms_14, ms_16, ms_17, ms_18, ms_19, ms_23, ms_24, ms_27, mu_1, mu_2, mu_3, mu_4, mu_5, mu_6, mu_7, mu_8, mu_9, mu_10, mu_11, mu_12, mu_13, mu_14]
          exact ⟨_, rfl, rfl, rfl, σ1, A1, L, 1, rfl, hM1, fun _ _ => rfl, hB1, e, Nat.le_refl _, by omega, rfl, rfl⟩
      · rw [nI_leI (by omega) (by omega)] at e
        have hw : wgt (cvB tx (A 1) c B) B.length k = 0 := by
          unfold wgt
          rw [if_pos (by omega)]
        rw [hw] at hQ
        simp only [s_psh, s_ild, s_lld, s_ald, s_ist, s_lst, s_ast, s_inc, s_ib, s_ibz, s_iu, s_lb, s_lbz, s_lu, s_ls, s_il, s_li, s_cmp, s_dup, s_pop, s_dup2, s_cv, s_cs, s_ci, s_oi, s_get, s_put, s_iald, s_lald, s_zald, s_iast, s_last, s_zast, s_alen, s_iret, s_lret, s_aret, s_vret, s_al, gpad, gl, gst, gclr, gc2, gent, gcat, Value.category, List.drop_succ_cons, List.drop_zero, List.take_succ_cons, List.take_zero, List.reverse_cons, List.reverse_nil, List.nil_append, List.cons_append, List.append_nil, List.map_cons, List.map_nil, List.sum_cons, List.sum_nil, List.length_cons, List.length_nil, Option.toList, cond_true, cond_false, Nat.reduceBEq, Nat.reduceAdd, Nat.reduceLeDiff, beq_self_eq_true, true_and, and_true, BEq.rfl, Bool.false_eq_true, if_true, if_false, menc_0, menc_1, menc_2, menc_3, menc_4, menc_5, menc_6, menc_7, menc_8, menc_9, menc_10, menc_11, menc_12, menc_13, menc_14, mf_0, mf_1, mf_2, mf_3, mf_4, mf_5, mf_6, mf_7, mf_8, mf_9, mf_10, mf_11, mf_12, mf_13, mf_14, mf_15, mf_16, mf_17, mf_18, mf_19, mf_20, mf_21, mf_22, mf_23, mf_24, mf_25, mf_26, mf_27, mf_28, mf_29, mf_30, mf_31, ms_4, ms_5, ms_6, ms_7, ms_8, ms_9, ms_10, ms_11, ms_12, ms_13, ms_14, ms_16, ms_17, ms_18, ms_19, ms_23, ms_24, ms_27, mu_1, mu_2, mu_3, mu_4, mu_5, mu_6, mu_7, mu_8, mu_9, mu_10, mu_11, mu_12, mu_13, mu_14]
        exact hQ σ1 A1 L hM1 (fun _ _ => rfl)
    · rintro μ lv st C n z ⟨rfl, rfl, rfl, σ1, A1, L1, i, rfl, hM1, fL1, hB1, hkB, hi1, hik, rfl, rfl⟩
      have hB1' := hB1
      obtain ⟨h27, hB60, hB30, hBv⟩ := hB1'
      have e1 : A1 1 = A 1 := hM1.2.1 1 (by decide) (by decide) (by decide)
      have hpr := prB_le (cvB tx (A 1) c B) (i - 1)
      have hp12 := p12 (n := i - 1) (by omega)
      have hMS1 := hM1.ms hMS
      simp only [b_X12_weightOf_38, s_psh, s_ild, s_lld, s_ald, s_ist, s_lst, s_ast, s_inc, s_ib, s_ibz, s_iu, s_lb, s_lbz, s_lu, s_ls, s_il, s_li, s_cmp, s_dup, s_pop, s_dup2, s_cv, s_cs, s_ci, s_oi, s_get, s_put, s_iald, s_lald, s_zald, s_iast, s_last, s_zast, s_alen, s_iret, s_lret, s_aret, s_vret, s_al, gpad, gl, gst, gclr, gc2, gent, gcat, Value.category, List.drop_succ_cons, List.drop_zero, List.take_succ_cons, List.take_zero, List.reverse_cons, List.reverse_nil, List.nil_append, List.cons_append, List.append_nil, List.map_cons, List.map_nil, List.sum_cons, List.sum_nil, List.length_cons, List.length_nil, Option.toList, cond_true, cond_false, Nat.reduceBEq, Nat.reduceAdd, Nat.reduceLeDiff, beq_self_eq_true, true_and, and_true, BEq.rfl, Bool.false_eq_true, if_true, if_false, menc_0, menc_1, menc_2, menc_3, menc_4, menc_5, menc_6, menc_7, menc_8, menc_9, menc_10, menc_11, menc_12, menc_13, menc_14, mf_0, mf_1, mf_2, mf_3, mf_4, mf_5, mf_6, mf_7, mf_8, mf_9, mf_10, mf_11, mf_12, mf_13, mf_14, mf_15, mf_16, mf_17, mf_18, mf_19, mf_20, mf_21, mf_22, mf_23, mf_24, mf_25, mf_26, mf_27, mf_28, mf_29, mf_30, mf_31, ms_4, ms_5, ms_6, ms_7, ms_8, ms_9, ms_10, ms_11, ms_12, ms_13, ms_14, ms_16, ms_17, ms_18, ms_19, ms_23, ms_24, ms_27, mu_1, mu_2, mu_3, mu_4, mu_5, mu_6, mu_7, mu_8, mu_9, mu_10, mu_11, mu_12, mu_13, mu_14]
      refine if2i (fun e => ?_) (fun e => ?_)
      · rw [nI_leI (by omega) (by omega)] at e
        have hik2 : i = k := by omega
        subst hik2
        simp only [s_psh, s_ild, s_lld, s_ald, s_ist, s_lst, s_ast, s_inc, s_ib, s_ibz, s_iu, s_lb, s_lbz, s_lu, s_ls, s_il, s_li, s_cmp, s_dup, s_pop, s_dup2, s_cv, s_cs, s_ci, s_oi, s_get, s_put, s_iald, s_lald, s_zald, s_iast, s_last, s_zast, s_alen, s_iret, s_lret, s_aret, s_vret, s_al, gpad, gl, gst, gclr, gc2, gent, gcat, Value.category, List.drop_succ_cons, List.drop_zero, List.take_succ_cons, List.take_zero, List.reverse_cons, List.reverse_nil, List.nil_append, List.cons_append, List.append_nil, List.map_cons, List.map_nil, List.sum_cons, List.sum_nil, List.length_cons, List.length_nil, Option.toList, cond_true, cond_false, Nat.reduceBEq, Nat.reduceAdd, Nat.reduceLeDiff, beq_self_eq_true, true_and, and_true, BEq.rfl, Bool.false_eq_true, if_true, if_false, menc_0, menc_1, menc_2, menc_3, menc_4, menc_5, menc_6, menc_7, menc_8, menc_9, menc_10, menc_11, menc_12, menc_13, menc_14, mf_0, mf_1, mf_2, mf_3, mf_4, mf_5, mf_6, mf_7, mf_8, mf_9, mf_10, mf_11, mf_12, mf_13, mf_14, mf_15, mf_16, mf_17, mf_18, mf_19, mf_20, mf_21, mf_22, mf_23, mf_24, mf_25, mf_26, mf_27, mf_28, mf_29, mf_30, mf_31, ms_4, ms_5, ms_6, ms_7, ms_8, ms_9, ms_10, ms_11, ms_12, ms_13, ms_14, ms_16, ms_17, ms_18, ms_19, ms_23, ms_24, ms_27, mu_1, mu_2, mu_3, mu_4, mu_5, mu_6, mu_7, mu_8, mu_9, mu_10, mu_11, mu_12, mu_13, mu_14]
        simp only [true_and, and_true, lit, nI_add, nar_i, nar_0, nar_1, nar_b, fit_i, fit_l, pk_rem, nI_leI, nI_ltI, nI_eq, vin_iff, nI_clamp, nI_m1, h27]
        refine if2i (fun e2 => ?_) (fun e2 => ?_)
        · rw [nI_eq (by omega) (by omega)] at e2
          have hw : wgt (cvB tx (A 1) c B) B.length i = prB (cvB tx (A 1) c B) (i - 1) * 10 := by
            unfold wgt
            rw [if_neg (by omega), if_neg (by omega), if_pos e2]
          rw [hw] at hQ
          simp only [b_X12_weightOf_87, s_psh, s_ild, s_lld, s_ald, s_ist, s_lst, s_ast, s_inc, s_ib, s_ibz, s_iu, s_lb, s_lbz, s_lu, s_ls, s_il, s_li, s_cmp, s_dup, s_pop, s_dup2, s_cv, s_cs, s_ci, s_oi, s_get, s_put, s_iald, s_lald, s_zald, s_iast, s_last, s_zast, s_alen, s_iret, s_lret, s_aret, s_vret, s_al, gpad, gl, gst, gclr, gc2, gent, gcat, Value.category, List.drop_succ_cons, List.drop_zero, List.take_succ_cons, List.take_zero, List.reverse_cons, List.reverse_nil, List.nil_append, List.cons_append, List.append_nil, List.map_cons, List.map_nil, List.sum_cons, List.sum_nil, List.length_cons, List.length_nil, Option.toList, cond_true, cond_false, Nat.reduceBEq, Nat.reduceAdd, Nat.reduceLeDiff, beq_self_eq_true, true_and, and_true, BEq.rfl, Bool.false_eq_true, if_true, if_false, menc_0, menc_1, menc_2, menc_3, menc_4, menc_5, menc_6, menc_7, menc_8, menc_9, menc_10, menc_11, menc_12, menc_13, menc_14, mf_0, mf_1, mf_2, mf_3, mf_4, mf_5, mf_6, mf_7, mf_8, mf_9, mf_10, mf_11, mf_12, mf_13, mf_14, mf_15, mf_16, mf_17, mf_18, mf_19, mf_20, mf_21, mf_22, mf_23, mf_24, mf_25, mf_26, mf_27, mf_28, mf_29, mf_30, mf_31, ms_4, ms_5, ms_6, ms_7, ms_8, ms_9, ms_10, ms_11, ms_12, ms_13, ms_14, ms_16, ms_17, ms_18, ms_19, ms_23, ms_24, ms_27, mu_1, mu_2, mu_3, mu_4, mu_5, mu_6, mu_7, mu_8, mu_9, mu_10, mu_11, mu_12, mu_13, mu_14]
          simp (disch := omega) only [nI_l, lmul]
          exact hQ σ1 A1 L1 hM1 fL1
        · rw [nI_eq (by omega) (by omega)] at e2
          have hle : i ≤ B.length := hkB
          · have hw : wgt (cvB tx (A 1) c B) B.length i = prB (cvB tx (A 1) c B) (i - 1) * cvB tx (A 1) c B i := by
              unfold wgt
              rw [if_neg (by omega), if_neg (by omega), if_neg e2]
            rw [hw] at hQ
            have hcv := cvB_le tx (A 1) c B i
            simp only [sp_X12_caughtAt, s_psh, s_ild, s_lld, s_ald, s_ist, s_lst, s_ast, s_inc, s_ib, s_ibz, s_iu, s_lb, s_lbz, s_lu, s_ls, s_il, s_li, s_cmp, s_dup, s_pop, s_dup2, s_cv, s_cs, s_ci, s_oi, s_get, s_put, s_iald, s_lald, s_zald, s_iast, s_last, s_zast, s_alen, s_iret, s_lret, s_aret, s_vret, s_al, gpad, gl, gst, gclr, gc2, gent, gcat, Value.category, List.drop_succ_cons, List.drop_zero, List.take_succ_cons, List.take_zero, List.reverse_cons, List.reverse_nil, List.nil_append, List.cons_append, List.append_nil, List.map_cons, List.map_nil, List.sum_cons, List.sum_nil, List.length_cons, List.length_nil, Option.toList, cond_true, cond_false, Nat.reduceBEq, Nat.reduceAdd, Nat.reduceLeDiff, beq_self_eq_true, true_and, and_true, BEq.rfl, Bool.false_eq_true, if_true, if_false, menc_0, menc_1, menc_2, menc_3, menc_4, menc_5, menc_6, menc_7, menc_8, menc_9, menc_10, menc_11, menc_12, menc_13, menc_14, mf_0, mf_1, mf_2, mf_3, mf_4, mf_5, mf_6, mf_7, mf_8, mf_9, mf_10, mf_11, mf_12, mf_13, mf_14, mf_15, mf_16, mf_17, mf_18, mf_19, mf_20, mf_21, mf_22, mf_23, mf_24, mf_25, mf_26, mf_27, mf_28, mf_29, mf_30, mf_31, ms_4, ms_5, ms_6, ms_7, ms_8, ms_9, ms_10, ms_11, ms_12, ms_13, ms_14, ms_16, ms_17, ms_18, ms_19, ms_23, ms_24, ms_27, mu_1, mu_2, mu_3, mu_4, mu_5, mu_6, mu_7, mu_8, mu_9, mu_10, mu_11, mu_12, mu_13, mu_14]
            refine ⟨σ1, w, A1, L1, R, tx, N, c, i, B, rfl, hMS1, rfl, rfl, hc, hB1, hi1, hle, fun A2 L2 fA fL h6 => ?_⟩
            rw [e1]
            simp only [b_X12_weightOf_87, s_psh, s_ild, s_lld, s_ald, s_ist, s_lst, s_ast, s_inc, s_ib, s_ibz, s_iu, s_lb, s_lbz, s_lu, s_ls, s_il, s_li, s_cmp, s_dup, s_pop, s_dup2, s_cv, s_cs, s_ci, s_oi, s_get, s_put, s_iald, s_lald, s_zald, s_iast, s_last, s_zast, s_alen, s_iret, s_lret, s_aret, s_vret, s_al, gpad, gl, gst, gclr, gc2, gent, gcat, Value.category, List.drop_succ_cons, List.drop_zero, List.take_succ_cons, List.take_zero, List.reverse_cons, List.reverse_nil, List.nil_append, List.cons_append, List.append_nil, List.map_cons, List.map_nil, List.sum_cons, List.sum_nil, List.length_cons, List.length_nil, Option.toList, cond_true, cond_false, Nat.reduceBEq, Nat.reduceAdd, Nat.reduceLeDiff, beq_self_eq_true, true_and, and_true, BEq.rfl, Bool.false_eq_true, if_true, if_false, menc_0, menc_1, menc_2, menc_3, menc_4, menc_5, menc_6, menc_7, menc_8, menc_9, menc_10, menc_11, menc_12, menc_13, menc_14, mf_0, mf_1, mf_2, mf_3, mf_4, mf_5, mf_6, mf_7, mf_8, mf_9, mf_10, mf_11, mf_12, mf_13, mf_14, mf_15, mf_16, mf_17, mf_18, mf_19, mf_20, mf_21, mf_22, mf_23, mf_24, mf_25, mf_26, mf_27, mf_28, mf_29, mf_30, mf_31, ms_4, ms_5, ms_6, ms_7, ms_8, ms_9, ms_10, ms_11, ms_12, ms_13, ms_14, ms_16, ms_17, ms_18, ms_19, ms_23, ms_24, ms_27, mu_1, mu_2, mu_3, mu_4, mu_5, mu_6, mu_7, mu_8, mu_9, mu_10, mu_11, mu_12, mu_13, mu_14]
            simp (disch := omega) only [nI_l, lmul]
            exact hQ σ1 A2 L2 ⟨hM1.1, fun j q1 q2 q3 => by rw [fA j q1 q2, hM1.2.1 j q1 q2 q3], h6⟩ (fun j q => by rw [fL j q, fL1 j q])
      · rw [nI_leI (by omega) (by omega)] at e
        have hcv := cvB_le tx (A 1) c B i
        simp only [sp_X12_caughtAt, s_psh, s_ild, s_lld, s_ald, s_ist, s_lst, s_ast, s_inc, s_ib, s_ibz, s_iu, s_lb, s_lbz, s_lu, s_ls, s_il, s_li, s_cmp, s_dup, s_pop, s_dup2, s_cv, s_cs, s_ci, s_oi, s_get, s_put, s_iald, s_lald, s_zald, s_iast, s_last, s_zast, s_alen, s_iret, s_lret, s_aret, s_vret, s_al, gpad, gl, gst, gclr, gc2, gent, gcat, Value.category, List.drop_succ_cons, List.drop_zero, List.take_succ_cons, List.take_zero, List.reverse_cons, List.reverse_nil, List.nil_append, List.cons_append, List.append_nil, List.map_cons, List.map_nil, List.sum_cons, List.sum_nil, List.length_cons, List.length_nil, Option.toList, cond_true, cond_false, Nat.reduceBEq, Nat.reduceAdd, Nat.reduceLeDiff, beq_self_eq_true, true_and, and_true, BEq.rfl, Bool.false_eq_true, if_true, if_false, menc_0, menc_1, menc_2, menc_3, menc_4, menc_5, menc_6, menc_7, menc_8, menc_9, menc_10, menc_11, menc_12, menc_13, menc_14, mf_0, mf_1, mf_2, mf_3, mf_4, mf_5, mf_6, mf_7, mf_8, mf_9, mf_10, mf_11, mf_12, mf_13, mf_14, mf_15, mf_16, mf_17, mf_18, mf_19, mf_20, mf_21, mf_22, mf_23, mf_24, mf_25, mf_26, mf_27, mf_28, mf_29, mf_30, mf_31, ms_4, ms_5, ms_6, ms_7, ms_8, ms_9, ms_10, ms_11, ms_12, ms_13, ms_14, ms_16, ms_17, ms_18, ms_19, ms_23, ms_24, ms_27, mu_1, mu_2, mu_3, mu_4, mu_5, mu_6, mu_7, mu_8, mu_9, mu_10, mu_11, mu_12, mu_13, mu_14]
        simp only [true_and, and_true, lit, nI_add, nar_i, nar_0, nar_1, nar_b, fit_i, fit_l, pk_rem, nI_leI, nI_ltI, nI_eq, vin_iff, nI_clamp, nI_m1]
        refine ⟨σ1, w, A1, L1, R, tx, N, c, i, B, rfl, hMS1, rfl, rfl, hc, hB1, hi1, by omega, fun A2 L2 fA fL h6 => ?_⟩
        rw [e1]
        try simp only [s_psh, s_ild, s_lld, s_ald, s_ist, s_lst, s_ast, s_inc, s_ib, s_ibz, s_iu, s_lb, s_lbz, s_lu, s_ls, s_il, s_li, s_cmp, s_dup, s_pop, s_dup2, s_cv, s_cs, s_ci, s_oi, s_get, s_put, s_iald, s_lald, s_zald, s_iast, s_last, s_zast, s_alen, s_iret, s_lret, s_aret, s_vret, s_al, gpad, gl, gst, gclr, gc2, gent, gcat, Value.category, List.drop_succ_cons, List.drop_zero, List.take_succ_cons, List.take_zero, List.reverse_cons, List.reverse_nil, List.nil_append, List.cons_append, List.append_nil, List.map_cons, List.map_nil, List.sum_cons, List.sum_nil, List.length_cons, List.length_nil, Option.toList, cond_true, cond_false, Nat.reduceBEq, Nat.reduceAdd, Nat.reduceLeDiff, beq_self_eq_true, true_and, and_true, BEq.rfl, Bool.false_eq_true, if_true, if_false, menc_0, menc_1, menc_2, menc_3, menc_4, menc_5, menc_6, menc_7, menc_8, menc_9, menc_10, menc_11, menc_12, menc_13, menc_14, mf_0, mf_1, mf_2, mf_3, mf_4, mf_5, mf_6, mf_7, mf_8, mf_9, mf_10, mf_11, mf_12, mf_13, mf_14, mf_15, mf_16, mf_17, mf_18, mf_19, mf_20, mf_21, mf_22, mf_23, mf_24, mf_25, mf_26, mf_27, mf_28, mf_29, mf_30, mf_31, ms_4, ms_5, ms_6, ms_7, ms_8, ms_9, ms_10, ms_11, ms_12, ms_13, ms_14, ms_16, ms_17, ms_18, ms_19, ms_23, ms_24, ms_27, mu_1, mu_2, mu_3, mu_4, mu_5, mu_6, mu_7, mu_8, mu_9, mu_10, mu_11, mu_12, mu_13, mu_14]
        simp (disch := omega) only [true_and, and_true, lit, nI_add, nar_i, nar_0, nar_1, nar_b, fit_i, fit_l, pk_rem, nI_leI, nI_ltI, nI_eq, vin_iff, nI_clamp, nI_m1, pk_sub, nI_l, lmul]
        refine ⟨k - (i + 1), by omega, rfl, rfl, rfl, σ1, A2, L2, i + 1, rfl, ⟨hM1.1, fun j q1 q2 q3 => by rw [fA j q1 q2, hM1.2.1 j q1 q2 q3], h6⟩, fun j q => by rw [fL j q, fL1 j q], ⟨h27, hB60, hB30, fun j q hq => by rw [fA 10 (by decide) (by decide)]; exact hBv j q hq⟩, hkB, by omega, by omega, rfl, ?_⟩
        obtain ⟨i', rfl⟩ : ∃ i', i = i' + 1 := ⟨i - 1, by omega⟩
        rfl
  · exact h.elim
