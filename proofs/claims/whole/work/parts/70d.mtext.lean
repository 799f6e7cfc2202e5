/-! a text, as a reader going down reads it -/
abbrev rCl : Type := Nat × Nat × Nat × rI
abbrev rX : Type := (Nat × Nat) ⊕ (Nat × rCl)
def rI0 : rI := ([], fun _ _ => 0)
def hdOf (s : Nat) : Nat := if s ≤ 2 then s else if s = 4 then 3 else if s = 6 then 4 else if s = 8 then 5 else if s = 10 then 6 else if s = 11 then 7 else if s = 12 then 8 else 9
def rNum (S V : Nat → Nat) (lo hi i : Nat) (k : Nat → Nat → rX) : rX := if S i = 39 then (if V i < lo ∨ hi < V i then .inl (2, i) else k (i + 1) (V i)) else .inl (1, i)
def rPair (S V : Nat → Nat) (sort lo hi w hi2 i : Nat) : rX := rNum S V lo hi i fun j v => if S j = w then rNum S V 0 hi2 (j + 1) fun k u => .inr (k, sort, v, u, rI0) else .inl (1, j)
def rLaw (S V : Nat → Nat) (sort i : Nat) : rX := match rSum S (rLv S V (sort == 0) 8).1 i with
  | .inl e => .inl e
  | .inr (j, a) => .inr (j, sort, 0, 0, a)
def rBody (S V : Nat → Nat) (sort i : Nat) : rX := if sort = 2 then rPair S V 2 0 29 3 3 i else if sort = 3 then rPair S V 3 0 9 5 29 i else if sort = 4 then rPair S V 4 1 9 7 9 i else if sort = 5 then rPair S V 5 0 6 9 29 i else if sort = 6 then rNum S V 0 29 i fun j v => .inr (j, 6, v, 0, rI0) else if sort = 7 then rNum S V 0 29 i fun j v => .inr (j, 7, v, 0, rI0) else if sort = 8 then rNum S V 1 60 i fun j v => .inr (j, 8, v, 0, rI0) else rLaw S V sort i
def rClause (S V : Nat → Nat) (l : List rCl) (i : Nat) : rX := if hdOf (S i) = 9 then .inl (1, i) else if hdOf (S i) ≤ 1 ∧ l.any (fun c => c.1 == hdOf (S i)) = true then .inl (4, i) else if l.length = 24 then .inl (6, i) else match rBody S V (hdOf (S i)) (i + 1) with
  | .inl e => .inl e
  | .inr (j, c) => if S j = 36 then .inr (j + 1, c) else .inl (1, j)
def rText (S V : Nat → Nat) : Nat → Nat → List rCl → (Nat × Nat) ⊕ List rCl
  | 0, _, l => .inr l
  | f + 1, i, l => if S i = 40 then .inr l else match rClause S V l i with
    | .inl e => .inl e
    | .inr (j, c) => rText S V f j (l ++ [c])
/-! the reference: a text is read -/
theorem lR_len (T : Nat → Nat) (a : Nat) : ∀ k, (lR T a k).length = k
  | 0 => rfl
  | k + 1 => by simp [lR, lR_len T a k]
def sp_X12_isCatches : gSp := fun as C n z Q => match as with
  | [.ref m] => ∃ σ w A L R T len i, C = menc m σ w A L R ∧ TX σ w A T len i ∧ Q (some (.int (bI (tkS T len i = 0)))) C n z
  | _ => False
set_option maxRecDepth 100000 in
set_option maxHeartbeats 4000000 in
theorem c_X12_isCatches (l : Launch) : Con l yX12_isCatches cX12_isCatches 1 (some .boolean) 3 0 0 sp_X12_isCatches := by
  refine m_X12_isCatches (c_X12_byteAt l) (by decide) (c_X12_w4 l) (by decide) (c_X12_w3 l) (by decide) ?_
  intro as C0 n0 z0 Q h
  unfold sp_X12_isCatches at h
  split at h
  · rename_i m
    obtain ⟨σ, w, A, L, R, T, len, i, rfl, ht, hQ⟩ := h
    have f1 : tkS T len i = 0 → Q (some (.int (nI 1))) (menc m σ w A L R) n0 z0 := fun e => by rw [bI_t e] at hQ; exact hQ
    have f0 : ¬ tkS T len i = 0 → Q (some (.int (nI 0))) (menc m σ w A L R) n0 z0 := fun e => by rw [bI_f e] at hQ; exact hQ
    refine ⟨Nat.le_of_ble_eq_true rfl, ?_⟩
    have ht9 := ht.2.2.2.2.tok
    obtain ⟨hA, hT, h4, hlen, ht5⟩ := ht
    obtain ⟨h8, h1, h2⟩ := ht5
    simp only [b_X12_isCatches_0, b_X12_isCatches_129, b_X12_isCatches_130, sp_X12_byteAt, sp_X12_w3, sp_X12_w4, isM_menc, mi_4, ma_4, s_psh, s_ild, s_lld, s_ald, s_ist, s_lst, s_ast, s_inc, s_ib, s_ibz, s_iu, s_lb, s_lbz, s_lu, s_ls, s_il, s_li, s_cmp, s_dup, s_pop, s_dup2, s_if1, s_if2, s_ifn, s_cv, s_cs, s_ci, s_oi, s_get, s_put, s_iald, s_lald, s_zald, s_iast, s_last, s_zast, s_alen, s_iret, s_lret, s_aret, s_vret, s_al, gpad, gl, gst, gclr, gc2, gent, gcat, Value.category, List.drop_succ_cons, List.drop_zero, List.take_succ_cons, List.take_zero, List.reverse_cons, List.reverse_nil, List.nil_append, List.cons_append, List.append_nil, List.map_cons, List.map_nil, List.sum_cons, List.sum_nil, List.length_cons, List.length_nil, Option.toList, cond_true, cond_false, Nat.reduceBEq, Nat.reduceAdd, Nat.reduceLeDiff, beq_self_eq_true, true_and, and_true, BEq.rfl, Bool.false_eq_true, if_true, if_false, menc_0, menc_1, menc_2, menc_3, menc_4, menc_5, menc_6, menc_7, menc_8, menc_9, menc_10, menc_11, menc_12, menc_13, menc_14, mf_0, mf_1, mf_2, mf_3, mf_4, mf_5, mf_6, mf_7, mf_8, mf_9, mf_10, mf_11, mf_12, mf_13, mf_14, mf_15, mf_16, mf_17, mf_18, mf_19, mf_20, mf_21, mf_22, mf_23, mf_24, mf_25, mf_26, mf_27, mf_28, mf_29, mf_30, mf_31, ms_4, ms_5, ms_6, ms_7, ms_8, ms_9, ms_10, ms_11, ms_12, ms_13, ms_14, ms_16, ms_17, ms_18, ms_19, ms_23, ms_24, ms_27, mu_1, mu_2, mu_3, mu_4, mu_5, mu_6, mu_7, mu_8, mu_9, mu_10, mu_11, mu_12, mu_13, mu_14]
    simp only [true_and, and_true, lit, nI_add, nar_i, nar_0, nar_1, nar_b, fit_i, fit_l, pk_rem, nI_leI, nI_ltI, nI_eq, vin_iff, nI_clamp, nI_m1]
    refine ⟨fun e9 => ?_, fun e9 => f0 fun q => ?_⟩
    · have hs : tB T len i < len ∧ isLt (T (tB T len i)) = true := by
        rw [ht9, nI_eq (Nat.lt_trans (tokN_lt (hT _)) (by decide)) (by decide)] at e9
        unfold tokN at e9
        split at e9
        · rename_i hb
          refine ⟨hb, ?_⟩
          split at e9
          · cases e9
          · split at e9
            · assumption
            · have := (tokC_lt (len := len) (hT (tB T len i))).2
              omega
        · cases e9
      obtain ⟨hb, hl⟩ := hs
      have h7 := (h1 hb).1
      have hg := tE_gt (T := T) hb
      have hk : tkS T len i = 0 ↔ lR T (tB T len i) (tE T len (tB T len i) - tB T len i) = [115, 101, 104, 99, 116, 97, 99] := by
        unfold tkS tS
        rw [if_pos hb, if_pos hl]
        exact wF_iff (K := 0) rfl
      rw [h7, h8]
      simp (disch := omega) only [true_and, and_true, lit, nI_add, nar_i, nar_0, nar_1, nar_b, fit_i, fit_l, pk_rem, nI_leI, nI_ltI, nI_eq, vin_iff, nI_clamp, nI_m1, pk_sub]
      refine ⟨fun e7 => ?_, fun e7 => f0 fun q => ?_⟩
      · rw [e7] at hk
        generalize tB T len i = s at *
        simp only [lR, List.cons.injEq, and_true] at hk
        rw [h4, hA]
        have b0 := hT s
        have b1 := hT (s + 1)
        have b2 := hT (s + 2)
        have b3 := hT (s + 3)
        have b4 := hT (s + 4)
        have b5 := hT (s + 5)
        have b6 := hT (s + 6)
        have pw : ∀ j, j < 7 → pif (s + j < len) (nI (T (s + j))) (-nI 1) = nI (T (s + j)) := fun j hj => pif_t (by omega)
        have p0 := pw 0 (by decide)
        have p1 := pw 1 (by decide)
        have p2 := pw 2 (by decide)
        have p3 := pw 3 (by decide)
        have p4 := pw 4 (by decide)
        have p5 := pw 5 (by decide)
        have p6 := pw 6 (by decide)
        rw [Nat.add_zero] at p0
        simp (disch := omega) only [true_and, and_true, lit, nI_add, nar_i, nar_0, nar_1, nar_b, fit_i, fit_l, pk_rem, nI_leI, nI_ltI, nI_eq, vin_iff, nI_clamp, nI_m1, Nat.reduceMul, Nat.reduceAdd, Nat.reduceLT, lcmp_eq]
        simp (disch := omega) only [p0, p1, p2, p3, p4, p5, p6, nI_clamp, vin_iff, pk_lEQ]
        simp only [Nat.add_zero] at hk
        refine ⟨by omega, by omega, by omega, by omega, b0, b1, b2, b3, fun e => ⟨by omega, by omega, by omega, b4, b5, b6, fun e2 => f1 (hk.mpr (by omega)), fun e2 => f0 fun q => ?_⟩, fun e => f0 fun q => ?_⟩
        · have := hk.mp q
          omega
        · have := hk.mp q
          omega
      · rw [hk] at q
        have := congrArg List.length q
        rw [lR_len] at this
        exact e7 this
    · have h9' : ¬ isLt (T (tB T len i)) = true ∨ ¬ tB T len i < len := by
        rcases Nat.lt_or_ge (tB T len i) len with hb | hb
        · refine Or.inl fun hl => e9 ?_
          exact ((h1 hb).2.2.1 hl).1
        · exact Or.inr (Nat.not_lt.mpr hb)
      unfold tkS tS at q
      split at q
      · rename_i hb
        rcases h9' with h9' | h9'
        · rw [if_neg h9'] at q
          split at q
          · cases q
          · by_cases q2 : isTwo T len (tB T len i)
            · rw [pif_t q2] at q; split at q <;> cases q
            · rw [pif_f q2] at q
              have := sgn_c (b := T (tB T len i))
              omega
        · exact h9' hb
      · cases q
  · exact h.elim
noncomputable def hdV (k : Nat) : Int32 := if k = 9 then -nI 1 else nI k
def sp_X12_sortOf : gSp := fun as C n z Q => match as with
  | [.ref m] => ∃ σ w A L R T len i, C = menc m σ w A L R ∧ TX σ w A T len i ∧ Q (some (.int (hdV (hdOf (tkS T len i))))) C n z
  | _ => False
set_option maxRecDepth 100000 in
set_option maxHeartbeats 4000000 in
theorem c_X12_sortOf (l : Launch) : Con l yX12_sortOf cX12_sortOf 1 (some .int) 5 0 0 sp_X12_sortOf := by
  refine m_X12_sortOf (c_X12_isCatches l) (by decide) (c_X12_w6 l) (by decide) (c_X12_isWord l) (by decide) (c_X12_w5 l) (by decide) (c_X12_w3 l) (by decide) (c_X12_w4 l) (by decide) ?_
  intro as C0 n0 z0 Q h
  unfold sp_X12_sortOf at h
  split at h
  · rename_i m
    obtain ⟨σ, w, A, L, R, T, len, i, rfl, ht, hQ⟩ := h
    refine ⟨Nat.le_of_ble_eq_true rfl, ?_⟩
    have fin : ∀ v, hdV (hdOf (tkS T len i)) = v → Q (some (.int v)) (menc m σ w A L R) n0 z0 := fun v e => by rw [← e]; exact hQ
    simp only [b_X12_sortOf_0, b_X12_sortOf_181, sp_X12_isCatches, sp_X12_w3, sp_X12_w4, sp_X12_w5, sp_X12_w6, sp_X12_isWord, isM_menc, mi_9, mi_11, s_psh, s_ild, s_lld, s_ald, s_ist, s_lst, s_ast, s_inc, s_ib, s_ibz, s_iu, s_lb, s_lbz, s_lu, s_ls, s_il, s_li, s_cmp, s_dup, s_pop, s_dup2, s_if1, s_if2, s_ifn, s_cv, s_cs, s_ci, s_oi, s_get, s_put, s_iald, s_lald, s_zald, s_iast, s_last, s_zast, s_alen, s_iret, s_lret, s_aret, s_vret, s_al, gpad, gl, gst, gclr, gc2, gent, gcat, Value.category, List.drop_succ_cons, List.drop_zero, List.take_succ_cons, List.take_zero, List.reverse_cons, List.reverse_nil, List.nil_append, List.cons_append, List.append_nil, List.map_cons, List.map_nil, List.sum_cons, List.sum_nil, List.length_cons, List.length_nil, Option.toList, cond_true, cond_false, Nat.reduceBEq, Nat.reduceAdd, Nat.reduceLeDiff, beq_self_eq_true, true_and, and_true, BEq.rfl, Bool.false_eq_true, if_true, if_false, menc_0, menc_1, menc_2, menc_3, menc_4, menc_5, menc_6, menc_7, menc_8, menc_9, menc_10, menc_11, menc_12, menc_13, menc_14, mf_0, mf_1, mf_2, mf_3, mf_4, mf_5, mf_6, mf_7, mf_8, mf_9, mf_10, mf_11, mf_12, mf_13, mf_14, mf_15, mf_16, mf_17, mf_18, mf_19, mf_20, mf_21, mf_22, mf_23, mf_24, mf_25, mf_26, mf_27, mf_28, mf_29, mf_30, mf_31, ms_4, ms_5, ms_6, ms_7, ms_8, ms_9, ms_10, ms_11, ms_12, ms_13, ms_14, ms_16, ms_17, ms_18, ms_19, ms_23, ms_24, ms_27, mu_1, mu_2, mu_3, mu_4, mu_5, mu_6, mu_7, mu_8, mu_9, mu_10, mu_11, mu_12, mu_13, mu_14]
    refine ⟨σ, w, A, L, R, T, len, i, rfl, ht, ?_⟩
    simp (disch := omega) only [true_and, and_true, lit, nI_add, nar_i, nar_0, nar_1, nar_b, fit_i, fit_l, pk_rem, nI_leI, nI_ltI, nI_eq, vin_iff, nI_clamp, nI_m1, bI_0, Nat.reduceMul, Nat.reduceAdd, Nat.reduceLT, tw_1 ht, tw_2 ht, tw_4 ht, tw_6 ht, tw_8 ht, tw_10 ht, tw_11 ht, tw_12 ht]
    clear hQ ht
    generalize tkS T len i = s at *
    refine ⟨fun e0 => ⟨fun e1 => ⟨fun e2 => ⟨fun e4 => ⟨fun e6 => ⟨fun e8 => ⟨fun e10 => ⟨fun e11 => ⟨fun e12 => fin _ ?_, fun e => fin _ ?_⟩, fun e => fin _ ?_⟩, fun e => fin _ ?_⟩, fun e => fin _ ?_⟩, fun e => fin _ ?_⟩, fun e => fin _ ?_⟩, fun e => fin _ ?_⟩, fun e => fin _ ?_⟩, fun e => fin _ ?_⟩
    · have : hdOf s = 9 := by
        unfold hdOf
        rw [if_neg (by omega), if_neg e4, if_neg e6, if_neg e8, if_neg e10, if_neg e11, if_neg e12]
      rw [this]; rfl
    all_goals (rw [Classical.not_not.mp e]; rfl)
  · exact h.elim
