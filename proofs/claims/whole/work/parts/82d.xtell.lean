/-! the class's steps: tellKind, tellPaint, copy -/
def tkD (w p : Nat) (v : Int32) (d : Sqd) : Sqd := (d.1, sup d.2 w (upd (d.2 w) p v))
def tkR (o f : Nat) (w p : Nat) (v : Int32) (S S1 : Nat → Sqd) (i : Nat) : Prop := (∀ e, e < i → S1 (o + (f + e) % 30) = tkD w p v (S (o + (f + e) % 30))) ∧ ∀ j, (∀ e, e < i → j ≠ o + (f + e) % 30) → S1 j = S j
def TelP (T : Nat → Option Nat) (S : Nat → Sqd) (s o f k lo n w p : Nat) (v : Int32) (P : Nat → Option Nat) (C C' : gC) (S' : Nat → Sqd) (i : Nat) : Prop := stAt C' s f k P ∧ RwS T S' lo n C' ∧ tkR o f w p v S S' i ∧ ∀ q, q < n → offT T q → C' q = C q
def tlI (s o f k lo w p : Nat) (v : Int32) (P T : Nat → Option Nat) (S : Nat → Sqd) (C0 : gC) (n0 z0 μ : Nat) : gKo := fun lv st C n z => st = [] ∧ n = n0 ∧ z = z0 ∧ ∃ i S1, i ≤ k ∧ μ = k - i ∧ TelP T S s o f k lo n0 w p v P C0 C S1 i ∧ lv = [some (.ref s), some (.int (nI p)), some (.int v), some (.int (nI i))]
def tel_pre (w : Nat) : gSp := fun as C n z Q => match as with
  | [.ref s, .int x, .int v] => ∃ P T S o lo f k p, stAt C s f k P ∧ (∀ j, j < 30 → P j = T (o + j)) ∧ o ≤ 30 ∧ f < 30 ∧ k ≤ 30 ∧ RwS T S lo n C ∧ s + 1 < lo ∧ lo ≤ n ∧ (∀ i, i < k → T (o + (f + i) % 30) ≠ none) ∧ x = nI p ∧ p < 30 ∧ ∀ C' S', TelP T S s o f k lo n w p v P C C' S' k → Q none C' n z
  | _ => False
theorem tel_0 {s o f k lo n w p : Nat} {v : Int32} {P T : Nat → Option Nat} {S : Nat → Sqd} {C : gC} (h1 : stAt C s f k P) (h2 : RwS T S lo n C) : TelP T S s o f k lo n w p v P C C S 0 := ⟨h1, h2, ⟨fun _ h => absurd h (Nat.not_lt_zero _), fun _ _ => rfl⟩, fun _ _ _ => rfl⟩
theorem tel_s {s o f k lo n w p i r : Nat} {v : Int32} {P T : Nat → Option Nat} {S S1 : Nat → Sqd} {C C1 : gC} (h : TelP T S s o f k lo n w p v P C C1 S1 i) (hi : i < k) (hk : k ≤ 30) (hf : f < 30) (ho : o ≤ 30) (hs : s + 1 < lo) (hr : T (o + (f + i) % 30) = some r) : TelP T S s o f k lo n w p v P C (SqE r (S1 (o + (f + i) % 30)).1 (sup (S1 (o + (f + i) % 30)).2 w (upd ((S1 (o + (f + i) % 30)).2 w) p v)) C1) (sup S1 (o + (f + i) % 30) (tkD w p v (S1 (o + (f + i) % 30)))) (i + 1) := by
  obtain ⟨h1, h2, ⟨h3, h4⟩, h5⟩ := h
  have hl : (f + i) % 30 < 30 := Nat.mod_lt _ (by decide)
  obtain ⟨w1, w2, w3, w4⟩ := h2 _ (by omega : o + (f + i) % 30 < 60) r hr
  refine ⟨stAt_k h1 (Sq_out (.inl (by omega))) (Sq_out (.inl (by omega))), RwS_put (d := tkD w p v (S1 (o + (f + i) % 30))) h2 (by omega) hr, ⟨fun e he => ?_, fun j hj => ?_⟩, fun q hq hoff => ?_⟩
  · by_cases q : e = i
    · subst q
      rw [sup_same, h4 _ (fun e' he' => by omega)]
    · rw [sup_ne (by omega)]
      exact h3 e (by omega)
  · rw [sup_ne (hj i (by omega))]
    exact h4 j fun e he => hj e (by omega)
  · have := hoff _ (by omega : o + (f + i) % 30 < 60) r hr
    rw [Sq_out (by omega)]
    exact h5 q hq hoff
theorem sq_u1 {C : gC} {r : Nat} {d : Sqd} {f : Nat → Int32} (h : sqAt C r d) : gup C (r + 1) (.inl (0, 30, .inl f)) = SqE r d.1 (sup d.2 1 f) C := (congrArg (fun X => gup X (r + 1) (.inl (0, 30, .inl f))) (sqAt_E h)).trans Squ_1
theorem sq_u2 {C : gC} {r : Nat} {d : Sqd} {f : Nat → Int32} (h : sqAt C r d) : gup C (r + 2) (.inl (0, 30, .inl f)) = SqE r d.1 (sup d.2 2 f) C := (congrArg (fun X => gup X (r + 2) (.inl (0, 30, .inl f))) (sqAt_E h)).trans Squ_2
def sp_X7_tellKind : gSp := tel_pre 1
set_option maxRecDepth 100000 in
set_option maxHeartbeats 4000000 in
theorem c_X7_tellKind (l : Launch) : Con l yX7_tellKind cX7_tellKind 4 none 3 5 194 sp_X7_tellKind := by
  refine m_X7_tellKind (c_X7_row l) (by decide) ?_
  intro as C0 n0 z0 Q h
  unfold sp_X7_tellKind tel_pre at h
  split at h
  · rename_i s x v
    obtain ⟨P, T, S, o, lo, f, k, p, hst, hP, ho, hf, hk, hW, hs, hlo, hU, rfl, hp, hQ⟩ := h
    refine ⟨Nat.le_of_ble_eq_true rfl, fun pc μ => tlI s o f k lo 1 p v P T S C0 n0 z0 μ, ?_, ?_⟩
    · simp only [b_X7_tellKind_0, s_psh, s_ild, s_lld, s_ald, s_ist, s_lst, s_ast, s_inc, s_ib, s_ibz, s_iu, s_lb, s_lbz, s_lu, s_ls, s_il, s_li, s_cmp, s_dup, s_pop, s_dup2, s_cv, s_cs, s_ci, s_oi, s_get, s_put, s_iald, s_lald, s_zald, s_iast, s_last, s_zast, s_alen, s_iret, s_lret, s_aret, s_vret, s_al, gpad, gl, gst, gclr, gc2, gent, gcat, Value.category, List.drop_succ_cons, List.drop_zero, List.take_succ_cons, List.take_zero, List.reverse_cons, List.reverse_nil, List.nil_append, List.cons_append, List.append_nil, List.map_cons, List.map_nil, List.sum_cons, List.sum_nil, List.length_cons, List.length_nil, Option.toList, cond_true, cond_false, Nat.reduceBEq, Nat.reduceAdd, Nat.reduceLeDiff, beq_self_eq_true, true_and, and_true, BEq.rfl, Bool.false_eq_true, if_true, if_false, Sq_0, Sq_1, Sq_2, Sq_3, Sq_4, Sqf_0, Sqf_1, Sqf_2, Sqf_3, Sqf_4, Sqf_5, Sqf_6, Sqs_4, Sqs_5, Sqs_6, Squ_1, Squ_2, Squ_3, Squ_4]
      exact ⟨_, rfl, rfl, rfl, 0, S, Nat.zero_le _, rfl, tel_0 hst hW, rfl⟩
    · rintro μ lv st C n z ⟨rfl, rfl, rfl, i, S1, hi, rfl, hT, rfl⟩
      have hg : gfld C s 7 2 = some (.int (nI k)) := by rw [gfld, hT.1.1]; rfl
      have hc : C s = _ := hT.1.1
      simp only [b_X7_tellKind_2, hg, hc, s_psh, s_ild, s_lld, s_ald, s_ist, s_lst, s_ast, s_inc, s_ib, s_ibz, s_iu, s_lb, s_lbz, s_lu, s_ls, s_il, s_li, s_cmp, s_dup, s_pop, s_dup2, s_cv, s_cs, s_ci, s_oi, s_get, s_put, s_iald, s_lald, s_zald, s_iast, s_last, s_zast, s_alen, s_iret, s_lret, s_aret, s_vret, s_al, gpad, gl, gst, gclr, gc2, gent, gcat, Value.category, List.drop_succ_cons, List.drop_zero, List.take_succ_cons, List.take_zero, List.reverse_cons, List.reverse_nil, List.nil_append, List.cons_append, List.append_nil, List.map_cons, List.map_nil, List.sum_cons, List.sum_nil, List.length_cons, List.length_nil, Option.toList, cond_true, cond_false, Nat.reduceBEq, Nat.reduceAdd, Nat.reduceLeDiff, beq_self_eq_true, true_and, and_true, BEq.rfl, Bool.false_eq_true, if_true, if_false, Sq_0, Sq_1, Sq_2, Sq_3, Sq_4, Sqf_0, Sqf_1, Sqf_2, Sqf_3, Sqf_4, Sqf_5, Sqf_6, Sqs_4, Sqs_5, Sqs_6, Squ_1, Squ_2, Squ_3, Squ_4]
      refine if2i (fun g => ?_) (fun g => ?_)
      · rw [nI_leI (by omega) (by omega)] at g
        have : i = k := by omega
        subst this
        simp only [s_psh, s_ild, s_lld, s_ald, s_ist, s_lst, s_ast, s_inc, s_ib, s_ibz, s_iu, s_lb, s_lbz, s_lu, s_ls, s_il, s_li, s_cmp, s_dup, s_pop, s_dup2, s_cv, s_cs, s_ci, s_oi, s_get, s_put, s_iald, s_lald, s_zald, s_iast, s_last, s_zast, s_alen, s_iret, s_lret, s_aret, s_vret, s_al, gpad, gl, gst, gclr, gc2, gent, gcat, Value.category, List.drop_succ_cons, List.drop_zero, List.take_succ_cons, List.take_zero, List.reverse_cons, List.reverse_nil, List.nil_append, List.cons_append, List.append_nil, List.map_cons, List.map_nil, List.sum_cons, List.sum_nil, List.length_cons, List.length_nil, Option.toList, cond_true, cond_false, Nat.reduceBEq, Nat.reduceAdd, Nat.reduceLeDiff, beq_self_eq_true, true_and, and_true, BEq.rfl, Bool.false_eq_true, if_true, if_false, Sq_0, Sq_1, Sq_2, Sq_3, Sq_4, Sqf_0, Sqf_1, Sqf_2, Sqf_3, Sqf_4, Sqf_5, Sqf_6, Sqs_4, Sqs_5, Sqs_6, Squ_1, Squ_2, Squ_3, Squ_4]
        exact hQ C S1 hT
      · rw [nI_leI (by omega) (by omega)] at g
        obtain ⟨r, hr⟩ := Option.ne_none_iff_exists'.mp (hU i (by omega))
        have hl : (f + i) % 30 < 30 := Nat.mod_lt _ (by decide)
        obtain ⟨w1, w2, w3, w4⟩ := hT.2.1 _ (by omega : o + (f + i) % 30 < 60) r hr
        simp only [hc, s_psh, s_ild, s_lld, s_ald, s_ist, s_lst, s_ast, s_inc, s_ib, s_ibz, s_iu, s_lb, s_lbz, s_lu, s_ls, s_il, s_li, s_cmp, s_dup, s_pop, s_dup2, s_cv, s_cs, s_ci, s_oi, s_get, s_put, s_iald, s_lald, s_zald, s_iast, s_last, s_zast, s_alen, s_iret, s_lret, s_aret, s_vret, s_al, gpad, gl, gst, gclr, gc2, gent, gcat, Value.category, List.drop_succ_cons, List.drop_zero, List.take_succ_cons, List.take_zero, List.reverse_cons, List.reverse_nil, List.nil_append, List.cons_append, List.append_nil, List.map_cons, List.map_nil, List.sum_cons, List.sum_nil, List.length_cons, List.length_nil, Option.toList, cond_true, cond_false, Nat.reduceBEq, Nat.reduceAdd, Nat.reduceLeDiff, beq_self_eq_true, true_and, and_true, BEq.rfl, Bool.false_eq_true, if_true, if_false, Sq_0, Sq_1, Sq_2, Sq_3, Sq_4, Sqf_0, Sqf_1, Sqf_2, Sqf_3, Sqf_4, Sqf_5, Sqf_6, Sqs_4, Sqs_5, Sqs_6, Squ_1, Squ_2, Squ_3, Squ_4]
        refine ⟨⟨Nat.le_refl _, Nat.le_refl _⟩, row_ex hT.1 hf (by omega) ((hP _ hl).trans hr) (Nat.lt_of_lt_of_le hs hlo) ?_⟩
        have g1 : gfld C r 5 0 = some (.ref (r + 1)) := by rw [gfld, w3.1]; rfl
        have g2 := w3.2.1
        simp only [g1, g2, sq_u1 w3, s_psh, s_ild, s_lld, s_ald, s_ist, s_lst, s_ast, s_inc, s_ib, s_ibz, s_iu, s_lb, s_lbz, s_lu, s_ls, s_il, s_li, s_cmp, s_dup, s_pop, s_dup2, s_cv, s_cs, s_ci, s_oi, s_get, s_put, s_iald, s_lald, s_zald, s_iast, s_last, s_zast, s_alen, s_iret, s_lret, s_aret, s_vret, s_al, gpad, gl, gst, gclr, gc2, gent, gcat, Value.category, List.drop_succ_cons, List.drop_zero, List.take_succ_cons, List.take_zero, List.reverse_cons, List.reverse_nil, List.nil_append, List.cons_append, List.append_nil, List.map_cons, List.map_nil, List.sum_cons, List.sum_nil, List.length_cons, List.length_nil, Option.toList, cond_true, cond_false, Nat.reduceBEq, Nat.reduceAdd, Nat.reduceLeDiff, beq_self_eq_true, true_and, and_true, BEq.rfl, Bool.false_eq_true, if_true, if_false, Sq_0, Sq_1, Sq_2, Sq_3, Sq_4, Sqf_0, Sqf_1, Sqf_2, Sqf_3, Sqf_4, Sqf_5, Sqf_6, Sqs_4, Sqs_5, Sqs_6, Squ_1, Squ_2, Squ_3, Squ_4]
        simp (disch := omega) only [true_and, and_true, lit, nI_add, nar_i, nar_0, nar_1, nar_b, fit_i, fit_l, pk_rem, nI_leI, nI_ltI, nI_eq, vin_iff, nI_clamp, nI_m1]
        exact ⟨hp, k - (i + 1), by omega, rfl, rfl, rfl, i + 1, _, by omega, rfl, tel_s hT (by omega) hk hf ho hs hr, rfl⟩
  · exact h.elim
def sp_X7_tellPaint : gSp := tel_pre 2
set_option maxRecDepth 100000 in
set_option maxHeartbeats 4000000 in
theorem c_X7_tellPaint (l : Launch) : Con l yX7_tellPaint cX7_tellPaint 4 none 3 5 194 sp_X7_tellPaint := by
  refine m_X7_tellPaint (c_X7_row l) (by decide) ?_
  intro as C0 n0 z0 Q h
  unfold sp_X7_tellPaint tel_pre at h
  split at h
  · rename_i s x v
    obtain ⟨P, T, S, o, lo, f, k, p, hst, hP, ho, hf, hk, hW, hs, hlo, hU, rfl, hp, hQ⟩ := h
    refine ⟨Nat.le_of_ble_eq_true rfl, fun pc μ => tlI s o f k lo 2 p v P T S C0 n0 z0 μ, ?_, ?_⟩
    · simp only [b_X7_tellPaint_0, s_psh, s_ild, s_lld, s_ald, s_ist, s_lst, s_ast, s_inc, s_ib, s_ibz, s_iu, s_lb, s_lbz, s_lu, s_ls, s_il, s_li, s_cmp, s_dup, s_pop, s_dup2, s_cv, s_cs, s_ci, s_oi, s_get, s_put, s_iald, s_lald, s_zald, s_iast, s_last, s_zast, s_alen, s_iret, s_lret, s_aret, s_vret, s_al, gpad, gl, gst, gclr, gc2, gent, gcat, Value.category, List.drop_succ_cons, List.drop_zero, List.take_succ_cons, List.take_zero, List.reverse_cons, List.reverse_nil, List.nil_append, List.cons_append, List.append_nil, List.map_cons, List.map_nil, List.sum_cons, List.sum_nil, List.length_cons, List.length_nil, Option.toList, cond_true, cond_false, Nat.reduceBEq, Nat.reduceAdd, Nat.reduceLeDiff, beq_self_eq_true, true_and, and_true, BEq.rfl, Bool.false_eq_true, if_true, if_false, Sq_0, Sq_1, Sq_2, Sq_3, Sq_4, Sqf_0, Sqf_1, Sqf_2, Sqf_3, Sqf_4, Sqf_5, Sqf_6, Sqs_4, Sqs_5, Sqs_6, Squ_1, Squ_2, Squ_3, Squ_4]
      exact ⟨_, rfl, rfl, rfl, 0, S, Nat.zero_le _, rfl, tel_0 hst hW, rfl⟩
    · rintro μ lv st C n z ⟨rfl, rfl, rfl, i, S1, hi, rfl, hT, rfl⟩
      have hg : gfld C s 7 2 = some (.int (nI k)) := by rw [gfld, hT.1.1]; rfl
      have hc : C s = _ := hT.1.1
      simp only [b_X7_tellPaint_2, hg, hc, s_psh, s_ild, s_lld, s_ald, s_ist, s_lst, s_ast, s_inc, s_ib, s_ibz, s_iu, s_lb, s_lbz, s_lu, s_ls, s_il, s_li, s_cmp, s_dup, s_pop, s_dup2, s_cv, s_cs, s_ci, s_oi, s_get, s_put, s_iald, s_lald, s_zald, s_iast, s_last, s_zast, s_alen, s_iret, s_lret, s_aret, s_vret, s_al, gpad, gl, gst, gclr, gc2, gent, gcat, Value.category, List.drop_succ_cons, List.drop_zero, List.take_succ_cons, List.take_zero, List.reverse_cons, List.reverse_nil, List.nil_append, List.cons_append, List.append_nil, List.map_cons, List.map_nil, List.sum_cons, List.sum_nil, List.length_cons, List.length_nil, Option.toList, cond_true, cond_false, Nat.reduceBEq, Nat.reduceAdd, Nat.reduceLeDiff, beq_self_eq_true, true_and, and_true, BEq.rfl, Bool.false_eq_true, if_true, if_false, Sq_0, Sq_1, Sq_2, Sq_3, Sq_4, Sqf_0, Sqf_1, Sqf_2, Sqf_3, Sqf_4, Sqf_5, Sqf_6, Sqs_4, Sqs_5, Sqs_6, Squ_1, Squ_2, Squ_3, Squ_4]
      refine if2i (fun g => ?_) (fun g => ?_)
      · rw [nI_leI (by omega) (by omega)] at g
        have : i = k := by omega
        subst this
        simp only [s_psh, s_ild, s_lld, s_ald, s_ist, s_lst, s_ast, s_inc, s_ib, s_ibz, s_iu, s_lb, s_lbz, s_lu, s_ls, s_il, s_li, s_cmp, s_dup, s_pop, s_dup2, s_cv, s_cs, s_ci, s_oi, s_get, s_put, s_iald, s_lald, s_zald, s_iast, s_last, s_zast, s_alen, s_iret, s_lret, s_aret, s_vret, s_al, gpad, gl, gst, gclr, gc2, gent, gcat, Value.category, List.drop_succ_cons, List.drop_zero, List.take_succ_cons, List.take_zero, List.reverse_cons, List.reverse_nil, List.nil_append, List.cons_append, List.append_nil, List.map_cons, List.map_nil, List.sum_cons, List.sum_nil, List.length_cons, List.length_nil, Option.toList, cond_true, cond_false, Nat.reduceBEq, Nat.reduceAdd, Nat.reduceLeDiff, beq_self_eq_true, true_and, and_true, BEq.rfl, Bool.false_eq_true, if_true, if_false, Sq_0, Sq_1, Sq_2, Sq_3, Sq_4, Sqf_0, Sqf_1, Sqf_2, Sqf_3, Sqf_4, Sqf_5, Sqf_6, Sqs_4, Sqs_5, Sqs_6, Squ_1, Squ_2, Squ_3, Squ_4]
        exact hQ C S1 hT
      · rw [nI_leI (by omega) (by omega)] at g
        obtain ⟨r, hr⟩ := Option.ne_none_iff_exists'.mp (hU i (by omega))
        have hl : (f + i) % 30 < 30 := Nat.mod_lt _ (by decide)
        obtain ⟨w1, w2, w3, w4⟩ := hT.2.1 _ (by omega : o + (f + i) % 30 < 60) r hr
        simp only [hc, s_psh, s_ild, s_lld, s_ald, s_ist, s_lst, s_ast, s_inc, s_ib, s_ibz, s_iu, s_lb, s_lbz, s_lu, s_ls, s_il, s_li, s_cmp, s_dup, s_pop, s_dup2, s_cv, s_cs, s_ci, s_oi, s_get, s_put, s_iald, s_lald, s_zald, s_iast, s_last, s_zast, s_alen, s_iret, s_lret, s_aret, s_vret, s_al, gpad, gl, gst, gclr, gc2, gent, gcat, Value.category, List.drop_succ_cons, List.drop_zero, List.take_succ_cons, List.take_zero, List.reverse_cons, List.reverse_nil, List.nil_append, List.cons_append, List.append_nil, List.map_cons, List.map_nil, List.sum_cons, List.sum_nil, List.length_cons, List.length_nil, Option.toList, cond_true, cond_false, Nat.reduceBEq, Nat.reduceAdd, Nat.reduceLeDiff, beq_self_eq_true, true_and, and_true, BEq.rfl, Bool.false_eq_true, if_true, if_false, Sq_0, Sq_1, Sq_2, Sq_3, Sq_4, Sqf_0, Sqf_1, Sqf_2, Sqf_3, Sqf_4, Sqf_5, Sqf_6, Sqs_4, Sqs_5, Sqs_6, Squ_1, Squ_2, Squ_3, Squ_4]
        refine ⟨⟨Nat.le_refl _, Nat.le_refl _⟩, row_ex hT.1 hf (by omega) ((hP _ hl).trans hr) (Nat.lt_of_lt_of_le hs hlo) ?_⟩
        have g1 : gfld C r 5 1 = some (.ref (r + 2)) := by rw [gfld, w3.1]; rfl
        have g2 := w3.2.2.1
        simp only [g1, g2, sq_u2 w3, s_psh, s_ild, s_lld, s_ald, s_ist, s_lst, s_ast, s_inc, s_ib, s_ibz, s_iu, s_lb, s_lbz, s_lu, s_ls, s_il, s_li, s_cmp, s_dup, s_pop, s_dup2, s_cv, s_cs, s_ci, s_oi, s_get, s_put, s_iald, s_lald, s_zald, s_iast, s_last, s_zast, s_alen, s_iret, s_lret, s_aret, s_vret, s_al, gpad, gl, gst, gclr, gc2, gent, gcat, Value.category, List.drop_succ_cons, List.drop_zero, List.take_succ_cons, List.take_zero, List.reverse_cons, List.reverse_nil, List.nil_append, List.cons_append, List.append_nil, List.map_cons, List.map_nil, List.sum_cons, List.sum_nil, List.length_cons, List.length_nil, Option.toList, cond_true, cond_false, Nat.reduceBEq, Nat.reduceAdd, Nat.reduceLeDiff, beq_self_eq_true, true_and, and_true, BEq.rfl, Bool.false_eq_true, if_true, if_false, Sq_0, Sq_1, Sq_2, Sq_3, Sq_4, Sqf_0, Sqf_1, Sqf_2, Sqf_3, Sqf_4, Sqf_5, Sqf_6, Sqs_4, Sqs_5, Sqs_6, Squ_1, Squ_2, Squ_3, Squ_4]
        simp (disch := omega) only [true_and, and_true, lit, nI_add, nar_i, nar_0, nar_1, nar_b, fit_i, fit_l, pk_rem, nI_leI, nI_ltI, nI_eq, vin_iff, nI_clamp, nI_m1]
        exact ⟨hp, k - (i + 1), by omega, rfl, rfl, rfl, i + 1, _, by omega, rfl, tel_s hT (by omega) hk hf ho hs hr, rfl⟩
  · exact h.elim
