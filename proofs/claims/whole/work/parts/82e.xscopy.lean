/-! the class's steps: copy -/
def CpyP (T : Nat → Option Nat) (S : Nat → Sqd) (s o o' f' k lo n z : Nat) (C C' : gC) (n' z' : Nat) (P' T' : Nat → Option Nat) (S' : Nat → Sqd) (i : Nat) : Prop := stAt C' s 0 k P' ∧ (∀ j, j < 30 → P' j = T' (o + j)) ∧ RwS T' S' lo n' C' ∧ (∀ j, (∀ e, e < i → j ≠ o + e) → T' j = T j ∧ S' j = S j) ∧ (∀ e, e < i → T' (o + e) ≠ none ∧ sqEq (S' (o + e)) (S (o' + (f' + e) % 30))) ∧ (∀ q, q < n → q ≠ s → q ≠ s + 1 → offT T q → C' q = C q) ∧ n ≤ n' ∧ n' ≤ n + 5 * i ∧ z' ≤ z + 194 * i ∧ n' + 5 * nul T' = n + 5 * nul T ∧ z' + 194 * nul T' = z + 194 * nul T ∧ (∀ j r, T' j = some r → T j = some r ∨ n ≤ r)
def syI (s q o o' f' k lo : Nat) (T : Nat → Option Nat) (S : Nat → Sqd) (C0 : gC) (n0 z0 μ : Nat) : gKo := fun lv st C n z => st = [] ∧ ∃ i P1 T1 S1, i ≤ k ∧ μ = k - i ∧ CpyP T S s o o' f' k lo n0 z0 C0 C n z P1 T1 S1 i ∧ lv = [some (.ref s), some (.ref q), some (.int (nI i))]
def sp_X7_copy : gSp := fun as C n z Q => match as with
  | [.ref s, .ref q] => ∃ P P2 T S o o' lo f k0 f' k, stAt C s f k0 P ∧ stAt C q f' k P2 ∧ (∀ j, j < 30 → P j = T (o + j)) ∧ (∀ j, j < 30 → P2 j = T (o' + j)) ∧ (o = 0 ∧ o' = 30 ∨ o = 30 ∧ o' = 0) ∧ f' < 30 ∧ k ≤ 30 ∧ RwS T S lo n C ∧ s + 1 < lo ∧ q + 1 < lo ∧ (s + 1 < q ∨ q + 1 < s) ∧ lo ≤ n ∧ (∀ i, i < k → T (o' + (f' + i) % 30) ≠ none ∧ ∃ b, b ≤ 30 ∧ (S (o' + (f' + i) % 30)).1 4 = nI b) ∧ ∀ C' n' z' P' T' S', CpyP T S s o o' f' k lo n z C C' n' z' P' T' S' k → Q none C' n' z'
  | _ => False
set_option maxRecDepth 100000 in
set_option maxHeartbeats 4000000 in
theorem c_X7_copy (l : Launch) : Con l yX7_copy cX7_copy 3 none 3 160 6300 sp_X7_copy := by
  refine m_X7_copy (c_X7_row l) (by decide) (c_X5_copy l) (by decide) ?_
  intro as C0 n0 z0 Q h
  unfold sp_X7_copy at h
  split at h
  · rename_i s1 q1
    obtain ⟨s, hs1⟩ : ∃ s : Nat, s = s1 := ⟨s1, rfl⟩
    obtain ⟨q, hq1⟩ : ∃ q : Nat, q = q1 := ⟨q1, rfl⟩
    subst hs1 hq1
    obtain ⟨P, P2, T, S, o, o', lo, f, k0, f', k, hst, hst2, hP, hP2, hoo, hf, hk, hW, hs, hq, hsq, hlo, hU, hQ⟩ := h
    have hs : s + 1 < lo := hs
    have hq : q + 1 < lo := hq
    have hsq : s + 1 < q ∨ q + 1 < s := hsq
    have hoff : ∀ x, x < lo → offT T x := fun x hx j hj r' hr' => by
      obtain ⟨u1, -⟩ := hW j hj r' hr'
      omega
    refine ⟨Nat.le_of_ble_eq_true rfl, fun pc μ => syI s q o o' f' k lo T S C0 n0 z0 μ, ?_, ?_⟩
    · have hC := stAt_E hst
      generalize hσ : (fun j => if j = 1 then nI f else nI k0) = σ at hC
      clear hσ
      have hq2 : StE s σ P C0 q = some (.inr (7, [.ref (q + 1), .int (nI f'), .int (nI k)])) := by rw [StE_o (by omega)]; exact hst2.1
      have hg2 : ∀ v, gfld (StE s (sup σ 1 v) P C0) q 7 2 = some (.int (nI k)) := fun v => by
        rw [gfld, StE_o (by omega), hst2.1]; rfl
      rw [hC]
      simp only [b_X7_copy_0, StE_is, StE_1, Stf_0, Stf_1, Stf_2, Sts_1, Sts_2, hg2, hq2, s_psh, s_ild, s_lld, s_ald, s_ist, s_lst, s_ast, s_inc, s_ib, s_ibz, s_iu, s_lb, s_lbz, s_lu, s_ls, s_il, s_li, s_cmp, s_dup, s_pop, s_dup2, s_cv, s_cs, s_ci, s_oi, s_get, s_put, s_iald, s_lald, s_zald, s_iast, s_last, s_zast, s_alen, s_iret, s_lret, s_aret, s_vret, s_al, gpad, gl, gst, gclr, gc2, gent, gcat, Value.category, List.drop_succ_cons, List.drop_zero, List.take_succ_cons, List.take_zero, List.reverse_cons, List.reverse_nil, List.nil_append, List.cons_append, List.append_nil, List.map_cons, List.map_nil, List.sum_cons, List.sum_nil, List.length_cons, List.length_nil, Option.toList, cond_true, cond_false, Nat.reduceBEq, Nat.reduceAdd, Nat.reduceLeDiff, beq_self_eq_true, true_and, and_true, BEq.rfl, Bool.false_eq_true, if_true, if_false, Sq_0, Sq_1, Sq_2, Sq_3, Sq_4, Sqf_0, Sqf_1, Sqf_2, Sqf_3, Sqf_4, Sqf_5, Sqf_6, Sqs_4, Sqs_5, Sqs_6, Squ_1, Squ_2, Squ_3, Squ_4]
      try simp (disch := omega) only [true_and, and_true, lit, nI_add, nar_i, nar_0, nar_1, nar_b, fit_i, fit_l, pk_rem, nI_leI, nI_ltI, nI_eq, vin_iff, nI_clamp, nI_m1]
      refine ⟨_, rfl, 0, P, T, S, Nat.zero_le _, rfl, ⟨stAt_s (by rw [sup_ne (by decide), sup_same]) sup_same, hP, RwS_same hW fun x hx _ => StE_o (by omega), fun _ _ => ⟨rfl, rfl⟩, fun e he => absurd he (Nat.not_lt_zero _), fun x _ h1 h2 _ => by rw [StE_o (by omega), StE_o (by omega)], Nat.le_refl _, Nat.le_refl _, Nat.le_refl _, rfl, rfl, fun j r hr => .inl hr⟩, rfl⟩
    · rintro μ lv st C n z ⟨rfl, i, P1, T1, S1, hi, rfl, ⟨a1, a2, a3, a4, a5, a6, a7, a8, a9, a10, a11, a12⟩, rfl⟩
      have hg : gfld C s 7 2 = some (.int (nI k)) := by rw [gfld, a1.1]; rfl
      have hc : C s = some (.inr (7, [.ref (s + 1), .int (nI 0), .int (nI k)])) := a1.1
      simp only [b_X7_copy_15, hg, hc, s_psh, s_ild, s_lld, s_ald, s_ist, s_lst, s_ast, s_inc, s_ib, s_ibz, s_iu, s_lb, s_lbz, s_lu, s_ls, s_il, s_li, s_cmp, s_dup, s_pop, s_dup2, s_cv, s_cs, s_ci, s_oi, s_get, s_put, s_iald, s_lald, s_zald, s_iast, s_last, s_zast, s_alen, s_iret, s_lret, s_aret, s_vret, s_al, gpad, gl, gst, gclr, gc2, gent, gcat, Value.category, List.drop_succ_cons, List.drop_zero, List.take_succ_cons, List.take_zero, List.reverse_cons, List.reverse_nil, List.nil_append, List.cons_append, List.append_nil, List.map_cons, List.map_nil, List.sum_cons, List.sum_nil, List.length_cons, List.length_nil, Option.toList, cond_true, cond_false, Nat.reduceBEq, Nat.reduceAdd, Nat.reduceLeDiff, beq_self_eq_true, true_and, and_true, BEq.rfl, Bool.false_eq_true, if_true, if_false, Sq_0, Sq_1, Sq_2, Sq_3, Sq_4, Sqf_0, Sqf_1, Sqf_2, Sqf_3, Sqf_4, Sqf_5, Sqf_6, Sqs_4, Sqs_5, Sqs_6, Squ_1, Squ_2, Squ_3, Squ_4]
      refine if2i (fun g => ?_) (fun g => ?_)
      · rw [nI_leI (by omega) (by omega)] at g
        have : i = k := by omega
        subst this
        simp only [s_psh, s_ild, s_lld, s_ald, s_ist, s_lst, s_ast, s_inc, s_ib, s_ibz, s_iu, s_lb, s_lbz, s_lu, s_ls, s_il, s_li, s_cmp, s_dup, s_pop, s_dup2, s_cv, s_cs, s_ci, s_oi, s_get, s_put, s_iald, s_lald, s_zald, s_iast, s_last, s_zast, s_alen, s_iret, s_lret, s_aret, s_vret, s_al, gpad, gl, gst, gclr, gc2, gent, gcat, Value.category, List.drop_succ_cons, List.drop_zero, List.take_succ_cons, List.take_zero, List.reverse_cons, List.reverse_nil, List.nil_append, List.cons_append, List.append_nil, List.map_cons, List.map_nil, List.sum_cons, List.sum_nil, List.length_cons, List.length_nil, Option.toList, cond_true, cond_false, Nat.reduceBEq, Nat.reduceAdd, Nat.reduceLeDiff, beq_self_eq_true, true_and, and_true, BEq.rfl, Bool.false_eq_true, if_true, if_false, Sq_0, Sq_1, Sq_2, Sq_3, Sq_4, Sqf_0, Sqf_1, Sqf_2, Sqf_3, Sqf_4, Sqf_5, Sqf_6, Sqs_4, Sqs_5, Sqs_6, Squ_1, Squ_2, Squ_3, Squ_4]
        exact hQ C n z P1 T1 S1 ⟨a1, a2, a3, a4, a5, a6, a7, a8, a9, a10, a11, a12⟩
      · rw [nI_leI (by omega) (by omega)] at g
        simp only [hc, s_psh, s_ild, s_lld, s_ald, s_ist, s_lst, s_ast, s_inc, s_ib, s_ibz, s_iu, s_lb, s_lbz, s_lu, s_ls, s_il, s_li, s_cmp, s_dup, s_pop, s_dup2, s_cv, s_cs, s_ci, s_oi, s_get, s_put, s_iald, s_lald, s_zald, s_iast, s_last, s_zast, s_alen, s_iret, s_lret, s_aret, s_vret, s_al, gpad, gl, gst, gclr, gc2, gent, gcat, Value.category, List.drop_succ_cons, List.drop_zero, List.take_succ_cons, List.take_zero, List.reverse_cons, List.reverse_nil, List.nil_append, List.cons_append, List.append_nil, List.map_cons, List.map_nil, List.sum_cons, List.sum_nil, List.length_cons, List.length_nil, Option.toList, cond_true, cond_false, Nat.reduceBEq, Nat.reduceAdd, Nat.reduceLeDiff, beq_self_eq_true, true_and, and_true, BEq.rfl, Bool.false_eq_true, if_true, if_false, Sq_0, Sq_1, Sq_2, Sq_3, Sq_4, Sqf_0, Sqf_1, Sqf_2, Sqf_3, Sqf_4, Sqf_5, Sqf_6, Sqs_4, Sqs_5, Sqs_6, Squ_1, Squ_2, Squ_3, Squ_4]
        refine ⟨⟨by omega, by omega⟩, ?_⟩
        have hC := stAt_E a1
        generalize hσ : (fun j => if j = 1 then nI 0 else nI k) = σ at hC
        have e1 : σ 1 = nI 0 := by rw [← hσ]; rfl
        have e2 : σ 2 = nI k := by rw [← hσ]; rfl
        clear hσ
        rw [hC]
        refine row_sp (f := 0) e1 (by decide) (by omega) a2 (by omega) a3 hs (by omega) fun T2 S2 n1 z1 P3 B r hR hP3 => ?_
        rw [show (0 + i) % 30 = i by omega] at hR
        obtain ⟨r1, r2, r3, r4, r5, r6, r7, r8, r9, r10, r11⟩ := hR
        have hl : (f' + i) % 30 < 30 := Nat.mod_lt _ (by decide)
        obtain ⟨hT, b, hb, hb4⟩ := hU i (by omega)
        obtain ⟨rr, hrr⟩ := Option.ne_none_iff_exists'.mp hT
        have hTq : T2 (o' + (f' + i) % 30) = some rr := by
          rw [(r3 _ (by omega)).1, (a4 _ (fun e he => by omega)).1]; exact hrr
        have hSq : S2 (o' + (f' + i) % 30) = S (o' + (f' + i) % 30) := by
          rw [(r3 _ (by omega)).2, (a4 _ (fun e he => by omega)).2]
        obtain ⟨w1, w2, w3, w4⟩ := r1 (o + i) (by omega) r r2
        obtain ⟨v1, v2, v3, v4⟩ := r1 _ (by omega : o' + (f' + i) % 30 < 60) rr hTq
        rw [hSq] at v3
        have hdis := w4 _ (by omega : o' + (f' + i) % 30 < 60) (by omega) rr hTq
        have hlow : ∀ x, x < lo → x ≠ s → x ≠ s + 1 → StE s σ P3 B x = C0 x := fun x hx h1 h2 => by
          rw [StE_o (by omega), r4 x (by omega), a6 x (by omega) h1 h2 (hoff x hx)]
        have hsq1 : stAt (StE s σ P3 B) q f' k P2 := stAt_k hst2 (hlow q (by omega) (by omega) (by omega)) (hlow (q + 1) (by omega) (by omega) (by omega))
        have hcq : StE s σ P3 B q = some (.inr (7, [.ref (q + 1), .int (nI f'), .int (nI k)])) := hsq1.1
        have hr1 : sqAt (StE s σ P3 B) r (S2 (o + i)) := sqAt_k w3 fun j hj => StE_o (by omega)
        have hr2 : sqAt (StE s σ P3 B) rr (S (o' + (f' + i) % 30)) := sqAt_k v3 fun j hj => StE_o (by omega)
        have hcr : StE s σ P3 B r = some (.inr (5, Sqfs r (S2 (o + i)).1)) := hr1.1
        simp only [hcq, s_psh, s_ild, s_lld, s_ald, s_ist, s_lst, s_ast, s_inc, s_ib, s_ibz, s_iu, s_lb, s_lbz, s_lu, s_ls, s_il, s_li, s_cmp, s_dup, s_pop, s_dup2, s_cv, s_cs, s_ci, s_oi, s_get, s_put, s_iald, s_lald, s_zald, s_iast, s_last, s_zast, s_alen, s_iret, s_lret, s_aret, s_vret, s_al, gpad, gl, gst, gclr, gc2, gent, gcat, Value.category, List.drop_succ_cons, List.drop_zero, List.take_succ_cons, List.take_zero, List.reverse_cons, List.reverse_nil, List.nil_append, List.cons_append, List.append_nil, List.map_cons, List.map_nil, List.sum_cons, List.sum_nil, List.length_cons, List.length_nil, Option.toList, cond_true, cond_false, Nat.reduceBEq, Nat.reduceAdd, Nat.reduceLeDiff, beq_self_eq_true, true_and, and_true, BEq.rfl, Bool.false_eq_true, if_true, if_false, Sq_0, Sq_1, Sq_2, Sq_3, Sq_4, Sqf_0, Sqf_1, Sqf_2, Sqf_3, Sqf_4, Sqf_5, Sqf_6, Sqs_4, Sqs_5, Sqs_6, Squ_1, Squ_2, Squ_3, Squ_4]
        refine ⟨⟨by omega, by omega⟩, row_ex hsq1 hf (by omega) ((hP2 _ hl).trans hrr) (by omega) ?_⟩
        simp only [hcr, s_psh, s_ild, s_lld, s_ald, s_ist, s_lst, s_ast, s_inc, s_ib, s_ibz, s_iu, s_lb, s_lbz, s_lu, s_ls, s_il, s_li, s_cmp, s_dup, s_pop, s_dup2, s_cv, s_cs, s_ci, s_oi, s_get, s_put, s_iald, s_lald, s_zald, s_iast, s_last, s_zast, s_alen, s_iret, s_lret, s_aret, s_vret, s_al, gpad, gl, gst, gclr, gc2, gent, gcat, Value.category, List.drop_succ_cons, List.drop_zero, List.take_succ_cons, List.take_zero, List.reverse_cons, List.reverse_nil, List.nil_append, List.cons_append, List.append_nil, List.map_cons, List.map_nil, List.sum_cons, List.sum_nil, List.length_cons, List.length_nil, Option.toList, cond_true, cond_false, Nat.reduceBEq, Nat.reduceAdd, Nat.reduceLeDiff, beq_self_eq_true, true_and, and_true, BEq.rfl, Bool.false_eq_true, if_true, if_false, Sq_0, Sq_1, Sq_2, Sq_3, Sq_4, Sqf_0, Sqf_1, Sqf_2, Sqf_3, Sqf_4, Sqf_5, Sqf_6, Sqs_4, Sqs_5, Sqs_6, Squ_1, Squ_2, Squ_3, Squ_4]
        refine cp_sp hr1 hr2 (by omega) hb hb4 fun d' hd' => ?_
        simp only [s_psh, s_ild, s_lld, s_ald, s_ist, s_lst, s_ast, s_inc, s_ib, s_ibz, s_iu, s_lb, s_lbz, s_lu, s_ls, s_il, s_li, s_cmp, s_dup, s_pop, s_dup2, s_cv, s_cs, s_ci, s_oi, s_get, s_put, s_iald, s_lald, s_zald, s_iast, s_last, s_zast, s_alen, s_iret, s_lret, s_aret, s_vret, s_al, gpad, gl, gst, gclr, gc2, gent, gcat, Value.category, List.drop_succ_cons, List.drop_zero, List.take_succ_cons, List.take_zero, List.reverse_cons, List.reverse_nil, List.nil_append, List.cons_append, List.append_nil, List.map_cons, List.map_nil, List.sum_cons, List.sum_nil, List.length_cons, List.length_nil, Option.toList, cond_true, cond_false, Nat.reduceBEq, Nat.reduceAdd, Nat.reduceLeDiff, beq_self_eq_true, true_and, and_true, BEq.rfl, Bool.false_eq_true, if_true, if_false, Sq_0, Sq_1, Sq_2, Sq_3, Sq_4, Sqf_0, Sqf_1, Sqf_2, Sqf_3, Sqf_4, Sqf_5, Sqf_6, Sqs_4, Sqs_5, Sqs_6, Squ_1, Squ_2, Squ_3, Squ_4]
        simp (disch := omega) only [true_and, and_true, lit, nI_add, nar_i, nar_0, nar_1, nar_b, fit_i, fit_l, pk_rem, nI_leI, nI_ltI, nI_eq, vin_iff, nI_clamp, nI_m1]
        have hTi : T1 (o + i) = T (o + i) := (a4 _ (fun e he => by omega)).1
        have hnew : T (o + i) = some r ∨ n0 ≤ r := by
          cases hTT : T (o + i) with
          | none => exact .inr (by rw [r11 (hTi.trans hTT)]; exact a7)
          | some r' =>
            have hx := (r10 (by rw [hTi, hTT]; exact Option.some_ne_none _)).1
            rw [hx, hTi, hTT] at r2
            exact .inl r2
        refine ⟨k - (i + 1), by omega, rfl, i + 1, P3, T2, sup S2 (o + i) d', by omega, rfl, ⟨stAt_k (stAt_s e1 e2) (Sq_out (by omega)) (Sq_out (by omega)), hP3, RwS_put (d := d') (RwS_same r1 fun x hx _ => StE_o (by omega)) (by omega) r2, fun j hj => ?_, fun e he => ?_, fun x hx h1 h2 h3 => ?_, by omega, by omega, by omega, by omega, by omega, fun j r' hr' => ?_⟩, rfl⟩
        · have hji := hj i (by omega)
          have := a4 j fun e he => hj e (by omega)
          rw [(r3 j hji).1, sup_ne hji, (r3 j hji).2]
          exact this
        · by_cases hei : e = i
          · subst hei
            rw [sup_same, r2]
            exact ⟨Option.some_ne_none _, hd'⟩
          · rw [(r3 (o + e) (by omega)).1, sup_ne (by omega), (r3 (o + e) (by omega)).2]
            exact a5 e (by omega)
        · have : x < r ∨ r + 4 < x := by
            rcases hnew with h4 | h4
            · have := h3 (o + i) (by omega) r h4
              omega
            · omega
          rw [Sq_out this, StE_o (by omega), r4 x (by omega)]
          exact a6 x hx h1 h2 h3
        · by_cases hj : j = o + i
          · subst hj
            rw [r2] at hr'
            cases hr'
            exact hnew
          · rw [(r3 j hj).1] at hr'
            exact a12 j r' hr'
  · exact h.elim
