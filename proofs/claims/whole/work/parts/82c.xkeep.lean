/-! the class's steps: keep, takeBack -/
def RowP (T : Nat → Option Nat) (S : Nat → Sqd) (lo n z : Nat) (C : gC) (i : Nat) (T1 : Nat → Option Nat) (S1 : Nat → Sqd) (n1 z1 : Nat) (B : gC) (r : Nat) : Prop := RwS T1 S1 lo n1 B ∧ T1 i = some r ∧ (∀ j, j ≠ i → T1 j = T j ∧ S1 j = S j) ∧ (∀ q, q < n → B q = C q) ∧ n ≤ n1 ∧ n1 ≤ n + 5 ∧ z1 ≤ z + 194 ∧ n1 + 5 * nul T1 = n + 5 * nul T ∧ z1 + 194 * nul T1 = z + 194 * nul T ∧ (T i ≠ none → T1 = T ∧ S1 = S ∧ n1 = n ∧ z1 = z ∧ B = C) ∧ (T i = none → r = n)
theorem row_sp {s o f i lo n z : Nat} {σ : Nat → Int32} {P T : Nat → Option Nat} {S : Nat → Sqd} {C : gC} {Q : gQ} (e1 : σ 1 = nI f) (hf : f < 30) (hi : i ≤ 30) (hP : ∀ j, j < 30 → P j = T (o + j)) (ho : o ≤ 30) (hW : RwS T S lo n C) (hs : s + 1 < lo) (hlo : lo ≤ n) (h : ∀ T1 S1 n1 z1 P1 B r, RowP T S lo n z C (o + (f + i) % 30) T1 S1 n1 z1 B r → (∀ j, j < 30 → P1 j = T1 (o + j)) → Q (some (.ref r)) (StE s σ P1 B) n1 z1) : sp_X7_row [.ref s, .int (nI i)] (StE s σ P C) n z Q := by
  have hl : (f + i) % 30 < 30 := Nat.mod_lt _ (by decide)
  refine ⟨σ, P, C, f, i, rfl, e1, hf, rfl, hi, Nat.lt_of_lt_of_le hs hlo, fun r hr => ?_, fun hr => ?_⟩
  · have hT : T (o + (f + i) % 30) = some r := (hP _ hl).symm.trans hr
    exact h T S n z P C r ⟨hW, hT, fun _ _ => ⟨rfl, rfl⟩, fun _ _ => rfl, Nat.le_refl _, by omega, by omega, rfl, rfl, fun _ => ⟨rfl, rfl, rfl, rfl, rfl⟩, fun q => by rw [hT] at q; cases q⟩ hP
  · have hT : T (o + (f + i) % 30) = none := (hP _ hl).symm.trans hr
    have hN := nul_up (r := n) (i := o + (f + i) % 30) (by omega) hT
    refine h (va_up T (o + (f + i) % 30) (some n)) (sup S (o + (f + i) % 30) rwD) (n + 5) (z + 194) _ _ n ⟨RwS_new (d := rwD) hW hlo (by omega) hT, if_pos rfl, fun j hj => ⟨if_neg hj, sup_ne hj⟩, fun q hq => Sq_out (.inl hq), by omega, by omega, by omega, by omega, by omega, fun q => absurd hT q, fun _ => rfl⟩ fun j hj => ?_
    unfold va_up
    by_cases e : j = (f + i) % 30
    · rw [if_pos e, if_pos (by rw [e])]
    · rw [if_neg e, if_neg (by omega), hP j hj]
theorem row_ex {s f k i r n z : Nat} {P : Nat → Option Nat} {C : gC} {Q : gQ} (h : stAt C s f k P) (hf : f < 30) (hi : i ≤ 30) (hr : P ((f + i) % 30) = some r) (hn : s + 1 < n) (hQ : Q (some (.ref r)) C n z) : sp_X7_row [.ref s, .int (nI i)] C n z Q :=
  ⟨_, P, C, f, i, stAt_E h, rfl, hf, rfl, hi, hn, fun r' hr' => by rw [hr] at hr'; cases hr'; exact hQ, fun q => by rw [hr] at q; cases q⟩
theorem stAt_s {s f k : Nat} {σ : Nat → Int32} {P : Nat → Option Nat} {R : gC} (h1 : σ 1 = nI f) (h2 : σ 2 = nI k) : stAt (StE s σ P R) s f k P := ⟨by rw [StE_is, h1, h2], StE_1⟩
theorem stAt_k {C C' : gC} {s f k : Nat} {P : Nat → Option Nat} (h : stAt C s f k P) (e0 : C' s = C s) (e1 : C' (s + 1) = C (s + 1)) : stAt C' s f k P := ⟨e0.trans h.1, e1.trans h.2⟩
theorem cp_sp {C : gC} {s q n z b : Nat} {d e : Sqd} {Q : gQ} (h1 : sqAt C s d) (h2 : sqAt C q e) (hd : s + 4 < q ∨ q + 4 < s) (hb : b ≤ 30) (h4 : e.1 4 = nI b) (hQ : ∀ d' : Sqd, sqEq d' e → Q none (SqE s d'.1 d'.2 C) n z) : sp_X5_copy [.ref s, .ref q] C n z Q := by
  refine ⟨d.1, d.2, e.1, e.2, C, b, ?_, hd, h4, hb, ?_⟩
  · exact (sqAt_E h1).trans (congrArg (SqE s d.1 d.2) (sqAt_E h2))
  · rw [← sqAt_E h2]
    exact hQ (cpS d.1 e.1, cpA d.2 e.2 b) (sqEq_cp (σ2 := e.1) (A2 := e.2) hb h4)
def KeepP (T : Nat → Option Nat) (S : Nat → Sqd) (s o lo n z : Nat) (C : gC) (f' k' i : Nat) (d : Sqd) (C' : gC) (n' z' : Nat) (P' T' : Nat → Option Nat) (S' : Nat → Sqd) : Prop := stAt C' s f' k' P' ∧ (∀ j, j < 30 → P' j = T' (o + j)) ∧ RwS T' S' lo n' C' ∧ T' i ≠ none ∧ (∀ j, j ≠ i → T' j = T j ∧ S' j = S j) ∧ sqEq (S' i) d ∧ (∀ q, q < n → q ≠ s → q ≠ s + 1 → offT T q → C' q = C q) ∧ n ≤ n' ∧ n' + 5 * nul T' = n + 5 * nul T ∧ z' + 194 * nul T' = z + 194 * nul T ∧ (T i ≠ none → T' = T) ∧ (T i = none → ∀ r, T' i = some r → n ≤ r)
def kpF (f k : Nat) : Nat := if k = 30 then (f + 1) % 30 else f
def kpK (k : Nat) : Nat := if k = 30 then 30 else k + 1
def kpJ (f k : Nat) : Nat := if k = 30 then f else (f + k) % 30
def sp_X7_keep : gSp := fun as C n z Q => match as with
  | [.ref s, .ref q] => ∃ P T S o lo f k d b, stAt C s f k P ∧ (∀ j, j < 30 → P j = T (o + j)) ∧ o ≤ 30 ∧ f < 30 ∧ k ≤ 30 ∧ RwS T S lo n C ∧ s + 1 < lo ∧ lo ≤ n ∧ sqAt C q d ∧ d.1 4 = nI b ∧ b ≤ 30 ∧ q + 5 ≤ lo ∧ (q + 4 < s ∨ s + 1 < q) ∧ ∀ C' n' z' P' T' S', KeepP T S s o lo n z C (kpF f k) (kpK k) (o + kpJ f k) d C' n' z' P' T' S' → Q none C' n' z'
  | _ => False
theorem k32 {s q o f k lo n z nm zm b : Nat} {σ : Nat → Int32} {P T : Nat → Option Nat} {S : Nat → Sqd} {C : gC} {d : Sqd} {Q : gQ} (hP : ∀ j, j < 30 → P j = T (o + j)) (ho : o ≤ 30) (hf : f < 30) (hk : k < 30) (hW : RwS T S lo n C) (hs : s + 1 < lo) (hlo : lo ≤ n) (hq : sqAt C q d) (hd4 : d.1 4 = nI b) (hb : b ≤ 30) (hq5 : q + 5 ≤ lo) (hqs : q + 4 < s ∨ s + 1 < q) (e1 : σ 1 = nI f) (e2 : σ 2 = nI k) (hnm : nm = n + 5) (hzm : zm = z + 194) (hQ : ∀ C' n' z' P' T' S', KeepP T S s o lo n z C f (k + 1) (o + (f + k) % 30) d C' n' z' P' T' S' → Q none C' n' z') : b_X7_keep_32 sp_X7_row 5 194 sp_X5_copy nm zm Q [some (.ref s), some (.ref q)] [] (StE s σ P C) n z := by
  have hl : (f + k) % 30 < 30 := Nat.mod_lt _ (by decide)
  simp only [b_X7_keep_32, StE_is, StE_1, Stf_0, Stf_1, Stf_2, s_psh, s_ild, s_lld, s_ald, s_ist, s_lst, s_ast, s_inc, s_ib, s_ibz, s_iu, s_lb, s_lbz, s_lu, s_ls, s_il, s_li, s_cmp, s_dup, s_pop, s_dup2, s_cv, s_cs, s_ci, s_oi, s_get, s_put, s_iald, s_lald, s_zald, s_iast, s_last, s_zast, s_alen, s_iret, s_lret, s_aret, s_vret, s_al, gpad, gl, gst, gclr, gc2, gent, gcat, Value.category, List.drop_succ_cons, List.drop_zero, List.take_succ_cons, List.take_zero, List.reverse_cons, List.reverse_nil, List.nil_append, List.cons_append, List.append_nil, List.map_cons, List.map_nil, List.sum_cons, List.sum_nil, List.length_cons, List.length_nil, Option.toList, cond_true, cond_false, Nat.reduceBEq, Nat.reduceAdd, Nat.reduceLeDiff, beq_self_eq_true, true_and, and_true, BEq.rfl, Bool.false_eq_true, if_true, if_false, Sq_0, Sq_1, Sq_2, Sq_3, Sq_4, Sqf_0, Sqf_1, Sqf_2, Sqf_3, Sqf_4, Sqf_5, Sqf_6, Sqs_4, Sqs_5, Sqs_6, Squ_1, Squ_2, Squ_3, Squ_4]
  rw [e2]
  refine ⟨⟨by omega, by omega⟩, row_sp e1 hf (by omega) hP ho hW hs hlo fun T1 S1 n1 z1 P1 B r hR hP1 => ?_⟩
  obtain ⟨r1, r2, r3, r4, r5, r6, r7, r8, r9, r10, r11⟩ := hR
  obtain ⟨w1, w2, w3, w4⟩ := r1 _ (by omega : o + (f + k) % 30 < 60) r r2
  have hB5 : StE s σ P1 B r = some (.inr (5, Sqfs r (S1 (o + (f + k) % 30)).1)) := by rw [StE_o (by omega), w3.1]
  have hqB : sqAt (StE s σ P1 B) q d := sqAt_k hq fun j hj => by rw [StE_o (by omega), r4 _ (by omega)]
  have hrB : sqAt (StE s σ P1 B) r (S1 (o + (f + k) % 30)) := sqAt_k w3 fun j hj => StE_o (by omega)
  simp only [hB5, Option.toList, List.cons_append, List.nil_append, s_psh, s_ild, s_lld, s_ald, s_ist, s_lst, s_ast, s_inc, s_ib, s_ibz, s_iu, s_lb, s_lbz, s_lu, s_ls, s_il, s_li, s_cmp, s_dup, s_pop, s_dup2, s_cv, s_cs, s_ci, s_oi, s_get, s_put, s_iald, s_lald, s_zald, s_iast, s_last, s_zast, s_alen, s_iret, s_lret, s_aret, s_vret, s_al, gpad, gl, gst, gclr, gc2, gent, gcat, Value.category, List.drop_succ_cons, List.drop_zero, List.take_succ_cons, List.take_zero, List.reverse_cons, List.reverse_nil, List.nil_append, List.cons_append, List.append_nil, List.map_cons, List.map_nil, List.sum_cons, List.sum_nil, List.length_cons, List.length_nil, Option.toList, cond_true, cond_false, Nat.reduceBEq, Nat.reduceAdd, Nat.reduceLeDiff, beq_self_eq_true, true_and, and_true, BEq.rfl, Bool.false_eq_true, if_true, if_false, Sq_0, Sq_1, Sq_2, Sq_3, Sq_4, Sqf_0, Sqf_1, Sqf_2, Sqf_3, Sqf_4, Sqf_5, Sqf_6, Sqs_4, Sqs_5, Sqs_6, Squ_1, Squ_2, Squ_3, Squ_4]
  refine cp_sp hrB hqB (by omega) hb hd4 fun d' hd' => ?_
  rw [SqSt (by omega)]
  simp only [StE_is, StE_1, Stf_0, Stf_1, Stf_2, Sts_1, Sts_2, s_psh, s_ild, s_lld, s_ald, s_ist, s_lst, s_ast, s_inc, s_ib, s_ibz, s_iu, s_lb, s_lbz, s_lu, s_ls, s_il, s_li, s_cmp, s_dup, s_pop, s_dup2, s_cv, s_cs, s_ci, s_oi, s_get, s_put, s_iald, s_lald, s_zald, s_iast, s_last, s_zast, s_alen, s_iret, s_lret, s_aret, s_vret, s_al, gpad, gl, gst, gclr, gc2, gent, gcat, Value.category, List.drop_succ_cons, List.drop_zero, List.take_succ_cons, List.take_zero, List.reverse_cons, List.reverse_nil, List.nil_append, List.cons_append, List.append_nil, List.map_cons, List.map_nil, List.sum_cons, List.sum_nil, List.length_cons, List.length_nil, Option.toList, cond_true, cond_false, Nat.reduceBEq, Nat.reduceAdd, Nat.reduceLeDiff, beq_self_eq_true, true_and, and_true, BEq.rfl, Bool.false_eq_true, if_true, if_false, Sq_0, Sq_1, Sq_2, Sq_3, Sq_4, Sqf_0, Sqf_1, Sqf_2, Sqf_3, Sqf_4, Sqf_5, Sqf_6, Sqs_4, Sqs_5, Sqs_6, Squ_1, Squ_2, Squ_3, Squ_4]
  simp (disch := omega) only [true_and, and_true, lit, nI_add, nar_i, nar_0, nar_1, nar_b, fit_i, fit_l, pk_rem, nI_leI, nI_ltI, nI_eq, vin_iff, nI_clamp, nI_m1, e2]
  have hW' := RwS_put (d := d') r1 (by omega : o + (f + k) % 30 < 60) r2
  refine hQ _ n1 z1 P1 T1 (sup S1 (o + (f + k) % 30) d') ⟨stAt_s (by rw [sup_ne (by decide), e1]) sup_same, hP1, RwS_same hW' fun x hx _ => StE_o (by omega), by rw [r2]; exact Option.some_ne_none _, fun j hj => ⟨(r3 j hj).1, by rw [sup_ne hj]; exact (r3 j hj).2⟩, by rw [sup_same]; exact hd', fun x hx h1 h2 h3 => ?_, r5, r8, r9, fun hT => (r10 hT).1, fun hT r' hr' => by rw [r2] at hr'; cases hr'; exact Nat.le_of_eq (r11 hT).symm⟩
  rw [StE_o (by omega)]
  by_cases hT : T (o + (f + k) % 30) = none
  · have := r11 hT
    rw [Sq_out (by omega), r4 x hx]
  · have := r10 hT
    have hTr : T (o + (f + k) % 30) = some r := by rw [← this.1]; exact r2
    have := h3 _ (by omega : o + (f + k) % 30 < 60) r hTr
    rw [Sq_out (by omega), r4 x hx]
set_option maxRecDepth 100000 in
set_option maxHeartbeats 4000000 in
theorem c_X7_keep (l : Launch) : Con l yX7_keep cX7_keep 2 none 3 5 194 sp_X7_keep := by
  refine m_X7_keep (c_X7_row l) (by decide) (c_X5_copy l) (by decide) ?_
  intro as C0 n0 z0 Q h
  unfold sp_X7_keep at h
  split at h
  · rename_i s q
    obtain ⟨P, T, S, o, lo, f, k, d, b, hst, hP, ho, hf, hk, hW, hs, hlo, hq, hd4, hb, hq5, hqs, hQ⟩ := h
    refine ⟨Nat.le_of_ble_eq_true rfl, ?_⟩
    have hC := stAt_E hst
    generalize hσ : (fun j => if j = 1 then nI f else nI k) = σ at hC
    have e1 : σ 1 = nI f := by rw [← hσ]; rfl
    have e2 : σ 2 = nI k := by rw [← hσ]; rfl
    clear hσ
    rw [hC]
    simp only [b_X7_keep_0, StE_is, StE_1, Stf_0, Stf_1, Stf_2, Sts_1, Sts_2, s_psh, s_ild, s_lld, s_ald, s_ist, s_lst, s_ast, s_inc, s_ib, s_ibz, s_iu, s_lb, s_lbz, s_lu, s_ls, s_il, s_li, s_cmp, s_dup, s_pop, s_dup2, s_cv, s_cs, s_ci, s_oi, s_get, s_put, s_iald, s_lald, s_zald, s_iast, s_last, s_zast, s_alen, s_iret, s_lret, s_aret, s_vret, s_al, gpad, gl, gst, gclr, gc2, gent, gcat, Value.category, List.drop_succ_cons, List.drop_zero, List.take_succ_cons, List.take_zero, List.reverse_cons, List.reverse_nil, List.nil_append, List.cons_append, List.append_nil, List.map_cons, List.map_nil, List.sum_cons, List.sum_nil, List.length_cons, List.length_nil, Option.toList, cond_true, cond_false, Nat.reduceBEq, Nat.reduceAdd, Nat.reduceLeDiff, beq_self_eq_true, true_and, and_true, BEq.rfl, Bool.false_eq_true, if_true, if_false, Sq_0, Sq_1, Sq_2, Sq_3, Sq_4, Sqf_0, Sqf_1, Sqf_2, Sqf_3, Sqf_4, Sqf_5, Sqf_6, Sqs_4, Sqs_5, Sqs_6, Squ_1, Squ_2, Squ_3, Squ_4]
    rw [e2]
    try simp only [lit]
    refine if2i (fun g => ?_) (fun g => ?_)
    · rw [nI_eq (by omega) (by omega)] at g
      subst g
      simp only [StE_is, StE_1, Stf_0, Stf_1, Stf_2, Sts_1, Sts_2, s_psh, s_ild, s_lld, s_ald, s_ist, s_lst, s_ast, s_inc, s_ib, s_ibz, s_iu, s_lb, s_lbz, s_lu, s_ls, s_il, s_li, s_cmp, s_dup, s_pop, s_dup2, s_cv, s_cs, s_ci, s_oi, s_get, s_put, s_iald, s_lald, s_zald, s_iast, s_last, s_zast, s_alen, s_iret, s_lret, s_aret, s_vret, s_al, gpad, gl, gst, gclr, gc2, gent, gcat, Value.category, List.drop_succ_cons, List.drop_zero, List.take_succ_cons, List.take_zero, List.reverse_cons, List.reverse_nil, List.nil_append, List.cons_append, List.append_nil, List.map_cons, List.map_nil, List.sum_cons, List.sum_nil, List.length_cons, List.length_nil, Option.toList, cond_true, cond_false, Nat.reduceBEq, Nat.reduceAdd, Nat.reduceLeDiff, beq_self_eq_true, true_and, and_true, BEq.rfl, Bool.false_eq_true, if_true, if_false, Sq_0, Sq_1, Sq_2, Sq_3, Sq_4, Sqf_0, Sqf_1, Sqf_2, Sqf_3, Sqf_4, Sqf_5, Sqf_6, Sqs_4, Sqs_5, Sqs_6, Squ_1, Squ_2, Squ_3, Squ_4]
      simp (disch := omega) only [true_and, and_true, lit, nI_add, nar_i, nar_0, nar_1, nar_b, fit_i, fit_l, pk_rem, nI_leI, nI_ltI, nI_eq, vin_iff, nI_clamp, nI_m1, e1, e2, supa, Nat.reduceEqDiff, reduceIte, pk_sub]
      refine ⟨by decide, k32 (f := (f + 1) % 30) (k := 29) hP ho (Nat.mod_lt _ (by decide)) (by decide) hW hs hlo hq hd4 hb hq5 hqs ?_ ?_ rfl rfl fun C' n' z' P' T' S' hK => hQ C' n' z' P' T' S' ?_⟩
      · rw [sup_ne (by decide), sup_same]
      · rw [sup_same]
      · rw [show o + ((f + 1) % 30 + 29) % 30 = o + kpJ f 30 by rw [kpJ, if_pos rfl]; omega] at hK
        exact hK
    · rw [nI_eq (by omega) (by omega)] at g
      refine k32 (f := f) (k := k) hP ho hf (by omega) hW hs hlo hq hd4 hb hq5 hqs e1 e2 rfl rfl fun C' n' z' P' T' S' hK => hQ C' n' z' P' T' S' ?_
      rw [kpF, kpK, kpJ, if_neg g, if_neg g, if_neg g]
      exact hK
  · exact h.elim
theorem awS {q s : Nat} (h : q + 4 < s ∨ s + 1 < q) : q ≠ s ∧ q ≠ s + 1 := by omega
theorem awS1 {q s j : Nat} (h : q + 4 < s ∨ s + 1 < q) (hj : j < 5) : q + j < s ∨ s + 1 < q + j := by omega
theorem awS2 {r s j lo : Nat} (h : s + 1 < lo) (hr : lo ≤ r) : r + j < s ∨ s + 1 < r + j := by omega
theorem awS3 {r q lo : Nat} (h : q + 5 ≤ lo) (hr : lo ≤ r) : q + 4 < r ∨ r + 4 < q := by omega
theorem awS4 {q s : Nat} (h : q + 4 < s ∨ s + 1 < q) : s < q ∨ q + 4 < s := by omega
theorem awS5 {q s : Nat} (h : q + 4 < s ∨ s + 1 < q) : s + 1 < q ∨ q + 4 < s + 1 := by omega
theorem awS6 {x s : Nat} (h1 : x ≠ s) (h2 : x ≠ s + 1) : x < s ∨ s + 1 < x := by omega
def sp_X7_takeBack : gSp := fun as C n z Q => match as with
  | [.ref s, .ref q] => ∃ P T S o lo f k d, stAt C s f k P ∧ (∀ j, j < 30 → P j = T (o + j)) ∧ o ≤ 30 ∧ f < 30 ∧ k ≤ 30 ∧ RwS T S lo n C ∧ s + 1 < lo ∧ lo ≤ n ∧ sqAt C q d ∧ q + 5 ≤ lo ∧ (q + 4 < s ∨ s + 1 < q) ∧ (∀ i, i < k → T (o + (f + i) % 30) ≠ none ∧ ∃ b, b ≤ 30 ∧ (S (o + (f + i) % 30)).1 4 = nI b) ∧ (k = 0 → Q (some (.int (nI 0))) C n z) ∧ (0 < k → ∀ C' d', stAt C' s f (k - 1) P → sqAt C' q d' → sqEq d' (S (o + (f + (k - 1)) % 30)) → (∀ x, x ≠ s → x ≠ s + 1 → (x < q ∨ q + 4 < x) → C' x = C x) → Q (some (.int (nI 1))) C' n z)
  | _ => False
set_option maxRecDepth 100000 in
set_option maxHeartbeats 4000000 in
theorem c_X7_takeBack (l : Launch) : Con l yX7_takeBack cX7_takeBack 2 (some .boolean) 3 5 194 sp_X7_takeBack := by
  refine m_X7_takeBack (c_X7_row l) (by decide) (c_X5_copy l) (by decide) ?_
  intro as C0 n0 z0 Q h
  unfold sp_X7_takeBack at h
  split at h
  · rename_i s q
    obtain ⟨P, T, S, o, lo, f, k, d, hst, hP, ho, hf, hk, hW, hs, hlo, hq, hq5, hqs, hU, hQ0, hQ1⟩ := h
    refine ⟨Nat.le_of_ble_eq_true rfl, ?_⟩
    have hC := stAt_E hst
    generalize hσ : (fun j => if j = 1 then nI f else nI k) = σ at hC
    have e1 : σ 1 = nI f := by rw [← hσ]; rfl
    have e2 : σ 2 = nI k := by rw [← hσ]; rfl
    clear hσ
    rw [hC]
    simp only [b_X7_takeBack_0, StE_is, StE_1, Stf_0, Stf_1, Stf_2, Sts_1, Sts_2, s_psh, s_ild, s_lld, s_ald, s_ist, s_lst, s_ast, s_inc, s_ib, s_ibz, s_iu, s_lb, s_lbz, s_lu, s_ls, s_il, s_li, s_cmp, s_dup, s_pop, s_dup2, s_cv, s_cs, s_ci, s_oi, s_get, s_put, s_iald, s_lald, s_zald, s_iast, s_last, s_zast, s_alen, s_iret, s_lret, s_aret, s_vret, s_al, gpad, gl, gst, gclr, gc2, gent, gcat, Value.category, List.drop_succ_cons, List.drop_zero, List.take_succ_cons, List.take_zero, List.reverse_cons, List.reverse_nil, List.nil_append, List.cons_append, List.append_nil, List.map_cons, List.map_nil, List.sum_cons, List.sum_nil, List.length_cons, List.length_nil, Option.toList, cond_true, cond_false, Nat.reduceBEq, Nat.reduceAdd, Nat.reduceLeDiff, beq_self_eq_true, true_and, and_true, BEq.rfl, Bool.false_eq_true, if_true, if_false, Sq_0, Sq_1, Sq_2, Sq_3, Sq_4, Sqf_0, Sqf_1, Sqf_2, Sqf_3, Sqf_4, Sqf_5, Sqf_6, Sqs_4, Sqs_5, Sqs_6, Squ_1, Squ_2, Squ_3, Squ_4]
    rw [e2]
    try simp only [lit]
    refine if1i (fun g => ?_) (fun g => ?_)
    · rw [nI_eq (by omega) (by omega)] at g
      simp only [s_psh, s_ild, s_lld, s_ald, s_ist, s_lst, s_ast, s_inc, s_ib, s_ibz, s_iu, s_lb, s_lbz, s_lu, s_ls, s_il, s_li, s_cmp, s_dup, s_pop, s_dup2, s_cv, s_cs, s_ci, s_oi, s_get, s_put, s_iald, s_lald, s_zald, s_iast, s_last, s_zast, s_alen, s_iret, s_lret, s_aret, s_vret, s_al, gpad, gl, gst, gclr, gc2, gent, gcat, Value.category, List.drop_succ_cons, List.drop_zero, List.take_succ_cons, List.take_zero, List.reverse_cons, List.reverse_nil, List.nil_append, List.cons_append, List.append_nil, List.map_cons, List.map_nil, List.sum_cons, List.sum_nil, List.length_cons, List.length_nil, Option.toList, cond_true, cond_false, Nat.reduceBEq, Nat.reduceAdd, Nat.reduceLeDiff, beq_self_eq_true, true_and, and_true, BEq.rfl, Bool.false_eq_true, if_true, if_false, Sq_0, Sq_1, Sq_2, Sq_3, Sq_4, Sqf_0, Sqf_1, Sqf_2, Sqf_3, Sqf_4, Sqf_5, Sqf_6, Sqs_4, Sqs_5, Sqs_6, Squ_1, Squ_2, Squ_3, Squ_4]
      try simp only [true_and, and_true, lit, nI_add, nar_i, nar_0, nar_1, nar_b, fit_i, fit_l, pk_rem, nI_leI, nI_ltI, nI_eq, vin_iff, nI_clamp, nI_m1]
      rw [← hC]
      exact hQ0 g
    · rw [nI_eq (by omega) (by omega)] at g
      obtain ⟨hT, b, hb, hb4⟩ := hU (k - 1) (by omega)
      obtain ⟨r, hr⟩ := Option.ne_none_iff_exists'.mp hT
      have hl : (f + (k - 1)) % 30 < 30 := Nat.mod_lt _ (by decide)
      obtain ⟨w1, w2, w3, w4⟩ := hW _ (by omega : o + (f + (k - 1)) % 30 < 60) r hr
      simp only [StE_is, StE_1, Stf_0, Stf_1, Stf_2, Sts_1, Sts_2, s_psh, s_ild, s_lld, s_ald, s_ist, s_lst, s_ast, s_inc, s_ib, s_ibz, s_iu, s_lb, s_lbz, s_lu, s_ls, s_il, s_li, s_cmp, s_dup, s_pop, s_dup2, s_cv, s_cs, s_ci, s_oi, s_get, s_put, s_iald, s_lald, s_zald, s_iast, s_last, s_zast, s_alen, s_iret, s_lret, s_aret, s_vret, s_al, gpad, gl, gst, gclr, gc2, gent, gcat, Value.category, List.drop_succ_cons, List.drop_zero, List.take_succ_cons, List.take_zero, List.reverse_cons, List.reverse_nil, List.nil_append, List.cons_append, List.append_nil, List.map_cons, List.map_nil, List.sum_cons, List.sum_nil, List.length_cons, List.length_nil, Option.toList, cond_true, cond_false, Nat.reduceBEq, Nat.reduceAdd, Nat.reduceLeDiff, beq_self_eq_true, true_and, and_true, BEq.rfl, Bool.false_eq_true, if_true, if_false, Sq_0, Sq_1, Sq_2, Sq_3, Sq_4, Sqf_0, Sqf_1, Sqf_2, Sqf_3, Sqf_4, Sqf_5, Sqf_6, Sqs_4, Sqs_5, Sqs_6, Squ_1, Squ_2, Squ_3, Squ_4]
      simp (disch := omega) only [true_and, and_true, lit, nI_add, nar_i, nar_0, nar_1, nar_b, fit_i, fit_l, pk_rem, nI_leI, nI_ltI, nI_eq, vin_iff, nI_clamp, nI_m1, e2, pk_sub, sup_same]
      have hst2 : stAt (StE s (sup σ 2 (nI (k - 1))) P C0) s f (k - 1) P := stAt_s (by rw [sup_ne (by decide), e1]) sup_same
      have sq := awS hqs
      refine ⟨⟨Nat.le_refl _, Nat.le_refl _⟩, row_ex hst2 hf (by omega) ((hP _ hl).trans hr) (Nat.lt_of_lt_of_le hs hlo) ?_⟩
      have hq1 : sqAt (StE s (sup σ 2 (nI (k - 1))) P C0) q d := sqAt_k hq fun j hj => StE_o (awS1 hqs hj)
      have hr1 : sqAt (StE s (sup σ 2 (nI (k - 1))) P C0) r (S (o + (f + (k - 1)) % 30)) := sqAt_k w3 fun j hj => StE_o (awS2 hs w1)
      have hcq : StE s (sup σ 2 (nI (k - 1))) P C0 q = some (.inr (5, Sqfs q d.1)) := hq1.1
      simp only [hcq, s_psh, s_ild, s_lld, s_ald, s_ist, s_lst, s_ast, s_inc, s_ib, s_ibz, s_iu, s_lb, s_lbz, s_lu, s_ls, s_il, s_li, s_cmp, s_dup, s_pop, s_dup2, s_cv, s_cs, s_ci, s_oi, s_get, s_put, s_iald, s_lald, s_zald, s_iast, s_last, s_zast, s_alen, s_iret, s_lret, s_aret, s_vret, s_al, gpad, gl, gst, gclr, gc2, gent, gcat, Value.category, List.drop_succ_cons, List.drop_zero, List.take_succ_cons, List.take_zero, List.reverse_cons, List.reverse_nil, List.nil_append, List.cons_append, List.append_nil, List.map_cons, List.map_nil, List.sum_cons, List.sum_nil, List.length_cons, List.length_nil, Option.toList, cond_true, cond_false, Nat.reduceBEq, Nat.reduceAdd, Nat.reduceLeDiff, beq_self_eq_true, true_and, and_true, BEq.rfl, Bool.false_eq_true, if_true, if_false, Sq_0, Sq_1, Sq_2, Sq_3, Sq_4, Sqf_0, Sqf_1, Sqf_2, Sqf_3, Sqf_4, Sqf_5, Sqf_6, Sqs_4, Sqs_5, Sqs_6, Squ_1, Squ_2, Squ_3, Squ_4]
      refine cp_sp hq1 hr1 (awS3 hq5 w1) hb hb4 fun d' hd' => ?_
      simp only [s_psh, s_ild, s_lld, s_ald, s_ist, s_lst, s_ast, s_inc, s_ib, s_ibz, s_iu, s_lb, s_lbz, s_lu, s_ls, s_il, s_li, s_cmp, s_dup, s_pop, s_dup2, s_cv, s_cs, s_ci, s_oi, s_get, s_put, s_iald, s_lald, s_zald, s_iast, s_last, s_zast, s_alen, s_iret, s_lret, s_aret, s_vret, s_al, gpad, gl, gst, gclr, gc2, gent, gcat, Value.category, List.drop_succ_cons, List.drop_zero, List.take_succ_cons, List.take_zero, List.reverse_cons, List.reverse_nil, List.nil_append, List.cons_append, List.append_nil, List.map_cons, List.map_nil, List.sum_cons, List.sum_nil, List.length_cons, List.length_nil, Option.toList, cond_true, cond_false, Nat.reduceBEq, Nat.reduceAdd, Nat.reduceLeDiff, beq_self_eq_true, true_and, and_true, BEq.rfl, Bool.false_eq_true, if_true, if_false, Sq_0, Sq_1, Sq_2, Sq_3, Sq_4, Sqf_0, Sqf_1, Sqf_2, Sqf_3, Sqf_4, Sqf_5, Sqf_6, Sqs_4, Sqs_5, Sqs_6, Squ_1, Squ_2, Squ_3, Squ_4]
      try simp only [true_and, and_true, lit, nI_add, nar_i, nar_0, nar_1, nar_b, fit_i, fit_l, pk_rem, nI_leI, nI_ltI, nI_eq, vin_iff, nI_clamp, nI_m1]
      refine hQ1 (by omega) _ d' (stAt_k hst2 (Sq_out (awS4 hqs)) (Sq_out (awS5 hqs))) sqAt_s hd' fun x h1 h2 h3 => ?_
      rw [Sq_out h3, StE_o (awS6 h1 h2)]
  · exact h.elim
