/-! the reference: a clause, a text -/
theorem bodR.mono {m : Nat} {L : Nat → Nat → Int64} {R : gC} {n z : Nat} {Q Q' : gQ} {T : Nat → Nat} {len t0 : Nat} {σ0 : Nat → Int32} {A0 : Nat → Nat → Int32} {x : Nat} {out : List (Nat × Int)} {r : rX} (h : bodR m L R n z Q T len t0 σ0 A0 x out r) (hq : ∀ v C n z, Q (some (.int v)) C n z → Q' (some (.int v)) C n z) : bodR m L R n z Q' T len t0 σ0 A0 x out r := by
  rcases r with ⟨f, j⟩ | ⟨j, c⟩
  · exact fun σ w A q1 q2 q3 q4 => hq _ _ _ _ (h σ w A q1 q2 q3 q4)
  · exact fun σ w A o2 q1 q2 q3 q4 q5 q6 q7 q8 => hq _ _ _ _ (h σ w A o2 q1 q2 q3 q4 q5 q6 q7 q8)
def sp_X12_body : gSp := fun as C n z Q => match as with
  | [.ref m, .int s, .int y] => ∃ σ w A L R T len t0 i out sort x, C = menc m σ w A L R ∧ TX σ w A T len i ∧ i ≤ len ∧ σ 13 = nI (List.length out) ∧ codeM (A 3) (t0 + 73) out ∧ List.length out ≤ i ∧ t0 ≤ 2043 ∧ σ 12 = nI t0 ∧ sort ≤ 8 ∧ s = nI sort ∧ σ 14 = nI sort ∧ y = nI x ∧ t0 + 1 ≤ x ∧ x + 2 < t0 + 73 ∧ bodR m L R n z Q T len t0 σ A x out (rBody (tkS T len) (tkV T len) sort i)
  | _ => False
set_option maxRecDepth 100000 in
set_option maxHeartbeats 4000000 in
theorem c_X12_body (l : Launch) : Con l yX12_body cX12_body 3 (some .int) 9 0 0 sp_X12_body := by
  refine m_X12_body (c_X12_lawClause l) (by decide) (c_X12_w4 l) (by decide) (c_X12_pair l) (by decide) (c_X12_w2 l) (by decide) (c_X12_figure l) (by decide) ?_
  intro as C0 n0 z0 Q h
  unfold sp_X12_body at h
  split at h
  · rename_i m s y
    obtain ⟨σ, w, A, L, R, T, len, t0, i, out, sort, x, rfl, ht, hi, h13, hcd, hol, ht0, h12, hs, rfl, h14, rfl, hx1, hx2, hQ⟩ := h
    have hlen := ht.2.2.2.1
    refine ⟨Nat.le_of_ble_eq_true rfl, ?_⟩
    have bf0 : BF t0 σ A σ A := ⟨fun _ _ _ _ _ _ _ _ _ => rfl, fun _ _ _ => rfl, fun _ _ => rfl⟩
    have hfig : ∀ (l h : Nat) (Q' : gQ), l ≤ 60 → h ≤ 60 → 6 ≤ sort → bodR m L R n0 z0 Q T len t0 σ A x out (rNum (tkS T len) (tkV T len) l h i fun j v => .inr (j, sort, v, 0, rI0)) → (∀ v C n z, Q (some (.int v)) C n z → Q' (some (.int v)) C n z) → sp_X12_figure [Value.ref m, Value.int (nI (x + 1)), Value.int (nI l), Value.int (nI h)] (menc m σ w A L R) n0 z0 Q' := by
      intro l h Q' hl hh h6 hb hq
      unfold rNum at hb
      refine ⟨σ, w, A, L, R, T, len, i, x + 1, l, h, rfl, ht, hi, rfl, by omega, rfl, rfl, hl, hh, fun e => ?_, fun e e2 => ?_, fun e e2 σ1 w1 f1 t1 hi1 => ?_⟩
      · rw [if_neg e] at hb
        exact hq _ _ _ _ (hb σ w A (by decide) (by decide) ht bf0)
      · rw [if_pos e, if_pos e2] at hb
        exact hq _ _ _ _ (hb σ w A (by decide) (by decide) ht bf0)
      · rw [if_pos e, if_neg e2] at hb
        refine hq _ _ _ _ (hb _ _ _ [] t1 hi1 ?_ ?_ ?_ ?_ ?_ ?_)
        · rw [List.append_nil, f1 13 (by decide) (by decide) (by decide) (by decide), h13]
        · intro k c hk
          rw [List.append_nil] at hk
          have hkl := (List.getElem?_eq_some_iff.mp hk).1
          rw [supa, if_pos rfl, pk_un (by omega), pk_un (by omega)]
          exact hcd k c hk
        · rw [List.append_nil]; omega
        · refine ⟨fun _ => ⟨?_, fun q => absurd q (by simp only; omega)⟩, fun q => absurd q (by simp only; omega)⟩
          rw [supa, if_pos rfl, pk_us]
        · intro k hk q1 q2
          rw [supa, if_pos rfl, pk_un q1]
        · refine ⟨fun j q1 q2 q3 q4 _ _ _ _ => f1 j q1 q2 q3 q4, fun j q1 _ => ?_, fun k hk => ?_⟩
          · rw [supa, if_neg q1]
          · rw [supa, if_pos rfl, pk_un (by omega)]
    simp only [b_X12_body_0, s_sw, List.forall_mem_cons, sp_X12_w4, sp_X12_w2, s_psh, s_ild, s_lld, s_ald, s_ist, s_lst, s_ast, s_inc, s_ib, s_ibz, s_iu, s_lb, s_lbz, s_lu, s_ls, s_il, s_li, s_cmp, s_dup, s_pop, s_dup2, s_if1, s_if2, s_ifn, s_cv, s_cs, s_ci, s_oi, s_get, s_put, s_iald, s_lald, s_zald, s_iast, s_last, s_zast, s_alen, s_iret, s_lret, s_aret, s_vret, s_al, gpad, gl, gst, gclr, gc2, gent, gcat, Value.category, List.drop_succ_cons, List.drop_zero, List.take_succ_cons, List.take_zero, List.reverse_cons, List.reverse_nil, List.nil_append, List.cons_append, List.append_nil, List.map_cons, List.map_nil, List.sum_cons, List.sum_nil, List.length_cons, List.length_nil, Option.toList, cond_true, cond_false, Nat.reduceBEq, Nat.reduceAdd, Nat.reduceLeDiff, beq_self_eq_true, true_and, and_true, BEq.rfl, Bool.false_eq_true, if_true, if_false, menc_0, menc_1, menc_2, menc_3, menc_4, menc_5, menc_6, menc_7, menc_8, menc_9, menc_10, menc_11, menc_12, menc_13, menc_14, mf_0, mf_1, mf_2, mf_3, mf_4, mf_5, mf_6, mf_7, mf_8, mf_9, mf_10, mf_11, mf_12, mf_13, mf_14, mf_15, mf_16, mf_17, mf_18, mf_19, mf_20, mf_21, mf_22, mf_23, mf_24, mf_25, mf_26, mf_27, mf_28, mf_29, mf_30, mf_31, ms_4, ms_5, ms_6, ms_7, ms_8, ms_9, ms_10, ms_11, ms_12, ms_13, ms_14, ms_16, ms_17, ms_18, ms_19, ms_23, ms_24, ms_27, mu_1, mu_2, mu_3, mu_4, mu_5, mu_6, mu_7, mu_8, mu_9, mu_10, mu_11, mu_12, mu_13, mu_14]
    simp (disch := omega) only [true_and, and_true, lit, nI_add, nar_i, nar_0, nar_1, nar_b, fit_i, fit_l, pk_rem, nI_leI, nI_ltI, nI_eq, vin_iff, nI_clamp, nI_m1, Nat.reduceMul, Nat.reduceAdd, Nat.reduceLT]
    refine ⟨?_, fun e => ?_⟩
    · and_intros
      · intro e
        subst e
        exact ⟨σ, w, A, L, R, T, len, t0, i, out, 2, x, 0, 29, 3, 3, rfl, ht, hi, h13, hcd, hol, ht0, by decide, rfl, hx1, hx2, rfl, rfl, rfl, by decide, by decide, by decide, by decide, fun _ _ _ _ q => tw_3 q, hQ.mono fun _ _ _ _ q => q⟩
      · intro e
        subst e
        exact ⟨σ, w, A, L, R, T, len, t0, i, out, 3, x, 0, 9, 5, 29, rfl, ht, hi, h13, hcd, hol, ht0, by decide, rfl, hx1, hx2, rfl, rfl, rfl, by decide, by decide, by decide, by decide, fun _ _ _ _ q => tw_5 q, hQ.mono fun _ _ _ _ q => q⟩
      · intro e
        subst e
        exact ⟨σ, w, A, L, R, T, len, t0, i, out, 4, x, 1, 9, 7, 9, rfl, ht, hi, h13, hcd, hol, ht0, by decide, rfl, hx1, hx2, rfl, rfl, rfl, by decide, by decide, by decide, by decide, fun _ _ _ _ q => tw_7 q, hQ.mono fun _ _ _ _ q => q⟩
      · intro e
        subst e
        exact ⟨σ, w, A, L, R, T, len, t0, i, out, 5, x, 0, 6, 9, 29, rfl, ht, hi, h13, hcd, hol, ht0, by decide, rfl, hx1, hx2, rfl, rfl, rfl, by decide, by decide, by decide, by decide, fun _ _ _ _ q => tw_9 q, hQ.mono fun _ _ _ _ q => q⟩
      · intro e
        subst e
        exact hfig 0 29 _ (by decide) (by decide) (by decide) hQ fun _ _ _ _ q => q
      · intro e
        subst e
        exact hfig 0 29 _ (by decide) (by decide) (by decide) hQ fun _ _ _ _ q => q
      · intro e
        subst e
        exact hfig 1 60 _ (by decide) (by decide) (by decide) hQ fun _ _ _ _ q => q
      · intro q hq; simp at hq
    · have hs1 : sort ≤ 1 := by omega
      have hb : rBody (tkS T len) (tkV T len) sort i = rLaw (tkS T len) (tkV T len) sort i := by
        unfold rBody
        rw [if_neg (by omega), if_neg (by omega), if_neg (by omega), if_neg (by omega), if_neg (by omega), if_neg (by omega), if_neg (by omega)]
      rw [hb] at hQ
      exact ⟨σ, w, A, L, R, T, len, t0, i, out, sort, x, rfl, ht, hi, h13, hcd, hol, ht0, h12, hs1, h14, rfl, hx1, hx2, hQ.mono fun _ _ _ _ q => q⟩
  · exact h.elim
def onceN (l : List rCl) : Nat := (if l.any (fun c => c.1 == 0) = true then 1 else 0) + (if l.any (fun c => c.1 == 1) = true then 2 else 0)
theorem has_once (l : List rCl) {s : Nat} (hs : s ≤ 1) : (nI (onceN l) >>> (nI s &&& nI 31) &&& nI 1 = nI 1) = (l.any (fun c => c.1 == s) = true) := by
  unfold onceN
  have : s = 0 ∨ s = 1 := by omega
  rcases this with rfl | rfl
  · cases l.any (fun c => c.1 == 0) <;> cases l.any (fun c => c.1 == 1) <;> simp <;> decide
  · cases l.any (fun c => c.1 == 0) <;> cases l.any (fun c => c.1 == 1) <;> simp <;> decide
theorem once_put (l : List rCl) {c : rCl} {s : Nat} (hs : s ≤ 1) (hc : c.1 = s) : nI (onceN l) ||| nI 1 <<< (nI s &&& nI 31) = nI (onceN (l ++ [c])) := by
  unfold onceN
  rw [List.any_append, List.any_append]
  have : s = 0 ∨ s = 1 := by omega
  rcases this with rfl | rfl
  · simp only [List.any_cons, List.any_nil, hc]
    cases l.any (fun c => c.1 == 0) <;> cases l.any (fun c => c.1 == 1) <;> simp <;> decide
  · simp only [List.any_cons, List.any_nil, hc]
    cases l.any (fun c => c.1 == 0) <;> cases l.any (fun c => c.1 == 1) <;> simp <;> decide
theorem once_not (l : List rCl) {c : rCl} (hc : 1 < c.1) : onceN (l ++ [c]) = onceN l := by
  unfold onceN
  rw [List.any_append, List.any_append]
  have h0 : (c.1 == 0) = false := by simp; omega
  have h1 : (c.1 == 1) = false := by simp; omega
  simp only [List.any_cons, List.any_nil, h0, h1, Bool.or_false]
def clsM (f : Nat → Int32) (t0 : Nat) (l : List rCl) (out : List (Nat × Int)) : Prop := f t0 = nI l.length ∧ ∀ k c, l[k]? = some c → f (t0 + 1 + 3 * k) = nI c.1 ∧ clM f (t0 + 1 + 3 * k) c out
def RC (T : Nat → Nat) (len t0 : Nat) (l : List rCl) (out : List (Nat × Int)) (i : Nat) (σ : Nat → Int32) (w : Int64) (A : Nat → Nat → Int32) : Prop := TX σ w A T len i ∧ i ≤ len ∧ σ 12 = nI t0 ∧ t0 ≤ 2043 ∧ σ 13 = nI out.length ∧ codeM (A 3) (t0 + 73) out ∧ out.length ≤ i ∧ σ 19 = nI (onceN l) ∧ l.length ≤ 24 ∧ clsM (A 3) t0 l out
def CF (t0 : Nat) (σ0 : Nat → Int32) (A0 : Nat → Nat → Int32) (σ : Nat → Int32) (A : Nat → Nat → Int32) : Prop := (∀ j, j ≠ 7 → j ≠ 8 → j ≠ 9 → j ≠ 10 → j ≠ 13 → j ≠ 14 → j ≠ 16 → j ≠ 17 → j ≠ 18 → j ≠ 19 → σ j = σ0 j) ∧ (∀ j, j ≠ 3 → j ≠ 5 → A j = A0 j) ∧ (∀ k, k < t0 ∨ t0 + 681 ≤ k → A 3 k = A0 3 k)
def clR (m : Nat) (L : Nat → Nat → Int64) (R : gC) (n z : Nat) (Q : gQ) (T : Nat → Nat) (len t0 : Nat) (σ0 : Nat → Int32) (A0 : Nat → Nat → Int32) (l : List rCl) (i : Nat) : rX → Prop
  | .inl (f, j) => ∀ σ w A, 1 ≤ f → f ≤ 6 → TX σ w A T len j → CF t0 σ0 A0 σ A → Q (some (.int (nI f))) (menc m σ w A L R) n z
  | .inr (j, c) => ∀ σ w A o2, RC T len t0 (l ++ [c]) o2 j σ w A → CF t0 σ0 A0 σ A → Q (some (.int (nI 0))) (menc m σ w A L R) n z
theorem rNum_inr {S V : Nat → Nat} {lo hi i : Nat} {k : Nat → Nat → rX} {r : Nat × rCl} (h : rNum S V lo hi i k = .inr r) : S i = 39 ∧ ¬ (V i < lo ∨ hi < V i) ∧ k (i + 1) (V i) = .inr r := by
  unfold rNum at h
  split at h
  · rename_i e
    split at h
    · cases h
    · rename_i e2
      exact ⟨e, e2, h⟩
  · cases h
theorem rPair_inr {S V : Nat → Nat} {sort lo hi w hi2 i j : Nat} {c : rCl} (h : rPair S V sort lo hi w hi2 i = .inr (j, c)) : ¬ (V i < lo ∨ hi < V i) ∧ ¬ hi2 < V (i + 2) ∧ j = i + 3 ∧ c = (sort, V i, V (i + 2), rI0) := by
  obtain ⟨h1, h2, h3⟩ := rNum_inr h
  split at h3
  · obtain ⟨g1, g2, g3⟩ := rNum_inr h3
    have g4 := Sum.inr.inj g3
    exact ⟨h2, fun q => g2 (Or.inr q), (Prod.mk.inj g4).1.symm, (Prod.mk.inj g4).2.symm⟩
  · cases h3
theorem rFig_inr {S V : Nat → Nat} {sort lo hi i j : Nat} {c : rCl} (h : rNum S V lo hi i (fun j v => .inr (j, sort, v, 0, rI0)) = .inr (j, c)) : ¬ (V i < lo ∨ hi < V i) ∧ j = i + 1 ∧ c = (sort, V i, 0, rI0) := by
  obtain ⟨h1, h2, h3⟩ := rNum_inr h
  have g4 := Sum.inr.inj h3
  exact ⟨h2, (Prod.mk.inj g4).1.symm, (Prod.mk.inj g4).2.symm⟩
theorem rLaw_inr {S V : Nat → Nat} {sort i j : Nat} {c : rCl} (h : rLaw S V sort i = .inr (j, c)) : ∃ a, rSum S (rLv S V (sort == 0) 8).1 i = .inr (j, a) ∧ c = (sort, 0, 0, a) := by
  unfold rLaw at h
  split at h
  · cases h
  · rename_i j' a e
    have g4 := Sum.inr.inj h
    rw [← (Prod.mk.inj g4).1]
    exact ⟨a, e, (Prod.mk.inj g4).2.symm⟩
theorem rBody_1 {S V : Nat → Nat} {sort i j : Nat} {c : rCl} (h : rBody S V sort i = .inr (j, c)) : c.1 = sort := by
  unfold rBody at h
  split at h
  · rename_i e; rw [(rPair_inr h).2.2.2, e]
  · split at h
    · rename_i e; rw [(rPair_inr h).2.2.2, e]
    · split at h
      · rename_i e; rw [(rPair_inr h).2.2.2, e]
      · split at h
        · rename_i e; rw [(rPair_inr h).2.2.2, e]
        · split at h
          · rename_i e; rw [(rFig_inr h).2.2, e]
          · split at h
            · rename_i e; rw [(rFig_inr h).2.2, e]
            · split at h
              · rename_i e; rw [(rFig_inr h).2.2, e]
              · obtain ⟨a, -, e⟩ := rLaw_inr h
                rw [e]
theorem hdOf_le (s : Nat) : hdOf s ≤ 9 := by
  unfold hdOf
  repeat' split
  all_goals omega
theorem hdOf_40 {s : Nat} (h : hdOf s ≠ 9) : s ≠ 40 := by
  rintro rfl
  exact h rfl
def sp_X12_has : gSp := fun as C n z Q => (lg_sl as).length ≤ 2 ∧ b_X12_has_0 Q (gpad 2 (gent as)) [] C n z
theorem c_X12_has (l : Launch) : Con l yX12_has cX12_has 2 (some .boolean) 0 0 0 sp_X12_has := m_X12_has fun _ _ _ _ _ h => h
def sp_X12_clause : gSp := fun as C n z Q => match as with
  | [.ref m] => ∃ σ w A L R T len t0 i out l, C = menc m σ w A L R ∧ RC T len t0 l out i σ w A ∧ clR m L R n z Q T len t0 σ A l i (rClause (tkS T len) (tkV T len) l i)
  | _ => False
set_option maxRecDepth 100000 in
set_option maxHeartbeats 4000000 in
theorem c_X12_clause (l : Launch) : Con l yX12_clause cX12_clause 5 (some .int) 10 0 0 sp_X12_clause := by
  refine m_X12_clause (c_X12_nextT l) (by decide) (c_X12_body l) (by decide) (c_X12_sortOf l) (by decide) (c_X12_has l) (by decide) ?_
  intro as C0 n0 z0 Q h
  unfold sp_X12_clause at h
  split at h
  · rename_i m
    obtain ⟨σ, w, A, L, R, T, len, t0, i, out, l, rfl, ⟨ht, hi, h12, ht0, h13, hcd, hol, h19, hll, hcl⟩, hQ⟩ := h
    have hlen := ht.2.2.2.1
    refine ⟨Nat.le_of_ble_eq_true rfl, ?_⟩
    have cf0 : CF t0 σ A σ A := ⟨fun _ _ _ _ _ _ _ _ _ _ _ => rfl, fun _ _ _ => rfl, fun _ _ => rfl⟩
    have hle := hdOf_le (tkS T len i)
    unfold rClause at hQ
    have k65 : hdOf (tkS T len i) ≠ 9 → l.length < 24 → ∀ (σ1 : Nat → Int32) (o3 o4 : Option Value), (∀ j, j ≠ 19 → σ1 j = σ j) → (∀ c : rCl, c.1 = hdOf (tkS T len i) → σ1 19 = nI (onceN (l ++ [c]))) → clR m L R n0 z0 Q T len t0 σ A l i (match rBody (tkS T len) (tkV T len) (hdOf (tkS T len i)) (i + 1) with
        | .inl e => .inl e
        | .inr (j, c) => if tkS T len j = 36 then .inr (j + 1, c) else .inl (1, j)) → b_X12_clause_65 sp_X12_nextT sp_X12_body sp_X12_sortOf sp_X12_has Q [some (.ref m), some (.int (nI (hdOf (tkS T len i)))), some (.int (nI l.length)), o3, o4] [] (menc m σ1 w A L R) n0 z0 := by
      intro h9 hl24 σ1 o3 o4 f1 h19' hQ
      have hil : i < len := by
        rcases Nat.lt_or_ge i len with q | q
        · exact q
        · exact absurd (tkS_end (T := T) q) (hdOf_40 h9)
      simp only [b_X12_clause_65, sp_X12_nextT, supa, Nat.reduceEqDiff, reduceIte, s_psh, s_ild, s_lld, s_ald, s_ist, s_lst, s_ast, s_inc, s_ib, s_ibz, s_iu, s_lb, s_lbz, s_lu, s_ls, s_il, s_li, s_cmp, s_dup, s_pop, s_dup2, s_if1, s_if2, s_ifn, s_cv, s_cs, s_ci, s_oi, s_get, s_put, s_iald, s_lald, s_zald, s_iast, s_last, s_zast, s_alen, s_iret, s_lret, s_aret, s_vret, s_al, gpad, gl, gst, gclr, gc2, gent, gcat, Value.category, List.drop_succ_cons, List.drop_zero, List.take_succ_cons, List.take_zero, List.reverse_cons, List.reverse_nil, List.nil_append, List.cons_append, List.append_nil, List.map_cons, List.map_nil, List.sum_cons, List.sum_nil, List.length_cons, List.length_nil, Option.toList, cond_true, cond_false, Nat.reduceBEq, Nat.reduceAdd, Nat.reduceLeDiff, beq_self_eq_true, true_and, and_true, BEq.rfl, Bool.false_eq_true, if_true, if_false, menc_0, menc_1, menc_2, menc_3, menc_4, menc_5, menc_6, menc_7, menc_8, menc_9, menc_10, menc_11, menc_12, menc_13, menc_14, mf_0, mf_1, mf_2, mf_3, mf_4, mf_5, mf_6, mf_7, mf_8, mf_9, mf_10, mf_11, mf_12, mf_13, mf_14, mf_15, mf_16, mf_17, mf_18, mf_19, mf_20, mf_21, mf_22, mf_23, mf_24, mf_25, mf_26, mf_27, mf_28, mf_29, mf_30, mf_31, ms_4, ms_5, ms_6, ms_7, ms_8, ms_9, ms_10, ms_11, ms_12, ms_13, ms_14, ms_16, ms_17, ms_18, ms_19, ms_23, ms_24, ms_27, mu_1, mu_2, mu_3, mu_4, mu_5, mu_6, mu_7, mu_8, mu_9, mu_10, mu_11, mu_12, mu_13, mu_14]
      simp only [true_and, and_true, lit, nI_add, nar_i, nar_0, nar_1, nar_b, fit_i, fit_l, pk_rem, nI_leI, nI_ltI, nI_eq, vin_iff, nI_clamp, nI_m1]
      refine ⟨_, _, _, _, _, T, len, i + 1, rfl, ht.1, ht.2.1, ?_, hlen, ?_, fun σ2 w2 f2 t2 => ?_⟩
      · rw [supa, if_neg (by decide), f1 4 (by decide)]; exact ht.2.2.1
      · rw [supa, if_neg (by decide), f1 7 (by decide)]; exact ht.at
      have g2 : ∀ j, j ≠ 7 → j ≠ 8 → j ≠ 9 → j ≠ 10 → j ≠ 14 → j ≠ 19 → σ2 j = σ j := fun j q1 q2 q3 q4 q5 q6 => by rw [f2 j q1 q2 q3 q4, supa, if_neg q5, f1 j q6]
      have g12 : σ2 12 = nI t0 := by rw [g2 12 (by decide) (by decide) (by decide) (by decide) (by decide) (by decide), h12]
      have g13 : σ2 13 = nI out.length := by rw [g2 13 (by decide) (by decide) (by decide) (by decide) (by decide) (by decide), h13]
      have g14 : σ2 14 = nI (hdOf (tkS T len i)) := by rw [f2 14 (by decide) (by decide) (by decide) (by decide), supa, if_pos rfl]
      simp (disch := omega) only [true_and, and_true, lit, nI_add, nar_i, nar_0, nar_1, nar_b, fit_i, fit_l, pk_rem, nI_leI, nI_ltI, nI_eq, vin_iff, nI_clamp, nI_m1, g12, pk_mul]
      refine ⟨by omega, _, _, _, _, _, T, len, t0, i + 1, out, hdOf (tkS T len i), t0 + 1 + 3 * l.length, rfl, ?_, hil, g13, ?_, by omega, ht0, g12, by omega, rfl, g14, rfl, by omega, by omega, ?_⟩
      · refine t2.keep ?_ rfl rfl rfl rfl rfl
        rw [supa, if_neg (by decide)]
      · intro k c hk
        have hkl := (List.getElem?_eq_some_iff.mp hk).1
        rw [supa, if_pos rfl, pk_un (by omega), pk_un (by omega)]
        exact hcd k c hk
      rcases eb : rBody (tkS T len) (tkV T len) (hdOf (tkS T len i)) (i + 1) with ⟨f, j⟩ | ⟨j, c⟩
      · rw [eb] at hQ
        intro σ3 w3 A3 hf1 hf6 t3 ⟨b1, b2, b3⟩
        simp (disch := omega) only [s_psh, s_ild, s_lld, s_ald, s_ist, s_lst, s_ast, s_inc, s_ib, s_ibz, s_iu, s_lb, s_lbz, s_lu, s_ls, s_il, s_li, s_cmp, s_dup, s_pop, s_dup2, s_if1, s_if2, s_ifn, s_cv, s_cs, s_ci, s_oi, s_get, s_put, s_iald, s_lald, s_zald, s_iast, s_last, s_zast, s_alen, s_iret, s_lret, s_aret, s_vret, s_al, gpad, gl, gst, gclr, gc2, gent, gcat, Value.category, List.drop_succ_cons, List.drop_zero, List.take_succ_cons, List.take_zero, List.reverse_cons, List.reverse_nil, List.nil_append, List.cons_append, List.append_nil, List.map_cons, List.map_nil, List.sum_cons, List.sum_nil, List.length_cons, List.length_nil, Option.toList, cond_true, cond_false, Nat.reduceBEq, Nat.reduceAdd, Nat.reduceLeDiff, beq_self_eq_true, true_and, and_true, BEq.rfl, Bool.false_eq_true, if_true, if_false, menc_0, menc_1, menc_2, menc_3, menc_4, menc_5, menc_6, menc_7, menc_8, menc_9, menc_10, menc_11, menc_12, menc_13, menc_14, mf_0, mf_1, mf_2, mf_3, mf_4, mf_5, mf_6, mf_7, mf_8, mf_9, mf_10, mf_11, mf_12, mf_13, mf_14, mf_15, mf_16, mf_17, mf_18, mf_19, mf_20, mf_21, mf_22, mf_23, mf_24, mf_25, mf_26, mf_27, mf_28, mf_29, mf_30, mf_31, ms_4, ms_5, ms_6, ms_7, ms_8, ms_9, ms_10, ms_11, ms_12, ms_13, ms_14, ms_16, ms_17, ms_18, ms_19, ms_23, ms_24, ms_27, mu_1, mu_2, mu_3, mu_4, mu_5, mu_6, mu_7, mu_8, mu_9, mu_10, mu_11, mu_12, mu_13, mu_14, true_and, and_true, lit, nI_add, nar_i, nar_0, nar_1, nar_b, fit_i, fit_l, pk_rem, nI_leI, nI_ltI, nI_eq, vin_iff, nI_clamp, nI_m1]
        refine ⟨fun q => by omega, fun _ => hQ _ _ _ hf1 hf6 t3 ⟨fun j q1 q2 q3 q4 q5 q6 q7 q8 q9 q10 => ?_, fun j q1 q2 => ?_, fun k hk => ?_⟩⟩
        · rw [b1 j q1 q2 q3 q4 q5 q7 q8 q9, g2 j q1 q2 q3 q4 q6 q10]
        · rw [b2 j q1 q2, supa, if_neg q1]
        · rw [b3 k hk, supa, if_pos rfl, pk_un (by omega)]
      · rw [eb] at hQ
        simp only at hQ
        have hc1 := rBody_1 eb
        intro σ3 w3 A3 o2 t3 hj k13 kcd kol kcl kk ⟨b1, b2, b3⟩
        have k12 : σ3 12 = nI t0 := by rw [b1 12 (by decide) (by decide) (by decide) (by decide) (by decide) (by decide) (by decide) (by decide), g12]
        have kt0 : A3 3 t0 = nI l.length := by rw [kk t0 (by omega) (by omega) (by omega), supa, if_pos rfl, pk_un (by omega)]; exact hcl.1
        simp (disch := omega) only [s_psh, s_ild, s_lld, s_ald, s_ist, s_lst, s_ast, s_inc, s_ib, s_ibz, s_iu, s_lb, s_lbz, s_lu, s_ls, s_il, s_li, s_cmp, s_dup, s_pop, s_dup2, s_if1, s_if2, s_ifn, s_cv, s_cs, s_ci, s_oi, s_get, s_put, s_iald, s_lald, s_zald, s_iast, s_last, s_zast, s_alen, s_iret, s_lret, s_aret, s_vret, s_al, gpad, gl, gst, gclr, gc2, gent, gcat, Value.category, List.drop_succ_cons, List.drop_zero, List.take_succ_cons, List.take_zero, List.reverse_cons, List.reverse_nil, List.nil_append, List.cons_append, List.append_nil, List.map_cons, List.map_nil, List.sum_cons, List.sum_nil, List.length_cons, List.length_nil, Option.toList, cond_true, cond_false, Nat.reduceBEq, Nat.reduceAdd, Nat.reduceLeDiff, beq_self_eq_true, true_and, and_true, BEq.rfl, Bool.false_eq_true, if_true, if_false, menc_0, menc_1, menc_2, menc_3, menc_4, menc_5, menc_6, menc_7, menc_8, menc_9, menc_10, menc_11, menc_12, menc_13, menc_14, mf_0, mf_1, mf_2, mf_3, mf_4, mf_5, mf_6, mf_7, mf_8, mf_9, mf_10, mf_11, mf_12, mf_13, mf_14, mf_15, mf_16, mf_17, mf_18, mf_19, mf_20, mf_21, mf_22, mf_23, mf_24, mf_25, mf_26, mf_27, mf_28, mf_29, mf_30, mf_31, ms_4, ms_5, ms_6, ms_7, ms_8, ms_9, ms_10, ms_11, ms_12, ms_13, ms_14, ms_16, ms_17, ms_18, ms_19, ms_23, ms_24, ms_27, mu_1, mu_2, mu_3, mu_4, mu_5, mu_6, mu_7, mu_8, mu_9, mu_10, mu_11, mu_12, mu_13, mu_14, true_and, and_true, lit, nI_add, nar_i, nar_0, nar_1, nar_b, fit_i, fit_l, pk_rem, nI_leI, nI_ltI, nI_eq, vin_iff, nI_clamp, nI_m1, k12, kt0, ts_59 t3]
        refine ⟨fun _ => ⟨by omega, by omega, fun e36 => ?_, fun e36 => ?_⟩, fun q => absurd trivial q⟩
        · rw [if_pos e36] at hQ
          have hjl : j < len := by
            rcases Nat.lt_or_ge j len with q | q
            · exact q
            · have := tkS_end (T := T) q
              omega
          refine ⟨_, _, _, _, _, T, len, j + 1, rfl, ?_, t3.2.1, t3.2.2.1, hlen, t3.at, fun σ4 w4 f4 t4 => hQ _ _ _ (out ++ o2) ?_ ?_⟩
          · rw [supa, if_neg (by decide)]; exact t3.1
          · have hgc : ∀ j, j ≠ 7 → j ≠ 8 → j ≠ 9 → j ≠ 10 → j ≠ 13 → j ≠ 14 → j ≠ 16 → j ≠ 17 → j ≠ 18 → j ≠ 19 → σ4 j = σ j := fun j q1 q2 q3 q4 q5 q6 q7 q8 q9 q10 => by rw [f4 j q1 q2 q3 q4, b1 j q1 q2 q3 q4 q5 q7 q8 q9, g2 j q1 q2 q3 q4 q6 q10]
            refine ⟨t4, hjl, ?_, ht0, ?_, ?_, by omega, ?_, ?_, ?_, fun k c' hk => ?_⟩
            · rw [hgc 12 (by decide) (by decide) (by decide) (by decide) (by decide) (by decide) (by decide) (by decide) (by decide) (by decide), h12]
            · rw [f4 13 (by decide) (by decide) (by decide) (by decide), k13]
            · intro k c' hk
              have hkl := (List.getElem?_eq_some_iff.mp hk).1
              rw [supa, if_pos rfl, pk_un (by omega), pk_un (by omega)]
              exact kcd k c' hk
            · rw [f4 19 (by decide) (by decide) (by decide) (by decide), b1 19 (by decide) (by decide) (by decide) (by decide) (by decide) (by decide) (by decide) (by decide), f2 19 (by decide) (by decide) (by decide) (by decide), supa, if_neg (by decide)]
              exact h19' c hc1
            · simp only [List.length_append, List.length_cons, List.length_nil]; omega
            · rw [supa, if_pos rfl, pk_us]
              simp only [List.length_append, List.length_cons, List.length_nil]
            · have hkl := (List.getElem?_eq_some_iff.mp hk).1
              simp only [List.length_append, List.length_cons, List.length_nil] at hkl
              by_cases hkk : k < l.length
              · rw [List.getElem?_append_left hkk] at hk
                obtain ⟨z1, z2, z3⟩ := hcl.2 k c' hk
                have hh : ∀ q, t0 < q → q < t0 + 1 + 3 * l.length → A3 3 q = A 3 q := fun q hq1 hq2 => by rw [kk q (by omega) (by omega) (by omega), supa, if_pos rfl, pk_un (by omega)]
                refine ⟨?_, fun q => ⟨?_, fun q2 => ?_⟩, fun q => ?_⟩
                · rw [supa, if_pos rfl, pk_un (by omega), hh _ (by omega) (by omega)]; exact z1
                · rw [supa, if_pos rfl, pk_un (by omega), hh _ (by omega) (by omega)]; exact (z2 q).1
                · rw [supa, if_pos rfl, pk_un (by omega), hh _ (by omega) (by omega)]; exact (z2 q).2 q2
                · obtain ⟨pre, post, y1, y2, y3⟩ := z3 q
                  refine ⟨pre, post ++ o2, by rw [y1]; simp, ?_, ?_⟩
                  · rw [supa, if_pos rfl, pk_un (by omega), hh _ (by omega) (by omega)]; exact y2
                  · rw [supa, if_pos rfl, pk_un (by omega), hh _ (by omega) (by omega)]; exact y3
              · have hkl2 : k = l.length := by omega
                subst hkl2
                rw [List.getElem?_append_right (Nat.le_refl _), Nat.sub_self, List.getElem?_cons_zero] at hk
                have hcc := Option.some.inj hk
                subst hcc
                obtain ⟨z2, z3⟩ := kcl
                refine ⟨?_, fun q => ⟨?_, fun q2 => ?_⟩, fun q => ?_⟩
                · rw [supa, if_pos rfl, pk_un (by omega), kk _ (by omega) (by omega) (by omega), supa, if_pos rfl, pk_us, hc1]
                · rw [supa, if_pos rfl, pk_un (by omega)]; exact (z2 q).1
                · rw [supa, if_pos rfl, pk_un (by omega)]; exact (z2 q).2 q2
                · obtain ⟨pre, post, y1, y2, y3⟩ := z3 q
                  refine ⟨pre, post, y1, ?_, ?_⟩
                  · rw [supa, if_pos rfl, pk_un (by omega)]; exact y2
                  · rw [supa, if_pos rfl, pk_un (by omega)]; exact y3
          · refine ⟨fun j q1 q2 q3 q4 q5 q6 q7 q8 q9 q10 => ?_, fun j q1 q2 => ?_, fun k hk => ?_⟩
            · rw [f4 j q1 q2 q3 q4, b1 j q1 q2 q3 q4 q5 q7 q8 q9, g2 j q1 q2 q3 q4 q6 q10]
            · rw [supa, if_neg q1, b2 j q1 q2, supa, if_neg q1]
            · rw [supa, if_pos rfl, pk_un (by omega), b3 k hk, supa, if_pos rfl, pk_un (by omega)]
        · rw [if_neg e36] at hQ
          refine hQ _ _ _ (by decide) (by decide) ?_ ⟨fun j q1 q2 q3 q4 q5 q6 q7 q8 q9 q10 => ?_, fun j q1 q2 => ?_, fun k hk => ?_⟩
          · refine t3.keep ?_ rfl rfl rfl rfl rfl
            rw [supa, if_neg (by decide)]
          · rw [b1 j q1 q2 q3 q4 q5 q7 q8 q9, g2 j q1 q2 q3 q4 q6 q10]
          · rw [supa, if_neg q1, b2 j q1 q2, supa, if_neg q1]
          · rw [supa, if_pos rfl, pk_un (by omega), b3 k hk, supa, if_pos rfl, pk_un (by omega)]
    have k29 : hdOf (tkS T len i) ≠ 9 → ¬ (hdOf (tkS T len i) ≤ 1 ∧ l.any (fun c => c.1 == hdOf (tkS T len i)) = true) → b_X12_clause_29 sp_X12_nextT sp_X12_body sp_X12_sortOf sp_X12_has Q [some (.ref m), some (.int (nI (hdOf (tkS T len i)))), none, none, none] [] (menc m σ w A L R) n0 z0 := by
      intro h9 h4
      rw [if_neg h9, if_neg h4] at hQ
      simp only [b_X12_clause_29, s_psh, s_ild, s_lld, s_ald, s_ist, s_lst, s_ast, s_inc, s_ib, s_ibz, s_iu, s_lb, s_lbz, s_lu, s_ls, s_il, s_li, s_cmp, s_dup, s_pop, s_dup2, s_if1, s_if2, s_ifn, s_cv, s_cs, s_ci, s_oi, s_get, s_put, s_iald, s_lald, s_zald, s_iast, s_last, s_zast, s_alen, s_iret, s_lret, s_aret, s_vret, s_al, gpad, gl, gst, gclr, gc2, gent, gcat, Value.category, List.drop_succ_cons, List.drop_zero, List.take_succ_cons, List.take_zero, List.reverse_cons, List.reverse_nil, List.nil_append, List.cons_append, List.append_nil, List.map_cons, List.map_nil, List.sum_cons, List.sum_nil, List.length_cons, List.length_nil, Option.toList, cond_true, cond_false, Nat.reduceBEq, Nat.reduceAdd, Nat.reduceLeDiff, beq_self_eq_true, true_and, and_true, BEq.rfl, Bool.false_eq_true, if_true, if_false, menc_0, menc_1, menc_2, menc_3, menc_4, menc_5, menc_6, menc_7, menc_8, menc_9, menc_10, menc_11, menc_12, menc_13, menc_14, mf_0, mf_1, mf_2, mf_3, mf_4, mf_5, mf_6, mf_7, mf_8, mf_9, mf_10, mf_11, mf_12, mf_13, mf_14, mf_15, mf_16, mf_17, mf_18, mf_19, mf_20, mf_21, mf_22, mf_23, mf_24, mf_25, mf_26, mf_27, mf_28, mf_29, mf_30, mf_31, ms_4, ms_5, ms_6, ms_7, ms_8, ms_9, ms_10, ms_11, ms_12, ms_13, ms_14, ms_16, ms_17, ms_18, ms_19, ms_23, ms_24, ms_27, mu_1, mu_2, mu_3, mu_4, mu_5, mu_6, mu_7, mu_8, mu_9, mu_10, mu_11, mu_12, mu_13, mu_14]
      simp (disch := omega) only [true_and, and_true, lit, nI_add, nar_i, nar_0, nar_1, nar_b, fit_i, fit_l, pk_rem, nI_leI, nI_ltI, nI_eq, vin_iff, nI_clamp, nI_m1, h12, hcl.1]
      refine ⟨by omega, fun e24 => ?_, fun e24 => ?_⟩
      · rw [if_pos e24] at hQ
        exact hQ _ _ _ (by decide) (by decide) ht cf0
      · rw [if_neg e24] at hQ
        refine ⟨fun e1 => k65 h9 (by omega) σ none none (fun _ _ => rfl) (fun c hc => ?_) hQ, fun e1 => k65 h9 (by omega) _ none none (fun j q => by rw [supa, if_neg q]) (fun c hc => ?_) hQ⟩
        · rw [h19, once_not l (by omega)]
        · rw [supa, if_pos rfl, h19]
          exact once_put l (by omega) hc
    simp only [b_X12_clause_0, sp_X12_sortOf, sp_X12_has, b_X12_has_0, b_X12_has_14, s_psh, s_ild, s_lld, s_ald, s_ist, s_lst, s_ast, s_inc, s_ib, s_ibz, s_iu, s_lb, s_lbz, s_lu, s_ls, s_il, s_li, s_cmp, s_dup, s_pop, s_dup2, s_if1, s_if2, s_ifn, s_cv, s_cs, s_ci, s_oi, s_get, s_put, s_iald, s_lald, s_zald, s_iast, s_last, s_zast, s_alen, s_iret, s_lret, s_aret, s_vret, s_al, gpad, gl, gst, gclr, gc2, gent, gcat, Value.category, List.drop_succ_cons, List.drop_zero, List.take_succ_cons, List.take_zero, List.reverse_cons, List.reverse_nil, List.nil_append, List.cons_append, List.append_nil, List.map_cons, List.map_nil, List.sum_cons, List.sum_nil, List.length_cons, List.length_nil, Option.toList, cond_true, cond_false, Nat.reduceBEq, Nat.reduceAdd, Nat.reduceLeDiff, beq_self_eq_true, true_and, and_true, BEq.rfl, Bool.false_eq_true, if_true, if_false, menc_0, menc_1, menc_2, menc_3, menc_4, menc_5, menc_6, menc_7, menc_8, menc_9, menc_10, menc_11, menc_12, menc_13, menc_14, mf_0, mf_1, mf_2, mf_3, mf_4, mf_5, mf_6, mf_7, mf_8, mf_9, mf_10, mf_11, mf_12, mf_13, mf_14, mf_15, mf_16, mf_17, mf_18, mf_19, mf_20, mf_21, mf_22, mf_23, mf_24, mf_25, mf_26, mf_27, mf_28, mf_29, mf_30, mf_31, ms_4, ms_5, ms_6, ms_7, ms_8, ms_9, ms_10, ms_11, ms_12, ms_13, ms_14, ms_16, ms_17, ms_18, ms_19, ms_23, ms_24, ms_27, mu_1, mu_2, mu_3, mu_4, mu_5, mu_6, mu_7, mu_8, mu_9, mu_10, mu_11, mu_12, mu_13, mu_14]
    refine ⟨σ, w, A, L, R, T, len, i, rfl, ht, ?_⟩
    by_cases h9 : hdOf (tkS T len i) = 9
    · rw [if_pos h9] at hQ
      rw [h9, show hdV 9 = -nI 1 from rfl]
      simp only [true_and, and_true, lit, nI_add, nar_i, nar_0, nar_1, nar_b, fit_i, fit_l, pk_rem, nI_leI, nI_ltI, nI_eq, vin_iff, nI_clamp, nI_m1]
      exact ⟨fun q => absurd q (by decide), fun _ => hQ _ _ _ (by decide) (by decide) ht cf0⟩
    · rw [show hdV (hdOf (tkS T len i)) = nI (hdOf (tkS T len i)) from if_neg h9]
      simp (disch := omega) only [true_and, and_true, lit, nI_add, nar_i, nar_0, nar_1, nar_b, fit_i, fit_l, pk_rem, nI_leI, nI_ltI, nI_eq, vin_iff, nI_clamp, nI_m1, h19]
      refine ⟨fun _ => ⟨fun e1 => k29 h9 (fun q => by omega), fun e1 => ⟨Nat.le_of_ble_eq_true rfl, fun e2 => ⟨fun q => absurd q (by decide), fun _ => ?_⟩, fun e2 => ⟨fun _ => k29 h9 (fun q => ?_), fun q => absurd trivial q⟩⟩⟩, fun q => absurd (Nat.zero_le _) q⟩
      · rw [has_once l (by omega)] at e2
        rw [if_neg h9, if_pos ⟨by omega, e2⟩] at hQ
        exact hQ _ _ _ (by decide) (by decide) ht cf0
      · rw [has_once l (by omega)] at e2
        exact e2 q.2
  · exact h.elim
