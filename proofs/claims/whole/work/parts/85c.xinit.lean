/-! the class: triples and steps made -/
def trσ0 (c : Nat) : Nat → Int32 := fun k => if k = 1 then nI c else nI 0
theorem Tr_made {s N c : Nat} {X : gC} : oE s 10 [.ref (s + 1), .int (nI c), .int (nI 0)] (gup X (s + 1) (.inl (0, N, .inl fun _ => 0))) = TrE N s (trσ0 c) (fun _ _ => 0) X := by
  funext q
  unfold oE gup TrE
  by_cases h0 : q = s
  · simp only [if_pos h0]; rfl
  · by_cases h1 : q = s + 1
    · simp only [if_neg h0, if_pos h1]
    · simp only [if_neg h0, if_neg h1]
theorem Tr_oE {s N ci : Nat} {fs : List Value} {σ : Nat → Int32} {A : Nat → Nat → Int32} {X : gC} : TrE N s σ A (oE s ci fs X) = TrE N s σ A X := by
  funext q
  unfold TrE oE
  by_cases h : q = s
  · rw [if_pos h, if_pos h]
  · rw [if_neg h, if_neg h, if_neg h]
def sp_X10_init : gSp := fun as C n z Q => match as with
  | [.ref s, .int x] => ∃ c, C s = some (.inr (10, [.null, .int 0, .int 0])) ∧ n = s + 1 ∧ x = nI c ∧ c ≤ 8 ∧ Q none (TrE (3 * c) s (trσ0 c) (fun _ _ => 0) C) (s + 2) (z + 3 * c)
  | _ => False
set_option maxRecDepth 100000 in
set_option maxHeartbeats 4000000 in
theorem c_X10_init (l : Launch) : Con l yX10_init cX10_init 2 none 1 1 24 sp_X10_init := by
  refine m_X10_init (c_J9_max_7cf53 l) (by decide) (by decide) ?_
  intro as C0 n0 z0 Q h
  unfold sp_X10_init at h
  split at h
  · rename_i s x
    obtain ⟨c, hC, rfl, rfl, hc, hQ⟩ := h
    obtain ⟨X, rfl⟩ : ∃ X, C0 = oE s 10 [.null, .int 0, .int 0] X := ⟨C0, oE_of hC⟩
    rw [Tr_oE] at hQ
    refine ⟨Nat.le_of_ble_eq_true rfl, ?_⟩
    simp only [b_X10_init_0, s_psh, s_ald, s_ild, s_oi, s_put, s_cs, gpad, gl, gst, gclr, gc2, gent, gcat, Value.category, List.drop_succ_cons, List.drop_zero, List.take_succ_cons, List.take_zero, List.reverse_cons, List.reverse_nil, List.nil_append, List.cons_append, List.append_nil, List.map_cons, List.map_nil, List.sum_cons, List.sum_nil, List.length_cons, List.length_nil, Option.toList, cond_true, cond_false, Nat.reduceBEq, Nat.reduceAdd, Nat.reduceLeDiff, beq_self_eq_true, true_and, and_true, BEq.rfl, Bool.false_eq_true, if_true, if_false, oE_f, oE_s, oE_u, Nat.add_assoc, List.set_cons_zero, List.set_cons_succ, List.getElem?_cons_zero, List.getElem?_cons_succ, gfit_r, gfit_i]
    try simp only [lit]
    refine max_sp (fun e => ?_) (fun e => ?_)
    · rw [nI_ltI (by omega) (by omega)] at e
      omega
    · simp only [s_psh, s_ald, s_ild, s_oi, s_put, s_get, s_ib, s_newi, s_vret, gpad, gl, gst, gclr, gc2, gent, gcat, Value.category, List.drop_succ_cons, List.drop_zero, List.take_succ_cons, List.take_zero, List.reverse_cons, List.reverse_nil, List.nil_append, List.cons_append, List.append_nil, List.map_cons, List.map_nil, List.sum_cons, List.sum_nil, List.length_cons, List.length_nil, Option.toList, cond_true, cond_false, Nat.reduceBEq, Nat.reduceAdd, Nat.reduceLeDiff, beq_self_eq_true, true_and, and_true, BEq.rfl, Bool.false_eq_true, if_true, if_false, oE_f, oE_s, oE_u, Nat.add_assoc, List.set_cons_zero, List.set_cons_succ, List.getElem?_cons_zero, List.getElem?_cons_succ, gfit_r, gfit_i]
      simp (disch := omega) only [true_and, and_true, lit, nI_add, nar_i, nar_0, nar_1, nar_b, fit_i, fit_l, pk_rem, nI_leI, nI_ltI, nI_eq, vin_iff, nI_clamp, nI_m1, gfree, pk_mul, oE_s, List.set_cons_zero, List.set_cons_succ]
      refine ⟨⟨by omega, by omega, by omega, by omega⟩, ?_⟩
      have e2 := Tr_made (s := s) (N := 3 * c) (c := c) (X := X)
      rw [← e2] at hQ
      exact hQ
  · exact h.elim
theorem St_made {s : Nat} {X : gC} : oE s 7 [.ref (s + 1), .int (nI 0), .int (nI 0)] (gup X (s + 1) (.inl (3, 30, .inr (.inr (.inr (.inr fun _ => none)))))) = StE s (fun _ => nI 0) (fun _ => none) X := by
  funext q
  unfold oE gup StE
  by_cases h0 : q = s
  · simp only [if_pos h0]
  · by_cases h1 : q = s + 1
    · simp only [if_neg h0, if_pos h1]
    · simp only [if_neg h0, if_neg h1]
theorem St_oE {s ci : Nat} {fs : List Value} {σ : Nat → Int32} {P : Nat → Option Nat} {X : gC} : StE s σ P (oE s ci fs X) = StE s σ P X := by
  funext q
  unfold StE oE
  by_cases h : q = s
  · rw [if_pos h, if_pos h]
  · rw [if_neg h, if_neg h, if_neg h]
def sp_X7_init : gSp := fun as C n z Q => match as with
  | [.ref s] => C s = some (.inr (7, [.null, .int 0, .int 0])) ∧ n = s + 1 ∧ Q none (StE s (fun _ => nI 0) (fun _ => none) C) (s + 2) (z + 30)
  | _ => False
set_option maxRecDepth 100000 in
set_option maxHeartbeats 4000000 in
theorem c_X7_init (l : Launch) : Con l yX7_init cX7_init 1 none 1 1 30 sp_X7_init := by
  refine m_X7_init (by decide) ?_
  intro as C0 n0 z0 Q h
  unfold sp_X7_init at h
  split at h
  · rename_i s
    obtain ⟨hC, rfl, hQ⟩ := h
    obtain ⟨X, rfl⟩ : ∃ X, C0 = oE s 7 [.null, .int 0, .int 0] X := ⟨C0, oE_of hC⟩
    rw [St_oE] at hQ
    refine ⟨Nat.le_of_ble_eq_true rfl, ?_⟩
    simp only [b_X7_init_0, s_psh, s_ald, s_oi, s_newq, s_put, s_vret, gpad, gl, gst, gclr, gc2, gent, gcat, Value.category, List.drop_succ_cons, List.drop_zero, List.take_succ_cons, List.take_zero, List.reverse_cons, List.reverse_nil, List.nil_append, List.cons_append, List.append_nil, List.map_cons, List.map_nil, List.sum_cons, List.sum_nil, List.length_cons, List.length_nil, Option.toList, cond_true, cond_false, Nat.reduceBEq, Nat.reduceAdd, Nat.reduceLeDiff, beq_self_eq_true, true_and, and_true, BEq.rfl, Bool.false_eq_true, if_true, if_false, oE_f, oE_s, oE_u, Nat.add_assoc, List.set_cons_zero, List.set_cons_succ, List.getElem?_cons_zero, List.getElem?_cons_succ, gfit_r, gfit_i]
    simp (disch := omega) only [true_and, and_true, lit, nI_add, nar_i, nar_0, nar_1, nar_b, fit_i, fit_l, pk_rem, nI_leI, nI_ltI, nI_eq, vin_iff, nI_clamp, nI_m1, gfree, gfit_i, oE_s, List.set_cons_zero, List.set_cons_succ]
    refine ⟨⟨by decide, by omega, by omega, by omega⟩, ?_⟩
    have e2 := St_made (s := s) (X := X)
    rw [← e2] at hQ
    exact hQ
  · exact h.elim
