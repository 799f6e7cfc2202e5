/-! the class's objects made -/
theorem oE_o {s ci x : Nat} {fs : List Value} {D : gC} (h : x ≠ s) : oE s ci fs D x = D x := if_neg h
theorem gup_o {x a : Nat} {D : gC} {e : gE} (h : x ≠ a) : gup D a e x = D x := if_neg h
theorem oE_0 {s ci : Nat} {fs : List Value} {D : gC} : oE s ci fs D s = some (.inr (ci, fs)) := if_pos rfl
theorem gup_0 {a : Nat} {D : gC} {e : gE} : gup D a e a = some e := if_pos rfl
theorem gfld_c {C C' : gC} {a ci k : Nat} (h : C' a = C a) : gfld C' a ci k = gfld C a ci k := by
  unfold gfld
  rw [h]
def sp_X0_init : gSp := fun as C n z Q => match as with
  | [.ref y, .ref a, .ref b] => ∃ s : Nat, ∃ q, s = y ∧ C s = some (.inr (0, [.null, .null, .null, .null, .int 0, .int 0, .int 0, .int 0, .int 0])) ∧ n = s + 1 ∧ gfld C a 6 0 = some (.ref q) ∧ a ≠ s ∧ a ≠ s + 1 ∧ ∀ C', C' s = some (.inr (0, [.ref a, .ref b, .ref (s + 1), .ref q, .int (nI 0), .int (nI 0), .int (nI 0), .int (nI 0), .int (nI 0)])) → C' (s + 1) = some (.inl (0, 64, .inl fun _ => nI 0)) → (∀ x, x ≠ s → x ≠ s + 1 → C' x = C x) → Q none C' (s + 2) (z + 64)
  | _ => False
set_option maxRecDepth 100000 in
set_option maxHeartbeats 4000000 in
theorem c_X0_init (l : Launch) : Con l yX0_init cX0_init 3 none 1 1 64 sp_X0_init := by
  refine m_X0_init (by decide) ?_
  intro as C0 n0 z0 Q h
  unfold sp_X0_init at h
  split at h
  · obtain ⟨s, q, rfl, hC, rfl, hg, ha0, ha1, hQ⟩ := h
    obtain ⟨D, rfl⟩ : ∃ D, C0 = oE s 0 [.null, .null, .null, .null, .int 0, .int 0, .int 0, .int 0, .int 0] D := ⟨C0, oE_of hC⟩
    refine ⟨Nat.le_of_ble_eq_true rfl, ?_⟩
    have hg2 : ∀ fs e, gfld (oE s 0 fs (gup D (s + 1) e)) _ 6 0 = some (.ref q) := fun fs e => by rw [← hg]; exact gfld_c (by rw [oE_o ha0, oE_o ha0, gup_o ha1])
    simp only [b_X0_init_0, Nat.add_assoc, s_psh, s_ald, s_ild, s_oi, s_put, s_newi, s_vret, s_ci, s_dup, gpad, gl, gst, gclr, gc2, gent, gcat, Value.category, List.drop_succ_cons, List.drop_zero, List.take_succ_cons, List.take_zero, List.reverse_cons, List.reverse_nil, List.nil_append, List.cons_append, List.append_nil, List.map_cons, List.map_nil, List.sum_cons, List.sum_nil, List.length_cons, List.length_nil, Option.toList, cond_true, cond_false, Nat.reduceBEq, Nat.reduceAdd, Nat.reduceLeDiff, beq_self_eq_true, true_and, and_true, BEq.rfl, Bool.false_eq_true, if_true, if_false, oE_f, oE_s, oE_u, List.set_cons_zero, List.set_cons_succ, List.getElem?_cons_zero, List.getElem?_cons_succ, gfit_r, gfit_i, gfit_ob, gfit_n, gfit_0, hg2, s_get]
    try simp (disch := first | omega | decide) only [true_and, and_true, lit, nI_add, nar_i, nar_0, nar_1, nar_b, fit_i, fit_l, pk_rem, nI_leI, nI_ltI, nI_eq, vin_iff, nI_clamp, nI_m1, gfree, gfit_i, oE_f, oE_s, oE_u, Nat.add_assoc, Nat.reduceAdd, Nat.reduceLeDiff, List.getElem?_cons_zero, List.getElem?_cons_succ, List.set_cons_zero, List.set_cons_succ, hg2]
    refine ⟨by first | omega | exact ⟨by decide, by decide, by omega, by omega⟩ | exact ⟨by decide, by omega, by omega, by omega⟩ | exact ⟨by decide, by omega, by omega⟩ | exact ⟨by decide, by omega⟩, ?_⟩
    refine hQ _ oE_0 ?_ fun x hx hx1 => ?_
    · rw [oE_o (by omega), gup_0]
    · rw [oE_o hx, gup_o hx1, oE_o hx]
  · exact h.elim
def sp_X1_init : gSp := fun as C n z Q => match as with
  | [.ref y, .ref a, .ref b] => ∃ s : Nat, s = y ∧ C s = some (.inr (1, [.null, .null, .null, .int 0])) ∧ n = s + 1 ∧ ∀ C', C' s = some (.inr (1, [.ref a, .ref b, .ref (s + 1), .int (nI 0)])) → C' (s + 1) = some (.inl (0, 12, .inl fun _ => nI 0)) → (∀ x, x ≠ s → x ≠ s + 1 → C' x = C x) → Q none C' (s + 2) (z + 12)
  | _ => False
set_option maxRecDepth 100000 in
set_option maxHeartbeats 4000000 in
theorem c_X1_init (l : Launch) : Con l yX1_init cX1_init 3 none 1 1 12 sp_X1_init := by
  refine m_X1_init (by decide) ?_
  intro as C0 n0 z0 Q h
  unfold sp_X1_init at h
  split at h
  · obtain ⟨s, rfl, hC, rfl, hQ⟩ := h
    obtain ⟨D, rfl⟩ : ∃ D, C0 = oE s 1 [.null, .null, .null, .int 0] D := ⟨C0, oE_of hC⟩
    refine ⟨Nat.le_of_ble_eq_true rfl, ?_⟩
    simp only [b_X1_init_0, Nat.add_assoc, s_psh, s_ald, s_ild, s_oi, s_put, s_newi, s_vret, s_ci, s_dup, gpad, gl, gst, gclr, gc2, gent, gcat, Value.category, List.drop_succ_cons, List.drop_zero, List.take_succ_cons, List.take_zero, List.reverse_cons, List.reverse_nil, List.nil_append, List.cons_append, List.append_nil, List.map_cons, List.map_nil, List.sum_cons, List.sum_nil, List.length_cons, List.length_nil, Option.toList, cond_true, cond_false, Nat.reduceBEq, Nat.reduceAdd, Nat.reduceLeDiff, beq_self_eq_true, true_and, and_true, BEq.rfl, Bool.false_eq_true, if_true, if_false, oE_f, oE_s, oE_u, List.set_cons_zero, List.set_cons_succ, List.getElem?_cons_zero, List.getElem?_cons_succ, gfit_r, gfit_i, gfit_ob, gfit_n, gfit_0]
    try simp (disch := first | omega | decide) only [true_and, and_true, lit, nI_add, nar_i, nar_0, nar_1, nar_b, fit_i, fit_l, pk_rem, nI_leI, nI_ltI, nI_eq, vin_iff, nI_clamp, nI_m1, gfree, gfit_i, oE_f, oE_s, oE_u, Nat.add_assoc, Nat.reduceAdd, Nat.reduceLeDiff, List.getElem?_cons_zero, List.getElem?_cons_succ, List.set_cons_zero, List.set_cons_succ]
    refine ⟨by first | omega | exact ⟨by decide, by decide, by omega, by omega⟩ | exact ⟨by decide, by omega, by omega, by omega⟩ | exact ⟨by decide, by omega, by omega⟩ | exact ⟨by decide, by omega⟩, ?_⟩
    refine hQ _ oE_0 ?_ fun x hx hx1 => ?_
    · rw [oE_o (by omega), gup_0]
    · rw [oE_o hx, gup_o hx1, oE_o hx]
  · exact h.elim
def sp_X2_init : gSp := fun as C n z Q => match as with
  | [.ref y, .ref a, .ref b] => ∃ s : Nat, s = y ∧ C s = some (.inr (2, [.null, .null])) ∧ n = s + 1 ∧ ∀ C', C' s = some (.inr (2, [.ref a, .ref b])) → (∀ x, x ≠ s → C' x = C x) → Q none C' (s + 1) (z + 0)
  | _ => False
set_option maxRecDepth 100000 in
set_option maxHeartbeats 4000000 in
theorem c_X2_init (l : Launch) : Con l yX2_init cX2_init 3 none 1 0 0 sp_X2_init := by
  refine m_X2_init (by decide) ?_
  intro as C0 n0 z0 Q h
  unfold sp_X2_init at h
  split at h
  · obtain ⟨s, rfl, hC, rfl, hQ⟩ := h
    obtain ⟨D, rfl⟩ : ∃ D, C0 = oE s 2 [.null, .null] D := ⟨C0, oE_of hC⟩
    refine ⟨Nat.le_of_ble_eq_true rfl, ?_⟩
    simp only [b_X2_init_0, Nat.add_assoc, s_psh, s_ald, s_ild, s_oi, s_put, s_newi, s_vret, s_ci, s_dup, gpad, gl, gst, gclr, gc2, gent, gcat, Value.category, List.drop_succ_cons, List.drop_zero, List.take_succ_cons, List.take_zero, List.reverse_cons, List.reverse_nil, List.nil_append, List.cons_append, List.append_nil, List.map_cons, List.map_nil, List.sum_cons, List.sum_nil, List.length_cons, List.length_nil, Option.toList, cond_true, cond_false, Nat.reduceBEq, Nat.reduceAdd, Nat.reduceLeDiff, beq_self_eq_true, true_and, and_true, BEq.rfl, Bool.false_eq_true, if_true, if_false, oE_f, oE_s, oE_u, List.set_cons_zero, List.set_cons_succ, List.getElem?_cons_zero, List.getElem?_cons_succ, gfit_r, gfit_i, gfit_ob, gfit_n, gfit_0]
    try simp (disch := first | omega | decide) only [true_and, and_true, lit, nI_add, nar_i, nar_0, nar_1, nar_b, fit_i, fit_l, pk_rem, nI_leI, nI_ltI, nI_eq, vin_iff, nI_clamp, nI_m1, gfree, gfit_i, oE_f, oE_s, oE_u, Nat.add_assoc, Nat.reduceAdd, Nat.reduceLeDiff, List.getElem?_cons_zero, List.getElem?_cons_succ, List.set_cons_zero, List.set_cons_succ]
    refine hQ _ oE_0  fun x hx  => ?_
    · rw [oE_o hx, oE_o hx]
  · exact h.elim
def sp_X4_init : gSp := fun as C n z Q => match as with
  | [.ref y] => ∃ s : Nat, s = y ∧ C s = some (.inr (4, [.null, .null, .null, .null, .int 0, .int 0, .int 0])) ∧ n = s + 1 ∧ ∀ C', C' s = some (.inr (4, [.ref (s + 1), .ref (s + 2), .ref (s + 3), .ref (s + 4), .int (nI 0), .int (nI 0), .int (nI 0)])) → C' (s + 1) = some (.inl (0, 4096, .inl fun _ => nI 0)) → C' (s + 2) = some (.inl (0, 13, .inl fun _ => nI 0)) → C' (s + 3) = some (.inl (0, 900, .inl fun _ => nI 0)) → C' (s + 4) = some (.inl (0, 900, .inl fun _ => nI 0)) → (∀ x, x ≠ s → x ≠ s + 1 → x ≠ s + 2 → x ≠ s + 3 → x ≠ s + 4 → C' x = C x) → Q none C' (s + 5) (z + 5909)
  | _ => False
set_option maxRecDepth 100000 in
set_option maxHeartbeats 4000000 in
theorem c_X4_init (l : Launch) : Con l yX4_init cX4_init 1 none 1 4 5909 sp_X4_init := by
  refine m_X4_init (by decide) ?_
  intro as C0 n0 z0 Q h
  unfold sp_X4_init at h
  split at h
  · obtain ⟨s, rfl, hC, rfl, hQ⟩ := h
    obtain ⟨D, rfl⟩ : ∃ D, C0 = oE s 4 [.null, .null, .null, .null, .int 0, .int 0, .int 0] D := ⟨C0, oE_of hC⟩
    refine ⟨Nat.le_of_ble_eq_true rfl, ?_⟩
    simp only [b_X4_init_0, Nat.add_assoc, s_psh, s_ald, s_ild, s_oi, s_put, s_newi, s_vret, s_ci, s_dup, gpad, gl, gst, gclr, gc2, gent, gcat, Value.category, List.drop_succ_cons, List.drop_zero, List.take_succ_cons, List.take_zero, List.reverse_cons, List.reverse_nil, List.nil_append, List.cons_append, List.append_nil, List.map_cons, List.map_nil, List.sum_cons, List.sum_nil, List.length_cons, List.length_nil, Option.toList, cond_true, cond_false, Nat.reduceBEq, Nat.reduceAdd, Nat.reduceLeDiff, beq_self_eq_true, true_and, and_true, BEq.rfl, Bool.false_eq_true, if_true, if_false, oE_f, oE_s, oE_u, List.set_cons_zero, List.set_cons_succ, List.getElem?_cons_zero, List.getElem?_cons_succ, gfit_r, gfit_i, gfit_ob, gfit_n, gfit_0]
    try simp (disch := first | omega | decide) only [true_and, and_true, lit, nI_add, nar_i, nar_0, nar_1, nar_b, fit_i, fit_l, pk_rem, nI_leI, nI_ltI, nI_eq, vin_iff, nI_clamp, nI_m1, gfree, gfit_i, oE_f, oE_s, oE_u, Nat.add_assoc, Nat.reduceAdd, Nat.reduceLeDiff, List.getElem?_cons_zero, List.getElem?_cons_succ, List.set_cons_zero, List.set_cons_succ]
    refine ⟨by first | omega | exact ⟨by decide, by decide, by omega, by omega⟩ | exact ⟨by decide, by omega, by omega, by omega⟩ | exact ⟨by decide, by omega, by omega⟩ | exact ⟨by decide, by omega⟩, by first | omega | exact ⟨by decide, by decide, by omega, by omega⟩ | exact ⟨by decide, by omega, by omega, by omega⟩ | exact ⟨by decide, by omega, by omega⟩ | exact ⟨by decide, by omega⟩, by first | omega | exact ⟨by decide, by decide, by omega, by omega⟩ | exact ⟨by decide, by omega, by omega, by omega⟩ | exact ⟨by decide, by omega, by omega⟩ | exact ⟨by decide, by omega⟩, by first | omega | exact ⟨by decide, by decide, by omega, by omega⟩ | exact ⟨by decide, by omega, by omega, by omega⟩ | exact ⟨by decide, by omega, by omega⟩ | exact ⟨by decide, by omega⟩, ?_⟩
    refine hQ _ oE_0 ?_ ?_ ?_ ?_ fun x hx hx1 hx2 hx3 hx4 => ?_
    · rw [oE_o (by omega), gup_o (by omega), gup_o (by omega), gup_o (by omega), gup_0]
    · rw [oE_o (by omega), gup_o (by omega), gup_o (by omega), gup_0]
    · rw [oE_o (by omega), gup_o (by omega), gup_0]
    · rw [oE_o (by omega), gup_0]
    · rw [oE_o hx, gup_o hx4, gup_o hx3, gup_o hx2, gup_o hx1, oE_o hx]
  · exact h.elim
def sp_X9_init : gSp := fun as C n z Q => match as with
  | [.ref y] => ∃ s : Nat, s = y ∧ C s = some (.inr (9, [.null, .null, .null, .null, .int 0, .int 0, .int 0, .int 0, .int 0, .int 0, .int 0])) ∧ n = s + 1 ∧ ∀ C', C' s = some (.inr (9, [.ref (s + 1), .ref (s + 2), .ref (s + 3), .ref (s + 4), .int (nI 0), .int (nI 0), .int (nI 0), .int (nI 0), .int (nI 40), .int (nI 0), .int (nI 0)])) → C' (s + 1) = some (.inl (0, 301, .inl fun _ => nI 0)) → C' (s + 2) = some (.inl (0, 301, .inl fun _ => nI 0)) → C' (s + 3) = some (.inl (0, 301, .inl fun _ => nI 0)) → C' (s + 4) = some (.inl (0, 0, .inl fun _ => nI 0)) → (∀ x, x ≠ s → x ≠ s + 1 → x ≠ s + 2 → x ≠ s + 3 → x ≠ s + 4 → C' x = C x) → Q none C' (s + 5) (z + 903)
  | _ => False
set_option maxRecDepth 100000 in
set_option maxHeartbeats 4000000 in
theorem c_X9_init (l : Launch) : Con l yX9_init cX9_init 1 none 1 4 903 sp_X9_init := by
  refine m_X9_init (by decide) ?_
  intro as C0 n0 z0 Q h
  unfold sp_X9_init at h
  split at h
  · obtain ⟨s, rfl, hC, rfl, hQ⟩ := h
    obtain ⟨D, rfl⟩ : ∃ D, C0 = oE s 9 [.null, .null, .null, .null, .int 0, .int 0, .int 0, .int 0, .int 0, .int 0, .int 0] D := ⟨C0, oE_of hC⟩
    refine ⟨Nat.le_of_ble_eq_true rfl, ?_⟩
    simp only [b_X9_init_0, Nat.add_assoc, s_psh, s_ald, s_ild, s_oi, s_put, s_newi, s_vret, s_ci, s_dup, gpad, gl, gst, gclr, gc2, gent, gcat, Value.category, List.drop_succ_cons, List.drop_zero, List.take_succ_cons, List.take_zero, List.reverse_cons, List.reverse_nil, List.nil_append, List.cons_append, List.append_nil, List.map_cons, List.map_nil, List.sum_cons, List.sum_nil, List.length_cons, List.length_nil, Option.toList, cond_true, cond_false, Nat.reduceBEq, Nat.reduceAdd, Nat.reduceLeDiff, beq_self_eq_true, true_and, and_true, BEq.rfl, Bool.false_eq_true, if_true, if_false, oE_f, oE_s, oE_u, List.set_cons_zero, List.set_cons_succ, List.getElem?_cons_zero, List.getElem?_cons_succ, gfit_r, gfit_i, gfit_ob, gfit_n, gfit_0]
    try simp (disch := first | omega | decide) only [true_and, and_true, lit, nI_add, nar_i, nar_0, nar_1, nar_b, fit_i, fit_l, pk_rem, nI_leI, nI_ltI, nI_eq, vin_iff, nI_clamp, nI_m1, gfree, gfit_i, oE_f, oE_s, oE_u, Nat.add_assoc, Nat.reduceAdd, Nat.reduceLeDiff, List.getElem?_cons_zero, List.getElem?_cons_succ, List.set_cons_zero, List.set_cons_succ]
    refine ⟨by first | omega | exact ⟨by decide, by decide, by omega, by omega⟩ | exact ⟨by decide, by omega, by omega, by omega⟩ | exact ⟨by decide, by omega, by omega⟩ | exact ⟨by decide, by omega⟩, by first | omega | exact ⟨by decide, by decide, by omega, by omega⟩ | exact ⟨by decide, by omega, by omega, by omega⟩ | exact ⟨by decide, by omega, by omega⟩ | exact ⟨by decide, by omega⟩, by first | omega | exact ⟨by decide, by decide, by omega, by omega⟩ | exact ⟨by decide, by omega, by omega, by omega⟩ | exact ⟨by decide, by omega, by omega⟩ | exact ⟨by decide, by omega⟩, by first | omega | exact ⟨by decide, by decide, by omega, by omega⟩ | exact ⟨by decide, by omega, by omega, by omega⟩ | exact ⟨by decide, by omega, by omega⟩ | exact ⟨by decide, by omega⟩, ?_⟩
    refine hQ _ oE_0 ?_ ?_ ?_ ?_ fun x hx hx1 hx2 hx3 hx4 => ?_
    · rw [oE_o (by omega), gup_o (by omega), gup_o (by omega), gup_o (by omega), gup_0]
    · rw [oE_o (by omega), gup_o (by omega), gup_o (by omega), gup_0]
    · rw [oE_o (by omega), gup_o (by omega), gup_0]
    · rw [oE_o (by omega), gup_0]
    · rw [oE_o hx, gup_o hx4, gup_o hx3, gup_o hx2, gup_o hx1, oE_o hx]
  · exact h.elim
