/-! the class: a text made -/
theorem gfit_n {t : FieldType} : gfit (.array t) .null = True := eq_true ⟨rfl, rfl⟩
def sp_X8_init : gSp := fun as C n z Q => match as with
  | [.ref s, v1, v2, .ref q] => ∃ oc op, v1 = va_rf oc ∧ v2 = va_rf op ∧ C s = some (.inr (8, [.null, .null, .null])) ∧ Q none (oE s 8 [va_rf oc, va_rf op, .ref q] C) n z
  | _ => False
theorem oE_oE {s ci ci' : Nat} {fs fs' : List Value} {X : gC} : oE s ci fs (oE s ci' fs' X) = oE s ci fs X := by
  funext q
  unfold oE
  split
  · rfl
  · rfl
set_option maxRecDepth 100000 in
set_option maxHeartbeats 4000000 in
theorem c_X8_init (l : Launch) : Con l yX8_init cX8_init 4 none 1 0 0 sp_X8_init := by
  refine m_X8_init (by decide) ?_
  intro as C0 n0 z0 Q h
  unfold sp_X8_init at h
  split at h
  · rename_i s v1 v2 q
    obtain ⟨oc, op, rfl, rfl, hC, hQ⟩ := h
    obtain ⟨X, rfl⟩ : ∃ X, C0 = oE s 8 [.null, .null, .null] X := ⟨C0, oE_of hC⟩
    rw [oE_oE] at hQ
    cases oc <;> cases op
    all_goals
      refine ⟨Nat.le_of_ble_eq_true rfl, ?_⟩
      simp only [b_X8_init_0, va_rf, s_psh, s_ald, s_oi, s_put, s_vret, gpad, gl, gst, gclr, gc2, gent, gcat, Value.category, List.drop_succ_cons, List.drop_zero, List.take_succ_cons, List.take_zero, List.reverse_cons, List.reverse_nil, List.nil_append, List.cons_append, List.append_nil, List.map_cons, List.map_nil, List.sum_cons, List.sum_nil, List.length_cons, List.length_nil, Option.toList, cond_true, cond_false, Nat.reduceBEq, Nat.reduceAdd, Nat.reduceLeDiff, beq_self_eq_true, true_and, and_true, BEq.rfl, Bool.false_eq_true, if_true, if_false, oE_f, oE_s, List.set_cons_zero, List.set_cons_succ, List.getElem?_cons_zero, List.getElem?_cons_succ, gfit_r, gfit_n]
      exact hQ
  · exact h.elim
