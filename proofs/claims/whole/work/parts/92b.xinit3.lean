/-! the class's reader and states made -/
theorem gfit_z {x : Int32} (h : x = nI 0) : gfit .boolean (.int x) = True := by rw [h]; exact gfit_0
def sp_X3_init : gSp := fun as C n z Q => match as with
  | [.ref y] => ∃ s : Nat, s = y ∧ C s = some (.inr (3, [.null, .null, .null, .int 0, .int 0, .int 0, .int 0, .null, .null, .int 0, .int 0])) ∧ n = s + 1 ∧ ∀ C', C' s = some (.inr (3, [.ref (s + 1), .ref (s + 6), .ref (s + 7), .int (nI 0), .int (nI 0), .int (nI 0), .int (nI 0), .null, .null, .int (nI 0), .int (-nI 1)])) → C' (s + 1) = some (.inr (9, [.ref (s + 2), .ref (s + 3), .ref (s + 4), .ref (s + 5), .int (nI 0), .int (nI 0), .int (nI 0), .int (nI 0), .int (nI 40), .int (nI 0), .int (nI 0)])) → C' (s + 2) = some (.inl (0, 301, .inl fun _ => nI 0)) → C' (s + 3) = some (.inl (0, 301, .inl fun _ => nI 0)) → C' (s + 4) = some (.inl (0, 301, .inl fun _ => nI 0)) → C' (s + 5) = some (.inl (0, 0, .inl fun _ => nI 0)) → C' (s + 6) = some (.inl (0, 1200, .inl fun _ => nI 0)) → C' (s + 7) = some (.inl (0, 72, .inl fun _ => nI 0)) → (∀ x, x < s ∨ s + 8 ≤ x → C' x = C x) → Q none C' (s + 8) (z + 2186)
  | _ => False
set_option maxRecDepth 100000 in
set_option maxHeartbeats 4000000 in
theorem c_X3_init (l : Launch) : Con l yX3_init cX3_init 1 none 2 7 2186 sp_X3_init := by
  refine m_X3_init (c_X9_init l) (by decide) (by decide) ?_
  intro as C0 n0 z0 Q h
  unfold sp_X3_init at h
  split at h
  · obtain ⟨s, rfl, hC, rfl, hQ⟩ := h
    obtain ⟨D, rfl⟩ : ∃ D, C0 = oE s 3 [.null, .null, .null, .int 0, .int 0, .int 0, .int 0, .null, .null, .int 0, .int 0] D := ⟨C0, oE_of hC⟩
    refine ⟨Nat.le_of_ble_eq_true rfl, ?_⟩
    simp only [b_X3_init_0, s_ald, s_oi, s_new, s_dup, s_al, s_ci, sp_X9_init, gpad, gl, gst, gclr, gc2, gent, gcat, Value.category, List.drop_succ_cons, List.drop_zero, List.take_succ_cons, List.take_zero, List.reverse_cons, List.reverse_nil, List.nil_append, List.cons_append, List.append_nil, List.map_cons, List.map_nil, List.sum_cons, List.sum_nil, List.length_cons, List.length_nil, Option.toList, cond_true, cond_false, Nat.reduceBEq, Nat.reduceAdd, Nat.reduceLeDiff, beq_self_eq_true, true_and, and_true, BEq.rfl, Bool.false_eq_true, if_true, if_false, gfree]
    refine ⟨by omega, by omega, s + 1, rfl, gup_0, rfl, fun C1 c0 c1 c2 c3 c4 cf => ?_⟩
    have hs : C1 s = some (.inr (3, [.null, .null, .null, .int 0, .int 0, .int 0, .int 0, .null, .null, .int 0, .int 0])) := by rw [cf s (by omega) (by omega) (by omega) (by omega) (by omega), gup_o (by omega), oE_0]
    have hf : ∀ x, x < s ∨ s + 8 ≤ x → C1 x = oE s 3 [.null, .null, .null, .int 0, .int 0, .int 0, .int 0, .null, .null, .int 0, .int 0] D x := fun x hx => by rw [cf x (by omega) (by omega) (by omega) (by omega) (by omega), gup_o (by omega)]
    clear cf
    obtain ⟨D1, rfl⟩ : ∃ D1, C1 = oE s 3 [.null, .null, .null, .int 0, .int 0, .int 0, .int 0, .null, .null, .int 0, .int 0] D1 := ⟨C1, oE_of hs⟩
    rw [oE_o (by omega)] at c0 c1 c2 c3 c4
    simp only [Nat.add_assoc, s_psh, s_ald, s_ild, s_oi, s_put, s_newi, s_vret, s_ci, s_dup, s_new, s_al, s_ist, gpad, gl, gst, gclr, gc2, gent, gcat, Value.category, List.drop_succ_cons, List.drop_zero, List.take_succ_cons, List.take_zero, List.reverse_cons, List.reverse_nil, List.nil_append, List.cons_append, List.append_nil, List.map_cons, List.map_nil, List.sum_cons, List.sum_nil, List.length_cons, List.length_nil, Option.toList, cond_true, cond_false, Nat.reduceBEq, Nat.reduceAdd, Nat.reduceLeDiff, beq_self_eq_true, true_and, and_true, BEq.rfl, Bool.false_eq_true, if_true, if_false, oE_f, oE_s, oE_u, List.set_cons_zero, List.set_cons_succ, List.getElem?_cons_zero, List.getElem?_cons_succ, gfit_r, gfit_i, gfit_ob, gfit_n, gfit_0]
    try simp (disch := first | omega | decide) only [true_and, and_true, lit, nI_add, nar_i, nar_0, nar_1, nar_b, fit_i, fit_l, pk_rem, nI_leI, nI_ltI, nI_eq, vin_iff, nI_clamp, nI_m1, gfree, gfit_i, oE_f, oE_s, oE_u, Nat.add_assoc, Nat.reduceAdd, Nat.reduceLeDiff, List.getElem?_cons_zero, List.getElem?_cons_succ, List.set_cons_zero, List.set_cons_succ]
    refine ⟨by first | omega | exact ⟨by decide, by decide, by omega, by omega⟩ | exact ⟨by decide, by omega, by omega, by omega⟩ | exact ⟨by decide, by omega, by omega⟩ | exact ⟨by decide, by omega⟩, by first | omega | exact ⟨by decide, by decide, by omega, by omega⟩ | exact ⟨by decide, by omega, by omega, by omega⟩ | exact ⟨by decide, by omega, by omega⟩ | exact ⟨by decide, by omega⟩, of_eq_true gfit_0, ?_⟩
    refine hQ _ oE_0 ?_ ?_ ?_ ?_ ?_ ?_ ?_ fun x hx => ?_
    · rw [oE_o (by omega), gup_o (by omega), gup_o (by omega)]; exact c0
    · rw [oE_o (by omega), gup_o (by omega), gup_o (by omega)]; exact c1
    · rw [oE_o (by omega), gup_o (by omega), gup_o (by omega)]; exact c2
    · rw [oE_o (by omega), gup_o (by omega), gup_o (by omega)]; exact c3
    · rw [oE_o (by omega), gup_o (by omega), gup_o (by omega)]; exact c4
    · rw [oE_o (by omega), gup_o (by omega), gup_0]
    · rw [oE_o (by omega), gup_0]
    · have := hf x hx
      rw [oE_o (by omega)] at this
      rw [oE_o (by omega), gup_o (by omega), gup_o (by omega), this]
  · exact h.elim
def vI (k : Nat) : Nat → Int32 := fun j => if j < k then nI j else nI 0
/-- a State as it is made -/
def StM (C : gC) (s : Nat) (v : Nat → Int32) : Prop := C s = some (.inr (6, [.ref (s + 1), .ref (s + 6), .ref (s + 8), .ref (s + 10), .ref (s + 12), .ref (s + 13), .ref (s + 14), .int (nI 0), .int (nI 0), .int (-nI 1)])) ∧ sqAt C (s + 1) (sqσ0, sqA0) ∧ C (s + 6) = some (.inr (7, [.ref (s + 7), .int (nI 0), .int (nI 0)])) ∧ C (s + 7) = some (.inl (3, 30, .inr (.inr (.inr (.inr fun _ => none))))) ∧ C (s + 8) = some (.inr (10, [.ref (s + 9), .int (nI 6), .int (nI 0)])) ∧ C (s + 9) = some (.inl (0, 18, .inl fun _ => nI 0)) ∧ C (s + 10) = some (.inr (10, [.ref (s + 11), .int (nI 8), .int (nI 0)])) ∧ C (s + 11) = some (.inl (0, 24, .inl fun _ => nI 0)) ∧ C (s + 12) = some (.inl (0, 13, .inl v)) ∧ C (s + 13) = some (.inl (0, 7, .inl fun _ => nI 0)) ∧ C (s + 14) = some (.inl (0, 7, .inl fun _ => nI 0))
def iX6_init (s : Nat) (C0 : gC) (n0 z0 μ : Nat) : gKo := fun lv st C n z => st = [] ∧ n = n0 ∧ z = z0 ∧ ∃ i, i ≤ 13 ∧ μ = 13 - i ∧ StM C s (vI i) ∧ (∀ x, x < s ∨ s + 15 ≤ x → C x = C0 x) ∧ lv = [some (.ref s), some (.int (nI i))]
def sp_X6_init : gSp := fun as C n z Q => match as with
  | [.ref y] => ∃ s : Nat, s = y ∧ C s = some (.inr (6, [.null, .null, .null, .null, .null, .null, .null, .int 0, .int 0, .int 0])) ∧ n = s + 1 ∧ ∀ C', StM C' s (vI 13) → (∀ x, x < s ∨ s + 15 ≤ x → C' x = C x) → Q none C' (s + 15) (z + 302)
  | _ => False
set_option maxRecDepth 100000 in
set_option maxHeartbeats 4000000 in
theorem c_X6_init (l : Launch) : Con l yX6_init cX6_init 2 none 2 14 302 sp_X6_init := by
  refine m_X6_init (c_X5_init l) (by decide) (c_X7_init l) (by decide) (c_X10_init l) (by decide) (by decide) ?_
  intro as C0 n0 z0 Q h
  unfold sp_X6_init at h
  split at h
  · obtain ⟨s, rfl, hC, rfl, hQ⟩ := h
    refine ⟨Nat.le_of_ble_eq_true rfl, fun pc μ => iX6_init s C0 (s + 15) (z0 + 302) μ, ?_, ?_⟩
    · obtain ⟨D, rfl⟩ : ∃ D, C0 = oE s 6 [.null, .null, .null, .null, .null, .null, .null, .int 0, .int 0, .int 0] D := ⟨C0, oE_of hC⟩
      simp only [b_X6_init_0, s_ald, s_oi, s_new, s_dup, s_al, s_ci, sp_X5_init, gpad, gl, gst, gclr, gc2, gent, gcat, Value.category, List.drop_succ_cons, List.drop_zero, List.take_succ_cons, List.take_zero, List.reverse_cons, List.reverse_nil, List.nil_append, List.cons_append, List.append_nil, List.map_cons, List.map_nil, List.sum_cons, List.sum_nil, List.length_cons, List.length_nil, Option.toList, cond_true, cond_false, Nat.reduceBEq, Nat.reduceAdd, Nat.reduceLeDiff, beq_self_eq_true, true_and, and_true, BEq.rfl, Bool.false_eq_true, if_true, if_false, gfree]
      refine ⟨by omega, by omega, gup_0, ?_⟩
      have hs : SqE (s + 1) sqσ0 sqA0 (gup (oE s 6 [.null, .null, .null, .null, .null, .null, .null, .int 0, .int 0, .int 0] D) (s + 1) (.inr (5, sq0))) s = some (.inr (6, [.null, .null, .null, .null, .null, .null, .null, .int 0, .int 0, .int 0])) := by rw [Sq_out (by omega), gup_o (by omega), oE_0]
      have f1 : sqAt (SqE (s + 1) sqσ0 sqA0 (gup (oE s 6 [.null, .null, .null, .null, .null, .null, .null, .int 0, .int 0, .int 0] D) (s + 1) (.inr (5, sq0)))) (s + 1) (sqσ0, sqA0) := sqAt_s
      have hf : ∀ x, x < s ∨ s + 15 ≤ x → SqE (s + 1) sqσ0 sqA0 (gup (oE s 6 [.null, .null, .null, .null, .null, .null, .null, .int 0, .int 0, .int 0] D) (s + 1) (.inr (5, sq0))) x = D x := fun x hx => by rw [Sq_out (by omega), gup_o (by omega), oE_o (by omega)]
      unfold sq0 at hs f1 hf
      generalize SqE (s + 1) sqσ0 sqA0 (gup (oE s 6 [.null, .null, .null, .null, .null, .null, .null, .int 0, .int 0, .int 0] D) (s + 1) (.inr (5, _))) = W at hs f1 hf ⊢
      obtain ⟨D1, rfl⟩ : ∃ D1, W = oE s 6 [.null, .null, .null, .null, .null, .null, .null, .int 0, .int 0, .int 0] D1 := ⟨W, oE_of hs⟩
      clear hs
      have f1 : sqAt D1 (s + 1) (sqσ0, sqA0) := sqAt_k f1 fun j hj => (oE_o (by omega)).symm
      have hf : ∀ x, x < s ∨ s + 15 ≤ x → D1 x = D x := fun x hx => by rw [← hf x hx, oE_o (by omega)]
      simp only [Nat.add_assoc, s_put, s_ald, s_new, s_dup, s_al, s_ci, sp_X7_init, gpad, gl, gst, gclr, gc2, gent, gcat, Value.category, List.drop_succ_cons, List.drop_zero, List.take_succ_cons, List.take_zero, List.reverse_cons, List.reverse_nil, List.nil_append, List.cons_append, List.append_nil, List.map_cons, List.map_nil, List.sum_cons, List.sum_nil, List.length_cons, List.length_nil, Option.toList, cond_true, cond_false, Nat.reduceBEq, Nat.reduceAdd, Nat.reduceLeDiff, beq_self_eq_true, true_and, and_true, BEq.rfl, Bool.false_eq_true, if_true, if_false, gfree, oE_f, oE_s, oE_u, List.set_cons_zero, List.set_cons_succ, List.getElem?_cons_zero, List.getElem?_cons_succ, gfit_ob]
      refine ⟨by omega, by omega, ?_, ?_⟩
      · rw [oE_o (by omega), gup_0]
      generalize hW : StE (s + 6) (fun _ => nI 0) (fun _ => none) (oE s 6 [.ref (s + 1), .null, .null, .null, .null, .null, .null, .int 0, .int 0, .int 0] (gup D1 (s + 6) (.inr (7, [.null, .int 0, .int 0])))) = W
      have f2 : W (s + 6) = some (.inr (7, [.ref (s + 7), .int (nI 0), .int (nI 0)])) := by rw [← hW, StE_is]
      have f3 : W (s + 7) = some (.inl (3, 30, .inr (.inr (.inr (.inr fun _ => none))))) := by rw [← hW]; exact StE_1
      have hk : ∀ x, x ≠ s → x ≠ s + 6 → x ≠ s + 7 → W x = D1 x := fun x h0 h1 h2 => by rw [← hW, StE_o (by omega), oE_o h0, gup_o h1]
      have hs : W s = some (.inr (6, [.ref (s + 1), .null, .null, .null, .null, .null, .null, .int 0, .int 0, .int 0])) := by rw [← hW, StE_o (by omega), oE_0]
      clear hW
      obtain ⟨D2, rfl⟩ : ∃ D2, W = oE s 6 [.ref (s + 1), .null, .null, .null, .null, .null, .null, .int 0, .int 0, .int 0] D2 := ⟨W, oE_of hs⟩
      clear hs
      have hk : ∀ x, x ≠ s → x ≠ s + 6 → x ≠ s + 7 → D2 x = D1 x := fun x h0 h1 h2 => by rw [← hk x h0 h1 h2, oE_o h0]
      rw [oE_o (by omega)] at f2 f3
      have f1 : sqAt D2 (s + 1) (sqσ0, sqA0) := sqAt_k f1 fun j hj => hk _ (by omega) (by omega) (by omega)
      have hf : ∀ x, x < s ∨ s + 15 ≤ x → D2 x = D x := fun x hx => by rw [hk x (by omega) (by omega) (by omega)]; exact hf x hx
      clear hk
      simp only [Nat.add_assoc, s_put, s_psh, s_ald, s_new, s_dup, s_al, s_ci, sp_X10_init, gpad, gl, gst, gclr, gc2, gent, gcat, Value.category, List.drop_succ_cons, List.drop_zero, List.take_succ_cons, List.take_zero, List.reverse_cons, List.reverse_nil, List.nil_append, List.cons_append, List.append_nil, List.map_cons, List.map_nil, List.sum_cons, List.sum_nil, List.length_cons, List.length_nil, Option.toList, cond_true, cond_false, Nat.reduceBEq, Nat.reduceAdd, Nat.reduceLeDiff, beq_self_eq_true, true_and, and_true, BEq.rfl, Bool.false_eq_true, if_true, if_false, gfree, oE_f, oE_s, oE_u, List.set_cons_zero, List.set_cons_succ, List.getElem?_cons_zero, List.getElem?_cons_succ, gfit_ob]
      refine ⟨by omega, by omega, 6, ?_, rfl, by decide, ?_⟩
      · rw [oE_o (by omega), gup_0]
      generalize hW : TrE (3 * 6) (s + 8) (trσ0 6) (fun _ _ => 0) (oE s 6 [.ref (s + 1), .ref (s + 6), .null, .null, .null, .null, .null, .int 0, .int 0, .int 0] (gup D2 (s + 8) (.inr (10, [.null, .int 0, .int 0])))) = W
      have f4 : W (s + 8) = some (.inr (10, [.ref (s + 9), .int (nI 6), .int (nI 0)])) := by rw [← hW]; unfold TrE; rw [if_pos rfl]; rfl
      have f5 : W (s + 9) = some (.inl (0, 18, .inl fun _ => nI 0)) := by rw [← hW]; unfold TrE; rw [if_neg (by omega), if_pos rfl]; rfl
      have hk : ∀ x, x ≠ s → x ≠ s + 8 → x ≠ s + 9 → W x = D2 x := fun x h0 h1 h2 => by rw [← hW, Tr_out (by omega), oE_o h0, gup_o h1]
      have hs : W s = some (.inr (6, [.ref (s + 1), .ref (s + 6), .null, .null, .null, .null, .null, .int 0, .int 0, .int 0])) := by rw [← hW, Tr_out (by omega), oE_0]
      clear hW
      obtain ⟨D3, rfl⟩ : ∃ D3, W = oE s 6 [.ref (s + 1), .ref (s + 6), .null, .null, .null, .null, .null, .int 0, .int 0, .int 0] D3 := ⟨W, oE_of hs⟩
      clear hs
      have hk : ∀ x, x ≠ s → x ≠ s + 8 → x ≠ s + 9 → D3 x = D2 x := fun x h0 h1 h2 => by rw [← hk x h0 h1 h2, oE_o h0]
      rw [oE_o (by omega)] at f4 f5
      have f1 : sqAt D3 (s + 1) (sqσ0, sqA0) := sqAt_k f1 fun j hj => hk _ (by omega) (by omega) (by omega)
      have hf : ∀ x, x < s ∨ s + 15 ≤ x → D3 x = D x := fun x hx => by rw [hk x (by omega) (by omega) (by omega)]; exact hf x hx
      rw [← hk _ (by omega) (by omega) (by omega)] at f2 f3
      clear hk
      simp only [Nat.add_assoc, s_put, s_psh, s_ald, s_new, s_dup, s_al, s_ci, sp_X10_init, gpad, gl, gst, gclr, gc2, gent, gcat, Value.category, List.drop_succ_cons, List.drop_zero, List.take_succ_cons, List.take_zero, List.reverse_cons, List.reverse_nil, List.nil_append, List.cons_append, List.append_nil, List.map_cons, List.map_nil, List.sum_cons, List.sum_nil, List.length_cons, List.length_nil, Option.toList, cond_true, cond_false, Nat.reduceBEq, Nat.reduceAdd, Nat.reduceLeDiff, beq_self_eq_true, true_and, and_true, BEq.rfl, Bool.false_eq_true, if_true, if_false, gfree, oE_f, oE_s, oE_u, List.set_cons_zero, List.set_cons_succ, List.getElem?_cons_zero, List.getElem?_cons_succ, gfit_ob]
      refine ⟨by omega, by omega, 8, ?_, rfl, by decide, ?_⟩
      · rw [oE_o (by omega), gup_0]
      generalize hW : TrE (3 * 8) (s + 10) (trσ0 8) (fun _ _ => 0) (oE s 6 [.ref (s + 1), .ref (s + 6), .ref (s + 8), .null, .null, .null, .null, .int 0, .int 0, .int 0] (gup D3 (s + 10) (.inr (10, [.null, .int 0, .int 0])))) = W
      have f6 : W (s + 10) = some (.inr (10, [.ref (s + 11), .int (nI 8), .int (nI 0)])) := by rw [← hW]; unfold TrE; rw [if_pos rfl]; rfl
      have f7 : W (s + 11) = some (.inl (0, 24, .inl fun _ => nI 0)) := by rw [← hW]; unfold TrE; rw [if_neg (by omega), if_pos rfl]; rfl
      have hk : ∀ x, x ≠ s → x ≠ s + 10 → x ≠ s + 11 → W x = D3 x := fun x h0 h1 h2 => by rw [← hW, Tr_out (by omega), oE_o h0, gup_o h1]
      have hs : W s = some (.inr (6, [.ref (s + 1), .ref (s + 6), .ref (s + 8), .null, .null, .null, .null, .int 0, .int 0, .int 0])) := by rw [← hW, Tr_out (by omega), oE_0]
      clear hW
      obtain ⟨D4, rfl⟩ : ∃ D4, W = oE s 6 [.ref (s + 1), .ref (s + 6), .ref (s + 8), .null, .null, .null, .null, .int 0, .int 0, .int 0] D4 := ⟨W, oE_of hs⟩
      clear hs
      have hk : ∀ x, x ≠ s → x ≠ s + 10 → x ≠ s + 11 → D4 x = D3 x := fun x h0 h1 h2 => by rw [← hk x h0 h1 h2, oE_o h0]
      rw [oE_o (by omega)] at f6 f7
      have f1 : sqAt D4 (s + 1) (sqσ0, sqA0) := sqAt_k f1 fun j hj => hk _ (by omega) (by omega) (by omega)
      have hf : ∀ x, x < s ∨ s + 15 ≤ x → D4 x = D x := fun x hx => by rw [hk x (by omega) (by omega) (by omega)]; exact hf x hx
      rw [← hk _ (by omega) (by omega) (by omega)] at f2 f3 f4 f5
      clear hk
      simp only [Nat.add_assoc, s_psh, s_ald, s_ild, s_oi, s_put, s_newi, s_vret, s_ci, s_dup, s_new, s_al, s_ist, gpad, gl, gst, gclr, gc2, gent, gcat, Value.category, List.drop_succ_cons, List.drop_zero, List.take_succ_cons, List.take_zero, List.reverse_cons, List.reverse_nil, List.nil_append, List.cons_append, List.append_nil, List.map_cons, List.map_nil, List.sum_cons, List.sum_nil, List.length_cons, List.length_nil, Option.toList, cond_true, cond_false, Nat.reduceBEq, Nat.reduceAdd, Nat.reduceLeDiff, beq_self_eq_true, true_and, and_true, BEq.rfl, Bool.false_eq_true, if_true, if_false, oE_f, oE_s, oE_u, List.set_cons_zero, List.set_cons_succ, List.getElem?_cons_zero, List.getElem?_cons_succ, gfit_r, gfit_i, gfit_ob, gfit_n, gfit_0]
      try simp (disch := first | omega | decide) only [true_and, and_true, lit, nI_add, nar_i, nar_0, nar_1, nar_b, fit_i, fit_l, pk_rem, nI_leI, nI_ltI, nI_eq, vin_iff, nI_clamp, nI_m1, gfree, gfit_i, oE_f, oE_s, oE_u, Nat.add_assoc, Nat.reduceAdd, Nat.reduceLeDiff, List.getElem?_cons_zero, List.getElem?_cons_succ, List.set_cons_zero, List.set_cons_succ]
      refine ⟨by first | omega | exact ⟨by decide, by decide, by omega, by omega⟩ | exact ⟨by decide, by omega, by omega, by omega⟩ | exact ⟨by decide, by omega, by omega⟩ | exact ⟨by decide, by omega⟩, by first | omega | exact ⟨by decide, by decide, by omega, by omega⟩ | exact ⟨by decide, by omega, by omega, by omega⟩ | exact ⟨by decide, by omega, by omega⟩ | exact ⟨by decide, by omega⟩, by first | omega | exact ⟨by decide, by decide, by omega, by omega⟩ | exact ⟨by decide, by omega, by omega, by omega⟩ | exact ⟨by decide, by omega, by omega⟩ | exact ⟨by decide, by omega⟩, 13 - 0, rfl, rfl, rfl, 0, by decide, rfl, ⟨oE_0, sqAt_k f1 fun j hj => ?_, ?_, ?_, ?_, ?_, ?_, ?_, ?_, ?_, ?_⟩, fun x hx => ?_, rfl⟩
      · rw [oE_o (by omega), gup_o (by omega), gup_o (by omega), gup_o (by omega)]
      · rw [oE_o (by omega), gup_o (by omega), gup_o (by omega), gup_o (by omega)]; exact f2
      · rw [oE_o (by omega), gup_o (by omega), gup_o (by omega), gup_o (by omega)]; exact f3
      · rw [oE_o (by omega), gup_o (by omega), gup_o (by omega), gup_o (by omega)]; exact f4
      · rw [oE_o (by omega), gup_o (by omega), gup_o (by omega), gup_o (by omega)]; exact f5
      · rw [oE_o (by omega), gup_o (by omega), gup_o (by omega), gup_o (by omega)]; exact f6
      · rw [oE_o (by omega), gup_o (by omega), gup_o (by omega), gup_o (by omega)]; exact f7
      · rw [oE_o (by omega), gup_o (by omega), gup_o (by omega), gup_0]; rfl
      · rw [oE_o (by omega), gup_o (by omega), gup_0]
      · rw [oE_o (by omega), gup_0]
      · rw [oE_o (by omega), gup_o (by omega), gup_o (by omega), gup_o (by omega), oE_o (by omega)]; exact hf x hx
    · rintro μ lv st C n z ⟨rfl, rfl, rfl, i, hi, rfl, ⟨h0, h1, h2, h3, h4, h5, h6, h7, h8, h9, h10⟩, hf, rfl⟩
      have g4 : gfld C s 6 4 = some (.ref (s + 12)) := by rw [gfld, h0]; rfl
      simp only [b_X6_init_93, s_psh, s_ild, s_lld, s_ald, s_ist, s_lst, s_ast, s_inc, s_ib, s_ibz, s_iu, s_lb, s_lbz, s_lu, s_ls, s_il, s_li, s_cmp, s_dup, s_pop, s_dup2, s_cv, s_cs, s_ci, s_oi, s_get, s_put, s_iald, s_lald, s_zald, s_iast, s_last, s_zast, s_alen, s_iret, s_lret, s_aret, s_vret, s_al, gpad, gl, gst, gclr, gc2, gent, gcat, Value.category, List.drop_succ_cons, List.drop_zero, List.take_succ_cons, List.take_zero, List.reverse_cons, List.reverse_nil, List.nil_append, List.cons_append, List.append_nil, List.map_cons, List.map_nil, List.sum_cons, List.sum_nil, List.length_cons, List.length_nil, Option.toList, cond_true, cond_false, Nat.reduceBEq, Nat.reduceAdd, Nat.reduceLeDiff, beq_self_eq_true, true_and, and_true, BEq.rfl, Bool.false_eq_true, if_true, if_false, Sq_0, Sq_1, Sq_2, Sq_3, Sq_4, Sqf_0, Sqf_1, Sqf_2, Sqf_3, Sqf_4, Sqf_5, Sqf_6, Sqs_4, Sqs_5, Sqs_6, Squ_1, Squ_2, Squ_3, Squ_4]
      try simp only [lit]
      refine if2i (fun g => ?_) (fun g => ?_)
      · rw [nI_ltI (by omega) (by omega)] at g
        have : i = 13 := by omega
        subst this
        simp only [s_psh, s_ild, s_lld, s_ald, s_ist, s_lst, s_ast, s_inc, s_ib, s_ibz, s_iu, s_lb, s_lbz, s_lu, s_ls, s_il, s_li, s_cmp, s_dup, s_pop, s_dup2, s_cv, s_cs, s_ci, s_oi, s_get, s_put, s_iald, s_lald, s_zald, s_iast, s_last, s_zast, s_alen, s_iret, s_lret, s_aret, s_vret, s_al, gpad, gl, gst, gclr, gc2, gent, gcat, Value.category, List.drop_succ_cons, List.drop_zero, List.take_succ_cons, List.take_zero, List.reverse_cons, List.reverse_nil, List.nil_append, List.cons_append, List.append_nil, List.map_cons, List.map_nil, List.sum_cons, List.sum_nil, List.length_cons, List.length_nil, Option.toList, cond_true, cond_false, Nat.reduceBEq, Nat.reduceAdd, Nat.reduceLeDiff, beq_self_eq_true, true_and, and_true, BEq.rfl, Bool.false_eq_true, if_true, if_false, Sq_0, Sq_1, Sq_2, Sq_3, Sq_4, Sqf_0, Sqf_1, Sqf_2, Sqf_3, Sqf_4, Sqf_5, Sqf_6, Sqs_4, Sqs_5, Sqs_6, Squ_1, Squ_2, Squ_3, Squ_4]
        exact hQ C ⟨h0, h1, h2, h3, h4, h5, h6, h7, h8, h9, h10⟩ hf
      · rw [nI_ltI (by omega) (by omega)] at g
        simp only [g4, h8, s_psh, s_ild, s_lld, s_ald, s_ist, s_lst, s_ast, s_inc, s_ib, s_ibz, s_iu, s_lb, s_lbz, s_lu, s_ls, s_il, s_li, s_cmp, s_dup, s_pop, s_dup2, s_cv, s_cs, s_ci, s_oi, s_get, s_put, s_iald, s_lald, s_zald, s_iast, s_last, s_zast, s_alen, s_iret, s_lret, s_aret, s_vret, s_al, gpad, gl, gst, gclr, gc2, gent, gcat, Value.category, List.drop_succ_cons, List.drop_zero, List.take_succ_cons, List.take_zero, List.reverse_cons, List.reverse_nil, List.nil_append, List.cons_append, List.append_nil, List.map_cons, List.map_nil, List.sum_cons, List.sum_nil, List.length_cons, List.length_nil, Option.toList, cond_true, cond_false, Nat.reduceBEq, Nat.reduceAdd, Nat.reduceLeDiff, beq_self_eq_true, true_and, and_true, BEq.rfl, Bool.false_eq_true, if_true, if_false, Sq_0, Sq_1, Sq_2, Sq_3, Sq_4, Sqf_0, Sqf_1, Sqf_2, Sqf_3, Sqf_4, Sqf_5, Sqf_6, Sqs_4, Sqs_5, Sqs_6, Squ_1, Squ_2, Squ_3, Squ_4]
        simp (disch := omega) only [true_and, and_true, lit, nI_add, nar_i, nar_0, nar_1, nar_b, fit_i, fit_l, pk_rem, nI_leI, nI_ltI, nI_eq, vin_iff, nI_clamp, nI_m1]
        have e : upd (vI i) i (nI i) = vI (i + 1) := by
          funext j
          unfold vI
          by_cases q : j = i
          · rw [q, pk_us, if_pos (by omega)]
          · rw [pk_un q]
            by_cases q2 : j < i
            · rw [if_pos q2, if_pos (by omega)]
            · rw [if_neg q2, if_neg (by omega)]
        rw [e]
        refine ⟨by omega, 13 - (i + 1), by omega, rfl, rfl, rfl, i + 1, by omega, rfl, ⟨?_, sqAt_k h1 fun j hj => gup_o (by omega), ?_, ?_, ?_, ?_, ?_, ?_, gup_0, ?_, ?_⟩, fun x hx => ?_, rfl⟩
        · rw [gup_o (by omega)]; exact h0
        · rw [gup_o (by omega)]; exact h2
        · rw [gup_o (by omega)]; exact h3
        · rw [gup_o (by omega)]; exact h4
        · rw [gup_o (by omega)]; exact h5
        · rw [gup_o (by omega)]; exact h6
        · rw [gup_o (by omega)]; exact h7
        · rw [gup_o (by omega)]; exact h9
        · rw [gup_o (by omega)]; exact h10
        · rw [gup_o (by omega)]; exact hf x hx
  · exact h.elim
