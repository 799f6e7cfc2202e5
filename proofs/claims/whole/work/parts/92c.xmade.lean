/-! the class made -/
theorem StM.k {C C' : gC} {s : Nat} {v : Nat → Int32} (h : StM C s v) (e : ∀ k, k < 15 → C' (s + k) = C (s + k)) : StM C' s v := by
  obtain ⟨h0, h1, h2, h3, h4, h5, h6, h7, h8, h9, h10⟩ := h
  refine ⟨(e 0 (by decide)).trans h0, sqAt_k h1 fun j hj => ?_, (e 6 (by decide)).trans h2, (e 7 (by decide)).trans h3, (e 8 (by decide)).trans h4, (e 9 (by decide)).trans h5, (e 10 (by decide)).trans h6, (e 11 (by decide)).trans h7, (e 12 (by decide)).trans h8, (e 13 (by decide)).trans h9, (e 14 (by decide)).trans h10⟩
  rw [Nat.add_assoc]
  exact e _ (by omega)
def σI : Nat → Nat → Int32 := fun j k => if j = 2 ∨ j = 17 ∨ j = 50 then sqσ0 k else if (j = 9 ∨ j = 24) ∧ k = 1 then nI 6 else if (j = 11 ∨ j = 26) ∧ k = 1 then nI 8 else if (j = 1 ∨ j = 16) ∧ k = 9 then -nI 1 else if j = 0 ∧ (k = 11 ∨ k = 12) then -nI 1 else if j = 42 ∧ k = 10 then -nI 1 else if j = 43 ∧ k = 8 then nI 40 else nI 0
def AI : Nat → Nat → Int32 := fun j => if 2 < j ∧ j ≤ 6 then sqA0 (j - 2) else if 17 < j ∧ j ≤ 21 then sqA0 (j - 17) else if 50 < j ∧ j ≤ 54 then sqA0 (j - 50) else if j = 13 ∨ j = 28 then vI 13 else fun _ => nI 0
def ρI (X : Nat) : Nat → Value := fun k => if k = 0 then .ref (X + 2) else if k = 1 then .ref (X + 47) else .null
def sp_X11_init : gSp := fun as C n z Q => match as with
  | [.ref y] => ∃ X : Nat, X = y ∧ C X = some (.inr (11, [.null, .null, .null, .null, .null, .null, .null, .null, .null, .null, .int 0, .int 0, .int 0])) ∧ n = X + 1 ∧ ∀ C', agX X σI (ρI X) AI (fun _ _ => none) C' → (∀ x, x < X ∨ X + 56 ≤ x → C' x = C x) → Q none C' (X + 56) (z + 9326)
  | _ => False
set_option maxRecDepth 100000 in
set_option maxHeartbeats 8000000 in
theorem c_X11_init (l : Launch) : Con l yX11_init cX11_init 1 none 3 55 9326 sp_X11_init := by
  refine m_X11_init (c_X6_init l) (by decide) (c_X0_init l) (by decide) (c_X2_init l) (by decide) (c_X1_init l) (by decide) (c_X4_init l) (by decide) (c_X3_init l) (by decide) (c_X5_init l) (by decide) (by decide) ?_
  intro as C0 n0 z0 Q h
  unfold sp_X11_init at h
  split at h
  · obtain ⟨X, rfl, hC, rfl, hQ⟩ := h
    refine ⟨Nat.le_of_ble_eq_true rfl, ?_⟩
    obtain ⟨D, rfl⟩ : ∃ D, C0 = oE X 11 [.null, .null, .null, .null, .null, .null, .null, .null, .null, .null, .int 0, .int 0, .int 0] D := ⟨C0, oE_of hC⟩
    have hf : ∀ x, x < X ∨ X + 56 ≤ x → D x = D x := fun _ _ => rfl
    simp only [b_X11_init_0, Nat.add_assoc, s_put, s_psh, s_ald, s_get, s_new, s_newi, s_newq, s_dup, s_al, s_ci, s_oi, s_vret, gpad, gl, gst, gclr, gc2, gent, gcat, Value.category, List.drop_succ_cons, List.drop_zero, List.take_succ_cons, List.take_zero, List.reverse_cons, List.reverse_nil, List.nil_append, List.cons_append, List.append_nil, List.map_cons, List.map_nil, List.sum_cons, List.sum_nil, List.length_cons, List.length_nil, Option.toList, cond_true, cond_false, Nat.reduceBEq, Nat.reduceAdd, Nat.reduceLeDiff, beq_self_eq_true, true_and, and_true, BEq.rfl, Bool.false_eq_true, if_true, if_false, gfree, oE_f, oE_s, oE_u, List.set_cons_zero, List.set_cons_succ, List.getElem?_cons_zero, List.getElem?_cons_succ, gfit_ob, gfit_r, gfit_i, sp_X6_init]
    refine ⟨by omega, by omega, X + 1, rfl, by rw [oE_o (by omega), gup_0], rfl, fun W m1 hfr => ?_⟩
    have hs : W X = some (.inr (11, [.null, .null, .null, .null, .null, .null, .null, .null, .null, .null, .int 0, .int 0, .int 0])) := by rw [hfr X (by omega), oE_0]
    have hk : ∀ x, x ≠ X → (x < X + 1 ∨ X + 16 ≤ x) → W x = D x := fun x h0 h1 => by rw [hfr x (by omega), oE_o h0, gup_o (by omega)]
    clear hfr
    obtain ⟨D1, rfl⟩ : ∃ E, W = oE X 11 [.null, .null, .null, .null, .null, .null, .null, .null, .null, .null, .int 0, .int 0, .int 0] E := ⟨W, oE_of hs⟩
    clear hs
    have hk : ∀ x, x ≠ X → (x < X + 1 ∨ X + 16 ≤ x) → D1 x = D x := fun x h0 h1 => by rw [← hk x h0 h1, oE_o h0]
    have m1 : StM D1 (X + 1) (vI 13) := m1.k fun j hj => (oE_o (by omega)).symm
    have hf : ∀ x, x < X ∨ X + 56 ≤ x → D1 x = D x := fun x hx => (hk x (by omega) (by omega)).trans (hf x hx)
    clear hk
    simp only [Nat.add_assoc, s_put, s_psh, s_ald, s_get, s_new, s_newi, s_newq, s_dup, s_al, s_ci, s_oi, s_vret, gpad, gl, gst, gclr, gc2, gent, gcat, Value.category, List.drop_succ_cons, List.drop_zero, List.take_succ_cons, List.take_zero, List.reverse_cons, List.reverse_nil, List.nil_append, List.cons_append, List.append_nil, List.map_cons, List.map_nil, List.sum_cons, List.sum_nil, List.length_cons, List.length_nil, Option.toList, cond_true, cond_false, Nat.reduceBEq, Nat.reduceAdd, Nat.reduceLeDiff, beq_self_eq_true, true_and, and_true, BEq.rfl, Bool.false_eq_true, if_true, if_false, gfree, oE_f, oE_s, oE_u, List.set_cons_zero, List.set_cons_succ, List.getElem?_cons_zero, List.getElem?_cons_succ, gfit_ob, gfit_r, gfit_i, sp_X6_init]
    refine ⟨by omega, by omega, X + 16, rfl, by rw [oE_o (by omega), gup_0], rfl, fun W m2 hfr => ?_⟩
    have hs : W X = some (.inr (11, [.ref (X + 1), .null, .null, .null, .null, .null, .null, .null, .null, .null, .int 0, .int 0, .int 0])) := by rw [hfr X (by omega), oE_0]
    have hk : ∀ x, x ≠ X → (x < X + 16 ∨ X + 31 ≤ x) → W x = D1 x := fun x h0 h1 => by rw [hfr x (by omega), oE_o h0, gup_o (by omega)]
    clear hfr
    obtain ⟨D2, rfl⟩ : ∃ E, W = oE X 11 [.ref (X + 1), .null, .null, .null, .null, .null, .null, .null, .null, .null, .int 0, .int 0, .int 0] E := ⟨W, oE_of hs⟩
    clear hs
    have hk : ∀ x, x ≠ X → (x < X + 16 ∨ X + 31 ≤ x) → D2 x = D1 x := fun x h0 h1 => by rw [← hk x h0 h1, oE_o h0]
    have m2 : StM D2 (X + 16) (vI 13) := m2.k fun j hj => (oE_o (by omega)).symm
    have m1 : StM D2 (X + 1) (vI 13) := m1.k fun j hj => by rw [Nat.add_assoc]; exact hk _ (by omega) (by omega)
    have hf : ∀ x, x < X ∨ X + 56 ≤ x → D2 x = D x := fun x hx => (hk x (by omega) (by omega)).trans (hf x hx)
    clear hk
    simp only [Nat.add_assoc, s_put, s_psh, s_ald, s_get, s_new, s_newi, s_newq, s_dup, s_al, s_ci, s_oi, s_vret, gpad, gl, gst, gclr, gc2, gent, gcat, Value.category, List.drop_succ_cons, List.drop_zero, List.take_succ_cons, List.take_zero, List.reverse_cons, List.reverse_nil, List.nil_append, List.cons_append, List.append_nil, List.map_cons, List.map_nil, List.sum_cons, List.sum_nil, List.length_cons, List.length_nil, Option.toList, cond_true, cond_false, Nat.reduceBEq, Nat.reduceAdd, Nat.reduceLeDiff, beq_self_eq_true, true_and, and_true, BEq.rfl, Bool.false_eq_true, if_true, if_false, gfree, oE_f, oE_s, oE_u, List.set_cons_zero, List.set_cons_succ, List.getElem?_cons_zero, List.getElem?_cons_succ, gfit_ob, gfit_r, gfit_i, sp_X0_init]
    try simp (disch := first | omega | decide) only [true_and, and_true, lit, nI_add, nar_i, nar_0, nar_1, nar_b, fit_i, fit_l, pk_rem, nI_leI, nI_ltI, nI_eq, vin_iff, nI_clamp, nI_m1, gfree, gfit_i, oE_f, oE_s, oE_u, Nat.add_assoc, Nat.reduceAdd, Nat.reduceLeDiff, List.getElem?_cons_zero, List.getElem?_cons_succ, List.set_cons_zero, List.set_cons_succ]
    have g6 : gfld (oE X 11 [.ref (X + 1), .ref (X + 16), .ref (X + 31), .null, .null, .null, .null, .null, .null, .null, .int (nI 0), .int (nI 0), .int (nI 0)] (gup (gup D2 (X + 31) (.inl (4, 4, .inr (.inr (.inr (.inr fun _ => none)))))) (X + 32) (.inr (0, [.null, .null, .null, .null, .int (nI 0), .int (nI 0), .int (nI 0), .int (nI 0), .int (nI 0)])))) (X + 1) 6 0 = some (.ref (X + 2)) := by
      rw [gfld, oE_o (by omega), gup_o (by omega), gup_o (by omega), m1.1]; rfl
    refine ⟨by first | omega | exact ⟨by decide, by decide, by omega, by omega⟩ | exact ⟨by decide, by omega, by omega, by omega⟩ | exact ⟨by decide, by omega, by omega⟩ | exact ⟨by decide, by omega⟩, by omega, by omega, X + 32, X + 2, rfl, by rw [oE_o (by omega), gup_0], rfl, g6, (show X + 1 ≠ X + 32 by omega), (show X + 1 ≠ X + 32 + 1 by omega), fun W j0 j1 hfr => ?_⟩
    have t0 : W (X + 31) = some (.inl (4, 4, .inr (.inr (.inr (.inr fun _ => none))))) := by rw [hfr _ (by omega) (by omega), oE_o (by omega), gup_o (by omega), gup_0]
    have hs : W X = some (.inr (11, [.ref (X + 1), .ref (X + 16), .ref (X + 31), .null, .null, .null, .null, .null, .null, .null, .int (nI 0), .int (nI 0), .int (nI 0)])) := by rw [hfr X (by omega) (by omega), oE_0]
    have hk : ∀ x, x ≠ X → (x < X + 31 ∨ X + 34 ≤ x) → W x = D2 x := fun x h0 h1 => by rw [hfr x (by omega) (by omega), oE_o h0, gup_o (by omega), gup_o (by omega)]
    clear hfr
    obtain ⟨D3, rfl⟩ : ∃ E, W = oE X 11 [.ref (X + 1), .ref (X + 16), .ref (X + 31), .null, .null, .null, .null, .null, .null, .null, .int (nI 0), .int (nI 0), .int (nI 0)] E := ⟨W, oE_of hs⟩
    clear hs
    have hk : ∀ x, x ≠ X → (x < X + 31 ∨ X + 34 ≤ x) → D3 x = D2 x := fun x h0 h1 => by rw [← hk x h0 h1, oE_o h0]
    rw [oE_o (by omega)] at t0
    rw [oE_o (by omega)] at j0
    rw [oE_o (by omega)] at j1
    have m1 : StM D3 (X + 1) (vI 13) := m1.k fun j hj => by rw [Nat.add_assoc]; exact hk _ (by omega) (by omega)
    have m2 : StM D3 (X + 16) (vI 13) := m2.k fun j hj => by rw [Nat.add_assoc]; exact hk _ (by omega) (by omega)
    have hf : ∀ x, x < X ∨ X + 56 ≤ x → D3 x = D x := fun x hx => (hk x (by omega) (by omega)).trans (hf x hx)
    clear hk
    simp only [Nat.add_assoc, s_put, s_psh, s_ald, s_get, s_new, s_newi, s_newq, s_dup, s_al, s_ci, s_oi, s_vret, gpad, gl, gst, gclr, gc2, gent, gcat, Value.category, List.drop_succ_cons, List.drop_zero, List.take_succ_cons, List.take_zero, List.reverse_cons, List.reverse_nil, List.nil_append, List.cons_append, List.append_nil, List.map_cons, List.map_nil, List.sum_cons, List.sum_nil, List.length_cons, List.length_nil, Option.toList, cond_true, cond_false, Nat.reduceBEq, Nat.reduceAdd, Nat.reduceLeDiff, beq_self_eq_true, true_and, and_true, BEq.rfl, Bool.false_eq_true, if_true, if_false, gfree, oE_f, oE_s, oE_u, List.set_cons_zero, List.set_cons_succ, List.getElem?_cons_zero, List.getElem?_cons_succ, gfit_ob, gfit_r, gfit_i, sp_X2_init]
    refine ⟨by omega, X + 34, rfl, by rw [oE_o (by omega), gup_0], rfl, fun W p0 hfr => ?_⟩
    have hs : W X = some (.inr (11, [.ref (X + 1), .ref (X + 16), .ref (X + 31), .ref (X + 32), .null, .null, .null, .null, .null, .null, .int (nI 0), .int (nI 0), .int (nI 0)])) := by rw [hfr X (by omega), oE_0]
    have hk : ∀ x, x ≠ X → (x < X + 34 ∨ X + 35 ≤ x) → W x = D3 x := fun x h0 h1 => by rw [hfr x (by omega), oE_o h0, gup_o (by omega)]
    clear hfr
    obtain ⟨D4, rfl⟩ : ∃ E, W = oE X 11 [.ref (X + 1), .ref (X + 16), .ref (X + 31), .ref (X + 32), .null, .null, .null, .null, .null, .null, .int (nI 0), .int (nI 0), .int (nI 0)] E := ⟨W, oE_of hs⟩
    clear hs
    have hk : ∀ x, x ≠ X → (x < X + 34 ∨ X + 35 ≤ x) → D4 x = D3 x := fun x h0 h1 => by rw [← hk x h0 h1, oE_o h0]
    rw [oE_o (by omega)] at p0
    have m1 : StM D4 (X + 1) (vI 13) := m1.k fun j hj => by rw [Nat.add_assoc]; exact hk _ (by omega) (by omega)
    have m2 : StM D4 (X + 16) (vI 13) := m2.k fun j hj => by rw [Nat.add_assoc]; exact hk _ (by omega) (by omega)
    rw [← hk _ (by omega) (by omega)] at t0
    rw [← hk _ (by omega) (by omega)] at j0
    rw [← hk _ (by omega) (by omega)] at j1
    have hf : ∀ x, x < X ∨ X + 56 ≤ x → D4 x = D x := fun x hx => (hk x (by omega) (by omega)).trans (hf x hx)
    clear hk
    simp only [Nat.add_assoc, s_put, s_psh, s_ald, s_get, s_new, s_newi, s_newq, s_dup, s_al, s_ci, s_oi, s_vret, gpad, gl, gst, gclr, gc2, gent, gcat, Value.category, List.drop_succ_cons, List.drop_zero, List.take_succ_cons, List.take_zero, List.reverse_cons, List.reverse_nil, List.nil_append, List.cons_append, List.append_nil, List.map_cons, List.map_nil, List.sum_cons, List.sum_nil, List.length_cons, List.length_nil, Option.toList, cond_true, cond_false, Nat.reduceBEq, Nat.reduceAdd, Nat.reduceLeDiff, beq_self_eq_true, true_and, and_true, BEq.rfl, Bool.false_eq_true, if_true, if_false, gfree, oE_f, oE_s, oE_u, List.set_cons_zero, List.set_cons_succ, List.getElem?_cons_zero, List.getElem?_cons_succ, gfit_ob, gfit_r, gfit_i, sp_X1_init]
    refine ⟨by omega, by omega, X + 35, rfl, by rw [oE_o (by omega), gup_0]; rfl, rfl, fun W d0 d1 hfr => ?_⟩
    have hs : W X = some (.inr (11, [.ref (X + 1), .ref (X + 16), .ref (X + 31), .ref (X + 32), .ref (X + 34), .null, .null, .null, .null, .null, .int (nI 0), .int (nI 0), .int (nI 0)])) := by rw [hfr X (by omega) (by omega), oE_0]
    have hk : ∀ x, x ≠ X → (x < X + 35 ∨ X + 37 ≤ x) → W x = D4 x := fun x h0 h1 => by rw [hfr x (by omega) (by omega), oE_o h0, gup_o (by omega)]
    clear hfr
    obtain ⟨D5, rfl⟩ : ∃ E, W = oE X 11 [.ref (X + 1), .ref (X + 16), .ref (X + 31), .ref (X + 32), .ref (X + 34), .null, .null, .null, .null, .null, .int (nI 0), .int (nI 0), .int (nI 0)] E := ⟨W, oE_of hs⟩
    clear hs
    have hk : ∀ x, x ≠ X → (x < X + 35 ∨ X + 37 ≤ x) → D5 x = D4 x := fun x h0 h1 => by rw [← hk x h0 h1, oE_o h0]
    rw [oE_o (by omega)] at d0
    rw [oE_o (by omega)] at d1
    have m1 : StM D5 (X + 1) (vI 13) := m1.k fun j hj => by rw [Nat.add_assoc]; exact hk _ (by omega) (by omega)
    have m2 : StM D5 (X + 16) (vI 13) := m2.k fun j hj => by rw [Nat.add_assoc]; exact hk _ (by omega) (by omega)
    rw [← hk _ (by omega) (by omega)] at t0
    rw [← hk _ (by omega) (by omega)] at j0
    rw [← hk _ (by omega) (by omega)] at j1
    rw [← hk _ (by omega) (by omega)] at p0
    have hf : ∀ x, x < X ∨ X + 56 ≤ x → D5 x = D x := fun x hx => (hk x (by omega) (by omega)).trans (hf x hx)
    clear hk
    simp only [Nat.add_assoc, s_put, s_psh, s_ald, s_get, s_new, s_newi, s_newq, s_dup, s_al, s_ci, s_oi, s_vret, gpad, gl, gst, gclr, gc2, gent, gcat, Value.category, List.drop_succ_cons, List.drop_zero, List.take_succ_cons, List.take_zero, List.reverse_cons, List.reverse_nil, List.nil_append, List.cons_append, List.append_nil, List.map_cons, List.map_nil, List.sum_cons, List.sum_nil, List.length_cons, List.length_nil, Option.toList, cond_true, cond_false, Nat.reduceBEq, Nat.reduceAdd, Nat.reduceLeDiff, beq_self_eq_true, true_and, and_true, BEq.rfl, Bool.false_eq_true, if_true, if_false, gfree, oE_f, oE_s, oE_u, List.set_cons_zero, List.set_cons_succ, List.getElem?_cons_zero, List.getElem?_cons_succ, gfit_ob, gfit_r, gfit_i, sp_X4_init]
    refine ⟨by omega, by omega, X + 37, rfl, by rw [oE_o (by omega), gup_0]; rfl, rfl, fun W r0 r1 r2 r3 r4 hfr => ?_⟩
    have hs : W X = some (.inr (11, [.ref (X + 1), .ref (X + 16), .ref (X + 31), .ref (X + 32), .ref (X + 34), .ref (X + 35), .null, .null, .null, .null, .int (nI 0), .int (nI 0), .int (nI 0)])) := by rw [hfr X (by omega) (by omega) (by omega) (by omega) (by omega), oE_0]
    have hk : ∀ x, x ≠ X → (x < X + 37 ∨ X + 42 ≤ x) → W x = D5 x := fun x h0 h1 => by rw [hfr x (by omega) (by omega) (by omega) (by omega) (by omega), oE_o h0, gup_o (by omega)]
    clear hfr
    obtain ⟨D6, rfl⟩ : ∃ E, W = oE X 11 [.ref (X + 1), .ref (X + 16), .ref (X + 31), .ref (X + 32), .ref (X + 34), .ref (X + 35), .null, .null, .null, .null, .int (nI 0), .int (nI 0), .int (nI 0)] E := ⟨W, oE_of hs⟩
    clear hs
    have hk : ∀ x, x ≠ X → (x < X + 37 ∨ X + 42 ≤ x) → D6 x = D5 x := fun x h0 h1 => by rw [← hk x h0 h1, oE_o h0]
    rw [oE_o (by omega)] at r0
    rw [oE_o (by omega)] at r1
    rw [oE_o (by omega)] at r2
    rw [oE_o (by omega)] at r3
    rw [oE_o (by omega)] at r4
    have m1 : StM D6 (X + 1) (vI 13) := m1.k fun j hj => by rw [Nat.add_assoc]; exact hk _ (by omega) (by omega)
    have m2 : StM D6 (X + 16) (vI 13) := m2.k fun j hj => by rw [Nat.add_assoc]; exact hk _ (by omega) (by omega)
    rw [← hk _ (by omega) (by omega)] at t0
    rw [← hk _ (by omega) (by omega)] at j0
    rw [← hk _ (by omega) (by omega)] at j1
    rw [← hk _ (by omega) (by omega)] at p0
    rw [← hk _ (by omega) (by omega)] at d0
    rw [← hk _ (by omega) (by omega)] at d1
    have hf : ∀ x, x < X ∨ X + 56 ≤ x → D6 x = D x := fun x hx => (hk x (by omega) (by omega)).trans (hf x hx)
    clear hk
    simp only [Nat.add_assoc, s_put, s_psh, s_ald, s_get, s_new, s_newi, s_newq, s_dup, s_al, s_ci, s_oi, s_vret, gpad, gl, gst, gclr, gc2, gent, gcat, Value.category, List.drop_succ_cons, List.drop_zero, List.take_succ_cons, List.take_zero, List.reverse_cons, List.reverse_nil, List.nil_append, List.cons_append, List.append_nil, List.map_cons, List.map_nil, List.sum_cons, List.sum_nil, List.length_cons, List.length_nil, Option.toList, cond_true, cond_false, Nat.reduceBEq, Nat.reduceAdd, Nat.reduceLeDiff, beq_self_eq_true, true_and, and_true, BEq.rfl, Bool.false_eq_true, if_true, if_false, gfree, oE_f, oE_s, oE_u, List.set_cons_zero, List.set_cons_succ, List.getElem?_cons_zero, List.getElem?_cons_succ, gfit_ob, gfit_r, gfit_i, sp_X3_init]
    refine ⟨by omega, by omega, X + 42, rfl, by rw [oE_o (by omega), gup_0]; rfl, rfl, fun W e0 e1 e2 e3 e4 e5 e6 e7 hfr => ?_⟩
    have hs : W X = some (.inr (11, [.ref (X + 1), .ref (X + 16), .ref (X + 31), .ref (X + 32), .ref (X + 34), .ref (X + 35), .ref (X + 37), .null, .null, .null, .int (nI 0), .int (nI 0), .int (nI 0)])) := by rw [hfr X (by omega), oE_0]
    have hk : ∀ x, x ≠ X → (x < X + 42 ∨ X + 50 ≤ x) → W x = D6 x := fun x h0 h1 => by rw [hfr x (by omega), oE_o h0, gup_o (by omega)]
    clear hfr
    obtain ⟨D7, rfl⟩ : ∃ E, W = oE X 11 [.ref (X + 1), .ref (X + 16), .ref (X + 31), .ref (X + 32), .ref (X + 34), .ref (X + 35), .ref (X + 37), .null, .null, .null, .int (nI 0), .int (nI 0), .int (nI 0)] E := ⟨W, oE_of hs⟩
    clear hs
    have hk : ∀ x, x ≠ X → (x < X + 42 ∨ X + 50 ≤ x) → D7 x = D6 x := fun x h0 h1 => by rw [← hk x h0 h1, oE_o h0]
    rw [oE_o (by omega)] at e0
    rw [oE_o (by omega)] at e1
    rw [oE_o (by omega)] at e2
    rw [oE_o (by omega)] at e3
    rw [oE_o (by omega)] at e4
    rw [oE_o (by omega)] at e5
    rw [oE_o (by omega)] at e6
    rw [oE_o (by omega)] at e7
    have m1 : StM D7 (X + 1) (vI 13) := m1.k fun j hj => by rw [Nat.add_assoc]; exact hk _ (by omega) (by omega)
    have m2 : StM D7 (X + 16) (vI 13) := m2.k fun j hj => by rw [Nat.add_assoc]; exact hk _ (by omega) (by omega)
    rw [← hk _ (by omega) (by omega)] at t0
    rw [← hk _ (by omega) (by omega)] at j0
    rw [← hk _ (by omega) (by omega)] at j1
    rw [← hk _ (by omega) (by omega)] at p0
    rw [← hk _ (by omega) (by omega)] at d0
    rw [← hk _ (by omega) (by omega)] at d1
    rw [← hk _ (by omega) (by omega)] at r0
    rw [← hk _ (by omega) (by omega)] at r1
    rw [← hk _ (by omega) (by omega)] at r2
    rw [← hk _ (by omega) (by omega)] at r3
    rw [← hk _ (by omega) (by omega)] at r4
    have hf : ∀ x, x < X ∨ X + 56 ≤ x → D7 x = D x := fun x hx => (hk x (by omega) (by omega)).trans (hf x hx)
    clear hk
    simp only [Nat.add_assoc, s_put, s_psh, s_ald, s_get, s_new, s_newi, s_newq, s_dup, s_al, s_ci, s_oi, s_vret, gpad, gl, gst, gclr, gc2, gent, gcat, Value.category, List.drop_succ_cons, List.drop_zero, List.take_succ_cons, List.take_zero, List.reverse_cons, List.reverse_nil, List.nil_append, List.cons_append, List.append_nil, List.map_cons, List.map_nil, List.sum_cons, List.sum_nil, List.length_cons, List.length_nil, Option.toList, cond_true, cond_false, Nat.reduceBEq, Nat.reduceAdd, Nat.reduceLeDiff, beq_self_eq_true, true_and, and_true, BEq.rfl, Bool.false_eq_true, if_true, if_false, gfree, oE_f, oE_s, oE_u, List.set_cons_zero, List.set_cons_succ, List.getElem?_cons_zero, List.getElem?_cons_succ, gfit_ob, gfit_r, gfit_i, sp_X5_init]
    refine ⟨by omega, by omega, by rw [oE_o (by omega), gup_0]; rfl, ?_⟩
    generalize hW : SqE (X + 50) sqσ0 sqA0 (oE X 11 [.ref (X + 1), .ref (X + 16), .ref (X + 31), .ref (X + 32), .ref (X + 34), .ref (X + 35), .ref (X + 37), .ref (X + 42), .null, .null, .int (nI 0), .int (nI 0), .int (nI 0)] (gup D7 (X + 50) (.inr (5, [.null, .null, .null, .null, .int (nI 0), .int (nI 0), .int (nI 0)])))) = W
    have a0 : sqAt W (X + 50) (sqσ0, sqA0) := by rw [← hW]; exact sqAt_s
    have hs : W X = some (.inr (11, [.ref (X + 1), .ref (X + 16), .ref (X + 31), .ref (X + 32), .ref (X + 34), .ref (X + 35), .ref (X + 37), .ref (X + 42), .null, .null, .int (nI 0), .int (nI 0), .int (nI 0)])) := by rw [← hW, Sq_out (by omega), oE_0]
    have hk : ∀ x, x ≠ X → (x < X + 50 ∨ X + 55 ≤ x) → W x = D7 x := fun x h0 h1 => by rw [← hW, Sq_out (by omega), oE_o h0, gup_o (by omega)]
    clear hW
    obtain ⟨D8, rfl⟩ : ∃ E, W = oE X 11 [.ref (X + 1), .ref (X + 16), .ref (X + 31), .ref (X + 32), .ref (X + 34), .ref (X + 35), .ref (X + 37), .ref (X + 42), .null, .null, .int (nI 0), .int (nI 0), .int (nI 0)] E := ⟨W, oE_of hs⟩
    clear hs
    have hk : ∀ x, x ≠ X → (x < X + 50 ∨ X + 55 ≤ x) → D8 x = D7 x := fun x h0 h1 => by rw [← hk x h0 h1, oE_o h0]
    have a0 : sqAt D8 (X + 50) (sqσ0, sqA0) := sqAt_k a0 fun j hj => (oE_o (by omega)).symm
    have m1 : StM D8 (X + 1) (vI 13) := m1.k fun j hj => by rw [Nat.add_assoc]; exact hk _ (by omega) (by omega)
    have m2 : StM D8 (X + 16) (vI 13) := m2.k fun j hj => by rw [Nat.add_assoc]; exact hk _ (by omega) (by omega)
    rw [← hk _ (by omega) (by omega)] at t0
    rw [← hk _ (by omega) (by omega)] at j0
    rw [← hk _ (by omega) (by omega)] at j1
    rw [← hk _ (by omega) (by omega)] at p0
    rw [← hk _ (by omega) (by omega)] at d0
    rw [← hk _ (by omega) (by omega)] at d1
    rw [← hk _ (by omega) (by omega)] at r0
    rw [← hk _ (by omega) (by omega)] at r1
    rw [← hk _ (by omega) (by omega)] at r2
    rw [← hk _ (by omega) (by omega)] at r3
    rw [← hk _ (by omega) (by omega)] at r4
    rw [← hk _ (by omega) (by omega)] at e0
    rw [← hk _ (by omega) (by omega)] at e1
    rw [← hk _ (by omega) (by omega)] at e2
    rw [← hk _ (by omega) (by omega)] at e3
    rw [← hk _ (by omega) (by omega)] at e4
    rw [← hk _ (by omega) (by omega)] at e5
    rw [← hk _ (by omega) (by omega)] at e6
    rw [← hk _ (by omega) (by omega)] at e7
    have hf : ∀ x, x < X ∨ X + 56 ≤ x → D8 x = D x := fun x hx => (hk x (by omega) (by omega)).trans (hf x hx)
    clear hk
    simp only [Nat.add_assoc, s_put, s_psh, s_ald, s_get, s_new, s_newi, s_newq, s_dup, s_al, s_ci, s_oi, s_vret, gpad, gl, gst, gclr, gc2, gent, gcat, Value.category, List.drop_succ_cons, List.drop_zero, List.take_succ_cons, List.take_zero, List.reverse_cons, List.reverse_nil, List.nil_append, List.cons_append, List.append_nil, List.map_cons, List.map_nil, List.sum_cons, List.sum_nil, List.length_cons, List.length_nil, Option.toList, cond_true, cond_false, Nat.reduceBEq, Nat.reduceAdd, Nat.reduceLeDiff, beq_self_eq_true, true_and, and_true, BEq.rfl, Bool.false_eq_true, if_true, if_false, gfree, oE_f, oE_s, oE_u, List.set_cons_zero, List.set_cons_succ, List.getElem?_cons_zero, List.getElem?_cons_succ, gfit_ob, gfit_r, gfit_i]
    try simp (disch := first | omega | decide) only [true_and, and_true, lit, nI_add, nar_i, nar_0, nar_1, nar_b, fit_i, fit_l, pk_rem, nI_leI, nI_ltI, nI_eq, vin_iff, nI_clamp, nI_m1, gfree, gfit_i, oE_f, oE_s, oE_u, Nat.add_assoc, Nat.reduceAdd, Nat.reduceLeDiff, List.getElem?_cons_zero, List.getElem?_cons_succ, List.set_cons_zero, List.set_cons_succ]
    refine ⟨by first | omega | exact ⟨by decide, by decide, by omega, by omega⟩ | exact ⟨by decide, by omega, by omega, by omega⟩ | exact ⟨by decide, by omega, by omega⟩ | exact ⟨by decide, by omega⟩, ?_⟩
    refine hQ _ (fun k hk => ?_) fun x hx => ?_
    · have hW : ∀ x, x ≠ X → x ≠ X + 55 → oE X 11 [.ref (X + 1), .ref (X + 16), .ref (X + 31), .ref (X + 32), .ref (X + 34), .ref (X + 35), .ref (X + 37), .ref (X + 42), .ref (X + 50), .ref (X + 55), .int (nI 0), .int (-nI 1), .int (-nI 1)] (gup D8 (X + 55) (.inl (0, 300, .inl fun _ => nI 0))) x = D8 x := fun x h0 h1 => by rw [oE_o h0, gup_o h1]
      obtain ⟨a1, a2, a3, a4, a5, a6, a7, a8, a9, a10, a11⟩ := m1
      obtain ⟨b1, b2, b3, b4, b5, b6, b7, b8, b9, b10, b11⟩ := m2
      match k, hk with
      | 0, _ => exact oE_0
      | 1, _ => exact (hW _ (by omega) (by omega)).trans a1
      | 2, _ => exact (hW _ (by omega) (by omega)).trans a2.1
      | 3, _ => exact (hW _ (by omega) (by omega)).trans a2.2.1
      | 4, _ => exact (hW _ (by omega) (by omega)).trans a2.2.2.1
      | 5, _ => exact (hW _ (by omega) (by omega)).trans a2.2.2.2.1
      | 6, _ => exact (hW _ (by omega) (by omega)).trans a2.2.2.2.2
      | 7, _ => exact (hW _ (by omega) (by omega)).trans a3
      | 8, _ => exact (hW _ (by omega) (by omega)).trans a4
      | 9, _ => exact (hW _ (by omega) (by omega)).trans a5
      | 10, _ => exact (hW _ (by omega) (by omega)).trans a6
      | 11, _ => exact (hW _ (by omega) (by omega)).trans a7
      | 12, _ => exact (hW _ (by omega) (by omega)).trans a8
      | 13, _ => exact (hW _ (by omega) (by omega)).trans a9
      | 14, _ => exact (hW _ (by omega) (by omega)).trans a10
      | 15, _ => exact (hW _ (by omega) (by omega)).trans a11
      | 16, _ => exact (hW _ (by omega) (by omega)).trans b1
      | 17, _ => exact (hW _ (by omega) (by omega)).trans b2.1
      | 18, _ => exact (hW _ (by omega) (by omega)).trans b2.2.1
      | 19, _ => exact (hW _ (by omega) (by omega)).trans b2.2.2.1
      | 20, _ => exact (hW _ (by omega) (by omega)).trans b2.2.2.2.1
      | 21, _ => exact (hW _ (by omega) (by omega)).trans b2.2.2.2.2
      | 22, _ => exact (hW _ (by omega) (by omega)).trans b3
      | 23, _ => exact (hW _ (by omega) (by omega)).trans b4
      | 24, _ => exact (hW _ (by omega) (by omega)).trans b5
      | 25, _ => exact (hW _ (by omega) (by omega)).trans b6
      | 26, _ => exact (hW _ (by omega) (by omega)).trans b7
      | 27, _ => exact (hW _ (by omega) (by omega)).trans b8
      | 28, _ => exact (hW _ (by omega) (by omega)).trans b9
      | 29, _ => exact (hW _ (by omega) (by omega)).trans b10
      | 30, _ => exact (hW _ (by omega) (by omega)).trans b11
      | 31, _ => exact (hW _ (by omega) (by omega)).trans t0
      | 32, _ => exact (hW _ (by omega) (by omega)).trans j0
      | 33, _ => exact (hW _ (by omega) (by omega)).trans j1
      | 34, _ => exact (hW _ (by omega) (by omega)).trans p0
      | 35, _ => exact (hW _ (by omega) (by omega)).trans d0
      | 36, _ => exact (hW _ (by omega) (by omega)).trans d1
      | 37, _ => exact (hW _ (by omega) (by omega)).trans r0
      | 38, _ => exact (hW _ (by omega) (by omega)).trans r1
      | 39, _ => exact (hW _ (by omega) (by omega)).trans r2
      | 40, _ => exact (hW _ (by omega) (by omega)).trans r3
      | 41, _ => exact (hW _ (by omega) (by omega)).trans r4
      | 42, _ => exact (hW _ (by omega) (by omega)).trans e0
      | 43, _ => exact (hW _ (by omega) (by omega)).trans e1
      | 44, _ => exact (hW _ (by omega) (by omega)).trans e2
      | 45, _ => exact (hW _ (by omega) (by omega)).trans e3
      | 46, _ => exact (hW _ (by omega) (by omega)).trans e4
      | 47, _ => exact (hW _ (by omega) (by omega)).trans e5
      | 48, _ => exact (hW _ (by omega) (by omega)).trans e6
      | 49, _ => exact (hW _ (by omega) (by omega)).trans e7
      | 50, _ => exact (hW _ (by omega) (by omega)).trans a0.1
      | 51, _ => exact (hW _ (by omega) (by omega)).trans a0.2.1
      | 52, _ => exact (hW _ (by omega) (by omega)).trans a0.2.2.1
      | 53, _ => exact (hW _ (by omega) (by omega)).trans a0.2.2.2.1
      | 54, _ => exact (hW _ (by omega) (by omega)).trans a0.2.2.2.2
      | 55, _ => exact (oE_o (by omega)).trans gup_0
      | k + 56, h => exact absurd h (by omega)
    · rw [oE_o (by omega), gup_o (by omega), oE_o (by omega)]
      exact hf x hx
  · exact h.elim
