/-! one turn of the law -/
abbrev lvL (bs X c : Nat) : gLv := [some (.ref bs), some (.ref X), some (.ref (X + 56)), some (.int (nI c))]
theorem LJ.cx {X n0 z0 k n z : Nat} {C : gC} (h : LJ X n0 z0 k C n z) : ∃ fs, C X = some (.inr (11, fs)) := by
  obtain ⟨g, σ, w, A, L, hM, ⟨σ1, ρ, A1, P, T, S, hX, _⟩, _⟩ := h
  exact ⟨_, hX.1 0 (by decide)⟩
section TRN
variable {bs X c L n0 z0 k n z nm zm mc ms : Nat} {xs : Nat → Int32} {sp1 sp2 : gSp} {κ κ0 : gKo} {C : gC}
set_option maxRecDepth 20000 in
theorem lw_0 (hP : PRi X n0 z0 sp1 sp2 []) (hJ : LJ X n0 z0 k C n z) (hL : c + 6 ≤ L) (hL2 : L ≤ 3072) (hκ : ∀ C2 n2 z2, LJ X n0 z0 (k + 1) C2 n2 z2 → κ (lvL bs X c) [] C2 n2 z2) : (s_ald 1 (s_cv 11 0 sp1 (s_ald 2 (s_cv 12 0 sp2 (s_if2 (fun x y => x = y) κ κ0))))) (lvL bs X c) [] C n z := by
  obtain ⟨fs, hX⟩ := hJ.cx
  simp only [lvL, s_psh, s_ild, s_ald, s_ib, s_xld, s_cv, s_al, gpad, gl, gst, gclr, gc2, gent, gcat, Value.category, List.drop_succ_cons, List.drop_zero, List.take_succ_cons, List.take_zero, List.reverse_cons, List.reverse_nil, List.nil_append, List.cons_append, List.append_nil, List.map_cons, List.map_nil, List.sum_cons, List.sum_nil, List.length_cons, List.length_nil, Option.toList, cond_true, cond_false, Nat.reduceBEq, Nat.reduceAdd, Nat.reduceLeDiff, beq_self_eq_true, true_and, and_true, BEq.rfl, Bool.false_eq_true, if_true, if_false, lit, nI_add, true_and, hX]
  refine hP k C n z _ (fun x => fun r C' n' z' => s_if2 (fun x y => x = y) κ κ0 (lvL bs X c) (r.toList ++ [.int x]) C' n' z') hJ (fun x C1 n1 z1 hR h => ?_) (fun x C2 n2 z2 h => if2i (fun _ => hκ _ _ _ h) (fun e => absurd rfl e))
  obtain ⟨fs', hR⟩ := hR
  simp only [s_psh, s_ild, s_ald, s_ib, s_xld, s_cv, s_al, gpad, gl, gst, gclr, gc2, gent, gcat, Value.category, List.drop_succ_cons, List.drop_zero, List.take_succ_cons, List.take_zero, List.reverse_cons, List.reverse_nil, List.nil_append, List.cons_append, List.append_nil, List.map_cons, List.map_nil, List.sum_cons, List.sum_nil, List.length_cons, List.length_nil, Option.toList, cond_true, cond_false, Nat.reduceBEq, Nat.reduceAdd, Nat.reduceLeDiff, beq_self_eq_true, true_and, and_true, BEq.rfl, Bool.false_eq_true, if_true, if_false, lit, nI_add, true_and, hR]
  exact h
set_option maxRecDepth 20000 in
theorem lw_1 (hP : PRi X n0 z0 sp1 sp2 [.int (xs (c + 1))]) (hJ : LJ X n0 z0 k C n z) (hL : c + 6 ≤ L) (hL2 : L ≤ 3072) (hκ : ∀ C2 n2 z2, LJ X n0 z0 (k + 1) C2 n2 z2 → κ (lvL bs X c) [] C2 n2 z2) : (s_ald 1 (s_ald 0 (s_ild 3 (s_psh (.int 1) (s_ib (fun x y => x + y) (s_xld bs L xs (s_cv 11 1 sp1 (s_ald 2 (s_ald 0 (s_ild 3 (s_psh (.int 1) (s_ib (fun x y => x + y) (s_xld bs L xs (s_cv 12 1 sp2 (s_if2 (fun x y => x = y) κ κ0))))))))))))))) (lvL bs X c) [] C n z := by
  obtain ⟨fs, hX⟩ := hJ.cx
  have c1 : (nI (c + 1)).toNatClampNeg = c + 1 := nI_clamp (by omega)
  have i1 : vp_in (nI (c + 1)) L := (vin_iff (by omega)).mpr (by omega)
  simp only [lvL, s_psh, s_ild, s_ald, s_ib, s_xld, s_cv, s_al, gpad, gl, gst, gclr, gc2, gent, gcat, Value.category, List.drop_succ_cons, List.drop_zero, List.take_succ_cons, List.take_zero, List.reverse_cons, List.reverse_nil, List.nil_append, List.cons_append, List.append_nil, List.map_cons, List.map_nil, List.sum_cons, List.sum_nil, List.length_cons, List.length_nil, Option.toList, cond_true, cond_false, Nat.reduceBEq, Nat.reduceAdd, Nat.reduceLeDiff, beq_self_eq_true, true_and, and_true, BEq.rfl, Bool.false_eq_true, if_true, if_false, lit, nI_add, true_and, hX, c1, i1]
  refine hP k C n z _ (fun x => fun r C' n' z' => s_if2 (fun x y => x = y) κ κ0 (lvL bs X c) (r.toList ++ [.int x]) C' n' z') hJ (fun x C1 n1 z1 hR h => ?_) (fun x C2 n2 z2 h => if2i (fun _ => hκ _ _ _ h) (fun e => absurd rfl e))
  obtain ⟨fs', hR⟩ := hR
  simp only [s_psh, s_ild, s_ald, s_ib, s_xld, s_cv, s_al, gpad, gl, gst, gclr, gc2, gent, gcat, Value.category, List.drop_succ_cons, List.drop_zero, List.take_succ_cons, List.take_zero, List.reverse_cons, List.reverse_nil, List.nil_append, List.cons_append, List.append_nil, List.map_cons, List.map_nil, List.sum_cons, List.sum_nil, List.length_cons, List.length_nil, Option.toList, cond_true, cond_false, Nat.reduceBEq, Nat.reduceAdd, Nat.reduceLeDiff, beq_self_eq_true, true_and, and_true, BEq.rfl, Bool.false_eq_true, if_true, if_false, lit, nI_add, true_and, hR, c1, i1]
  exact h
set_option maxRecDepth 20000 in
theorem lw_2 (hP : PRi X n0 z0 sp1 sp2 [.int (xs (c + 1)), .int (xs (c + 2))]) (hJ : LJ X n0 z0 k C n z) (hL : c + 6 ≤ L) (hL2 : L ≤ 3072) (hκ : ∀ C2 n2 z2, LJ X n0 z0 (k + 1) C2 n2 z2 → κ (lvL bs X c) [] C2 n2 z2) : (s_ald 1 (s_ald 0 (s_ild 3 (s_psh (.int 1) (s_ib (fun x y => x + y) (s_xld bs L xs (s_ald 0 (s_ild 3 (s_psh (.int 2) (s_ib (fun x y => x + y) (s_xld bs L xs (s_cv 11 2 sp1 (s_ald 2 (s_ald 0 (s_ild 3 (s_psh (.int 1) (s_ib (fun x y => x + y) (s_xld bs L xs (s_ald 0 (s_ild 3 (s_psh (.int 2) (s_ib (fun x y => x + y) (s_xld bs L xs (s_cv 12 2 sp2 (s_if2 (fun x y => x = y) κ κ0))))))))))))))))))))))))) (lvL bs X c) [] C n z := by
  obtain ⟨fs, hX⟩ := hJ.cx
  have c1 : (nI (c + 1)).toNatClampNeg = c + 1 := nI_clamp (by omega)
  have i1 : vp_in (nI (c + 1)) L := (vin_iff (by omega)).mpr (by omega)
  have c2 : (nI (c + 2)).toNatClampNeg = c + 2 := nI_clamp (by omega)
  have i2 : vp_in (nI (c + 2)) L := (vin_iff (by omega)).mpr (by omega)
  simp only [lvL, s_psh, s_ild, s_ald, s_ib, s_xld, s_cv, s_al, gpad, gl, gst, gclr, gc2, gent, gcat, Value.category, List.drop_succ_cons, List.drop_zero, List.take_succ_cons, List.take_zero, List.reverse_cons, List.reverse_nil, List.nil_append, List.cons_append, List.append_nil, List.map_cons, List.map_nil, List.sum_cons, List.sum_nil, List.length_cons, List.length_nil, Option.toList, cond_true, cond_false, Nat.reduceBEq, Nat.reduceAdd, Nat.reduceLeDiff, beq_self_eq_true, true_and, and_true, BEq.rfl, Bool.false_eq_true, if_true, if_false, lit, nI_add, true_and, hX, c1, i1, c2, i2]
  refine hP k C n z _ (fun x => fun r C' n' z' => s_if2 (fun x y => x = y) κ κ0 (lvL bs X c) (r.toList ++ [.int x]) C' n' z') hJ (fun x C1 n1 z1 hR h => ?_) (fun x C2 n2 z2 h => if2i (fun _ => hκ _ _ _ h) (fun e => absurd rfl e))
  obtain ⟨fs', hR⟩ := hR
  simp only [s_psh, s_ild, s_ald, s_ib, s_xld, s_cv, s_al, gpad, gl, gst, gclr, gc2, gent, gcat, Value.category, List.drop_succ_cons, List.drop_zero, List.take_succ_cons, List.take_zero, List.reverse_cons, List.reverse_nil, List.nil_append, List.cons_append, List.append_nil, List.map_cons, List.map_nil, List.sum_cons, List.sum_nil, List.length_cons, List.length_nil, Option.toList, cond_true, cond_false, Nat.reduceBEq, Nat.reduceAdd, Nat.reduceLeDiff, beq_self_eq_true, true_and, and_true, BEq.rfl, Bool.false_eq_true, if_true, if_false, lit, nI_add, true_and, hR, c1, i1, c2, i2]
  exact h
set_option maxRecDepth 20000 in
theorem lw_3 (hP : PRi X n0 z0 sp1 sp2 [.int (xs (c + 1)), .int (xs (c + 2)), .int (xs (c + 3))]) (hJ : LJ X n0 z0 k C n z) (hL : c + 6 ≤ L) (hL2 : L ≤ 3072) (hκ : ∀ C2 n2 z2, LJ X n0 z0 (k + 1) C2 n2 z2 → κ (lvL bs X c) [] C2 n2 z2) : (s_ald 1 (s_ald 0 (s_ild 3 (s_psh (.int 1) (s_ib (fun x y => x + y) (s_xld bs L xs (s_ald 0 (s_ild 3 (s_psh (.int 2) (s_ib (fun x y => x + y) (s_xld bs L xs (s_ald 0 (s_ild 3 (s_psh (.int 3) (s_ib (fun x y => x + y) (s_xld bs L xs (s_cv 11 3 sp1 (s_ald 2 (s_ald 0 (s_ild 3 (s_psh (.int 1) (s_ib (fun x y => x + y) (s_xld bs L xs (s_ald 0 (s_ild 3 (s_psh (.int 2) (s_ib (fun x y => x + y) (s_xld bs L xs (s_ald 0 (s_ild 3 (s_psh (.int 3) (s_ib (fun x y => x + y) (s_xld bs L xs (s_cv 12 3 sp2 (s_if2 (fun x y => x = y) κ κ0))))))))))))))))))))))))))))))))))) (lvL bs X c) [] C n z := by
  obtain ⟨fs, hX⟩ := hJ.cx
  have c1 : (nI (c + 1)).toNatClampNeg = c + 1 := nI_clamp (by omega)
  have i1 : vp_in (nI (c + 1)) L := (vin_iff (by omega)).mpr (by omega)
  have c2 : (nI (c + 2)).toNatClampNeg = c + 2 := nI_clamp (by omega)
  have i2 : vp_in (nI (c + 2)) L := (vin_iff (by omega)).mpr (by omega)
  have c3 : (nI (c + 3)).toNatClampNeg = c + 3 := nI_clamp (by omega)
  have i3 : vp_in (nI (c + 3)) L := (vin_iff (by omega)).mpr (by omega)
  simp only [lvL, s_psh, s_ild, s_ald, s_ib, s_xld, s_cv, s_al, gpad, gl, gst, gclr, gc2, gent, gcat, Value.category, List.drop_succ_cons, List.drop_zero, List.take_succ_cons, List.take_zero, List.reverse_cons, List.reverse_nil, List.nil_append, List.cons_append, List.append_nil, List.map_cons, List.map_nil, List.sum_cons, List.sum_nil, List.length_cons, List.length_nil, Option.toList, cond_true, cond_false, Nat.reduceBEq, Nat.reduceAdd, Nat.reduceLeDiff, beq_self_eq_true, true_and, and_true, BEq.rfl, Bool.false_eq_true, if_true, if_false, lit, nI_add, true_and, hX, c1, i1, c2, i2, c3, i3]
  refine hP k C n z _ (fun x => fun r C' n' z' => s_if2 (fun x y => x = y) κ κ0 (lvL bs X c) (r.toList ++ [.int x]) C' n' z') hJ (fun x C1 n1 z1 hR h => ?_) (fun x C2 n2 z2 h => if2i (fun _ => hκ _ _ _ h) (fun e => absurd rfl e))
  obtain ⟨fs', hR⟩ := hR
  simp only [s_psh, s_ild, s_ald, s_ib, s_xld, s_cv, s_al, gpad, gl, gst, gclr, gc2, gent, gcat, Value.category, List.drop_succ_cons, List.drop_zero, List.take_succ_cons, List.take_zero, List.reverse_cons, List.reverse_nil, List.nil_append, List.cons_append, List.append_nil, List.map_cons, List.map_nil, List.sum_cons, List.sum_nil, List.length_cons, List.length_nil, Option.toList, cond_true, cond_false, Nat.reduceBEq, Nat.reduceAdd, Nat.reduceLeDiff, beq_self_eq_true, true_and, and_true, BEq.rfl, Bool.false_eq_true, if_true, if_false, lit, nI_add, true_and, hR, c1, i1, c2, i2, c3, i3]
  exact h
set_option maxRecDepth 20000 in
theorem lw_4 (hP : PRi X n0 z0 sp1 sp2 [.int (xs (c + 1)), .int (xs (c + 2)), .int (xs (c + 3)), .int (xs (c + 4))]) (hJ : LJ X n0 z0 k C n z) (hL : c + 6 ≤ L) (hL2 : L ≤ 3072) (hκ : ∀ C2 n2 z2, LJ X n0 z0 (k + 1) C2 n2 z2 → κ (lvL bs X c) [] C2 n2 z2) : (s_ald 1 (s_ald 0 (s_ild 3 (s_psh (.int 1) (s_ib (fun x y => x + y) (s_xld bs L xs (s_ald 0 (s_ild 3 (s_psh (.int 2) (s_ib (fun x y => x + y) (s_xld bs L xs (s_ald 0 (s_ild 3 (s_psh (.int 3) (s_ib (fun x y => x + y) (s_xld bs L xs (s_ald 0 (s_ild 3 (s_psh (.int 4) (s_ib (fun x y => x + y) (s_xld bs L xs (s_cv 11 4 sp1 (s_ald 2 (s_ald 0 (s_ild 3 (s_psh (.int 1) (s_ib (fun x y => x + y) (s_xld bs L xs (s_ald 0 (s_ild 3 (s_psh (.int 2) (s_ib (fun x y => x + y) (s_xld bs L xs (s_ald 0 (s_ild 3 (s_psh (.int 3) (s_ib (fun x y => x + y) (s_xld bs L xs (s_ald 0 (s_ild 3 (s_psh (.int 4) (s_ib (fun x y => x + y) (s_xld bs L xs (s_cv 12 4 sp2 (s_if2 (fun x y => x = y) κ κ0))))))))))))))))))))))))))))))))))))))))))))) (lvL bs X c) [] C n z := by
  obtain ⟨fs, hX⟩ := hJ.cx
  have c1 : (nI (c + 1)).toNatClampNeg = c + 1 := nI_clamp (by omega)
  have i1 : vp_in (nI (c + 1)) L := (vin_iff (by omega)).mpr (by omega)
  have c2 : (nI (c + 2)).toNatClampNeg = c + 2 := nI_clamp (by omega)
  have i2 : vp_in (nI (c + 2)) L := (vin_iff (by omega)).mpr (by omega)
  have c3 : (nI (c + 3)).toNatClampNeg = c + 3 := nI_clamp (by omega)
  have i3 : vp_in (nI (c + 3)) L := (vin_iff (by omega)).mpr (by omega)
  have c4 : (nI (c + 4)).toNatClampNeg = c + 4 := nI_clamp (by omega)
  have i4 : vp_in (nI (c + 4)) L := (vin_iff (by omega)).mpr (by omega)
  simp only [lvL, s_psh, s_ild, s_ald, s_ib, s_xld, s_cv, s_al, gpad, gl, gst, gclr, gc2, gent, gcat, Value.category, List.drop_succ_cons, List.drop_zero, List.take_succ_cons, List.take_zero, List.reverse_cons, List.reverse_nil, List.nil_append, List.cons_append, List.append_nil, List.map_cons, List.map_nil, List.sum_cons, List.sum_nil, List.length_cons, List.length_nil, Option.toList, cond_true, cond_false, Nat.reduceBEq, Nat.reduceAdd, Nat.reduceLeDiff, beq_self_eq_true, true_and, and_true, BEq.rfl, Bool.false_eq_true, if_true, if_false, lit, nI_add, true_and, hX, c1, i1, c2, i2, c3, i3, c4, i4]
  refine hP k C n z _ (fun x => fun r C' n' z' => s_if2 (fun x y => x = y) κ κ0 (lvL bs X c) (r.toList ++ [.int x]) C' n' z') hJ (fun x C1 n1 z1 hR h => ?_) (fun x C2 n2 z2 h => if2i (fun _ => hκ _ _ _ h) (fun e => absurd rfl e))
  obtain ⟨fs', hR⟩ := hR
  simp only [s_psh, s_ild, s_ald, s_ib, s_xld, s_cv, s_al, gpad, gl, gst, gclr, gc2, gent, gcat, Value.category, List.drop_succ_cons, List.drop_zero, List.take_succ_cons, List.take_zero, List.reverse_cons, List.reverse_nil, List.nil_append, List.cons_append, List.append_nil, List.map_cons, List.map_nil, List.sum_cons, List.sum_nil, List.length_cons, List.length_nil, Option.toList, cond_true, cond_false, Nat.reduceBEq, Nat.reduceAdd, Nat.reduceLeDiff, beq_self_eq_true, true_and, and_true, BEq.rfl, Bool.false_eq_true, if_true, if_false, lit, nI_add, true_and, hR, c1, i1, c2, i2, c3, i3, c4, i4]
  exact h
set_option maxRecDepth 20000 in
theorem lw_5 (hP : PRi X n0 z0 sp1 sp2 [.int (xs (c + 1)), .int (xs (c + 2)), .int (xs (c + 3)), .int (xs (c + 4)), .int (xs (c + 5))]) (hJ : LJ X n0 z0 k C n z) (hL : c + 6 ≤ L) (hL2 : L ≤ 3072) (hκ : ∀ C2 n2 z2, LJ X n0 z0 (k + 1) C2 n2 z2 → κ (lvL bs X c) [] C2 n2 z2) : (s_ald 1 (s_ald 0 (s_ild 3 (s_psh (.int 1) (s_ib (fun x y => x + y) (s_xld bs L xs (s_ald 0 (s_ild 3 (s_psh (.int 2) (s_ib (fun x y => x + y) (s_xld bs L xs (s_ald 0 (s_ild 3 (s_psh (.int 3) (s_ib (fun x y => x + y) (s_xld bs L xs (s_ald 0 (s_ild 3 (s_psh (.int 4) (s_ib (fun x y => x + y) (s_xld bs L xs (s_ald 0 (s_ild 3 (s_psh (.int 5) (s_ib (fun x y => x + y) (s_xld bs L xs (s_cv 11 5 sp1 (s_ald 2 (s_ald 0 (s_ild 3 (s_psh (.int 1) (s_ib (fun x y => x + y) (s_xld bs L xs (s_ald 0 (s_ild 3 (s_psh (.int 2) (s_ib (fun x y => x + y) (s_xld bs L xs (s_ald 0 (s_ild 3 (s_psh (.int 3) (s_ib (fun x y => x + y) (s_xld bs L xs (s_ald 0 (s_ild 3 (s_psh (.int 4) (s_ib (fun x y => x + y) (s_xld bs L xs (s_ald 0 (s_ild 3 (s_psh (.int 5) (s_ib (fun x y => x + y) (s_xld bs L xs (s_cv 12 5 sp2 (s_if2 (fun x y => x = y) κ κ0))))))))))))))))))))))))))))))))))))))))))))))))))))))) (lvL bs X c) [] C n z := by
  obtain ⟨fs, hX⟩ := hJ.cx
  have c1 : (nI (c + 1)).toNatClampNeg = c + 1 := nI_clamp (by omega)
  have i1 : vp_in (nI (c + 1)) L := (vin_iff (by omega)).mpr (by omega)
  have c2 : (nI (c + 2)).toNatClampNeg = c + 2 := nI_clamp (by omega)
  have i2 : vp_in (nI (c + 2)) L := (vin_iff (by omega)).mpr (by omega)
  have c3 : (nI (c + 3)).toNatClampNeg = c + 3 := nI_clamp (by omega)
  have i3 : vp_in (nI (c + 3)) L := (vin_iff (by omega)).mpr (by omega)
  have c4 : (nI (c + 4)).toNatClampNeg = c + 4 := nI_clamp (by omega)
  have i4 : vp_in (nI (c + 4)) L := (vin_iff (by omega)).mpr (by omega)
  have c5 : (nI (c + 5)).toNatClampNeg = c + 5 := nI_clamp (by omega)
  have i5 : vp_in (nI (c + 5)) L := (vin_iff (by omega)).mpr (by omega)
  simp only [lvL, s_psh, s_ild, s_ald, s_ib, s_xld, s_cv, s_al, gpad, gl, gst, gclr, gc2, gent, gcat, Value.category, List.drop_succ_cons, List.drop_zero, List.take_succ_cons, List.take_zero, List.reverse_cons, List.reverse_nil, List.nil_append, List.cons_append, List.append_nil, List.map_cons, List.map_nil, List.sum_cons, List.sum_nil, List.length_cons, List.length_nil, Option.toList, cond_true, cond_false, Nat.reduceBEq, Nat.reduceAdd, Nat.reduceLeDiff, beq_self_eq_true, true_and, and_true, BEq.rfl, Bool.false_eq_true, if_true, if_false, lit, nI_add, true_and, hX, c1, i1, c2, i2, c3, i3, c4, i4, c5, i5]
  refine hP k C n z _ (fun x => fun r C' n' z' => s_if2 (fun x y => x = y) κ κ0 (lvL bs X c) (r.toList ++ [.int x]) C' n' z') hJ (fun x C1 n1 z1 hR h => ?_) (fun x C2 n2 z2 h => if2i (fun _ => hκ _ _ _ h) (fun e => absurd rfl e))
  obtain ⟨fs', hR⟩ := hR
  simp only [s_psh, s_ild, s_ald, s_ib, s_xld, s_cv, s_al, gpad, gl, gst, gclr, gc2, gent, gcat, Value.category, List.drop_succ_cons, List.drop_zero, List.take_succ_cons, List.take_zero, List.reverse_cons, List.reverse_nil, List.nil_append, List.cons_append, List.append_nil, List.map_cons, List.map_nil, List.sum_cons, List.sum_nil, List.length_cons, List.length_nil, Option.toList, cond_true, cond_false, Nat.reduceBEq, Nat.reduceAdd, Nat.reduceLeDiff, beq_self_eq_true, true_and, and_true, BEq.rfl, Bool.false_eq_true, if_true, if_false, lit, nI_add, true_and, hR, c1, i1, c2, i2, c3, i3, c4, i4, c5, i5]
  exact h
set_option maxRecDepth 20000 in
theorem lwa_0 (hP : PRi X n0 z0 sp1 sp2 []) (hJ : LJ X n0 z0 k C n z) (hf : gfree nm zm n z mc ms) (hL : c + 6 ≤ L) (hL2 : L ≤ 3072) (hκ : ∀ C2 n2 z2, LJ X n0 z0 (k + 1) C2 n2 z2 → κ (lvL bs X c) [] C2 n2 z2) : (s_ald 1 (s_al nm zm mc ms (s_cv 11 0 sp1 (s_ald 2 (s_cv 12 0 sp2 (s_if2 (fun x y => x = y) κ κ0)))))) (lvL bs X c) [] C n z := by
  obtain ⟨fs, hX⟩ := hJ.cx
  simp only [lvL, s_psh, s_ild, s_ald, s_ib, s_xld, s_cv, s_al, gpad, gl, gst, gclr, gc2, gent, gcat, Value.category, List.drop_succ_cons, List.drop_zero, List.take_succ_cons, List.take_zero, List.reverse_cons, List.reverse_nil, List.nil_append, List.cons_append, List.append_nil, List.map_cons, List.map_nil, List.sum_cons, List.sum_nil, List.length_cons, List.length_nil, Option.toList, cond_true, cond_false, Nat.reduceBEq, Nat.reduceAdd, Nat.reduceLeDiff, beq_self_eq_true, true_and, and_true, BEq.rfl, Bool.false_eq_true, if_true, if_false, lit, nI_add, true_and, hX]
  refine ⟨hf, ?_⟩
  refine hP k C n z _ (fun x => fun r C' n' z' => s_if2 (fun x y => x = y) κ κ0 (lvL bs X c) (r.toList ++ [.int x]) C' n' z') hJ (fun x C1 n1 z1 hR h => ?_) (fun x C2 n2 z2 h => if2i (fun _ => hκ _ _ _ h) (fun e => absurd rfl e))
  obtain ⟨fs', hR⟩ := hR
  simp only [s_psh, s_ild, s_ald, s_ib, s_xld, s_cv, s_al, gpad, gl, gst, gclr, gc2, gent, gcat, Value.category, List.drop_succ_cons, List.drop_zero, List.take_succ_cons, List.take_zero, List.reverse_cons, List.reverse_nil, List.nil_append, List.cons_append, List.append_nil, List.map_cons, List.map_nil, List.sum_cons, List.sum_nil, List.length_cons, List.length_nil, Option.toList, cond_true, cond_false, Nat.reduceBEq, Nat.reduceAdd, Nat.reduceLeDiff, beq_self_eq_true, true_and, and_true, BEq.rfl, Bool.false_eq_true, if_true, if_false, lit, nI_add, true_and, hR]
  exact h
set_option maxRecDepth 20000 in
theorem lwa_1 (hP : PRi X n0 z0 sp1 sp2 [.int (xs (c + 1))]) (hJ : LJ X n0 z0 k C n z) (hf : gfree nm zm n z mc ms) (hL : c + 6 ≤ L) (hL2 : L ≤ 3072) (hκ : ∀ C2 n2 z2, LJ X n0 z0 (k + 1) C2 n2 z2 → κ (lvL bs X c) [] C2 n2 z2) : (s_ald 1 (s_ald 0 (s_ild 3 (s_psh (.int 1) (s_ib (fun x y => x + y) (s_xld bs L xs (s_al nm zm mc ms (s_cv 11 1 sp1 (s_ald 2 (s_ald 0 (s_ild 3 (s_psh (.int 1) (s_ib (fun x y => x + y) (s_xld bs L xs (s_cv 12 1 sp2 (s_if2 (fun x y => x = y) κ κ0)))))))))))))))) (lvL bs X c) [] C n z := by
  obtain ⟨fs, hX⟩ := hJ.cx
  have c1 : (nI (c + 1)).toNatClampNeg = c + 1 := nI_clamp (by omega)
  have i1 : vp_in (nI (c + 1)) L := (vin_iff (by omega)).mpr (by omega)
  simp only [lvL, s_psh, s_ild, s_ald, s_ib, s_xld, s_cv, s_al, gpad, gl, gst, gclr, gc2, gent, gcat, Value.category, List.drop_succ_cons, List.drop_zero, List.take_succ_cons, List.take_zero, List.reverse_cons, List.reverse_nil, List.nil_append, List.cons_append, List.append_nil, List.map_cons, List.map_nil, List.sum_cons, List.sum_nil, List.length_cons, List.length_nil, Option.toList, cond_true, cond_false, Nat.reduceBEq, Nat.reduceAdd, Nat.reduceLeDiff, beq_self_eq_true, true_and, and_true, BEq.rfl, Bool.false_eq_true, if_true, if_false, lit, nI_add, true_and, hX, c1, i1]
  refine ⟨hf, ?_⟩
  refine hP k C n z _ (fun x => fun r C' n' z' => s_if2 (fun x y => x = y) κ κ0 (lvL bs X c) (r.toList ++ [.int x]) C' n' z') hJ (fun x C1 n1 z1 hR h => ?_) (fun x C2 n2 z2 h => if2i (fun _ => hκ _ _ _ h) (fun e => absurd rfl e))
  obtain ⟨fs', hR⟩ := hR
  simp only [s_psh, s_ild, s_ald, s_ib, s_xld, s_cv, s_al, gpad, gl, gst, gclr, gc2, gent, gcat, Value.category, List.drop_succ_cons, List.drop_zero, List.take_succ_cons, List.take_zero, List.reverse_cons, List.reverse_nil, List.nil_append, List.cons_append, List.append_nil, List.map_cons, List.map_nil, List.sum_cons, List.sum_nil, List.length_cons, List.length_nil, Option.toList, cond_true, cond_false, Nat.reduceBEq, Nat.reduceAdd, Nat.reduceLeDiff, beq_self_eq_true, true_and, and_true, BEq.rfl, Bool.false_eq_true, if_true, if_false, lit, nI_add, true_and, hR, c1, i1]
  exact h
set_option maxRecDepth 20000 in
theorem lwa_2 (hP : PRi X n0 z0 sp1 sp2 [.int (xs (c + 1)), .int (xs (c + 2))]) (hJ : LJ X n0 z0 k C n z) (hf : gfree nm zm n z mc ms) (hL : c + 6 ≤ L) (hL2 : L ≤ 3072) (hκ : ∀ C2 n2 z2, LJ X n0 z0 (k + 1) C2 n2 z2 → κ (lvL bs X c) [] C2 n2 z2) : (s_ald 1 (s_ald 0 (s_ild 3 (s_psh (.int 1) (s_ib (fun x y => x + y) (s_xld bs L xs (s_ald 0 (s_ild 3 (s_psh (.int 2) (s_ib (fun x y => x + y) (s_xld bs L xs (s_al nm zm mc ms (s_cv 11 2 sp1 (s_ald 2 (s_ald 0 (s_ild 3 (s_psh (.int 1) (s_ib (fun x y => x + y) (s_xld bs L xs (s_ald 0 (s_ild 3 (s_psh (.int 2) (s_ib (fun x y => x + y) (s_xld bs L xs (s_cv 12 2 sp2 (s_if2 (fun x y => x = y) κ κ0)))))))))))))))))))))))))) (lvL bs X c) [] C n z := by
  obtain ⟨fs, hX⟩ := hJ.cx
  have c1 : (nI (c + 1)).toNatClampNeg = c + 1 := nI_clamp (by omega)
  have i1 : vp_in (nI (c + 1)) L := (vin_iff (by omega)).mpr (by omega)
  have c2 : (nI (c + 2)).toNatClampNeg = c + 2 := nI_clamp (by omega)
  have i2 : vp_in (nI (c + 2)) L := (vin_iff (by omega)).mpr (by omega)
  simp only [lvL, s_psh, s_ild, s_ald, s_ib, s_xld, s_cv, s_al, gpad, gl, gst, gclr, gc2, gent, gcat, Value.category, List.drop_succ_cons, List.drop_zero, List.take_succ_cons, List.take_zero, List.reverse_cons, List.reverse_nil, List.nil_append, List.cons_append, List.append_nil, List.map_cons, List.map_nil, List.sum_cons, List.sum_nil, List.length_cons, List.length_nil, Option.toList, cond_true, cond_false, Nat.reduceBEq, Nat.reduceAdd, Nat.reduceLeDiff, beq_self_eq_true, true_and, and_true, BEq.rfl, Bool.false_eq_true, if_true, if_false, lit, nI_add, true_and, hX, c1, i1, c2, i2]
  refine ⟨hf, ?_⟩
  refine hP k C n z _ (fun x => fun r C' n' z' => s_if2 (fun x y => x = y) κ κ0 (lvL bs X c) (r.toList ++ [.int x]) C' n' z') hJ (fun x C1 n1 z1 hR h => ?_) (fun x C2 n2 z2 h => if2i (fun _ => hκ _ _ _ h) (fun e => absurd rfl e))
  obtain ⟨fs', hR⟩ := hR
  simp only [s_psh, s_ild, s_ald, s_ib, s_xld, s_cv, s_al, gpad, gl, gst, gclr, gc2, gent, gcat, Value.category, List.drop_succ_cons, List.drop_zero, List.take_succ_cons, List.take_zero, List.reverse_cons, List.reverse_nil, List.nil_append, List.cons_append, List.append_nil, List.map_cons, List.map_nil, List.sum_cons, List.sum_nil, List.length_cons, List.length_nil, Option.toList, cond_true, cond_false, Nat.reduceBEq, Nat.reduceAdd, Nat.reduceLeDiff, beq_self_eq_true, true_and, and_true, BEq.rfl, Bool.false_eq_true, if_true, if_false, lit, nI_add, true_and, hR, c1, i1, c2, i2]
  exact h
end TRN
