/-! the texts of the tokens -/
theorem gLen_0 : gLen 0 = 128 := by decide +kernel
theorem gLen_1 : gLen 1 = 11 := by decide +kernel
def bAt (k j : Nat) : Int32 := (gByt k).getD j 0
theorem bAt_ok : ∀ k, k < 2 → ∀ j, j < 128 → (((bAt k j) &&& 255).toUInt32 % 65536).toInt32 = bAt k j ∧ (bAt k j).toUInt32.toUInt16.toUInt32.toInt32 = bAt k j := by decide +kernel
theorem gLen_le {k : Nat} (h : k < 2) : gLen k ≤ 128 := by
  match k, h with
  | 0, _ => exact Nat.le_of_eq gLen_0
  | 1, _ => rw [gLen_1]; decide
theorem sgn_at : ∀ b, b < 256 → ∀ i, i < 11 → (bAt 1 i = (nI b).toInt8.toInt32 ↔ sgn b = 26 + i) := by decide +kernel
def siX (b : Nat) : Int32 := if sgn b = 41 then -nI 1 else nI (sgn b - 26)
theorem sgn_no {b : Nat} (h : ∀ i, i < 11 → sgn b ≠ 26 + i) : sgn b = 41 := by
  have := h 0 (by decide); have := h 1 (by decide); have := h 2 (by decide); have := h 3 (by decide); have := h 4 (by decide); have := h 5 (by decide); have := h 6 (by decide); have := h 7 (by decide); have := h 8 (by decide); have := h 9 (by decide); have := h 10 (by decide)
  unfold sgn at *
  repeat' split
  all_goals first | rfl | (exfalso; simp_all)
theorem siX_no {b : Nat} (h : ∀ i, i < 11 → sgn b ≠ 26 + i) : siX b = -nI 1 := if_pos (sgn_no h)
theorem siX_at {b i : Nat} (h : sgn b = 26 + i) (hi : i < 11) : siX b = nI i := by
  unfold siX
  rw [if_neg (by omega), h, show 26 + i - 26 = i by omega]
theorem sh_0 (x : Int32) : x >>> ((0 : Int32) &&& 31) = x := by
  rw [show ((0 : Int32) &&& 31) = 0 by decide]
  exact Int32.shiftRight_zero
theorem nI_b255 : ∀ b, b < 256 → ¬ nI b < 0 ∧ ¬ 255 < nI b := by decide +kernel
def sp_J0_coder_7d493 : gSp := fun as C n z Q => match as with
  | [.ref a] => (∃ k : Nat, k < 2 ∧ isExt C a (2 * k)) ∧ Q (some (.int 0)) C n z
  | _ => False
set_option maxRecDepth 20000 in
set_option maxHeartbeats 1000000 in
theorem c_J0_coder_7d493 (l : Launch) : Con l yJ0_coder_7d493 cJ0_coder_7d493 1 (some .byte) 0 0 0 sp_J0_coder_7d493 := by
  refine m_J0_coder_7d493  ?_
  intro as C0 n0 z0 Q h
  unfold sp_J0_coder_7d493 at h
  split at h
  · obtain ⟨hx, hQ⟩ := h
    refine ⟨Nat.le_of_ble_eq_true rfl, ?_⟩
    simp only [b_J0_coder_7d493_0, b_J0_coder_7d493_14, s_psh, s_ild, s_ald, s_ist, s_ast, s_inc, s_ib, s_iu, s_pop, s_cs, s_cvx, s_getv, s_getc, s_alenx, s_bldx, s_pshq, s_iret, s_vret, gpad, gl, gst, gclr, gc2, gent, gcat, Value.category, List.drop_succ_cons, List.drop_zero, List.take_succ_cons, List.take_zero, List.reverse_cons, List.reverse_nil, List.nil_append, List.cons_append, List.append_nil, List.map_cons, List.map_nil, List.sum_cons, List.sum_nil, List.length_cons, List.length_nil, Option.toList, cond_true, cond_false, Nat.reduceBEq, Nat.reduceAdd, Nat.reduceLeDiff, beq_self_eq_true, true_and, and_true, BEq.rfl, Bool.false_eq_true, if_true, if_false]
    exact if1i (fun e => absurd e (by decide)) (fun _ => ⟨hx, rfl, hQ⟩)
  · exact h.elim
def sp_J0_isLatin1_aae02 : gSp := fun as C n z Q => match as with
  | [.ref a] => (∃ k : Nat, k < 2 ∧ isExt C a (2 * k)) ∧ Q (some (.int 1)) C n z
  | _ => False
set_option maxRecDepth 20000 in
set_option maxHeartbeats 1000000 in
theorem c_J0_isLatin1_aae02 (l : Launch) : Con l yJ0_isLatin1_aae02 cJ0_isLatin1_aae02 1 (some .boolean) 0 0 0 sp_J0_isLatin1_aae02 := by
  refine m_J0_isLatin1_aae02  ?_
  intro as C0 n0 z0 Q h
  unfold sp_J0_isLatin1_aae02 at h
  split at h
  · obtain ⟨hx, hQ⟩ := h
    refine ⟨Nat.le_of_ble_eq_true rfl, ?_⟩
    simp only [b_J0_isLatin1_aae02_0, b_J0_isLatin1_aae02_17, b_J0_isLatin1_aae02_18, s_psh, s_ild, s_ald, s_ist, s_ast, s_inc, s_ib, s_iu, s_pop, s_cs, s_cvx, s_getv, s_getc, s_alenx, s_bldx, s_pshq, s_iret, s_vret, gpad, gl, gst, gclr, gc2, gent, gcat, Value.category, List.drop_succ_cons, List.drop_zero, List.take_succ_cons, List.take_zero, List.reverse_cons, List.reverse_nil, List.nil_append, List.cons_append, List.append_nil, List.map_cons, List.map_nil, List.sum_cons, List.sum_nil, List.length_cons, List.length_nil, Option.toList, cond_true, cond_false, Nat.reduceBEq, Nat.reduceAdd, Nat.reduceLeDiff, beq_self_eq_true, true_and, and_true, BEq.rfl, Bool.false_eq_true, if_true, if_false]
    exact if1i (fun e => absurd e (by decide)) (fun _ => ⟨hx, if1i (fun _ => ⟨rfl, hQ⟩) (fun e => absurd rfl e)⟩)
  · exact h.elim
def sp_J0_length_8abf5 : gSp := fun as C n z Q => match as with
  | [.ref a] => ∃ k : Nat, k < 2 ∧ isExt C a (2 * k) ∧ Q (some (.int (nI (gLen k)))) C n z
  | _ => False
set_option maxRecDepth 20000 in
set_option maxHeartbeats 1000000 in
theorem c_J0_length_8abf5 (l : Launch) : Con l yJ0_length_8abf5 cJ0_length_8abf5 1 (some .int) 1 0 0 sp_J0_length_8abf5 := by
  refine m_J0_length_8abf5 (c_J0_coder_7d493 l) (by decide) ?_
  intro as C0 n0 z0 Q h
  unfold sp_J0_length_8abf5 at h
  split at h
  · obtain ⟨k, hk, hx, hQ⟩ := h
    refine ⟨Nat.le_of_ble_eq_true rfl, ?_⟩
    simp only [b_J0_length_8abf5_0, sp_J0_coder_7d493, s_psh, s_ild, s_ald, s_ist, s_ast, s_inc, s_ib, s_iu, s_pop, s_cs, s_cvx, s_getv, s_getc, s_alenx, s_bldx, s_pshq, s_iret, s_vret, gpad, gl, gst, gclr, gc2, gent, gcat, Value.category, List.drop_succ_cons, List.drop_zero, List.take_succ_cons, List.take_zero, List.reverse_cons, List.reverse_nil, List.nil_append, List.cons_append, List.append_nil, List.map_cons, List.map_nil, List.sum_cons, List.sum_nil, List.length_cons, List.length_nil, Option.toList, cond_true, cond_false, Nat.reduceBEq, Nat.reduceAdd, Nat.reduceLeDiff, beq_self_eq_true, true_and, and_true, BEq.rfl, Bool.false_eq_true, if_true, if_false]
    refine ⟨k, hk, hx, fun v hv => ⟨k, hk, hv, ⟨k, hk, hx⟩, ⟨k, hk, hx⟩, rfl, ?_⟩⟩
    rw [sh_0]
    exact hQ
  · exact h.elim
def sp_J3_checkIndex_8e157 : gSp := fun as C n z Q => match as with
  | [.int i, .int m, v] => ¬ i < 0 ∧ i < m ∧ (v = .null ∨ ∃ t, v = .ref t) ∧ Q (some (.int i)) C n z
  | _ => False
set_option maxRecDepth 20000 in
set_option maxHeartbeats 1000000 in
theorem c_J3_checkIndex_8e157 (l : Launch) : Con l yJ3_checkIndex_8e157 cJ3_checkIndex_8e157 3 (some .int) 0 0 0 sp_J3_checkIndex_8e157 := by
  refine m_J3_checkIndex_8e157  ?_
  intro as C0 n0 z0 Q h
  unfold sp_J3_checkIndex_8e157 at h
  split at h
  · obtain ⟨h1, h2, h3, hQ⟩ := h
    have hl : ∀ v : Value, (v = .null ∨ ∃ t, v = .ref t) → ∀ i m : Int32, (lg_sl [.int i, .int m, v]).length ≤ 3 := by
      rintro v (rfl | ⟨t, rfl⟩) i m <;> exact Nat.le_of_ble_eq_true rfl
    have hg : ∀ (i m : Int32) (v : Value), (v = .null ∨ ∃ t, v = .ref t) → ¬ i < 0 → i < m → Q (some (.int i)) C0 n0 z0 → b_J3_checkIndex_8e157_0 Q (gpad 3 (gent [.int i, .int m, v])) [] C0 n0 z0 := by
      rintro i m v (rfl | ⟨t, rfl⟩) h1 h2 hQ
      all_goals
        simp only [b_J3_checkIndex_8e157_0, s_psh, s_ild, s_ald, s_ist, s_ast, s_inc, s_ib, s_iu, s_pop, s_cs, s_cvx, s_getv, s_getc, s_alenx, s_bldx, s_pshq, s_iret, s_vret, gpad, gl, gst, gclr, gc2, gent, gcat, Value.category, List.drop_succ_cons, List.drop_zero, List.take_succ_cons, List.take_zero, List.reverse_cons, List.reverse_nil, List.nil_append, List.cons_append, List.append_nil, List.map_cons, List.map_nil, List.sum_cons, List.sum_nil, List.length_cons, List.length_nil, Option.toList, cond_true, cond_false, Nat.reduceBEq, Nat.reduceAdd, Nat.reduceLeDiff, beq_self_eq_true, true_and, and_true, BEq.rfl, Bool.false_eq_true, if_true, if_false]
        exact if1i (fun e => absurd e h1) (fun _ => if2i (fun _ => ⟨rfl, hQ⟩) (fun e => absurd h2 e))
    exact ⟨hl _ h3 _ _, hg _ _ _ h3 h1 h2 hQ⟩
  · exact h.elim
def sp_J0_checkIndex_df160 : gSp := fun as C n z Q => match as with
  | [.int i, .int m] => ¬ i < 0 ∧ i < m ∧ Q none C n z
  | _ => False
set_option maxRecDepth 20000 in
set_option maxHeartbeats 1000000 in
theorem c_J0_checkIndex_df160 (l : Launch) : Con l yJ0_checkIndex_df160 cJ0_checkIndex_df160 2 none 1 0 0 sp_J0_checkIndex_df160 := by
  refine m_J0_checkIndex_df160 (c_J3_checkIndex_8e157 l) (by decide) ?_
  intro as C0 n0 z0 Q h
  unfold sp_J0_checkIndex_df160 at h
  split at h
  · obtain ⟨h1, h2, hQ⟩ := h
    refine ⟨Nat.le_of_ble_eq_true rfl, ?_⟩
    simp only [b_J0_checkIndex_df160_0, sp_J3_checkIndex_8e157, s_psh, s_ild, s_ald, s_ist, s_ast, s_inc, s_ib, s_iu, s_pop, s_cs, s_cvx, s_getv, s_getc, s_alenx, s_bldx, s_pshq, s_iret, s_vret, gpad, gl, gst, gclr, gc2, gent, gcat, Value.category, List.drop_succ_cons, List.drop_zero, List.take_succ_cons, List.take_zero, List.reverse_cons, List.reverse_nil, List.nil_append, List.cons_append, List.append_nil, List.map_cons, List.map_nil, List.sum_cons, List.sum_nil, List.length_cons, List.length_nil, Option.toList, cond_true, cond_false, Nat.reduceBEq, Nat.reduceAdd, Nat.reduceLeDiff, beq_self_eq_true, true_and, and_true, BEq.rfl, Bool.false_eq_true, if_true, if_false]
    exact fun v hv => ⟨h1, h2, hv, by first | exact hQ | exact ⟨rfl, hQ⟩⟩
  · exact h.elim
def sp_J1_charAt_3b067 : gSp := fun as C n z Q => match as with
  | [.ref v, .int i] => ∃ k j : Nat, k < 2 ∧ isExt C v (2 * k + 1) ∧ i = nI j ∧ j < gLen k ∧ Q (some (.int (bAt k j))) C n z
  | _ => False
set_option maxRecDepth 20000 in
set_option maxHeartbeats 1000000 in
theorem c_J1_charAt_3b067 (l : Launch) : Con l yJ1_charAt_3b067 cJ1_charAt_3b067 2 (some .char) 2 0 0 sp_J1_charAt_3b067 := by
  refine m_J1_charAt_3b067 (c_J0_checkIndex_df160 l) (by decide) ?_
  intro as C0 n0 z0 Q h
  unfold sp_J1_charAt_3b067 at h
  split at h
  · obtain ⟨k, j, hk, hx, rfl, hj, hQ⟩ := h
    refine ⟨Nat.le_of_ble_eq_true rfl, ?_⟩
    have hl := gLen_le hk
    obtain ⟨e1, e2⟩ := bAt_ok k hk j (by omega)
    simp only [b_J1_charAt_3b067_0, sp_J0_checkIndex_df160, s_psh, s_ild, s_ald, s_ist, s_ast, s_inc, s_ib, s_iu, s_pop, s_cs, s_cvx, s_getv, s_getc, s_alenx, s_bldx, s_pshq, s_iret, s_vret, gpad, gl, gst, gclr, gc2, gent, gcat, Value.category, List.drop_succ_cons, List.drop_zero, List.take_succ_cons, List.take_zero, List.reverse_cons, List.reverse_nil, List.nil_append, List.cons_append, List.append_nil, List.map_cons, List.map_nil, List.sum_cons, List.sum_nil, List.length_cons, List.length_nil, Option.toList, cond_true, cond_false, Nat.reduceBEq, Nat.reduceAdd, Nat.reduceLeDiff, beq_self_eq_true, true_and, and_true, BEq.rfl, Bool.false_eq_true, if_true, if_false]
    refine ⟨k, hk, hx, ?_, ?_, k, hk, hx, (vin_iff (by omega)).mpr hj, ?_⟩
    · rw [show (0 : Int32) = nI 0 from rfl, nI_ltI (by omega) (by omega)]; omega
    · show nI j < nI (gLen k)
      rw [nI_ltI (by omega) (by omega)]; exact hj
    · rw [nI_clamp (by omega)]
      rw [show (gByt k).getD j 0 = bAt k j from rfl, e1]
      exact ⟨congrArg Value.int e2, hQ⟩
  · exact h.elim
def sp_J2_length_9d52b : gSp := fun _ _ _ _ _ => False
theorem c_J2_length_9d52b (l : Launch) : Con l yJ2_length_9d52b cJ2_length_9d52b 1 (some .int) 0 0 0 sp_J2_length_9d52b := m_J2_length_9d52b  fun _ _ _ _ _ h => h.elim
def sp_J2_getChar_3b067 : gSp := fun _ _ _ _ _ => False
theorem c_J2_getChar_3b067 (l : Launch) : Con l yJ2_getChar_3b067 cJ2_getChar_3b067 2 (some .char) 0 0 0 sp_J2_getChar_3b067 := m_J2_getChar_3b067  fun _ _ _ _ _ h => h.elim
def sp_J2_checkIndex_2214a : gSp := fun _ _ _ _ _ => False
theorem c_J2_checkIndex_2214a (l : Launch) : Con l yJ2_checkIndex_2214a cJ2_checkIndex_2214a 2 none 2 0 0 sp_J2_checkIndex_2214a := m_J2_checkIndex_2214a (c_J2_length_9d52b l) (by decide) (c_J0_checkIndex_df160 l) (by decide) fun _ _ _ _ _ h => h.elim
def sp_J2_charAt_3b067 : gSp := fun _ _ _ _ _ => False
theorem c_J2_charAt_3b067 (l : Launch) : Con l yJ2_charAt_3b067 cJ2_charAt_3b067 2 (some .char) 3 0 0 sp_J2_charAt_3b067 := m_J2_charAt_3b067 (c_J2_checkIndex_2214a l) (by decide) (c_J2_getChar_3b067 l) (by decide) fun _ _ _ _ _ h => h.elim
def sp_J3_checkFromToIndex_8c36e : gSp := fun _ _ _ _ _ => False
theorem c_J3_checkFromToIndex_8c36e (l : Launch) : Con l yJ3_checkFromToIndex_8c36e cJ3_checkFromToIndex_8c36e 4 (some .int) 0 0 0 sp_J3_checkFromToIndex_8c36e := m_J3_checkFromToIndex_8c36e  fun _ _ _ _ _ h => h.elim
def sp_J0_checkBoundsBeginEnd_23922 : gSp := fun _ _ _ _ _ => False
theorem c_J0_checkBoundsBeginEnd_23922 (l : Launch) : Con l yJ0_checkBoundsBeginEnd_23922 cJ0_checkBoundsBeginEnd_23922 3 none 1 0 0 sp_J0_checkBoundsBeginEnd_23922 := m_J0_checkBoundsBeginEnd_23922 (c_J3_checkFromToIndex_8c36e l) (by decide) fun _ _ _ _ _ h => h.elim
def sp_J2_checkBoundsBeginEnd_d044e : gSp := fun _ _ _ _ _ => False
theorem c_J2_checkBoundsBeginEnd_d044e (l : Launch) : Con l yJ2_checkBoundsBeginEnd_d044e cJ2_checkBoundsBeginEnd_d044e 3 none 2 0 0 sp_J2_checkBoundsBeginEnd_d044e := m_J2_checkBoundsBeginEnd_d044e (c_J2_length_9d52b l) (by decide) (c_J0_checkBoundsBeginEnd_23922 l) (by decide) fun _ _ _ _ _ h => h.elim
def sp_J2_indexOfCharUnsafe_4cfef : gSp := fun _ _ _ _ _ => False
theorem c_J2_indexOfCharUnsafe_4cfef (l : Launch) : Con l yJ2_indexOfCharUnsafe_4cfef cJ2_indexOfCharUnsafe_4cfef 5 (some .int) 1 0 0 sp_J2_indexOfCharUnsafe_4cfef := m_J2_indexOfCharUnsafe_4cfef (c_J2_getChar_3b067 l) (by decide) fun _ _ _ _ _ h => h.elim
def sp_J11_isValidCodePoint_9a6ad : gSp := fun _ _ _ _ _ => False
theorem c_J11_isValidCodePoint_9a6ad (l : Launch) : Con l yJ11_isValidCodePoint_9a6ad cJ11_isValidCodePoint_9a6ad 2 (some .boolean) 0 0 0 sp_J11_isValidCodePoint_9a6ad := m_J11_isValidCodePoint_9a6ad  fun _ _ _ _ _ h => h.elim
def sp_J11_highSurrogate_5068e : gSp := fun _ _ _ _ _ => False
theorem c_J11_highSurrogate_5068e (l : Launch) : Con l yJ11_highSurrogate_5068e cJ11_highSurrogate_5068e 1 (some .char) 0 0 0 sp_J11_highSurrogate_5068e := m_J11_highSurrogate_5068e  fun _ _ _ _ _ h => h.elim
def sp_J11_lowSurrogate_5068e : gSp := fun _ _ _ _ _ => False
theorem c_J11_lowSurrogate_5068e (l : Launch) : Con l yJ11_lowSurrogate_5068e cJ11_lowSurrogate_5068e 1 (some .char) 0 0 0 sp_J11_lowSurrogate_5068e := m_J11_lowSurrogate_5068e  fun _ _ _ _ _ h => h.elim
def sp_J2_indexOfSupplementary_4cfef : gSp := fun _ _ _ _ _ => False
theorem c_J2_indexOfSupplementary_4cfef (l : Launch) : Con l yJ2_indexOfSupplementary_4cfef cJ2_indexOfSupplementary_4cfef 7 (some .int) 3 0 0 sp_J2_indexOfSupplementary_4cfef := m_J2_indexOfSupplementary_4cfef (c_J2_getChar_3b067 l) (by decide) (c_J11_isValidCodePoint_9a6ad l) (by decide) (c_J11_highSurrogate_5068e l) (by decide) (c_J11_lowSurrogate_5068e l) (by decide) (c_J2_checkBoundsBeginEnd_d044e l) (by decide) fun _ _ _ _ _ h => h.elim
def sp_J2_indexOfChar_4cfef : gSp := fun _ _ _ _ _ => False
theorem c_J2_indexOfChar_4cfef (l : Launch) : Con l yJ2_indexOfChar_4cfef cJ2_indexOfChar_4cfef 4 (some .int) 3 0 0 sp_J2_indexOfChar_4cfef := m_J2_indexOfChar_4cfef (c_J2_checkBoundsBeginEnd_d044e l) (by decide) (c_J2_indexOfCharUnsafe_4cfef l) (by decide) fun _ _ _ _ _ h => h.elim
def sp_J2_indexOf_4cfef : gSp := fun _ _ _ _ _ => False
theorem c_J2_indexOf_4cfef (l : Launch) : Con l yJ2_indexOf_4cfef cJ2_indexOf_4cfef 4 (some .int) 4 0 0 sp_J2_indexOf_4cfef := m_J2_indexOf_4cfef (c_J9_max_7cf53 l) (by decide) (c_J9_min_7cf53 l) (by decide) (c_J2_indexOfSupplementary_4cfef l) (by decide) (c_J2_indexOfChar_4cfef l) (by decide) fun _ _ _ _ _ h => h.elim
def sp_J0_charAt_5068e : gSp := fun as C n z Q => match as with
  | [.ref a, .int i] => ∃ k j : Nat, k < 2 ∧ isExt C a (2 * k) ∧ i = nI j ∧ j < gLen k ∧ Q (some (.int (bAt k j))) C n z
  | _ => False
set_option maxRecDepth 20000 in
set_option maxHeartbeats 1000000 in
theorem c_J0_charAt_5068e (l : Launch) : Con l yJ0_charAt_5068e cJ0_charAt_5068e 2 (some .char) 4 0 0 sp_J0_charAt_5068e := by
  refine m_J0_charAt_5068e (c_J0_isLatin1_aae02 l) (by decide) (c_J2_charAt_3b067 l) (by decide) (c_J1_charAt_3b067 l) (by decide) ?_
  intro as C0 n0 z0 Q h
  unfold sp_J0_charAt_5068e at h
  split at h
  · obtain ⟨k, j, hk, hx, rfl, hj, hQ⟩ := h
    refine ⟨Nat.le_of_ble_eq_true rfl, ?_⟩
    have hl := gLen_le hk
    obtain ⟨e1, e2⟩ := bAt_ok k hk j (by omega)
    simp only [b_J0_charAt_5068e_0, sp_J0_isLatin1_aae02, sp_J1_charAt_3b067, s_psh, s_ild, s_ald, s_ist, s_ast, s_inc, s_ib, s_iu, s_pop, s_cs, s_cvx, s_getv, s_getc, s_alenx, s_bldx, s_pshq, s_iret, s_vret, gpad, gl, gst, gclr, gc2, gent, gcat, Value.category, List.drop_succ_cons, List.drop_zero, List.take_succ_cons, List.take_zero, List.reverse_cons, List.reverse_nil, List.nil_append, List.cons_append, List.append_nil, List.map_cons, List.map_nil, List.sum_cons, List.sum_nil, List.length_cons, List.length_nil, Option.toList, cond_true, cond_false, Nat.reduceBEq, Nat.reduceAdd, Nat.reduceLeDiff, beq_self_eq_true, true_and, and_true, BEq.rfl, Bool.false_eq_true, if_true, if_false]
    refine ⟨⟨k, hk, hx⟩, ⟨k, hk, hx⟩, if1i (fun e => absurd e (by decide)) (fun _ => ⟨k, hk, hx, fun v hv => ⟨Nat.le_refl 2, Nat.zero_le 8, k, j, hk, hv, rfl, hj, congrArg Value.int e2, hQ⟩⟩)⟩
  · exact h.elim
def sp_J1_canEncode_9a6ad : gSp := fun as C n z Q => match as with
  | [.int c] => ¬ c < 0 ∧ ¬ 255 < c ∧ Q (some (.int 1)) C n z
  | _ => False
set_option maxRecDepth 20000 in
set_option maxHeartbeats 1000000 in
theorem c_J1_canEncode_9a6ad (l : Launch) : Con l yJ1_canEncode_9a6ad cJ1_canEncode_9a6ad 1 (some .boolean) 0 0 0 sp_J1_canEncode_9a6ad := by
  refine m_J1_canEncode_9a6ad  ?_
  intro as C0 n0 z0 Q h
  unfold sp_J1_canEncode_9a6ad at h
  split at h
  · obtain ⟨h1, h2, hQ⟩ := h
    refine ⟨Nat.le_of_ble_eq_true rfl, ?_⟩
    simp only [b_J1_canEncode_9a6ad_0, b_J1_canEncode_9a6ad_15, b_J1_canEncode_9a6ad_16, s_psh, s_ild, s_ald, s_ist, s_ast, s_inc, s_ib, s_iu, s_pop, s_cs, s_cvx, s_getv, s_getc, s_alenx, s_bldx, s_pshq, s_iret, s_vret, gpad, gl, gst, gclr, gc2, gent, gcat, Value.category, List.drop_succ_cons, List.drop_zero, List.take_succ_cons, List.take_zero, List.reverse_cons, List.reverse_nil, List.nil_append, List.cons_append, List.append_nil, List.map_cons, List.map_nil, List.sum_cons, List.sum_nil, List.length_cons, List.length_nil, Option.toList, cond_true, cond_false, Nat.reduceBEq, Nat.reduceAdd, Nat.reduceLeDiff, beq_self_eq_true, true_and, and_true, BEq.rfl, Bool.false_eq_true, if_true, if_false]
    exact if1i (fun e => absurd e h1) (fun _ => if2i (fun e => absurd e h2) (fun _ => ⟨rfl, hQ⟩))
  · exact h.elim
def iJ1_indexOfChar (v b : Nat) (C0 : gC) (n0 z0 μ : Nat) : gKo := fun lv st C n z => st = [] ∧ C = C0 ∧ n = n0 ∧ z = z0 ∧ ∃ i, i ≤ 11 ∧ μ + i = 11 ∧ (∀ j, j < i → sgn b ≠ 26 + j) ∧ lv = [some (.ref v), some (.int (nI b)), some (.int (nI 0)), some (.int (nI 11)), some (.int (nI b).toInt8.toInt32), some (.int (nI i))]
def sp_J1_indexOfChar_4cfef : gSp := fun as C n z Q => match as with
  | [.ref r, .int c, .int f, .int t] => ∃ v b : Nat, v = r ∧ b < 256 ∧ isExt C v 3 ∧ c = nI b ∧ f = nI 0 ∧ t = nI 11 ∧ Q (some (.int (siX b))) C n z
  | _ => False
set_option maxRecDepth 20000 in
set_option maxHeartbeats 1000000 in
theorem c_J1_indexOfChar_4cfef (l : Launch) : Con l yJ1_indexOfChar_4cfef cJ1_indexOfChar_4cfef 6 (some .int) 0 0 0 sp_J1_indexOfChar_4cfef := by
  refine m_J1_indexOfChar_4cfef  ?_
  intro as C0 n0 z0 Q h
  unfold sp_J1_indexOfChar_4cfef at h
  split at h
  · obtain ⟨v, b, rfl, hb, hx, rfl, rfl, rfl, hQ⟩ := h
    refine ⟨Nat.le_of_ble_eq_true rfl, fun _ μ => iJ1_indexOfChar v b C0 n0 z0 μ, ?_, ?_⟩
    · simp only [b_J1_indexOfChar_4cfef_0, s_psh, s_ild, s_ald, s_ist, s_ast, s_inc, s_ib, s_iu, s_pop, s_cs, s_cvx, s_getv, s_getc, s_alenx, s_bldx, s_pshq, s_iret, s_vret, gpad, gl, gst, gclr, gc2, gent, gcat, Value.category, List.drop_succ_cons, List.drop_zero, List.take_succ_cons, List.take_zero, List.reverse_cons, List.reverse_nil, List.nil_append, List.cons_append, List.append_nil, List.map_cons, List.map_nil, List.sum_cons, List.sum_nil, List.length_cons, List.length_nil, Option.toList, cond_true, cond_false, Nat.reduceBEq, Nat.reduceAdd, Nat.reduceLeDiff, beq_self_eq_true, true_and, and_true, BEq.rfl, Bool.false_eq_true, if_true, if_false]
      exact ⟨11, rfl, rfl, rfl, rfl, 0, by decide, rfl, fun j h => absurd h (Nat.not_lt_zero _), rfl⟩
    · rintro μ lv st C n z ⟨rfl, rfl, rfl, rfl, i, hi, hμ, hn, rfl⟩
      simp only [b_J1_indexOfChar_4cfef_7, s_psh, s_ild, s_ald, s_ist, s_ast, s_inc, s_ib, s_iu, s_pop, s_cs, s_cvx, s_getv, s_getc, s_alenx, s_bldx, s_pshq, s_iret, s_vret, gpad, gl, gst, gclr, gc2, gent, gcat, Value.category, List.drop_succ_cons, List.drop_zero, List.take_succ_cons, List.take_zero, List.reverse_cons, List.reverse_nil, List.nil_append, List.cons_append, List.append_nil, List.map_cons, List.map_nil, List.sum_cons, List.sum_nil, List.length_cons, List.length_nil, Option.toList, cond_true, cond_false, Nat.reduceBEq, Nat.reduceAdd, Nat.reduceLeDiff, beq_self_eq_true, true_and, and_true, BEq.rfl, Bool.false_eq_true, if_true, if_false]
      refine if2i (fun e => ?_) (fun e => ?_)
      · rw [nI_leI (by omega) (by omega)] at e
        have : i = 11 := by omega
        subst this
        rw [siX_no hn] at hQ
        exact ⟨rfl, hQ⟩
      · rw [nI_leI (by omega) (by omega)] at e
        refine ⟨1, by decide, hx, (vin_iff (by omega)).mpr (by rw [gLen_1]; omega), ?_⟩
        rw [nI_clamp (by omega), show (gByt 1).getD i 0 = bAt 1 i from rfl]
        refine if2i (fun e => ?_) (fun e => ?_)
        · rw [siX_at ((sgn_at b hb i (by omega)).mp e) (by omega)] at hQ
          exact ⟨rfl, hQ⟩
        · simp only [s_inc, gpad, gl, gst, gclr, gc2, gent, gcat, Value.category, List.drop_succ_cons, List.drop_zero, List.take_succ_cons, List.take_zero, List.reverse_cons, List.reverse_nil, List.nil_append, List.cons_append, List.append_nil, List.map_cons, List.map_nil, List.sum_cons, List.sum_nil, List.length_cons, List.length_nil, Option.toList, cond_true, cond_false, Nat.reduceBEq, Nat.reduceAdd, Nat.reduceLeDiff, beq_self_eq_true, true_and, and_true, BEq.rfl, Bool.false_eq_true, if_true, if_false]
          rw [lit, nI_add]
          exact ⟨μ - 1, by omega, rfl, rfl, rfl, rfl, i + 1, by omega, by omega, fun j hj => by
            by_cases q : j = i
            · rw [q]; exact fun w => e ((sgn_at b hb i (by omega)).mpr w)
            · exact hn j (by omega), rfl⟩
  · exact h.elim
def sp_J1_indexOf_4cfef : gSp := fun as C n z Q => match as with
  | [.ref r, .int c, .int f, .int t] => ∃ v b : Nat, v = r ∧ b < 256 ∧ isExt C v 3 ∧ c = nI b ∧ f = nI 0 ∧ t = nI 11 ∧ Q (some (.int (siX b))) C n z
  | _ => False
set_option maxRecDepth 20000 in
set_option maxHeartbeats 1000000 in
theorem c_J1_indexOf_4cfef (l : Launch) : Con l yJ1_indexOf_4cfef cJ1_indexOf_4cfef 4 (some .int) 1 0 0 sp_J1_indexOf_4cfef := by
  refine m_J1_indexOf_4cfef (c_J1_canEncode_9a6ad l) (by decide) (c_J9_max_7cf53 l) (by decide) (c_J9_min_7cf53 l) (by decide) (c_J1_indexOfChar_4cfef l) (by decide) ?_
  intro as C0 n0 z0 Q h
  unfold sp_J1_indexOf_4cfef at h
  split at h
  · obtain ⟨v, b, rfl, hb, hx, rfl, rfl, rfl, hQ⟩ := h
    refine ⟨Nat.le_of_ble_eq_true rfl, ?_⟩
    obtain ⟨h1, h2⟩ := nI_b255 b hb
    simp only [b_J1_indexOf_4cfef_0, sp_J1_canEncode_9a6ad, sp_J9_max_7cf53, b_J9_max_7cf53_0, b_J9_max_7cf53_10, sp_J9_min_7cf53, b_J9_min_7cf53_0, b_J9_min_7cf53_10, sp_J1_indexOfChar_4cfef, lg_sl, s_psh, s_ild, s_ald, s_ist, s_ast, s_inc, s_ib, s_iu, s_pop, s_cs, s_cvx, s_getv, s_getc, s_alenx, s_bldx, s_pshq, s_iret, s_vret, gpad, gl, gst, gclr, gc2, gent, gcat, Value.category, List.drop_succ_cons, List.drop_zero, List.take_succ_cons, List.take_zero, List.reverse_cons, List.reverse_nil, List.nil_append, List.cons_append, List.append_nil, List.map_cons, List.map_nil, List.sum_cons, List.sum_nil, List.length_cons, List.length_nil, Option.toList, cond_true, cond_false, Nat.reduceBEq, Nat.reduceAdd, Nat.reduceLeDiff, beq_self_eq_true, true_and, and_true, BEq.rfl, Bool.false_eq_true, if_true, if_false]
    refine ⟨h1, h2, if1i (fun e => absurd e (by decide)) (fun _ => ?_)⟩
    simp only [b_J9_max_7cf53_0, b_J9_max_7cf53_10, b_J9_min_7cf53_0, b_J9_min_7cf53_10, lg_sl, s_psh, s_ild, s_ald, s_ist, s_ast, s_inc, s_ib, s_iu, s_pop, s_cs, s_cvx, s_getv, s_getc, s_alenx, s_bldx, s_pshq, s_iret, s_vret, gpad, gl, gst, gclr, gc2, gent, gcat, Value.category, List.drop_succ_cons, List.drop_zero, List.take_succ_cons, List.take_zero, List.reverse_cons, List.reverse_nil, List.nil_append, List.cons_append, List.append_nil, List.map_cons, List.map_nil, List.sum_cons, List.sum_nil, List.length_cons, List.length_nil, Option.toList, cond_true, cond_false, Nat.reduceBEq, Nat.reduceAdd, Nat.reduceLeDiff, beq_self_eq_true, true_and, and_true, BEq.rfl, Bool.false_eq_true, if_true, if_false]
    refine ⟨by decide, if2i (fun e => absurd e (by decide)) (fun _ => ?_)⟩
    simp only [sp_J9_min_7cf53, b_J9_min_7cf53_0, b_J9_min_7cf53_10, lg_sl, s_psh, s_ild, s_ald, s_ist, s_ast, s_inc, s_ib, s_iu, s_pop, s_cs, s_cvx, s_getv, s_getc, s_alenx, s_bldx, s_pshq, s_iret, s_vret, gpad, gl, gst, gclr, gc2, gent, gcat, Value.category, List.drop_succ_cons, List.drop_zero, List.take_succ_cons, List.take_zero, List.reverse_cons, List.reverse_nil, List.nil_append, List.cons_append, List.append_nil, List.map_cons, List.map_nil, List.sum_cons, List.sum_nil, List.length_cons, List.length_nil, Option.toList, cond_true, cond_false, Nat.reduceBEq, Nat.reduceAdd, Nat.reduceLeDiff, beq_self_eq_true, true_and, and_true, BEq.rfl, Bool.false_eq_true, if_true, if_false]
    refine ⟨rfl, 1, by decide, hx, ?_⟩
    rw [gLen_1]
    refine ⟨by decide, by decide, if2i (fun e => absurd e (by decide)) (fun _ => ?_)⟩
    simp only [s_psh, s_ild, s_ald, s_ist, s_ast, s_inc, s_ib, s_iu, s_pop, s_cs, s_cvx, s_getv, s_getc, s_alenx, s_bldx, s_pshq, s_iret, s_vret, gpad, gl, gst, gclr, gc2, gent, gcat, Value.category, List.drop_succ_cons, List.drop_zero, List.take_succ_cons, List.take_zero, List.reverse_cons, List.reverse_nil, List.nil_append, List.cons_append, List.append_nil, List.map_cons, List.map_nil, List.sum_cons, List.sum_nil, List.length_cons, List.length_nil, Option.toList, cond_true, cond_false, Nat.reduceBEq, Nat.reduceAdd, Nat.reduceLeDiff, beq_self_eq_true, true_and, and_true, BEq.rfl, Bool.false_eq_true, if_true, if_false]
    refine ⟨rfl, if2i (fun _ => ?_) (fun e => absurd (by decide) e)⟩
    simp only [s_psh, s_ild, s_ald, s_ist, s_ast, s_inc, s_ib, s_iu, s_pop, s_cs, s_cvx, s_getv, s_getc, s_alenx, s_bldx, s_pshq, s_iret, s_vret, gpad, gl, gst, gclr, gc2, gent, gcat, Value.category, List.drop_succ_cons, List.drop_zero, List.take_succ_cons, List.take_zero, List.reverse_cons, List.reverse_nil, List.nil_append, List.cons_append, List.append_nil, List.map_cons, List.map_nil, List.sum_cons, List.sum_nil, List.length_cons, List.length_nil, Option.toList, cond_true, cond_false, Nat.reduceBEq, Nat.reduceAdd, Nat.reduceLeDiff, beq_self_eq_true, true_and, and_true, BEq.rfl, Bool.false_eq_true, if_true, if_false]
    exact ⟨v, b, rfl, hb, hx, rfl, rfl, rfl, rfl, hQ⟩
  · exact h.elim
def sp_J0_indexOf_7cf53 : gSp := fun as C n z Q => match as with
  | [.ref r, .int c, .int f] => ∃ v b : Nat, v = r ∧ b < 256 ∧ isExt C v 2 ∧ c = nI b ∧ f = nI 0 ∧ Q (some (.int (siX b))) C n z
  | _ => False
set_option maxRecDepth 20000 in
set_option maxHeartbeats 1000000 in
theorem c_J0_indexOf_7cf53 (l : Launch) : Con l yJ0_indexOf_7cf53 cJ0_indexOf_7cf53 3 (some .int) 5 0 0 sp_J0_indexOf_7cf53 := by
  refine m_J0_indexOf_7cf53 (c_J0_isLatin1_aae02 l) (by decide) (c_J0_length_8abf5 l) (by decide) (c_J2_indexOf_4cfef l) (by decide) (c_J1_indexOf_4cfef l) (by decide) ?_
  intro as C0 n0 z0 Q h
  unfold sp_J0_indexOf_7cf53 at h
  split at h
  · obtain ⟨v, b, rfl, hb, hx, rfl, rfl, hQ⟩ := h
    refine ⟨Nat.le_of_ble_eq_true rfl, ?_⟩
    simp only [b_J0_indexOf_7cf53_0, sp_J0_isLatin1_aae02, s_psh, s_ild, s_ald, s_ist, s_ast, s_inc, s_ib, s_iu, s_pop, s_cs, s_cvx, s_getv, s_getc, s_alenx, s_bldx, s_pshq, s_iret, s_vret, gpad, gl, gst, gclr, gc2, gent, gcat, Value.category, List.drop_succ_cons, List.drop_zero, List.take_succ_cons, List.take_zero, List.reverse_cons, List.reverse_nil, List.nil_append, List.cons_append, List.append_nil, List.map_cons, List.map_nil, List.sum_cons, List.sum_nil, List.length_cons, List.length_nil, Option.toList, cond_true, cond_false, Nat.reduceBEq, Nat.reduceAdd, Nat.reduceLeDiff, beq_self_eq_true, true_and, and_true, BEq.rfl, Bool.false_eq_true, if_true, if_false]
    refine ⟨⟨1, by decide, hx⟩, ⟨1, by decide, hx⟩, if1i (fun e => absurd e (by decide)) (fun _ => ?_)⟩
    simp only [sp_J0_length_8abf5, sp_J1_indexOf_4cfef, b_J0_indexOf_7cf53_36, s_psh, s_ild, s_ald, s_ist, s_ast, s_inc, s_ib, s_iu, s_pop, s_cs, s_cvx, s_getv, s_getc, s_alenx, s_bldx, s_pshq, s_iret, s_vret, gpad, gl, gst, gclr, gc2, gent, gcat, Value.category, List.drop_succ_cons, List.drop_zero, List.take_succ_cons, List.take_zero, List.reverse_cons, List.reverse_nil, List.nil_append, List.cons_append, List.append_nil, List.map_cons, List.map_nil, List.sum_cons, List.sum_nil, List.length_cons, List.length_nil, Option.toList, cond_true, cond_false, Nat.reduceBEq, Nat.reduceAdd, Nat.reduceLeDiff, beq_self_eq_true, true_and, and_true, BEq.rfl, Bool.false_eq_true, if_true, if_false]
    refine ⟨1, by decide, hx, fun w hw => ⟨⟨1, by decide, hx⟩, 1, by decide, hx, w, b, rfl, hb, hw, rfl, rfl, rfl, hQ⟩⟩
  · exact h.elim
def sp_J0_indexOf_0f7a4 : gSp := fun as C n z Q => match as with
  | [.ref r, .int c] => ∃ v b : Nat, v = r ∧ b < 256 ∧ isExt C v 2 ∧ c = nI b ∧ Q (some (.int (siX b))) C n z
  | _ => False
set_option maxRecDepth 20000 in
set_option maxHeartbeats 1000000 in
theorem c_J0_indexOf_0f7a4 (l : Launch) : Con l yJ0_indexOf_0f7a4 cJ0_indexOf_0f7a4 2 (some .int) 6 0 0 sp_J0_indexOf_0f7a4 := by
  refine m_J0_indexOf_0f7a4 (c_J0_indexOf_7cf53 l) (by decide) ?_
  intro as C0 n0 z0 Q h
  unfold sp_J0_indexOf_0f7a4 at h
  split at h
  · obtain ⟨v, b, rfl, hb, hx, rfl, hQ⟩ := h
    refine ⟨Nat.le_of_ble_eq_true rfl, ?_⟩
    simp only [b_J0_indexOf_0f7a4_0, sp_J0_indexOf_7cf53, s_psh, s_ild, s_ald, s_ist, s_ast, s_inc, s_ib, s_iu, s_pop, s_cs, s_cvx, s_getv, s_getc, s_alenx, s_bldx, s_pshq, s_iret, s_vret, gpad, gl, gst, gclr, gc2, gent, gcat, Value.category, List.drop_succ_cons, List.drop_zero, List.take_succ_cons, List.take_zero, List.reverse_cons, List.reverse_nil, List.nil_append, List.cons_append, List.append_nil, List.map_cons, List.map_nil, List.sum_cons, List.sum_nil, List.length_cons, List.length_nil, Option.toList, cond_true, cond_false, Nat.reduceBEq, Nat.reduceAdd, Nat.reduceLeDiff, beq_self_eq_true, true_and, and_true, BEq.rfl, Bool.false_eq_true, if_true, if_false]
    exact ⟨⟨1, by decide, hx⟩, v, b, rfl, hb, hx, rfl, rfl, rfl, hQ⟩
  · exact h.elim
