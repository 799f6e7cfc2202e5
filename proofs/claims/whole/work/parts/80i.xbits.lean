/-! the JDK's bitCount, of twelve bits -/
def bcS (x k : Int32) : Int32 := (x.toUInt32 >>> (k.toUInt32 &&& Int32.toUInt32 31)).toInt32
def bc1 (x : Int32) : Int32 := x - (bcS x 1 &&& 1431655765)
def bc2 (x : Int32) : Int32 := (x &&& 858993459) + (bcS x 2 &&& 858993459)
def bc3 (x : Int32) : Int32 := (x + bcS x 4) &&& 252645135
def bc4 (x : Int32) : Int32 := x + bcS x 8
def bc5 (x : Int32) : Int32 := x + bcS x 16
def bcF (x : Int32) : Int32 := bc5 (bc4 (bc3 (bc2 (bc1 x)))) &&& 63
theorem bcF_eq : ∀ v, v < 4096 → bcF (nI v) = nI (popc v) := by64 (by decide +kernel)
def sp_J6_bitCount_0f7a4 : gSp := fun as C n z Q => match as with
  | [.int x] => ∃ v, x = nI v ∧ v < 4096 ∧ Q (some (.int (nI (popc v)))) C n z
  | _ => False
set_option maxRecDepth 100000 in
theorem c_J6_bitCount_0f7a4 (l : Launch) : Con l yJ6_bitCount_0f7a4 cJ6_bitCount_0f7a4 1 (some .int) 0 0 0 sp_J6_bitCount_0f7a4 := by
  refine m_J6_bitCount_0f7a4 ?_
  intro as C0 n0 z0 Q h
  unfold sp_J6_bitCount_0f7a4 at h
  split at h
  · obtain ⟨v, rfl, hv, hQ⟩ := h
    rw [← bcF_eq v hv] at hQ
    refine ⟨Nat.le_of_ble_eq_true rfl, ?_⟩
    simp only [b_J6_bitCount_0f7a4_0, s_psh, s_ild, s_lld, s_ald, s_ist, s_lst, s_ast, s_inc, s_ib, s_ibz, s_iu, s_lb, s_lbz, s_lu, s_ls, s_il, s_li, s_cmp, s_dup, s_pop, s_dup2, s_cv, s_cs, s_ci, s_oi, s_get, s_put, s_iald, s_lald, s_zald, s_iast, s_last, s_zast, s_alen, s_iret, s_lret, s_aret, s_vret, s_al, gpad, gl, gst, gclr, gc2, gent, gcat, Value.category, List.drop_succ_cons, List.drop_zero, List.take_succ_cons, List.take_zero, List.reverse_cons, List.reverse_nil, List.nil_append, List.cons_append, List.append_nil, List.map_cons, List.map_nil, List.sum_cons, List.sum_nil, List.length_cons, List.length_nil, Option.toList, cond_true, cond_false, Nat.reduceBEq, Nat.reduceAdd, Nat.reduceLeDiff, beq_self_eq_true, true_and, and_true, BEq.rfl, Bool.false_eq_true, if_true, if_false, Sq_0, Sq_1, Sq_2, Sq_3, Sq_4, Sqf_0, Sqf_1, Sqf_2, Sqf_3, Sqf_4, Sqf_5, Sqf_6, Sqs_4, Sqs_5, Sqs_6, Squ_1, Squ_2, Squ_3, Squ_4]
    exact ⟨rfl, hQ⟩
  · exact h.elim
