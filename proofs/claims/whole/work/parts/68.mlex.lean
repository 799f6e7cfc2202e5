/-! the reference's tokens -/
theorem pk_lshl {n : Nat} (s : Int64) (k : Nat) (hs : (s.toBitVec.smod 64).toNat = k) (h : n * 2 ^ k < 2 ^ 64) : lN n <<< s = lN (n * 2 ^ k) := by
  apply Int64.toBitVec_inj.mp
  apply BitVec.eq_of_toNat_eq
  have hn : n < 2 ^ 64 := Nat.lt_of_le_of_lt (Nat.le_mul_of_pos_right n (Nat.two_pow_pos k)) h
  show ((lN n).toBitVec <<< (s.toBitVec.smod 64).toNat).toNat = _
  rw [hs, BitVec.toNat_shiftLeft, Nat.shiftLeft_eq]
  show (BitVec.ofNat 64 n).toNat * 2 ^ k % 2 ^ 64 = (BitVec.ofNat 64 (n * 2 ^ k)).toNat
  rw [BitVec.toNat_ofNat, BitVec.toNat_ofNat, Nat.mod_eq_of_lt hn]
theorem pk_lshr {n : Nat} (h : n < 2 ^ 63) (s : Int64) (k : Nat) (hs : (s.toBitVec.smod 64).toNat = k) : lN n >>> s = lN (n / 2 ^ k) := by
  apply Int64.toInt_inj.mp
  have h2 : n / 2 ^ k ≤ n := Nat.div_le_self _ _
  show ((lN n).toBitVec.sshiftRight (s.toBitVec.smod 64).toNat).toInt = _
  rw [hs, BitVec.toInt_sshiftRight, show (lN n).toBitVec.toInt = (n : Int) from pk_lT h, pk_lT (by omega), Int.shiftRight_eq_div_pow]
  rfl
theorem lN_or (a b : Nat) : lN a ||| lN b = lN (a ||| b) := by
  apply Int64.toBitVec_inj.mp
  rw [Int64.toBitVec_or]
  apply BitVec.eq_of_getLsbD_eq
  intro i hi
  show (BitVec.ofNat 64 a ||| BitVec.ofNat 64 b).getLsbD i = (BitVec.ofNat 64 (a ||| b)).getLsbD i
  simp [BitVec.getLsbD_ofNat, Nat.testBit_or, hi]
theorem or_byte {a b : Nat} (h : b < 256) : a * 256 ||| b = a * 256 + b := by
  have := Nat.shiftLeft_add_eq_or_of_lt (i := 8) (b := b) (by simpa using h) a
  rw [Nat.shiftLeft_eq] at this
  simpa using this.symm
theorem shr48 {w : Nat} (h : w < 2 ^ 63) : lN w >>> ((nI 48).toInt64 &&& lN 63) = lN (w / 2 ^ 48) := pk_lshr h _ 48 (by decide)
theorem shl8 {w b : Nat} (h : w < 2 ^ 48) (hb : b < 256) : lN w <<< ((nI 8).toInt64 &&& lN 63) ||| (nI b).toInt64 = lN (w * 256 + b) := by
  rw [pk_lshl _ 8 (by decide) (by omega), nI_l (by omega), lN_or]
  rw [show (2 : Nat) ^ 8 = 256 from rfl, or_byte hb]
noncomputable def byT (T : Nat → Nat) (len q : Nat) : Int32 := pif (q < len) (nI (T q)) (-nI 1)
theorem byT_in {T : Nat → Nat} {len q : Nat} (h : q < len) : byT T len q = nI (T q) := pif_t h
theorem byT_out {T : Nat → Nat} {len q : Nat} (h : ¬ q < len) : byT T len q = -nI 1 := pif_f h
theorem neg_nle {k : Nat} (h : k < 2 ^ 31) : ¬ nI k ≤ -nI 1 := by
  intro q
  rw [Int32.le_iff_toInt_le, nI_toInt h] at q
  have : (-nI 1 : Int32).toInt = -1 := by decide
  omega
section BY
variable {T : Nat → Nat} {len q : Nat}
theorem byT_dg (hT : T q < 256) : (nI 48 ≤ byT T len q ∧ byT T len q ≤ nI 57) = (q < len ∧ isDg (T q) = true) := by
  by_cases h : q < len
  · rw [byT_in h]
    simp (disch := omega) only [nI_leI, h, true_and, isDg, Bool.and_eq_true, decide_eq_true_eq]
  · rw [byT_out h]
    simp only [neg_nle (k := 48) (by decide), h, false_and]
theorem byT_lt (hT : T q < 256) : ((nI 97 ≤ byT T len q ∧ byT T len q ≤ nI 122) ∨ (nI 65 ≤ byT T len q ∧ byT T len q ≤ nI 90)) = (q < len ∧ isLt (T q) = true) := by
  by_cases h : q < len
  · rw [byT_in h]
    simp (disch := omega) only [nI_leI, h, true_and, isLt, Bool.or_eq_true, Bool.and_eq_true, decide_eq_true_eq]
  · rw [byT_out h]
    simp only [neg_nle (k := 97) (by decide), neg_nle (k := 65) (by decide), h, false_and, or_self]
theorem byT_eq {k : Nat} (hT : T q < 256) (hk : k < 2 ^ 31) : (byT T len q = nI k) = (q < len ∧ T q = k) := by
  by_cases h : q < len
  · rw [byT_in h]
    simp (disch := omega) only [nI_eq, h, true_and]
  · rw [byT_out h]
    simp only [h, false_and, eq_iff_iff, iff_false]
    exact fun e => neg_nle (k := k) hk (by rw [e]; exact Int32.le_refl _)
theorem byT_0 (hT : T q < 256) : (nI 0 ≤ byT T len q) = (q < len) := by
  by_cases h : q < len
  · rw [byT_in h]
    simp (disch := omega) only [nI_leI, h, Nat.zero_le]
  · rw [byT_out h]
    simp only [neg_nle (k := 0) (by decide), h]
end BY
def sp_X12_byteAt : gSp := fun as C n z Q => match as with
  | [.ref m, .int x] => isM C m ∧ (x < gint C m 12 4 → vp_in x 300) ∧ Q (some (.int (pif (x < gint C m 12 4) (garr C (m + 4) x.toNatClampNeg) (-nI 1)))) C n z
  | _ => False
set_option maxRecDepth 100000 in
theorem c_X12_byteAt (l : Launch) : Con l yX12_byteAt cX12_byteAt 2 (some .int) 0 0 0 sp_X12_byteAt := by
  refine m_X12_byteAt ?_
  intro as C0 n0 z0 Q h
  unfold sp_X12_byteAt at h
  split at h
  · rename_i m x
    obtain ⟨⟨σ, w, A, L, R, rfl⟩, hx, hQ⟩ := h
    refine ⟨Nat.le_of_ble_eq_true rfl, ?_⟩
    simp only [ma_4, mi_4] at hx hQ
    simp only [b_X12_byteAt_0, b_X12_byteAt_18, s_psh, s_ild, s_lld, s_ald, s_ist, s_lst, s_ast, s_inc, s_ib, s_ibz, s_iu, s_lb, s_lbz, s_lu, s_ls, s_il, s_li, s_cmp, s_dup, s_pop, s_dup2, s_if1, s_if2, s_ifn, s_cv, s_cs, s_ci, s_oi, s_get, s_put, s_iald, s_lald, s_zald, s_iast, s_last, s_zast, s_alen, s_iret, s_lret, s_aret, s_vret, s_al, gpad, gl, gst, gclr, gc2, gent, gcat, Value.category, List.drop_succ_cons, List.drop_zero, List.take_succ_cons, List.take_zero, List.reverse_cons, List.reverse_nil, List.nil_append, List.cons_append, List.append_nil, List.map_cons, List.map_nil, List.sum_cons, List.sum_nil, List.length_cons, List.length_nil, Option.toList, cond_true, cond_false, Nat.reduceBEq, Nat.reduceAdd, Nat.reduceLeDiff, beq_self_eq_true, true_and, and_true, BEq.rfl, Bool.false_eq_true, if_true, if_false, menc_0, menc_1, menc_2, menc_3, menc_4, menc_5, menc_6, menc_7, menc_8, menc_9, menc_10, menc_11, menc_12, menc_13, menc_14, mf_0, mf_1, mf_2, mf_3, mf_4, mf_5, mf_6, mf_7, mf_8, mf_9, mf_10, mf_11, mf_12, mf_13, mf_14, mf_15, mf_16, mf_17, mf_18, mf_19, mf_20, mf_21, mf_22, mf_23, mf_24, mf_25, mf_26, mf_27, mf_28, mf_29, mf_30, mf_31, ms_4, ms_5, ms_6, ms_7, ms_8, ms_9, ms_10, ms_11, ms_12, ms_13, ms_14, ms_16, ms_17, ms_18, ms_19, ms_23, ms_24, ms_27, mu_1, mu_2, mu_3, mu_4, mu_5, mu_6, mu_7, mu_8, mu_9, mu_10, mu_11, mu_12, mu_13, mu_14]
    simp only [true_and, and_true, lit, nI_add, nar_i, nar_0, nar_1, nar_b, fit_i, fit_l, pk_rem, nI_leI, nI_ltI, nI_eq, vin_iff, nI_clamp, nI_m1]
    refine ⟨fun e => ?_, fun e => ⟨hx (Int32.not_le.mp e), ?_⟩⟩
    · rw [pif_f (Int32.not_lt.mpr e)] at hQ; exact hQ
    · rw [pif_t (Int32.not_le.mp e)] at hQ; exact hQ
  · exact h.elim
def sp_X12_isFigure : gSp := fun as C n z Q => match as with
  | [.int x] => Q (some (.int (bI (nI 48 ≤ x ∧ x ≤ nI 57)))) C n z
  | _ => False
set_option maxRecDepth 100000 in
theorem c_X12_isFigure (l : Launch) : Con l yX12_isFigure cX12_isFigure 1 (some .boolean) 0 0 0 sp_X12_isFigure := by
  refine m_X12_isFigure ?_
  intro as C0 n0 z0 Q h
  unfold sp_X12_isFigure at h
  split at h
  · rename_i x
    refine ⟨Nat.le_of_ble_eq_true rfl, ?_⟩
    simp only [b_X12_isFigure_0, b_X12_isFigure_16, b_X12_isFigure_17, s_psh, s_ild, s_lld, s_ald, s_ist, s_lst, s_ast, s_inc, s_ib, s_ibz, s_iu, s_lb, s_lbz, s_lu, s_ls, s_il, s_li, s_cmp, s_dup, s_pop, s_dup2, s_if1, s_if2, s_ifn, s_cv, s_cs, s_ci, s_oi, s_get, s_put, s_iald, s_lald, s_zald, s_iast, s_last, s_zast, s_alen, s_iret, s_lret, s_aret, s_vret, s_al, gpad, gl, gst, gclr, gc2, gent, gcat, Value.category, List.drop_succ_cons, List.drop_zero, List.take_succ_cons, List.take_zero, List.reverse_cons, List.reverse_nil, List.nil_append, List.cons_append, List.append_nil, List.map_cons, List.map_nil, List.sum_cons, List.sum_nil, List.length_cons, List.length_nil, Option.toList, cond_true, cond_false, Nat.reduceBEq, Nat.reduceAdd, Nat.reduceLeDiff, beq_self_eq_true, true_and, and_true, BEq.rfl, Bool.false_eq_true, if_true, if_false, menc_0, menc_1, menc_2, menc_3, menc_4, menc_5, menc_6, menc_7, menc_8, menc_9, menc_10, menc_11, menc_12, menc_13, menc_14, mf_0, mf_1, mf_2, mf_3, mf_4, mf_5, mf_6, mf_7, mf_8, mf_9, mf_10, mf_11, mf_12, mf_13, mf_14, mf_15, mf_16, mf_17, mf_18, mf_19, mf_20, mf_21, mf_22, mf_23, mf_24, mf_25, mf_26, mf_27, mf_28, mf_29, mf_30, mf_31, ms_4, ms_5, ms_6, ms_7, ms_8, ms_9, ms_10, ms_11, ms_12, ms_13, ms_14, ms_16, ms_17, ms_18, ms_19, ms_23, ms_24, ms_27, mu_1, mu_2, mu_3, mu_4, mu_5, mu_6, mu_7, mu_8, mu_9, mu_10, mu_11, mu_12, mu_13, mu_14]
    simp only [true_and, and_true, lit, nI_add, nar_i, nar_0, nar_1, nar_b, fit_i, fit_l, pk_rem, nI_leI, nI_ltI, nI_eq, vin_iff, nI_clamp, nI_m1]
    refine ⟨fun e => ?_, fun e => ⟨fun e2 => ?_, fun e2 => ?_⟩⟩
    · rw [bI_f (fun q => Int32.not_lt.mpr q.1 e)] at h; exact h
    · rw [bI_f (fun q => Int32.not_lt.mpr q.2 e2)] at h; exact h
    · rw [bI_t ⟨Int32.not_lt.mp e, Int32.not_lt.mp e2⟩] at h; exact h
  · exact h.elim
def sp_X12_isLetterByte : gSp := fun as C n z Q => match as with
  | [.int x] => Q (some (.int (bI ((nI 97 ≤ x ∧ x ≤ nI 122) ∨ (nI 65 ≤ x ∧ x ≤ nI 90))))) C n z
  | _ => False
set_option maxRecDepth 100000 in
theorem c_X12_isLetterByte (l : Launch) : Con l yX12_isLetterByte cX12_isLetterByte 1 (some .boolean) 0 0 0 sp_X12_isLetterByte := by
  refine m_X12_isLetterByte ?_
  intro as C0 n0 z0 Q h
  unfold sp_X12_isLetterByte at h
  split at h
  · rename_i x
    refine ⟨Nat.le_of_ble_eq_true rfl, ?_⟩
    have t1 : ((nI 97 ≤ x ∧ x ≤ nI 122) ∨ (nI 65 ≤ x ∧ x ≤ nI 90)) → Q (some (.int (nI 1))) C0 n0 z0 := fun q => by rw [bI_t q] at h; exact h
    have t2 : ¬ ((nI 97 ≤ x ∧ x ≤ nI 122) ∨ (nI 65 ≤ x ∧ x ≤ nI 90)) → Q (some (.int (nI 0))) C0 n0 z0 := fun q => by rw [bI_f q] at h; exact h
    simp only [b_X12_isLetterByte_0, b_X12_isLetterByte_12, b_X12_isLetterByte_24, b_X12_isLetterByte_28, b_X12_isLetterByte_29, s_psh, s_ild, s_lld, s_ald, s_ist, s_lst, s_ast, s_inc, s_ib, s_ibz, s_iu, s_lb, s_lbz, s_lu, s_ls, s_il, s_li, s_cmp, s_dup, s_pop, s_dup2, s_if1, s_if2, s_ifn, s_cv, s_cs, s_ci, s_oi, s_get, s_put, s_iald, s_lald, s_zald, s_iast, s_last, s_zast, s_alen, s_iret, s_lret, s_aret, s_vret, s_al, gpad, gl, gst, gclr, gc2, gent, gcat, Value.category, List.drop_succ_cons, List.drop_zero, List.take_succ_cons, List.take_zero, List.reverse_cons, List.reverse_nil, List.nil_append, List.cons_append, List.append_nil, List.map_cons, List.map_nil, List.sum_cons, List.sum_nil, List.length_cons, List.length_nil, Option.toList, cond_true, cond_false, Nat.reduceBEq, Nat.reduceAdd, Nat.reduceLeDiff, beq_self_eq_true, true_and, and_true, BEq.rfl, Bool.false_eq_true, if_true, if_false, menc_0, menc_1, menc_2, menc_3, menc_4, menc_5, menc_6, menc_7, menc_8, menc_9, menc_10, menc_11, menc_12, menc_13, menc_14, mf_0, mf_1, mf_2, mf_3, mf_4, mf_5, mf_6, mf_7, mf_8, mf_9, mf_10, mf_11, mf_12, mf_13, mf_14, mf_15, mf_16, mf_17, mf_18, mf_19, mf_20, mf_21, mf_22, mf_23, mf_24, mf_25, mf_26, mf_27, mf_28, mf_29, mf_30, mf_31, ms_4, ms_5, ms_6, ms_7, ms_8, ms_9, ms_10, ms_11, ms_12, ms_13, ms_14, ms_16, ms_17, ms_18, ms_19, ms_23, ms_24, ms_27, mu_1, mu_2, mu_3, mu_4, mu_5, mu_6, mu_7, mu_8, mu_9, mu_10, mu_11, mu_12, mu_13, mu_14]
    simp only [true_and, and_true, lit, nI_add, nar_i, nar_0, nar_1, nar_b, fit_i, fit_l, pk_rem, nI_leI, nI_ltI, nI_eq, vin_iff, nI_clamp, nI_m1]
    refine ⟨fun e => ⟨fun f => t2 fun q => ?_, fun f => ⟨fun g => t2 fun q => ?_, fun g => t1 (Or.inr ⟨Int32.not_lt.mp f, Int32.not_lt.mp g⟩)⟩⟩, fun e => ⟨fun f => t1 (Or.inl ⟨Int32.not_lt.mp e, f⟩), fun f => ⟨fun g => t2 fun q => ?_, fun g => ⟨fun k => t2 fun q => ?_, fun k => t1 (Or.inr ⟨Int32.not_lt.mp g, Int32.not_lt.mp k⟩)⟩⟩⟩⟩
    · rcases q with q | q
      · exact Int32.not_lt.mpr q.1 e
      · exact Int32.not_lt.mpr q.1 f
    · rcases q with q | q
      · exact Int32.not_lt.mpr q.1 e
      · exact Int32.not_lt.mpr q.2 g
    · rcases q with q | q
      · exact f q.2
      · exact Int32.not_lt.mpr q.1 g
    · rcases q with q | q
      · exact f q.2
      · exact Int32.not_lt.mpr q.2 k
  · exact h.elim
def isSg (b : Nat) : Bool := b == 35 || b == 40 || b == 41 || b == 42 || b == 43 || b == 45 || b == 47 || b == 58 || b == 59 || b == 60 || b == 61 || b == 62
theorem sw_nI {k v : Nat} (hk : k < 2 ^ 31) (hv : v < 2 ^ 31) : (nI k = nI v) = (k = v) := propext (nI_eq hk hv)
def sp_X12_isSign : gSp := fun as C n z Q => match as with
  | [.int x] => ∃ b, b < 256 ∧ x = nI b ∧ Q (some (.int (bI (isSg b = true)))) C n z
  | _ => False

set_option maxRecDepth 100000 in
theorem c_X12_isSign (l : Launch) : Con l yX12_isSign cX12_isSign 1 (some .boolean) 0 0 0 sp_X12_isSign := by
  refine m_X12_isSign ?_
  intro as C0 n0 z0 Q h
  unfold sp_X12_isSign at h
  split at h
  · obtain ⟨b, hb, rfl, h⟩ := h
    refine ⟨Nat.le_of_ble_eq_true rfl, ?_⟩
    have t1 : isSg b = true → Q (some (.int (nI 1))) C0 n0 z0 := fun q => by rw [bI_t q] at h; exact h
    have t2 : ¬ isSg b = true → Q (some (.int (nI 0))) C0 n0 z0 := fun q => by rw [bI_f q] at h; exact h
    simp only [b_X12_isSign_0, s_sw, List.forall_mem_cons, s_psh, s_ild, s_lld, s_ald, s_ist, s_lst, s_ast, s_inc, s_ib, s_ibz, s_iu, s_lb, s_lbz, s_lu, s_ls, s_il, s_li, s_cmp, s_dup, s_pop, s_dup2, s_if1, s_if2, s_ifn, s_cv, s_cs, s_ci, s_oi, s_get, s_put, s_iald, s_lald, s_zald, s_iast, s_last, s_zast, s_alen, s_iret, s_lret, s_aret, s_vret, s_al, gpad, gl, gst, gclr, gc2, gent, gcat, Value.category, List.drop_succ_cons, List.drop_zero, List.take_succ_cons, List.take_zero, List.reverse_cons, List.reverse_nil, List.nil_append, List.cons_append, List.append_nil, List.map_cons, List.map_nil, List.sum_cons, List.sum_nil, List.length_cons, List.length_nil, Option.toList, cond_true, cond_false, Nat.reduceBEq, Nat.reduceAdd, Nat.reduceLeDiff, beq_self_eq_true, true_and, and_true, BEq.rfl, Bool.false_eq_true, if_true, if_false, menc_0, menc_1, menc_2, menc_3, menc_4, menc_5, menc_6, menc_7, menc_8, menc_9, menc_10, menc_11, menc_12, menc_13, menc_14, mf_0, mf_1, mf_2, mf_3, mf_4, mf_5, mf_6, mf_7, mf_8, mf_9, mf_10, mf_11, mf_12, mf_13, mf_14, mf_15, mf_16, mf_17, mf_18, mf_19, mf_20, mf_21, mf_22, mf_23, mf_24, mf_25, mf_26, mf_27, mf_28, mf_29, mf_30, mf_31, ms_4, ms_5, ms_6, ms_7, ms_8, ms_9, ms_10, ms_11, ms_12, ms_13, ms_14, ms_16, ms_17, ms_18, ms_19, ms_23, ms_24, ms_27, mu_1, mu_2, mu_3, mu_4, mu_5, mu_6, mu_7, mu_8, mu_9, mu_10, mu_11, mu_12, mu_13, mu_14]
    simp (disch := omega) only [true_and, and_true, lit, nI_add, nar_i, nar_0, nar_1, nar_b, fit_i, fit_l, pk_rem, nI_leI, nI_ltI, nI_eq, vin_iff, nI_clamp, nI_m1, sw_nI]
    refine ⟨?_, fun e => t2 (by simp only [isSg, Bool.or_eq_true, beq_iff_eq]; omega)⟩
    and_intros
    all_goals first | exact fun e => t1 (by rw [e]; rfl) | exact fun e => t2 (by rw [e]; decide) | (intro x hx; simp at hx)
  · exact h.elim
/-- the reference's token at the place s of a tape -/
noncomputable def tokC (T : Nat → Nat) (len s : Nat) : Nat := pif (isTwo T len s) (if T s = 60 then 4 else 5) (if isSg (T s) = true then T s else 3)
def tokM (T : Nat → Nat) (len s : Nat) (σ : Nat → Int32) (w : Int64) : Prop := σ 8 = nI s ∧ (s < len → σ 7 = nI (tE T len s) ∧ (isDg (T s) = true → σ 9 = nI 1 ∧ σ 10 = nI (nR T s (tE T len s - s))) ∧ (isLt (T s) = true → σ 9 = nI 2 ∧ w = lN (wR T s (tE T len s - s))) ∧ (isDg (T s) = false → isLt (T s) = false → σ 9 = nI (tokC T len s))) ∧ (¬ s < len → σ 7 = nI s ∧ σ 9 = nI 0)
theorem dg_lt {b : Nat} (h : isDg b = true) : isLt b = false := by
  simp only [isDg, isLt, Bool.and_eq_true, decide_eq_true_eq, Bool.or_eq_false_iff, Bool.and_eq_false_iff, decide_eq_false_iff_not] at *
  omega
theorem tE_dg {T : Nat → Nat} {len s : Nat} (h : isDg (T s) = true) : tE T len s = spL T isDg len s := by
  unfold tE
  rw [if_neg (by rw [dg_lt h]; decide), if_pos h]
theorem tE_lt {T : Nat → Nat} {len s : Nat} (h : isLt (T s) = true) : tE T len s = spL T isLt len s := if_pos h
theorem tE_sg {T : Nat → Nat} {len s : Nat} (h1 : isDg (T s) = false) (h2 : isLt (T s) = false) : tE T len s = pif (isTwo T len s) (s + 2) (s + 1) := by
  unfold tE
  rw [if_neg (by rw [h2]; decide), if_neg (by rw [h1]; decide)]
theorem sup_ne {α : Type} {f : Nat → α} {k j : Nat} {v : α} (h : j ≠ k) : sup f k v j = f j := if_neg h
theorem supa {α : Type} {f : Nat → α} {k j : Nat} {v : α} : sup f k v j = if j = k then v else f j := rfl
def sp_X12_nextToken : gSp := fun as C n z Q => match as with
  | [.ref m] => ∃ σ w A L R T len p, C = menc m σ w A L R ∧ A 4 = (fun k => nI (T k)) ∧ (∀ k, T k < 256) ∧ σ 4 = nI len ∧ len ≤ 300 ∧ σ 7 = nI p ∧ p ≤ len ∧ ∀ σ' w', (∀ j, j ≠ 7 → j ≠ 8 → j ≠ 9 → j ≠ 10 → σ' j = σ j) → tokM T len (spL T isWs len p) σ' w' → Q none (menc m σ' w' A L R) n z
  | _ => False
set_option maxRecDepth 100000 in
set_option maxHeartbeats 4000000 in
theorem c_X12_nextToken (l : Launch) : Con l yX12_nextToken cX12_nextToken 2 none 1 0 0 sp_X12_nextToken := by
  refine m_X12_nextToken (c_X12_byteAt l) (by decide) (c_X12_isLetterByte l) (by decide) (c_X12_isFigure l) (by decide) (c_X12_isSign l) (by decide) ?_
  intro as C0 n0 z0 Q h
  unfold sp_X12_nextToken at h
  split at h
  · rename_i m
    obtain ⟨σ, w, A, L, R, T, len, p, rfl, hA, hT, h4, hlen, h7, hp, hQ⟩ := h
    have hb : ∀ q, pif (q < len) (nI (T q)) (-nI 1) = byT T len q := fun _ => rfl
    refine ⟨Nat.le_of_ble_eq_true rfl, fun pc μ lv st C n z => n = n0 ∧ z = z0 ∧ st = [] ∧ ∃ σ' w' o1, C = menc m σ' w' A L R ∧ lv = [some (.ref m), o1] ∧ (∀ j, j ≠ 7 → j ≠ 8 → j ≠ 9 → j ≠ 10 → σ' j = σ j) ∧ (if pc = 0 then ∃ q, q ≤ len ∧ σ' 7 = nI q ∧ spL T isWs len q = spL T isWs len p ∧ μ = 1000 - q else ∃ q, spL T isWs len p < len ∧ spL T isWs len p ≤ q ∧ q ≤ len ∧ σ' 7 = nI q ∧ σ' 8 = nI (spL T isWs len p) ∧ μ = 400 - q ∧ (if pc = 85 then isDg (T (spL T isWs len p)) = true ∧ spL T isDg len q = spL T isDg len (spL T isWs len p) ∧ σ' 9 = nI 1 ∧ σ' 10 = nI (nR T (spL T isWs len p) (q - spL T isWs len p)) else isLt (T (spL T isWs len p)) = true ∧ spL T isLt len q = spL T isLt len (spL T isWs len p) ∧ σ' 9 = nI 2 ∧ w' = lN (wR T (spL T isWs len p) (q - spL T isWs len p)))), ?_, ?_, ?_, ?_⟩
    · exact ⟨_, rfl, rfl, rfl, σ, w, none, rfl, rfl, fun _ _ _ _ _ => rfl, by rw [if_pos rfl]; exact ⟨p, hp, h7, rfl, rfl⟩⟩
    · rintro μ lv st C n z ⟨rfl, rfl, rfl, σ', w', o1, rfl, rfl, hσ, hI⟩
      rw [if_pos rfl] at hI
      obtain ⟨q, hq, h7', hsp, rfl⟩ := hI
      have h4' : σ' 4 = nI len := by rw [hσ 4 (by decide) (by decide) (by decide) (by decide), h4]
      have hTq := hT q
      have hTq1 := hT (q + 1)
      simp only [b_X12_nextToken_0, b_X12_nextToken_26, b_X12_nextToken_247, b_X12_nextToken_272, b_X12_nextToken_297, b_X12_nextToken_310, sp_X12_byteAt, sp_X12_isFigure, sp_X12_isLetterByte, sp_X12_isSign, isM_menc, ma_4, mi_4, supa, Nat.reduceEqDiff, reduceIte, s_psh, s_ild, s_lld, s_ald, s_ist, s_lst, s_ast, s_inc, s_ib, s_ibz, s_iu, s_lb, s_lbz, s_lu, s_ls, s_il, s_li, s_cmp, s_dup, s_pop, s_dup2, s_if1, s_if2, s_ifn, s_cv, s_cs, s_ci, s_oi, s_get, s_put, s_iald, s_lald, s_zald, s_iast, s_last, s_zast, s_alen, s_iret, s_lret, s_aret, s_vret, s_al, gpad, gl, gst, gclr, gc2, gent, gcat, Value.category, List.drop_succ_cons, List.drop_zero, List.take_succ_cons, List.take_zero, List.reverse_cons, List.reverse_nil, List.nil_append, List.cons_append, List.append_nil, List.map_cons, List.map_nil, List.sum_cons, List.sum_nil, List.length_cons, List.length_nil, Option.toList, cond_true, cond_false, Nat.reduceBEq, Nat.reduceAdd, Nat.reduceLeDiff, beq_self_eq_true, true_and, and_true, BEq.rfl, Bool.false_eq_true, if_true, if_false, menc_0, menc_1, menc_2, menc_3, menc_4, menc_5, menc_6, menc_7, menc_8, menc_9, menc_10, menc_11, menc_12, menc_13, menc_14, mf_0, mf_1, mf_2, mf_3, mf_4, mf_5, mf_6, mf_7, mf_8, mf_9, mf_10, mf_11, mf_12, mf_13, mf_14, mf_15, mf_16, mf_17, mf_18, mf_19, mf_20, mf_21, mf_22, mf_23, mf_24, mf_25, mf_26, mf_27, mf_28, mf_29, mf_30, mf_31, ms_4, ms_5, ms_6, ms_7, ms_8, ms_9, ms_10, ms_11, ms_12, ms_13, ms_14, ms_16, ms_17, ms_18, ms_19, ms_23, ms_24, ms_27, mu_1, mu_2, mu_3, mu_4, mu_5, mu_6, mu_7, mu_8, mu_9, mu_10, mu_11, mu_12, mu_13, mu_14]
      simp (disch := omega) only [true_and, and_true, lit, nI_add, nar_i, nar_0, nar_1, nar_b, fit_i, fit_l, pk_rem, nI_leI, nI_ltI, nI_eq, vin_iff, nI_clamp, nI_m1, h4', h7', hA, hb, byT_dg, byT_lt, byT_eq, byT_0, bI_0]
      have go : ∀ (e : q < len) (hw : isWs (T q) = true), ∃ μ', μ' < 1000 - q ∧ ∃ σ'_1 w'_1 o1_1, menc m (sup σ' 7 (nI (q + 1))) w' A L R = menc m σ'_1 w'_1 A L R ∧ [some (Value.ref m), o1] = [some (Value.ref m), o1_1] ∧ (∀ (j : Nat), j ≠ 7 → j ≠ 8 → j ≠ 9 → j ≠ 10 → σ'_1 j = σ j) ∧ ∃ q, q ≤ len ∧ σ'_1 7 = nI q ∧ spL T isWs len q = spL T isWs len p ∧ μ' = 1000 - q := fun e hw => ⟨1000 - (q + 1), by omega, _, _, _, rfl, rfl, fun j a b c d => by rw [supa, if_neg a]; exact hσ j a b c d, q + 1, by omega, by rw [supa, if_pos rfl], by rw [← spL_go e hw]; exact hsp, rfl⟩
      have leaf : ∀ (σ'' : Nat → Int32), q < len → isDg (T q) = false → isLt (T q) = false → spL T isWs len q = q → (∀ j, j ≠ 7 → j ≠ 8 → j ≠ 9 → j ≠ 10 → σ'' j = σ' j) → σ'' 8 = nI q → σ'' 7 = nI (tE T len q) → σ'' 9 = nI (tokC T len q) → Q none (menc m σ'' w' A L R) n z := by
        intro σ'' g1 g2 g3 g4 g5 g6 g7 g8
        refine hQ _ _ (fun j a b c d => by rw [g5 j a b c d]; exact hσ j a b c d) ?_
        rw [← hsp, g4]
        exact ⟨g6, fun _ => ⟨g7, fun q => absurd q (by rw [g2]; decide), fun q => absurd q (by rw [g3]; decide), fun _ _ => g8⟩, fun q => absurd g1 q⟩
      refine ⟨by omega, fun e => go e.1 (by rw [e.2]; rfl), fun e1 => ⟨by omega, fun e => go e.1 (by rw [e.2]; rfl), fun e2 => ⟨by omega, fun hl => ?_, fun hl => ?_⟩⟩⟩
      · have hs : spL T isWs len q = q := spL_stop (fun g => by simp only [isWs, Bool.or_eq_true, beq_iff_eq] at g; omega)
        refine ⟨fun nd => ⟨fun nl => ⟨T q, hTq, byT_in hl, ?_⟩, fun lt => ?_⟩, fun dg => ?_⟩
        · have nd' : isDg (T q) = false := by simpa using fun g => nd ⟨hl, g⟩
          have nl' : isLt (T q) = false := by simpa using fun g => nl ⟨hl, g⟩
          rw [byT_in hl]
          repeat' first | (refine And.intro ?_ ?_) | intro _
          all_goals try omega
          all_goals
            refine leaf _ hl nd' nl' hs (fun j a b c d => ?_) ?_ ?_ ?_
            · simp only [supa, if_neg a, if_neg b, if_neg c, if_neg d]
            · simp only [supa, Nat.reduceEqDiff, reduceIte]
            · simp only [supa, Nat.reduceEqDiff, reduceIte]
              rw [tE_sg nd' nl']
              first | rw [pif_t (by unfold isTwo; omega)] | rw [pif_f (by unfold isTwo; omega)]
            · simp only [supa, Nat.reduceEqDiff, reduceIte]
              unfold tokC
              first | (rw [pif_t (by unfold isTwo; omega)]; first | rw [if_pos (by omega)] | rw [if_neg (by omega)]) | (rw [pif_f (by unfold isTwo; omega)]; first | rw [if_pos (Classical.not_not.mp (by assumption))] | rw [if_neg (by assumption)])
        · obtain ⟨_, lt⟩ := Classical.not_not.mp lt
          refine ⟨400 - q, by omega, _, _, _, rfl, rfl, fun j a b c d => ?_, q, ?_⟩
          · simp only [supa, if_neg a, if_neg b, if_neg c, if_neg d]; exact hσ j a b c d
          · rw [← hsp, hs]
            refine ⟨hl, Nat.le_refl _, hq, ?_, ?_, rfl, lt, rfl, ?_, ?_⟩
            · simp only [supa, Nat.reduceEqDiff, reduceIte]; exact h7'
            · simp only [supa, Nat.reduceEqDiff, reduceIte]
            · simp only [supa, Nat.reduceEqDiff, reduceIte]
            · rw [Nat.sub_self]; rfl
        · obtain ⟨_, dg⟩ := Classical.not_not.mp dg
          refine ⟨400 - q, by omega, _, _, _, rfl, rfl, fun j a b c d => ?_, q, ?_⟩
          · simp only [supa, if_neg a, if_neg b, if_neg c, if_neg d]; exact hσ j a b c d
          · rw [← hsp, hs]
            refine ⟨hl, Nat.le_refl _, hq, ?_, ?_, rfl, dg, rfl, ?_, ?_⟩
            · simp only [supa, Nat.reduceEqDiff, reduceIte]; exact h7'
            · simp only [supa, Nat.reduceEqDiff, reduceIte]
            · simp only [supa, Nat.reduceEqDiff, reduceIte]
            · simp only [supa, Nat.reduceEqDiff, reduceIte]; rw [Nat.sub_self]; rfl
      · have hs : spL T isWs len q = q := spL_stop (fun g => hl g.1)
        refine hQ _ _ (fun j a b c d => ?_) ?_
        · simp only [supa, if_neg a, if_neg b, if_neg c, if_neg d]; exact hσ j a b c d
        · rw [← hsp, hs]
          refine ⟨?_, fun g => absurd g hl, fun _ => ⟨?_, ?_⟩⟩
          · simp only [supa, Nat.reduceEqDiff, reduceIte]
          · simp only [supa, Nat.reduceEqDiff, reduceIte]; exact h7'
          · simp only [supa, Nat.reduceEqDiff, reduceIte]
    · rintro μ lv st C n z ⟨rfl, rfl, rfl, σ', w', o1, rfl, rfl, hσ, hI⟩
      rw [if_neg (by decide)] at hI
      obtain ⟨q, hsl, hsq, hq, h7', h8', rfl, hI⟩ := hI
      rw [if_pos rfl] at hI
      obtain ⟨hdg, hsp, h9', h10'⟩ := hI
      have h4' : σ' 4 = nI len := by rw [hσ 4 (by decide) (by decide) (by decide) (by decide), h4]
      have hTq := hT q
      obtain ⟨hnv, hnb⟩ := nR_nV (T := T) (a := spL T isWs len p) (q - spL T isWs len p) (fun j hj => by
        refine spL_in (p := isDg) (len := len) (i := spL T isWs len p) (by omega) ?_
        rw [← hsp]
        have := spL_ge T isDg len q
        omega)
      simp only [b_X12_nextToken_85, b_X12_nextToken_135, b_X12_nextToken_310, sp_X12_byteAt, sp_X12_isFigure, isM_menc, ma_4, mi_4, supa, Nat.reduceEqDiff, reduceIte, s_psh, s_ild, s_lld, s_ald, s_ist, s_lst, s_ast, s_inc, s_ib, s_ibz, s_iu, s_lb, s_lbz, s_lu, s_ls, s_il, s_li, s_cmp, s_dup, s_pop, s_dup2, s_if1, s_if2, s_ifn, s_cv, s_cs, s_ci, s_oi, s_get, s_put, s_iald, s_lald, s_zald, s_iast, s_last, s_zast, s_alen, s_iret, s_lret, s_aret, s_vret, s_al, gpad, gl, gst, gclr, gc2, gent, gcat, Value.category, List.drop_succ_cons, List.drop_zero, List.take_succ_cons, List.take_zero, List.reverse_cons, List.reverse_nil, List.nil_append, List.cons_append, List.append_nil, List.map_cons, List.map_nil, List.sum_cons, List.sum_nil, List.length_cons, List.length_nil, Option.toList, cond_true, cond_false, Nat.reduceBEq, Nat.reduceAdd, Nat.reduceLeDiff, beq_self_eq_true, true_and, and_true, BEq.rfl, Bool.false_eq_true, if_true, if_false, menc_0, menc_1, menc_2, menc_3, menc_4, menc_5, menc_6, menc_7, menc_8, menc_9, menc_10, menc_11, menc_12, menc_13, menc_14, mf_0, mf_1, mf_2, mf_3, mf_4, mf_5, mf_6, mf_7, mf_8, mf_9, mf_10, mf_11, mf_12, mf_13, mf_14, mf_15, mf_16, mf_17, mf_18, mf_19, mf_20, mf_21, mf_22, mf_23, mf_24, mf_25, mf_26, mf_27, mf_28, mf_29, mf_30, mf_31, ms_4, ms_5, ms_6, ms_7, ms_8, ms_9, ms_10, ms_11, ms_12, ms_13, ms_14, ms_16, ms_17, ms_18, ms_19, ms_23, ms_24, ms_27, mu_1, mu_2, mu_3, mu_4, mu_5, mu_6, mu_7, mu_8, mu_9, mu_10, mu_11, mu_12, mu_13, mu_14]
      simp (disch := omega) only [true_and, and_true, lit, nI_add, nar_i, nar_0, nar_1, nar_b, fit_i, fit_l, pk_rem, nI_leI, nI_ltI, nI_eq, vin_iff, nI_clamp, nI_m1, h4', h7', h9', h10', hA, hb, byT_dg, byT_lt, byT_eq, byT_0, bI_0, pk_mul]
      have step : ∀ (hl : q < len) (dg : isDg (T q) = true) (v : Int32), v = nI (nR T (spL T isWs len p) (q + 1 - spL T isWs len p)) → ∃ μ', μ' < 400 - q ∧ ∃ σ'_1 w'_1 o1_1, menc m (sup (sup σ' 10 v) 7 (nI (q + 1))) w' A L R = menc m σ'_1 w'_1 A L R ∧ [some (Value.ref m), o1] = [some (Value.ref m), o1_1] ∧ (∀ (j : Nat), j ≠ 7 → j ≠ 8 → j ≠ 9 → j ≠ 10 → σ'_1 j = σ j) ∧ ∃ q, spL T isWs len p < len ∧ spL T isWs len p ≤ q ∧ q ≤ len ∧ σ'_1 7 = nI q ∧ σ'_1 8 = nI (spL T isWs len p) ∧ μ' = 400 - q ∧ isDg (T (spL T isWs len p)) = true ∧ spL T isDg len q = spL T isDg len (spL T isWs len p) ∧ σ'_1 9 = nI 1 ∧ σ'_1 10 = nI (nR T (spL T isWs len p) (q - spL T isWs len p)) := by
        intro hl dg v hv
        refine ⟨400 - (q + 1), by omega, _, _, _, rfl, rfl, fun j a b c d => ?_, q + 1, hsl, by omega, by omega, ?_, ?_, rfl, hdg, ?_, ?_, ?_⟩
        · simp only [supa, if_neg a, if_neg b, if_neg c, if_neg d]; exact hσ j a b c d
        · simp only [supa, Nat.reduceEqDiff, reduceIte]
        · simp only [supa, Nat.reduceEqDiff, reduceIte]; exact h8'
        · rw [← spL_go hl dg]; exact hsp
        · simp only [supa, Nat.reduceEqDiff, reduceIte]; exact h9'
        · simp only [supa, Nat.reduceEqDiff, reduceIte]; exact hv
      have hsuc : q + 1 - spL T isWs len p = (q - spL T isWs len p) + 1 := by omega
      refine ⟨by omega, fun nd => ?_, fun dg => ?_⟩
      · have hs : spL T isDg len q = q := spL_stop nd
        have hte : tE T len (spL T isWs len p) = q := by rw [tE_dg hdg, ← hsp, hs]
        refine hQ _ _ hσ ⟨h8', fun _ => ⟨by rw [hte, h7'], fun _ => ⟨h9', by rw [hte, h10']⟩, fun g => absurd g (by rw [dg_lt hdg]; decide), fun g => absurd hdg (by rw [g]; decide)⟩, fun g => absurd hsl g⟩
      · obtain ⟨hl, dg⟩ := Classical.not_not.mp dg
        have hd2 := dg
        simp only [isDg, Bool.and_eq_true, decide_eq_true_eq] at hd2
        refine ⟨fun g => ⟨by omega, step hl dg _ ?_⟩, fun g => step hl dg _ ?_⟩
        · rw [byT_in hl, hsuc, nR, if_neg (by omega), nI_add, pk_sub (by omega)]
          congr 1
          rw [show spL T isWs len p + (q - spL T isWs len p) = q by omega]
          omega
        · rw [hsuc, nR, if_pos (by omega)]
    · rintro μ lv st C n z ⟨rfl, rfl, rfl, σ', w', o1, rfl, rfl, hσ, hI⟩
      rw [if_neg (by decide)] at hI
      obtain ⟨q, hsl, hsq, hq, h7', h8', rfl, hI⟩ := hI
      rw [if_neg (by decide)] at hI
      obtain ⟨hlt, hsp, h9', rfl⟩ := hI
      have h4' : σ' 4 = nI len := by rw [hσ 4 (by decide) (by decide) (by decide) (by decide), h4]
      have hTq := hT q
      have hwb := wR_lt (T := T) (a := spL T isWs len p) hT (q - spL T isWs len p)
      simp only [b_X12_nextToken_168, b_X12_nextToken_218, b_X12_nextToken_310, sp_X12_byteAt, sp_X12_isLetterByte, isM_menc, ma_4, mi_4, supa, Nat.reduceEqDiff, reduceIte, s_psh, s_ild, s_lld, s_ald, s_ist, s_lst, s_ast, s_inc, s_ib, s_ibz, s_iu, s_lb, s_lbz, s_lu, s_ls, s_il, s_li, s_cmp, s_dup, s_pop, s_dup2, s_if1, s_if2, s_ifn, s_cv, s_cs, s_ci, s_oi, s_get, s_put, s_iald, s_lald, s_zald, s_iast, s_last, s_zast, s_alen, s_iret, s_lret, s_aret, s_vret, s_al, gpad, gl, gst, gclr, gc2, gent, gcat, Value.category, List.drop_succ_cons, List.drop_zero, List.take_succ_cons, List.take_zero, List.reverse_cons, List.reverse_nil, List.nil_append, List.cons_append, List.append_nil, List.map_cons, List.map_nil, List.sum_cons, List.sum_nil, List.length_cons, List.length_nil, Option.toList, cond_true, cond_false, Nat.reduceBEq, Nat.reduceAdd, Nat.reduceLeDiff, beq_self_eq_true, true_and, and_true, BEq.rfl, Bool.false_eq_true, if_true, if_false, menc_0, menc_1, menc_2, menc_3, menc_4, menc_5, menc_6, menc_7, menc_8, menc_9, menc_10, menc_11, menc_12, menc_13, menc_14, mf_0, mf_1, mf_2, mf_3, mf_4, mf_5, mf_6, mf_7, mf_8, mf_9, mf_10, mf_11, mf_12, mf_13, mf_14, mf_15, mf_16, mf_17, mf_18, mf_19, mf_20, mf_21, mf_22, mf_23, mf_24, mf_25, mf_26, mf_27, mf_28, mf_29, mf_30, mf_31, ms_4, ms_5, ms_6, ms_7, ms_8, ms_9, ms_10, ms_11, ms_12, ms_13, ms_14, ms_16, ms_17, ms_18, ms_19, ms_23, ms_24, ms_27, mu_1, mu_2, mu_3, mu_4, mu_5, mu_6, mu_7, mu_8, mu_9, mu_10, mu_11, mu_12, mu_13, mu_14]
      simp (disch := omega) only [true_and, and_true, lit, nI_add, nar_i, nar_0, nar_1, nar_b, fit_i, fit_l, pk_rem, nI_leI, nI_ltI, nI_eq, vin_iff, nI_clamp, nI_m1, h4', h7', h9', hA, hb, byT_dg, byT_lt, byT_eq, byT_0, bI_0, litL, shr48, lcmp0]
      have step : ∀ (hl : q < len) (lt : isLt (T q) = true) (v : Int64), v = lN (wR T (spL T isWs len p) (q + 1 - spL T isWs len p)) → ∃ μ', μ' < 400 - q ∧ ∃ σ'_1 w'_1 o1_1, menc m (sup σ' 7 (nI (q + 1))) v A L R = menc m σ'_1 w'_1 A L R ∧ [some (Value.ref m), o1] = [some (Value.ref m), o1_1] ∧ (∀ (j : Nat), j ≠ 7 → j ≠ 8 → j ≠ 9 → j ≠ 10 → σ'_1 j = σ j) ∧ ∃ q, spL T isWs len p < len ∧ spL T isWs len p ≤ q ∧ q ≤ len ∧ σ'_1 7 = nI q ∧ σ'_1 8 = nI (spL T isWs len p) ∧ μ' = 400 - q ∧ isLt (T (spL T isWs len p)) = true ∧ spL T isLt len q = spL T isLt len (spL T isWs len p) ∧ σ'_1 9 = nI 2 ∧ w'_1 = lN (wR T (spL T isWs len p) (q - spL T isWs len p)) := by
        intro hl lt v hv
        refine ⟨400 - (q + 1), by omega, _, _, _, rfl, rfl, fun j a b c d => ?_, q + 1, hsl, by omega, by omega, ?_, ?_, rfl, hlt, ?_, ?_, hv⟩
        · simp only [supa, if_neg a, if_neg b, if_neg c, if_neg d]; exact hσ j a b c d
        · simp only [supa, Nat.reduceEqDiff, reduceIte]
        · simp only [supa, Nat.reduceEqDiff, reduceIte]; exact h8'
        · rw [← spL_go hl lt]; exact hsp
        · simp only [supa, Nat.reduceEqDiff, reduceIte]; exact h9'
      have hsuc : q + 1 - spL T isWs len p = (q - spL T isWs len p) + 1 := by omega
      refine ⟨by omega, fun nd => ?_, fun dg => ?_⟩
      · have hs : spL T isLt len q = q := spL_stop nd
        have hte : tE T len (spL T isWs len p) = q := by rw [tE_lt hlt, ← hsp, hs]
        refine hQ _ _ hσ ⟨h8', fun _ => ⟨by rw [hte, h7'], fun g => absurd hlt (by rw [dg_lt g]; decide), fun _ => ⟨h9', by rw [hte]⟩, fun _ g => absurd hlt (by rw [g]; decide)⟩, fun g => absurd hsl g⟩
      · obtain ⟨hl, dg⟩ := Classical.not_not.mp dg
        refine ⟨fun g => ⟨by omega, step hl dg _ ?_⟩, fun g => step hl dg _ ?_⟩
        · rw [byT_in hl, hsuc, wR, if_neg (by omega), shl8 (by omega) hTq, show spL T isWs len p + (q - spL T isWs len p) = q by omega]
        · rw [hsuc, wR, if_pos (by omega)]
  · exact h.elim
