/-! the reference: the book and the steps that are kept -/
/-- so many of the book's entries moved down -/
def shB (a : Nat → Int32) (i : Nat) : Nat → Int32 := fun j => if 3175 ≤ j ∧ j < 3175 + i then a (j + 1) else a j
/-- one is written down -/
def wrV (a : Nat → Int32) (c p : Nat) : Int32 := ((a 6 * nI 7 + nI c) * nI 30 + nI p) * nI 61 + a (69 + c)
def wrF (a : Nat → Int32) (b c p : Nat) : Nat → Int32 := if b = 30 then upd (upd (upd (shB a 29) 8 (nI 29)) (3175 + 29) (wrV a c p)) 8 (nI 30) else upd (upd a (3175 + b) (wrV a c p)) 8 (nI (b + 1))
/-- so many of what is kept moved down by a step -/
def shS (a : Nat → Int32) (i : Nat) : Nat → Int32 := fun j => if 145 ≤ j ∧ j < 145 + i then a (j + 101) else a j
def keA (a : Nat → Int32) (s i : Nat) : Nat → Int32 := fun j => if 146 + 101 * s ≤ j ∧ j < 146 + 101 * s + i then a (6 + (j - (146 + 101 * s))) else if j = 145 + 101 * s then a 0 else a j
def keB (a : Nat → Int32) (s i : Nat) : Nat → Int32 := fun j => if 216 + 101 * s ≤ j ∧ j < 216 + 101 * s + i then a (3175 + (j - (216 + 101 * s))) else keA a s 70 j
def keF1 (a : Nat → Int32) (s : Nat) : Nat → Int32 := upd (keB a s 30) 3 (nI (s + 1))
def keF (a : Nat → Int32) (s : Nat) : Nat → Int32 := if s = 30 then keF1 (upd (shS a 2929) 3 (nI 29)) 29 else keF1 a s
def unA (a : Nat → Int32) (s i : Nat) : Nat → Int32 := fun j => if 6 ≤ j ∧ j < 6 + i then a (146 + 101 * s + (j - 6)) else a j
def unB (a : Nat → Int32) (s c0 c1 : Nat) : Nat → Int32 := fun j => if 69 + c0 ≤ j ∧ j < 69 + c1 then -nI 1 else unA a s 70 j
def unC (a : Nat → Int32) (s c0 c1 i : Nat) : Nat → Int32 := fun j => if 3175 ≤ j ∧ j < 3175 + i then a (216 + 101 * s + (j - 3175)) else unB a s c0 c1 j
theorem shB_s (a : Nat → Int32) (i : Nat) (v : Int32) (hv : v = a (3175 + (i + 1))) : upd (shB a i) (3175 + (i + 1) - 1) v = shB a (i + 1) := by
  funext j
  unfold upd shB
  grind
theorem shS_s (a : Nat → Int32) (i : Nat) (v : Int32) (hv : v = a (246 + i)) : upd (shS a i) (145 + i) v = shS a (i + 1) := by
  funext j
  unfold upd shS
  grind
theorem keA_s (a : Nat → Int32) (s i : Nat) (v : Int32) (hv : v = a (6 + i)) : upd (keA a s i) (146 + 101 * s + i) v = keA a s (i + 1) := by
  funext j
  unfold upd keA
  grind
theorem keB_s (a : Nat → Int32) (s i : Nat) (v : Int32) (hv : v = a (3175 + i)) : upd (keB a s i) (216 + 101 * s + i) v = keB a s (i + 1) := by
  funext j
  unfold upd keB
  grind
theorem unA_s (a : Nat → Int32) (s i : Nat) (v : Int32) (hv : v = a (146 + 101 * s + i)) : upd (unA a s i) (6 + i) v = unA a s (i + 1) := by
  funext j
  unfold upd unA
  grind
theorem unB_s (a : Nat → Int32) (s c0 c1 : Nat) (h : c0 ≤ c1) : upd (unB a s c0 c1) (69 + c1) (-nI 1) = unB a s c0 (c1 + 1) := by
  funext j
  unfold upd unB
  grind
theorem unC_s (a : Nat → Int32) (s c0 c1 i : Nat) (v : Int32) (hv : v = a (216 + 101 * s + i)) : upd (unC a s c0 c1 i) (3175 + i) v = unC a s c0 c1 (i + 1) := by
  funext j
  unfold upd unC
  grind

def sp_X12_write : gSp := fun as C n z Q => match as with
  | [.ref m, .int x, .int y] => isM C m ∧ vp_in x 7 ∧ vp_in y 30 ∧ vp_in (garr C (m + 1) 8) 31 ∧ Q none (pif (gint C m 12 23 = nI 0) C (gup C (m + 1) (.inl (0, 3205, .inl (wrF (garr C (m + 1)) (garr C (m + 1) 8).toNatClampNeg x.toNatClampNeg y.toNatClampNeg))))) n z
  | _ => False
set_option maxRecDepth 100000 in
set_option maxHeartbeats 4000000 in
theorem c_X12_write (l : Launch) : Con l yX12_write cX12_write 4 none 0 0 0 sp_X12_write := by
  refine m_X12_write ?_
  intro as C0 n0 z0 Q h
  unfold sp_X12_write at h
  split at h
  · rename_i m x y
    obtain ⟨⟨σ, w, A, L, R, rfl⟩, hx, hy, hb, hQ⟩ := h
    simp only [ma_1, mu_1, mi_23] at hb hQ
    obtain ⟨c, hc, rfl⟩ := vp_in_of hx (by decide)
    obtain ⟨p, hp, rfl⟩ := vp_in_of hy (by decide)
    obtain ⟨b, hb, hA⟩ := vp_in_of hb (by decide)
    rw [hA] at hQ
    simp (disch := omega) only [nI_clamp] at hQ
    refine ⟨Nat.le_of_ble_eq_true rfl, fun pc μ lv st C n z => ∃ i, i ≤ 29 ∧ μ = 29 - i ∧ ¬ σ 23 = nI 0 ∧ b = 30 ∧ lv = [some (.ref m), some (.int (nI c)), some (.int (nI p)), some (.int (nI (i + 1)))] ∧ st = [] ∧ C = menc m σ w (sup A 1 (shB (A 1) i)) L R ∧ n = n0 ∧ z = z0, ?_, ?_⟩
    · simp only [b_X12_write_0, b_X12_write_67, sup_same, sup_sup, s_psh, s_ild, s_lld, s_ald, s_ist, s_lst, s_ast, s_inc, s_ib, s_ibz, s_iu, s_lb, s_lbz, s_lu, s_ls, s_il, s_li, s_cmp, s_dup, s_pop, s_dup2, s_if1, s_if2, s_ifn, s_cv, s_cs, s_ci, s_oi, s_get, s_put, s_iald, s_lald, s_zald, s_iast, s_last, s_zast, s_alen, s_iret, s_lret, s_aret, s_vret, s_al, gpad, gl, gst, gclr, gc2, gent, gcat, Value.category, List.drop_succ_cons, List.drop_zero, List.take_succ_cons, List.take_zero, List.reverse_cons, List.reverse_nil, List.nil_append, List.cons_append, List.append_nil, List.map_cons, List.map_nil, List.sum_cons, List.sum_nil, List.length_cons, List.length_nil, Option.toList, cond_true, cond_false, Nat.reduceBEq, Nat.reduceAdd, Nat.reduceLeDiff, beq_self_eq_true, true_and, and_true, BEq.rfl, Bool.false_eq_true, if_true, if_false, menc_0, menc_1, menc_2, menc_3, menc_4, menc_5, menc_6, menc_7, menc_8, menc_9, menc_10, menc_11, menc_12, menc_13, menc_14, mf_0, mf_1, mf_2, mf_3, mf_4, mf_5, mf_6, mf_7, mf_8, mf_9, mf_10, mf_11, mf_12, mf_13, mf_14, mf_15, mf_16, mf_17, mf_18, mf_19, mf_20, mf_21, mf_22, mf_23, mf_24, mf_25, mf_26, mf_27, mf_28, mf_29, mf_30, mf_31, ms_4, ms_5, ms_6, ms_7, ms_8, ms_9, ms_10, ms_11, ms_12, ms_13, ms_14, ms_16, ms_17, ms_18, ms_19, ms_23, ms_24, ms_27, mu_1, mu_2, mu_3, mu_4, mu_5, mu_6, mu_7, mu_8, mu_9, mu_10, mu_11, mu_12, mu_13, mu_14]
      simp (disch := omega) only [true_and, and_true, lit, nI_add, nar_i, nar_0, nar_1, nar_b, fit_i, fit_l, pk_rem, nI_leI, nI_ltI, nI_eq, vin_iff, nI_clamp, nI_m1, hA, pk_us, pk_un, Nat.reduceLT]
      refine ⟨fun e => ?_, fun e => ⟨fun e1 => ⟨_, 0, by omega, rfl, e, e1, rfl, ?_⟩, fun e1 => ⟨by omega, by omega, ?_⟩⟩⟩
      · rw [pif_t e] at hQ; exact hQ
      · rw [sup_id (show A 1 = shB (A 1) 0 from ?_)]
        funext j
        exact (if_neg (by omega)).symm
      · rw [pif_f e] at hQ
        unfold wrF wrV at hQ
        rw [if_neg e1] at hQ
        exact hQ
    · rintro μ lv st C n z ⟨i, hi, rfl, hw, rfl, rfl, rfl, rfl, rfl, rfl⟩
      simp only [b_X12_write_22, b_X12_write_67, sup_same, sup_sup, s_psh, s_ild, s_lld, s_ald, s_ist, s_lst, s_ast, s_inc, s_ib, s_ibz, s_iu, s_lb, s_lbz, s_lu, s_ls, s_il, s_li, s_cmp, s_dup, s_pop, s_dup2, s_if1, s_if2, s_ifn, s_cv, s_cs, s_ci, s_oi, s_get, s_put, s_iald, s_lald, s_zald, s_iast, s_last, s_zast, s_alen, s_iret, s_lret, s_aret, s_vret, s_al, gpad, gl, gst, gclr, gc2, gent, gcat, Value.category, List.drop_succ_cons, List.drop_zero, List.take_succ_cons, List.take_zero, List.reverse_cons, List.reverse_nil, List.nil_append, List.cons_append, List.append_nil, List.map_cons, List.map_nil, List.sum_cons, List.sum_nil, List.length_cons, List.length_nil, Option.toList, cond_true, cond_false, Nat.reduceBEq, Nat.reduceAdd, Nat.reduceLeDiff, beq_self_eq_true, true_and, and_true, BEq.rfl, Bool.false_eq_true, if_true, if_false, menc_0, menc_1, menc_2, menc_3, menc_4, menc_5, menc_6, menc_7, menc_8, menc_9, menc_10, menc_11, menc_12, menc_13, menc_14, mf_0, mf_1, mf_2, mf_3, mf_4, mf_5, mf_6, mf_7, mf_8, mf_9, mf_10, mf_11, mf_12, mf_13, mf_14, mf_15, mf_16, mf_17, mf_18, mf_19, mf_20, mf_21, mf_22, mf_23, mf_24, mf_25, mf_26, mf_27, mf_28, mf_29, mf_30, mf_31, ms_4, ms_5, ms_6, ms_7, ms_8, ms_9, ms_10, ms_11, ms_12, ms_13, ms_14, ms_16, ms_17, ms_18, ms_19, ms_23, ms_24, ms_27, mu_1, mu_2, mu_3, mu_4, mu_5, mu_6, mu_7, mu_8, mu_9, mu_10, mu_11, mu_12, mu_13, mu_14]
      simp (disch := omega) only [true_and, and_true, lit, nI_add, nar_i, nar_0, nar_1, nar_b, fit_i, fit_l, pk_rem, nI_leI, nI_ltI, nI_eq, vin_iff, nI_clamp, nI_m1]
      have g8 : shB (A 1) i 8 = nI 30 := by rw [← hA]; exact if_neg (by omega)
      have g6 : shB (A 1) i 6 = A 1 6 := if_neg (by omega)
      have gc : shB (A 1) i (69 + c) = A 1 (69 + c) := if_neg (by omega)
      simp (disch := omega) only [true_and, and_true, lit, nI_add, nar_i, nar_0, nar_1, nar_b, fit_i, fit_l, pk_rem, nI_leI, nI_ltI, nI_eq, vin_iff, nI_clamp, nI_m1, pk_sub, g8, g6, gc, pk_us, pk_un, Nat.reduceLT, Nat.reduceSub, Nat.reduceAdd]
      refine ⟨fun h => ⟨by omega, ?_⟩, fun h => ⟨by omega, by omega, _, ?_, i + 1, by omega, rfl, hw, rfl, ?_⟩⟩
      · have e : i = 29 := by omega
        subst e
        rw [pif_f hw] at hQ
        exact hQ
      · omega
      · rw [shB_s _ _ _ (show shB (A 1) i (3175 + (i + 1)) = _ from if_neg (by omega))]
  · exact h.elim

def sp_X12_keep : gSp := fun as C n z Q => match as with
  | [.ref m] => isM C m ∧ vp_in (garr C (m + 1) 3) 31 ∧ Q none (gup C (m + 1) (.inl (0, 3205, .inl (keF (garr C (m + 1)) (garr C (m + 1) 3).toNatClampNeg)))) n z
  | _ => False
set_option maxRecDepth 100000 in
set_option maxHeartbeats 4000000 in
theorem c_X12_keep (l : Launch) : Con l yX12_keep cX12_keep 3 none 0 0 0 sp_X12_keep := by
  refine m_X12_keep ?_
  intro as C0 n0 z0 Q h
  unfold sp_X12_keep at h
  split at h
  · rename_i m
    obtain ⟨⟨σ, w, A, L, R, rfl⟩, hb, hQ⟩ := h
    simp only [ma_1, mu_1] at hb hQ
    obtain ⟨s, hs, hA⟩ := vp_in_of hb (by decide)
    rw [hA] at hQ
    simp (disch := omega) only [nI_clamp] at hQ
    refine ⟨Nat.le_of_ble_eq_true rfl, fun pc μ lv st C n z => if pc = 13 then ∃ i o2, i ≤ 2929 ∧ μ = 2929 - i + 200 ∧ s = 30 ∧ lv = [some (.ref m), some (.int (nI i)), o2] ∧ st = [] ∧ C = menc m σ w (sup A 1 (shS (A 1) i)) L R ∧ n = n0 ∧ z = z0 else if pc = 84 then ∃ i t a, i ≤ 70 ∧ t < 30 ∧ μ = 70 - i + 100 ∧ keF (A 1) s = keF1 a t ∧ a 3 = nI t ∧ lv = [some (.ref m), some (.int (nI (145 + 101 * t))), some (.int (nI i))] ∧ st = [] ∧ C = menc m σ w (sup A 1 (keA a t i)) L R ∧ n = n0 ∧ z = z0 else ∃ i t a, i ≤ 30 ∧ t < 30 ∧ μ = 30 - i ∧ keF (A 1) s = keF1 a t ∧ a 3 = nI t ∧ lv = [some (.ref m), some (.int (nI (145 + 101 * t))), some (.int (nI i))] ∧ st = [] ∧ C = menc m σ w (sup A 1 (keB a t i)) L R ∧ n = n0 ∧ z = z0, ?_, ?_, ?_, ?_⟩
    · simp only [b_X12_keep_0, b_X12_keep_56, sup_same, sup_sup, s_psh, s_ild, s_lld, s_ald, s_ist, s_lst, s_ast, s_inc, s_ib, s_ibz, s_iu, s_lb, s_lbz, s_lu, s_ls, s_il, s_li, s_cmp, s_dup, s_pop, s_dup2, s_if1, s_if2, s_ifn, s_cv, s_cs, s_ci, s_oi, s_get, s_put, s_iald, s_lald, s_zald, s_iast, s_last, s_zast, s_alen, s_iret, s_lret, s_aret, s_vret, s_al, gpad, gl, gst, gclr, gc2, gent, gcat, Value.category, List.drop_succ_cons, List.drop_zero, List.take_succ_cons, List.take_zero, List.reverse_cons, List.reverse_nil, List.nil_append, List.cons_append, List.append_nil, List.map_cons, List.map_nil, List.sum_cons, List.sum_nil, List.length_cons, List.length_nil, Option.toList, cond_true, cond_false, Nat.reduceBEq, Nat.reduceAdd, Nat.reduceLeDiff, beq_self_eq_true, true_and, and_true, BEq.rfl, Bool.false_eq_true, if_true, if_false, menc_0, menc_1, menc_2, menc_3, menc_4, menc_5, menc_6, menc_7, menc_8, menc_9, menc_10, menc_11, menc_12, menc_13, menc_14, mf_0, mf_1, mf_2, mf_3, mf_4, mf_5, mf_6, mf_7, mf_8, mf_9, mf_10, mf_11, mf_12, mf_13, mf_14, mf_15, mf_16, mf_17, mf_18, mf_19, mf_20, mf_21, mf_22, mf_23, mf_24, mf_25, mf_26, mf_27, mf_28, mf_29, mf_30, mf_31, ms_4, ms_5, ms_6, ms_7, ms_8, ms_9, ms_10, ms_11, ms_12, ms_13, ms_14, ms_16, ms_17, ms_18, ms_19, ms_23, ms_24, ms_27, mu_1, mu_2, mu_3, mu_4, mu_5, mu_6, mu_7, mu_8, mu_9, mu_10, mu_11, mu_12, mu_13, mu_14]
      simp (disch := omega) only [true_and, and_true, lit, nI_add, nar_i, nar_0, nar_1, nar_b, fit_i, fit_l, pk_rem, nI_leI, nI_ltI, nI_eq, vin_iff, nI_clamp, nI_m1, hA, pk_us, pk_un, pk_mul, Nat.reduceLT, Nat.reduceEqDiff, reduceIte]
      refine ⟨fun h => ⟨_, 0, none, by omega, rfl, h, rfl, ?_⟩, fun h => ⟨by omega, _, 0, s, A 1, by omega, by omega, rfl, if_neg h, hA, rfl, ?_⟩⟩
      · rw [sup_id (show A 1 = shS (A 1) 0 from ?_)]
        funext j
        exact (if_neg (by omega)).symm
      · rw [show keA (A 1) s 0 = upd (A 1) (145 + 101 * s) (A 1 0) from ?_]
        funext j
        unfold keA upd
        grind
    · rintro μ lv st C n z ⟨i, o2, hi, rfl, rfl, rfl, rfl, rfl, rfl, rfl⟩
      simp only [b_X12_keep_13, b_X12_keep_56, sup_same, sup_sup, s_psh, s_ild, s_lld, s_ald, s_ist, s_lst, s_ast, s_inc, s_ib, s_ibz, s_iu, s_lb, s_lbz, s_lu, s_ls, s_il, s_li, s_cmp, s_dup, s_pop, s_dup2, s_if1, s_if2, s_ifn, s_cv, s_cs, s_ci, s_oi, s_get, s_put, s_iald, s_lald, s_zald, s_iast, s_last, s_zast, s_alen, s_iret, s_lret, s_aret, s_vret, s_al, gpad, gl, gst, gclr, gc2, gent, gcat, Value.category, List.drop_succ_cons, List.drop_zero, List.take_succ_cons, List.take_zero, List.reverse_cons, List.reverse_nil, List.nil_append, List.cons_append, List.append_nil, List.map_cons, List.map_nil, List.sum_cons, List.sum_nil, List.length_cons, List.length_nil, Option.toList, cond_true, cond_false, Nat.reduceBEq, Nat.reduceAdd, Nat.reduceLeDiff, beq_self_eq_true, true_and, and_true, BEq.rfl, Bool.false_eq_true, if_true, if_false, menc_0, menc_1, menc_2, menc_3, menc_4, menc_5, menc_6, menc_7, menc_8, menc_9, menc_10, menc_11, menc_12, menc_13, menc_14, mf_0, mf_1, mf_2, mf_3, mf_4, mf_5, mf_6, mf_7, mf_8, mf_9, mf_10, mf_11, mf_12, mf_13, mf_14, mf_15, mf_16, mf_17, mf_18, mf_19, mf_20, mf_21, mf_22, mf_23, mf_24, mf_25, mf_26, mf_27, mf_28, mf_29, mf_30, mf_31, ms_4, ms_5, ms_6, ms_7, ms_8, ms_9, ms_10, ms_11, ms_12, ms_13, ms_14, ms_16, ms_17, ms_18, ms_19, ms_23, ms_24, ms_27, mu_1, mu_2, mu_3, mu_4, mu_5, mu_6, mu_7, mu_8, mu_9, mu_10, mu_11, mu_12, mu_13, mu_14]
      simp (disch := omega) only [true_and, and_true, lit, nI_add, nar_i, nar_0, nar_1, nar_b, fit_i, fit_l, pk_rem, nI_leI, nI_ltI, nI_eq, vin_iff, nI_clamp, nI_m1]
      have g3 : shS (A 1) i 3 = nI 30 := by rw [← hA]; exact if_neg (by omega)
      have g0 : shS (A 1) i 0 = A 1 0 := if_neg (by omega)
      simp (disch := omega) only [true_and, and_true, lit, nI_add, nar_i, nar_0, nar_1, nar_b, fit_i, fit_l, pk_rem, nI_leI, nI_ltI, nI_eq, vin_iff, nI_clamp, nI_m1, pk_us, pk_un, pk_mul, pk_sub, g3, g0, Nat.reduceLT, Nat.reduceEqDiff, Nat.reduceSub, Nat.reduceAdd, Nat.reduceMul, reduceIte]
      refine ⟨fun h => ⟨_, ?_, 0, 29, upd (shS (A 1) 2929) 3 (nI 29), by omega, by omega, rfl, rfl, pk_us, rfl, ?_⟩, fun h => ⟨by omega, by omega, _, ?_, i + 1, o2, by omega, rfl, rfl, ?_⟩⟩
      · omega
      · have e : i = 2929 := by omega
        subst e
        rw [show keA (upd (shS (A 1) 2929) 3 (nI 29)) 29 0 = upd (upd (shS (A 1) 2929) 3 (nI 29)) 3074 (A 1 0) from ?_]
        funext j
        unfold keA upd shS
        grind
      · omega
      · rw [shS_s _ _ _ (show shS (A 1) i (246 + i) = _ from if_neg (by omega))]
    · rintro μ lv st C n z ⟨i, t, a, hi, ht, rfl, hk, h3, rfl, rfl, rfl, rfl, rfl⟩
      simp only [b_X12_keep_84, sup_same, sup_sup, s_psh, s_ild, s_lld, s_ald, s_ist, s_lst, s_ast, s_inc, s_ib, s_ibz, s_iu, s_lb, s_lbz, s_lu, s_ls, s_il, s_li, s_cmp, s_dup, s_pop, s_dup2, s_if1, s_if2, s_ifn, s_cv, s_cs, s_ci, s_oi, s_get, s_put, s_iald, s_lald, s_zald, s_iast, s_last, s_zast, s_alen, s_iret, s_lret, s_aret, s_vret, s_al, gpad, gl, gst, gclr, gc2, gent, gcat, Value.category, List.drop_succ_cons, List.drop_zero, List.take_succ_cons, List.take_zero, List.reverse_cons, List.reverse_nil, List.nil_append, List.cons_append, List.append_nil, List.map_cons, List.map_nil, List.sum_cons, List.sum_nil, List.length_cons, List.length_nil, Option.toList, cond_true, cond_false, Nat.reduceBEq, Nat.reduceAdd, Nat.reduceLeDiff, beq_self_eq_true, true_and, and_true, BEq.rfl, Bool.false_eq_true, if_true, if_false, menc_0, menc_1, menc_2, menc_3, menc_4, menc_5, menc_6, menc_7, menc_8, menc_9, menc_10, menc_11, menc_12, menc_13, menc_14, mf_0, mf_1, mf_2, mf_3, mf_4, mf_5, mf_6, mf_7, mf_8, mf_9, mf_10, mf_11, mf_12, mf_13, mf_14, mf_15, mf_16, mf_17, mf_18, mf_19, mf_20, mf_21, mf_22, mf_23, mf_24, mf_25, mf_26, mf_27, mf_28, mf_29, mf_30, mf_31, ms_4, ms_5, ms_6, ms_7, ms_8, ms_9, ms_10, ms_11, ms_12, ms_13, ms_14, ms_16, ms_17, ms_18, ms_19, ms_23, ms_24, ms_27, mu_1, mu_2, mu_3, mu_4, mu_5, mu_6, mu_7, mu_8, mu_9, mu_10, mu_11, mu_12, mu_13, mu_14]
      simp (disch := omega) only [true_and, and_true, lit, nI_add, nar_i, nar_0, nar_1, nar_b, fit_i, fit_l, pk_rem, nI_leI, nI_ltI, nI_eq, vin_iff, nI_clamp, nI_m1]
      simp (disch := omega) only [true_and, and_true, lit, nI_add, nar_i, nar_0, nar_1, nar_b, fit_i, fit_l, pk_rem, nI_leI, nI_ltI, nI_eq, vin_iff, nI_clamp, nI_m1, pk_us, pk_un, pk_mul, pk_sub, Nat.reduceLT, Nat.reduceEqDiff, Nat.reduceSub, Nat.reduceAdd, Nat.reduceMul, reduceIte]
      refine ⟨fun h => ⟨_, ?_, 0, t, a, by omega, ht, rfl, hk, h3, rfl, ?_⟩, fun h => ⟨by omega, by omega, _, ?_, i + 1, t, a, by omega, ht, rfl, hk, h3, rfl, ?_⟩⟩
      · omega
      · have e : i = 70 := by omega
        subst e
        rw [show keB a t 0 = keA a t 70 from ?_]
        funext j
        exact if_neg (by omega)
      · omega
      · rw [show 145 + 101 * t + 1 + i = 146 + 101 * t + i by omega, keA_s _ _ _ _ (show keA a t i (6 + i) = _ from ?_)]
        unfold keA
        grind
    · rintro μ lv st C n z ⟨i, t, a, hi, ht, rfl, hk, h3, rfl, rfl, rfl, rfl, rfl⟩
      simp only [b_X12_keep_117, sup_same, sup_sup, s_psh, s_ild, s_lld, s_ald, s_ist, s_lst, s_ast, s_inc, s_ib, s_ibz, s_iu, s_lb, s_lbz, s_lu, s_ls, s_il, s_li, s_cmp, s_dup, s_pop, s_dup2, s_if1, s_if2, s_ifn, s_cv, s_cs, s_ci, s_oi, s_get, s_put, s_iald, s_lald, s_zald, s_iast, s_last, s_zast, s_alen, s_iret, s_lret, s_aret, s_vret, s_al, gpad, gl, gst, gclr, gc2, gent, gcat, Value.category, List.drop_succ_cons, List.drop_zero, List.take_succ_cons, List.take_zero, List.reverse_cons, List.reverse_nil, List.nil_append, List.cons_append, List.append_nil, List.map_cons, List.map_nil, List.sum_cons, List.sum_nil, List.length_cons, List.length_nil, Option.toList, cond_true, cond_false, Nat.reduceBEq, Nat.reduceAdd, Nat.reduceLeDiff, beq_self_eq_true, true_and, and_true, BEq.rfl, Bool.false_eq_true, if_true, if_false, menc_0, menc_1, menc_2, menc_3, menc_4, menc_5, menc_6, menc_7, menc_8, menc_9, menc_10, menc_11, menc_12, menc_13, menc_14, mf_0, mf_1, mf_2, mf_3, mf_4, mf_5, mf_6, mf_7, mf_8, mf_9, mf_10, mf_11, mf_12, mf_13, mf_14, mf_15, mf_16, mf_17, mf_18, mf_19, mf_20, mf_21, mf_22, mf_23, mf_24, mf_25, mf_26, mf_27, mf_28, mf_29, mf_30, mf_31, ms_4, ms_5, ms_6, ms_7, ms_8, ms_9, ms_10, ms_11, ms_12, ms_13, ms_14, ms_16, ms_17, ms_18, ms_19, ms_23, ms_24, ms_27, mu_1, mu_2, mu_3, mu_4, mu_5, mu_6, mu_7, mu_8, mu_9, mu_10, mu_11, mu_12, mu_13, mu_14]
      simp (disch := omega) only [true_and, and_true, lit, nI_add, nar_i, nar_0, nar_1, nar_b, fit_i, fit_l, pk_rem, nI_leI, nI_ltI, nI_eq, vin_iff, nI_clamp, nI_m1]
      have g3 : keB a t i 3 = nI t := by rw [← h3]; unfold keB keA; grind
      simp (disch := omega) only [true_and, and_true, lit, nI_add, nar_i, nar_0, nar_1, nar_b, fit_i, fit_l, pk_rem, nI_leI, nI_ltI, nI_eq, vin_iff, nI_clamp, nI_m1, pk_us, pk_un, pk_mul, pk_sub, g3, Nat.reduceLT, Nat.reduceEqDiff, Nat.reduceSub, Nat.reduceAdd, Nat.reduceMul, reduceIte]
      refine ⟨fun h => ?_, fun h => ⟨by omega, by omega, _, ?_, i + 1, t, a, by omega, ht, rfl, hk, h3, rfl, ?_⟩⟩
      · have e : i = 30 := by omega
        subst e
        rw [hk] at hQ
        exact hQ
      · omega
      · rw [show 145 + 101 * t + 1 + 70 + i = 216 + 101 * t + i by omega, keB_s _ _ _ _ (show keB a t i (3175 + i) = _ from ?_)]
        unfold keB keA
        grind
  · exact h.elim

def unF (a : Nat → Int32) (s : Nat) : Nat → Int32 := unC (upd a 3 (nI s)) s (a (145 + 101 * s)).toNatClampNeg (a 0).toNatClampNeg 30
def sp_X12_undo : gSp := fun as C n z Q => match as with
  | [.ref m] => isM C m ∧ (garr C (m + 1) 3 = nI 0 → Q (some (.int (-nI 1))) C n z) ∧ (¬ garr C (m + 1) 3 = nI 0 → ∃ s, s < 30 ∧ garr C (m + 1) 3 = nI (s + 1) ∧ vp_in (garr C (m + 1) 0) 8 ∧ vp_in (garr C (m + 1) (145 + 101 * s)) 8 ∧ Q (some (.int (nI s))) (gup C (m + 1) (.inl (0, 3205, .inl (unF (garr C (m + 1)) s)))) n z)
  | _ => False
set_option maxRecDepth 100000 in
set_option maxHeartbeats 4000000 in
theorem c_X12_undo (l : Launch) : Con l yX12_undo cX12_undo 3 (some .int) 0 0 0 sp_X12_undo := by
  refine m_X12_undo ?_
  intro as C0 n0 z0 Q h
  unfold sp_X12_undo at h
  split at h
  · rename_i m
    obtain ⟨⟨σ, w, A, L, R, rfl⟩, hQ0, hQ1⟩ := h
    simp only [ma_1, mu_1] at hQ0 hQ1
    by_cases h0 : A 1 3 = nI 0
    · refine ⟨Nat.le_of_ble_eq_true rfl, fun _ _ _ _ _ _ _ => False, ?_, fun _ _ _ _ _ _ h => h.elim, fun _ _ _ _ _ _ h => h.elim, fun _ _ _ _ _ _ h => h.elim⟩
      simp only [b_X12_undo_0, s_psh, s_ild, s_lld, s_ald, s_ist, s_lst, s_ast, s_inc, s_ib, s_ibz, s_iu, s_lb, s_lbz, s_lu, s_ls, s_il, s_li, s_cmp, s_dup, s_pop, s_dup2, s_if1, s_if2, s_ifn, s_cv, s_cs, s_ci, s_oi, s_get, s_put, s_iald, s_lald, s_zald, s_iast, s_last, s_zast, s_alen, s_iret, s_lret, s_aret, s_vret, s_al, gpad, gl, gst, gclr, gc2, gent, gcat, Value.category, List.drop_succ_cons, List.drop_zero, List.take_succ_cons, List.take_zero, List.reverse_cons, List.reverse_nil, List.nil_append, List.cons_append, List.append_nil, List.map_cons, List.map_nil, List.sum_cons, List.sum_nil, List.length_cons, List.length_nil, Option.toList, cond_true, cond_false, Nat.reduceBEq, Nat.reduceAdd, Nat.reduceLeDiff, beq_self_eq_true, true_and, and_true, BEq.rfl, Bool.false_eq_true, if_true, if_false, menc_0, menc_1, menc_2, menc_3, menc_4, menc_5, menc_6, menc_7, menc_8, menc_9, menc_10, menc_11, menc_12, menc_13, menc_14, mf_0, mf_1, mf_2, mf_3, mf_4, mf_5, mf_6, mf_7, mf_8, mf_9, mf_10, mf_11, mf_12, mf_13, mf_14, mf_15, mf_16, mf_17, mf_18, mf_19, mf_20, mf_21, mf_22, mf_23, mf_24, mf_25, mf_26, mf_27, mf_28, mf_29, mf_30, mf_31, ms_4, ms_5, ms_6, ms_7, ms_8, ms_9, ms_10, ms_11, ms_12, ms_13, ms_14, ms_16, ms_17, ms_18, ms_19, ms_23, ms_24, ms_27, mu_1, mu_2, mu_3, mu_4, mu_5, mu_6, mu_7, mu_8, mu_9, mu_10, mu_11, mu_12, mu_13, mu_14]
      simp (disch := omega) only [true_and, and_true, lit, nI_add, nar_i, nar_0, nar_1, nar_b, fit_i, fit_l, pk_rem, nI_leI, nI_ltI, nI_eq, vin_iff, nI_clamp, nI_m1, h0, Nat.reduceLT]
      exact ⟨fun _ => hQ0 h0, fun q => absurd trivial q⟩
    obtain ⟨s, hs, hA, g0, gx, hQ⟩ := hQ1 h0
    obtain ⟨c1, hc1, hA0⟩ := vp_in_of g0 (by decide)
    obtain ⟨c0, hc0, hAx⟩ := vp_in_of gx (by decide)
    unfold unF at hQ
    rw [hA0, hAx] at hQ
    simp (disch := omega) only [nI_clamp] at hQ
    generalize hB : upd (A 1) 3 (nI s) = B at hQ
    have b0 : B 0 = nI c1 := by rw [← hB, pk_un (by omega)]; exact hA0
    have bx : B (145 + 101 * s) = nI c0 := by rw [← hB, pk_un (by omega)]; exact hAx
    have b3 : B 3 = nI s := by rw [← hB]; exact pk_us
    refine ⟨Nat.le_of_ble_eq_true rfl, fun pc μ lv st C n z => if pc = 37 then ∃ i, i ≤ 70 ∧ μ = 70 - i + 100 ∧ lv = [some (.ref m), some (.int (nI (145 + 101 * s))), some (.int (nI i))] ∧ st = [] ∧ C = menc m σ w (sup A 1 (unA B s i)) L R ∧ n = n0 ∧ z = z0 else if pc = 75 then ∃ i, c0 ≤ i ∧ i ≤ 8 ∧ (i ≤ c1 ∨ i = c0) ∧ μ = 8 - i + 50 ∧ lv = [some (.ref m), some (.int (nI (145 + 101 * s))), some (.int (nI i))] ∧ st = [] ∧ C = menc m σ w (sup A 1 (unB B s c0 i)) L R ∧ n = n0 ∧ z = z0 else ∃ i, i ≤ 30 ∧ μ = 30 - i ∧ lv = [some (.ref m), some (.int (nI (145 + 101 * s))), some (.int (nI i))] ∧ st = [] ∧ C = menc m σ w (sup A 1 (unC B s c0 c1 i)) L R ∧ n = n0 ∧ z = z0, ?_, ?_, ?_, ?_⟩
    · simp only [b_X12_undo_0, sup_same, sup_sup, s_psh, s_ild, s_lld, s_ald, s_ist, s_lst, s_ast, s_inc, s_ib, s_ibz, s_iu, s_lb, s_lbz, s_lu, s_ls, s_il, s_li, s_cmp, s_dup, s_pop, s_dup2, s_if1, s_if2, s_ifn, s_cv, s_cs, s_ci, s_oi, s_get, s_put, s_iald, s_lald, s_zald, s_iast, s_last, s_zast, s_alen, s_iret, s_lret, s_aret, s_vret, s_al, gpad, gl, gst, gclr, gc2, gent, gcat, Value.category, List.drop_succ_cons, List.drop_zero, List.take_succ_cons, List.take_zero, List.reverse_cons, List.reverse_nil, List.nil_append, List.cons_append, List.append_nil, List.map_cons, List.map_nil, List.sum_cons, List.sum_nil, List.length_cons, List.length_nil, Option.toList, cond_true, cond_false, Nat.reduceBEq, Nat.reduceAdd, Nat.reduceLeDiff, beq_self_eq_true, true_and, and_true, BEq.rfl, Bool.false_eq_true, if_true, if_false, menc_0, menc_1, menc_2, menc_3, menc_4, menc_5, menc_6, menc_7, menc_8, menc_9, menc_10, menc_11, menc_12, menc_13, menc_14, mf_0, mf_1, mf_2, mf_3, mf_4, mf_5, mf_6, mf_7, mf_8, mf_9, mf_10, mf_11, mf_12, mf_13, mf_14, mf_15, mf_16, mf_17, mf_18, mf_19, mf_20, mf_21, mf_22, mf_23, mf_24, mf_25, mf_26, mf_27, mf_28, mf_29, mf_30, mf_31, ms_4, ms_5, ms_6, ms_7, ms_8, ms_9, ms_10, ms_11, ms_12, ms_13, ms_14, ms_16, ms_17, ms_18, ms_19, ms_23, ms_24, ms_27, mu_1, mu_2, mu_3, mu_4, mu_5, mu_6, mu_7, mu_8, mu_9, mu_10, mu_11, mu_12, mu_13, mu_14]
      simp (disch := omega) only [true_and, and_true, lit, nI_add, nar_i, nar_0, nar_1, nar_b, fit_i, fit_l, pk_rem, nI_leI, nI_ltI, nI_eq, vin_iff, nI_clamp, nI_m1, hA, pk_us, pk_un, pk_mul, pk_sub, Nat.add_sub_cancel, Nat.reduceLT, Nat.reduceEqDiff, reduceIte, hB, b3]
      refine ⟨fun q => q.elim, fun _ => ⟨_, 0, by omega, rfl, rfl, ?_⟩⟩
      rw [show unA B s 0 = B from ?_]
      funext j
      exact if_neg (by omega)
    · rintro μ lv st C n z ⟨i, hi, rfl, rfl, rfl, rfl, rfl, rfl⟩
      simp only [b_X12_undo_37, sup_same, sup_sup, s_psh, s_ild, s_lld, s_ald, s_ist, s_lst, s_ast, s_inc, s_ib, s_ibz, s_iu, s_lb, s_lbz, s_lu, s_ls, s_il, s_li, s_cmp, s_dup, s_pop, s_dup2, s_if1, s_if2, s_ifn, s_cv, s_cs, s_ci, s_oi, s_get, s_put, s_iald, s_lald, s_zald, s_iast, s_last, s_zast, s_alen, s_iret, s_lret, s_aret, s_vret, s_al, gpad, gl, gst, gclr, gc2, gent, gcat, Value.category, List.drop_succ_cons, List.drop_zero, List.take_succ_cons, List.take_zero, List.reverse_cons, List.reverse_nil, List.nil_append, List.cons_append, List.append_nil, List.map_cons, List.map_nil, List.sum_cons, List.sum_nil, List.length_cons, List.length_nil, Option.toList, cond_true, cond_false, Nat.reduceBEq, Nat.reduceAdd, Nat.reduceLeDiff, beq_self_eq_true, true_and, and_true, BEq.rfl, Bool.false_eq_true, if_true, if_false, menc_0, menc_1, menc_2, menc_3, menc_4, menc_5, menc_6, menc_7, menc_8, menc_9, menc_10, menc_11, menc_12, menc_13, menc_14, mf_0, mf_1, mf_2, mf_3, mf_4, mf_5, mf_6, mf_7, mf_8, mf_9, mf_10, mf_11, mf_12, mf_13, mf_14, mf_15, mf_16, mf_17, mf_18, mf_19, mf_20, mf_21, mf_22, mf_23, mf_24, mf_25, mf_26, mf_27, mf_28, mf_29, mf_30, mf_31, ms_4, ms_5, ms_6, ms_7, ms_8, ms_9, ms_10, ms_11, ms_12, ms_13, ms_14, ms_16, ms_17, ms_18, ms_19, ms_23, ms_24, ms_27, mu_1, mu_2, mu_3, mu_4, mu_5, mu_6, mu_7, mu_8, mu_9, mu_10, mu_11, mu_12, mu_13, mu_14]
      simp (disch := omega) only [true_and, and_true, lit, nI_add, nar_i, nar_0, nar_1, nar_b, fit_i, fit_l, pk_rem, nI_leI, nI_ltI, nI_eq, vin_iff, nI_clamp, nI_m1]
      have e0 : unA B s i (145 + 101 * s) = nI c0 := by rw [← bx]; exact if_neg (by omega)
      simp (disch := omega) only [true_and, and_true, lit, nI_add, nar_i, nar_0, nar_1, nar_b, fit_i, fit_l, pk_rem, nI_leI, nI_ltI, nI_eq, vin_iff, nI_clamp, nI_m1, e0, pk_us, pk_un, pk_mul, pk_sub, Nat.reduceLT, Nat.reduceEqDiff, Nat.reduceSub, Nat.reduceAdd, Nat.reduceMul, reduceIte]
      refine ⟨fun h => ⟨by omega, _, ?_, c0, Nat.le_refl _, by omega, Or.inr rfl, rfl, rfl, ?_⟩, fun h => ⟨by omega, by omega, _, ?_, i + 1, by omega, rfl, rfl, ?_⟩⟩
      · omega
      · have e : i = 70 := by omega
        subst e
        rw [show unB B s c0 c0 = unA B s 70 from ?_]
        funext j
        exact if_neg (by omega)
      · omega
      · rw [unA_s _ _ _ _ (show unA B s i (145 + 101 * s + 1 + i) = _ from ?_)]
        unfold unA
        grind
    · rintro μ lv st C n z ⟨i, h1, h2, h3, rfl, rfl, rfl, rfl, rfl, rfl⟩
      simp only [b_X12_undo_75, sup_same, sup_sup, s_psh, s_ild, s_lld, s_ald, s_ist, s_lst, s_ast, s_inc, s_ib, s_ibz, s_iu, s_lb, s_lbz, s_lu, s_ls, s_il, s_li, s_cmp, s_dup, s_pop, s_dup2, s_if1, s_if2, s_ifn, s_cv, s_cs, s_ci, s_oi, s_get, s_put, s_iald, s_lald, s_zald, s_iast, s_last, s_zast, s_alen, s_iret, s_lret, s_aret, s_vret, s_al, gpad, gl, gst, gclr, gc2, gent, gcat, Value.category, List.drop_succ_cons, List.drop_zero, List.take_succ_cons, List.take_zero, List.reverse_cons, List.reverse_nil, List.nil_append, List.cons_append, List.append_nil, List.map_cons, List.map_nil, List.sum_cons, List.sum_nil, List.length_cons, List.length_nil, Option.toList, cond_true, cond_false, Nat.reduceBEq, Nat.reduceAdd, Nat.reduceLeDiff, beq_self_eq_true, true_and, and_true, BEq.rfl, Bool.false_eq_true, if_true, if_false, menc_0, menc_1, menc_2, menc_3, menc_4, menc_5, menc_6, menc_7, menc_8, menc_9, menc_10, menc_11, menc_12, menc_13, menc_14, mf_0, mf_1, mf_2, mf_3, mf_4, mf_5, mf_6, mf_7, mf_8, mf_9, mf_10, mf_11, mf_12, mf_13, mf_14, mf_15, mf_16, mf_17, mf_18, mf_19, mf_20, mf_21, mf_22, mf_23, mf_24, mf_25, mf_26, mf_27, mf_28, mf_29, mf_30, mf_31, ms_4, ms_5, ms_6, ms_7, ms_8, ms_9, ms_10, ms_11, ms_12, ms_13, ms_14, ms_16, ms_17, ms_18, ms_19, ms_23, ms_24, ms_27, mu_1, mu_2, mu_3, mu_4, mu_5, mu_6, mu_7, mu_8, mu_9, mu_10, mu_11, mu_12, mu_13, mu_14]
      simp (disch := omega) only [true_and, and_true, lit, nI_add, nar_i, nar_0, nar_1, nar_b, fit_i, fit_l, pk_rem, nI_leI, nI_ltI, nI_eq, vin_iff, nI_clamp, nI_m1]
      have e0 : unB B s c0 i 0 = nI c1 := by rw [← b0]; unfold unB unA; grind
      simp (disch := omega) only [true_and, and_true, lit, nI_add, nar_i, nar_0, nar_1, nar_b, fit_i, fit_l, pk_rem, nI_leI, nI_ltI, nI_eq, vin_iff, nI_clamp, nI_m1, e0, pk_us, pk_un, pk_mul, pk_sub, Nat.reduceLT, Nat.reduceEqDiff, Nat.reduceSub, Nat.reduceAdd, Nat.reduceMul, reduceIte]
      refine ⟨fun h => ⟨_, ?_, 0, by omega, rfl, rfl, ?_⟩, fun h => ⟨by omega, _, ?_, i + 1, by omega, by omega, Or.inl (by omega), rfl, rfl, ?_⟩⟩
      · omega
      · rw [show unC B s c0 c1 0 = unB B s c0 i from ?_]
        funext j
        unfold unC unB
        grind
      · omega
      · rw [unB_s _ _ _ _ h1]
    · rintro μ lv st C n z ⟨i, hi, rfl, rfl, rfl, rfl, rfl, rfl⟩
      simp only [b_X12_undo_103, sup_same, sup_sup, s_psh, s_ild, s_lld, s_ald, s_ist, s_lst, s_ast, s_inc, s_ib, s_ibz, s_iu, s_lb, s_lbz, s_lu, s_ls, s_il, s_li, s_cmp, s_dup, s_pop, s_dup2, s_if1, s_if2, s_ifn, s_cv, s_cs, s_ci, s_oi, s_get, s_put, s_iald, s_lald, s_zald, s_iast, s_last, s_zast, s_alen, s_iret, s_lret, s_aret, s_vret, s_al, gpad, gl, gst, gclr, gc2, gent, gcat, Value.category, List.drop_succ_cons, List.drop_zero, List.take_succ_cons, List.take_zero, List.reverse_cons, List.reverse_nil, List.nil_append, List.cons_append, List.append_nil, List.map_cons, List.map_nil, List.sum_cons, List.sum_nil, List.length_cons, List.length_nil, Option.toList, cond_true, cond_false, Nat.reduceBEq, Nat.reduceAdd, Nat.reduceLeDiff, beq_self_eq_true, true_and, and_true, BEq.rfl, Bool.false_eq_true, if_true, if_false, menc_0, menc_1, menc_2, menc_3, menc_4, menc_5, menc_6, menc_7, menc_8, menc_9, menc_10, menc_11, menc_12, menc_13, menc_14, mf_0, mf_1, mf_2, mf_3, mf_4, mf_5, mf_6, mf_7, mf_8, mf_9, mf_10, mf_11, mf_12, mf_13, mf_14, mf_15, mf_16, mf_17, mf_18, mf_19, mf_20, mf_21, mf_22, mf_23, mf_24, mf_25, mf_26, mf_27, mf_28, mf_29, mf_30, mf_31, ms_4, ms_5, ms_6, ms_7, ms_8, ms_9, ms_10, ms_11, ms_12, ms_13, ms_14, ms_16, ms_17, ms_18, ms_19, ms_23, ms_24, ms_27, mu_1, mu_2, mu_3, mu_4, mu_5, mu_6, mu_7, mu_8, mu_9, mu_10, mu_11, mu_12, mu_13, mu_14]
      simp (disch := omega) only [true_and, and_true, lit, nI_add, nar_i, nar_0, nar_1, nar_b, fit_i, fit_l, pk_rem, nI_leI, nI_ltI, nI_eq, vin_iff, nI_clamp, nI_m1]
      have e3 : unC B s c0 c1 i 3 = nI s := by rw [← b3]; unfold unC unB unA; grind
      simp (disch := omega) only [true_and, and_true, lit, nI_add, nar_i, nar_0, nar_1, nar_b, fit_i, fit_l, pk_rem, nI_leI, nI_ltI, nI_eq, vin_iff, nI_clamp, nI_m1, e3, pk_us, pk_un, pk_mul, pk_sub, Nat.reduceLT, Nat.reduceEqDiff, Nat.reduceSub, Nat.reduceAdd, Nat.reduceMul, reduceIte]
      refine ⟨fun h => ?_, fun h => ⟨by omega, by omega, _, ?_, i + 1, by omega, rfl, rfl, ?_⟩⟩
      · have e : i = 30 := by omega
        subst e
        exact hQ
      · omega
      · rw [unC_s _ _ _ _ _ _ (show unC B s c0 c1 i (145 + 101 * s + 1 + 70 + i) = _ from ?_)]
        unfold unC unB unA
        grind
  · exact h.elim
