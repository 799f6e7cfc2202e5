/-! the reference made -/
def oE (m ci : Nat) (fs : List Value) (X : gC) : gC := fun q => if q = m then some (.inr (ci, fs)) else X q
theorem oE_of {C : gC} {m ci : Nat} {fs : List Value} (h : C m = some (.inr (ci, fs))) : C = oE m ci fs C := by
  funext q
  unfold oE
  split
  · rename_i e; rw [e, h]
  · rfl
theorem oE_f {m ci k : Nat} {fs : List Value} {X : gC} : gfld (oE m ci fs X) m ci k = fs[k]? := by
  unfold gfld oE
  rw [if_pos rfl]
  simp
theorem oE_s {m ci k : Nat} {v : Value} {fs : List Value} {X : gC} : gsetf (oE m ci fs X) m k v = oE m ci (fs.set k v) X := by
  rw [gsetf_of (show oE m ci fs X m = some (.inr (ci, fs)) from if_pos rfl)]
  funext q
  unfold gup oE
  split
  · rfl
  · rfl
theorem oE_u {m ci n : Nat} {fs : List Value} {X : gC} {e : gE} : gup (oE m ci fs X) (m + (n + 1)) e = oE m ci fs (gup X (m + (n + 1)) e) := by
  funext q
  unfold gup oE
  by_cases h : q = m
  · rw [if_neg (by omega), if_pos h, if_pos h]
  · rw [if_neg h, if_neg h]
theorem gfit_r {a : Nat} {t : FieldType} : gfit (.array t) (.ref a) = True := eq_true ⟨rfl, rfl⟩
theorem gfit_i {x : Int32} : gfit .int (.int x) = True := eq_true ⟨rfl, rfl⟩
theorem gfit_1 : gfit .boolean (.int (nI 1)) = True := eq_true ⟨rfl, rfl⟩
theorem gfit_0 : gfit .boolean (.int (nI 0)) = True := eq_true ⟨rfl, rfl⟩
def aI : Nat → Int32 := fun j => if j = 7 then nI 263 else if j = 2 then -nI 1 else if 9 ≤ j ∧ j < 39 then nI 1 else if 90 ≤ j ∧ j ≤ 102 then nI (j - 90) else nI 0
def AIz : Nat → Nat → Int32 := fun _ _ => 0
def LIz : Nat → Nat → Int64 := fun _ _ => 0
def σIz : Nat → Int32 := fun k => if k = 5 then -nI 1 else if k = 6 then -nI 1 else if k = 23 then nI 1 else 0
def miI (m : Nat) (R : gC) (n0 z0 pc μ : Nat) : gKo := fun lv st C n z => st = [] ∧ n = n0 ∧ z = z0 ∧ ∃ A' i, C = menc m σIz 0 A' LIz R ∧ (∀ j, j ≠ 1 → A' j = AIz j) ∧
  ((pc = 159 ∧ i ≤ 30 ∧ μ = 100 + (30 - i) ∧ lv = [some (.ref m), some (.int (nI i))] ∧ ∀ j, A' 1 j = if j = 7 then nI 263 else if j = 2 then -nI 1 else if 9 ≤ j ∧ j < 9 + i then nI 1 else nI 0) ∨
   (pc = 183 ∧ i ≤ 13 ∧ μ = 13 - i ∧ lv = [some (.ref m), some (.int (nI i))] ∧ ∀ j, A' 1 j = if j = 7 then nI 263 else if j = 2 then -nI 1 else if 9 ≤ j ∧ j < 39 then nI 1 else if 90 ≤ j ∧ j < 90 + i then nI (j - 90) else nI 0))
def m0 : List Value := [.null, .null, .null, .null, .int 0, .int 0, .int 0, .int 0, .int 0, .int 0, .int 0, .long 0, .int 0, .int 0, .int 0, .null, .int 0, .int 0, .int 0, .int 0, .null, .null, .null, .int 0, .int 0, .null, .null, .int 0, .null, .null, .null, .null]
def AI12 : Nat → Nat → Int32 := fun k => if k = 1 then aI else if k = 2 then aI else AIz k
def sp_X12_init : gSp := fun as C n z Q => match as with
  | [.ref m] => C m = some (.inr (12, m0)) ∧ n = m + 1 ∧ Q none (menc m σIz 0 AI12 LIz C) (m + 15) (z + 15420)
  | _ => False
theorem m_made {m : Nat} {X : gC} : oE m 12 (mfs m σIz 0) (gup (gup (gup (gup (gup (gup (gup (gup (gup (gup (gup (gup (gup (gup X (m + 1) (.inl (0, 3205, .inl fun _ => 0))) (m + 2) (.inl (0, 3205, .inl fun _ => 0))) (m + 3) (.inl (0, 2724, .inl fun _ => 0))) (m + 4) (.inl (0, 300, .inl fun _ => 0))) (m + 5) (.inl (0, 160, .inl fun _ => 0))) (m + 6) (.inl (0, 8, .inl fun _ => 0))) (m + 7) (.inl (1, 330, .inr (.inl fun _ => 0)))) (m + 8) (.inl (2, 330, .inl fun _ => 0))) (m + 9) (.inl (0, 76, .inl fun _ => 0))) (m + 10) (.inl (0, 60, .inl fun _ => 0))) (m + 11) (.inl (1, 13, .inr (.inl fun _ => 0)))) (m + 12) (.inl (2, 4096, .inl fun _ => 0))) (m + 13) (.inl (0, 13, .inl fun _ => 0))) (m + 14) (.inl (0, 900, .inl fun _ => 0))) = menc m σIz 0 AIz LIz X := by
  funext q
  by_cases h : m ≤ q ∧ q ≤ m + 14
  · obtain ⟨k, hk, rfl⟩ : ∃ k, k ≤ 14 ∧ q = m + k := ⟨q - m, by omega, by omega⟩
    have : k = 0 ∨ k = 1 ∨ k = 2 ∨ k = 3 ∨ k = 4 ∨ k = 5 ∨ k = 6 ∨ k = 7 ∨ k = 8 ∨ k = 9 ∨ k = 10 ∨ k = 11 ∨ k = 12 ∨ k = 13 ∨ k = 14 := by omega
    rcases this with rfl | rfl | rfl | rfl | rfl | rfl | rfl | rfl | rfl | rfl | rfl | rfl | rfl | rfl | rfl <;> simp [oE, gup, menc] <;> rfl
  · unfold oE gup menc
    have hh : ∀ k, k ≤ 14 → ¬ q = m + k := fun k hk e => h (by omega)
    simp only [hh 0 (by omega) , hh 1 (by omega), hh 2 (by omega), hh 3 (by omega), hh 4 (by omega), hh 5 (by omega), hh 6 (by omega), hh 7 (by omega), hh 8 (by omega), hh 9 (by omega), hh 10 (by omega), hh 11 (by omega), hh 12 (by omega), hh 13 (by omega), hh 14 (by omega), show ¬ q = m from fun e => h (by omega), if_false]
theorem menc_oE {m ci : Nat} {fs : List Value} {σ : Nat → Int32} {w : Int64} {A : Nat → Nat → Int32} {L : Nat → Nat → Int64} {X : gC} : menc m σ w A L (oE m ci fs X) = menc m σ w A L X := by
  funext q
  by_cases h : q = m
  · rw [h, menc_0, menc_0]
  · unfold menc oE
    rw [if_neg h, if_neg h, if_neg h]
theorem get_eq {κ : gKo} {lv : gLv} {st : List Value} {C C' : gC} {n z k ci : Nat} (e : C = C') (h : s_get ci k κ lv st C' n z) : s_get ci k κ lv st C n z := e ▸ h
set_option maxRecDepth 100000 in
set_option maxHeartbeats 4000000 in
theorem c_X12_init (l : Launch) : Con l yX12_init cX12_init 2 none 1 14 15420 sp_X12_init := by
  refine m_X12_init (c_X12_copy l) (by decide) (by decide) ?_
  intro as C0 n0 z0 Q h
  unfold sp_X12_init at h
  split at h
  · rename_i m
    obtain ⟨hC, rfl, hQ⟩ := h
    obtain ⟨X, rfl⟩ : ∃ X, C0 = oE m 12 m0 X := ⟨C0, oE_of hC⟩
    rw [menc_oE] at hQ
    refine ⟨Nat.le_of_ble_eq_true rfl, fun pc μ => miI m X (m + 15) (z0 + 15420) pc μ, ?_, ?_, ?_⟩
    · simp only [b_X12_init_0, s_psh, s_ald, s_oi, s_newi, s_newl, s_newz, s_put, gpad, gl, gst, gclr, gc2, gent, gcat, Value.category, List.drop_succ_cons, List.drop_zero, List.take_succ_cons, List.take_zero, List.reverse_cons, List.reverse_nil, List.nil_append, List.cons_append, List.append_nil, List.map_cons, List.map_nil, List.sum_cons, List.sum_nil, List.length_cons, List.length_nil, Option.toList, cond_true, cond_false, Nat.reduceBEq, Nat.reduceAdd, Nat.reduceLeDiff, beq_self_eq_true, true_and, and_true, BEq.rfl, Bool.false_eq_true, if_true, if_false, oE_f, oE_s, oE_u, Nat.add_assoc, m0, List.set_cons_zero, List.set_cons_succ, List.getElem?_cons_zero, List.getElem?_cons_succ, gfit_r, gfit_i]
      simp (disch := omega) only [true_and, and_true, lit, nI_add, nar_i, nar_0, nar_1, nar_b, fit_i, fit_l, pk_rem, nI_leI, nI_ltI, nI_eq, vin_iff, nI_clamp, nI_m1, gfree, gfit_1, gfit_i, oE_s, List.set_cons_zero, List.set_cons_succ, Nat.add_assoc, Nat.reduceAdd]
      refine ⟨⟨by decide, by omega, by omega, by omega⟩, ⟨by decide, by omega, by omega, by omega⟩, ⟨by decide, by omega, by omega, by omega⟩, ⟨by decide, by omega, by omega, by omega⟩, ⟨by decide, by omega, by omega, by omega⟩, ⟨by decide, by omega, by omega, by omega⟩, ⟨by decide, by omega, by omega, by omega⟩, ⟨by decide, by omega, by omega, by omega⟩, ⟨by decide, by omega, by omega, by omega⟩, ⟨by decide, by omega, by omega, by omega⟩, ⟨by decide, by omega, by omega, by omega⟩, ⟨by decide, by omega, by omega, by omega⟩, ⟨by decide, by omega, by omega, by omega⟩, ⟨by decide, by omega, by omega, by omega⟩, get_eq m_made ?_⟩
      simp only [s_psh, s_ild, s_lld, s_ald, s_ist, s_lst, s_ast, s_inc, s_ib, s_ibz, s_iu, s_lb, s_lbz, s_lu, s_ls, s_il, s_li, s_cmp, s_dup, s_pop, s_dup2, s_cv, s_cs, s_ci, s_oi, s_get, s_put, s_iald, s_lald, s_zald, s_iast, s_last, s_zast, s_alen, s_iret, s_lret, s_aret, s_vret, s_al, gpad, gl, gst, gclr, gc2, gent, gcat, Value.category, List.drop_succ_cons, List.drop_zero, List.take_succ_cons, List.take_zero, List.reverse_cons, List.reverse_nil, List.nil_append, List.cons_append, List.append_nil, List.map_cons, List.map_nil, List.sum_cons, List.sum_nil, List.length_cons, List.length_nil, Option.toList, cond_true, cond_false, Nat.reduceBEq, Nat.reduceAdd, Nat.reduceLeDiff, beq_self_eq_true, true_and, and_true, BEq.rfl, Bool.false_eq_true, if_true, if_false, menc_0, menc_1, menc_2, menc_3, menc_4, menc_5, menc_6, menc_7, menc_8, menc_9, menc_10, menc_11, menc_12, menc_13, menc_14, mf_0, mf_1, mf_2, mf_3, mf_4, mf_5, mf_6, mf_7, mf_8, mf_9, mf_10, mf_11, mf_12, mf_13, mf_14, mf_15, mf_16, mf_17, mf_18, mf_19, mf_20, mf_21, mf_22, mf_23, mf_24, mf_25, mf_26, mf_27, mf_28, mf_29, mf_30, mf_31, ms_4, ms_5, ms_6, ms_7, ms_8, ms_9, ms_10, ms_11, ms_12, ms_13, ms_14, ms_16, ms_17, ms_18, ms_19, ms_23, ms_24, ms_27, mu_1, mu_2, mu_3, mu_4, mu_5, mu_6, mu_7, mu_8, mu_9, mu_10, mu_11, mu_12, mu_13, mu_14]
      simp (disch := omega) only [true_and, and_true, lit, nI_add, nar_i, nar_0, nar_1, nar_b, fit_i, fit_l, pk_rem, nI_leI, nI_ltI, nI_eq, vin_iff, nI_clamp, nI_m1, Nat.reduceLT, sup_same, sup_sup]
      refine ⟨_, rfl, rfl, rfl, _, 0, rfl, fun j q => by rw [supa, if_neg q], .inl ⟨rfl, Nat.zero_le _, rfl, rfl, fun j => ?_⟩⟩
      rw [supa, if_pos rfl]
      by_cases h2 : j = 2
      · rw [h2, pk_us]; rfl
      · rw [pk_un h2]
        by_cases h7 : j = 7
        · rw [h7, pk_us]; rfl
        · rw [pk_un h7, if_neg h7, if_neg h2, if_neg (by omega)]; rfl
    · rintro μ lv st C n z ⟨rfl, rfl, rfl, A1, i, rfl, hA, ⟨-, hi, rfl, rfl, hz⟩ | ⟨h2, -⟩⟩
      · simp only [b_X12_init_159, s_psh, s_ild, s_lld, s_ald, s_ist, s_lst, s_ast, s_inc, s_ib, s_ibz, s_iu, s_lb, s_lbz, s_lu, s_ls, s_il, s_li, s_cmp, s_dup, s_pop, s_dup2, s_cv, s_cs, s_ci, s_oi, s_get, s_put, s_iald, s_lald, s_zald, s_iast, s_last, s_zast, s_alen, s_iret, s_lret, s_aret, s_vret, s_al, gpad, gl, gst, gclr, gc2, gent, gcat, Value.category, List.drop_succ_cons, List.drop_zero, List.take_succ_cons, List.take_zero, List.reverse_cons, List.reverse_nil, List.nil_append, List.cons_append, List.append_nil, List.map_cons, List.map_nil, List.sum_cons, List.sum_nil, List.length_cons, List.length_nil, Option.toList, cond_true, cond_false, Nat.reduceBEq, Nat.reduceAdd, Nat.reduceLeDiff, beq_self_eq_true, true_and, and_true, BEq.rfl, Bool.false_eq_true, if_true, if_false, menc_0, menc_1, menc_2, menc_3, menc_4, menc_5, menc_6, menc_7, menc_8, menc_9, menc_10, menc_11, menc_12, menc_13, menc_14, mf_0, mf_1, mf_2, mf_3, mf_4, mf_5, mf_6, mf_7, mf_8, mf_9, mf_10, mf_11, mf_12, mf_13, mf_14, mf_15, mf_16, mf_17, mf_18, mf_19, mf_20, mf_21, mf_22, mf_23, mf_24, mf_25, mf_26, mf_27, mf_28, mf_29, mf_30, mf_31, ms_4, ms_5, ms_6, ms_7, ms_8, ms_9, ms_10, ms_11, ms_12, ms_13, ms_14, ms_16, ms_17, ms_18, ms_19, ms_23, ms_24, ms_27, mu_1, mu_2, mu_3, mu_4, mu_5, mu_6, mu_7, mu_8, mu_9, mu_10, mu_11, mu_12, mu_13, mu_14]
        try simp only [lit]
        refine if2i (fun g => ?_) (fun g => ?_)
        · rw [nI_leI (by omega) (by omega)] at g
          have hi30 : i = 30 := by omega
          subst hi30
          simp only [s_psh, s_ild, s_lld, s_ald, s_ist, s_lst, s_ast, s_inc, s_ib, s_ibz, s_iu, s_lb, s_lbz, s_lu, s_ls, s_il, s_li, s_cmp, s_dup, s_pop, s_dup2, s_cv, s_cs, s_ci, s_oi, s_get, s_put, s_iald, s_lald, s_zald, s_iast, s_last, s_zast, s_alen, s_iret, s_lret, s_aret, s_vret, s_al, gpad, gl, gst, gclr, gc2, gent, gcat, Value.category, List.drop_succ_cons, List.drop_zero, List.take_succ_cons, List.take_zero, List.reverse_cons, List.reverse_nil, List.nil_append, List.cons_append, List.append_nil, List.map_cons, List.map_nil, List.sum_cons, List.sum_nil, List.length_cons, List.length_nil, Option.toList, cond_true, cond_false, Nat.reduceBEq, Nat.reduceAdd, Nat.reduceLeDiff, beq_self_eq_true, true_and, and_true, BEq.rfl, Bool.false_eq_true, if_true, if_false, menc_0, menc_1, menc_2, menc_3, menc_4, menc_5, menc_6, menc_7, menc_8, menc_9, menc_10, menc_11, menc_12, menc_13, menc_14, mf_0, mf_1, mf_2, mf_3, mf_4, mf_5, mf_6, mf_7, mf_8, mf_9, mf_10, mf_11, mf_12, mf_13, mf_14, mf_15, mf_16, mf_17, mf_18, mf_19, mf_20, mf_21, mf_22, mf_23, mf_24, mf_25, mf_26, mf_27, mf_28, mf_29, mf_30, mf_31, ms_4, ms_5, ms_6, ms_7, ms_8, ms_9, ms_10, ms_11, ms_12, ms_13, ms_14, ms_16, ms_17, ms_18, ms_19, ms_23, ms_24, ms_27, mu_1, mu_2, mu_3, mu_4, mu_5, mu_6, mu_7, mu_8, mu_9, mu_10, mu_11, mu_12, mu_13, mu_14]
          exact ⟨13 - 0, by omega, rfl, rfl, rfl, A1, 0, rfl, hA, .inr ⟨rfl, Nat.zero_le _, rfl, rfl, fun j => by
            rw [hz j]
            by_cases q : 9 ≤ j ∧ j < 39
            · rw [if_pos q, if_pos q]
            · rw [if_neg q, if_neg (show ¬ (9 ≤ j ∧ j < 9 + 30) from q), if_neg (show ¬ (90 ≤ j ∧ j < 90 + 0) by omega)]⟩⟩
        · rw [nI_leI (by omega) (by omega)] at g
          simp only [s_psh, s_ild, s_lld, s_ald, s_ist, s_lst, s_ast, s_inc, s_ib, s_ibz, s_iu, s_lb, s_lbz, s_lu, s_ls, s_il, s_li, s_cmp, s_dup, s_pop, s_dup2, s_cv, s_cs, s_ci, s_oi, s_get, s_put, s_iald, s_lald, s_zald, s_iast, s_last, s_zast, s_alen, s_iret, s_lret, s_aret, s_vret, s_al, gpad, gl, gst, gclr, gc2, gent, gcat, Value.category, List.drop_succ_cons, List.drop_zero, List.take_succ_cons, List.take_zero, List.reverse_cons, List.reverse_nil, List.nil_append, List.cons_append, List.append_nil, List.map_cons, List.map_nil, List.sum_cons, List.sum_nil, List.length_cons, List.length_nil, Option.toList, cond_true, cond_false, Nat.reduceBEq, Nat.reduceAdd, Nat.reduceLeDiff, beq_self_eq_true, true_and, and_true, BEq.rfl, Bool.false_eq_true, if_true, if_false, menc_0, menc_1, menc_2, menc_3, menc_4, menc_5, menc_6, menc_7, menc_8, menc_9, menc_10, menc_11, menc_12, menc_13, menc_14, mf_0, mf_1, mf_2, mf_3, mf_4, mf_5, mf_6, mf_7, mf_8, mf_9, mf_10, mf_11, mf_12, mf_13, mf_14, mf_15, mf_16, mf_17, mf_18, mf_19, mf_20, mf_21, mf_22, mf_23, mf_24, mf_25, mf_26, mf_27, mf_28, mf_29, mf_30, mf_31, ms_4, ms_5, ms_6, ms_7, ms_8, ms_9, ms_10, ms_11, ms_12, ms_13, ms_14, ms_16, ms_17, ms_18, ms_19, ms_23, ms_24, ms_27, mu_1, mu_2, mu_3, mu_4, mu_5, mu_6, mu_7, mu_8, mu_9, mu_10, mu_11, mu_12, mu_13, mu_14]
          simp (disch := omega) only [true_and, and_true, lit, nI_add, nar_i, nar_0, nar_1, nar_b, fit_i, fit_l, pk_rem, nI_leI, nI_ltI, nI_eq, vin_iff, nI_clamp, nI_m1]
          refine ⟨by omega, 100 + (30 - (i + 1)), by omega, rfl, rfl, rfl, _, i + 1, rfl, fun j q => by rw [supa, if_neg q]; exact hA j q, .inl ⟨rfl, by omega, rfl, rfl, fun j => ?_⟩⟩
          rw [supa, if_pos rfl]
          by_cases hj : j = 9 + i
          · rw [hj, pk_us, if_neg (by omega), if_neg (by omega), if_pos (by omega)]
          · rw [pk_un hj, hz j]
            by_cases q : 9 ≤ j ∧ j < 9 + i
            · rw [if_pos q, if_pos (show 9 ≤ j ∧ j < 9 + (i + 1) by omega)]
            · rw [if_neg q, if_neg (show ¬ (9 ≤ j ∧ j < 9 + (i + 1)) by omega)]
      · exact absurd h2 (by decide)
    · rintro μ lv st C n z ⟨rfl, rfl, rfl, A1, i, rfl, hA, ⟨h2, -⟩ | ⟨-, hi, rfl, rfl, hz⟩⟩
      · exact absurd h2 (by decide)
      · simp only [b_X12_init_183, s_psh, s_ild, s_lld, s_ald, s_ist, s_lst, s_ast, s_inc, s_ib, s_ibz, s_iu, s_lb, s_lbz, s_lu, s_ls, s_il, s_li, s_cmp, s_dup, s_pop, s_dup2, s_cv, s_cs, s_ci, s_oi, s_get, s_put, s_iald, s_lald, s_zald, s_iast, s_last, s_zast, s_alen, s_iret, s_lret, s_aret, s_vret, s_al, gpad, gl, gst, gclr, gc2, gent, gcat, Value.category, List.drop_succ_cons, List.drop_zero, List.take_succ_cons, List.take_zero, List.reverse_cons, List.reverse_nil, List.nil_append, List.cons_append, List.append_nil, List.map_cons, List.map_nil, List.sum_cons, List.sum_nil, List.length_cons, List.length_nil, Option.toList, cond_true, cond_false, Nat.reduceBEq, Nat.reduceAdd, Nat.reduceLeDiff, beq_self_eq_true, true_and, and_true, BEq.rfl, Bool.false_eq_true, if_true, if_false, menc_0, menc_1, menc_2, menc_3, menc_4, menc_5, menc_6, menc_7, menc_8, menc_9, menc_10, menc_11, menc_12, menc_13, menc_14, mf_0, mf_1, mf_2, mf_3, mf_4, mf_5, mf_6, mf_7, mf_8, mf_9, mf_10, mf_11, mf_12, mf_13, mf_14, mf_15, mf_16, mf_17, mf_18, mf_19, mf_20, mf_21, mf_22, mf_23, mf_24, mf_25, mf_26, mf_27, mf_28, mf_29, mf_30, mf_31, ms_4, ms_5, ms_6, ms_7, ms_8, ms_9, ms_10, ms_11, ms_12, ms_13, ms_14, ms_16, ms_17, ms_18, ms_19, ms_23, ms_24, ms_27, mu_1, mu_2, mu_3, mu_4, mu_5, mu_6, mu_7, mu_8, mu_9, mu_10, mu_11, mu_12, mu_13, mu_14]
        try simp only [lit]
        refine if2i (fun g => ?_) (fun g => ?_)
        · rw [nI_ltI (by omega) (by omega)] at g
          have hi13 : i = 13 := by omega
          subst hi13
          have e1 : A1 1 = aI := by
            funext j
            rw [hz j]
            unfold aI
            by_cases q : 90 ≤ j ∧ j ≤ 102
            · rw [if_pos q, if_pos (show 90 ≤ j ∧ j < 90 + 13 by omega)]
            · rw [if_neg q, if_neg (show ¬ (90 ≤ j ∧ j < 90 + 13) by omega)]
          simp only [sp_X12_copy, ma_1, ma_2, s_psh, s_ild, s_lld, s_ald, s_ist, s_lst, s_ast, s_inc, s_ib, s_ibz, s_iu, s_lb, s_lbz, s_lu, s_ls, s_il, s_li, s_cmp, s_dup, s_pop, s_dup2, s_cv, s_cs, s_ci, s_oi, s_get, s_put, s_iald, s_lald, s_zald, s_iast, s_last, s_zast, s_alen, s_iret, s_lret, s_aret, s_vret, s_al, gpad, gl, gst, gclr, gc2, gent, gcat, Value.category, List.drop_succ_cons, List.drop_zero, List.take_succ_cons, List.take_zero, List.reverse_cons, List.reverse_nil, List.nil_append, List.cons_append, List.append_nil, List.map_cons, List.map_nil, List.sum_cons, List.sum_nil, List.length_cons, List.length_nil, Option.toList, cond_true, cond_false, Nat.reduceBEq, Nat.reduceAdd, Nat.reduceLeDiff, beq_self_eq_true, true_and, and_true, BEq.rfl, Bool.false_eq_true, if_true, if_false, menc_0, menc_1, menc_2, menc_3, menc_4, menc_5, menc_6, menc_7, menc_8, menc_9, menc_10, menc_11, menc_12, menc_13, menc_14, mf_0, mf_1, mf_2, mf_3, mf_4, mf_5, mf_6, mf_7, mf_8, mf_9, mf_10, mf_11, mf_12, mf_13, mf_14, mf_15, mf_16, mf_17, mf_18, mf_19, mf_20, mf_21, mf_22, mf_23, mf_24, mf_25, mf_26, mf_27, mf_28, mf_29, mf_30, mf_31, ms_4, ms_5, ms_6, ms_7, ms_8, ms_9, ms_10, ms_11, ms_12, ms_13, ms_14, ms_16, ms_17, ms_18, ms_19, ms_23, ms_24, ms_27, mu_1, mu_2, mu_3, mu_4, mu_5, mu_6, mu_7, mu_8, mu_9, mu_10, mu_11, mu_12, mu_13, mu_14]
          try simp (disch := omega) only [true_and, and_true, lit, nI_add, nar_i, nar_0, nar_1, nar_b, fit_i, fit_l, pk_rem, nI_leI, nI_ltI, nI_eq, vin_iff, nI_clamp, nI_m1]
          have eA : sup A1 2 (fun j => if j < 3205 then A1 1 j else A1 2 j) = AI12 := by
            funext k
            rw [supa]
            unfold AI12
            by_cases k2 : k = 2
            · rw [if_pos k2, if_neg (by omega), if_pos k2]
              funext j
              by_cases hj : j < 3205
              · rw [if_pos hj, e1]
              · rw [if_neg hj, hA 2 (by decide)]
                unfold aI
                rw [if_neg (by omega), if_neg (by omega), if_neg (by omega), if_neg (by omega)]
                rfl
            · rw [if_neg k2]
              by_cases k1 : k = 1
              · rw [if_pos k1, k1, e1]
              · rw [if_neg k1, if_neg k2, hA k k1]
          rw [eA]
          exact ⟨Nat.ne_of_lt (Nat.lt_succ_self (m + 1)), hQ⟩
        · rw [nI_ltI (by omega) (by omega)] at g
          simp only [s_psh, s_ild, s_lld, s_ald, s_ist, s_lst, s_ast, s_inc, s_ib, s_ibz, s_iu, s_lb, s_lbz, s_lu, s_ls, s_il, s_li, s_cmp, s_dup, s_pop, s_dup2, s_cv, s_cs, s_ci, s_oi, s_get, s_put, s_iald, s_lald, s_zald, s_iast, s_last, s_zast, s_alen, s_iret, s_lret, s_aret, s_vret, s_al, gpad, gl, gst, gclr, gc2, gent, gcat, Value.category, List.drop_succ_cons, List.drop_zero, List.take_succ_cons, List.take_zero, List.reverse_cons, List.reverse_nil, List.nil_append, List.cons_append, List.append_nil, List.map_cons, List.map_nil, List.sum_cons, List.sum_nil, List.length_cons, List.length_nil, Option.toList, cond_true, cond_false, Nat.reduceBEq, Nat.reduceAdd, Nat.reduceLeDiff, beq_self_eq_true, true_and, and_true, BEq.rfl, Bool.false_eq_true, if_true, if_false, menc_0, menc_1, menc_2, menc_3, menc_4, menc_5, menc_6, menc_7, menc_8, menc_9, menc_10, menc_11, menc_12, menc_13, menc_14, mf_0, mf_1, mf_2, mf_3, mf_4, mf_5, mf_6, mf_7, mf_8, mf_9, mf_10, mf_11, mf_12, mf_13, mf_14, mf_15, mf_16, mf_17, mf_18, mf_19, mf_20, mf_21, mf_22, mf_23, mf_24, mf_25, mf_26, mf_27, mf_28, mf_29, mf_30, mf_31, ms_4, ms_5, ms_6, ms_7, ms_8, ms_9, ms_10, ms_11, ms_12, ms_13, ms_14, ms_16, ms_17, ms_18, ms_19, ms_23, ms_24, ms_27, mu_1, mu_2, mu_3, mu_4, mu_5, mu_6, mu_7, mu_8, mu_9, mu_10, mu_11, mu_12, mu_13, mu_14]
          simp (disch := omega) only [true_and, and_true, lit, nI_add, nar_i, nar_0, nar_1, nar_b, fit_i, fit_l, pk_rem, nI_leI, nI_ltI, nI_eq, vin_iff, nI_clamp, nI_m1]
          refine ⟨by omega, 13 - (i + 1), by omega, rfl, rfl, rfl, _, i + 1, rfl, fun j q => by rw [supa, if_neg q]; exact hA j q, .inr ⟨rfl, by omega, rfl, rfl, fun j => ?_⟩⟩
          rw [supa, if_pos rfl]
          by_cases hj : j = 90 + i
          · rw [hj, pk_us, if_neg (by omega), if_neg (by omega), if_neg (by omega), if_pos (by omega), Nat.add_sub_cancel_left]
          · rw [pk_un hj, hz j]
            by_cases q : 90 ≤ j ∧ j < 90 + i
            · rw [if_pos q, if_pos (show 90 ≤ j ∧ j < 90 + (i + 1) by omega)]
            · rw [if_neg q, if_neg (show ¬ (90 ≤ j ∧ j < 90 + (i + 1)) by omega)]
  · exact h.elim
