/-! the reference: steps -/
theorem keA_at {a : Nat → Int32} {s i j : Nat} (h : j < 145 + 101 * s ∨ 146 + 101 * s + i ≤ j) : keA a s i j = a j := by
  unfold keA
  rw [if_neg (by omega), if_neg (by omega)]
theorem keB_at {a : Nat → Int32} {s i j : Nat} (hi : i ≤ 30) (h : j < 145 + 101 * s ∨ 246 + 101 * s ≤ j) : keB a s i j = a j := by
  unfold keB
  rw [if_neg (by omega), keA_at (by omega)]
theorem keF_at {a : Nat → Int32} {s j : Nat} (hs : s ≤ 30) (h : (j < 145 ∧ j ≠ 3) ∨ 3175 ≤ j) : keF a s j = a j := by
  unfold keF keF1
  split
  · rw [pk_un (by omega), keB_at (by decide) (by omega), pk_un (by omega)]
    unfold shS
    rw [if_neg (by omega)]
  · rw [pk_un (by omega), keB_at (by decide) (by omega)]
theorem keF_3 {a : Nat → Int32} {s : Nat} : keF a s 3 = nI (if s = 30 then 30 else s + 1) := by
  unfold keF keF1
  split
  · rw [pk_us]
  · rw [pk_us]
theorem DW.of {a a' : Nat → Int32} {N : Nat} (h : DW a N) (he : ∀ j, j < 100 → j ≠ 3 → a' j = a j) : DW a' N := by
  have h' := h
  obtain ⟨g0, g2, g6, g7, g8, gk, gp, gc⟩ := h
  refine h'.up (he 0 (by decide) (by decide)) (he 2 (by decide) (by decide)) ?_ ?_ ?_ (fun j hj => ?_) (fun j hj => ?_) (fun j h1 h2 => he j (by omega) (by omega))
  · rw [he 6 (by decide) (by decide)]; exact g6
  · rw [he 7 (by decide) (by decide)]; exact g7
  · rw [he 8 (by decide) (by decide)]; exact g8
  · rw [he _ (by omega) (by omega)]; exact gk j hj
  · rw [he _ (by omega) (by omega)]; exact gp j hj
theorem DW.ke {a : Nat → Int32} {N s : Nat} (h : DW a N) (hs : s ≤ 30) : DW (keF a s) N := h.of fun j h1 h2 => keF_at hs (Or.inl ⟨by omega, h2⟩)
theorem pasF_at {tx : Nat → List rCl} {wr : Bool} {a : Nat → Int32} {N j : Nat} (h : DW a N) (hj : j < 3175) (h6 : j ≠ 6) (h7 : j ≠ 7) (h8 : j ≠ 8) (hr : j < 39 ∨ 76 ≤ j) : pasF tx wr a j = a j := by
  obtain ⟨ch, hch, e0⟩ := h.1
  unfold pasF
  rw [e0, nI_clamp (by omega)]
  obtain ⟨dK, kK⟩ := pasK_ok (tx := tx) (wr := wr) h ch (by omega)
  obtain ⟨dP, kP⟩ := pasP_ok (tx := tx) dK 30 (Nat.le_refl _)
  rw [pk_un h6, kP j (by omega), kK j hj h7 h8 (by omega)]
theorem pasF_6 {tx : Nat → List rCl} {wr : Bool} {a : Nat → Int32} {N : Nat} (h : DW a N) : pasF tx wr a 6 = a 6 + nI 1 := by
  obtain ⟨ch, hch, e0⟩ := h.1
  unfold pasF
  rw [e0, nI_clamp (by omega)]
  obtain ⟨dK, kK⟩ := pasK_ok (tx := tx) (wr := wr) h ch (by omega)
  obtain ⟨dP, kP⟩ := pasP_ok (tx := tx) dK 30 (Nat.le_refl _)
  rw [pk_us, kP 6 (by omega), kK 6 (by decide) (by decide) (by decide) (by omega)]
theorem DW.pas {tx : Nat → List rCl} {wr : Bool} {a : Nat → Int32} {N : Nat} (h : DW a N) (h6 : a 6 ≠ nI 9999) : DW (pasF tx wr a) N := by
  obtain ⟨ch, hch, e0⟩ := h.1
  obtain ⟨dK, kK⟩ := pasK_ok (tx := tx) (wr := wr) h ch (by omega)
  obtain ⟨dP, kP⟩ := pasP_ok (tx := tx) dK 30 (Nat.le_refl _)
  have e6 := pasF_6 (tx := tx) (wr := wr) h
  have hu : ∀ j, j ≠ 6 → pasF tx wr a j = pasP tx (pasK tx wr a ch) 30 j := fun j hj => by
    unfold pasF
    rw [e0, nI_clamp (by omega), pk_un hj]
  have dP' := dP
  obtain ⟨g0, g2, g6, g7, g8, gk, gp, gc⟩ := dP'
  refine dP.up (hu 0 (by decide)) (hu 2 (by decide)) ?_ ?_ ?_ (fun j hj => ?_) (fun j hj => ?_) (fun j h1 h2 => hu j (by omega))
  · obtain ⟨y, hy, ey⟩ := h.2.2.1
    rw [ey] at h6
    have hne : y ≠ 9999 := fun q => h6 (by rw [q])
    exact ⟨y + 1, by omega, by rw [e6, ey, nI_add]⟩
  · rw [hu 7 (by decide)]; exact g7
  · rw [hu 8 (by decide)]; exact g8
  · rw [hu _ (by omega)]; exact gk j hj
  · rw [hu _ (by omega)]; exact gp j hj
/-- so many years, as far as they can pass: what is, how many came, whether all could -/
def apF (tx : Nat → List rCl) (a : Nat → Int32) : Nat → (Nat → Int32) × Nat × Bool
  | 0 => (a, 0, true)
  | k + 1 => if (apF tx a k).2.2 = false then apF tx a k else if (apF tx a k).1 6 = nI 9999 then ((apF tx a k).1, (apF tx a k).2.1, false) else (pasF tx true (keF (apF tx a k).1 ((apF tx a k).1 3).toNatClampNeg), (apF tx a k).2.1 + cameN (apF tx a k).1 ((apF tx a k).1 0).toNatClampNeg, true)
def D3 (a : Nat → Int32) (N : Nat) : Prop := DW a N ∧ ∃ s, s ≤ 30 ∧ a 3 = nI s
theorem D3.ke {a : Nat → Int32} {N s : Nat} (h : D3 a N) (hs : s ≤ 30) : D3 (keF a s) N := ⟨h.1.ke hs, _, by split <;> omega, keF_3⟩
theorem D3.pas {tx : Nat → List rCl} {wr : Bool} {a : Nat → Int32} {N : Nat} (h : D3 a N) (h6 : a 6 ≠ nI 9999) : D3 (pasF tx wr a) N := ⟨h.1.pas h6, by rw [pasF_at h.1 (by decide) (by decide) (by decide) (by decide) (by omega)]; exact h.2⟩
theorem D3.run {tx : Nat → List rCl} {wr : Bool} {a : Nat → Int32} {N c p x : Nat} (h : D3 a N) (hc : c < 7) (hx : x < 30691) : D3 (runA tx wr a c p x) N := by
  obtain ⟨b, hb, eb⟩ := h.1.2.2.2.2.1
  exact ⟨h.1.run hc hx, by rw [runA_at eb hb (by decide) (by decide) (by decide) (by omega)]; exact h.2⟩
theorem apF_ok {tx : Nat → List rCl} {a : Nat → Int32} {N : Nat} (h : D3 a N) : ∀ k, D3 (apF tx a k).1 N ∧ (apF tx a k).2.1 ≤ 7 * k
  | 0 => ⟨h, Nat.zero_le _⟩
  | k + 1 => by
    obtain ⟨i1, i2⟩ := apF_ok (tx := tx) h k
    rw [apF]
    split
    · exact ⟨i1, by omega⟩
    · split
      · exact ⟨i1, by show (apF tx a k).2.1 ≤ _; omega⟩
      · rename_i e
        obtain ⟨s, hs, es⟩ := i1.2
        obtain ⟨ch, hch, ech⟩ := i1.1.1
        refine ⟨?_, ?_⟩
        · show D3 (pasF tx true (keF (apF tx a k).1 ((apF tx a k).1 3).toNatClampNeg)) N
          rw [es, nI_clamp (by omega)]
          exact (i1.ke hs).pas (by rw [keF_at hs (Or.inl ⟨by decide, by decide⟩)]; exact e)
        · show (apF tx a k).2.1 + cameN (apF tx a k).1 ((apF tx a k).1 0).toNatClampNeg ≤ _
          have := howmany_le (fun c => decide ((apF tx a k).1 (69 + c) = -nI 1)) ((apF tx a k).1 0).toNatClampNeg
          rw [ech, nI_clamp (by omega)] at this ⊢
          show _ + howmany _ ch ≤ _
          omega
theorem apF_stay {tx : Nat → List rCl} {a : Nat → Int32} {k : Nat} (h : (apF tx a k).2.2 = false) : ∀ d, apF tx a (k + d) = apF tx a k
  | 0 => rfl
  | d + 1 => by
    have e := apF_stay h d
    show apF tx a (k + d + 1) = _
    rw [apF, e, if_pos h]
theorem cameN_ke {a : Nat → Int32} {s : Nat} (hs : s ≤ 30) : ∀ ch, ch ≤ 7 → cameN (keF a s) ch = cameN a ch
  | 0, _ => rfl
  | c + 1, h => by
    have e := cameN_ke (a := a) hs c (by omega)
    have hk : keF a s (69 + c) = a (69 + c) := keF_at hs (Or.inl ⟨by omega, by omega⟩)
    unfold cameN at e ⊢
    rw [howmany, howmany, e, hk]
def MS (σ : Nat → Int32) (A : Nat → Nat → Int32) (tx : Nat → List rCl) (N : Nat) : Prop := TXS (A 3) tx N ∧ D3 (A 1) N ∧ NS (A 6) ∧ σ 23 = bB true
theorem MF.trans {σ0 σ1 σ2 : Nat → Int32} {A0 A1 A2 : Nat → Nat → Int32} (h : MF σ0 A0 σ1 A1) (h2 : MF σ1 A1 σ2 A2) : MF σ0 A0 σ2 A2 := ⟨fun j q => by rw [h2.1 j q, h.1 j q], fun j q1 q2 q3 => by rw [h2.2.1 j q1 q2 q3, h.2.1 j q1 q2 q3], h2.2.2⟩
theorem MF.s1 {σ0 σ1 : Nat → Int32} {A0 A1 : Nat → Nat → Int32} {f : Nat → Int32} (h : MF σ0 A0 σ1 A1) : MF σ0 A0 σ1 (sup A1 1 f) := ⟨h.1, fun j q1 q2 q3 => by rw [supa, if_neg q1]; exact h.2.1 j q1 q2 q3, by rw [supa, if_neg (by decide)]; exact h.2.2⟩
theorem MF.refl {σ : Nat → Int32} {A : Nat → Nat → Int32} (h : NS (A 6)) : MF σ A σ A := ⟨fun _ _ => rfl, fun _ _ _ _ => rfl, h⟩
theorem MF.s24 {σ0 σ1 : Nat → Int32} {A0 A1 : Nat → Nat → Int32} {v : Int32} (h : MF σ0 A0 σ1 A1) : MF σ0 A0 (sup σ1 24 v) A1 := ⟨fun j q => by rw [supa, if_neg q]; exact h.1 j q, h.2.1, h.2.2⟩
def arI (m : Nat) (tx : Nat → List rCl) (k : Nat) (σ : Nat → Int32) (w : Int64) (A : Nat → Nat → Int32) (R : gC) (n0 z0 μ : Nat) : gKo := fun lv st C n z => st = [] ∧ n = n0 ∧ z = z0 ∧ ∃ σ' A' L' i, C = menc m σ' w A' L' R ∧ MF σ A σ' A' ∧ i ≤ k ∧ μ = k - i ∧ lv = [some (.ref m), some (.int (nI k)), some (.int (nI i))] ∧ A' 1 = (apF tx (A 1) i).1 ∧ σ' 24 = nI (apF tx (A 1) i).2.1 ∧ (apF tx (A 1) i).2.2 = true
def sp_X12_arePassed : gSp := fun as C n z Q => match as with
  | [.ref m, .int x] => ∃ σ w A L R tx N k, C = menc m σ w A L R ∧ MS σ A tx N ∧ x = nI k ∧ k ≤ 60 ∧ ∀ σ' A' L', MF σ A σ' A' → A' 1 = (apF tx (A 1) k).1 → σ' 24 = nI (apF tx (A 1) k).2.1 → Q (some (.int (bB (apF tx (A 1) k).2.2))) (menc m σ' w A' L' R) n z
  | _ => False
set_option maxRecDepth 100000 in
set_option maxHeartbeats 4000000 in
theorem c_X12_arePassed (l : Launch) : Con l yX12_arePassed cX12_arePassed 3 (some .boolean) 7 0 0 sp_X12_arePassed := by
  refine m_X12_arePassed (c_X12_keep l) (by decide) (c_X12_pass l) (by decide) ?_
  intro as C0 n0 z0 Q h
  unfold sp_X12_arePassed at h
  split at h
  · rename_i m x
    obtain ⟨σ, w, A, L, R, tx, N, k, rfl, ⟨hT, hD, hNS, h23⟩, rfl, hk, hQ⟩ := h
    refine ⟨Nat.le_of_ble_eq_true rfl, fun pc μ => arI m tx k σ w A R n0 z0 μ, ?_, ?_⟩
    · simp only [b_X12_arePassed_0, s_psh, s_ild, s_lld, s_ald, s_ist, s_lst, s_ast, s_inc, s_ib, s_ibz, s_iu, s_lb, s_lbz, s_lu, s_ls, s_il, s_li, s_cmp, s_dup, s_pop, s_dup2, s_cv, s_cs, s_ci, s_oi, s_get, s_put, s_iald, s_lald, s_zald, s_iast, s_last, s_zast, s_alen, s_iret, s_lret, s_aret, s_vret, s_al, gpad, gl, gst, gclr, gc2, gent, gcat, Value.category, List.drop_succ_cons, List.drop_zero, List.take_succ_cons, List.take_zero, List.reverse_cons, List.reverse_nil, List.nil_append, List.cons_append, List.append_nil, List.map_cons, List.map_nil, List.sum_cons, List.sum_nil, List.length_cons, List.length_nil, Option.toList, cond_true, cond_false, Nat.reduceBEq, Nat.reduceAdd, Nat.reduceLeDiff, beq_self_eq_true, true_and, and_true, BEq.rfl, Bool.false_eq_true, if_true, if_false, menc_0, menc_1, menc_2, menc_3, menc_4, menc_5, menc_6, menc_7, menc_8, menc_9, menc_10, menc_11, menc_12, menc_13, menc_14, mf_0, mf_1, mf_2, mf_3, mf_4, mf_5, mf_6, mf_7, mf_8, mf_9, mf_10, mf_11, mf_12, mf_13, mf_14, mf_15, mf_16, mf_17, mf_18, mf_19, mf_20, mf_21, mf_22, mf_23, mf_24, mf_25, mf_26, mf_27, mf_28, mf_29, mf_30, mf_31, ms_4, ms_5, ms_6, ms_7, ms_8, ms_9, ms_10, ms_11, ms_12, ms_13, ms_14, ms_16, ms_17, ms_18, ms_19, ms_23, ms_24, ms_27, mu_1, mu_2, mu_3, mu_4, mu_5, mu_6, mu_7, mu_8, mu_9, mu_10, mu_11, mu_12, mu_13, mu_14]
      try simp only [true_and, and_true, lit, nI_add, nar_i, nar_0, nar_1, nar_b, fit_i, fit_l, pk_rem, nI_leI, nI_ltI, nI_eq, vin_iff, nI_clamp, nI_m1]
      exact ⟨_, rfl, rfl, rfl, _, A, L, 0, rfl, (MF.refl hNS).s24, Nat.zero_le _, rfl, rfl, rfl, by rw [supa, if_pos rfl]; rfl, rfl⟩
    · rintro μ lv st C n z ⟨rfl, rfl, rfl, σ', A', L', i, rfl, hMF, hi, rfl, rfl, hA1, h24, htr⟩
      have hdi := (apF_ok (tx := tx) hD i).1
      have hdi' := hdi
      obtain ⟨⟨⟨ch, hch, ech⟩, -, ⟨y, hy, ey⟩, -⟩, s, hs, es⟩ := hdi'
      simp only [b_X12_arePassed_7, s_psh, s_ild, s_lld, s_ald, s_ist, s_lst, s_ast, s_inc, s_ib, s_ibz, s_iu, s_lb, s_lbz, s_lu, s_ls, s_il, s_li, s_cmp, s_dup, s_pop, s_dup2, s_cv, s_cs, s_ci, s_oi, s_get, s_put, s_iald, s_lald, s_zald, s_iast, s_last, s_zast, s_alen, s_iret, s_lret, s_aret, s_vret, s_al, gpad, gl, gst, gclr, gc2, gent, gcat, Value.category, List.drop_succ_cons, List.drop_zero, List.take_succ_cons, List.take_zero, List.reverse_cons, List.reverse_nil, List.nil_append, List.cons_append, List.append_nil, List.map_cons, List.map_nil, List.sum_cons, List.sum_nil, List.length_cons, List.length_nil, Option.toList, cond_true, cond_false, Nat.reduceBEq, Nat.reduceAdd, Nat.reduceLeDiff, beq_self_eq_true, true_and, and_true, BEq.rfl, Bool.false_eq_true, if_true, if_false, menc_0, menc_1, menc_2, menc_3, menc_4, menc_5, menc_6, menc_7, menc_8, menc_9, menc_10, menc_11, menc_12, menc_13, menc_14, mf_0, mf_1, mf_2, mf_3, mf_4, mf_5, mf_6, mf_7, mf_8, mf_9, mf_10, mf_11, mf_12, mf_13, mf_14, mf_15, mf_16, mf_17, mf_18, mf_19, mf_20, mf_21, mf_22, mf_23, mf_24, mf_25, mf_26, mf_27, mf_28, mf_29, mf_30, mf_31, ms_4, ms_5, ms_6, ms_7, ms_8, ms_9, ms_10, ms_11, ms_12, ms_13, ms_14, ms_16, ms_17, ms_18, ms_19, ms_23, ms_24, ms_27, mu_1, mu_2, mu_3, mu_4, mu_5, mu_6, mu_7, mu_8, mu_9, mu_10, mu_11, mu_12, mu_13, mu_14]
      try simp only [true_and, and_true, lit, nI_add, nar_i, nar_0, nar_1, nar_b, fit_i, fit_l, pk_rem, nI_leI, nI_ltI, nI_eq, vin_iff, nI_clamp, nI_m1]
      refine if2i (fun q => ?_) (fun q => ?_)
      · rw [nI_leI (by omega) (by omega)] at q
        have hik : i = k := by omega
        subst hik
        simp only [s_psh, s_ild, s_lld, s_ald, s_ist, s_lst, s_ast, s_inc, s_ib, s_ibz, s_iu, s_lb, s_lbz, s_lu, s_ls, s_il, s_li, s_cmp, s_dup, s_pop, s_dup2, s_cv, s_cs, s_ci, s_oi, s_get, s_put, s_iald, s_lald, s_zald, s_iast, s_last, s_zast, s_alen, s_iret, s_lret, s_aret, s_vret, s_al, gpad, gl, gst, gclr, gc2, gent, gcat, Value.category, List.drop_succ_cons, List.drop_zero, List.take_succ_cons, List.take_zero, List.reverse_cons, List.reverse_nil, List.nil_append, List.cons_append, List.append_nil, List.map_cons, List.map_nil, List.sum_cons, List.sum_nil, List.length_cons, List.length_nil, Option.toList, cond_true, cond_false, Nat.reduceBEq, Nat.reduceAdd, Nat.reduceLeDiff, beq_self_eq_true, true_and, and_true, BEq.rfl, Bool.false_eq_true, if_true, if_false, menc_0, menc_1, menc_2, menc_3, menc_4, menc_5, menc_6, menc_7, menc_8, menc_9, menc_10, menc_11, menc_12, menc_13, menc_14, mf_0, mf_1, mf_2, mf_3, mf_4, mf_5, mf_6, mf_7, mf_8, mf_9, mf_10, mf_11, mf_12, mf_13, mf_14, mf_15, mf_16, mf_17, mf_18, mf_19, mf_20, mf_21, mf_22, mf_23, mf_24, mf_25, mf_26, mf_27, mf_28, mf_29, mf_30, mf_31, ms_4, ms_5, ms_6, ms_7, ms_8, ms_9, ms_10, ms_11, ms_12, ms_13, ms_14, ms_16, ms_17, ms_18, ms_19, ms_23, ms_24, ms_27, mu_1, mu_2, mu_3, mu_4, mu_5, mu_6, mu_7, mu_8, mu_9, mu_10, mu_11, mu_12, mu_13, mu_14]
        try simp only [true_and, and_true, lit, nI_add, nar_i, nar_0, nar_1, nar_b, fit_i, fit_l, pk_rem, nI_leI, nI_ltI, nI_eq, vin_iff, nI_clamp, nI_m1]
        have := hQ σ' A' L' hMF hA1 h24
        rw [htr] at this
        exact this
      · rw [nI_leI (by omega) (by omega)] at q
        simp only [s_psh, s_ild, s_lld, s_ald, s_ist, s_lst, s_ast, s_inc, s_ib, s_ibz, s_iu, s_lb, s_lbz, s_lu, s_ls, s_il, s_li, s_cmp, s_dup, s_pop, s_dup2, s_cv, s_cs, s_ci, s_oi, s_get, s_put, s_iald, s_lald, s_zald, s_iast, s_last, s_zast, s_alen, s_iret, s_lret, s_aret, s_vret, s_al, gpad, gl, gst, gclr, gc2, gent, gcat, Value.category, List.drop_succ_cons, List.drop_zero, List.take_succ_cons, List.take_zero, List.reverse_cons, List.reverse_nil, List.nil_append, List.cons_append, List.append_nil, List.map_cons, List.map_nil, List.sum_cons, List.sum_nil, List.length_cons, List.length_nil, Option.toList, cond_true, cond_false, Nat.reduceBEq, Nat.reduceAdd, Nat.reduceLeDiff, beq_self_eq_true, true_and, and_true, BEq.rfl, Bool.false_eq_true, if_true, if_false, menc_0, menc_1, menc_2, menc_3, menc_4, menc_5, menc_6, menc_7, menc_8, menc_9, menc_10, menc_11, menc_12, menc_13, menc_14, mf_0, mf_1, mf_2, mf_3, mf_4, mf_5, mf_6, mf_7, mf_8, mf_9, mf_10, mf_11, mf_12, mf_13, mf_14, mf_15, mf_16, mf_17, mf_18, mf_19, mf_20, mf_21, mf_22, mf_23, mf_24, mf_25, mf_26, mf_27, mf_28, mf_29, mf_30, mf_31, ms_4, ms_5, ms_6, ms_7, ms_8, ms_9, ms_10, ms_11, ms_12, ms_13, ms_14, ms_16, ms_17, ms_18, ms_19, ms_23, ms_24, ms_27, mu_1, mu_2, mu_3, mu_4, mu_5, mu_6, mu_7, mu_8, mu_9, mu_10, mu_11, mu_12, mu_13, mu_14]
        simp (disch := omega) only [true_and, and_true, lit, nI_add, nar_i, nar_0, nar_1, nar_b, fit_i, fit_l, pk_rem, nI_leI, nI_ltI, nI_eq, vin_iff, nI_clamp, nI_m1, Nat.reduceLT, hA1, ey]
        refine if2i (fun e => ?_) (fun e => ?_)
        · have e6 : (apF tx (A 1) i).1 6 = nI 9999 := by rw [ey]; exact e
          have ePs : apF tx (A 1) (i + 1) = ((apF tx (A 1) i).1, (apF tx (A 1) i).2.1, false) := by
            rw [apF, if_neg (by rw [htr]; decide), if_pos e6]
          have eK : apF tx (A 1) k = ((apF tx (A 1) i).1, (apF tx (A 1) i).2.1, false) := by
            have := apF_stay (tx := tx) (a := A 1) (k := i + 1) (by rw [ePs]) (k - (i + 1))
            rw [show i + 1 + (k - (i + 1)) = k by omega] at this
            rw [this, ePs]
          rw [eK] at hQ
          simp only [s_psh, s_ild, s_lld, s_ald, s_ist, s_lst, s_ast, s_inc, s_ib, s_ibz, s_iu, s_lb, s_lbz, s_lu, s_ls, s_il, s_li, s_cmp, s_dup, s_pop, s_dup2, s_cv, s_cs, s_ci, s_oi, s_get, s_put, s_iald, s_lald, s_zald, s_iast, s_last, s_zast, s_alen, s_iret, s_lret, s_aret, s_vret, s_al, gpad, gl, gst, gclr, gc2, gent, gcat, Value.category, List.drop_succ_cons, List.drop_zero, List.take_succ_cons, List.take_zero, List.reverse_cons, List.reverse_nil, List.nil_append, List.cons_append, List.append_nil, List.map_cons, List.map_nil, List.sum_cons, List.sum_nil, List.length_cons, List.length_nil, Option.toList, cond_true, cond_false, Nat.reduceBEq, Nat.reduceAdd, Nat.reduceLeDiff, beq_self_eq_true, true_and, and_true, BEq.rfl, Bool.false_eq_true, if_true, if_false, menc_0, menc_1, menc_2, menc_3, menc_4, menc_5, menc_6, menc_7, menc_8, menc_9, menc_10, menc_11, menc_12, menc_13, menc_14, mf_0, mf_1, mf_2, mf_3, mf_4, mf_5, mf_6, mf_7, mf_8, mf_9, mf_10, mf_11, mf_12, mf_13, mf_14, mf_15, mf_16, mf_17, mf_18, mf_19, mf_20, mf_21, mf_22, mf_23, mf_24, mf_25, mf_26, mf_27, mf_28, mf_29, mf_30, mf_31, ms_4, ms_5, ms_6, ms_7, ms_8, ms_9, ms_10, ms_11, ms_12, ms_13, ms_14, ms_16, ms_17, ms_18, ms_19, ms_23, ms_24, ms_27, mu_1, mu_2, mu_3, mu_4, mu_5, mu_6, mu_7, mu_8, mu_9, mu_10, mu_11, mu_12, mu_13, mu_14]
          try simp only [true_and, and_true, lit, nI_add, nar_i, nar_0, nar_1, nar_b, fit_i, fit_l, pk_rem, nI_leI, nI_ltI, nI_eq, vin_iff, nI_clamp, nI_m1]
          exact hQ σ' A' L' hMF hA1 h24
        · have e6 : ¬ (apF tx (A 1) i).1 6 = nI 9999 := by rw [ey]; exact e
          have ePs : apF tx (A 1) (i + 1) = (pasF tx true (keF (apF tx (A 1) i).1 s), (apF tx (A 1) i).2.1 + cameN (apF tx (A 1) i).1 ch, true) := by
            rw [apF, if_neg (by rw [htr]; decide), if_neg e6, es, nI_clamp (by omega), ech, nI_clamp (by omega)]
          simp only [sp_X12_keep, isM_menc, ma_1, s_psh, s_ild, s_lld, s_ald, s_ist, s_lst, s_ast, s_inc, s_ib, s_ibz, s_iu, s_lb, s_lbz, s_lu, s_ls, s_il, s_li, s_cmp, s_dup, s_pop, s_dup2, s_cv, s_cs, s_ci, s_oi, s_get, s_put, s_iald, s_lald, s_zald, s_iast, s_last, s_zast, s_alen, s_iret, s_lret, s_aret, s_vret, s_al, gpad, gl, gst, gclr, gc2, gent, gcat, Value.category, List.drop_succ_cons, List.drop_zero, List.take_succ_cons, List.take_zero, List.reverse_cons, List.reverse_nil, List.nil_append, List.cons_append, List.append_nil, List.map_cons, List.map_nil, List.sum_cons, List.sum_nil, List.length_cons, List.length_nil, Option.toList, cond_true, cond_false, Nat.reduceBEq, Nat.reduceAdd, Nat.reduceLeDiff, beq_self_eq_true, true_and, and_true, BEq.rfl, Bool.false_eq_true, if_true, if_false, menc_0, menc_1, menc_2, menc_3, menc_4, menc_5, menc_6, menc_7, menc_8, menc_9, menc_10, menc_11, menc_12, menc_13, menc_14, mf_0, mf_1, mf_2, mf_3, mf_4, mf_5, mf_6, mf_7, mf_8, mf_9, mf_10, mf_11, mf_12, mf_13, mf_14, mf_15, mf_16, mf_17, mf_18, mf_19, mf_20, mf_21, mf_22, mf_23, mf_24, mf_25, mf_26, mf_27, mf_28, mf_29, mf_30, mf_31, ms_4, ms_5, ms_6, ms_7, ms_8, ms_9, ms_10, ms_11, ms_12, ms_13, ms_14, ms_16, ms_17, ms_18, ms_19, ms_23, ms_24, ms_27, mu_1, mu_2, mu_3, mu_4, mu_5, mu_6, mu_7, mu_8, mu_9, mu_10, mu_11, mu_12, mu_13, mu_14]
          simp (disch := omega) only [true_and, and_true, lit, nI_add, nar_i, nar_0, nar_1, nar_b, fit_i, fit_l, pk_rem, nI_leI, nI_ltI, nI_eq, vin_iff, nI_clamp, nI_m1, hA1, es]
          refine ⟨by omega, ?_⟩
          simp only [sp_X12_pass, s_psh, s_ild, s_lld, s_ald, s_ist, s_lst, s_ast, s_inc, s_ib, s_ibz, s_iu, s_lb, s_lbz, s_lu, s_ls, s_il, s_li, s_cmp, s_dup, s_pop, s_dup2, s_cv, s_cs, s_ci, s_oi, s_get, s_put, s_iald, s_lald, s_zald, s_iast, s_last, s_zast, s_alen, s_iret, s_lret, s_aret, s_vret, s_al, gpad, gl, gst, gclr, gc2, gent, gcat, Value.category, List.drop_succ_cons, List.drop_zero, List.take_succ_cons, List.take_zero, List.reverse_cons, List.reverse_nil, List.nil_append, List.cons_append, List.append_nil, List.map_cons, List.map_nil, List.sum_cons, List.sum_nil, List.length_cons, List.length_nil, Option.toList, cond_true, cond_false, Nat.reduceBEq, Nat.reduceAdd, Nat.reduceLeDiff, beq_self_eq_true, true_and, and_true, BEq.rfl, Bool.false_eq_true, if_true, if_false, menc_0, menc_1, menc_2, menc_3, menc_4, menc_5, menc_6, menc_7, menc_8, menc_9, menc_10, menc_11, menc_12, menc_13, menc_14, mf_0, mf_1, mf_2, mf_3, mf_4, mf_5, mf_6, mf_7, mf_8, mf_9, mf_10, mf_11, mf_12, mf_13, mf_14, mf_15, mf_16, mf_17, mf_18, mf_19, mf_20, mf_21, mf_22, mf_23, mf_24, mf_25, mf_26, mf_27, mf_28, mf_29, mf_30, mf_31, ms_4, ms_5, ms_6, ms_7, ms_8, ms_9, ms_10, ms_11, ms_12, ms_13, ms_14, ms_16, ms_17, ms_18, ms_19, ms_23, ms_24, ms_27, mu_1, mu_2, mu_3, mu_4, mu_5, mu_6, mu_7, mu_8, mu_9, mu_10, mu_11, mu_12, mu_13, mu_14]
          refine ⟨σ', w, _, L', R, tx, N, true, rfl, ?_, ?_, ?_, ?_, fun σ2 A2 L2 hM2 hA2 g24 => ?_⟩
          · rw [supa, if_neg (by decide), hMF.2.1 3 (by decide) (by decide) (by decide)]; exact hT
          · rw [supa, if_pos rfl]; exact hdi.1.ke hs
          · rw [supa, if_neg (by decide)]; exact hMF.2.2
          · rw [hMF.1 23 (by decide)]; exact h23
          try simp only [s_psh, s_ild, s_lld, s_ald, s_ist, s_lst, s_ast, s_inc, s_ib, s_ibz, s_iu, s_lb, s_lbz, s_lu, s_ls, s_il, s_li, s_cmp, s_dup, s_pop, s_dup2, s_cv, s_cs, s_ci, s_oi, s_get, s_put, s_iald, s_lald, s_zald, s_iast, s_last, s_zast, s_alen, s_iret, s_lret, s_aret, s_vret, s_al, gpad, gl, gst, gclr, gc2, gent, gcat, Value.category, List.drop_succ_cons, List.drop_zero, List.take_succ_cons, List.take_zero, List.reverse_cons, List.reverse_nil, List.nil_append, List.cons_append, List.append_nil, List.map_cons, List.map_nil, List.sum_cons, List.sum_nil, List.length_cons, List.length_nil, Option.toList, cond_true, cond_false, Nat.reduceBEq, Nat.reduceAdd, Nat.reduceLeDiff, beq_self_eq_true, true_and, and_true, BEq.rfl, Bool.false_eq_true, if_true, if_false, menc_0, menc_1, menc_2, menc_3, menc_4, menc_5, menc_6, menc_7, menc_8, menc_9, menc_10, menc_11, menc_12, menc_13, menc_14, mf_0, mf_1, mf_2, mf_3, mf_4, mf_5, mf_6, mf_7, mf_8, mf_9, mf_10, mf_11, mf_12, mf_13, mf_14, mf_15, mf_16, mf_17, mf_18, mf_19, mf_20, mf_21, mf_22, mf_23, mf_24, mf_25, mf_26, mf_27, mf_28, mf_29, mf_30, mf_31, ms_4, ms_5, ms_6, ms_7, ms_8, ms_9, ms_10, ms_11, ms_12, ms_13, ms_14, ms_16, ms_17, ms_18, ms_19, ms_23, ms_24, ms_27, mu_1, mu_2, mu_3, mu_4, mu_5, mu_6, mu_7, mu_8, mu_9, mu_10, mu_11, mu_12, mu_13, mu_14]
          try simp only [true_and, and_true, lit, nI_add, nar_i, nar_0, nar_1, nar_b, fit_i, fit_l, pk_rem, nI_leI, nI_ltI, nI_eq, vin_iff, nI_clamp, nI_m1]
          refine ⟨k - (i + 1), by omega, rfl, rfl, rfl, σ2, A2, L2, i + 1, rfl, hMF.s1.trans hM2, by omega, rfl, rfl, ?_, ?_, by rw [ePs]⟩
          · rw [hA2, supa, if_pos rfl, ePs]
          · rw [g24, supa, if_pos rfl, h24, ePs, keF_at hs (Or.inl ⟨by decide, by decide⟩), ech, nI_clamp (by omega), cameN_ke hs _ (by omega), nI_add]
  · exact h.elim
