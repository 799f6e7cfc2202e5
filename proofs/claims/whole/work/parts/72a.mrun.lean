/-! the reference: a run -/
def nx (x : Nat) : Nat := (x * 503 + 389) % 30691
theorem nx_lt (x : Nat) : nx x < 30691 := Nat.mod_lt _ (by decide)
def sp_X12_anew : gSp := fun as C n z Q => match as with
  | [.ref m] => ∃ σ w A L R x, C = menc m σ w A L R ∧ A 1 7 = nI x ∧ x < 30691 ∧ Q none (menc m σ w (sup A 1 (upd (A 1) 7 (nI (nx x)))) L R) n z
  | _ => False
set_option maxRecDepth 100000 in
theorem c_X12_anew (l : Launch) : Con l yX12_anew cX12_anew 1 none 0 0 0 sp_X12_anew := by
  refine m_X12_anew ?_
  intro as C0 n0 z0 Q h
  unfold sp_X12_anew at h
  split at h
  · rename_i m
    obtain ⟨σ, w, A, L, R, x, rfl, h7, hx, hQ⟩ := h
    have ex : (nI x).toInt64 = lI x := by rw [nI_l (by omega), lN_lI]
    refine ⟨Nat.le_of_ble_eq_true rfl, ?_⟩
    simp only [b_X12_anew_0, s_psh, s_ild, s_lld, s_ald, s_ist, s_lst, s_ast, s_inc, s_ib, s_ibz, s_iu, s_lb, s_lbz, s_lu, s_ls, s_il, s_li, s_cmp, s_dup, s_pop, s_dup2, s_if1, s_if2, s_ifn, s_cv, s_cs, s_ci, s_oi, s_get, s_put, s_iald, s_lald, s_zald, s_iast, s_last, s_zast, s_alen, s_iret, s_lret, s_aret, s_vret, s_al, gpad, gl, gst, gclr, gc2, gent, gcat, Value.category, List.drop_succ_cons, List.drop_zero, List.take_succ_cons, List.take_zero, List.reverse_cons, List.reverse_nil, List.nil_append, List.cons_append, List.append_nil, List.map_cons, List.map_nil, List.sum_cons, List.sum_nil, List.length_cons, List.length_nil, Option.toList, cond_true, cond_false, Nat.reduceBEq, Nat.reduceAdd, Nat.reduceLeDiff, beq_self_eq_true, true_and, and_true, BEq.rfl, Bool.false_eq_true, if_true, if_false, menc_0, menc_1, menc_2, menc_3, menc_4, menc_5, menc_6, menc_7, menc_8, menc_9, menc_10, menc_11, menc_12, menc_13, menc_14, mf_0, mf_1, mf_2, mf_3, mf_4, mf_5, mf_6, mf_7, mf_8, mf_9, mf_10, mf_11, mf_12, mf_13, mf_14, mf_15, mf_16, mf_17, mf_18, mf_19, mf_20, mf_21, mf_22, mf_23, mf_24, mf_25, mf_26, mf_27, mf_28, mf_29, mf_30, mf_31, ms_4, ms_5, ms_6, ms_7, ms_8, ms_9, ms_10, ms_11, ms_12, ms_13, ms_14, ms_16, ms_17, ms_18, ms_19, ms_23, ms_24, ms_27, mu_1, mu_2, mu_3, mu_4, mu_5, mu_6, mu_7, mu_8, mu_9, mu_10, mu_11, mu_12, mu_13, mu_14]
    simp (disch := omega) only [true_and, and_true, lit, nI_add, nar_i, nar_0, nar_1, nar_b, fit_i, fit_l, pk_rem, nI_leI, nI_ltI, nI_eq, vin_iff, nI_clamp, nI_m1, Nat.reduceLT, h7, ex, litI, lI_mul, lI_add, lI_rem, lI_eq, lI_i]
    have e2 : iI (((x : Int) * 503 + 389).tmod 30691) = nI (nx x) := by
      rw [nI_iI]
      congr 1
    rw [e2]
    exact ⟨by omega, hQ⟩
  · exact h.elim
def sp_X12_drawnBy : gSp := fun as C n z Q => match as with
  | [.ref m, .int d] => ∃ σ w A L R x k, C = menc m σ w A L R ∧ d = nI k ∧ 1 ≤ k ∧ k ≤ 30 ∧ A 1 7 = nI x ∧ x < 30691 ∧ Q (some (.int (nI (x % k)))) (menc m σ w (sup A 1 (upd (A 1) 7 (nI (nx x)))) L R) n z
  | _ => False
set_option maxRecDepth 100000 in
theorem c_X12_drawnBy (l : Launch) : Con l yX12_drawnBy cX12_drawnBy 3 (some .int) 1 0 0 sp_X12_drawnBy := by
  refine m_X12_drawnBy (c_X12_anew l) (by decide) ?_
  intro as C0 n0 z0 Q h
  unfold sp_X12_drawnBy at h
  split at h
  · rename_i m d
    obtain ⟨σ, w, A, L, R, x, k, rfl, rfl, hk1, hk2, h7, hx, hQ⟩ := h
    refine ⟨Nat.le_of_ble_eq_true rfl, ?_⟩
    simp only [b_X12_drawnBy_0, sp_X12_anew, s_psh, s_ild, s_lld, s_ald, s_ist, s_lst, s_ast, s_inc, s_ib, s_ibz, s_iu, s_lb, s_lbz, s_lu, s_ls, s_il, s_li, s_cmp, s_dup, s_pop, s_dup2, s_if1, s_if2, s_ifn, s_cv, s_cs, s_ci, s_oi, s_get, s_put, s_iald, s_lald, s_zald, s_iast, s_last, s_zast, s_alen, s_iret, s_lret, s_aret, s_vret, s_al, gpad, gl, gst, gclr, gc2, gent, gcat, Value.category, List.drop_succ_cons, List.drop_zero, List.take_succ_cons, List.take_zero, List.reverse_cons, List.reverse_nil, List.nil_append, List.cons_append, List.append_nil, List.map_cons, List.map_nil, List.sum_cons, List.sum_nil, List.length_cons, List.length_nil, Option.toList, cond_true, cond_false, Nat.reduceBEq, Nat.reduceAdd, Nat.reduceLeDiff, beq_self_eq_true, true_and, and_true, BEq.rfl, Bool.false_eq_true, if_true, if_false, menc_0, menc_1, menc_2, menc_3, menc_4, menc_5, menc_6, menc_7, menc_8, menc_9, menc_10, menc_11, menc_12, menc_13, menc_14, mf_0, mf_1, mf_2, mf_3, mf_4, mf_5, mf_6, mf_7, mf_8, mf_9, mf_10, mf_11, mf_12, mf_13, mf_14, mf_15, mf_16, mf_17, mf_18, mf_19, mf_20, mf_21, mf_22, mf_23, mf_24, mf_25, mf_26, mf_27, mf_28, mf_29, mf_30, mf_31, ms_4, ms_5, ms_6, ms_7, ms_8, ms_9, ms_10, ms_11, ms_12, ms_13, ms_14, ms_16, ms_17, ms_18, ms_19, ms_23, ms_24, ms_27, mu_1, mu_2, mu_3, mu_4, mu_5, mu_6, mu_7, mu_8, mu_9, mu_10, mu_11, mu_12, mu_13, mu_14]
    simp (disch := omega) only [true_and, and_true, lit, nI_add, nar_i, nar_0, nar_1, nar_b, fit_i, fit_l, pk_rem, nI_leI, nI_ltI, nI_eq, vin_iff, nI_clamp, nI_m1, Nat.reduceLT, h7]
    exact ⟨by omega, σ, w, A, L, R, x, rfl, h7, hx, hQ⟩
  · exact h.elim
def runL (K : Nat → Int32) (cv : Nat → Nat → Nat) (p : Nat) : Nat → Nat → Nat → Nat × Nat
  | 0, n, x => (n, x)
  | f + 1, n, x => if K ((p + (59 - f)) % 30) = nI 3 then (n, x) else if K ((p + (59 - f)) % 30) = nI 1 then (if x % 10 < cv ((p + (59 - f)) % 30) (n + 1) then (n + 1, nx x) else runL K cv p f (n + 1) (nx x)) else runL K cv p f n x
theorem runL_s {K : Nat → Int32} {cv : Nat → Nat → Nat} {p i n x : Nat} (h : i < 60) : runL K cv p (60 - i) n x = if K ((p + i) % 30) = nI 3 then (n, x) else if K ((p + i) % 30) = nI 1 then (if x % 10 < cv ((p + i) % 30) (n + 1) then (n + 1, nx x) else runL K cv p (60 - (i + 1)) (n + 1) (nx x)) else runL K cv p (60 - (i + 1)) n x := by
  obtain ⟨f, hf⟩ : ∃ f, 60 - i = f + 1 := ⟨59 - i, by omega⟩
  rw [hf, show 60 - (i + 1) = f by omega, runL, show 59 - f = i by omega]
theorem runL_le {K : Nat → Int32} {cv : Nat → Nat → Nat} {p : Nat} : ∀ f n x, x < 30691 → (runL K cv p f n x).1 ≤ n + f ∧ (runL K cv p f n x).2 < 30691
  | 0, n, x, h => ⟨Nat.le_refl _, h⟩
  | f + 1, n, x, h => by
    rw [runL]
    split
    · exact ⟨by simp, h⟩
    · split
      · split
        · exact ⟨by simp, nx_lt x⟩
        · have := runL_le (K := K) (cv := cv) (p := p) f (n + 1) (nx x) (nx_lt x)
          exact ⟨by omega, this.2⟩
      · have := runL_le (K := K) (cv := cv) (p := p) f n x h
        exact ⟨by omega, this.2⟩
def ruleO (a : Nat → Int32) : Option Nat := if a 2 = -nI 1 then none else some (a 2).toNatClampNeg
def ruleOK (a : Nat → Int32) (N : Nat) : Prop := a 2 = -nI 1 ∨ ∃ t, t < N ∧ a 2 = nI t
theorem ruleOK.e {a : Nat → Int32} {N : Nat} (h : ruleOK a N) (hN : N ≤ 4) : a 2 = tI (ruleO a) ∧ ∀ t', ruleO a = some t' → t' < N := by
  unfold ruleO
  rcases h with h | ⟨t, ht, h⟩
  · rw [if_pos h, h]
    exact ⟨rfl, fun t' e => by cases e⟩
  · have hne : ¬ nI t = -nI 1 := by
      have := nI_m1 t (by omega)
      rw [this]; exact id
    rw [h, if_neg hne, nI_clamp (by omega)]
    exact ⟨rfl, fun t' e => by cases e; exact ht⟩
def runA (tx : Nat → List rCl) (wr : Bool) (a : Nat → Int32) (c p x : Nat) : Nat → Int32 := if wr = true then wrF (upd (upd a 7 (nI (runL (fun j => a (9 + j)) (catF tx a (ruleO a) c) p 60 0 x).2)) (69 + c) (nI (runL (fun j => a (9 + j)) (catF tx a (ruleO a) c) p 60 0 x).1)) (a 8).toNatClampNeg c p else upd (upd a 7 (nI (runL (fun j => a (9 + j)) (catF tx a (ruleO a) c) p 60 0 x).2)) (69 + c) (nI (runL (fun j => a (9 + j)) (catF tx a (ruleO a) c) p 60 0 x).1)
theorem nuC_7 {a : Nat → Int32} {v : Int32} {c p k : Nat} : nuC (upd a 7 v) c p k = nuC a c p k := by
  funext j
  unfold nuC
  rw [pk_un (by decide), pk_un (by omega), pk_un (by omega), pk_un (by omega), pk_un (by omega)]
theorem kaA_7 {a : Nat → Int32} {v : Int32} : kaA (upd a 7 v) = kaA a := by
  funext j
  unfold kaA
  rw [pk_un (by omega)]
theorem catF_7 {tx : Nat → List rCl} {a : Nat → Int32} {v : Int32} {t : Option Nat} {c p k : Nat} : catF tx (upd a 7 v) t c p k = catF tx a t c p k := by
  unfold catF
  rw [nuC_7, kaA_7]
theorem SM_7 {a : Nat → Int32} {v : Int32} (h : SM a) : SM (upd a 7 v) := by
  refine ⟨fun j hj => ?_, ?_, fun c hc => ?_⟩
  · rw [pk_un (by omega), pk_un (by omega)]; exact h.1 j hj
  · rw [pk_un (by decide)]; exact h.2.1
  · rw [pk_un (by omega), pk_un (by omega)]; exact h.2.2 c hc
def rnI (m c p : Nat) (r : Nat × Nat) (tx : Nat → List rCl) (σ : Nat → Int32) (w : Int64) (A : Nat → Nat → Int32) (L : Nat → Nat → Int64) (R : gC) (n0 z0 μ : Nat) : gKo := fun lv st C n z => ∃ i nn xx is o6 o7 A' L', i ≤ 60 ∧ nn ≤ i ∧ xx < 30691 ∧ μ = 60 - i ∧ lv = [some (.ref m), some (.int (nI c)), some (.int (nI p)), some (.int (nI nn)), some (.int (bB is)), some (.int (nI i)), o6, o7] ∧ st = [] ∧ C = menc m σ w A' L' R ∧ n = n0 ∧ z = z0 ∧ (∀ j, j ≠ 1 → j ≠ 6 → j ≠ 8 → A' j = A j) ∧ (∀ j, j ≠ 7 → L' j = L j) ∧ NS (A' 6) ∧ A' 1 = upd (A 1) 7 (nI xx) ∧ (is = true → runL (fun j => A 1 (9 + j)) (catF tx (A 1) (ruleO (A 1)) c) p (60 - i) nn xx = r) ∧ (is = false → (nn, xx) = r)
theorem rnI_go {m c p : Nat} {r : Nat × Nat} {tx : Nat → List rCl} {σ : Nat → Int32} {w : Int64} {A : Nat → Nat → Int32} {L : Nat → Nat → Int64} {R : gC} {n0 z0 i nn xx : Nat} {is : Bool} {o6 o7 : Option Value} {A' : Nat → Nat → Int32} {L' : Nat → Nat → Int64} {lv : gLv} {C : gC} (hi : i < 60) (hn : nn ≤ i + 1) (hx : xx < 30691) (hlv : lv = [some (.ref m), some (.int (nI c)), some (.int (nI p)), some (.int (nI nn)), some (.int (bB is)), some (.int (nI (i + 1))), o6, o7]) (hC : C = menc m σ w A' L' R) (fA : ∀ j, j ≠ 1 → j ≠ 6 → j ≠ 8 → A' j = A j) (fL : ∀ j, j ≠ 7 → L' j = L j) (h6 : NS (A' 6)) (h1 : A' 1 = upd (A 1) 7 (nI xx)) (ht : is = true → runL (fun j => A 1 (9 + j)) (catF tx (A 1) (ruleO (A 1)) c) p (60 - (i + 1)) nn xx = r) (hf : is = false → (nn, xx) = r) : ∃ μ', μ' < 60 - i ∧ rnI m c p r tx σ w A L R n0 z0 μ' lv [] C n0 z0 :=
  ⟨60 - (i + 1), by omega, i + 1, nn, xx, is, o6, o7, A', L', by omega, hn, hx, rfl, hlv, rfl, hC, rfl, rfl, fA, fL, h6, h1, ht, hf⟩
theorem lawV_le (l : List rCl) (sort top : Nat) (ν κ : Nat → Int) (h : 1 ≤ top) : lawV l sort top ν κ ≤ top := by
  unfold lawV
  split
  · exact h
  · exact clN_le _ _
theorem catF_le (tx : Nat → List rCl) (a : Nat → Int32) (t : Option Nat) (c p k : Nat) : catF tx a t c p k ≤ 10 := by
  unfold catF
  split
  · decide
  · exact lawV_le _ _ _ _ _ (by decide)
theorem pntF_le (tx : Nat → List rCl) (a : Nat → Int32) (t : Option Nat) (p : Nat) : pntF tx a t p ≤ 9 := by
  unfold pntF
  split
  · decide
  · exact lawV_le _ _ _ _ _ (by decide)
def sp_X12_runNow : gSp := fun as C n z Q => match as with
  | [.ref m, .int u, .int v] => ∃ σ w A L R tx N c p x wr, C = menc m σ w A L R ∧ u = nI c ∧ v = nI p ∧ c < 7 ∧ p < 30 ∧ A 1 7 = nI x ∧ x < 30691 ∧ TXS (A 3) tx N ∧ ruleOK (A 1) N ∧ SM (A 1) ∧ vp_in (A 1 8) 31 ∧ σ 23 = bB wr ∧ NS (A 6) ∧ ∀ A' L', (∀ j, j ≠ 1 → j ≠ 6 → j ≠ 8 → A' j = A j) → (∀ j, j ≠ 7 → L' j = L j) → NS (A' 6) → A' 1 = runA tx wr (A 1) c p x → Q none (menc m (sup σ 24 (σ 24 + nI 1)) w A' L' R) n z
  | _ => False
set_option maxRecDepth 100000 in
set_option maxHeartbeats 4000000 in
theorem c_X12_runNow (l : Launch) : Con l yX12_runNow cX12_runNow 8 none 5 0 0 sp_X12_runNow := by
  refine m_X12_runNow (c_X12_write l) (by decide) (c_X12_isBar l) (by decide) (c_X12_catchesOf l) (by decide) (c_X12_drawnBy l) (by decide) ?_
  intro as C0 n0 z0 Q h
  unfold sp_X12_runNow at h
  split at h
  · rename_i m u v
    obtain ⟨σ, w, A, L, R, tx, N, c, p, x0, wr, rfl, rfl, rfl, hc, hp, h7, hx0, hT, hru, hS, h8, h23, hNS, hQ⟩ := h
    obtain ⟨hr2, hrN⟩ := hru.e hT.1
    obtain ⟨b8, hb8, e8⟩ := vp_in_of h8 (by decide)
    generalize hrr : runL (fun j => A 1 (9 + j)) (catF tx (A 1) (ruleO (A 1)) c) p 60 0 x0 = r at *
    refine ⟨Nat.le_of_ble_eq_true rfl, fun pc μ => rnI m c p r tx σ w A L R n0 z0 μ, ?_, ?_⟩
    · simp only [b_X12_runNow_0, s_psh, s_ild, s_lld, s_ald, s_ist, s_lst, s_ast, s_inc, s_ib, s_ibz, s_iu, s_lb, s_lbz, s_lu, s_ls, s_il, s_li, s_cmp, s_dup, s_pop, s_dup2, s_if1, s_if2, s_ifn, s_cv, s_cs, s_ci, s_oi, s_get, s_put, s_iald, s_lald, s_zald, s_iast, s_last, s_zast, s_alen, s_iret, s_lret, s_aret, s_vret, s_al, gpad, gl, gst, gclr, gc2, gent, gcat, Value.category, List.drop_succ_cons, List.drop_zero, List.take_succ_cons, List.take_zero, List.reverse_cons, List.reverse_nil, List.nil_append, List.cons_append, List.append_nil, List.map_cons, List.map_nil, List.sum_cons, List.sum_nil, List.length_cons, List.length_nil, Option.toList, cond_true, cond_false, Nat.reduceBEq, Nat.reduceAdd, Nat.reduceLeDiff, beq_self_eq_true, true_and, and_true, BEq.rfl, Bool.false_eq_true, if_true, if_false, menc_0, menc_1, menc_2, menc_3, menc_4, menc_5, menc_6, menc_7, menc_8, menc_9, menc_10, menc_11, menc_12, menc_13, menc_14, mf_0, mf_1, mf_2, mf_3, mf_4, mf_5, mf_6, mf_7, mf_8, mf_9, mf_10, mf_11, mf_12, mf_13, mf_14, mf_15, mf_16, mf_17, mf_18, mf_19, mf_20, mf_21, mf_22, mf_23, mf_24, mf_25, mf_26, mf_27, mf_28, mf_29, mf_30, mf_31, ms_4, ms_5, ms_6, ms_7, ms_8, ms_9, ms_10, ms_11, ms_12, ms_13, ms_14, ms_16, ms_17, ms_18, ms_19, ms_23, ms_24, ms_27, mu_1, mu_2, mu_3, mu_4, mu_5, mu_6, mu_7, mu_8, mu_9, mu_10, mu_11, mu_12, mu_13, mu_14]
      refine ⟨_, 0, 0, x0, true, none, none, A, L, by omega, by omega, hx0, rfl, rfl, rfl, rfl, rfl, rfl, fun _ _ _ _ => rfl, fun _ _ => rfl, hNS, ?_, fun _ => hrr, fun q => by cases q⟩
      funext j
      rw [upd_at]
      split
      · rename_i e; rw [e, h7]
      · rfl
    · rintro μ lv st C n z ⟨i, nn, xx, is, o6, o7, A', L', hi, hnn, hxx, rfl, rfl, rfl, rfl, rfl, rfl, fA, fL, hN6, hA1, hit, hif⟩
      have k105 : (nn, xx) = r → b_X12_runNow_105 sp_X12_write sp_X12_isBar sp_X12_catchesOf sp_X12_drawnBy Q (fun lv st C n_1 z_1 => ∃ μ', μ' < 60 - i ∧ rnI m c p r tx σ w A L R n z μ' lv st C n_1 z_1) [some (.ref m), some (.int (nI c)), some (.int (nI p)), some (.int (nI nn)), some (.int (bB is)), some (.int (nI i)), o6, o7] [] (menc m σ w A' L' R) n z := by
        intro hr
        simp only [b_X12_runNow_105, sp_X12_write, isM_menc, ma_1, mi_23, s_psh, s_ild, s_lld, s_ald, s_ist, s_lst, s_ast, s_inc, s_ib, s_ibz, s_iu, s_lb, s_lbz, s_lu, s_ls, s_il, s_li, s_cmp, s_dup, s_pop, s_dup2, s_if1, s_if2, s_ifn, s_cv, s_cs, s_ci, s_oi, s_get, s_put, s_iald, s_lald, s_zald, s_iast, s_last, s_zast, s_alen, s_iret, s_lret, s_aret, s_vret, s_al, gpad, gl, gst, gclr, gc2, gent, gcat, Value.category, List.drop_succ_cons, List.drop_zero, List.take_succ_cons, List.take_zero, List.reverse_cons, List.reverse_nil, List.nil_append, List.cons_append, List.append_nil, List.map_cons, List.map_nil, List.sum_cons, List.sum_nil, List.length_cons, List.length_nil, Option.toList, cond_true, cond_false, Nat.reduceBEq, Nat.reduceAdd, Nat.reduceLeDiff, beq_self_eq_true, true_and, and_true, BEq.rfl, Bool.false_eq_true, if_true, if_false, menc_0, menc_1, menc_2, menc_3, menc_4, menc_5, menc_6, menc_7, menc_8, menc_9, menc_10, menc_11, menc_12, menc_13, menc_14, mf_0, mf_1, mf_2, mf_3, mf_4, mf_5, mf_6, mf_7, mf_8, mf_9, mf_10, mf_11, mf_12, mf_13, mf_14, mf_15, mf_16, mf_17, mf_18, mf_19, mf_20, mf_21, mf_22, mf_23, mf_24, mf_25, mf_26, mf_27, mf_28, mf_29, mf_30, mf_31, ms_4, ms_5, ms_6, ms_7, ms_8, ms_9, ms_10, ms_11, ms_12, ms_13, ms_14, ms_16, ms_17, ms_18, ms_19, ms_23, ms_24, ms_27, mu_1, mu_2, mu_3, mu_4, mu_5, mu_6, mu_7, mu_8, mu_9, mu_10, mu_11, mu_12, mu_13, mu_14]
        simp (disch := omega) only [true_and, and_true, lit, nI_add, nar_i, nar_0, nar_1, nar_b, fit_i, fit_l, pk_rem, nI_leI, nI_ltI, nI_eq, vin_iff, nI_clamp, nI_m1, supa, Nat.reduceEqDiff, reduceIte, ma_1, hA1]
        have e8' : (upd (upd (A 1) 7 (nI xx)) (69 + c) (nI nn)) 8 = nI b8 := by rw [pk_un (by omega), pk_un (by decide), e8]
        simp (disch := omega) only [e8', true_and, and_true, lit, nI_add, nar_i, nar_0, nar_1, nar_b, fit_i, fit_l, pk_rem, nI_leI, nI_ltI, nI_eq, vin_iff, nI_clamp, nI_m1, h23]
        refine ⟨by omega, hc, hp, hb8, ?_⟩
        have hre : runA tx wr (A 1) c p x0 = if wr = true then wrF (upd (upd (A 1) 7 (nI xx)) (69 + c) (nI nn)) b8 c p else upd (upd (A 1) 7 (nI xx)) (69 + c) (nI nn) := by
          unfold runA
          rw [hrr, ← hr, e8, nI_clamp (by omega)]
        cases wr with
        | false =>
          rw [pif_t (show bB false = nI 0 from rfl)]
          refine hQ _ _ (fun j q1 q2 q3 => ?_) fL ?_ ?_
          · rw [supa, if_neg q1]; exact fA j q1 q2 q3
          · rw [supa, if_neg (by decide)]; exact hN6
          · rw [supa, if_pos rfl, hre, if_neg (by decide)]
        | true =>
          rw [pif_f (show ¬ bB true = nI 0 by decide)]
          refine hQ _ _ (fun j q1 q2 q3 => ?_) fL ?_ ?_
          · rw [supa, if_neg q1, supa, if_neg q1]; exact fA j q1 q2 q3
          · rw [supa, if_neg (by decide), supa, if_neg (by decide)]; exact hN6
          · rw [supa, if_pos rfl, hre, if_pos rfl]
      simp only [b_X12_runNow_8, s_psh, s_ild, s_lld, s_ald, s_ist, s_lst, s_ast, s_inc, s_ib, s_ibz, s_iu, s_lb, s_lbz, s_lu, s_ls, s_il, s_li, s_cmp, s_dup, s_pop, s_dup2, s_cv, s_cs, s_ci, s_oi, s_get, s_put, s_iald, s_lald, s_zald, s_iast, s_last, s_zast, s_alen, s_iret, s_lret, s_aret, s_vret, s_al, gpad, gl, gst, gclr, gc2, gent, gcat, Value.category, List.drop_succ_cons, List.drop_zero, List.take_succ_cons, List.take_zero, List.reverse_cons, List.reverse_nil, List.nil_append, List.cons_append, List.append_nil, List.map_cons, List.map_nil, List.sum_cons, List.sum_nil, List.length_cons, List.length_nil, Option.toList, cond_true, cond_false, Nat.reduceBEq, Nat.reduceAdd, Nat.reduceLeDiff, beq_self_eq_true, true_and, and_true, BEq.rfl, Bool.false_eq_true, if_true, if_false, menc_0, menc_1, menc_2, menc_3, menc_4, menc_5, menc_6, menc_7, menc_8, menc_9, menc_10, menc_11, menc_12, menc_13, menc_14, mf_0, mf_1, mf_2, mf_3, mf_4, mf_5, mf_6, mf_7, mf_8, mf_9, mf_10, mf_11, mf_12, mf_13, mf_14, mf_15, mf_16, mf_17, mf_18, mf_19, mf_20, mf_21, mf_22, mf_23, mf_24, mf_25, mf_26, mf_27, mf_28, mf_29, mf_30, mf_31, ms_4, ms_5, ms_6, ms_7, ms_8, ms_9, ms_10, ms_11, ms_12, ms_13, ms_14, ms_16, ms_17, ms_18, ms_19, ms_23, ms_24, ms_27, mu_1, mu_2, mu_3, mu_4, mu_5, mu_6, mu_7, mu_8, mu_9, mu_10, mu_11, mu_12, mu_13, mu_14]
      refine if2i (fun q => ?_) (fun q => ?_)
      · simp (disch := omega) only [lit, nI_leI] at q
        refine k105 ?_
        cases is with
        | false => exact hif rfl
        | true =>
          have := hit rfl
          rw [show 60 - i = 0 by omega] at this
          exact this
      simp (disch := omega) only [lit, nI_leI] at q
      simp only [s_psh, s_ild, s_lld, s_ald, s_ist, s_lst, s_ast, s_inc, s_ib, s_ibz, s_iu, s_lb, s_lbz, s_lu, s_ls, s_il, s_li, s_cmp, s_dup, s_pop, s_dup2, s_cv, s_cs, s_ci, s_oi, s_get, s_put, s_iald, s_lald, s_zald, s_iast, s_last, s_zast, s_alen, s_iret, s_lret, s_aret, s_vret, s_al, gpad, gl, gst, gclr, gc2, gent, gcat, Value.category, List.drop_succ_cons, List.drop_zero, List.take_succ_cons, List.take_zero, List.reverse_cons, List.reverse_nil, List.nil_append, List.cons_append, List.append_nil, List.map_cons, List.map_nil, List.sum_cons, List.sum_nil, List.length_cons, List.length_nil, Option.toList, cond_true, cond_false, Nat.reduceBEq, Nat.reduceAdd, Nat.reduceLeDiff, beq_self_eq_true, true_and, and_true, BEq.rfl, Bool.false_eq_true, if_true, if_false, menc_0, menc_1, menc_2, menc_3, menc_4, menc_5, menc_6, menc_7, menc_8, menc_9, menc_10, menc_11, menc_12, menc_13, menc_14, mf_0, mf_1, mf_2, mf_3, mf_4, mf_5, mf_6, mf_7, mf_8, mf_9, mf_10, mf_11, mf_12, mf_13, mf_14, mf_15, mf_16, mf_17, mf_18, mf_19, mf_20, mf_21, mf_22, mf_23, mf_24, mf_25, mf_26, mf_27, mf_28, mf_29, mf_30, mf_31, ms_4, ms_5, ms_6, ms_7, ms_8, ms_9, ms_10, ms_11, ms_12, ms_13, ms_14, ms_16, ms_17, ms_18, ms_19, ms_23, ms_24, ms_27, mu_1, mu_2, mu_3, mu_4, mu_5, mu_6, mu_7, mu_8, mu_9, mu_10, mu_11, mu_12, mu_13, mu_14]
      refine if1i (fun e => ?_) (fun e => ?_)
      · rw [lit, bB_0] at e
        exact k105 (hif e)
      rw [lit, bB_0] at e
      clear k105
      have hist : is = true := by simpa using e
      subst hist
      have hrl := hit rfl
      rw [runL_s (by omega)] at hrl
      simp only [s_psh, s_ild, s_lld, s_ald, s_ist, s_lst, s_ast, s_inc, s_ib, s_ibz, s_iu, s_lb, s_lbz, s_lu, s_ls, s_il, s_li, s_cmp, s_dup, s_pop, s_dup2, s_cv, s_cs, s_ci, s_oi, s_get, s_put, s_iald, s_lald, s_zald, s_iast, s_last, s_zast, s_alen, s_iret, s_lret, s_aret, s_vret, s_al, gpad, gl, gst, gclr, gc2, gent, gcat, Value.category, List.drop_succ_cons, List.drop_zero, List.take_succ_cons, List.take_zero, List.reverse_cons, List.reverse_nil, List.nil_append, List.cons_append, List.append_nil, List.map_cons, List.map_nil, List.sum_cons, List.sum_nil, List.length_cons, List.length_nil, Option.toList, cond_true, cond_false, Nat.reduceBEq, Nat.reduceAdd, Nat.reduceLeDiff, beq_self_eq_true, true_and, and_true, BEq.rfl, Bool.false_eq_true, if_true, if_false, menc_0, menc_1, menc_2, menc_3, menc_4, menc_5, menc_6, menc_7, menc_8, menc_9, menc_10, menc_11, menc_12, menc_13, menc_14, mf_0, mf_1, mf_2, mf_3, mf_4, mf_5, mf_6, mf_7, mf_8, mf_9, mf_10, mf_11, mf_12, mf_13, mf_14, mf_15, mf_16, mf_17, mf_18, mf_19, mf_20, mf_21, mf_22, mf_23, mf_24, mf_25, mf_26, mf_27, mf_28, mf_29, mf_30, mf_31, ms_4, ms_5, ms_6, ms_7, ms_8, ms_9, ms_10, ms_11, ms_12, ms_13, ms_14, ms_16, ms_17, ms_18, ms_19, ms_23, ms_24, ms_27, mu_1, mu_2, mu_3, mu_4, mu_5, mu_6, mu_7, mu_8, mu_9, mu_10, mu_11, mu_12, mu_13, mu_14]
      simp (disch := omega) only [true_and, and_true, lit, nI_add, nar_i, nar_0, nar_1, nar_b, fit_i, fit_l, pk_rem, nI_leI, nI_ltI, nI_eq, vin_iff, nI_clamp, nI_m1, Nat.reduceLT, hA1]
      have hpp : (p + i) % 30 < 30 := Nat.mod_lt _ (by decide)
      rw [pk_un (by omega)]
      generalize hq : (p + i) % 30 = q at *
      refine ⟨by omega, by omega, if2i (fun e3 => ?_) (fun e3 => ?_)⟩
      · rw [if_pos e3] at hrl
        have e1 : ¬ A 1 (9 + q) = nI 1 := by rw [e3]; decide
        simp only [b_X12_runNow_48, b_X12_runNow_99, sp_X12_isBar, b_X12_isBar_0, b_X12_isBar_18, s_psh, s_ild, s_lld, s_ald, s_ist, s_lst, s_ast, s_inc, s_ib, s_ibz, s_iu, s_lb, s_lbz, s_lu, s_ls, s_il, s_li, s_cmp, s_dup, s_pop, s_dup2, s_if1, s_if2, s_ifn, s_cv, s_cs, s_ci, s_oi, s_get, s_put, s_iald, s_lald, s_zald, s_iast, s_last, s_zast, s_alen, s_iret, s_lret, s_aret, s_vret, s_al, gpad, gl, gst, gclr, gc2, gent, gcat, Value.category, List.drop_succ_cons, List.drop_zero, List.take_succ_cons, List.take_zero, List.reverse_cons, List.reverse_nil, List.nil_append, List.cons_append, List.append_nil, List.map_cons, List.map_nil, List.sum_cons, List.sum_nil, List.length_cons, List.length_nil, Option.toList, cond_true, cond_false, Nat.reduceBEq, Nat.reduceAdd, Nat.reduceLeDiff, beq_self_eq_true, true_and, and_true, BEq.rfl, Bool.false_eq_true, if_true, if_false, menc_0, menc_1, menc_2, menc_3, menc_4, menc_5, menc_6, menc_7, menc_8, menc_9, menc_10, menc_11, menc_12, menc_13, menc_14, mf_0, mf_1, mf_2, mf_3, mf_4, mf_5, mf_6, mf_7, mf_8, mf_9, mf_10, mf_11, mf_12, mf_13, mf_14, mf_15, mf_16, mf_17, mf_18, mf_19, mf_20, mf_21, mf_22, mf_23, mf_24, mf_25, mf_26, mf_27, mf_28, mf_29, mf_30, mf_31, ms_4, ms_5, ms_6, ms_7, ms_8, ms_9, ms_10, ms_11, ms_12, ms_13, ms_14, ms_16, ms_17, ms_18, ms_19, ms_23, ms_24, ms_27, mu_1, mu_2, mu_3, mu_4, mu_5, mu_6, mu_7, mu_8, mu_9, mu_10, mu_11, mu_12, mu_13, mu_14]
        simp (disch := omega) only [true_and, and_true, lit, nI_add, nar_i, nar_0, nar_1, nar_b, fit_i, fit_l, pk_rem, nI_leI, nI_ltI, nI_eq, vin_iff, nI_clamp, nI_m1, Nat.reduceLT, hA1]
        rw [pk_un (by omega)]
        refine ⟨Nat.le_of_ble_eq_true rfl, by omega, fun q => absurd q e1, fun _ => ⟨fun _ => rnI_go (is := false) (by omega) (by omega) hxx rfl rfl fA fL hN6 hA1 (fun q => by cases q) (fun _ => hrl), fun q => absurd trivial q⟩⟩
      · rw [if_neg e3] at hrl
        simp only [b_X12_runNow_48, b_X12_runNow_99, sp_X12_isBar, b_X12_isBar_0, b_X12_isBar_18, s_psh, s_ild, s_lld, s_ald, s_ist, s_lst, s_ast, s_inc, s_ib, s_ibz, s_iu, s_lb, s_lbz, s_lu, s_ls, s_il, s_li, s_cmp, s_dup, s_pop, s_dup2, s_cv, s_cs, s_ci, s_oi, s_get, s_put, s_iald, s_lald, s_zald, s_iast, s_last, s_zast, s_alen, s_iret, s_lret, s_aret, s_vret, s_al, gpad, gl, gst, gclr, gc2, gent, gcat, Value.category, List.drop_succ_cons, List.drop_zero, List.take_succ_cons, List.take_zero, List.reverse_cons, List.reverse_nil, List.nil_append, List.cons_append, List.append_nil, List.map_cons, List.map_nil, List.sum_cons, List.sum_nil, List.length_cons, List.length_nil, Option.toList, cond_true, cond_false, Nat.reduceBEq, Nat.reduceAdd, Nat.reduceLeDiff, beq_self_eq_true, true_and, and_true, BEq.rfl, Bool.false_eq_true, if_true, if_false, menc_0, menc_1, menc_2, menc_3, menc_4, menc_5, menc_6, menc_7, menc_8, menc_9, menc_10, menc_11, menc_12, menc_13, menc_14, mf_0, mf_1, mf_2, mf_3, mf_4, mf_5, mf_6, mf_7, mf_8, mf_9, mf_10, mf_11, mf_12, mf_13, mf_14, mf_15, mf_16, mf_17, mf_18, mf_19, mf_20, mf_21, mf_22, mf_23, mf_24, mf_25, mf_26, mf_27, mf_28, mf_29, mf_30, mf_31, ms_4, ms_5, ms_6, ms_7, ms_8, ms_9, ms_10, ms_11, ms_12, ms_13, ms_14, ms_16, ms_17, ms_18, ms_19, ms_23, ms_24, ms_27, mu_1, mu_2, mu_3, mu_4, mu_5, mu_6, mu_7, mu_8, mu_9, mu_10, mu_11, mu_12, mu_13, mu_14]
        simp (disch := omega) only [true_and, and_true, lit, nI_add, nar_i, nar_0, nar_1, nar_b, fit_i, fit_l, pk_rem, nI_leI, nI_ltI, nI_eq, vin_iff, nI_clamp, nI_m1, Nat.reduceLT, hA1]
        rw [pk_un (by omega)]
        refine ⟨Nat.le_of_ble_eq_true rfl, by omega, if2i (fun e1 => ?_) (fun e1 => ?_)⟩
        · rw [if_pos e1] at hrl
          simp only [b_X12_isBar_18, s_psh, s_ild, s_lld, s_ald, s_ist, s_lst, s_ast, s_inc, s_ib, s_ibz, s_iu, s_lb, s_lbz, s_lu, s_ls, s_il, s_li, s_cmp, s_dup, s_pop, s_dup2, s_cv, s_cs, s_ci, s_oi, s_get, s_put, s_iald, s_lald, s_zald, s_iast, s_last, s_zast, s_alen, s_iret, s_lret, s_aret, s_vret, s_al, gpad, gl, gst, gclr, gc2, gent, gcat, Value.category, List.drop_succ_cons, List.drop_zero, List.take_succ_cons, List.take_zero, List.reverse_cons, List.reverse_nil, List.nil_append, List.cons_append, List.append_nil, List.map_cons, List.map_nil, List.sum_cons, List.sum_nil, List.length_cons, List.length_nil, Option.toList, cond_true, cond_false, Nat.reduceBEq, Nat.reduceAdd, Nat.reduceLeDiff, beq_self_eq_true, true_and, and_true, BEq.rfl, Bool.false_eq_true, if_true, if_false, menc_0, menc_1, menc_2, menc_3, menc_4, menc_5, menc_6, menc_7, menc_8, menc_9, menc_10, menc_11, menc_12, menc_13, menc_14, mf_0, mf_1, mf_2, mf_3, mf_4, mf_5, mf_6, mf_7, mf_8, mf_9, mf_10, mf_11, mf_12, mf_13, mf_14, mf_15, mf_16, mf_17, mf_18, mf_19, mf_20, mf_21, mf_22, mf_23, mf_24, mf_25, mf_26, mf_27, mf_28, mf_29, mf_30, mf_31, ms_4, ms_5, ms_6, ms_7, ms_8, ms_9, ms_10, ms_11, ms_12, ms_13, ms_14, ms_16, ms_17, ms_18, ms_19, ms_23, ms_24, ms_27, mu_1, mu_2, mu_3, mu_4, mu_5, mu_6, mu_7, mu_8, mu_9, mu_10, mu_11, mu_12, mu_13, mu_14]
          simp only [true_and, and_true, lit, nI_add, nar_i, nar_0, nar_1, nar_b, fit_i, fit_l, pk_rem, nI_leI, nI_ltI, nI_eq, vin_iff, nI_clamp, nI_m1]
          refine if1i (fun q => absurd q (by decide)) (fun _ => ?_)
          simp only [sp_X12_catchesOf, s_psh, s_ild, s_lld, s_ald, s_ist, s_lst, s_ast, s_inc, s_ib, s_ibz, s_iu, s_lb, s_lbz, s_lu, s_ls, s_il, s_li, s_cmp, s_dup, s_pop, s_dup2, s_cv, s_cs, s_ci, s_oi, s_get, s_put, s_iald, s_lald, s_zald, s_iast, s_last, s_zast, s_alen, s_iret, s_lret, s_aret, s_vret, s_al, gpad, gl, gst, gclr, gc2, gent, gcat, Value.category, List.drop_succ_cons, List.drop_zero, List.take_succ_cons, List.take_zero, List.reverse_cons, List.reverse_nil, List.nil_append, List.cons_append, List.append_nil, List.map_cons, List.map_nil, List.sum_cons, List.sum_nil, List.length_cons, List.length_nil, Option.toList, cond_true, cond_false, Nat.reduceBEq, Nat.reduceAdd, Nat.reduceLeDiff, beq_self_eq_true, true_and, and_true, BEq.rfl, Bool.false_eq_true, if_true, if_false, menc_0, menc_1, menc_2, menc_3, menc_4, menc_5, menc_6, menc_7, menc_8, menc_9, menc_10, menc_11, menc_12, menc_13, menc_14, mf_0, mf_1, mf_2, mf_3, mf_4, mf_5, mf_6, mf_7, mf_8, mf_9, mf_10, mf_11, mf_12, mf_13, mf_14, mf_15, mf_16, mf_17, mf_18, mf_19, mf_20, mf_21, mf_22, mf_23, mf_24, mf_25, mf_26, mf_27, mf_28, mf_29, mf_30, mf_31, ms_4, ms_5, ms_6, ms_7, ms_8, ms_9, ms_10, ms_11, ms_12, ms_13, ms_14, ms_16, ms_17, ms_18, ms_19, ms_23, ms_24, ms_27, mu_1, mu_2, mu_3, mu_4, mu_5, mu_6, mu_7, mu_8, mu_9, mu_10, mu_11, mu_12, mu_13, mu_14]
          simp (disch := omega) only [true_and, and_true, lit, nI_add, nar_i, nar_0, nar_1, nar_b, fit_i, fit_l, pk_rem, nI_leI, nI_ltI, nI_eq, vin_iff, nI_clamp, nI_m1, Nat.reduceLT, hA1]
          rw [pk_un (by decide), hr2]
          have hcf : catF tx (upd (A 1) 7 (nI xx)) (ruleO (A 1)) c q (nn + 1) = catF tx (A 1) (ruleO (A 1)) c q (nn + 1) := catF_7
          have hcl := catF_le tx (A 1) (ruleO (A 1)) c q (nn + 1)
          refine ⟨σ, w, A', L', R, ruleO (A 1), tx, N, c, q, nn + 1, rfl, rfl, rfl, rfl, rfl, hc, hpp, by omega, ?_, hrN, ?_, fun A2 L2 fA2 fL2 h62 => ?_⟩
          · rw [fA 3 (by decide) (by decide) (by decide)]; exact hT
          · rw [hA1]; exact SM_7 hS
          have hA2 : A2 1 = upd (A 1) 7 (nI xx) := by rw [fA2 1 (by decide) (by decide), hA1]
          rw [hA1, hcf]
          simp only [sp_X12_drawnBy, s_psh, s_ild, s_lld, s_ald, s_ist, s_lst, s_ast, s_inc, s_ib, s_ibz, s_iu, s_lb, s_lbz, s_lu, s_ls, s_il, s_li, s_cmp, s_dup, s_pop, s_dup2, s_cv, s_cs, s_ci, s_oi, s_get, s_put, s_iald, s_lald, s_zald, s_iast, s_last, s_zast, s_alen, s_iret, s_lret, s_aret, s_vret, s_al, gpad, gl, gst, gclr, gc2, gent, gcat, Value.category, List.drop_succ_cons, List.drop_zero, List.take_succ_cons, List.take_zero, List.reverse_cons, List.reverse_nil, List.nil_append, List.cons_append, List.append_nil, List.map_cons, List.map_nil, List.sum_cons, List.sum_nil, List.length_cons, List.length_nil, Option.toList, cond_true, cond_false, Nat.reduceBEq, Nat.reduceAdd, Nat.reduceLeDiff, beq_self_eq_true, true_and, and_true, BEq.rfl, Bool.false_eq_true, if_true, if_false, menc_0, menc_1, menc_2, menc_3, menc_4, menc_5, menc_6, menc_7, menc_8, menc_9, menc_10, menc_11, menc_12, menc_13, menc_14, mf_0, mf_1, mf_2, mf_3, mf_4, mf_5, mf_6, mf_7, mf_8, mf_9, mf_10, mf_11, mf_12, mf_13, mf_14, mf_15, mf_16, mf_17, mf_18, mf_19, mf_20, mf_21, mf_22, mf_23, mf_24, mf_25, mf_26, mf_27, mf_28, mf_29, mf_30, mf_31, ms_4, ms_5, ms_6, ms_7, ms_8, ms_9, ms_10, ms_11, ms_12, ms_13, ms_14, ms_16, ms_17, ms_18, ms_19, ms_23, ms_24, ms_27, mu_1, mu_2, mu_3, mu_4, mu_5, mu_6, mu_7, mu_8, mu_9, mu_10, mu_11, mu_12, mu_13, mu_14]
          try simp only [true_and, and_true, lit, nI_add, nar_i, nar_0, nar_1, nar_b, fit_i, fit_l, pk_rem, nI_leI, nI_ltI, nI_eq, vin_iff, nI_clamp, nI_m1]
          refine ⟨σ, w, A2, L2, R, xx, 10, rfl, rfl, by decide, by decide, by rw [hA2, pk_us], hxx, ?_⟩
          have hA3 : sup A2 1 (upd (A2 1) 7 (nI (nx xx))) 1 = upd (A 1) 7 (nI (nx xx)) := by
            rw [supa, if_pos rfl, hA2]
            funext j
            simp only [upd_at]
            split <;> rfl
          have fA3 : ∀ j, j ≠ 1 → j ≠ 6 → j ≠ 8 → sup A2 1 (upd (A2 1) 7 (nI (nx xx))) j = A j := fun j q1 q2 q3 => by rw [supa, if_neg q1, fA2 j q2 q3, fA j q1 q2 q3]
          have h63 : NS (sup A2 1 (upd (A2 1) 7 (nI (nx xx))) 6) := by rw [supa, if_neg (by decide)]; exact h62
          have fL3 : ∀ j, j ≠ 7 → L2 j = L j := fun j q => by rw [fL2 j q, fL j q]
          try simp only [s_psh, s_ild, s_lld, s_ald, s_ist, s_lst, s_ast, s_inc, s_ib, s_ibz, s_iu, s_lb, s_lbz, s_lu, s_ls, s_il, s_li, s_cmp, s_dup, s_pop, s_dup2, s_cv, s_cs, s_ci, s_oi, s_get, s_put, s_iald, s_lald, s_zald, s_iast, s_last, s_zast, s_alen, s_iret, s_lret, s_aret, s_vret, s_al, gpad, gl, gst, gclr, gc2, gent, gcat, Value.category, List.drop_succ_cons, List.drop_zero, List.take_succ_cons, List.take_zero, List.reverse_cons, List.reverse_nil, List.nil_append, List.cons_append, List.append_nil, List.map_cons, List.map_nil, List.sum_cons, List.sum_nil, List.length_cons, List.length_nil, Option.toList, cond_true, cond_false, Nat.reduceBEq, Nat.reduceAdd, Nat.reduceLeDiff, beq_self_eq_true, true_and, and_true, BEq.rfl, Bool.false_eq_true, if_true, if_false, menc_0, menc_1, menc_2, menc_3, menc_4, menc_5, menc_6, menc_7, menc_8, menc_9, menc_10, menc_11, menc_12, menc_13, menc_14, mf_0, mf_1, mf_2, mf_3, mf_4, mf_5, mf_6, mf_7, mf_8, mf_9, mf_10, mf_11, mf_12, mf_13, mf_14, mf_15, mf_16, mf_17, mf_18, mf_19, mf_20, mf_21, mf_22, mf_23, mf_24, mf_25, mf_26, mf_27, mf_28, mf_29, mf_30, mf_31, ms_4, ms_5, ms_6, ms_7, ms_8, ms_9, ms_10, ms_11, ms_12, ms_13, ms_14, ms_16, ms_17, ms_18, ms_19, ms_23, ms_24, ms_27, mu_1, mu_2, mu_3, mu_4, mu_5, mu_6, mu_7, mu_8, mu_9, mu_10, mu_11, mu_12, mu_13, mu_14]
          refine if2i (fun e4 => ?_) (fun e4 => ?_)
          · rw [nI_ltI (by omega) (by omega)] at e4
            rw [if_pos e4] at hrl
            simp only [b_X12_runNow_97, b_X12_runNow_99, s_psh, s_ild, s_lld, s_ald, s_ist, s_lst, s_ast, s_inc, s_ib, s_ibz, s_iu, s_lb, s_lbz, s_lu, s_ls, s_il, s_li, s_cmp, s_dup, s_pop, s_dup2, s_cv, s_cs, s_ci, s_oi, s_get, s_put, s_iald, s_lald, s_zald, s_iast, s_last, s_zast, s_alen, s_iret, s_lret, s_aret, s_vret, s_al, gpad, gl, gst, gclr, gc2, gent, gcat, Value.category, List.drop_succ_cons, List.drop_zero, List.take_succ_cons, List.take_zero, List.reverse_cons, List.reverse_nil, List.nil_append, List.cons_append, List.append_nil, List.map_cons, List.map_nil, List.sum_cons, List.sum_nil, List.length_cons, List.length_nil, Option.toList, cond_true, cond_false, Nat.reduceBEq, Nat.reduceAdd, Nat.reduceLeDiff, beq_self_eq_true, true_and, and_true, BEq.rfl, Bool.false_eq_true, if_true, if_false, menc_0, menc_1, menc_2, menc_3, menc_4, menc_5, menc_6, menc_7, menc_8, menc_9, menc_10, menc_11, menc_12, menc_13, menc_14, mf_0, mf_1, mf_2, mf_3, mf_4, mf_5, mf_6, mf_7, mf_8, mf_9, mf_10, mf_11, mf_12, mf_13, mf_14, mf_15, mf_16, mf_17, mf_18, mf_19, mf_20, mf_21, mf_22, mf_23, mf_24, mf_25, mf_26, mf_27, mf_28, mf_29, mf_30, mf_31, ms_4, ms_5, ms_6, ms_7, ms_8, ms_9, ms_10, ms_11, ms_12, ms_13, ms_14, ms_16, ms_17, ms_18, ms_19, ms_23, ms_24, ms_27, mu_1, mu_2, mu_3, mu_4, mu_5, mu_6, mu_7, mu_8, mu_9, mu_10, mu_11, mu_12, mu_13, mu_14]
            simp only [true_and, and_true, lit, nI_add, nar_i, nar_0, nar_1, nar_b, fit_i, fit_l, pk_rem, nI_leI, nI_ltI, nI_eq, vin_iff, nI_clamp, nI_m1]
            exact rnI_go (is := false) (by omega) (by omega) (nx_lt _) rfl rfl fA3 fL3 h63 hA3 (fun q => by cases q) (fun _ => hrl)
          · rw [nI_ltI (by omega) (by omega)] at e4
            rw [if_neg e4] at hrl
            simp only [b_X12_runNow_97, b_X12_runNow_99, s_psh, s_ild, s_lld, s_ald, s_ist, s_lst, s_ast, s_inc, s_ib, s_ibz, s_iu, s_lb, s_lbz, s_lu, s_ls, s_il, s_li, s_cmp, s_dup, s_pop, s_dup2, s_cv, s_cs, s_ci, s_oi, s_get, s_put, s_iald, s_lald, s_zald, s_iast, s_last, s_zast, s_alen, s_iret, s_lret, s_aret, s_vret, s_al, gpad, gl, gst, gclr, gc2, gent, gcat, Value.category, List.drop_succ_cons, List.drop_zero, List.take_succ_cons, List.take_zero, List.reverse_cons, List.reverse_nil, List.nil_append, List.cons_append, List.append_nil, List.map_cons, List.map_nil, List.sum_cons, List.sum_nil, List.length_cons, List.length_nil, Option.toList, cond_true, cond_false, Nat.reduceBEq, Nat.reduceAdd, Nat.reduceLeDiff, beq_self_eq_true, true_and, and_true, BEq.rfl, Bool.false_eq_true, if_true, if_false, menc_0, menc_1, menc_2, menc_3, menc_4, menc_5, menc_6, menc_7, menc_8, menc_9, menc_10, menc_11, menc_12, menc_13, menc_14, mf_0, mf_1, mf_2, mf_3, mf_4, mf_5, mf_6, mf_7, mf_8, mf_9, mf_10, mf_11, mf_12, mf_13, mf_14, mf_15, mf_16, mf_17, mf_18, mf_19, mf_20, mf_21, mf_22, mf_23, mf_24, mf_25, mf_26, mf_27, mf_28, mf_29, mf_30, mf_31, ms_4, ms_5, ms_6, ms_7, ms_8, ms_9, ms_10, ms_11, ms_12, ms_13, ms_14, ms_16, ms_17, ms_18, ms_19, ms_23, ms_24, ms_27, mu_1, mu_2, mu_3, mu_4, mu_5, mu_6, mu_7, mu_8, mu_9, mu_10, mu_11, mu_12, mu_13, mu_14]
            simp only [true_and, and_true, lit, nI_add, nar_i, nar_0, nar_1, nar_b, fit_i, fit_l, pk_rem, nI_leI, nI_ltI, nI_eq, vin_iff, nI_clamp, nI_m1]
            exact rnI_go (is := true) (by omega) (by omega) (nx_lt _) rfl rfl fA3 fL3 h63 hA3 (fun _ => hrl) (fun q => by cases q)
        · rw [if_neg e1] at hrl
          simp only [b_X12_isBar_18, s_psh, s_ild, s_lld, s_ald, s_ist, s_lst, s_ast, s_inc, s_ib, s_ibz, s_iu, s_lb, s_lbz, s_lu, s_ls, s_il, s_li, s_cmp, s_dup, s_pop, s_dup2, s_cv, s_cs, s_ci, s_oi, s_get, s_put, s_iald, s_lald, s_zald, s_iast, s_last, s_zast, s_alen, s_iret, s_lret, s_aret, s_vret, s_al, gpad, gl, gst, gclr, gc2, gent, gcat, Value.category, List.drop_succ_cons, List.drop_zero, List.take_succ_cons, List.take_zero, List.reverse_cons, List.reverse_nil, List.nil_append, List.cons_append, List.append_nil, List.map_cons, List.map_nil, List.sum_cons, List.sum_nil, List.length_cons, List.length_nil, Option.toList, cond_true, cond_false, Nat.reduceBEq, Nat.reduceAdd, Nat.reduceLeDiff, beq_self_eq_true, true_and, and_true, BEq.rfl, Bool.false_eq_true, if_true, if_false, menc_0, menc_1, menc_2, menc_3, menc_4, menc_5, menc_6, menc_7, menc_8, menc_9, menc_10, menc_11, menc_12, menc_13, menc_14, mf_0, mf_1, mf_2, mf_3, mf_4, mf_5, mf_6, mf_7, mf_8, mf_9, mf_10, mf_11, mf_12, mf_13, mf_14, mf_15, mf_16, mf_17, mf_18, mf_19, mf_20, mf_21, mf_22, mf_23, mf_24, mf_25, mf_26, mf_27, mf_28, mf_29, mf_30, mf_31, ms_4, ms_5, ms_6, ms_7, ms_8, ms_9, ms_10, ms_11, ms_12, ms_13, ms_14, ms_16, ms_17, ms_18, ms_19, ms_23, ms_24, ms_27, mu_1, mu_2, mu_3, mu_4, mu_5, mu_6, mu_7, mu_8, mu_9, mu_10, mu_11, mu_12, mu_13, mu_14]
          simp only [true_and, and_true, lit, nI_add, nar_i, nar_0, nar_1, nar_b, fit_i, fit_l, pk_rem, nI_leI, nI_ltI, nI_eq, vin_iff, nI_clamp, nI_m1]
          refine if1i (fun _ => ?_) (fun q => absurd rfl q)
          simp only [s_psh, s_ild, s_lld, s_ald, s_ist, s_lst, s_ast, s_inc, s_ib, s_ibz, s_iu, s_lb, s_lbz, s_lu, s_ls, s_il, s_li, s_cmp, s_dup, s_pop, s_dup2, s_cv, s_cs, s_ci, s_oi, s_get, s_put, s_iald, s_lald, s_zald, s_iast, s_last, s_zast, s_alen, s_iret, s_lret, s_aret, s_vret, s_al, gpad, gl, gst, gclr, gc2, gent, gcat, Value.category, List.drop_succ_cons, List.drop_zero, List.take_succ_cons, List.take_zero, List.reverse_cons, List.reverse_nil, List.nil_append, List.cons_append, List.append_nil, List.map_cons, List.map_nil, List.sum_cons, List.sum_nil, List.length_cons, List.length_nil, Option.toList, cond_true, cond_false, Nat.reduceBEq, Nat.reduceAdd, Nat.reduceLeDiff, beq_self_eq_true, true_and, and_true, BEq.rfl, Bool.false_eq_true, if_true, if_false, menc_0, menc_1, menc_2, menc_3, menc_4, menc_5, menc_6, menc_7, menc_8, menc_9, menc_10, menc_11, menc_12, menc_13, menc_14, mf_0, mf_1, mf_2, mf_3, mf_4, mf_5, mf_6, mf_7, mf_8, mf_9, mf_10, mf_11, mf_12, mf_13, mf_14, mf_15, mf_16, mf_17, mf_18, mf_19, mf_20, mf_21, mf_22, mf_23, mf_24, mf_25, mf_26, mf_27, mf_28, mf_29, mf_30, mf_31, ms_4, ms_5, ms_6, ms_7, ms_8, ms_9, ms_10, ms_11, ms_12, ms_13, ms_14, ms_16, ms_17, ms_18, ms_19, ms_23, ms_24, ms_27, mu_1, mu_2, mu_3, mu_4, mu_5, mu_6, mu_7, mu_8, mu_9, mu_10, mu_11, mu_12, mu_13, mu_14]
          simp only [true_and, and_true, lit, nI_add, nar_i, nar_0, nar_1, nar_b, fit_i, fit_l, pk_rem, nI_leI, nI_ltI, nI_eq, vin_iff, nI_clamp, nI_m1]
          exact rnI_go (is := true) (by omega) (by omega) hxx rfl rfl fA fL hN6 hA1 (fun _ => hrl) (fun q => by cases q)
  · exact h.elim
