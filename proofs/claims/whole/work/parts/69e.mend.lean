/-! the reference: behind a whole one -/
theorem ts_43 {σ : Nat → Int32} {w : Int64} {A : Nat → Nat → Int32} {T : Nat → Nat} {len i : Nat} (h : TX σ w A T len i) : (σ 9 = nI 43) = (tkS T len i = 30) := by
  rw [h.2.2.2.2.tok, nI_eq (Nat.lt_trans (tokN_lt (h.2.1 _)) (by decide)) (by decide)]
  exact tn_43 (h.2.1 _)
theorem ts_45 {σ : Nat → Int32} {w : Int64} {A : Nat → Nat → Int32} {T : Nat → Nat} {len i : Nat} (h : TX σ w A T len i) : (σ 9 = nI 45) = (tkS T len i = 31) := by
  rw [h.2.2.2.2.tok, nI_eq (Nat.lt_trans (tokN_lt (h.2.1 _)) (by decide)) (by decide)]
  exact tn_45 (h.2.1 _)
theorem ts_42 {σ : Nat → Int32} {w : Int64} {A : Nat → Nat → Int32} {T : Nat → Nat} {len i : Nat} (h : TX σ w A T len i) : (σ 9 = nI 42) = (tkS T len i = 32) := by
  rw [h.2.2.2.2.tok, nI_eq (Nat.lt_trans (tokN_lt (h.2.1 _)) (by decide)) (by decide)]
  exact tn_42 (h.2.1 _)
theorem ts_47 {σ : Nat → Int32} {w : Int64} {A : Nat → Nat → Int32} {T : Nat → Nat} {len i : Nat} (h : TX σ w A T len i) : (σ 9 = nI 47) = (tkS T len i = 33) := by
  rw [h.2.2.2.2.tok, nI_eq (Nat.lt_trans (tokN_lt (h.2.1 _)) (by decide)) (by decide)]
  exact tn_47 (h.2.1 _)
theorem ts_40 {σ : Nat → Int32} {w : Int64} {A : Nat → Nat → Int32} {T : Nat → Nat} {len i : Nat} (h : TX σ w A T len i) : (σ 9 = nI 40) = (tkS T len i = 34) := by
  rw [h.2.2.2.2.tok, nI_eq (Nat.lt_trans (tokN_lt (h.2.1 _)) (by decide)) (by decide)]
  exact tn_40 (h.2.1 _)
theorem ts_41 {σ : Nat → Int32} {w : Int64} {A : Nat → Nat → Int32} {T : Nat → Nat} {len i : Nat} (h : TX σ w A T len i) : (σ 9 = nI 41) = (tkS T len i = 35) := by
  rw [h.2.2.2.2.tok, nI_eq (Nat.lt_trans (tokN_lt (h.2.1 _)) (by decide)) (by decide)]
  exact tn_41 (h.2.1 _)
theorem ts_59 {σ : Nat → Int32} {w : Int64} {A : Nat → Nat → Int32} {T : Nat → Nat} {len i : Nat} (h : TX σ w A T len i) : (σ 9 = nI 59) = (tkS T len i = 36) := by
  rw [h.2.2.2.2.tok, nI_eq (Nat.lt_trans (tokN_lt (h.2.1 _)) (by decide)) (by decide)]
  exact tn_59 (h.2.1 _)
theorem ts_60 {σ : Nat → Int32} {w : Int64} {A : Nat → Nat → Int32} {T : Nat → Nat} {len i : Nat} (h : TX σ w A T len i) : (σ 9 = nI 60) = (tkS T len i = 26) := by
  rw [h.2.2.2.2.tok, nI_eq (Nat.lt_trans (tokN_lt (h.2.1 _)) (by decide)) (by decide)]
  exact tn_60 (h.2.1 _)
theorem ts_62 {σ : Nat → Int32} {w : Int64} {A : Nat → Nat → Int32} {T : Nat → Nat} {len i : Nat} (h : TX σ w A T len i) : (σ 9 = nI 62) = (tkS T len i = 27) := by
  rw [h.2.2.2.2.tok, nI_eq (Nat.lt_trans (tokN_lt (h.2.1 _)) (by decide)) (by decide)]
  exact tn_62 (h.2.1 _)
theorem ts_61 {σ : Nat → Int32} {w : Int64} {A : Nat → Nat → Int32} {T : Nat → Nat} {len i : Nat} (h : TX σ w A T len i) : (σ 9 = nI 61) = (tkS T len i = 28) := by
  rw [h.2.2.2.2.tok, nI_eq (Nat.lt_trans (tokN_lt (h.2.1 _)) (by decide)) (by decide)]
  exact tn_61 (h.2.1 _)
theorem ts_35 {σ : Nat → Int32} {w : Int64} {A : Nat → Nat → Int32} {T : Nat → Nat} {len i : Nat} (h : TX σ w A T len i) : (σ 9 = nI 35) = (tkS T len i = 29) := by
  rw [h.2.2.2.2.tok, nI_eq (Nat.lt_trans (tokN_lt (h.2.1 _)) (by decide)) (by decide)]
  exact tn_35 (h.2.1 _)
theorem ts_4 {σ : Nat → Int32} {w : Int64} {A : Nat → Nat → Int32} {T : Nat → Nat} {len i : Nat} (h : TX σ w A T len i) : (σ 9 = nI 4) = (tkS T len i = 37) := by
  rw [h.2.2.2.2.tok, nI_eq (Nat.lt_trans (tokN_lt (h.2.1 _)) (by decide)) (by decide)]
  exact tn_4 (h.2.1 _)
theorem ts_5 {σ : Nat → Int32} {w : Int64} {A : Nat → Nat → Int32} {T : Nat → Nat} {len i : Nat} (h : TX σ w A T len i) : (σ 9 = nI 5) = (tkS T len i = 38) := by
  rw [h.2.2.2.2.tok, nI_eq (Nat.lt_trans (tokN_lt (h.2.1 _)) (by decide)) (by decide)]
  exact tn_5 (h.2.1 _)
theorem ts_0 {σ : Nat → Int32} {w : Int64} {A : Nat → Nat → Int32} {T : Nat → Nat} {len i : Nat} (h : TX σ w A T len i) : (σ 9 = nI 0) = (tkS T len i = 40) := by
  rw [h.2.2.2.2.tok, nI_eq (Nat.lt_trans (tokN_lt (h.2.1 _)) (by decide)) (by decide)]
  exact tn_0 (h.2.1 _)
theorem ts_1 {σ : Nat → Int32} {w : Int64} {A : Nat → Nat → Int32} {T : Nat → Nat} {len i : Nat} (h : TX σ w A T len i) : (σ 9 = nI 1) = (tkS T len i = 39) := by
  rw [h.2.2.2.2.tok, nI_eq (Nat.lt_trans (tokN_lt (h.2.1 _)) (by decide)) (by decide)]
  exact tn_1 (h.2.1 _)
theorem endM_nil {S : Nat → Nat} {L : List Nat} {i o o' : Nat} {out out' : List (Nat × Int)} (e : stl 7 L o out = ([], o', out')) : endM S L i o out = .inl (true, [], i, o', out') := by
  unfold endM
  rw [e]
theorem endM_41 {S : Nat → Nat} {L P' : List Nat} {i o o' : Nat} {out out' : List (Nat × Int)} (e : stl 7 L o out = (41 :: P', o', out')) : endM S L i o out = if S i = 14 then .inl (false, 4 :: P', i + 1, o', out') else .inr (.inl (1, i)) := by
  unfold endM
  rw [e]
  rfl
theorem endM_ne {S : Nat → Nat} {L P' : List Nat} {p i o o' : Nat} {out out' : List (Nat × Int)} (e : stl 7 L o out = (p :: P', o', out')) (h : p ≠ 41) : endM S L i o out = .inl (true, p :: P', i, o', out') := by
  unfold endM
  rw [e]
  split
  · rename_i heq
    simp only [Prod.mk.injEq, List.cons.injEq] at heq
    exact absurd heq.1.1 h
  · rename_i heq
    simp only [Prod.mk.injEq] at heq
    obtain ⟨rfl, rfl, rfl⟩ := heq
    rfl
def sp_X12_endOne : gSp := fun as C n z Q => match as with
  | [.ref m] => ∃ σ w A L R T len t0 σ0 A0 n0 wh P i o out, C = menc m σ w A L R ∧ RD T len t0 σ0 A0 n0 0 (wh, P, i, o, out) σ w A ∧ P.length < 152 ∧ RDp m L R n z Q T len t0 σ0 A0 n0 (endM (tkS T len) P i o out)
  | _ => False
set_option maxRecDepth 100000 in
set_option maxHeartbeats 4000000 in
theorem c_X12_endOne (l : Launch) : Con l yX12_endOne cX12_endOne 1 (some .int) 2 0 0 sp_X12_endOne := by
  refine m_X12_endOne (c_X12_settle l) (by decide) (c_X12_w2 l) (by decide) (c_X12_isWord l) (by decide) (c_X12_nextT l) (by decide) ?_
  intro as C0 n0 z0 Q h
  unfold sp_X12_endOne at h
  split at h
  · rename_i m
    obtain ⟨σ, w, A, L, R, T, len, t0, σ0, A0, k0, wh, P, i, o, out, rfl, hr, hP, hQ⟩ := h
    have hr' := hr
    obtain ⟨a1, a2, a3, a4, a5, a6, a7, a8, a9, a10, a11, a12, a13, a14, b1, b2, b3⟩ := hr'
    simp only at a2 a3 a4 a5 a6 a7 a8 a9 a10 a11 a12
    have hlen := a1.2.2.2.1
    refine ⟨Nat.le_of_ble_eq_true rfl, ?_⟩
    simp only [b_X12_endOne_0, b_X12_endOne_34, sp_X12_settle, sp_X12_w2, sp_X12_isWord, sp_X12_nextT, isM_menc, mi_9, mi_11, supa, Nat.reduceEqDiff, reduceIte, s_psh, s_ild, s_lld, s_ald, s_ist, s_lst, s_ast, s_inc, s_ib, s_ibz, s_iu, s_lb, s_lbz, s_lu, s_ls, s_il, s_li, s_cmp, s_dup, s_pop, s_dup2, s_if1, s_if2, s_ifn, s_cv, s_cs, s_ci, s_oi, s_get, s_put, s_iald, s_lald, s_zald, s_iast, s_last, s_zast, s_alen, s_iret, s_lret, s_aret, s_vret, s_al, gpad, gl, gst, gclr, gc2, gent, gcat, Value.category, List.drop_succ_cons, List.drop_zero, List.take_succ_cons, List.take_zero, List.reverse_cons, List.reverse_nil, List.nil_append, List.cons_append, List.append_nil, List.map_cons, List.map_nil, List.sum_cons, List.sum_nil, List.length_cons, List.length_nil, Option.toList, cond_true, cond_false, Nat.reduceBEq, Nat.reduceAdd, Nat.reduceLeDiff, beq_self_eq_true, true_and, and_true, BEq.rfl, Bool.false_eq_true, if_true, if_false, menc_0, menc_1, menc_2, menc_3, menc_4, menc_5, menc_6, menc_7, menc_8, menc_9, menc_10, menc_11, menc_12, menc_13, menc_14, mf_0, mf_1, mf_2, mf_3, mf_4, mf_5, mf_6, mf_7, mf_8, mf_9, mf_10, mf_11, mf_12, mf_13, mf_14, mf_15, mf_16, mf_17, mf_18, mf_19, mf_20, mf_21, mf_22, mf_23, mf_24, mf_25, mf_26, mf_27, mf_28, mf_29, mf_30, mf_31, ms_4, ms_5, ms_6, ms_7, ms_8, ms_9, ms_10, ms_11, ms_12, ms_13, ms_14, ms_16, ms_17, ms_18, ms_19, ms_23, ms_24, ms_27, mu_1, mu_2, mu_3, mu_4, mu_5, mu_6, mu_7, mu_8, mu_9, mu_10, mu_11, mu_12, mu_13, mu_14]
    refine ⟨σ, w, A, L, R, P, o, out, t0, 7, rfl, rfl, by decide, a4, a5, a6, a7, by omega, a9, a14, a10, by omega, by omega, a13, fun σ1 A1 hs => ?_⟩
    have r1 := hr.sett hs
    have hsz := stl_sz 7 P o out
    rcases e : stl 7 P o out with ⟨P', o', out'⟩
    rw [e] at r1 hsz
    simp only at r1 hsz
    have r1' := r1
    obtain ⟨c1, c2, c3, c4, c5, c6, c7, c8, c9, c10, c11, c12, c13, c14, d1, d2, d3⟩ := r1'
    simp only at c2 c3 c4 c5 c6 c7 c8 c9 c10 c11 c12
    have r2 : RD T len t0 σ0 A0 k0 0 (true, P', i, o', out') (sup σ1 18 (nI 1)) w A1 := RD.chg r1 (fun j q1 q2 q3 => by rw [supa, if_neg q3]) (fun _ _ => rfl) (by simp [sup]) (by rw [supa, if_neg (by decide)]; exact c4) c5 (by rw [supa, if_neg (by decide)]; exact c6) c7 c8 c11
    simp (disch := omega) only [true_and, and_true, lit, nI_add, nar_i, nar_0, nar_1, nar_b, fit_i, fit_l, pk_rem, nI_leI, nI_ltI, nI_eq, vin_iff, nI_clamp, nI_m1, fit_z0, fit_z1, c4, bI_0, Nat.reduceMul, Nat.reduceAdd, Nat.reduceLT, tw_14 c1]
    cases P' with
    | nil =>
      rw [endM_nil e] at hQ
      refine ⟨fun _ => hQ _ _ _ r2, fun q => absurd rfl q⟩
    | cons p P' =>
      obtain ⟨g1, g2, g3⟩ := c5
      simp only [List.length_cons] at c4 c11 hsz
      simp (disch := omega) only [List.length_cons, true_and, and_true, lit, nI_add, nar_i, nar_0, nar_1, nar_b, fit_i, fit_l, pk_rem, nI_leI, nI_ltI, nI_eq, vin_iff, nI_clamp, nI_m1, pk_sub, Nat.add_sub_cancel, g1]
      refine ⟨fun q => absurd q (by omega), fun _ => ⟨by omega, fun e41 => ?_, fun e41 => ?_⟩⟩
      · subst e41
        rw [endM_41 e] at hQ
        refine ⟨fun q => ?_, fun q => ?_⟩
        · rw [if_neg q] at hQ
          exact hQ _ _ _ (by decide) (by decide) (r2.1) r2.2.2.2.2.2.2.2.2.2.2.2.2.2.2
        · have q14 : tkS T len i = 14 := Classical.not_not.mp q
          rw [if_pos q14] at hQ
          have hi : i < len := r1.lt (by rw [q14]; decide)
          refine ⟨_, _, _, _, _, T, len, i + 1, rfl, c1.1, c1.2.1, ?_, c1.2.2.2.1, ?_, fun σ' w' hk ht => ?_⟩
          · rw [supa, if_neg (by decide)]; exact c1.2.2.1
          · rw [supa, if_neg (by decide)]; exact c1.at
          have r3 := RD.nxt r2.up hi hk ht
          have k16 : σ' 16 = nI (P'.length + 1) := r3.2.2.2.1
          simp (disch := omega) only [true_and, and_true, lit, nI_add, nar_i, nar_0, nar_1, nar_b, fit_i, fit_l, pk_rem, nI_leI, nI_ltI, nI_eq, vin_iff, nI_clamp, nI_m1, fit_z0, fit_z1, k16, pk_sub, Nat.add_sub_cancel]
          refine ⟨by omega, ?_⟩
          refine hQ _ _ _ (RD.chg (d' := 0) (P' := 4 :: P') (wh' := false) (o' := o') r3 ?_ ?_ ?_ ?_ ?_ ?_ ?_ ?_ ?_)
          · intro j q1 q2 q3; rw [supa, if_neg q3]
          · intro j q; rw [supa, if_neg q]
          · simp [sup]
          · rw [supa, if_neg (by decide), k16]; rfl
          · rw [supa, if_pos rfl]
            refine ⟨?_, by decide, pile_upd (Nat.le_refl _) g3⟩
            simp [upd]
          · rw [supa, if_neg (by decide)]; exact r3.2.2.2.2.2.1
          · simp only [cntO] at c7 ⊢
            simpa [rk] using c7
          · exact c8
          · simp only [List.length_cons]; omega
      · rw [endM_ne e e41] at hQ
        exact hQ _ _ _ r2
  · exact h.elim
