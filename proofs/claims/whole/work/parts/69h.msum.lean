theorem oOf_c (s : Nat) : oOf s < 23 ∧ 6 ≤ oOf s ∧ rk (oOf s) ≠ 7 ∧ oOf s ≠ 20 := by
  unfold oOf
  repeat' split
  all_goals decide
theorem btw_ok {P : List Nat} {s : Nat} (h : btwM P s ≠ 0) : btwM P s < 23 ∧ 6 ≤ btwM P s ∧ rk (btwM P s) ≠ 7 ∧ btwM P s ≠ 20 ∧ s ≠ 40 := by
  have hc := oOf_c s
  unfold btwM at h ⊢
  split
  · rename_i hs
    exact ⟨hc.1, hc.2.1, hc.2.2.1, hc.2.2.2, by omega⟩
  · rename_i hs
    rw [if_neg hs] at h
    split
    · rename_i h42
      rw [if_pos h42] at h
      split
      · rename_i h0
        rw [if_pos h0] at h
        split
        · rename_i h1
          exact ⟨hc.1, hc.2.1, hc.2.2.1, hc.2.2.2, by rintro rfl; exact absurd h1 (by decide)⟩
        · rename_i h1; rw [if_neg h1] at h; exact absurd rfl h
      · rename_i h0
        rw [if_neg h0] at h
        split
        · rename_i h1
          exact ⟨hc.1, hc.2.1, hc.2.2.1, hc.2.2.2, by omega⟩
        · rename_i h1; rw [if_neg h1] at h; exact absurd rfl h
    · rename_i h42; rw [if_neg h42] at h; exact absurd rfl h
theorem rk_0 {p : Nat} (h : ¬ 1 ≤ rk p) : 40 ≤ p := by
  unfold rk at h
  repeat' split at h
  all_goals first | assumption | omega
theorem stl1_open : ∀ (P : List Nat) (o : Nat) (out : List (Nat × Int)), opM P ≠ 0 → ∃ P', (stl 1 P o out).1 = opM P :: P'
  | [], _, _, h => absurd rfl h
  | p :: P, o, out, h => by
    by_cases hp : 1 ≤ rk p
    · have e : opM (p :: P) = opM P := opM_app (ps := [p]) (L := P) (by simpa using hp)
      rw [e] at h ⊢
      unfold stl
      rw [if_pos hp]
      exact stl1_open P _ _ h
    · unfold stl
      rw [if_neg hp, opM_hd (rk_0 hp)]
      exact ⟨P, rfl⟩
theorem prt_ok {P : List Nat} {s : Nat} (h : prtM P s ≠ 0) : opM P ≠ 0 ∧ 40 ≤ opM P ∧ s ≠ 40 ∧ (prtM P s = 1 ∨ prtM P s = 43 ∨ prtM P s = 44) := by
  unfold prtM at h ⊢
  repeat' split at h
  all_goals first | exact absurd rfl h | skip
  all_goals simp_all
def sp_X12_behindOne : gSp := fun as C n z Q => match as with
  | [.ref m] => ∃ σ w A L R T len t0 σ0 A0 n0 P i o out, C = menc m σ w A L R ∧ RD T len t0 σ0 A0 n0 0 (true, P, i, o, out) σ w A ∧ P.length < 150 ∧ (btwM P (tkS T len i) = 0 → prtM P (tkS T len i) = 0 → Q (some (.int (-nI 1))) C n z) ∧ (¬ (btwM P (tkS T len i) = 0 ∧ prtM P (tkS T len i) = 0) → RDp m L R n z Q T len t0 σ0 A0 n0 (behM (tkS T len) P i o out))
  | _ => False
set_option maxRecDepth 100000 in
set_option maxHeartbeats 4000000 in
theorem c_X12_behindOne (l : Launch) : Con l yX12_behindOne cX12_behindOne 4 (some .int) 6 0 0 sp_X12_behindOne := by
  refine m_X12_behindOne (c_X12_endOne l) (by decide) (c_X12_settle l) (by decide) (c_X12_nextT l) (by decide) (c_X12_betweenOf l) (by decide) (c_X12_openNow l) (by decide) (c_X12_partOf l) (by decide) (c_X12_openAt l) (by decide) (c_X12_emit l) (by decide) (c_X12_rank l) (by decide) ?_
  intro as C0 n0 z0 Q h
  unfold sp_X12_behindOne at h
  split at h
  · rename_i m
    obtain ⟨σ, w, A, L, R, T, len, t0, σ0, A0, k0, P, i, o, out, rfl, hr, hP, hQ1, hQ⟩ := h
    have hr' := hr
    obtain ⟨a1, a2, a3, a4, a5, a6, a7, a8, a9, a10, a11, a12, a13, a14, b1, b2, b3⟩ := hr'
    simp only at a2 a3 a4 a5 a6 a7 a8 a9 a10 a11 a12
    have hlen := a1.2.2.2.1
    have hw : pw σ A P := ⟨a4, a5, by omega⟩
    refine ⟨Nat.le_of_ble_eq_true rfl, ?_⟩
    simp only [b_X12_behindOne_0, b_X12_behindOne_26, b_X12_behindOne_122, sp_X12_betweenOf, sp_X12_settle, sp_X12_rank, sp_X12_openNow, sp_X12_partOf, sp_X12_openAt, sp_X12_nextT, sp_X12_emit, b_X12_emit_0, supa, Nat.reduceEqDiff, reduceIte, s_psh, s_ild, s_lld, s_ald, s_ist, s_lst, s_ast, s_inc, s_ib, s_ibz, s_iu, s_lb, s_lbz, s_lu, s_ls, s_il, s_li, s_cmp, s_dup, s_pop, s_dup2, s_if1, s_if2, s_ifn, s_cv, s_cs, s_ci, s_oi, s_get, s_put, s_iald, s_lald, s_zald, s_iast, s_last, s_zast, s_alen, s_iret, s_lret, s_aret, s_vret, s_al, gpad, gl, gst, gclr, gc2, gent, gcat, Value.category, List.drop_succ_cons, List.drop_zero, List.take_succ_cons, List.take_zero, List.reverse_cons, List.reverse_nil, List.nil_append, List.cons_append, List.append_nil, List.map_cons, List.map_nil, List.sum_cons, List.sum_nil, List.length_cons, List.length_nil, Option.toList, cond_true, cond_false, Nat.reduceBEq, Nat.reduceAdd, Nat.reduceLeDiff, beq_self_eq_true, true_and, and_true, BEq.rfl, Bool.false_eq_true, if_true, if_false, menc_0, menc_1, menc_2, menc_3, menc_4, menc_5, menc_6, menc_7, menc_8, menc_9, menc_10, menc_11, menc_12, menc_13, menc_14, mf_0, mf_1, mf_2, mf_3, mf_4, mf_5, mf_6, mf_7, mf_8, mf_9, mf_10, mf_11, mf_12, mf_13, mf_14, mf_15, mf_16, mf_17, mf_18, mf_19, mf_20, mf_21, mf_22, mf_23, mf_24, mf_25, mf_26, mf_27, mf_28, mf_29, mf_30, mf_31, ms_4, ms_5, ms_6, ms_7, ms_8, ms_9, ms_10, ms_11, ms_12, ms_13, ms_14, ms_16, ms_17, ms_18, ms_19, ms_23, ms_24, ms_27, mu_1, mu_2, mu_3, mu_4, mu_5, mu_6, mu_7, mu_8, mu_9, mu_10, mu_11, mu_12, mu_13, mu_14]
    refine ⟨σ, w, A, L, R, T, len, i, P, rfl, a1, hw, ?_⟩
    by_cases hb : btwM P (tkS T len i) = 0
    · rw [show btV (btwM P (tkS T len i)) = -nI 1 from if_pos hb]
      simp only [true_and, and_true, lit, nI_add, nar_i, nar_0, nar_1, nar_b, fit_i, fit_l, pk_rem, nI_leI, nI_ltI, nI_eq, vin_iff, nI_clamp, nI_m1, m1_lt0]
      refine ⟨fun _ => ⟨σ, w, A, L, R, P, rfl, hw, σ, w, A, L, R, T, len, i, P, rfl, a1, hw, rfl, ?_⟩, fun q => absurd trivial q⟩
      by_cases hp : prtM P (tkS T len i) = 0
      · rw [show ptV (prtM P (tkS T len i)) = -nI 1 from if_pos hp]
        refine ⟨fun q => absurd q (by decide), fun _ => hQ1 hb hp⟩
      · have hQ := hQ (fun q => hp q.2)
        obtain ⟨p1, p2, p3, p4⟩ := prt_ok hp
        have hi : i < len := hr.lt p3
        have hv : nI 0 ≤ ptV (prtM P (tkS T len i)) := by
          unfold ptV
          rcases p4 with e | e | e <;> rw [e] <;> decide
        refine ⟨fun _ => ⟨σ, w, A, L, R, P, o, out, t0, 1, rfl, rfl, by decide, a4, a5, a6, a7, by omega, a9, a14, a10, by omega, by omega, a13, fun σ1 A1 hs => ?_⟩, fun q => absurd hv q⟩
        have r1 := hr.sett hs
        have hsz := stl_sz 1 P o out
        obtain ⟨P1, hP1⟩ := stl1_open P o out p1
        unfold behM at hQ
        rw [if_neg (fun q => q hb), if_neg hp] at hQ
        rcases e : stl 1 P o out with ⟨P', o', out'⟩
        rw [e] at r1 hsz hQ hP1
        simp only at r1 hsz hQ hP1
        subst hP1
        simp only [List.tail_cons] at hQ
        have c1 := r1.1
        have c5 := r1.2.2.2.2.1
        have c7 : cntO (opM P :: P1) ≤ o' := r1.2.2.2.2.2.2.1
        have c8 : o' ≤ 8 := r1.2.2.2.2.2.2.2.1
        have c11 : out'.length + (opM P :: P1).length ≤ i + 0 := r1.2.2.2.2.2.2.2.2.2.2.1
        have c13 := r1.2.2.2.2.2.2.2.2.2.2.2.2.1
        have c12 : k0 ≤ out'.length := r1.2.2.2.2.2.2.2.2.2.2.2.1
        simp only [List.length_cons] at c11 hsz
        have hcn : cntO (opM P :: P1) = cntO P1 + 1 := by simp only [cntO]; rw [if_pos (Or.inl p2)]
        refine ⟨_, _, _, _, _, T, len, i + 1, rfl, c1.1, c1.2.1, c1.2.2.1, hlen, c1.at, fun σ' w' hk ht => ?_⟩
        have r3 := RD.nxt r1.up hi hk ht
        have k16 : σ' 16 = nI (P1.length + 1) := r3.2.2.2.1
        have k17 : σ' 17 = nI o' := r3.2.2.2.2.2.1
        have k13 : σ' 13 = nI out'.length := r3.2.2.2.2.2.2.2.2.1
        have k12 : σ' 12 = nI t0 := r3.2.2.2.2.2.2.2.2.2.2.2.2.2.1
        have g5 := r3.2.2.2.2.1
        obtain ⟨g51, g52, g53⟩ := g5
        simp (disch := omega) only [true_and, and_true, lit, nI_add, nar_i, nar_0, nar_1, nar_b, fit_i, fit_l, pk_rem, nI_leI, nI_ltI, nI_eq, vin_iff, nI_clamp, nI_m1, fit_z0, fit_z1, k16, k17, k13, k12, pk_sub, pk_mul, Nat.add_sub_cancel]
        trace_state
        sorry
    · have hQ := hQ (fun q => hb q.1)
      obtain ⟨p1, p2, p3, p4, p5⟩ := btw_ok hb
      have hrk := rk_le (btwM P (tkS T len i))
      have hi : i < len := hr.lt p5
      rw [show btV (btwM P (tkS T len i)) = nI (btwM P (tkS T len i)) from if_neg hb]
      simp (disch := omega) only [true_and, and_true, lit, nI_add, nar_i, nar_0, nar_1, nar_b, fit_i, fit_l, pk_rem, nI_leI, nI_ltI, nI_eq, vin_iff, nI_clamp, nI_m1, nI_not_lt0]
      trace_state
      sorry
  · exact h.elim
