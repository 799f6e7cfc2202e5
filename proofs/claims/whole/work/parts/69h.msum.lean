theorem oOf_c (s : Nat) : oOf s < 23 ∧ 6 ≤ oOf s ∧ rk (oOf s) ≠ 7 ∧ oOf s ≠ 20 := by
  unfold oOf
  repeat' split
  all_goals decide
theorem btw_ok {P : List Nat} {s : Nat} (h : btwM P s ≠ 0) : btwM P s < 23 ∧ 6 ≤ btwM P s ∧ rk (btwM P s) ≠ 7 ∧ btwM P s ≠ 20 ∧ s ≠ 40 := by
  have hc := oOf_c s
  unfold btwM at h ⊢
  split
  · rename_i hs
    exact ⟨hc.1, hc.2.1, hc.2.2.1, hc.2.2.2, by omega⟩
  · rename_i hs
    rw [if_neg hs] at h
    split
    · rename_i h42
      rw [if_pos h42] at h
      split
      · rename_i h0
        rw [if_pos h0] at h
        split
        · rename_i h1
          exact ⟨hc.1, hc.2.1, hc.2.2.1, hc.2.2.2, by rintro rfl; exact absurd h1 (by decide)⟩
        · rename_i h1; rw [if_neg h1] at h; exact absurd rfl h
      · rename_i h0
        rw [if_neg h0] at h
        split
        · rename_i h1
          exact ⟨hc.1, hc.2.1, hc.2.2.1, hc.2.2.2, by omega⟩
        · rename_i h1; rw [if_neg h1] at h; exact absurd rfl h
    · rename_i h42; rw [if_neg h42] at h; exact absurd rfl h
theorem rk_0 {p : Nat} (h : ¬ 1 ≤ rk p) : 40 ≤ p := by
  unfold rk at h
  repeat' split at h
  all_goals first | assumption | omega
theorem stl1_open : ∀ (P : List Nat) (o : Nat) (out : List (Nat × Int)), opM P ≠ 0 → ∃ P', (stl 1 P o out).1 = opM P :: P'
  | [], _, _, h => absurd rfl h
  | p :: P, o, out, h => by
    by_cases hp : 1 ≤ rk p
    · have e : opM (p :: P) = opM P := opM_app (ps := [p]) (L := P) (by simpa using hp)
      rw [e] at h ⊢
      unfold stl
      rw [if_pos hp]
      exact stl1_open P _ _ h
    · unfold stl
      rw [if_neg hp, opM_hd (rk_0 hp)]
      exact ⟨P, rfl⟩
theorem prt_ok {P : List Nat} {s : Nat} (h : prtM P s ≠ 0) : opM P ≠ 0 ∧ 40 ≤ opM P ∧ s ≠ 40 ∧ (prtM P s = 1 ∨ (prtM P s = 43 ∨ prtM P s = 44)) := by
  unfold prtM at h ⊢
  repeat' split at h
  all_goals first | exact absurd rfl h | skip
  all_goals simp_all
def sp_X12_behindOne : gSp := fun as C n z Q => match as with
  | [.ref m] => ∃ σ w A L R T len t0 σ0 A0 n0 P i o out, C = menc m σ w A L R ∧ RD T len t0 σ0 A0 n0 0 (true, P, i, o, out) σ w A ∧ P.length < 150 ∧ (btwM P (tkS T len i) = 0 → prtM P (tkS T len i) = 0 → Q (some (.int (-nI 1))) C n z) ∧ (¬ (btwM P (tkS T len i) = 0 ∧ prtM P (tkS T len i) = 0) → RDp m L R n z Q T len t0 σ0 A0 n0 (behM (tkS T len) P i o out))
  | _ => False
set_option maxRecDepth 100000 in
set_option maxHeartbeats 4000000 in
theorem c_X12_behindOne (l : Launch) : Con l yX12_behindOne cX12_behindOne 4 (some .int) 6 0 0 sp_X12_behindOne := by
  refine m_X12_behindOne (c_X12_endOne l) (by decide) (c_X12_settle l) (by decide) (c_X12_nextT l) (by decide) (c_X12_betweenOf l) (by decide) (c_X12_openNow l) (by decide) (c_X12_partOf l) (by decide) (c_X12_openAt l) (by decide) (c_X12_emit l) (by decide) (c_X12_rank l) (by decide) ?_
  intro as C0 n0 z0 Q h
  unfold sp_X12_behindOne at h
  split at h
  · rename_i m
    obtain ⟨σ, w, A, L, R, T, len, t0, σ0, A0, k0, P, i, o, out, rfl, hr, hP, hQ1, hQ⟩ := h
    have hr' := hr
    obtain ⟨a1, a2, a3, a4, a5, a6, a7, a8, a9, a10, a11, a12, a13, a14, b1, b2, b3⟩ := hr'
    simp only at a2 a3 a4 a5 a6 a7 a8 a9 a10 a11 a12
    have hlen := a1.2.2.2.1
    have hw : pw σ A P := ⟨a4, a5, by omega⟩
    refine ⟨Nat.le_of_ble_eq_true rfl, ?_⟩
    simp only [b_X12_behindOne_0, b_X12_behindOne_122, sp_X12_betweenOf, sp_X12_settle, sp_X12_rank, sp_X12_openNow, sp_X12_partOf, sp_X12_openAt, sp_X12_nextT, sp_X12_emit, b_X12_emit_0, supa, Nat.reduceEqDiff, reduceIte, s_psh, s_ild, s_lld, s_ald, s_ist, s_lst, s_ast, s_inc, s_ib, s_ibz, s_iu, s_lb, s_lbz, s_lu, s_ls, s_il, s_li, s_cmp, s_dup, s_pop, s_dup2, s_if1, s_if2, s_ifn, s_cv, s_cs, s_ci, s_oi, s_get, s_put, s_iald, s_lald, s_zald, s_iast, s_last, s_zast, s_alen, s_iret, s_lret, s_aret, s_vret, s_al, gpad, gl, gst, gclr, gc2, gent, gcat, Value.category, List.drop_succ_cons, List.drop_zero, List.take_succ_cons, List.take_zero, List.reverse_cons, List.reverse_nil, List.nil_append, List.cons_append, List.append_nil, List.map_cons, List.map_nil, List.sum_cons, List.sum_nil, List.length_cons, List.length_nil, Option.toList, cond_true, cond_false, Nat.reduceBEq, Nat.reduceAdd, Nat.reduceLeDiff, beq_self_eq_true, true_and, and_true, BEq.rfl, Bool.false_eq_true, if_true, if_false, menc_0, menc_1, menc_2, menc_3, menc_4, menc_5, menc_6, menc_7, menc_8, menc_9, menc_10, menc_11, menc_12, menc_13, menc_14, mf_0, mf_1, mf_2, mf_3, mf_4, mf_5, mf_6, mf_7, mf_8, mf_9, mf_10, mf_11, mf_12, mf_13, mf_14, mf_15, mf_16, mf_17, mf_18, mf_19, mf_20, mf_21, mf_22, mf_23, mf_24, mf_25, mf_26, mf_27, mf_28, mf_29, mf_30, mf_31, ms_4, ms_5, ms_6, ms_7, ms_8, ms_9, ms_10, ms_11, ms_12, ms_13, ms_14, ms_16, ms_17, ms_18, ms_19, ms_23, ms_24, ms_27, mu_1, mu_2, mu_3, mu_4, mu_5, mu_6, mu_7, mu_8, mu_9, mu_10, mu_11, mu_12, mu_13, mu_14]
    refine ⟨σ, w, A, L, R, T, len, i, P, rfl, a1, hw, ?_⟩
    by_cases hb : btwM P (tkS T len i) = 0
    · rw [show btV (btwM P (tkS T len i)) = -nI 1 from if_pos hb]
      simp only [true_and, and_true, lit, nI_add, nar_i, nar_0, nar_1, nar_b, fit_i, fit_l, pk_rem, nI_leI, nI_ltI, nI_eq, vin_iff, nI_clamp, nI_m1, m1_lt0]
      refine ⟨fun _ => ⟨σ, w, A, L, R, P, rfl, hw, σ, w, A, L, R, T, len, i, P, rfl, a1, hw, rfl, ?_⟩, fun q => absurd trivial q⟩
      by_cases hp : prtM P (tkS T len i) = 0
      · rw [show ptV (prtM P (tkS T len i)) = -nI 1 from if_pos hp]
        refine ⟨fun q => absurd q (by decide), fun _ => hQ1 hb hp⟩
      · have hQ := hQ (fun q => hp q.2)
        obtain ⟨p1, p2, p3, p4⟩ := prt_ok hp
        have hi : i < len := hr.lt p3
        have hv : nI 0 ≤ ptV (prtM P (tkS T len i)) := by
          unfold ptV
          rcases p4 with e | e | e <;> rw [e] <;> decide
        refine ⟨fun _ => ⟨σ, w, A, L, R, P, o, out, t0, 1, rfl, rfl, by decide, a4, a5, a6, a7, by omega, a9, a14, a10, by omega, by omega, a13, fun σ1 A1 hs => ?_⟩, fun q => absurd hv q⟩
        have r1 := hr.sett hs
        have hsz := stl_sz 1 P o out
        obtain ⟨P1, hP1⟩ := stl1_open P o out p1
        unfold behM at hQ
        rw [if_neg (fun q => q hb), if_neg hp] at hQ
        rcases e : stl 1 P o out with ⟨P', o', out'⟩
        rw [e] at r1 hsz hQ hP1
        simp only at r1 hsz hQ hP1
        subst hP1
        simp only [List.tail_cons] at hQ
        have c1 := r1.1
        have c5 := r1.2.2.2.2.1
        have c7 : cntO (opM P :: P1) ≤ o' := r1.2.2.2.2.2.2.1
        have c8 : o' ≤ 8 := r1.2.2.2.2.2.2.2.1
        have c11 : out'.length + (opM P :: P1).length ≤ i + 0 := r1.2.2.2.2.2.2.2.2.2.2.1
        have c13 := r1.2.2.2.2.2.2.2.2.2.2.2.2.1
        have c12 : k0 ≤ out'.length := r1.2.2.2.2.2.2.2.2.2.2.2.1
        simp only [List.length_cons] at c11 hsz
        have hcn : cntO (opM P :: P1) = cntO P1 + 1 := by simp only [cntO]; rw [if_pos (Or.inl p2)]
        refine ⟨_, _, _, _, _, T, len, i + 1, rfl, c1.1, c1.2.1, c1.2.2.1, hlen, c1.at, fun σ' w' hk ht => ?_⟩
        have r3 := RD.nxt r1.up hi hk ht
        have k16 : σ' 16 = nI (P1.length + 1) := r3.2.2.2.1
        have k17 : σ' 17 = nI o' := r3.2.2.2.2.2.1
        have k13 : σ' 13 = nI out'.length := r3.2.2.2.2.2.2.2.2.1
        have k12 : σ' 12 = nI t0 := r3.2.2.2.2.2.2.2.2.2.2.2.2.2.1
        have g5 := r3.2.2.2.2.1
        obtain ⟨g51, g52, g53⟩ := g5
        simp (disch := omega) only [true_and, and_true, lit, nI_add, nar_i, nar_0, nar_1, nar_b, fit_i, fit_l, pk_rem, nI_leI, nI_ltI, nI_eq, vin_iff, nI_clamp, nI_m1, fit_z0, fit_z1, k16, k17, k13, k12, pk_sub, pk_mul, Nat.add_sub_cancel]
        have hpt : ∀ v, v = 43 ∨ v = 44 → ¬ ptV v = nI 0 := fun v hv => by
          rcases hv with e | e <;> rw [e] <;> decide
        refine ⟨fun e0 => ?_, fun e0 => ?_⟩
        · have e1 : prtM P (tkS T len i) = 1 := by
            rcases p4 with e | e
            · exact e
            · exact absurd e0 (hpt _ e)
          rw [if_pos e1] at hQ
          have r4 : RD T len t0 σ0 A0 k0 0 (true, P1, i + 1, o' - 1, out') (sup (sup σ' 17 (nI (o' - 1))) 16 (nI P1.length)) w' A1 := by
            refine RD.chg r3 ?_ (fun _ _ => rfl) ?_ ?_ g53 ?_ ?_ ?_ ?_
            · intro j q1 q2 q3; rw [supa, if_neg q1, supa, if_neg q2]
            · rw [supa, if_neg (by decide), supa, if_neg (by decide)]; exact r3.2.2.1
            · rw [supa, if_pos rfl]
            · rw [supa, if_neg (by decide), supa, if_pos rfl]
            · omega
            · omega
            · omega
          have hop44 : opV P = nI 44 ↔ opM P = 44 := by
            unfold opV
            rw [if_neg p1]
            exact nI_eq (by omega) (by decide)
          refine ⟨fun e44 => ⟨Nat.le_of_ble_eq_true rfl, by omega, by omega, ?_⟩, fun e44 => ?_⟩
          · rw [if_pos (hop44.mp e44)] at hQ
            refine ⟨_, _, _, _, _, T, len, t0, σ0, A0, k0, true, P1, i + 1, o' - 1, out' ++ [(3, ((0 : Nat) : Int))], rfl, RD.emt r4 ?_ ?_ ?_ ?_ ?_ ?_, by omega, hQ.mono fun _ _ _ _ q => q⟩
            · intro j q; rw [supa, if_neg q]
            · intro j q; rw [supa, if_neg q, supa, if_neg q]
            · rw [supa, if_pos rfl]
            · rw [supa, if_pos rfl]
            · omega
            · omega
          · rw [if_neg (fun q => e44 (hop44.mpr q))] at hQ
            exact ⟨_, _, _, _, _, T, len, t0, σ0, A0, k0, true, P1, i + 1, o' - 1, out', rfl, r4, by omega, hQ.mono fun _ _ _ _ q => q⟩
        · have e1 : prtM P (tkS T len i) = 43 ∨ prtM P (tkS T len i) = 44 := by
            rcases p4 with e | e
            · rw [e] at e0; exact absurd (by decide) e0
            · exact e
          rw [if_neg (by omega)] at hQ
          refine ⟨σ', w', A1, L, R, opM P :: P1, rfl, ⟨k16, ⟨g51, g52, g53⟩, by simp only [List.length_cons]; omega⟩, ?_⟩
          have ho : oixI (opM P :: P1) = nI P1.length := if_pos p2
          have hpv : ptV (prtM P (tkS T len i)) = nI (prtM P (tkS T len i)) := by
            unfold ptV
            rw [if_neg (by omega), if_neg (by omega)]
          rw [ho, hpv]
          simp (disch := omega) only [true_and, and_true, lit, nI_add, nar_i, nar_0, nar_1, nar_b, fit_i, fit_l, pk_rem, nI_leI, nI_ltI, nI_eq, vin_iff, nI_clamp, nI_m1]
          refine ⟨by omega, hQ _ _ _ (RD.chg (d' := 0) (P' := prtM P (tkS T len i) :: P1) (wh' := false) (o' := o') r3 ?_ ?_ ?_ ?_ ?_ ?_ ?_ ?_ ?_)⟩
          · intro j q1 q2 q3; rw [supa, if_neg q3]
          · intro j q; rw [supa, if_neg q]
          · simp [sup]
          · rw [supa, if_neg (by decide), k16]; rfl
          · rw [supa, if_pos rfl]
            refine ⟨?_, by omega, pile_upd (Nat.le_refl _) g53⟩
            simp [upd]
          · rw [supa, if_neg (by decide)]; exact k17
          · simp only [cntO] at c7 hcn ⊢
            split <;> omega
          · exact c8
          · simp only [List.length_cons]; omega
    · replace hQ := hQ (fun q => hb q.1)
      obtain ⟨p1, p2, p3, p4, p5⟩ := btw_ok hb
      have hrk := rk_le (btwM P (tkS T len i))
      have hi : i < len := hr.lt p5
      rw [show btV (btwM P (tkS T len i)) = nI (btwM P (tkS T len i)) from if_neg hb]
      generalize hbb : btwM P (tkS T len i) = b at *
      have k26 : ∀ r, r < 10 → r = (if rk b = 4 then 5 else rk b) → b_X12_behindOne_26 sp_X12_endOne sp_X12_settle sp_X12_nextT sp_X12_betweenOf sp_X12_openNow sp_X12_partOf sp_X12_openAt sp_X12_emit sp_X12_rank Q [some (.ref m), some (.int (nI b)), none, none] [.int (nI r), .ref m] (menc m σ w A L R) n0 z0 := by
        intro r hr10 hre
        simp only [b_X12_behindOne_26, sp_X12_settle, sp_X12_nextT, supa, Nat.reduceEqDiff, reduceIte, s_psh, s_ild, s_lld, s_ald, s_ist, s_lst, s_ast, s_inc, s_ib, s_ibz, s_iu, s_lb, s_lbz, s_lu, s_ls, s_il, s_li, s_cmp, s_dup, s_pop, s_dup2, s_if1, s_if2, s_ifn, s_cv, s_cs, s_ci, s_oi, s_get, s_put, s_iald, s_lald, s_zald, s_iast, s_last, s_zast, s_alen, s_iret, s_lret, s_aret, s_vret, s_al, gpad, gl, gst, gclr, gc2, gent, gcat, Value.category, List.drop_succ_cons, List.drop_zero, List.take_succ_cons, List.take_zero, List.reverse_cons, List.reverse_nil, List.nil_append, List.cons_append, List.append_nil, List.map_cons, List.map_nil, List.sum_cons, List.sum_nil, List.length_cons, List.length_nil, Option.toList, cond_true, cond_false, Nat.reduceBEq, Nat.reduceAdd, Nat.reduceLeDiff, beq_self_eq_true, true_and, and_true, BEq.rfl, Bool.false_eq_true, if_true, if_false, menc_0, menc_1, menc_2, menc_3, menc_4, menc_5, menc_6, menc_7, menc_8, menc_9, menc_10, menc_11, menc_12, menc_13, menc_14, mf_0, mf_1, mf_2, mf_3, mf_4, mf_5, mf_6, mf_7, mf_8, mf_9, mf_10, mf_11, mf_12, mf_13, mf_14, mf_15, mf_16, mf_17, mf_18, mf_19, mf_20, mf_21, mf_22, mf_23, mf_24, mf_25, mf_26, mf_27, mf_28, mf_29, mf_30, mf_31, ms_4, ms_5, ms_6, ms_7, ms_8, ms_9, ms_10, ms_11, ms_12, ms_13, ms_14, ms_16, ms_17, ms_18, ms_19, ms_23, ms_24, ms_27, mu_1, mu_2, mu_3, mu_4, mu_5, mu_6, mu_7, mu_8, mu_9, mu_10, mu_11, mu_12, mu_13, mu_14]
        refine ⟨σ, w, A, L, R, P, o, out, t0, r, rfl, rfl, hr10, a4, a5, a6, a7, by omega, a9, a14, a10, by omega, by omega, a13, fun σ1 A1 hs => ?_⟩
        have r1 := hr.sett hs
        have hsz := stl_sz r P o out
        unfold behM at hQ
        rw [hbb, if_pos hb, ← hre] at hQ
        rcases e : stl r P o out with ⟨P', o', out'⟩
        rw [e] at r1 hsz hQ
        simp only at r1 hsz hQ
        have c1 := r1.1
        have c3 := r1.2.2.1
        have c4 : σ1 16 = nI P'.length := r1.2.2.2.1
        have c5 : pileM (A1 5) P' := r1.2.2.2.2.1
        have c6 : σ1 17 = nI o' := r1.2.2.2.2.2.1
        have c7 : cntO P' ≤ o' := r1.2.2.2.2.2.2.1
        have c8 : o' ≤ 8 := r1.2.2.2.2.2.2.2.1
        have c11 : out'.length + P'.length ≤ i + 0 := r1.2.2.2.2.2.2.2.2.2.2.1
        simp (disch := omega) only [true_and, and_true, lit, nI_add, nar_i, nar_0, nar_1, nar_b, fit_i, fit_l, pk_rem, nI_leI, nI_ltI, nI_eq, vin_iff, nI_clamp, nI_m1, fit_z0, c4]
        refine ⟨by omega, _, _, _, _, _, T, len, i + 1, rfl, ?_, c1.2.1, ?_, hlen, ?_, fun σ' w' hk ht => hQ _ _ _ (RD.nxt (RD.chg (d' := 1) (P' := b :: P') (wh' := false) (o' := o') r1 ?_ ?_ ?_ ?_ ?_ ?_ ?_ ?_ ?_) hi hk ht)⟩
        · simp only [supa, Nat.reduceEqDiff, reduceIte]; exact c1.1
        · simp only [supa, Nat.reduceEqDiff, reduceIte]; exact c1.2.2.1
        · simp only [supa, Nat.reduceEqDiff, reduceIte]; exact c1.at
        · intro j q1 q2 q3; simp only [supa, if_neg q1, if_neg q3]
        · intro j q; simp only [supa, if_neg q]
        · simp [sup]
        · simp only [supa, Nat.reduceEqDiff, reduceIte, List.length_cons]
        · simp only [supa, Nat.reduceEqDiff, reduceIte]
          refine ⟨?_, by omega, pile_upd (Nat.le_refl _) c5⟩
          simp [upd]
        · simp only [supa, Nat.reduceEqDiff, reduceIte]; exact c6
        · simp only [cntO]
          rw [if_neg (by omega)]
          exact c7
        · exact c8
        · simp only [List.length_cons]; omega
      simp (disch := omega) only [true_and, and_true, lit, nI_add, nar_i, nar_0, nar_1, nar_b, fit_i, fit_l, pk_rem, nI_leI, nI_ltI, nI_eq, vin_iff, nI_clamp, nI_m1, nI_not_lt0]
      refine ⟨fun q => absurd q (Nat.not_lt_zero _), fun _ => ⟨b, by omega, rfl, fun e4 => k26 5 (by omega) ?_, fun e4 => ⟨b, by omega, rfl, k26 _ (by omega) ?_⟩⟩⟩
      · rw [nI_eq (by omega) (by decide)] at e4
        rw [if_pos e4]
      · rw [nI_eq (by omega) (by decide)] at e4
        rw [if_neg e4]
  · exact h.elim
/-- what a law is read to -/
def sumR (m : Nat) (L : Nat → Nat → Int64) (R : gC) (n z : Nat) (Q : gQ) (T : Nat → Nat) (len t0 : Nat) (σ0 : Nat → Int32) (A0 : Nat → Nat → Int32) (out : List (Nat × Int)) : rR → Prop
  | .inl (f, j) => ∀ σ w A, 1 ≤ f → f ≤ 6 → TX σ w A T len j → RF t0 out.length σ0 A0 σ A → Q (some (.int (nI f))) (menc m σ w A L R) n z
  | .inr (j, a) => ∀ σ w A, TX σ w A T len j → j ≤ len → σ 13 = nI (out ++ a.1).length → codeM (A 3) (t0 + 73) (out ++ a.1) → (out ++ a.1).length ≤ j → RF t0 out.length σ0 A0 σ A → Q (some (.int (nI 0))) (menc m σ w A L R) n z
def sp_X12_summed : gSp := fun as C n z Q => match as with
  | [.ref m] => ∃ σ w A L R T len t0 i out cat, C = menc m σ w A L R ∧ TX σ w A T len i ∧ i ≤ len ∧ σ 13 = nI (List.length out) ∧ codeM (A 3) (t0 + 73) out ∧ List.length out ≤ i ∧ t0 ≤ 2043 ∧ σ 12 = nI t0 ∧ σ 14 = nI (if cat = true then 0 else 1) ∧ sumR m L R n z Q T len t0 σ A out (rSum (tkS T len) (rLv (tkS T len) (tkV T len) cat 8).1 i)
  | _ => False
theorem runM_1 {S V : Nat → Nat} {cat : Bool} {k : Nat} {s : rS} {r : rF} (h : runM S V cat (k + 1) s = some r) : s.2.1.length < 150 ∧ ((∃ s', stpM S V cat s = .inl s' ∧ runM S V cat k s' = some r) ∨ stpM S V cat s = .inr r) := by
  unfold runM at h
  split at h
  · cases h
  · refine ⟨by omega, ?_⟩
    split at h
    · rename_i s' e
      exact Or.inl ⟨s', e, h⟩
    · rename_i r' e
      rw [e, Option.some.inj h]
      exact Or.inr rfl
set_option maxRecDepth 100000 in
set_option maxHeartbeats 4000000 in
theorem c_X12_summed (l : Launch) : Con l yX12_summed cX12_summed 2 (some .int) 7 0 0 sp_X12_summed := by
  refine m_X12_summed (c_X12_openNow l) (by decide) (c_X12_settle l) (by decide) (c_X12_beginOne l) (by decide) (c_X12_behindOne l) (by decide) ?_
  intro as C0 n0 z0 Q h
  unfold sp_X12_summed at h
  split at h
  · rename_i m
    obtain ⟨σ0, w0, A0, L, R, T, len, t0, i0, out0, cat, rfl, ht, hi, h13, hcd, hol, ht0, h12, h14, hQ⟩ := h
    have hlen := ht.2.2.2.1
    obtain ⟨res, hres, hrun⟩ : ∃ res : rF, (match res with
        | .inl (f, j) => ∀ σ w A, 1 ≤ f → f ≤ 6 → TX σ w A T len j → RF t0 out0.length σ0 A0 σ A → Q (some (.int (nI f))) (menc m σ w A L R) n0 z0
        | .inr (j, o) => ∀ σ w A, TX σ w A T len j → j ≤ len → σ 13 = nI o.length → codeM (A 3) (t0 + 73) o → o.length ≤ j → RF t0 out0.length σ0 A0 σ A → Q (some (.int (nI 0))) (menc m σ w A L R) n0 z0) ∧ Run (tkS T len) (tkV T len) cat (false, [], i0, 0, out0) res := by
      have hS : ∀ j, 300 ≤ j → tkS T len j = 40 := fun j hj => tkS_end (by omega)
      rcases e : rSum (tkS T len) (rLv (tkS T len) (tkV T len) cat 8).1 i0 with ⟨f, j⟩ | ⟨j, a⟩
      · rw [e] at hQ
        exact ⟨.inl (f, j), hQ, law_sim hS (by rw [e]; rfl)⟩
      · rw [e] at hQ
        exact ⟨.inr (j, out0 ++ a.1), hQ, law_sim hS (by rw [e]; rfl)⟩
    obtain ⟨k0, hk0⟩ := hrun
    refine ⟨Nat.le_of_ble_eq_true rfl, fun pc μ lv st C n z => ∃ s σ w A o1, runM (tkS T len) (tkV T len) cat μ s = some res ∧ RD T len t0 σ0 A0 out0.length 0 s σ w A ∧ lv = [some (.ref m), o1] ∧ st = [] ∧ C = menc m σ w A L R ∧ n = n0 ∧ z = z0, ?_, ?_⟩
    · simp only [b_X12_summed_0, s_psh, s_ild, s_lld, s_ald, s_ist, s_lst, s_ast, s_inc, s_ib, s_ibz, s_iu, s_lb, s_lbz, s_lu, s_ls, s_il, s_li, s_cmp, s_dup, s_pop, s_dup2, s_if1, s_if2, s_ifn, s_cv, s_cs, s_ci, s_oi, s_get, s_put, s_iald, s_lald, s_zald, s_iast, s_last, s_zast, s_alen, s_iret, s_lret, s_aret, s_vret, s_al, gpad, gl, gst, gclr, gc2, gent, gcat, Value.category, List.drop_succ_cons, List.drop_zero, List.take_succ_cons, List.take_zero, List.reverse_cons, List.reverse_nil, List.nil_append, List.cons_append, List.append_nil, List.map_cons, List.map_nil, List.sum_cons, List.sum_nil, List.length_cons, List.length_nil, Option.toList, cond_true, cond_false, Nat.reduceBEq, Nat.reduceAdd, Nat.reduceLeDiff, beq_self_eq_true, true_and, and_true, BEq.rfl, Bool.false_eq_true, if_true, if_false, menc_0, menc_1, menc_2, menc_3, menc_4, menc_5, menc_6, menc_7, menc_8, menc_9, menc_10, menc_11, menc_12, menc_13, menc_14, mf_0, mf_1, mf_2, mf_3, mf_4, mf_5, mf_6, mf_7, mf_8, mf_9, mf_10, mf_11, mf_12, mf_13, mf_14, mf_15, mf_16, mf_17, mf_18, mf_19, mf_20, mf_21, mf_22, mf_23, mf_24, mf_25, mf_26, mf_27, mf_28, mf_29, mf_30, mf_31, ms_4, ms_5, ms_6, ms_7, ms_8, ms_9, ms_10, ms_11, ms_12, ms_13, ms_14, ms_16, ms_17, ms_18, ms_19, ms_23, ms_24, ms_27, mu_1, mu_2, mu_3, mu_4, mu_5, mu_6, mu_7, mu_8, mu_9, mu_10, mu_11, mu_12, mu_13, mu_14]
      simp only [true_and, and_true, lit, nI_add, nar_i, nar_0, nar_1, nar_b, fit_i, fit_l, pk_rem, nI_leI, nI_ltI, nI_eq, vin_iff, nI_clamp, nI_m1, fit_z0]
      refine ⟨k0, (false, [], i0, 0, out0), _, _, _, _, hk0, ?_, rfl, rfl⟩
      refine ⟨ht.keep rfl ?_ ?_ ?_ ?_ ?_, hi, ?_, ?_, trivial, ?_, Nat.zero_le _, Nat.zero_le _, ?_, hcd, by simpa using hol, Nat.le_refl _, ht0, ?_, ?_, fun _ _ _ => rfl, fun _ _ => rfl⟩
      all_goals try simp only [supa, Nat.reduceEqDiff, reduceIte]
      · rfl
      · rfl
      · exact h13
      · exact h12
      · intro j q1 q2 q3 q4 q5 q6 q7 q8
        simp only [supa, if_neg q6, if_neg q7, if_neg q8]
    · rintro μ lv st C n z ⟨s, σ, w, A, o1, hrun, hr, rfl, rfl, rfl, rfl, rfl⟩
      obtain ⟨wh, P, i, o, out⟩ := s
      have hr' := hr
      obtain ⟨a1, a2, a3, a4, a5, a6, a7, a8, a9, a10, a11, a12, a13, a14, b1, b2, b3⟩ := hr'
      simp only at a2 a3 a4 a5 a6 a7 a8 a9 a10 a11 a12
      cases μ with
      | zero => cases hrun
      | succ k =>
        obtain ⟨hP, hst⟩ := runM_1 hrun
        simp only at hP
        have h14' : σ 14 = nI (if cat = true then 0 else 1) := by
          rw [b1 14 (by decide) (by decide) (by decide) (by decide) (by decide) (by decide) (by decide) (by decide)]; exact h14
        have go : ∀ (Kf : gKo), (∀ s' σ' w' A' v, runM (tkS T len) (tkV T len) cat k s' = some res → RD T len t0 σ0 A0 out0.length 0 s' σ' w' A' → Kf [some (.ref m), v] [] (menc m σ' w' A' L R) n z) → ∀ (o2 : Option Value) (x : rS ⊕ rF), stpM (tkS T len) (tkV T len) cat (wh, P, i, o, out) = x → (∀ y, x ≠ .inr (.inr y)) → RDp m L R n z (fun r C' n' z' => b_X12_summed_33 sp_X12_openNow sp_X12_settle sp_X12_beginOne sp_X12_behindOne Q Kf [some (.ref m), o2] (match r with
            | none => []
            | some a => [a]) C' n' z') T len t0 σ0 A0 out0.length x := by
          intro Kf hK o2 x hx hny
          rcases x with s' | ⟨f, j⟩ | y
          · intro σ' w' A' hr1
            have hrun' : runM (tkS T len) (tkV T len) cat k s' = some res := by
              rcases hst with ⟨s2, e1, e2⟩ | e1
              · rw [hx] at e1
                rw [Sum.inl.inj e1]; exact e2
              · rw [hx] at e1; cases e1
            simp only [b_X12_summed_33, s_psh, s_ild, s_lld, s_ald, s_ist, s_lst, s_ast, s_inc, s_ib, s_ibz, s_iu, s_lb, s_lbz, s_lu, s_ls, s_il, s_li, s_cmp, s_dup, s_pop, s_dup2, s_if1, s_if2, s_ifn, s_cv, s_cs, s_ci, s_oi, s_get, s_put, s_iald, s_lald, s_zald, s_iast, s_last, s_zast, s_alen, s_iret, s_lret, s_aret, s_vret, s_al, gpad, gl, gst, gclr, gc2, gent, gcat, Value.category, List.drop_succ_cons, List.drop_zero, List.take_succ_cons, List.take_zero, List.reverse_cons, List.reverse_nil, List.nil_append, List.cons_append, List.append_nil, List.map_cons, List.map_nil, List.sum_cons, List.sum_nil, List.length_cons, List.length_nil, Option.toList, cond_true, cond_false, Nat.reduceBEq, Nat.reduceAdd, Nat.reduceLeDiff, beq_self_eq_true, true_and, and_true, BEq.rfl, Bool.false_eq_true, if_true, if_false, menc_0, menc_1, menc_2, menc_3, menc_4, menc_5, menc_6, menc_7, menc_8, menc_9, menc_10, menc_11, menc_12, menc_13, menc_14, mf_0, mf_1, mf_2, mf_3, mf_4, mf_5, mf_6, mf_7, mf_8, mf_9, mf_10, mf_11, mf_12, mf_13, mf_14, mf_15, mf_16, mf_17, mf_18, mf_19, mf_20, mf_21, mf_22, mf_23, mf_24, mf_25, mf_26, mf_27, mf_28, mf_29, mf_30, mf_31, ms_4, ms_5, ms_6, ms_7, ms_8, ms_9, ms_10, ms_11, ms_12, ms_13, ms_14, ms_16, ms_17, ms_18, ms_19, ms_23, ms_24, ms_27, mu_1, mu_2, mu_3, mu_4, mu_5, mu_6, mu_7, mu_8, mu_9, mu_10, mu_11, mu_12, mu_13, mu_14]
            simp (disch := omega) only [true_and, and_true, lit, nI_add, nar_i, nar_0, nar_1, nar_b, fit_i, fit_l, pk_rem, nI_leI, nI_ltI, nI_eq, vin_iff, nI_clamp, nI_m1]
            exact ⟨fun _ => ⟨fun _ => hK s' σ' w' A' _ hrun' hr1, fun q => absurd trivial q⟩, fun q => absurd (Nat.le_refl _) q⟩
          · intro σ' w' A' hf1 hf6 ht1 hrf
            have hre : res = .inl (f, j) := by
              rcases hst with ⟨s2, e1, e2⟩ | e1
              · rw [hx] at e1; cases e1
              · rw [hx] at e1
                exact (Sum.inr.inj e1).symm
            subst hre
            simp only [b_X12_summed_33, s_psh, s_ild, s_lld, s_ald, s_ist, s_lst, s_ast, s_inc, s_ib, s_ibz, s_iu, s_lb, s_lbz, s_lu, s_ls, s_il, s_li, s_cmp, s_dup, s_pop, s_dup2, s_if1, s_if2, s_ifn, s_cv, s_cs, s_ci, s_oi, s_get, s_put, s_iald, s_lald, s_zald, s_iast, s_last, s_zast, s_alen, s_iret, s_lret, s_aret, s_vret, s_al, gpad, gl, gst, gclr, gc2, gent, gcat, Value.category, List.drop_succ_cons, List.drop_zero, List.take_succ_cons, List.take_zero, List.reverse_cons, List.reverse_nil, List.nil_append, List.cons_append, List.append_nil, List.map_cons, List.map_nil, List.sum_cons, List.sum_nil, List.length_cons, List.length_nil, Option.toList, cond_true, cond_false, Nat.reduceBEq, Nat.reduceAdd, Nat.reduceLeDiff, beq_self_eq_true, true_and, and_true, BEq.rfl, Bool.false_eq_true, if_true, if_false, menc_0, menc_1, menc_2, menc_3, menc_4, menc_5, menc_6, menc_7, menc_8, menc_9, menc_10, menc_11, menc_12, menc_13, menc_14, mf_0, mf_1, mf_2, mf_3, mf_4, mf_5, mf_6, mf_7, mf_8, mf_9, mf_10, mf_11, mf_12, mf_13, mf_14, mf_15, mf_16, mf_17, mf_18, mf_19, mf_20, mf_21, mf_22, mf_23, mf_24, mf_25, mf_26, mf_27, mf_28, mf_29, mf_30, mf_31, ms_4, ms_5, ms_6, ms_7, ms_8, ms_9, ms_10, ms_11, ms_12, ms_13, ms_14, ms_16, ms_17, ms_18, ms_19, ms_23, ms_24, ms_27, mu_1, mu_2, mu_3, mu_4, mu_5, mu_6, mu_7, mu_8, mu_9, mu_10, mu_11, mu_12, mu_13, mu_14]
            simp (disch := omega) only [true_and, and_true, lit, nI_add, nar_i, nar_0, nar_1, nar_b, fit_i, fit_l, pk_rem, nI_leI, nI_ltI, nI_eq, vin_iff, nI_clamp, nI_m1]
            exact ⟨fun q => by omega, fun _ => hres σ' w' A' hf1 hf6 ht1 hrf⟩
          · exact absurd rfl (hny y)
        have hw : pw σ A P := ⟨a4, a5, by omega⟩
        simp only [b_X12_summed_15, sp_X12_beginOne, sp_X12_behindOne, s_psh, s_ild, s_lld, s_ald, s_ist, s_lst, s_ast, s_inc, s_ib, s_ibz, s_iu, s_lb, s_lbz, s_lu, s_ls, s_il, s_li, s_cmp, s_dup, s_pop, s_dup2, s_if1, s_if2, s_ifn, s_cv, s_cs, s_ci, s_oi, s_get, s_put, s_iald, s_lald, s_zald, s_iast, s_last, s_zast, s_alen, s_iret, s_lret, s_aret, s_vret, s_al, gpad, gl, gst, gclr, gc2, gent, gcat, Value.category, List.drop_succ_cons, List.drop_zero, List.take_succ_cons, List.take_zero, List.reverse_cons, List.reverse_nil, List.nil_append, List.cons_append, List.append_nil, List.map_cons, List.map_nil, List.sum_cons, List.sum_nil, List.length_cons, List.length_nil, Option.toList, cond_true, cond_false, Nat.reduceBEq, Nat.reduceAdd, Nat.reduceLeDiff, beq_self_eq_true, true_and, and_true, BEq.rfl, Bool.false_eq_true, if_true, if_false, menc_0, menc_1, menc_2, menc_3, menc_4, menc_5, menc_6, menc_7, menc_8, menc_9, menc_10, menc_11, menc_12, menc_13, menc_14, mf_0, mf_1, mf_2, mf_3, mf_4, mf_5, mf_6, mf_7, mf_8, mf_9, mf_10, mf_11, mf_12, mf_13, mf_14, mf_15, mf_16, mf_17, mf_18, mf_19, mf_20, mf_21, mf_22, mf_23, mf_24, mf_25, mf_26, mf_27, mf_28, mf_29, mf_30, mf_31, ms_4, ms_5, ms_6, ms_7, ms_8, ms_9, ms_10, ms_11, ms_12, ms_13, ms_14, ms_16, ms_17, ms_18, ms_19, ms_23, ms_24, ms_27, mu_1, mu_2, mu_3, mu_4, mu_5, mu_6, mu_7, mu_8, mu_9, mu_10, mu_11, mu_12, mu_13, mu_14]
        simp only [true_and, and_true, lit, nI_add, nar_i, nar_0, nar_1, nar_b, fit_i, fit_l, pk_rem, nI_leI, nI_ltI, nI_eq, vin_iff, nI_clamp, nI_m1, a3]
        cases wh with
        | false =>
          refine ⟨fun _ => ⟨σ, w, A, L, R, T, len, t0, σ0, A0, out0.length, P, i, o, out, cat, rfl, hr, hP, h14', go _ ?_ _ _ rfl ?_⟩, fun q => absurd rfl q⟩
          · exact fun s' σ' w' A' v q1 q2 => ⟨k, Nat.lt_succ_self k, s', σ', w', A', v, q1, q2, rfl, rfl, rfl, rfl, rfl⟩
          · intro y
            show begM _ _ _ _ _ _ _ ≠ _
            unfold begM endM pushM
            repeat' split
            all_goals simp
        | true =>
          refine ⟨fun q => absurd (show nI 1 = nI 0 from q) (by decide), fun _ => ⟨σ, w, A, L, R, T, len, t0, σ0, A0, out0.length, P, i, o, out, rfl, hr, hP, fun hb hp => ?_, fun hbp => go _ ?_ _ _ rfl ?_⟩⟩
          · have hstp : stpM (tkS T len) (tkV T len) cat (true, P, i, o, out) = if opM P ≠ 0 then .inr (.inl (1, i)) else .inr (.inr (i, (stl 1 P o out).2.2)) := by
              show behM _ _ _ _ _ = _
              unfold behM
              rw [if_neg (fun q => q hb), if_pos hp]
            have hrr : stpM (tkS T len) (tkV T len) cat (true, P, i, o, out) = .inr res := by
              rcases hst with ⟨s2, e1, e2⟩ | e1
              · rw [hstp] at e1
                split at e1 <;> cases e1
              · exact e1
            rw [hstp] at hrr
            simp only [b_X12_summed_33, sp_X12_openNow, sp_X12_settle, s_psh, s_ild, s_lld, s_ald, s_ist, s_lst, s_ast, s_inc, s_ib, s_ibz, s_iu, s_lb, s_lbz, s_lu, s_ls, s_il, s_li, s_cmp, s_dup, s_pop, s_dup2, s_if1, s_if2, s_ifn, s_cv, s_cs, s_ci, s_oi, s_get, s_put, s_iald, s_lald, s_zald, s_iast, s_last, s_zast, s_alen, s_iret, s_lret, s_aret, s_vret, s_al, gpad, gl, gst, gclr, gc2, gent, gcat, Value.category, List.drop_succ_cons, List.drop_zero, List.take_succ_cons, List.take_zero, List.reverse_cons, List.reverse_nil, List.nil_append, List.cons_append, List.append_nil, List.map_cons, List.map_nil, List.sum_cons, List.sum_nil, List.length_cons, List.length_nil, Option.toList, cond_true, cond_false, Nat.reduceBEq, Nat.reduceAdd, Nat.reduceLeDiff, beq_self_eq_true, true_and, and_true, BEq.rfl, Bool.false_eq_true, if_true, if_false, menc_0, menc_1, menc_2, menc_3, menc_4, menc_5, menc_6, menc_7, menc_8, menc_9, menc_10, menc_11, menc_12, menc_13, menc_14, mf_0, mf_1, mf_2, mf_3, mf_4, mf_5, mf_6, mf_7, mf_8, mf_9, mf_10, mf_11, mf_12, mf_13, mf_14, mf_15, mf_16, mf_17, mf_18, mf_19, mf_20, mf_21, mf_22, mf_23, mf_24, mf_25, mf_26, mf_27, mf_28, mf_29, mf_30, mf_31, ms_4, ms_5, ms_6, ms_7, ms_8, ms_9, ms_10, ms_11, ms_12, ms_13, ms_14, ms_16, ms_17, ms_18, ms_19, ms_23, ms_24, ms_27, mu_1, mu_2, mu_3, mu_4, mu_5, mu_6, mu_7, mu_8, mu_9, mu_10, mu_11, mu_12, mu_13, mu_14]
            simp only [true_and, and_true, lit, nI_add, nar_i, nar_0, nar_1, nar_b, fit_i, fit_l, pk_rem, nI_leI, nI_ltI, nI_eq, vin_iff, nI_clamp, nI_m1, lit, m1_lt0]
            refine ⟨fun _ => ⟨fun q => absurd q (by decide), fun _ => ⟨σ, w, A, L, R, P, rfl, hw, fun q => ?_, fun q => ?_⟩⟩, fun q => absurd (by decide) q⟩
            · have ho : opM P = 0 := by
                rcases oix_of a5 with ⟨e1, _⟩ | ⟨j, _, _, _, e4, e5⟩
                · exact e1
                · unfold opV at q
                  rw [if_neg (by omega)] at q
                  exact absurd q (nI_pos (by omega))
              rw [if_neg (fun q => q ho)] at hrr
              have hre := (Sum.inr.inj hrr).symm
              subst hre
              refine ⟨σ, w, A, L, R, P, o, out, t0, 1, rfl, rfl, by decide, a4, a5, a6, a7, by omega, a9, a14, a10, by omega, by omega, a13, fun σ1 A1 hs => ?_⟩
              have r1 := hr.sett hs
              obtain ⟨c1, c2, c3, c4, c5, c6, c7, c8, c9, c10, c11, c12, c13, c14, d⟩ := r1
              simp only at c2 c9 c10 c11
              exact hres σ1 w A1 c1 c2 c9 c10 (by omega) d
            · have ho : opM P ≠ 0 := fun e => by
                unfold opV at q
                rw [if_pos e] at q
                exact q (by decide)
              rw [if_pos ho] at hrr
              have hre := (Sum.inr.inj hrr).symm
              subst hre
              exact hres σ w A (by decide) (by decide) a1 ⟨b1, b2, b3⟩
          · exact fun s' σ' w' A' v q1 q2 => ⟨k, Nat.lt_succ_self k, s', σ', w', A', v, q1, q2, rfl, rfl, rfl, rfl, rfl⟩
          · intro y
            show behM _ _ _ _ _ ≠ _
            unfold behM endM
            repeat' split
            all_goals simp_all
  · exact h.elim
