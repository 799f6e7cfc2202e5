/-! the reference reads a law: one by one -/
theorem fit_z0 : gfit .boolean (.int (nI 0)) = True := eq_true ⟨rfl, rfl⟩
theorem fit_z1 : gfit .boolean (.int (nI 1)) = True := eq_true ⟨rfl, rfl⟩
/-- what reading a law leaves as it was -/
def RF (t0 n0 : Nat) (σ0 : Nat → Int32) (A0 : Nat → Nat → Int32) (σ : Nat → Int32) (A : Nat → Nat → Int32) : Prop := (∀ j, j ≠ 7 → j ≠ 8 → j ≠ 9 → j ≠ 10 → j ≠ 13 → j ≠ 16 → j ≠ 17 → j ≠ 18 → σ j = σ0 j) ∧ (∀ j, j ≠ 3 → j ≠ 5 → A j = A0 j) ∧ frC t0 n0 (A0 3) (A 3)
def RD (T : Nat → Nat) (len t0 : Nat) (σ0 : Nat → Int32) (A0 : Nat → Nat → Int32) (n0 d : Nat) (s : rS) (σ : Nat → Int32) (w : Int64) (A : Nat → Nat → Int32) : Prop :=
  TX σ w A T len s.2.2.1 ∧ s.2.2.1 ≤ len ∧ σ 18 = nI (if s.1 = true then 1 else 0) ∧ σ 16 = nI s.2.1.length ∧ pileM (A 5) s.2.1 ∧ σ 17 = nI s.2.2.2.1 ∧ cntO s.2.1 ≤ s.2.2.2.1 ∧ s.2.2.2.1 ≤ 8 ∧ σ 13 = nI s.2.2.2.2.length ∧ codeM (A 3) (t0 + 73) s.2.2.2.2 ∧ s.2.2.2.2.length + s.2.1.length ≤ s.2.2.1 + d ∧ n0 ≤ s.2.2.2.2.length ∧ t0 ≤ 2043 ∧ σ 12 = nI t0 ∧ RF t0 n0 σ0 A0 σ A
def RDp (m : Nat) (L : Nat → Nat → Int64) (R : gC) (n z : Nat) (Q : gQ) (T : Nat → Nat) (len t0 : Nat) (σ0 : Nat → Int32) (A0 : Nat → Nat → Int32) (n0 : Nat) : rS ⊕ rF → Prop
  | .inl s => ∀ σ w A, RD T len t0 σ0 A0 n0 0 s σ w A → Q (some (.int (nI 0))) (menc m σ w A L R) n z
  | .inr (.inl (f, j)) => ∀ σ w A, 1 ≤ f → f ≤ 6 → TX σ w A T len j → RF t0 n0 σ0 A0 σ A → Q (some (.int (nI f))) (menc m σ w A L R) n z
  | .inr (.inr _) => False
section RDS
variable {T : Nat → Nat} {len t0 : Nat} {σ0 : Nat → Int32} {A0 : Nat → Nat → Int32} {n0 d i o : Nat} {wh : Bool} {P : List Nat} {out : List (Nat × Int)} {σ : Nat → Int32} {w : Int64} {A : Nat → Nat → Int32}
theorem stl_sz (r : Nat) : ∀ (P : List Nat) (o : Nat) (out : List (Nat × Int)), (stl r P o out).1.length + (stl r P o out).2.2.length = P.length + out.length ∧ out.length ≤ (stl r P o out).2.2.length ∧ (stl r P o out).2.1 ≤ o ∧ (stl r P o out).1.length ≤ P.length
  | [], o, out => by simp [stl]
  | p :: P, o, out => by
    unfold stl
    split
    · have h := stl_sz r P (if rk p = 7 ∨ p = 20 then o - 1 else o) (out ++ [(p, 0)])
      simp only [List.length_append, List.length_cons, List.length_nil] at h ⊢
      obtain ⟨h1, h2, h3, h4⟩ := h
      refine ⟨by omega, by omega, Nat.le_trans h3 ?_, by omega⟩
      split <;> omega
    · simp
theorem RD.chg {d' o' : Nat} {wh' : Bool} {P' : List Nat} {σ1 : Nat → Int32} {A1 : Nat → Nat → Int32} (h : RD T len t0 σ0 A0 n0 d (wh, P, i, o, out) σ w A) (h1 : ∀ j, j ≠ 16 → j ≠ 17 → j ≠ 18 → σ1 j = σ j) (hA : ∀ j, j ≠ 5 → A1 j = A j) (h18 : σ1 18 = nI (if wh' = true then 1 else 0)) (h16 : σ1 16 = nI P'.length) (hp : pileM (A1 5) P') (h17 : σ1 17 = nI o') (hc : cntO P' ≤ o') (ho : o' ≤ 8) (hl : out.length + P'.length ≤ i + d') : RD T len t0 σ0 A0 n0 d' (wh', P', i, o', out) σ1 w A1 := by
  obtain ⟨a1, a2, a3, a4, a5, a6, a7, a8, a9, a10, a11, a12, a13, a14, b1, b2, b3⟩ := h
  refine ⟨a1.keep (hA 4 (by decide)) (h1 4 (by decide) (by decide) (by decide)) (h1 7 (by decide) (by decide) (by decide)) (h1 8 (by decide) (by decide) (by decide)) (h1 9 (by decide) (by decide) (by decide)) (h1 10 (by decide) (by decide) (by decide)), a2, h18, h16, hp, h17, hc, ho, ?_, ?_, hl, a12, a13, ?_, fun j q1 q2 q3 q4 q5 q6 q7 q8 => ?_, fun j q1 q2 => ?_, ?_⟩
  · rw [h1 13 (by decide) (by decide) (by decide)]; exact a9
  · rw [hA 3 (by decide)]; exact a10
  · rw [h1 12 (by decide) (by decide) (by decide)]; exact a14
  · rw [h1 j q6 q7 q8]; exact b1 j q1 q2 q3 q4 q5 q6 q7 q8
  · rw [hA j q2]; exact b2 j q1 q2
  · rw [hA 3 (by decide)]; exact b3
theorem RD.nxt {σ' : Nat → Int32} {w' : Int64} (h : RD T len t0 σ0 A0 n0 1 (wh, P, i, o, out) σ w A) (hi : i < len) (hk : ∀ j, j ≠ 7 → j ≠ 8 → j ≠ 9 → j ≠ 10 → σ' j = σ j) (ht : TX σ' w' A T len (i + 1)) : RD T len t0 σ0 A0 n0 0 (wh, P, i + 1, o, out) σ' w' A := by
  obtain ⟨a1, a2, a3, a4, a5, a6, a7, a8, a9, a10, a11, a12, a13, a14, b1, b2, b3⟩ := h
  have k : ∀ j, 10 < j → σ' j = σ j := fun j hj => hk j (by omega) (by omega) (by omega) (by omega)
  refine ⟨ht, hi, ?_, ?_, a5, ?_, a7, a8, ?_, a10, a11, a12, a13, ?_, fun j q1 q2 q3 q4 q5 q6 q7 q8 => ?_, b2, b3⟩
  · rw [k 18 (by decide)]; exact a3
  · rw [k 16 (by decide)]; exact a4
  · rw [k 17 (by decide)]; exact a6
  · rw [k 13 (by decide)]; exact a9
  · rw [k 12 (by decide)]; exact a14
  · rw [hk j q1 q2 q3 q4]; exact b1 j q1 q2 q3 q4 q5 q6 q7 q8
theorem RD.up (h : RD T len t0 σ0 A0 n0 0 (wh, P, i, o, out) σ w A) : RD T len t0 σ0 A0 n0 1 (wh, P, i, o, out) σ w A := by
  obtain ⟨a1, a2, a3, a4, a5, a6, a7, a8, a9, a10, a11, a12⟩ := h
  exact ⟨a1, a2, a3, a4, a5, a6, a7, a8, a9, a10, Nat.le_trans a11 (Nat.add_le_add_left (Nat.zero_le _) _), a12⟩
theorem RD.emt {d' c v : Nat} {σ1 : Nat → Int32} {A1 : Nat → Nat → Int32} (h : RD T len t0 σ0 A0 n0 d (wh, P, i, o, out) σ w A) (h1 : ∀ j, j ≠ 13 → σ1 j = σ j) (hA : ∀ j, j ≠ 3 → A1 j = A j) (h13 : σ1 13 = nI (out.length + 1)) (h3 : A1 3 = upd (upd (A 3) (t0 + 73 + 2 * out.length) (nI c)) (t0 + 73 + 2 * out.length + 1) (nI v)) (ho : out.length ≤ 302) (hl : out.length + 1 + P.length ≤ i + d') : RD T len t0 σ0 A0 n0 d' (wh, P, i, o, out ++ [(c, (v : Int))]) σ1 w A1 := by
  obtain ⟨a1, a2, a3, a4, a5, a6, a7, a8, a9, a10, a11, a12, a13, a14, b1, b2, b3⟩ := h
  have hle : n0 ≤ out.length := a12
  refine ⟨a1.keep (hA 4 (by decide)) (h1 4 (by decide)) (h1 7 (by decide)) (h1 8 (by decide)) (h1 9 (by decide)) (h1 10 (by decide)), a2, ?_, ?_, ?_, ?_, a7, a8, ?_, ?_, ?_, ?_, a13, ?_, fun j q1 q2 q3 q4 q5 q6 q7 q8 => ?_, fun j q1 q2 => ?_, fun k hk => ?_⟩
  · rw [h1 18 (by decide)]; exact a3
  · rw [h1 16 (by decide)]; exact a4
  · rw [hA 5 (by decide)]; exact a5
  · rw [h1 17 (by decide)]; exact a6
  · simpa using h13
  · rw [h3]; exact codeM_snoc a10
  · simp only [List.length_append, List.length_cons, List.length_nil]; omega
  · simp only [List.length_append, List.length_cons, List.length_nil]; omega
  · rw [h1 12 (by decide)]; exact a14
  · rw [h1 j q5]; exact b1 j q1 q2 q3 q4 q5 q6 q7 q8
  · rw [hA j q1]; exact b2 j q1 q2
  · rw [h3, pk_un (by omega), pk_un (by omega)]
    exact b3 k hk
theorem RD.sett {r : Nat} {σ1 : Nat → Int32} {A1 : Nat → Nat → Int32} (h : RD T len t0 σ0 A0 n0 d (wh, P, i, o, out) σ w A) (hs : settled t0 σ σ1 A A1 out.length (stl r P o out)) : RD T len t0 σ0 A0 n0 d (wh, (stl r P o out).1, i, (stl r P o out).2.1, (stl r P o out).2.2) σ1 w A1 := by
  obtain ⟨a1, a2, a3, a4, a5, a6, a7, a8, a9, a10, a11, a12, a13, a14, b1, b2, b3⟩ := h
  obtain ⟨h1, hA, hfr, g16, gp, g17, gc, g13, gcd⟩ := hs
  obtain ⟨z1, z2, z3, z4⟩ := stl_sz r P o out
  have hle : n0 ≤ out.length := a12
  have ho8 : o ≤ 8 := a8
  have hll : out.length + P.length ≤ i + d := a11
  refine ⟨a1.keep (hA 4 (by decide)) (h1 4 (by decide) (by decide) (by decide)) (h1 7 (by decide) (by decide) (by decide)) (h1 8 (by decide) (by decide) (by decide)) (h1 9 (by decide) (by decide) (by decide)) (h1 10 (by decide) (by decide) (by decide)), a2, ?_, g16, gp, g17, gc, Nat.le_trans z3 ho8, g13, gcd, ?_, Nat.le_trans hle z2, a13, ?_, fun j q1 q2 q3 q4 q5 q6 q7 q8 => ?_, fun j q1 q2 => ?_, fun k hk => ?_⟩
  · rw [h1 18 (by decide) (by decide) (by decide)]; exact a3
  · show (stl r P o out).2.2.length + (stl r P o out).1.length ≤ i + d
    omega
  · rw [h1 12 (by decide) (by decide) (by decide)]; exact a14
  · rw [h1 j q5 q6 q7]; exact b1 j q1 q2 q3 q4 q5 q6 q7 q8
  · rw [hA j q1]; exact b2 j q1 q2
  · rw [hfr k (by omega)]; exact b3 k hk
theorem RD.lt (h : RD T len t0 σ0 A0 n0 d (wh, P, i, o, out) σ w A) (hs : tkS T len i ≠ 40) : i < len := by
  rcases Nat.lt_or_ge i len with q | q
  · exact q
  · exact absurd (tkS_end q) hs
theorem TX.num (h : TX σ w A T len i) (hs : tkS T len i = 39) : ∃ r, σ 10 = nI r ∧ r ≤ 1000008 ∧ tkV T len i = min r 10000 := by
  obtain ⟨_, hT, _, _, ht⟩ := h
  unfold tkS at hs
  split at hs
  · rename_i hb
    have hd : isDg (T (tB T len i)) = true := by
      unfold tS at hs
      split at hs
      · rcases wF_le (lR T (tB T len i) (tE T len (tB T len i) - tB T len i)) with q | q <;> omega
      · split at hs
        · assumption
        · by_cases q : isTwo T len (tB T len i)
          · rw [pif_t q] at hs; split at hs <;> cases hs
          · rw [pif_f q] at hs
            rcases sgn_c (b := T (tB T len i)) with q | q <;> omega
    obtain ⟨_, h2, _⟩ := ht
    have hk := nR_nV (T := T) (a := tB T len i) (tE T len (tB T len i) - tB T len i) (fun j hj => by
      refine spL_in (T := T) (p := isDg) (len := len) (i := tB T len i) (by omega) ?_
      rw [tE_dg hd] at hj
      omega)
    refine ⟨_, (h2 hb).2.1 hd |>.2, hk.2, ?_⟩
    unfold tkV tV
    rw [if_pos hb, if_neg (by rw [dg_lt hd]; decide), if_pos hd, hk.1]
  · cases hs
end RDS
theorem fn_keep {σ : Nat → Int32} (j : Nat) : σ j = σ j := rfl
def sp_X12_opened : gSp := fun as C n z Q => match as with
  | [.ref m, .int x] => ∃ σ w A L R T len t0 σ0 A0 n0 wh P i o out p, C = menc m σ w A L R ∧ RD T len t0 σ0 A0 n0 0 (wh, P, i, o, out) σ w A ∧ wh = false ∧ x = nI p ∧ p < 50 ∧ i < len ∧ P.length < 150 ∧ RDp m L R n z Q T len t0 σ0 A0 n0 (pushM p P i o out)
  | _ => False
set_option maxRecDepth 100000 in
set_option maxHeartbeats 4000000 in
theorem c_X12_opened (l : Launch) : Con l yX12_opened cX12_opened 2 (some .int) 2 0 0 sp_X12_opened := by
  refine m_X12_opened (c_X12_nextT l) (by decide) ?_
  intro as C0 n0 z0 Q h
  unfold sp_X12_opened at h
  split at h
  · rename_i m x
    obtain ⟨σ, w, A, L, R, T, len, t0, σ0, A0, k0, wh, P, i, o, out, p, rfl, hr, rfl, rfl, hp, hi, hP, hQ⟩ := h
    have hr' := hr
    obtain ⟨a1, a2, a3, a4, a5, a6, a7, a8, a9, a10, a11, a12, a13, a14, b1, b2, b3⟩ := hr'
    simp only at a2 a3 a4 a5 a6 a7 a8 a9 a10 a11 a12
    refine ⟨Nat.le_of_ble_eq_true rfl, ?_⟩
    simp only [b_X12_opened_0, sp_X12_nextT, supa, Nat.reduceEqDiff, reduceIte, s_psh, s_ild, s_lld, s_ald, s_ist, s_lst, s_ast, s_inc, s_ib, s_ibz, s_iu, s_lb, s_lbz, s_lu, s_ls, s_il, s_li, s_cmp, s_dup, s_pop, s_dup2, s_if1, s_if2, s_ifn, s_cv, s_cs, s_ci, s_oi, s_get, s_put, s_iald, s_lald, s_zald, s_iast, s_last, s_zast, s_alen, s_iret, s_lret, s_aret, s_vret, s_al, gpad, gl, gst, gclr, gc2, gent, gcat, Value.category, List.drop_succ_cons, List.drop_zero, List.take_succ_cons, List.take_zero, List.reverse_cons, List.reverse_nil, List.nil_append, List.cons_append, List.append_nil, List.map_cons, List.map_nil, List.sum_cons, List.sum_nil, List.length_cons, List.length_nil, Option.toList, cond_true, cond_false, Nat.reduceBEq, Nat.reduceAdd, Nat.reduceLeDiff, beq_self_eq_true, true_and, and_true, BEq.rfl, Bool.false_eq_true, if_true, if_false, menc_0, menc_1, menc_2, menc_3, menc_4, menc_5, menc_6, menc_7, menc_8, menc_9, menc_10, menc_11, menc_12, menc_13, menc_14, mf_0, mf_1, mf_2, mf_3, mf_4, mf_5, mf_6, mf_7, mf_8, mf_9, mf_10, mf_11, mf_12, mf_13, mf_14, mf_15, mf_16, mf_17, mf_18, mf_19, mf_20, mf_21, mf_22, mf_23, mf_24, mf_25, mf_26, mf_27, mf_28, mf_29, mf_30, mf_31, ms_4, ms_5, ms_6, ms_7, ms_8, ms_9, ms_10, ms_11, ms_12, ms_13, ms_14, ms_16, ms_17, ms_18, ms_19, ms_23, ms_24, ms_27, mu_1, mu_2, mu_3, mu_4, mu_5, mu_6, mu_7, mu_8, mu_9, mu_10, mu_11, mu_12, mu_13, mu_14]
    simp (disch := omega) only [true_and, and_true, lit, nI_add, nar_i, nar_0, nar_1, nar_b, fit_i, fit_l, pk_rem, nI_leI, nI_ltI, nI_eq, vin_iff, nI_clamp, nI_m1, a4, a6]
    refine ⟨fun e => ?_, fun e => ⟨by omega, ?_⟩⟩
    · unfold pushM at hQ
      rw [if_pos e] at hQ
      exact hQ σ w A (by decide) (by decide) a1 ⟨b1, b2, b3⟩
    · unfold pushM at hQ
      rw [if_neg e] at hQ
      refine ⟨_, _, _, _, _, T, len, i + 1, rfl, ?_, a1.2.1, ?_, a1.2.2.2.1, ?_, fun σ' w' hk ht => hQ _ _ _ (RD.nxt (RD.chg (d' := 1) (P' := p :: P) (wh' := false) (o' := o + 1) hr ?_ ?_ ?_ ?_ ?_ ?_ ?_ ?_ ?_) hi hk ht)⟩
      · simp only [supa, Nat.reduceEqDiff, reduceIte]; exact a1.1
      · simp only [supa, Nat.reduceEqDiff, reduceIte]; exact a1.2.2.1
      · simp only [supa, Nat.reduceEqDiff, reduceIte]; exact a1.at
      · intro j q1 q2 q3; simp only [supa, if_neg q1, if_neg q2]
      · intro j q; simp only [supa, if_neg q]
      · simp only [supa, Nat.reduceEqDiff, reduceIte]; exact a3
      · simp only [supa, Nat.reduceEqDiff, reduceIte, List.length_cons]
      · simp only [supa, Nat.reduceEqDiff, reduceIte]
        refine ⟨?_, hp, pile_upd (Nat.le_refl _) a5⟩
        simp [upd]
      · simp only [supa, Nat.reduceEqDiff, reduceIte]
      · simp only [cntO]; split <;> omega
      · omega
      · simp only [List.length_cons]; omega
  · exact h.elim
