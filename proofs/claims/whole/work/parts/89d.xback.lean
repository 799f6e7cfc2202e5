/-! the class: undo, image, back -/
section UB
variable {X lo bn bz NI N n n' z f k ch : Nat} {σ σ' : Nat → Nat → Int32} {ρ : Nat → Value} {A A' : Nat → Nat → Int32} {P P' : Nat → Nat → Option Nat} {T T' : Nat → Option Nat} {S S' : Nat → Sqd} {C C' : gC} {a a' b : Nat → Int32} {t : tpT} {tx : Nat → List rCl}
theorem CZ.c (hZ : CZ lo b NI t tx N σ A P T S C n) (e : ∀ i, 16 ≤ i → i ≤ 30 → σ' i = σ i ∧ A' i = A i ∧ P' i = P i) (eT : ∀ i, 30 ≤ i → i < 60 → T' i = T i ∧ S' i = S i) (e0 : σ' 0 = σ 0) (e55 : A' 55 = A 55) (hJ : JB σ') (e31 : P' 31 = P 31) (eG : ∀ q, TG T lo n q → TG T' lo n' q ∧ C' q = C q) : CZ lo b NI t tx N σ' A' P' T' S' C' n' := by
  obtain ⟨⟨ch, f, k, h1, h2⟩, h3, h4, h5, h6, h7⟩ := hZ
  refine ⟨⟨ch, f, k, h1, h2.kp (fun i hi => e _ (by omega) (by omega)) fun i hi => eT _ (by omega) (by omega)⟩, h3, h4.k e31 eG, h5, hJ, ?_⟩
  unfold TP
  rw [e0, e55]
  exact h7
theorem agX.un {d : Sqd} {f' k' : Nat} (h : agX X σ ρ A P C) (hst : stAt C' (X + 7) f' k' (P 8)) (hsq : sqAt C' (X + 2) d) (hfr : ∀ q, q < X + 56 → q ≠ X + 7 → q ≠ X + 8 → (q < X + 2 ∨ X + 6 < q) → C' q = C q) : agX X (sup (s2 (s2 σ 7 1 (nI f')) 7 2 (nI k')) 2 d.1) ρ (supq A 2 d.2) P C' := by
  intro i hi
  by_cases h7 : i = 7
  · subst h7
    refine hst.1.trans ?_
    show _ = some (Sum.inr (7, [Value.ref (X + 8), .int (s2 (s2 σ 7 1 (nI f')) 7 2 (nI k') 7 1), .int (s2 (s2 σ 7 1 (nI f')) 7 2 (nI k') 7 2)]))
    rw [s2_eq, s2_ne rfl, s2_eq]
  · by_cases h8 : i = 8
    · subst h8
      exact hst.2
    · by_cases h26 : i < 2 ∨ 6 < i
      · rw [hfr _ (by omega) (by omega) (by omega) (by omega), h i hi]
        exact (xcl_o ((xfs_sup (by omega)).trans ((xfs_ne h7).trans (xfs_ne h7))) (if_neg (by omega)) rfl).symm
      · have : i = 2 ∨ i = 3 ∨ i = 4 ∨ i = 5 ∨ i = 6 := by omega
        rcases this with rfl | rfl | rfl | rfl | rfl
        · exact hsq.1
        · exact hsq.2.1
        · exact hsq.2.2.1
        · exact hsq.2.2.2.1
        · exact hsq.2.2.2.2
theorem unF_lo {s c0 : Nat} (hc : a (145 + 101 * s) = nI c0) (h0 : a 0 = nI ch) (hcc : c0 ≤ ch) (hch : ch ≤ 7) (hs : s < 30) : (∀ j, 6 ≤ j → j < 76 → (j < 69 + c0 ∨ 69 + ch ≤ j) → unF a s j = rowS a s j) ∧ (∀ j, 69 + c0 ≤ j → j < 69 + ch → unF a s j = -nI 1) ∧ (∀ j, j < 30 → unF a s (3175 + j) = rowS a s (3175 + j)) ∧ (∀ j, j ≠ 3 → j < 6 ∨ (76 ≤ j ∧ j < 3175) → unF a s j = a j) ∧ unF a s 3 = nI s := by
  have e1 : (a (145 + 101 * s)).toNatClampNeg = c0 := by rw [hc, nI_clamp (by omega)]
  have e2 : (a 0).toNatClampNeg = ch := by rw [h0, nI_clamp (by omega)]
  unfold unF
  rw [e1, e2]
  refine ⟨fun j g1 g2 g3 => ?_, fun j g1 g2 => ?_, fun j hj => ?_, fun j g1 g2 => ?_, ?_⟩
  · unfold unC unB unA
    rw [if_neg (by omega), if_neg (by omega), if_pos (by omega), pk_un (by omega), rowS_lo g1 g2]
  · unfold unC unB
    rw [if_neg (by omega), if_pos (by omega)]
  · unfold unC
    rw [if_pos (by omega), pk_un (by omega), rowS_hi hj, Nat.add_sub_cancel_left]
  · unfold unC unB unA
    rw [if_neg (by omega), if_neg (by omega), if_neg (by omega), pk_un g1]
  · unfold unC unB unA
    rw [if_neg (by omega), if_neg (by omega), if_neg (by omega), pk_us]
theorem SG.un {s : Nat} (h : SG a N ch) (h3 : a 3 = nI (s + 1)) (hs : s < 30) : SG (unF a s) N ch ∧ ∃ c0, c0 ≤ ch ∧ a (145 + 101 * s) = nI c0 := by
  obtain ⟨h1, h2, hD, h0, hch, hV, ⟨q, hT⟩, ⟨q2, hS, hs2⟩, k', hk', h3', hr⟩ := h
  have hk : k' = s + 1 := (nI_eq (by omega) (by omega)).mp (h3'.symm.trans h3)
  subst hk
  obtain ⟨⟨r6, r7, r8, rk, rp, rn⟩, c0, hc0, hcc⟩ := hr s (by omega)
  obtain ⟨u1, u2, u3, u4, u5⟩ := unF_lo (a := a) hcc h0 hc0 hch hs
  have hq2 := hS.2.1
  refine ⟨⟨by rw [u4 1 (by decide) (by omega)]; exact h1, ⟨h2.1, fun c hc => ?_⟩, ?_, by rw [u4 0 (by decide) (by omega)]; exact h0, hch, hV.o fun j g1 g2 => u4 j (by omega) (by omega), ⟨q, hT.o (u4 4 (by decide) (by omega)) fun j g1 g2 => u4 j (by omega) (by omega)⟩, ⟨q2, hS.o (u4 5 (by decide) (by omega)) fun j g1 g2 => u4 j (by omega) (by omega), fun i hi => by rw [sd0_o (u4 _ (by omega) (by omega))]; exact hs2 i hi⟩, s, by omega, u5, fun i hi => ?_⟩, c0, hc0, hcc⟩
  · by_cases q1 : c < c0 ∨ ch ≤ c
    · rw [u1 _ (by omega) (by omega) (by omega)]
      exact rn c hc
    · exact .inl (u2 _ (by omega) (by omega))
  · refine hD.up (u4 0 (by decide) (by omega)) (u4 2 (by decide) (by omega)) ?_ ?_ ?_ (fun j hj => ?_) (fun j hj => ?_) (fun j g1 g2 => u4 j (by omega) (by omega))
    · rw [u1 6 (by decide) (by decide) (by omega)]; exact r6
    · rw [u1 7 (by decide) (by decide) (by omega)]; exact r7
    · rw [u1 8 (by decide) (by decide) (by omega)]; exact r8
    · rw [u1 _ (by omega) (by omega) (by omega)]; exact rk j hj
    · rw [u1 _ (by omega) (by omega) (by omega)]; exact rp j hj
  · rw [rowS_sq (by omega) fun j g1 g2 => u4 j (by omega) (by omega), u4 _ (by omega) (by omega)]
    exact hr i (by omega)
theorem SqD.un {d : Sqd} {s c0 : Nat} (h : SqD d c0 (rowS a s)) (hc : a (145 + 101 * s) = nI c0) (h0 : a 0 = nI ch) (hcc : c0 ≤ ch) (hch : ch ≤ 7) (hs : s < 30) : SqD d ch (unF a s) := by
  obtain ⟨u1, u2, u3, u4, u5⟩ := unF_lo (a := a) hc h0 hcc hch hs
  obtain ⟨⟨h1, h2, h3⟩, h4, h5, b, h6, h7, h8, h9⟩ := h
  refine ⟨⟨by rw [u1 6 (by decide) (by decide) (by omega)]; exact h1, fun i hi => by rw [u1 _ (by omega) (by omega) (by omega)]; exact h2 i hi, fun i hi => by rw [u1 _ (by omega) (by omega) (by omega)]; exact h3 i hi⟩, by rw [u1 7 (by decide) (by decide) (by omega)]; exact h4, fun c hc' => ?_, b, h6, h7, by rw [u1 8 (by decide) (by decide) (by omega)]; exact h8, fun i hi k hk => by rw [u3 i (by omega)]; exact h9 i hi k hk⟩
  rw [h5 c hc']
  by_cases q1 : c < c0
  · rw [if_pos q1, if_pos (by omega), u1 _ (by omega) (by omega) (by omega)]
  · rw [if_neg q1]
    by_cases q2 : c < ch
    · rw [if_pos q2, u2 _ (by omega) (by omega)]
    · rw [if_neg q2]
theorem SG.cg (h : SG a N ch) (e : ∀ j, j < 3205 → a' j = a j) : SG a' N ch := by
  obtain ⟨h1, h2, h3, h4, h5, h6⟩ := h
  exact ⟨(e 1 (by decide)).trans h1, ⟨h2.1, h2.2.o fun j g1 g2 => e j (by omega)⟩, h3.of fun j q1 q2 => e j (by omega), (e 0 (by decide)).trans h4, h5, h6.o fun j hj => e j (by omega)⟩
theorem StW.cg {j o : Nat} (h : StW j o σ A P T S f k ch a N) (hc : ch ≤ 7) (e : ∀ j, j < 3205 → a' j = a j) : StW j o σ A P T S f k ch a' N := by
  obtain ⟨w1, w2, w3, w4, w5, w6, w7, w8⟩ := h
  unfold StW
  rw [e 2 (by decide), e 4 (by decide), e 5 (by decide)]
  refine ⟨w1, fun c hc => ?_, fun i hi => ?_, SqR_D.mpr ((SqR_D.mp w4).a hc (fun j g1 g2 => e j (by omega)) fun j hj => e _ (by omega)), ⟨w5.1, w5.2.1, fun i hi => ?_⟩, ⟨w6.1, w6.2.1, fun i hi => ?_⟩, w7, w8.ao (e 3 (by decide)) fun j g1 g2 => e j (by omega)⟩
  · rw [e _ (by omega), e _ (by omega)]; exact w2 c hc
  · rw [e _ (by omega)]; exact w3 i hi
  · rw [e _ (by omega)]; exact w5.2.2 i hi
  · rw [e _ (by omega)]; exact w6.2.2 i hi
end UB
def sp_X11_undo : gSp := fun as C n z Q => match as with
  | [.ref r] => ∃ X : Nat, ∃ g a s, X = r ∧ CW X g a C n z ∧ a 3 = nI s ∧ s ≤ 30 ∧ (s = 0 → Q (some (.int (-nI 1))) C n z) ∧ (∀ s', s = s' + 1 → ∀ C', CW X g (unF a s') C' n z → FR X g.1.1 C C' → Q (some (.int (nI s'))) C' n z)
  | _ => False
set_option maxRecDepth 100000 in
set_option maxHeartbeats 4000000 in
theorem c_X11_undo (l : Launch) : Con l yX11_undo cX11_undo 1 (some .int) 4 5 194 sp_X11_undo := by
  refine m_X11_undo (c_X7_takeBack l) (by decide) ?_
  intro as C0 n0 z0 Q h
  unfold sp_X11_undo at h
  split at h
  · rename_i r
    obtain ⟨X, ⟨⟨lo, bn, bz⟩, ⟨b, NI⟩, t, tx, N⟩, a, s, rfl, hCW, h3, hs, hQ1, hQ2⟩ := h
    obtain ⟨σ, ρ, A, P, T, S, hX, ⟨ch, f, k, hG, hW⟩, hZ⟩ := id hCW
    obtain ⟨w1, w2, w3, w4, w5, w6, w7, w8⟩ := id hW
    have hcc : k = s := ch_eq w8.1 h3 (Nat.le_trans w8.2.1 (by decide)) (by omega)
    subst hcc
    have hE := hX.E
    have hlo : X + 71 ≤ lo := hX.2.2.1
    refine ⟨Nat.le_of_ble_eq_true rfl, ?_⟩
    rw [hE]
    simp only [b_X11_undo_0, s_psh, s_ild, s_lld, s_ald, s_ist, s_lst, s_ast, s_inc, s_ib, s_ibz, s_iu, s_lb, s_lbz, s_lu, s_ls, s_il, s_li, s_cmp, s_dup, s_pop, s_dup2, s_cv, s_cs, s_ci, s_oi, s_get, s_put, s_iald, s_lald, s_zald, s_iast, s_last, s_zast, s_alen, s_iret, s_lret, s_aret, s_vret, s_al, gpad, gl, gst, gclr, gc2, gent, gcat, Value.category, List.drop_succ_cons, List.drop_zero, List.take_succ_cons, List.take_zero, List.reverse_cons, List.reverse_nil, List.nil_append, List.cons_append, List.append_nil, List.map_cons, List.map_nil, List.sum_cons, List.sum_nil, List.length_cons, List.length_nil, Option.toList, cond_true, cond_false, Nat.reduceBEq, Nat.reduceAdd, Nat.reduceLeDiff, beq_self_eq_true, true_and, and_true, BEq.rfl, Bool.false_eq_true, if_true, if_false, x_0, xf_0_0, xf_0_1, xf_0_2, xf_0_3, xf_0_4, xf_0_5, xf_0_6, xf_0_7, xf_0_8, xf_0_9, xf_0_10, xs_0_10, xf_0_11, xs_0_11, xf_0_12, xs_0_12, x_1, xf_1_0, xf_1_1, xf_1_2, xf_1_3, xf_1_4, xf_1_5, xf_1_6, xf_1_7, xs_1_7, xf_1_8, xs_1_8, xf_1_9, xs_1_9, x_2, xf_2_0, xf_2_1, xf_2_2, xf_2_3, xf_2_4, xs_2_4, xf_2_5, xs_2_5, xf_2_6, xs_2_6, x_3, xu_3, x_4, xu_4, x_5, xu_5, x_6, xu_6, x_7, xf_7_0, xf_7_1, xs_7_1, xf_7_2, xs_7_2, x_8, xu_8, x_9, xf_9_0, xf_9_1, xs_9_1, xf_9_2, xs_9_2, x_10, xu_10, x_11, xf_11_0, xf_11_1, xs_11_1, xf_11_2, xs_11_2, x_12, xu_12, x_13, xu_13, x_14, xu_14, x_15, xu_15, x_16, xf_16_0, xf_16_1, xf_16_2, xf_16_3, xf_16_4, xf_16_5, xf_16_6, xf_16_7, xs_16_7, xf_16_8, xs_16_8, xf_16_9, xs_16_9, x_17, xf_17_0, xf_17_1, xf_17_2, xf_17_3, xf_17_4, xs_17_4, xf_17_5, xs_17_5, xf_17_6, xs_17_6, x_18, xu_18, x_19, xu_19, x_20, xu_20, x_21, xu_21, x_22, xf_22_0, xf_22_1, xs_22_1, xf_22_2, xs_22_2, x_23, xu_23, x_24, xf_24_0, xf_24_1, xs_24_1, xf_24_2, xs_24_2, x_25, xu_25, x_26, xf_26_0, xf_26_1, xs_26_1, xf_26_2, xs_26_2, x_27, xu_27, x_28, xu_28, x_29, xu_29, x_30, xu_30, x_31, xu_31, x_32, xf_32_0, xf_32_1, xf_32_2, xf_32_3, xs_32_3, xf_32_4, xs_32_4, xf_32_5, xs_32_5, xf_32_6, xs_32_6, xf_32_7, xs_32_7, xf_32_8, xs_32_8, x_33, xu_33, x_34, xf_34_0, xf_34_1, x_35, xf_35_0, xf_35_1, xf_35_2, xf_35_3, xs_35_3, x_36, xu_36, x_37, xf_37_0, xf_37_1, xf_37_2, xf_37_3, xf_37_4, xs_37_4, xf_37_5, xs_37_5, xf_37_6, xs_37_6, x_38, xu_38, x_39, xu_39, x_40, xu_40, x_41, xu_41, x_42, xf_42_0, xf_42_1, xf_42_2, xf_42_3, xs_42_3, xf_42_4, xs_42_4, xf_42_5, xs_42_5, xf_42_6, xs_42_6, xf_42_7, xs_42_7, xf_42_8, xs_42_8, xf_42_9, xs_42_9, xf_42_10, xs_42_10, x_43, xf_43_0, xf_43_1, xf_43_2, xf_43_3, xs_43_3, xf_43_4, xs_43_4, xf_43_5, xs_43_5, xf_43_6, xs_43_6, xf_43_7, xs_43_7, xf_43_8, xs_43_8, xf_43_9, xs_43_9, xf_43_10, xs_43_10, x_44, xu_44, x_45, xu_45, x_46, xu_46, x_47, xu_47, x_48, xu_48, x_49, xu_49, x_50, xf_50_0, xf_50_1, xf_50_2, xf_50_3, xf_50_4, xs_50_4, xf_50_5, xs_50_5, xf_50_6, xs_50_6, x_51, xu_51, x_52, xu_52, x_53, xu_53, x_54, xu_54, x_55, xu_55]
    rw [← hE]
    refine ⟨⟨Nat.le_refl _, Nat.le_refl _⟩, P 8, T, S, 0, lo, f, k, (σ 2, fun k => A (2 + k)), hX.st w7.1 w7.2.1, fun j hj => by rw [Nat.zero_add]; exact w7.2.2 j hj, by decide, w8.2.2.1, w8.2.1, hX.2.1, (show X + 7 + 1 < lo by omega), hX.2.2.2.1, hX.sq, (show X + 2 + 5 ≤ lo by omega), .inl (show X + 2 + 4 < X + 7 by omega), fun i hi => ?_, fun h0 => ?_, fun h0 C' d' hst hsq heq hfr => ?_⟩
    · obtain ⟨q1, c, hc, q2, q3⟩ := w8.2.2.2 i hi
      obtain ⟨-, -, -, b, hb, hb4, -⟩ := q3
      exact ⟨q1, b, hb, hb4⟩
    · try simp only [s_psh, s_ild, s_lld, s_ald, s_ist, s_lst, s_ast, s_inc, s_ib, s_ibz, s_iu, s_lb, s_lbz, s_lu, s_ls, s_il, s_li, s_cmp, s_dup, s_pop, s_dup2, s_cv, s_cs, s_ci, s_oi, s_get, s_put, s_iald, s_lald, s_zald, s_iast, s_last, s_zast, s_alen, s_iret, s_lret, s_aret, s_vret, s_al, gpad, gl, gst, gclr, gc2, gent, gcat, Value.category, List.drop_succ_cons, List.drop_zero, List.take_succ_cons, List.take_zero, List.reverse_cons, List.reverse_nil, List.nil_append, List.cons_append, List.append_nil, List.map_cons, List.map_nil, List.sum_cons, List.sum_nil, List.length_cons, List.length_nil, Option.toList, cond_true, cond_false, Nat.reduceBEq, Nat.reduceAdd, Nat.reduceLeDiff, beq_self_eq_true, true_and, and_true, BEq.rfl, Bool.false_eq_true, if_true, if_false, x_0, xf_0_0, xf_0_1, xf_0_2, xf_0_3, xf_0_4, xf_0_5, xf_0_6, xf_0_7, xf_0_8, xf_0_9, xf_0_10, xs_0_10, xf_0_11, xs_0_11, xf_0_12, xs_0_12, x_1, xf_1_0, xf_1_1, xf_1_2, xf_1_3, xf_1_4, xf_1_5, xf_1_6, xf_1_7, xs_1_7, xf_1_8, xs_1_8, xf_1_9, xs_1_9, x_2, xf_2_0, xf_2_1, xf_2_2, xf_2_3, xf_2_4, xs_2_4, xf_2_5, xs_2_5, xf_2_6, xs_2_6, x_3, xu_3, x_4, xu_4, x_5, xu_5, x_6, xu_6, x_7, xf_7_0, xf_7_1, xs_7_1, xf_7_2, xs_7_2, x_8, xu_8, x_9, xf_9_0, xf_9_1, xs_9_1, xf_9_2, xs_9_2, x_10, xu_10, x_11, xf_11_0, xf_11_1, xs_11_1, xf_11_2, xs_11_2, x_12, xu_12, x_13, xu_13, x_14, xu_14, x_15, xu_15, x_16, xf_16_0, xf_16_1, xf_16_2, xf_16_3, xf_16_4, xf_16_5, xf_16_6, xf_16_7, xs_16_7, xf_16_8, xs_16_8, xf_16_9, xs_16_9, x_17, xf_17_0, xf_17_1, xf_17_2, xf_17_3, xf_17_4, xs_17_4, xf_17_5, xs_17_5, xf_17_6, xs_17_6, x_18, xu_18, x_19, xu_19, x_20, xu_20, x_21, xu_21, x_22, xf_22_0, xf_22_1, xs_22_1, xf_22_2, xs_22_2, x_23, xu_23, x_24, xf_24_0, xf_24_1, xs_24_1, xf_24_2, xs_24_2, x_25, xu_25, x_26, xf_26_0, xf_26_1, xs_26_1, xf_26_2, xs_26_2, x_27, xu_27, x_28, xu_28, x_29, xu_29, x_30, xu_30, x_31, xu_31, x_32, xf_32_0, xf_32_1, xf_32_2, xf_32_3, xs_32_3, xf_32_4, xs_32_4, xf_32_5, xs_32_5, xf_32_6, xs_32_6, xf_32_7, xs_32_7, xf_32_8, xs_32_8, x_33, xu_33, x_34, xf_34_0, xf_34_1, x_35, xf_35_0, xf_35_1, xf_35_2, xf_35_3, xs_35_3, x_36, xu_36, x_37, xf_37_0, xf_37_1, xf_37_2, xf_37_3, xf_37_4, xs_37_4, xf_37_5, xs_37_5, xf_37_6, xs_37_6, x_38, xu_38, x_39, xu_39, x_40, xu_40, x_41, xu_41, x_42, xf_42_0, xf_42_1, xf_42_2, xf_42_3, xs_42_3, xf_42_4, xs_42_4, xf_42_5, xs_42_5, xf_42_6, xs_42_6, xf_42_7, xs_42_7, xf_42_8, xs_42_8, xf_42_9, xs_42_9, xf_42_10, xs_42_10, x_43, xf_43_0, xf_43_1, xf_43_2, xf_43_3, xs_43_3, xf_43_4, xs_43_4, xf_43_5, xs_43_5, xf_43_6, xs_43_6, xf_43_7, xs_43_7, xf_43_8, xs_43_8, xf_43_9, xs_43_9, xf_43_10, xs_43_10, x_44, xu_44, x_45, xu_45, x_46, xu_46, x_47, xu_47, x_48, xu_48, x_49, xu_49, x_50, xf_50_0, xf_50_1, xf_50_2, xf_50_3, xf_50_4, xs_50_4, xf_50_5, xs_50_5, xf_50_6, xs_50_6, x_51, xu_51, x_52, xu_52, x_53, xu_53, x_54, xu_54, x_55, xu_55]
      try simp only [lit]
      refine if1i (fun _ => ?_) (fun q => absurd rfl q)
      simp only [b_X11_undo_34, s_psh, s_ild, s_lld, s_ald, s_ist, s_lst, s_ast, s_inc, s_ib, s_ibz, s_iu, s_lb, s_lbz, s_lu, s_ls, s_il, s_li, s_cmp, s_dup, s_pop, s_dup2, s_cv, s_cs, s_ci, s_oi, s_get, s_put, s_iald, s_lald, s_zald, s_iast, s_last, s_zast, s_alen, s_iret, s_lret, s_aret, s_vret, s_al, gpad, gl, gst, gclr, gc2, gent, gcat, Value.category, List.drop_succ_cons, List.drop_zero, List.take_succ_cons, List.take_zero, List.reverse_cons, List.reverse_nil, List.nil_append, List.cons_append, List.append_nil, List.map_cons, List.map_nil, List.sum_cons, List.sum_nil, List.length_cons, List.length_nil, Option.toList, cond_true, cond_false, Nat.reduceBEq, Nat.reduceAdd, Nat.reduceLeDiff, beq_self_eq_true, true_and, and_true, BEq.rfl, Bool.false_eq_true, if_true, if_false, x_0, xf_0_0, xf_0_1, xf_0_2, xf_0_3, xf_0_4, xf_0_5, xf_0_6, xf_0_7, xf_0_8, xf_0_9, xf_0_10, xs_0_10, xf_0_11, xs_0_11, xf_0_12, xs_0_12, x_1, xf_1_0, xf_1_1, xf_1_2, xf_1_3, xf_1_4, xf_1_5, xf_1_6, xf_1_7, xs_1_7, xf_1_8, xs_1_8, xf_1_9, xs_1_9, x_2, xf_2_0, xf_2_1, xf_2_2, xf_2_3, xf_2_4, xs_2_4, xf_2_5, xs_2_5, xf_2_6, xs_2_6, x_3, xu_3, x_4, xu_4, x_5, xu_5, x_6, xu_6, x_7, xf_7_0, xf_7_1, xs_7_1, xf_7_2, xs_7_2, x_8, xu_8, x_9, xf_9_0, xf_9_1, xs_9_1, xf_9_2, xs_9_2, x_10, xu_10, x_11, xf_11_0, xf_11_1, xs_11_1, xf_11_2, xs_11_2, x_12, xu_12, x_13, xu_13, x_14, xu_14, x_15, xu_15, x_16, xf_16_0, xf_16_1, xf_16_2, xf_16_3, xf_16_4, xf_16_5, xf_16_6, xf_16_7, xs_16_7, xf_16_8, xs_16_8, xf_16_9, xs_16_9, x_17, xf_17_0, xf_17_1, xf_17_2, xf_17_3, xf_17_4, xs_17_4, xf_17_5, xs_17_5, xf_17_6, xs_17_6, x_18, xu_18, x_19, xu_19, x_20, xu_20, x_21, xu_21, x_22, xf_22_0, xf_22_1, xs_22_1, xf_22_2, xs_22_2, x_23, xu_23, x_24, xf_24_0, xf_24_1, xs_24_1, xf_24_2, xs_24_2, x_25, xu_25, x_26, xf_26_0, xf_26_1, xs_26_1, xf_26_2, xs_26_2, x_27, xu_27, x_28, xu_28, x_29, xu_29, x_30, xu_30, x_31, xu_31, x_32, xf_32_0, xf_32_1, xf_32_2, xf_32_3, xs_32_3, xf_32_4, xs_32_4, xf_32_5, xs_32_5, xf_32_6, xs_32_6, xf_32_7, xs_32_7, xf_32_8, xs_32_8, x_33, xu_33, x_34, xf_34_0, xf_34_1, x_35, xf_35_0, xf_35_1, xf_35_2, xf_35_3, xs_35_3, x_36, xu_36, x_37, xf_37_0, xf_37_1, xf_37_2, xf_37_3, xf_37_4, xs_37_4, xf_37_5, xs_37_5, xf_37_6, xs_37_6, x_38, xu_38, x_39, xu_39, x_40, xu_40, x_41, xu_41, x_42, xf_42_0, xf_42_1, xf_42_2, xf_42_3, xs_42_3, xf_42_4, xs_42_4, xf_42_5, xs_42_5, xf_42_6, xs_42_6, xf_42_7, xs_42_7, xf_42_8, xs_42_8, xf_42_9, xs_42_9, xf_42_10, xs_42_10, x_43, xf_43_0, xf_43_1, xf_43_2, xf_43_3, xs_43_3, xf_43_4, xs_43_4, xf_43_5, xs_43_5, xf_43_6, xs_43_6, xf_43_7, xs_43_7, xf_43_8, xs_43_8, xf_43_9, xs_43_9, xf_43_10, xs_43_10, x_44, xu_44, x_45, xu_45, x_46, xu_46, x_47, xu_47, x_48, xu_48, x_49, xu_49, x_50, xf_50_0, xf_50_1, xf_50_2, xf_50_3, xf_50_4, xs_50_4, xf_50_5, xs_50_5, xf_50_6, xs_50_6, x_51, xu_51, x_52, xu_52, x_53, xu_53, x_54, xu_54, x_55, xu_55]
      try simp only [true_and, and_true, lit, nI_add, nar_i, nar_0, nar_1, nar_b, fit_i, fit_l, pk_rem, nI_leI, nI_ltI, nI_eq, vin_iff, nI_clamp, nI_m1]
      exact hQ1 h0
    · obtain ⟨s', rfl⟩ : ∃ s', k = s' + 1 := ⟨k - 1, by omega⟩
      rw [Nat.add_sub_cancel] at hst heq
      have hfr' : ∀ q, q ≠ X + 7 → q ≠ X + 8 → (q < X + 2 ∨ X + 6 < q) → C' q = C0 q := fun q g1 g2 g3 => hfr q g1 g2 (show q < X + 2 ∨ X + 2 + 4 < q by omega)
      obtain ⟨hGu, c0, hc0, hcc⟩ := hG.un h3 (by omega)
      obtain ⟨q1, c, hc, q2, q3⟩ := w8.2.2.2 s' (by omega)
      have : c = c0 := (nI_eq (by have := hG.2.2.2.2.1; omega) (by have := hG.2.2.2.2.1; omega)).mp (q2.symm.trans hcc)
      subst this
      obtain ⟨u1, u2, u3, u4, u5⟩ := unF_lo (a := a) hcc hG.2.2.2.1 hc0 hG.2.2.2.2.1 (by omega)
      have hd := (q3.eq heq).un hcc hG.2.2.2.1 hc0 hG.2.2.2.2.1 (by omega)
      have hag := agX.un hX.1 hst hsq fun q g1 g2 g3 g4 => hfr' q g2 g3 g4
      have rσ : ∀ i, i ≠ 2 → i ≠ 7 → sup (s2 (s2 σ 7 1 (nI f)) 7 2 (nI s')) 2 d'.1 i = σ i := fun i g1 g2 => by rw [sup_ne g1, s2_row g2, s2_row g2]
      have rA : ∀ i, i ≤ 2 ∨ 6 < i → supq A 2 d'.2 i = A i := fun i hi => if_neg (by omega)
      have hX' : CX X lo bn bz (sup (s2 (s2 σ 7 1 (nI f)) 7 2 (nI s')) 2 d'.1) ρ (supq A 2 d'.2) P T S C' n0 z0 := ⟨hag, RwS_same hX.2.1 fun q g1 g2 => hfr' q (by omega) (by omega) (by omega), hX.2.2⟩
      have hC' : CW X ((lo, bn, bz), (b, NI), t, tx, N) (unF a s') C' n0 z0 := by
        refine ⟨_, ρ, _, P, T, S, hX', ⟨ch, f, s', hGu, ?_⟩, hZ.c (fun i g1 g2 => ⟨rσ i (by omega) (by omega), rA i (by omega), rfl⟩) (fun i g1 g2 => ⟨rfl, rfl⟩) (rσ 0 (by decide) (by decide)) (rA 55 (by omega)) (fun i g1 g2 => by rw [rσ 32 (by decide) (by decide)]; exact hZ.2.2.2.2.1 i g1 g2) rfl fun q hq => ⟨hq, ?_⟩⟩
        · show StN (sup (s2 (s2 σ 7 1 (nI f)) 7 2 (nI s')) 2 d'.1) (supq A 2 d'.2) P T S f s' ch (unF a s') N
          unfold StN
          rw [rσ 1 (by decide) (by decide), rσ 9 (by decide) (by decide), rσ 11 (by decide) (by decide), rA 14 (by omega), rA 15 (by omega), rA 13 (by omega), rA 10 (by omega), rA 12 (by omega), u4 2 (by decide) (by omega), u4 4 (by decide) (by omega), u4 5 (by decide) (by omega)]
          refine ⟨w1, fun c hc => ?_, fun i hi => ?_, ?_, ⟨w5.1, w5.2.1, fun i hi => ?_⟩, ⟨w6.1, w6.2.1, fun i hi => ?_⟩, ⟨?_, ?_, w7.2.2⟩, ⟨u5, by omega, w8.2.2.1, fun i hi => ?_⟩⟩
          · rw [u4 _ (by omega) (by omega), u4 _ (by omega) (by omega)]; exact w2 c hc
          · rw [u4 _ (by omega) (by omega)]; exact w3 i hi
          · exact SqR_D.mpr hd
          · rw [u4 _ (by omega) (by omega)]; exact w5.2.2 i hi
          · rw [u4 _ (by omega) (by omega)]; exact w6.2.2 i hi
          · rw [sup_ne (by decide), s2_ne rfl, s2_eq]
          · rw [sup_ne (by decide), s2_eq]
          · rw [rowS_sq (by omega) fun j g1 g2 => u4 j (by omega) (by omega), u4 _ (by omega) (by omega)]
            exact w8.2.2.2 i (by omega)
        · have : lo ≤ q := hq.1
          exact hfr' q (by omega) (by omega) (by omega)
      have hE' := hX'.E
      have e72 : sup (s2 (s2 σ 7 1 (nI f)) 7 2 (nI s')) 2 d'.1 7 2 = nI s' := by rw [sup_ne (by decide), s2_eq]
      have hq := hQ2 s' rfl C' hC' fun q hq => hfr' q (by omega) (by omega) (by omega)
      try simp only [s_psh, s_ild, s_lld, s_ald, s_ist, s_lst, s_ast, s_inc, s_ib, s_ibz, s_iu, s_lb, s_lbz, s_lu, s_ls, s_il, s_li, s_cmp, s_dup, s_pop, s_dup2, s_cv, s_cs, s_ci, s_oi, s_get, s_put, s_iald, s_lald, s_zald, s_iast, s_last, s_zast, s_alen, s_iret, s_lret, s_aret, s_vret, s_al, gpad, gl, gst, gclr, gc2, gent, gcat, Value.category, List.drop_succ_cons, List.drop_zero, List.take_succ_cons, List.take_zero, List.reverse_cons, List.reverse_nil, List.nil_append, List.cons_append, List.append_nil, List.map_cons, List.map_nil, List.sum_cons, List.sum_nil, List.length_cons, List.length_nil, Option.toList, cond_true, cond_false, Nat.reduceBEq, Nat.reduceAdd, Nat.reduceLeDiff, beq_self_eq_true, true_and, and_true, BEq.rfl, Bool.false_eq_true, if_true, if_false, x_0, xf_0_0, xf_0_1, xf_0_2, xf_0_3, xf_0_4, xf_0_5, xf_0_6, xf_0_7, xf_0_8, xf_0_9, xf_0_10, xs_0_10, xf_0_11, xs_0_11, xf_0_12, xs_0_12, x_1, xf_1_0, xf_1_1, xf_1_2, xf_1_3, xf_1_4, xf_1_5, xf_1_6, xf_1_7, xs_1_7, xf_1_8, xs_1_8, xf_1_9, xs_1_9, x_2, xf_2_0, xf_2_1, xf_2_2, xf_2_3, xf_2_4, xs_2_4, xf_2_5, xs_2_5, xf_2_6, xs_2_6, x_3, xu_3, x_4, xu_4, x_5, xu_5, x_6, xu_6, x_7, xf_7_0, xf_7_1, xs_7_1, xf_7_2, xs_7_2, x_8, xu_8, x_9, xf_9_0, xf_9_1, xs_9_1, xf_9_2, xs_9_2, x_10, xu_10, x_11, xf_11_0, xf_11_1, xs_11_1, xf_11_2, xs_11_2, x_12, xu_12, x_13, xu_13, x_14, xu_14, x_15, xu_15, x_16, xf_16_0, xf_16_1, xf_16_2, xf_16_3, xf_16_4, xf_16_5, xf_16_6, xf_16_7, xs_16_7, xf_16_8, xs_16_8, xf_16_9, xs_16_9, x_17, xf_17_0, xf_17_1, xf_17_2, xf_17_3, xf_17_4, xs_17_4, xf_17_5, xs_17_5, xf_17_6, xs_17_6, x_18, xu_18, x_19, xu_19, x_20, xu_20, x_21, xu_21, x_22, xf_22_0, xf_22_1, xs_22_1, xf_22_2, xs_22_2, x_23, xu_23, x_24, xf_24_0, xf_24_1, xs_24_1, xf_24_2, xs_24_2, x_25, xu_25, x_26, xf_26_0, xf_26_1, xs_26_1, xf_26_2, xs_26_2, x_27, xu_27, x_28, xu_28, x_29, xu_29, x_30, xu_30, x_31, xu_31, x_32, xf_32_0, xf_32_1, xf_32_2, xf_32_3, xs_32_3, xf_32_4, xs_32_4, xf_32_5, xs_32_5, xf_32_6, xs_32_6, xf_32_7, xs_32_7, xf_32_8, xs_32_8, x_33, xu_33, x_34, xf_34_0, xf_34_1, x_35, xf_35_0, xf_35_1, xf_35_2, xf_35_3, xs_35_3, x_36, xu_36, x_37, xf_37_0, xf_37_1, xf_37_2, xf_37_3, xf_37_4, xs_37_4, xf_37_5, xs_37_5, xf_37_6, xs_37_6, x_38, xu_38, x_39, xu_39, x_40, xu_40, x_41, xu_41, x_42, xf_42_0, xf_42_1, xf_42_2, xf_42_3, xs_42_3, xf_42_4, xs_42_4, xf_42_5, xs_42_5, xf_42_6, xs_42_6, xf_42_7, xs_42_7, xf_42_8, xs_42_8, xf_42_9, xs_42_9, xf_42_10, xs_42_10, x_43, xf_43_0, xf_43_1, xf_43_2, xf_43_3, xs_43_3, xf_43_4, xs_43_4, xf_43_5, xs_43_5, xf_43_6, xs_43_6, xf_43_7, xs_43_7, xf_43_8, xs_43_8, xf_43_9, xs_43_9, xf_43_10, xs_43_10, x_44, xu_44, x_45, xu_45, x_46, xu_46, x_47, xu_47, x_48, xu_48, x_49, xu_49, x_50, xf_50_0, xf_50_1, xf_50_2, xf_50_3, xf_50_4, xs_50_4, xf_50_5, xs_50_5, xf_50_6, xs_50_6, x_51, xu_51, x_52, xu_52, x_53, xu_53, x_54, xu_54, x_55, xu_55]
      try simp only [lit]
      refine if1i (fun q => absurd q (by decide)) (fun _ => ?_)
      rw [hE']
      simp only [b_X11_undo_34, e72, s_psh, s_ild, s_lld, s_ald, s_ist, s_lst, s_ast, s_inc, s_ib, s_ibz, s_iu, s_lb, s_lbz, s_lu, s_ls, s_il, s_li, s_cmp, s_dup, s_pop, s_dup2, s_cv, s_cs, s_ci, s_oi, s_get, s_put, s_iald, s_lald, s_zald, s_iast, s_last, s_zast, s_alen, s_iret, s_lret, s_aret, s_vret, s_al, gpad, gl, gst, gclr, gc2, gent, gcat, Value.category, List.drop_succ_cons, List.drop_zero, List.take_succ_cons, List.take_zero, List.reverse_cons, List.reverse_nil, List.nil_append, List.cons_append, List.append_nil, List.map_cons, List.map_nil, List.sum_cons, List.sum_nil, List.length_cons, List.length_nil, Option.toList, cond_true, cond_false, Nat.reduceBEq, Nat.reduceAdd, Nat.reduceLeDiff, beq_self_eq_true, true_and, and_true, BEq.rfl, Bool.false_eq_true, if_true, if_false, x_0, xf_0_0, xf_0_1, xf_0_2, xf_0_3, xf_0_4, xf_0_5, xf_0_6, xf_0_7, xf_0_8, xf_0_9, xf_0_10, xs_0_10, xf_0_11, xs_0_11, xf_0_12, xs_0_12, x_1, xf_1_0, xf_1_1, xf_1_2, xf_1_3, xf_1_4, xf_1_5, xf_1_6, xf_1_7, xs_1_7, xf_1_8, xs_1_8, xf_1_9, xs_1_9, x_2, xf_2_0, xf_2_1, xf_2_2, xf_2_3, xf_2_4, xs_2_4, xf_2_5, xs_2_5, xf_2_6, xs_2_6, x_3, xu_3, x_4, xu_4, x_5, xu_5, x_6, xu_6, x_7, xf_7_0, xf_7_1, xs_7_1, xf_7_2, xs_7_2, x_8, xu_8, x_9, xf_9_0, xf_9_1, xs_9_1, xf_9_2, xs_9_2, x_10, xu_10, x_11, xf_11_0, xf_11_1, xs_11_1, xf_11_2, xs_11_2, x_12, xu_12, x_13, xu_13, x_14, xu_14, x_15, xu_15, x_16, xf_16_0, xf_16_1, xf_16_2, xf_16_3, xf_16_4, xf_16_5, xf_16_6, xf_16_7, xs_16_7, xf_16_8, xs_16_8, xf_16_9, xs_16_9, x_17, xf_17_0, xf_17_1, xf_17_2, xf_17_3, xf_17_4, xs_17_4, xf_17_5, xs_17_5, xf_17_6, xs_17_6, x_18, xu_18, x_19, xu_19, x_20, xu_20, x_21, xu_21, x_22, xf_22_0, xf_22_1, xs_22_1, xf_22_2, xs_22_2, x_23, xu_23, x_24, xf_24_0, xf_24_1, xs_24_1, xf_24_2, xs_24_2, x_25, xu_25, x_26, xf_26_0, xf_26_1, xs_26_1, xf_26_2, xs_26_2, x_27, xu_27, x_28, xu_28, x_29, xu_29, x_30, xu_30, x_31, xu_31, x_32, xf_32_0, xf_32_1, xf_32_2, xf_32_3, xs_32_3, xf_32_4, xs_32_4, xf_32_5, xs_32_5, xf_32_6, xs_32_6, xf_32_7, xs_32_7, xf_32_8, xs_32_8, x_33, xu_33, x_34, xf_34_0, xf_34_1, x_35, xf_35_0, xf_35_1, xf_35_2, xf_35_3, xs_35_3, x_36, xu_36, x_37, xf_37_0, xf_37_1, xf_37_2, xf_37_3, xf_37_4, xs_37_4, xf_37_5, xs_37_5, xf_37_6, xs_37_6, x_38, xu_38, x_39, xu_39, x_40, xu_40, x_41, xu_41, x_42, xf_42_0, xf_42_1, xf_42_2, xf_42_3, xs_42_3, xf_42_4, xs_42_4, xf_42_5, xs_42_5, xf_42_6, xs_42_6, xf_42_7, xs_42_7, xf_42_8, xs_42_8, xf_42_9, xs_42_9, xf_42_10, xs_42_10, x_43, xf_43_0, xf_43_1, xf_43_2, xf_43_3, xs_43_3, xf_43_4, xs_43_4, xf_43_5, xs_43_5, xf_43_6, xs_43_6, xf_43_7, xs_43_7, xf_43_8, xs_43_8, xf_43_9, xs_43_9, xf_43_10, xs_43_10, x_44, xu_44, x_45, xu_45, x_46, xu_46, x_47, xu_47, x_48, xu_48, x_49, xu_49, x_50, xf_50_0, xf_50_1, xf_50_2, xf_50_3, xf_50_4, xs_50_4, xf_50_5, xs_50_5, xf_50_6, xs_50_6, x_51, xu_51, x_52, xu_52, x_53, xu_53, x_54, xu_54, x_55, xu_55]
      try simp only [true_and, and_true, lit, nI_add, nar_i, nar_0, nar_1, nar_b, fit_i, fit_l, pk_rem, nI_leI, nI_ltI, nI_eq, vin_iff, nI_clamp, nI_m1]
      rw [← hE']
      exact hq
  · exact h.elim
theorem TXK.mono {κ : kpT} {T : Nat → Option Nat} {lo n N M : Nat} {P : Nat → Nat → Option Nat} {C : gC} {tx : Nat → List rCl} (h : TXK κ T lo n P C tx N) (hM : M ≤ N) : TXK κ T lo n P C tx M := by
  obtain ⟨⟨h1, h1'⟩, h2, h3, h4⟩ := h
  exact ⟨⟨by omega, fun t ht => h1' t (by omega)⟩, h2, h3, fun t r ht => h4 t r (by omega)⟩
def sp_X11_image : gSp := fun as C n z Q => match as with
  | [.ref r] => ∃ X : Nat, ∃ g a b', X = r ∧ CW X g a C n z ∧ (∀ j, j < 3205 → b' j = a j) ∧ ∀ C' n' z', CW X (g.1, (b', g.2.2.2.2), g.2.2.1, g.2.2.2) a C' n' z' → FR X g.1.1 C C' → Q (some (.int (a 6))) C' n' z'
  | _ => False
set_option maxRecDepth 100000 in
set_option maxHeartbeats 4000000 in
theorem c_X11_image (l : Launch) : Con l yX11_image cX11_image 1 (some .int) 5 160 6300 sp_X11_image := by
  refine m_X11_image (c_X6_copy l) (by decide) ?_
  intro as C0 n0 z0 Q h
  unfold sp_X11_image at h
  split at h
  · rename_i r
    obtain ⟨X, ⟨⟨lo, bn, bz⟩, ⟨b, NI⟩, t, tx, N⟩, a, b', rfl, ⟨σ, ρ, A, P, T, S, hX, ⟨ch, f, k, hG, hW⟩, hZ⟩, hb', hQ⟩ := h
    obtain ⟨⟨chI, fI, kI, hGI, hWI⟩, hNI, hT, hR, hJ, hTP⟩ := hZ
    have hE := hX.E
    refine ⟨Nat.le_of_ble_eq_true rfl, ?_⟩
    rw [hE]
    simp only [b_X11_image_0, s_psh, s_ild, s_lld, s_ald, s_ist, s_lst, s_ast, s_inc, s_ib, s_ibz, s_iu, s_lb, s_lbz, s_lu, s_ls, s_il, s_li, s_cmp, s_dup, s_pop, s_dup2, s_cv, s_cs, s_ci, s_oi, s_get, s_put, s_iald, s_lald, s_zald, s_iast, s_last, s_zast, s_alen, s_iret, s_lret, s_aret, s_vret, s_al, gpad, gl, gst, gclr, gc2, gent, gcat, Value.category, List.drop_succ_cons, List.drop_zero, List.take_succ_cons, List.take_zero, List.reverse_cons, List.reverse_nil, List.nil_append, List.cons_append, List.append_nil, List.map_cons, List.map_nil, List.sum_cons, List.sum_nil, List.length_cons, List.length_nil, Option.toList, cond_true, cond_false, Nat.reduceBEq, Nat.reduceAdd, Nat.reduceLeDiff, beq_self_eq_true, true_and, and_true, BEq.rfl, Bool.false_eq_true, if_true, if_false, x_0, xf_0_0, xf_0_1, xf_0_2, xf_0_3, xf_0_4, xf_0_5, xf_0_6, xf_0_7, xf_0_8, xf_0_9, xf_0_10, xs_0_10, xf_0_11, xs_0_11, xf_0_12, xs_0_12, x_1, xf_1_0, xf_1_1, xf_1_2, xf_1_3, xf_1_4, xf_1_5, xf_1_6, xf_1_7, xs_1_7, xf_1_8, xs_1_8, xf_1_9, xs_1_9, x_2, xf_2_0, xf_2_1, xf_2_2, xf_2_3, xf_2_4, xs_2_4, xf_2_5, xs_2_5, xf_2_6, xs_2_6, x_3, xu_3, x_4, xu_4, x_5, xu_5, x_6, xu_6, x_7, xf_7_0, xf_7_1, xs_7_1, xf_7_2, xs_7_2, x_8, xu_8, x_9, xf_9_0, xf_9_1, xs_9_1, xf_9_2, xs_9_2, x_10, xu_10, x_11, xf_11_0, xf_11_1, xs_11_1, xf_11_2, xs_11_2, x_12, xu_12, x_13, xu_13, x_14, xu_14, x_15, xu_15, x_16, xf_16_0, xf_16_1, xf_16_2, xf_16_3, xf_16_4, xf_16_5, xf_16_6, xf_16_7, xs_16_7, xf_16_8, xs_16_8, xf_16_9, xs_16_9, x_17, xf_17_0, xf_17_1, xf_17_2, xf_17_3, xf_17_4, xs_17_4, xf_17_5, xs_17_5, xf_17_6, xs_17_6, x_18, xu_18, x_19, xu_19, x_20, xu_20, x_21, xu_21, x_22, xf_22_0, xf_22_1, xs_22_1, xf_22_2, xs_22_2, x_23, xu_23, x_24, xf_24_0, xf_24_1, xs_24_1, xf_24_2, xs_24_2, x_25, xu_25, x_26, xf_26_0, xf_26_1, xs_26_1, xf_26_2, xs_26_2, x_27, xu_27, x_28, xu_28, x_29, xu_29, x_30, xu_30, x_31, xu_31, x_32, xf_32_0, xf_32_1, xf_32_2, xf_32_3, xs_32_3, xf_32_4, xs_32_4, xf_32_5, xs_32_5, xf_32_6, xs_32_6, xf_32_7, xs_32_7, xf_32_8, xs_32_8, x_33, xu_33, x_34, xf_34_0, xf_34_1, x_35, xf_35_0, xf_35_1, xf_35_2, xf_35_3, xs_35_3, x_36, xu_36, x_37, xf_37_0, xf_37_1, xf_37_2, xf_37_3, xf_37_4, xs_37_4, xf_37_5, xs_37_5, xf_37_6, xs_37_6, x_38, xu_38, x_39, xu_39, x_40, xu_40, x_41, xu_41, x_42, xf_42_0, xf_42_1, xf_42_2, xf_42_3, xs_42_3, xf_42_4, xs_42_4, xf_42_5, xs_42_5, xf_42_6, xs_42_6, xf_42_7, xs_42_7, xf_42_8, xs_42_8, xf_42_9, xs_42_9, xf_42_10, xs_42_10, x_43, xf_43_0, xf_43_1, xf_43_2, xf_43_3, xs_43_3, xf_43_4, xs_43_4, xf_43_5, xs_43_5, xf_43_6, xs_43_6, xf_43_7, xs_43_7, xf_43_8, xs_43_8, xf_43_9, xs_43_9, xf_43_10, xs_43_10, x_44, xu_44, x_45, xu_45, x_46, xu_46, x_47, xu_47, x_48, xu_48, x_49, xu_49, x_50, xf_50_0, xf_50_1, xf_50_2, xf_50_3, xf_50_4, xs_50_4, xf_50_5, xs_50_5, xf_50_6, xs_50_6, x_51, xu_51, x_52, xu_52, x_53, xu_53, x_54, xu_54, x_55, xu_55]
    rw [← hE]
    refine ⟨⟨Nat.le_refl _, Nat.le_refl _⟩, X, lo, bn, bz, σ, ρ, A, P, T, S, f, k, ch, a, N, fI, kI, chI, b, NI, 16, 1, 30, 0, .inl ⟨rfl, rfl, rfl, rfl⟩, rfl, rfl, hX, hG, StW_N.mpr hW, hWI, fun σ' A' P' T' S' C' n' z' hX' hW' hCF hF => ?_⟩
    have hWn : StN σ' A' P' T' S' f k ch a N := StW_N.mp ((StW_N.mpr hW).kp (fun i hi => hCF.1 (1 + i) (.inl (by omega))) (fun i hi => hCF.2.1 (0 + i) (.inl (by omega))))
    have hE' := hX'.E
    have e5 : σ' 2 5 = a 6 := hWn.2.2.2.1.1.1
    have hq := hQ C' n' z' ⟨σ', ρ, A', P', T', S', hX', ⟨ch, f, k, hG, hWn⟩, ⟨ch, 0, k, hG.cg hb', hW'.cg hG.2.2.2.2.1 hb'⟩, Nat.le_refl _, hT.k (hCF.1 31 (.inr (by decide))).2.2 hCF.2.2, hR, fun i g1 g2 => by rw [(hCF.1 32 (.inr (by decide))).1]; exact hJ i g1 g2, by unfold TP; rw [(hCF.1 0 (.inl (by decide))).1, (hCF.1 55 (.inr (by decide))).2.1]; exact hTP⟩ hF
    rw [hE']
    simp only [e5, s_psh, s_ild, s_lld, s_ald, s_ist, s_lst, s_ast, s_inc, s_ib, s_ibz, s_iu, s_lb, s_lbz, s_lu, s_ls, s_il, s_li, s_cmp, s_dup, s_pop, s_dup2, s_cv, s_cs, s_ci, s_oi, s_get, s_put, s_iald, s_lald, s_zald, s_iast, s_last, s_zast, s_alen, s_iret, s_lret, s_aret, s_vret, s_al, gpad, gl, gst, gclr, gc2, gent, gcat, Value.category, List.drop_succ_cons, List.drop_zero, List.take_succ_cons, List.take_zero, List.reverse_cons, List.reverse_nil, List.nil_append, List.cons_append, List.append_nil, List.map_cons, List.map_nil, List.sum_cons, List.sum_nil, List.length_cons, List.length_nil, Option.toList, cond_true, cond_false, Nat.reduceBEq, Nat.reduceAdd, Nat.reduceLeDiff, beq_self_eq_true, true_and, and_true, BEq.rfl, Bool.false_eq_true, if_true, if_false, x_0, xf_0_0, xf_0_1, xf_0_2, xf_0_3, xf_0_4, xf_0_5, xf_0_6, xf_0_7, xf_0_8, xf_0_9, xf_0_10, xs_0_10, xf_0_11, xs_0_11, xf_0_12, xs_0_12, x_1, xf_1_0, xf_1_1, xf_1_2, xf_1_3, xf_1_4, xf_1_5, xf_1_6, xf_1_7, xs_1_7, xf_1_8, xs_1_8, xf_1_9, xs_1_9, x_2, xf_2_0, xf_2_1, xf_2_2, xf_2_3, xf_2_4, xs_2_4, xf_2_5, xs_2_5, xf_2_6, xs_2_6, x_3, xu_3, x_4, xu_4, x_5, xu_5, x_6, xu_6, x_7, xf_7_0, xf_7_1, xs_7_1, xf_7_2, xs_7_2, x_8, xu_8, x_9, xf_9_0, xf_9_1, xs_9_1, xf_9_2, xs_9_2, x_10, xu_10, x_11, xf_11_0, xf_11_1, xs_11_1, xf_11_2, xs_11_2, x_12, xu_12, x_13, xu_13, x_14, xu_14, x_15, xu_15, x_16, xf_16_0, xf_16_1, xf_16_2, xf_16_3, xf_16_4, xf_16_5, xf_16_6, xf_16_7, xs_16_7, xf_16_8, xs_16_8, xf_16_9, xs_16_9, x_17, xf_17_0, xf_17_1, xf_17_2, xf_17_3, xf_17_4, xs_17_4, xf_17_5, xs_17_5, xf_17_6, xs_17_6, x_18, xu_18, x_19, xu_19, x_20, xu_20, x_21, xu_21, x_22, xf_22_0, xf_22_1, xs_22_1, xf_22_2, xs_22_2, x_23, xu_23, x_24, xf_24_0, xf_24_1, xs_24_1, xf_24_2, xs_24_2, x_25, xu_25, x_26, xf_26_0, xf_26_1, xs_26_1, xf_26_2, xs_26_2, x_27, xu_27, x_28, xu_28, x_29, xu_29, x_30, xu_30, x_31, xu_31, x_32, xf_32_0, xf_32_1, xf_32_2, xf_32_3, xs_32_3, xf_32_4, xs_32_4, xf_32_5, xs_32_5, xf_32_6, xs_32_6, xf_32_7, xs_32_7, xf_32_8, xs_32_8, x_33, xu_33, x_34, xf_34_0, xf_34_1, x_35, xf_35_0, xf_35_1, xf_35_2, xf_35_3, xs_35_3, x_36, xu_36, x_37, xf_37_0, xf_37_1, xf_37_2, xf_37_3, xf_37_4, xs_37_4, xf_37_5, xs_37_5, xf_37_6, xs_37_6, x_38, xu_38, x_39, xu_39, x_40, xu_40, x_41, xu_41, x_42, xf_42_0, xf_42_1, xf_42_2, xf_42_3, xs_42_3, xf_42_4, xs_42_4, xf_42_5, xs_42_5, xf_42_6, xs_42_6, xf_42_7, xs_42_7, xf_42_8, xs_42_8, xf_42_9, xs_42_9, xf_42_10, xs_42_10, x_43, xf_43_0, xf_43_1, xf_43_2, xf_43_3, xs_43_3, xf_43_4, xs_43_4, xf_43_5, xs_43_5, xf_43_6, xs_43_6, xf_43_7, xs_43_7, xf_43_8, xs_43_8, xf_43_9, xs_43_9, xf_43_10, xs_43_10, x_44, xu_44, x_45, xu_45, x_46, xu_46, x_47, xu_47, x_48, xu_48, x_49, xu_49, x_50, xf_50_0, xf_50_1, xf_50_2, xf_50_3, xf_50_4, xs_50_4, xf_50_5, xs_50_5, xf_50_6, xs_50_6, x_51, xu_51, x_52, xu_52, x_53, xu_53, x_54, xu_54, x_55, xu_55]
    try simp only [true_and, and_true, lit, nI_add, nar_i, nar_0, nar_1, nar_b, fit_i, fit_l, pk_rem, nI_leI, nI_ltI, nI_eq, vin_iff, nI_clamp, nI_m1]
    rw [← hE']
    exact hq
  · exact h.elim
def sp_X11_back : gSp := fun as C n z Q => match as with
  | [.ref r] => ∃ X : Nat, ∃ g a a', X = r ∧ CW X g a C n z ∧ (∀ j, j < 3205 → a' j = g.2.1.1 j) ∧ ∀ C' n' z', CW X (g.1, g.2.1, g.2.2.1, g.2.2.2.1, g.2.1.2) a' C' n' z' → FR X g.1.1 C C' → Q (some (.int (a' 6))) C' n' z'
  | _ => False
set_option maxRecDepth 100000 in
set_option maxHeartbeats 4000000 in
theorem c_X11_back (l : Launch) : Con l yX11_back cX11_back 1 (some .int) 5 160 6300 sp_X11_back := by
  refine m_X11_back (c_X6_copy l) (by decide) ?_
  intro as C0 n0 z0 Q h
  unfold sp_X11_back at h
  split at h
  · rename_i r
    obtain ⟨X, ⟨⟨lo, bn, bz⟩, ⟨b, NI⟩, t, tx, N⟩, a, a', rfl, ⟨σ, ρ, A, P, T, S, hX, ⟨ch, f, k, hG, hW⟩, hZ⟩, ha', hQ⟩ := h
    obtain ⟨⟨chI, fI, kI, hGI, hWI⟩, hNI, hT, hR, hJ, hTP⟩ := hZ
    have hE := hX.E
    refine ⟨Nat.le_of_ble_eq_true rfl, ?_⟩
    rw [hE]
    simp only [b_X11_back_0, s_psh, s_ild, s_lld, s_ald, s_ist, s_lst, s_ast, s_inc, s_ib, s_ibz, s_iu, s_lb, s_lbz, s_lu, s_ls, s_il, s_li, s_cmp, s_dup, s_pop, s_dup2, s_cv, s_cs, s_ci, s_oi, s_get, s_put, s_iald, s_lald, s_zald, s_iast, s_last, s_zast, s_alen, s_iret, s_lret, s_aret, s_vret, s_al, gpad, gl, gst, gclr, gc2, gent, gcat, Value.category, List.drop_succ_cons, List.drop_zero, List.take_succ_cons, List.take_zero, List.reverse_cons, List.reverse_nil, List.nil_append, List.cons_append, List.append_nil, List.map_cons, List.map_nil, List.sum_cons, List.sum_nil, List.length_cons, List.length_nil, Option.toList, cond_true, cond_false, Nat.reduceBEq, Nat.reduceAdd, Nat.reduceLeDiff, beq_self_eq_true, true_and, and_true, BEq.rfl, Bool.false_eq_true, if_true, if_false, x_0, xf_0_0, xf_0_1, xf_0_2, xf_0_3, xf_0_4, xf_0_5, xf_0_6, xf_0_7, xf_0_8, xf_0_9, xf_0_10, xs_0_10, xf_0_11, xs_0_11, xf_0_12, xs_0_12, x_1, xf_1_0, xf_1_1, xf_1_2, xf_1_3, xf_1_4, xf_1_5, xf_1_6, xf_1_7, xs_1_7, xf_1_8, xs_1_8, xf_1_9, xs_1_9, x_2, xf_2_0, xf_2_1, xf_2_2, xf_2_3, xf_2_4, xs_2_4, xf_2_5, xs_2_5, xf_2_6, xs_2_6, x_3, xu_3, x_4, xu_4, x_5, xu_5, x_6, xu_6, x_7, xf_7_0, xf_7_1, xs_7_1, xf_7_2, xs_7_2, x_8, xu_8, x_9, xf_9_0, xf_9_1, xs_9_1, xf_9_2, xs_9_2, x_10, xu_10, x_11, xf_11_0, xf_11_1, xs_11_1, xf_11_2, xs_11_2, x_12, xu_12, x_13, xu_13, x_14, xu_14, x_15, xu_15, x_16, xf_16_0, xf_16_1, xf_16_2, xf_16_3, xf_16_4, xf_16_5, xf_16_6, xf_16_7, xs_16_7, xf_16_8, xs_16_8, xf_16_9, xs_16_9, x_17, xf_17_0, xf_17_1, xf_17_2, xf_17_3, xf_17_4, xs_17_4, xf_17_5, xs_17_5, xf_17_6, xs_17_6, x_18, xu_18, x_19, xu_19, x_20, xu_20, x_21, xu_21, x_22, xf_22_0, xf_22_1, xs_22_1, xf_22_2, xs_22_2, x_23, xu_23, x_24, xf_24_0, xf_24_1, xs_24_1, xf_24_2, xs_24_2, x_25, xu_25, x_26, xf_26_0, xf_26_1, xs_26_1, xf_26_2, xs_26_2, x_27, xu_27, x_28, xu_28, x_29, xu_29, x_30, xu_30, x_31, xu_31, x_32, xf_32_0, xf_32_1, xf_32_2, xf_32_3, xs_32_3, xf_32_4, xs_32_4, xf_32_5, xs_32_5, xf_32_6, xs_32_6, xf_32_7, xs_32_7, xf_32_8, xs_32_8, x_33, xu_33, x_34, xf_34_0, xf_34_1, x_35, xf_35_0, xf_35_1, xf_35_2, xf_35_3, xs_35_3, x_36, xu_36, x_37, xf_37_0, xf_37_1, xf_37_2, xf_37_3, xf_37_4, xs_37_4, xf_37_5, xs_37_5, xf_37_6, xs_37_6, x_38, xu_38, x_39, xu_39, x_40, xu_40, x_41, xu_41, x_42, xf_42_0, xf_42_1, xf_42_2, xf_42_3, xs_42_3, xf_42_4, xs_42_4, xf_42_5, xs_42_5, xf_42_6, xs_42_6, xf_42_7, xs_42_7, xf_42_8, xs_42_8, xf_42_9, xs_42_9, xf_42_10, xs_42_10, x_43, xf_43_0, xf_43_1, xf_43_2, xf_43_3, xs_43_3, xf_43_4, xs_43_4, xf_43_5, xs_43_5, xf_43_6, xs_43_6, xf_43_7, xs_43_7, xf_43_8, xs_43_8, xf_43_9, xs_43_9, xf_43_10, xs_43_10, x_44, xu_44, x_45, xu_45, x_46, xu_46, x_47, xu_47, x_48, xu_48, x_49, xu_49, x_50, xf_50_0, xf_50_1, xf_50_2, xf_50_3, xf_50_4, xs_50_4, xf_50_5, xs_50_5, xf_50_6, xs_50_6, x_51, xu_51, x_52, xu_52, x_53, xu_53, x_54, xu_54, x_55, xu_55]
    rw [← hE]
    refine ⟨⟨Nat.le_refl _, Nat.le_refl _⟩, X, lo, bn, bz, σ, ρ, A, P, T, S, fI, kI, chI, b, NI, f, k, ch, a, N, 1, 16, 0, 30, .inr ⟨rfl, rfl, rfl, rfl⟩, rfl, rfl, hX, hGI, hWI, StW_N.mpr hW, fun σ' A' P' T' S' C' n' z' hX' hW' hCF hF => ?_⟩
    have hWn : StN σ' A' P' T' S' 0 kI chI a' NI := StW_N.mp (hW'.cg hGI.2.2.2.2.1 ha')
    have hWI' : StW 16 30 σ' A' P' T' S' fI kI chI b NI := hWI.kp (fun i hi => hCF.1 (16 + i) (.inr (by omega))) (fun i hi => hCF.2.1 (30 + i) (.inr (by omega)))
    have hE' := hX'.E
    have e5 : σ' 2 5 = a' 6 := hWn.2.2.2.1.1.1
    have hq := hQ C' n' z' ⟨σ', ρ, A', P', T', S', hX', ⟨chI, 0, kI, hGI.cg ha', hWn⟩, ⟨chI, fI, kI, hGI, hWI'⟩, Nat.le_refl _, (hT.k (hCF.1 31 (.inr (by decide))).2.2 hCF.2.2).mono hNI, fun t ht => hR t (Nat.lt_of_lt_of_le ht hNI), fun i g1 g2 => by rw [(hCF.1 32 (.inr (by decide))).1]; exact hJ i g1 g2, by unfold TP; rw [(hCF.1 0 (.inl (by decide))).1, (hCF.1 55 (.inr (by decide))).2.1]; exact hTP⟩ hF
    rw [hE']
    simp only [e5, s_psh, s_ild, s_lld, s_ald, s_ist, s_lst, s_ast, s_inc, s_ib, s_ibz, s_iu, s_lb, s_lbz, s_lu, s_ls, s_il, s_li, s_cmp, s_dup, s_pop, s_dup2, s_cv, s_cs, s_ci, s_oi, s_get, s_put, s_iald, s_lald, s_zald, s_iast, s_last, s_zast, s_alen, s_iret, s_lret, s_aret, s_vret, s_al, gpad, gl, gst, gclr, gc2, gent, gcat, Value.category, List.drop_succ_cons, List.drop_zero, List.take_succ_cons, List.take_zero, List.reverse_cons, List.reverse_nil, List.nil_append, List.cons_append, List.append_nil, List.map_cons, List.map_nil, List.sum_cons, List.sum_nil, List.length_cons, List.length_nil, Option.toList, cond_true, cond_false, Nat.reduceBEq, Nat.reduceAdd, Nat.reduceLeDiff, beq_self_eq_true, true_and, and_true, BEq.rfl, Bool.false_eq_true, if_true, if_false, x_0, xf_0_0, xf_0_1, xf_0_2, xf_0_3, xf_0_4, xf_0_5, xf_0_6, xf_0_7, xf_0_8, xf_0_9, xf_0_10, xs_0_10, xf_0_11, xs_0_11, xf_0_12, xs_0_12, x_1, xf_1_0, xf_1_1, xf_1_2, xf_1_3, xf_1_4, xf_1_5, xf_1_6, xf_1_7, xs_1_7, xf_1_8, xs_1_8, xf_1_9, xs_1_9, x_2, xf_2_0, xf_2_1, xf_2_2, xf_2_3, xf_2_4, xs_2_4, xf_2_5, xs_2_5, xf_2_6, xs_2_6, x_3, xu_3, x_4, xu_4, x_5, xu_5, x_6, xu_6, x_7, xf_7_0, xf_7_1, xs_7_1, xf_7_2, xs_7_2, x_8, xu_8, x_9, xf_9_0, xf_9_1, xs_9_1, xf_9_2, xs_9_2, x_10, xu_10, x_11, xf_11_0, xf_11_1, xs_11_1, xf_11_2, xs_11_2, x_12, xu_12, x_13, xu_13, x_14, xu_14, x_15, xu_15, x_16, xf_16_0, xf_16_1, xf_16_2, xf_16_3, xf_16_4, xf_16_5, xf_16_6, xf_16_7, xs_16_7, xf_16_8, xs_16_8, xf_16_9, xs_16_9, x_17, xf_17_0, xf_17_1, xf_17_2, xf_17_3, xf_17_4, xs_17_4, xf_17_5, xs_17_5, xf_17_6, xs_17_6, x_18, xu_18, x_19, xu_19, x_20, xu_20, x_21, xu_21, x_22, xf_22_0, xf_22_1, xs_22_1, xf_22_2, xs_22_2, x_23, xu_23, x_24, xf_24_0, xf_24_1, xs_24_1, xf_24_2, xs_24_2, x_25, xu_25, x_26, xf_26_0, xf_26_1, xs_26_1, xf_26_2, xs_26_2, x_27, xu_27, x_28, xu_28, x_29, xu_29, x_30, xu_30, x_31, xu_31, x_32, xf_32_0, xf_32_1, xf_32_2, xf_32_3, xs_32_3, xf_32_4, xs_32_4, xf_32_5, xs_32_5, xf_32_6, xs_32_6, xf_32_7, xs_32_7, xf_32_8, xs_32_8, x_33, xu_33, x_34, xf_34_0, xf_34_1, x_35, xf_35_0, xf_35_1, xf_35_2, xf_35_3, xs_35_3, x_36, xu_36, x_37, xf_37_0, xf_37_1, xf_37_2, xf_37_3, xf_37_4, xs_37_4, xf_37_5, xs_37_5, xf_37_6, xs_37_6, x_38, xu_38, x_39, xu_39, x_40, xu_40, x_41, xu_41, x_42, xf_42_0, xf_42_1, xf_42_2, xf_42_3, xs_42_3, xf_42_4, xs_42_4, xf_42_5, xs_42_5, xf_42_6, xs_42_6, xf_42_7, xs_42_7, xf_42_8, xs_42_8, xf_42_9, xs_42_9, xf_42_10, xs_42_10, x_43, xf_43_0, xf_43_1, xf_43_2, xf_43_3, xs_43_3, xf_43_4, xs_43_4, xf_43_5, xs_43_5, xf_43_6, xs_43_6, xf_43_7, xs_43_7, xf_43_8, xs_43_8, xf_43_9, xs_43_9, xf_43_10, xs_43_10, x_44, xu_44, x_45, xu_45, x_46, xu_46, x_47, xu_47, x_48, xu_48, x_49, xu_49, x_50, xf_50_0, xf_50_1, xf_50_2, xf_50_3, xf_50_4, xs_50_4, xf_50_5, xs_50_5, xf_50_6, xs_50_6, x_51, xu_51, x_52, xu_52, x_53, xu_53, x_54, xu_54, x_55, xu_55]
    try simp only [true_and, and_true, lit, nI_add, nar_i, nar_0, nar_1, nar_b, fit_i, fit_l, pk_rem, nI_leI, nI_ltI, nI_eq, vin_iff, nI_clamp, nI_m1]
    rw [← hE']
    exact hq
  · exact h.elim
