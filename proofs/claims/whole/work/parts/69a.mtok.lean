/-! the reference's tokens as the abstract ones; its pile -/
theorem Con.mono {l : Launch} {y : MethodName} {cc : ByteArray} {nL : Nat} {ret : Option FieldType} {rk mc ms : Nat} {sp sp' : gSp} (h : Con l y cc nL ret rk mc ms sp) (hs : ∀ as C n z Q, sp' as C n z Q → sp as C n z Q) : Con l y cc nL ret rk mc ms sp' := fun D dA b as C n z Q hq => h D dA b as C n z Q (hs as C n z Q hq)
noncomputable def tokN (T : Nat → Nat) (len s : Nat) : Nat := if s < len then (if isDg (T s) = true then 1 else if isLt (T s) = true then 2 else tokC T len s) else 0
theorem tokM.tok {T : Nat → Nat} {len s : Nat} {σ : Nat → Int32} {w : Int64} (h : tokM T len s σ w) : σ 9 = nI (tokN T len s) := by
  obtain ⟨h8, h1, h2⟩ := h
  unfold tokN
  by_cases hs : s < len
  · obtain ⟨h7, hd, hl, ho⟩ := h1 hs
    rw [if_pos hs]
    by_cases d : isDg (T s) = true
    · rw [if_pos d]; exact (hd d).1
    · rw [if_neg d]
      by_cases lt : isLt (T s) = true
      · rw [if_pos lt]; exact (hl lt).1
      · rw [if_neg lt]; exact ho (by simpa using d) (by simpa using lt)
  · rw [if_neg hs]; exact (h2 hs).2
theorem tokC_lt {T : Nat → Nat} {len s : Nat} (h : T s < 256) : tokC T len s < 256 ∧ 3 ≤ tokC T len s := by
  unfold tokC
  by_cases q : isTwo T len s
  · rw [pif_t q]; split <;> omega
  · rw [pif_f q]
    split
    · rename_i g
      simp only [isSg, Bool.or_eq_true, beq_iff_eq] at g
      omega
    · omega
theorem tokN_lt {T : Nat → Nat} {len s : Nat} (h : T s < 256) : tokN T len s < 256 := by
  have := tokC_lt (len := len) h
  unfold tokN
  repeat' split
  all_goals omega
/-- the token i is at hand -/
def TX (σ : Nat → Int32) (w : Int64) (A : Nat → Nat → Int32) (T : Nat → Nat) (len i : Nat) : Prop := (A 4 = fun k => nI (T k)) ∧ (∀ k, T k < 256) ∧ σ 4 = nI len ∧ len ≤ 300 ∧ tokM T len (tB T len i) σ w
theorem TX.at {σ : Nat → Int32} {w : Int64} {A : Nat → Nat → Int32} {T : Nat → Nat} {len i : Nat} (h : TX σ w A T len i) : σ 7 = nI (tP T len (i + 1)) := by
  obtain ⟨_, _, _, _, _, h1, h2⟩ := h
  by_cases hs : tB T len i < len
  · rw [(h1 hs).1, tP_s hs]
  · rw [(h2 hs).1, show tP T len (i + 1) = tB T len i from if_neg hs]
theorem TX.keep {σ σ' : Nat → Int32} {w : Int64} {A A' : Nat → Nat → Int32} {T : Nat → Nat} {len i : Nat} (h : TX σ w A T len i) (hA : A' 4 = A 4) (h4 : σ' 4 = σ 4) (h7 : σ' 7 = σ 7) (h8 : σ' 8 = σ 8) (h9 : σ' 9 = σ 9) (h10 : σ' 10 = σ 10) : TX σ' w A' T len i := by
  obtain ⟨a, b, c, d, e⟩ := h
  refine ⟨by rw [hA, a], b, by rw [h4, c], d, ?_⟩
  unfold tokM at e ⊢
  rw [h7, h8, h9, h10]
  exact e
def sp_X12_nextT : gSp := fun as C n z Q => match as with
  | [.ref m] => ∃ σ w A L R T len i, C = menc m σ w A L R ∧ A 4 = (fun k => nI (T k)) ∧ (∀ k, T k < 256) ∧ σ 4 = nI len ∧ len ≤ 300 ∧ σ 7 = nI (tP T len i) ∧ ∀ σ' w', (∀ j, j ≠ 7 → j ≠ 8 → j ≠ 9 → j ≠ 10 → σ' j = σ j) → TX σ' w' A T len i → Q none (menc m σ' w' A L R) n z
  | _ => False
theorem c_X12_nextT (l : Launch) : Con l yX12_nextToken cX12_nextToken 2 none 1 0 0 sp_X12_nextT := by
  refine Con.mono (c_X12_nextToken l) ?_
  intro as C n z Q h
  unfold sp_X12_nextT at h
  split at h
  · obtain ⟨σ, w, A, L, R, T, len, i, rfl, hA, hT, h4, hl, h7, hQ⟩ := h
    exact ⟨σ, w, A, L, R, T, len, _, rfl, hA, hT, h4, hl, h7, tP_le T len i, fun σ' w' hf ht => hQ σ' w' hf ⟨hA, hT, by rw [hf 4 (by decide) (by decide) (by decide) (by decide), h4], hl, ht⟩⟩
  · exact h.elim
theorem sgn_c {b : Nat} : sgn b < 37 ∧ 26 ≤ sgn b ∨ sgn b = 41 := by
  unfold sgn
  repeat' split
  all_goals omega

theorem sg_all (c K : Nat) (h : ∀ b : Fin 256, ((if isSg b.1 = true then b.1 else 3) = c) ↔ sgn b.1 = K) : ∀ b, b < 256 → (((if isSg b = true then b else 3) = c) ↔ sgn b = K) := fun b hb => h ⟨b, hb⟩
theorem tn_gen {T : Nat → Nat} {len i c K : Nat} (hK : K = 39 ∨ K = 40 ∨ K = 37 ∨ K = 38 ∨ (26 ≤ K ∧ K < 37)) (h1 : c = 1 ↔ K = 39) (h0 : c = 0 ↔ K = 40) (h2 : c ≠ 2) (h4 : c = 4 ↔ K = 37) (h5 : c = 5 ↔ K = 38) (hs : ∀ b, b < 256 → (((if isSg b = true then b else 3) = c) ↔ sgn b = K)) (hT : T (tB T len i) < 256) : (tokN T len (tB T len i) = c) = (tkS T len i = K) := by
  unfold tokN tkS
  by_cases hl : tB T len i < len
  · rw [if_pos hl, if_pos hl]
    unfold tS
    by_cases d : isDg (T (tB T len i)) = true
    · rw [if_pos d, if_neg (by rw [dg_lt d]; decide), if_pos d]
      exact propext ⟨fun e => (h1.mp e.symm).symm, fun e => (h1.mpr e.symm).symm⟩
    · rw [if_neg d]
      by_cases lt : isLt (T (tB T len i)) = true
      · rw [if_pos lt, if_pos lt]
        have := wF_le (lR T (tB T len i) (tE T len (tB T len i) - tB T len i))
        exact propext ⟨fun e => absurd e.symm h2, fun e => by omega⟩
      · rw [if_neg lt, if_neg lt, if_neg d]
        unfold tokC
        by_cases q : isTwo T len (tB T len i)
        · rw [pif_t q, pif_t q]
          split <;> exact propext ⟨fun e => by omega, fun e => by omega⟩
        · rw [pif_f q, pif_f q]
          exact propext (hs _ hT)
  · rw [if_neg hl, if_neg hl]
    exact propext ⟨fun e => (h0.mp e.symm).symm, fun e => (h0.mpr e.symm).symm⟩
theorem tn_43 {T : Nat → Nat} {len i : Nat} (hT : T (tB T len i) < 256) : (tokN T len (tB T len i) = 43) = (tkS T len i = 30) := tn_gen (by decide) (by decide) (by decide) (by decide) (by decide) (by decide) (sg_all 43 30 (by decide +kernel)) hT
theorem tn_45 {T : Nat → Nat} {len i : Nat} (hT : T (tB T len i) < 256) : (tokN T len (tB T len i) = 45) = (tkS T len i = 31) := tn_gen (by decide) (by decide) (by decide) (by decide) (by decide) (by decide) (sg_all 45 31 (by decide +kernel)) hT
theorem tn_42 {T : Nat → Nat} {len i : Nat} (hT : T (tB T len i) < 256) : (tokN T len (tB T len i) = 42) = (tkS T len i = 32) := tn_gen (by decide) (by decide) (by decide) (by decide) (by decide) (by decide) (sg_all 42 32 (by decide +kernel)) hT
theorem tn_47 {T : Nat → Nat} {len i : Nat} (hT : T (tB T len i) < 256) : (tokN T len (tB T len i) = 47) = (tkS T len i = 33) := tn_gen (by decide) (by decide) (by decide) (by decide) (by decide) (by decide) (sg_all 47 33 (by decide +kernel)) hT
theorem tn_40 {T : Nat → Nat} {len i : Nat} (hT : T (tB T len i) < 256) : (tokN T len (tB T len i) = 40) = (tkS T len i = 34) := tn_gen (by decide) (by decide) (by decide) (by decide) (by decide) (by decide) (sg_all 40 34 (by decide +kernel)) hT
theorem tn_41 {T : Nat → Nat} {len i : Nat} (hT : T (tB T len i) < 256) : (tokN T len (tB T len i) = 41) = (tkS T len i = 35) := tn_gen (by decide) (by decide) (by decide) (by decide) (by decide) (by decide) (sg_all 41 35 (by decide +kernel)) hT
theorem tn_59 {T : Nat → Nat} {len i : Nat} (hT : T (tB T len i) < 256) : (tokN T len (tB T len i) = 59) = (tkS T len i = 36) := tn_gen (by decide) (by decide) (by decide) (by decide) (by decide) (by decide) (sg_all 59 36 (by decide +kernel)) hT
theorem tn_60 {T : Nat → Nat} {len i : Nat} (hT : T (tB T len i) < 256) : (tokN T len (tB T len i) = 60) = (tkS T len i = 26) := tn_gen (by decide) (by decide) (by decide) (by decide) (by decide) (by decide) (sg_all 60 26 (by decide +kernel)) hT
theorem tn_62 {T : Nat → Nat} {len i : Nat} (hT : T (tB T len i) < 256) : (tokN T len (tB T len i) = 62) = (tkS T len i = 27) := tn_gen (by decide) (by decide) (by decide) (by decide) (by decide) (by decide) (sg_all 62 27 (by decide +kernel)) hT
theorem tn_61 {T : Nat → Nat} {len i : Nat} (hT : T (tB T len i) < 256) : (tokN T len (tB T len i) = 61) = (tkS T len i = 28) := tn_gen (by decide) (by decide) (by decide) (by decide) (by decide) (by decide) (sg_all 61 28 (by decide +kernel)) hT
theorem tn_35 {T : Nat → Nat} {len i : Nat} (hT : T (tB T len i) < 256) : (tokN T len (tB T len i) = 35) = (tkS T len i = 29) := tn_gen (by decide) (by decide) (by decide) (by decide) (by decide) (by decide) (sg_all 35 29 (by decide +kernel)) hT
theorem tn_4 {T : Nat → Nat} {len i : Nat} (hT : T (tB T len i) < 256) : (tokN T len (tB T len i) = 4) = (tkS T len i = 37) := tn_gen (by decide) (by decide) (by decide) (by decide) (by decide) (by decide) (sg_all 4 37 (by decide +kernel)) hT
theorem tn_5 {T : Nat → Nat} {len i : Nat} (hT : T (tB T len i) < 256) : (tokN T len (tB T len i) = 5) = (tkS T len i = 38) := tn_gen (by decide) (by decide) (by decide) (by decide) (by decide) (by decide) (sg_all 5 38 (by decide +kernel)) hT
theorem tn_0 {T : Nat → Nat} {len i : Nat} (hT : T (tB T len i) < 256) : (tokN T len (tB T len i) = 0) = (tkS T len i = 40) := tn_gen (by decide) (by decide) (by decide) (by decide) (by decide) (by decide) (sg_all 0 40 (by decide +kernel)) hT
theorem tn_1 {T : Nat → Nat} {len i : Nat} (hT : T (tB T len i) < 256) : (tokN T len (tB T len i) = 1) = (tkS T len i = 39) := tn_gen (by decide) (by decide) (by decide) (by decide) (by decide) (by decide) (sg_all 1 39 (by decide +kernel)) hT
theorem tw_gen {σ : Nat → Int32} {w : Int64} {A : Nat → Nat → Int32} {T : Nat → Nat} {len i K v : Nat} {u : List Nat} (h : TX σ w A T len i) (hK : wds[K]? = some u) (hv : eR u = v) (hs : v < 2 ^ 60) (hu : ∀ c ∈ u, 1 ≤ c ∧ c < 256) : (σ 9 = nI 2 ∧ w = lN v) = (tkS T len i = K) := by
  have hK26 : K < 26 := (List.getElem?_eq_some_iff.mp hK).1
  obtain ⟨hA, hT, h4, hlen, ht⟩ := h
  have h9 := ht.tok
  have htb := hT (tB T len i)
  obtain ⟨h8, h1, h2⟩ := ht
  unfold tkS
  by_cases hl : tB T len i < len
  · obtain ⟨h7, hd, hlt, ho⟩ := h1 hl
    rw [if_pos hl]
    unfold tS
    by_cases lt : isLt (T (tB T len i)) = true
    · obtain ⟨e9, ew⟩ := hlt lt
      rw [if_pos lt, e9, ew]
      have hle : ∀ j, j < tE T len (tB T len i) - tB T len i → isLt (T (tB T len i + j)) = true := fun j hj => by
        rw [tE_lt lt] at hj
        exact spL_in (len := len) (i := tB T len i) (by omega) (by omega)
      have hb := wR_lt (T := T) (a := tB T len i) hT (tE T len (tB T len i) - tB T len i)
      rw [← hv] at hs ⊢
      simp only [true_and]
      exact propext ((pk_lEQ (show wR T (tB T len i) (tE T len (tB T len i) - tB T len i) < 2 ^ 63 by omega) (show eR u < 2 ^ 63 by omega)).trans ((wR_iff hle hu hs).trans (wF_iff hK).symm))
    · rw [if_neg lt]
      have hn : ¬ σ 9 = nI 2 := by
        rw [h9, nI_eq (by have := tokN_lt (len := len) htb; omega) (by decide)]
        unfold tokN
        rw [if_pos hl, if_neg lt]
        have := (tokC_lt (len := len) htb).2
        split <;> omega
      simp only [hn, false_and]
      refine (eq_false ?_).symm
      intro e
      split at e
      · omega
      · by_cases q : isTwo T len (tB T len i)
        · rw [pif_t q] at e
          split at e <;> omega
        · rw [pif_f q] at e
          have := sgn_c (b := T (tB T len i))
          omega
  · rw [if_neg hl, (h2 hl).2]
    simp only [nI_eq (show 0 < 2 ^ 31 by decide) (show 2 < 2 ^ 31 by decide)]
    exact propext ⟨fun e => absurd e.1 (by decide), fun e => by omega⟩
theorem tw_1 {σ : Nat → Int32} {w : Int64} {A : Nat → Nat → Int32} {T : Nat → Nat} {len i : Nat} (h : TX σ w A T len i) : (σ 9 = nI 2 ∧ w = lN 123563682985075) = (tkS T len i = 1) := tw_gen h rfl rfl (by decide) (by decide)
theorem tw_2 {σ : Nat → Int32} {w : Int64} {A : Nat → Nat → Int32} {T : Nat → Nat} {len i : Nat} (h : TX σ w A T len i) : (σ 9 = nI 2 ∧ w = lN 482854658917) = (tkS T len i = 2) := tw_gen h rfl rfl (by decide) (by decide)
theorem tw_3 {σ : Nat → Int32} {w : Int64} {A : Nat → Nat → Int32} {T : Nat → Nat} {len i : Nat} (h : TX σ w A T len i) : (σ 9 = nI 2 ∧ w = lN 1802071652) = (tkS T len i = 3) := tw_gen h rfl rfl (by decide) (by decide)
theorem tw_4 {σ : Nat → Int32} {w : Int64} {A : Nat → Nat → Int32} {T : Nat → Nat} {len i : Nat} (h : TX σ w A T len i) : (σ 9 = nI 2 ∧ w = lN 482670636660) = (tkS T len i = 4) := tw_gen h rfl rfl (by decide) (by decide)
theorem tw_5 {σ : Nat → Int32} {w : Int64} {A : Nat → Nat → Int32} {T : Nat → Nat} {len i : Nat} (h : TX σ w A T len i) : (σ 9 = nI 2 ∧ w = lN 24948) = (tkS T len i = 5) := tw_gen h rfl rfl (by decide) (by decide)
theorem tw_6 {σ : Nat → Int32} {w : Int64} {A : Nat → Nat → Int32} {T : Nat → Nat} {len i : Nat} (h : TX σ w A T len i) : (σ 9 = nI 2 ∧ w = lN 426953501796) = (tkS T len i = 6) := tw_gen h rfl rfl (by decide) (by decide)
theorem tw_7 {σ : Nat → Int32} {w : Int64} {A : Nat → Nat → Int32} {T : Nat → Nat} {len i : Nat} (h : TX σ w A T len i) : (σ 9 = nI 2 ∧ w = lN 1819632491) = (tkS T len i = 7) := tw_gen h rfl rfl (by decide) (by decide)
theorem tw_8 {σ : Nat → Int32} {w : Int64} {A : Nat → Nat → Int32} {T : Nat → Nat} {len i : Nat} (h : TX σ w A T len i) : (σ 9 = nI 2 ∧ w = lN 7501166) = (tkS T len i = 8) := tw_gen h rfl rfl (by decide) (by decide)
theorem tw_9 {σ : Nat → Int32} {w : Int64} {A : Nat → Nat → Int32} {T : Nat → Nat} {len i : Nat} (h : TX σ w A T len i) : (σ 9 = nI 2 ∧ w = lN 1718775661) = (tkS T len i = 9) := tw_gen h rfl rfl (by decide) (by decide)
theorem tw_10 {σ : Nat → Int32} {w : Int64} {A : Nat → Nat → Int32} {T : Nat → Nat} {len i : Nat} (h : TX σ w A T len i) : (σ 9 = nI 2 ∧ w = lN 6518132) = (tkS T len i = 10) := tw_gen h rfl rfl (by decide) (by decide)
theorem tw_11 {σ : Nat → Int32} {w : Int64} {A : Nat → Nat → Int32} {T : Nat → Nat} {len i : Nat} (h : TX σ w A T len i) : (σ 9 = nI 2 ∧ w = lN 6382692) = (tkS T len i = 11) := tw_gen h rfl rfl (by decide) (by decide)
theorem tw_12 {σ : Nat → Int32} {w : Int64} {A : Nat → Nat → Int32} {T : Nat → Nat} {len i : Nat} (h : TX σ w A T len i) : (σ 9 = nI 2 ∧ w = lN 2036687218) = (tkS T len i = 12) := tw_gen h rfl rfl (by decide) (by decide)
theorem tw_13 {σ : Nat → Int32} {w : Int64} {A : Nat → Nat → Int32} {T : Nat → Nat} {len i : Nat} (h : TX σ w A T len i) : (σ 9 = nI 2 ∧ w = lN 491496238692) = (tkS T len i = 13) := tw_gen h rfl rfl (by decide) (by decide)
theorem tw_14 {σ : Nat → Int32} {w : Int64} {A : Nat → Nat → Int32} {T : Nat → Nat} {len i : Nat} (h : TX σ w A T len i) : (σ 9 = nI 2 ∧ w = lN 28518) = (tkS T len i = 14) := tw_gen h rfl rfl (by decide) (by decide)
theorem tw_15 {σ : Nat → Int32} {w : Int64} {A : Nat → Nat → Int32} {T : Nat → Nat} {len i : Nat} (h : TX σ w A T len i) : (σ 9 = nI 2 ∧ w = lN 461330343027) = (tkS T len i = 15) := tw_gen h rfl rfl (by decide) (by decide)
theorem tw_16 {σ : Nat → Int32} {w : Int64} {A : Nat → Nat → Int32} {T : Nat → Nat} {len i : Nat} (h : TX σ w A T len i) : (σ 9 = nI 2 ∧ w = lN 26982) = (tkS T len i = 16) := tw_gen h rfl rfl (by decide) (by decide)
theorem tw_17 {σ : Nat → Int32} {w : Int64} {A : Nat → Nat → Int32} {T : Nat → Nat} {len i : Nat} (h : TX σ w A T len i) : (σ 9 = nI 2 ∧ w = lN 1952998766) = (tkS T len i = 17) := tw_gen h rfl rfl (by decide) (by decide)
theorem tw_18 {σ : Nat → Int32} {w : Int64} {A : Nat → Nat → Int32} {T : Nat → Nat} {len i : Nat} (h : TX σ w A T len i) : (σ 9 = nI 2 ∧ w = lN 1701606245) = (tkS T len i = 18) := tw_gen h rfl rfl (by decide) (by decide)
theorem tw_19 {σ : Nat → Int32} {w : Int64} {A : Nat → Nat → Int32} {T : Nat → Nat} {len i : Nat} (h : TX σ w A T len i) : (σ 9 = nI 2 ∧ w = lN 6647396) = (tkS T len i = 19) := tw_gen h rfl rfl (by decide) (by decide)
theorem tw_20 {σ : Nat → Int32} {w : Int64} {A : Nat → Nat → Int32} {T : Nat → Nat} {len i : Nat} (h : TX σ w A T len i) : (σ 9 = nI 2 ∧ w = lN 28530) = (tkS T len i = 20) := tw_gen h rfl rfl (by decide) (by decide)
theorem tw_21 {σ : Nat → Int32} {w : Int64} {A : Nat → Nat → Int32} {T : Nat → Nat} {len i : Nat} (h : TX σ w A T len i) : (σ 9 = nI 2 ∧ w = lN 6385252) = (tkS T len i = 21) := tw_gen h rfl rfl (by decide) (by decide)
theorem tw_22 {σ : Nat → Int32} {w : Int64} {A : Nat → Nat → Int32} {T : Nat → Nat} {len i : Nat} (h : TX σ w A T len i) : (σ 9 = nI 2 ∧ w = lN 7237492) = (tkS T len i = 22) := tw_gen h rfl rfl (by decide) (by decide)
theorem tw_23 {σ : Nat → Int32} {w : Int64} {A : Nat → Nat → Int32} {T : Nat → Nat} {len i : Nat} (h : TX σ w A T len i) : (σ 9 = nI 2 ∧ w = lN 427071729268) = (tkS T len i = 23) := tw_gen h rfl rfl (by decide) (by decide)
theorem tw_24 {σ : Nat → Int32} {w : Int64} {A : Nat → Nat → Int32} {T : Nat → Nat} {len i : Nat} (h : TX σ w A T len i) : (σ 9 = nI 2 ∧ w = lN 126943972910181) = (tkS T len i = 24) := tw_gen h rfl rfl (by decide) (by decide)
theorem tw_25 {σ : Nat → Int32} {w : Int64} {A : Nat → Nat → Int32} {T : Nat → Nat} {len i : Nat} (h : TX σ w A T len i) : (σ 9 = nI 2 ∧ w = lN 7825519) = (tkS T len i = 25) := tw_gen h rfl rfl (by decide) (by decide)
