def wds : List (List Nat) := [[115, 101, 104, 99, 116, 97, 99], [115, 116, 110, 105, 97, 112], [101, 99, 97, 108, 112], [100, 110, 105, 107], [116, 110, 105, 97, 112], [116, 97], [100, 108, 105, 104, 99], [107, 99, 117, 108], [110, 117, 114], [109, 111, 114, 102], [116, 117, 99], [100, 100, 97], [114, 97, 101, 121], [100, 110, 117, 111, 114], [102, 111], [115, 100, 110, 105, 107], [102, 105], [110, 101, 104, 116], [101, 115, 108, 101], [100, 110, 101], [114, 111], [100, 110, 97], [116, 111, 110], [116, 110, 117, 111, 99], [101, 100, 105, 114, 116, 115], [111, 104, 119]]
/-! tokens, out of the bytes T of a tape so long -/
def isWs (b : Nat) : Bool := b == 32 || b == 10
def isLt (b : Nat) : Bool := (decide (97 ≤ b) && decide (b ≤ 122)) || (decide (65 ≤ b) && decide (b ≤ 90))
def isDg (b : Nat) : Bool := decide (48 ≤ b) && decide (b ≤ 57)
def spn (T : Nat → Nat) (p : Nat → Bool) (len : Nat) : Nat → Nat → Nat
  | 0, i => i
  | f + 1, i => if p (T i) = true then spn T p len f (i + 1) else i
def spL (T : Nat → Nat) (p : Nat → Bool) (len i : Nat) : Nat := spn T p len (len - i) i
theorem spL_eq (T : Nat → Nat) (p : Nat → Bool) (len i : Nat) : spL T p len i = if i < len ∧ p (T i) = true then spL T p len (i + 1) else i := by
  unfold spL
  by_cases h : i < len
  · obtain ⟨f, hf⟩ : ∃ f, len - i = f + 1 := ⟨len - i - 1, by omega⟩
    rw [hf, show len - (i + 1) = f by omega]
    simp only [spn, h, true_and]
  · rw [if_neg (fun q => h q.1), show len - i = 0 by omega]
    rfl
theorem spL_go {T : Nat → Nat} {p : Nat → Bool} {len i : Nat} (h : i < len) (hp : p (T i) = true) : spL T p len i = spL T p len (i + 1) := by rw [spL_eq, if_pos ⟨h, hp⟩]
theorem spL_stop {T : Nat → Nat} {p : Nat → Bool} {len i : Nat} (h : ¬ (i < len ∧ p (T i) = true)) : spL T p len i = i := by rw [spL_eq, if_neg h]
theorem spn_ge (T : Nat → Nat) (p : Nat → Bool) (len : Nat) : ∀ f i, i ≤ spn T p len f i ∧ spn T p len f i ≤ i + f ∧ (spn T p len f i < i + f → p (T (spn T p len f i)) = false) ∧ (∀ k, i ≤ k → k < spn T p len f i → p (T k) = true)
  | 0, i => ⟨Nat.le_refl _, Nat.le_refl _, fun h => absurd h (Nat.lt_irrefl _), fun k h1 h2 => absurd h1 (Nat.not_le.mpr h2)⟩
  | f + 1, i => by
    unfold spn
    split
    · rename_i hp
      obtain ⟨h1, h2, h3, h4⟩ := spn_ge T p len f (i + 1)
      refine ⟨by omega, by omega, fun h => h3 (by omega), fun k k1 k2 => ?_⟩
      by_cases e : k = i
      · rw [e]; exact hp
      · exact h4 k (by omega) k2
    · rename_i hp
      exact ⟨by omega, by omega, fun _ => by simpa using hp, fun k k1 k2 => by omega⟩
theorem spL_ge (T : Nat → Nat) (p : Nat → Bool) (len i : Nat) : i ≤ spL T p len i := (spn_ge T p len (len - i) i).1
theorem spL_le {T : Nat → Nat} {p : Nat → Bool} {len i : Nat} (h : i ≤ len) : spL T p len i ≤ len := by
  have := (spn_ge T p len (len - i) i).2.1
  unfold spL; omega
theorem spL_end {T : Nat → Nat} {p : Nat → Bool} {len i : Nat} (h : i ≤ len) (hl : spL T p len i < len) : p (T (spL T p len i)) = false := (spn_ge T p len (len - i) i).2.2.1 (by unfold spL at hl; omega)
theorem spL_in {T : Nat → Nat} {p : Nat → Bool} {len i k : Nat} (h1 : i ≤ k) (h2 : k < spL T p len i) : p (T k) = true := (spn_ge T p len (len - i) i).2.2.2 k h1 h2
/-- so many letters from a place on, the last one first -/
def lR (T : Nat → Nat) (a : Nat) : Nat → List Nat
  | 0 => []
  | k + 1 => T (a + k) :: lR T a k
def wFind : List (List Nat) → Nat → List Nat → Nat
  | [], _, _ => 41
  | w :: ws, k, U => if w = U then k else wFind ws (k + 1) U
def nV (T : Nat → Nat) (a : Nat) : Nat → Nat
  | 0 => 0
  | k + 1 => min (10 * nV T a k + (T (a + k) - 48)) 10000
def sgn (b : Nat) : Nat := if b = 60 then 26 else if b = 62 then 27 else if b = 61 then 28 else if b = 35 then 29 else if b = 43 then 30 else if b = 45 then 31 else if b = 42 then 32 else if b = 47 then 33 else if b = 40 then 34 else if b = 41 then 35 else if b = 59 then 36 else 41
def isTwo (T : Nat → Nat) (len p : Nat) : Prop := (T p = 60 ∨ T p = 62) ∧ p + 1 < len ∧ T (p + 1) = 61
noncomputable def tE (T : Nat → Nat) (len p : Nat) : Nat := if isLt (T p) = true then spL T isLt len p else if isDg (T p) = true then spL T isDg len p else pif (isTwo T len p) (p + 2) (p + 1)
noncomputable def tS (T : Nat → Nat) (len p : Nat) : Nat := if isLt (T p) = true then wFind wds 0 (lR T p (tE T len p - p)) else if isDg (T p) = true then 39 else pif (isTwo T len p) (if T p = 60 then 37 else 38) (sgn (T p))
noncomputable def tV (T : Nat → Nat) (len p : Nat) : Nat := if isLt (T p) = true then 0 else if isDg (T p) = true then nV T p (tE T len p - p) else 0
noncomputable def tP (T : Nat → Nat) (len : Nat) : Nat → Nat
  | 0 => 0
  | i + 1 => if spL T isWs len (tP T len i) < len then tE T len (spL T isWs len (tP T len i)) else spL T isWs len (tP T len i)
/-- where the i-th token begins -/
noncomputable def tB (T : Nat → Nat) (len i : Nat) : Nat := spL T isWs len (tP T len i)
noncomputable def tkS (T : Nat → Nat) (len i : Nat) : Nat := if tB T len i < len then tS T len (tB T len i) else 40
noncomputable def tkV (T : Nat → Nat) (len i : Nat) : Nat := if tB T len i < len then tV T len (tB T len i) else 0
theorem tE_gt {T : Nat → Nat} {len p : Nat} (h : p < len) : p < tE T len p ∧ tE T len p ≤ len := by
  unfold tE
  split
  · rename_i hl
    rw [spL_go h hl]
    have := spL_ge T isLt len (p + 1)
    have := spL_le (T := T) (p := isLt) (show p + 1 ≤ len from h)
    omega
  · split
    · rename_i hl
      rw [spL_go h hl]
      have := spL_ge T isDg len (p + 1)
      have := spL_le (T := T) (p := isDg) (show p + 1 ≤ len from h)
      omega
    · by_cases q : isTwo T len p
      · rw [pif_t q]
        have := q.2.1
        omega
      · rw [pif_f q]; omega
theorem tP_le (T : Nat → Nat) (len : Nat) : ∀ i, tP T len i ≤ len
  | 0 => Nat.zero_le _
  | i + 1 => by
    unfold tP
    split
    · rename_i h
      exact (tE_gt h).2
    · exact spL_le (tP_le T len i)
theorem tB_le (T : Nat → Nat) (len i : Nat) : tB T len i ≤ len := spL_le (tP_le T len i)
theorem tP_s {T : Nat → Nat} {len i : Nat} (h : tB T len i < len) : tP T len (i + 1) = tE T len (tB T len i) := if_pos h
theorem tB_end {T : Nat → Nat} {len i : Nat} (h : ¬ tB T len i < len) : tB T len (i + 1) = len := by
  have e : tP T len (i + 1) = tB T len i := if_neg h
  have h2 := tB_le T len i
  unfold tB
  rw [e, spL_stop (by omega)]
  omega
theorem tP_ge {T : Nat → Nat} {len : Nat} : ∀ i, tB T len i < len → i ≤ tP T len i
  | 0, _ => Nat.zero_le _
  | i + 1, h => by
    by_cases h0 : tB T len i < len
    · have h1 := tP_ge i h0
      have h2 := spL_ge T isWs len (tP T len i)
      rw [tP_s h0]
      have h3 := (tE_gt (T := T) h0).1
      unfold tB at h3 ⊢
      omega
    · rw [tB_end h0] at h
      exact absurd h (Nat.lt_irrefl _)
theorem tkS_end {T : Nat → Nat} {len j : Nat} (h : len ≤ j) : tkS T len j = 40 := by
  unfold tkS
  by_cases h0 : tB T len j < len
  · have := tP_ge j h0
    have := spL_ge T isWs len (tP T len j)
    unfold tB at h0
    omega
  · rw [if_neg h0]
theorem wF_of : ∀ (ws : List (List Nat)) (k : Nat) (U : List Nat) (r : Nat), wFind ws k U = r → r = 41 ∨ (k ≤ r ∧ ws[r - k]? = some U)
  | [], k, U, r, h => Or.inl h.symm
  | w :: ws, k, U, r, h => by
    unfold wFind at h
    split at h
    · rename_i e
      refine Or.inr ⟨by omega, ?_⟩
      rw [← h, Nat.sub_self, e]
      rfl
    · rcases wF_of ws (k + 1) U r h with h1 | ⟨h1, h2⟩
      · exact Or.inl h1
      · refine Or.inr ⟨by omega, ?_⟩
        rw [show r - k = (r - (k + 1)) + 1 by omega, List.getElem?_cons_succ]
        exact h2
theorem wF_at : ∀ (ws : List (List Nat)) (k j : Nat) (U : List Nat), ws.Nodup → ws[j]? = some U → wFind ws k U = k + j
  | [], k, j, U, _, h => by simp at h
  | w :: ws, k, 0, U, _, h => by
    simp only [List.getElem?_cons_zero, Option.some.injEq] at h
    unfold wFind
    rw [if_pos h]; rfl
  | w :: ws, k, j + 1, U, hn, h => by
    rw [List.getElem?_cons_succ] at h
    have hn' := List.nodup_cons.mp hn
    unfold wFind
    rw [if_neg (fun e => hn'.1 (by rw [e]; exact List.mem_of_getElem? h)), wF_at ws (k + 1) j U hn'.2 h]
    omega
theorem wF_iff {K : Nat} {w U : List Nat} (hK : wds[K]? = some w) : wFind wds 0 U = K ↔ U = w := by
  have hl : K < 26 := (List.getElem?_eq_some_iff.mp hK).1
  constructor
  · intro h
    rcases wF_of wds 0 U K h with h1 | ⟨h1, h2⟩
    · omega
    · rw [Nat.sub_zero, hK] at h2
      exact (Option.some.inj h2).symm
  · intro h
    rw [wF_at wds 0 K U (by decide) (by rw [hK, h])]
    omega
theorem wF_le (U : List Nat) : wFind wds 0 U < 26 ∨ wFind wds 0 U = 41 := by
  rcases wF_of wds 0 U _ rfl with h | ⟨_, h⟩
  · exact Or.inr h
  · exact Or.inl (List.getElem?_eq_some_iff.mp h).1
/-- the reference's number and word -/
def nR (T : Nat → Nat) (a : Nat) : Nat → Nat
  | 0 => 0
  | k + 1 => if 99999 < nR T a k then nR T a k else 10 * nR T a k + (T (a + k) - 48)
theorem nR_nV {T : Nat → Nat} {a : Nat} : ∀ k, (∀ j, j < k → isDg (T (a + j)) = true) → nV T a k = min (nR T a k) 10000 ∧ nR T a k ≤ 1000008
  | 0, _ => ⟨rfl, by simp [nR]⟩
  | k + 1, h => by
    obtain ⟨h1, h2⟩ := nR_nV k (fun j hj => h j (by omega))
    have hd := h k (by omega)
    simp only [isDg, Bool.and_eq_true, decide_eq_true_eq] at hd
    unfold nV nR
    rw [h1]
    split <;> omega
def eR : List Nat → Nat
  | [] => 0
  | c :: r => eR r * 256 + c
theorem eR_inj : ∀ (a b : List Nat), (∀ c ∈ a, 1 ≤ c ∧ c < 256) → (∀ c ∈ b, 1 ≤ c ∧ c < 256) → eR a = eR b → a = b
  | [], [], _, _, _ => rfl
  | [], c :: b, _, hb, h => by
    have := hb c (by simp)
    simp only [eR] at h
    omega
  | c :: a, [], ha, _, h => by
    have := ha c (by simp)
    simp only [eR] at h
    omega
  | c :: a, d :: b, ha, hb, h => by
    have h1 := ha c (by simp)
    have h2 := hb d (by simp)
    simp only [eR] at h
    have e1 : c = d := by omega
    have e2 : eR a = eR b := by omega
    rw [e1, eR_inj a b (fun x hx => ha x (by simp [hx])) (fun x hx => hb x (by simp [hx])) e2]
def wR (T : Nat → Nat) (a : Nat) : Nat → Nat
  | 0 => 0
  | k + 1 => if 2 ^ 48 ≤ wR T a k then 2 ^ 60 else wR T a k * 256 + T (a + k)
theorem lR_mem {T : Nat → Nat} {a : Nat} : ∀ k, (∀ j, j < k → isLt (T (a + j)) = true) → ∀ c ∈ lR T a k, 1 ≤ c ∧ c < 256
  | 0, _, c, h => by simp [lR] at h
  | k + 1, hl, c, h => by
    simp only [lR, List.mem_cons] at h
    rcases h with h | h
    · have := hl k (by omega)
      simp only [isLt, Bool.or_eq_true, Bool.and_eq_true, decide_eq_true_eq] at this
      omega
    · exact lR_mem k (fun j hj => hl j (by omega)) c h
theorem eR_lt {T : Nat → Nat} {a : Nat} : ∀ k, (∀ j, j < k → isLt (T (a + j)) = true) → eR (lR T a k) < 256 ^ k ∧ (1 ≤ k → 65 * 256 ^ (k - 1) ≤ eR (lR T a k))
  | 0, _ => ⟨by simp [lR, eR], fun h => absurd h (by decide)⟩
  | k + 1, hl => by
    obtain ⟨h1, h2⟩ := eR_lt k (fun j hj => hl j (by omega))
    have h3 := hl k (by omega)
    simp only [isLt, Bool.or_eq_true, Bool.and_eq_true, decide_eq_true_eq] at h3
    simp only [lR, eR, Nat.pow_succ, Nat.add_sub_cancel]
    refine ⟨by omega, fun _ => ?_⟩
    rcases k with _ | k
    · simp [lR, eR] at *; omega
    · have := h2 (by omega)
      simp only [Nat.add_sub_cancel] at this
      rw [Nat.pow_succ]
      omega
theorem wR_eq {T : Nat → Nat} {a : Nat} : ∀ k, (∀ j, j < k → isLt (T (a + j)) = true) → (k ≤ 7 → wR T a k = eR (lR T a k)) ∧ (8 ≤ k → wR T a k = 2 ^ 60)
  | 0, _ => ⟨fun _ => rfl, fun h => absurd h (by decide)⟩
  | k + 1, hl => by
    obtain ⟨h1, h2⟩ := wR_eq k (fun j hj => hl j (by omega))
    obtain ⟨h3, h4⟩ := eR_lt k (fun j hj => hl j (by omega))
    refine ⟨fun h => ?_, fun h => ?_⟩
    · unfold wR
      have e := h1 (by omega)
      have : 256 ^ k ≤ 256 ^ 6 := Nat.pow_le_pow_right (by decide) (by omega)
      rw [if_neg (by rw [e]; omega), e]
      rfl
    · unfold wR
      by_cases hk : k ≤ 7
      · have e := h1 hk
        have hk7 : k = 7 := by omega
        subst hk7
        have := h4 (by omega)
        rw [if_pos (by rw [e]; omega)]
      · rw [h2 (by omega), if_pos (by decide)]
theorem wR_iff {T : Nat → Nat} {a k : Nat} {w : List Nat} (hl : ∀ j, j < k → isLt (T (a + j)) = true) (hw : ∀ c ∈ w, 1 ≤ c ∧ c < 256) (hs : eR w < 2 ^ 60) : wR T a k = eR w ↔ lR T a k = w := by
  obtain ⟨h1, h2⟩ := wR_eq k hl
  obtain ⟨h3, h4⟩ := eR_lt k hl
  by_cases hk : k ≤ 7
  · rw [h1 hk]
    exact ⟨fun h => eR_inj _ _ (lR_mem k hl) hw h, fun h => by rw [h]⟩
  · rw [h2 (by omega)]
    refine ⟨fun h => by omega, fun h => ?_⟩
    have := h4 (by omega)
    have : 256 ^ 7 ≤ 256 ^ (k - 1) := Nat.pow_le_pow_right (by decide) (by omega)
    have h5 : (256 : Nat) ^ 7 = 2 ^ 56 := by decide
    rw [h] at h4
    have := h4 (by omega)
    omega
theorem wR_lt {T : Nat → Nat} {a : Nat} (hb : ∀ j, T j < 256) : ∀ k, wR T a k ≤ 2 ^ 60
  | 0 => by simp [wR]
  | k + 1 => by
    have := hb (a + k)
    unfold wR
    split <;> omega
