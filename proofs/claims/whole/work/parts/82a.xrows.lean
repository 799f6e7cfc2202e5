/-! the class's steps: the rows that are made when first needed -/
abbrev Sqd : Type := (Nat → Int32) × (Nat → Nat → Int32)
def sqAt (C : gC) (r : Nat) (d : Sqd) : Prop := C r = some (.inr (5, Sqfs r d.1)) ∧ C (r + 1) = some (.inl (0, 30, .inl (d.2 1))) ∧ C (r + 2) = some (.inl (0, 30, .inl (d.2 2))) ∧ C (r + 3) = some (.inl (0, 7, .inl (d.2 3))) ∧ C (r + 4) = some (.inl (0, 120, .inl (d.2 4)))
theorem sqAt_E {C : gC} {r : Nat} {d : Sqd} (h : sqAt C r d) : C = SqE r d.1 d.2 C := by
  obtain ⟨h0, h1, h2, h3, h4⟩ := h
  funext q
  unfold SqE
  by_cases e0 : q = r
  · rw [if_pos e0, e0, h0]
  · rw [if_neg e0]
    by_cases e1 : q = r + 1
    · rw [if_pos e1, e1, h1]
    · rw [if_neg e1]
      by_cases e2 : q = r + 2
      · rw [if_pos e2, e2, h2]
      · rw [if_neg e2]
        by_cases e3 : q = r + 3
        · rw [if_pos e3, e3, h3]
        · rw [if_neg e3]
          by_cases e4 : q = r + 4
          · rw [if_pos e4, e4, h4]
          · rw [if_neg e4]
theorem sqAt_s {σ : Nat → Int32} {A : Nat → Nat → Int32} {R : gC} {r : Nat} : sqAt (SqE r σ A R) r (σ, A) := ⟨Sq_0, Sq_1, Sq_2, Sq_3, Sq_4⟩
theorem sqAt_k {C C' : gC} {r : Nat} {d : Sqd} (h : sqAt C r d) (e : ∀ k, k < 5 → C' (r + k) = C (r + k)) : sqAt C' r d := by
  obtain ⟨h0, h1, h2, h3, h4⟩ := h
  exact ⟨(e 0 (by decide)).trans h0, (e 1 (by decide)).trans h1, (e 2 (by decide)).trans h2, (e 3 (by decide)).trans h3, (e 4 (by decide)).trans h4⟩
def sqEq (d e : Sqd) : Prop := d.1 4 = e.1 4 ∧ d.1 5 = e.1 5 ∧ d.1 6 = e.1 6 ∧ (∀ j, j < 30 → d.2 1 j = e.2 1 j) ∧ (∀ j, j < 30 → d.2 2 j = e.2 2 j) ∧ (∀ j, j < 7 → d.2 3 j = e.2 3 j) ∧ (∀ b, b ≤ 30 → e.1 4 = nI b → ∀ j, j < 4 * b → d.2 4 j = e.2 4 j)
theorem sqEq_r (d : Sqd) : sqEq d d := ⟨rfl, rfl, rfl, fun _ _ => rfl, fun _ _ => rfl, fun _ _ => rfl, fun _ _ _ _ _ => rfl⟩
theorem sqEq_t {d e f : Sqd} (h : sqEq d e) (g : sqEq e f) : sqEq d f := by
  obtain ⟨a1, a2, a3, a4, a5, a6, a7⟩ := h
  obtain ⟨b1, b2, b3, b4, b5, b6, b7⟩ := g
  exact ⟨a1.trans b1, a2.trans b2, a3.trans b3, fun j hj => (a4 j hj).trans (b4 j hj), fun j hj => (a5 j hj).trans (b5 j hj), fun j hj => (a6 j hj).trans (b6 j hj), fun b hb e j hj => (a7 b hb (b1.trans e) j hj).trans (b7 b hb e j hj)⟩
theorem cpy_lt {f g : Nat → Int32} {N j : Nat} (h : j < N) : va_cpy f g 0 0 N j = f j := by
  unfold va_cpy
  rw [if_pos (by omega), Nat.zero_add, Nat.sub_zero]
theorem sqEq_cp {σ σ2 : Nat → Int32} {A A2 : Nat → Nat → Int32} {b : Nat} (hb : b ≤ 30) (h : σ2 4 = nI b) : sqEq (cpS σ σ2, cpA A A2 b) (σ2, A2) := by
  refine ⟨rfl, rfl, rfl, fun j hj => ?_, fun j hj => ?_, fun j hj => ?_, fun b' hb' e j hj => ?_⟩
  · exact cpy_lt hj
  · exact cpy_lt hj
  · exact cpy_lt hj
  · have : b' = b := (nI_eq (by omega) (by omega)).mp (e.symm.trans h)
    subst this
    exact cpy_lt hj
def RwS (T : Nat → Option Nat) (S : Nat → Sqd) (lo n : Nat) (C : gC) : Prop := ∀ i, i < 60 → ∀ r, T i = some r → lo ≤ r ∧ r + 5 ≤ n ∧ sqAt C r (S i) ∧ ∀ j, j < 60 → j ≠ i → ∀ r', T j = some r' → r + 5 ≤ r' ∨ r' + 5 ≤ r
def offT (T : Nat → Option Nat) (q : Nat) : Prop := ∀ i, i < 60 → ∀ r, T i = some r → q < r ∨ r + 5 ≤ q
def nul (T : Nat → Option Nat) : Nat := howmany (fun i => (T i).isNone) 60
theorem RwS_same {T : Nat → Option Nat} {S : Nat → Sqd} {lo n : Nat} {C C' : gC} (h : RwS T S lo n C) (e : ∀ q, lo ≤ q → q < n → C' q = C q) : RwS T S lo n C' := fun i hi r hr => by
  obtain ⟨h1, h2, h3, h4⟩ := h i hi r hr
  exact ⟨h1, h2, sqAt_k h3 fun k hk => e _ (by omega) (by omega), h4⟩
/-- a row is written anew -/
theorem RwS_put {T : Nat → Option Nat} {S : Nat → Sqd} {lo n i r : Nat} {C : gC} {d : Sqd} (h : RwS T S lo n C) (hi : i < 60) (hr : T i = some r) : RwS T (sup S i d) lo n (SqE r d.1 d.2 C) := fun j hj r' hr' => by
  obtain ⟨h1, h2, h3, h4⟩ := h j hj r' hr'
  refine ⟨h1, h2, ?_, h4⟩
  by_cases e : j = i
  · subst e
    rw [hr] at hr'
    cases hr'
    rw [sup_same]
    exact sqAt_s
  · rw [sup_ne e]
    have := h4 i hi (fun q => e q.symm) r hr
    exact sqAt_k h3 fun k hk => Sq_out (by omega)
/-- a row is made -/
theorem RwS_new {T : Nat → Option Nat} {S : Nat → Sqd} {lo n i : Nat} {C : gC} {d : Sqd} (h : RwS T S lo n C) (hlo : lo ≤ n) (hi : i < 60) (hr : T i = none) : RwS (va_up T i (some n)) (sup S i d) lo (n + 5) (SqE n d.1 d.2 C) := fun j hj r' hr' => by
  unfold va_up at hr'
  by_cases e : j = i
  · subst e
    rw [if_pos rfl] at hr'
    cases hr'
    refine ⟨hlo, Nat.le_refl _, by rw [sup_same]; exact sqAt_s, fun k hk hkj r hkr => ?_⟩
    unfold va_up at hkr
    rw [if_neg hkj] at hkr
    obtain ⟨h1, h2, h3, h4⟩ := h k hk r hkr
    exact .inr h2
  · rw [if_neg e] at hr'
    obtain ⟨h1, h2, h3, h4⟩ := h j hj r' hr'
    refine ⟨h1, by omega, by rw [sup_ne e]; exact sqAt_k h3 fun k hk => Sq_out (by omega), fun k hk hkj r hkr => ?_⟩
    unfold va_up at hkr
    by_cases e2 : k = i
    · rw [if_pos e2] at hkr
      cases hkr
      exact .inl h2
    · rw [if_neg e2] at hkr
      exact h4 k hk hkj r hkr
theorem hm_ext {B B' : Nat → Bool} : ∀ N, (∀ j, j < N → B j = B' j) → howmany B N = howmany B' N
  | 0, _ => rfl
  | N + 1, h => by
    have ih := hm_ext N (fun j hj => h j (by omega))
    have e := h N (by omega)
    cases q : B N
    · rw [howmany_f q, howmany_f (e ▸ q), ih]
    · rw [howmany_t q, howmany_t (e ▸ q), ih]
theorem hm_one {B B' : Nat → Bool} {i : Nat} (h1 : B i = true) (h2 : B' i = false) (h : ∀ j, j ≠ i → B j = B' j) : ∀ N, i < N → howmany B N = howmany B' N + 1
  | 0, q => absurd q (Nat.not_lt_zero _)
  | N + 1, q => by
    by_cases e : N = i
    · subst e
      rw [howmany_t h1, howmany_f h2, hm_ext N (fun j hj => h j (by omega))]
    · have ih := hm_one h1 h2 h N (by omega)
      have e2 := h N e
      cases q : B N
      · rw [howmany_f q, howmany_f (e2 ▸ q), ih]
      · rw [howmany_t q, howmany_t (e2 ▸ q), ih]
theorem nul_up {T : Nat → Option Nat} {i r : Nat} (hi : i < 60) (h : T i = none) : nul T = nul (va_up T i (some r)) + 1 := hm_one (by rw [h]; rfl) (by unfold va_up; rw [if_pos rfl]; rfl) (fun j hj => by unfold va_up; rw [if_neg hj]) 60 hi
def stAt (C : gC) (s f k : Nat) (P : Nat → Option Nat) : Prop := C s = some (.inr (7, [.ref (s + 1), .int (nI f), .int (nI k)])) ∧ C (s + 1) = some (.inl (3, 30, .inr (.inr (.inr (.inr P)))))
theorem StE_is {s : Nat} {σ : Nat → Int32} {P : Nat → Option Nat} {R : gC} : StE s σ P R s = some (.inr (7, [.ref (s + 1), .int (σ 1), .int (σ 2)])) := if_pos rfl
theorem StE_1 {s : Nat} {σ : Nat → Int32} {P : Nat → Option Nat} {R : gC} : StE s σ P R (s + 1) = some (.inl (3, 30, .inr (.inr (.inr (.inr P))))) := by
  unfold StE
  rw [if_neg (by omega), if_pos rfl]
theorem StE_o {s q : Nat} {σ : Nat → Int32} {P : Nat → Option Nat} {R : gC} (h : q < s ∨ s + 1 < q) : StE s σ P R q = R q := by
  unfold StE
  rw [if_neg (by omega), if_neg (by omega)]
theorem Stf_0 {s : Nat} {σ : Nat → Int32} {P : Nat → Option Nat} {R : gC} : gfld (StE s σ P R) s 7 0 = some (.ref (s + 1)) := by rw [gfld, StE_is]; rfl
theorem Stf_1 {s : Nat} {σ : Nat → Int32} {P : Nat → Option Nat} {R : gC} : gfld (StE s σ P R) s 7 1 = some (.int (σ 1)) := by rw [gfld, StE_is]; rfl
theorem Stf_2 {s : Nat} {σ : Nat → Int32} {P : Nat → Option Nat} {R : gC} : gfld (StE s σ P R) s 7 2 = some (.int (σ 2)) := by rw [gfld, StE_is]; rfl
theorem St_gup {s a : Nat} {σ σ' : Nat → Int32} {P P' : Nat → Option Nat} {R : gC} {x : gE} (h1 : StE s σ' P' R a = some x) (h2 : ∀ q, q ≠ a → StE s σ' P' R q = StE s σ P R q) : gup (StE s σ P R) a x = StE s σ' P' R := by
  funext q
  unfold gup
  by_cases h : q = a
  · rw [if_pos h, h, h1]
  · rw [if_neg h, h2 q h]
theorem Sts_1 {s : Nat} {σ : Nat → Int32} {P : Nat → Option Nat} {R : gC} {v : Int32} : gsetf (StE s σ P R) s 1 (.int v) = StE s (sup σ 1 v) P R := by
  rw [gsetf_of StE_is]
  refine St_gup (by rw [StE_is]; simp [sup]) fun q hq => ?_
  unfold StE
  rw [if_neg hq, if_neg hq]
theorem Sts_2 {s : Nat} {σ : Nat → Int32} {P : Nat → Option Nat} {R : gC} {v : Int32} : gsetf (StE s σ P R) s 2 (.int v) = StE s (sup σ 2 v) P R := by
  rw [gsetf_of StE_is]
  refine St_gup (by rw [StE_is]; simp [sup]) fun q hq => ?_
  unfold StE
  rw [if_neg hq, if_neg hq]
theorem Stu {s : Nat} {σ : Nat → Int32} {P f : Nat → Option Nat} {R : gC} : gup (StE s σ P R) (s + 1) (.inl (3, 30, .inr (.inr (.inr (.inr f))))) = StE s σ f R := by
  refine St_gup StE_1 fun q hq => ?_
  unfold StE
  rw [if_neg hq, if_neg hq]
theorem stAt_E {C : gC} {s f k : Nat} {P : Nat → Option Nat} (h : stAt C s f k P) : C = StE s (fun j => if j = 1 then nI f else nI k) P C := by
  obtain ⟨h0, h1⟩ := h
  funext q
  unfold StE
  by_cases e0 : q = s
  · rw [if_pos e0, e0, h0]; rfl
  · rw [if_neg e0]
    by_cases e1 : q = s + 1
    · rw [if_pos e1, e1, h1]
    · rw [if_neg e1]
