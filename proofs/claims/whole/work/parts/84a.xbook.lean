/-! the square and the state a: what a run does to both -/
theorem ent_0 {y c p k : Nat} (hy : y ≤ 9999) (hc : c < 7) (hp : p < 30) (hk : k ≤ 60) : entF (nI (((y * 7 + c) * 30 + p) * 61 + k)) (nI 0) = nI y := by
  unfold entF
  rw [if_pos rfl, pk_div (by omega) (by decide) (by decide)]
  congr 1
  omega
theorem ent_1 {y c p k : Nat} (hy : y ≤ 9999) (hc : c < 7) (hp : p < 30) (hk : k ≤ 60) : entF (nI (((y * 7 + c) * 30 + p) * 61 + k)) (nI 1) = nI c := by
  unfold entF
  rw [if_neg (by decide), if_pos rfl, pk_div (by omega) (by decide) (by decide), pk_rem (by omega) (by decide) (by decide)]
  congr 1
  omega
theorem ent_2 {y c p k : Nat} (hy : y ≤ 9999) (hc : c < 7) (hp : p < 30) (hk : k ≤ 60) : entF (nI (((y * 7 + c) * 30 + p) * 61 + k)) (nI 2) = nI p := by
  unfold entF
  rw [if_neg (by decide), if_neg (by decide), if_pos rfl, pk_div (by omega) (by decide) (by decide), pk_rem (by omega) (by decide) (by decide)]
  congr 1
  omega
theorem ent_3 {y c p k : Nat} (hy : y ≤ 9999) (hc : c < 7) (hp : p < 30) (hk : k ≤ 60) : entF (nI (((y * 7 + c) * 30 + p) * 61 + k)) (nI 3) = nI k := by
  unfold entF
  rw [if_neg (by decide), if_neg (by decide), if_neg (by decide), pk_rem (by omega) (by decide) (by decide)]
  congr 1
  omega
/-- the square X + j is the square of the state a; wr: its book too -/
def SqR (wr : Bool) (σ : Nat → Nat → Int32) (A : Nat → Nat → Int32) (j ch : Nat) (a : Nat → Int32) : Prop := SqK σ A j a ∧ σ j 6 = a 7 ∧ (∀ c, c < 7 → A (j + 3) c = if c < ch then a (69 + c) else -nI 1) ∧ ∃ b, b ≤ 30 ∧ σ j 4 = nI b ∧ (wr = true → a 8 = nI b ∧ ∀ i, i < b → ∀ k, k < 4 → A (j + 4) (4 * i + k) = entF (a (3175 + i)) (nI k))
theorem wrF_lt {a : Nat → Int32} {b c p i : Nat} (hb : b < 30) (hi : i < 30) : wrF a b c p (3175 + i) = if i = b then wrV a c p else a (3175 + i) := by
  unfold wrF
  rw [if_neg (by omega), pk_un (by omega)]
  by_cases h : i = b
  · rw [if_pos h, h, pk_us]
  · rw [if_neg h, pk_un (by omega)]
theorem wrF_30 {a : Nat → Int32} {c p i : Nat} (hi : i < 30) : wrF a 30 c p (3175 + i) = if i = 29 then wrV a c p else a (3175 + (i + 1)) := by
  unfold wrF
  rw [if_pos rfl, pk_un (by omega)]
  by_cases h : i = 29
  · rw [if_pos h, h, pk_us]
  · rw [if_neg h, pk_un (by omega), pk_un (by omega)]
    unfold shB
    rw [if_pos (by omega)]
    rfl
theorem putB_n {f : Nat → Int32} {b i k : Nat} {yr x y u : Int32} (h : i ≠ b) (hk : k < 4) : putB f b yr x y u (4 * i + k) = f (4 * i + k) := by
  unfold putB
  rw [pk_un (by omega), pk_un (by omega), pk_un (by omega), pk_un (by omega)]
theorem putB_s {f : Nat → Int32} {b k : Nat} {yr x y u : Int32} (hk : k < 4) : putB f b yr x y u (4 * b + k) = if k = 0 then yr else if k = 1 then x else if k = 2 then y else u := by
  unfold putB
  have : k = 0 ∨ k = 1 ∨ k = 2 ∨ k = 3 := by omega
  rcases this with rfl | rfl | rfl | rfl
  · rw [pk_un (by omega), pk_un (by omega), pk_un (by omega), Nat.add_zero, pk_us]; rfl
  · rw [pk_un (by omega), pk_un (by omega), pk_us]; rfl
  · rw [pk_un (by omega), pk_us]; rfl
  · rw [pk_us]; rfl
theorem ent_w {a : Nat → Int32} {y c p k i : Nat} (h6 : a 6 = nI y) (h69 : a (69 + c) = nI k) (hy : y ≤ 9999) (hc : c < 7) (hp : p < 30) (hk : k ≤ 60) (hi : i < 4) : entF (wrV a c p) (nI i) = if i = 0 then nI y else if i = 1 then nI c else if i = 2 then nI p else nI k := by
  have e : wrV a c p = nI (((y * 7 + c) * 30 + p) * 61 + k) := by
    unfold wrV
    rw [h6, h69, pk_mul, nI_add, pk_mul, nI_add, pk_mul, nI_add]
  rw [e]
  have : i = 0 ∨ i = 1 ∨ i = 2 ∨ i = 3 := by omega
  rcases this with rfl | rfl | rfl | rfl
  · exact ent_0 hy hc hp hk
  · exact ent_1 hy hc hp hk
  · exact ent_2 hy hc hp hk
  · exact ent_3 hy hc hp hk
/-- the book after a run -/
theorem book_w {f g : Nat → Int32} {a : Nat → Int32} {b y c p k : Nat} (hb : b ≤ 30) (h6 : a 6 = nI y) (h69 : a (69 + c) = nI k) (hy : y ≤ 9999) (hc : c < 7) (hp : p < 30) (hk : k ≤ 60) (hB : ∀ i, i < b → ∀ k, k < 4 → f (4 * i + k) = entF (a (3175 + i)) (nI k)) (hg1 : b < 30 → g = putB f b (nI y) (nI c) (nI p) (nI k)) (hg2 : b = 30 → g = putB (va_cpy f f 4 0 116) 29 (nI y) (nI c) (nI p) (nI k)) : ∀ i, i < (if b = 30 then 30 else b + 1) → ∀ k, k < 4 → g (4 * i + k) = entF (wrF a b c p (3175 + i)) (nI k) := by
  intro i hi kk hkk
  by_cases h30 : b = 30
  · rw [if_pos h30] at hi
    subst h30
    rw [hg2 rfl, wrF_30 hi]
    by_cases hi9 : i = 29
    · rw [if_pos hi9, hi9, putB_s hkk, ent_w h6 h69 hy hc hp hk hkk]
    · rw [if_neg hi9, putB_n hi9 hkk]
      unfold va_cpy
      rw [if_pos (by omega), ← hB (i + 1) (by omega) kk hkk]
      congr 1
      omega
  · rw [if_neg h30] at hi
    rw [hg1 (by omega), wrF_lt (by omega) (by omega)]
    by_cases hib : i = b
    · rw [if_pos hib, hib, putB_s hkk, ent_w h6 h69 hy hc hp hk hkk]
    · rw [if_neg hib, putB_n hib hkk]
      exact hB i (by omega) kk hkk
section XQ
variable {X j : Nat} {σ : Nat → Nat → Int32} {ρ : Nat → Value} {A : Nat → Nat → Int32} {P : Nat → Nat → Option Nat} {R : gC}
def sq2 (j : Nat) : Prop := j = 2 ∨ j = 50
theorem sq2_3 (h : sq2 j) : sq3 j := by rcases h with h | h <;> simp [sq3, h]
theorem xq_0 (h : sq2 j) : xE X σ ρ A P R (X + j) = some (.inr (5, xfs X σ ρ j)) := by rcases h with rfl | rfl <;> first | exact x_2 | exact x_50
theorem xq_1 (h : sq2 j) : xE X σ ρ A P R (X + j + 1) = some (.inl (0, 30, .inl (A (j + 1)))) := by rcases h with rfl | rfl <;> first | exact x_3 | exact x_51
theorem xq_2 (h : sq2 j) : xE X σ ρ A P R (X + j + 2) = some (.inl (0, 30, .inl (A (j + 2)))) := by rcases h with rfl | rfl <;> first | exact x_4 | exact x_52
theorem xq_3 (h : sq2 j) : xE X σ ρ A P R (X + j + 3) = some (.inl (0, 7, .inl (A (j + 3)))) := by rcases h with rfl | rfl <;> first | exact x_5 | exact x_53
theorem xq_f0 (h : sq2 j) : gfld (xE X σ ρ A P R) (X + j) 5 0 = some (.ref (X + j + 1)) := by rcases h with rfl | rfl <;> first | exact xf_2_0 | exact xf_50_0
theorem xq_f1 (h : sq2 j) : gfld (xE X σ ρ A P R) (X + j) 5 1 = some (.ref (X + j + 2)) := by rcases h with rfl | rfl <;> first | exact xf_2_1 | exact xf_50_1
theorem xq_f2 (h : sq2 j) : gfld (xE X σ ρ A P R) (X + j) 5 2 = some (.ref (X + j + 3)) := by rcases h with rfl | rfl <;> first | exact xf_2_2 | exact xf_50_2
theorem xq_f5 (h : sq2 j) : gfld (xE X σ ρ A P R) (X + j) 5 5 = some (.int (σ j 5)) := by rcases h with rfl | rfl <;> first | exact xf_2_5 | exact xf_50_5
theorem xq_f6 (h : sq2 j) : gfld (xE X σ ρ A P R) (X + j) 5 6 = some (.int (σ j 6)) := by rcases h with rfl | rfl <;> first | exact xf_2_6 | exact xf_50_6
theorem xq_s5 (h : sq2 j) {v : Int32} : gsetf (xE X σ ρ A P R) (X + j) 5 (.int v) = xE X (s2 σ j 5 v) ρ A P R := by rcases h with rfl | rfl <;> first | exact xs_2_5 | exact xs_50_5
theorem xq_s6 (h : sq2 j) {v : Int32} : gsetf (xE X σ ρ A P R) (X + j) 6 (.int v) = xE X (s2 σ j 6 v) ρ A P R := by rcases h with rfl | rfl <;> first | exact xs_2_6 | exact xs_50_6
theorem xq_u1 (h : sq2 j) {f : Nat → Int32} : gup (xE X σ ρ A P R) (X + j + 1) (.inl (0, 30, .inl f)) = xE X σ ρ (sup A (j + 1) f) P R := by rcases h with rfl | rfl <;> first | exact xu_3 | exact xu_51
theorem xq_u2 (h : sq2 j) {f : Nat → Int32} : gup (xE X σ ρ A P R) (X + j + 2) (.inl (0, 30, .inl f)) = xE X σ ρ (sup A (j + 2) f) P R := by rcases h with rfl | rfl <;> first | exact xu_4 | exact xu_52
theorem xq_u3 (h : sq2 j) {f : Nat → Int32} : gup (xE X σ ρ A P R) (X + j + 3) (.inl (0, 7, .inl f)) = xE X σ ρ (sup A (j + 3) f) P R := by rcases h with rfl | rfl <;> first | exact xu_5 | exact xu_53
theorem supq_id : supq A j (fun k => A (j + k)) = A := by
  funext k
  unfold supq
  split
  · show A (j + (k - j)) = A k
    rw [show j + (k - j) = k by omega]
  · rfl
theorem drawn_x (hj : sq2 j) {x n z : Nat} {Q : gQ} (h6 : σ j 6 = nI x) (hx : x < 30691) (hQ : Q (some (.int (nI x))) (xE X (s2 σ j 6 (nI (nx x))) ρ A P R) n z) : sp_X5_drawn [.ref (X + j)] (xE X σ ρ A P R) n z Q := by
  refine ⟨σ j, fun k => A (j + k), _, x, xSq (sq2_3 hj), h6, hx, ?_⟩
  rw [xSqb (sq2_3 hj), supq_id, ← s2_sup]
  exact hQ
theorem write_x (hj : sq2 j) {b n z : Nat} {x y u : Int32} {Q : gQ} (h4 : σ j 4 = nI b) (hb : b ≤ 30) (hQ : ∀ g : Nat → Int32, (b < 30 → g = putB (A (j + 4)) b (σ j 5) x y u) → (b = 30 → g = putB (va_cpy (A (j + 4)) (A (j + 4)) 4 0 116) 29 (σ j 5) x y u) → Q none (xE X (s2 σ j 4 (nI (if b = 30 then 30 else b + 1))) ρ (sup A (j + 4) g) P R) n z) : sp_X5_write [.ref (X + j), .int x, .int y, .int u] (xE X σ ρ A P R) n z Q := by
  have e : ∀ g, supq A j (sup (fun k => A (j + k)) 4 g) = sup A (j + 4) g := fun g => by
    funext k
    unfold supq sup
    by_cases h : k = j + 4
    · rw [if_pos (by omega), if_pos (by omega), if_pos h]
    · rw [if_neg h]
      split
      · rw [if_neg (by omega)]
        show A (j + (k - j)) = A k
        rw [show j + (k - j) = k by omega]
      · rfl
  refine ⟨σ j, fun k => A (j + k), _, b, xSq (sq2_3 hj), h4, hb, fun h => ?_, fun h => ?_⟩
  · rw [xSqb (sq2_3 hj), e, ← s2_sup]
    have := hQ (putB (A (j + 4)) b (σ j 5) x y u) (fun _ => rfl) (fun q => by omega)
    rw [if_neg (by omega)] at this
    exact this
  · rw [xSqb (sq2_3 hj), e, ← s2_sup]
    have := hQ (putB (va_cpy (A (j + 4)) (A (j + 4)) 4 0 116) 29 (σ j 5) x y u) (fun q => by omega) (fun _ => rfl)
    rw [if_pos h] at this
    exact this
end XQ
