/-! the reference: a year -/
def DW (a : Nat → Int32) (N : Nat) : Prop := (∃ ch, ch ≤ 7 ∧ a 0 = nI ch) ∧ ruleOK a N ∧ (∃ y, y ≤ 9999 ∧ a 6 = nI y) ∧ (∃ x, x < 30691 ∧ a 7 = nI x) ∧ (∃ b, b ≤ 30 ∧ a 8 = nI b) ∧ (∀ j, j < 30 → ∃ k, k < 4 ∧ a (9 + j) = nI k) ∧ (∀ j, j < 30 → ∃ k, k < 10 ∧ a (39 + j) = nI k) ∧ (∀ c, c < 7 → (∃ k, k < 10 ∧ a (76 + c) = nI k) ∧ ∃ k, k < 10 ∧ a (83 + c) = nI k)
theorem fits_nI {k : Nat} (h : k ≤ 100000) : fits6 (nI k).toInt := by
  rw [nI_toInt (by omega)]; exact fits_nat (by omega)
theorem DW.sm {a : Nat → Int32} {N : Nat} (h : DW a N) : SM a := by
  obtain ⟨-, -, ⟨y, hy, ey⟩, -, -, hk, hp, hc⟩ := h
  refine ⟨fun j hj => ?_, by rw [ey]; exact fits_nI (by omega), fun c h7 => ?_⟩
  · obtain ⟨k, h1, e1⟩ := hk j hj
    obtain ⟨k2, h2, e2⟩ := hp j hj
    rw [e1, e2]
    exact ⟨fits_nI (by omega), fits_nI (by omega)⟩
  · obtain ⟨⟨k, h1, e1⟩, k2, h2, e2⟩ := hc c h7
    rw [e1, e2]
    exact ⟨fits_nI (by omega), fits_nI (by omega)⟩
theorem DW.up {a a' : Nat → Int32} {N : Nat} (h : DW a N) (h0 : a' 0 = a 0) (h2 : a' 2 = a 2) (h6 : ∃ y, y ≤ 9999 ∧ a' 6 = nI y) (h7 : ∃ x, x < 30691 ∧ a' 7 = nI x) (h8 : ∃ b, b ≤ 30 ∧ a' 8 = nI b) (hk : ∀ j, j < 30 → ∃ k, k < 4 ∧ a' (9 + j) = nI k) (hp : ∀ j, j < 30 → ∃ k, k < 10 ∧ a' (39 + j) = nI k) (hc : ∀ j, 76 ≤ j → j < 90 → a' j = a j) : DW a' N := by
  obtain ⟨g0, g2, g6, g7, g8, gk, gp, gc⟩ := h
  refine ⟨by rw [h0]; exact g0, by unfold ruleOK; rw [h2]; exact g2, h6, h7, h8, hk, hp, fun c h7 => ?_⟩
  rw [hc _ (by omega) (by omega), hc _ (by omega) (by omega)]
  exact gc c h7
theorem wrF_at {a : Nat → Int32} {b c p j : Nat} (hb : b ≤ 30) (hj : j < 3175) (h8 : j ≠ 8) : wrF a b c p j = a j := by
  unfold wrF
  split
  · rw [pk_un h8, pk_un (by omega), pk_un h8]
    unfold shB
    rw [if_neg (by omega)]
  · rw [pk_un h8, pk_un (by omega)]
theorem wrF_8 {a : Nat → Int32} {b c p : Nat} : wrF a b c p 8 = nI (if b = 30 then 30 else b + 1) := by
  unfold wrF
  split
  · rw [pk_us]
  · rw [pk_us]
theorem runA_at {tx : Nat → List rCl} {wr : Bool} {a : Nat → Int32} {c p x j b : Nat} (h8 : a 8 = nI b) (hb : b ≤ 30) (hj : j < 3175) (h1 : j ≠ 7) (h2 : j ≠ 8) (h3 : j ≠ 69 + c) : runA tx wr a c p x j = a j := by
  unfold runA
  rw [h8, nI_clamp (by omega)]
  split
  · rw [wrF_at hb hj h2, pk_un h3, pk_un h1]
  · rw [pk_un h3, pk_un h1]
theorem runA_7 {tx : Nat → List rCl} {wr : Bool} {a : Nat → Int32} {c p x b : Nat} (h8 : a 8 = nI b) (hb : b ≤ 30) (hc : c < 7) : runA tx wr a c p x 7 = nI (runL (fun j => a (9 + j)) (catF tx a (ruleO a) c) p 60 0 x).2 := by
  unfold runA
  rw [h8, nI_clamp (by omega)]
  split
  · rw [wrF_at hb (by decide) (by decide), pk_un (by omega), pk_us]
  · rw [pk_un (by omega), pk_us]
theorem runA_n {tx : Nat → List rCl} {wr : Bool} {a : Nat → Int32} {c p x b : Nat} (h8 : a 8 = nI b) (hb : b ≤ 30) (hc : c < 7) : runA tx wr a c p x (69 + c) = nI (runL (fun j => a (9 + j)) (catF tx a (ruleO a) c) p 60 0 x).1 := by
  unfold runA
  rw [h8, nI_clamp (by omega)]
  split
  · rw [wrF_at hb (by omega) (by omega), pk_us]
  · rw [pk_us]
theorem runA_8 {tx : Nat → List rCl} {wr : Bool} {a : Nat → Int32} {c p x b : Nat} (h8 : a 8 = nI b) (hb : b ≤ 30) (hc : c < 7) : runA tx wr a c p x 8 = nI (if wr = true then (if b = 30 then 30 else b + 1) else b) := by
  unfold runA
  rw [h8, nI_clamp (by omega)]
  split
  · rw [wrF_8]
  · rw [pk_un (by omega), pk_un (by decide), h8]
theorem DW.run {tx : Nat → List rCl} {wr : Bool} {a : Nat → Int32} {N c p x : Nat} (h : DW a N) (hc : c < 7) (hx : x < 30691) : DW (runA tx wr a c p x) N := by
  have h' := h
  obtain ⟨g0, g2, g6, g7, ⟨b, hb, e8⟩, gk, gp, gc⟩ := h
  have hr := runL_le (K := fun j => a (9 + j)) (cv := catF tx a (ruleO a) c) (p := p) 60 0 x hx
  refine h'.up (runA_at e8 hb (by decide) (by decide) (by decide) (by omega)) (runA_at e8 hb (by decide) (by decide) (by decide) (by omega)) ?_ ⟨_, hr.2, runA_7 e8 hb hc⟩ ⟨_, ?_, runA_8 e8 hb hc⟩ (fun j hj => ?_) (fun j hj => ?_) (fun j h1 h2 => runA_at e8 hb (by omega) (by omega) (by omega) (by omega))
  · rw [runA_at e8 hb (by decide) (by decide) (by decide) (by omega)]; exact g6
  · split
    · split <;> omega
    · exact hb
  · rw [runA_at e8 hb (by omega) (by omega) (by omega) (by omega)]; exact gk j hj
  · rw [runA_at e8 hb (by omega) (by omega) (by omega) (by omega)]; exact gp j hj
theorem DW.x7 {a : Nat → Int32} {N x : Nat} (h : DW a N) (hx : x < 30691) : DW (upd a 7 (nI x)) N := by
  have h' := h
  obtain ⟨g0, g2, g6, g7, g8, gk, gp, gc⟩ := h
  refine h'.up (pk_un (by decide)) (pk_un (by decide)) ?_ ⟨x, hx, pk_us⟩ ?_ (fun j hj => ?_) (fun j hj => ?_) (fun j h1 h2 => pk_un (by omega))
  · rw [pk_un (by decide)]; exact g6
  · rw [pk_un (by decide)]; exact g8
  · rw [pk_un (by omega)]; exact gk j hj
  · rw [pk_un (by omega)]; exact gp j hj
def pasK (tx : Nat → List rCl) (wr : Bool) (a : Nat → Int32) : Nat → Nat → Int32
  | 0 => a
  | c + 1 => if pasK tx wr a c (69 + c) = -nI 1 then runA tx wr (upd (pasK tx wr a c) 7 (nI (nx (pasK tx wr a c 7).toNatClampNeg))) c ((pasK tx wr a c 7).toNatClampNeg % 30) (nx (pasK tx wr a c 7).toNatClampNeg) else pasK tx wr a c
def pasP (tx : Nat → List rCl) (a : Nat → Int32) : Nat → Nat → Int32
  | 0 => a
  | p + 1 => if pasP tx a p (9 + p) = nI 1 then upd (pasP tx a p) (39 + p) (nI (min ((pasP tx a p (39 + p)).toNatClampNeg + pntF tx (pasP tx a p) (ruleO (pasP tx a p)) p) 9)) else pasP tx a p
def pasF (tx : Nat → List rCl) (wr : Bool) (a : Nat → Int32) : Nat → Int32 := upd (pasP tx (pasK tx wr a (a 0).toNatClampNeg) 30) 6 (pasP tx (pasK tx wr a (a 0).toNatClampNeg) 30 6 + nI 1)
theorem pasK_ok {tx : Nat → List rCl} {wr : Bool} {a : Nat → Int32} {N : Nat} (h : DW a N) : ∀ c, c ≤ 7 → DW (pasK tx wr a c) N ∧ (∀ j, j < 3175 → j ≠ 7 → j ≠ 8 → (j < 69 ∨ 69 + c ≤ j) → pasK tx wr a c j = a j)
  | 0, _ => ⟨h, fun _ _ _ _ _ => rfl⟩
  | c + 1, hc => by
    obtain ⟨i1, i2⟩ := pasK_ok (tx := tx) (wr := wr) h c (by omega)
    have i1' := i1
    obtain ⟨-, -, -, ⟨x, hx, ex⟩, ⟨b, hb, eb⟩, -⟩ := i1'
    rw [pasK, ex, nI_clamp (by omega)]
    split
    · have hw := i1.x7 (nx_lt x)
      refine ⟨hw.run (by omega) (nx_lt x), fun j q1 q2 q3 q4 => ?_⟩
      rw [runA_at (b := b) (by rw [pk_un (by decide), eb]) hb q1 q2 q3 (by omega), pk_un q2]
      exact i2 j q1 q2 q3 (by omega)
    · exact ⟨i1, fun j q1 q2 q3 q4 => i2 j q1 q2 q3 (by omega)⟩
theorem DW.p39 {a : Nat → Int32} {N p v : Nat} (h : DW a N) (hp : p < 30) (hv : v < 10) : DW (upd a (39 + p) (nI v)) N := by
  have h' := h
  obtain ⟨g0, g2, g6, g7, g8, gk, gp, gc⟩ := h
  refine h'.up (pk_un (by omega)) (pk_un (by omega)) ?_ ?_ ?_ (fun j hj => ?_) (fun j hj => ?_) (fun j h1 h2 => pk_un (by omega))
  · rw [pk_un (by omega)]; exact g6
  · rw [pk_un (by omega)]; exact g7
  · rw [pk_un (by omega)]; exact g8
  · rw [pk_un (by omega)]; exact gk j hj
  · rw [upd_at]
    split
    · exact ⟨v, hv, rfl⟩
    · exact gp j hj
theorem pasP_ok {tx : Nat → List rCl} {a : Nat → Int32} {N : Nat} (h : DW a N) : ∀ p, p ≤ 30 → DW (pasP tx a p) N ∧ (∀ j, (j < 39 ∨ 69 ≤ j) → pasP tx a p j = a j)
  | 0, _ => ⟨h, fun _ _ => rfl⟩
  | p + 1, hp => by
    obtain ⟨i1, i2⟩ := pasP_ok (tx := tx) h p (by omega)
    rw [pasP]
    split
    · exact ⟨i1.p39 (by omega) (by omega), fun j q => by rw [pk_un (by omega)]; exact i2 j q⟩
    · exact ⟨i1, i2⟩
