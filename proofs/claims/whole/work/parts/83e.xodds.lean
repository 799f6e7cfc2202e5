/-! the class's judge: oddsOf, paintsOf -/
def lawAt (G : Nat → Prop) (R : gC) (o : Option Nat) (L : Option rI) : Prop := match o, L with
  | none, none => True
  | some c, some a => G c ∧ codeAt R c a.2
  | _, _ => False
def hdC (s : Nat) : Nat := [0, 1, 2, 4, 6, 8, 10, 11, 12].getD s 0
def clsAt (R : gC) (q : Nat) (l : List rCl) : Prop := ∃ f, R q = some (.inl (0, 3 * l.length, .inl f)) ∧ l.length ≤ 24 ∧ ∀ i c, l[i]? = some c → c.1 ≤ 8 ∧ f (3 * i) = nI (hdC c.1) ∧ (2 ≤ c.1 → f (3 * i + 1) = nI c.2.1) ∧ (2 ≤ c.1 → c.1 ≤ 5 → f (3 * i + 2) = nI c.2.2.1)
def TextAt (G : Nat → Prop) (R : gC) (r : Nat) (l : List rCl) : Prop := G r ∧ ∃ oc op q, R r = some (.inr (8, [va_rf oc, va_rf op, .ref q])) ∧ lawAt G R oc (lawOf l 0) ∧ lawAt G R op (lawOf l 1) ∧ G q ∧ clsAt R q l
def TXC (G : Nat → Prop) (P : Nat → Nat → Option Nat) (R : gC) (tx : Nat → List rCl) (N : Nat) : Prop := N ≤ 4 ∧ ∀ t, t < N → okT (tx t) ∧ ∃ r, P 31 t = some r ∧ TextAt G R r (tx t)
def JB (σ : Nat → Nat → Int32) : Prop := ∀ k, 5 ≤ k → k ≤ 8 → fits6 (σ 32 k).toInt
/-- what the judge knows of the state a: children, texts, the rule, strides and lucks -/
def JW (X : Nat) (σ : Nat → Nat → Int32) (A : Nat → Nat → Int32) (P : Nat → Nat → Option Nat) (R : gC) (a : Nat → Int32) (tx : Nat → List rCl) (N : Nat) : Prop := σ 1 7 = a 0 ∧ σ 1 8 = nI N ∧ σ 1 9 = a 2 ∧ (∀ c, c < 7 → A 14 c = a (76 + c) ∧ A 15 c = a (83 + c)) ∧ TXC (fun q => X + 56 ≤ q) P R tx N ∧ JB σ
def SqK (σ : Nat → Nat → Int32) (A : Nat → Nat → Int32) (j : Nat) (a : Nat → Int32) : Prop := σ j 5 = a 6 ∧ (∀ i, i < 30 → A (j + 1) i = a (9 + i)) ∧ ∀ i, i < 30 → A (j + 2) i = a (39 + i)
def JF (σ : Nat → Nat → Int32) (ρ : Nat → Value) (A : Nat → Nat → Int32) (σ' : Nat → Nat → Int32) (ρ' : Nat → Value) (A' : Nat → Nat → Int32) : Prop := (∀ j, j ≠ 32 → σ' j = σ j) ∧ (∀ j, j ≠ 0 → ρ' j = ρ j) ∧ (∀ j, j ≠ 33 → A' j = A j) ∧ JB σ'
theorem lawV_1 {l : List rCl} {s top : Nat} {ν κ : Nat → Int} (h : lawOf l s = none) : lawV l s top ν κ = 1 := by
  unfold lawV
  rw [h]
theorem lawV_d {l : List rCl} {s top : Nat} {ν κ : Nat → Int} {d : rI} (h : lawOf l s = some d) : lawV l s top ν κ = clN top (d.2 ν κ) := by
  unfold lawV
  rw [h]
theorem gfit_ob {a : Nat} {s : String} : gfit (.object s) (.ref a) = True := eq_true ⟨rfl, rfl⟩
theorem fits_i (x : Int32) (h : fits6 x.toInt) : x = iI x.toInt := (iI_of x).symm
theorem law_ok {l : List rCl} {s : Nat} {d : rI} (h : lawOf l s = some d) (hT : okT l) (hs : s ≤ 1) : meA (s == 0) d := by
  unfold lawOf at h
  rw [Option.map_eq_some_iff] at h
  obtain ⟨c, hc, rfl⟩ := h
  have h1 := List.find?_some hc
  have h2 := List.mem_of_find?_eq_some hc
  simp only [beq_iff_eq] at h1
  have := (hT c h2).2 (by omega)
  rw [h1] at this
  exact this
theorem clamp_sp {x : Int} {top : Nat} {C : gC} {n z : Nat} {Q : gQ} (hx : fits6 x) (ht : top ≤ 100) (hQ : Q (some (.int (nI (clN top x)))) C n z) : sp_J9_max_7cf53 [.int (iI x), .int (nI 0)] C n z (fun r C' n' z' => match r with
  | some (.int v) => sp_J9_min_7cf53 [.int v, .int (nI top)] C' n' z' Q
  | _ => False) := by
  have hx' := hx
  unfold fits6 at hx'
  unfold clN at hQ
  refine max_sp (fun e => ?_) (fun e => ?_)
  · rw [nI_iI, iI_lt (by omega) (by omega) (by omega) (by omega)] at e
    rw [if_pos (by omega)] at hQ
    refine min_sp (fun _ => hQ) (fun e2 => ?_)
    rw [nI_leI (by omega) (by omega)] at e2
    omega
  · rw [nI_iI, iI_lt (by omega) (by omega) (by omega) (by omega)] at e
    rw [if_neg (by omega)] at hQ
    refine min_sp (fun e2 => ?_) (fun e2 => ?_)
    · rw [nI_iI, iI_le (by omega) (by omega) (by omega) (by omega)] at e2
      rw [if_neg (by omega)] at hQ
      rw [iI_nat (by omega)]
      exact hQ
    · rw [nI_iI, iI_le (by omega) (by omega) (by omega) (by omega)] at e2
      rw [if_pos (by omega)] at hQ
      exact hQ
