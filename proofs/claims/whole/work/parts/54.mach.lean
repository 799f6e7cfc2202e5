/-! the reference's reading of a law, over lists: whether a one is whole, the pile (its top first), the token, how many are open, what is written -/
abbrev rS : Type := Bool × List Nat × Nat × Nat × List (Nat × Int)
abbrev rF : Type := (Nat × Nat) ⊕ (Nat × List (Nat × Int))
def rk (o : Nat) : Nat := if 40 ≤ o then 0 else if o = 22 then 1 else if o = 21 then 2 else if o = 20 then 3 else if 10 ≤ o then 4 else if o = 5 ∨ o = 2 ∨ o = 4 then 7 else if 8 ≤ o then 6 else 5
def stl (r : Nat) : List Nat → Nat → List (Nat × Int) → List Nat × Nat × List (Nat × Int)
  | [], o, out => ([], o, out)
  | p :: L, o, out => if r ≤ rk p then stl r L (if rk p = 7 ∨ p = 20 then o - 1 else o) (out ++ [(p, 0)]) else (p :: L, o, out)
def opM (L : List Nat) : Nat := match L.find? (fun p => decide (40 ≤ p)) with
  | some p => p
  | none => 0
def cpd : List Nat → Bool
  | [] => false
  | p :: L => if 4 < rk p then cpd L else rk p == 4
def endM (S : Nat → Nat) (L : List Nat) (i o : Nat) (out : List (Nat × Int)) : rS ⊕ rF :=
  match stl 7 L o out with
  | (41 :: L', o', out') => if S i = 14 then .inl (false, 4 :: L', i + 1, o', out') else .inr (.inl (1, i))
  | (L', o', out') => .inl (true, L', i, o', out')
def pushM (p : Nat) (L : List Nat) (i o : Nat) (out : List (Nat × Int)) : rS ⊕ rF := if o = 8 then .inr (.inl (3, i)) else .inl (false, p :: L, i + 1, o + 1, out)
def askM (L : List Nat) : Bool := match L with
  | [] => false
  | p :: _ => opM L == 42 && (decide (40 ≤ p) || (decide (1 ≤ rk p) && decide (rk p ≤ 3)))
def begM (S V : Nat → Nat) (cat : Bool) (L : List Nat) (i o : Nat) (out : List (Nat × Int)) : rS ⊕ rF :=
  if S i = 39 then (if 9999 < V i then .inr (.inl (2, i)) else endM S L (i + 1) o (out ++ [(0, (V i : Int))]))
  else if nmOf (S i) < 8 then (if 3 < nmOf (S i) ∧ cat = false then .inr (.inl (5, i)) else endM S L (i + 1) o (out ++ [(1, (nmOf (S i) : Int))]))
  else if S i = 34 then pushM 40 L i o out else if S i = 31 then pushM 5 L i o out else if S i = 13 then pushM 41 L i o out else if S i = 15 then pushM 2 L i o out else if S i = 16 then pushM 42 L i o out
  else if S i = 22 ∧ askM L = true then pushM 20 L i o out else .inr (.inl (1, i))
/-- what stands between two here; 0: nothing -/
def btwM (L : List Nat) (s : Nat) : Nat :=
  if s = 30 ∨ s = 31 ∨ s = 32 ∨ s = 33 then oOf s else if opM L = 42 then (if cpd L = false then (if isCmp s = true then oOf s else 0) else if s = 21 ∨ s = 20 then oOf s else 0) else 0
/-- the next part of what is open: 1 it is shut, 0 none -/
def prtM (L : List Nat) (s : Nat) : Nat :=
  if opM L = 40 then (if s = 35 then 1 else 0) else if opM L = 42 then (if s = 17 ∧ cpd L = true then 43 else 0) else if opM L = 43 then (if s = 18 then 44 else 0) else if opM L = 44 then (if s = 19 then 1 else 0) else 0
def behM (S : Nat → Nat) (L : List Nat) (i o : Nat) (out : List (Nat × Int)) : rS ⊕ rF :=
  if btwM L (S i) ≠ 0 then (match stl (if rk (btwM L (S i)) = 4 then 5 else rk (btwM L (S i))) L o out with
    | (L', o', out') => .inl (false, btwM L (S i) :: L', i + 1, o', out'))
  else if prtM L (S i) = 0 then (if opM L ≠ 0 then .inr (.inl (1, i)) else .inr (.inr (i, (stl 1 L o out).2.2)))
  else match stl 1 L o out with
    | (L', o', out') => if prtM L (S i) = 1 then endM S L'.tail (i + 1) (o' - 1) (if opM L = 44 then out' ++ [(3, 0)] else out') else .inl (false, prtM L (S i) :: L'.tail, i + 1, o', out')
def stpM (S V : Nat → Nat) (cat : Bool) (s : rS) : rS ⊕ rF := if s.1 = true then behM S s.2.1 s.2.2.1 s.2.2.2.1 s.2.2.2.2 else begM S V cat s.2.1 s.2.2.1 s.2.2.2.1 s.2.2.2.2
def runM (S V : Nat → Nat) (cat : Bool) : Nat → rS → Option rF
  | 0, _ => none
  | k + 1, s => if 150 ≤ s.2.1.length then none else match stpM S V cat s with
    | .inl s' => runM S V cat k s'
    | .inr r => some r
def Run (S V : Nat → Nat) (cat : Bool) (s : rS) (r : rF) : Prop := ∃ k, runM S V cat k s = some r
def RunS (S V : Nat → Nat) (cat : Bool) (x : rS ⊕ rF) (r : rF) : Prop := match x with
  | .inl s => Run S V cat s r
  | .inr r' => r' = r
theorem Run.of {S V : Nat → Nat} {cat : Bool} {s : rS} {r : rF} (hl : s.2.1.length < 150) (h : RunS S V cat (stpM S V cat s) r) : Run S V cat s r := by
  unfold RunS at h
  split at h
  · rename_i s' e
    obtain ⟨k, hk⟩ := h
    refine ⟨k + 1, ?_⟩
    unfold runM
    rw [if_neg (by omega), e]
    exact hk
  · rename_i r' e
    refine ⟨1, ?_⟩
    unfold runM
    rw [if_neg (by omega), e, h]
theorem stl_stop {r : Nat} {L : List Nat} {o : Nat} {out : List (Nat × Int)} (h : ∀ p ∈ L.head?, rk p < r) : stl r L o out = (L, o, out) := by
  cases L with
  | nil => rfl
  | cons p L =>
    have := h p (by simp)
    unfold stl
    rw [if_neg (by omega)]
def nots : List Nat → Nat
  | [] => 0
  | p :: L => nots L + if p = 20 then 1 else 0
def emi (ps : List Nat) : List (Nat × Int) := ps.map fun p => (p, 0)
theorem nots_app (a b : List Nat) : nots (a ++ b) = nots a + nots b := by
  induction a with
  | nil => simp [nots]
  | cons p a ih => simp only [List.cons_append, nots, ih]; omega
theorem stl_all {r : Nat} : ∀ {ps L : List Nat} {o : Nat} {out : List (Nat × Int)}, (∀ p ∈ ps, r ≤ rk p ∧ rk p ≤ 6) → (∀ p ∈ L.head?, rk p < r) → stl r (ps ++ L) (o + nots ps) out = (L, o, out ++ emi ps)
  | [], L, o, out, _, h2 => by simp [nots, emi, stl_stop h2]
  | p :: ps, L, o, out, h1, h2 => by
    have hp := h1 p (by simp)
    have e : (if rk p = 7 ∨ p = 20 then o + nots (p :: ps) - 1 else o + nots (p :: ps)) = o + nots ps := by
      have hn : nots (p :: ps) = nots ps + if p = 20 then 1 else 0 := rfl
      rw [hn]
      by_cases q : p = 20
      · rw [if_pos (Or.inr q), if_pos q]; omega
      · rw [if_neg (by omega), if_neg q]; omega
    rw [List.cons_append]
    unfold stl
    rw [if_pos hp.1, e, stl_all (fun q hq => h1 q (by simp [hq])) h2]
    simp [emi]
theorem rk_lt40 {p : Nat} (h : 1 ≤ rk p) : p < 40 := by
  unfold rk at h
  split at h <;> omega
theorem opM_app {ps L : List Nat} (h : ∀ p ∈ ps, 1 ≤ rk p) : opM (ps ++ L) = opM L := by
  unfold opM
  rw [List.find?_append, List.find?_eq_none.mpr (fun p hp => by simpa using rk_lt40 (h p hp))]
  rfl
theorem cpd_app {ps L : List Nat} (h : ∀ p ∈ ps, 5 ≤ rk p) : cpd (ps ++ L) = cpd L := by
  induction ps with
  | nil => rfl
  | cons p ps ih =>
    have := h p (by simp)
    simp only [List.cons_append, cpd, if_pos (show 4 < rk p by omega)]
    exact ih fun q hq => h q (by simp [hq])
/-- whole, with what waits from a rank on above the pile L -/
def RW (S V : Nat → Nat) (cat : Bool) (r : Nat) (L : List Nat) (j o : Nat) (out : List (Nat × Int)) (res : rF) : Prop := ∀ (ps : List Nat) (out' : List (Nat × Int)), (∀ p ∈ ps, r ≤ rk p ∧ rk p ≤ 6) → ps.length + r ≤ 7 + nots ps → o + nots ps ≤ 8 → out' ++ emi ps = out → (r ≤ 4 → cpd (ps ++ L) = true) → Run S V cat (true, ps ++ L, j, o + nots ps, out') res
def tp (L : List Nat) (r : Nat) : Prop := ∀ p ∈ L.head?, rk p < r ∧ p ≠ 41
theorem tp.lt {L : List Nat} {r : Nat} (h : tp L r) : ∀ p ∈ L.head?, rk p < r := fun p hp => (h p hp).1
theorem endM_tp {S : Nat → Nat} {L : List Nat} {i o : Nat} {out : List (Nat × Int)} (h : tp L 7) : endM S L i o out = .inl (true, L, i, o, out) := by
  unfold endM
  rw [stl_stop h.lt]
  split
  · rename_i e
    simp only [Prod.mk.injEq] at e
    exact absurd rfl ((h 41 (by rw [e.1]; simp)).2)
  · rename_i e
    simp only [Prod.mk.injEq] at e
    rw [e.1, e.2.1, e.2.2]
theorem tp_mono {L : List Nat} {r r' : Nat} (h : tp L r) (hr : r ≤ r') : tp L r' := fun p hp => ⟨by have := (h p hp).1; omega, (h p hp).2⟩
theorem tp_cons {p r : Nat} {L : List Nat} (h : rk p < r) (h' : p ≠ 41) : tp (p :: L) r := fun q hq => by
  simp only [List.head?_cons, Option.mem_def, Option.some.injEq] at hq
  rw [← hq]; exact ⟨h, h'⟩
/-- a sign between two of its rank, when what waits is of this rank or above -/
theorem btw_go {S V : Nat → Nat} {cat : Bool} {ps L : List Nat} {i o r : Nat} {out : List (Nat × Int)} {res : rF} (h1 : ∀ p ∈ ps, r ≤ rk p ∧ rk p ≤ 6) (ht : ∀ p ∈ L.head?, rk p < r) (hb : btwM (ps ++ L) (S i) ≠ 0) (hr : (if rk (btwM (ps ++ L) (S i)) = 4 then 5 else rk (btwM (ps ++ L) (S i))) = r) (hl : ps.length + L.length < 150) (h : Run S V cat (false, btwM (ps ++ L) (S i) :: L, i + 1, o, out ++ emi ps) res) : Run S V cat (true, ps ++ L, i, o + nots ps, out) res := by
  refine Run.of (by simpa using hl) ?_
  simp only [stpM, if_true, behM]
  rw [if_pos hb, hr, stl_all h1 ht]
  exact h
theorem rTail_sim {S V : Nat → Nat} {cat : Bool} {pr : Nat → Bool} {nxt : Nat → rR} {mk : Nat → rI → rI → rI} {r : Nat} {L : List Nat} {o : Nat} {res : rF} {J : Nat → Prop}
    (hn : rMono nxt) (hS : ∀ j, 300 ≤ j → pr (S j) = false) (hL : L.length ≤ 6 * o + 6) (ht : tp L r)
    (hgo : ∀ (j : Nat) (ps : List Nat), pr (S j) = true → (∀ p ∈ ps, r ≤ rk p ∧ rk p ≤ 6) → (r ≤ 4 → cpd (ps ++ L) = true) → btwM (ps ++ L) (S j) = oOf (S j) ∧ oOf (S j) ≠ 0 ∧ rk (oOf (S j)) = r ∧ oOf (S j) ≠ 20)
    (hr4 : r ≠ 4) (hr6 : r ≤ 6)
    (hmk : ∀ j (a b : rI), (mk (S j) a b).1 = a.1 ++ b.1 ++ [(oOf (S j), 0)])
    (hnx : ∀ (p i : Nat) (out : List (Nat × Int)), rk p = r → p ≠ 20 → rK (nxt i) (fun f j => res = .inl (f, j)) (fun j b => J j → RW S V cat (r + 1) (p :: L) j o (out ++ b.1) res) → Run S V cat (false, p :: L, i, o, out) res) :
    ∀ (f i : Nat) (out : List (Nat × Int)) (a : rI), 300 ≤ i + f → J i → rK (rTail S pr nxt mk f i a) (fun f j => res = .inl (f, j)) (fun j b => pr (S j) = false → J j → RW S V cat r L j o (out ++ b.1) res) → RW S V cat r L i o (out ++ a.1) res
  | 0, i, out, a, hf, hj, h => by
    simp only [rTail, rK] at h
    exact h (hS i (by omega)) hj
  | f + 1, i, out, a, hf, hj, h => by
    unfold rTail at h
    by_cases hp : pr (S i) = true
    · rw [if_pos hp, rK_bind] at h
      intro ps out' h1 hlen ho hout hc
      obtain ⟨e1, e2, e3, e4⟩ := hgo i ps hp h1 hc
      refine btw_go (r := r) h1 ht.lt (by rw [e1]; exact e2) (by rw [e1, e3, if_neg hr4]) (by omega) ?_
      rw [e1, hout]
      refine hnx _ _ _ e3 e4 ?_
      refine rK_mono (fun j b hb hk => ?_) h
      intro hJj ps' out2 g1 glen gn gout gc
      have := rTail_sim hn hS hL ht hgo hr4 hr6 hmk hnx f j out (mk (S i) a b) (by have := hn _ _ _ hb; omega) hJj hk (ps' ++ [oOf (S i)]) out2 ?_ ?_ ?_ ?_ ?_
      · simpa [nots_app, nots, e4] using this
      · intro p hp
        simp only [List.mem_append, List.mem_singleton] at hp
        rcases hp with hp | hp
        · have := g1 p hp; omega
        · rw [hp, e3]; omega
      · simp only [nots_app, nots, e4, List.length_append, List.length_singleton, if_false]; omega
      · simp only [nots_app, nots, e4, if_false]; omega
      · rw [hmk, ← List.append_assoc, ← List.append_assoc, ← gout]
        simp [emi]
      · intro h4
        by_cases h5 : r + 1 ≤ 4
        · have := gc h5
          simpa using this
        · omega
    · rw [if_neg hp] at h
      exact h (by simpa using hp) hj
section SIM
variable {S V : Nat → Nat} {cat : Bool}
theorem RW.nil {r : Nat} {L : List Nat} {j o : Nat} {out : List (Nat × Int)} {res : rF} (h : RW S V cat r L j o out res) (hr : r ≤ 7) (ho : o ≤ 8) (hc : r ≤ 4 → cpd L = true) : Run S V cat (true, L, j, o, out) res :=
  h [] out (fun p hp => by simp at hp) (by simp [nots]; omega) (by simpa [nots] using ho) (by simp [emi]) hc
def OneSim (S V : Nat → Nat) (cat : Bool) (one : Nat → rR) (o : Nat) : Prop := ∀ (L : List Nat) (i : Nat) (out : List (Nat × Int)) (res : rF), L.length ≤ 6 * o + 5 → (S i = 22 → askM L = false) → rK (one i) (fun f j => res = .inl (f, j)) (fun j a => RunS S V cat (endM S L j o (out ++ a.1)) res) → Run S V cat (false, L, i, o, out) res
theorem ask_hi {p : Nat} {L : List Nat} (h : 4 ≤ rk p) : askM (p :: L) = false := by
  have := rk_lt40 (show 1 ≤ rk p by omega)
  simp only [askM, Bool.and_eq_false_iff, Bool.or_eq_false_iff, decide_eq_false_iff_not]
  omega
theorem ask_op {p : Nat} {L : List Nat} (h : 40 ≤ p) (h2 : p ≠ 42) : askM (p :: L) = false := by
  have e : opM (p :: L) = p := by
    unfold opM
    rw [List.find?_cons_of_pos (by simpa using h)]
  simp only [askM, e, Bool.and_eq_false_iff, beq_eq_false_iff_ne]
  exact Or.inl h2
theorem oOf_add {s : Nat} (h : isAdd s = true) : (s = 30 ∨ s = 31 ∨ s = 32 ∨ s = 33) ∧ oOf s ≠ 0 ∧ rk (oOf s) = 5 ∧ oOf s ≠ 20 := by
  simp only [isAdd, Bool.or_eq_true, beq_iff_eq] at h
  rcases h with rfl | rfl <;> decide
theorem oOf_mul {s : Nat} (h : isMul s = true) : (s = 30 ∨ s = 31 ∨ s = 32 ∨ s = 33) ∧ oOf s ≠ 0 ∧ rk (oOf s) = 6 ∧ oOf s ≠ 20 := by
  simp only [isMul, Bool.or_eq_true, beq_iff_eq] at h
  rcases h with rfl | rfl <;> decide
theorem oOf_cmp {s : Nat} (h : isCmp s = true) : ¬ (s = 30 ∨ s = 31 ∨ s = 32 ∨ s = 33) ∧ oOf s ≠ 0 ∧ rk (oOf s) = 4 ∧ oOf s ≠ 20 ∧ oOf s ≠ 41 := by
  simp only [isCmp, Bool.or_eq_true, beq_iff_eq] at h
  rcases h with ((((rfl | rfl) | rfl) | rfl) | rfl) | rfl <;> decide
theorem notArith {s : Nat} (h1 : isAdd s = false) (h2 : isMul s = false) : ¬ (s = 30 ∨ s = 31 ∨ s = 32 ∨ s = 33) := by
  simp only [isAdd, isMul, Bool.or_eq_false_iff, beq_eq_false_iff_ne] at h1 h2
  omega
theorem prod_sim {one : Nat → rR} {o : Nat} (hS : ∀ j, 300 ≤ j → S j = 40) (ho : o ≤ 8) (hm : rMono one) (H : OneSim S V cat one o) {L : List Nat} {i : Nat} {out : List (Nat × Int)} {res : rF} (ht : tp L 6) (hL : L.length ≤ 6 * o + 4) (hA : S i = 22 → askM L = false) (h : rK (rProd S one i) (fun f j => res = .inl (f, j)) (fun j a => isMul (S j) = false → RW S V cat 6 L j o (out ++ a.1) res)) : Run S V cat (false, L, i, o, out) res := by
  unfold rProd at h
  rw [rK_bind] at h
  refine H L i out res (by omega) hA (rK_mono (fun j a ej hk => ?_) h)
  rw [endM_tp (tp_mono ht (by omega))]
  refine RW.nil (r := 6) (rTail_sim (pr := isMul) (mk := mkA) (J := fun _ => True) hm (fun j hj => by rw [hS j hj]; rfl) (by omega) ht ?_ (by decide) (by decide) (fun j a b => rfl) ?_ 300 j out a (by omega) trivial ?_) (by decide) ho (fun q => absurd q (by decide))
  · intro j ps hp _ _
    obtain ⟨e1, e2⟩ := oOf_mul hp
    exact ⟨by unfold btwM; rw [if_pos e1], e2⟩
  · intro p i out hp hn h
    refine H _ i out res (by simp only [List.length_cons]; omega) (fun _ => ask_hi (by omega)) (rK_mono (fun j a ej hk => ?_) h)
    rw [endM_tp (tp_cons (by omega) (fun e => by rw [e] at hp; exact absurd hp (by decide)))]
    exact RW.nil (hk trivial) (by decide) ho (fun q => absurd q (by decide))
  · exact rK_mono (fun j a ej hk h1 _ => hk h1) hk
theorem sum_sim {one : Nat → rR} {o : Nat} (hS : ∀ j, 300 ≤ j → S j = 40) (ho : o ≤ 8) (hm : rMono one) (H : OneSim S V cat one o) {L : List Nat} {i : Nat} {out : List (Nat × Int)} {res : rF} (ht : tp L 5) (hL : L.length ≤ 6 * o + 3) (hA : S i = 22 → askM L = false) (h : rK (rSum S one i) (fun f j => res = .inl (f, j)) (fun j a => isAdd (S j) = false → isMul (S j) = false → RW S V cat 5 L j o (out ++ a.1) res)) : Run S V cat (false, L, i, o, out) res := by
  unfold rSum at h
  rw [rK_bind] at h
  refine prod_sim hS ho hm H (tp_mono ht (by omega)) (by omega) hA (rK_mono (fun j a ej hk hj => ?_) h)
  have key : RW S V cat 5 L j o (out ++ a.1) res := by
    refine rTail_sim (pr := isAdd) (mk := mkA) (J := fun j => isMul (S j) = false) (rProd_mono (S := S) hm) (fun j hj => by rw [hS j hj]; rfl) (by omega) ht ?_ (by decide) (by decide) (fun j a b => rfl) ?_ 300 j out a (by omega) hj ?_
    · intro j ps hp _ _
      obtain ⟨e1, e2⟩ := oOf_add hp
      exact ⟨by unfold btwM; rw [if_pos e1], e2⟩
    · intro p i out hp hn h
      exact prod_sim hS ho hm H (tp_cons (by omega) (fun e => by rw [e] at hp; exact absurd hp (by decide))) (by simp only [List.length_cons]; omega) (fun _ => ask_hi (by omega)) h
    · exact hk
  intro ps out' h1 h2 h3 h4 h5
  exact key ps out' (fun p hp => ⟨by have := (h1 p hp).1; omega, (h1 p hp).2⟩) (by omega) h3 h4 (fun q => absurd q (by decide))
theorem cpd_tp {L : List Nat} (h : tp L 4) : cpd L = false := by
  cases L with
  | nil => rfl
  | cons p L =>
    have := (h p (by simp)).1
    simp only [cpd, if_neg (show ¬ 4 < rk p by omega), beq_eq_false_iff_ne]
    omega
theorem rk1 {r : Nat} (hr : 1 ≤ r) {ps : List Nat} (h : ∀ p ∈ ps, r ≤ rk p ∧ rk p ≤ 6) : ∀ p ∈ ps, 1 ≤ rk p := fun p hp => by have := (h p hp).1; omega
/-- the token can't stand behind a whole one here -/
theorem beh_fault {L : List Nat} {i o : Nat} {out : List (Nat × Int)} {res : rF} (hl : L.length < 150) (hb : btwM L (S i) = 0) (hp : prtM L (S i) = 0) (ho : opM L ≠ 0) (h : res = .inl (1, i)) : Run S V cat (true, L, i, o, out) res := by
  refine Run.of hl ?_
  simp only [stpM, if_true, behM]
  rw [if_neg (by rw [hb]; simp), if_pos hp, if_pos ho]
  exact h.symm
theorem cmp_sim {one : Nat → rR} {o : Nat} (hS : ∀ j, 300 ≤ j → S j = 40) (ho : o ≤ 8) (hm : rMono one) (H : OneSim S V cat one o) {L : List Nat} {i : Nat} {out : List (Nat × Int)} {res : rF} (ht : tp L 4) (hop : opM L = 42) (hL : L.length ≤ 6 * o + 2) (hA : S i ≠ 22) (h : rK (rCmp S one i) (fun f j => res = .inl (f, j)) (fun j a => isAdd (S j) = false → isMul (S j) = false → RW S V cat 4 L j o (out ++ a.1) res)) : Run S V cat (false, L, i, o, out) res := by
  unfold rCmp at h
  rw [rK_bind] at h
  refine sum_sim hS ho hm H (tp_mono ht (by omega)) (by omega) (fun q => absurd q hA) (rK_mono (fun j a ej hk ha hmu => ?_) h)
  intro ps out' h1 hlen hn hout _
  have o1 : opM (ps ++ L) = 42 := by rw [opM_app (rk1 (by decide) h1)]; exact hop
  have c1 : cpd (ps ++ L) = false := by rw [cpd_app fun p hp => (h1 p hp).1]; exact cpd_tp ht
  by_cases hc : isCmp (S j) = true
  · rw [if_pos hc, rK_bind] at hk
    obtain ⟨e1, e2, e3, e4, e5⟩ := oOf_cmp hc
    have eb : btwM (ps ++ L) (S j) = oOf (S j) := by
      unfold btwM
      rw [if_neg e1, if_pos o1, if_pos c1, if_pos hc]
    refine btw_go (r := 5) h1 (tp_mono ht (by omega)).lt (by rw [eb]; exact e2) (by rw [eb, e3, if_pos rfl]) (by omega) ?_
    rw [eb, hout]
    refine sum_sim hS ho hm H (tp_cons (by omega) e5) (by simp only [List.length_cons]; omega) (fun _ => ask_hi (by omega)) (rK_mono (fun k b ek hk ha hmu => ?_) hk)
    intro ps' out2 g1 glen gn gout _
    have := hk ha hmu (ps' ++ [oOf (S j)]) out2 ?_ ?_ ?_ ?_ ?_
    · simpa [nots_app, nots, e4] using this
    · intro p hp
      simp only [List.mem_append, List.mem_singleton] at hp
      rcases hp with hp | hp
      · have := g1 p hp; omega
      · rw [hp, e3]; omega
    · simp only [nots_app, nots, e4, List.length_append, List.length_singleton, if_false]; omega
    · simp only [nots_app, nots, e4, if_false]; omega
    · simp only [mkC]
      rw [← List.append_assoc, ← List.append_assoc, ← gout]
      simp [emi]
    · intro _
      rw [List.append_assoc, List.singleton_append, cpd_app fun p hp => (g1 p hp).1]
      simp only [cpd, e3]
      rfl
  · rw [if_neg hc] at hk
    refine beh_fault (by simp only [List.length_append]; omega) ?_ ?_ (by rw [o1]; decide) hk
    · unfold btwM
      rw [if_neg (notArith ha hmu), if_pos o1, if_pos c1, if_neg hc]
    · unfold prtM
      rw [if_neg (by rw [o1]; decide), if_pos o1, if_neg (by rw [c1]; simp)]
def QSim (S V : Nat → Nat) (cat : Bool) (q : Nat → rR) (o : Nat) : Prop := ∀ (L : List Nat) (i : Nat) (out : List (Nat × Int)) (res : rF), tp L 4 → opM L = 42 → L.length ≤ 6 * o + 2 → rK (q i) (fun f j => res = .inl (f, j)) (fun j a => isAdd (S j) = false ∧ isMul (S j) = false → RW S V cat 3 L j o (out ++ a.1) res) → Run S V cat (false, L, i, o, out) res
theorem RW.up {r r' : Nat} {L : List Nat} {j o : Nat} {out : List (Nat × Int)} {res : rF} (h : RW S V cat r L j o out res) (hr : r ≤ r') (hc : r' ≤ 4 ∨ 4 < r) : RW S V cat r' L j o out res := fun ps out' h1 h2 h3 h4 h5 => h ps out' (fun p hp => ⟨by have := (h1 p hp).1; omega, (h1 p hp).2⟩) (by omega) h3 h4 (fun q => h5 (by omega))
theorem both_sim {q : Nat → rR} {o : Nat} (hS : ∀ j, 300 ≤ j → S j = 40) (ho : o ≤ 8) (hm : rMono q) (H : QSim S V cat q o) {L : List Nat} {i : Nat} {out : List (Nat × Int)} {res : rF} (ht : tp L 2) (hop : opM L = 42) (hL : L.length ≤ 6 * o + 1) (h : rK (rBoth S q i) (fun f j => res = .inl (f, j)) (fun j a => (isAdd (S j) = false ∧ isMul (S j) = false) ∧ S j ≠ 21 → RW S V cat 2 L j o (out ++ a.1) res)) : Run S V cat (false, L, i, o, out) res := by
  unfold rBoth at h
  rw [rK_bind] at h
  refine H L i out res (tp_mono ht (by omega)) hop (by omega) (rK_mono (fun j a ej hk hj => ?_) h)
  refine RW.up (r := 2) (rTail_sim (pr := fun s => s == 21) (mk := mkAnd) (J := fun j => isAdd (S j) = false ∧ isMul (S j) = false) hm (fun j hj => by rw [hS j hj]; rfl) (by omega) ht ?_ (by decide) (by decide) (fun j a b => rfl) ?_ 300 j out a (by omega) hj ?_) (by decide) (by decide)
  · intro j ps hp h1 hc
    have e : S j = 21 := by simpa using hp
    have o1 : opM (ps ++ L) = 42 := by rw [opM_app (rk1 (by decide) h1)]; exact hop
    refine ⟨?_, by rw [e]; decide⟩
    unfold btwM
    rw [e, if_neg (by decide), if_pos o1, if_neg (by rw [hc (by decide)]; simp), if_pos (Or.inl rfl)]
  · intro p i out hp hn h
    exact H _ i out res (tp_cons (by omega) (fun e => by rw [e] at hp; exact absurd hp (by decide))) (by rw [show p :: L = [p] ++ L from rfl, opM_app (fun q hq => by simp only [List.mem_singleton] at hq; rw [hq]; omega)]; exact hop) (by simp only [List.length_cons]; omega) h
  · exact rK_mono (fun j a ej hk h1 h2 => hk ⟨h2, by simpa using h1⟩) hk
theorem either_sim {q : Nat → rR} {o : Nat} (hS : ∀ j, 300 ≤ j → S j = 40) (ho : o ≤ 8) (hm : rMono q) (H : QSim S V cat q o) {L : List Nat} {i : Nat} {out : List (Nat × Int)} {res : rF} (ht : tp L 1) (hop : opM L = 42) (hL : L.length ≤ 6 * o) (h : rK (rEither S q i) (fun f j => res = .inl (f, j)) (fun j a => (isAdd (S j) = false ∧ isMul (S j) = false) ∧ S j ≠ 21 → S j ≠ 20 → RW S V cat 1 L j o (out ++ a.1) res)) : Run S V cat (false, L, i, o, out) res := by
  unfold rEither at h
  rw [rK_bind] at h
  refine both_sim hS ho hm H (tp_mono ht (by omega)) hop (by omega) (rK_mono (fun j a ej hk hj => ?_) h)
  refine RW.up (r := 1) (rTail_sim (pr := fun s => s == 20) (mk := mkOr) (J := fun j => (isAdd (S j) = false ∧ isMul (S j) = false) ∧ S j ≠ 21) (rBoth_mono (S := S) hm) (fun j hj => by rw [hS j hj]; rfl) (by omega) ht ?_ (by decide) (by decide) (fun j a b => rfl) ?_ 300 j out a (by omega) hj ?_) (by decide) (by decide)
  · intro j ps hp h1 hc
    have e : S j = 20 := by simpa using hp
    have o1 : opM (ps ++ L) = 42 := by rw [opM_app (rk1 (by decide) h1)]; exact hop
    refine ⟨?_, by rw [e]; decide⟩
    unfold btwM
    rw [e, if_neg (by decide), if_pos o1, if_neg (by rw [hc (by decide)]; simp), if_pos (Or.inr rfl)]
  · intro p i out hp hn h
    exact both_sim hS ho hm H (tp_cons (by omega) (fun e => by rw [e] at hp; exact absurd hp (by decide))) (by rw [show p :: L = [p] ++ L from rfl, opM_app (fun q hq => by simp only [List.mem_singleton] at hq; rw [hq]; omega)]; exact hop) (by simp only [List.length_cons]; omega) h
  · exact rK_mono (fun j a ej hk h1 h2 => hk h2 (by simpa using h1)) hk
theorem endM_7 {p : Nat} {L : List Nat} {i o : Nat} {out : List (Nat × Int)} (hp : rk p = 7) : endM S (p :: L) i (o + 1) out = endM S L i o (out ++ [(p, 0)]) := by
  have e : stl 7 (p :: L) (o + 1) out = stl 7 L o (out ++ [(p, 0)]) := by
    conv => lhs; unfold stl
    rw [if_pos (by omega), if_pos (Or.inl hp)]
    rfl
  unfold endM
  rw [e]
theorem push_go {p : Nat} {L : List Nat} {i o : Nat} {out : List (Nat × Int)} {res : rF} (ho : o < 8) (h : Run S V cat (false, p :: L, i + 1, o + 1, out) res) : RunS S V cat (pushM p L i o out) res := by
  unfold pushM
  rw [if_neg (by omega)]
  exact h
/-- what is open goes on or is shut -/
theorem prt_go {ps L : List Nat} {p i o : Nat} {out : List (Nat × Int)} {res : rF} (hp : 40 ≤ p) (h1 : ∀ p ∈ ps, 1 ≤ rk p ∧ rk p ≤ 6) (hl : ps.length + L.length + 1 < 150) (hb : btwM (ps ++ p :: L) (S i) = 0) (hq : prtM (ps ++ p :: L) (S i) ≠ 0) (h : RunS S V cat (if prtM (ps ++ p :: L) (S i) = 1 then endM S L (i + 1) (o - 1) (if p = 44 then out ++ emi ps ++ [(3, 0)] else out ++ emi ps) else .inl (false, prtM (ps ++ p :: L) (S i) :: L, i + 1, o, out ++ emi ps)) res) : Run S V cat (true, ps ++ p :: L, i, o + nots ps, out) res := by
  refine Run.of (by simp only [List.length_append, List.length_cons]; omega) ?_
  have e0 : rk p = 0 := by unfold rk; rw [if_pos hp]
  have e1 : opM (ps ++ p :: L) = p := by
    rw [opM_app fun q hq => (h1 q hq).1]
    unfold opM
    rw [List.find?_cons_of_pos (by simpa using hp)]
  simp only [stpM, if_true, behM]
  rw [if_neg (by rw [hb]; simp), if_neg hq, stl_all h1 (fun q hq => by simp only [List.head?_cons, Option.mem_def, Option.some.injEq] at hq; rw [← hq, e0]; decide), e1]
  exact h
theorem opM_hd {p : Nat} {L : List Nat} (hp : 40 ≤ p) : opM (p :: L) = p := by
  unfold opM
  rw [List.find?_cons_of_pos (by simpa using hp)]
theorem opn_sim {one q : Nat → rR} {o : Nat} (hS : ∀ j, 300 ≤ j → S j = 40) (ho : o < 8) (hm : rMono one) (hmq : rMono q) (H : OneSim S V cat one (o + 1)) (HQ : QSim S V cat q (o + 1)) {L : List Nat} {i : Nat} {out : List (Nat × Int)} {res : rF} (hs : isOpn (S i) = true) (hL : L.length ≤ 6 * o + 5) (h : rK (rOpn S one q i) (fun f j => res = .inl (f, j)) (fun j a => RunS S V cat (endM S L j o (out ++ a.1)) res)) : RunS S V cat (begM S V cat L i o out) res := by
  have ho' : o + 1 ≤ 8 := by omega
  simp only [isOpn, Bool.or_eq_true, beq_iff_eq] at hs
  unfold rOpn at h
  unfold begM
  rcases hs with (((e | e) | e) | e) | e
  · rw [if_pos e, rK_bind] at h
    rw [e, if_neg (by decide), if_neg (by decide), if_pos rfl]
    refine push_go ho (sum_sim hS ho' hm H (tp_cons (by decide) (by decide)) (by simp only [List.length_cons]; omega) (fun _ => ask_op (by decide) (by decide)) (rK_mono (fun j a ej hk ha hmu => ?_) h))
    intro ps out' h1 hlen hn hout _
    have o1 : opM (ps ++ 40 :: L) = 40 := by rw [opM_app (rk1 (by decide) h1)]; exact opM_hd (by decide)
    have b1 : btwM (ps ++ 40 :: L) (S j) = 0 := by
      unfold btwM
      rw [if_neg (notArith ha hmu), if_neg (by rw [o1]; decide)]
    unfold rExp at hk
    by_cases hj : S j = 35
    · rw [if_pos hj] at hk
      have p1 : prtM (ps ++ 40 :: L) (S j) = 1 := by unfold prtM; rw [if_pos o1, if_pos hj]
      refine prt_go (by decide) (fun p hp => ⟨by have := (h1 p hp).1; omega, (h1 p hp).2⟩) (by omega) b1 (by rw [p1]; decide) ?_
      rw [p1, if_pos rfl, if_neg (by decide), hout]
      exact hk
    · rw [if_neg hj] at hk
      refine beh_fault (by simp only [List.length_append, List.length_cons]; omega) b1 (by unfold prtM; rw [if_pos o1, if_neg hj]) (by rw [o1]; decide) hk
  · rw [if_neg (by rw [e]; decide), if_pos e, rK_bind] at h
    rw [e, if_neg (by decide), if_neg (by decide), if_neg (by decide), if_pos rfl]
    refine push_go ho (H _ _ _ _ (by simp only [List.length_cons]; omega) (fun _ => ask_hi (by decide)) (rK_mono (fun j a ej hk => ?_) h))
    rw [endM_7 (by decide)]
    simpa [rK, mkNeg, List.append_assoc] using hk
  · rw [if_neg (by rw [e]; decide), if_neg (by rw [e]; decide), if_pos e, rK_bind] at h
    rw [e, if_neg (by decide), if_neg (by decide), if_neg (by decide), if_neg (by decide), if_pos rfl]
    refine push_go ho (H _ _ _ _ (by simp only [List.length_cons]; omega) (fun _ => ask_op (by decide) (by decide)) (rK_mono (fun j a ej hk => ?_) h))
    have e2 : stl 7 (41 :: L) (o + 1) (out ++ a.1) = (41 :: L, o + 1, out ++ a.1) := stl_stop (fun q hq => by simp only [List.head?_cons, Option.mem_def, Option.some.injEq] at hq; rw [← hq]; decide)
    unfold endM
    rw [e2]
    unfold rExp at hk
    by_cases hj : S j = 14
    · rw [if_pos hj, rK_bind] at hk
      simp only [if_pos hj]
      refine H _ _ _ _ (by simp only [List.length_cons]; omega) (fun _ => ask_hi (by decide)) (rK_mono (fun k b ek hk => ?_) hk)
      rw [endM_7 (by decide)]
      simpa [rK, mkRnd, List.append_assoc] using hk
    · rw [if_neg hj] at hk
      simp only [if_neg hj]
      exact hk.symm
  · rw [if_neg (by rw [e]; decide), if_neg (by rw [e]; decide), if_neg (by rw [e]; decide), if_pos e, rK_bind] at h
    rw [e, if_neg (by decide), if_neg (by decide), if_neg (by decide), if_neg (by decide), if_neg (by decide), if_pos rfl]
    refine push_go ho (H _ _ _ _ (by simp only [List.length_cons]; omega) (fun _ => ask_hi (by decide)) (rK_mono (fun j a ej hk => ?_) h))
    rw [endM_7 (by decide)]
    simpa [rK, mkKnd, List.append_assoc] using hk
  · rw [if_neg (by rw [e]; decide), if_neg (by rw [e]; decide), if_neg (by rw [e]; decide), if_neg (by rw [e]; decide), rK_bind] at h
    rw [e, if_neg (by decide), if_neg (by decide), if_neg (by decide), if_neg (by decide), if_neg (by decide), if_neg (by decide), if_pos rfl]
    refine push_go ho (either_sim hS ho' hmq HQ (tp_cons (by decide) (by decide)) (opM_hd (by decide)) (by simp only [List.length_cons]; omega) (rK_mono (fun j a ej hk hj1 hj2 => ?_) h))
    intro ps out' h1 hlen hn hout hc
    have o1 : opM (ps ++ 42 :: L) = 42 := by rw [opM_app (rk1 (by decide) h1)]; exact opM_hd (by decide)
    have c1 := hc (by decide)
    have b1 : btwM (ps ++ 42 :: L) (S j) = 0 := by
      unfold btwM
      rw [if_neg (notArith hj1.1.1 hj1.1.2), if_pos o1, if_neg (by rw [c1]; decide), if_neg (by omega)]
    unfold rExp at hk
    by_cases hj : S j = 17
    · rw [if_pos hj, rK_bind] at hk
      have p1 : prtM (ps ++ 42 :: L) (S j) = 43 := by unfold prtM; rw [if_neg (by rw [o1]; decide), if_pos o1, if_pos ⟨hj, c1⟩]
      refine prt_go (by decide) (fun p hp => ⟨by have := (h1 p hp).1; omega, (h1 p hp).2⟩) (by omega) b1 (by rw [p1]; decide) ?_
      rw [p1, if_neg (by decide), hout]
      refine sum_sim hS ho' hm H (tp_cons (by decide) (by decide)) (by simp only [List.length_cons]; omega) (fun _ => ask_op (by decide) (by decide)) (rK_mono (fun k b ek hk ha hmu => ?_) hk)
      intro ps out' h1 hlen hn hout _
      have o1 : opM (ps ++ 43 :: L) = 43 := by rw [opM_app (rk1 (by decide) h1)]; exact opM_hd (by decide)
      have b1 : btwM (ps ++ 43 :: L) (S k) = 0 := by
        unfold btwM
        rw [if_neg (notArith ha hmu), if_neg (by rw [o1]; decide)]
      unfold rExp at hk
      by_cases hj : S k = 18
      · rw [if_pos hj, rK_bind] at hk
        have p1 : prtM (ps ++ 43 :: L) (S k) = 44 := by unfold prtM; rw [if_neg (by rw [o1]; decide), if_neg (by rw [o1]; decide), if_pos o1, if_pos hj]
        refine prt_go (by decide) (fun p hp => ⟨by have := (h1 p hp).1; omega, (h1 p hp).2⟩) (by omega) b1 (by rw [p1]; decide) ?_
        rw [p1, if_neg (by decide), hout]
        refine sum_sim hS ho' hm H (tp_cons (by decide) (by decide)) (by simp only [List.length_cons]; omega) (fun _ => ask_op (by decide) (by decide)) (rK_mono (fun k b ek hk ha hmu => ?_) hk)
        intro ps out' h1 hlen hn hout _
        have o1 : opM (ps ++ 44 :: L) = 44 := by rw [opM_app (rk1 (by decide) h1)]; exact opM_hd (by decide)
        have b1 : btwM (ps ++ 44 :: L) (S k) = 0 := by
          unfold btwM
          rw [if_neg (notArith ha hmu), if_neg (by rw [o1]; decide)]
        unfold rExp at hk
        by_cases hj : S k = 19
        · rw [if_pos hj] at hk
          have p1 : prtM (ps ++ 44 :: L) (S k) = 1 := by unfold prtM; rw [if_neg (by rw [o1]; decide), if_neg (by rw [o1]; decide), if_neg (by rw [o1]; decide), if_pos o1, if_pos hj]
          refine prt_go (by decide) (fun p hp => ⟨by have := (h1 p hp).1; omega, (h1 p hp).2⟩) (by omega) b1 (by rw [p1]; decide) ?_
          rw [p1, if_pos rfl, if_pos rfl, hout]
          simpa [rK, mkSel, List.append_assoc] using hk
        · rw [if_neg hj] at hk
          refine beh_fault (by simp only [List.length_append, List.length_cons]; omega) b1 (by unfold prtM; rw [if_neg (by rw [o1]; decide), if_neg (by rw [o1]; decide), if_neg (by rw [o1]; decide), if_pos o1, if_neg hj]) (by rw [o1]; decide) hk
      · rw [if_neg hj] at hk
        refine beh_fault (by simp only [List.length_append, List.length_cons]; omega) b1 (by unfold prtM; rw [if_neg (by rw [o1]; decide), if_neg (by rw [o1]; decide), if_pos o1, if_neg hj]) (by rw [o1]; decide) hk
    · rw [if_neg hj] at hk
      refine beh_fault (by simp only [List.length_append, List.length_cons]; omega) b1 (by unfold prtM; rw [if_neg (by rw [o1]; decide), if_pos o1, if_neg (by omega)]) (by rw [o1]; decide) hk
theorem oneB_sim {op : Nat → rR} {o : Nat} (ho : o ≤ 8) (hop : ∀ (L : List Nat) (i : Nat) (out : List (Nat × Int)) (res : rF), isOpn (S i) = true → L.length ≤ 6 * o + 5 → rK (op i) (fun f j => res = .inl (f, j)) (fun j a => RunS S V cat (endM S L j o (out ++ a.1)) res) → RunS S V cat (begM S V cat L i o out) res) : OneSim S V cat (rOneB S V cat op) o := by
  intro L i out res hL hA h
  refine Run.of (by simp only; omega) ?_
  simp only [stpM, Bool.false_eq_true, if_false]
  unfold rOneB at h
  by_cases h1 : S i = 39
  · rw [if_pos h1] at h
    unfold begM
    rw [if_pos h1]
    by_cases h2 : 9999 < V i
    · rw [if_pos h2] at h ⊢
      exact h.symm
    · rw [if_neg h2] at h ⊢
      exact h
  · rw [if_neg h1] at h
    by_cases h2 : nmOf (S i) < 8
    · rw [if_pos h2] at h
      unfold begM
      rw [if_neg h1, if_pos h2]
      by_cases h3 : 3 < nmOf (S i) ∧ cat = false
      · rw [if_pos h3] at h ⊢
        exact h.symm
      · rw [if_neg h3] at h ⊢
        exact h
    · rw [if_neg h2] at h
      by_cases h3 : isOpn (S i) = true
      · rw [if_pos h3] at h
        exact hop L i out res h3 hL h
      · rw [if_neg h3] at h
        unfold begM
        simp only [isOpn, Bool.or_eq_true, beq_iff_eq] at h3
        rw [if_neg h1, if_neg h2, if_neg (by omega), if_neg (by omega), if_neg (by omega), if_neg (by omega), if_neg (by omega), if_neg (fun q => by rw [hA q.1] at q; exact absurd q.2 (by decide))]
        exact h.symm
theorem not_beg {L : List Nat} {i o : Nat} {out : List (Nat × Int)} (h : S i = 22) (ht : tp L 4) (hop : opM L = 42) : begM S V cat L i o out = pushM 20 L i o out := by
  have ha : askM L = true := by
    cases L with
    | nil => exact absurd hop (by decide)
    | cons p L =>
      have := (ht p (by simp)).1
      simp only [askM, hop, Bool.and_eq_true, Bool.or_eq_true, decide_eq_true_eq]
      refine ⟨rfl, ?_⟩
      by_cases h0 : 40 ≤ p
      · exact Or.inl h0
      · refine Or.inr ⟨?_, by omega⟩
        unfold rk
        rw [if_neg h0]
        repeat' split
        all_goals omega
  unfold begM
  rw [h, if_neg (by decide), if_neg (by decide), if_neg (by decide), if_neg (by decide), if_neg (by decide), if_neg (by decide), if_neg (by decide), if_pos ⟨rfl, ha⟩]
theorem lv_sim (hS : ∀ j, 300 ≤ j → S j = 40) : ∀ (d o : Nat), o + d = 8 → OneSim S V cat (rLv S V cat d).1 o ∧ QSim S V cat (rLv S V cat d).2 o
  | 0, o, h => by
    have e : o = 8 := by omega
    subst e
    have h1 : OneSim S V cat (rLv S V cat 0).1 8 := by
      refine oneB_sim (by omega) ?_
      intro L i out res hs hL h
      simp only [isOpn, Bool.or_eq_true, beq_iff_eq] at hs
      unfold begM pushM
      rcases hs with (((e | e) | e) | e) | e <;> rw [e] <;> exact h.symm
    refine ⟨h1, ?_⟩
    intro L i out res ht hop hL h
    simp only [rLv] at h
    by_cases hn : S i = 22
    · rw [if_pos hn] at h
      refine Run.of (by simp only; omega) ?_
      simp only [stpM, Bool.false_eq_true, if_false]
      rw [not_beg hn ht hop]
      exact h.symm
    · rw [if_neg hn] at h
      refine cmp_sim hS (by omega) (rLv_mono S V cat 0).1 h1 ht hop hL hn (rK_mono (fun j a ej hk h1 h2 => ?_) h)
      exact RW.up (hk ⟨h1, h2⟩) (by decide) (by decide)
  | d + 1, o, h => by
    obtain ⟨i1, i2⟩ := lv_sim hS d (o + 1) (by omega)
    obtain ⟨m1, m2⟩ := rLv_mono S V cat d
    have h1 : OneSim S V cat (rLv S V cat (d + 1)).1 o := by
      refine oneB_sim (by omega) ?_
      intro L i out res hs hL h
      exact opn_sim hS (by omega) m1 m2 i1 i2 hs hL h
    refine ⟨h1, ?_⟩
    intro L i out res ht hop hL h
    simp only [rLv] at h
    by_cases hn : S i = 22
    · rw [if_pos hn, rK_bind] at h
      refine Run.of (by simp only; omega) ?_
      simp only [stpM, Bool.false_eq_true, if_false]
      rw [not_beg hn ht hop]
      refine push_go (by omega) (i2 _ _ _ _ (tp_cons (by decide) (by decide)) ?_ (by simp only [List.length_cons]; omega) (rK_mono (fun j a ej hk hj => ?_) h))
      · rw [show (20 :: L) = [20] ++ L from rfl, opM_app (fun q hq => by simp only [List.mem_singleton] at hq; rw [hq]; decide)]
        exact hop
      · intro ps out' h1 hlen hnn hout hc
        have := hk hj (ps ++ [20]) out' ?_ ?_ ?_ ?_ ?_
        · simpa [nots_app, nots, Nat.add_assoc, Nat.add_comm 1] using this
        · intro p hp
          simp only [List.mem_append, List.mem_singleton] at hp
          rcases hp with hp | hp
          · exact h1 p hp
          · rw [hp]; decide
        · simp only [nots_app, nots, List.length_append, List.length_singleton, if_true]; omega
        · simp only [nots_app, nots, if_true]; omega
        · simp only [mkNot]
          rw [← List.append_assoc, ← hout]
          simp [emi]
        · intro _
          have := hc (by decide)
          simpa using this
    · rw [if_neg hn] at h
      refine cmp_sim hS (by omega) (rLv_mono S V cat (d + 1)).1 h1 ht hop hL hn (rK_mono (fun j a ej hk h1 h2 => ?_) h)
      exact RW.up (hk ⟨h1, h2⟩) (by decide) (by decide)
/-- the reference reads a law as a reader going down does -/
theorem law_sim (hS : ∀ j, 300 ≤ j → S j = 40) {i : Nat} {out : List (Nat × Int)} {res : rF} (h : rK (rSum S (rLv S V cat 8).1 i) (fun f j => res = .inl (f, j)) (fun j a => res = .inr (j, out ++ a.1))) : Run S V cat (false, [], i, 0, out) res := by
  refine sum_sim hS (by omega) (rLv_mono S V cat 8).1 (lv_sim hS 8 0 (by omega)).1 (fun p hp => by simp at hp) (by simp) (fun _ => rfl) (rK_mono (fun j a ej hk ha hmu => ?_) h)
  intro ps out' h1 hlen hn hout _
  have o1 : opM (ps ++ []) = 0 := by rw [opM_app (rk1 (by decide) h1)]; rfl
  refine Run.of (by simp only [List.length_append, List.length_nil]; omega) ?_
  simp only [stpM, if_true, behM]
  have b1 : btwM (ps ++ []) (S j) = 0 := by
    unfold btwM
    rw [if_neg (notArith ha hmu), if_neg (by rw [o1]; decide)]
  have p1 : prtM (ps ++ []) (S j) = 0 := by
    unfold prtM
    rw [o1]
    rfl
  rw [if_neg (by rw [b1]; simp), if_pos p1, if_neg (by rw [o1]; simp), stl_all (fun p hp => ⟨by have := (h1 p hp).1; omega, (h1 p hp).2⟩) (fun q hq => by simp at hq), hout]
  exact hk.symm
end SIM
