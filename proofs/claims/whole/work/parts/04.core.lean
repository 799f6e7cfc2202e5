/-! THE GHOST LAYER: a method's world is a finite map C from addresses to cells, with the heap's size n and its slots z; a body is read as a predicate over locals, stack and world -/
abbrev gE : Type := (Nat × vp_A) ⊕ (Nat × List Value)
abbrev gC : Type := Nat → Option gE
abbrev gQ : Type := Option Value → gC → Nat → Nat → Prop
abbrev gSp : Type := List Value → gC → Nat → Nat → gQ → Prop
abbrev gLv : Type := List (Option Value)
abbrev gKo : Type := gLv → List Value → gC → Nat → Nat → Prop
def gv (dA : Nat → ClassId) : gE → va_E
  | .inl a => .inl (dA a.1, a.2)
  | .inr o => .inr o
def gTys (dA : Nat → ClassId) : List (ClassId × FieldType) := [(dA 0, .int), (dA 1, .long), (dA 2, .boolean), (dA 3, .object "RailingsCount$Square"), (dA 4, .object "RailingsCount$Text")]
def gZ (H : Heap) : Nat := (H.toList.map (fun c => c.slots.size)).sum
/-- a cell of ours; what isn't is named from outside (a text constant, its bytes) by dA -/
def gok : gE → Bool
  | .inl _ => true
  | .inr o => decide (o.1 < 100)
def gat (D : va_G) (dA : Nat → ClassId) (b q : Nat) (x : gE) (H : Heap) : Prop := (gok x = true → b ≤ q ∧ va_at D vwCl (q, gv dA x) H) ∧ (∀ c fs, x = .inr (c, fs) → 100 ≤ c → q < b ∧ ∀ k : Nat, k < 4 → Value.int (nI k) ∈ fs → q = dA (100 + k))
/-- the cell at a is the text (2 t) or the bytes (2 t + 1) of the text t -/
def isExt (C : gC) (a k : Nat) : Prop := ∃ fs, C a = some (.inr (100, fs)) ∧ Value.int (nI k) ∈ fs
def gXs (dA : Nat → ClassId) (b : Nat) (C : gC) : Prop := ∀ k : Nat, k < 4 → dA (100 + k) < b ∧ isExt C (dA (100 + k)) k
def gR (D : va_G) (dA : Nat → ClassId) (b : Nat) (C : gC) (n z : Nat) (H : Heap) : Prop := H.size = n ∧ gZ H = z ∧ (∀ (q : Nat) (x : gE), C q = some x → gat D dA b q x H) ∧ gXs dA b C
theorem gR.at {D : va_G} {dA : Nat → ClassId} {b n z q : Nat} {C : gC} {H : Heap} {x : gE} (h : gR D dA b C n z H) (hq : C q = some x) (hg : gok x = true) : b ≤ q ∧ va_at D vwCl (q, gv dA x) H := (h.2.2.1 q x hq).1 hg
theorem gok_ci {ci : Nat} {fs : List Value} {r : vw_C} (h : vwCl[ci]? = some r) : gok (.inr (ci, fs)) = true := by
  have hl := (List.getElem?_eq_some_iff.mp h).1
  have : vwCl.length = 13 := rfl
  simp [gok]
  omega
def gup (C : gC) (a : Nat) (x : gE) : gC := fun q => if q = a then some x else C q
/-- the program's two text constants: their lengths and bytes -/
def gTxt : List String := ["catches paints place kind paint at child luck run from cut add year round of kinds if then else end or and not count stride who ", "<>=#+-*/();"]
def gByt (i : Nat) : List Int32 := ((gTxt.getD i "").toList.map (fun ch => Int32.ofNat ch.toNat))
def gLen (i : Nat) : Nat := (gByt i).length
/-- what a method may take of the tables: classes, array classes, the nest's link, what statics and texts are -/
def gK (D : va_G) (dA : Nat → ClassId) (b : Nat) (U : State) : Prop := va_K D vwCl (gTys dA) U ∧ va_AO "RailingsCount$Square" U ∧ va_AO "RailingsCount$Text" U ∧ va_Nw (.methodLinkNest "RailingsCount$Play" 19 ⟨"RailingsCount", "isPlace", "(I)Z"⟩ "RailingsCount") U
  ∧ va_Z "java/lang/String" "COMPACT_STRINGS" "Z" (.int 1) (fun q => b ≤ q) U U.heap ∧ va_Zq "jdk/internal/util/Preconditions" "SIOOBE_FORMATTER" "Ljava/util/function/BiFunction;" (fun q => b ≤ q) U U.heap
  ∧ vk_S 2 [gLen 0, gLen 1] [gByt 0, gByt 1] (fun i => dA (100 + 2 * i)) (fun i => dA (101 + 2 * i)) (fun q => b ≤ q) U U.heap ∧ vk_R "RailingsCount$Tokens" 93 (gTxt.getD 0 "") (dA 100) U ∧ vk_R "RailingsCount$Tokens" 85 (gTxt.getD 1 "") (dA 102) U ∧ va_Nw (.castable "[I" "java/lang/Cloneable") U
theorem gK.moved {D : va_G} {dA : Nat → ClassId} {b : Nat} {u U : State} (hW : u.WarmedH U.vm) (hb : b ≤ u.heap.size) (hh : ∀ q : Nat, q < b → U.heap[q]? = u.heap[q]?) (h : gK D dA b u) : gK D dA b U := by
  obtain ⟨h1, h2, h3, h4, h5, h6, h7, h8, h9, h10⟩ := h
  have hk : ∀ a : Nat, a < u.heap.size → ¬ (fun q => b ≤ q) a → U.heap[a]? = u.heap[a]? := fun a _ ha => hh a (Nat.not_le.mp ha)
  exact ⟨va_K.moved hW.alike h1, va_AO.moved hW.alike h2, va_AO.moved hW.alike h3, va_Nw.warmM hW h4, va_Z.kept (va_Z.moved hW.alike h5) hk, va_Zq.kept (va_Zq.moved hW.alike h6) hk, vk_S.kept (vk_S.moved hW.alike h7) hk, vk_R.warm hW h8, vk_R.warm hW h9, va_Nw.warmC hW h10⟩
-- locals
def gl : gLv → Nat → Option Value
  | [], _ => none
  | o :: _, 0 => o
  | _ :: l, i + 1 => gl l i
def gc2 : Option Value → Bool
  | some v => v.category == 2
  | none => false
def gst : gLv → Nat → Value → gLv
  | [], 0, v => [some v]
  | [], i + 1, v => none :: gst [] i v
  | _ :: l, 0, v => some v :: l
  | o :: l, 1, v => (bif gc2 o then none else o) :: gst l 0 v
  | o :: l, i + 2, v => o :: gst l (i + 1) v
def gclr : gLv → Nat → gLv
  | [], _ => []
  | _ :: l, 0 => none :: l
  | o :: l, i + 1 => o :: gclr l i
def gent : List Value → gLv
  | [] => []
  | v :: vs => bif v.category == 2 then some v :: none :: gent vs else some v :: gent vs
def gpr (lv : gLv) : List (Nat × Value) := (List.range lv.length).filterMap (fun i => (gl lv i).map (fun v => (i, v)))
theorem gl_lt : ∀ {lv : gLv} {i : Nat} {v : Value}, gl lv i = some v → i < lv.length
  | [], _, _, h => by simp [gl] at h
  | _ :: _, 0, _, _ => by simp
  | _ :: l, i + 1, v, h => by
    have := gl_lt (lv := l) (i := i) (v := v) (by simpa [gl] using h)
    simp; omega
theorem gpr_mem {lv : gLv} {q : Nat × Value} : q ∈ gpr lv ↔ gl lv q.1 = some q.2 := by
  unfold gpr
  rw [List.mem_filterMap]
  constructor
  · rintro ⟨i, -, h⟩
    cases hg : gl lv i with
    | none => rw [hg] at h; cases h
    | some v =>
      rw [hg] at h
      simp at h
      subst h
      exact hg
  · intro h
    exact ⟨q.1, List.mem_range.mpr (gl_lt h), by rw [h]; rfl⟩
theorem gl_nil (j : Nat) : gl [] j = none := by simp [gl]
theorem gl_gst0 (v : Value) : ∀ (i j : Nat), gl (gst [] i v) j = if j = i then some v else none
  | 0, 0 => by simp [gst, gl]
  | 0, j + 1 => by simp [gst, gl]
  | i + 1, 0 => by simp [gst, gl]
  | i + 1, j + 1 => by simp [gst, gl, gl_gst0 v i j]
theorem gl_gst (v : Value) : ∀ (lv : gLv) (i j : Nat), gl (gst lv i v) j = if j = i then some v else if j + 1 = i ∧ gc2 (gl lv j) = true then none else gl lv j
  | [], i, j => by rw [gl_gst0]; simp [gl_nil, gc2]
  | o :: l, 0, 0 => by simp [gst, gl]
  | o :: l, 0, j + 1 => by simp [gst, gl]
  | o :: l, 1, 0 => by
    cases h : gc2 o <;> simp [gst, gl, h]
  | o :: l, 1, j + 1 => by
    have := gl_gst v l 0 j
    simp [gst, gl, this]
  | o :: l, i + 2, 0 => by simp [gst, gl]
  | o :: l, i + 2, j + 1 => by
    have := gl_gst v l (i + 1) j
    simp [gst, gl, this]
theorem gl_gclr : ∀ (lv : gLv) (i j : Nat), gl (gclr lv i) j = if j = i then none else gl lv j
  | [], i, j => by simp [gclr, gl_nil]
  | o :: l, 0, 0 => by simp [gclr, gl]
  | o :: l, 0, j + 1 => by simp [gclr, gl]
  | o :: l, i + 1, 0 => by simp [gclr, gl]
  | o :: l, i + 1, j + 1 => by simp [gclr, gl, gl_gclr l i j]
def gL (nL : Nat) (ls : Array Slot) (lv : gLv) : Prop := lv_has ls nL (gpr lv)
theorem gL.at {nL : Nat} {ls : Array Slot} {lv : gLv} (h : gL nL ls lv) {i : Nat} {v : Value} (hv : gl lv i = some v) : ls[i]? = some (.val v) := h.2.2 (i, v) (gpr_mem.mpr hv)
theorem lv_has.of {nL : Nat} {ls : Array Slot} {l l' : List (Nat × Value)} (h : lv_has ls nL l) (hs : ∀ q ∈ l', q ∈ l) : lv_has ls nL l' := ⟨h.1, h.2.1, fun q hq => h.2.2 q (hs q hq)⟩
theorem gL.st1 {nL i : Nat} {ls : Array Slot} {lv : gLv} {v : Value} (h : lv_has ls nL ((i, v) :: (gpr lv).filter (fun q => !(q.1 == i) && !(q.1 + 1 == i && q.2.category == 2)))) : gL nL ls (gst lv i v) := by
  refine h.of fun q hq => ?_
  rw [gpr_mem, gl_gst] at hq
  split at hq
  · rename_i e
    obtain ⟨q1, q2⟩ := q
    simp at e hq
    subst e; subst hq
    exact List.mem_cons_self
  · rename_i e
    split at hq
    · cases hq
    · rename_i e2
      refine List.mem_cons_of_mem _ (List.mem_filter.mpr ⟨gpr_mem.mpr hq, ?_⟩)
      rw [hq] at e2
      simp [gc2] at e2
      simp [e]
      exact Decidable.imp_iff_not_or.mp e2
theorem gL.st2 {nL i : Nat} {ls : Array Slot} {lv : gLv} {v : Value} (h : lv_has ls nL ((i, v) :: (gpr lv).filter (fun q => !(q.1 == i) && (!(q.1 == i + 1) && !(q.1 + 1 == i && q.2.category == 2))))) : gL nL ls (gclr (gst lv i v) (i + 1)) := by
  refine h.of fun q hq => ?_
  rw [gpr_mem, gl_gclr] at hq
  split at hq
  · cases hq
  · rename_i e0
    rw [gl_gst] at hq
    split at hq
    · rename_i e
      obtain ⟨q1, q2⟩ := q
      simp at e hq
      subst e; subst hq
      exact List.mem_cons_self
    · rename_i e
      split at hq
      · cases hq
      · rename_i e2
        refine List.mem_cons_of_mem _ (List.mem_filter.mpr ⟨gpr_mem.mpr hq, ?_⟩)
        rw [hq] at e2
        simp [gc2] at e2
        simp [e, e0]
        exact Decidable.imp_iff_not_or.mp e2
theorem gent_mem : ∀ (vs : List Value) (k i : Nat) (v : Value), gl (gent vs) i = some v → (k + i, v) ∈ lv_args k vs
  | [], k, i, v, h => by simp [gent, gl_nil] at h
  | w :: vs, k, i, v, h => by
    unfold gent at h
    unfold lv_args
    by_cases hc : w.category = 2
    · simp only [hc, beq_self_eq_true, cond_true, if_true] at h ⊢
      match i, h with
      | 0, h => simp [gl] at h; subst h; simp
      | 1, h => simp [gl] at h
      | i + 2, h =>
        have := gent_mem vs (k + 2) i v (by simpa [gl] using h)
        refine List.mem_cons_of_mem _ ?_
        rwa [show k + (i + 2) = k + 2 + i by omega]
    · have hb : (w.category == 2) = false := by simpa using hc
      simp only [hb, cond_false, hc, if_false] at h ⊢
      match i, h with
      | 0, h => simp [gl] at h; subst h; simp
      | i + 1, h =>
        have := gent_mem vs (k + 1) i v (by simpa [gl] using h)
        refine List.mem_cons_of_mem _ ?_
        rwa [show k + (i + 1) = k + 1 + i by omega]
theorem gL.ent {vs : List Value} {n : Nat} (h : (lg_sl vs).length ≤ n) : gL n ((lg_sl vs ++ List.replicate (n - (lg_sl vs).length) Slot.unset).toArray) (gent vs) :=
  (lv_entry vs h).of fun q hq => by
    have := gent_mem vs 0 q.1 q.2 (gpr_mem.mp hq)
    rwa [Nat.zero_add] at this
-- the heap's book, exact
theorem gZ_split {s T : State} {locs : List Loc} {cells slots : Nat} (h : s.sameButNew T locs cells slots) : gZ T.heap = gZ s.heap + ((T.heap.toList.drop s.heap.size).map (fun c => c.slots.size)).sum := by
  obtain ⟨-, h2, -, -, -, h6⟩ := h
  unfold gZ
  conv => lhs; rw [← List.take_append_drop s.heap.size T.heap.toList]
  rw [List.map_append, List.sum_append]
  congr 2
  apply List.ext_getElem?
  intro i
  rw [List.getElem?_map, List.getElem?_map]
  by_cases hi : i < s.heap.size
  · rw [List.getElem?_take_of_lt hi]
    have hs : s.heap[i]? = some s.heap[i] := by simp [hi]
    obtain ⟨c', e1, -, e3, -⟩ := h6 i _ hs
    rw [Array.getElem?_toList, Array.getElem?_toList, e1, hs]
    simp [e3]
  · rw [List.getElem?_eq_none (by simp; omega), List.getElem?_eq_none (by simp; omega)]
theorem Stand.tight {p : Program} {l : Launch} {e : Env} {R : Room} {s : State} {m : MethodId} {args : Array Value} {below : List Frame} {meth : Method} {c : Code} {T : State} {locs : List Loc} {cells slots : Nat} (X : Stand p l e R s m args below meth c T locs cells slots) : Stand p l e R s m args below meth c T locs (T.heap.size - s.heap.size) (gZ T.heap - gZ s.heap) := by
  have h := X.same
  have hz := gZ_split h
  obtain ⟨h1, h2, h3, h4, h5, h6⟩ := h
  have h2' : s.heap.size ≤ T.heap.size := h2
  have hz' : gZ T.heap = gZ s.heap + ((T.heap.toList.drop s.heap.size).map (fun c => c.slots.size)).sum := hz
  refine { X with same := ⟨h1, h2, ?_, h4, ?_, h6⟩ }
  · show T.heap.size ≤ s.heap.size + (T.heap.size - s.heap.size)
    omega
  · show ((T.heap.toList.drop s.heap.size).map (fun c => c.slots.size)).sum ≤ gZ T.heap - gZ s.heap
    omega
