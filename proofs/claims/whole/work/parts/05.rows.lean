/-! the context of a body, its worlds, and the rows that read instructions -/
abbrev gCx : Type := Program × Launch × Env × Room × State × MethodId × Array Value × List Frame × Method × Code × va_G × (Nat → ClassId) × Nat × (State → Prop)
def gX (x : gCx) (cc : ByteArray) (own : String) (nL : Nat) : Prop := match x with
  | (p, _, _, _, s, m, args, _, meth, c, D, dA, b, _) => p.tables.exec = Jvm.exec ∧ c.code = cc ∧ c.maxLocals = nL ∧ s.vm.findClass own = some m.cls ∧ (∀ w ∈ TB, w.before args s = true) ∧ gK D dA b s ∧ meth.locks = false ∧ b ≤ s.heap.size
/-- the machine at pc with these locals, this stack and this world comes to its end -/
def gW (x : gCx) (nL pc : Nat) (lv : gLv) (st : List Value) (C : gC) (n z : Nat) : Prop := match x with
  | (p, l, e, R, s, m, args, below, meth, c, D, dA, b, Qm) => ∀ (H : Heap) (locs : List Loc) (ls : Array Slot), gR D dA b C n z H → va_S (fun q => b ≤ q) s.heap H locs → gL nL ls lv → n ≤ s.heap.size + R.cells → gZ s.heap ≤ z ∧ z ≤ gZ s.heap + R.slots → W p l e R s m args below meth c H locs (n - s.heap.size) (z - gZ s.heap) Qm (F0 m pc ls st)
def Snd (x : gCx) (nL pc : Nat) (κ : gKo) : Prop := ∀ (lv : gLv) (st : List Value) (C : gC) (n z : Nat), κ lv st C n z → gW x nL pc lv st C n z
theorem Snd.f {x : gCx} {nL pc : Nat} : Snd x nL pc (fun _ _ _ _ _ => False) := fun _ _ _ _ _ h => h.elim
section ROWS
variable {x : gCx} {cc : ByteArray} {own : String} {nL pc : Nat} {κ κ1 κ2 : gKo}
-- pushes
def s_psh (v : Value) (κ : gKo) : gKo := fun lv st C n z => κ lv (v :: st) C n z
theorem r_iconst (X : gX x cc own nL) {i : Int} {v : Int32} (hd : decode cc pc = .ok (.iconst i, 1)) (hv : Int32.ofInt i = v) (k : Snd x nL (pc + 1) κ) : Snd x nL pc (s_psh (.int v) κ) := by
  obtain ⟨p, l, e, R, s, m, args, below, meth, c, D, dA, b, Qm⟩ := x
  exact fun lv st C n z h H locs ls hR hS hL h1 h2 => lv_iconst X.1 X.2.1 hd hv (k lv _ C n z h H locs ls hR hS hL h1 h2)
theorem r_bipush (X : gX x cc own nL) {i : Int} {v : Int32} (hd : decode cc pc = .ok (.bipush i, 2)) (hv : (Int8.ofInt i).toInt32 = v) (k : Snd x nL (pc + 2) κ) : Snd x nL pc (s_psh (.int v) κ) := by
  obtain ⟨p, l, e, R, s, m, args, below, meth, c, D, dA, b, Qm⟩ := x
  exact fun lv st C n z h H locs ls hR hS hL h1 h2 => lv_bipush X.1 X.2.1 hd hv (k lv _ C n z h H locs ls hR hS hL h1 h2)
theorem r_sipush (X : gX x cc own nL) {i : Int} {v : Int32} (hd : decode cc pc = .ok (.sipush i, 3)) (hv : (Int16.ofInt i).toInt32 = v) (k : Snd x nL (pc + 3) κ) : Snd x nL pc (s_psh (.int v) κ) := by
  obtain ⟨p, l, e, R, s, m, args, below, meth, c, D, dA, b, Qm⟩ := x
  exact fun lv st C n z h H locs ls hR hS hL h1 h2 => lv_sipush X.1 X.2.1 hd hv (k lv _ C n z h H locs ls hR hS hL h1 h2)
theorem r_lconst (X : gX x cc own nL) {i : Fin 2} {v : Int64} (hd : decode cc pc = .ok (.lconst i, 1)) (hv : Int64.ofNat (i : Nat) = v) (k : Snd x nL (pc + 1) κ) : Snd x nL pc (s_psh (.long v) κ) := by
  obtain ⟨p, l, e, R, s, m, args, below, meth, c, D, dA, b, Qm⟩ := x
  exact fun lv st C n z h H locs ls hR hS hL h1 h2 => lv_lconst X.1 X.2.1 hd hv (k lv _ C n z h H locs ls hR hS hL h1 h2)
theorem r_null (X : gX x cc own nL) (hd : decode cc pc = .ok (.aconst_null, 1)) (k : Snd x nL (pc + 1) κ) : Snd x nL pc (s_psh .null κ) := by
  obtain ⟨p, l, e, R, s, m, args, below, meth, c, D, dA, b, Qm⟩ := x
  exact fun lv st C n z h H locs ls hR hS hL h1 h2 => lv_null X.1 X.2.1 hd (k lv _ C n z h H locs ls hR hS hL h1 h2)
theorem r_ldc (X : gX x cc own nL) {i : Nat} {v : Int32} (hw : Cond.constant own i v ∈ TB) (hd : decode cc pc = .ok (.ldc i, 2)) (k : Snd x nL (pc + 2) κ) : Snd x nL pc (s_psh (.int v) κ) := by
  obtain ⟨p, l, e, R, s, m, args, below, meth, c, D, dA, b, Qm⟩ := x
  exact fun lv st C n z h H locs ls hR hS hL h1 h2 => lv_ldc X.1 X.2.1 X.2.2.2.1 (X.2.2.2.2.1 _ hw) hd (k lv _ C n z h H locs ls hR hS hL h1 h2)
theorem r_ldcw (X : gX x cc own nL) {i : Nat} {v : Int32} (hw : Cond.constant own i v ∈ TB) (hd : decode cc pc = .ok (.ldc_w i, 3)) (k : Snd x nL (pc + 3) κ) : Snd x nL pc (s_psh (.int v) κ) := by
  obtain ⟨p, l, e, R, s, m, args, below, meth, c, D, dA, b, Qm⟩ := x
  exact fun lv st C n z h H locs ls hR hS hL h1 h2 => lv_ldcw X.1 X.2.1 X.2.2.2.1 (X.2.2.2.2.1 _ hw) hd (k lv _ C n z h H locs ls hR hS hL h1 h2)
theorem r_ldc2 (X : gX x cc own nL) {i : Nat} {v : Int64} (hw : Cond.constantLong own i v ∈ TB) (hd : decode cc pc = .ok (.ldc2_w i, 3)) (k : Snd x nL (pc + 3) κ) : Snd x nL pc (s_psh (.long v) κ) := by
  obtain ⟨p, l, e, R, s, m, args, below, meth, c, D, dA, b, Qm⟩ := x
  exact fun lv st C n z h H locs ls hR hS hL h1 h2 => lv_ldc2 X.1 X.2.1 X.2.2.2.1 (X.2.2.2.2.1 _ hw) hd (k lv _ C n z h H locs ls hR hS hL h1 h2)
-- loads
def s_ild (i : Nat) (κ : gKo) : gKo := fun lv st C n z => match gl lv i with
  | some (.int x) => κ lv (.int x :: st) C n z
  | _ => False
def s_lld (i : Nat) (κ : gKo) : gKo := fun lv st C n z => match gl lv i with
  | some (.long x) => κ lv (.long x :: st) C n z
  | _ => False
def s_ald (i : Nat) (κ : gKo) : gKo := fun lv st C n z => match gl lv i with
  | some (.ref x) => κ lv (.ref x :: st) C n z
  | some .null => κ lv (.null :: st) C n z
  | _ => False
theorem r_iload (X : gX x cc own nL) {i : Nat} (hd : decode cc pc = .ok (.iload i, 2)) (k : Snd x nL (pc + 2) κ) : Snd x nL pc (s_ild i κ) := by
  obtain ⟨p, l, e, R, s, m, args, below, meth, c, D, dA, b, Qm⟩ := x
  intro lv st C n z h
  unfold s_ild at h
  split at h
  · rename_i y hy
    exact fun H locs ls hR hS hL h1 h2 => lv_iload X.1 X.2.1 hd (hL.at hy) (k lv _ C n z h H locs ls hR hS hL h1 h2)
  · exact h.elim
theorem r_iload_n (X : gX x cc own nL) {i : Fin 4} {j : Nat} (hd : decode cc pc = .ok (.iload_n i, 1)) (hj : (i : Nat) = j) (k : Snd x nL (pc + 1) κ) : Snd x nL pc (s_ild j κ) := by
  obtain ⟨p, l, e, R, s, m, args, below, meth, c, D, dA, b, Qm⟩ := x
  intro lv st C n z h
  unfold s_ild at h
  split at h
  · rename_i y hy
    exact fun H locs ls hR hS hL h1 h2 => lv_iload_n X.1 X.2.1 hd hj (hL.at hy) (k lv _ C n z h H locs ls hR hS hL h1 h2)
  · exact h.elim
theorem r_lload (X : gX x cc own nL) {i : Nat} (hd : decode cc pc = .ok (.lload i, 2)) (k : Snd x nL (pc + 2) κ) : Snd x nL pc (s_lld i κ) := by
  obtain ⟨p, l, e, R, s, m, args, below, meth, c, D, dA, b, Qm⟩ := x
  intro lv st C n z h
  unfold s_lld at h
  split at h
  · rename_i y hy
    exact fun H locs ls hR hS hL h1 h2 => lv_lload X.1 X.2.1 hd (hL.at hy) (k lv _ C n z h H locs ls hR hS hL h1 h2)
  · exact h.elim
theorem r_lload_n (X : gX x cc own nL) {i : Fin 4} {j : Nat} (hd : decode cc pc = .ok (.lload_n i, 1)) (hj : (i : Nat) = j) (k : Snd x nL (pc + 1) κ) : Snd x nL pc (s_lld j κ) := by
  obtain ⟨p, l, e, R, s, m, args, below, meth, c, D, dA, b, Qm⟩ := x
  intro lv st C n z h
  unfold s_lld at h
  split at h
  · rename_i y hy
    exact fun H locs ls hR hS hL h1 h2 => lv_lload_n X.1 X.2.1 hd hj (hL.at hy) (k lv _ C n z h H locs ls hR hS hL h1 h2)
  · exact h.elim
theorem r_aload (X : gX x cc own nL) {i : Nat} (hd : decode cc pc = .ok (.aload i, 2)) (k : Snd x nL (pc + 2) κ) : Snd x nL pc (s_ald i κ) := by
  obtain ⟨p, l, e, R, s, m, args, below, meth, c, D, dA, b, Qm⟩ := x
  intro lv st C n z h
  unfold s_ald at h
  split at h
  · rename_i y hy
    exact fun H locs ls hR hS hL h1 h2 => lv_aload X.1 X.2.1 hd (hL.at hy) (k lv _ C n z h H locs ls hR hS hL h1 h2)
  · rename_i hy
    exact fun H locs ls hR hS hL h1 h2 => lv_aloadN X.1 X.2.1 hd (hL.at hy) (k lv _ C n z h H locs ls hR hS hL h1 h2)
  · exact h.elim
theorem r_aload_n (X : gX x cc own nL) {i : Fin 4} {j : Nat} (hd : decode cc pc = .ok (.aload_n i, 1)) (hj : (i : Nat) = j) (k : Snd x nL (pc + 1) κ) : Snd x nL pc (s_ald j κ) := by
  obtain ⟨p, l, e, R, s, m, args, below, meth, c, D, dA, b, Qm⟩ := x
  intro lv st C n z h
  unfold s_ald at h
  split at h
  · rename_i y hy
    exact fun H locs ls hR hS hL h1 h2 => lv_aload_n X.1 X.2.1 hd hj (hL.at hy) (k lv _ C n z h H locs ls hR hS hL h1 h2)
  · rename_i hy
    exact fun H locs ls hR hS hL h1 h2 => lv_aload_nN X.1 X.2.1 hd hj (hL.at hy) (k lv _ C n z h H locs ls hR hS hL h1 h2)
  · exact h.elim
-- stores
def s_ist (i : Nat) (κ : gKo) : gKo := fun lv st C n z => match st with
  | .int x :: st => κ (gst lv i (.int x)) st C n z
  | _ => False
def s_lst (i : Nat) (κ : gKo) : gKo := fun lv st C n z => match st with
  | .long x :: st => κ (gclr (gst lv i (.long x)) (i + 1)) st C n z
  | _ => False
def s_ast (i : Nat) (κ : gKo) : gKo := fun lv st C n z => match st with
  | .ref x :: st => κ (gst lv i (.ref x)) st C n z
  | .null :: st => κ (gst lv i .null) st C n z
  | _ => False
theorem r_istore (X : gX x cc own nL) {i : Nat} (hd : decode cc pc = .ok (.istore i, 2)) (hi : i < nL) (k : Snd x nL (pc + 2) κ) : Snd x nL pc (s_ist i κ) := by
  obtain ⟨p, l, e, R, s, m, args, below, meth, c, D, dA, b, Qm⟩ := x
  intro lv st C n z h
  unfold s_ist at h
  split at h
  · exact fun H locs ls hR hS hL h1 h2 => lv_istore X.1 X.2.1 hd hL hi rfl fun ls' hl' => k _ _ C n z h H locs ls' hR hS (gL.st1 hl') h1 h2
  · exact h.elim
theorem r_istore_n (X : gX x cc own nL) {i : Fin 4} {j : Nat} (hd : decode cc pc = .ok (.istore_n i, 1)) (hj : (i : Nat) = j) (hi : j < nL) (k : Snd x nL (pc + 1) κ) : Snd x nL pc (s_ist j κ) := by
  obtain ⟨p, l, e, R, s, m, args, below, meth, c, D, dA, b, Qm⟩ := x
  intro lv st C n z h
  unfold s_ist at h
  split at h
  · exact fun H locs ls hR hS hL h1 h2 => lv_istore_n X.1 X.2.1 hd hj hL hi rfl fun ls' hl' => k _ _ C n z h H locs ls' hR hS (gL.st1 hl') h1 h2
  · exact h.elim
theorem r_lstore (X : gX x cc own nL) {i : Nat} (hd : decode cc pc = .ok (.lstore i, 2)) (hi : i + 1 < nL) (k : Snd x nL (pc + 2) κ) : Snd x nL pc (s_lst i κ) := by
  obtain ⟨p, l, e, R, s, m, args, below, meth, c, D, dA, b, Qm⟩ := x
  intro lv st C n z h
  unfold s_lst at h
  split at h
  · exact fun H locs ls hR hS hL h1 h2 => lv_lstore X.1 X.2.1 hd hL hi rfl fun ls' hl' => k _ _ C n z h H locs ls' hR hS (gL.st2 hl') h1 h2
  · exact h.elim
theorem r_lstore_n (X : gX x cc own nL) {i : Fin 4} {j : Nat} (hd : decode cc pc = .ok (.lstore_n i, 1)) (hj : (i : Nat) = j) (hi : j + 1 < nL) (k : Snd x nL (pc + 1) κ) : Snd x nL pc (s_lst j κ) := by
  obtain ⟨p, l, e, R, s, m, args, below, meth, c, D, dA, b, Qm⟩ := x
  intro lv st C n z h
  unfold s_lst at h
  split at h
  · exact fun H locs ls hR hS hL h1 h2 => lv_lstore_n X.1 X.2.1 hd hj hL hi rfl fun ls' hl' => k _ _ C n z h H locs ls' hR hS (gL.st2 hl') h1 h2
  · exact h.elim
theorem r_astore (X : gX x cc own nL) {i : Nat} (hd : decode cc pc = .ok (.astore i, 2)) (hi : i < nL) (k : Snd x nL (pc + 2) κ) : Snd x nL pc (s_ast i κ) := by
  obtain ⟨p, l, e, R, s, m, args, below, meth, c, D, dA, b, Qm⟩ := x
  intro lv st C n z h
  unfold s_ast at h
  split at h
  · exact fun H locs ls hR hS hL h1 h2 => lv_astore X.1 X.2.1 hd hL hi rfl fun ls' hl' => k _ _ C n z h H locs ls' hR hS (gL.st1 hl') h1 h2
  · exact fun H locs ls hR hS hL h1 h2 => lv_astoreN X.1 X.2.1 hd hL hi rfl fun ls' hl' => k _ _ C n z h H locs ls' hR hS (gL.st1 hl') h1 h2
  · exact h.elim
theorem r_astore_n (X : gX x cc own nL) {i : Fin 4} {j : Nat} (hd : decode cc pc = .ok (.astore_n i, 1)) (hj : (i : Nat) = j) (hi : j < nL) (k : Snd x nL (pc + 1) κ) : Snd x nL pc (s_ast j κ) := by
  obtain ⟨p, l, e, R, s, m, args, below, meth, c, D, dA, b, Qm⟩ := x
  intro lv st C n z h
  unfold s_ast at h
  split at h
  · exact fun H locs ls hR hS hL h1 h2 => lv_astore_n X.1 X.2.1 hd hj hL hi rfl fun ls' hl' => k _ _ C n z h H locs ls' hR hS (gL.st1 hl') h1 h2
  · exact fun H locs ls hR hS hL h1 h2 => lv_astore_nN X.1 X.2.1 hd hj hL hi rfl fun ls' hl' => k _ _ C n z h H locs ls' hR hS (gL.st1 hl') h1 h2
  · exact h.elim
def s_inc (i : Nat) (d : Int32) (κ : gKo) : gKo := fun lv st C n z => match gl lv i with
  | some (.int x) => κ (gst lv i (.int (x + d))) st C n z
  | _ => False
theorem r_iinc (X : gX x cc own nL) {i : Nat} {a : Int} {d : Int32} (hd : decode cc pc = .ok (.iinc i a, 3)) (ha : Int32.ofInt a = d) (hi : i < nL) (k : Snd x nL (pc + 3) κ) : Snd x nL pc (s_inc i d κ) := by
  obtain ⟨p, l, e, R, s, m, args, below, meth, c, D, dA, b, Qm⟩ := x
  subst ha
  intro lv st C n z h
  unfold s_inc at h
  split at h
  · rename_i y hy
    intro H locs ls hR hS hL h1 h2
    obtain ⟨j, hj⟩ := List.getElem?_of_mem (gpr_mem (q := (i, .int y)) |>.mpr hy)
    exact lv_iinc X.1 X.2.1 hd hL (k := j) hj rfl hi rfl fun ls' hl' => k _ _ C n z h H locs ls' hR hS (gL.st1 hl') h1 h2
  · exact h.elim
end ROWS
