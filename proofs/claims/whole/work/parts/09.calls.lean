/-! contracts, calls and returns -/
def gRm (rk mc ms : Nat) : Room := { frames := rk, cells := mc, slots := ms, locals := 64 * rk }
def gPc (D : va_G) (dA : Nat → ClassId) (b : Nat) (as : List Value) (C : gC) (n z : Nat) : Array Value → State → Prop := fun v U => v = as.toArray ∧ gR D dA b C n z U.heap ∧ b ≤ U.heap.size ∧ gK D dA b U
def gQc (D : va_G) (dA : Nat → ClassId) (b n z mc ms : Nat) (Q : gQ) : Array Value → State → Outcome → State → Prop := fun _ U o t => (∃ (r : Option Value) (C' : gC) (n' z' : Nat), o = .returned r ∧ Q r C' n' z' ∧ gR D dA b C' n' z' t.heap ∧ n ≤ n' ∧ z ≤ z' ∧ n' ≤ n + mc ∧ z' ≤ z + ms) ∧ va_F (fun q => b ≤ q) U t
/-- a method's contract: whatever its spec promises at a world comes true of the machine -/
def Con (l : Launch) (y : MethodName) (cc : ByteArray) (nL : Nat) (ret : Option FieldType) (rk mc ms : Nat) (sp : gSp) : Prop :=
  ∀ (D : va_G) (dA : Nat → ClassId) (b : Nat) (as : List Value) (C : gC) (n z : Nat) (Q : gQ), sp as C n z Q → Met l y (.code y cc nL ret :: TB) (gRm rk mc ms) (gPc D dA b as C n z) (gQc D dA b n z mc ms Q) mc ms (fun q => b ≤ q)
theorem gPc.blind {D : va_G} {dA : Nat → ClassId} {b : Nat} {as : List Value} {C : gC} {n z : Nat} : FrameBlind (gPc D dA b as C n z) := fun a U g mk ⟨h1, h2, h3, h4⟩ => ⟨h1, h2, h3, h4.moved (u := U) (U := U.calling g mk a) (State.WarmedH.refl U) h3 (fun _ _ => rfl)⟩
theorem gR_room {D : va_G} {dA : Nat → ClassId} {b n z : Nat} {C : gC} {H : Heap} (h : gR D dA b C n z H) : H.size = n ∧ gZ H = z := ⟨h.1, h.2.1⟩
/-- locals, all of them -/
def gpad : Nat → gLv → gLv
  | 0, l => l
  | n + 1, [] => none :: gpad n []
  | n + 1, o :: l => o :: gpad n l
theorem gl_gpad0 : ∀ (n i : Nat), gl (gpad n []) i = none
  | 0, i => by simp [gpad, gl]
  | n + 1, 0 => by simp [gpad, gl]
  | n + 1, i + 1 => by simp [gpad, gl, gl_gpad0 n i]
theorem gl_gpad : ∀ (n : Nat) (l : gLv) (i : Nat), gl (gpad n l) i = gl l i
  | 0, l, i => by simp [gpad]
  | n + 1, [], i => by rw [gl_gpad0]; simp [gl]
  | n + 1, o :: l, 0 => by simp [gpad, gl]
  | n + 1, o :: l, i + 1 => by simp [gpad, gl, gl_gpad n l i]
theorem gL.pad {nL : Nat} {ls : Array Slot} {lv : gLv} (h : gL nL ls lv) (n : Nat) : gL nL ls (gpad n lv) := h.of fun q hq => by
  rw [gpr_mem, gl_gpad] at hq
  exact gpr_mem.mpr hq
/-- the end of a body whose contract has the post Q -/
def gXQ (x : gCx) (nL : Nat) (ret : Option FieldType) (mc ms : Nat) (Q : gQ) : Prop := match x with
  | (_, _, _, R, s, _, args, below, meth, _, D, dA, b, Qm) => meth.sig.returnType = ret ∧ R.cells = mc ∧ R.slots = ms ∧ Qm = MQ below (gQc D dA b s.heap.size (gZ s.heap) mc ms Q) args s mc ms (fun q => b ≤ q)
theorem Con.of {l : Launch} {y : MethodName} {cc : ByteArray} {nL rk mc ms : Nat} {ret : Option FieldType} {sp : gSp} (hy : plainName y.cls = true)
    (body : ∀ (x : gCx) (as : List Value) (C : gC) (n z : Nat) (Q : gQ), x.2.1 = l → x.2.2.2.1 = gRm rk mc ms → x.2.2.2.2.2.2.2.2.1.name = y.name → gX x cc y.cls nL → gXQ x nL ret mc ms Q → gRoom x (n + mc) (z + ms) → sp as C n z Q → (lg_sl as).length ≤ nL ∧ gW x nL 0 (gpad nL (gent as)) [] C n z) : Con l y cc nL ret rk mc ms sp := by
  intro D dA b as C n z Q hsp
  refine Met.ofW (cc := cc) (maxL := nL) (ret := ret) hy rfl ?_
  intro p e s m args below meth c s₁ B hml ⟨ha, hR, hb, hK⟩
  subst ha
  have hts := atoms_spec (ws := Cond.code y cc nL ret :: TB) B.pre
  have hsz := hR.1
  have hz := hR.2.1
  subst hsz; subst hz
  obtain ⟨hlen, hW⟩ := body (p, l, e, gRm rk mc ms, s, m, as.toArray, below, meth, c, D, dA, b, MQ below (gQc D dA b s.heap.size (gZ s.heap) mc ms Q) as.toArray s mc ms (fun q => b ≤ q)) as C _ _ Q rfl rfl (name_of_methodNamed B.named B.method).1
    ⟨B.exec, B.bytes, hml, findClass_of_methodNamed B.named, fun w hw => hts w (List.mem_cons_of_mem _ hw), hK, B.notSynchronized, hb⟩ ⟨B.returns, rfl, rfl, rfl⟩ ⟨Nat.le_refl _, Nat.le_refl _⟩ hsp
  rw [lg_entry_eq]
  have := hW s.heap [] _ hR va_S.rf ((gL.ent hlen).pad nL) (Nat.le_add_right _ _) ⟨Nat.le_refl _, Nat.le_add_right _ _⟩
  rw [Nat.sub_self, Nat.sub_self] at this
  exact this
section CALLS
variable {x : gCx} {cc : ByteArray} {own : String} {nL pc : Nat} {κ κ1 κ2 : gKo} {Q : gQ} {mc ms : Nat}
-- returns
def s_iret (ty : FieldType) (Q : gQ) : gKo := fun _ st C n z => match st with
  | [.int v] => narrow ty (.int v) = .int v ∧ Q (some (.int v)) C n z
  | _ => False
def s_lret (Q : gQ) : gKo := fun _ st C n z => match st with
  | [.long v] => Q (some (.long v)) C n z
  | _ => False
def s_aret (Q : gQ) : gKo := fun _ st C n z => match st with
  | [.ref a] => Q (some (.ref a)) C n z
  | [.null] => Q (some .null) C n z
  | _ => False
def s_vret (Q : gQ) : gKo := fun _ st C n z => match st with
  | [] => Q none C n z
  | _ => False
theorem gQc.end {D : va_G} {dA : Nat → ClassId} {b n z mc ms : Nat} {C : gC} {s t : State} {H : Heap} {locs : List Loc} {r : Option Value} {args : Array Value} (hR : gR D dA b C n z H) (hS : va_S (fun q => b ≤ q) s.heap H locs) (ht : t.heap = H) (h1 : n ≤ s.heap.size + mc) (h2 : gZ s.heap ≤ z ∧ z ≤ gZ s.heap + ms) (hq : Q r C n z) : gQc D dA b s.heap.size (gZ s.heap) mc ms Q args s (.returned r) t :=
  ⟨⟨r, C, n, z, rfl, hq, by rw [ht]; exact hR, by rw [← hR.1]; exact hS.1, h2.1, h1, h2.2⟩, hS.F ht⟩
theorem r_iret (X : gX x cc own nL) {ty : FieldType} (XQ : gXQ x nL (some ty) mc ms Q) (hd : decode cc pc = .ok (.ireturn, 1)) : Snd x nL pc (s_iret ty Q) := by
  obtain ⟨p, l, e, R, s, m, args, below, meth, c, D, dA, b, Qm⟩ := x
  obtain ⟨x1, x2, x3, rfl⟩ := XQ
  intro lv st C n z h
  unfold s_iret at h
  split at h
  · rename_i v
    intro H locs ls hR hS hL h1 h2
    rw [x2] at h1; rw [x3] at h2
    refine W.widen (k := mc) (n := ms) (by omega) (by omega) ?_
    exact W.zret X.1 X.2.1 x1 h.1 (fun t ht hW => gQc.end hR hS ht h1 h2 h.2) hS.2.2 hd X.2.2.2.2.2.2.1
  · exact h.elim
theorem r_lret (X : gX x cc own nL) (XQ : gXQ x nL (some .long) mc ms Q) (hd : decode cc pc = .ok (.lreturn, 1)) : Snd x nL pc (s_lret Q) := by
  obtain ⟨p, l, e, R, s, m, args, below, meth, c, D, dA, b, Qm⟩ := x
  obtain ⟨x1, x2, x3, rfl⟩ := XQ
  intro lv st C n z h
  unfold s_lret at h
  split at h
  · rename_i v
    intro H locs ls hR hS hL h1 h2
    rw [x2] at h1; rw [x3] at h2
    refine W.widen (k := mc) (n := ms) (by omega) (by omega) ?_
    exact W.lret X.1 X.2.1 x1 (fun t ht hW => gQc.end hR hS ht h1 h2 h) hS.2.2 hd X.2.2.2.2.2.2.1
  · exact h.elim
theorem r_aret (X : gX x cc own nL) {rt : FieldType} (XQ : gXQ x nL (some rt) mc ms Q) (hrt : (∃ n, rt = .object n) ∨ ∃ t, rt = .array t) (hd : decode cc pc = .ok (.areturn, 1)) : Snd x nL pc (s_aret Q) := by
  obtain ⟨p, l, e, R, s, m, args, below, meth, c, D, dA, b, Qm⟩ := x
  obtain ⟨x1, x2, x3, rfl⟩ := XQ
  intro lv st C n z h
  unfold s_aret at h
  split at h
  · rename_i v
    intro H locs ls hR hS hL h1 h2
    rw [x2] at h1; rw [x3] at h2
    refine W.widen (k := mc) (n := ms) (by omega) (by omega) ?_
    exact W.aret X.1 X.2.1 x1 hrt (Or.inr ⟨v, rfl⟩) (fun t ht hW => gQc.end hR hS ht h1 h2 h) hS.2.2 hd X.2.2.2.2.2.2.1
  · intro H locs ls hR hS hL h1 h2
    rw [x2] at h1; rw [x3] at h2
    refine W.widen (k := mc) (n := ms) (by omega) (by omega) ?_
    exact W.aret X.1 X.2.1 x1 hrt (Or.inl rfl) (fun t ht hW => gQc.end hR hS ht h1 h2 h) hS.2.2 hd X.2.2.2.2.2.2.1
  · exact h.elim
theorem r_vret (X : gX x cc own nL) (XQ : gXQ x nL none mc ms Q) (hd : decode cc pc = .ok (.return_, 1)) : Snd x nL pc (s_vret Q) := by
  obtain ⟨p, l, e, R, s, m, args, below, meth, c, D, dA, b, Qm⟩ := x
  obtain ⟨x1, x2, x3, rfl⟩ := XQ
  intro lv st C n z h
  unfold s_vret at h
  split at h
  · intro H locs ls hR hS hL h1 h2
    rw [x2] at h1; rw [x3] at h2
    refine W.widen (k := mc) (n := ms) (by omega) (by omega) ?_
    exact W.vret X.1 X.2.1 x1 (fun t ht hW => gQc.end hR hS ht h1 h2 h) hS.2.2 hd X.2.2.2.2.2.2.1
  · exact h.elim
-- calls
def gcat (st : List Value) : Prop := (st.map fun v => v.category).sum ≤ 8
/-- a call that has run -/
theorem g_run {p : Program} {l : Launch} {e : Env} {R : Room} {s : State} {m : MethodId} {args : Array Value} {below : List Frame} {meth : Method} {c : Code} {D : va_G} {dA : Nat → ClassId} {b n z : Nat} {Qm : State → Prop} {H : Heap} {locs : List Loc} {ls : Array Slot} {st rest : List Value} {lv : gLv} {a : Array Value}
    (hr : va_Run p l e R s m args below meth c H locs (n - s.heap.size) (z - gZ s.heap) mc ms (F0 m pc ls st) rest (gQc D dA b n z mc ms Q a) (fun q => b ≤ q)) (hn : H.size = n) (hS : va_S (fun q => b ≤ q) s.heap H locs) (hL : gL nL ls lv) (h2 : gZ s.heap ≤ z) (h1 : n + mc ≤ s.heap.size + R.cells) (h3 : z + ms ≤ gZ s.heap + R.slots)
    (k : ∀ r C' n' z', Q r C' n' z' → gW (p, l, e, R, s, m, args, below, meth, c, D, dA, b, Qm) nL (pc + 3) lv (r.toList ++ rest) C' n' z') : W p l e R s m args below meth c H locs (n - s.heap.size) (z - gZ s.heap) Qm (F0 m pc ls st) := by
  intro T hT X
  obtain ⟨v, st₀, t, T', L, h0, X', hLf, e1, e2, ⟨⟨r, C', n', z', hv, hq, hR', g1, g2, g3, g4⟩, hz, hk⟩, stp⟩ := hr T hT X
  cases hv
  rw [h0] at hz hk
  have hS' : va_S (fun q => b ≤ q) s.heap T'.heap (locs ++ L) := ⟨Nat.le_trans hS.1 (by rw [e1]; exact hz), fun q h1 h2 => by rw [e1, hk q (Nat.lt_of_lt_of_le h1 hS.1) h2]; exact hS.2.1 q h1 h2, fun q hq => by
      rcases List.mem_append.mp hq with h | h
      · exact hS.2.2 q h
      · exact hLf q h⟩
  have hR1 : gR D dA b C' n' z' T'.heap := by rw [e1]; exact hR'
  obtain ⟨t2, a1, b1⟩ := g_fit (cells := n - s.heap.size + mc) (slots := z - gZ s.heap + ms) hR1 (k v C' n' z' hq T'.heap (locs ++ L) ls hR1 hS' hL (by omega) ⟨by omega, by omega⟩) T' rfl X'
  exact ⟨t2, stp t2 a1, b1⟩
/-- a method as 'own' names it at idx, and what its contract costs -/
def gMd (own : String) (idx : Nat) (y : MethodName) (cc : ByteArray) (nL : Nat) (ret : Option FieldType) (na : Nat) : Prop := Cond.methodLink own idx y ∈ TB ∧ Cond.initialized y.cls ∈ TB ∧ Cond.code y cc nL ret ∈ TB ∧ (y.cls ≠ "java/lang/invoke/MethodHandle" ∧ y.cls ≠ "java/lang/invoke/VarHandle" ∧ (parseMethodDescriptor y.desc).map (fun d => d.parameters.length) = some na)
theorem tb_goodIn {y : MethodName} {cc : ByteArray} {nL : Nat} {ret : Option FieldType} (h : Cond.code y cc nL ret ∈ TB) : GoodIn TB (Cond.code y cc nL ret :: TB) := fun w hw => by
  rcases List.mem_cons.mp hw with rfl | hw
  · exact ⟨h, tb_good _ h⟩
  · exact ⟨hw, tb_good _ hw⟩
theorem gCallB {R : Room} {s : State} {args : Array Value} {idx : Nat} {y : MethodName} {cy : ByteArray} {nLy na rk mcy msy : Nat} {ret : Option FieldType} (hts : ∀ w ∈ TB, w.before args s = true) (hm : gMd own idx y cy nLy ret na) (hr : rk + 1 ≤ R.frames) (hl : 8 + (nLy + 11) + 64 * rk ≤ R.locals) : CallB R s args own idx y cy nLy ret (.code y cy nLy ret :: TB) (gRm rk mcy msy) mcy msy na :=
  callB_of (rm := gRm rk mcy msy) na hts (tb_goodIn hm.2.2.1) rfl rfl rfl (hts _ hm.2.1) (hts _ hm.1) hm.2.2.2 ⟨hr, hl⟩
/-- the room that a callee of rank rk asks for -/
def gDeep (x : gCx) (rk nLy : Nat) : Prop := rk + 1 ≤ x.2.2.2.1.frames ∧ 8 + (nLy + 11) + 64 * rk ≤ x.2.2.2.1.locals
def s_cv (ci na : Nat) (sp : gSp) (κ : gKo) : gKo := fun lv st C n z => match st.drop na with
  | .ref a :: rest => (match C a with
    | some (.inr (c, _)) => c = ci ∧ gcat rest ∧ sp (.ref a :: (st.take na).reverse) C n z (fun r C' n' z' => κ lv (r.toList ++ rest) C' n' z')
    | _ => False)
  | _ => False
def s_cs (na : Nat) (sp : gSp) (κ : gKo) : gKo := fun lv st C n z => na ≤ st.length ∧ gcat (st.drop na) ∧ sp (st.take na).reverse C n z (fun r C' n' z' => κ lv (r.toList ++ st.drop na) C' n' z')
/-- an allocating call: its room first -/
def s_al (nm zm mcy msy : Nat) (κ : gKo) : gKo := fun lv st C n z => gfree nm zm n z mcy msy ∧ κ lv st C n z
theorem drop_cons_len {st : List Value} {na : Nat} {v : Value} {rest : List Value} (h : st.drop na = v :: rest) : (st.take na).length = na ∧ st = (st.take na).reverse.reverse ++ v :: rest := by
  have h1 : na < st.length := by
    have := congrArg List.length h
    simp at this
    omega
  refine ⟨by simp; omega, ?_⟩
  rw [List.reverse_reverse, ← h, List.take_append_drop]
/-- room in a context -/
def gHas (x : gCx) (n z mcy msy : Nat) : Prop := match x with
  | (_, _, _, R, s, _) => n + mcy ≤ s.heap.size + R.cells ∧ z + msy ≤ gZ s.heap + R.slots
theorem gHas.of {nm zm n z mcy msy : Nat} (h : gRoom x nm zm) (hf : gfree nm zm n z mcy msy) : gHas x n z mcy msy := by
  obtain ⟨p, l, e, R, s, m, args, below, meth, c, D, dA, b, Qm⟩ := x
  obtain ⟨h1, h2⟩ := h
  obtain ⟨h3, h4⟩ := hf
  exact ⟨by omega, by omega⟩
theorem gW.has {lv : gLv} {st : List Value} {C : gC} {n z : Nat} (h : gHas x n z 0 0 → gW x nL pc lv st C n z) : gW x nL pc lv st C n z := by
  obtain ⟨p, l, e, R, s, m, args, below, meth, c, D, dA, b, Qm⟩ := x
  exact fun H locs ls hR hS hL h1 h2 => h ⟨h1, h2.2⟩ H locs ls hR hS hL h1 h2
theorem g_cv (X : gX x cc own nL) {idx ci na rk mcy msy : Nat} {y : MethodName} {cy : ByteArray} {nLy : Nat} {ret : Option FieldType} {sp : gSp} {T : u_T} {N : Nat} (hc : Con x.2.1 y cy nLy ret rk mcy msy sp) (hm : gMd own idx y cy nLy ret na) (hci : vwCl[ci]? = some (y.cls, T, N)) (hin : Cond.instanceMethod y ∈ TB) (hse : Cond.selects y.cls y y ∈ TB) (hdp : gDeep x rk nLy) (hd : decode cc pc = .ok (.invokevirtual idx, 3)) (kk : Snd x nL (pc + 3) κ)
    {lv : gLv} {st : List Value} {C : gC} {n z : Nat} (hroom : gHas x n z mcy msy) (h : s_cv ci na sp κ lv st C n z) : gW x nL pc lv st C n z := by
  obtain ⟨p, l, e, R, s, m, args, below, meth, c, D, dA, b, Qm⟩ := x
  unfold s_cv at h
  split at h
  · rename_i a rest hdr
    split at h
    · rename_i c' fs e1
      obtain ⟨rfl, hcat, h⟩ := h
      obtain ⟨hta, hst⟩ := drop_cons_len hdr
      intro H locs ls hR hS hL h1 h2
      obtain ⟨g1, g2⟩ := hroom
      have hrv : ∃ cellB : Cell, H[a]? = some cellB ∧ cellB.vm.isStatics = false ∧ s.vm.findClass y.cls = some cellB.cls := va_recv (ws := [(a, gv dA (.inr (c', fs)))]) (q0 := 0) (ci := c') (q := (y.cls, T, N)) X.2.2.2.2.2.1.1 (hR.P1 e1 (gok_ci hci)) hci rfl
      have hs0 := hS.1
      have hn0 := hR.1
      have hdp : rk + 1 ≤ R.frames ∧ 8 + (nLy + 11) + 64 * rk ≤ R.locals := hdp
      have hgo := va_runV (l := l) (e := e) (below := below) (meth := meth) (R := R) (g := F0 m pc ls st) (rest := rest) (As := (st.take na).reverse) (n := na) (locs := locs) (cells := n - s.heap.size) (slots := z - gZ s.heap) ⟨X.1, X.2.1, X.2.2.1, X.2.2.2.1, X.2.2.2.2.1⟩ (hc D dA b _ C n z _ h) ⟨gCallB X.2.2.2.2.1 hm hdp.1 hdp.2, X.2.2.2.2.1 _ hin, X.2.2.2.2.1 _ hse⟩ (b := a) ⟨gPc.blind, hrv, fun U hU hW => ⟨rfl, by rw [hU]; exact hR, by rw [hU]; exact Nat.le_trans X.2.2.2.2.2.2.2 hS.1, X.2.2.2.2.2.1.moved hW X.2.2.2.2.2.2.2 (fun q hq => by rw [hU]; exact hS.2.1 q (Nat.lt_of_lt_of_le hq X.2.2.2.2.2.2.2) (Nat.not_le.mpr hq))⟩⟩ rfl (by rw [List.length_reverse]; exact hta) hL.1 hst (lv_room hcat) hd ⟨by omega, by omega⟩
      exact g_run hgo hR.1 hS hL h2.1 g1 g2 (fun r C' n' z' hq => kk _ _ _ _ _ hq)
    · exact h.elim
  · exact h.elim
theorem r_cv (X : gX x cc own nL) {idx ci na rk : Nat} {y : MethodName} {cy : ByteArray} {nLy : Nat} {ret : Option FieldType} {sp : gSp} {T : u_T} {N : Nat} (hm : gMd own idx y cy nLy ret na) (hci : vwCl[ci]? = some (y.cls, T, N)) (hin : Cond.instanceMethod y ∈ TB) (hse : Cond.selects y.cls y y ∈ TB) (hc : Con x.2.1 y cy nLy ret rk 0 0 sp) (hdp : gDeep x rk nLy) (hd : decode cc pc = .ok (.invokevirtual idx, 3)) (kk : Snd x nL (pc + 3) κ) : Snd x nL pc (s_cv ci na sp κ) :=
  fun _ _ _ _ _ h => gW.has fun hh => g_cv X hc hm hci hin hse hdp hd kk hh h
theorem r_cvA (X : gX x cc own nL) {idx ci na rk mcy msy nm zm : Nat} {y : MethodName} {cy : ByteArray} {nLy : Nat} {ret : Option FieldType} {sp : gSp} {T : u_T} {N : Nat} (hroom : gRoom x nm zm) (hm : gMd own idx y cy nLy ret na) (hci : vwCl[ci]? = some (y.cls, T, N)) (hin : Cond.instanceMethod y ∈ TB) (hse : Cond.selects y.cls y y ∈ TB) (hc : Con x.2.1 y cy nLy ret rk mcy msy sp) (hdp : gDeep x rk nLy) (hd : decode cc pc = .ok (.invokevirtual idx, 3)) (kk : Snd x nL (pc + 3) κ) : Snd x nL pc (s_al nm zm mcy msy (s_cv ci na sp κ)) :=
  fun _ _ _ _ _ h => g_cv X hc hm hci hin hse hdp hd kk (gHas.of hroom h.1) h.2
theorem take_len {st : List Value} {na : Nat} (h : na ≤ st.length) : (st.take na).reverse.length = na ∧ st = (st.take na).reverse.reverse ++ st.drop na := by
  refine ⟨by simp; omega, ?_⟩
  rw [List.reverse_reverse, List.take_append_drop]
theorem g_cs (X : gX x cc own nL) {idx na rk mcy msy : Nat} {y : MethodName} {cy : ByteArray} {nLy : Nat} {ret : Option FieldType} {sp : gSp} (hc : Con x.2.1 y cy nLy ret rk mcy msy sp) (hm : gMd own idx y cy nLy ret na) (hin : Cond.static y ∈ TB) (hdp : gDeep x rk nLy) (hd : decode cc pc = .ok (.invokestatic idx, 3)) (kk : Snd x nL (pc + 3) κ)
    {lv : gLv} {st : List Value} {C : gC} {n z : Nat} (hroom : gHas x n z mcy msy) (h : s_cs na sp κ lv st C n z) : gW x nL pc lv st C n z := by
  obtain ⟨p, l, e, R, s, m, args, below, meth, c, D, dA, b, Qm⟩ := x
  obtain ⟨hna, hcat, h⟩ := h
  obtain ⟨hta, hst⟩ := take_len hna
  intro H locs ls hR hS hL h1 h2
  obtain ⟨g1, g2⟩ := hroom
  have hs0 := hS.1
  have hn0 := hR.1
  have hdp : rk + 1 ≤ R.frames ∧ 8 + (nLy + 11) + 64 * rk ≤ R.locals := hdp
  have hgo := va_runS (l := l) (e := e) (below := below) (meth := meth) (R := R) (g := F0 m pc ls st) (rest := st.drop na) (As := (st.take na).reverse) (n := na) (locs := locs) (cells := n - s.heap.size) (slots := z - gZ s.heap) ⟨X.1, X.2.1, X.2.2.1, X.2.2.2.1, X.2.2.2.2.1⟩ (hc D dA b _ C n z _ h) ⟨gCallB X.2.2.2.2.1 hm hdp.1 hdp.2, X.2.2.2.2.1 _ hin⟩ ⟨gPc.blind, fun U hU hW => ⟨rfl, by rw [hU]; exact hR, by rw [hU]; exact Nat.le_trans X.2.2.2.2.2.2.2 hS.1, X.2.2.2.2.2.1.moved hW X.2.2.2.2.2.2.2 (fun q hq => by rw [hU]; exact hS.2.1 q (Nat.lt_of_lt_of_le hq X.2.2.2.2.2.2.2) (Nat.not_le.mpr hq))⟩⟩ rfl hta hL.1 hst (lv_room hcat) hd ⟨by omega, by omega⟩
  exact g_run hgo hR.1 hS hL h2.1 g1 g2 (fun r C' n' z' hq => kk _ _ _ _ _ hq)
theorem r_cs (X : gX x cc own nL) {idx na rk : Nat} {y : MethodName} {cy : ByteArray} {nLy : Nat} {ret : Option FieldType} {sp : gSp} (hm : gMd own idx y cy nLy ret na) (hin : Cond.static y ∈ TB) (hc : Con x.2.1 y cy nLy ret rk 0 0 sp) (hdp : gDeep x rk nLy) (hd : decode cc pc = .ok (.invokestatic idx, 3)) (kk : Snd x nL (pc + 3) κ) : Snd x nL pc (s_cs na sp κ) :=
  fun _ _ _ _ _ h => gW.has fun hh => g_cs X hc hm hin hdp hd kk hh h
theorem r_csA (X : gX x cc own nL) {idx na rk mcy msy nm zm : Nat} {y : MethodName} {cy : ByteArray} {nLy : Nat} {ret : Option FieldType} {sp : gSp} (hroom : gRoom x nm zm) (hm : gMd own idx y cy nLy ret na) (hin : Cond.static y ∈ TB) (hc : Con x.2.1 y cy nLy ret rk mcy msy sp) (hdp : gDeep x rk nLy) (hd : decode cc pc = .ok (.invokestatic idx, 3)) (kk : Snd x nL (pc + 3) κ) : Snd x nL pc (s_al nm zm mcy msy (s_cs na sp κ)) :=
  fun _ _ _ _ _ h => g_cs X hc hm hin hdp hd kk (gHas.of hroom h.1) h.2
/-- a constructor -/
def s_ci (na : Nat) (sp : gSp) (κ : gKo) : gKo := fun lv st C n z => match st.drop na with
  | .ref a :: rest => gcat rest ∧ sp (.ref a :: (st.take na).reverse) C n z (fun r C' n' z' => κ lv (r.toList ++ rest) C' n' z')
  | _ => False
theorem g_ci (X : gX x cc own nL) {idx na rk mcy msy : Nat} {y : MethodName} {cy : ByteArray} {nLy : Nat} {sp : gSp} (hc : Con x.2.1 y cy nLy none rk mcy msy sp) (hm : gMd own idx y cy nLy none na) (hy : y.name = "<init>") (hin : Cond.instanceMethod y ∈ TB) (hdp : gDeep x rk nLy) (hd : decode cc pc = .ok (.invokespecial idx, 3)) (kk : Snd x nL (pc + 3) κ)
    {lv : gLv} {st : List Value} {C : gC} {n z : Nat} (hroom : gHas x n z mcy msy) (h : s_ci na sp κ lv st C n z) : gW x nL pc lv st C n z := by
  obtain ⟨p, l, e, R, s, m, args, below, meth, c, D, dA, b, Qm⟩ := x
  unfold s_ci at h
  split at h
  · rename_i a rest hdr
    obtain ⟨hcat, h⟩ := h
    obtain ⟨hta, hst⟩ := drop_cons_len hdr
    intro H locs ls hR hS hL h1 h2
    obtain ⟨g1, g2⟩ := hroom
    have hs0 := hS.1
    have hn0 := hR.1
    have hdp : rk + 1 ≤ R.frames ∧ 8 + (nLy + 11) + 64 * rk ≤ R.locals := hdp
    have hgo := va_runI (l := l) (e := e) (below := below) (meth := meth) (R := R) (g := F0 m pc ls st) (rest := rest) (As := (st.take na).reverse) (n := na) (locs := locs) (cells := n - s.heap.size) (slots := z - gZ s.heap) ⟨X.1, X.2.1, X.2.2.1, X.2.2.2.1, X.2.2.2.2.1⟩ (hc D dA b _ C n z _ h) ⟨gCallB X.2.2.2.2.1 hm hdp.1 hdp.2, hy, X.2.2.2.2.1 _ hin⟩ (b := a) ⟨gPc.blind, fun U hU hW => ⟨rfl, by rw [hU]; exact hR, by rw [hU]; exact Nat.le_trans X.2.2.2.2.2.2.2 hS.1, X.2.2.2.2.2.1.moved hW X.2.2.2.2.2.2.2 (fun q hq => by rw [hU]; exact hS.2.1 q (Nat.lt_of_lt_of_le hq X.2.2.2.2.2.2.2) (Nat.not_le.mpr hq))⟩⟩ rfl (by rw [List.length_reverse]; exact hta) hL.1 hst (lv_room hcat) hd ⟨by omega, by omega⟩
    exact g_run hgo hR.1 hS hL h2.1 g1 g2 (fun r C' n' z' hq => kk _ _ _ _ _ hq)
  · exact h.elim
theorem r_ci (X : gX x cc own nL) {idx na rk : Nat} {y : MethodName} {cy : ByteArray} {nLy : Nat} {sp : gSp} (hm : gMd own idx y cy nLy none na) (hy : y.name = "<init>") (hin : Cond.instanceMethod y ∈ TB) (hc : Con x.2.1 y cy nLy none rk 0 0 sp) (hdp : gDeep x rk nLy) (hd : decode cc pc = .ok (.invokespecial idx, 3)) (kk : Snd x nL (pc + 3) κ) : Snd x nL pc (s_ci na sp κ) :=
  fun _ _ _ _ _ h => gW.has fun hh => g_ci X hc hm hy hin hdp hd kk hh h
theorem r_ciA (X : gX x cc own nL) {idx na rk mcy msy nm zm : Nat} {y : MethodName} {cy : ByteArray} {nLy : Nat} {sp : gSp} (hroom : gRoom x nm zm) (hm : gMd own idx y cy nLy none na) (hy : y.name = "<init>") (hin : Cond.instanceMethod y ∈ TB) (hc : Con x.2.1 y cy nLy none rk mcy msy sp) (hdp : gDeep x rk nLy) (hd : decode cc pc = .ok (.invokespecial idx, 3)) (kk : Snd x nL (pc + 3) κ) : Snd x nL pc (s_al nm zm mcy msy (s_ci na sp κ)) :=
  fun _ _ _ _ _ h => g_ci X hc hm hy hin hdp hd kk (gHas.of hroom h.1) h.2
/-- Object's own constructor -/
def s_oi (κ : gKo) : gKo := fun lv st C n z => match st with
  | .ref _ :: rest => gcat rest ∧ κ lv rest C n z
  | _ => False
theorem r_oi (X : gX x cc own nL) {idx : Nat} (hl : Cond.methodLink own idx Lib.objectInit ∈ TB) (hin : Cond.instanceMethod Lib.objectInit ∈ TB) (hco : Cond.code Lib.objectInit ⟨#[0xb1]⟩ 1 none ∈ TB) (hdp : 1 ≤ x.2.2.2.1.frames ∧ 20 ≤ x.2.2.2.1.locals) (hd : decode cc pc = .ok (.invokespecial idx, 3)) (kk : Snd x nL (pc + 3) κ) : Snd x nL pc (s_oi κ) := by
  obtain ⟨p, l, e, R, s, m, args, below, meth, c, D, dA, b, Qm⟩ := x
  intro lv st C n z h
  unfold s_oi at h
  split at h
  · rename_i a rest
    intro H locs ls hR hS hL h1 h2
    have hroom : 2 * (F0 m pc ls (.ref a :: rest)).monitorRoom + (rest.map fun v => v.category).sum + 12 ≤ R.locals := by
      have := lv_room (m := m) (pc := pc) (ls := ls) (rest := .ref a :: rest) (st := rest) h.1
      have : 20 ≤ R.locals := hdp.2
      omega
    exact W.objInit X.1 X.2.1 X.2.2.2.1 (X.2.2.2.2.1 _ hl) (X.2.2.2.2.1 _ hin) (X.2.2.2.2.1 _ hco) rfl (by rw [X.2.2.1]; exact hL.1) rfl hd hdp.1 hroom (kk lv _ C n z h.2 H locs ls hR hS hL h1 h2)
  · exact h.elim
end CALLS
/-- loops: a family of invariants over cut points, with a measure that falls from cut to cut -/
theorem g_loops {x : gCx} {nL : Nat} (Inv : Nat → Nat → gKo) (h : ∀ (pc μ : Nat), Snd x nL pc (Inv pc μ) ∨ (∀ (hih : ∀ (pc' μ' : Nat), μ' < μ → Snd x nL pc' (Inv pc' μ')), Snd x nL pc (Inv pc μ))) : ∀ (pc μ : Nat), Snd x nL pc (Inv pc μ) := by
  have key : ∀ (μ pc : Nat), Snd x nL pc (Inv pc μ) := by
    intro μ
    induction μ using Nat.strongRecOn with
    | ind μ ih =>
      intro pc
      rcases h pc μ with h | h
      · exact h
      · exact h fun pc' μ' hlt => ih μ' hlt pc'
  exact fun pc μ => key μ pc
