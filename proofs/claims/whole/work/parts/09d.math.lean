/-! a method of a class some of whose methods are run by an entry instead (java.lang.Math), itself not one of these -/
theorem Met.ofWF {l : Launch} {y : MethodName} {ws ws' : List Cond} {rm : Room} {Pc : Array Value → State → Prop} {Qc : Array Value → State → Outcome → State → Prop} {mc ms : Nat} {free : Addr → Prop} {cc : ByteArray} {maxL : Nat} {ret : Option FieldType}
    (hy : plainFor y = true) (hw : ws = Cond.code y cc maxL ret :: ws')
    (body : ∀ p e s m args below meth c s₁, BodyLoose p l y (headSpec ws rm) cc maxL ret e s m args below meth c s₁ → c.maxLocals = maxL → Pc args s →
      W p l e (headSpec ws rm).room s m args below meth c s.heap [] 0 0 (MQ below Qc args s mc ms free) (entryFrame m args maxL)) : Met l y ws rm Pc Qc mc ms free := by
  refine MetFree.of_bodySF (code := cc) (maxLocals := maxL) (ret := ret) hy ?_ ?_
  · intro args s m h hn
    obtain ⟨meth, c, h1, h2, h3, h4, h5, h6, -, -⟩ := Cond.code_spec hn (atoms_spec (ws := ws) h _ (by rw [hw]; exact List.mem_cons_self))
    exact ⟨meth, c, h1, h2, h3, h4, h5, h6⟩
  · intro p e s m args below meth c s₁ B hml hP _
    have hh0 : s₁.heap = s.heap := by rw [B.state]; rfl
    obtain ⟨t, a1, o, b1, b2, b3⟩ := body p e s m args below meth c s₁ B hml hP s₁ hh0 (Stand.of_body B)
    exact ⟨t, o, a1, b1, b2, ⟨b3.1, b3.2⟩⟩
theorem Con.ofF {l : Launch} {y : MethodName} {cc : ByteArray} {nL rk mc ms : Nat} {ret : Option FieldType} {sp : gSp} (hy : plainFor y = true)
    (body : ∀ (x : gCx) (as : List Value) (C : gC) (n z : Nat) (Q : gQ), x.2.1 = l → x.2.2.2.1 = gRm rk mc ms → x.2.2.2.2.2.2.2.2.1.name = y.name → gX x cc y.cls nL → gXQ x nL ret mc ms Q → gRoom x (n + mc) (z + ms) → sp as C n z Q → (lg_sl as).length ≤ nL ∧ gW x nL 0 (gpad nL (gent as)) [] C n z) : Con l y cc nL ret rk mc ms sp := by
  intro D dA b as C n z Q hsp
  refine Met.ofWF (cc := cc) (maxL := nL) (ret := ret) hy rfl ?_
  intro p e s m args below meth c s₁ B hml ⟨ha, hR, hb, hK⟩
  subst ha
  have hts := atoms_spec (ws := Cond.code y cc nL ret :: TB) B.pre
  have hsz := hR.1
  have hz := hR.2.1
  subst hsz; subst hz
  obtain ⟨hlen, hW⟩ := body (p, l, e, gRm rk mc ms, s, m, as.toArray, below, meth, c, D, dA, b, MQ below (gQc D dA b s.heap.size (gZ s.heap) mc ms Q) as.toArray s mc ms (fun q => b ≤ q)) as C _ _ Q rfl rfl (name_of_methodNamed B.named B.method).1
    ⟨B.exec, B.bytes, hml, findClass_of_methodNamed B.named, fun w hw => hts w (List.mem_cons_of_mem _ hw), hK, B.notSynchronized, hb⟩ ⟨B.returns, rfl, rfl, rfl⟩ ⟨Nat.le_refl _, Nat.le_refl _⟩ hsp
  rw [lg_entry_eq]
  have := hW s.heap [] _ hR va_S.rf ((gL.ent hlen).pad nL) (Nat.le_add_right _ _) ⟨Nat.le_refl _, Nat.le_add_right _ _⟩
  rw [Nat.sub_self, Nat.sub_self] at this
  exact this
