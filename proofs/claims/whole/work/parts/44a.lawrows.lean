/-! the law's own rows: its script, its end -/
def R_law : String := "RailingsCountLaw"
def lw_P (b : Addr) (xs : List Int32) (args : Array Value) (s : State) : Prop := args = #[.ref b] ∧ s.IntsAt b xs ∧ xs.length ≤ 3072 ∧ (Jvm.Cond.and given_1 narrow_1).before args s = true
def lw_Q (_ : Array Value) (s : State) (o : Outcome) (t : State) : Prop := o = .returned (some (.int 1)) ∧ Framed s o t [] room_1.cells room_1.slots
def lw_Z (below : List Frame) (a : Array Value) (s : State) : State → Prop := fun t => ∃ o, t.status = .running ∧ Ended t below o ∧ lw_Q a s o t
theorem lw_ret {p : Program} {l : Launch} {e : Env} {s : State} {m : MethodId} {below : List Frame} {meth : Method} {c : Code} {b : Nat} (hx : p.tables.exec = Jvm.exec) (hb : c.code = code) (hr : meth.sig.returnType = ret) (hlocks : meth.locks = false) {pc : Nat} {H : Heap} {ls : Array Slot} (hdg : decode code pc = .ok (.ireturn, 1)) : W p l e room_1 s m #[Value.ref b] below meth c H [] room_1.cells room_1.slots (lw_Z below #[Value.ref b] s) (F0 m pc ls [.int 1]) := by
  intro T hT X
  obtain ⟨fs, hret, hrun, hended, hW, hframe⟩ := X.leave (v := some (.int 1)) (hlocks := hlocks) (fun h => by rw [hr] at h; cases h)
  have hmeth' : T.vm.method? m = some meth := X.method'
  refine ⟨T.setFrames fs, ?_, .returned (some (.int 1)), hrun, hended, rfl, ⟨_, rfl⟩, hW, hframe⟩
  jvm_step X.here [X.here.top, hx, hb, hdg, hmeth', hr, ret, narrow_b1]
  (try refine ⟨rfl, ?_⟩); (try refine ⟨rfl, ?_⟩)
  first | (intro acts; rw [hret _ acts rfl rfl rfl]) | rw [hret _ _ rfl rfl rfl]
  exact Steps.refl _
/-- the law's context: its script at bs, its end, its room -/
def gXL (x : gCx) (bs L : Nat) (xs : Nat → Int32) : Prop := match x with
  | (_, _, _, R, s, _, args, below, meth, _, _, _, b, Qm) => R = room_1 ∧ args = #[Value.ref bs] ∧ meth.sig.returnType = ret ∧ b = s.heap.size ∧ bs < s.heap.size ∧ va_X bs L xs s s.heap ∧ Qm = lw_Z below #[Value.ref bs] s
section LAWR
variable {x : gCx} {nL pc bs L : Nat} {xs : Nat → Int32} {κ : gKo}
def s_xld (bs L : Nat) (xs : Nat → Int32) (κ : gKo) : gKo := fun lv st C n z => match st with
  | .int i :: .ref a :: st => a = bs ∧ vp_in i L ∧ κ lv (.int (xs i.toNatClampNeg) :: st) C n z
  | _ => False
theorem r_xld (X : gX x code RL nL) (XL : gXL x bs L xs) (hd : decode code pc = .ok (.iaload, 1)) (kk : Snd x nL (pc + 1) κ) : Snd x nL pc (s_xld bs L xs κ) := by
  obtain ⟨p, l, e, R, s, m, args, below, meth, c, D, dA, b, Qm⟩ := x
  obtain ⟨-, -, -, hb, hbs, hX, -⟩ := XL
  intro lv st C n z h
  unfold s_xld at h
  split at h
  · rename_i i a st'
    obtain ⟨rfl, hin, h⟩ := h
    exact fun H locs ls hR hS hL h1 h2 => va_sld X.1 X.2.1 hX hbs (by show ¬ b ≤ a; omega) hS hin hd (kk lv _ C n z h H locs ls hR hS hL h1 h2)
  · exact h.elim
def s_xlen (bs L : Nat) (κ : gKo) : gKo := fun lv st C n z => match st with
  | .ref a :: st => a = bs ∧ κ lv (.int (Int32.ofNat L) :: st) C n z
  | _ => False
theorem r_xlen (X : gX x code RL nL) (XL : gXL x bs L xs) (hd : decode code pc = .ok (.arraylength, 1)) (kk : Snd x nL (pc + 1) κ) : Snd x nL pc (s_xlen bs L κ) := by
  obtain ⟨p, l, e, R, s, m, args, below, meth, c, D, dA, b, Qm⟩ := x
  obtain ⟨-, -, -, hb, hbs, hX, -⟩ := XL
  intro lv st C n z h
  unfold s_xlen at h
  split at h
  · rename_i a st'
    obtain ⟨rfl, h⟩ := h
    exact fun H locs ls hR hS hL h1 h2 => va_slen X.1 X.2.1 hX hbs (by show ¬ b ≤ a; omega) hS hd (kk lv _ C n z h H locs ls hR hS hL h1 h2)
  · exact h.elim
def s_lret1 : gKo := fun _ st _ _ _ => match st with
  | [.int v] => v = 1
  | _ => False
theorem r_lret1 (X : gX x code RL nL) (XL : gXL x bs L xs) (hd : decode code pc = .ok (.ireturn, 1)) : Snd x nL pc s_lret1 := by
  obtain ⟨p, l, e, R, s, m, args, below, meth, c, D, dA, b, Qm⟩ := x
  obtain ⟨rfl, rfl, hr, hb, hbs, hX, rfl⟩ := XL
  intro lv st C n z h
  unfold s_lret1 at h
  split at h
  · rename_i v
    subst h
    intro H locs ls hR hS hL h1 h2
    subst hb
    refine va_forget (fun q hq => hS.2.2 q hq) ?_
    refine W.widen (k := room_1.cells) (n := room_1.slots) (by omega) (by omega) ?_
    exact lw_ret X.1 X.2.1 hr X.2.2.2.2.2.2.1 hd
  · exact h.elim
end LAWR
