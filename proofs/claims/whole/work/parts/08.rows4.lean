/-! rows of arrays, and of what is made -/
section ROWS4
variable {x : gCx} {cc : ByteArray} {own : String} {nL pc : Nat} {κ κ1 κ2 : gKo}
theorem gR.P1 {D : va_G} {dA : Nat → ClassId} {b n z a : Nat} {C : gC} {H : Heap} {y : gE} (hR : gR D dA b C n z H) (e1 : C a = some y) (hg : gok y = true) : va_P D vwCl [(a, gv dA y)] H := fun j q hj => by
  have hj0 : j < 1 := (List.getElem?_eq_some_iff.mp hj).1
  rw [show j = 0 by omega] at hj
  cases hj
  exact (hR.at e1 hg).2
def s_iald (κ : gKo) : gKo := fun lv st C n z => match st with
  | .int i :: .ref a :: st => (match C a with
    | some (.inl (0, N, .inl f)) => vp_in i N ∧ κ lv (.int (f i.toNatClampNeg) :: st) C n z
    | _ => False)
  | _ => False
theorem r_iald (X : gX x cc own nL) (hd : decode cc pc = .ok (.iaload, 1)) (kk : Snd x nL (pc + 1) κ) : Snd x nL pc (s_iald κ) := by
  obtain ⟨p, l, e, R, s, m, args, below, meth, c, D, dA, b, Qm⟩ := x
  intro lv st C n z h
  unfold s_iald at h
  split at h
  · rename_i i a st'
    split at h
    · rename_i N f e1
      exact fun H locs ls hR hS hL h1 h2 => va_iald (ws := [(a, gv dA (.inl (0, N, .inl f)))]) (tys := gTys dA) X.1 X.2.1 X.2.2.2.2.2.1.1 (hR.P1 e1 rfl) 0 0 rfl rfl h.1 hd (kk lv _ C n z h.2 H locs ls hR hS hL h1 h2)
    · exact h.elim
  · exact h.elim
def s_lald (κ : gKo) : gKo := fun lv st C n z => match st with
  | .int i :: .ref a :: st => (match C a with
    | some (.inl (1, N, .inr (.inl f))) => vp_in i N ∧ κ lv (.long (f i.toNatClampNeg) :: st) C n z
    | _ => False)
  | _ => False
theorem r_lald (X : gX x cc own nL) (hd : decode cc pc = .ok (.laload, 1)) (kk : Snd x nL (pc + 1) κ) : Snd x nL pc (s_lald κ) := by
  obtain ⟨p, l, e, R, s, m, args, below, meth, c, D, dA, b, Qm⟩ := x
  intro lv st C n z h
  unfold s_lald at h
  split at h
  · rename_i i a st'
    split at h
    · rename_i N f e1
      exact fun H locs ls hR hS hL h1 h2 => va_lald (ws := [(a, gv dA (.inl (1, N, .inr (.inl f))))]) (tys := gTys dA) X.1 X.2.1 X.2.2.2.2.2.1.1 (hR.P1 e1 rfl) 0 1 rfl rfl h.1 hd (kk lv _ C n z h.2 H locs ls hR hS hL h1 h2)
    · exact h.elim
  · exact h.elim
def s_zald (κ : gKo) : gKo := fun lv st C n z => match st with
  | .int i :: .ref a :: st => (match C a with
    | some (.inl (2, N, .inl f)) => vp_in i N ∧ κ lv (.int (f i.toNatClampNeg) :: st) C n z
    | _ => False)
  | _ => False
theorem r_zald (X : gX x cc own nL) (hd : decode cc pc = .ok (.baload, 1)) (kk : Snd x nL (pc + 1) κ) : Snd x nL pc (s_zald κ) := by
  obtain ⟨p, l, e, R, s, m, args, below, meth, c, D, dA, b, Qm⟩ := x
  intro lv st C n z h
  unfold s_zald at h
  split at h
  · rename_i i a st'
    split at h
    · rename_i N f e1
      exact fun H locs ls hR hS hL h1 h2 => va_zald (ws := [(a, gv dA (.inl (2, N, .inl f)))]) (tys := gTys dA) X.1 X.2.1 X.2.2.2.2.2.1.1 (hR.P1 e1 rfl) 0 2 rfl rfl h.1 hd (kk lv _ C n z h.2 H locs ls hR hS hL h1 h2)
    · exact h.elim
  · exact h.elim
def s_aald3 (κ : gKo) : gKo := fun lv st C n z => match st with
  | .int i :: .ref a :: st => (match C a with
    | some (.inl (3, N, .inr (.inr (.inr (.inr f))))) => vp_in i N ∧ κ lv (va_rf (f i.toNatClampNeg) :: st) C n z
    | _ => False)
  | _ => False
theorem r_aald3 (X : gX x cc own nL) (hd : decode cc pc = .ok (.aaload, 1)) (kk : Snd x nL (pc + 1) κ) : Snd x nL pc (s_aald3 κ) := by
  obtain ⟨p, l, e, R, s, m, args, below, meth, c, D, dA, b, Qm⟩ := x
  intro lv st C n z h
  unfold s_aald3 at h
  split at h
  · rename_i i a st'
    split at h
    · rename_i N f e1
      exact fun H locs ls hR hS hL h1 h2 => va_aldq (ws := [(a, gv dA (.inl (3, N, .inr (.inr (.inr (.inr f))))))]) (tys := gTys dA) X.1 X.2.1 X.2.2.2.2.2.1.1 (hR.P1 e1 rfl) 0 3 rfl rfl h.1 hd (kk lv _ C n z h.2 H locs ls hR hS hL h1 h2)
    · exact h.elim
  · exact h.elim
def s_aald4 (κ : gKo) : gKo := fun lv st C n z => match st with
  | .int i :: .ref a :: st => (match C a with
    | some (.inl (4, N, .inr (.inr (.inr (.inr f))))) => vp_in i N ∧ κ lv (va_rf (f i.toNatClampNeg) :: st) C n z
    | _ => False)
  | _ => False
theorem r_aald4 (X : gX x cc own nL) (hd : decode cc pc = .ok (.aaload, 1)) (kk : Snd x nL (pc + 1) κ) : Snd x nL pc (s_aald4 κ) := by
  obtain ⟨p, l, e, R, s, m, args, below, meth, c, D, dA, b, Qm⟩ := x
  intro lv st C n z h
  unfold s_aald4 at h
  split at h
  · rename_i i a st'
    split at h
    · rename_i N f e1
      exact fun H locs ls hR hS hL h1 h2 => va_aldq (ws := [(a, gv dA (.inl (4, N, .inr (.inr (.inr (.inr f))))))]) (tys := gTys dA) X.1 X.2.1 X.2.2.2.2.2.1.1 (hR.P1 e1 rfl) 0 4 rfl rfl h.1 hd (kk lv _ C n z h.2 H locs ls hR hS hL h1 h2)
    · exact h.elim
  · exact h.elim
def s_iast (κ : gKo) : gKo := fun lv st C n z => match st with
  | .int v :: .int i :: .ref a :: st => (match C a with
    | some (.inl (0, N, .inl f)) => vp_in i N ∧ κ lv st (gup C a (.inl (0, N, .inl (upd f i.toNatClampNeg v)))) n z
    | _ => False)
  | _ => False
theorem r_iast (X : gX x cc own nL) (hd : decode cc pc = .ok (.iastore, 1)) (kk : Snd x nL (pc + 1) κ) : Snd x nL pc (s_iast κ) := by
  obtain ⟨p, l, e, R, s, m, args, below, meth, c, D, dA, b, Qm⟩ := x
  intro lv st C n z h
  unfold s_iast at h
  split at h
  · rename_i v i a st'
    split at h
    · rename_i N f e1
      intro H locs ls hR hS hL h1 h2
      have hc := (hR.at e1 rfl).2
      refine W.iast X.1 X.2.1 hc ((X.2.2.2.2.2.1.1.2 0 _ rfl).1 N (fun j => .int (f j))) (fun q => by cases q) (by show ¬ (i < 0 ∨ (arrV _ _ _).slots.size ≤ _); rw [arrV_size]; exact h.1) rfl rfl hd fun H1 e1' z1 oq => ?_
      refine kk lv _ _ n z h.2 H1 _ ls (hR.set e1 rfl rfl hc e1' (setSlot_size _ _ _) z1 oq ?_) (gS.put hS z1 oq (hR.at e1 rfl).1) hL h1 h2
      show H1[a]? = some (vp_cell _ _)
      rw [e1']
      rw [vp_cell_i, vp_cell_i, arrV_store]
      congr 2
      funext q
      by_cases hq : q = i.toNatClampNeg
      · subst hq
        simp [updV, upd]
        try rfl
      · simp [updV, upd, hq]
    · exact h.elim
  · exact h.elim
def s_last (κ : gKo) : gKo := fun lv st C n z => match st with
  | .long v :: .int i :: .ref a :: st => (match C a with
    | some (.inl (1, N, .inr (.inl f))) => vp_in i N ∧ κ lv st (gup C a (.inl (1, N, .inr (.inl (vp_updL f i.toNatClampNeg v))))) n z
    | _ => False)
  | _ => False
theorem r_last (X : gX x cc own nL) (hd : decode cc pc = .ok (.lastore, 1)) (kk : Snd x nL (pc + 1) κ) : Snd x nL pc (s_last κ) := by
  obtain ⟨p, l, e, R, s, m, args, below, meth, c, D, dA, b, Qm⟩ := x
  intro lv st C n z h
  unfold s_last at h
  split at h
  · rename_i v i a st'
    split at h
    · rename_i N f e1
      intro H locs ls hR hS hL h1 h2
      have hc := (hR.at e1 rfl).2
      refine W.last X.1 X.2.1 hc ((X.2.2.2.2.2.1.1.2 1 _ rfl).1 N (fun j => .long (f j))) (fun q => by cases q) (by show ¬ (i < 0 ∨ (arrV _ _ _).slots.size ≤ _); rw [arrV_size]; exact h.1) rfl rfl hd fun H1 e1' z1 oq => ?_
      refine kk lv _ _ n z h.2 H1 _ ls (hR.set e1 rfl rfl hc e1' (setSlot_size _ _ _) z1 oq ?_) (gS.put hS z1 oq (hR.at e1 rfl).1) hL h1 h2
      show H1[a]? = some (vp_cell _ _)
      rw [e1']
      rw [vp_cell_l, vp_cell_l, arrV_store]
      congr 2
      funext q
      by_cases hq : q = i.toNatClampNeg
      · subst hq
        simp [updV, vp_updL]
        try rfl
      · simp [updV, vp_updL, hq]
    · exact h.elim
  · exact h.elim
def s_zast (κ : gKo) : gKo := fun lv st C n z => match st with
  | .int v :: .int i :: .ref a :: st => (match C a with
    | some (.inl (2, N, .inl f)) => vp_in i N ∧ κ lv st (gup C a (.inl (2, N, .inl (upd f i.toNatClampNeg (vp_nar .boolean v))))) n z
    | _ => False)
  | _ => False
theorem r_zast (X : gX x cc own nL) (hd : decode cc pc = .ok (.bastore, 1)) (kk : Snd x nL (pc + 1) κ) : Snd x nL pc (s_zast κ) := by
  obtain ⟨p, l, e, R, s, m, args, below, meth, c, D, dA, b, Qm⟩ := x
  intro lv st C n z h
  unfold s_zast at h
  split at h
  · rename_i v i a st'
    split at h
    · rename_i N f e1
      intro H locs ls hR hS hL h1 h2
      have hc := (hR.at e1 rfl).2
      refine W.zast X.1 X.2.1 hc ((X.2.2.2.2.2.1.1.2 2 _ rfl).1 N (fun j => .int (f j))) (fun q => by cases q) (by show ¬ (i < 0 ∨ (arrV _ _ _).slots.size ≤ _); rw [arrV_size]; exact h.1) rfl rfl hd fun H1 e1' z1 oq => ?_
      refine kk lv _ _ n z h.2 H1 _ ls (hR.set e1 rfl rfl hc e1' (setSlot_size _ _ _) z1 oq ?_) (gS.put hS z1 oq (hR.at e1 rfl).1) hL h1 h2
      show H1[a]? = some (vp_cell _ _)
      rw [e1']
      rw [vp_cell_i, vp_cell_i, arrV_store]
      congr 2
      funext q
      by_cases hq : q = i.toNatClampNeg
      · subst hq
        simp [updV, upd, vp_nar]
        try rfl
      · simp [updV, upd, vp_nar, hq]
    · exact h.elim
  · exact h.elim
/-- a reference, or none, into an array of references of class number ci -/
def s_aast (t ci : Nat) (κ : gKo) : gKo := fun lv st C n z => match st with
  | .ref v :: .int i :: .ref a :: st => (match C a, C v with
    | some (.inl (t', N, .inr (.inr (.inr (.inr f))))), some (.inr (c, _)) => (t' = t ∧ c = ci) ∧ vp_in i N ∧ κ lv st (gup C a (.inl (t, N, .inr (.inr (.inr (.inr (va_up f i.toNatClampNeg (some v)))))))) n z
    | _, _ => False)
  | _ => False
theorem r_aast (X : gX x cc own nL) {t ci : Nat} {Cn : String} {T : u_T} {N0 : Nat} (hci : vwCl[ci]? = some (Cn, T, N0)) (ht : ∀ dA : Nat → ClassId, (gTys dA)[t]? = some (dA t, .object Cn)) (hd : decode cc pc = .ok (.aastore, 1)) (kk : Snd x nL (pc + 1) κ) : Snd x nL pc (s_aast t ci κ) := by
  obtain ⟨p, l, e, R, s, m, args, below, meth, c, D, dA, b, Qm⟩ := x
  intro lv st C n z h
  unfold s_aast at h
  split at h
  · rename_i v i a st'
    split at h
    · rename_i t' N f c' vs e1 e2
      obtain ⟨⟨rfl, rfl⟩, hin, h⟩ := h
      intro H locs ls hR hS hL h1 h2
      have hK := X.2.2.2.2.2.1.1
      have hc := (hR.at e1 rfl).2
      obtain ⟨r, y1, cv, q1, q2, q3, q4⟩ := (hR.at e2 (gok_ci hci)).2
      have hr : r = (Cn, T, N0) := Option.some.inj (y1.symm.trans hci)
      subst hr
      obtain ⟨hA1, kA, comp, hkA, hkindA, hcomp, -⟩ := hK.2 t' _ (ht dA)
      obtain ⟨hS0, hcl⟩ := hK.1 c' _ hci
      have hfc := hcl.1
      obtain ⟨kC, hkC, hkind⟩ := hcl.2
      cases hcomp.symm.trans hfc
      have hlt : i.toNatClampNeg < N := Nat.not_le.mp fun q => hin (Or.inr q)
      have h0 : ¬ i < 0 := fun q => hin (Or.inl q)
      refine W.aast X.1 X.2.1 (t := .object Cn) hc (fun q hq => by cases hq) (fun hq => by cases hq) hkA hkindA rfl hkC ⟨h0, by show _ < (arrV _ _ _).slots.size; rw [arrV_size]; exact hlt⟩ q1 (fun q hq => by rw [q3] at hq; cases hq) (by rw [q2]; exact hkC) (by rw [q2]; exact va_assign hcl) rfl rfl hd fun H1 e1' z1 oq => ?_
      refine kk lv _ _ n z h H1 _ ls (hR.set e1 rfl rfl hc e1' (setSlot_size _ _ _) z1 oq ?_) (gS.put hS z1 oq (hR.at e1 rfl).1) hL h1 h2
      show H1[a]? = some (vp_cell _ _)
      rw [e1']
      rw [vp_cell_q, vp_cell_q, arrV_store]
      congr 2
      funext q
      by_cases hq : q = i.toNatClampNeg
      · subst hq
        simp [updV, va_up, va_rf]
      · simp [updV, va_up, hq]
    · exact h.elim
  · exact h.elim
def s_alen (κ : gKo) : gKo := fun lv st C n z => match st with
  | .ref a :: st => (match C a with
    | some (.inl (t, y)) => t < 5 ∧ κ lv (.int (Int32.ofNat y.1) :: st) C n z
    | _ => False)
  | _ => False
theorem r_alen (X : gX x cc own nL) (hd : decode cc pc = .ok (.arraylength, 1)) (kk : Snd x nL (pc + 1) κ) : Snd x nL pc (s_alen κ) := by
  obtain ⟨p, l, e, R, s, m, args, below, meth, c, D, dA, b, Qm⟩ := x
  intro lv st C n z h
  unfold s_alen at h
  split at h
  · rename_i a st'
    split at h
    · rename_i t y e1
      intro H locs ls hR hS hL h1 h2
      have go : ∀ ty, (gTys dA)[t]? = some (dA t, ty) → _ := fun ty ht => va_alen (ws := [(a, gv dA (.inl (t, y)))]) (tys := gTys dA) X.1 X.2.1 X.2.2.2.2.2.1.1 (hR.P1 e1 rfl) 0 t (x := y) rfl ht rfl hd (kk lv _ C n z h.2 H locs ls hR hS hL h1 h2)
      have ht5 := h.1
      match t, ht5 with
      | 0, _ => exact go _ rfl
      | 1, _ => exact go _ rfl
      | 2, _ => exact go _ rfl
      | 3, _ => exact go _ rfl
      | 4, _ => exact go _ rfl
    · exact h.elim
  · exact h.elim
/-- room for so many cells and slots -/
def gfree (nm zm : Nat) (n z mc ms : Nat) : Prop := n + mc ≤ nm ∧ z + ms ≤ zm
/-- what the room of a context is, in the world's own numbers -/
def gRoom (x : gCx) (nm zm : Nat) : Prop := match x with
  | (_, _, _, R, s, _) => nm ≤ s.heap.size + R.cells ∧ zm ≤ gZ s.heap + R.slots
/-- from the exact book to any other -/
theorem g_fit {p : Program} {l : Launch} {e : Env} {R : Room} {s : State} {m : MethodId} {args : Array Value} {below : List Frame} {meth : Method} {c : Code} {H : Heap} {locs : List Loc} {cells slots : Nat} {Q : State → Prop} {g : JFrame} {D : va_G} {dA : Nat → ClassId} {b n z : Nat} {C : gC} (hR : gR D dA b C n z H) (h : W p l e R s m args below meth c H locs (n - s.heap.size) (z - gZ s.heap) Q g) : W p l e R s m args below meth c H locs cells slots Q g := by
  intro T hT X
  refine h T hT ?_
  have := Stand.tight X
  rw [hT, hR.1, hR.2.1] at this
  exact this
def s_newi (nm zm : Nat) (κ : gKo) : gKo := fun lv st C n z => match st with
  | .int k :: st => (¬ k < 0 ∧ k.toNatClampNeg ≤ 5000 ∧ gfree nm zm n z 1 k.toNatClampNeg) ∧ κ lv (.ref n :: st) (gup C n (.inl (0, k.toNatClampNeg, .inl (fun _ => 0)))) (n + 1) (z + k.toNatClampNeg)
  | _ => False
theorem r_newi (X : gX x cc own nL) {nm zm : Nat} (hroom : gRoom x nm zm) (hw : Cond.arrayClass .int ∈ TB) (hd : decode cc pc = .ok (.newarray .int, 2)) (kk : Snd x nL (pc + 2) κ) : Snd x nL pc (s_newi nm zm κ) := by
  obtain ⟨p, l, e, R, s, m, args, below, meth, c, D, dA, b, Qm⟩ := x
  intro lv st C n z h
  unfold s_newi at h
  split at h
  · rename_i k st'
    obtain ⟨⟨k1, k2, k3, k4⟩, h⟩ := h
    intro H locs ls hR hS hL h1 h2
    obtain ⟨r1, r2⟩ := hroom
    obtain ⟨h2, h3⟩ := h2
    have hsz := hS.1
    have hn := hR.1
    refine va_newaK (atype := .int) X.1 X.2.1 (X.2.2.2.2.1 _ hw) rfl hd rfl k1 rfl (by show _ * componentBytes .int ≤ _; simp only [componentBytes]; omega) (by omega) (by omega) rfl fun H1 cA e1 z1 o1 hAr hNm => ?_
    have hcA : cA = dA 0 := by
      have hq := (X.2.2.2.2.2.1.1.2 0 _ rfl).2
      exact Option.some.inj (hNm.symm.trans hq)
    subst hcA
    have hR1 : gR D dA b (gup C n (.inl (0, k.toNatClampNeg, .inl (fun _ => 0)))) (n + 1) (z + k.toNatClampNeg) H1 := by
      refine hR.new rfl (Nat.le_trans X.2.2.2.2.2.2.2 hsz) e1 (arrV_size _ _ _) z1 o1 ?_
      show H1[H.size]? = some (vp_cell _ _)
      rw [e1]
      rfl
    have hW := kk lv _ _ _ _ h H1 locs ls hR1 (gS.new hS z1 o1) hL (by omega) ⟨by omega, by omega⟩
    rw [hn]
    exact g_fit hR1 hW
  · exact h.elim
def s_newl (nm zm : Nat) (κ : gKo) : gKo := fun lv st C n z => match st with
  | .int k :: st => (¬ k < 0 ∧ k.toNatClampNeg ≤ 5000 ∧ gfree nm zm n z 1 k.toNatClampNeg) ∧ κ lv (.ref n :: st) (gup C n (.inl (1, k.toNatClampNeg, .inr (.inl (fun _ => 0))))) (n + 1) (z + k.toNatClampNeg)
  | _ => False
theorem r_newl (X : gX x cc own nL) {nm zm : Nat} (hroom : gRoom x nm zm) (hw : Cond.arrayClass .long ∈ TB) (hd : decode cc pc = .ok (.newarray .long, 2)) (kk : Snd x nL (pc + 2) κ) : Snd x nL pc (s_newl nm zm κ) := by
  obtain ⟨p, l, e, R, s, m, args, below, meth, c, D, dA, b, Qm⟩ := x
  intro lv st C n z h
  unfold s_newl at h
  split at h
  · rename_i k st'
    obtain ⟨⟨k1, k2, k3, k4⟩, h⟩ := h
    intro H locs ls hR hS hL h1 h2
    obtain ⟨r1, r2⟩ := hroom
    obtain ⟨h2, h3⟩ := h2
    have hsz := hS.1
    have hn := hR.1
    refine va_newaK (atype := .long) X.1 X.2.1 (X.2.2.2.2.1 _ hw) rfl hd rfl k1 rfl (by show _ * componentBytes .long ≤ _; simp only [componentBytes]; omega) (by omega) (by omega) rfl fun H1 cA e1 z1 o1 hAr hNm => ?_
    have hcA : cA = dA 1 := by
      have hq := (X.2.2.2.2.2.1.1.2 1 _ rfl).2
      exact Option.some.inj (hNm.symm.trans hq)
    subst hcA
    have hR1 : gR D dA b (gup C n (.inl (1, k.toNatClampNeg, .inr (.inl (fun _ => 0))))) (n + 1) (z + k.toNatClampNeg) H1 := by
      refine hR.new rfl (Nat.le_trans X.2.2.2.2.2.2.2 hsz) e1 (arrV_size _ _ _) z1 o1 ?_
      show H1[H.size]? = some (vp_cell _ _)
      rw [e1]
      rfl
    have hW := kk lv _ _ _ _ h H1 locs ls hR1 (gS.new hS z1 o1) hL (by omega) ⟨by omega, by omega⟩
    rw [hn]
    exact g_fit hR1 hW
  · exact h.elim
def s_newz (nm zm : Nat) (κ : gKo) : gKo := fun lv st C n z => match st with
  | .int k :: st => (¬ k < 0 ∧ k.toNatClampNeg ≤ 5000 ∧ gfree nm zm n z 1 k.toNatClampNeg) ∧ κ lv (.ref n :: st) (gup C n (.inl (2, k.toNatClampNeg, .inl (fun _ => 0)))) (n + 1) (z + k.toNatClampNeg)
  | _ => False
theorem r_newz (X : gX x cc own nL) {nm zm : Nat} (hroom : gRoom x nm zm) (hw : Cond.arrayClass .boolean ∈ TB) (hd : decode cc pc = .ok (.newarray .boolean, 2)) (kk : Snd x nL (pc + 2) κ) : Snd x nL pc (s_newz nm zm κ) := by
  obtain ⟨p, l, e, R, s, m, args, below, meth, c, D, dA, b, Qm⟩ := x
  intro lv st C n z h
  unfold s_newz at h
  split at h
  · rename_i k st'
    obtain ⟨⟨k1, k2, k3, k4⟩, h⟩ := h
    intro H locs ls hR hS hL h1 h2
    obtain ⟨r1, r2⟩ := hroom
    obtain ⟨h2, h3⟩ := h2
    have hsz := hS.1
    have hn := hR.1
    refine va_newaK (atype := .boolean) X.1 X.2.1 (X.2.2.2.2.1 _ hw) rfl hd rfl k1 rfl (by show _ * componentBytes .boolean ≤ _; simp only [componentBytes]; omega) (by omega) (by omega) rfl fun H1 cA e1 z1 o1 hAr hNm => ?_
    have hcA : cA = dA 2 := by
      have hq := (X.2.2.2.2.2.1.1.2 2 _ rfl).2
      exact Option.some.inj (hNm.symm.trans hq)
    subst hcA
    have hR1 : gR D dA b (gup C n (.inl (2, k.toNatClampNeg, .inl (fun _ => 0)))) (n + 1) (z + k.toNatClampNeg) H1 := by
      refine hR.new rfl (Nat.le_trans X.2.2.2.2.2.2.2 hsz) e1 (arrV_size _ _ _) z1 o1 ?_
      show H1[H.size]? = some (vp_cell _ _)
      rw [e1]
      rfl
    have hW := kk lv _ _ _ _ h H1 locs ls hR1 (gS.new hS z1 o1) hL (by omega) ⟨by omega, by omega⟩
    rw [hn]
    exact g_fit hR1 hW
  · exact h.elim
/-- an array of references -/
def s_newq (nm zm t : Nat) (κ : gKo) : gKo := fun lv st C n z => match st with
  | .int k :: st => (¬ k < 0 ∧ k.toNatClampNeg ≤ 5000 ∧ gfree nm zm n z 1 k.toNatClampNeg) ∧ κ lv (.ref n :: st) (gup C n (.inl (t, k.toNatClampNeg, .inr (.inr (.inr (.inr (fun _ => none))))))) (n + 1) (z + k.toNatClampNeg)
  | _ => False
theorem r_newq (X : gX x cc own nL) {nm zm t idx : Nat} {Cn : String} (hroom : gRoom x nm zm) (hw : Cond.classLink own idx Cn ∈ TB) (hao : va_AO Cn x.2.2.2.2.1) (ht : ∀ dA : Nat → ClassId, (gTys dA)[t]? = some (dA t, .object Cn)) (hd : decode cc pc = .ok (.anewarray idx, 3)) (kk : Snd x nL (pc + 3) κ) : Snd x nL pc (s_newq nm zm t κ) := by
  obtain ⟨p, l, e, R, s, m, args, below, meth, c, D, dA, b, Qm⟩ := x
  intro lv st C n z h
  unfold s_newq at h
  split at h
  · rename_i k st'
    obtain ⟨⟨k1, k2, k3, k4⟩, h⟩ := h
    intro H locs ls hR hS hL h1 h2
    obtain ⟨r1, r2⟩ := hroom
    obtain ⟨h2, h3⟩ := h2
    have hsz := hS.1
    have hn := hR.1
    refine W.anew X.1 X.2.1 X.2.2.2.1 (X.2.2.2.2.1 _ hw) (va_AO.use hao) rfl hd rfl k1 (by omega) (by omega) (by omega) fun cA kA comp g1 g2 g3 g4 => ?_
    have hcA : cA = dA t := by
      obtain ⟨-, kA', comp', -, -, -, hq⟩ := X.2.2.2.2.2.1.1.2 t _ (ht dA)
      exact Option.some.inj (g1.symm.trans hq)
    subst hcA
    have hR1 : gR D dA b (gup C n (.inl (t, k.toNatClampNeg, .inr (.inr (.inr (.inr (fun _ => none))))))) (n + 1) (z + k.toNatClampNeg) (H.push { cls := dA t, slots := Array.replicate k.toNatClampNeg .null, vm := .none }) := by
      refine hR.new (hg := rfl) (cell := { cls := dA t, slots := Array.replicate k.toNatClampNeg .null, vm := .none }) (Nat.le_trans X.2.2.2.2.2.2.2 hsz) (by simp) (by simp) (by simp) (fun q hq => by rw [Array.getElem?_push, if_neg (Nat.ne_of_lt hq)]) ?_
      show (H.push _)[H.size]? = some (vp_cell _ _)
      rw [vp_cell_q]
      have : (arrV (dA t) k.toNatClampNeg (fun j => va_rf ((fun _ => none) j))) = { cls := dA t, slots := Array.replicate k.toNatClampNeg .null, vm := .none } := (arrV_new (dA t) k.toNatClampNeg .null).symm
      rw [this]
      simp
    have hW := kk lv _ _ _ _ h _ locs ls hR1 (gS.new hS (by simp) (fun q hq => by rw [Array.getElem?_push, if_neg (Nat.ne_of_lt hq)])) hL (by omega) ⟨by omega, by omega⟩
    rw [hn]
    exact g_fit hR1 hW
  · exact h.elim
/-- a class that can be made, as 'own' names it at idx -/
def gCl (own : String) (idx ci N : Nat) (fs : List Value) : Prop := ∃ (Cn : String) (T : u_T) (ty0 : Nat → FieldType), vwCl[ci]? = some (Cn, T, N) ∧ (∀ w ∈ u_ws Cn T N, w ∈ TB) ∧ (∀ k, k < N → parseFieldDescriptor (T k).2.2.1 = some (ty0 k)) ∧ Cond.classLink own idx Cn ∈ TB ∧ Cond.instantiable Cn N ∈ TB ∧ Cond.initialized Cn ∈ TB ∧ ∀ j, j < N → defaultValue (ty0 j) = vp_V fs j
def s_new (nm zm ci N : Nat) (fs : List Value) (κ : gKo) : gKo := fun lv st C n z => gfree nm zm n z 1 N ∧ κ lv (.ref n :: st) (gup C n (.inr (ci, fs))) (n + 1) (z + N)
theorem r_new (X : gX x cc own nL) {nm zm idx ci N : Nat} {fs : List Value} (hroom : gRoom x nm zm) (hc : gCl own idx ci N fs) (hd : decode cc pc = .ok (.new idx, 3)) (kk : Snd x nL (pc + 3) κ) : Snd x nL pc (s_new nm zm ci N fs κ) := by
  obtain ⟨p, l, e, R, s, m, args, below, meth, c, D, dA, b, Qm⟩ := x
  obtain ⟨Cn, T, ty0, f1, f2, f3, f4, f5, f6, f7⟩ := hc
  intro lv st C n z ⟨⟨k3, k4⟩, h⟩ H locs ls hR hS hL h1 ⟨h2, h3⟩
  obtain ⟨r1, r2⟩ := hroom
  have hsz := hS.1
  have hn := hR.1
  have hKn := X.2.2.2.2.2.1.1.1 ci _ f1
  obtain ⟨cC, kC0, g1, g2, g3, g4⟩ := Cond.instantiable_spec (X.2.2.2.2.1 _ f5)
  refine W.newcK X.1 X.2.1 X.2.2.2.1 (X.2.2.2.2.1 _ f4) (X.2.2.2.2.1 _ f5) (X.2.2.2.2.1 _ f6) rfl hd (by omega) (by omega) hKn.2.1 rfl fun H1 kC hkC e1 z1 o1 => ?_
  have hcls : cC = D.1 ci := Option.some.inj (g1.symm.trans hKn.2.1)
  have hbs : (blank (D.1 ci) kC).slots.size = N := by
    have : kC0 = kC := by rw [hcls] at g2; exact Option.some.inj (g2.symm.trans hkC)
    subst this
    simp [blank, g4]
  have hR1 : gR D dA b (gup C n (.inr (ci, fs))) (n + 1) (z + N) H1 := hR.new (gok_ci f1) (Nat.le_trans X.2.2.2.2.2.2.2 hsz) e1 hbs z1 o1 ⟨_, f1, (u_born ty0 X.2.2.2.2.1 f2 hKn hkC e1 f3).to f7⟩
  have hW := kk lv _ _ _ _ h H1 locs ls hR1 (gS.new hS z1 o1) hL (by omega) ⟨by omega, by omega⟩
  rw [hn]
  exact g_fit hR1 hW
end ROWS4
