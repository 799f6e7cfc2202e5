/-! rows of the heap -/
theorem gZ_eq {H H1 : Heap} (hz : H1.size = H.size) (h : ∀ q : Nat, (H1[q]?).map (fun c => c.slots.size) = (H[q]?).map (fun c => c.slots.size)) : gZ H1 = gZ H := by
  unfold gZ
  congr 1
  apply List.ext_getElem?
  intro i
  rw [List.getElem?_map, List.getElem?_map, Array.getElem?_toList, Array.getElem?_toList]
  exact h i
theorem gR.set {D : va_G} {dA : Nat → ClassId} {b n z a : Nat} {C : gC} {H H1 : Heap} {x0 x : gE} {cell cell' : Cell} (h : gR D dA b C n z H) (ha : C a = some x0) (hg0 : gok x0 = true) (hg : gok x = true) (hc : H[a]? = some cell) (e1 : H1[a]? = some cell') (hs : cell'.slots.size = cell.slots.size) (z1 : H1.size = H.size) (o1 : ∀ q : Nat, q ≠ a → H1[q]? = H[q]?) (he : va_at D vwCl (a, gv dA x) H1) : gR D dA b (gup C a x) n z H1 := by
  have hba := (h.at ha hg0).1
  obtain ⟨h1, h2, h3, h4⟩ := h
  have hno : ∀ c fs, x ≠ .inr (c, fs) ∨ ¬ 100 ≤ c := by
    intro c fs
    by_cases hx : x = .inr (c, fs)
    · subst hx
      simp [gok] at hg
      exact Or.inr (by omega)
    · exact Or.inl hx
  refine ⟨z1.trans h1, ?_, fun q y hq => ?_, fun c h5 => ?_⟩
  · rw [← h2]
    refine gZ_eq z1 fun q => ?_
    by_cases hq : q = a
    · subst hq
      rw [e1, hc]
      simp [hs]
    · rw [o1 q hq]
  · unfold gup at hq
    split at hq
    · rename_i hqa
      subst hqa
      cases hq
      exact ⟨fun _ => ⟨hba, he⟩, fun c fs hx h100 => ((hno c fs).elim (fun q => absurd hx q) (fun q => absurd h100 q))⟩
    · rename_i hqa
      obtain ⟨g1, g2⟩ := h3 q y hq
      exact ⟨fun hk => ⟨(g1 hk).1, (g1 hk).2.kept (o1 q hqa)⟩, g2⟩
  · obtain ⟨g1, fs, g2, g3⟩ := h4 c h5
    refine ⟨g1, fs, ?_, g3⟩
    unfold gup
    rw [if_neg (fun (e : dA (100 + c) = a) => absurd (e ▸ g1 : a < b) (Nat.not_lt.mpr hba))]
    exact g2
theorem gR.new {D : va_G} {dA : Nat → ClassId} {b n z k : Nat} {C : gC} {H H1 : Heap} {x : gE} {cell : Cell} (h : gR D dA b C n z H) (hg : gok x = true) (hb : b ≤ H.size) (e1 : H1[H.size]? = some cell) (hs : cell.slots.size = k) (z1 : H1.size = H.size + 1) (o1 : ∀ q : Nat, q < H.size → H1[q]? = H[q]?) (he : va_at D vwCl (H.size, gv dA x) H1) : gR D dA b (gup C n x) (n + 1) (z + k) H1 := by
  obtain ⟨h1, h2, h3, h4⟩ := h
  subst h1
  refine ⟨z1, ?_, fun q y hq => ?_, fun c h5 => ?_⟩
  · have e : H1 = H.push cell := by
      apply Array.ext_getElem?
      intro i
      by_cases hi : i < H.size
      · rw [o1 i hi, Array.getElem?_push, if_neg (Nat.ne_of_lt hi)]
      · by_cases hi2 : i = H.size
        · subst hi2
          rw [e1]; simp
        · rw [Array.getElem?_eq_none (by omega), Array.getElem?_eq_none (by simp; omega)]
    rw [e, ← h2]
    unfold gZ
    simp [hs]
  · unfold gup at hq
    split at hq
    · rename_i hqa
      subst hqa
      cases hq
      refine ⟨fun _ => ⟨hb, he⟩, fun c fs hx h100 => ?_⟩
      subst hx
      simp [gok] at hg
      omega
    · rename_i hqa
      obtain ⟨g1, g2⟩ := h3 q y hq
      exact ⟨fun hk => ⟨(g1 hk).1, (g1 hk).2.kept (o1 q (g1 hk).2.lt)⟩, g2⟩
  · obtain ⟨g1, fs, g2, g3⟩ := h4 c h5
    refine ⟨g1, fs, ?_, g3⟩
    unfold gup
    rw [if_neg (fun (e : dA (100 + c) = H.size) => absurd (e ▸ g1 : H.size < b) (Nat.not_lt.mpr hb))]
    exact g2
theorem gS.put {b a k : Nat} {H0 H H1 : Heap} {locs : List Loc} (h : va_S (fun q => b ≤ q) H0 H locs) (z : H1.size = H.size) (oq : ∀ q : Nat, q ≠ a → H1[q]? = H[q]?) (ha : b ≤ a) : va_S (fun q => b ≤ q) H0 H1 (locs ++ [⟨a, k⟩]) := va_S.put h z oq ha
theorem gS.new {b : Nat} {H0 H H1 : Heap} {locs : List Loc} (h : va_S (fun q => b ≤ q) H0 H locs) (z : H1.size = H.size + 1) (oq : ∀ q : Nat, q < H.size → H1[q]? = H[q]?) : va_S (fun q => b ≤ q) H0 H1 locs :=
  ⟨Nat.le_trans h.1 (by omega), fun q h1 h2 => (oq q (Nat.lt_of_lt_of_le h1 h.1)).trans (h.2.1 q h1 h2), h.2.2⟩
/-- a field of a class, as the code of 'own' names it at idx -/
def gFd (own : String) (idx ci k : Nat) (ty : FieldType) (fin : Bool) : Prop := ∃ (Cn : String) (T : u_T) (N : Nat) (ty0 : Nat → FieldType), vwCl[ci]? = some (Cn, T, N) ∧ (∀ w ∈ u_ws Cn T N, w ∈ TB) ∧ (∀ k, k < N → parseFieldDescriptor (T k).2.2.1 = some (ty0 k)) ∧ (∀ a, a < N → ∀ b, b < N → a ≠ b → (T a).2.1 ≠ (T b).2.1) ∧ k < N ∧ Cond.fieldLink own idx (T k).1 (T k).2.1 (T k).2.2.1 ∈ TB ∧ (T k).2.2.2 = fin ∧ ty0 k = ty
def gFo (own : String) (ci k : Nat) : Prop := ∃ (Cn : String) (T : u_T) (N : Nat), vwCl[ci]? = some (Cn, T, N) ∧ (T k).1 = own
def gfld (C : gC) (a ci k : Nat) : Option Value := match C a with
  | some (.inr (c, fs)) => bif c == ci then fs[k]? else none
  | _ => none
theorem gfld_some {C : gC} {a ci k : Nat} {v : Value} (h : gfld C a ci k = some v) : ∃ fs, C a = some (.inr (ci, fs)) ∧ fs[k]? = some v := by
  unfold gfld at h
  split at h
  · rename_i c fs hc
    cases hb : c == ci with
    | false => rw [hb] at h; cases h
    | true =>
      rw [hb] at h
      have : c = ci := by simpa using hb
      subst this
      exact ⟨fs, hc, h⟩
  · cases h
def gsetf (C : gC) (a k : Nat) (v : Value) : gC := match C a with
  | some (.inr (c, fs)) => gup C a (.inr (c, fs.set k v))
  | _ => C
section ROWS3
variable {x : gCx} {cc : ByteArray} {own : String} {nL pc : Nat} {κ κ1 κ2 : gKo}
def s_get (ci k : Nat) (κ : gKo) : gKo := fun lv st C n z => match st with
  | .ref a :: st => (match gfld C a ci k with
    | some v => κ lv (v :: st) C n z
    | none => False)
  | _ => False
theorem r_get (X : gX x cc own nL) {idx ci k : Nat} {ty : FieldType} {fin : Bool} (hf : gFd own idx ci k ty fin) (hd : decode cc pc = .ok (.getfield idx, 3)) (kk : Snd x nL (pc + 3) κ) : Snd x nL pc (s_get ci k κ) := by
  obtain ⟨p, l, e, R, s, m, args, below, meth, c, D, dA, b, Qm⟩ := x
  obtain ⟨Cn, T, N, ty0, f1, f2, f3, f4, f5, f6, f7, f8⟩ := hf
  intro lv st C n z h
  unfold s_get at h
  split at h
  · rename_i a st'
    split at h
    · rename_i v hv
      obtain ⟨fs, e1, e2⟩ := gfld_some hv
      intro H locs ls hR hS hL h1 h2
      have hP : va_P D vwCl [(a, .inr (ci, fs))] H := fun j q hj => by
        have hj0 : j < 1 := (List.getElem?_eq_some_iff.mp hj).1
        rw [show j = 0 by omega] at hj
        cases hj
        exact (hR.at e1 (gok_ci f1)).2
      exact va_get X.1 X.2.1 X.2.2.2.2.1 f2 X.2.2.2.1 X.2.2.2.2.2.1.1 hP 0 rfl f1 k f5 (X.2.2.2.2.1 _ f6) (fun _ q => q) e2 hd (kk lv _ C n z h H locs ls hR hS hL h1 h2)
    · exact h.elim
  · exact h.elim
/-- what a field of that type takes -/
def gfit (ty : FieldType) (v : Value) : Prop := narrow ty v = v ∧ fits ty v = true
def s_put (ci k : Nat) (ty : FieldType) (κ : gKo) : gKo := fun lv st C n z => match st with
  | v :: .ref a :: st => (match gfld C a ci k with
    | some _ => gfit ty v ∧ κ lv st (gsetf C a k v) n z
    | none => False)
  | _ => False
theorem gsetf_of {C : gC} {a ci k : Nat} {v : Value} {fs : List Value} (h : C a = some (.inr (ci, fs))) : gsetf C a k v = gup C a (.inr (ci, fs.set k v)) := by
  unfold gsetf
  rw [h]
theorem setSlot_size (c : Cell) (i : Nat) (v : Value) : (c.setSlot i v).slots.size = c.slots.size := by simp [Cell.setSlot]
theorem r_put (X : gX x cc own nL) {idx ci k : Nat} {ty : FieldType} (hf : gFd own idx ci k ty false) (hd : decode cc pc = .ok (.putfield idx, 3)) (kk : Snd x nL (pc + 3) κ) : Snd x nL pc (s_put ci k ty κ) := by
  obtain ⟨p, l, e, R, s, m, args, below, meth, c, D, dA, b, Qm⟩ := x
  obtain ⟨Cn, T, N, ty0, f1, f2, f3, f4, f5, f6, f7, f8⟩ := hf
  intro lv st C n z h
  unfold s_put at h
  split at h
  · rename_i v a st'
    split at h
    · rename_i v0 hv
      obtain ⟨⟨g1, g2⟩, h⟩ := h
      obtain ⟨fs, e1, e2⟩ := gfld_some hv
      rw [gsetf_of e1] at h
      intro H locs ls hR hS hL h1 h2
      have hK := X.2.2.2.2.2.1.1
      have hap := va_apart (own := own) X.2.2.2.2.1 f2 ty0 f3 f4 hK f1
      obtain ⟨r, y1, cell, q1, q2, q3, q4⟩ := (hR.at e1 (gok_ci f1)).2
      have hr : r = (Cn, T, N) := Option.some.inj (y1.symm.trans f1)
      subst hr
      obtain ⟨hS0, hfc, kC, hkC, hkind⟩ := hK.1 ci _ f1
      obtain ⟨cf, kf, fi, f, hi, hsl⟩ := hS0 k f5
      have hlay := X.2.2.2.2.1 _ (f2 _ (u_in_lay f5))
      unfold u_lay at hlay
      rw [if_neg (by rw [f7]; decide)] at hlay
      have hst := (u_facts hfc hkC (u_lays X.2.2.2.2.1 f2 f5) hi).1
      have h6 := u_store hfc hkC hkind hlay hi (f3 k f5) (by rw [f8]; exact g1) (by rw [f8]; exact g2)
      refine W.putK X.1 X.2.1 (f := f) ⟨X.2.2.2.1, X.2.2.2.2.1 _ f6, ⟨_, _, _, hi⟩, hst⟩ (by rw [q2]; exact h6) q1 q3 (by rw [hsl]; exact k2_hasslot (q4 k f5)) rfl rfl hd fun H' e1' e2' e3' => ?_
      have hkl : k < fs.length := (List.getElem?_eq_some_iff.mp e2).1
      have hat : va_at D vwCl (a, gv dA (.inr (ci, fs.set k v))) H' := ⟨_, f1, t_OB.to (V := updV (vp_V fs) k v) ⟨_, e1', q2, q3, by rw [hsl]; exact t_set q4 hap f5 v⟩ (fun j _ => vp_updV_set hkl v j)⟩
      exact kk lv _ _ n z h H' _ ls (hR.set e1 (gok_ci f1) (gok_ci f1) q1 e1' (setSlot_size _ _ _) e2' e3' hat) (gS.put hS e2' e3' (hR.at e1 (gok_ci f1)).1) hL h1 h2
    · exact h.elim
  · exact h.elim
theorem r_putF (X : gX x cc own nL) (hini : x.2.2.2.2.2.2.2.2.1.name = "<init>") {idx ci k : Nat} {ty : FieldType} (hf : gFd own idx ci k ty true) (hfo : gFo own ci k) (hd : decode cc pc = .ok (.putfield idx, 3)) (kk : Snd x nL (pc + 3) κ) : Snd x nL pc (s_put ci k ty κ) := by
  obtain ⟨p, l, e, R, s, m, args, below, meth, c, D, dA, b, Qm⟩ := x
  obtain ⟨Cn, T, N, ty0, f1, f2, f3, f4, f5, f6, f7, f8⟩ := hf
  intro lv st C n z h
  unfold s_put at h
  split at h
  · rename_i v a st'
    split at h
    · rename_i v0 hv
      obtain ⟨⟨g1, g2⟩, h⟩ := h
      obtain ⟨fs, e1, e2⟩ := gfld_some hv
      rw [gsetf_of e1] at h
      intro H locs ls hR hS hL h1 h2
      have hK := X.2.2.2.2.2.1.1
      have hap := va_apart (own := own) X.2.2.2.2.1 f2 ty0 f3 f4 hK f1
      obtain ⟨r, y1, cell, q1, q2, q3, q4⟩ := (hR.at e1 (gok_ci f1)).2
      have hr : r = (Cn, T, N) := Option.some.inj (y1.symm.trans f1)
      subst hr
      obtain ⟨hS0, hfc, kC, hkC, hkind⟩ := hK.1 ci _ f1
      obtain ⟨cf, kf, fi, f, hi, hsl⟩ := hS0 k f5
      have hlay := X.2.2.2.2.1 _ (f2 _ (u_in_lay f5))
      unfold u_lay at hlay
      rw [if_pos f7] at hlay
      have hst := (u_facts hfc hkC (u_lays X.2.2.2.2.1 f2 f5) hi).1
      have hcf : m.cls = cf := by
        obtain ⟨_, _, c', _, _, _, -, -, hf', -, -, -, hown2, -⟩ := Cond.laysFinal_spec hlay
        have e1 : c' = cf := by have := hi.symm.trans hf'; simp at this; exact this.1.symm
        have f9 : (T k).1 = own := by
          obtain ⟨C2, T2, N2, u1, u2⟩ := hfo
          cases f1.symm.trans u1
          exact u2
        rw [f9] at hown2
        rw [← e1]; exact Option.some.inj (X.2.2.2.1.symm.trans hown2)
      have h6 := u_fits hfc hkC hkind (Or.inr hlay) hi (f3 k f5) (by rw [f8]; exact g1) (by rw [f8]; exact g2)
      refine W.putFinK X.1 X.2.1 X.2.2.2.1 (X.2.2.2.2.1 _ f6) hi hst hcf hini (by rw [q2]; exact h6) q1 q3 (by rw [hsl]; exact k2_hasslot (q4 k f5)) rfl rfl hd fun H' e1' e2' e3' => ?_
      have hkl : k < fs.length := (List.getElem?_eq_some_iff.mp e2).1
      have hat : va_at D vwCl (a, gv dA (.inr (ci, fs.set k v))) H' := ⟨_, f1, t_OB.to (V := updV (vp_V fs) k v) ⟨_, e1', q2, q3, by rw [hsl]; exact t_set q4 hap f5 v⟩ (fun j _ => vp_updV_set hkl v j)⟩
      exact kk lv _ _ n z h H' _ ls (hR.set e1 (gok_ci f1) (gok_ci f1) q1 e1' (setSlot_size _ _ _) e2' e3' hat) (gS.put hS e2' e3' (hR.at e1 (gok_ci f1)).1) hL h1 h2
    · exact h.elim
  · exact h.elim
end ROWS3
