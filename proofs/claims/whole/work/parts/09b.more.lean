/-! switches by tables, deep calls, nest mates -/
def swT (pc : Nat) : Int → List Int → List Int32 → List Nat → Bool
  | _, [], [], [] => true
  | lo, o :: os, v :: vs, t :: ts => decide (v.toInt = lo) && decide ((pc : Int) + o = (t : Int)) && swT pc (lo + 1) os vs ts
  | _, _, _, _ => false
theorem swT_spec {pc : Nat} : ∀ (lo : Int) (offs : List Int) (vals : List Int32) (tg : List Nat), swT pc lo offs vals tg = true → vals.length = offs.length ∧ ∀ i : Nat, i < offs.length → ∃ (v : Int32) (t : Nat), vals[i]? = some v ∧ tg[i]? = some t ∧ v.toInt = lo + i ∧ (pc : Int) + offs[i]?.getD 0 = (t : Int)
  | lo, [], [], [], _ => ⟨rfl, fun i hi => by simp at hi⟩
  | lo, o :: os, v :: vs, t :: ts, h => by
    simp only [swT, Bool.and_eq_true, decide_eq_true_eq] at h
    obtain ⟨⟨h1, h2⟩, h3⟩ := h
    obtain ⟨g1, g2⟩ := swT_spec (lo + 1) os vs ts h3
    refine ⟨by simp [g1], fun i hi => ?_⟩
    match i, hi with
    | 0, _ => exact ⟨v, t, rfl, rfl, by simpa using h1, by simpa using h2⟩
    | i + 1, hi =>
      obtain ⟨w, u, e1, e2, e3, e4⟩ := g2 i (by simpa using hi)
      exact ⟨w, u, by simpa using e1, by simpa using e2, by rw [e3]; push_cast; omega, by simpa using e4⟩
  | lo, [], _ :: _, _, h => by simp [swT] at h
  | lo, [], [], _ :: _, h => by simp [swT] at h
  | lo, _ :: _, [], _, h => by simp [swT] at h
  | lo, _ :: _, _ :: _, [], h => by simp [swT] at h
def swL (pc : Nat) : List (Int × Int) → List Int32 → List Nat → Bool
  | [], [], [] => true
  | o :: os, v :: vs, t :: ts => decide (v.toInt = o.1) && decide ((pc : Int) + o.2 = (t : Int)) && swL pc os vs ts
  | _, _, _ => false
theorem swL_spec {pc : Nat} : ∀ (ps : List (Int × Int)) (vals : List Int32) (tg : List Nat), swL pc ps vals tg = true → vals.length = ps.length ∧ ∀ (i : Nat) (o : Int × Int), ps[i]? = some o → ∃ (v : Int32) (t : Nat), vals[i]? = some v ∧ tg[i]? = some t ∧ v.toInt = o.1 ∧ (pc : Int) + o.2 = (t : Int)
  | [], [], [], _ => ⟨rfl, fun i o hi => by simp at hi⟩
  | o :: os, v :: vs, t :: ts, h => by
    simp only [swL, Bool.and_eq_true, decide_eq_true_eq] at h
    obtain ⟨⟨h1, h2⟩, h3⟩ := h
    obtain ⟨g1, g2⟩ := swL_spec os vs ts h3
    refine ⟨by simp [g1], fun i o' hi => ?_⟩
    match i, hi with
    | 0, hi =>
      simp at hi
      subst hi
      exact ⟨v, t, rfl, rfl, h1, h2⟩
    | i + 1, hi =>
      obtain ⟨w, u, e1, e2, e3, e4⟩ := g2 i o' (by simpa using hi)
      exact ⟨w, u, by simpa using e1, by simpa using e2, e3, e4⟩
  | [], _ :: _, _, h => by simp [swL] at h
  | [], [], _ :: _, h => by simp [swL] at h
  | _ :: _, [], _, h => by simp [swL] at h
  | _ :: _, _ :: _, [], h => by simp [swL] at h
section SW
variable {x : gCx} {cc : ByteArray} {own : String} {nL pc : Nat} {κ : gKo}
theorem sw_nil : ∀ (i : Nat) (q : Int32 × gKo) (t : Nat), ([] : List (Int32 × gKo))[i]? = some q → ([] : List Nat)[i]? = some t → Snd x nL t q.2 := fun i q t h => by simp at h
theorem sw_cons {q : Int32 × gKo} {cs : List (Int32 × gKo)} {t : Nat} {tg : List Nat} (h : Snd x nL t q.2) (r : ∀ (i : Nat) (q : Int32 × gKo) (t : Nat), cs[i]? = some q → tg[i]? = some t → Snd x nL t q.2) : ∀ (i : Nat) (q' : Int32 × gKo) (t' : Nat), (q :: cs)[i]? = some q' → (t :: tg)[i]? = some t' → Snd x nL t' q'.2
  | 0, _, _, h1, h2 => by
    simp at h1 h2
    subst h1; subst h2
    exact h
  | i + 1, q', t', h1, h2 => r i q' t' (by simpa using h1) (by simpa using h2)
theorem map_at {cs : List (Int32 × gKo)} {vals : List Int32} (hm : cs.map Prod.fst = vals) {i : Nat} {v : Int32} (h : vals[i]? = some v) : ∃ q, cs[i]? = some q ∧ q.1 = v := by
  rw [← hm, List.getElem?_map] at h
  cases hc : cs[i]? with
  | none => rw [hc] at h; cases h
  | some q => rw [hc] at h; simp at h; exact ⟨q, rfl, h⟩
theorem r_tab (X : gX x cc own nL) {dflt lo hi : Int} {offs : Array Int} {len dt : Nat} {cs : List (Int32 × gKo)} (vals : List Int32) (tg : List Nat) (hd : decode cc pc = .ok (.tableswitch dflt lo hi offs, len)) (hm : cs.map Prod.fst = vals) (hc : swT pc lo offs.toList vals tg = true) (hz : hi = lo + offs.size - 1) (hdt : (pc : Int) + dflt = (dt : Int)) (kd : Snd x nL dt κ) (ks : ∀ (i : Nat) (q : Int32 × gKo) (t : Nat), cs[i]? = some q → tg[i]? = some t → Snd x nL t q.2) : Snd x nL pc (s_sw cs κ) := by
  obtain ⟨g1, g2⟩ := swT_spec _ _ _ _ hc
  refine r_table X tg hd (fun i hi => ?_) hz ?_ hdt kd ks
  · obtain ⟨v, t, e1, e2, e3, e4⟩ := g2 i (by simpa using hi)
    obtain ⟨q, f1, f2⟩ := map_at hm e1
    exact ⟨q, t, f1, e2, by rw [f2]; exact e3, by rw [Array.getElem?_toList] at e4; exact e4⟩
  · have := congrArg List.length hm
    rw [List.length_map] at this
    rw [this, g1, Array.length_toList]
theorem r_look (X : gX x cc own nL) {dflt : Int} {ps : Array (Int × Int)} {len dt : Nat} {cs : List (Int32 × gKo)} (vals : List Int32) (tg : List Nat) (hd : decode cc pc = .ok (.lookupswitch dflt ps, len)) (hp : (ps.toList.zip (ps.toList.drop 1)).all (fun (a, next) => a.1 < next.1) = true) (hm : cs.map Prod.fst = vals) (hc : swL pc ps.toList vals tg = true) (hdt : (pc : Int) + dflt = (dt : Int)) (kd : Snd x nL dt κ) (ks : ∀ (i : Nat) (q : Int32 × gKo) (t : Nat), cs[i]? = some q → tg[i]? = some t → Snd x nL t q.2) : Snd x nL pc (s_sw cs κ) := by
  obtain ⟨g1, g2⟩ := swL_spec _ _ _ hc
  refine r_lookup X tg hd hp ?_ (fun i o hi => ?_) hdt kd ks
  · have := congrArg List.length hm
    rw [List.length_map] at this
    rw [this, g1]
  · obtain ⟨v, t, e1, e2, e3, e4⟩ := g2 i o hi
    obtain ⟨q, f1, f2⟩ := map_at hm e1
    exact ⟨q, t, f1, e2, by rw [f2]; exact e3, e4⟩
theorem gDeep.of {rk rk' mc ms nLy : Nat} (h : x.2.2.2.1 = gRm rk mc ms) (h1 : rk' + 1 ≤ rk) (h2 : nLy ≤ 45) : gDeep x rk' nLy := by
  unfold gDeep
  rw [h]
  exact ⟨h1, by show 8 + (nLy + 11) + 64 * rk' ≤ 64 * rk; omega⟩
theorem gDeep.one {rk mc ms : Nat} (h : x.2.2.2.1 = gRm rk mc ms) (h1 : 1 ≤ rk) : 1 ≤ x.2.2.2.1.frames ∧ 20 ≤ x.2.2.2.1.locals := by
  rw [h]
  exact ⟨h1, by show 20 ≤ 64 * rk; omega⟩
theorem gX.ao3 (X : gX x cc own nL) : va_AO "RailingsCount$Square" x.2.2.2.2.1 := by
  obtain ⟨p, l, e, R, s, m, args, below, meth, c, D, dA, b, Qm⟩ := x
  exact X.2.2.2.2.2.1.2.1
theorem gX.ao4 (X : gX x cc own nL) : va_AO "RailingsCount$Text" x.2.2.2.2.1 := by
  obtain ⟨p, l, e, R, s, m, args, below, meth, c, D, dA, b, Qm⟩ := x
  exact X.2.2.2.2.2.1.2.2.1
end SW
