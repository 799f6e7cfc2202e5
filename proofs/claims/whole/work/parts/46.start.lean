/-! what the Statement gives of the start, in the ghost layer's words -/
def lw_At (p : Program) (s : State) (m : MethodId) (meth : Method) (c : Code) (b L : Nat) (xs : Nat → Int32) : Prop :=
  p.tables.exec = Jvm.exec ∧ c.code = code ∧ meth.sig.returnType = ret ∧ c.maxLocals = 4 ∧ s.vm.findClass R_law = some m.cls ∧ (∀ w ∈ lw_tbl, w.before #[Value.ref b] s = true) ∧ va_X b L xs s s.heap ∧ b < s.heap.size ∧ meth.locks = false ∧ (Jvm.Cond.and given_1 narrow_1).before #[Value.ref b] s = true
def st_tm (i : Nat) : Term := if i = 0 then .string "RailingsCount$Tokens" 93 else .string "RailingsCount$Tokens" 85
theorem st_e0 : ∀ j, j < gLen 0 → Cond.eq (.elem (.field (.string "RailingsCount$Tokens" 93) "java/lang/String" "value" "[B") (.int (Int32.ofNat j))) (.int ((gByt 0).getD j 0)) ∈ flatC (Jvm.Cond.and given_1 narrow_1) := by decide +kernel
theorem st_e1 : ∀ j, j < gLen 1 → Cond.eq (.elem (.field (.string "RailingsCount$Tokens" 85) "java/lang/String" "value" "[B") (.int (Int32.ofNat j))) (.int ((gByt 1).getD j 0)) ∈ flatC (Jvm.Cond.and given_1 narrow_1) := by decide +kernel
theorem st_two {P : Nat → Prop} (h0 : P 0) (h1 : P 1) : ∀ i : Nat, i < 2 → P i
  | 0, _ => h0
  | 1, _ => h1
theorem st_el {len0 len1 : Nat} {b0 b1 : List Int32} {Pr : Nat → Nat → Int32 → Prop} (h0 : ∀ j, j < len0 → Pr 0 j (b0.getD j 0)) (h1 : ∀ j, j < len1 → Pr 1 j (b1.getD j 0)) : ∀ i, i < 2 → ∀ j, j < [len0, len1].getD i 0 → Pr i j (([b0, b1].getD i []).getD j 0)
  | 0, _, j, hj => h0 j hj
  | 1, _, j, hj => h1 j hj
theorem st_arr {args : Array Value} {s : State} {ty : FieldType} (h : (Cond.arrayClass ty).before args s = true) (hp : ∀ C, ty ≠ .object C) : ∃ cA : ClassId, ArrOfT s cA ty ∧ va_RA s cA ty := by
  obtain ⟨c, k, comp, h1, h2, h3⟩ := Cond.arrayClass_spec h
  refine ⟨c, fun n z => ⟨fun k h => (by cases h), k, h2, comp, h3⟩, ?_⟩
  cases ty with
  | object C => exact absurd rfl (hp C)
  | _ => exact h1
theorem st_arrO {C : String} {s : State} (h : va_AO C s) : ∃ cA : ClassId, ArrOfT s cA (.object C) ∧ va_RA s cA (.object C) := by
  obtain ⟨comp, c, k, h1, h2, h3, h4, h5⟩ := Cond.arrayOver_spec h
  exact ⟨c, fun n z => ⟨fun k h => (by cases h), k, h3, comp, h4⟩, k, comp, h3, h4, h1, h5⟩
set_option maxRecDepth 100000 in
theorem st_K {s : State} {bs : Nat} (hts : ∀ w ∈ lw_tbl, w.before #[Value.ref bs] s = true) (hgv : (Jvm.Cond.and given_1 narrow_1).before #[Value.ref bs] s = true) : ∃ (D : va_G) (dA : Nat → ClassId), gK D dA s.heap.size s ∧ ∀ k : Nat, k < 4 → dA (100 + k) < s.heap.size := by
  have hs := flat_of_before _ hgv
  have ht : ∀ w ∈ TB, w.before #[Value.ref bs] s = true := fun w h => hts w (tb_sub w h)
  have hA : ∀ a : Nat, a < s.heap.size → ¬ (fun q => s.heap.size ≤ q) a := fun a h => Nat.not_le.mpr h
  have hcl : ∀ (k : Nat) (q : vw_C), vwCl[k]? = some q → ∃ (cC : ClassId) (iS : Nat → Nat), u_Kn s q.1 q.2.1 q.2.2 cC iS := by
    intro k q hq
    have u : ∀ (C : String) (T : u_T) (N : Nat), (∀ w ∈ u_ws C T N, w ∈ TB) → Cond.instantiable C N ∈ lw_tbl → ∃ (cC : ClassId) (iS : Nat → Nat), u_Kn s C T N cC iS := fun C T N h1 h2 => u_known ht h1 (hts _ h2)
    match k, hq with
    | 0, hq => cases hq; exact u _ _ _ itX0 (by decide +kernel)
    | 1, hq => cases hq; exact u _ _ _ itX1 (by decide +kernel)
    | 2, hq => cases hq; exact u _ _ _ itX2 (by decide +kernel)
    | 3, hq => cases hq; exact u _ _ _ itX3 (by decide +kernel)
    | 4, hq => cases hq; exact u _ _ _ itX4 (by decide +kernel)
    | 5, hq => cases hq; exact u _ _ _ itX5 (by decide +kernel)
    | 6, hq => cases hq; exact u _ _ _ itX6 (by decide +kernel)
    | 7, hq => cases hq; exact u _ _ _ itX7 (by decide +kernel)
    | 8, hq => cases hq; exact u _ _ _ itX8 (by decide +kernel)
    | 9, hq => cases hq; exact u _ _ _ itX9 (by decide +kernel)
    | 10, hq => cases hq; exact u _ _ _ itX10 (by decide +kernel)
    | 11, hq => cases hq; exact u _ _ _ itX11 (by decide +kernel)
    | 12, hq => cases hq; exact u _ _ _ itX12 (by decide +kernel)
    | k + 13, hq => simp [vwCl] at hq
  have h0 : ∀ k : Nat, ∃ q : ClassId × (Nat → Nat), ∀ r : vw_C, vwCl[k]? = some r → u_Kn s r.1 r.2.1 r.2.2 q.1 q.2 := by
    intro k
    cases hk : vwCl[k]? with
    | none => exact ⟨(0, fun _ => 0), fun r h => by cases h⟩
    | some r =>
      obtain ⟨cC, iS, h⟩ := hcl k r hk
      exact ⟨(cC, iS), fun r' h' => by cases h'; exact h⟩
  obtain ⟨dd, hdd⟩ := Classical.axiomOfChoice h0
  obtain ⟨cI, i1, i2⟩ := st_arr (hts (.arrayClass .int) (by decide +kernel)) (fun C h => by cases h)
  obtain ⟨cJ, j1, j2⟩ := st_arr (hts (.arrayClass .long) (by decide +kernel)) (fun C h => by cases h)
  obtain ⟨cZ, z1, z2⟩ := st_arr (hts (.arrayClass .boolean) (by decide +kernel)) (fun C h => by cases h)
  have aoS : va_AO "RailingsCount$Square" s := va_AO.of (hts (.arrayOver (.object "RailingsCount$Square")) (by decide +kernel))
  have aoT : va_AO "RailingsCount$Text" s := va_AO.of (hts (.arrayOver (.object "RailingsCount$Text")) (by decide +kernel))
  obtain ⟨cS, s1, s2⟩ := st_arrO aoS
  obtain ⟨cT, t1, t2⟩ := st_arrO aoT
  obtain ⟨adK, adV, hv, hk⟩ := vk_Sof (args := #[Value.ref bs]) (s := s) (N := 2) (tm := st_tm) (len := [gLen 0, gLen 1]) (byt := [gByt 0, gByt 1]) (A := fun q => s.heap.size ≤ q)
    (by decide +kernel)
    (st_two (hs _ (by decide +kernel)) (hs _ (by decide +kernel)))
    (st_two (hs _ (by decide +kernel)) (hs _ (by decide +kernel)))
    (st_two (hs _ (by decide +kernel)) (hs _ (by decide +kernel)))
    (st_two (hs _ (by decide +kernel)) (hs _ (by decide +kernel)))
    (st_el (Pr := fun i j v => (Cond.eq (.elem (.field (st_tm i) "java/lang/String" "value" "[B") (.int (Int32.ofNat j))) (.int v)).before #[Value.ref bs] s = true) (fun j hj => hs _ (st_e0 j hj)) (fun j hj => hs _ (st_e1 j hj)))
    (fun i j hi hj hij => by
      have h := hs (Cond.not (Cond.eq (.string "RailingsCount$Tokens" 93) (.string "RailingsCount$Tokens" 85))) (by decide +kernel)
      match i, j, hi, hj, hij with
      | 0, 1, _, _, _ => exact Or.inl h
      | 1, 0, _, _, _ => exact Or.inr h
      | 0, 0, _, _, e => exact absurd rfl e
      | 1, 1, _, _, e => exact absurd rfl e)
    hA
  refine ⟨(fun k => (dd k).1, fun k => (dd k).2), fun k => if k = 0 then cI else if k = 1 then cJ else if k = 2 then cZ else if k = 3 then cS else if k = 4 then cT else if k = 100 then adK 0 else if k = 101 then adV 0 else if k = 102 then adK 1 else adV 1, ⟨⟨fun k q hq => hdd k q hq, ?_⟩, aoS, aoT, va_Nw.of rfl (hts _ (by decide +kernel)), ?_, ?_, ?_, ?_, ?_, va_Nw.of rfl (hts _ (by decide +kernel))⟩, ?_⟩
  · intro k q hq
    match k, hq with
    | 0, hq => cases hq; exact ⟨i1, i2⟩
    | 1, hq => cases hq; exact ⟨j1, j2⟩
    | 2, hq => cases hq; exact ⟨z1, z2⟩
    | 3, hq => cases hq; exact ⟨s1, s2⟩
    | 4, hq => cases hq; exact ⟨t1, t2⟩
    | k + 5, hq => simp [gTys] at hq
  · exact va_Zof (hts _ (by decide +kernel)) (hts _ (by decide +kernel)) (va_eqi (hs _ (by decide +kernel))) hA
  · exact va_Zqof (hts _ (by decide +kernel)) (hts _ (by decide +kernel)) (hs _ (by decide +kernel)) hA
  · refine ⟨st_two (hv.1 0 (by decide)) (hv.1 1 (by decide)), fun i j hi hj e => ?_⟩
    match i, j, hi, hj, e with
    | 0, 0, _, _, _ => rfl
    | 1, 1, _, _, _ => rfl
    | 0, 1, _, _, e => exact hv.2 0 1 (by decide) (by decide) e
    | 1, 0, _, _, e => exact hv.2 1 0 (by decide) (by decide) e
  · exact vk_R.of (hts _ (by decide +kernel)) (hk 0 (by decide))
  · exact vk_R.of (hts _ (by decide +kernel)) (hk 1 (by decide))
  · have l0 : ∀ i : Nat, i < 2 → adK i < s.heap.size ∧ adV i < s.heap.size := fun i hi => by
      obtain ⟨⟨c1, e1, -⟩, -, -, ⟨c2, e2, -⟩⟩ := hv.1 i hi
      exact ⟨(Array.getElem?_eq_some_iff.mp e1).1, (Array.getElem?_eq_some_iff.mp e2).1⟩
    intro k hk
    match k, hk with
    | 0, _ => exact (l0 0 (by decide)).1
    | 1, _ => exact (l0 0 (by decide)).2
    | 2, _ => exact (l0 1 (by decide)).1
    | 3, _ => exact (l0 1 (by decide)).2
