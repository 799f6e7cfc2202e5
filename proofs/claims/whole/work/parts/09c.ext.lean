/-! nest mates, texts, statics, copies -/
section EXT
variable {x : gCx} {cc : ByteArray} {own : String} {nL pc : Nat} {κ κ1 κ2 : gKo}
theorem gX.nest (X : gX x cc own nL) : va_Nw (.methodLinkNest "RailingsCount$Play" 19 ⟨"RailingsCount", "isPlace", "(I)Z"⟩ "RailingsCount") x.2.2.2.2.1 := by
  obtain ⟨p, l, e, R, s, m, args, below, meth, c, D, dA, b, Qm⟩ := x
  exact X.2.2.2.2.2.1.2.2.2.1
theorem r_csN (X : gX x cc own nL) {idx na rk : Nat} {y : MethodName} {cy : ByteArray} {nLy : Nat} {ret : Option FieldType} {sp : gSp} {host : String} (hl : va_Nw (.methodLinkNest own idx y host) x.2.2.2.2.1) (hini : Cond.initialized y.cls ∈ TB) (hcode : Cond.code y cy nLy ret ∈ TB) (hdd : y.cls ≠ "java/lang/invoke/MethodHandle" ∧ y.cls ≠ "java/lang/invoke/VarHandle" ∧ (parseMethodDescriptor y.desc).map (fun d => d.parameters.length) = some na) (hin : Cond.static y ∈ TB) (hc : Con x.2.1 y cy nLy ret rk 0 0 sp) (hdp : gDeep x rk nLy) (hd : decode cc pc = .ok (.invokestatic idx, 3)) (kk : Snd x nL (pc + 3) κ) : Snd x nL pc (s_cs na sp κ) := by
  obtain ⟨p, l, e, R, s, m, args, below, meth, c, D, dA, b, Qm⟩ := x
  intro lv st C n z ⟨hna, hcat, h⟩
  obtain ⟨hta, hst⟩ := take_len hna
  intro H locs ls hR hS hL h1 h2
  have hs0 := hS.1
  have hn0 := hR.1
  have hdp : rk + 1 ≤ R.frames ∧ 8 + (nLy + 11) + 64 * rk ≤ R.locals := hdp
  have hgo := va_runSN (l := l) (e := e) (below := below) (meth := meth) (R := R) (g := F0 m pc ls st) (rest := st.drop na) (As := (st.take na).reverse) (n := na) (locs := locs) (cells := n - s.heap.size) (slots := z - gZ s.heap) ⟨X.1, X.2.1, X.2.2.1, X.2.2.2.1, X.2.2.2.2.1⟩ (hc D dA b _ C n z _ h) ⟨va_cnB (rm := gRm rk 0 0) na X.2.2.2.2.1 (tb_goodIn hcode) rfl rfl rfl hl (X.2.2.2.2.1 _ hini) hdd hdp, X.2.2.2.2.1 _ hin, trivial⟩ ⟨gPc.blind, fun U hU hW => ⟨rfl, by rw [hU]; exact hR, by rw [hU]; exact Nat.le_trans X.2.2.2.2.2.2.2 hS.1, X.2.2.2.2.2.1.moved hW X.2.2.2.2.2.2.2 (fun q hq => by rw [hU]; exact hS.2.1 q (Nat.lt_of_lt_of_le hq X.2.2.2.2.2.2.2) (Nat.not_le.mpr hq))⟩⟩ rfl hta hL.1 hst (lv_room hcat) hd ⟨by omega, by omega⟩
  exact g_run hgo hR.1 hS hL h2.1 (by omega) (by omega) (fun r C' n' z' hq => kk _ _ _ _ _ hq)
-- texts
def s_str (t : Nat) (κ : gKo) : gKo := fun lv st C n z => ∀ a : Nat, isExt C a (2 * t) → κ lv (.ref a :: st) C n z
theorem r_str0 (X : gX x cc "RailingsCount$Tokens" nL) (hd : decode cc pc = .ok (.ldc 93, 2)) (kk : Snd x nL (pc + 2) κ) : Snd x nL pc (s_str 0 κ) := by
  obtain ⟨p, l, e, R, s, m, args, below, meth, c, D, dA, b, Qm⟩ := x
  exact fun lv st C n z h H locs ls hR hS hL h1 h2 => va_ldcS X.1 X.2.1 X.2.2.2.1 X.2.2.2.2.2.1.2.2.2.2.2.2.2.1 hd (kk lv _ C n z (h _ (hR.2.2.2 0 (by decide)).2) H locs ls hR hS hL h1 h2)
theorem r_str1 (X : gX x cc "RailingsCount$Tokens" nL) (hd : decode cc pc = .ok (.ldc 85, 2)) (kk : Snd x nL (pc + 2) κ) : Snd x nL pc (s_str 1 κ) := by
  obtain ⟨p, l, e, R, s, m, args, below, meth, c, D, dA, b, Qm⟩ := x
  exact fun lv st C n z h H locs ls hR hS hL h1 h2 => va_ldcS X.1 X.2.1 X.2.2.2.1 X.2.2.2.2.2.1.2.2.2.2.2.2.2.2.1 hd (kk lv _ C n z (h _ (hR.2.2.2 2 (by decide)).2) H locs ls hR hS hL h1 h2)
theorem isExt.at {C : gC} {a k : Nat} {D : va_G} {dA : Nat → ClassId} {b n z : Nat} {H : Heap} (h : isExt C a k) (hk : k < 4) (hR : gR D dA b C n z H) : a = dA (100 + k) := by
  obtain ⟨fs, h1, h2⟩ := h
  exact ((hR.2.2.1 a _ h1).2 100 fs rfl (Nat.le_refl _)).2 k hk h2
def s_getv (κ : gKo) : gKo := fun lv st C n z => match st with
  | .ref a :: st => ∃ k : Nat, k < 2 ∧ isExt C a (2 * k) ∧ ∀ v : Nat, isExt C v (2 * k + 1) → κ lv (.ref v :: st) C n z
  | _ => False
theorem r_getv (X : gX x cc own nL) {idx : Nat} (hl : Cond.fieldLink own idx "java/lang/String" "value" "[B" ∈ TB) (hd : decode cc pc = .ok (.getfield idx, 3)) (kk : Snd x nL (pc + 3) κ) : Snd x nL pc (s_getv κ) := by
  obtain ⟨p, l, e, R, s, m, args, below, meth, c, D, dA, b, Qm⟩ := x
  intro lv st C n z h
  unfold s_getv at h
  split at h
  · rename_i a st'
    obtain ⟨k, hk, he, h⟩ := h
    intro H locs ls hR hS hL h1 h2
    have ha := he.at (by omega) hR
    subst ha
    have hT := X.2.2.2.2.2.1.2.2.2.2.2.2.1
    have hv := h _ (hR.2.2.2 (2 * k + 1) (by omega)).2
    rw [show 100 + (2 * k + 1) = 101 + 2 * k by omega] at hv
    exact vk_getf X.1 X.2.1 ((hT.1 k hk).2.2.1) hS X.2.2.2.1 (X.2.2.2.2.1 _ hl) (fun _ q => q) hd (kk lv _ C n z hv H locs ls hR hS hL h1 h2)
  · exact h.elim
def s_getc (κ : gKo) : gKo := fun lv st C n z => match st with
  | .ref a :: st => (∃ k : Nat, k < 2 ∧ isExt C a (2 * k)) ∧ κ lv (.int 0 :: st) C n z
  | _ => False
theorem r_getc (X : gX x cc own nL) {idx : Nat} (hl : Cond.fieldLink own idx "java/lang/String" "coder" "B" ∈ TB) (hd : decode cc pc = .ok (.getfield idx, 3)) (kk : Snd x nL (pc + 3) κ) : Snd x nL pc (s_getc κ) := by
  obtain ⟨p, l, e, R, s, m, args, below, meth, c, D, dA, b, Qm⟩ := x
  intro lv st C n z h
  unfold s_getc at h
  split at h
  · rename_i a st'
    obtain ⟨⟨k, hk, he⟩, h⟩ := h
    intro H locs ls hR hS hL h1 h2
    have ha := he.at (by omega) hR
    subst ha
    have hT := X.2.2.2.2.2.1.2.2.2.2.2.2.1
    exact vk_getf X.1 X.2.1 ((hT.1 k hk).2.1) hS X.2.2.2.1 (X.2.2.2.2.1 _ hl) (fun _ q => q) hd (kk lv _ C n z h H locs ls hR hS hL h1 h2)
  · exact h.elim
/-- a text's bytes -/
def s_bldx (κ : gKo) : gKo := fun lv st C n z => match st with
  | .int i :: .ref a :: st => ∃ k : Nat, k < 2 ∧ isExt C a (2 * k + 1) ∧ vp_in i (gLen k) ∧ κ lv (.int ((gByt k).getD i.toNatClampNeg 0) :: st) C n z
  | _ => False
theorem gT_at {D : va_G} {dA : Nat → ClassId} {b : Nat} {U : State} (h : gK D dA b U) {k : Nat} (hk : k < 2) : va_T .byte (dA (100 + (2 * k + 1))) (gLen k) (fun j => .int ((gByt k).getD j 0)) (fun q => b ≤ q) U U.heap := by
  have hT := h.2.2.2.2.2.2.1
  have t0 := (hT.1 0 (by decide)).2.2.2
  have t1 := (hT.1 1 (by decide)).2.2.2
  simp only [List.getD_cons_zero, List.getD_cons_succ] at t0 t1
  match k, hk with
  | 0, _ => exact t0
  | 1, _ => exact t1
theorem r_bldx (X : gX x cc own nL) (hd : decode cc pc = .ok (.baload, 1)) (kk : Snd x nL (pc + 1) κ) : Snd x nL pc (s_bldx κ) := by
  obtain ⟨p, l, e, R, s, m, args, below, meth, c, D, dA, b, Qm⟩ := x
  intro lv st C n z h
  unfold s_bldx at h
  split at h
  · rename_i i a st'
    obtain ⟨k, hk, he, hin, h⟩ := h
    intro H locs ls hR hS hL h1 h2
    have ha := he.at (by omega) hR
    subst ha
    exact va_tb X.1 X.2.1 (gT_at X.2.2.2.2.2.1 hk) hS hin rfl hd (kk lv _ C n z h H locs ls hR hS hL h1 h2)
  · exact h.elim
def s_alenx (κ : gKo) : gKo := fun lv st C n z => match st with
  | .ref a :: st => ∃ k : Nat, k < 2 ∧ isExt C a (2 * k + 1) ∧ κ lv (.int (Int32.ofNat (gLen k)) :: st) C n z
  | _ => False
theorem r_alenx (X : gX x cc own nL) (hd : decode cc pc = .ok (.arraylength, 1)) (kk : Snd x nL (pc + 1) κ) : Snd x nL pc (s_alenx κ) := by
  obtain ⟨p, l, e, R, s, m, args, below, meth, c, D, dA, b, Qm⟩ := x
  intro lv st C n z h
  unfold s_alenx at h
  split at h
  · rename_i a st'
    obtain ⟨k, hk, he, h⟩ := h
    intro H locs ls hR hS hL h1 h2
    have ha := he.at (by omega) hR
    subst ha
    exact va_tlen X.1 X.2.1 (gT_at X.2.2.2.2.2.1 hk) hS rfl hd (kk lv _ C n z h H locs ls hR hS hL h1 h2)
  · exact h.elim
/-- a call on a text -/
def s_cvx (na : Nat) (sp : gSp) (κ : gKo) : gKo := fun lv st C n z => match st.drop na with
  | .ref a :: rest => (∃ k : Nat, k < 2 ∧ isExt C a (2 * k)) ∧ gcat rest ∧ sp (.ref a :: (st.take na).reverse) C n z (fun r C' n' z' => κ lv (r.toList ++ rest) C' n' z')
  | _ => False
theorem r_cvx (X : gX x cc own nL) {idx na rk : Nat} {y : MethodName} {cy : ByteArray} {nLy : Nat} {ret : Option FieldType} {sp : gSp} (hm : gMd own idx y cy nLy ret na) (hcls : y.cls = "java/lang/String") (hin : Cond.instanceMethod y ∈ TB) (hse : Cond.selects y.cls y y ∈ TB) (hc : Con x.2.1 y cy nLy ret rk 0 0 sp) (hdp : gDeep x rk nLy) (hd : decode cc pc = .ok (.invokevirtual idx, 3)) (kk : Snd x nL (pc + 3) κ) : Snd x nL pc (s_cvx na sp κ) := by
  obtain ⟨p, l, e, R, s, m, args, below, meth, c, D, dA, b, Qm⟩ := x
  intro lv st C n z h
  unfold s_cvx at h
  split at h
  · rename_i a rest hdr
    obtain ⟨⟨k, hk, he⟩, hcat, h⟩ := h
    obtain ⟨hta, hst⟩ := drop_cons_len hdr
    intro H locs ls hR hS hL h1 h2
    have ha := he.at (by omega) hR
    have hT := X.2.2.2.2.2.1.2.2.2.2.2.2.1
    have hrv : ∃ cellB : Cell, H[a]? = some cellB ∧ cellB.vm.isStatics = false ∧ s.vm.findClass y.cls = some cellB.cls := by
      rw [hcls, ha]
      exact vk_recv (i := k) hT hk hS
    have hs0 := hS.1
    have hn0 := hR.1
    have hdp : rk + 1 ≤ R.frames ∧ 8 + (nLy + 11) + 64 * rk ≤ R.locals := hdp
    have hgo := va_runV (l := l) (e := e) (below := below) (meth := meth) (R := R) (g := F0 m pc ls st) (rest := rest) (As := (st.take na).reverse) (n := na) (locs := locs) (cells := n - s.heap.size) (slots := z - gZ s.heap) ⟨X.1, X.2.1, X.2.2.1, X.2.2.2.1, X.2.2.2.2.1⟩ (hc D dA b _ C n z _ h) ⟨gCallB X.2.2.2.2.1 hm hdp.1 hdp.2, X.2.2.2.2.1 _ hin, X.2.2.2.2.1 _ hse⟩ (b := a) ⟨gPc.blind, hrv, fun U hU hW => ⟨rfl, by rw [hU]; exact hR, by rw [hU]; exact Nat.le_trans X.2.2.2.2.2.2.2 hS.1, X.2.2.2.2.2.1.moved hW X.2.2.2.2.2.2.2 (fun q hq => by rw [hU]; exact hS.2.1 q (Nat.lt_of_lt_of_le hq X.2.2.2.2.2.2.2) (Nat.not_le.mpr hq))⟩⟩ rfl (by rw [List.length_reverse]; exact hta) hL.1 hst (lv_room hcat) hd ⟨by omega, by omega⟩
    exact g_run hgo hR.1 hS hL h2.1 (by omega) (by omega) (fun r C' n' z' hq => kk _ _ _ _ _ hq)
  · exact h.elim
-- statics
theorem r_gcs (X : gX x cc own nL) {idx : Nat} (hl : Cond.fieldLink own idx "java/lang/String" "COMPACT_STRINGS" "Z" ∈ TB) (hd : decode cc pc = .ok (.getstatic idx, 3)) (kk : Snd x nL (pc + 3) κ) : Snd x nL pc (s_psh (.int 1) κ) := by
  obtain ⟨p, l, e, R, s, m, args, below, meth, c, D, dA, b, Qm⟩ := x
  exact fun lv st C n z h H locs ls hR hS hL h1 h2 => va_gets X.1 X.2.1 X.2.2.2.2.2.1.2.2.2.2.1 hS X.2.2.2.1 (X.2.2.2.2.1 _ hl) (fun _ q => q) hd (kk lv _ C n z h H locs ls hR hS hL h1 h2)
def s_pshq (κ : gKo) : gKo := fun lv st C n z => ∀ v : Value, (v = .null ∨ ∃ t, v = .ref t) → κ lv (v :: st) C n z
theorem r_gfm (X : gX x cc own nL) {idx : Nat} (hl : Cond.fieldLink own idx "jdk/internal/util/Preconditions" "SIOOBE_FORMATTER" "Ljava/util/function/BiFunction;" ∈ TB) (hd : decode cc pc = .ok (.getstatic idx, 3)) (kk : Snd x nL (pc + 3) κ) : Snd x nL pc (s_pshq κ) := by
  obtain ⟨p, l, e, R, s, m, args, below, meth, c, D, dA, b, Qm⟩ := x
  intro lv st C n z h H locs ls hR hS hL h1 h2
  rcases X.2.2.2.2.2.1.2.2.2.2.2.1 with hz | ⟨t, hz⟩
  · exact va_gets X.1 X.2.1 hz hS X.2.2.2.1 (X.2.2.2.2.1 _ hl) (fun _ q => q) hd (kk lv _ C n z (h _ (Or.inl rfl)) H locs ls hR hS hL h1 h2)
  · exact va_gets X.1 X.2.1 hz hS X.2.2.2.1 (X.2.2.2.2.1 _ hl) (fun _ q => q) hd (kk lv _ C n z (h _ (Or.inr ⟨t, rfl⟩)) H locs ls hR hS hL h1 h2)
-- System.arraycopy of ints
def s_acopy (κ : gKo) : gKo := fun lv st C n z => match st with
  | .int k :: .int dp :: .ref a :: .int sp :: .ref a0 :: st => (match C a0, C a with
    | some (.inl (0, n0, .inl f)), some (.inl (0, n1, .inl g)) => gcat st ∧ (¬ sp < 0 ∧ ¬ dp < 0 ∧ ¬ k < 0 ∧ sp.toNatClampNeg + k.toNatClampNeg ≤ n0 ∧ dp.toNatClampNeg + k.toNatClampNeg ≤ n1) ∧ κ lv st (gup C a (.inl (0, n1, .inl (va_cpy f g sp.toNatClampNeg dp.toNatClampNeg k.toNatClampNeg)))) n z
    | _, _ => False)
  | _ => False
theorem r_acopy (X : gX x cc own nL) {idx : Nat} (hl : Cond.methodLink own idx arraycopyName ∈ TB) (hnat : Cond.native arraycopyName ∈ TB) (hst : Cond.static arraycopyName ∈ TB) (hini : Cond.initialized "java/lang/System" ∈ TB) (hdp : 1 ≤ x.2.2.2.1.frames ∧ 8 + (nativeFrameWords "java/lang/System" "arraycopy" 5 + 11) ≤ x.2.2.2.1.locals) (hd : decode cc pc = .ok (.invokestatic idx, 3)) (kk : Snd x nL (pc + 3) κ) : Snd x nL pc (s_acopy κ) := by
  obtain ⟨p, l, e, R, s, m, args, below, meth, c, D, dA, b, Qm⟩ := x
  intro lv st C n z h
  unfold s_acopy at h
  split at h
  · rename_i k dp a sp a0 rest
    split at h
    · rename_i n0 f n1 g e0 e1
      obtain ⟨hcat, ⟨j1, j2, j3, j4, j5⟩, h⟩ := h
      intro H locs ls hR hS hL h1 h2
      have hK := X.2.2.2.2.2.1.1
      have nn : ∀ z : Int32, ¬ z < 0 → z.toInt = (z.toNatClampNeg : Int) := by
        intro z hz
        have hz0 : (0 : Int) ≤ z.toInt := by
          have := Int32.not_lt.mp hz
          simpa using Int32.le_iff_toInt_le.mp this
        show z.toInt = ((z.toInt.toNat : Nat) : Int)
        omega
      have hc0 : H[a0]? = some (vp_cell (dA 0) (n0, .inl f)) := (hR.at e0 rfl).2
      have hc1 : H[a]? = some (vp_cell (dA 0) (n1, .inl g)) := (hR.at e1 rfl).2
      intro T hT Y
      obtain ⟨-, k0, hk0, cm0, hkk0⟩ := (hK.2 0 _ rfl).1 n0 (fun j => .int (f j))
      obtain ⟨-, k1, hk1, cm1, hkk1⟩ := (hK.2 0 _ rfl).1 n1 (fun j => .int (g j))
      have hlo : (rest.map fun v => v.category).sum + (nativeFrameWords "java/lang/System" "arraycopy" 5 + 11) ≤ R.locals := by
        have h8 : (rest.map fun v => v.category).sum ≤ 8 := hcat
        have h9 : 8 + (nativeFrameWords "java/lang/System" "arraycopy" 5 + 11) ≤ R.locals := hdp.2
        omega
      obtain ⟨vm', X', step⟩ := Y.arraycopy X.1 X.2.2.2.1 (X.2.2.2.2.1 _ hl) (X.2.2.2.2.1 _ hnat) (X.2.2.2.2.1 _ hst) (X.2.2.2.2.1 _ hini) (src := a0) (dst := a) (cs := vp_cell (dA 0) (n0, .inl f)) (cd := vp_cell (dA 0) (n1, .inl g)) (srcPos := sp) (destPos := dp) (n := k) (by rw [hT]; exact hc0) (by rw [hT]; exact hc1)
        (fun _ h => by cases h) (fun _ h => by cases h) (fun h => by cases h) (fun h => by cases h) hk0 hk1 hkk0 hkk1 (by simp [refKind]) j1 j2 j3
        (by rw [nn sp j1, nn k j3]; show ¬ _ > ((arrV (dA 0) n0 (fun j => .int (f j))).slots.size : Int); rw [arrV_size]; omega)
        (by rw [nn dp j2, nn k j3]; show ¬ _ > ((arrV (dA 0) n1 (fun j => .int (g j))).slots.size : Int); rw [arrV_size]; omega)
        (fun vm₁ _ i hi => by
          have e : (vp_cell (dA 0) (n0, .inl f)).slots.getD (sp.toNatClampNeg + i) .null = .int (f (sp.toNatClampNeg + i)) := by
            show (arrV (dA 0) n0 (fun j => .int (f j))).slots.getD _ _ = _
            rw [Array.getD_eq_getD_getElem?, arrV_read _ _ (by omega)]
            rfl
          refine ⟨?_, ?_⟩
          · rw [e]
            rfl
          · rw [e]
            exact trivial)
        (g := F0 m pc ls (.int k :: .int dp :: .ref a :: .int sp :: .ref a0 :: rest)) rfl (by rw [X.2.2.1]; exact hL.1) (rest := rest) rfl (by rw [X.2.1]; exact hd) hdp.1 (by show 2 * 0 + _ + _ ≤ R.locals; omega)
      have e2 : copied (vp_cell (dA 0) (n0, .inl f)) (vp_cell (dA 0) (n1, .inl g)) sp dp k = vp_cell (dA 0) (n1, .inl (va_cpy f g sp.toNatClampNeg dp.toNatClampNeg k.toNatClampNeg)) := va_copied (fun z => .int z) (dA 0) (dA 0) f g j4
      rw [e2] at X' step
      have hl : a < H.size := (Array.getElem?_eq_some_iff.mp hc1).1
      generalize hH1 : H.setIfInBounds a (vp_cell (dA 0) (n1, .inl (va_cpy f g sp.toNatClampNeg dp.toNatClampNeg k.toNatClampNeg))) = H1
      have hheap : ((T.setVm vm').setCell a (vp_cell (dA 0) (n1, .inl (va_cpy f g sp.toNatClampNeg dp.toNatClampNeg k.toNatClampNeg)))).heap = H1 := by rw [← hH1, ← hT]; rfl
      have oq : ∀ q : Nat, q ≠ a → H1[q]? = H[q]? := fun q hq => by rw [← hH1]; simp [Array.getElem?_setIfInBounds, Ne.symm hq]
      have z1 : H1.size = H.size := by rw [← hH1]; simp
      have e1' : H1[a]? = some (vp_cell (dA 0) (n1, .inl (va_cpy f g sp.toNatClampNeg dp.toNatClampNeg k.toNatClampNeg))) := by rw [← hH1]; simp [Array.getElem?_setIfInBounds, hl]
      have hR1 := hR.set (x := .inl (0, n1, .inl (va_cpy f g sp.toNatClampNeg dp.toNatClampNeg k.toNatClampNeg))) e1 rfl rfl hc1 e1' (by rw [vp_cell_i, vp_cell_i, arrV_size, arrV_size]) z1 oq e1'
      have hba := (hR.at e1 rfl).1
      obtain ⟨t, a1, b1⟩ := g_fit hR1 (kk lv _ _ n z h H1 _ ls hR1 ⟨by rw [z1]; exact hS.1, fun q g1 g2 => by
          rw [oq q (fun e => g2 (by show b ≤ q; rw [e]; exact hba))]
          exact hS.2.1 q g1 g2, fun q hq => by
          rcases List.mem_append.mp hq with h | h
          · exact hS.2.2 q h
          · obtain ⟨z, -, hz⟩ := List.mem_map.mp h
            rw [← hz]
            exact hba⟩ hL h1 h2) _ hheap X'
      exact ⟨t, step t a1, b1⟩
    · exact h.elim
  · exact h.elim
-- clone of an int array, and its cast
def s_clone (nm zm : Nat) (κ : gKo) : gKo := fun lv st C n z => match st with
  | .ref a :: st => (match C a with
    | some (.inl (0, N, .inl f)) => gcat st ∧ gfree nm zm n z 1 N ∧ κ lv (.ref n :: st) (gup C n (.inl (0, N, .inl f))) (n + 1) (z + N)
    | _ => False)
  | _ => False
theorem r_clone (X : gX x cc own nL) {nm zm idx : Nat} (hroom : gRoom x nm zm) (hlink : Cond.methodLink own idx ⟨"[I", "clone", "()Ljava/lang/Object;"⟩ ∈ TB) (hsame : Cond.sameMethod "[I" "java/lang/Object" "clone" "()Ljava/lang/Object;" ∈ TB) (hnat : Cond.native ⟨"java/lang/Object", "clone", "()Ljava/lang/Object;"⟩ ∈ TB) (hinst : Cond.instanceMethod ⟨"java/lang/Object", "clone", "()Ljava/lang/Object;"⟩ ∈ TB) (hsel : Cond.selects "[I" ⟨"[I", "clone", "()Ljava/lang/Object;"⟩ ⟨"java/lang/Object", "clone", "()Ljava/lang/Object;"⟩ ∈ TB) (hdp : 1 ≤ x.2.2.2.1.frames ∧ 22 ≤ x.2.2.2.1.locals) (hd : decode cc pc = .ok (.invokevirtual idx, 3)) (kk : Snd x nL (pc + 3) κ) : Snd x nL pc (s_clone nm zm κ) := by
  obtain ⟨p, l, e, R, s, m, args, below, meth, c, D, dA, b, Qm⟩ := x
  intro lv st C n z h
  unfold s_clone at h
  split at h
  · rename_i a rest
    split at h
    · rename_i N f e1
      obtain ⟨hcat, ⟨k3, k4⟩, h⟩ := h
      intro H locs ls hR hS hL h1 h2
      obtain ⟨r1, r2⟩ := hroom
      obtain ⟨h2, h3⟩ := h2
      have hK := X.2.2.2.2.2.1.1
      have hsz0 := hS.1
      have hn := hR.1
      have hcl := X.2.2.2.2.2.1.2.2.2.2.2.2.2.2.2
      have hnm : s.vm.findClass "[I" = some (dA 0) := (hK.2 0 _ rfl).2
      obtain ⟨c0, t0', f1, f2, f3⟩ := Cond.castable_spec (va_Nw.use (A := args) rfl hcl)
      cases hnm.symm.trans f1
      intro T hT Y
      have hc0 : H[a]? = some (vp_cell (dA 0) (N, .inl f)) := (hR.at e1 rfl).2
      have hcellT : T.heap[a]? = some (vp_cell (dA 0) (N, .inl f)) := by rw [hT]; exact hc0
      obtain ⟨-, kA, hkA, comp, hkind⟩ := State.isArrayOf_alike Y.warmed.alike ((hK.2 0 _ rfl).1 0 (fun _ => .null))
      obtain ⟨-, kS, hkS, compS, hkindS⟩ := (hK.2 0 _ rfl).1 0 (fun _ => .null)
      have hlo : (rest.map fun v => v.category).sum + 14 ≤ R.locals := by
        have h8 : (rest.map fun v => v.category).sum ≤ 8 := hcat
        have h9 : 22 ≤ R.locals := hdp.2
        omega
      have hsz : (vp_cell (dA 0) (N, .inl f)).slots.size = N := arrV_size _ _ _
      obtain ⟨vm', X', st⟩ := Y.cloneArray X.1 X.2.2.2.1 (X.2.2.2.2.1 _ hlink) (X.2.2.2.2.1 _ hsame) (X.2.2.2.2.1 _ hnat) (X.2.2.2.2.1 _ hinst) (X.2.2.2.2.1 _ hsel) (a := a) (cell := vp_cell (dA 0) (N, .inl f)) hcellT (fun k h => by cases h) (fun h => by cases h) hnm f2 f3
        (fun i v hv => by
          have hk' : T.vm.classes[dA 0]? = some kA := hkA
          have hfit : fits .int v = true := by
            have hv' : (arrV (dA 0) N (fun j => .int (f j))).slots[i]? = some v := hv
            have hil : i < N := by
              have := (Array.getElem?_eq_some_iff.mp hv').1
              rwa [arrV_size] at this
            rw [arrV_read _ _ hil] at hv'
            cases hv'
            rfl
          show T.fitsSlot (dA 0) .none i v = true
          simpa [State.fitsSlot, State.slotType?, hk', hkind] using hfit)
        (g := F0 m pc ls (.ref a :: rest)) rfl (by rw [X.2.2.1]; exact hL.1) rfl (by rw [X.2.1]; exact hd) hdp.1 (by show 2 * 0 + _ + 14 ≤ R.locals; omega) (by show _ ≤ R.cells; omega) (by rw [hsz]; show _ ≤ R.slots; omega) (hloader := Vm.clonesLoader_of_array hkS hkindS)
      have hcellE : ({ cls := (vp_cell (dA 0) (N, .inl f)).cls, slots := (vp_cell (dA 0) (N, .inl f)).slots } : Cell) = vp_cell (dA 0) (N, .inl f) := rfl
      rw [hcellE, hsz] at X'
      generalize hH1 : H.push (vp_cell (dA 0) (N, .inl f)) = H1
      have z1 : H1.size = H.size + 1 := by rw [← hH1, Array.size_push]
      have e2 : H1[H.size]? = some (vp_cell (dA 0) (N, .inl f)) := by rw [← hH1, Array.getElem?_push_size]
      have o1 : ∀ q : Nat, q < H.size → H1[q]? = H[q]? := fun q hq => by rw [← hH1, Array.getElem?_push, if_neg (Nat.ne_of_lt hq)]
      have hR1 : gR D dA b (gup C n (.inl (0, N, .inl f))) (n + 1) (z + N) H1 := hR.new rfl (Nat.le_trans X.2.2.2.2.2.2.2 hsz0) e2 hsz z1 o1 e2
      have hW := g_fit hR1 (cells := n - s.heap.size + 1) (slots := z - gZ s.heap + N) (kk lv _ _ _ _ h H1 locs ls hR1 (gS.new hS z1 o1) hL (by omega) ⟨by omega, by omega⟩)
      obtain ⟨t, b1, b2⟩ := hW ((T.setVm vm').pushCell (vp_cell (dA 0) (N, .inl f))) (by rw [← hH1, ← hT]; rfl) X'
      refine ⟨t, st t ?_, b2⟩
      have hTs : T.heap.size = n := by rw [hT]; exact hn
      rw [hcellE, hTs]
      exact b1
    · exact h.elim
  · exact h.elim
def s_castI (κ : gKo) : gKo := fun lv st C n z => match st with
  | .ref a :: rest => (match C a with
    | some (.inl (0, N, .inl f)) => κ lv (.ref a :: rest) C n z
    | _ => False)
  | _ => False
theorem r_castI (X : gX x cc own nL) {idx : Nat} (hl : Cond.classLink own idx "[I" ∈ TB) (hd : decode cc pc = .ok (.checkcast idx, 3)) (kk : Snd x nL (pc + 3) κ) : Snd x nL pc (s_castI κ) := by
  obtain ⟨p, l, e, R, s, m, args, below, meth, c, D, dA, b, Qm⟩ := x
  intro lv st C n z h
  unfold s_castI at h
  split at h
  · rename_i a rest
    split at h
    · rename_i N f e1
      exact fun H locs ls hR hS hL h1 h2 => va_castA (ws := [(a, gv dA (.inl (0, N, .inl f)))]) X.1 X.2.1 X.2.2.2.1 (X.2.2.2.2.1 _ hl) (hR.P1 e1 rfl) 0 rfl ((X.2.2.2.2.2.1.1.2 0 _ rfl).2) hd (kk lv _ C n z h H locs ls hR hS hL h1 h2)
    · exact h.elim
  · exact h.elim
end EXT
def gAc (x : gCx) : Prop := 1 ≤ x.2.2.2.1.frames ∧ 8 + (nativeFrameWords "java/lang/System" "arraycopy" 5 + 11) ≤ x.2.2.2.1.locals
theorem gAc.of {x : gCx} {rk mc ms : Nat} (h : x.2.2.2.1 = gRm rk mc ms) (h1 : 1 ≤ rk) : gAc x := by
  unfold gAc
  rw [h]
  refine ⟨h1, ?_⟩
  show _ ≤ 64 * rk
  have : 8 + (nativeFrameWords "java/lang/System" "arraycopy" 5 + 11) ≤ 64 := by decide
  omega
