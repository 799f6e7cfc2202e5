section ROWS2
variable {x : gCx} {cc : ByteArray} {own : String} {nL pc : Nat} {κ κ1 κ2 : gKo}
def s_ib (f : Int32 → Int32 → Int32) (κ : gKo) : gKo := fun lv st C n z => match st with
  | .int y :: .int x :: st => κ lv (.int (f x y) :: st) C n z
  | _ => False
def s_ibz (f : Int32 → Int32 → Int32) (κ : gKo) : gKo := fun lv st C n z => match st with
  | .int y :: .int x :: st => ¬ y = 0 ∧ κ lv (.int (f x y) :: st) C n z
  | _ => False
def s_iu (f : Int32 → Int32) (κ : gKo) : gKo := fun lv st C n z => match st with
  | .int x :: st => κ lv (.int (f x) :: st) C n z
  | _ => False
def s_lb (f : Int64 → Int64 → Int64) (κ : gKo) : gKo := fun lv st C n z => match st with
  | .long y :: .long x :: st => κ lv (.long (f x y) :: st) C n z
  | _ => False
def s_lbz (f : Int64 → Int64 → Int64) (κ : gKo) : gKo := fun lv st C n z => match st with
  | .long y :: .long x :: st => ¬ y = 0 ∧ κ lv (.long (f x y) :: st) C n z
  | _ => False
def s_lu (f : Int64 → Int64) (κ : gKo) : gKo := fun lv st C n z => match st with
  | .long x :: st => κ lv (.long (f x) :: st) C n z
  | _ => False
def s_ls (f : Int64 → Int32 → Int64) (κ : gKo) : gKo := fun lv st C n z => match st with
  | .int y :: .long x :: st => κ lv (.long (f x y) :: st) C n z
  | _ => False
def s_il (κ : gKo) : gKo := fun lv st C n z => match st with
  | .int x :: st => κ lv (.long x.toInt64 :: st) C n z
  | _ => False
def s_li (κ : gKo) : gKo := fun lv st C n z => match st with
  | .long x :: st => κ lv (.int x.toInt32 :: st) C n z
  | _ => False
def s_cmp (κ : gKo) : gKo := fun lv st C n z => match st with
  | .long y :: .long x :: st => κ lv (.int (lg_cmp x y) :: st) C n z
  | _ => False
theorem r_iadd (X : gX x cc own nL) (hd : decode cc pc = .ok (.iadd, 1)) (k : Snd x nL (pc + 1) κ) : Snd x nL pc (s_ib (fun x y => x + y) κ) := by
  obtain ⟨p, l, e, R, s, m, args, below, meth, c, D, dA, b, Qm⟩ := x
  intro lv st C n z h
  unfold s_ib at h
  split at h
  · exact fun H locs ls hR hS hL h1 h2 => lv_iadd X.1 X.2.1 hd (k lv _ C n z h H locs ls hR hS hL h1 h2)
  · exact h.elim
theorem r_isub (X : gX x cc own nL) (hd : decode cc pc = .ok (.isub, 1)) (k : Snd x nL (pc + 1) κ) : Snd x nL pc (s_ib (fun x y => x - y) κ) := by
  obtain ⟨p, l, e, R, s, m, args, below, meth, c, D, dA, b, Qm⟩ := x
  intro lv st C n z h
  unfold s_ib at h
  split at h
  · exact fun H locs ls hR hS hL h1 h2 => lv_isub X.1 X.2.1 hd (k lv _ C n z h H locs ls hR hS hL h1 h2)
  · exact h.elim
theorem r_imul (X : gX x cc own nL) (hd : decode cc pc = .ok (.imul, 1)) (k : Snd x nL (pc + 1) κ) : Snd x nL pc (s_ib (fun x y => x * y) κ) := by
  obtain ⟨p, l, e, R, s, m, args, below, meth, c, D, dA, b, Qm⟩ := x
  intro lv st C n z h
  unfold s_ib at h
  split at h
  · exact fun H locs ls hR hS hL h1 h2 => lv_imul X.1 X.2.1 hd (k lv _ C n z h H locs ls hR hS hL h1 h2)
  · exact h.elim
theorem r_iand (X : gX x cc own nL) (hd : decode cc pc = .ok (.iand, 1)) (k : Snd x nL (pc + 1) κ) : Snd x nL pc (s_ib (fun x y => x &&& y) κ) := by
  obtain ⟨p, l, e, R, s, m, args, below, meth, c, D, dA, b, Qm⟩ := x
  intro lv st C n z h
  unfold s_ib at h
  split at h
  · exact fun H locs ls hR hS hL h1 h2 => lv_iand X.1 X.2.1 hd (k lv _ C n z h H locs ls hR hS hL h1 h2)
  · exact h.elim
theorem r_ior (X : gX x cc own nL) (hd : decode cc pc = .ok (.ior, 1)) (k : Snd x nL (pc + 1) κ) : Snd x nL pc (s_ib (fun x y => x ||| y) κ) := by
  obtain ⟨p, l, e, R, s, m, args, below, meth, c, D, dA, b, Qm⟩ := x
  intro lv st C n z h
  unfold s_ib at h
  split at h
  · exact fun H locs ls hR hS hL h1 h2 => lv_ior X.1 X.2.1 hd (k lv _ C n z h H locs ls hR hS hL h1 h2)
  · exact h.elim
theorem r_ixor (X : gX x cc own nL) (hd : decode cc pc = .ok (.ixor, 1)) (k : Snd x nL (pc + 1) κ) : Snd x nL pc (s_ib (fun x y => x ^^^ y) κ) := by
  obtain ⟨p, l, e, R, s, m, args, below, meth, c, D, dA, b, Qm⟩ := x
  intro lv st C n z h
  unfold s_ib at h
  split at h
  · exact fun H locs ls hR hS hL h1 h2 => lv_ixor X.1 X.2.1 hd (k lv _ C n z h H locs ls hR hS hL h1 h2)
  · exact h.elim
theorem r_ishl (X : gX x cc own nL) (hd : decode cc pc = .ok (.ishl, 1)) (k : Snd x nL (pc + 1) κ) : Snd x nL pc (s_ib (fun x y => x <<< (y &&& 31)) κ) := by
  obtain ⟨p, l, e, R, s, m, args, below, meth, c, D, dA, b, Qm⟩ := x
  intro lv st C n z h
  unfold s_ib at h
  split at h
  · exact fun H locs ls hR hS hL h1 h2 => lv_ishl X.1 X.2.1 hd (k lv _ C n z h H locs ls hR hS hL h1 h2)
  · exact h.elim
theorem r_ishr (X : gX x cc own nL) (hd : decode cc pc = .ok (.ishr, 1)) (k : Snd x nL (pc + 1) κ) : Snd x nL pc (s_ib (fun x y => x >>> (y &&& 31)) κ) := by
  obtain ⟨p, l, e, R, s, m, args, below, meth, c, D, dA, b, Qm⟩ := x
  intro lv st C n z h
  unfold s_ib at h
  split at h
  · exact fun H locs ls hR hS hL h1 h2 => lv_ishr X.1 X.2.1 hd (k lv _ C n z h H locs ls hR hS hL h1 h2)
  · exact h.elim
theorem r_iushr (X : gX x cc own nL) (hd : decode cc pc = .ok (.iushr, 1)) (k : Snd x nL (pc + 1) κ) : Snd x nL pc (s_ib (fun x y => (x.toUInt32 >>> (y.toUInt32 &&& Int32.toUInt32 31)).toInt32) κ) := by
  obtain ⟨p, l, e, R, s, m, args, below, meth, c, D, dA, b, Qm⟩ := x
  intro lv st C n z h
  unfold s_ib at h
  split at h
  · exact fun H locs ls hR hS hL h1 h2 => lv_iushr X.1 X.2.1 hd rfl (k lv _ C n z h H locs ls hR hS hL h1 h2)
  · exact h.elim
theorem r_idiv (X : gX x cc own nL) (hd : decode cc pc = .ok (.idiv, 1)) (k : Snd x nL (pc + 1) κ) : Snd x nL pc (s_ibz (fun x y => x / y) κ) := by
  obtain ⟨p, l, e, R, s, m, args, below, meth, c, D, dA, b, Qm⟩ := x
  intro lv st C n z h
  unfold s_ibz at h
  split at h
  · exact fun H locs ls hR hS hL h1 h2 => lv_idiv X.1 X.2.1 hd h.1 (k lv _ C n z h.2 H locs ls hR hS hL h1 h2)
  · exact h.elim
theorem r_irem (X : gX x cc own nL) (hd : decode cc pc = .ok (.irem, 1)) (k : Snd x nL (pc + 1) κ) : Snd x nL pc (s_ibz (fun x y => x - x / y * y) κ) := by
  obtain ⟨p, l, e, R, s, m, args, below, meth, c, D, dA, b, Qm⟩ := x
  intro lv st C n z h
  unfold s_ibz at h
  split at h
  · exact fun H locs ls hR hS hL h1 h2 => lv_irem X.1 X.2.1 hd h.1 (k lv _ C n z h.2 H locs ls hR hS hL h1 h2)
  · exact h.elim
theorem r_ineg (X : gX x cc own nL) (hd : decode cc pc = .ok (.ineg, 1)) (k : Snd x nL (pc + 1) κ) : Snd x nL pc (s_iu (fun x => -x) κ) := by
  obtain ⟨p, l, e, R, s, m, args, below, meth, c, D, dA, b, Qm⟩ := x
  intro lv st C n z h
  unfold s_iu at h
  split at h
  · exact fun H locs ls hR hS hL h1 h2 => lv_ineg X.1 X.2.1 hd (k lv _ C n z h H locs ls hR hS hL h1 h2)
  · exact h.elim
theorem r_i2c (X : gX x cc own nL) (hd : decode cc pc = .ok (.i2c, 1)) (k : Snd x nL (pc + 1) κ) : Snd x nL pc (s_iu (fun x => (x.toUInt32 % 65536).toInt32) κ) := by
  obtain ⟨p, l, e, R, s, m, args, below, meth, c, D, dA, b, Qm⟩ := x
  intro lv st C n z h
  unfold s_iu at h
  split at h
  · exact fun H locs ls hR hS hL h1 h2 => lv_i2c X.1 X.2.1 hd rfl (k lv _ C n z h H locs ls hR hS hL h1 h2)
  · exact h.elim
theorem r_i2b (X : gX x cc own nL) (hd : decode cc pc = .ok (.i2b, 1)) (k : Snd x nL (pc + 1) κ) : Snd x nL pc (s_iu (fun x => x.toInt8.toInt32) κ) := by
  obtain ⟨p, l, e, R, s, m, args, below, meth, c, D, dA, b, Qm⟩ := x
  intro lv st C n z h
  unfold s_iu at h
  split at h
  · exact fun H locs ls hR hS hL h1 h2 => lv_i2b X.1 X.2.1 hd rfl (k lv _ C n z h H locs ls hR hS hL h1 h2)
  · exact h.elim
theorem r_ladd (X : gX x cc own nL) (hd : decode cc pc = .ok (.ladd, 1)) (k : Snd x nL (pc + 1) κ) : Snd x nL pc (s_lb (fun x y => x + y) κ) := by
  obtain ⟨p, l, e, R, s, m, args, below, meth, c, D, dA, b, Qm⟩ := x
  intro lv st C n z h
  unfold s_lb at h
  split at h
  · exact fun H locs ls hR hS hL h1 h2 => lv_ladd X.1 X.2.1 hd (k lv _ C n z h H locs ls hR hS hL h1 h2)
  · exact h.elim
theorem r_lsub (X : gX x cc own nL) (hd : decode cc pc = .ok (.lsub, 1)) (k : Snd x nL (pc + 1) κ) : Snd x nL pc (s_lb (fun x y => x - y) κ) := by
  obtain ⟨p, l, e, R, s, m, args, below, meth, c, D, dA, b, Qm⟩ := x
  intro lv st C n z h
  unfold s_lb at h
  split at h
  · exact fun H locs ls hR hS hL h1 h2 => lv_lsub X.1 X.2.1 hd (k lv _ C n z h H locs ls hR hS hL h1 h2)
  · exact h.elim
theorem r_lmul (X : gX x cc own nL) (hd : decode cc pc = .ok (.lmul, 1)) (k : Snd x nL (pc + 1) κ) : Snd x nL pc (s_lb (fun x y => x * y) κ) := by
  obtain ⟨p, l, e, R, s, m, args, below, meth, c, D, dA, b, Qm⟩ := x
  intro lv st C n z h
  unfold s_lb at h
  split at h
  · exact fun H locs ls hR hS hL h1 h2 => lv_lmul X.1 X.2.1 hd (k lv _ C n z h H locs ls hR hS hL h1 h2)
  · exact h.elim
theorem r_land (X : gX x cc own nL) (hd : decode cc pc = .ok (.land, 1)) (k : Snd x nL (pc + 1) κ) : Snd x nL pc (s_lb (fun x y => x &&& y) κ) := by
  obtain ⟨p, l, e, R, s, m, args, below, meth, c, D, dA, b, Qm⟩ := x
  intro lv st C n z h
  unfold s_lb at h
  split at h
  · exact fun H locs ls hR hS hL h1 h2 => lv_land X.1 X.2.1 hd (k lv _ C n z h H locs ls hR hS hL h1 h2)
  · exact h.elim
theorem r_lor (X : gX x cc own nL) (hd : decode cc pc = .ok (.lor, 1)) (k : Snd x nL (pc + 1) κ) : Snd x nL pc (s_lb (fun x y => x ||| y) κ) := by
  obtain ⟨p, l, e, R, s, m, args, below, meth, c, D, dA, b, Qm⟩ := x
  intro lv st C n z h
  unfold s_lb at h
  split at h
  · exact fun H locs ls hR hS hL h1 h2 => lv_lor X.1 X.2.1 hd (k lv _ C n z h H locs ls hR hS hL h1 h2)
  · exact h.elim
theorem r_lxor (X : gX x cc own nL) (hd : decode cc pc = .ok (.lxor, 1)) (k : Snd x nL (pc + 1) κ) : Snd x nL pc (s_lb (fun x y => x ^^^ y) κ) := by
  obtain ⟨p, l, e, R, s, m, args, below, meth, c, D, dA, b, Qm⟩ := x
  intro lv st C n z h
  unfold s_lb at h
  split at h
  · exact fun H locs ls hR hS hL h1 h2 => lv_lxor X.1 X.2.1 hd (k lv _ C n z h H locs ls hR hS hL h1 h2)
  · exact h.elim
theorem r_ldiv (X : gX x cc own nL) (hd : decode cc pc = .ok (.ldiv, 1)) (k : Snd x nL (pc + 1) κ) : Snd x nL pc (s_lbz (fun x y => x / y) κ) := by
  obtain ⟨p, l, e, R, s, m, args, below, meth, c, D, dA, b, Qm⟩ := x
  intro lv st C n z h
  unfold s_lbz at h
  split at h
  · exact fun H locs ls hR hS hL h1 h2 => lv_ldiv X.1 X.2.1 hd h.1 (k lv _ C n z h.2 H locs ls hR hS hL h1 h2)
  · exact h.elim
theorem r_lrem (X : gX x cc own nL) (hd : decode cc pc = .ok (.lrem, 1)) (k : Snd x nL (pc + 1) κ) : Snd x nL pc (s_lbz (fun x y => x - x / y * y) κ) := by
  obtain ⟨p, l, e, R, s, m, args, below, meth, c, D, dA, b, Qm⟩ := x
  intro lv st C n z h
  unfold s_lbz at h
  split at h
  · exact fun H locs ls hR hS hL h1 h2 => lv_lrem X.1 X.2.1 hd h.1 (k lv _ C n z h.2 H locs ls hR hS hL h1 h2)
  · exact h.elim
theorem r_lneg (X : gX x cc own nL) (hd : decode cc pc = .ok (.lneg, 1)) (k : Snd x nL (pc + 1) κ) : Snd x nL pc (s_lu (fun x => -x) κ) := by
  obtain ⟨p, l, e, R, s, m, args, below, meth, c, D, dA, b, Qm⟩ := x
  intro lv st C n z h
  unfold s_lu at h
  split at h
  · exact fun H locs ls hR hS hL h1 h2 => lv_lneg X.1 X.2.1 hd (k lv _ C n z h H locs ls hR hS hL h1 h2)
  · exact h.elim
theorem r_lshl (X : gX x cc own nL) (hd : decode cc pc = .ok (.lshl, 1)) (k : Snd x nL (pc + 1) κ) : Snd x nL pc (s_ls (fun x y => x <<< (y.toInt64 &&& 63)) κ) := by
  obtain ⟨p, l, e, R, s, m, args, below, meth, c, D, dA, b, Qm⟩ := x
  intro lv st C n z h
  unfold s_ls at h
  split at h
  · exact fun H locs ls hR hS hL h1 h2 => lv_lshl X.1 X.2.1 hd rfl (k lv _ C n z h H locs ls hR hS hL h1 h2)
  · exact h.elim
theorem r_lshr (X : gX x cc own nL) (hd : decode cc pc = .ok (.lshr, 1)) (k : Snd x nL (pc + 1) κ) : Snd x nL pc (s_ls (fun x y => x >>> (y.toInt64 &&& 63)) κ) := by
  obtain ⟨p, l, e, R, s, m, args, below, meth, c, D, dA, b, Qm⟩ := x
  intro lv st C n z h
  unfold s_ls at h
  split at h
  · exact fun H locs ls hR hS hL h1 h2 => lv_lshr X.1 X.2.1 hd rfl (k lv _ C n z h H locs ls hR hS hL h1 h2)
  · exact h.elim
theorem r_i2l (X : gX x cc own nL) (hd : decode cc pc = .ok (.i2l, 1)) (k : Snd x nL (pc + 1) κ) : Snd x nL pc (s_il κ) := by
  obtain ⟨p, l, e, R, s, m, args, below, meth, c, D, dA, b, Qm⟩ := x
  intro lv st C n z h
  unfold s_il at h
  split at h
  · exact fun H locs ls hR hS hL h1 h2 => lv_i2l X.1 X.2.1 hd rfl (k lv _ C n z h H locs ls hR hS hL h1 h2)
  · exact h.elim
theorem r_l2i (X : gX x cc own nL) (hd : decode cc pc = .ok (.l2i, 1)) (k : Snd x nL (pc + 1) κ) : Snd x nL pc (s_li κ) := by
  obtain ⟨p, l, e, R, s, m, args, below, meth, c, D, dA, b, Qm⟩ := x
  intro lv st C n z h
  unfold s_li at h
  split at h
  · exact fun H locs ls hR hS hL h1 h2 => lv_l2i X.1 X.2.1 hd rfl (k lv _ C n z h H locs ls hR hS hL h1 h2)
  · exact h.elim
theorem r_lcmp (X : gX x cc own nL) (hd : decode cc pc = .ok (.lcmp, 1)) (k : Snd x nL (pc + 1) κ) : Snd x nL pc (s_cmp κ) := by
  obtain ⟨p, l, e, R, s, m, args, below, meth, c, D, dA, b, Qm⟩ := x
  intro lv st C n z h
  unfold s_cmp at h
  split at h
  · exact fun H locs ls hR hS hL h1 h2 => W.lcmp X.1 X.2.1 hd (k lv _ C n z h H locs ls hR hS hL h1 h2)
  · exact h.elim
def s_dup (κ : gKo) : gKo := fun lv st C n z => match st with
  | v :: st => v.category = 1 ∧ κ lv (v :: v :: st) C n z
  | _ => False
def s_pop (κ : gKo) : gKo := fun lv st C n z => match st with
  | v :: st => v.category = 1 ∧ κ lv st C n z
  | _ => False
def s_dup2 (κ : gKo) : gKo := fun lv st C n z => match st with
  | v :: w :: st => v.category = 1 ∧ w.category = 1 ∧ κ lv (v :: w :: v :: w :: st) C n z
  | _ => False
theorem r_dup (X : gX x cc own nL) (hd : decode cc pc = .ok (.dup, 1)) (k : Snd x nL (pc + 1) κ) : Snd x nL pc (s_dup κ) := by
  obtain ⟨p, l, e, R, s, m, args, below, meth, c, D, dA, b, Qm⟩ := x
  intro lv st C n z h
  unfold s_dup at h
  split at h
  · exact fun H locs ls hR hS hL h1 h2 => lv_dup X.1 X.2.1 hd h.1 (k lv _ C n z h.2 H locs ls hR hS hL h1 h2)
  · exact h.elim
theorem r_pop (X : gX x cc own nL) (hd : decode cc pc = .ok (.pop, 1)) (k : Snd x nL (pc + 1) κ) : Snd x nL pc (s_pop κ) := by
  obtain ⟨p, l, e, R, s, m, args, below, meth, c, D, dA, b, Qm⟩ := x
  intro lv st C n z h
  unfold s_pop at h
  split at h
  · exact fun H locs ls hR hS hL h1 h2 => lv_pop X.1 X.2.1 hd h.1 (k lv _ C n z h.2 H locs ls hR hS hL h1 h2)
  · exact h.elim
theorem r_dup2 (X : gX x cc own nL) (hd : decode cc pc = .ok (.dup2, 1)) (k : Snd x nL (pc + 1) κ) : Snd x nL pc (s_dup2 κ) := by
  obtain ⟨p, l, e, R, s, m, args, below, meth, c, D, dA, b, Qm⟩ := x
  intro lv st C n z h
  unfold s_dup2 at h
  split at h
  · exact fun H locs ls hR hS hL h1 h2 => lv_dup2_11 X.1 X.2.1 hd h.1 h.2.1 (k lv _ C n z h.2.2 H locs ls hR hS hL h1 h2)
  · exact h.elim
def s_if1 (P : Int32 → Prop) (κ1 κ2 : gKo) : gKo := fun lv st C n z => match st with
  | .int x :: st => (P x → κ1 lv st C n z) ∧ (¬ P x → κ2 lv st C n z)
  | _ => False
def s_if2 (P : Int32 → Int32 → Prop) (κ1 κ2 : gKo) : gKo := fun lv st C n z => match st with
  | .int y :: .int x :: st => (P x y → κ1 lv st C n z) ∧ (¬ P x y → κ2 lv st C n z)
  | _ => False
theorem r_if_eq (X : gX x cc own nL) {off : Int} {tgt : Nat} (hd : decode cc pc = .ok (.ifCond .eq off, 3)) (ht : (pc : Int) + off = (tgt : Int)) (k1 : Snd x nL tgt κ1) (k2 : Snd x nL (pc + 3) κ2) : Snd x nL pc (s_if1 (fun x => x = 0) κ1 κ2) := by
  obtain ⟨p, l, e, R, s, m, args, below, meth, c, D, dA, b, Qm⟩ := x
  intro lv st C n z h
  unfold s_if1 at h
  split at h
  · exact fun H locs ls hR hS hL h1 h2 => lv_if_eq X.1 X.2.1 hd ht (fun q => k1 lv _ C n z (h.1 q) H locs ls hR hS hL h1 h2) (fun q => k2 lv _ C n z (h.2 q) H locs ls hR hS hL h1 h2)
  · exact h.elim
theorem r_if_ne (X : gX x cc own nL) {off : Int} {tgt : Nat} (hd : decode cc pc = .ok (.ifCond .ne off, 3)) (ht : (pc : Int) + off = (tgt : Int)) (k1 : Snd x nL tgt κ1) (k2 : Snd x nL (pc + 3) κ2) : Snd x nL pc (s_if1 (fun x => x = 0) κ2 κ1) := by
  obtain ⟨p, l, e, R, s, m, args, below, meth, c, D, dA, b, Qm⟩ := x
  intro lv st C n z h
  unfold s_if1 at h
  split at h
  · exact fun H locs ls hR hS hL h1 h2 => lv_if_ne X.1 X.2.1 hd ht (fun q => k1 lv _ C n z (h.2 q) H locs ls hR hS hL h1 h2) (fun q => k2 lv _ C n z (h.1 q) H locs ls hR hS hL h1 h2)
  · exact h.elim
theorem r_if_lt (X : gX x cc own nL) {off : Int} {tgt : Nat} (hd : decode cc pc = .ok (.ifCond .lt off, 3)) (ht : (pc : Int) + off = (tgt : Int)) (k1 : Snd x nL tgt κ1) (k2 : Snd x nL (pc + 3) κ2) : Snd x nL pc (s_if1 (fun x => x < 0) κ1 κ2) := by
  obtain ⟨p, l, e, R, s, m, args, below, meth, c, D, dA, b, Qm⟩ := x
  intro lv st C n z h
  unfold s_if1 at h
  split at h
  · exact fun H locs ls hR hS hL h1 h2 => lv_if_lt X.1 X.2.1 hd ht (fun q => k1 lv _ C n z (h.1 q) H locs ls hR hS hL h1 h2) (fun q => k2 lv _ C n z (h.2 q) H locs ls hR hS hL h1 h2)
  · exact h.elim
theorem r_if_ge (X : gX x cc own nL) {off : Int} {tgt : Nat} (hd : decode cc pc = .ok (.ifCond .ge off, 3)) (ht : (pc : Int) + off = (tgt : Int)) (k1 : Snd x nL tgt κ1) (k2 : Snd x nL (pc + 3) κ2) : Snd x nL pc (s_if1 (fun x => 0 ≤ x) κ1 κ2) := by
  obtain ⟨p, l, e, R, s, m, args, below, meth, c, D, dA, b, Qm⟩ := x
  intro lv st C n z h
  unfold s_if1 at h
  split at h
  · exact fun H locs ls hR hS hL h1 h2 => lv_if_ge X.1 X.2.1 hd ht (fun q => k1 lv _ C n z (h.1 q) H locs ls hR hS hL h1 h2) (fun q => k2 lv _ C n z (h.2 q) H locs ls hR hS hL h1 h2)
  · exact h.elim
theorem r_if_gt (X : gX x cc own nL) {off : Int} {tgt : Nat} (hd : decode cc pc = .ok (.ifCond .gt off, 3)) (ht : (pc : Int) + off = (tgt : Int)) (k1 : Snd x nL tgt κ1) (k2 : Snd x nL (pc + 3) κ2) : Snd x nL pc (s_if1 (fun x => 0 < x) κ1 κ2) := by
  obtain ⟨p, l, e, R, s, m, args, below, meth, c, D, dA, b, Qm⟩ := x
  intro lv st C n z h
  unfold s_if1 at h
  split at h
  · exact fun H locs ls hR hS hL h1 h2 => lv_if_gt X.1 X.2.1 hd ht (fun q => k1 lv _ C n z (h.1 q) H locs ls hR hS hL h1 h2) (fun q => k2 lv _ C n z (h.2 q) H locs ls hR hS hL h1 h2)
  · exact h.elim
theorem r_if_le (X : gX x cc own nL) {off : Int} {tgt : Nat} (hd : decode cc pc = .ok (.ifCond .le off, 3)) (ht : (pc : Int) + off = (tgt : Int)) (k1 : Snd x nL tgt κ1) (k2 : Snd x nL (pc + 3) κ2) : Snd x nL pc (s_if1 (fun x => x ≤ 0) κ1 κ2) := by
  obtain ⟨p, l, e, R, s, m, args, below, meth, c, D, dA, b, Qm⟩ := x
  intro lv st C n z h
  unfold s_if1 at h
  split at h
  · exact fun H locs ls hR hS hL h1 h2 => lv_if_le X.1 X.2.1 hd ht (fun q => k1 lv _ C n z (h.1 q) H locs ls hR hS hL h1 h2) (fun q => k2 lv _ C n z (h.2 q) H locs ls hR hS hL h1 h2)
  · exact h.elim
theorem r_icmp_eq (X : gX x cc own nL) {off : Int} {tgt : Nat} (hd : decode cc pc = .ok (.if_icmp .eq off, 3)) (ht : (pc : Int) + off = (tgt : Int)) (k1 : Snd x nL tgt κ1) (k2 : Snd x nL (pc + 3) κ2) : Snd x nL pc (s_if2 (fun x y => x = y) κ1 κ2) := by
  obtain ⟨p, l, e, R, s, m, args, below, meth, c, D, dA, b, Qm⟩ := x
  intro lv st C n z h
  unfold s_if2 at h
  split at h
  · exact fun H locs ls hR hS hL h1 h2 => lv_icmp_eq X.1 X.2.1 hd ht (fun q => k1 lv _ C n z (h.1 q) H locs ls hR hS hL h1 h2) (fun q => k2 lv _ C n z (h.2 q) H locs ls hR hS hL h1 h2)
  · exact h.elim
theorem r_icmp_ne (X : gX x cc own nL) {off : Int} {tgt : Nat} (hd : decode cc pc = .ok (.if_icmp .ne off, 3)) (ht : (pc : Int) + off = (tgt : Int)) (k1 : Snd x nL tgt κ1) (k2 : Snd x nL (pc + 3) κ2) : Snd x nL pc (s_if2 (fun x y => x = y) κ2 κ1) := by
  obtain ⟨p, l, e, R, s, m, args, below, meth, c, D, dA, b, Qm⟩ := x
  intro lv st C n z h
  unfold s_if2 at h
  split at h
  · exact fun H locs ls hR hS hL h1 h2 => lv_icmp_ne X.1 X.2.1 hd ht (fun q => k1 lv _ C n z (h.2 q) H locs ls hR hS hL h1 h2) (fun q => k2 lv _ C n z (h.1 q) H locs ls hR hS hL h1 h2)
  · exact h.elim
theorem r_icmp_lt (X : gX x cc own nL) {off : Int} {tgt : Nat} (hd : decode cc pc = .ok (.if_icmp .lt off, 3)) (ht : (pc : Int) + off = (tgt : Int)) (k1 : Snd x nL tgt κ1) (k2 : Snd x nL (pc + 3) κ2) : Snd x nL pc (s_if2 (fun x y => x < y) κ1 κ2) := by
  obtain ⟨p, l, e, R, s, m, args, below, meth, c, D, dA, b, Qm⟩ := x
  intro lv st C n z h
  unfold s_if2 at h
  split at h
  · exact fun H locs ls hR hS hL h1 h2 => lv_icmp_lt X.1 X.2.1 hd ht (fun q => k1 lv _ C n z (h.1 q) H locs ls hR hS hL h1 h2) (fun q => k2 lv _ C n z (h.2 q) H locs ls hR hS hL h1 h2)
  · exact h.elim
theorem r_icmp_ge (X : gX x cc own nL) {off : Int} {tgt : Nat} (hd : decode cc pc = .ok (.if_icmp .ge off, 3)) (ht : (pc : Int) + off = (tgt : Int)) (k1 : Snd x nL tgt κ1) (k2 : Snd x nL (pc + 3) κ2) : Snd x nL pc (s_if2 (fun x y => y ≤ x) κ1 κ2) := by
  obtain ⟨p, l, e, R, s, m, args, below, meth, c, D, dA, b, Qm⟩ := x
  intro lv st C n z h
  unfold s_if2 at h
  split at h
  · exact fun H locs ls hR hS hL h1 h2 => lv_icmp_ge X.1 X.2.1 hd ht (fun q => k1 lv _ C n z (h.1 q) H locs ls hR hS hL h1 h2) (fun q => k2 lv _ C n z (h.2 q) H locs ls hR hS hL h1 h2)
  · exact h.elim
theorem r_icmp_gt (X : gX x cc own nL) {off : Int} {tgt : Nat} (hd : decode cc pc = .ok (.if_icmp .gt off, 3)) (ht : (pc : Int) + off = (tgt : Int)) (k1 : Snd x nL tgt κ1) (k2 : Snd x nL (pc + 3) κ2) : Snd x nL pc (s_if2 (fun x y => y < x) κ1 κ2) := by
  obtain ⟨p, l, e, R, s, m, args, below, meth, c, D, dA, b, Qm⟩ := x
  intro lv st C n z h
  unfold s_if2 at h
  split at h
  · exact fun H locs ls hR hS hL h1 h2 => lv_icmp_gt X.1 X.2.1 hd ht (fun q => k1 lv _ C n z (h.1 q) H locs ls hR hS hL h1 h2) (fun q => k2 lv _ C n z (h.2 q) H locs ls hR hS hL h1 h2)
  · exact h.elim
theorem r_icmp_le (X : gX x cc own nL) {off : Int} {tgt : Nat} (hd : decode cc pc = .ok (.if_icmp .le off, 3)) (ht : (pc : Int) + off = (tgt : Int)) (k1 : Snd x nL tgt κ1) (k2 : Snd x nL (pc + 3) κ2) : Snd x nL pc (s_if2 (fun x y => x ≤ y) κ1 κ2) := by
  obtain ⟨p, l, e, R, s, m, args, below, meth, c, D, dA, b, Qm⟩ := x
  intro lv st C n z h
  unfold s_if2 at h
  split at h
  · exact fun H locs ls hR hS hL h1 h2 => lv_icmp_le X.1 X.2.1 hd ht (fun q => k1 lv _ C n z (h.1 q) H locs ls hR hS hL h1 h2) (fun q => k2 lv _ C n z (h.2 q) H locs ls hR hS hL h1 h2)
  · exact h.elim
theorem r_goto (X : gX x cc own nL) {off : Int} {tgt : Nat} (hd : decode cc pc = .ok (.goto off, 3)) (ht : (pc : Int) + off = (tgt : Int)) (k : Snd x nL tgt κ) : Snd x nL pc κ := by
  obtain ⟨p, l, e, R, s, m, args, below, meth, c, D, dA, b, Qm⟩ := x
  exact fun lv st C n z h H locs ls hR hS hL h1 h2 => lv_goto X.1 X.2.1 hd ht (k lv _ C n z h H locs ls hR hS hL h1 h2)
def s_ifn (κ1 κ2 : gKo) : gKo := fun lv st C n z => match st with
  | .null :: st => κ1 lv st C n z
  | .ref _ :: st => κ2 lv st C n z
  | _ => False
theorem r_ifnull (X : gX x cc own nL) {off : Int} {tgt : Nat} (hd : decode cc pc = .ok (.ifnull off, 3)) (ht : (pc : Int) + off = (tgt : Int)) (k1 : Snd x nL tgt κ1) (k2 : Snd x nL (pc + 3) κ2) : Snd x nL pc (s_ifn κ1 κ2) := by
  obtain ⟨p, l, e, R, s, m, args, below, meth, c, D, dA, b, Qm⟩ := x
  intro lv st C n z h
  unfold s_ifn at h
  split at h
  · exact fun H locs ls hR hS hL h1 h2 => lv_ifnullN X.1 X.2.1 hd ht (k1 lv _ C n z h H locs ls hR hS hL h1 h2)
  · exact fun H locs ls hR hS hL h1 h2 => lv_ifnull X.1 X.2.1 hd (k2 lv _ C n z h H locs ls hR hS hL h1 h2)
  · exact h.elim
theorem r_ifnonnull (X : gX x cc own nL) {off : Int} {tgt : Nat} (hd : decode cc pc = .ok (.ifnonnull off, 3)) (ht : (pc : Int) + off = (tgt : Int)) (k1 : Snd x nL tgt κ1) (k2 : Snd x nL (pc + 3) κ2) : Snd x nL pc (s_ifn κ2 κ1) := by
  obtain ⟨p, l, e, R, s, m, args, below, meth, c, D, dA, b, Qm⟩ := x
  intro lv st C n z h
  unfold s_ifn at h
  split at h
  · exact fun H locs ls hR hS hL h1 h2 => lv_ifnonnullN X.1 X.2.1 hd (k2 lv _ C n z h H locs ls hR hS hL h1 h2)
  · exact fun H locs ls hR hS hL h1 h2 => lv_ifnonnull X.1 X.2.1 hd ht (k1 lv _ C n z h H locs ls hR hS hL h1 h2)
  · exact h.elim
/-- a switch: the cases by their numbers, and what is left -/
def s_sw (cs : List (Int32 × gKo)) (κ : gKo) : gKo := fun lv st C n z => match st with
  | .int x :: st => (∀ q ∈ cs, x = q.1 → q.2 lv st C n z) ∧ ((∀ q ∈ cs, ¬ x = q.1) → κ lv st C n z)
  | _ => False
theorem r_table (X : gX x cc own nL) {dflt lo hi : Int} {offs : Array Int} {len dt : Nat} {cs : List (Int32 × gKo)} (tg : List Nat) (hd : decode cc pc = .ok (.tableswitch dflt lo hi offs, len)) (hc : ∀ i : Nat, i < offs.size → ∃ (q : Int32 × gKo) (t : Nat), cs[i]? = some q ∧ tg[i]? = some t ∧ q.1.toInt = lo + i ∧ (pc : Int) + offs[i]?.getD 0 = (t : Int)) (hz : hi = lo + offs.size - 1) (hl : cs.length = offs.size) (hdt : (pc : Int) + dflt = (dt : Int))
    (kd : Snd x nL dt κ) (ks : ∀ (i : Nat) (q : Int32 × gKo) (t : Nat), cs[i]? = some q → tg[i]? = some t → Snd x nL t q.2) : Snd x nL pc (s_sw cs κ) := by
  obtain ⟨p, l, e, R, s, m, args, below, meth, c, D, dA, b, Qm⟩ := x
  intro lv st C n z h
  unfold s_sw at h
  split at h
  · rename_i y st'
    intro H locs ls hR hS hL h1 h2
    by_cases hin : lo ≤ y.toInt ∧ y.toInt ≤ hi
    · have hlt : (y.toInt - lo).toNat < offs.size := by omega
      obtain ⟨q, t, e1, e2, e3, e4⟩ := hc _ hlt
      have ey : y = q.1 := Int32.toInt_inj.mp (by rw [e3]; omega)
      have eo : offs[(y.toInt - lo).toNat]? = some (offs[(y.toInt - lo).toNat]?.getD 0) := by simp [hlt]
      exact lv_tableIn X.1 X.2.1 hd (by omega) (by omega) eo e4 (ks _ q t e1 e2 lv _ C n z (h.1 q (List.mem_of_getElem? e1) ey) H locs ls hR hS hL h1 h2)
    · refine lv_tableOut X.1 X.2.1 hd (by omega) hdt (kd lv _ C n z (h.2 fun q hq e => ?_) H locs ls hR hS hL h1 h2)
      obtain ⟨i, hi1⟩ := List.getElem?_of_mem hq
      have hil : i < offs.size := by rw [← hl]; exact (List.getElem?_eq_some_iff.mp hi1).1
      obtain ⟨q', t, e1, -, e3, -⟩ := hc i hil
      cases hi1.symm.trans e1
      rw [← e] at e3
      omega
  · exact h.elim
theorem g_look : ∀ (ps : List (Int × Int)) (d v : Int), (∃ (i : Nat) (q : Int × Int), ps[i]? = some q ∧ v = q.1 ∧ Op.lookupswitch.offset ps d v = q.2) ∨ ((∀ q ∈ ps, ¬ v = q.1) ∧ Op.lookupswitch.offset ps d v = d)
  | [], d, v => Or.inr ⟨fun _ h => absurd h List.not_mem_nil, rfl⟩
  | (a, o) :: r, d, v => by
    by_cases hv : v = a
    · exact Or.inl ⟨0, (a, o), rfl, hv, by simp [Op.lookupswitch.offset, hv]⟩
    · have hne : ¬ a = v := fun q => hv q.symm
      have e : Op.lookupswitch.offset ((a, o) :: r) d v = Op.lookupswitch.offset r d v := by simp [Op.lookupswitch.offset, hv, hne]
      rcases g_look r d v with ⟨i, q, h1, h2, h3⟩ | ⟨h1, h2⟩
      · exact Or.inl ⟨i + 1, q, by simpa using h1, h2, e.trans h3⟩
      · refine Or.inr ⟨fun q hq => ?_, e.trans h2⟩
        rcases List.mem_cons.mp hq with rfl | hq
        · exact hv
        · exact h1 q hq
theorem r_lookup (X : gX x cc own nL) {dflt : Int} {ps : Array (Int × Int)} {len dt : Nat} {cs : List (Int32 × gKo)} (tg : List Nat) (hd : decode cc pc = .ok (.lookupswitch dflt ps, len)) (hp : (ps.toList.zip (ps.toList.drop 1)).all (fun (a, next) => a.1 < next.1) = true) (hl : cs.length = ps.toList.length) (hc : ∀ (i : Nat) (o : Int × Int), ps.toList[i]? = some o → ∃ (q : Int32 × gKo) (t : Nat), cs[i]? = some q ∧ tg[i]? = some t ∧ q.1.toInt = o.1 ∧ (pc : Int) + o.2 = (t : Int)) (hdt : (pc : Int) + dflt = (dt : Int))
    (kd : Snd x nL dt κ) (ks : ∀ (i : Nat) (q : Int32 × gKo) (t : Nat), cs[i]? = some q → tg[i]? = some t → Snd x nL t q.2) : Snd x nL pc (s_sw cs κ) := by
  obtain ⟨p, l, e, R, s, m, args, below, meth, c, D, dA, b, Qm⟩ := x
  intro lv st C n z h
  unfold s_sw at h
  split at h
  · rename_i y st'
    intro H locs ls hR hS hL h1 h2
    rcases g_look ps.toList dflt y.toInt with ⟨i, o, e1, e2, e3⟩ | ⟨e1, e2⟩
    · obtain ⟨q, t, f1, f2, f3, f4⟩ := hc i o e1
      exact lv_lookup X.1 X.2.1 hd hp e3 f4 (ks i q t f1 f2 lv _ C n z (h.1 q (List.mem_of_getElem? f1) (Int32.toInt_inj.mp (by rw [f3, e2]))) H locs ls hR hS hL h1 h2)
    · refine lv_lookup X.1 X.2.1 hd hp e2 hdt (kd lv _ C n z (h.2 fun q hq e => ?_) H locs ls hR hS hL h1 h2)
      obtain ⟨i, hi1⟩ := List.getElem?_of_mem hq
      have hil : i < ps.toList.length := by rw [← hl]; exact (List.getElem?_eq_some_iff.mp hi1).1
      obtain ⟨q', t, f1, -, f3, -⟩ := hc i _ (List.getElem?_eq_getElem hil)
      cases hi1.symm.trans f1
      exact e1 _ (List.getElem_mem hil) (by rw [e, f3])
  · exact h.elim
end ROWS2
