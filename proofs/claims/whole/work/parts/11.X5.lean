def b_X5_init_0 (p_J7_fill_53178 : gSp) (nm zm : Nat) (Q : gQ) : gKo := (s_ald 0 (s_oi (s_ald 0 (s_psh (.int 30) (s_newi nm zm (s_put 5 0 (.array .int) (s_ald 0 (s_psh (.int 30) (s_newi nm zm (s_put 5 1 (.array .int) (s_ald 0 (s_psh (.int 7) (s_newi nm zm (s_put 5 2 (.array .int) (s_ald 0 (s_psh (.int 120) (s_newi nm zm (s_put 5 3 (.array .int) (s_ald 0 (s_psh (.int 0) (s_put 5 4 .int (s_ald 0 (s_psh (.int 0) (s_put 5 5 .int (s_ald 0 (s_psh (.int 263) (s_put 5 6 .int (s_ald 0 (s_get 5 0 (s_psh (.int 1) (s_cs 2 p_J7_fill_53178 (s_ald 0 (s_get 5 2 (s_psh (.int (-1)) (s_cs 2 p_J7_fill_53178 (s_vret Q))))))))))))))))))))))))))))))))))))
set_option maxRecDepth 20000 in
theorem q_X5_init_0 {x : gCx} {mc ms : Nat} {p_J7_fill_53178 : gSp} {nm zm : Nat} {Q : gQ} (X : gX x cX5_init RX5 1) (XQ : gXQ x 1 none mc ms Q) (hroom : gRoom x nm zm) (hini : x.2.2.2.2.2.2.2.2.1.name = "<init>") (hdeep : 1 ≤ x.2.2.2.1.frames ∧ 20 ≤ x.2.2.2.1.locals) {rk_J7_fill_53178 : Nat} (h_J7_fill_53178 : Con x.2.1 yJ7_fill_53178 cJ7_fill_53178 4 none rk_J7_fill_53178 0 0 p_J7_fill_53178) (g_J7_fill_53178 : gDeep x rk_J7_fill_53178 4) : Snd x 1 0 (b_X5_init_0 p_J7_fill_53178 nm zm Q) := by
  unfold b_X5_init_0
  exact (r_aload_n (pc := 0) X dX5_init_0 rfl (r_oi (pc := 1) X (tb_1 42 rfl rfl) (tb_1 29 rfl rfl) (tb_1 30 rfl rfl) hdeep dX5_init_1 (r_aload_n (pc := 4) X dX5_init_4 rfl (r_bipush (pc := 5) X dX5_init_5 rfl (r_newi (pc := 7) X hroom (tb_1 87 rfl rfl) dX5_init_7 (r_putF (pc := 9) X hini fd_RX5_9 ⟨_, _, _, rfl, rfl⟩ dX5_init_9 (r_aload_n (pc := 12) X dX5_init_12 rfl (r_bipush (pc := 13) X dX5_init_13 rfl (r_newi (pc := 15) X hroom (tb_1 87 rfl rfl) dX5_init_15 (r_putF (pc := 17) X hini fd_RX5_15 ⟨_, _, _, rfl, rfl⟩ dX5_init_17 (r_aload_n (pc := 20) X dX5_init_20 rfl (r_bipush (pc := 21) X dX5_init_21 rfl (r_newi (pc := 23) X hroom (tb_1 87 rfl rfl) dX5_init_23 (r_putF (pc := 25) X hini fd_RX5_18 ⟨_, _, _, rfl, rfl⟩ dX5_init_25 (r_aload_n (pc := 28) X dX5_init_28 rfl (r_bipush (pc := 29) X dX5_init_29 rfl (r_newi (pc := 31) X hroom (tb_1 87 rfl rfl) dX5_init_31 (r_putF (pc := 33) X hini fd_RX5_21 ⟨_, _, _, rfl, rfl⟩ dX5_init_33 (r_aload_n (pc := 36) X dX5_init_36 rfl (r_iconst (pc := 37) X dX5_init_37 rfl (r_put (pc := 38) X fd_RX5_24 dX5_init_38 (r_aload_n (pc := 41) X dX5_init_41 rfl (r_iconst (pc := 42) X dX5_init_42 rfl (r_put (pc := 43) X fd_RX5_28 dX5_init_43 (r_aload_n (pc := 46) X dX5_init_46 rfl (r_sipush (pc := 47) X dX5_init_47 rfl (r_put (pc := 50) X fd_RX5_31 dX5_init_50 (r_aload_n (pc := 53) X dX5_init_53 rfl (r_get (pc := 54) X fd_RX5_9 dX5_init_54 (r_iconst (pc := 57) X dX5_init_57 rfl (r_cs (pc := 58) X md_RX5_34 ss_J7_fill_53178 h_J7_fill_53178 g_J7_fill_53178 dX5_init_58 (r_aload_n (pc := 61) X dX5_init_61 rfl (r_get (pc := 62) X fd_RX5_18 dX5_init_62 (r_iconst (pc := 65) X dX5_init_65 rfl (r_cs (pc := 66) X md_RX5_34 ss_J7_fill_53178 h_J7_fill_53178 g_J7_fill_53178 dX5_init_66 (r_vret (pc := 69) X XQ dX5_init_69))))))))))))))))))))))))))))))))))))
set_option maxRecDepth 20000 in
theorem m_X5_init {l : Launch} {rk mc ms : Nat} {sp : gSp} {p_J7_fill_53178 : gSp} {rk_J7_fill_53178 : Nat} (h_J7_fill_53178 : Con l yJ7_fill_53178 cJ7_fill_53178 4 none rk_J7_fill_53178 0 0 p_J7_fill_53178) (g_J7_fill_53178 : rk_J7_fill_53178 + 1 ≤ rk) (hrk : 1 ≤ rk) (vc : ∀ (as : List Value) (C0 : gC) (n0 z0 : Nat) (Q : gQ), sp as C0 n0 z0 Q → (lg_sl as).length ≤ 1 ∧ b_X5_init_0 p_J7_fill_53178 (n0 + mc) (z0 + ms) Q (gent as) [] C0 n0 z0) : Con l yX5_init cX5_init 1 none rk mc ms sp := by
  refine Con.of (by decide) fun x as C n z Q hl hR hnm X XQ hroom hsp => ?_
  obtain ⟨h0, h1⟩ := vc as C n z Q hsp
  exact ⟨h0, q_X5_init_0 X XQ hroom hnm (gDeep.one hR hrk) (hl ▸ h_J7_fill_53178) (gDeep.of hR g_J7_fill_53178 (by decide)) _ _ _ _ _ h1⟩
def b_X5_drawn_0 (Q : gQ) : gKo := (s_ald 0 (s_get 5 6 (s_ist 1 (s_ald 0 (s_ald 0 (s_get 5 6 (s_psh (.int 503) (s_ib (fun x y => x * y) (s_psh (.int 389) (s_ib (fun x y => x + y) (s_psh (.int 30691) (s_ibz (fun x y => x - x / y * y) (s_put 5 6 .int (s_ild 1 (s_iret .int Q)))))))))))))))
set_option maxRecDepth 20000 in
theorem q_X5_drawn_0 {x : gCx} {mc ms : Nat} {Q : gQ} (X : gX x cX5_drawn RX5 2) (XQ : gXQ x 2 (some .int) mc ms Q) : Snd x 2 0 (b_X5_drawn_0 Q) := by
  unfold b_X5_drawn_0
  exact (r_aload_n (pc := 0) X dX5_drawn_0 rfl (r_get (pc := 1) X fd_RX5_31 dX5_drawn_1 (r_istore_n (pc := 4) X dX5_drawn_4 rfl (by decide) (r_aload_n (pc := 5) X dX5_drawn_5 rfl (r_aload_n (pc := 6) X dX5_drawn_6 rfl (r_get (pc := 7) X fd_RX5_31 dX5_drawn_7 (r_sipush (pc := 10) X dX5_drawn_10 rfl (r_imul (pc := 13) X dX5_drawn_13 (r_sipush (pc := 14) X dX5_drawn_14 rfl (r_iadd (pc := 17) X dX5_drawn_17 (r_sipush (pc := 18) X dX5_drawn_18 rfl (r_irem (pc := 21) X dX5_drawn_21 (r_put (pc := 22) X fd_RX5_31 dX5_drawn_22 (r_iload_n (pc := 25) X dX5_drawn_25 rfl (r_iret (pc := 26) X XQ dX5_drawn_26)))))))))))))))
set_option maxRecDepth 20000 in
theorem m_X5_drawn {l : Launch} {rk : Nat} {sp : gSp}  (vc : ∀ (as : List Value) (C0 : gC) (n0 z0 : Nat) (Q : gQ), sp as C0 n0 z0 Q → (lg_sl as).length ≤ 2 ∧ b_X5_drawn_0 Q (gent as) [] C0 n0 z0) : Con l yX5_drawn cX5_drawn 2 (some .int) rk 0 0 sp := by
  refine Con.of (by decide) fun x as C n z Q hl hR hnm X XQ hroom hsp => ?_
  obtain ⟨h0, h1⟩ := vc as C n z Q hsp
  exact ⟨h0, q_X5_drawn_0 X XQ _ _ _ _ _ h1⟩
def b_X5_written_44 (Q : gQ) (k4 : gKo) : gKo := (s_inc 3 1 k4)
set_option maxRecDepth 20000 in
theorem q_X5_written_44 {x : gCx} {mc ms : Nat} {Q : gQ} {k4 : gKo} (X : gX x cX5_written RX5 4) (XQ : gXQ x 4 (some .int) mc ms Q) (hk4 : Snd x 4 4 k4) : Snd x 4 44 (b_X5_written_44 Q k4) := by
  unfold b_X5_written_44
  exact (r_iinc (pc := 44) X dX5_written_44 rfl (by decide) (r_goto (pc := 47) X dX5_written_47 rfl hk4))
def b_X5_written_31 (Q : gQ) (k4 : gKo) : gKo := (s_ild 2 (s_ald 0 (s_get 5 3 (s_psh (.int 4) (s_ild 3 (s_ib (fun x y => x * y) (s_psh (.int 3) (s_ib (fun x y => x + y) (s_iald (s_ib (fun x y => x + y) (s_ist 2 (b_X5_written_44 Q k4))))))))))))
set_option maxRecDepth 20000 in
theorem q_X5_written_31 {x : gCx} {mc ms : Nat} {Q : gQ} {k4 : gKo} (X : gX x cX5_written RX5 4) (XQ : gXQ x 4 (some .int) mc ms Q) (hk4 : Snd x 4 4 k4) : Snd x 4 31 (b_X5_written_31 Q k4) := by
  unfold b_X5_written_31
  exact (r_iload_n (pc := 31) X dX5_written_31 rfl (r_aload_n (pc := 32) X dX5_written_32 rfl (r_get (pc := 33) X fd_RX5_21 dX5_written_33 (r_iconst (pc := 36) X dX5_written_36 rfl (r_iload_n (pc := 37) X dX5_written_37 rfl (r_imul (pc := 38) X dX5_written_38 (r_iconst (pc := 39) X dX5_written_39 rfl (r_iadd (pc := 40) X dX5_written_40 (r_iald (pc := 41) X dX5_written_41 (r_iadd (pc := 42) X dX5_written_42 (r_istore_n (pc := 43) X dX5_written_43 rfl (by decide) (q_X5_written_44 X XQ hk4))))))))))))
def b_X5_written_4 (Q : gQ) (k4 : gKo) : gKo := (s_ild 3 (s_ald 0 (s_get 5 4 (s_if2 (fun x y => y ≤ x) (s_ild 2 (s_iret .int Q)) (s_ild 1 (s_psh (.int (-1)) (s_if2 (fun x y => x = y) (b_X5_written_31 Q k4) (s_ald 0 (s_get 5 3 (s_psh (.int 4) (s_ild 3 (s_ib (fun x y => x * y) (s_psh (.int 1) (s_ib (fun x y => x + y) (s_iald (s_ild 1 (s_if2 (fun x y => x = y) (b_X5_written_31 Q k4) (b_X5_written_44 Q k4))))))))))))))))))
set_option maxRecDepth 20000 in
theorem q_X5_written_4 {x : gCx} {mc ms : Nat} {Q : gQ} {k4 : gKo} (X : gX x cX5_written RX5 4) (XQ : gXQ x 4 (some .int) mc ms Q) (hk4 : Snd x 4 4 k4) : Snd x 4 4 (b_X5_written_4 Q k4) := by
  unfold b_X5_written_4
  exact (r_iload_n (pc := 4) X dX5_written_4 rfl (r_aload_n (pc := 5) X dX5_written_5 rfl (r_get (pc := 6) X fd_RX5_24 dX5_written_6 (r_icmp_ge (pc := 9) X dX5_written_9 rfl (r_iload_n (pc := 50) X dX5_written_50 rfl (r_iret (pc := 51) X XQ dX5_written_51)) (r_iload_n (pc := 12) X dX5_written_12 rfl (r_iconst (pc := 13) X dX5_written_13 rfl (r_icmp_eq (pc := 14) X dX5_written_14 rfl (q_X5_written_31 X XQ hk4) (r_aload_n (pc := 17) X dX5_written_17 rfl (r_get (pc := 18) X fd_RX5_21 dX5_written_18 (r_iconst (pc := 21) X dX5_written_21 rfl (r_iload_n (pc := 22) X dX5_written_22 rfl (r_imul (pc := 23) X dX5_written_23 (r_iconst (pc := 24) X dX5_written_24 rfl (r_iadd (pc := 25) X dX5_written_25 (r_iald (pc := 26) X dX5_written_26 (r_iload_n (pc := 27) X dX5_written_27 rfl (r_icmp_ne (pc := 28) X dX5_written_28 rfl (q_X5_written_44 X XQ hk4) (q_X5_written_31 X XQ hk4))))))))))))))))))
def b_X5_written_0 (Q : gQ) (k4 : gKo) : gKo := (s_psh (.int 0) (s_ist 2 (s_psh (.int 0) (s_ist 3 k4))))
set_option maxRecDepth 20000 in
theorem q_X5_written_0 {x : gCx} {mc ms : Nat} {Q : gQ} {k4 : gKo} (X : gX x cX5_written RX5 4) (XQ : gXQ x 4 (some .int) mc ms Q) (hk4 : Snd x 4 4 k4) : Snd x 4 0 (b_X5_written_0 Q k4) := by
  unfold b_X5_written_0
  exact (r_iconst (pc := 0) X dX5_written_0 rfl (r_istore_n (pc := 1) X dX5_written_1 rfl (by decide) (r_iconst (pc := 2) X dX5_written_2 rfl (r_istore_n (pc := 3) X dX5_written_3 rfl (by decide) hk4))))
set_option maxRecDepth 20000 in
theorem m_X5_written {l : Launch} {rk : Nat} {sp : gSp}  (vc : ∀ (as : List Value) (C0 : gC) (n0 z0 : Nat) (Q : gQ), sp as C0 n0 z0 Q → (lg_sl as).length ≤ 4 ∧ ∃ Inv : Nat → Nat → gKo, b_X5_written_0 Q (fun lv st C n z => ∃ μ, Inv 4 μ lv st C n z) (gent as) [] C0 n0 z0 ∧ (∀ (μ : Nat) (lv : gLv) (st : List Value) (C : gC) (n z : Nat), Inv 4 μ lv st C n z → b_X5_written_4 Q (fun lv st C n z => ∃ μ', μ' < μ ∧ Inv 4 μ' lv st C n z) lv st C n z)) : Con l yX5_written cX5_written 4 (some .int) rk 0 0 sp := by
  refine Con.of (by decide) fun x as C n z Q hl hR hnm X XQ hroom hsp => ?_
  obtain ⟨h0, Inv, h1, i4⟩ := vc as C n z Q hsp
  have key : ∀ μ : Nat, Snd x 4 4 (Inv 4 μ) := by
    intro μ
    induction μ using Nat.strongRecOn with
    | ind μ ih =>
      exact fun lv st C n z hi => q_X5_written_4 X XQ (fun lv st C n z ⟨μ', hm, hi⟩ => (ih μ' hm) lv st C n z hi) lv st C n z (i4 μ lv st C n z hi)
  exact ⟨h0, q_X5_written_0 X XQ (fun lv st C n z ⟨μ', hi⟩ => (key μ') lv st C n z hi) _ _ _ _ _ h1⟩
def b_X5_kindAt_0 (p_J9_floorMod_7cf53 : gSp) (Q : gQ) : gKo := (s_ald 0 (s_get 5 0 (s_ild 1 (s_psh (.int 30) (s_cs 2 p_J9_floorMod_7cf53 (s_iald (s_iret .int Q)))))))
set_option maxRecDepth 20000 in
theorem q_X5_kindAt_0 {x : gCx} {mc ms : Nat} {p_J9_floorMod_7cf53 : gSp} {Q : gQ} (X : gX x cX5_kindAt RX5 2) (XQ : gXQ x 2 (some .int) mc ms Q) {rk_J9_floorMod_7cf53 : Nat} (h_J9_floorMod_7cf53 : Con x.2.1 yJ9_floorMod_7cf53 cJ9_floorMod_7cf53 3 (some .int) rk_J9_floorMod_7cf53 0 0 p_J9_floorMod_7cf53) (g_J9_floorMod_7cf53 : gDeep x rk_J9_floorMod_7cf53 3) : Snd x 2 0 (b_X5_kindAt_0 p_J9_floorMod_7cf53 Q) := by
  unfold b_X5_kindAt_0
  exact (r_aload_n (pc := 0) X dX5_kindAt_0 rfl (r_get (pc := 1) X fd_RX5_9 dX5_kindAt_1 (r_iload_n (pc := 4) X dX5_kindAt_4 rfl (r_bipush (pc := 5) X dX5_kindAt_5 rfl (r_cs (pc := 7) X md_RX5_46 ss_J9_floorMod_7cf53 h_J9_floorMod_7cf53 g_J9_floorMod_7cf53 dX5_kindAt_7 (r_iald (pc := 10) X dX5_kindAt_10 (r_iret (pc := 11) X XQ dX5_kindAt_11)))))))
set_option maxRecDepth 20000 in
theorem m_X5_kindAt {l : Launch} {rk : Nat} {sp : gSp} {p_J9_floorMod_7cf53 : gSp} {rk_J9_floorMod_7cf53 : Nat} (h_J9_floorMod_7cf53 : Con l yJ9_floorMod_7cf53 cJ9_floorMod_7cf53 3 (some .int) rk_J9_floorMod_7cf53 0 0 p_J9_floorMod_7cf53) (g_J9_floorMod_7cf53 : rk_J9_floorMod_7cf53 + 1 ≤ rk) (vc : ∀ (as : List Value) (C0 : gC) (n0 z0 : Nat) (Q : gQ), sp as C0 n0 z0 Q → (lg_sl as).length ≤ 2 ∧ b_X5_kindAt_0 p_J9_floorMod_7cf53 Q (gent as) [] C0 n0 z0) : Con l yX5_kindAt cX5_kindAt 2 (some .int) rk 0 0 sp := by
  refine Con.of (by decide) fun x as C n z Q hl hR hnm X XQ hroom hsp => ?_
  obtain ⟨h0, h1⟩ := vc as C n z Q hsp
  exact ⟨h0, q_X5_kindAt_0 X XQ (hl ▸ h_J9_floorMod_7cf53) (gDeep.of hR g_J9_floorMod_7cf53 (by decide)) _ _ _ _ _ h1⟩
def b_X5_barsFrom_26 (p_X5_kindAt : gSp) (Q : gQ) (k5 : gKo) : gKo := (s_inc 4 1 k5)
set_option maxRecDepth 20000 in
theorem q_X5_barsFrom_26 {x : gCx} {mc ms : Nat} {p_X5_kindAt : gSp} {Q : gQ} {k5 : gKo} (X : gX x cX5_barsFrom RX5 5) (XQ : gXQ x 5 (some .int) mc ms Q) {rk_X5_kindAt : Nat} (h_X5_kindAt : Con x.2.1 yX5_kindAt cX5_kindAt 2 (some .int) rk_X5_kindAt 0 0 p_X5_kindAt) (g_X5_kindAt : gDeep x rk_X5_kindAt 2) (hk5 : Snd x 5 5 k5) : Snd x 5 26 (b_X5_barsFrom_26 p_X5_kindAt Q k5) := by
  unfold b_X5_barsFrom_26
  exact (r_iinc (pc := 26) X dX5_barsFrom_26 rfl (by decide) (r_goto (pc := 29) X dX5_barsFrom_29 rfl hk5))
def b_X5_barsFrom_5 (p_X5_kindAt : gSp) (Q : gQ) (k5 : gKo) : gKo := (s_ild 4 (s_ild 2 (s_if2 (fun x y => y ≤ x) (s_ild 3 (s_iret .int Q)) (s_ald 0 (s_ild 1 (s_ild 4 (s_ib (fun x y => x + y) (s_cv 5 1 p_X5_kindAt (s_psh (.int 1) (s_if2 (fun x y => x = y) (s_inc 3 1 (b_X5_barsFrom_26 p_X5_kindAt Q k5)) (b_X5_barsFrom_26 p_X5_kindAt Q k5)))))))))))
set_option maxRecDepth 20000 in
theorem q_X5_barsFrom_5 {x : gCx} {mc ms : Nat} {p_X5_kindAt : gSp} {Q : gQ} {k5 : gKo} (X : gX x cX5_barsFrom RX5 5) (XQ : gXQ x 5 (some .int) mc ms Q) {rk_X5_kindAt : Nat} (h_X5_kindAt : Con x.2.1 yX5_kindAt cX5_kindAt 2 (some .int) rk_X5_kindAt 0 0 p_X5_kindAt) (g_X5_kindAt : gDeep x rk_X5_kindAt 2) (hk5 : Snd x 5 5 k5) : Snd x 5 5 (b_X5_barsFrom_5 p_X5_kindAt Q k5) := by
  unfold b_X5_barsFrom_5
  exact (r_iload (pc := 5) X dX5_barsFrom_5 (r_iload_n (pc := 7) X dX5_barsFrom_7 rfl (r_icmp_ge (pc := 8) X dX5_barsFrom_8 rfl (r_iload_n (pc := 32) X dX5_barsFrom_32 rfl (r_iret (pc := 33) X XQ dX5_barsFrom_33)) (r_aload_n (pc := 11) X dX5_barsFrom_11 rfl (r_iload_n (pc := 12) X dX5_barsFrom_12 rfl (r_iload (pc := 13) X dX5_barsFrom_13 (r_iadd (pc := 15) X dX5_barsFrom_15 (r_cv (pc := 16) X md_RX5_52 (T := TX5) (N := 7) rfl im_X5_kindAt se_X5_kindAt h_X5_kindAt g_X5_kindAt dX5_barsFrom_16 (r_iconst (pc := 19) X dX5_barsFrom_19 rfl (r_icmp_ne (pc := 20) X dX5_barsFrom_20 rfl (q_X5_barsFrom_26 X XQ h_X5_kindAt g_X5_kindAt hk5) (r_iinc (pc := 23) X dX5_barsFrom_23 rfl (by decide) (q_X5_barsFrom_26 X XQ h_X5_kindAt g_X5_kindAt hk5))))))))))))
def b_X5_barsFrom_0 (p_X5_kindAt : gSp) (Q : gQ) (k5 : gKo) : gKo := (s_psh (.int 0) (s_ist 3 (s_psh (.int 0) (s_ist 4 k5))))
set_option maxRecDepth 20000 in
theorem q_X5_barsFrom_0 {x : gCx} {mc ms : Nat} {p_X5_kindAt : gSp} {Q : gQ} {k5 : gKo} (X : gX x cX5_barsFrom RX5 5) (XQ : gXQ x 5 (some .int) mc ms Q) {rk_X5_kindAt : Nat} (h_X5_kindAt : Con x.2.1 yX5_kindAt cX5_kindAt 2 (some .int) rk_X5_kindAt 0 0 p_X5_kindAt) (g_X5_kindAt : gDeep x rk_X5_kindAt 2) (hk5 : Snd x 5 5 k5) : Snd x 5 0 (b_X5_barsFrom_0 p_X5_kindAt Q k5) := by
  unfold b_X5_barsFrom_0
  exact (r_iconst (pc := 0) X dX5_barsFrom_0 rfl (r_istore_n (pc := 1) X dX5_barsFrom_1 rfl (by decide) (r_iconst (pc := 2) X dX5_barsFrom_2 rfl (r_istore (pc := 3) X dX5_barsFrom_3 (by decide) hk5))))
set_option maxRecDepth 20000 in
theorem m_X5_barsFrom {l : Launch} {rk : Nat} {sp : gSp} {p_X5_kindAt : gSp} {rk_X5_kindAt : Nat} (h_X5_kindAt : Con l yX5_kindAt cX5_kindAt 2 (some .int) rk_X5_kindAt 0 0 p_X5_kindAt) (g_X5_kindAt : rk_X5_kindAt + 1 ≤ rk) (vc : ∀ (as : List Value) (C0 : gC) (n0 z0 : Nat) (Q : gQ), sp as C0 n0 z0 Q → (lg_sl as).length ≤ 5 ∧ ∃ Inv : Nat → Nat → gKo, b_X5_barsFrom_0 p_X5_kindAt Q (fun lv st C n z => ∃ μ, Inv 5 μ lv st C n z) (gent as) [] C0 n0 z0 ∧ (∀ (μ : Nat) (lv : gLv) (st : List Value) (C : gC) (n z : Nat), Inv 5 μ lv st C n z → b_X5_barsFrom_5 p_X5_kindAt Q (fun lv st C n z => ∃ μ', μ' < μ ∧ Inv 5 μ' lv st C n z) lv st C n z)) : Con l yX5_barsFrom cX5_barsFrom 5 (some .int) rk 0 0 sp := by
  refine Con.of (by decide) fun x as C n z Q hl hR hnm X XQ hroom hsp => ?_
  obtain ⟨h0, Inv, h1, i5⟩ := vc as C n z Q hsp
  have key : ∀ μ : Nat, Snd x 5 5 (Inv 5 μ) := by
    intro μ
    induction μ using Nat.strongRecOn with
    | ind μ ih =>
      exact fun lv st C n z hi => q_X5_barsFrom_5 X XQ (hl ▸ h_X5_kindAt) (gDeep.of hR g_X5_kindAt (by decide)) (fun lv st C n z ⟨μ', hm, hi⟩ => (ih μ' hm) lv st C n z hi) lv st C n z (i5 μ lv st C n z hi)
  exact ⟨h0, q_X5_barsFrom_0 X XQ (hl ▸ h_X5_kindAt) (gDeep.of hR g_X5_kindAt (by decide)) (fun lv st C n z ⟨μ', hi⟩ => (key μ') lv st C n z hi) _ _ _ _ _ h1⟩
def b_X5_barMet_39 (p_X5_kindAt : gSp) (Q : gQ) (k5 : gKo) : gKo := (s_ild 3 (s_ild 2 (s_if2 (fun x y => x = y) (s_ild 1 (s_ild 4 (s_ib (fun x y => x + y) (s_psh (.int 30) (s_ibz (fun x y => x - x / y * y) (s_iret .int Q)))))) (s_inc 4 1 k5))))
set_option maxRecDepth 20000 in
theorem q_X5_barMet_39 {x : gCx} {mc ms : Nat} {p_X5_kindAt : gSp} {Q : gQ} {k5 : gKo} (X : gX x cX5_barMet RX5 6) (XQ : gXQ x 6 (some .int) mc ms Q) {rk_X5_kindAt : Nat} (h_X5_kindAt : Con x.2.1 yX5_kindAt cX5_kindAt 2 (some .int) rk_X5_kindAt 0 0 p_X5_kindAt) (g_X5_kindAt : gDeep x rk_X5_kindAt 2) (hk5 : Snd x 6 5 k5) : Snd x 6 39 (b_X5_barMet_39 p_X5_kindAt Q k5) := by
  unfold b_X5_barMet_39
  exact (r_iload_n (pc := 39) X dX5_barMet_39 rfl (r_iload_n (pc := 40) X dX5_barMet_40 rfl (r_icmp_ne (pc := 41) X dX5_barMet_41 rfl (r_iinc (pc := 52) X dX5_barMet_52 rfl (by decide) (r_goto (pc := 55) X dX5_barMet_55 rfl hk5)) (r_iload_n (pc := 44) X dX5_barMet_44 rfl (r_iload (pc := 45) X dX5_barMet_45 (r_iadd (pc := 47) X dX5_barMet_47 (r_bipush (pc := 48) X dX5_barMet_48 rfl (r_irem (pc := 50) X dX5_barMet_50 (r_iret (pc := 51) X XQ dX5_barMet_51)))))))))
def b_X5_barMet_5 (p_X5_kindAt : gSp) (Q : gQ) (k5 : gKo) : gKo := (s_ild 4 (s_psh (.int 60) (s_if2 (fun x y => y ≤ x) (s_psh (.int (-1)) (s_iret .int Q)) (s_ald 0 (s_ild 1 (s_ild 4 (s_ib (fun x y => x + y) (s_cv 5 1 p_X5_kindAt (s_ist 5 (s_ild 5 (s_psh (.int 3) (s_if2 (fun x y => x = y) (s_psh (.int (-1)) (s_iret .int Q)) (s_ild 5 (s_psh (.int 1) (s_if2 (fun x y => x = y) (s_inc 3 1 (b_X5_barMet_39 p_X5_kindAt Q k5)) (b_X5_barMet_39 p_X5_kindAt Q k5))))))))))))))))
set_option maxRecDepth 20000 in
theorem q_X5_barMet_5 {x : gCx} {mc ms : Nat} {p_X5_kindAt : gSp} {Q : gQ} {k5 : gKo} (X : gX x cX5_barMet RX5 6) (XQ : gXQ x 6 (some .int) mc ms Q) {rk_X5_kindAt : Nat} (h_X5_kindAt : Con x.2.1 yX5_kindAt cX5_kindAt 2 (some .int) rk_X5_kindAt 0 0 p_X5_kindAt) (g_X5_kindAt : gDeep x rk_X5_kindAt 2) (hk5 : Snd x 6 5 k5) : Snd x 6 5 (b_X5_barMet_5 p_X5_kindAt Q k5) := by
  unfold b_X5_barMet_5
  exact (r_iload (pc := 5) X dX5_barMet_5 (r_bipush (pc := 7) X dX5_barMet_7 rfl (r_icmp_ge (pc := 9) X dX5_barMet_9 rfl (r_iconst (pc := 58) X dX5_barMet_58 rfl (r_iret (pc := 59) X XQ dX5_barMet_59)) (r_aload_n (pc := 12) X dX5_barMet_12 rfl (r_iload_n (pc := 13) X dX5_barMet_13 rfl (r_iload (pc := 14) X dX5_barMet_14 (r_iadd (pc := 16) X dX5_barMet_16 (r_cv (pc := 17) X md_RX5_52 (T := TX5) (N := 7) rfl im_X5_kindAt se_X5_kindAt h_X5_kindAt g_X5_kindAt dX5_barMet_17 (r_istore (pc := 20) X dX5_barMet_20 (by decide) (r_iload (pc := 22) X dX5_barMet_22 (r_iconst (pc := 24) X dX5_barMet_24 rfl (r_icmp_ne (pc := 25) X dX5_barMet_25 rfl (r_iload (pc := 30) X dX5_barMet_30 (r_iconst (pc := 32) X dX5_barMet_32 rfl (r_icmp_ne (pc := 33) X dX5_barMet_33 rfl (q_X5_barMet_39 X XQ h_X5_kindAt g_X5_kindAt hk5) (r_iinc (pc := 36) X dX5_barMet_36 rfl (by decide) (q_X5_barMet_39 X XQ h_X5_kindAt g_X5_kindAt hk5))))) (r_iconst (pc := 28) X dX5_barMet_28 rfl (r_iret (pc := 29) X XQ dX5_barMet_29))))))))))))))
def b_X5_barMet_0 (p_X5_kindAt : gSp) (Q : gQ) (k5 : gKo) : gKo := (s_psh (.int 0) (s_ist 3 (s_psh (.int 0) (s_ist 4 k5))))
set_option maxRecDepth 20000 in
theorem q_X5_barMet_0 {x : gCx} {mc ms : Nat} {p_X5_kindAt : gSp} {Q : gQ} {k5 : gKo} (X : gX x cX5_barMet RX5 6) (XQ : gXQ x 6 (some .int) mc ms Q) {rk_X5_kindAt : Nat} (h_X5_kindAt : Con x.2.1 yX5_kindAt cX5_kindAt 2 (some .int) rk_X5_kindAt 0 0 p_X5_kindAt) (g_X5_kindAt : gDeep x rk_X5_kindAt 2) (hk5 : Snd x 6 5 k5) : Snd x 6 0 (b_X5_barMet_0 p_X5_kindAt Q k5) := by
  unfold b_X5_barMet_0
  exact (r_iconst (pc := 0) X dX5_barMet_0 rfl (r_istore_n (pc := 1) X dX5_barMet_1 rfl (by decide) (r_iconst (pc := 2) X dX5_barMet_2 rfl (r_istore (pc := 3) X dX5_barMet_3 (by decide) hk5))))
set_option maxRecDepth 20000 in
theorem m_X5_barMet {l : Launch} {rk : Nat} {sp : gSp} {p_X5_kindAt : gSp} {rk_X5_kindAt : Nat} (h_X5_kindAt : Con l yX5_kindAt cX5_kindAt 2 (some .int) rk_X5_kindAt 0 0 p_X5_kindAt) (g_X5_kindAt : rk_X5_kindAt + 1 ≤ rk) (vc : ∀ (as : List Value) (C0 : gC) (n0 z0 : Nat) (Q : gQ), sp as C0 n0 z0 Q → (lg_sl as).length ≤ 6 ∧ ∃ Inv : Nat → Nat → gKo, b_X5_barMet_0 p_X5_kindAt Q (fun lv st C n z => ∃ μ, Inv 5 μ lv st C n z) (gent as) [] C0 n0 z0 ∧ (∀ (μ : Nat) (lv : gLv) (st : List Value) (C : gC) (n z : Nat), Inv 5 μ lv st C n z → b_X5_barMet_5 p_X5_kindAt Q (fun lv st C n z => ∃ μ', μ' < μ ∧ Inv 5 μ' lv st C n z) lv st C n z)) : Con l yX5_barMet cX5_barMet 6 (some .int) rk 0 0 sp := by
  refine Con.of (by decide) fun x as C n z Q hl hR hnm X XQ hroom hsp => ?_
  obtain ⟨h0, Inv, h1, i5⟩ := vc as C n z Q hsp
  have key : ∀ μ : Nat, Snd x 6 5 (Inv 5 μ) := by
    intro μ
    induction μ using Nat.strongRecOn with
    | ind μ ih =>
      exact fun lv st C n z hi => q_X5_barMet_5 X XQ (hl ▸ h_X5_kindAt) (gDeep.of hR g_X5_kindAt (by decide)) (fun lv st C n z ⟨μ', hm, hi⟩ => (ih μ' hm) lv st C n z hi) lv st C n z (i5 μ lv st C n z hi)
  exact ⟨h0, q_X5_barMet_0 X XQ (hl ▸ h_X5_kindAt) (gDeep.of hR g_X5_kindAt (by decide)) (fun lv st C n z ⟨μ', hi⟩ => (key μ') lv st C n z hi) _ _ _ _ _ h1⟩
def b_X5_likeFrom_25 (p_X5_kindAt : gSp) (Q : gQ) (k2 : gKo) : gKo := (s_ild 3 (s_iret .int Q))
set_option maxRecDepth 20000 in
theorem q_X5_likeFrom_25 {x : gCx} {mc ms : Nat} {p_X5_kindAt : gSp} {Q : gQ} {k2 : gKo} (X : gX x cX5_likeFrom RX5 4) (XQ : gXQ x 4 (some .int) mc ms Q) {rk_X5_kindAt : Nat} (h_X5_kindAt : Con x.2.1 yX5_kindAt cX5_kindAt 2 (some .int) rk_X5_kindAt 0 0 p_X5_kindAt) (g_X5_kindAt : gDeep x rk_X5_kindAt 2) (hk2 : Snd x 4 2 k2) : Snd x 4 25 (b_X5_likeFrom_25 p_X5_kindAt Q k2) := by
  unfold b_X5_likeFrom_25
  exact (r_iload_n (pc := 25) X dX5_likeFrom_25 rfl (r_iret (pc := 26) X XQ dX5_likeFrom_26))
def b_X5_likeFrom_2 (p_X5_kindAt : gSp) (Q : gQ) (k2 : gKo) : gKo := (s_ild 3 (s_psh (.int 30) (s_if2 (fun x y => y ≤ x) (b_X5_likeFrom_25 p_X5_kindAt Q k2) (s_ald 0 (s_ild 1 (s_ild 3 (s_ib (fun x y => x + y) (s_cv 5 1 p_X5_kindAt (s_ild 2 (s_if2 (fun x y => x = y) (s_inc 3 1 k2) (b_X5_likeFrom_25 p_X5_kindAt Q k2)))))))))))
set_option maxRecDepth 20000 in
theorem q_X5_likeFrom_2 {x : gCx} {mc ms : Nat} {p_X5_kindAt : gSp} {Q : gQ} {k2 : gKo} (X : gX x cX5_likeFrom RX5 4) (XQ : gXQ x 4 (some .int) mc ms Q) {rk_X5_kindAt : Nat} (h_X5_kindAt : Con x.2.1 yX5_kindAt cX5_kindAt 2 (some .int) rk_X5_kindAt 0 0 p_X5_kindAt) (g_X5_kindAt : gDeep x rk_X5_kindAt 2) (hk2 : Snd x 4 2 k2) : Snd x 4 2 (b_X5_likeFrom_2 p_X5_kindAt Q k2) := by
  unfold b_X5_likeFrom_2
  exact (r_iload_n (pc := 2) X dX5_likeFrom_2 rfl (r_bipush (pc := 3) X dX5_likeFrom_3 rfl (r_icmp_ge (pc := 5) X dX5_likeFrom_5 rfl (q_X5_likeFrom_25 X XQ h_X5_kindAt g_X5_kindAt hk2) (r_aload_n (pc := 8) X dX5_likeFrom_8 rfl (r_iload_n (pc := 9) X dX5_likeFrom_9 rfl (r_iload_n (pc := 10) X dX5_likeFrom_10 rfl (r_iadd (pc := 11) X dX5_likeFrom_11 (r_cv (pc := 12) X md_RX5_52 (T := TX5) (N := 7) rfl im_X5_kindAt se_X5_kindAt h_X5_kindAt g_X5_kindAt dX5_likeFrom_12 (r_iload_n (pc := 15) X dX5_likeFrom_15 rfl (r_icmp_ne (pc := 16) X dX5_likeFrom_16 rfl (q_X5_likeFrom_25 X XQ h_X5_kindAt g_X5_kindAt hk2) (r_iinc (pc := 19) X dX5_likeFrom_19 rfl (by decide) (r_goto (pc := 22) X dX5_likeFrom_22 rfl hk2))))))))))))
def b_X5_likeFrom_0 (p_X5_kindAt : gSp) (Q : gQ) (k2 : gKo) : gKo := (s_psh (.int 0) (s_ist 3 k2))
set_option maxRecDepth 20000 in
theorem q_X5_likeFrom_0 {x : gCx} {mc ms : Nat} {p_X5_kindAt : gSp} {Q : gQ} {k2 : gKo} (X : gX x cX5_likeFrom RX5 4) (XQ : gXQ x 4 (some .int) mc ms Q) {rk_X5_kindAt : Nat} (h_X5_kindAt : Con x.2.1 yX5_kindAt cX5_kindAt 2 (some .int) rk_X5_kindAt 0 0 p_X5_kindAt) (g_X5_kindAt : gDeep x rk_X5_kindAt 2) (hk2 : Snd x 4 2 k2) : Snd x 4 0 (b_X5_likeFrom_0 p_X5_kindAt Q k2) := by
  unfold b_X5_likeFrom_0
  exact (r_iconst (pc := 0) X dX5_likeFrom_0 rfl (r_istore_n (pc := 1) X dX5_likeFrom_1 rfl (by decide) hk2))
set_option maxRecDepth 20000 in
theorem m_X5_likeFrom {l : Launch} {rk : Nat} {sp : gSp} {p_X5_kindAt : gSp} {rk_X5_kindAt : Nat} (h_X5_kindAt : Con l yX5_kindAt cX5_kindAt 2 (some .int) rk_X5_kindAt 0 0 p_X5_kindAt) (g_X5_kindAt : rk_X5_kindAt + 1 ≤ rk) (vc : ∀ (as : List Value) (C0 : gC) (n0 z0 : Nat) (Q : gQ), sp as C0 n0 z0 Q → (lg_sl as).length ≤ 4 ∧ ∃ Inv : Nat → Nat → gKo, b_X5_likeFrom_0 p_X5_kindAt Q (fun lv st C n z => ∃ μ, Inv 2 μ lv st C n z) (gent as) [] C0 n0 z0 ∧ (∀ (μ : Nat) (lv : gLv) (st : List Value) (C : gC) (n z : Nat), Inv 2 μ lv st C n z → b_X5_likeFrom_2 p_X5_kindAt Q (fun lv st C n z => ∃ μ', μ' < μ ∧ Inv 2 μ' lv st C n z) lv st C n z)) : Con l yX5_likeFrom cX5_likeFrom 4 (some .int) rk 0 0 sp := by
  refine Con.of (by decide) fun x as C n z Q hl hR hnm X XQ hroom hsp => ?_
  obtain ⟨h0, Inv, h1, i2⟩ := vc as C n z Q hsp
  have key : ∀ μ : Nat, Snd x 4 2 (Inv 2 μ) := by
    intro μ
    induction μ using Nat.strongRecOn with
    | ind μ ih =>
      exact fun lv st C n z hi => q_X5_likeFrom_2 X XQ (hl ▸ h_X5_kindAt) (gDeep.of hR g_X5_kindAt (by decide)) (fun lv st C n z ⟨μ', hm, hi⟩ => (ih μ' hm) lv st C n z hi) lv st C n z (i2 μ lv st C n z hi)
  exact ⟨h0, q_X5_likeFrom_0 X XQ (hl ▸ h_X5_kindAt) (gDeep.of hR g_X5_kindAt (by decide)) (fun lv st C n z ⟨μ', hi⟩ => (key μ') lv st C n z hi) _ _ _ _ _ h1⟩
def b_X5_leastLikeTurn_2 (p_X5_compareReadings : gSp) (Q : gQ) (k2 : gKo) : gKo := (s_ild 1 (s_psh (.int 30) (s_if2 (fun x y => y ≤ x) (s_psh (.int 30) (s_iret .int Q)) (s_ald 0 (s_psh (.int 0) (s_ild 1 (s_cv 5 2 p_X5_compareReadings (s_if1 (fun x => x = 0) (s_ild 1 (s_iret .int Q)) (s_inc 1 1 k2)))))))))
set_option maxRecDepth 20000 in
theorem q_X5_leastLikeTurn_2 {x : gCx} {mc ms : Nat} {p_X5_compareReadings : gSp} {Q : gQ} {k2 : gKo} (X : gX x cX5_leastLikeTurn RX5 2) (XQ : gXQ x 2 (some .int) mc ms Q) {rk_X5_compareReadings : Nat} (h_X5_compareReadings : Con x.2.1 yX5_compareReadings cX5_compareReadings 5 (some .int) rk_X5_compareReadings 0 0 p_X5_compareReadings) (g_X5_compareReadings : gDeep x rk_X5_compareReadings 5) (hk2 : Snd x 2 2 k2) : Snd x 2 2 (b_X5_leastLikeTurn_2 p_X5_compareReadings Q k2) := by
  unfold b_X5_leastLikeTurn_2
  exact (r_iload_n (pc := 2) X dX5_leastLikeTurn_2 rfl (r_bipush (pc := 3) X dX5_leastLikeTurn_3 rfl (r_icmp_ge (pc := 5) X dX5_leastLikeTurn_5 rfl (r_bipush (pc := 25) X dX5_leastLikeTurn_25 rfl (r_iret (pc := 27) X XQ dX5_leastLikeTurn_27)) (r_aload_n (pc := 8) X dX5_leastLikeTurn_8 rfl (r_iconst (pc := 9) X dX5_leastLikeTurn_9 rfl (r_iload_n (pc := 10) X dX5_leastLikeTurn_10 rfl (r_cv (pc := 11) X md_RX5_56 (T := TX5) (N := 7) rfl im_X5_compareReadings se_X5_compareReadings h_X5_compareReadings g_X5_compareReadings dX5_leastLikeTurn_11 (r_if_ne (pc := 14) X dX5_leastLikeTurn_14 rfl (r_iinc (pc := 19) X dX5_leastLikeTurn_19 rfl (by decide) (r_goto (pc := 22) X dX5_leastLikeTurn_22 rfl hk2)) (r_iload_n (pc := 17) X dX5_leastLikeTurn_17 rfl (r_iret (pc := 18) X XQ dX5_leastLikeTurn_18))))))))))
def b_X5_leastLikeTurn_0 (p_X5_compareReadings : gSp) (Q : gQ) (k2 : gKo) : gKo := (s_psh (.int 1) (s_ist 1 k2))
set_option maxRecDepth 20000 in
theorem q_X5_leastLikeTurn_0 {x : gCx} {mc ms : Nat} {p_X5_compareReadings : gSp} {Q : gQ} {k2 : gKo} (X : gX x cX5_leastLikeTurn RX5 2) (XQ : gXQ x 2 (some .int) mc ms Q) {rk_X5_compareReadings : Nat} (h_X5_compareReadings : Con x.2.1 yX5_compareReadings cX5_compareReadings 5 (some .int) rk_X5_compareReadings 0 0 p_X5_compareReadings) (g_X5_compareReadings : gDeep x rk_X5_compareReadings 5) (hk2 : Snd x 2 2 k2) : Snd x 2 0 (b_X5_leastLikeTurn_0 p_X5_compareReadings Q k2) := by
  unfold b_X5_leastLikeTurn_0
  exact (r_iconst (pc := 0) X dX5_leastLikeTurn_0 rfl (r_istore_n (pc := 1) X dX5_leastLikeTurn_1 rfl (by decide) hk2))
set_option maxRecDepth 20000 in
theorem m_X5_leastLikeTurn {l : Launch} {rk : Nat} {sp : gSp} {p_X5_compareReadings : gSp} {rk_X5_compareReadings : Nat} (h_X5_compareReadings : Con l yX5_compareReadings cX5_compareReadings 5 (some .int) rk_X5_compareReadings 0 0 p_X5_compareReadings) (g_X5_compareReadings : rk_X5_compareReadings + 1 ≤ rk) (vc : ∀ (as : List Value) (C0 : gC) (n0 z0 : Nat) (Q : gQ), sp as C0 n0 z0 Q → (lg_sl as).length ≤ 2 ∧ ∃ Inv : Nat → Nat → gKo, b_X5_leastLikeTurn_0 p_X5_compareReadings Q (fun lv st C n z => ∃ μ, Inv 2 μ lv st C n z) (gent as) [] C0 n0 z0 ∧ (∀ (μ : Nat) (lv : gLv) (st : List Value) (C : gC) (n z : Nat), Inv 2 μ lv st C n z → b_X5_leastLikeTurn_2 p_X5_compareReadings Q (fun lv st C n z => ∃ μ', μ' < μ ∧ Inv 2 μ' lv st C n z) lv st C n z)) : Con l yX5_leastLikeTurn cX5_leastLikeTurn 2 (some .int) rk 0 0 sp := by
  refine Con.of (by decide) fun x as C n z Q hl hR hnm X XQ hroom hsp => ?_
  obtain ⟨h0, Inv, h1, i2⟩ := vc as C n z Q hsp
  have key : ∀ μ : Nat, Snd x 2 2 (Inv 2 μ) := by
    intro μ
    induction μ using Nat.strongRecOn with
    | ind μ ih =>
      exact fun lv st C n z hi => q_X5_leastLikeTurn_2 X XQ (hl ▸ h_X5_compareReadings) (gDeep.of hR g_X5_compareReadings (by decide)) (fun lv st C n z ⟨μ', hm, hi⟩ => (ih μ' hm) lv st C n z hi) lv st C n z (i2 μ lv st C n z hi)
  exact ⟨h0, q_X5_leastLikeTurn_0 X XQ (hl ▸ h_X5_compareReadings) (gDeep.of hR g_X5_compareReadings (by decide)) (fun lv st C n z ⟨μ', hi⟩ => (key μ') lv st C n z hi) _ _ _ _ _ h1⟩
def b_X5_leastReading_21 (p_X5_compareReadings : gSp) (Q : gQ) (k4 : gKo) : gKo := (s_inc 2 1 k4)
set_option maxRecDepth 20000 in
theorem q_X5_leastReading_21 {x : gCx} {mc ms : Nat} {p_X5_compareReadings : gSp} {Q : gQ} {k4 : gKo} (X : gX x cX5_leastReading RX5 3) (XQ : gXQ x 3 (some .int) mc ms Q) {rk_X5_compareReadings : Nat} (h_X5_compareReadings : Con x.2.1 yX5_compareReadings cX5_compareReadings 5 (some .int) rk_X5_compareReadings 0 0 p_X5_compareReadings) (g_X5_compareReadings : gDeep x rk_X5_compareReadings 5) (hk4 : Snd x 3 4 k4) : Snd x 3 21 (b_X5_leastReading_21 p_X5_compareReadings Q k4) := by
  unfold b_X5_leastReading_21
  exact (r_iinc (pc := 21) X dX5_leastReading_21 rfl (by decide) (r_goto (pc := 24) X dX5_leastReading_24 rfl hk4))
def b_X5_leastReading_4 (p_X5_compareReadings : gSp) (Q : gQ) (k4 : gKo) : gKo := (s_ild 2 (s_psh (.int 30) (s_if2 (fun x y => y ≤ x) (s_ild 1 (s_iret .int Q)) (s_ald 0 (s_ild 2 (s_ild 1 (s_cv 5 2 p_X5_compareReadings (s_if1 (fun x => 0 ≤ x) (b_X5_leastReading_21 p_X5_compareReadings Q k4) (s_ild 2 (s_ist 1 (b_X5_leastReading_21 p_X5_compareReadings Q k4)))))))))))
set_option maxRecDepth 20000 in
theorem q_X5_leastReading_4 {x : gCx} {mc ms : Nat} {p_X5_compareReadings : gSp} {Q : gQ} {k4 : gKo} (X : gX x cX5_leastReading RX5 3) (XQ : gXQ x 3 (some .int) mc ms Q) {rk_X5_compareReadings : Nat} (h_X5_compareReadings : Con x.2.1 yX5_compareReadings cX5_compareReadings 5 (some .int) rk_X5_compareReadings 0 0 p_X5_compareReadings) (g_X5_compareReadings : gDeep x rk_X5_compareReadings 5) (hk4 : Snd x 3 4 k4) : Snd x 3 4 (b_X5_leastReading_4 p_X5_compareReadings Q k4) := by
  unfold b_X5_leastReading_4
  exact (r_iload_n (pc := 4) X dX5_leastReading_4 rfl (r_bipush (pc := 5) X dX5_leastReading_5 rfl (r_icmp_ge (pc := 7) X dX5_leastReading_7 rfl (r_iload_n (pc := 27) X dX5_leastReading_27 rfl (r_iret (pc := 28) X XQ dX5_leastReading_28)) (r_aload_n (pc := 10) X dX5_leastReading_10 rfl (r_iload_n (pc := 11) X dX5_leastReading_11 rfl (r_iload_n (pc := 12) X dX5_leastReading_12 rfl (r_cv (pc := 13) X md_RX5_56 (T := TX5) (N := 7) rfl im_X5_compareReadings se_X5_compareReadings h_X5_compareReadings g_X5_compareReadings dX5_leastReading_13 (r_if_ge (pc := 16) X dX5_leastReading_16 rfl (q_X5_leastReading_21 X XQ h_X5_compareReadings g_X5_compareReadings hk4) (r_iload_n (pc := 19) X dX5_leastReading_19 rfl (r_istore_n (pc := 20) X dX5_leastReading_20 rfl (by decide) (q_X5_leastReading_21 X XQ h_X5_compareReadings g_X5_compareReadings hk4)))))))))))
def b_X5_leastReading_0 (p_X5_compareReadings : gSp) (Q : gQ) (k4 : gKo) : gKo := (s_psh (.int 0) (s_ist 1 (s_psh (.int 1) (s_ist 2 k4))))
set_option maxRecDepth 20000 in
theorem q_X5_leastReading_0 {x : gCx} {mc ms : Nat} {p_X5_compareReadings : gSp} {Q : gQ} {k4 : gKo} (X : gX x cX5_leastReading RX5 3) (XQ : gXQ x 3 (some .int) mc ms Q) {rk_X5_compareReadings : Nat} (h_X5_compareReadings : Con x.2.1 yX5_compareReadings cX5_compareReadings 5 (some .int) rk_X5_compareReadings 0 0 p_X5_compareReadings) (g_X5_compareReadings : gDeep x rk_X5_compareReadings 5) (hk4 : Snd x 3 4 k4) : Snd x 3 0 (b_X5_leastReading_0 p_X5_compareReadings Q k4) := by
  unfold b_X5_leastReading_0
  exact (r_iconst (pc := 0) X dX5_leastReading_0 rfl (r_istore_n (pc := 1) X dX5_leastReading_1 rfl (by decide) (r_iconst (pc := 2) X dX5_leastReading_2 rfl (r_istore_n (pc := 3) X dX5_leastReading_3 rfl (by decide) hk4))))
set_option maxRecDepth 20000 in
theorem m_X5_leastReading {l : Launch} {rk : Nat} {sp : gSp} {p_X5_compareReadings : gSp} {rk_X5_compareReadings : Nat} (h_X5_compareReadings : Con l yX5_compareReadings cX5_compareReadings 5 (some .int) rk_X5_compareReadings 0 0 p_X5_compareReadings) (g_X5_compareReadings : rk_X5_compareReadings + 1 ≤ rk) (vc : ∀ (as : List Value) (C0 : gC) (n0 z0 : Nat) (Q : gQ), sp as C0 n0 z0 Q → (lg_sl as).length ≤ 3 ∧ ∃ Inv : Nat → Nat → gKo, b_X5_leastReading_0 p_X5_compareReadings Q (fun lv st C n z => ∃ μ, Inv 4 μ lv st C n z) (gent as) [] C0 n0 z0 ∧ (∀ (μ : Nat) (lv : gLv) (st : List Value) (C : gC) (n z : Nat), Inv 4 μ lv st C n z → b_X5_leastReading_4 p_X5_compareReadings Q (fun lv st C n z => ∃ μ', μ' < μ ∧ Inv 4 μ' lv st C n z) lv st C n z)) : Con l yX5_leastReading cX5_leastReading 3 (some .int) rk 0 0 sp := by
  refine Con.of (by decide) fun x as C n z Q hl hR hnm X XQ hroom hsp => ?_
  obtain ⟨h0, Inv, h1, i4⟩ := vc as C n z Q hsp
  have key : ∀ μ : Nat, Snd x 3 4 (Inv 4 μ) := by
    intro μ
    induction μ using Nat.strongRecOn with
    | ind μ ih =>
      exact fun lv st C n z hi => q_X5_leastReading_4 X XQ (hl ▸ h_X5_compareReadings) (gDeep.of hR g_X5_compareReadings (by decide)) (fun lv st C n z ⟨μ', hm, hi⟩ => (ih μ' hm) lv st C n z hi) lv st C n z (i4 μ lv st C n z hi)
  exact ⟨h0, q_X5_leastReading_0 X XQ (hl ▸ h_X5_compareReadings) (gDeep.of hR g_X5_compareReadings (by decide)) (fun lv st C n z ⟨μ', hi⟩ => (key μ') lv st C n z hi) _ _ _ _ _ h1⟩
def b_X5_compareReadings_2 (p_X5_kindAt : gSp) (p_J6_compare_7cf53 : gSp) (Q : gQ) (k2 : gKo) : gKo := (s_ild 3 (s_psh (.int 30) (s_if2 (fun x y => y ≤ x) (s_psh (.int 0) (s_iret .int Q)) (s_ald 0 (s_ild 1 (s_ild 3 (s_ib (fun x y => x + y) (s_cv 5 1 p_X5_kindAt (s_ald 0 (s_ild 2 (s_ild 3 (s_ib (fun x y => x + y) (s_cv 5 1 p_X5_kindAt (s_cs 2 p_J6_compare_7cf53 (s_ist 4 (s_ild 4 (s_if1 (fun x => x = 0) (s_inc 3 1 k2) (s_ild 4 (s_iret .int Q)))))))))))))))))))
set_option maxRecDepth 20000 in
theorem q_X5_compareReadings_2 {x : gCx} {mc ms : Nat} {p_X5_kindAt : gSp} {p_J6_compare_7cf53 : gSp} {Q : gQ} {k2 : gKo} (X : gX x cX5_compareReadings RX5 5) (XQ : gXQ x 5 (some .int) mc ms Q) {rk_X5_kindAt : Nat} (h_X5_kindAt : Con x.2.1 yX5_kindAt cX5_kindAt 2 (some .int) rk_X5_kindAt 0 0 p_X5_kindAt) (g_X5_kindAt : gDeep x rk_X5_kindAt 2) {rk_J6_compare_7cf53 : Nat} (h_J6_compare_7cf53 : Con x.2.1 yJ6_compare_7cf53 cJ6_compare_7cf53 2 (some .int) rk_J6_compare_7cf53 0 0 p_J6_compare_7cf53) (g_J6_compare_7cf53 : gDeep x rk_J6_compare_7cf53 2) (hk2 : Snd x 5 2 k2) : Snd x 5 2 (b_X5_compareReadings_2 p_X5_kindAt p_J6_compare_7cf53 Q k2) := by
  unfold b_X5_compareReadings_2
  exact (r_iload_n (pc := 2) X dX5_compareReadings_2 rfl (r_bipush (pc := 3) X dX5_compareReadings_3 rfl (r_icmp_ge (pc := 5) X dX5_compareReadings_5 rfl (r_iconst (pc := 41) X dX5_compareReadings_41 rfl (r_iret (pc := 42) X XQ dX5_compareReadings_42)) (r_aload_n (pc := 8) X dX5_compareReadings_8 rfl (r_iload_n (pc := 9) X dX5_compareReadings_9 rfl (r_iload_n (pc := 10) X dX5_compareReadings_10 rfl (r_iadd (pc := 11) X dX5_compareReadings_11 (r_cv (pc := 12) X md_RX5_52 (T := TX5) (N := 7) rfl im_X5_kindAt se_X5_kindAt h_X5_kindAt g_X5_kindAt dX5_compareReadings_12 (r_aload_n (pc := 15) X dX5_compareReadings_15 rfl (r_iload_n (pc := 16) X dX5_compareReadings_16 rfl (r_iload_n (pc := 17) X dX5_compareReadings_17 rfl (r_iadd (pc := 18) X dX5_compareReadings_18 (r_cv (pc := 19) X md_RX5_52 (T := TX5) (N := 7) rfl im_X5_kindAt se_X5_kindAt h_X5_kindAt g_X5_kindAt dX5_compareReadings_19 (r_cs (pc := 22) X md_RX5_59 ss_J6_compare_7cf53 h_J6_compare_7cf53 g_J6_compare_7cf53 dX5_compareReadings_22 (r_istore (pc := 25) X dX5_compareReadings_25 (by decide) (r_iload (pc := 27) X dX5_compareReadings_27 (r_if_eq (pc := 29) X dX5_compareReadings_29 rfl (r_iinc (pc := 35) X dX5_compareReadings_35 rfl (by decide) (r_goto (pc := 38) X dX5_compareReadings_38 rfl hk2)) (r_iload (pc := 32) X dX5_compareReadings_32 (r_iret (pc := 34) X XQ dX5_compareReadings_34)))))))))))))))))))
def b_X5_compareReadings_0 (p_X5_kindAt : gSp) (p_J6_compare_7cf53 : gSp) (Q : gQ) (k2 : gKo) : gKo := (s_psh (.int 0) (s_ist 3 k2))
set_option maxRecDepth 20000 in
theorem q_X5_compareReadings_0 {x : gCx} {mc ms : Nat} {p_X5_kindAt : gSp} {p_J6_compare_7cf53 : gSp} {Q : gQ} {k2 : gKo} (X : gX x cX5_compareReadings RX5 5) (XQ : gXQ x 5 (some .int) mc ms Q) {rk_X5_kindAt : Nat} (h_X5_kindAt : Con x.2.1 yX5_kindAt cX5_kindAt 2 (some .int) rk_X5_kindAt 0 0 p_X5_kindAt) (g_X5_kindAt : gDeep x rk_X5_kindAt 2) {rk_J6_compare_7cf53 : Nat} (h_J6_compare_7cf53 : Con x.2.1 yJ6_compare_7cf53 cJ6_compare_7cf53 2 (some .int) rk_J6_compare_7cf53 0 0 p_J6_compare_7cf53) (g_J6_compare_7cf53 : gDeep x rk_J6_compare_7cf53 2) (hk2 : Snd x 5 2 k2) : Snd x 5 0 (b_X5_compareReadings_0 p_X5_kindAt p_J6_compare_7cf53 Q k2) := by
  unfold b_X5_compareReadings_0
  exact (r_iconst (pc := 0) X dX5_compareReadings_0 rfl (r_istore_n (pc := 1) X dX5_compareReadings_1 rfl (by decide) hk2))
set_option maxRecDepth 20000 in
theorem m_X5_compareReadings {l : Launch} {rk : Nat} {sp : gSp} {p_X5_kindAt : gSp} {p_J6_compare_7cf53 : gSp} {rk_X5_kindAt : Nat} (h_X5_kindAt : Con l yX5_kindAt cX5_kindAt 2 (some .int) rk_X5_kindAt 0 0 p_X5_kindAt) (g_X5_kindAt : rk_X5_kindAt + 1 ≤ rk) {rk_J6_compare_7cf53 : Nat} (h_J6_compare_7cf53 : Con l yJ6_compare_7cf53 cJ6_compare_7cf53 2 (some .int) rk_J6_compare_7cf53 0 0 p_J6_compare_7cf53) (g_J6_compare_7cf53 : rk_J6_compare_7cf53 + 1 ≤ rk) (vc : ∀ (as : List Value) (C0 : gC) (n0 z0 : Nat) (Q : gQ), sp as C0 n0 z0 Q → (lg_sl as).length ≤ 5 ∧ ∃ Inv : Nat → Nat → gKo, b_X5_compareReadings_0 p_X5_kindAt p_J6_compare_7cf53 Q (fun lv st C n z => ∃ μ, Inv 2 μ lv st C n z) (gent as) [] C0 n0 z0 ∧ (∀ (μ : Nat) (lv : gLv) (st : List Value) (C : gC) (n z : Nat), Inv 2 μ lv st C n z → b_X5_compareReadings_2 p_X5_kindAt p_J6_compare_7cf53 Q (fun lv st C n z => ∃ μ', μ' < μ ∧ Inv 2 μ' lv st C n z) lv st C n z)) : Con l yX5_compareReadings cX5_compareReadings 5 (some .int) rk 0 0 sp := by
  refine Con.of (by decide) fun x as C n z Q hl hR hnm X XQ hroom hsp => ?_
  obtain ⟨h0, Inv, h1, i2⟩ := vc as C n z Q hsp
  have key : ∀ μ : Nat, Snd x 5 2 (Inv 2 μ) := by
    intro μ
    induction μ using Nat.strongRecOn with
    | ind μ ih =>
      exact fun lv st C n z hi => q_X5_compareReadings_2 X XQ (hl ▸ h_X5_kindAt) (gDeep.of hR g_X5_kindAt (by decide)) (hl ▸ h_J6_compare_7cf53) (gDeep.of hR g_J6_compare_7cf53 (by decide)) (fun lv st C n z ⟨μ', hm, hi⟩ => (ih μ' hm) lv st C n z hi) lv st C n z (i2 μ lv st C n z hi)
  exact ⟨h0, q_X5_compareReadings_0 X XQ (hl ▸ h_X5_kindAt) (gDeep.of hR g_X5_kindAt (by decide)) (hl ▸ h_J6_compare_7cf53) (gDeep.of hR g_J6_compare_7cf53 (by decide)) (fun lv st C n z ⟨μ', hi⟩ => (key μ') lv st C n z hi) _ _ _ _ _ h1⟩
def b_X5_mirrorCount_21 (p_X5_isMirror : gSp) (Q : gQ) (k4 : gKo) : gKo := (s_inc 2 1 k4)
set_option maxRecDepth 20000 in
theorem q_X5_mirrorCount_21 {x : gCx} {mc ms : Nat} {p_X5_isMirror : gSp} {Q : gQ} {k4 : gKo} (X : gX x cX5_mirrorCount RX5 3) (XQ : gXQ x 3 (some .int) mc ms Q) {rk_X5_isMirror : Nat} (h_X5_isMirror : Con x.2.1 yX5_isMirror cX5_isMirror 3 (some .boolean) rk_X5_isMirror 0 0 p_X5_isMirror) (g_X5_isMirror : gDeep x rk_X5_isMirror 3) (hk4 : Snd x 3 4 k4) : Snd x 3 21 (b_X5_mirrorCount_21 p_X5_isMirror Q k4) := by
  unfold b_X5_mirrorCount_21
  exact (r_iinc (pc := 21) X dX5_mirrorCount_21 rfl (by decide) (r_goto (pc := 24) X dX5_mirrorCount_24 rfl hk4))
def b_X5_mirrorCount_4 (p_X5_isMirror : gSp) (Q : gQ) (k4 : gKo) : gKo := (s_ild 2 (s_psh (.int 30) (s_if2 (fun x y => y ≤ x) (s_ild 1 (s_iret .int Q)) (s_ald 0 (s_ild 2 (s_cv 5 1 p_X5_isMirror (s_if1 (fun x => x = 0) (b_X5_mirrorCount_21 p_X5_isMirror Q k4) (s_inc 1 1 (b_X5_mirrorCount_21 p_X5_isMirror Q k4)))))))))
set_option maxRecDepth 20000 in
theorem q_X5_mirrorCount_4 {x : gCx} {mc ms : Nat} {p_X5_isMirror : gSp} {Q : gQ} {k4 : gKo} (X : gX x cX5_mirrorCount RX5 3) (XQ : gXQ x 3 (some .int) mc ms Q) {rk_X5_isMirror : Nat} (h_X5_isMirror : Con x.2.1 yX5_isMirror cX5_isMirror 3 (some .boolean) rk_X5_isMirror 0 0 p_X5_isMirror) (g_X5_isMirror : gDeep x rk_X5_isMirror 3) (hk4 : Snd x 3 4 k4) : Snd x 3 4 (b_X5_mirrorCount_4 p_X5_isMirror Q k4) := by
  unfold b_X5_mirrorCount_4
  exact (r_iload_n (pc := 4) X dX5_mirrorCount_4 rfl (r_bipush (pc := 5) X dX5_mirrorCount_5 rfl (r_icmp_ge (pc := 7) X dX5_mirrorCount_7 rfl (r_iload_n (pc := 27) X dX5_mirrorCount_27 rfl (r_iret (pc := 28) X XQ dX5_mirrorCount_28)) (r_aload_n (pc := 10) X dX5_mirrorCount_10 rfl (r_iload_n (pc := 11) X dX5_mirrorCount_11 rfl (r_cv (pc := 12) X md_RX5_64 (T := TX5) (N := 7) rfl im_X5_isMirror se_X5_isMirror h_X5_isMirror g_X5_isMirror dX5_mirrorCount_12 (r_if_eq (pc := 15) X dX5_mirrorCount_15 rfl (q_X5_mirrorCount_21 X XQ h_X5_isMirror g_X5_isMirror hk4) (r_iinc (pc := 18) X dX5_mirrorCount_18 rfl (by decide) (q_X5_mirrorCount_21 X XQ h_X5_isMirror g_X5_isMirror hk4)))))))))
def b_X5_mirrorCount_0 (p_X5_isMirror : gSp) (Q : gQ) (k4 : gKo) : gKo := (s_psh (.int 0) (s_ist 1 (s_psh (.int 0) (s_ist 2 k4))))
set_option maxRecDepth 20000 in
theorem q_X5_mirrorCount_0 {x : gCx} {mc ms : Nat} {p_X5_isMirror : gSp} {Q : gQ} {k4 : gKo} (X : gX x cX5_mirrorCount RX5 3) (XQ : gXQ x 3 (some .int) mc ms Q) {rk_X5_isMirror : Nat} (h_X5_isMirror : Con x.2.1 yX5_isMirror cX5_isMirror 3 (some .boolean) rk_X5_isMirror 0 0 p_X5_isMirror) (g_X5_isMirror : gDeep x rk_X5_isMirror 3) (hk4 : Snd x 3 4 k4) : Snd x 3 0 (b_X5_mirrorCount_0 p_X5_isMirror Q k4) := by
  unfold b_X5_mirrorCount_0
  exact (r_iconst (pc := 0) X dX5_mirrorCount_0 rfl (r_istore_n (pc := 1) X dX5_mirrorCount_1 rfl (by decide) (r_iconst (pc := 2) X dX5_mirrorCount_2 rfl (r_istore_n (pc := 3) X dX5_mirrorCount_3 rfl (by decide) hk4))))
set_option maxRecDepth 20000 in
theorem m_X5_mirrorCount {l : Launch} {rk : Nat} {sp : gSp} {p_X5_isMirror : gSp} {rk_X5_isMirror : Nat} (h_X5_isMirror : Con l yX5_isMirror cX5_isMirror 3 (some .boolean) rk_X5_isMirror 0 0 p_X5_isMirror) (g_X5_isMirror : rk_X5_isMirror + 1 ≤ rk) (vc : ∀ (as : List Value) (C0 : gC) (n0 z0 : Nat) (Q : gQ), sp as C0 n0 z0 Q → (lg_sl as).length ≤ 3 ∧ ∃ Inv : Nat → Nat → gKo, b_X5_mirrorCount_0 p_X5_isMirror Q (fun lv st C n z => ∃ μ, Inv 4 μ lv st C n z) (gent as) [] C0 n0 z0 ∧ (∀ (μ : Nat) (lv : gLv) (st : List Value) (C : gC) (n z : Nat), Inv 4 μ lv st C n z → b_X5_mirrorCount_4 p_X5_isMirror Q (fun lv st C n z => ∃ μ', μ' < μ ∧ Inv 4 μ' lv st C n z) lv st C n z)) : Con l yX5_mirrorCount cX5_mirrorCount 3 (some .int) rk 0 0 sp := by
  refine Con.of (by decide) fun x as C n z Q hl hR hnm X XQ hroom hsp => ?_
  obtain ⟨h0, Inv, h1, i4⟩ := vc as C n z Q hsp
  have key : ∀ μ : Nat, Snd x 3 4 (Inv 4 μ) := by
    intro μ
    induction μ using Nat.strongRecOn with
    | ind μ ih =>
      exact fun lv st C n z hi => q_X5_mirrorCount_4 X XQ (hl ▸ h_X5_isMirror) (gDeep.of hR g_X5_isMirror (by decide)) (fun lv st C n z ⟨μ', hm, hi⟩ => (ih μ' hm) lv st C n z hi) lv st C n z (i4 μ lv st C n z hi)
  exact ⟨h0, q_X5_mirrorCount_0 X XQ (hl ▸ h_X5_isMirror) (gDeep.of hR g_X5_isMirror (by decide)) (fun lv st C n z ⟨μ', hi⟩ => (key μ') lv st C n z hi) _ _ _ _ _ h1⟩
def b_X5_isMirror_2 (p_X5_kindAt : gSp) (Q : gQ) (k2 : gKo) : gKo := (s_ild 2 (s_psh (.int 30) (s_if2 (fun x y => y ≤ x) (s_psh (.int 1) (s_iret .boolean Q)) (s_ald 0 (s_ild 2 (s_cv 5 1 p_X5_kindAt (s_ald 0 (s_ild 1 (s_ild 2 (s_ib (fun x y => x - y) (s_cv 5 1 p_X5_kindAt (s_if2 (fun x y => x = y) (s_inc 2 1 k2) (s_psh (.int 0) (s_iret .boolean Q))))))))))))))
set_option maxRecDepth 20000 in
theorem q_X5_isMirror_2 {x : gCx} {mc ms : Nat} {p_X5_kindAt : gSp} {Q : gQ} {k2 : gKo} (X : gX x cX5_isMirror RX5 3) (XQ : gXQ x 3 (some .boolean) mc ms Q) {rk_X5_kindAt : Nat} (h_X5_kindAt : Con x.2.1 yX5_kindAt cX5_kindAt 2 (some .int) rk_X5_kindAt 0 0 p_X5_kindAt) (g_X5_kindAt : gDeep x rk_X5_kindAt 2) (hk2 : Snd x 3 2 k2) : Snd x 3 2 (b_X5_isMirror_2 p_X5_kindAt Q k2) := by
  unfold b_X5_isMirror_2
  exact (r_iload_n (pc := 2) X dX5_isMirror_2 rfl (r_bipush (pc := 3) X dX5_isMirror_3 rfl (r_icmp_ge (pc := 5) X dX5_isMirror_5 rfl (r_iconst (pc := 31) X dX5_isMirror_31 rfl (r_iret (pc := 32) X XQ dX5_isMirror_32)) (r_aload_n (pc := 8) X dX5_isMirror_8 rfl (r_iload_n (pc := 9) X dX5_isMirror_9 rfl (r_cv (pc := 10) X md_RX5_52 (T := TX5) (N := 7) rfl im_X5_kindAt se_X5_kindAt h_X5_kindAt g_X5_kindAt dX5_isMirror_10 (r_aload_n (pc := 13) X dX5_isMirror_13 rfl (r_iload_n (pc := 14) X dX5_isMirror_14 rfl (r_iload_n (pc := 15) X dX5_isMirror_15 rfl (r_isub (pc := 16) X dX5_isMirror_16 (r_cv (pc := 17) X md_RX5_52 (T := TX5) (N := 7) rfl im_X5_kindAt se_X5_kindAt h_X5_kindAt g_X5_kindAt dX5_isMirror_17 (r_icmp_eq (pc := 20) X dX5_isMirror_20 rfl (r_iinc (pc := 25) X dX5_isMirror_25 rfl (by decide) (r_goto (pc := 28) X dX5_isMirror_28 rfl hk2)) (r_iconst (pc := 23) X dX5_isMirror_23 rfl (r_iret (pc := 24) X XQ dX5_isMirror_24))))))))))))))
def b_X5_isMirror_0 (p_X5_kindAt : gSp) (Q : gQ) (k2 : gKo) : gKo := (s_psh (.int 0) (s_ist 2 k2))
set_option maxRecDepth 20000 in
theorem q_X5_isMirror_0 {x : gCx} {mc ms : Nat} {p_X5_kindAt : gSp} {Q : gQ} {k2 : gKo} (X : gX x cX5_isMirror RX5 3) (XQ : gXQ x 3 (some .boolean) mc ms Q) {rk_X5_kindAt : Nat} (h_X5_kindAt : Con x.2.1 yX5_kindAt cX5_kindAt 2 (some .int) rk_X5_kindAt 0 0 p_X5_kindAt) (g_X5_kindAt : gDeep x rk_X5_kindAt 2) (hk2 : Snd x 3 2 k2) : Snd x 3 0 (b_X5_isMirror_0 p_X5_kindAt Q k2) := by
  unfold b_X5_isMirror_0
  exact (r_iconst (pc := 0) X dX5_isMirror_0 rfl (r_istore_n (pc := 1) X dX5_isMirror_1 rfl (by decide) hk2))
set_option maxRecDepth 20000 in
theorem m_X5_isMirror {l : Launch} {rk : Nat} {sp : gSp} {p_X5_kindAt : gSp} {rk_X5_kindAt : Nat} (h_X5_kindAt : Con l yX5_kindAt cX5_kindAt 2 (some .int) rk_X5_kindAt 0 0 p_X5_kindAt) (g_X5_kindAt : rk_X5_kindAt + 1 ≤ rk) (vc : ∀ (as : List Value) (C0 : gC) (n0 z0 : Nat) (Q : gQ), sp as C0 n0 z0 Q → (lg_sl as).length ≤ 3 ∧ ∃ Inv : Nat → Nat → gKo, b_X5_isMirror_0 p_X5_kindAt Q (fun lv st C n z => ∃ μ, Inv 2 μ lv st C n z) (gent as) [] C0 n0 z0 ∧ (∀ (μ : Nat) (lv : gLv) (st : List Value) (C : gC) (n z : Nat), Inv 2 μ lv st C n z → b_X5_isMirror_2 p_X5_kindAt Q (fun lv st C n z => ∃ μ', μ' < μ ∧ Inv 2 μ' lv st C n z) lv st C n z)) : Con l yX5_isMirror cX5_isMirror 3 (some .boolean) rk 0 0 sp := by
  refine Con.of (by decide) fun x as C n z Q hl hR hnm X XQ hroom hsp => ?_
  obtain ⟨h0, Inv, h1, i2⟩ := vc as C n z Q hsp
  have key : ∀ μ : Nat, Snd x 3 2 (Inv 2 μ) := by
    intro μ
    induction μ using Nat.strongRecOn with
    | ind μ ih =>
      exact fun lv st C n z hi => q_X5_isMirror_2 X XQ (hl ▸ h_X5_kindAt) (gDeep.of hR g_X5_kindAt (by decide)) (fun lv st C n z ⟨μ', hm, hi⟩ => (ih μ' hm) lv st C n z hi) lv st C n z (i2 μ lv st C n z hi)
  exact ⟨h0, q_X5_isMirror_0 X XQ (hl ▸ h_X5_kindAt) (gDeep.of hR g_X5_kindAt (by decide)) (fun lv st C n z ⟨μ', hi⟩ => (key μ') lv st C n z hi) _ _ _ _ _ h1⟩
