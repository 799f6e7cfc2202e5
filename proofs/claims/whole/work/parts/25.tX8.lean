def b_X8_init_0 (Q : gQ) : gKo := (s_ald 0 (s_oi (s_ald 0 (s_ald 1 (s_put 8 0 (.array .int) (s_ald 0 (s_ald 2 (s_put 8 1 (.array .int) (s_ald 0 (s_ald 3 (s_put 8 2 (.array .int) (s_vret Q))))))))))))
set_option maxRecDepth 20000 in
theorem q_X8_init_0 {x : gCx} {mc ms : Nat} {Q : gQ} (X : gX x cX8_init RX8 4) (XQ : gXQ x 4 none mc ms Q) (hini : x.2.2.2.2.2.2.2.2.1.name = "<init>") (hdeep : 1 ≤ x.2.2.2.1.frames ∧ 20 ≤ x.2.2.2.1.locals) : Snd x 4 0 (b_X8_init_0 Q) := by
  unfold b_X8_init_0
  exact (r_aload_n (pc := 0) X dX8_init_0 rfl (r_oi (pc := 1) X (tb_4 6 rfl rfl) (tb_1 29 rfl rfl) (tb_1 30 rfl rfl) hdeep dX8_init_1 (r_aload_n (pc := 4) X dX8_init_4 rfl (r_aload_n (pc := 5) X dX8_init_5 rfl (r_putF (pc := 6) X hini fd_RX8_7 ⟨_, _, _, rfl, rfl⟩ dX8_init_6 (r_aload_n (pc := 9) X dX8_init_9 rfl (r_aload_n (pc := 10) X dX8_init_10 rfl (r_putF (pc := 11) X hini fd_RX8_13 ⟨_, _, _, rfl, rfl⟩ dX8_init_11 (r_aload_n (pc := 14) X dX8_init_14 rfl (r_aload_n (pc := 15) X dX8_init_15 rfl (r_putF (pc := 16) X hini fd_RX8_16 ⟨_, _, _, rfl, rfl⟩ dX8_init_16 (r_vret (pc := 19) X XQ dX8_init_19))))))))))))
set_option maxRecDepth 20000 in
theorem m_X8_init {l : Launch} {rk : Nat} {sp : gSp}  (hrk : 1 ≤ rk) (vc : ∀ (as : List Value) (C0 : gC) (n0 z0 : Nat) (Q : gQ), sp as C0 n0 z0 Q → (lg_sl as).length ≤ 4 ∧ b_X8_init_0 Q (gpad 4 (gent as)) [] C0 n0 z0) : Con l yX8_init cX8_init 4 none rk 0 0 sp := by
  refine Con.of (by decide) fun x as C n z Q hl hR hnm X XQ hroom hsp => ?_
  obtain ⟨h0, h1⟩ := vc as C n z Q hsp
  exact ⟨h0, q_X8_init_0 X XQ hnm (gDeep.one hR hrk) _ _ _ _ _ h1⟩
