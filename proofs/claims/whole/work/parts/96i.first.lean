/-! the first state -/
theorem SG_I : SG aI 0 0 := by
  refine ⟨rfl, ⟨by decide, fun c hc => Or.inr ⟨0, by decide, ?_⟩⟩, ⟨⟨0, by decide, rfl⟩, Or.inl rfl, ⟨0, by decide, rfl⟩, ⟨263, by decide, rfl⟩, ⟨0, by decide, rfl⟩, fun j hj => ⟨1, by decide, ?_⟩, fun j hj => ⟨0, by decide, ?_⟩, fun c hc => ⟨⟨0, by decide, ?_⟩, 0, by decide, ?_⟩⟩, rfl, by decide, fun k hk => ?_, ⟨0, rfl, by decide, fun i hi => absurd hi (Nat.not_lt_zero _)⟩, ⟨0, ⟨rfl, by decide, fun i hi => absurd hi (Nat.not_lt_zero _)⟩, fun i hi => absurd hi (Nat.not_lt_zero _)⟩, 0, by decide, rfl, fun i hi => absurd hi (Nat.not_lt_zero _)⟩
  · exact (by decide : ∀ c, c < 7 → aI (69 + c) = nI 0) c hc
  · exact (by decide : ∀ j, j < 30 → aI (9 + j) = nI 1) j hj
  · exact (by decide : ∀ j, j < 30 → aI (39 + j) = nI 0) j hj
  · exact (by decide : ∀ c, c < 7 → aI (76 + c) = nI 0) c hc
  · exact (by decide : ∀ c, c < 7 → aI (83 + c) = nI 0) c hc
  · exact (by decide : ∀ k, k < 13 → (aI (90 + k)).toNatClampNeg ≤ 99 ∧ aI (90 + k) = nI (aI (90 + k)).toNatClampNeg) k (by omega)
theorem StN_I {S : Nat → Sqd} : StN σI AI (fun _ _ => none) (fun _ => none) S 0 0 0 aI 0 := by
  refine ⟨by decide, by decide, by decide, ⟨⟨by decide, by decide, by decide⟩, by decide, by decide, 0, by decide, by decide, fun _ => ⟨by decide, fun i hi => absurd hi (Nat.not_lt_zero _)⟩⟩, by decide, by decide, ⟨by decide, by decide, fun _ _ => rfl⟩, rfl, by decide, by decide, fun i hi => absurd hi (Nat.not_lt_zero _)⟩
theorem StW_I {S : Nat → Sqd} : StW 16 30 σI AI (fun _ _ => none) (fun _ => none) S 0 0 0 aI 0 := by
  refine ⟨by decide, by decide, by decide, ⟨⟨by decide, by decide, by decide⟩, by decide, by decide, 0, by decide, by decide, fun _ => ⟨by decide, fun i hi => absurd hi (Nat.not_lt_zero _)⟩⟩, by decide, by decide, ⟨by decide, by decide, fun _ _ => rfl⟩, rfl, by decide, by decide, fun i hi => absurd hi (Nat.not_lt_zero _)⟩
theorem nul_I : nul (fun _ => none) = 60 := by decide
theorem JB_I : JB σI := fun k h1 h2 => by
  have e : ∀ k, k < 9 → (σI 32 k).toInt = 0 := by decide
  rw [e k (by omega)]
  exact ⟨by decide, by decide⟩
theorem CW_I {X : Nat} {C : gC} {z : Nat} (h : agX X σI (ρI X) AI (fun _ _ => none) C) : CW X ((X + 71, X + 371, z + 11640), (aI, 0), (fun _ => 0, 0, -nI 1, -nI 1, (fun _ => none, fun _ => none)), fun _ => [], 0) aI C (X + 71) z := by
  refine ⟨σI, ρI X, AI, fun _ _ => none, fun _ => none, fun _ => (fun _ => 0, fun _ _ => 0), ⟨h, fun i hi r hr => (by cases hr), Nat.le_refl _, Nat.le_refl _, by rw [nul_I], by rw [nul_I]⟩, ⟨0, 0, 0, SG_I, StN_I⟩, ⟨0, 0, 0, SG_I, StW_I⟩, Nat.le_refl _, ⟨⟨Nat.zero_le 4, fun t ht => absurd ht (Nat.not_lt_zero _)⟩, rfl, fun q x hx => (by cases hx), fun t r ht => absurd ht (Nat.not_lt_zero _)⟩, fun t ht => absurd ht (Nat.not_lt_zero _), JB_I, ⟨fun i hi => ?_, fun i => (show (0 : Nat) < 256 by decide), (show σI 0 10 = nI 0 by decide), Nat.zero_le 300, (show σI 0 11 = -nI 1 by decide), (show σI 0 12 = -nI 1 by decide)⟩⟩
  rfl
theorem LJ_I {X n0 z0 z : Nat} {C R : gC} (h : agX X σI (ρI X) AI (fun _ _ => none) R) (hC : C = menc (X + 56) σIz 0 AI12 LIz R) (h1 : X ≤ n0) (h2 : z + 11640 ≤ z0 + 60000) : LJ X n0 z0 0 C (X + 71) z := by
  subst hC
  refine ⟨_, σIz, 0, AI12, LIz, mc_self, CW_I (fun k hk => (mc_out (by omega)).trans (h k hk)), rfl, by dsimp only; omega, by dsimp only; omega, ?_⟩
  exact ⟨rfl, rfl, rfl, rfl, rfl, ⟨Nat.zero_le 4, fun t ht => absurd ht (Nat.not_lt_zero _)⟩, fun j hj => (show fits6 (0 : Int32).toInt from ⟨by decide, by decide⟩), rfl⟩
