/-! the class: text -/
def okC (c : rCl) : Prop := (c.1 ≤ 8 ∧ (c.1 ≤ 1 → meA (c.1 == 0) c.2.2.2)) ∧ okR c
theorem rBody_ok {S V : Nat → Nat} {sort i j : Nat} {c : rCl} (h : rBody S V sort i = .inr (j, c)) (hs : sort ≤ 8) : okC c := by
  unfold rBody at h
  repeat' split at h
  · obtain ⟨a1, a2, -, rfl⟩ := rPair_inr h
    exact ⟨⟨Nat.le_of_ble_eq_true rfl, fun q => absurd q (by simp)⟩, by simp only [okR]; omega⟩
  · obtain ⟨a1, a2, -, rfl⟩ := rPair_inr h
    exact ⟨⟨Nat.le_of_ble_eq_true rfl, fun q => absurd q (by simp)⟩, by simp only [okR]; omega⟩
  · obtain ⟨a1, a2, -, rfl⟩ := rPair_inr h
    exact ⟨⟨Nat.le_of_ble_eq_true rfl, fun q => absurd q (by simp)⟩, by simp only [okR]; omega⟩
  · obtain ⟨a1, a2, -, rfl⟩ := rPair_inr h
    exact ⟨⟨Nat.le_of_ble_eq_true rfl, fun q => absurd q (by simp)⟩, by simp only [okR]; omega⟩
  · obtain ⟨a1, -, rfl⟩ := rFig_inr h
    exact ⟨⟨Nat.le_of_ble_eq_true rfl, fun q => absurd q (by simp)⟩, by simp only [okR]; omega⟩
  · obtain ⟨a1, -, rfl⟩ := rFig_inr h
    exact ⟨⟨Nat.le_of_ble_eq_true rfl, fun q => absurd q (by simp)⟩, by simp only [okR]; omega⟩
  · obtain ⟨a1, -, rfl⟩ := rFig_inr h
    exact ⟨⟨Nat.le_of_ble_eq_true rfl, fun q => absurd q (by simp)⟩, by simp only [okR]; omega⟩
  · obtain ⟨a, ha, rfl⟩ := rLaw_inr h
    exact ⟨⟨hs, fun _ => law_me ha⟩, by simp only [okR]; omega⟩
theorem rClause_ok {S V : Nat → Nat} {l : List rCl} {i j : Nat} {c : rCl} (h : rClause S V l i = .inr (j, c)) : okC c := by
  unfold rClause at h
  split at h
  · cases h
  rename_i h9
  split at h
  · cases h
  split at h
  · cases h
  cases hb : rBody S V (hdOf (S i)) (i + 1) with
  | inl e => rw [hb] at h; cases h
  | inr r =>
    obtain ⟨j', c'⟩ := r
    rw [hb] at h
    dsimp only at h
    split at h
    · have e := (Prod.mk.inj (Sum.inr.inj h)).2
      rw [← e]
      exact rBody_ok hb (by have := hdOf_le (S i); omega)
    · cases h
theorem rText_ok {S V : Nat → Nat} : ∀ (f i : Nat) (l l' : List rCl), rText S V f i l = .inr l' → (∀ c ∈ l, okC c) → ∀ c ∈ l', okC c
  | 0, i, l, l', h, hl => by
    rw [rText] at h
    rw [← Sum.inr.inj h]; exact hl
  | f + 1, i, l, l', h, hl => by
    rw [rText] at h
    split at h
    · rw [← Sum.inr.inj h]; exact hl
    · cases hc : rClause S V l i with
      | inl e => rw [hc] at h; cases h
      | inr r =>
        obtain ⟨j, c⟩ := r
        rw [hc] at h
        dsimp only at h
        refine rText_ok f j _ l' h fun x hx => ?_
        rcases List.mem_append.mp hx with q | q
        · exact hl x q
        · rw [List.mem_singleton.mp q]; exact rClause_ok hc
section TXX
variable {X lo bn bz NI N n n' z z' f k ch : Nat} {σ σ' σ1 : Nat → Nat → Int32} {ρ ρ1 : Nat → Value} {A A' A1 : Nat → Nat → Int32} {P P' : Nat → Nat → Option Nat} {T : Nat → Option Nat} {S : Nat → Sqd} {C R1 : gC} {a b : Nat → Int32} {t t' : tpT} {tx : Nat → List rCl}
theorem SG.txn (h : SG a N ch) (hN : N < 4) : SG (upd a 1 (nI (N + 1))) (N + 1) ch := by
  obtain ⟨h1, h2, ⟨d0, d2, d6, d7, d8, dk, dp, dc⟩, h4, h5, h6⟩ := h
  refine ⟨pk_us, ⟨by omega, h2.2.o fun j g1 g2 => pk_un (by omega)⟩, ⟨by rw [pk_un (by decide)]; exact d0, ?_, by rw [pk_un (by decide)]; exact d6, by rw [pk_un (by decide)]; exact d7, by rw [pk_un (by decide)]; exact d8, fun j hj => by rw [pk_un (by omega)]; exact dk j hj, fun j hj => by rw [pk_un (by omega)]; exact dp j hj, fun c hc => by rw [pk_un (by omega), pk_un (by omega)]; exact dc c hc⟩, by rw [pk_un (by decide)]; exact h4, h5, h6.o fun j hj => pk_un (by omega)⟩
  unfold ruleOK at *
  rw [pk_un (by decide)]
  rcases d2 with d2 | ⟨t, ht, d2⟩
  · exact .inl d2
  · exact .inr ⟨t, by omega, d2⟩
theorem StN.txn (h : StN σ A P T S f k ch a N) (hc : ch ≤ 7) (e7 : σ' 1 7 = σ 1 7) (e8 : σ' 1 8 = nI (N + 1)) (e9 : σ' 1 9 = σ 1 9) (e : ∀ i, 2 ≤ i → i ≤ 15 → σ' i = σ i) (eA : ∀ i, i ≤ 15 → A' i = A i) (eP : P' 8 = P 8) : StN σ' A' P' T S f k ch (upd a 1 (nI (N + 1))) (N + 1) := by
  obtain ⟨w1, w2, w3, w4, w5, w6, w7, w8⟩ := h
  refine ⟨⟨e7.trans w1.1, e8, by rw [e9, pk_un (by decide)]; exact w1.2.2⟩, fun c hc => ?_, fun i hi => ?_, ?_, ⟨by rw [e 9 (by decide) (by decide)]; exact w5.1, by rw [e 9 (by decide) (by decide), pk_un (by decide)]; exact w5.2.1, fun i hi => ?_⟩, ⟨by rw [e 11 (by decide) (by decide)]; exact w6.1, by rw [e 11 (by decide) (by decide), pk_un (by decide)]; exact w6.2.1, fun i hi => ?_⟩, ⟨by rw [e 7 (by decide) (by decide)]; exact w7.1, by rw [e 7 (by decide) (by decide)]; exact w7.2.1, by rw [eP]; exact w7.2.2⟩, w8.ao (pk_un (by decide)) fun j g1 g2 => pk_un (by omega)⟩
  · rw [eA 14 (by decide), eA 15 (by decide), pk_un (by omega), pk_un (by omega)]; exact w2 c hc
  · rw [eA 13 (by decide), pk_un (by omega)]; exact w3 i hi
  · exact SqR_D.mpr ((SqR_D.mp (w4.k2 (e 2 (by decide) (by decide)) fun i g1 g2 => eA _ (by omega))).a hc (fun j g1 g2 => pk_un (by omega)) fun j hj => pk_un (by omega))
  · rw [eA 10 (by decide), pk_un (by omega)]; exact w5.2.2 i hi
  · rw [eA 12 (by decide), pk_un (by omega)]; exact w6.2.2 i hi
theorem CX.nw (hX : CX X lo bn bz σ ρ A P T S C n z) (hR : ∀ q, q < n → R1 q = C q) (hn : n ≤ n') : CX X lo (n' + 5 * nul T) (z' + 194 * nul T) σ1 ρ1 A1 P' T S (xE X σ1 ρ1 A1 P' R1) n' z' := by
  obtain ⟨h1, h2, h3, h4, h5, h6⟩ := hX
  refine ⟨agX_E, fun i hi r hr => ?_, h3, by omega, rfl, rfl⟩
  obtain ⟨q1, q2, q3, q4⟩ := h2 i hi r hr
  exact ⟨q1, by omega, sqAt_k q3 fun k hk => by rw [xE_ge (by omega), hR _ (by omega)], q4⟩
theorem TG.nw (hX : CX X lo bn bz σ ρ A P T S C n z) (hR : ∀ q, q < n → R1 q = C q) (hn : n ≤ n') : ∀ q, TG T lo n q → TG T lo n' q ∧ xE X σ1 ρ1 A1 P' R1 q = C q := fun q hq => ⟨⟨hq.1, Nat.lt_of_lt_of_le hq.2.1 hn, hq.2.2⟩, by
  have h3 := hX.2.2.1
  have h1 := hq.1
  rw [xE_ge (by omega), hR q hq.2.1]⟩
theorem TG.up (hX : CX X lo bn bz σ ρ A P T S C n z) {q : Nat} (h1 : n ≤ q) (h2 : q < n') : TG T lo n' q := ⟨Nat.le_trans hX.2.2.2.1 h1, h2, fun i hi r hr => .inr (Nat.le_trans (hX.2.1 i hi r hr).2.1 h1)⟩
theorem CW.fl {len : Nat} {Tp : Nat → Nat} {κ : kpT} {fl fa x y : Int32} (hX : CX X lo bn bz σ ρ A P T S C n z) (hG : SG a N ch) (hW : StN σ A P T S f k ch a N) (hZ : CZ lo b NI (Tp, len, fl, fa, κ) tx N σ A P T S C n) (hz : RZx σ ρ A σ1 ρ1 A1) (hR : ∀ q, q < n → R1 q = C q) (hn : n ≤ n') : CW X ((lo, n' + 5 * nul T, z' + 194 * nul T), (b, NI), (Tp, 0, x, y, κ), tx, N) a (xE X (s2 (s2 (s2 σ1 0 10 (nI 0)) 0 11 x) 0 12 y) ρ1 A1 P R1) n' z' := by
  have hr : ∀ i, i ≠ 0 → i ≠ 42 → i ≠ 43 → s2 (s2 (s2 σ1 0 10 (nI 0)) 0 11 x) 0 12 y i = σ i := fun i h0 h1 h2 => by
    rw [s2_row h0, s2_row h0, s2_row h0]
    funext k
    exact hz.1 i k h1 h2
  have ha : ∀ i, i < 44 ∨ 49 < i → A1 i = A i := fun i hi => hz.2.2 i (by omega) (by omega) (by omega)
  obtain ⟨⟨chI, fI, kI, i1, i2⟩, h3, h4, h5, h6, h7⟩ := hZ
  refine ⟨_, ρ1, A1, P, T, S, hX.nw hR hn, ⟨ch, f, k, hG, hW.k0 fun i g1 g2 => ⟨hr i (by omega) (by omega) (by omega), ha i (by omega)⟩⟩, ⟨chI, fI, kI, i1, i2.kp (fun i hi => ⟨hr _ (by omega) (by omega) (by omega), ha _ (by omega), rfl⟩) fun _ _ => ⟨rfl, rfl⟩⟩, h3, h4.k rfl (TG.nw hX hR hn), h5, fun i g1 g2 => by rw [hr 32 (by decide) (by decide) (by decide)]; exact h6 i g1 g2, ⟨fun i hi => by rw [ha 55 (by decide)]; exact h7.1 i hi, h7.2.1, ?_, Nat.zero_le _, ?_, s2_eq⟩⟩
  · rw [s2_k (by decide), s2_k (by decide), s2_eq]
  · rw [s2_k (by decide), s2_eq]
theorem CW.tt {len s : Nat} {Tp : Nat → Nat} {κ : kpT} {fl fa x y : Int32} {l : List rCl} (hX : CX X lo bn bz σ ρ A P T S C n z) (hG : SG a N ch) (hW : StN σ A P T S f k ch a N) (hZ : CZ lo b NI (Tp, len, fl, fa, κ) tx N σ A P T S C n) (hz : RZx σ ρ A σ1 ρ1 A1) (hR : ∀ q, q < n → R1 q = C q) (hn : n ≤ n') (hN : N < 4) (hl : ∀ c ∈ l, okC c) (hT : TextAt (fun q => n ≤ q ∧ q < n') R1 s l) : ∃ κ', CW X ((lo, n' + 5 * nul T, z' + 194 * nul T), (b, NI), (Tp, 0, x, y, κ'), sup tx N l, N + 1) (upd a 1 (nI (N + 1))) (xE X (s2 (s2 (s2 (s2 σ1 0 10 (nI 0)) 0 11 x) 0 12 y) 1 8 (nI (N + 1))) ρ1 A1 (sup P 31 (va_up (P 31) N (some s))) R1) n' z' := by
  have hr : ∀ i, i ≠ 0 → i ≠ 1 → i ≠ 42 → i ≠ 43 → s2 (s2 (s2 (s2 σ1 0 10 (nI 0)) 0 11 x) 0 12 y) 1 8 (nI (N + 1)) i = σ i := fun i h0 h1 h2 h3 => by
    rw [s2_row h1, s2_row h0, s2_row h0, s2_row h0]
    funext k
    exact hz.1 i k h2 h3
  have h1r : ∀ k, k ≠ 8 → s2 (s2 (s2 (s2 σ1 0 10 (nI 0)) 0 11 x) 0 12 y) 1 8 (nI (N + 1)) 1 k = σ 1 k := fun k hk => by
    rw [s2_k hk, s2_row (by decide), s2_row (by decide), s2_row (by decide)]
    exact hz.1 1 k (by decide) (by decide)
  have ha : ∀ i, i < 44 ∨ 49 < i → A1 i = A i := fun i hi => hz.2.2 i (by omega) (by omega) (by omega)
  have hlo := hX.2.2.1
  have hlon := hX.2.2.2.1
  obtain ⟨⟨chI, fI, kI, i1, i2⟩, h3, h4, h5, h6, h7⟩ := hZ
  have hp31 : sup P 31 (va_up (P 31) N (some s)) 31 = va_up (P 31) N (some s) := sup_same
  have upn : ∀ t, t ≠ N → va_up (P 31) N (some s) t = P 31 t := fun t ht => by unfold va_up; rw [if_neg ht]
  have upe : va_up (P 31) N (some s) N = some s := by unfold va_up; rw [if_pos rfl]
  obtain ⟨⟨t1, t2⟩, k1, k2, k3⟩ := h4
  have hTG := TG.nw (σ1 := s2 (s2 (s2 (s2 σ1 0 10 (nI 0)) 0 11 x) 0 12 y) 1 8 (nI (N + 1))) (ρ1 := ρ1) (A1 := A1) (P' := sup P 31 (va_up (P 31) N (some s))) hX hR hn
  generalize hC' : xE X (s2 (s2 (s2 (s2 σ1 0 10 (nI 0)) 0 11 x) 0 12 y) 1 8 (nI (N + 1))) ρ1 A1 (sup P 31 (va_up (P 31) N (some s))) R1 = C' at hTG
  have hnew : ∀ q, n ≤ q ∧ q < n' → TG T lo n' q ∧ C' q = R1 q := fun q hq => ⟨TG.up hX hq.1 hq.2, by rw [← hC', xE_ge (by omega)]⟩
  obtain ⟨gs, oc, op, q, u1, u2, u3, u4, fq, v1, v2, v3⟩ := hT
  refine ⟨(va_up (P 31) N (some s), fun q => if n ≤ q ∧ q < n' then C' q else κ.2 q), _, ρ1, A1, sup P 31 (va_up (P 31) N (some s)), T, S, hC' ▸ hX.nw hR hn, ⟨ch, f, k, hG.txn hN, hW.txn hG.2.2.2.2.1 (h1r 7 (by decide)) s2_eq (h1r 9 (by decide)) (fun i g1 g2 => hr i (by omega) (by omega) (by omega) (by omega)) (fun i hi => ha i (by omega)) (sup_ne (by decide))⟩, ⟨chI, fI, kI, i1, i2.kp (fun i hi => ⟨hr _ (by omega) (by omega) (by omega) (by omega), ha _ (by omega), sup_ne (by omega)⟩) fun _ _ => ⟨rfl, rfl⟩⟩, Nat.le_succ_of_le h3, ⟨⟨hN, fun t ht => ?_⟩, hp31, fun p w hw => ?_, fun t r ht hr2 => ?_⟩, fun t ht c hc => ?_, fun i g1 g2 => by rw [hr 32 (by decide) (by decide) (by decide) (by decide)]; exact h6 i g1 g2, ⟨fun i hi => by rw [ha 55 (by decide)]; exact h7.1 i hi, h7.2.1, ?_, Nat.zero_le _, ?_, ?_⟩⟩
  · have ht : t < N + 1 := ht
    dsimp only
    by_cases e : t = N
    · subst e
      rw [show sup tx t l t = l from sup_same]
      refine ⟨fun c hc => (hl c hc).1, s, by rw [hp31]; exact upe, (hnew s gs).1, oc, op, q, by rw [(hnew s gs).2]; exact u1, lawAt_mono u2 hnew, lawAt_mono u3 hnew, (hnew q u4).1, fq, by rw [(hnew q u4).2]; exact v1, v2, v3⟩
    · rw [show sup tx N l t = tx t from sup_ne e, hp31, upn t e]
      exact (TXC.k ⟨t1, t2⟩ (P' := P) rfl hTG).2 t (by omega)
  · dsimp only at hw
    split at hw
    · rename_i hp
      exact ⟨(hnew p hp).1, hw⟩
    · obtain ⟨g1, g2⟩ := k2 p w hw
      exact ⟨(hTG p g1).1, (hTG p g1).2.trans g2⟩
  · have ht : t < N + 1 := ht
    dsimp only at hr2 ⊢
    by_cases e : t = N
    · subst e
      rw [upe] at hr2
      cases hr2
      exact ⟨_, _, q, _, by rw [if_pos gs, (hnew s gs).2]; exact u1, by rw [if_pos u4, (hnew q u4).2]; exact v1⟩
    · rw [upn t e] at hr2
      have k1' : κ.1 t = some r := by rw [← k1]; exact hr2
      obtain ⟨oc', op', q', x', m1, m2⟩ := k3 t r (by omega) k1'
      obtain ⟨g1, g2⟩ := k2 r _ m1
      obtain ⟨g3, g4⟩ := k2 q' _ m2
      exact ⟨oc', op', q', x', by rw [if_neg (fun w => by have := g1.2.1; omega)]; exact m1, by rw [if_neg (fun w => by have := g3.2.1; omega)]; exact m2⟩
  · have ht : t < N + 1 := ht
    have hc : c ∈ sup tx N l t := hc
    by_cases e : t = N
    · subst e
      rw [show sup tx t l t = l from sup_same] at hc
      exact (hl c hc).2
    · rw [show sup tx N l t = tx t from sup_ne e] at hc
      exact h5 t (by omega) c hc
  · rw [s2_row (by decide), s2_k (by decide), s2_k (by decide), s2_eq]
  · rw [s2_row (by decide), s2_k (by decide), s2_eq]
  · rw [s2_row (by decide), s2_eq]
end TXX
