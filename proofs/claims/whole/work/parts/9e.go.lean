set_option linter.unusedSimpArgs false
set_option linter.unusedVariables false
/-! ===== a go that is pending ===== -/
/-- a thread that may take a step: at an instruction, or on a go that leads there -/
theorem Thr_open {C D : ao_M} {ρ : ao_H} {rc t s : Nat} (h : Thr C ρ D rc t) (hs : C (92 + 71 * t) 2 = nI s) (h12 : s = 1 ∨ s = 2) : ∃ len kd a1 a2 a3 φ N H K a, (Opn C ρ D rc t s len kd a1 a2 a3 φ N H K a) ∨ ∃ q, q < 6000 ∧ D 552 t = nI q ∧ dcd D t (3 * q) = 12 ∧ dcd D t (3 * q + 1) = nI (φ a) ∧ φ a + 2 < 6000 ∧ ∀ D' : ao_M, (∀ x i, ¬ (x = 552 ∧ i = t) → D' x i = D x i) → D' 552 t = nI (φ a) → Opn C ρ D' rc t s len kd a1 a2 a3 φ N H K a := by
  obtain ⟨s', c1, c2, c3, c4, c5, c6, c7, c8, c9, c10, c11⟩ := h
  have es : s' = s := by
    rw [c2] at hs
    have := (n_eq (show s' < 2147483648 by omega) (show s < 2147483648 by omega)).mp hs
    omega
  subst es
  rcases c11 with ⟨c11, -⟩ | ⟨-, len, kd, a1, a2, a3, φ, N, H, K, g1, g2, g3⟩
  · omega
  have mk : ∀ a, a ≤ len → C (92 + 71 * t) 3 = nI a → Stk C D t (H a) → Ctl C D t (C a2) (C a3) len φ N (N a) → (s' = 1 → nl (N a) = 0) → (s' = 2 → 1 ≤ nl (N a) ∧ Ins C D rc t (nl (N a)) ∧ D 556 t = nI (nl (N a)) ∧ C (92 + 71 * t) 14 = D 560 t ∧ C (92 + 71 * t) 16 = D 564 t) → D 552 t = nI (φ a) → Opn C ρ D rc t s' len kd a1 a2 a3 φ N H K a := by
    intro a q1 q2 q3 q4 q5 q6 q7
    exact ⟨g1, g2, h12, c2, c3, c4, c5, c6, c7, c8, q1, q2, q7, q3, q4, fun e => ⟨q5 e, c9 (by omega) (by omega), c10 (by omega)⟩, q6⟩
  have mv : ∀ (D' : ao_M) a, a ≤ len → C (92 + 71 * t) 3 = nI a → Stk C D t (H a) → Ctl C D t (C a2) (C a3) len φ N (N a) → (s' = 1 → nl (N a) = 0) → (s' = 2 → 1 ≤ nl (N a) ∧ Ins C D rc t (nl (N a)) ∧ D 556 t = nI (nl (N a)) ∧ C (92 + 71 * t) 14 = D 560 t ∧ C (92 + 71 * t) 16 = D 564 t) → (∀ x i, ¬ (x = 552 ∧ i = t) → D' x i = D x i) → D' 552 t = nI (φ a) → Opn C ρ D' rc t s' len kd a1 a2 a3 φ N H K a := by
    intro D' a q1 q2 q3 q4 q5 q6 hD h52
    have ed : dcd D' t = dcd D t := dcd_eq (fun i => hD _ _ (by omega))
    have e : ∀ x i, x ≠ 552 → D' x i = D x i := fun x i hx => hD x i (by omega)
    refine ⟨g1, by rw [ed]; exact g2, h12, c2, by rw [e _ _ (by omega)]; exact c3, c4, by rw [e _ _ (by omega)]; exact c5, by rw [e _ _ (by omega)]; exact c6, by rw [e _ _ (by omega)]; exact c7, fun k hk => by rw [e _ _ (by omega)]; exact c8 k hk, q1, q2, h52, ⟨q3.1, by rw [e _ _ (by omega)]; exact q3.2.1, fun i hi => by rw [e _ _ (by omega)]; exact q3.2.2 i hi⟩, ⟨q4.1, by rw [e _ _ (by omega)]; exact q4.2.1, by rw [e _ _ (by omega)]; exact q4.2.2.1, fun x hx => Ent_mv (q4.2.2.2 x hx) (fun _ => ⟨rfl, rfl, fun y y1 y2 => e _ _ (by omega)⟩) (fun _ => e _ _ (by omega)) (fun _ => ⟨rfl, rfl, fun y y1 y2 => e _ _ (by omega)⟩)⟩, fun es => ⟨q5 es, c9 (by omega) (by omega), by rw [e _ _ (by omega)]; exact c10 (by omega)⟩, fun es => ?_⟩
    obtain ⟨r1, ⟨r2, r3, hl, r4, r5, r6⟩, r7, r8, r9⟩ := q6 es
    refine ⟨r1, ⟨r2, fun j hj => ?_, hl, fun j hj => ?_, r5, r6⟩, by rw [e _ _ (by omega)]; exact r7, by rw [e _ _ (by omega)]; exact r8, by rw [e _ _ (by omega)]; exact r9⟩
    · obtain ⟨⟨l1, l2⟩, l3, l4, ⟨ps, vs, ws, l5, l6⟩⟩ := r3 j hj
      refine ⟨⟨by rw [e _ _ (by omega)]; exact l1, by rw [e _ _ (by omega)]; exact l2⟩, fun k hk => by rw [e _ _ (by omega)]; exact l3 k hk, ⟨l4.1, fun p hp => by rw [e _ _ (by omega), e _ _ (by omega)]; exact l4.2 p hp⟩, ps, vs, ws, l5, RdD_mv l6 (Nat.le_refl _) (fun p hp => ⟨e _ _ (by omega), e _ _ (by omega), e _ _ (by omega), e _ _ (by omega)⟩)⟩
    · obtain ⟨v1, v2, v3, v4⟩ := r4 j hj
      exact ⟨v1, by rw [e _ _ (by omega)]; exact v2, v3, fun i hi => by rw [e _ _ (by omega)]; exact v4 i hi⟩
  rcases h12 with rfl | rfl
  · obtain ⟨a, h1, ⟨h2, q, h3, h4, h5⟩, h6, h7, h8⟩ := g3.1 rfl
    refine ⟨len, kd, a1, a2, a3, φ, N, H, K, a, ?_⟩
    rcases h5 with h5 | ⟨h5, h5'⟩
    · exact Or.inl (mk a h1 h2 h6 h7 (fun _ => h8) (fun e => absurd e (by omega)) (by rw [h3, h5]))
    · exact Or.inr ⟨q, h4, h3, h5, h5', (g2.2.2.2.2.2.1 a h1).1, fun D' hD h52 => mv D' a h1 h2 h6 h7 (fun _ => h8) (fun e => absurd e (by omega)) hD h52⟩
  · obtain ⟨a, h1, ⟨h2, q, h3, h4, h5⟩, h6, h7, h8⟩ := g3.2.1 rfl
    refine ⟨len, kd, a1, a2, a3, φ, N, H, K, a, ?_⟩
    rcases h5 with h5 | ⟨h5, h5'⟩
    · exact Or.inl (mk a h1 h2 h6 h7 (fun e => absurd e (by omega)) (fun _ => h8) (by rw [h3, h5]))
    · exact Or.inr ⟨q, h4, h3, h5, h5', (g2.2.2.2.2.2.1 a h1).1, fun D' hD h52 => mv D' a h1 h2 h6 h7 (fun e => absurd e (by omega)) (fun _ => h8) hD h52⟩
/-- the reference takes the pending go -/
theorem d_go {σ : ao_H} {D : ao_M} {t q : Nat} {x : Int32} (hs : ShD σ) (ht : t < 6) (hq : q < 6000) (h52 : D 552 t = nI q) (h0 : dcd D t (3 * q) = 12) (h1 : dcd D t (3 * q + 1) = x) {Q : Int32 × ao_S → Prop} (p : Q (-1, ao_u D 552 t x, σ)) : hv (fun n => gX12_step n 537 (nI t) D σ) Q := by
  have e0 : D 550 ((t * 6000 + q) * 3) = 12 := by
    have := @dcd_at D t q 0 hq (by omega)
    rw [Nat.add_zero, h0, Nat.add_zero] at this
    exact this.symm
  have e1 : D 550 ((t * 6000 + q) * 3 + 1) = x := by
    have := @dcd_at D t q 1 hq (by omega)
    rw [h1] at this
    exact this.symm
  unfold gX12_step
  refine hv_up (fun _ => fX12_step.eq_2 ..) ?_
  try simp only [↓reduceIte, Nat.reduceEqDiff, Option.bind_some, ao_let, n_ell, hs, h52, e0, e1]
  try simp (disch := first | omega | assumption) only [↓reduceIte, Nat.reduceEqDiff, Option.bind_some, ao_let, t_le, f_le, t_lt, f_lt, f_eq, u_eq, u_n1, u_n2, n_cl, n_lt, n_le, n_eq, n_ltl, n_llt, n_lel, n_lle, n_eql, n_leq, n_add, n_mul, n_sub, n_addl, n_ladd, n_mull, n_lmul, n_subl, Int32.reduceLT, Int32.reduceLE, Int32.reduceAdd, Int32.reduceSub, Int32.reduceMul, Int32.reduceToNatClampNeg, not_false_eq_true, not_true_eq_false, or_false, false_or, or_self, and_self, false_and, true_and, and_false, and_true, true_or, or_true, Nat.reduceAdd, Nat.reduceMul, Nat.reduceLT, Nat.reduceLeDiff, ne_eq, n_ell, hs, h52, e0, e1]
  exact hv_some p
