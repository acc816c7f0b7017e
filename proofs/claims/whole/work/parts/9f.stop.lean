set_option linter.unusedSimpArgs false
set_option linter.unusedVariables false
/-! ===== the end of a program ===== -/
theorem st_stop {C D : ao_M} {ρ σ : ao_H} {kp rc nw bw br t s len kd a1 a2 a3 : Nat} {φ : Nat → Nat} {N : Ns} {H K : Nat → Nat} (hF : Full C ρ D σ kp rc nw bw br) (ht : t < 6) (ho : Opn C ρ D rc t s len kd a1 a2 a3 φ N H K len) :
    hv (fun n => gX2_step n 12 (92 + 71 * t) C ρ) (fun y => hv (fun n => gX12_step n 537 (nI t) D σ) (fun w => EndP kp rc nw bw br y w)) := by
  have hF' := hF
  obtain ⟨hcat, cok, tc⟩ := ho
  have hcat0 := hcat
  obtain ⟨⟨f1, f2, f3, f4⟩, -, -, -, fS, fRc, frc, fT, fB, -, fbw, fbr⟩ := hF
  obtain ⟨t1, t2, t3, t4, t5, t6, t7, t8, t9, t10, t11, t12, t13, t14, t15⟩ := tc
  have hR := RnS_of f2 ht
  obtain ⟨g0, g1, g2, g3⟩ := d_ins (C := C) (rc := rc) (s := s) cok t9
  obtain ⟨k1, k2, k3, k4, ⟨k5, k5', k5''⟩, k6, k7⟩ := cok
  rw [k5] at g1
  have es : s = 1 := by
    rcases t1 with es | es
    · exact es
    · have := (t15 es).1
      rw [k5'] at this
      simp [nl] at this
  obtain ⟨p1, p2, p3⟩ := t14 es
  clear t14 t15 t1
  obtain ⟨b1, b2, b3, b4, b5, b6, b7, b8, b9, b10, b11, b12, b13, b14, b15, b16, b17, b18⟩ := hcat
  unfold gX2_step
  refine hv_up (fun _ => fX2_step.eq_2 ..) ?_
  try simp only [↓reduceIte, Nat.reduceEqDiff, Option.bind_some, ao_let, n_ell, f1, hR, b1, b2, t10, b13]
  try simp (disch := first | omega | assumption) only [↓reduceIte, Nat.reduceEqDiff, Option.bind_some, ao_let, t_le, f_le, t_lt, f_lt, f_eq, u_eq, u_n1, u_n2, n_cl, n_lt, n_le, n_eq, n_ltl, n_llt, n_lel, n_lle, n_eql, n_leq, n_add, n_mul, n_sub, n_addl, n_ladd, n_mull, n_lmul, n_subl, Int32.reduceLT, Int32.reduceLE, Int32.reduceAdd, Int32.reduceSub, Int32.reduceMul, Int32.reduceToNatClampNeg, not_false_eq_true, not_true_eq_false, or_false, false_or, or_self, and_self, false_and, true_and, and_false, and_true, true_or, or_true, Nat.reduceAdd, Nat.reduceMul, Nat.reduceLT, Nat.reduceLeDiff, ne_eq, n_ell, f1, hR, b1, b2, t10, b13]
  refine hv_up (fun _ => fX2_step.eq_2 ..) ?_
  try simp only [↓reduceIte, Nat.reduceEqDiff, Option.bind_some, ao_let, n_ell, hR]
  try simp (disch := first | omega | assumption) only [↓reduceIte, Nat.reduceEqDiff, Option.bind_some, ao_let, t_le, f_le, t_lt, f_lt, f_eq, u_eq, u_n1, u_n2, n_cl, n_lt, n_le, n_eq, n_ltl, n_llt, n_lel, n_lle, n_eql, n_leq, n_add, n_mul, n_sub, n_addl, n_ladd, n_mull, n_lmul, n_subl, Int32.reduceLT, Int32.reduceLE, Int32.reduceAdd, Int32.reduceSub, Int32.reduceMul, Int32.reduceToNatClampNeg, not_false_eq_true, not_true_eq_false, or_false, false_or, or_self, and_self, false_and, true_and, and_false, and_true, true_or, or_true, Nat.reduceAdd, Nat.reduceMul, Nat.reduceLT, Nat.reduceLeDiff, ne_eq, n_ell, hR]
  refine hv_some ?_
  unfold gX12_step
  refine hv_up (fun _ => fX12_step.eq_2 ..) ?_
  try simp only [↓reduceIte, Nat.reduceEqDiff, Option.bind_some, ao_let, n_ell, f4, t11, g1]
  try simp (disch := first | omega | assumption) only [↓reduceIte, Nat.reduceEqDiff, Option.bind_some, ao_let, t_le, f_le, t_lt, f_lt, f_eq, u_eq, u_n1, u_n2, n_cl, n_lt, n_le, n_eq, n_ltl, n_llt, n_lel, n_lle, n_eql, n_leq, n_add, n_mul, n_sub, n_addl, n_ladd, n_mull, n_lmul, n_subl, Int32.reduceLT, Int32.reduceLE, Int32.reduceAdd, Int32.reduceSub, Int32.reduceMul, Int32.reduceToNatClampNeg, not_false_eq_true, not_true_eq_false, or_false, false_or, or_self, and_self, false_and, true_and, and_false, and_true, true_or, or_true, Nat.reduceAdd, Nat.reduceMul, Nat.reduceLT, Nat.reduceLeDiff, ne_eq, n_ell, f4, t11, g1]
  refine hv_some ⟨rfl, (show ¬ (2 : Int32) < 0 by decide), ?_⟩
  show Full (ao_u C (92 + 71 * t) 2 4) ρ (ao_u D 551 t 4) σ kp rc nw bw br
  clear f1 f2 f3 f4 hR
  have hC : ∀ x i, ¬ (x = 92 + 71 * t ∧ i = 2) → ao_u C (92 + 71 * t) 2 4 x i = C x i := fun x i q => u_ne (by omega)
  have hD : ∀ x i, ¬ (x = 551 ∧ i = t) → ao_u D 551 t 4 x i = D x i := fun x i q => u_ne (by omega)
  have c2 : ao_u C (92 + 71 * t) 2 4 (92 + 71 * t) 2 = nI 4 := u_eq
  have d51 : ao_u D 551 t 4 551 t = nI 4 := u_eq
  generalize ao_u C (92 + 71 * t) 2 4 = C' at *
  generalize ao_u D 551 t 4 = D' at *
  obtain ⟨z1, z2, z3, z4⟩ := Cat_loc hcat0 (C' := C') (fun x i hx => hC x i (by omega))
  have ed : dcd D' t = dcd D t := dcd_eq (fun i => hD _ _ (by omega))
  have hT : Thr C' ρ D' rc t := by
    refine ⟨4, by omega, c2, d51, ?_, ?_, ?_, ?_, fun k hk => ?_, fun _ _ => ?_, fun _ => ?_, Or.inr ⟨by omega, len, kd, a1, a2, a3, φ, N, H, K, z1, by rw [z2, z3, z4, ed]; exact ⟨k1, k2, k3, k4, ⟨k5, k5', k5''⟩, k6, k7⟩, fun e => absurd e (by omega), fun e => absurd e (by omega), fun e => absurd e (by omega)⟩⟩
    · rw [hC _ _ (by omega)]; exact t4
    · rw [hC _ _ (by omega), hD _ _ (by omega)]; exact t5
    · rw [hC _ _ (by omega), hD _ _ (by omega)]; exact t6
    · rw [hC _ _ (by omega), hD _ _ (by omega)]; exact t7
    · rw [hC _ _ (by omega), hD _ _ (by omega)]; exact t8 k hk
    · rw [hC _ _ (by omega)]; exact p2
    · rw [hD _ _ (by omega)]; exact p3
  have fBk : ∀ p, p < 26 → C 16 p ≠ nI t := by
    obtain ⟨-, -, -, -, -, bk, -⟩ := fB
    exact bk t ht (by rw [t2, es]; decide)
  have e8 : dpC C' t = dpC C t := by
    unfold dpC
    rw [hC _ _ (by omega)]
  have h0 : dpC C t = 0 := by
    unfold dpC
    rw [p2]; decide
  refine Full_gen hF' ht (fun x i q1 q2 => hC x i (by omega)) (fun x i q1 q2 q3 => hD x i ?_) (by rw [hD _ _ (by omega)]; exact frc) (Nat.le_refl _) (Rsd_fr fS (fun x i q1 q2 => hC x i (by omega)) (hD _ _ (by omega)) (fun x i q => hD x i (by omega))) (Rrc_fr fRc (fun x i q1 q2 => hC x i (by omega)) (hD _ _ (by omega)) (fun x i q1 q2 => hD x i (by omega))) (Bth_out fB ht (hD _ _ (by omega)) (fun p hp => ⟨by rw [hC _ _ (by omega)]; exact fBk p hp, Or.inl (hC _ _ (by omega))⟩) (fun u hu hne => ⟨hC _ _ (by omega), hC _ _ (by omega), hD _ _ (by omega)⟩) ?_) hT (by rw [e8, h0]; exact Nat.le_refl _) (by rw [e8, h0]; exact Nat.le_refl _) (Nat.le_refl _) fbw fbr
  · rintro ⟨rfl, rfl⟩
    exact q3 ⟨by omega, by omega, by show i * 1 ≤ i; omega, by show i < (i + 1) * 1; omega⟩
  · rw [c2]
    decide
