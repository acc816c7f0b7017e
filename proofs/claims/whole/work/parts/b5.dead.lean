set_option linter.unusedSimpArgs false
set_option linter.unusedVariables false
section Stb5
variable {C D : ao_M} {ρ σ : ao_H} {kp rc nw bw br t s len kd a1 a2 a3 a : Nat} {φ : Nat → Nat} {N : Ns} {H K : Nat → Nat}
set_option maxHeartbeats 2000000 in
theorem st_dead1 (hF : Full C ρ D σ kp rc nw bw br) (ht : t < 6) (ho : Opn C ρ D rc t s len kd a1 a2 a3 φ N H K a) (ha : a < len) (h : C a1 a = 20 ∧ dcd D t (3 * φ a) = 19 ∧ H a = 1) (es : s = 1) (hnt : nt (N a) = 0) :
    hv (fun n => gX2_step n 12 (92 + 71 * t) C ρ) (fun y => hv (fun n => gX12_step n 537 (nI t) D σ) (fun w => EndE nw bw br y w)) := by
  subst es
  obtain ⟨v, pc, pd⟩ := fail_pre hF ht ho ha h
  have hF' := hF
  obtain ⟨hcat, cok, tc⟩ := ho
  have hcat0 := hcat
  obtain ⟨⟨f1, f2, f3, f4⟩, -, -, -, fS, fRc, frc, fT, fB, -, fbw, fbr⟩ := hF
  obtain ⟨t1, t2, t3, t4, t5, t6, t7, t8, t9, t10, t11, t12, t13, t14, t15⟩ := tc
  have hR := RnS_of f2 ht
  obtain ⟨p1, p2, p3⟩ := t14 rfl
  have q11 : C (92 + 71 * t) 11 = nI 0 := by rw [← hnt]; exact t13.1
  have q58 : D 558 t = nI 0 := by rw [← hnt]; exact t13.2.1
  clear t1 t12 t13 t14 t15
  have fin : EndE nw bw br (5, ao_u (ao_u (ao_u (ao_u C (92 + 71 * t) 3 (nI (a + 1))) (92 + 71 * t) 5 0) (92 + 71 * t) 2 5) (92 + 71 * t) 19 v, ρ) (5, ao_u (ao_u (ao_u (ao_u (ao_u D 555 t 0) 555 t 0) 556 t 0) 551 t 5) 561 t v, σ) := by
    have hC : ∀ x i, ¬ (x = 92 + 71 * t ∧ (i = 2 ∨ i = 3 ∨ i = 5 ∨ i = 19)) → ao_u (ao_u (ao_u (ao_u C (92 + 71 * t) 3 (nI (a + 1))) (92 + 71 * t) 5 0) (92 + 71 * t) 2 5) (92 + 71 * t) 19 v x i = C x i := fun x i q => by simp (disch := omega) only [u_ne]
    have hD : ∀ x i, ¬ (i = t ∧ (x = 551 ∨ x = 555 ∨ x = 556 ∨ x = 561)) → ao_u (ao_u (ao_u (ao_u (ao_u D 555 t 0) 555 t 0) 556 t 0) 551 t 5) 561 t v x i = D x i := fun x i q => by simp (disch := omega) only [u_ne]
    have c2 : ao_u (ao_u (ao_u (ao_u C (92 + 71 * t) 3 (nI (a + 1))) (92 + 71 * t) 5 0) (92 + 71 * t) 2 5) (92 + 71 * t) 19 v (92 + 71 * t) 2 = 5 := by simp (disch := omega) only [u_ne, u_eq]
    have c19 : ao_u (ao_u (ao_u (ao_u C (92 + 71 * t) 3 (nI (a + 1))) (92 + 71 * t) 5 0) (92 + 71 * t) 2 5) (92 + 71 * t) 19 v (92 + 71 * t) 19 = v := u_eq
    have d51 : ao_u (ao_u (ao_u (ao_u (ao_u D 555 t 0) 555 t 0) 556 t 0) 551 t 5) 561 t v 551 t = 5 := by simp (disch := omega) only [u_ne, u_eq]
    have d56 : ao_u (ao_u (ao_u (ao_u (ao_u D 555 t 0) 555 t 0) 556 t 0) 551 t 5) 561 t v 556 t = 0 := by simp (disch := omega) only [u_ne, u_eq]
    have d61 : ao_u (ao_u (ao_u (ao_u (ao_u D 555 t 0) 555 t 0) 556 t 0) 551 t 5) 561 t v 561 t = v := u_eq
    generalize ao_u (ao_u (ao_u (ao_u C (92 + 71 * t) 3 (nI (a + 1))) (92 + 71 * t) 5 0) (92 + 71 * t) 2 5) (92 + 71 * t) 19 v = C' at hC c2 c19 ⊢
    generalize ao_u (ao_u (ao_u (ao_u (ao_u D 555 t 0) 555 t 0) 556 t 0) 551 t 5) 561 t v = D' at hD d51 d56 d61 ⊢
    clear f1 f2 f3 f4 hR pc pd
    obtain ⟨z1, z2, z3, z4⟩ := Cat_loc hcat0 (C' := C') (fun x i hx => hC x i (by omega))
    have ed : dcd D' t = dcd D t := dcd_eq (fun i => hD _ _ (by omega))
    have hT : Thr C' ρ D' rc t := Thr5 z1 (by rw [z2, z3, z4, ed]; exact cok) c2 d51 (by rw [hC _ _ (by omega)]; exact t4) (by rw [hC _ _ (by omega), hD _ _ (by omega)]; exact t5) (by rw [hC _ _ (by omega), hD _ _ (by omega)]; exact t6) (by rw [c19, d61]) (fun k hk => by rw [hC _ _ (by omega), hD _ _ (by omega)]; exact t8 k hk) (by rw [hC _ _ (by omega)]; exact p2) d56
    have fBk : ∀ p, p < 26 → C 16 p ≠ nI t := by
      obtain ⟨-, -, -, -, -, bk, -⟩ := fB
      exact bk t ht (by rw [t2]; decide)
    have e8 : dpC C' t = dpC C t := by
      unfold dpC
      rw [hC _ _ (by omega)]
    have h0 : dpC C t = 0 := by
      unfold dpC
      rw [p2]; decide
    refine ⟨kp, rc, rfl, (show ¬ (5 : Int32) < 0 by decide), ?_⟩
    show Full C' ρ D' σ kp rc nw bw br
    refine Full_gen hF' ht (fun x i q1 q2 => hC x i (by omega)) (fun x i q1 q2 q3 => hD x i ?_) (by rw [hD _ _ (by omega)]; exact frc) (Nat.le_refl _) (Rsd_fr fS (fun x i q1 q2 => hC x i (by omega)) (hD _ _ (by omega)) (fun x i q => hD x i (by omega))) (Rrc_fr fRc (fun x i q1 q2 => hC x i (by omega)) (hD _ _ (by omega)) (fun x i q1 q2 => hD x i (by omega))) (Bth_out fB ht (hD _ _ (by omega)) (fun p hp => ⟨by rw [hC _ _ (by omega)]; exact fBk p hp, Or.inl (hC _ _ (by omega))⟩) (fun u hu hne => ⟨hC _ _ (by omega), hC _ _ (by omega), hD _ _ (by omega)⟩) (by rw [c2]; decide)) hT (by rw [e8, h0]; exact Nat.le_refl _) (by rw [e8, h0]; exact Nat.le_refl _) (Nat.le_refl _) fbw fbr
    obtain ⟨u1, -⟩ := wd_of q3
    rintro ⟨q4, q5⟩
    exact u1 (by omega) q4
  refine pc _ ?_
  unfold gX2_fail
  refine hv_up (fun _ => fX2_fail.eq_2 ..) ?_
  try simp only [↓reduceIte, Nat.reduceEqDiff, Option.bind_some, ao_let, n_ell, hR, q11, n_z1, n_g2, f1]
  try simp (disch := first | omega | assumption) only [↓reduceIte, Nat.reduceEqDiff, Option.bind_some, ao_let, t_le, f_le, t_lt, f_lt, f_eq, u_eq, u_n1, u_n2, n_cl, n_lt, n_le, n_eq, n_ltl, n_llt, n_lel, n_lle, n_eql, n_leq, n_add, n_mul, n_sub, n_addl, n_ladd, n_mull, n_lmul, n_subl, Int32.reduceLT, Int32.reduceLE, Int32.reduceAdd, Int32.reduceSub, Int32.reduceMul, Int32.reduceToNatClampNeg, not_false_eq_true, not_true_eq_false, or_false, false_or, or_self, and_self, false_and, true_and, and_false, and_true, true_or, or_true, Nat.reduceAdd, Nat.reduceMul, Nat.reduceLT, Nat.reduceLeDiff, ne_eq, n_ell, hR, q11, n_z1, n_g2, f1]
  refine hv_bind (P := fun y => y = (ao_u (ao_u C (92 + 71 * t) 3 (nI (a + 1))) (92 + 71 * t) 5 0, ρ)) ?_ ?_
  · unfold gX2_leaveFrom
    refine hv_up (fun _ => fX2_leaveFrom.eq_2 ..) ?_
    try simp only [↓reduceIte, Nat.reduceEqDiff, Option.bind_some, ao_let, n_ell, hR, p2]
    try simp (disch := first | omega | assumption) only [↓reduceIte, Nat.reduceEqDiff, Option.bind_some, ao_let, t_le, f_le, t_lt, f_lt, f_eq, u_eq, u_n1, u_n2, n_cl, n_lt, n_le, n_eq, n_ltl, n_llt, n_lel, n_lle, n_eql, n_leq, n_add, n_mul, n_sub, n_addl, n_ladd, n_mull, n_lmul, n_subl, Int32.reduceLT, Int32.reduceLE, Int32.reduceAdd, Int32.reduceSub, Int32.reduceMul, Int32.reduceToNatClampNeg, not_false_eq_true, not_true_eq_false, or_false, false_or, or_self, and_self, false_and, true_and, and_false, and_true, true_or, or_true, Nat.reduceAdd, Nat.reduceMul, Nat.reduceLT, Nat.reduceLeDiff, ne_eq, n_ell, hR, p2]
    exact hv_some rfl
  rintro _ rfl
  refine hv_up (fun _ => fX2_fail.eq_2 ..) ?_
  try simp only [↓reduceIte, Nat.reduceEqDiff, Option.bind_some, ao_let, n_ell, hR]
  try simp (disch := first | omega | assumption) only [↓reduceIte, Nat.reduceEqDiff, Option.bind_some, ao_let, t_le, f_le, t_lt, f_lt, f_eq, u_eq, u_n1, u_n2, n_cl, n_lt, n_le, n_eq, n_ltl, n_llt, n_lel, n_lle, n_eql, n_leq, n_add, n_mul, n_sub, n_addl, n_ladd, n_mull, n_lmul, n_subl, Int32.reduceLT, Int32.reduceLE, Int32.reduceAdd, Int32.reduceSub, Int32.reduceMul, Int32.reduceToNatClampNeg, not_false_eq_true, not_true_eq_false, or_false, false_or, or_self, and_self, false_and, true_and, and_false, and_true, true_or, or_true, Nat.reduceAdd, Nat.reduceMul, Nat.reduceLT, Nat.reduceLeDiff, ne_eq, n_ell, hR]
  refine hv_some (pd _ ?_)
  generalize EndE nw bw br (5, ao_u (ao_u (ao_u (ao_u C (92 + 71 * t) 3 (nI (a + 1))) (92 + 71 * t) 5 0) (92 + 71 * t) 2 5) (92 + 71 * t) 19 v, ρ) = P at fin ⊢
  clear pc pd
  have le0 : (nI 0 ≤ 0) = True := by decide
  have e00 : (nI 0 = 0) = True := by decide
  unfold gX12_fail
  refine hv_up (fun _ => fX12_fail.eq_2 ..) ?_
  try simp only [↓reduceIte, Nat.reduceEqDiff, Option.bind_some, ao_let, n_ell, f4, q58, le0]
  try simp (disch := first | omega | assumption) only [↓reduceIte, Nat.reduceEqDiff, Option.bind_some, ao_let, t_le, f_le, t_lt, f_lt, f_eq, u_eq, u_n1, u_n2, n_cl, n_lt, n_le, n_eq, n_ltl, n_llt, n_lel, n_lle, n_eql, n_leq, n_add, n_mul, n_sub, n_addl, n_ladd, n_mull, n_lmul, n_subl, Int32.reduceLT, Int32.reduceLE, Int32.reduceAdd, Int32.reduceSub, Int32.reduceMul, Int32.reduceToNatClampNeg, not_false_eq_true, not_true_eq_false, or_false, false_or, or_self, and_self, false_and, true_and, and_false, and_true, true_or, or_true, Nat.reduceAdd, Nat.reduceMul, Nat.reduceLT, Nat.reduceLeDiff, ne_eq, n_ell, f4, q58, le0]
  refine hv_up (fun _ => fX12_fail.eq_2 ..) ?_
  try simp only [↓reduceIte, Nat.reduceEqDiff, Option.bind_some, ao_let, n_ell, f4, p3]
  try simp (disch := first | omega | assumption) only [↓reduceIte, Nat.reduceEqDiff, Option.bind_some, ao_let, t_le, f_le, t_lt, f_lt, f_eq, u_eq, u_n1, u_n2, n_cl, n_lt, n_le, n_eq, n_ltl, n_llt, n_lel, n_lle, n_eql, n_leq, n_add, n_mul, n_sub, n_addl, n_ladd, n_mull, n_lmul, n_subl, Int32.reduceLT, Int32.reduceLE, Int32.reduceAdd, Int32.reduceSub, Int32.reduceMul, Int32.reduceToNatClampNeg, not_false_eq_true, not_true_eq_false, or_false, false_or, or_self, and_self, false_and, true_and, and_false, and_true, true_or, or_true, Nat.reduceAdd, Nat.reduceMul, Nat.reduceLT, Nat.reduceLeDiff, ne_eq, n_ell, f4, p3]
  refine hv_up (fun _ => fX12_fail.eq_2 ..) ?_
  simp only [↓reduceIte, Nat.reduceEqDiff, f4]
  refine hv_bind (P := fun y => y = ao_u (ao_u D 555 t 0) 555 t 0) ?_ ?_
  · unfold gX12_takeBackTo
    refine hv_up (fun _ => fX12_takeBackTo.eq_2 ..) ?_
    try simp only [↓reduceIte, Nat.reduceEqDiff, Option.bind_some, ao_let, n_ell, f4, p3]
    try simp (disch := first | omega | assumption) only [↓reduceIte, Nat.reduceEqDiff, Option.bind_some, ao_let, t_le, f_le, t_lt, f_lt, f_eq, u_eq, u_n1, u_n2, n_cl, n_lt, n_le, n_eq, n_ltl, n_llt, n_lel, n_lle, n_eql, n_leq, n_add, n_mul, n_sub, n_addl, n_ladd, n_mull, n_lmul, n_subl, Int32.reduceLT, Int32.reduceLE, Int32.reduceAdd, Int32.reduceSub, Int32.reduceMul, Int32.reduceToNatClampNeg, not_false_eq_true, not_true_eq_false, or_false, false_or, or_self, and_self, false_and, true_and, and_false, and_true, true_or, or_true, Nat.reduceAdd, Nat.reduceMul, Nat.reduceLT, Nat.reduceLeDiff, ne_eq, n_ell, f4, p3]
    refine hv_up (fun _ => fX12_takeBackTo.eq_2 ..) ?_
    try simp only [↓reduceIte, Nat.reduceEqDiff, Option.bind_some, ao_let, n_ell, f4, show ((0 : Int32) - 1 < 0) = True from by decide]
    try simp (disch := first | omega | assumption) only [↓reduceIte, Nat.reduceEqDiff, Option.bind_some, ao_let, t_le, f_le, t_lt, f_lt, f_eq, u_eq, u_n1, u_n2, n_cl, n_lt, n_le, n_eq, n_ltl, n_llt, n_lel, n_lle, n_eql, n_leq, n_add, n_mul, n_sub, n_addl, n_ladd, n_mull, n_lmul, n_subl, Int32.reduceLT, Int32.reduceLE, Int32.reduceAdd, Int32.reduceSub, Int32.reduceMul, Int32.reduceToNatClampNeg, not_false_eq_true, not_true_eq_false, or_false, false_or, or_self, and_self, false_and, true_and, and_false, and_true, true_or, or_true, Nat.reduceAdd, Nat.reduceMul, Nat.reduceLT, Nat.reduceLeDiff, ne_eq, n_ell, f4, show ((0 : Int32) - 1 < 0) = True from by decide]
    exact hv_some rfl
  rintro _ rfl
  try simp only [↓reduceIte, Nat.reduceEqDiff, Option.bind_some, ao_let, n_ell, f4]
  try simp (disch := first | omega | assumption) only [↓reduceIte, Nat.reduceEqDiff, Option.bind_some, ao_let, t_le, f_le, t_lt, f_lt, f_eq, u_eq, u_n1, u_n2, n_cl, n_lt, n_le, n_eq, n_ltl, n_llt, n_lel, n_lle, n_eql, n_leq, n_add, n_mul, n_sub, n_addl, n_ladd, n_mull, n_lmul, n_subl, Int32.reduceLT, Int32.reduceLE, Int32.reduceAdd, Int32.reduceSub, Int32.reduceMul, Int32.reduceToNatClampNeg, not_false_eq_true, not_true_eq_false, or_false, false_or, or_self, and_self, false_and, true_and, and_false, and_true, true_or, or_true, Nat.reduceAdd, Nat.reduceMul, Nat.reduceLT, Nat.reduceLeDiff, ne_eq, n_ell, f4]
  refine hv_up (fun _ => fX12_fail.eq_2 ..) ?_
  try simp only [↓reduceIte, Nat.reduceEqDiff, Option.bind_some, ao_let, n_ell, f4, q58, e00]
  try simp (disch := first | omega | assumption) only [↓reduceIte, Nat.reduceEqDiff, Option.bind_some, ao_let, t_le, f_le, t_lt, f_lt, f_eq, u_eq, u_n1, u_n2, n_cl, n_lt, n_le, n_eq, n_ltl, n_llt, n_lel, n_lle, n_eql, n_leq, n_add, n_mul, n_sub, n_addl, n_ladd, n_mull, n_lmul, n_subl, Int32.reduceLT, Int32.reduceLE, Int32.reduceAdd, Int32.reduceSub, Int32.reduceMul, Int32.reduceToNatClampNeg, not_false_eq_true, not_true_eq_false, or_false, false_or, or_self, and_self, false_and, true_and, and_false, and_true, true_or, or_true, Nat.reduceAdd, Nat.reduceMul, Nat.reduceLT, Nat.reduceLeDiff, ne_eq, n_ell, f4, q58, e00]
  exact hv_some fin
end Stb5
