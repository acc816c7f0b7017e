set_option linter.unusedSimpArgs false
set_option linter.unusedVariables false
section Stb2
variable {C D : ao_M} {ρ σ : ao_H} {kp rc nw bw br t s len kd a1 a2 a3 a : Nat} {φ : Nat → Nat} {N : Ns} {H K : Nat → Nat}
/-- both go on, with new numbers -/
def GoE (nw bw br t len kd a1 a2 a3 : Nat) (φ : Nat → Nat) (N : Ns) (H K : Nat → Nat) (a : Nat) (y w : Int32 × ao_S) : Prop := y.1 = -1 ∧ w.1 = -1 ∧ ∃ kp' rc' s' a', K a < K a' ∧ Full y.2.1 y.2.2 w.2.1 w.2.2 kp' rc' nw bw br ∧ Opn y.2.1 y.2.2 w.2.1 rc' t s' len kd a1 a2 a3 φ N H K a'
/-- down to fail -/
theorem fail_pre (hF : Full C ρ D σ kp rc nw bw br) (ht : t < 6) (ho : Opn C ρ D rc t s len kd a1 a2 a3 φ N H K a) (ha : a < len) (h : C a1 a = 20 ∧ dcd D t (3 * φ a) = 19 ∧ H a = 1) :
    ∃ v, adv (fun n => gX2_step n 12 (92 + 71 * t) C ρ) (fun n => gX2_fail n 12 (92 + 71 * t) v (ao_u (ao_u C (92 + 71 * t) 3 (nI (a + 1))) (92 + 71 * t) 5 0) ρ) ∧ adv (fun n => gX12_step n 537 (nI t) D σ) (fun n => gX12_fail n 537 (nI t) v (ao_u D 555 t 0) σ) := by
  obtain ⟨i1, i2, i3⟩ := h
  obtain ⟨hcat, cok, tc⟩ := ho
  obtain ⟨⟨f1, f2, f3, f4⟩, -⟩ := hF
  obtain ⟨t1, t2, t3, t4, t5, t6, t7, t8, t9, t10, t11, t12, t13, t14, t15⟩ := tc
  have hR := RnS_of f2 ht
  obtain ⟨g0, g1, g2, g3⟩ := d_ins (C := C) (rc := rc) (s := s) cok t9
  rw [i2] at g1
  rw [i3] at t12
  have hlen := cok.1
  obtain ⟨b1, b2, b3, b4, b5, b6, b7, b8, b9, b10, b11, b12, b13, b14, b15, b16, b17, b18⟩ := hcat
  have ev0 := t12.2.2 0 (by omega)
  obtain ⟨hst5, hst55, -⟩ := t12
  clear t1 t13 t14 t15 cok
  refine ⟨D 554 (t * 64 + 0), fun Q hQ => ?_, fun Q hQ => ?_⟩
  · unfold gX2_step
    refine hv_up (fun _ => fX2_step.eq_2 ..) ?_
    try simp only [↓reduceIte, Nat.reduceEqDiff, Option.bind_some, ao_let, n_ell, f1, hR, b1, b2, b3, b4, b5, b6, b7, b8, b9, b10, b11, b12, b13, t10, i1]
    try simp (disch := first | omega | assumption) only [↓reduceIte, Nat.reduceEqDiff, Option.bind_some, ao_let, t_le, f_le, t_lt, f_lt, f_eq, u_eq, u_n1, u_n2, n_cl, n_lt, n_le, n_eq, n_ltl, n_llt, n_lel, n_lle, n_eql, n_leq, n_add, n_mul, n_sub, n_addl, n_ladd, n_mull, n_lmul, n_subl, Int32.reduceLT, Int32.reduceLE, Int32.reduceAdd, Int32.reduceSub, Int32.reduceMul, Int32.reduceToNatClampNeg, not_false_eq_true, not_true_eq_false, or_false, false_or, or_self, and_self, false_and, true_and, and_false, and_true, true_or, or_true, Nat.reduceAdd, Nat.reduceMul, Nat.reduceLT, Nat.reduceLeDiff, ne_eq, n_ell, f1, hR, b1, b2, b3, b4, b5, b6, b7, b8, b9, b10, b11, b12, b13, t10, i1]
    rw [c_pop (h := 0) hR (by rw [u_n2 (by omega)]; exact hst5) (by omega)]
    rw [u_n1 (by omega), ev0]
    try simp only [↓reduceIte, Nat.reduceEqDiff, Option.bind_some, ao_let, n_ell, n_00]
    try simp (disch := first | omega | assumption) only [↓reduceIte, Nat.reduceEqDiff, Option.bind_some, ao_let, t_le, f_le, t_lt, f_lt, f_eq, u_eq, u_n1, u_n2, n_cl, n_lt, n_le, n_eq, n_ltl, n_llt, n_lel, n_lle, n_eql, n_leq, n_add, n_mul, n_sub, n_addl, n_ladd, n_mull, n_lmul, n_subl, Int32.reduceLT, Int32.reduceLE, Int32.reduceAdd, Int32.reduceSub, Int32.reduceMul, Int32.reduceToNatClampNeg, not_false_eq_true, not_true_eq_false, or_false, false_or, or_self, and_self, false_and, true_and, and_false, and_true, true_or, or_true, Nat.reduceAdd, Nat.reduceMul, Nat.reduceLT, Nat.reduceLeDiff, ne_eq, n_ell, n_00]
    refine hv_bind hQ ?_
    intro y hy
    refine hv_up (fun _ => fX2_step.eq_2 ..) ?_
    try simp only [↓reduceIte, Nat.reduceEqDiff, Option.bind_some, ao_let, n_ell]
    try simp (disch := first | omega | assumption) only [↓reduceIte, Nat.reduceEqDiff, Option.bind_some, ao_let, t_le, f_le, t_lt, f_lt, f_eq, u_eq, u_n1, u_n2, n_cl, n_lt, n_le, n_eq, n_ltl, n_llt, n_lel, n_lle, n_eql, n_leq, n_add, n_mul, n_sub, n_addl, n_ladd, n_mull, n_lmul, n_subl, Int32.reduceLT, Int32.reduceLE, Int32.reduceAdd, Int32.reduceSub, Int32.reduceMul, Int32.reduceToNatClampNeg, not_false_eq_true, not_true_eq_false, or_false, false_or, or_self, and_self, false_and, true_and, and_false, and_true, true_or, or_true, Nat.reduceAdd, Nat.reduceMul, Nat.reduceLT, Nat.reduceLeDiff, ne_eq, n_ell]
    exact hv_some hy
  · unfold gX12_step
    refine hv_up (fun _ => fX12_step.eq_2 ..) ?_
    try simp only [↓reduceIte, Nat.reduceEqDiff, Option.bind_some, ao_let, n_ell, f4, t11, g1, d_pop (h := 0) f4 ht hst55 (by omega), n_00]
    try simp (disch := first | omega | assumption) only [↓reduceIte, Nat.reduceEqDiff, Option.bind_some, ao_let, t_le, f_le, t_lt, f_lt, f_eq, u_eq, u_n1, u_n2, n_cl, n_lt, n_le, n_eq, n_ltl, n_llt, n_lel, n_lle, n_eql, n_leq, n_add, n_mul, n_sub, n_addl, n_ladd, n_mull, n_lmul, n_subl, Int32.reduceLT, Int32.reduceLE, Int32.reduceAdd, Int32.reduceSub, Int32.reduceMul, Int32.reduceToNatClampNeg, not_false_eq_true, not_true_eq_false, or_false, false_or, or_self, and_self, false_and, true_and, and_false, and_true, true_or, or_true, Nat.reduceAdd, Nat.reduceMul, Nat.reduceLT, Nat.reduceLeDiff, ne_eq, n_ell, f4, t11, g1, d_pop (h := 0) f4 ht hst55 (by omega), n_00]
    refine hv_bind hQ ?_
    intro y hy
    refine hv_up (fun _ => fX12_step.eq_2 ..) ?_
    try simp only [↓reduceIte, Nat.reduceEqDiff, Option.bind_some, ao_let, n_ell]
    try simp (disch := first | omega | assumption) only [↓reduceIte, Nat.reduceEqDiff, Option.bind_some, ao_let, t_le, f_le, t_lt, f_lt, f_eq, u_eq, u_n1, u_n2, n_cl, n_lt, n_le, n_eq, n_ltl, n_llt, n_lel, n_lle, n_eql, n_leq, n_add, n_mul, n_sub, n_addl, n_ladd, n_mull, n_lmul, n_subl, Int32.reduceLT, Int32.reduceLE, Int32.reduceAdd, Int32.reduceSub, Int32.reduceMul, Int32.reduceToNatClampNeg, not_false_eq_true, not_true_eq_false, or_false, false_or, or_self, and_self, false_and, true_and, and_false, and_true, true_or, or_true, Nat.reduceAdd, Nat.reduceMul, Nat.reduceLT, Nat.reduceLeDiff, ne_eq, n_ell]
    exact hv_some hy
/-- the try that catches -/
theorem try_of (cok : Cok (C a1) (C a2) (C a3) (dcd D t) len φ N H K) (tc : Tc C D rc t s (C a2) (C a3) len φ N H a) (hnt : 1 ≤ nt (N a)) : ∃ b T r, b < len ∧ nt (N b) + 1 = nt (N a) ∧ nl (N b) ≤ nl (N a) ∧ (∀ e, e ∈ (2, b) :: N b → e ∈ N a) ∧ (∀ k, nl (N b) ≤ k → k < nl (N a) → ∃ b', b' < len ∧ C a1 b' = 16 ∧ nl (N b') = k ∧ (∀ e, e ∈ (0, b') :: N b' → e ∈ N a) ∧ nt (N b') = nt (N a) ∧ ∀ e, e ∈ (2, b) :: N b → e ∈ N b') ∧ C a2 b = nI T ∧ C a3 b = nI r ∧ r < 26 ∧ T ≤ len ∧ N T = N b ∧ H T = 0 ∧ φ T < 6000 ∧ ns (N b) ≤ 10 ∧ nt (N b) < 10 ∧ nl (N b) ≤ 10 ∧
    C (92 + 71 * t + 68) (nt (N b)) = nI b ∧ C (92 + 71 * t + 69) (nt (N b)) = nI (nl (N b)) ∧ D 566 (t * 12 + nt (N b)) = nI (φ T) ∧ D 567 (t * 12 + nt (N b)) = nI r ∧ D 568 (t * 12 + nt (N b)) = nI (nl (N b)) ∧ D 569 (t * 12 + nt (N b)) = nI (ns (N b)) := by
  obtain ⟨t1, t2, t3, t4, t5, t6, t7, t8, t9, t10, t11, t12, t13, t14, t15⟩ := tc
  have hka := cok.2.2.2.2.2.1 a t9
  obtain ⟨b, g1, g2, g3, g4, g5, g6⟩ := try_at (N a) hka.2.2.2 hnt
  obtain ⟨T, r, q1, q2, q3, q4, q5, q6⟩ := ins_21 (cok.2.2.2.2.2.2 b g1) g2
  obtain ⟨e1, e2, ⟨T', e3, e4, e5⟩, e6, -, e8, e9⟩ := (t13.2.2.2 (2, b) (g5 _ (by simp))).2.2 rfl
  dsimp only at e1 e2 e4 e5 e6 e8 e9
  have hlen := cok.1
  have : T' = T := by
    rw [q1] at e4
    have := (n_eq (show T < 2147483648 by omega) (show T' < 2147483648 by omega)).mp e4
    omega
  subst this
  have hφ := (cok.2.2.2.2.2.1 T' q4).1
  have l1 := @nl_le (N b)
  have l2 := @ns_le (N b)
  have l3 := @nt_le (N a)
  have hb10 := (cok.2.2.2.2.2.1 b (by omega)).2.1
  have ha10 := hka.2.1
  exact ⟨b, T', r, g1, g3, g4, g5, g6, q1, q2, q3, q4, q5, q6, by omega, by omega, by omega, by omega, e1, e2, e5, by rw [e6]; exact q2, e8, e9⟩
/-- the class catches -/
theorem c_catch {C2 : ao_M} {ρ2 : ao_H} {v : Int32} {i b T r : Nat} {Q : Int32 × ao_S → Prop} (f2 : ShB ρ2) (ht : t < 6) (hcat : Cat C2 ρ2 t len kd a1 a2 a3) (hlen : len ≤ 1000) (hb : b < len) (hr : r < 26) (e2 : C2 a2 b = nI T) (e3 : C2 a3 b = nI r) (hQ : Q (-1, ao_u (ao_u (ao_u C2 (92 + 71 * t) 11 (nI i)) (92 + 71 * t + 6) r v) (92 + 71 * t) 3 (nI T), ρ2)) : hv (fun n => fX2_fail n 46 12 (92 + 71 * t) v (nI i) (nI b) C2 ρ2) Q := by
  have hR := RnS_of f2 ht
  obtain ⟨b1, b2, b3, b4, b5, b6, b7, b8, b9, b10, b11, b12, b13, b14, b15, b16, b17, b18⟩ := hcat
  refine hv_up (fun _ => fX2_fail.eq_2 ..) ?_
  try simp only [↓reduceIte, Nat.reduceEqDiff, Option.bind_some, ao_let, n_ell, hR, b1, b2, gX1_secondAt, gX1_firstAt, gX2_setRegister, b12, b4, b5, b7, b8, b10, b11, e2, e3]
  try simp (disch := first | omega | assumption) only [↓reduceIte, Nat.reduceEqDiff, Option.bind_some, ao_let, t_le, f_le, t_lt, f_lt, f_eq, u_eq, u_n1, u_n2, n_cl, n_lt, n_le, n_eq, n_ltl, n_llt, n_lel, n_lle, n_eql, n_leq, n_add, n_mul, n_sub, n_addl, n_ladd, n_mull, n_lmul, n_subl, Int32.reduceLT, Int32.reduceLE, Int32.reduceAdd, Int32.reduceSub, Int32.reduceMul, Int32.reduceToNatClampNeg, not_false_eq_true, not_true_eq_false, or_false, false_or, or_self, and_self, false_and, true_and, and_false, and_true, true_or, or_true, Nat.reduceAdd, Nat.reduceMul, Nat.reduceLT, Nat.reduceLeDiff, ne_eq, n_ell, hR, b1, b2, gX1_secondAt, gX1_firstAt, gX2_setRegister, b12, b4, b5, b7, b8, b10, b11, e2, e3]
  exact hv_some hQ
/-- the reference catches -/
theorem d_catch {D2 : ao_M} {σ2 : ao_H} {v x3 x4 : Int32} {i q n1 r : Nat} {Q : Int32 × ao_S → Prop} (f4 : ShD σ2) (ht : t < 6) (hi : i < 10) (hr : r < 26) (h58 : D2 558 t = nI (i + 1)) (h66 : D2 566 (t * 12 + i) = nI q) (h67 : D2 567 (t * 12 + i) = nI r) (h69 : D2 569 (t * 12 + i) = nI n1) (hQ : Q (-1, ao_u (ao_u (ao_u (ao_u D2 558 t (nI i)) 557 t (nI n1)) 552 t (nI q)) 553 (t * 26 + r) v, σ2)) : hv (fun n => fX12_fail n 76 537 (nI t) v x3 x4 0 D2 σ2) Q := by
  refine hv_up (fun _ => fX12_fail.eq_2 ..) ?_
  try simp only [↓reduceIte, Nat.reduceEqDiff, Option.bind_some, ao_let, n_ell, f4, h58, gX12_level, Nat.add_sub_cancel, h66, h67, h69]
  try simp (disch := first | omega | assumption) only [↓reduceIte, Nat.reduceEqDiff, Option.bind_some, ao_let, t_le, f_le, t_lt, f_lt, f_eq, u_eq, u_n1, u_n2, n_cl, n_lt, n_le, n_eq, n_ltl, n_llt, n_lel, n_lle, n_eql, n_leq, n_add, n_mul, n_sub, n_addl, n_ladd, n_mull, n_lmul, n_subl, Int32.reduceLT, Int32.reduceLE, Int32.reduceAdd, Int32.reduceSub, Int32.reduceMul, Int32.reduceToNatClampNeg, not_false_eq_true, not_true_eq_false, or_false, false_or, or_self, and_self, false_and, true_and, and_false, and_true, true_or, or_true, Nat.reduceAdd, Nat.reduceMul, Nat.reduceLT, Nat.reduceLeDiff, ne_eq, n_ell, f4, h58, gX12_level, Nat.add_sub_cancel, h66, h67, h69]
  exact hv_some hQ
set_option maxHeartbeats 2000000 in
/-- a try of the level where it stands -/
theorem st_fail_in (hF : Full C ρ D σ kp rc nw bw br) (ht : t < 6) (ho : Opn C ρ D rc t s len kd a1 a2 a3 φ N H K a) (ha : a < len) (h : C a1 a = 20 ∧ dcd D t (3 * φ a) = 19 ∧ H a = 1 ∧ ∀ b, (2, b) ∈ N a → ∀ T, C a2 b = nI T → T ≤ len → K a < K T) (hnt : 1 ≤ nt (N a)) (hdn : ∀ b, b < len → nt (N b) + 1 = nt (N a) → (2, b) ∈ N a → nl (N b) = nl (N a)) :
    hv (fun n => gX2_step n 12 (92 + 71 * t) C ρ) (fun y => hv (fun n => gX12_step n 537 (nI t) D σ) (fun w => GoE nw bw br t len kd a1 a2 a3 φ N H K a y w)) := by
  obtain ⟨i1, i2, i3, i4⟩ := h
  obtain ⟨v, pc, pd⟩ := fail_pre hF ht ho ha ⟨i1, i2, i3⟩
  have ho' := ho
  have hF' := hF
  obtain ⟨hcat, cok, tc⟩ := ho
  obtain ⟨⟨f1, f2, f3, f4⟩, -⟩ := hF
  obtain ⟨b, T, r, y1, y2, y3, y4, -, y5, y6, y7, y8, y9, y10, y11, y12, y13, y14, y15, y16, y17, y18, y19, y20⟩ := try_of cok tc hnt
  have hbn := hdn b y1 y2 (y4 _ (by simp))
  obtain ⟨t1, t2, t3, t4, t5, t6, t7, t8, t9, t10, t11, t12, t13, t14, t15⟩ := tc
  have hR := RnS_of f2 ht
  have hlen := cok.1
  have h8 : C (92 + 71 * t) 8 = nI (nl (N b)) ∧ D 556 t = nI (nl (N b)) := by
    rw [hbn]
    rcases t1 with es | es
    · obtain ⟨q1, q2, q3⟩ := t14 es
      rw [q1, q2, q3]
      exact ⟨rfl, rfl⟩
    · obtain ⟨q1, q2, q3, q4, q5⟩ := t15 es
      exact ⟨q2.1, q3⟩
  have q11 : C (92 + 71 * t) 11 = nI (nt (N b) + 1) := by rw [y2]; exact t13.1
  have q58 : D 558 t = nI (nt (N b) + 1) := by rw [y2]; exact t13.2.1
  obtain ⟨z14, z15, z16, z17⟩ := Cat_b hcat
  have fin : GoE nw bw br t len kd a1 a2 a3 φ N H K a (-1, ao_u (ao_u (ao_u (ao_u (ao_u C (92 + 71 * t) 3 (nI (a + 1))) (92 + 71 * t) 5 0) (92 + 71 * t) 11 (nI (nt (N b)))) (92 + 71 * t + 6) r v) (92 + 71 * t) 3 (nI T), ρ) (-1, ao_u (ao_u (ao_u (ao_u (ao_u (ao_u (ao_u D 555 t 0) 555 t 0) 556 t (nI (nl (N b)))) 558 t (nI (nt (N b)))) 557 t (nI (ns (N b)))) 552 t (nI (φ T))) 553 (t * 26 + r) v, σ) := by
    refine ⟨rfl, rfl, kp, rc, s, T, i4 b (y4 _ (by simp)) T y5 y8, ?_⟩
    refine catch_go (b := b) (T := T) (r := r) (v := v) hF' ht ho' y4 hbn y8 y9 y10 y7 (fun x i q1 q2 q3 => ?_) (fun x i q1 q2 q3 => ?_) ?_ ?_ ?_ ?_ ?_ ?_ ?_ ?_ ?_
    · dsimp only
      simp (disch := omega) only [u_ne]
    · dsimp only
      by_cases e : x = 556 ∧ i = t
      · obtain ⟨rfl, rfl⟩ := e
        simp (disch := omega) only [u_ne, u_eq]
        exact h8.2.symm
      · simp (disch := omega) only [u_ne]
    · dsimp only
      simp (disch := omega) only [u_ne, u_eq]
    · dsimp only
      simp (disch := omega) only [u_ne, u_eq]
    · dsimp only
      simp (disch := omega) only [u_ne, u_eq]
    · dsimp only
      simp (disch := omega) only [u_ne, u_eq]
    · dsimp only
      simp (disch := omega) only [u_ne, u_eq]
    · dsimp only
      simp (disch := omega) only [u_ne, u_eq]
    · dsimp only
      simp (disch := omega) only [u_ne, u_eq]
    · dsimp only
      simp (disch := omega) only [u_ne, u_eq]
    · dsimp only
      simp (disch := omega) only [u_ne, u_eq]
  clear t1 t13 t14 t15 cok i4 hdn y4
  refine pc _ ?_
  unfold gX2_fail
  refine hv_up (fun _ => fX2_fail.eq_2 ..) ?_
  try simp only [↓reduceIte, Nat.reduceEqDiff, Option.bind_some, ao_let, n_ell, hR, q11, Nat.add_sub_cancel, gX7_tryAtOf, gX7_tryDepthOf, y15, y16, f1]
  try simp (disch := first | omega | assumption) only [↓reduceIte, Nat.reduceEqDiff, Option.bind_some, ao_let, t_le, f_le, t_lt, f_lt, f_eq, u_eq, u_n1, u_n2, n_cl, n_lt, n_le, n_eq, n_ltl, n_llt, n_lel, n_lle, n_eql, n_leq, n_add, n_mul, n_sub, n_addl, n_ladd, n_mull, n_lmul, n_subl, Int32.reduceLT, Int32.reduceLE, Int32.reduceAdd, Int32.reduceSub, Int32.reduceMul, Int32.reduceToNatClampNeg, not_false_eq_true, not_true_eq_false, or_false, false_or, or_self, and_self, false_and, true_and, and_false, and_true, true_or, or_true, Nat.reduceAdd, Nat.reduceMul, Nat.reduceLT, Nat.reduceLeDiff, ne_eq, n_ell, hR, q11, Nat.add_sub_cancel, gX7_tryAtOf, gX7_tryDepthOf, y15, y16, f1]
  refine hv_bind (P := fun y => y = (ao_u (ao_u C (92 + 71 * t) 3 (nI (a + 1))) (92 + 71 * t) 5 0, ρ)) ?_ ?_
  · unfold gX2_leaveFrom
    refine hv_up (fun _ => fX2_leaveFrom.eq_2 ..) ?_
    have h81 := h8.1
    try simp only [↓reduceIte, Nat.reduceEqDiff, Option.bind_some, ao_let, n_ell, hR, h81]
    try simp (disch := first | omega | assumption) only [↓reduceIte, Nat.reduceEqDiff, Option.bind_some, ao_let, t_le, f_le, t_lt, f_lt, f_eq, u_eq, u_n1, u_n2, n_cl, n_lt, n_le, n_eq, n_ltl, n_llt, n_lel, n_lle, n_eql, n_leq, n_add, n_mul, n_sub, n_addl, n_ladd, n_mull, n_lmul, n_subl, Int32.reduceLT, Int32.reduceLE, Int32.reduceAdd, Int32.reduceSub, Int32.reduceMul, Int32.reduceToNatClampNeg, not_false_eq_true, not_true_eq_false, or_false, false_or, or_self, and_self, false_and, true_and, and_false, and_true, true_or, or_true, Nat.reduceAdd, Nat.reduceMul, Nat.reduceLT, Nat.reduceLeDiff, ne_eq, n_ell, hR, h81]
    exact hv_some rfl
  rintro _ rfl
  dsimp only
  refine c_catch (T := T) (r := r) (i := nt (N b)) (b := b) f2 ht (Cat_loc hcat (fun x i hx => by rw [u_n1 (by omega), u_n1 (by omega)])).1 hlen y1 y7 (by rw [u_n1 (by omega), u_n1 (by omega)]; exact y5) (by rw [u_n1 (by omega), u_n1 (by omega)]; exact y6) (pd _ ?_)
  generalize GoE nw bw br t len kd a1 a2 a3 φ N H K a (-1, ao_u (ao_u (ao_u (ao_u (ao_u C (92 + 71 * t) 3 (nI (a + 1))) (92 + 71 * t) 5 0) (92 + 71 * t) 11 (nI (nt (N b)))) (92 + 71 * t + 6) r v) (92 + 71 * t) 3 (nI T), ρ) = P at fin ⊢
  have h56 := h8.2
  clear h8
  have d76 : ∀ {x4 : Int32}, hv (fun n => fX12_fail n 76 537 (nI t) v (nI (nl (N b))) x4 0 (ao_u (ao_u (ao_u D 555 t 0) 555 t 0) 556 t (nI (nl (N b)))) σ) P := by
    intro x4
    refine d_catch (i := nt (N b)) (q := φ T) (n1 := ns (N b)) (r := r) f4 ht (by omega) y7 ?_ ?_ ?_ ?_ fin
    · simp (disch := omega) only [u_ne]; exact q58
    · simp (disch := omega) only [u_ne]; exact y17
    · simp (disch := omega) only [u_ne]; exact y18
    · simp (disch := omega) only [u_ne]; exact y20
  have dtb : hv (fun n => gX12_takeBackTo n 537 (nI t) (nI (nl (N b))) 1 (ao_u D 555 t 0) σ) (fun y => y = ao_u (ao_u D 555 t 0) 555 t 0) := by
    unfold gX12_takeBackTo
    refine hv_up (fun _ => fX12_takeBackTo.eq_2 ..) ?_
    try simp only [↓reduceIte, Nat.reduceEqDiff, Option.bind_some, ao_let, n_ell, f4, h56]
    try simp (disch := first | omega | assumption) only [↓reduceIte, Nat.reduceEqDiff, Option.bind_some, ao_let, t_le, f_le, t_lt, f_lt, f_eq, u_eq, u_n1, u_n2, n_cl, n_lt, n_le, n_eq, n_ltl, n_llt, n_lel, n_lle, n_eql, n_leq, n_add, n_mul, n_sub, n_addl, n_ladd, n_mull, n_lmul, n_subl, Int32.reduceLT, Int32.reduceLE, Int32.reduceAdd, Int32.reduceSub, Int32.reduceMul, Int32.reduceToNatClampNeg, not_false_eq_true, not_true_eq_false, or_false, false_or, or_self, and_self, false_and, true_and, and_false, and_true, true_or, or_true, Nat.reduceAdd, Nat.reduceMul, Nat.reduceLT, Nat.reduceLeDiff, ne_eq, n_ell, f4, h56]
    refine hv_up (fun _ => fX12_takeBackTo.eq_2 ..) ?_
    have hlt : (nI (nl (N b)) - 1 < nI (nl (N b))) = True := eq_true (pre_lt _ (by omega))
    try simp only [↓reduceIte, Nat.reduceEqDiff, Option.bind_some, ao_let, n_ell, f4, hlt]
    try simp (disch := first | omega | assumption) only [↓reduceIte, Nat.reduceEqDiff, Option.bind_some, ao_let, t_le, f_le, t_lt, f_lt, f_eq, u_eq, u_n1, u_n2, n_cl, n_lt, n_le, n_eq, n_ltl, n_llt, n_lel, n_lle, n_eql, n_leq, n_add, n_mul, n_sub, n_addl, n_ladd, n_mull, n_lmul, n_subl, Int32.reduceLT, Int32.reduceLE, Int32.reduceAdd, Int32.reduceSub, Int32.reduceMul, Int32.reduceToNatClampNeg, not_false_eq_true, not_true_eq_false, or_false, false_or, or_self, and_self, false_and, true_and, and_false, and_true, true_or, or_true, Nat.reduceAdd, Nat.reduceMul, Nat.reduceLT, Nat.reduceLeDiff, ne_eq, n_ell, f4, hlt]
    exact hv_some rfl
  have d46 : ∀ {s0 : Int32}, (s0 = 0 ∨ s0 = 1 ∧ nl (N b) ≠ 0) → hv (fun n => fX12_fail n 46 537 (nI t) v (nI (nl (N b))) 0 s0 (ao_u D 555 t 0) σ) P := by
    intro s0 hs0
    have := @d76 s0
    refine hv_up (fun _ => fX12_fail.eq_2 ..) ?_
    simp only [↓reduceIte, Nat.reduceEqDiff, f4]
    refine hv_bind (P := fun y => y = ao_u (ao_u D 555 t 0) 555 t 0) dtb ?_
    rintro _ rfl
    rcases hs0 with rfl | ⟨rfl, hne⟩
    · clear dtb d76 fin
      try simp only [↓reduceIte, Nat.reduceEqDiff, Option.bind_some, ao_let, n_ell, f4]
      try simp (disch := first | omega | assumption) only [↓reduceIte, Nat.reduceEqDiff, Option.bind_some, ao_let, t_le, f_le, t_lt, f_lt, f_eq, u_eq, u_n1, u_n2, n_cl, n_lt, n_le, n_eq, n_ltl, n_llt, n_lel, n_lle, n_eql, n_leq, n_add, n_mul, n_sub, n_addl, n_ladd, n_mull, n_lmul, n_subl, Int32.reduceLT, Int32.reduceLE, Int32.reduceAdd, Int32.reduceSub, Int32.reduceMul, Int32.reduceToNatClampNeg, not_false_eq_true, not_true_eq_false, or_false, false_or, or_self, and_self, false_and, true_and, and_false, and_true, true_or, or_true, Nat.reduceAdd, Nat.reduceMul, Nat.reduceLT, Nat.reduceLeDiff, ne_eq, n_ell, f4]
      exact this
    · have hne' : (nI (nl (N b)) = 0) = False := by
        rw [n_eql (by omega) (by decide)]
        exact eq_false hne
      clear dtb d76 fin
      try simp only [↓reduceIte, Nat.reduceEqDiff, Option.bind_some, ao_let, n_ell, f4, hne', show ((1 : Int32) = 0) = False from by decide]
      try simp (disch := first | omega | assumption) only [↓reduceIte, Nat.reduceEqDiff, Option.bind_some, ao_let, t_le, f_le, t_lt, f_lt, f_eq, u_eq, u_n1, u_n2, n_cl, n_lt, n_le, n_eq, n_ltl, n_llt, n_lel, n_lle, n_eql, n_leq, n_add, n_mul, n_sub, n_addl, n_ladd, n_mull, n_lmul, n_subl, Int32.reduceLT, Int32.reduceLE, Int32.reduceAdd, Int32.reduceSub, Int32.reduceMul, Int32.reduceToNatClampNeg, not_false_eq_true, not_true_eq_false, or_false, false_or, or_self, and_self, false_and, true_and, and_false, and_true, true_or, or_true, Nat.reduceAdd, Nat.reduceMul, Nat.reduceLT, Nat.reduceLeDiff, ne_eq, n_ell, f4, hne', show ((1 : Int32) = 0) = False from by decide]
      exact this
  unfold gX12_fail
  refine hv_up (fun _ => fX12_fail.eq_2 ..) ?_
  try simp only [↓reduceIte, Nat.reduceEqDiff, Option.bind_some, ao_let, n_ell, f4, q58, gX12_level, Nat.add_sub_cancel, y19]
  try simp (disch := first | omega | assumption) only [↓reduceIte, Nat.reduceEqDiff, Option.bind_some, ao_let, t_le, f_le, t_lt, f_lt, f_eq, u_eq, u_n1, u_n2, n_cl, n_lt, n_le, n_eq, n_ltl, n_llt, n_lel, n_lle, n_eql, n_leq, n_add, n_mul, n_sub, n_addl, n_ladd, n_mull, n_lmul, n_subl, Int32.reduceLT, Int32.reduceLE, Int32.reduceAdd, Int32.reduceSub, Int32.reduceMul, Int32.reduceToNatClampNeg, not_false_eq_true, not_true_eq_false, or_false, false_or, or_self, and_self, false_and, true_and, and_false, and_true, true_or, or_true, Nat.reduceAdd, Nat.reduceMul, Nat.reduceLT, Nat.reduceLeDiff, ne_eq, n_ell, f4, q58, gX12_level, Nat.add_sub_cancel, y19]
  refine hv_up (fun _ => fX12_fail.eq_2 ..) ?_
  by_cases e0 : nl (N b) = 0
  · have := d46 (Or.inl rfl)
    clear d46 d76 dtb fin
    rw [e0] at h56 this ⊢
    try simp only [↓reduceIte, Nat.reduceEqDiff, Option.bind_some, ao_let, n_ell, f4, h56]
    try simp (disch := first | omega | assumption) only [↓reduceIte, Nat.reduceEqDiff, Option.bind_some, ao_let, t_le, f_le, t_lt, f_lt, f_eq, u_eq, u_n1, u_n2, n_cl, n_lt, n_le, n_eq, n_ltl, n_llt, n_lel, n_lle, n_eql, n_leq, n_add, n_mul, n_sub, n_addl, n_ladd, n_mull, n_lmul, n_subl, Int32.reduceLT, Int32.reduceLE, Int32.reduceAdd, Int32.reduceSub, Int32.reduceMul, Int32.reduceToNatClampNeg, not_false_eq_true, not_true_eq_false, or_false, false_or, or_self, and_self, false_and, true_and, and_false, and_true, true_or, or_true, Nat.reduceAdd, Nat.reduceMul, Nat.reduceLT, Nat.reduceLeDiff, ne_eq, n_ell, f4, h56]
    exact this
  · have := d46 (Or.inr ⟨rfl, e0⟩)
    clear d46 d76 dtb fin
    try simp only [↓reduceIte, Nat.reduceEqDiff, Option.bind_some, ao_let, n_ell, f4, h56]
    try simp (disch := first | omega | assumption) only [↓reduceIte, Nat.reduceEqDiff, Option.bind_some, ao_let, t_le, f_le, t_lt, f_lt, f_eq, u_eq, u_n1, u_n2, n_cl, n_lt, n_le, n_eq, n_ltl, n_llt, n_lel, n_lle, n_eql, n_leq, n_add, n_mul, n_sub, n_addl, n_ladd, n_mull, n_lmul, n_subl, Int32.reduceLT, Int32.reduceLE, Int32.reduceAdd, Int32.reduceSub, Int32.reduceMul, Int32.reduceToNatClampNeg, not_false_eq_true, not_true_eq_false, or_false, false_or, or_self, and_self, false_and, true_and, and_false, and_true, true_or, or_true, Nat.reduceAdd, Nat.reduceMul, Nat.reduceLT, Nat.reduceLeDiff, ne_eq, n_ell, f4, h56]
    exact this
end Stb2
