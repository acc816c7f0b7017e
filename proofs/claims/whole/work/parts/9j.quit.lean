set_option linter.unusedSimpArgs false
set_option linter.unusedVariables false
section Sta
variable {C D : ao_M} {ρ σ : ao_H} {kp rc nw bw br t s len kd a1 a2 a3 a : Nat} {φ : Nat → Nat} {N : Ns} {H K : Nat → Nat}
set_option maxHeartbeats 4000000 in
theorem st_quit2 (hF : Full C ρ D σ kp rc nw bw br) (ht : t < 6) (ho : Opn C ρ D rc t s len kd a1 a2 a3 φ N H K a) (ha : a < len) (h : C a1 a = 19 ∧ dcd D t (3 * φ a) = 18 ∧ H a = 0) (h2 : 2 ≤ nl (N a)) :
    hv (fun n => gX2_step n 12 (92 + 71 * t) C ρ) (fun y => hv (fun n => gX12_step n 537 (nI t) D σ) (fun w => ∃ rc', EndP kp rc' nw bw br y w)) := by
  obtain ⟨i1, i2, i3⟩ := h
  have ho' := ho
  have hF' := hF
  obtain ⟨hcat, cok, tc⟩ := ho
  obtain ⟨⟨f1, f2, f3, f4⟩, -⟩ := hF
  obtain ⟨t1, t2, t3, t4, t5, t6, t7, t8, t9, t10, t11, t12, t13, t14, t15⟩ := tc
  have hR := RnS_of f2 ht
  have hh := (cok.2.2.2.2.2.1 a t9).2.2.1
  obtain ⟨g0, g1, g2, g3⟩ := d_ins (C := C) (rc := rc) (s := s) cok t9
  have h8 : C (92 + 71 * t) 8 = nI (nl (N a)) ∧ D 556 t = nI (nl (N a)) := by
    rcases t1 with es | es
    · obtain ⟨q1, q2, q3⟩ := t14 es
      rw [q1, q2, q3]
      exact ⟨rfl, rfl⟩
    · obtain ⟨q1, q2, q3, q4, q5⟩ := t15 es
      exact ⟨q2.1, q3⟩
  have hch := (cok.2.2.2.2.2.1 a t9).2.2.2
  have hlt := chd_lt (N a) hch
  have hbd := chd_b (fun i hi => (cok.2.2.2.2.2.1 i hi).2.1) (N a) hch (cok.2.2.2.2.2.1 a t9).2.1
  have hlen := cok.1
  have hlna := (cok.2.2.2.2.2.1 a t9).2.1
  have hlnb := (cok.2.2.2.2.2.1 (a + 1) (by omega)).2.1
  have nl1 := @nl_le (N a)
  have ns1 := @ns_le (N a)
  have nt1 := @nt_le (N a)
  obtain ⟨q11, q58, q57, qE⟩ := t13
  obtain ⟨b1, b2, b3, b4, b5, b6, b7, b8, b9, b10, b11, b12, b13, b14, b15, b16, b17, b18⟩ := hcat
  have hcat0 := ho'.1
  rw [i2] at g1
  have es : s = 2 := by
    rcases t1 with es | es
    · have := (t14 es).1; omega
    · exact es
  obtain ⟨w1, wI, w3, w4, w5⟩ := t15 es
  obtain ⟨w2, wL, wH⟩ := wI
  clear t14 t15 t1
  obtain ⟨j, ej⟩ : ∃ j, nl (N a) = j + 2 := ⟨nl (N a) - 2, by omega⟩
  rw [ej] at w2 wL wH w3
  obtain ⟨b, bl, bop, bnl, bmem⟩ := nest_at (N a) (j + 1) hch (by omega)
  obtain ⟨e1, e2, e3, -, ⟨B, eB1, eB2, eB3⟩, e6, e7, -⟩ := (qE (0, b) (bmem _ (by simp))).1 rfl
  dsimp only at e1 e2 e3 eB2 eB3 e6 e7
  rw [bnl] at e1 e2 e3 eB3 e6 e7
  obtain ⟨-, -, -, -, -, -, BB, rr, mm, q1, -, q3, q4, q5, -, -, -, -⟩ := ins_16 (cok.2.2.2.2.2.2 b bl) bop
  have eBB : BB = B := by
    rw [q1] at eB2
    have := (n_eq (show BB < 2147483648 by omega) (show B < 2147483648 by omega)).mp eB2
    omega
  subst eBB
  have nsb := @ns_le (N b)
  have ntb := @nt_le (N b)
  have hlb := (cok.2.2.2.2.2.1 b (by omega)).2.1
  have hφB := (cok.2.2.2.2.2.1 BB q3).1
  have hf11 : Full C ρ D σ kp rc nw bw br := hF'
  obtain ⟨-, fR, ⟨fw, -⟩, -, fS, fRc, frc, -, fB, ⟨-, -, fer⟩, fbw, fbr⟩ := hf11
  have hrc0 : rc ≤ 100000000 := by omega
  clear fer
  have hl1 := LvS_of f2 ht (show j + 1 < 10 by omega)
  have hrd : ∀ i, i < j + 2 → Rd (ao_u C (92 + 71 * t) 3 (nI (a + 1))) D rc t i := fun i hi => by
    obtain ⟨-, -, -, ⟨ps, vs, ws, r1, r2⟩⟩ := wL i hi
    exact ⟨ps, vs, ws, RdC_mv r1 (u_n1 (by omega)) (u_n1 (by omega)) (fun k => ⟨u_n1 (by omega), u_n1 (by omega), u_n1 (by omega)⟩), r2⟩
  have hI8 : Ins (ao_u C (92 + 71 * t) 3 (nI (a + 1))) D rc t (j + 2) := by
    refine ⟨by rw [u_n2 (by omega)]; exact w2, fun i hi => ?_, ?_⟩
    · obtain ⟨l1, l2, l3, -⟩ := wL i hi
      exact ⟨by rw [u_n1 (by omega)]; exact l1, fun k hk => by rw [u_n1 (by omega)]; exact l2 k hk, ⟨fun p hp => by rw [u_n1 (by omega)]; exact l3.1 p hp, fun p hp => by rw [u_n1 (by omega), u_n1 (by omega)]; exact l3.2 p hp⟩, hrd i hi⟩
    · obtain ⟨hl, v1, v2, v3⟩ := wH
      exact ⟨hl, fun i hi => ⟨(v1 i hi).1, (v1 i hi).2.1, by rw [u_n1 (by omega)]; exact (v1 i hi).2.2.1, (v1 i hi).2.2.2⟩, by rw [u_n2 (by omega)]; exact v2, fun i hi h200 => by rw [u_n1 (by omega)]; exact v3 i hi h200⟩
  -- the class
  unfold gX2_step
  refine hv_up (fun _ => fX2_step.eq_2 ..) ?_
  try simp only [↓reduceIte, Nat.reduceEqDiff, Option.bind_some, ao_let, n_ell, f1, hR, b1, b2, b3, b4, b5, b6, b7, b8, b9, b10, b11, b12, b13, t10, i1]
  try simp (disch := first | omega | assumption) only [↓reduceIte, Nat.reduceEqDiff, Option.bind_some, ao_let, t_le, f_le, t_lt, f_lt, f_eq, u_eq, u_n1, u_n2, n_cl, n_lt, n_le, n_eq, n_ltl, n_llt, n_lel, n_lle, n_eql, n_leq, n_add, n_mul, n_sub, n_addl, n_ladd, n_mull, n_lmul, n_subl, Int32.reduceLT, Int32.reduceLE, Int32.reduceAdd, Int32.reduceSub, Int32.reduceMul, Int32.reduceToNatClampNeg, not_false_eq_true, not_true_eq_false, or_false, false_or, or_self, and_self, false_and, true_and, and_false, and_true, true_or, or_true, Nat.reduceAdd, Nat.reduceMul, Nat.reduceLT, Nat.reduceLeDiff, ne_eq, n_ell, f1, hR, b1, b2, b3, b4, b5, b6, b7, b8, b9, b10, b11, b12, b13, t10, i1]
  refine hv_bind (P := fun y => hv (fun n => gX12_step n 537 (nI t) D σ) (fun w => ∃ rc', EndP kp rc' nw bw br y w)) ?_ ?_
  rotate_left 1
  · intro y hy
    refine hv_up (fun _ => fX2_step.eq_2 ..) ?_
    try simp only [↓reduceIte, Nat.reduceEqDiff, Option.bind_some, ao_let, n_ell]
    try simp (disch := first | omega | assumption) only [↓reduceIte, Nat.reduceEqDiff, Option.bind_some, ao_let, t_le, f_le, t_lt, f_lt, f_eq, u_eq, u_n1, u_n2, n_cl, n_lt, n_le, n_eq, n_ltl, n_llt, n_lel, n_lle, n_eql, n_leq, n_add, n_mul, n_sub, n_addl, n_ladd, n_mull, n_lmul, n_subl, Int32.reduceLT, Int32.reduceLE, Int32.reduceAdd, Int32.reduceSub, Int32.reduceMul, Int32.reduceToNatClampNeg, not_false_eq_true, not_true_eq_false, or_false, false_or, or_self, and_self, false_and, true_and, and_false, and_true, true_or, or_true, Nat.reduceAdd, Nat.reduceMul, Nat.reduceLT, Nat.reduceLeDiff, ne_eq, n_ell]
    exact hv_some hy
  unfold gX2_quit
  refine hv_up (fun _ => fX2_quit.eq_2 ..) ?_
  try simp only [↓reduceIte, Nat.reduceEqDiff, Option.bind_some, ao_let, n_ell, hR, w2, b1]
  try simp (disch := first | omega | assumption) only [↓reduceIte, Nat.reduceEqDiff, Option.bind_some, ao_let, t_le, f_le, t_lt, f_lt, f_eq, u_eq, u_n1, u_n2, n_cl, n_lt, n_le, n_eq, n_ltl, n_llt, n_lel, n_lle, n_eql, n_leq, n_add, n_mul, n_sub, n_addl, n_ladd, n_mull, n_lmul, n_subl, Int32.reduceLT, Int32.reduceLE, Int32.reduceAdd, Int32.reduceSub, Int32.reduceMul, Int32.reduceToNatClampNeg, not_false_eq_true, not_true_eq_false, or_false, false_or, or_self, and_self, false_and, true_and, and_false, and_true, true_or, or_true, Nat.reduceAdd, Nat.reduceMul, Nat.reduceLT, Nat.reduceLeDiff, ne_eq, n_ell, hR, w2, b1]
  refine hv_bind (P := fun y => y = (92 + 71 * t + 8 + 6 * (j + 1), ao_u C (92 + 71 * t) 3 (nI (a + 1)))) ?_ ?_
  · unfold gX7_innermost
    try simp only [↓reduceIte, Nat.reduceEqDiff, Option.bind_some, ao_let, n_ell, hR, w2]
    try simp (disch := first | omega | assumption) only [↓reduceIte, Nat.reduceEqDiff, Option.bind_some, ao_let, t_le, f_le, t_lt, f_lt, f_eq, u_eq, u_n1, u_n2, n_cl, n_lt, n_le, n_eq, n_ltl, n_llt, n_lel, n_lle, n_eql, n_leq, n_add, n_mul, n_sub, n_addl, n_ladd, n_mull, n_lmul, n_subl, Int32.reduceLT, Int32.reduceLE, Int32.reduceAdd, Int32.reduceSub, Int32.reduceMul, Int32.reduceToNatClampNeg, not_false_eq_true, not_true_eq_false, or_false, false_or, or_self, and_self, false_and, true_and, and_false, and_true, true_or, or_true, Nat.reduceAdd, Nat.reduceMul, Nat.reduceLT, Nat.reduceLeDiff, ne_eq, n_ell, hR, w2]
    refine hv_bind (P := fun y => y = (92 + 71 * t + 8 + 6 * (j + 1), ao_u C (92 + 71 * t) 3 (nI (a + 1)))) (c_level f2 ht (by omega) _ rfl) ?_
    rintro _ rfl
    exact hv_some rfl
  rintro _ rfl
  try simp only [↓reduceIte, Nat.reduceEqDiff, Option.bind_some, ao_let, n_ell, f1, hl1, b2, gX1_secondAt, e1, b12, b5, b8, b11, eB2, w2]
  try simp (disch := first | omega | assumption) only [↓reduceIte, Nat.reduceEqDiff, Option.bind_some, ao_let, t_le, f_le, t_lt, f_lt, f_eq, u_eq, u_n1, u_n2, n_cl, n_lt, n_le, n_eq, n_ltl, n_llt, n_lel, n_lle, n_eql, n_leq, n_add, n_mul, n_sub, n_addl, n_ladd, n_mull, n_lmul, n_subl, Int32.reduceLT, Int32.reduceLE, Int32.reduceAdd, Int32.reduceSub, Int32.reduceMul, Int32.reduceToNatClampNeg, not_false_eq_true, not_true_eq_false, or_false, false_or, or_self, and_self, false_and, true_and, and_false, and_true, true_or, or_true, Nat.reduceAdd, Nat.reduceMul, Nat.reduceLT, Nat.reduceLeDiff, ne_eq, n_ell, f1, hl1, b2, gX1_secondAt, e1, b12, b5, b8, b11, eB2, w2]
  refine hv_bind (P := fun y => y.2 = ρ ∧ hv (fun n => gX12_step n 537 (nI t) D σ) (fun w => ∃ rc', EndP kp rc' nw bw br (0, ao_u y.1 (92 + 71 * t) 3 (nI BB), ρ) w)) ?_ ?_
  rotate_left 1
  · rintro ⟨y1, y2⟩ ⟨hy2, hy⟩
    have hy3 := hy2.symm
    dsimp only at hy3 hy
    subst hy3
    refine hv_up (fun _ => fX2_quit.eq_2 ..) ?_
    try simp only [↓reduceIte, Nat.reduceEqDiff, Option.bind_some, ao_let, n_ell, hR]
    try simp (disch := first | omega | assumption) only [↓reduceIte, Nat.reduceEqDiff, Option.bind_some, ao_let, t_le, f_le, t_lt, f_lt, f_eq, u_eq, u_n1, u_n2, n_cl, n_lt, n_le, n_eq, n_ltl, n_llt, n_lel, n_lle, n_eql, n_leq, n_add, n_mul, n_sub, n_addl, n_ladd, n_mull, n_lmul, n_subl, Int32.reduceLT, Int32.reduceLE, Int32.reduceAdd, Int32.reduceSub, Int32.reduceMul, Int32.reduceToNatClampNeg, not_false_eq_true, not_true_eq_false, or_false, false_or, or_self, and_self, false_and, true_and, and_false, and_true, true_or, or_true, Nat.reduceAdd, Nat.reduceMul, Nat.reduceLT, Nat.reduceLeDiff, ne_eq, n_ell, hR]
    exact hv_some hy
  unfold gX2_leaveFrom
  refine hv_up (fun _ => fX2_leaveFrom.eq_2 ..) ?_
  try simp only [↓reduceIte, Nat.reduceEqDiff, Option.bind_some, ao_let, n_ell, hR, w2, f1]
  try simp (disch := first | omega | assumption) only [↓reduceIte, Nat.reduceEqDiff, Option.bind_some, ao_let, t_le, f_le, t_lt, f_lt, f_eq, u_eq, u_n1, u_n2, n_cl, n_lt, n_le, n_eq, n_ltl, n_llt, n_lel, n_lle, n_eql, n_leq, n_add, n_mul, n_sub, n_addl, n_ladd, n_mull, n_lmul, n_subl, Int32.reduceLT, Int32.reduceLE, Int32.reduceAdd, Int32.reduceSub, Int32.reduceMul, Int32.reduceToNatClampNeg, not_false_eq_true, not_true_eq_false, or_false, false_or, or_self, and_self, false_and, true_and, and_false, and_true, true_or, or_true, Nat.reduceAdd, Nat.reduceMul, Nat.reduceLT, Nat.reduceLeDiff, ne_eq, n_ell, hR, w2, f1]
  have hrc9 : rc + 260 < 2147483648 := by omega
  have j21 : j + 2 - 1 = j + 1 := by omega
  refine hv_bind (fold_pair (l := j + 1) (dp := j + 2) f2 f4 ht (by omega) (by omega) _ (Or.inl (by first | rfl | exact n_pre.symm)) hI8.1 w3 hrd frc hrc9) ?_
  rintro C1 ⟨Nn, D1, eD1, hf⟩
  rw [show j + 2 - (j + 1) = 1 by omega] at hf
  have hf' := hf
  obtain ⟨rc1, a1', a2', a3', a4', a5', a6', a7', a8'⟩ := hf'
  have c1 : ∀ x i, (x < 92 + 71 * t + 8 ∨ 92 + 71 * t + 68 ≤ x) → C1 x i = ao_u C (92 + 71 * t) 3 (nI (a + 1)) x i := fun x i hx => a5' x i (by
    rintro ⟨k, h1, h2⟩
    omega)
  have c18 : C1 (92 + 71 * t) 8 = nI (j + 2) := by rw [c1 _ _ (by omega), u_n2 (by omega)]; exact w2
  have ee : decide (C1 12 5 = 3 ∨ C1 12 5 = 4) = decide (D 537 27 = 3 ∨ D 537 27 = 4) := by rw [c1 _ _ (by omega), u_n1 (by omega), fw]
  generalize hee : decide (D 537 27 = 3 ∨ D 537 27 = 4) = e at hf ee a6'
  try simp only [↓reduceIte, Nat.reduceEqDiff, Option.bind_some, ao_let, n_ell, f1]
  try simp (disch := first | omega | assumption) only [↓reduceIte, Nat.reduceEqDiff, Option.bind_some, ao_let, t_le, f_le, t_lt, f_lt, f_eq, u_eq, u_n1, u_n2, n_cl, n_lt, n_le, n_eq, n_ltl, n_llt, n_lel, n_lle, n_eql, n_leq, n_add, n_mul, n_sub, n_addl, n_ladd, n_mull, n_lmul, n_subl, Int32.reduceLT, Int32.reduceLE, Int32.reduceAdd, Int32.reduceSub, Int32.reduceMul, Int32.reduceToNatClampNeg, not_false_eq_true, not_true_eq_false, or_false, false_or, or_self, and_self, false_and, true_and, and_false, and_true, true_or, or_true, Nat.reduceAdd, Nat.reduceMul, Nat.reduceLT, Nat.reduceLeDiff, ne_eq, n_ell, f1]
  refine hv_bind (P := fun y => y = cTB e t (j + 1) 1 C1) (c_back (k := j + 1) (dp := j + 2) f1 f2 ht (by omega) (by omega) C1 c18 (by rw [ee, show j + 2 - (j + 1) = 1 by omega])) ?_
  rintro _ rfl
  try simp only [↓reduceIte, Nat.reduceEqDiff, Option.bind_some, ao_let, n_ell, j21]
  try simp (disch := first | omega | assumption) only [↓reduceIte, Nat.reduceEqDiff, Option.bind_some, ao_let, t_le, f_le, t_lt, f_lt, f_eq, u_eq, u_n1, u_n2, n_cl, n_lt, n_le, n_eq, n_ltl, n_llt, n_lel, n_lle, n_eql, n_leq, n_add, n_mul, n_sub, n_addl, n_ladd, n_mull, n_lmul, n_subl, Int32.reduceLT, Int32.reduceLE, Int32.reduceAdd, Int32.reduceSub, Int32.reduceMul, Int32.reduceToNatClampNeg, not_false_eq_true, not_true_eq_false, or_false, false_or, or_self, and_self, false_and, true_and, and_false, and_true, true_or, or_true, Nat.reduceAdd, Nat.reduceMul, Nat.reduceLT, Nat.reduceLeDiff, ne_eq, n_ell, j21]
  refine hv_some ⟨rfl, ?_⟩
  dsimp only
  try simp only [j21]
  -- the reference
  have d0 : ∀ x, 570 ≤ x → x ≤ 574 → D1 x (t * 12 + (j + 1)) = D x (t * 12 + (j + 1)) := fun x h1 h2 => by
    rw [a6' _ _ (by omega) (by omega) (by omega) (by omega) (by omega), dTB_n (by omega) (by omega) (by omega)]
  unfold gX12_step
  refine hv_up (fun _ => fX12_step.eq_2 ..) ?_
  try simp only [↓reduceIte, Nat.reduceEqDiff, Option.bind_some, ao_let, n_ell, f4, t11, g1]
  try simp (disch := first | omega | assumption) only [↓reduceIte, Nat.reduceEqDiff, Option.bind_some, ao_let, t_le, f_le, t_lt, f_lt, f_eq, u_eq, u_n1, u_n2, n_cl, n_lt, n_le, n_eq, n_ltl, n_llt, n_lel, n_lle, n_eql, n_leq, n_add, n_mul, n_sub, n_addl, n_ladd, n_mull, n_lmul, n_subl, Int32.reduceLT, Int32.reduceLE, Int32.reduceAdd, Int32.reduceSub, Int32.reduceMul, Int32.reduceToNatClampNeg, not_false_eq_true, not_true_eq_false, or_false, false_or, or_self, and_self, false_and, true_and, and_false, and_true, true_or, or_true, Nat.reduceAdd, Nat.reduceMul, Nat.reduceLT, Nat.reduceLeDiff, ne_eq, n_ell, f4, t11, g1]
  refine hv_bind (P := fun y => y = (0, ao_u (ao_u (ao_u (ao_u D1 552 t (nI (φ BB))) 557 t (nI (ns (N b)))) 558 t (nI (nt (N b)))) 556 t (nI (j + 1)), σ)) ?_ ?_
  · unfold gX12_quit
    refine hv_up (fun _ => fX12_quit.eq_2 ..) ?_
    try simp only [↓reduceIte, Nat.reduceEqDiff, Option.bind_some, ao_let, n_ell, f4, w3, gX12_level, j21]
    try simp (disch := first | omega | assumption) only [↓reduceIte, Nat.reduceEqDiff, Option.bind_some, ao_let, t_le, f_le, t_lt, f_lt, f_eq, u_eq, u_n1, u_n2, n_cl, n_lt, n_le, n_eq, n_ltl, n_llt, n_lel, n_lle, n_eql, n_leq, n_add, n_mul, n_sub, n_addl, n_ladd, n_mull, n_lmul, n_subl, Int32.reduceLT, Int32.reduceLE, Int32.reduceAdd, Int32.reduceSub, Int32.reduceMul, Int32.reduceToNatClampNeg, not_false_eq_true, not_true_eq_false, or_false, false_or, or_self, and_self, false_and, true_and, and_false, and_true, true_or, or_true, Nat.reduceAdd, Nat.reduceMul, Nat.reduceLT, Nat.reduceLeDiff, ne_eq, n_ell, f4, w3, gX12_level, j21]
    refine hv_bind (P := fun y => y = D1) ⟨Nn, D1, eD1, rfl⟩ ?_
    rintro _ rfl
    try simp only [↓reduceIte, Nat.reduceEqDiff, Option.bind_some, ao_let, n_ell, f4, j21, d0, eB3, e6, e7, Nat.add_sub_cancel]
    try simp (disch := first | omega | assumption) only [↓reduceIte, Nat.reduceEqDiff, Option.bind_some, ao_let, t_le, f_le, t_lt, f_lt, f_eq, u_eq, u_n1, u_n2, n_cl, n_lt, n_le, n_eq, n_ltl, n_llt, n_lel, n_lle, n_eql, n_leq, n_add, n_mul, n_sub, n_addl, n_ladd, n_mull, n_lmul, n_subl, Int32.reduceLT, Int32.reduceLE, Int32.reduceAdd, Int32.reduceSub, Int32.reduceMul, Int32.reduceToNatClampNeg, not_false_eq_true, not_true_eq_false, or_false, false_or, or_self, and_self, false_and, true_and, and_false, and_true, true_or, or_true, Nat.reduceAdd, Nat.reduceMul, Nat.reduceLT, Nat.reduceLeDiff, ne_eq, n_ell, f4, j21, d0, eB3, e6, e7, Nat.add_sub_cancel]
    refine hv_up (fun _ => fX12_quit.eq_2 ..) ?_
    try simp only [↓reduceIte, Nat.reduceEqDiff, Option.bind_some, ao_let, n_ell]
    try simp (disch := first | omega | assumption) only [↓reduceIte, Nat.reduceEqDiff, Option.bind_some, ao_let, t_le, f_le, t_lt, f_lt, f_eq, u_eq, u_n1, u_n2, n_cl, n_lt, n_le, n_eq, n_ltl, n_llt, n_lel, n_lle, n_eql, n_leq, n_add, n_mul, n_sub, n_addl, n_ladd, n_mull, n_lmul, n_subl, Int32.reduceLT, Int32.reduceLE, Int32.reduceAdd, Int32.reduceSub, Int32.reduceMul, Int32.reduceToNatClampNeg, not_false_eq_true, not_true_eq_false, or_false, false_or, or_self, and_self, false_and, true_and, and_false, and_true, true_or, or_true, Nat.reduceAdd, Nat.reduceMul, Nat.reduceLT, Nat.reduceLeDiff, ne_eq, n_ell]
    exact hv_some rfl
  rintro _ rfl
  refine hv_up (fun _ => fX12_step.eq_2 ..) ?_
  try simp only [↓reduceIte, Nat.reduceEqDiff, Option.bind_some, ao_let, n_ell]
  try simp (disch := first | omega | assumption) only [↓reduceIte, Nat.reduceEqDiff, Option.bind_some, ao_let, t_le, f_le, t_lt, f_lt, f_eq, u_eq, u_n1, u_n2, n_cl, n_lt, n_le, n_eq, n_ltl, n_llt, n_lel, n_lle, n_eql, n_leq, n_add, n_mul, n_sub, n_addl, n_ladd, n_mull, n_lmul, n_subl, Int32.reduceLT, Int32.reduceLE, Int32.reduceAdd, Int32.reduceSub, Int32.reduceMul, Int32.reduceToNatClampNeg, not_false_eq_true, not_true_eq_false, or_false, false_or, or_self, and_self, false_and, true_and, and_false, and_true, true_or, or_true, Nat.reduceAdd, Nat.reduceMul, Nat.reduceLT, Nat.reduceLeDiff, ne_eq, n_ell]
  refine hv_some ?_
  clear f1 f2 f3 f4 hR hl1 hrd
  have hE8 : ∀ x ∈ N b, Ent (ao_u C (92 + 71 * t) 3 (nI (a + 1))) D t (C a2) (C a3) len φ N x := fun x hx => by
    obtain ⟨n1, n2, n3⟩ := hbd x (bmem _ (List.mem_cons_of_mem _ hx))
    exact Ent_mv (qE x (bmem _ (List.mem_cons_of_mem _ hx))) (fun _ => ⟨u_n1 (by omega), u_n1 (by omega), fun y _ _ => rfl⟩) (fun _ => rfl) (fun _ => ⟨u_n1 (by omega), u_n1 (by omega), fun y _ _ => rfl⟩)
  have hW : ∀ k, j + 1 ≤ k → k < j + 1 + 1 → Wr (ao_u C (92 + 71 * t) 3 (nI (a + 1))) D t k := fun k h1 h2 => (hI8.2.1 k (by omega)).2.2.1
  have fR8 : Rpl kp (ao_u C (92 + 71 * t) 3 (nI (a + 1))) ρ D σ := Rpl_cell (k := 0) fR (fun x i hx => u_n1 (by omega)) (fun _ _ _ => rfl)
  have hRp := Rpl_leave ht (by omega) fR8 hW hf
  obtain ⟨rc', r1, r2, r3, r4, tc'⟩ := left_ok (C' := ao_u (ao_u (cTB e t (j + 1) 1 C1) (92 + 71 * t) 8 (nI (j + 1))) (92 + 71 * t) 3 (nI BB)) (D' := ao_u (ao_u (ao_u (ao_u D1 552 t (nI (φ BB))) 557 t (nI (ns (N b)))) 558 t (nI (nt (N b)))) 556 t (nI (j + 1))) (k := j + 1) (dp := j + 2) (b := b) (B := BB) ht (by omega) (by omega) (by omega) cok hI8 (by rw [show j + 2 - (j + 1) = 1 by omega]; exact hf) bnl bl hE8 (by rw [u_n1 (by omega)]; exact e2) q3 q4 q5 ⟨by rw [u_n2 (by omega), t2, es], by rw [t3, es], by rw [u_n2 (by omega)]; exact t4, by rw [u_n2 (by omega)]; exact t5, by rw [u_n2 (by omega)]; exact t6, by rw [u_n2 (by omega)]; exact t7, by rw [u_n2 (by omega)]; exact w4, by rw [u_n2 (by omega)]; exact w5⟩ (fun x i q => by rw [u_ne (by omega), u_ne (by omega), show j + 2 - (j + 1) = 1 by omega]) u_eq (by rw [u_n2 (by omega), u_eq]) (fun x i q => by simp (disch := omega) only [u_ne]) (by simp (disch := omega) only [u_ne, u_eq]) u_eq (by simp (disch := omega) only [u_ne, u_eq]) (by simp (disch := omega) only [u_ne, u_eq])
  have hCn : ∀ x i, x ≠ 14 → ¬ (92 + 71 * t ≤ x ∧ x < 92 + 71 * t + 71) → ao_u (ao_u (cTB e t (j + 1) 1 C1) (92 + 71 * t) 8 (nI (j + 1))) (92 + 71 * t) 3 (nI BB) x i = C x i := fun x i q1 q2 => by
    rw [u_n1 (by omega), u_n1 (by omega), cTB_n q1 (by omega) (by omega) (by omega), c1 _ _ (by omega), u_n1 (by omega)]
  have hR2 : ∀ i, i = 2 ∨ i = 15 → ao_u (ao_u (cTB e t (j + 1) 1 C1) (92 + 71 * t) 8 (nI (j + 1))) (92 + 71 * t) 3 (nI BB) (92 + 71 * t) i = C (92 + 71 * t) i := fun i q => by
    rw [u_n2 (by omega), u_n2 (by omega), cTB_n (by omega) (by omega) (by omega) (by omega), c1 _ _ (by omega), u_n2 (by omega)]
  have h8' : ao_u (ao_u (cTB e t (j + 1) 1 C1) (92 + 71 * t) 8 (nI (j + 1))) (92 + 71 * t) 3 (nI BB) (92 + 71 * t) 8 = nI (j + 1) := by rw [u_n2 (by omega), u_eq]
  have hDn : ∀ x i, ¬ (i = t ∧ (x = 552 ∨ x = 557 ∨ x = 558 ∨ x = 556)) → ao_u (ao_u (ao_u (ao_u D1 552 t (nI (φ BB))) 557 t (nI (ns (N b)))) 558 t (nI (nt (N b)))) 556 t (nI (j + 1)) x i = D1 x i := fun x i q => by
    simp (disch := omega) only [u_ne]
  have hRp' := Rpl_cell (k := 0) (C' := ao_u (ao_u (cTB e t (j + 1) 1 C1) (92 + 71 * t) 8 (nI (j + 1))) (92 + 71 * t) 3 (nI BB)) (D' := ao_u (ao_u (ao_u (ao_u D1 552 t (nI (φ BB))) 557 t (nI (ns (N b)))) 558 t (nI (nt (N b)))) 556 t (nI (j + 1))) hRp (fun x i hx => by rw [u_n1 (by omega), u_n1 (by omega)]) (fun x i hx => hDn x i (by omega))
  have r3' := r3
  have ew : wsum (ao_u C (92 + 71 * t) 3 (nI (a + 1))) t (j + 2) = wsum C t (j + 2) := wsum_congr _ (fun k hk => u_n1 (by omega))
  have er : rsum (ao_u C (92 + 71 * t) 3 (nI (a + 1))) t (j + 2) = rsum C t (j + 2) := rsum_congr _ (fun k hk => by unfold rl; rw [u_n1 (by omega)])
  rw [ew] at r4
  rw [er] at r3'
  generalize ao_u (ao_u (cTB e t (j + 1) 1 C1) (92 + 71 * t) 8 (nI (j + 1))) (92 + 71 * t) 3 (nI BB) = C' at *
  generalize ao_u (ao_u (ao_u (ao_u D1 552 t (nI (φ BB))) 557 t (nI (ns (N b)))) 558 t (nI (nt (N b)))) 556 t (nI (j + 1)) = D' at *
  obtain ⟨z1, z2, z3, z4⟩ := Cat_loc hcat0 (C' := C') (fun x i hx => hCn x i (by omega) (by omega))
  have hDD : ∀ x i, x ≠ 542 → ¬ (x = 537 ∧ i = 64) → ¬ (551 ≤ x ∧ x ≤ 584 ∧ t * wd x ≤ i ∧ i < (t + 1) * wd x) → D' x i = D x i := by
    intro x i q1 q2 q3
    have hwd : ∀ w, wd x = w → 551 ≤ x → x ≤ 584 → ¬ (t * w ≤ i ∧ i < (t + 1) * w) := fun w hw h1 h2 h3 => q3 ⟨h1, h2, by rw [hw]; exact h3.1, by rw [hw]; exact h3.2⟩
    have w1 : x = 552 ∨ x = 557 ∨ x = 558 ∨ x = 556 ∨ x = 555 → i ≠ t := fun hx e0 => hwd 1 (by
      unfold wd
      rw [if_neg (by omega), if_neg (by omega), if_neg (by omega), if_neg (by omega), if_neg (by omega), if_neg (by omega)]) (by omega) (by omega) (by omega)
    have w12 : x = 584 → ¬ (t * 12 ≤ i ∧ i < (t + 1) * 12) := fun hx => hwd 12 (by subst hx; rfl) (by omega) (by omega)
    have w26 : x = 553 → ¬ (t * 26 ≤ i ∧ i < (t + 1) * 26) := fun hx => hwd 26 (by subst hx; rfl) (by omega) (by omega)
    have w312 : 577 ≤ x ∧ x ≤ 582 → ¬ (t * 312 ≤ i ∧ i < (t + 1) * 312) := fun hx => hwd 312 (by
      unfold wd
      rw [if_neg (by omega), if_neg (by omega), if_neg (by omega), if_pos (by omega)]) (by omega) (by omega)
    rw [hDn x i (by
      rintro ⟨y1, y2⟩
      exact w1 (by omega) y1)]
    by_cases v : x = 577 ∨ x = 579 ∨ x = 580 ∨ x = 581
    · have := w312 (by omega)
      exact a7' x i v (by omega)
    · rw [a6' x i (by omega) (by omega) (by omega) (by omega) q2]
      by_cases v1 : x = 555
      · exact dTB_v (Or.inr (Or.inl ⟨v1, w1 (by omega)⟩))
      · by_cases v2 : x = 553
        · have := w26 v2
          exact dTB_v (Or.inr (Or.inr ⟨v2, by omega⟩))
        · refine dTB_n (by omega) ?_ ?_
          · by_cases v3 : x = 578
            · have := w312 (by omega); omega
            · exact Or.inl v3
          · by_cases v3 : x = 584
            · have := w12 v3; omega
            · exact Or.inl v3
  have ed : dcd D' t = dcd D t := dcd_eq (fun i => by
    rw [hDn _ _ (by omega), a6' _ _ (by omega) (by omega) (by omega) (by omega) (by omega), dTB_n (by omega) (by omega) (by omega)])
  have hT : Thr C' ρ D' rc' t := Tc_Thr z1 (by rw [z2, z3, z4, ed]; exact cok) (by rw [z3, z4]; exact tc')
  have e8 : dpC C t = j + 2 := by
    unfold dpC
    rw [w2, n_cl (by omega)]
  have e8' : dpC C' t = j + 1 := by
    unfold dpC
    rw [h8', n_cl (by omega)]
  have d563 : D' 563 t = D 563 t := by
    rw [hDn _ _ (by omega), a6' _ _ (by omega) (by omega) (by omega) (by omega) (by omega), dTB_n (by omega) (by omega) (by omega)]
  refine ⟨rc', rfl, (show ¬ (0 : Int32) < 0 by decide), ?_⟩
  show Full C' ρ D' σ kp rc' nw bw br
  refine Full_val hF' ht (fun x i q0 q1 q2 => hCn x i q0 q1) hRp' (fun x i q0 q1 q2 q3 => hDD x i q0 (by omega) q3) r2 r1 (Rsd_fr fS (fun x i q1 q2 => hCn x i (by omega) (by omega)) (hDD _ _ (by omega) (by omega) (by omega)) (fun x i q => hDD x i (by omega) (by omega) (by omega))) (Rrc_fr fRc (fun x i q1 q2 => hCn x i (by omega) (by omega)) (hDD _ _ (by omega) (by omega) (by omega)) (fun x i q1 q2 => hDD x i (by omega) (by omega) (by omega))) (Bth_fr fB (hDD _ _ (by omega) (by omega) (by omega)) (fun p => hCn _ _ (by omega) (by omega)) (fun u hu => ?_)) hT (by rw [e8, e8']; omega) (by rw [e8, e8']; omega) (Nat.le_refl _) fbw fbr
  by_cases eu : u = t
  · subst eu
    exact ⟨hR2 2 (by omega), hR2 15 (by omega), d563⟩
  · have ho := oth_of (C := C) (D := D) (C' := C') (D' := D') (t := t) (fun x i h1 h2 h3 => hCn x i (by omega) h3) (fun x i h1 h2 h3 => hDD x i (by omega) (by omega) h3) u hu eu
    exact ⟨ho.1 _ _ (by omega) (by omega), ho.1 _ _ (by omega) (by omega), inD_1 ho.2 (by omega)⟩

end Sta
