set_option linter.unusedSimpArgs false
set_option linter.unusedVariables false
theorem countP_or {p q r : Nat → Bool} : ∀ (l : List Nat), (∀ x ∈ l, r x = (p x || q x)) → l.countP r ≤ l.countP p + l.countP q := by
  intro l
  induction l with
  | nil => intro _; simp
  | cons a l ih =>
    intro h
    have h1 := ih (fun x hx => h x (List.mem_cons_of_mem _ hx))
    have h2 := h a List.mem_cons_self
    simp only [List.countP_cons, h2]
    cases p a <;> cases q a <;> simp <;> omega
theorem popc_or {m m0 m1 : Int32} (h : ∀ q, q < 26 → bt m q = (bt m0 q || bt m1 q)) : popc m ≤ popc m0 + popc m1 := by
  unfold popc
  exact countP_or _ (fun x hx => h x (by simpa using hx))
/-- one step of the reference, or two the first of which goes on -/
def Rs (t : Nat) (D : ao_M) (σ : ao_H) (P : Int32 × ao_S → Prop) : Prop := hv (fun n => gX12_step n 537 (nI t) D σ) P ∨ ∃ w, hv (fun n => gX12_step n 537 (nI t) D σ) (fun v => v = w) ∧ w.1 = -1 ∧ hv (fun n => gX12_step n 537 (nI t) w.2.1 w.2.2) P
theorem Held_join {C D C' D' : ao_M} {t j : Nat} (h : Held C D t (j + 2)) (hj : j + 2 ≤ 10) (c10 : ∀ i, i ≤ j → C' (92 + 71 * t + 8 + 6 * i) 10 = C (92 + 71 * t + 8 + 6 * i) 10) (c13 : C' (92 + 71 * t) 13 = C (92 + 71 * t) 13) (c70 : ∀ i, C' (92 + 71 * t + 70) i = C (92 + 71 * t + 70) i) (d4 : ∀ i, i < j → D' 584 (t * 12 + i) = D 584 (t * 12 + i)) (d3 : ∀ i k, i < j → k < 200 → D' 583 ((t * 12 + i) * 200 + k) = D 583 ((t * 12 + i) * 200 + k))
    (hm : ∀ Y Bl : List Int32, Y.length ≤ 200 → Bl.length ≤ 200 → D 584 (t * 12 + j) = nI Y.length → (∀ (i : Nat) (h : i < Y.length), D 583 ((t * 12 + j) * 200 + i) = Y[i]) → D 584 (t * 12 + (j + 1)) = nI Bl.length → (∀ (i : Nat) (h : i < Bl.length), D 583 ((t * 12 + (j + 1)) * 200 + i) = Bl[i]) → D' 584 (t * 12 + j) = nI ((Y ++ Bl).take 200).length ∧ ∀ (i : Nat) (h : i < ((Y ++ Bl).take 200).length), D' 583 ((t * 12 + j) * 200 + i) = ((Y ++ Bl).take 200)[i]) : Held C' D' t (j + 1) := by
  obtain ⟨hl, a, b, c⟩ := h
  obtain ⟨a1, a2, a3, a4⟩ := a j (by omega)
  obtain ⟨b1, b2, b3, b4⟩ := a (j + 1) (by omega)
  obtain ⟨m1, m2⟩ := hm (hl j) (hl (j + 1)) a1 b1 a2 a4 b2 b4
  have ec : ∀ i, i ≤ j → cat (fun i => if i < j then hl i else (hl j ++ hl (j + 1)).take 200) i = cat hl i := fun i hi => cat_congr i (fun k hk => if_pos (by omega))
  have ec1 : cat (fun i => if i < j then hl i else (hl j ++ hl (j + 1)).take 200) (j + 1) = cat hl j ++ (hl j ++ hl (j + 1)).take 200 := by
    rw [cat, if_neg (by omega), ec j (by omega)]
  have ec2 : cat hl (j + 2) = cat hl j ++ (hl j ++ hl (j + 1)) := by
    rw [cat, cat, List.append_assoc]
  refine ⟨fun i => if i < j then hl i else (hl j ++ hl (j + 1)).take 200, fun i hi => ?_, ?_, fun i hi h2 => ?_⟩
  · by_cases q : i < j
    · obtain ⟨v1, v2, v3, v4⟩ := a i (by omega)
      simp only [q, ↓reduceIte]
      exact ⟨v1, by rw [d4 i q]; exact v2, by rw [c10 i (by omega), ec i (by omega)]; exact v3, fun k hk => by rw [d3 i k q (by omega)]; exact v4 k hk⟩
    · obtain rfl : i = j := by omega
      simp only [q, ↓reduceIte]
      exact ⟨by rw [List.length_take]; omega, m1, by rw [c10 i (by omega), ec i (by omega)]; exact a3, m2⟩
  · rw [c13, b, ec1, ec2]
    congr 1
    simp only [List.length_append, List.length_take]
    omega
  · simp only [ec1] at hi ⊢
    rw [c70]
    have hi2 : i < (cat hl (j + 2)).length := by
      rw [ec2]
      simp only [List.length_append, List.length_take] at hi ⊢
      omega
    rw [c i hi2 h2]
    simp only [ec2]
    by_cases q : i < (cat hl j).length
    · rw [List.getElem_append_left q, List.getElem_append_left q]
    · rw [List.getElem_append_right (as := cat hl j) (Nat.le_of_not_lt q), List.getElem_append_right (as := cat hl j) (Nat.le_of_not_lt q), List.getElem_take]

section St7
variable {C D : ao_M} {ρ σ : ao_H} {kp rc nw bw br t s len kd a1 a2 a3 a : Nat} {φ : Nat → Nat} {N : Ns} {H K : Nat → Nat}
set_option maxHeartbeats 4000000 in
theorem st_close2 (hF : Full C ρ D σ kp rc nw bw br) (ht : t < 6) (ho : Opn C ρ D rc t s len kd a1 a2 a3 φ N H K a) (ha : a < len) (h : C a1 a = 17 ∧ dcd D t (3 * φ a) = 16 ∧ H a = 0 ∧ ∃ b B, N a = (0, b) :: N b ∧ C a3 b = nI B ∧ B ≤ len ∧ N B = N b ∧ H B = 0 ∧ K a < K B ∧ (φ B = φ a + 1 ∨ dcd D t (3 * (φ a + 1)) = 12 ∧ dcd D t (3 * (φ a + 1) + 1) = nI (φ B))) (h2 : 2 ≤ nl (N a)) :
    hv (fun n => gX2_step n 12 (92 + 71 * t) C ρ) (fun y => Rs t D σ (fun w => ∃ rc', GoP kp rc' nw bw br t s len kd a1 a2 a3 φ N H K a y w)) := by
  obtain ⟨i1, i2, i3, b, B, k1, k2, k3, k4, k5, k6, k7⟩ := h
  have ho' := ho
  have hF' := hF
  obtain ⟨hcat, cok, tc⟩ := ho
  obtain ⟨⟨f1, f2, f3, f4⟩, -⟩ := hF
  obtain ⟨t1, t2, t3, t4, t5, t6, t7, t8, t9, t10, t11, t12, t13, t14, t15⟩ := tc
  have hR := RnS_of f2 ht
  have hh := (cok.2.2.2.2.2.1 a t9).2.2.1
  obtain ⟨g0, g1, g2, g3⟩ := d_ins (C := C) (rc := rc) (s := s) cok t9
  have h8 : C (92 + 71 * t) 8 = nI (nl (N a)) ∧ D 556 t = nI (nl (N a)) := by
    rcases t1 with es | es
    · obtain ⟨q1, q2, q3⟩ := t14 es
      rw [q1, q2, q3]
      exact ⟨rfl, rfl⟩
    · obtain ⟨q1, q2, q3, q4, q5⟩ := t15 es
      exact ⟨q2.1, q3⟩
  have hch := (cok.2.2.2.2.2.1 a t9).2.2.2
  have hlt := chd_lt (N a) hch
  have hbd := chd_b (fun i hi => (cok.2.2.2.2.2.1 i hi).2.1) (N a) hch (cok.2.2.2.2.2.1 a t9).2.1
  have hlen := cok.1
  have hlna := (cok.2.2.2.2.2.1 a t9).2.1
  have hlnb := (cok.2.2.2.2.2.1 (a + 1) (by omega)).2.1
  have nl1 := @nl_le (N a)
  have ns1 := @ns_le (N a)
  have nt1 := @nt_le (N a)
  obtain ⟨q11, q58, q57, qE⟩ := t13
  obtain ⟨b1, b2, b3, b4, b5, b6, b7, b8, b9, b10, b11, b12, b13, b14, b15, b16, b17, b18⟩ := hcat
  have hcat0 := ho'.1
  rw [i2] at g1
  have es : s = 2 := by
    rcases t1 with es | es
    · have := (t14 es).1; omega
    · exact es
  obtain ⟨w1, ⟨w2, wL, wH⟩, w3, w4, w5⟩ := t15 es
  clear t14 t15 t1
  have k7u : Unit → (φ B = φ a + 1 ∨ dcd D t (3 * (φ a + 1)) = 12 ∧ dcd D t (3 * (φ a + 1) + 1) = nI (φ B)) := fun _ => k7
  clear k7
  obtain ⟨j, ej⟩ : ∃ j, nl (N b) = j + 1 := ⟨nl (N b) - 1, by rw [k1, nl_c0] at h2; omega⟩
  have nla : nl (N a) = j + 2 := by rw [k1, nl_c0, ej]
  have nsa : ns (N a) = ns (N b) + 1 := by rw [k1, ns_c0]
  have nta : nt (N a) = nt (N b) := by rw [k1, nt_c0]
  rw [nla] at w2 wL wH w3 nl1
  rw [nsa] at q57 ns1
  rw [nta] at q11 q58 nt1
  have hbE := (qE (0, b) (by rw [k1]; simp)).1 rfl
  dsimp only at hbE
  rw [ej] at hbE
  obtain ⟨e1, -, -, -, -, -, -, e8⟩ := hbE
  have hbl : b < len := by
    rw [k1] at hch
    exact hch.2.1
  have hf11 : Full C ρ D σ kp rc nw bw br := hF'
  obtain ⟨-, -, ⟨fw, -⟩, -, -, -, frc, -, -, ⟨-, -, fer⟩, -, fbr⟩ := hf11
  have hrc0 : rc ≤ 100000000 := by omega
  clear fer fbr
  have hl1 := LvS_of f2 ht (show j + 1 < 10 by omega)
  have hl0 := LvS_of f2 ht (show j < 10 by omega)
  obtain ⟨-, -, uW0, ⟨ps', vs', ws', r1', r2'⟩⟩ := wL j (by omega)
  obtain ⟨-, -, uW1, ⟨ps, vs, ws, r1, r2⟩⟩ := wL (j + 1) (by omega)
  -- class: up to the reads
  unfold gX2_step
  refine hv_up (fun _ => fX2_step.eq_2 ..) ?_
  try simp only [↓reduceIte, Nat.reduceEqDiff, Option.bind_some, ao_let, n_ell, f1, hR, b1, b2, b3, b4, b5, b6, b7, b8, b9, b10, b11, b12, b13, t10, i1]
  try simp (disch := first | omega | assumption) only [↓reduceIte, Nat.reduceEqDiff, Option.bind_some, ao_let, t_le, f_le, t_lt, f_lt, f_eq, u_eq, u_n1, u_n2, n_cl, n_lt, n_le, n_eq, n_ltl, n_llt, n_lel, n_lle, n_eql, n_leq, n_add, n_mul, n_sub, n_addl, n_ladd, n_mull, n_lmul, n_subl, Int32.reduceLT, Int32.reduceLE, Int32.reduceAdd, Int32.reduceSub, Int32.reduceMul, Int32.reduceToNatClampNeg, not_false_eq_true, not_true_eq_false, or_false, false_or, or_self, and_self, false_and, true_and, and_false, and_true, true_or, or_true, Nat.reduceAdd, Nat.reduceMul, Nat.reduceLT, Nat.reduceLeDiff, ne_eq, n_ell, f1, hR, b1, b2, b3, b4, b5, b6, b7, b8, b9, b10, b11, b12, b13, t10, i1]
  refine hv_bind (P := fun y => Rs t D σ (fun w => ∃ rc', GoP kp rc' nw bw br t s len kd a1 a2 a3 φ N H K a y w)) ?_ ?_
  rotate_left 1
  · intro y hy
    refine hv_up (fun _ => fX2_step.eq_2 ..) ?_
    try simp only [↓reduceIte, Nat.reduceEqDiff, Option.bind_some, ao_let, n_ell]
    try simp (disch := first | omega | assumption) only [↓reduceIte, Nat.reduceEqDiff, Option.bind_some, ao_let, t_le, f_le, t_lt, f_lt, f_eq, u_eq, u_n1, u_n2, n_cl, n_lt, n_le, n_eq, n_ltl, n_llt, n_lel, n_lle, n_eql, n_leq, n_add, n_mul, n_sub, n_addl, n_ladd, n_mull, n_lmul, n_subl, Int32.reduceLT, Int32.reduceLE, Int32.reduceAdd, Int32.reduceSub, Int32.reduceMul, Int32.reduceToNatClampNeg, not_false_eq_true, not_true_eq_false, or_false, false_or, or_self, and_self, false_and, true_and, and_false, and_true, true_or, or_true, Nat.reduceAdd, Nat.reduceMul, Nat.reduceLT, Nat.reduceLeDiff, ne_eq, n_ell]
    exact hv_some hy
  unfold gX2_closeLevel
  refine hv_up (fun _ => fX2_closeLevel.eq_2 ..) ?_
  try simp only [↓reduceIte, Nat.reduceEqDiff, Option.bind_some, ao_let, n_ell, hR, w2, b1]
  try simp (disch := first | omega | assumption) only [↓reduceIte, Nat.reduceEqDiff, Option.bind_some, ao_let, t_le, f_le, t_lt, f_lt, f_eq, u_eq, u_n1, u_n2, n_cl, n_lt, n_le, n_eq, n_ltl, n_llt, n_lel, n_lle, n_eql, n_leq, n_add, n_mul, n_sub, n_addl, n_ladd, n_mull, n_lmul, n_subl, Int32.reduceLT, Int32.reduceLE, Int32.reduceAdd, Int32.reduceSub, Int32.reduceMul, Int32.reduceToNatClampNeg, not_false_eq_true, not_true_eq_false, or_false, false_or, or_self, and_self, false_and, true_and, and_false, and_true, true_or, or_true, Nat.reduceAdd, Nat.reduceMul, Nat.reduceLT, Nat.reduceLeDiff, ne_eq, n_ell, hR, w2, b1]
  refine hv_bind (P := fun y => y = (92 + 71 * t + 8 + 6 * (j + 1), ao_u C (92 + 71 * t) 3 (nI (a + 1)))) ?_ ?_
  · unfold gX7_innermost
    try simp only [↓reduceIte, Nat.reduceEqDiff, Option.bind_some, ao_let, n_ell, hR, w2]
    try simp (disch := first | omega | assumption) only [↓reduceIte, Nat.reduceEqDiff, Option.bind_some, ao_let, t_le, f_le, t_lt, f_lt, f_eq, u_eq, u_n1, u_n2, n_cl, n_lt, n_le, n_eq, n_ltl, n_llt, n_lel, n_lle, n_eql, n_leq, n_add, n_mul, n_sub, n_addl, n_ladd, n_mull, n_lmul, n_subl, Int32.reduceLT, Int32.reduceLE, Int32.reduceAdd, Int32.reduceSub, Int32.reduceMul, Int32.reduceToNatClampNeg, not_false_eq_true, not_true_eq_false, or_false, false_or, or_self, and_self, false_and, true_and, and_false, and_true, true_or, or_true, Nat.reduceAdd, Nat.reduceMul, Nat.reduceLT, Nat.reduceLeDiff, ne_eq, n_ell, hR, w2]
    refine hv_bind (P := fun y => y = (92 + 71 * t + 8 + 6 * (j + 1), ao_u C (92 + 71 * t) 3 (nI (a + 1)))) (c_level f2 ht (by omega) _ rfl) ?_
    rintro _ rfl
    exact hv_some rfl
  rintro _ rfl
  try simp only [↓reduceIte, Nat.reduceEqDiff, Option.bind_some, ao_let, n_ell, f1, hl1, b2, gX1_secondAt, e1, b12, b5, b8, b11, k2, w2]
  try simp (disch := first | omega | assumption) only [↓reduceIte, Nat.reduceEqDiff, Option.bind_some, ao_let, t_le, f_le, t_lt, f_lt, f_eq, u_eq, u_n1, u_n2, n_cl, n_lt, n_le, n_eq, n_ltl, n_llt, n_lel, n_lle, n_eql, n_leq, n_add, n_mul, n_sub, n_addl, n_ladd, n_mull, n_lmul, n_subl, Int32.reduceLT, Int32.reduceLE, Int32.reduceAdd, Int32.reduceSub, Int32.reduceMul, Int32.reduceToNatClampNeg, not_false_eq_true, not_true_eq_false, or_false, false_or, or_self, and_self, false_and, true_and, and_false, and_true, true_or, or_true, Nat.reduceAdd, Nat.reduceMul, Nat.reduceLT, Nat.reduceLeDiff, ne_eq, n_ell, f1, hl1, b2, gX1_secondAt, e1, b12, b5, b8, b11, k2, w2]
  refine hv_bind (P := fun C3 => Rs t D σ (fun w => ∃ rc', GoP kp rc' nw bw br t s len kd a1 a2 a3 φ N H K a (-1, ao_u C3 (92 + 71 * t) 3 (nI B), ρ) w)) ?_ ?_
  rotate_left 1
  · intro C3 h3
    exact hv_some h3
  -- the reference: up to the reads
  have hDm : ∀ a' i', ¬ (i' = t ∧ (a' = 557 ∨ a' = 552)) → (ao_u (ao_u D 557 t (nI (ns (N b)))) 552 t (nI (φ a + 1))) a' i' = D a' i' := fun a' i' hh' => by
    rw [u_ne (by omega), u_ne (by omega)]
  have dstep : ∀ {P : Int32 × ao_S → Prop}, hv (fun n => gX12_endPart n 537 (nI t) (ao_u (ao_u D 557 t (nI (ns (N b)))) 552 t (nI (φ a + 1))) σ) (fun M => P (-1, M, σ)) → hv (fun n => gX12_step n 537 (nI t) D σ) P := by
    intro P hP
    unfold gX12_step
    refine hv_up (fun _ => fX12_step.eq_2 ..) ?_
    try simp only [↓reduceIte, Nat.reduceEqDiff, Option.bind_some, ao_let, n_ell, f4, t11, g1]
    try simp (disch := first | omega | assumption) only [↓reduceIte, Nat.reduceEqDiff, Option.bind_some, ao_let, t_le, f_le, t_lt, f_lt, f_eq, u_eq, u_n1, u_n2, n_cl, n_lt, n_le, n_eq, n_ltl, n_llt, n_lel, n_lle, n_eql, n_leq, n_add, n_mul, n_sub, n_addl, n_ladd, n_mull, n_lmul, n_subl, Int32.reduceLT, Int32.reduceLE, Int32.reduceAdd, Int32.reduceSub, Int32.reduceMul, Int32.reduceToNatClampNeg, not_false_eq_true, not_true_eq_false, or_false, false_or, or_self, and_self, false_and, true_and, and_false, and_true, true_or, or_true, Nat.reduceAdd, Nat.reduceMul, Nat.reduceLT, Nat.reduceLeDiff, ne_eq, n_ell, f4, t11, g1]
    refine hv_bind (P := fun y => P y) ?_ ?_
    · unfold gX12_endBlock
      refine hv_up (fun _ => fX12_endBlock.eq_2 ..) ?_
      try simp only [↓reduceIte, Nat.reduceEqDiff, Option.bind_some, ao_let, n_ell, f4, q57, gX12_level, Nat.add_sub_cancel, e8, t11]
      try simp (disch := first | omega | assumption) only [↓reduceIte, Nat.reduceEqDiff, Option.bind_some, ao_let, t_le, f_le, t_lt, f_lt, f_eq, u_eq, u_n1, u_n2, n_cl, n_lt, n_le, n_eq, n_ltl, n_llt, n_lel, n_lle, n_eql, n_leq, n_add, n_mul, n_sub, n_addl, n_ladd, n_mull, n_lmul, n_subl, Int32.reduceLT, Int32.reduceLE, Int32.reduceAdd, Int32.reduceSub, Int32.reduceMul, Int32.reduceToNatClampNeg, not_false_eq_true, not_true_eq_false, or_false, false_or, or_self, and_self, false_and, true_and, and_false, and_true, true_or, or_true, Nat.reduceAdd, Nat.reduceMul, Nat.reduceLT, Nat.reduceLeDiff, ne_eq, n_ell, f4, q57, gX12_level, Nat.add_sub_cancel, e8, t11]
      refine hv_bind hP ?_
      intro M hM
      exact hv_some hM
    · intro y hy
      refine hv_up (fun _ => fX12_step.eq_2 ..) ?_
      try simp only [↓reduceIte, Nat.reduceEqDiff, Option.bind_some, ao_let, n_ell]
      try simp (disch := first | omega | assumption) only [↓reduceIte, Nat.reduceEqDiff, Option.bind_some, ao_let, t_le, f_le, t_lt, f_lt, f_eq, u_eq, u_n1, u_n2, n_cl, n_lt, n_le, n_eq, n_ltl, n_llt, n_lel, n_lle, n_eql, n_leq, n_add, n_mul, n_sub, n_addl, n_ladd, n_mull, n_lmul, n_subl, Int32.reduceLT, Int32.reduceLE, Int32.reduceAdd, Int32.reduceSub, Int32.reduceMul, Int32.reduceToNatClampNeg, not_false_eq_true, not_true_eq_false, or_false, false_or, or_self, and_self, false_and, true_and, and_false, and_true, true_or, or_true, Nat.reduceAdd, Nat.reduceMul, Nat.reduceLT, Nat.reduceLeDiff, ne_eq, n_ell]
      exact hv_some hy
  have dpart : ∀ {P : ao_M → Prop}, hv (fun n => (gX12_giveReads n 537 (nI t) (nI (j + 1)) (ao_u (ao_u D 557 t (nI (ns (N b)))) 552 t (nI (φ a + 1))) σ).bind fun p6 => fX12_endPart n 17 537 (nI t) (nI (j + 1)) (nI 0) 0 0 p6 σ) P → hv (fun n => gX12_endPart n 537 (nI t) (ao_u (ao_u D 557 t (nI (ns (N b)))) 552 t (nI (φ a + 1))) σ) P := by
    intro P hP
    unfold gX12_endPart
    refine hv_up (fun _ => fX12_endPart.eq_2 ..) ?_
    try simp only [↓reduceIte, Nat.reduceEqDiff, Option.bind_some, ao_let, n_ell, f4, w3]
    try simp (disch := first | omega | assumption) only [↓reduceIte, Nat.reduceEqDiff, Option.bind_some, ao_let, t_le, f_le, t_lt, f_lt, f_eq, u_eq, u_n1, u_n2, n_cl, n_lt, n_le, n_eq, n_ltl, n_llt, n_lel, n_lle, n_eql, n_leq, n_add, n_mul, n_sub, n_addl, n_ladd, n_mull, n_lmul, n_subl, Int32.reduceLT, Int32.reduceLE, Int32.reduceAdd, Int32.reduceSub, Int32.reduceMul, Int32.reduceToNatClampNeg, not_false_eq_true, not_true_eq_false, or_false, false_or, or_self, and_self, false_and, true_and, and_false, and_true, true_or, or_true, Nat.reduceAdd, Nat.reduceMul, Nat.reduceLT, Nat.reduceLeDiff, ne_eq, n_ell, f4, w3]
    exact hP
  have hrcm : (ao_u (ao_u D 557 t (nI (ns (N b)))) 552 t (nI (φ a + 1))) 537 64 = nI rc := by rw [hDm _ _ (by omega)]; exact frc
  have rdm : ∀ i ps vs ws, RdD D (t * 12 + i) rc ps vs ws → RdD (ao_u (ao_u D 557 t (nI (ns (N b)))) 552 t (nI (φ a + 1))) (t * 12 + i) rc ps vs ws := fun i ps vs ws hr => RdD_mv hr (Nat.le_refl _) (fun p hp => ⟨hDm _ _ (by omega), hDm _ _ (by omega), hDm _ _ (by omega), hDm _ _ (by omega)⟩)
  have rcm : ∀ i ps vs ws, RdC C (92 + 71 * t + 8 + 6 * i) ps vs ws → RdC (ao_u C (92 + 71 * t) 3 (nI (a + 1))) (92 + 71 * t + 8 + 6 * i) ps vs ws := fun i ps vs ws hr => RdC_mv hr (u_n1 (by omega)) (u_n1 (by omega)) (fun k => ⟨u_n1 (by omega), u_n1 (by omega), u_n1 (by omega)⟩)
  unfold gX2_joinAround
  refine hv_up (fun _ => fX2_joinAround.eq_2 ..) ?_
  try simp only [↓reduceIte, Nat.reduceEqDiff, Option.bind_some, ao_let, n_ell, hR, w2]
  try simp (disch := first | omega | assumption) only [↓reduceIte, Nat.reduceEqDiff, Option.bind_some, ao_let, t_le, f_le, t_lt, f_lt, f_eq, u_eq, u_n1, u_n2, n_cl, n_lt, n_le, n_eq, n_ltl, n_llt, n_lel, n_lle, n_eql, n_leq, n_add, n_mul, n_sub, n_addl, n_ladd, n_mull, n_lmul, n_subl, Int32.reduceLT, Int32.reduceLE, Int32.reduceAdd, Int32.reduceSub, Int32.reduceMul, Int32.reduceToNatClampNeg, not_false_eq_true, not_true_eq_false, or_false, false_or, or_self, and_self, false_and, true_and, and_false, and_true, true_or, or_true, Nat.reduceAdd, Nat.reduceMul, Nat.reduceLT, Nat.reduceLeDiff, ne_eq, n_ell, hR, w2]
  refine hv_bind (P := fun y => y = (92 + 71 * t + 8 + 6 * (j + 1), ao_u C (92 + 71 * t) 3 (nI (a + 1)))) (c_level f2 ht (by omega) _ rfl) ?_
  rintro _ rfl
  try simp only [↓reduceIte, Nat.reduceEqDiff, Option.bind_some, ao_let, n_ell, w2]
  try simp (disch := first | omega | assumption) only [↓reduceIte, Nat.reduceEqDiff, Option.bind_some, ao_let, t_le, f_le, t_lt, f_lt, f_eq, u_eq, u_n1, u_n2, n_cl, n_lt, n_le, n_eq, n_ltl, n_llt, n_lel, n_lle, n_eql, n_leq, n_add, n_mul, n_sub, n_addl, n_ladd, n_mull, n_lmul, n_subl, Int32.reduceLT, Int32.reduceLE, Int32.reduceAdd, Int32.reduceSub, Int32.reduceMul, Int32.reduceToNatClampNeg, not_false_eq_true, not_true_eq_false, or_false, false_or, or_self, and_self, false_and, true_and, and_false, and_true, true_or, or_true, Nat.reduceAdd, Nat.reduceMul, Nat.reduceLT, Nat.reduceLeDiff, ne_eq, n_ell, w2]
  refine hv_bind (P := fun y => y = (92 + 71 * t + 8 + 6 * j, ao_u C (92 + 71 * t) 3 (nI (a + 1)))) (c_level f2 ht (by omega) _ rfl) ?_
  rintro _ rfl
  try simp only [↓reduceIte, Nat.reduceEqDiff, Option.bind_some, ao_let, n_ell, hl0]
  try simp (disch := first | omega | assumption) only [↓reduceIte, Nat.reduceEqDiff, Option.bind_some, ao_let, t_le, f_le, t_lt, f_lt, f_eq, u_eq, u_n1, u_n2, n_cl, n_lt, n_le, n_eq, n_ltl, n_llt, n_lel, n_lle, n_eql, n_leq, n_add, n_mul, n_sub, n_addl, n_ladd, n_mull, n_lmul, n_subl, Int32.reduceLT, Int32.reduceLE, Int32.reduceAdd, Int32.reduceSub, Int32.reduceMul, Int32.reduceToNatClampNeg, not_false_eq_true, not_true_eq_false, or_false, false_or, or_self, and_self, false_and, true_and, and_false, and_true, true_or, or_true, Nat.reduceAdd, Nat.reduceMul, Nat.reduceLT, Nat.reduceLeDiff, ne_eq, n_ell, hl0]
  refine hv_bind (give_pair (l := j + 1) hl1 hl0 (by omega) f4 ht (by omega) (by omega) (rcm (j + 1) _ _ _ r1) (rcm j _ _ _ r1') (rdm (j + 1) _ _ _ r2) (rdm j _ _ _ r2') hrcm (by omega)) ?_
  rintro C1 ⟨Nn, D1, eD1, ps'', vs'', ws'', rc'', G1, G2, G3, G4, G5, G6, ⟨G6a, G6b⟩, G7, G8⟩
  simp only [Nat.add_sub_cancel] at G4 G8
  have c1 : ∀ x i, ¬ ((x = 92 + 71 * t + 8 + 6 * (j + 1) ∨ x = 92 + 71 * t + 8 + 6 * j) ∧ (i = 3 ∨ i = 4)) → ¬ (92 + 71 * t + 8 + 6 * j < x ∧ x ≤ 92 + 71 * t + 8 + 6 * j + 3) → ¬ (x = 92 + 71 * t ∧ i = 3) → C1 x i = C x i := fun x i q1 q2 q3 => by
    rw [G7 x i q1 q2, u_ne (by omega)]
  have d1 : ∀ x i, ¬ (x = 537 ∧ i = 64) → ¬ (x = 577 ∧ (t * 12 + (j + 1)) * 26 ≤ i ∧ i < (t * 12 + (j + 1)) * 26 + 26) → ¬ ((x = 577 ∨ x = 579 ∨ x = 580 ∨ x = 581) ∧ (t * 12 + j) * 26 ≤ i ∧ i < (t * 12 + j) * 26 + 26) → ¬ (i = t ∧ (x = 557 ∨ x = 552)) → D1 x i = D x i := fun x i q1 q2 q3 q4 => by
    rw [G8 x i q1 q2 q3, hDm x i q4]
  have hWr1 : ∀ i, i = j ∨ i = j + 1 → Wr C D t i → Wr C1 D1 t i := fun i hi hw => ⟨fun p hp => by rw [c1 _ _ (by omega) (by omega) (by omega)]; exact hw.1 p hp, fun p hp => by
    rw [c1 _ _ (by omega) (by omega) (by omega), d1 _ _ (by omega) (by omega) (by omega) (by omega), d1 _ _ (by omega) (by omega) (by omega) (by omega), c1 _ _ (by omega) (by omega) (by omega)]; exact hw.2 p hp⟩
  -- the end, wherever the reference's pc then is
  have key : ∀ C2 D2 D3 D4 : ao_M, Jn C1 D1 C2 D2 t j 26 → (D3 584 (t * 12 + j) = D3 584 (t * 12 + j)) → (∀ Y Bl : List Int32, Y.length ≤ 200 → Bl.length ≤ 200 → D 584 (t * 12 + j) = nI Y.length → (∀ (i : Nat) (h : i < Y.length), D 583 ((t * 12 + j) * 200 + i) = Y[i]) → D 584 (t * 12 + (j + 1)) = nI Bl.length → (∀ (i : Nat) (h : i < Bl.length), D 583 ((t * 12 + (j + 1)) * 200 + i) = Bl[i]) → D3 584 (t * 12 + j) = nI ((Y ++ Bl).take 200).length ∧ ∀ (i : Nat) (h : i < ((Y ++ Bl).take 200).length), D3 583 ((t * 12 + j) * 200 + i) = ((Y ++ Bl).take 200)[i]) →
      D3 556 t = nI (j + 1) → (∀ a' i', ¬ (a' = 584 ∧ i' = t * 12 + j) → ¬ (a' = 583 ∧ (t * 12 + j) * 200 ≤ i' ∧ i' < (t * 12 + j) * 200 + 200) → ¬ (a' = 556 ∧ i' = t) → D3 a' i' = D2 a' i') → (∀ a' i', ¬ (a' = 552 ∧ i' = t) → D4 a' i' = D3 a' i') → D4 552 t = nI (φ B) →
      GoP kp rc'' nw bw br t s len kd a1 a2 a3 φ N H K a (-1, ao_u (ao_u (ao_u C2 (92 + 71 * t + 8 + 6 * (j + 1)) 6 0) (92 + 71 * t) 8 (nI (j + 1))) (92 + 71 * t) 3 (nI B), ρ) (-1, D4, σ) := by
    intro C2 D2 D3 D4 hJ _ hm h56 hD3 hD4 h52
    clear f1 f2 f3 f4 hR hl0 hl1
    obtain ⟨jw0, jw1, jb, jC, jD⟩ := hJ
    have hC' : ∀ x i, ¬ (x = 92 + 71 * t ∧ (i = 3 ∨ i = 8)) → ¬ ((x = 92 + 71 * t + 8 + 6 * (j + 1) ∨ x = 92 + 71 * t + 8 + 6 * j) ∧ (i = 3 ∨ i = 4 ∨ i = 6)) → ¬ (92 + 71 * t + 8 + 6 * j < x ∧ x ≤ 92 + 71 * t + 8 + 6 * j + 4) → ao_u (ao_u (ao_u C2 (92 + 71 * t + 8 + 6 * (j + 1)) 6 0) (92 + 71 * t) 8 (nI (j + 1))) (92 + 71 * t) 3 (nI B) x i = C x i := by
      intro x i q1 q2 q3
      rw [u_ne (by omega), u_ne (by omega), u_ne (by omega), jC x i (by omega) (by omega), c1 x i (by omega) (by omega) (by omega)]
    have hC2 : ∀ x i, x = 92 + 71 * t + 8 + 6 * j ∨ 92 + 71 * t + 8 + 6 * j < x ∧ x ≤ 92 + 71 * t + 8 + 6 * j + 4 → ao_u (ao_u (ao_u C2 (92 + 71 * t + 8 + 6 * (j + 1)) 6 0) (92 + 71 * t) 8 (nI (j + 1))) (92 + 71 * t) 3 (nI B) x i = C2 x i := by
      intro x i q1
      rw [u_ne (by omega), u_ne (by omega), u_ne (by omega)]
    have e3' : ao_u (ao_u (ao_u C2 (92 + 71 * t + 8 + 6 * (j + 1)) 6 0) (92 + 71 * t) 8 (nI (j + 1))) (92 + 71 * t) 3 (nI B) (92 + 71 * t) 3 = nI B := u_eq
    have e8' : ao_u (ao_u (ao_u C2 (92 + 71 * t + 8 + 6 * (j + 1)) 6 0) (92 + 71 * t) 8 (nI (j + 1))) (92 + 71 * t) 3 (nI B) (92 + 71 * t) 8 = nI (j + 1) := by rw [u_n2 (by omega), u_eq]
    generalize ao_u (ao_u (ao_u C2 (92 + 71 * t + 8 + 6 * (j + 1)) 6 0) (92 + 71 * t) 8 (nI (j + 1))) (92 + 71 * t) 3 (nI B) = C' at *
    have hD' : ∀ x i, ¬ (i = t ∧ (x = 552 ∨ x = 556 ∨ x = 557)) → ¬ (x = 537 ∧ i = 64) → ¬ (x = 577 ∧ (t * 12 + (j + 1)) * 26 ≤ i ∧ i < (t * 12 + (j + 1)) * 26 + 26) → ¬ ((577 ≤ x ∧ x ≤ 582) ∧ (t * 12 + j) * 26 ≤ i ∧ i < (t * 12 + j) * 26 + 26) → ¬ (x = 584 ∧ i = t * 12 + j) → ¬ (x = 583 ∧ (t * 12 + j) * 200 ≤ i ∧ i < (t * 12 + j) * 200 + 200) → D4 x i = D x i := by
      intro x i q1 q2 q3 q4 q5 q6
      rw [hD4 x i (by omega), hD3 x i q5 q6 (by omega), jD x i (by omega), d1 x i q2 q3 (by omega) (by omega)]
    have d57 : D4 557 t = nI (ns (N b)) := by
      rw [hD4 _ _ (by omega), hD3 _ _ (by omega) (by omega) (by omega), jD _ _ (by omega), G8 _ _ (by omega) (by omega) (by omega), u_n1 (by omega), u_eq]
    have d56 : D4 556 t = nI (j + 1) := by rw [hD4 _ _ (by omega)]; exact h56
    have d64 : D4 537 64 = nI rc'' := by
      rw [hD4 _ _ (by omega), hD3 _ _ (by omega) (by omega) (by omega), jD _ _ (by omega)]; exact G5
    have dr : ∀ x i, x = 578 ∨ x = 582 → D4 x i = D2 x i := fun x i q => by rw [hD4 _ _ (by omega), hD3 _ _ (by omega) (by omega) (by omega)]
    have dr1 : ∀ x i, x = 577 ∨ x = 579 ∨ x = 580 ∨ x = 581 → D4 x i = D1 x i := fun x i q => by rw [hD4 _ _ (by omega), hD3 _ _ (by omega) (by omega) (by omega), jD _ _ (by omega)]
    have n8 : (N b).length ≤ 9 := by rw [k1] at hlna; simp only [List.length_cons] at hlna; omega
    have nlb := @nl_le (N b)
    have nsb := @ns_le (N b)
    have ntb := @nt_le (N b)
    have hltb := chd_lt (N b) (by rw [k1] at hch; exact hch.2.2.2)
    have tc' : Tc C' D4 rc'' t s (C a2) (C a3) len φ N H B := by
      refine ⟨Or.inr es, ?_, ?_, ?_, ?_, ?_, ?_, ?_, k3, e3', h52, ?_, ?_, ?_, ?_⟩
      · rw [hC' _ _ (by omega) (by omega) (by omega)]; exact t2
      · rw [hD' _ _ (by omega) (by omega) (by omega) (by omega) (by omega) (by omega)]; exact t3
      · rw [hC' _ _ (by omega) (by omega) (by omega)]; exact t4
      · rw [hC' _ _ (by omega) (by omega) (by omega), hD' _ _ (by omega) (by omega) (by omega) (by omega) (by omega) (by omega)]; exact t5
      · rw [hC' _ _ (by omega) (by omega) (by omega), hD' _ _ (by omega) (by omega) (by omega) (by omega) (by omega) (by omega)]; exact t6
      · rw [hC' _ _ (by omega) (by omega) (by omega), hD' _ _ (by omega) (by omega) (by omega) (by omega) (by omega) (by omega)]; exact t7
      · intro k hk
        rw [hC' _ _ (by omega) (by omega) (by omega), hD' _ _ (by omega) (by omega) (by omega) (by omega) (by omega) (by omega)]; exact t8 k hk
      · rw [k5]
        rw [i3] at t12
        exact ⟨by rw [hC' _ _ (by omega) (by omega) (by omega)]; exact t12.1, by rw [hD' _ _ (by omega) (by omega) (by omega) (by omega) (by omega) (by omega)]; exact t12.2.1, fun i hi => absurd hi (by omega)⟩
      · rw [k4]
        refine ⟨by rw [hC' _ _ (by omega) (by omega) (by omega)]; exact q11, by rw [hD' _ _ (by omega) (by omega) (by omega) (by omega) (by omega) (by omega)]; exact q58, d57, fun x hx => ?_⟩
        have hx' : x ∈ N a := by rw [k1]; exact List.mem_cons_of_mem _ hx
        obtain ⟨m1, m2, m3⟩ := hbd x hx'
        obtain ⟨n1, n2, n3, n4⟩ := hltb x hx
        refine Ent_mv (qE x hx') (fun e => ?_) (fun e => ?_) (fun e => ?_)
        · have := n1 e
          exact ⟨hC' _ _ (by omega) (by omega) (by omega), hC' _ _ (by omega) (by omega) (by omega), fun y y1 y2 => hD' _ _ (by omega) (by omega) (by omega) (by omega) (by omega) (by omega)⟩
        · exact hD' _ _ (by omega) (by omega) (by omega) (by omega) (by omega) (by omega)
        · exact ⟨hC' _ _ (by omega) (by omega) (by omega), hC' _ _ (by omega) (by omega) (by omega), fun y y1 y2 => hD' _ _ (by omega) (by omega) (by omega) (by omega) (by omega) (by omega)⟩
      · intro e; omega
      · intro _
        rw [k4, ej]
        refine ⟨by omega, ⟨e8', fun i hi => ?_, ?_⟩, d56, ?_, ?_⟩
        · by_cases q : i < j
          · obtain ⟨⟨x1, x2⟩, x3, x4, ⟨qs, us, xs, x5, x6⟩⟩ := wL i (by omega)
            refine ⟨⟨?_, ?_⟩, fun k hk => ?_, ⟨fun p hp => ?_, fun p hp => ?_⟩, qs, us, xs, RdC_mv x5 (hC' _ _ (by omega) (by omega) (by omega)) (hC' _ _ (by omega) (by omega) (by omega)) (fun k => ⟨hC' _ _ (by omega) (by omega) (by omega), hC' _ _ (by omega) (by omega) (by omega), hC' _ _ (by omega) (by omega) (by omega)⟩), RdD_mv x6 G6a (fun p hp => ⟨hD' _ _ (by omega) (by omega) (by omega) (by omega) (by omega) (by omega), hD' _ _ (by omega) (by omega) (by omega) (by omega) (by omega) (by omega), hD' _ _ (by omega) (by omega) (by omega) (by omega) (by omega) (by omega), hD' _ _ (by omega) (by omega) (by omega) (by omega) (by omega) (by omega)⟩)⟩
            · rw [hC' _ _ (by omega) (by omega) (by omega), hD' _ _ (by omega) (by omega) (by omega) (by omega) (by omega) (by omega)]; exact x1
            · rw [hD' _ _ (by omega) (by omega) (by omega) (by omega) (by omega) (by omega)]; exact x2
            · rw [hC' _ _ (by omega) (by omega) (by omega), hD' _ _ (by omega) (by omega) (by omega) (by omega) (by omega) (by omega)]; exact x3 k hk
            · rw [hC' _ _ (by omega) (by omega) (by omega)]; exact x4.1 p hp
            · rw [hC' _ _ (by omega) (by omega) (by omega), hD' _ _ (by omega) (by omega) (by omega) (by omega) (by omega) (by omega), hD' _ _ (by omega) (by omega) (by omega) (by omega) (by omega) (by omega), hC' _ _ (by omega) (by omega) (by omega)]; exact x4.2 p hp
          · obtain rfl : i = j := by omega
            obtain ⟨⟨u1, u2⟩, u3, -, -⟩ := wL i (by omega)
            refine ⟨⟨?_, ?_⟩, fun k hk => ?_, ⟨fun p hp => ?_, fun p hp => ?_⟩, ps'', vs'', ws'', RdC_mv G2 ?_ ?_ (fun k => ⟨?_, ?_, ?_⟩), RdD_mv G4 (Nat.le_refl _) (fun p hp => ⟨dr1 _ _ (by omega), dr1 _ _ (by omega), dr1 _ _ (by omega), dr1 _ _ (by omega)⟩)⟩
            · rw [hC' _ _ (by omega) (by omega) (by omega), hD' _ _ (by omega) (by omega) (by omega) (by omega) (by omega) (by omega)]; exact u1
            · rw [hD' _ _ (by omega) (by omega) (by omega) (by omega) (by omega) (by omega)]; exact u2
            · rw [hC' _ _ (by omega) (by omega) (by omega), hD' _ _ (by omega) (by omega) (by omega) (by omega) (by omega) (by omega)]; exact u3 k hk
            · rw [hC2 _ _ (by omega)]; exact jw0.1 p hp
            · rw [hC2 _ _ (by omega), dr _ _ (by omega), dr _ _ (by omega), hC2 _ _ (by omega)]; exact jw0.2 p hp
            · rw [hC2 _ _ (by omega), jC _ _ (by omega) (by omega)]
            · rw [hC2 _ _ (by omega), jC _ _ (by omega) (by omega)]
            · rw [hC2 _ _ (by omega), jC _ _ (by omega) (by omega)]
            · rw [hC2 _ _ (by omega), jC _ _ (by omega) (by omega)]
            · rw [hC2 _ _ (by omega), jC _ _ (by omega) (by omega)]
        · refine Held_join wH (by omega) (fun i hi => hC' _ _ (by omega) (by omega) (by omega)) (hC' _ _ (by omega) (by omega) (by omega)) (fun i => hC' _ _ (by omega) (by omega) (by omega)) (fun i hi => hD' _ _ (by omega) (by omega) (by omega) (by omega) (by omega) (by omega)) (fun i k hi hk => hD' _ _ (by omega) (by omega) (by omega) (by omega) (by omega) (by omega)) ?_
          intro Y Bl y1 y2 y3 y4 y5 y6
          obtain ⟨z1, z2⟩ := hm Y Bl y1 y2 y3 y4 y5 y6
          exact ⟨by rw [hD4 _ _ (by omega)]; exact z1, fun i hi => by rw [hD4 _ _ (by omega)]; exact z2 i hi⟩
        · rw [hC' _ _ (by omega) (by omega) (by omega), hD' _ _ (by omega) (by omega) (by omega) (by omega) (by omega) (by omega)]; exact w4
        · rw [hC' _ _ (by omega) (by omega) (by omega), hD' _ _ (by omega) (by omega) (by omega) (by omega) (by omega) (by omega)]; exact w5
    obtain ⟨z1, z2, z3, z4⟩ := Cat_loc hcat0 (C' := C') (fun x i hx => hC' x i (by omega) (by omega) (by omega))
    have ed : dcd D4 t = dcd D t := dcd_eq (fun i => hD' _ _ (by omega) (by omega) (by omega) (by omega) (by omega) (by omega))
    have hop : Opn C' ρ D4 rc'' t s len kd a1 a2 a3 φ N H K B := ⟨z1, by rw [z2, z3, z4, ed]; exact cok, by rw [z3, z4]; exact tc'⟩
    have hdp : dpC C t = j + 2 := by
      unfold dpC
      rw [w2, n_cl (by omega)]
    have hdp' : dpC C' t = j + 1 := by
      unfold dpC
      rw [e8', n_cl (by omega)]
    refine ⟨rfl, rfl, B, k6, ?_, hop⟩
    show Full C' ρ D4 σ kp rc'' nw bw br
    refine Full_lr hF' ht (fun x i hx => hC' x i (by omega) (by omega) (by omega)) (fun x i hx hx' => ?_) d64 G6a (Tc_Thr hop.1 hop.2.1 hop.2.2) (hC' _ _ (by omega) (by omega) (by omega)) (hC' _ _ (by omega) (by omega) (by omega)) (hD' _ _ (by omega) (by omega) (by omega) (by omega) (by omega) (by omega)) ?_ ?_
    · have hwd : ∀ w, wd x = w → 551 ≤ x → x ≤ 584 → ¬ (t * w ≤ i ∧ i < (t + 1) * w) := fun w hw h1 h2 h3 => hx' ⟨h1, h2, by rw [hw]; exact h3.1, by rw [hw]; exact h3.2⟩
      refine hD' x i ?_ hx ?_ ?_ ?_ ?_
      · rintro ⟨rfl, q⟩
        have hw1 : wd x = 1 := by
          unfold wd
          rw [if_neg (by omega), if_neg (by omega), if_neg (by omega), if_neg (by omega), if_neg (by omega), if_neg (by omega)]
        exact hwd 1 hw1 (by omega) (by omega) (by omega)
      · rintro ⟨rfl, q1, q2⟩
        exact hwd 312 rfl (by omega) (by omega) (by omega)
      · rintro ⟨q, q1, q2⟩
        have hw1 : wd x = 312 := by
          unfold wd
          rw [if_neg (by omega), if_neg (by omega), if_neg (by omega), if_pos (by omega)]
        exact hwd 312 hw1 (by omega) (by omega) (by omega)
      · rintro ⟨rfl, rfl⟩
        exact hwd 12 rfl (by omega) (by omega) (by omega)
      · rintro ⟨rfl, q1, q2⟩
        exact hwd 2400 rfl (by omega) (by omega) (by omega)
    · rw [hdp, hdp', wsum, wsum, wsum, wsum_congr (C := C) (C' := C') j (fun i hi => hC' _ _ (by omega) (by omega) (by omega))]
      have hpo : popc (C' (92 + 71 * t + 8 + 6 * j) 6) ≤ popc (C (92 + 71 * t + 8 + 6 * j) 6) + popc (C (92 + 71 * t + 8 + 6 * (j + 1)) 6) := popc_or (fun q hq => by
        rw [hC2 _ _ (by omega), jb q hq, c1 _ _ (by omega) (by omega) (by omega), c1 _ _ (by omega) (by omega) (by omega)]
        simp [hq])
      omega
    · rw [hdp, hdp', rsum, rsum, rsum, rsum_congr (C := C) (C' := C') j (fun i hi => by unfold rl; rw [hC' _ _ (by omega) (by omega) (by omega)])]
      have rA : rl C' t j = ps''.length := by
        have := rl_of G2
        unfold rl at this ⊢
        rw [hC2 _ _ (by omega), jC _ _ (by omega) (by omega)]
        exact this
      have rB : rl C t j = ps'.length := rl_of r1'
      have rD : rl C t (j + 1) = ps.length := rl_of r1
      rw [rA, rB, rD]
      have hd1 : rc'' - rc + ps'.length = ps''.length := by omega
      have hm2 : (j + 1) * ps''.length = (j + 1) * ps'.length + (j + 1) * (rc'' - rc) := by
        rw [← hd1, Nat.mul_add]; omega
      have hm3 : (j + 1) * (rc'' - rc) ≤ (j + 1) * ps.length := Nat.mul_le_mul_left _ (by omega)
      have hm4 : (j + 1 + 1) * ps.length = (j + 1) * ps.length + ps.length := by
        rw [Nat.succ_mul]
      omega
  -- the loops
  refine hv_mono (join_loop (C0 := C1) (D0 := D1) (Q := fun C3 D3 => ∃ C2 D2, Jn C1 D1 C2 D2 t j 26 ∧ C3 = ao_u (ao_u C2 (92 + 71 * t + 8 + 6 * (j + 1)) 6 0) (92 + 71 * t) 8 (nI (j + 1)) ∧ (∀ Y Bl : List Int32, Y.length ≤ 200 → Bl.length ≤ 200 → D 584 (t * 12 + j) = nI Y.length → (∀ (i : Nat) (h : i < Y.length), D 583 ((t * 12 + j) * 200 + i) = Y[i]) → D 584 (t * 12 + (j + 1)) = nI Bl.length → (∀ (i : Nat) (h : i < Bl.length), D 583 ((t * 12 + (j + 1)) * 200 + i) = Bl[i]) → D3 584 (t * 12 + j) = nI ((Y ++ Bl).take 200).length ∧ ∀ (i : Nat) (h : i < ((Y ++ Bl).take 200).length), D3 583 ((t * 12 + j) * 200 + i) = ((Y ++ Bl).take 200)[i]) ∧
      D3 556 t = nI (j + 1) ∧ (∀ a' i', ¬ (a' = 584 ∧ i' = t * 12 + j) → ¬ (a' = 583 ∧ (t * 12 + j) * 200 ≤ i' ∧ i' < (t * 12 + j) * 200 + 200) → ¬ (a' = 556 ∧ i' = t) → D3 a' i' = D2 a' i')) f1 f2 f4 ht (by omega) ?_ ?_ 26 0 C1 D1 rfl ⟨hWr1 j (Or.inl rfl) uW0, hWr1 (j + 1) (Or.inr rfl) uW1, fun q hq => by simp, fun _ _ _ _ => rfl, fun _ _ _ => rfl⟩) ?_
  · rw [c1 _ _ (by omega) (by omega) (by omega), d1 _ _ (by omega) (by omega) (by omega) (by omega)]; exact fw
  · intro C2 D2 hJ
    have hJ' := hJ
    obtain ⟨jw0, jw1, jb, jC, jD⟩ := hJ
    have c28 : C2 (92 + 71 * t) 8 = nI (j + 2) := by rw [jC _ _ (by omega) (by omega), c1 _ _ (by omega) (by omega) (by omega)]; exact w2
    have d2 : ∀ x i, x = 583 ∨ x = 584 ∨ x = 556 → D2 x i = D x i := fun x i q => by rw [jD _ _ (by omega), d1 _ _ (by omega) (by omega) (by omega) (by omega)]
    refine hv_up (fun _ => fX2_joinAround.eq_2 ..) ?_
    try simp only [↓reduceIte, Nat.reduceEqDiff, Option.bind_some, ao_let, n_ell, hl1, gX3_forgetWrites, hR, c28]
    try simp (disch := first | omega | assumption) only [↓reduceIte, Nat.reduceEqDiff, Option.bind_some, ao_let, t_le, f_le, t_lt, f_lt, f_eq, u_eq, u_n1, u_n2, n_cl, n_lt, n_le, n_eq, n_ltl, n_llt, n_lel, n_lle, n_eql, n_leq, n_add, n_mul, n_sub, n_addl, n_ladd, n_mull, n_lmul, n_subl, Int32.reduceLT, Int32.reduceLE, Int32.reduceAdd, Int32.reduceSub, Int32.reduceMul, Int32.reduceToNatClampNeg, not_false_eq_true, not_true_eq_false, or_false, false_or, or_self, and_self, false_and, true_and, and_false, and_true, true_or, or_true, Nat.reduceAdd, Nat.reduceMul, Nat.reduceLT, Nat.reduceLeDiff, ne_eq, n_ell, hl1, gX3_forgetWrites, hR, c28]
    obtain ⟨hl, ha0, _⟩ := wH
    obtain ⟨p1, p2, p3, p4⟩ := ha0 j (by omega)
    obtain ⟨p1', p2', p3', p4'⟩ := ha0 (j + 1) (by omega)
    refine hv_some ?_
    refine hv_up (fun _ => fX12_endPart.eq_2 ..) ?_
    try simp only [↓reduceIte, Nat.reduceEqDiff, Option.bind_some, ao_let, n_ell, f4, gX12_level, Nat.add_sub_cancel]
    try simp (disch := first | omega | assumption) only [↓reduceIte, Nat.reduceEqDiff, Option.bind_some, ao_let, t_le, f_le, t_lt, f_lt, f_eq, u_eq, u_n1, u_n2, n_cl, n_lt, n_le, n_eq, n_ltl, n_llt, n_lel, n_lle, n_eql, n_leq, n_add, n_mul, n_sub, n_addl, n_ladd, n_mull, n_lmul, n_subl, Int32.reduceLT, Int32.reduceLE, Int32.reduceAdd, Int32.reduceSub, Int32.reduceMul, Int32.reduceToNatClampNeg, not_false_eq_true, not_true_eq_false, or_false, false_or, or_self, and_self, false_and, true_and, and_false, and_true, true_or, or_true, Nat.reduceAdd, Nat.reduceMul, Nat.reduceLT, Nat.reduceLeDiff, ne_eq, n_ell, f4, gX12_level, Nat.add_sub_cancel]
    refine hv_mono (hm_loop f4 ht (by omega) p1' (hl (j + 1)).length 0 D2 (hl j) (by omega) (by rw [d2 _ _ (by omega)]; exact p2') (fun i hi => by rw [d2 _ _ (by omega)]; exact p4' i hi) p1 (by rw [d2 _ _ (by omega)]; exact p2) (fun i hi => by rw [d2 _ _ (by omega)]; exact p4 i hi) (by rw [d2 _ _ (by omega)]; exact w3)) ?_
    rintro D3 ⟨q1, q2, q3, q4⟩
    refine ⟨C2, D2, hJ', rfl, ?_, q3, q4⟩
    intro Y Bl y1 y2 y3 y4 y5 y6
    have eY : Y = hl j := by
      have hlen : Y.length = (hl j).length := by
        rw [p2] at y3
        have := (n_eq (show (hl j).length < 2147483648 by omega) (show Y.length < 2147483648 by omega)).mp y3
        omega
      exact List.ext_getElem hlen (fun i h1 h2 => by rw [← y4 i h1, p4 i h2])
    have eB : Bl = hl (j + 1) := by
      have hlen : Bl.length = (hl (j + 1)).length := by
        rw [p2'] at y5
        have := (n_eq (show (hl (j + 1)).length < 2147483648 by omega) (show Bl.length < 2147483648 by omega)).mp y5
        omega
      exact List.ext_getElem hlen (fun i h1 h2 => by rw [← y6 i h1, p4' i h2])
    subst eY eB
    simp only [List.drop_zero] at q1 q2
    exact ⟨q1, q2⟩
  · intro C3 hC3
    obtain ⟨N3, D3, eD3, C2, D2, hJ, rfl, hm, h56, hD3⟩ := hC3
    have hrun : hv (fun n => gX12_step n 537 (nI t) D σ) (fun v => v = (-1, D3, σ)) := by
      refine dstep (dpart ?_)
      refine hv_bind (P := fun y => y = D1) ⟨Nn, D1, eD1, rfl⟩ ?_
      rintro _ rfl
      exact ⟨N3, D3, eD3, rfl⟩
    have hpc : D3 552 t = nI (φ a + 1) := by
      rw [hD3 _ _ (by omega) (by omega) (by omega), hJ.2.2.2.2 _ _ (by omega), G8 _ _ (by omega) (by omega) (by omega), u_eq]
    rcases k7u () with kk | ⟨kk1, kk2⟩
    · refine Or.inl (hv_mono hrun ?_)
      rintro _ rfl
      exact ⟨rc'', key C2 D2 D3 D3 hJ rfl hm h56 hD3 (fun _ _ _ => rfl) (by rw [hpc, kk])⟩
    · refine Or.inr ⟨(-1, D3, σ), hrun, rfl, ?_⟩
      dsimp only
      have hc550 : ∀ i, D3 550 i = D 550 i := fun i => by
        rw [hD3 _ _ (by omega) (by omega) (by omega), hJ.2.2.2.2 _ _ (by omega), d1 _ _ (by omega) (by omega) (by omega) (by omega)]
      have x2 : D3 550 ((t * 6000 + (φ a + 1)) * 3) = 12 := by
        have := @dcd_at D t (φ a + 1) 0 (by omega) (by omega)
        rw [Nat.add_zero, kk1, Nat.add_zero] at this
        rw [hc550]
        exact this.symm
      have x3 : D3 550 ((t * 6000 + (φ a + 1)) * 3 + 1) = nI (φ B) := by
        have := @dcd_at D t (φ a + 1) 1 (by omega) (by omega)
        rw [kk2] at this
        rw [hc550]
        exact this.symm
      unfold gX12_step
      refine hv_up (fun _ => fX12_step.eq_2 ..) ?_
      try simp only [↓reduceIte, Nat.reduceEqDiff, Option.bind_some, ao_let, n_ell, f4, hpc, x2, x3]
      try simp (disch := first | omega | assumption) only [↓reduceIte, Nat.reduceEqDiff, Option.bind_some, ao_let, t_le, f_le, t_lt, f_lt, f_eq, u_eq, u_n1, u_n2, n_cl, n_lt, n_le, n_eq, n_ltl, n_llt, n_lel, n_lle, n_eql, n_leq, n_add, n_mul, n_sub, n_addl, n_ladd, n_mull, n_lmul, n_subl, Int32.reduceLT, Int32.reduceLE, Int32.reduceAdd, Int32.reduceSub, Int32.reduceMul, Int32.reduceToNatClampNeg, not_false_eq_true, not_true_eq_false, or_false, false_or, or_self, and_self, false_and, true_and, and_false, and_true, true_or, or_true, Nat.reduceAdd, Nat.reduceMul, Nat.reduceLT, Nat.reduceLeDiff, ne_eq, n_ell, f4, hpc, x2, x3]
      exact hv_some ⟨rc'', key C2 D2 D3 (ao_u D3 552 t (nI (φ B))) hJ rfl hm h56 hD3 (fun a' i' q => u_ne (by omega)) u_eq⟩

end St7
