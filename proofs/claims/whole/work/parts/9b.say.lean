set_option linter.unusedSimpArgs false
set_option linter.unusedVariables false
theorem Held_add {C D C' D' : ao_M} {t j n m : Nat} {v : Int32} (h : Held C D t (j + 1)) (hj : j < 10) (en : C (92 + 71 * t) 13 = nI n) (hn : n ≤ 200) (em : D 584 (t * 12 + j) = nI m) (hm : m ≤ 200) (c13 : C' (92 + 71 * t) 13 = nI (if n < 200 then n + 1 else n)) (c70 : ∀ i, C' (92 + 71 * t + 70) i = if n < 200 ∧ i = n then v else C (92 + 71 * t + 70) i) (c10 : ∀ i, i ≤ j → C' (92 + 71 * t + 8 + 6 * i) 10 = C (92 + 71 * t + 8 + 6 * i) 10)
    (d84 : D' 584 (t * 12 + j) = nI (if m < 200 then m + 1 else m)) (d83 : ∀ i, i < 200 → D' 583 ((t * 12 + j) * 200 + i) = if m < 200 ∧ i = m then v else D 583 ((t * 12 + j) * 200 + i)) (d84' : ∀ i, i < j → D' 584 (t * 12 + i) = D 584 (t * 12 + i)) (d83' : ∀ i k, i < j → k < 200 → D' 583 ((t * 12 + i) * 200 + k) = D 583 ((t * 12 + i) * 200 + k)) : Held C' D' t (j + 1) := by
  obtain ⟨hl, a, b, c⟩ := h
  obtain ⟨a1, a2, a3, a4⟩ := a j (by omega)
  have em' : m = (hl j).length := by
    rw [a2] at em
    have := (n_eq (show (hl j).length < 2147483648 by omega) (show m < 2147483648 by omega)).mp em
    omega
  have en' : n = min 200 (cat hl (j + 1)).length := by
    rw [b] at en
    have := (n_eq (show min 200 (cat hl (j + 1)).length < 2147483648 by omega) (show n < 2147483648 by omega)).mp en
    omega
  have el : (cat hl (j + 1)).length = (cat hl j).length + (hl j).length := by rw [cat, List.length_append]
  obtain ⟨X, x1, x2, x3, x4⟩ : ∃ X : List Int32, X.length ≤ 200 ∧ D' 584 (t * 12 + j) = nI X.length ∧ (∀ (k : Nat) (h : k < X.length), D' 583 ((t * 12 + j) * 200 + k) = X[k]) ∧ (m < 200 ∧ X = hl j ++ [v] ∨ m = 200 ∧ X = hl j) := by
    by_cases q2 : m < 200
    · simp only [q2, ↓reduceIte] at d84
      refine ⟨hl j ++ [v], by simp; omega, by rw [d84]; simp [em'], fun k hk => ?_, Or.inl ⟨q2, rfl⟩⟩
      simp at hk
      rw [d83 k (by omega)]
      by_cases e : k = m
      · subst e
        rw [if_pos ⟨q2, rfl⟩]
        simp [em']
      · rw [if_neg (fun x => e x.2), List.getElem_append_left (by omega)]
        exact a4 k (by omega)
    · simp only [q2, ↓reduceIte] at d84
      refine ⟨hl j, a1, by rw [d84, em'], fun k hk => ?_, Or.inr ⟨by omega, rfl⟩⟩
      rw [d83 k (by omega), if_neg (fun x => q2 x.1)]
      exact a4 k hk
  have ec : ∀ i, i ≤ j → cat (fun i => if i < j then hl i else X) i = cat hl i := fun i hi => cat_congr i (fun k hk => if_pos (by omega))
  have ec1 : cat (fun i => if i < j then hl i else X) (j + 1) = cat hl j ++ X := by
    rw [cat, if_neg (by omega), ec j (by omega)]
  refine ⟨fun i => if i < j then hl i else X, fun i hi => ?_, ?_, fun i hi h2 => ?_⟩
  · by_cases q : i < j
    · obtain ⟨v1, v2, v3, v4⟩ := a i (by omega)
      simp only [q, ↓reduceIte]
      exact ⟨v1, by rw [d84' i q]; exact v2, by rw [c10 i (by omega), ec i (by omega)]; exact v3, fun k hk => by rw [d83' i k q (by omega)]; exact v4 k hk⟩
    · obtain rfl : i = j := by omega
      simp only [q, ↓reduceIte]
      exact ⟨x1, x2, by rw [c10 i (by omega), ec i (by omega)]; exact a3, x3⟩
  · rw [c13, ec1]
    congr 1
    rw [List.length_append]
    rcases x4 with ⟨q2, rfl⟩ | ⟨q2, rfl⟩
    · rw [List.length_append, List.length_singleton]
      by_cases q3 : n < 200
      · rw [if_pos q3]; omega
      · rw [if_neg q3]; omega
    · rw [if_neg (by omega)]
      omega
  · simp only [ec1] at hi ⊢
    rw [c70]
    rcases x4 with ⟨q2, rfl⟩ | ⟨q2, rfl⟩
    · by_cases e : n < 200 ∧ i = n
      · rw [if_pos e]
        obtain ⟨e1, rfl⟩ := e
        have : i = (cat hl j ++ hl j).length := by rw [List.length_append]; omega
        subst this
        simp only [← List.append_assoc]
        rw [List.getElem_append_right (as := cat hl j ++ hl j) (by omega)]
        simp
      · rw [if_neg e]
        rw [List.length_append, List.length_append, List.length_singleton] at hi
        have hi2 : i < (cat hl (j + 1)).length := by
          rw [el]
          omega
        rw [c i hi2 h2]
        simp only [cat, ← List.append_assoc]
        rw [List.getElem_append_left (as := cat hl j ++ hl j) (by rw [List.length_append]; omega)]
    · rw [if_neg (by rw [List.length_append] at hi; omega)]
      exact c i (by rw [cat]; exact hi) h2

section St8
variable {C D : ao_M} {ρ σ : ao_H} {kp rc nw bw br t s len kd a1 a2 a3 a : Nat} {φ : Nat → Nat} {N : Ns} {H K : Nat → Nat}
set_option maxHeartbeats 1000000 in
theorem st_say1 (hF : Full C ρ D σ kp rc nw bw br) (ht : t < 6) (ho : Opn C ρ D rc t s len kd a1 a2 a3 φ N H K a) (ha : a < len) (h : C a1 a = 15 ∧ dcd D t (3 * φ a) = 14 ∧ H a = 1 ∧ nxt φ N H K a 1 0) (es : s = 1) :
    hv (fun n => gX2_step n 12 (92 + 71 * t) C ρ) (fun y => hv (fun n => gX12_step n 537 (nI t) D σ) (fun w => EndP kp rc nw bw br y w)) := by
  obtain ⟨i1, i2, i3, j1, j2, j3, j4⟩ := h
  have ho' := ho
  have hF' := hF
  obtain ⟨hcat, cok, tc⟩ := ho
  obtain ⟨⟨f1, f2, f3, f4⟩, -⟩ := hF
  obtain ⟨t1, t2, t3, t4, t5, t6, t7, t8, t9, t10, t11, t12, t13, t14, t15⟩ := tc
  have hR := RnS_of f2 ht
  have hh := (cok.2.2.2.2.2.1 a t9).2.2.1
  obtain ⟨g0, g1, g2, g3⟩ := d_ins (C := C) (rc := rc) (s := s) cok t9
  have hcat0 := hcat
  have tc0 := ho'.2.2
  rw [i2] at g1
  rw [i3] at t12
  have e1 := t12.2.2 0 (by omega)
  obtain ⟨p1, p2, p3⟩ := t14 es
  have hf11 : Full C ρ D σ kp rc nw bw br := hF'
  obtain ⟨-, -, -, -, ⟨k, s1, s2, s3, s4⟩, fRc, frc, -, fB, -, fbw, fbr⟩ := hf11
  have hlen := cok.1
  obtain ⟨b1, b2, b3, b4, b5, b6, b7, b8, b9, b10, b11, b12, b13, b14, b15, b16, b17, b18⟩ := hcat
  have hmode : (D 551 t = 2) = False := by
    rw [t3, es]
    exact eq_false (by decide)
  -- what the thread is, then
  have fin : ∀ C' D' : ao_M, (∀ x i, ¬ (x = 92 + 71 * t ∧ (i = 3 ∨ i = 5)) → ¬ (22 ≤ x ∧ x ≤ 24) → C' x i = C x i) → C' (92 + 71 * t) 3 = nI (a + 1) → C' (92 + 71 * t) 5 = nI 0 → (∀ x i, ¬ (i = t ∧ (x = 552 ∨ x = 555)) → ¬ (x = 537 ∧ i = 68) → ¬ (x = 585 ∨ x = 586) → D' x i = D x i) → D' 552 t = nI (φ a + 1) → D' 555 t = nI 0 → Rsd C' D' → EndP kp rc nw bw br (0, C', ρ) (0, D', σ) := by
    intro C' D' hC hc3 hc5 hD hd52 hd55 hS
    clear f1 f2 f3 f4 hR
    have tc' : Tc C' D' rc t s (C a2) (C a3) len φ N H (a + 1) := by
      refine Tc_mv ht cok tc0 j2 (by omega) (fun x i q1 q2 q3 q4 q5 => hC x i q5 (by omega)) (fun x i q1 q2 q3 q4 q5 => hD x i q5 (by omega) (by omega)) hc3 (by rw [j1]; exact hd52) ?_ ?_
      · rw [j3]
        exact ⟨hc5, hd55, fun i hi => absurd hi (by omega)⟩
      · intro k hk
        rw [hC _ _ (by omega) (by omega), hD _ _ (by omega) (by omega) (by omega)]; exact t8 k hk
    obtain ⟨z1, z2, z3, z4⟩ := Cat_loc hcat0 (C' := C') (fun x i hx => hC x i (by omega) (by omega))
    have ed : dcd D' t = dcd D t := dcd_eq (fun i => hD _ _ (by omega) (by omega) (by omega))
    have hT : Thr C' ρ D' rc t := Tc_Thr z1 (by rw [z2, z3, z4, ed]; exact cok) (by rw [z3, z4]; exact tc')
    have e8 : dpC C' t = dpC C t := by
      unfold dpC
      rw [hC _ _ (by omega) (by omega)]
    have h0 : dpC C t = 0 := by
      unfold dpC
      rw [p2]; decide
    refine ⟨rfl, (show ¬ (0 : Int32) < 0 by decide), ?_⟩
    show Full C' ρ D' σ kp rc nw bw br
    refine Full_gen hF' ht (fun x i q1 q2 => hC x i (by omega) (by omega)) (fun x i q1 q2 q3 => hD x i ?_ (by omega) (by omega)) (by rw [hD _ _ (by omega) (by omega) (by omega)]; exact frc) (Nat.le_refl _) hS (Rrc_fr fRc (fun x i q1 q2 => hC x i (by omega) (by omega)) (hD _ _ (by omega) (by omega) (by omega)) (fun x i q1 q2 => hD x i (by omega) (by omega) (by omega))) (Bth_fr fB (hD _ _ (by omega) (by omega) (by omega)) (fun p => hC _ _ (by omega) (by omega)) (fun u hu => ⟨hC _ _ (by omega) (by omega), hC _ _ (by omega) (by omega), hD _ _ (by omega) (by omega) (by omega)⟩)) hT (by rw [e8, h0]; exact Nat.le_refl _) (by rw [e8, h0]; exact Nat.le_refl _) (Nat.le_refl _) fbw fbr
    rintro ⟨rfl, q⟩
    have hw1 : wd x = 1 := by
      unfold wd
      rw [if_neg (by omega), if_neg (by omega), if_neg (by omega), if_neg (by omega), if_neg (by omega), if_neg (by omega)]
    exact q3 ⟨by omega, by omega, by rw [hw1]; omega, by rw [hw1]; omega⟩
  unfold gX2_step
  refine hv_up (fun _ => fX2_step.eq_2 ..) ?_
  try simp only [↓reduceIte, Nat.reduceEqDiff, Option.bind_some, ao_let, n_ell, f1, hR, b1, b2, b3, b4, b5, b6, b7, b8, b9, b10, b11, b12, b13, t10, i1]
  try simp (disch := first | omega | assumption) only [↓reduceIte, Nat.reduceEqDiff, Option.bind_some, ao_let, t_le, f_le, t_lt, f_lt, f_eq, u_eq, u_n1, u_n2, n_cl, n_lt, n_le, n_eq, n_ltl, n_llt, n_lel, n_lle, n_eql, n_leq, n_add, n_mul, n_sub, n_addl, n_ladd, n_mull, n_lmul, n_subl, Int32.reduceLT, Int32.reduceLE, Int32.reduceAdd, Int32.reduceSub, Int32.reduceMul, Int32.reduceToNatClampNeg, not_false_eq_true, not_true_eq_false, or_false, false_or, or_self, and_self, false_and, true_and, and_false, and_true, true_or, or_true, Nat.reduceAdd, Nat.reduceMul, Nat.reduceLT, Nat.reduceLeDiff, ne_eq, n_ell, f1, hR, b1, b2, b3, b4, b5, b6, b7, b8, b9, b10, b11, b12, b13, t10, i1]
  rw [c_pop (h := 0) hR (by rw [u_n2 (by omega)]; exact t12.1) (by omega)]
  try simp only [↓reduceIte, Nat.reduceEqDiff, Option.bind_some, ao_let, n_ell, f1, hR, gX2_say, p2, t4]
  try simp (disch := first | omega | assumption) only [↓reduceIte, Nat.reduceEqDiff, Option.bind_some, ao_let, t_le, f_le, t_lt, f_lt, f_eq, u_eq, u_n1, u_n2, n_cl, n_lt, n_le, n_eq, n_ltl, n_llt, n_lel, n_lle, n_eql, n_leq, n_add, n_mul, n_sub, n_addl, n_ladd, n_mull, n_lmul, n_subl, Int32.reduceLT, Int32.reduceLE, Int32.reduceAdd, Int32.reduceSub, Int32.reduceMul, Int32.reduceToNatClampNeg, not_false_eq_true, not_true_eq_false, or_false, false_or, or_self, and_self, false_and, true_and, and_false, and_true, true_or, or_true, Nat.reduceAdd, Nat.reduceMul, Nat.reduceLT, Nat.reduceLeDiff, ne_eq, n_ell, f1, hR, gX2_say, p2, t4]
  have dstep : ∀ {P : Int32 × ao_S → Prop}, hv (fun n => (gX12_say 537 (nI t) (C (92 + 71 * t + 5) 0) (ao_u (ao_u D 555 t (nI 0)) 552 t (nI (φ a + 1))) σ).bind fun p60 => some ((0 : Int32), p60, σ)) P → hv (fun n => gX12_step n 537 (nI t) D σ) P := by
    intro P hP
    unfold gX12_step
    refine hv_up (fun _ => fX12_step.eq_2 ..) ?_
    try simp only [↓reduceIte, Nat.reduceEqDiff, Option.bind_some, ao_let, n_ell, f4, t11, g1, d_pop (h := 0) f4 ht t12.2.1 (by omega)]
    try simp (disch := first | omega | assumption) only [↓reduceIte, Nat.reduceEqDiff, Option.bind_some, ao_let, t_le, f_le, t_lt, f_lt, f_eq, u_eq, u_n1, u_n2, n_cl, n_lt, n_le, n_eq, n_ltl, n_llt, n_lel, n_lle, n_eql, n_leq, n_add, n_mul, n_sub, n_addl, n_ladd, n_mull, n_lmul, n_subl, Int32.reduceLT, Int32.reduceLE, Int32.reduceAdd, Int32.reduceSub, Int32.reduceMul, Int32.reduceToNatClampNeg, not_false_eq_true, not_true_eq_false, or_false, false_or, or_self, and_self, false_and, true_and, and_false, and_true, true_or, or_true, Nat.reduceAdd, Nat.reduceMul, Nat.reduceLT, Nat.reduceLeDiff, ne_eq, n_ell, f4, t11, g1, d_pop (h := 0) f4 ht t12.2.1 (by omega)]
    simp only [hmode, ↓reduceIte]
    rw [e1] at hP
    exact hP
  unfold gX8_add
  by_cases hk : k < 200
  · try simp only [↓reduceIte, Nat.reduceEqDiff, Option.bind_some, ao_let, n_ell, f1, s2]
    try simp (disch := first | omega | assumption) only [↓reduceIte, Nat.reduceEqDiff, Option.bind_some, ao_let, t_le, f_le, t_lt, f_lt, f_eq, u_eq, u_n1, u_n2, n_cl, n_lt, n_le, n_eq, n_ltl, n_llt, n_lel, n_lle, n_eql, n_leq, n_add, n_mul, n_sub, n_addl, n_ladd, n_mull, n_lmul, n_subl, Int32.reduceLT, Int32.reduceLE, Int32.reduceAdd, Int32.reduceSub, Int32.reduceMul, Int32.reduceToNatClampNeg, not_false_eq_true, not_true_eq_false, or_false, false_or, or_self, and_self, false_and, true_and, and_false, and_true, true_or, or_true, Nat.reduceAdd, Nat.reduceMul, Nat.reduceLT, Nat.reduceLeDiff, ne_eq, n_ell, f1, s2]
    refine hv_some (dstep ?_)
    unfold gX12_say
    try simp only [↓reduceIte, Nat.reduceEqDiff, Option.bind_some, ao_let, n_ell, f4, s3]
    try simp (disch := first | omega | assumption) only [↓reduceIte, Nat.reduceEqDiff, Option.bind_some, ao_let, t_le, f_le, t_lt, f_lt, f_eq, u_eq, u_n1, u_n2, n_cl, n_lt, n_le, n_eq, n_ltl, n_llt, n_lel, n_lle, n_eql, n_leq, n_add, n_mul, n_sub, n_addl, n_ladd, n_mull, n_lmul, n_subl, Int32.reduceLT, Int32.reduceLE, Int32.reduceAdd, Int32.reduceSub, Int32.reduceMul, Int32.reduceToNatClampNeg, not_false_eq_true, not_true_eq_false, or_false, false_or, or_self, and_self, false_and, true_and, and_false, and_true, true_or, or_true, Nat.reduceAdd, Nat.reduceMul, Nat.reduceLT, Nat.reduceLeDiff, ne_eq, n_ell, f4, s3]
    refine hv_some (fin _ _ ?_ ?_ ?_ ?_ ?_ ?_ ?_)
    · intro x i q1 q2
      simp (disch := omega) only [u_ne]
    · try simp only [↓reduceIte, Nat.reduceEqDiff, Option.bind_some, ao_let, n_ell]
      try simp (disch := first | omega | assumption) only [↓reduceIte, Nat.reduceEqDiff, Option.bind_some, ao_let, t_le, f_le, t_lt, f_lt, f_eq, u_eq, u_n1, u_n2, n_cl, n_lt, n_le, n_eq, n_ltl, n_llt, n_lel, n_lle, n_eql, n_leq, n_add, n_mul, n_sub, n_addl, n_ladd, n_mull, n_lmul, n_subl, Int32.reduceLT, Int32.reduceLE, Int32.reduceAdd, Int32.reduceSub, Int32.reduceMul, Int32.reduceToNatClampNeg, not_false_eq_true, not_true_eq_false, or_false, false_or, or_self, and_self, false_and, true_and, and_false, and_true, true_or, or_true, Nat.reduceAdd, Nat.reduceMul, Nat.reduceLT, Nat.reduceLeDiff, ne_eq, n_ell]
    · try simp only [↓reduceIte, Nat.reduceEqDiff, Option.bind_some, ao_let, n_ell]
      try simp (disch := first | omega | assumption) only [↓reduceIte, Nat.reduceEqDiff, Option.bind_some, ao_let, t_le, f_le, t_lt, f_lt, f_eq, u_eq, u_n1, u_n2, n_cl, n_lt, n_le, n_eq, n_ltl, n_llt, n_lel, n_lle, n_eql, n_leq, n_add, n_mul, n_sub, n_addl, n_ladd, n_mull, n_lmul, n_subl, Int32.reduceLT, Int32.reduceLE, Int32.reduceAdd, Int32.reduceSub, Int32.reduceMul, Int32.reduceToNatClampNeg, not_false_eq_true, not_true_eq_false, or_false, false_or, or_self, and_self, false_and, true_and, and_false, and_true, true_or, or_true, Nat.reduceAdd, Nat.reduceMul, Nat.reduceLT, Nat.reduceLeDiff, ne_eq, n_ell]
    · intro x i q1 q2 q3
      simp (disch := omega) only [u_ne]
    · try simp only [↓reduceIte, Nat.reduceEqDiff, Option.bind_some, ao_let, n_ell]
      try simp (disch := first | omega | assumption) only [↓reduceIte, Nat.reduceEqDiff, Option.bind_some, ao_let, t_le, f_le, t_lt, f_lt, f_eq, u_eq, u_n1, u_n2, n_cl, n_lt, n_le, n_eq, n_ltl, n_llt, n_lel, n_lle, n_eql, n_leq, n_add, n_mul, n_sub, n_addl, n_ladd, n_mull, n_lmul, n_subl, Int32.reduceLT, Int32.reduceLE, Int32.reduceAdd, Int32.reduceSub, Int32.reduceMul, Int32.reduceToNatClampNeg, not_false_eq_true, not_true_eq_false, or_false, false_or, or_self, and_self, false_and, true_and, and_false, and_true, true_or, or_true, Nat.reduceAdd, Nat.reduceMul, Nat.reduceLT, Nat.reduceLeDiff, ne_eq, n_ell]
    · try simp only [↓reduceIte, Nat.reduceEqDiff, Option.bind_some, ao_let, n_ell]
      try simp (disch := first | omega | assumption) only [↓reduceIte, Nat.reduceEqDiff, Option.bind_some, ao_let, t_le, f_le, t_lt, f_lt, f_eq, u_eq, u_n1, u_n2, n_cl, n_lt, n_le, n_eq, n_ltl, n_llt, n_lel, n_lle, n_eql, n_leq, n_add, n_mul, n_sub, n_addl, n_ladd, n_mull, n_lmul, n_subl, Int32.reduceLT, Int32.reduceLE, Int32.reduceAdd, Int32.reduceSub, Int32.reduceMul, Int32.reduceToNatClampNeg, not_false_eq_true, not_true_eq_false, or_false, false_or, or_self, and_self, false_and, true_and, and_false, and_true, true_or, or_true, Nat.reduceAdd, Nat.reduceMul, Nat.reduceLT, Nat.reduceLeDiff, ne_eq, n_ell]
    · refine ⟨k + 1, by omega, ?_, ?_, fun i hi => ?_⟩
      · try simp only [↓reduceIte, Nat.reduceEqDiff, Option.bind_some, ao_let, n_ell]
        try simp (disch := first | omega | assumption) only [↓reduceIte, Nat.reduceEqDiff, Option.bind_some, ao_let, t_le, f_le, t_lt, f_lt, f_eq, u_eq, u_n1, u_n2, n_cl, n_lt, n_le, n_eq, n_ltl, n_llt, n_lel, n_lle, n_eql, n_leq, n_add, n_mul, n_sub, n_addl, n_ladd, n_mull, n_lmul, n_subl, Int32.reduceLT, Int32.reduceLE, Int32.reduceAdd, Int32.reduceSub, Int32.reduceMul, Int32.reduceToNatClampNeg, not_false_eq_true, not_true_eq_false, or_false, false_or, or_self, and_self, false_and, true_and, and_false, and_true, true_or, or_true, Nat.reduceAdd, Nat.reduceMul, Nat.reduceLT, Nat.reduceLeDiff, ne_eq, n_ell]
      · try simp only [↓reduceIte, Nat.reduceEqDiff, Option.bind_some, ao_let, n_ell]
        try simp (disch := first | omega | assumption) only [↓reduceIte, Nat.reduceEqDiff, Option.bind_some, ao_let, t_le, f_le, t_lt, f_lt, f_eq, u_eq, u_n1, u_n2, n_cl, n_lt, n_le, n_eq, n_ltl, n_llt, n_lel, n_lle, n_eql, n_leq, n_add, n_mul, n_sub, n_addl, n_ladd, n_mull, n_lmul, n_subl, Int32.reduceLT, Int32.reduceLE, Int32.reduceAdd, Int32.reduceSub, Int32.reduceMul, Int32.reduceToNatClampNeg, not_false_eq_true, not_true_eq_false, or_false, false_or, or_self, and_self, false_and, true_and, and_false, and_true, true_or, or_true, Nat.reduceAdd, Nat.reduceMul, Nat.reduceLT, Nat.reduceLeDiff, ne_eq, n_ell]
      · by_cases e : i = k
        · subst e
          try simp only [↓reduceIte, Nat.reduceEqDiff, Option.bind_some, ao_let, n_ell]
          try simp (disch := first | omega | assumption) only [↓reduceIte, Nat.reduceEqDiff, Option.bind_some, ao_let, t_le, f_le, t_lt, f_lt, f_eq, u_eq, u_n1, u_n2, n_cl, n_lt, n_le, n_eq, n_ltl, n_llt, n_lel, n_lle, n_eql, n_leq, n_add, n_mul, n_sub, n_addl, n_ladd, n_mull, n_lmul, n_subl, Int32.reduceLT, Int32.reduceLE, Int32.reduceAdd, Int32.reduceSub, Int32.reduceMul, Int32.reduceToNatClampNeg, not_false_eq_true, not_true_eq_false, or_false, false_or, or_self, and_self, false_and, true_and, and_false, and_true, true_or, or_true, Nat.reduceAdd, Nat.reduceMul, Nat.reduceLT, Nat.reduceLeDiff, ne_eq, n_ell]
        · try simp only [↓reduceIte, Nat.reduceEqDiff, Option.bind_some, ao_let, n_ell]
          try simp (disch := first | omega | assumption) only [↓reduceIte, Nat.reduceEqDiff, Option.bind_some, ao_let, t_le, f_le, t_lt, f_lt, f_eq, u_eq, u_n1, u_n2, n_cl, n_lt, n_le, n_eq, n_ltl, n_llt, n_lel, n_lle, n_eql, n_leq, n_add, n_mul, n_sub, n_addl, n_ladd, n_mull, n_lmul, n_subl, Int32.reduceLT, Int32.reduceLE, Int32.reduceAdd, Int32.reduceSub, Int32.reduceMul, Int32.reduceToNatClampNeg, not_false_eq_true, not_true_eq_false, or_false, false_or, or_self, and_self, false_and, true_and, and_false, and_true, true_or, or_true, Nat.reduceAdd, Nat.reduceMul, Nat.reduceLT, Nat.reduceLeDiff, ne_eq, n_ell]
          exact s4 i (by omega)
  · obtain rfl : k = 200 := by omega
    try simp only [↓reduceIte, Nat.reduceEqDiff, Option.bind_some, ao_let, n_ell, f1, s2]
    try simp (disch := first | omega | assumption) only [↓reduceIte, Nat.reduceEqDiff, Option.bind_some, ao_let, t_le, f_le, t_lt, f_lt, f_eq, u_eq, u_n1, u_n2, n_cl, n_lt, n_le, n_eq, n_ltl, n_llt, n_lel, n_lle, n_eql, n_leq, n_add, n_mul, n_sub, n_addl, n_ladd, n_mull, n_lmul, n_subl, Int32.reduceLT, Int32.reduceLE, Int32.reduceAdd, Int32.reduceSub, Int32.reduceMul, Int32.reduceToNatClampNeg, not_false_eq_true, not_true_eq_false, or_false, false_or, or_self, and_self, false_and, true_and, and_false, and_true, true_or, or_true, Nat.reduceAdd, Nat.reduceMul, Nat.reduceLT, Nat.reduceLeDiff, ne_eq, n_ell, f1, s2]
    refine hv_some (dstep ?_)
    unfold gX12_say
    try simp only [↓reduceIte, Nat.reduceEqDiff, Option.bind_some, ao_let, n_ell, f4, s3]
    try simp (disch := first | omega | assumption) only [↓reduceIte, Nat.reduceEqDiff, Option.bind_some, ao_let, t_le, f_le, t_lt, f_lt, f_eq, u_eq, u_n1, u_n2, n_cl, n_lt, n_le, n_eq, n_ltl, n_llt, n_lel, n_lle, n_eql, n_leq, n_add, n_mul, n_sub, n_addl, n_ladd, n_mull, n_lmul, n_subl, Int32.reduceLT, Int32.reduceLE, Int32.reduceAdd, Int32.reduceSub, Int32.reduceMul, Int32.reduceToNatClampNeg, not_false_eq_true, not_true_eq_false, or_false, false_or, or_self, and_self, false_and, true_and, and_false, and_true, true_or, or_true, Nat.reduceAdd, Nat.reduceMul, Nat.reduceLT, Nat.reduceLeDiff, ne_eq, n_ell, f4, s3]
    refine hv_some (fin _ _ ?_ ?_ ?_ ?_ ?_ ?_ ?_)
    · intro x i q1 q2
      simp (disch := omega) only [u_ne]
    · try simp only [↓reduceIte, Nat.reduceEqDiff, Option.bind_some, ao_let, n_ell]
      try simp (disch := first | omega | assumption) only [↓reduceIte, Nat.reduceEqDiff, Option.bind_some, ao_let, t_le, f_le, t_lt, f_lt, f_eq, u_eq, u_n1, u_n2, n_cl, n_lt, n_le, n_eq, n_ltl, n_llt, n_lel, n_lle, n_eql, n_leq, n_add, n_mul, n_sub, n_addl, n_ladd, n_mull, n_lmul, n_subl, Int32.reduceLT, Int32.reduceLE, Int32.reduceAdd, Int32.reduceSub, Int32.reduceMul, Int32.reduceToNatClampNeg, not_false_eq_true, not_true_eq_false, or_false, false_or, or_self, and_self, false_and, true_and, and_false, and_true, true_or, or_true, Nat.reduceAdd, Nat.reduceMul, Nat.reduceLT, Nat.reduceLeDiff, ne_eq, n_ell]
    · try simp only [↓reduceIte, Nat.reduceEqDiff, Option.bind_some, ao_let, n_ell]
      try simp (disch := first | omega | assumption) only [↓reduceIte, Nat.reduceEqDiff, Option.bind_some, ao_let, t_le, f_le, t_lt, f_lt, f_eq, u_eq, u_n1, u_n2, n_cl, n_lt, n_le, n_eq, n_ltl, n_llt, n_lel, n_lle, n_eql, n_leq, n_add, n_mul, n_sub, n_addl, n_ladd, n_mull, n_lmul, n_subl, Int32.reduceLT, Int32.reduceLE, Int32.reduceAdd, Int32.reduceSub, Int32.reduceMul, Int32.reduceToNatClampNeg, not_false_eq_true, not_true_eq_false, or_false, false_or, or_self, and_self, false_and, true_and, and_false, and_true, true_or, or_true, Nat.reduceAdd, Nat.reduceMul, Nat.reduceLT, Nat.reduceLeDiff, ne_eq, n_ell]
    · intro x i q1 q2 q3
      simp (disch := omega) only [u_ne]
    · try simp only [↓reduceIte, Nat.reduceEqDiff, Option.bind_some, ao_let, n_ell]
      try simp (disch := first | omega | assumption) only [↓reduceIte, Nat.reduceEqDiff, Option.bind_some, ao_let, t_le, f_le, t_lt, f_lt, f_eq, u_eq, u_n1, u_n2, n_cl, n_lt, n_le, n_eq, n_ltl, n_llt, n_lel, n_lle, n_eql, n_leq, n_add, n_mul, n_sub, n_addl, n_ladd, n_mull, n_lmul, n_subl, Int32.reduceLT, Int32.reduceLE, Int32.reduceAdd, Int32.reduceSub, Int32.reduceMul, Int32.reduceToNatClampNeg, not_false_eq_true, not_true_eq_false, or_false, false_or, or_self, and_self, false_and, true_and, and_false, and_true, true_or, or_true, Nat.reduceAdd, Nat.reduceMul, Nat.reduceLT, Nat.reduceLeDiff, ne_eq, n_ell]
    · try simp only [↓reduceIte, Nat.reduceEqDiff, Option.bind_some, ao_let, n_ell]
      try simp (disch := first | omega | assumption) only [↓reduceIte, Nat.reduceEqDiff, Option.bind_some, ao_let, t_le, f_le, t_lt, f_lt, f_eq, u_eq, u_n1, u_n2, n_cl, n_lt, n_le, n_eq, n_ltl, n_llt, n_lel, n_lle, n_eql, n_leq, n_add, n_mul, n_sub, n_addl, n_ladd, n_mull, n_lmul, n_subl, Int32.reduceLT, Int32.reduceLE, Int32.reduceAdd, Int32.reduceSub, Int32.reduceMul, Int32.reduceToNatClampNeg, not_false_eq_true, not_true_eq_false, or_false, false_or, or_self, and_self, false_and, true_and, and_false, and_true, true_or, or_true, Nat.reduceAdd, Nat.reduceMul, Nat.reduceLT, Nat.reduceLeDiff, ne_eq, n_ell]
    · refine ⟨200, by omega, ?_, ?_, fun i hi => ?_⟩
      · try simp only [↓reduceIte, Nat.reduceEqDiff, Option.bind_some, ao_let, n_ell]
        try simp (disch := first | omega | assumption) only [↓reduceIte, Nat.reduceEqDiff, Option.bind_some, ao_let, t_le, f_le, t_lt, f_lt, f_eq, u_eq, u_n1, u_n2, n_cl, n_lt, n_le, n_eq, n_ltl, n_llt, n_lel, n_lle, n_eql, n_leq, n_add, n_mul, n_sub, n_addl, n_ladd, n_mull, n_lmul, n_subl, Int32.reduceLT, Int32.reduceLE, Int32.reduceAdd, Int32.reduceSub, Int32.reduceMul, Int32.reduceToNatClampNeg, not_false_eq_true, not_true_eq_false, or_false, false_or, or_self, and_self, false_and, true_and, and_false, and_true, true_or, or_true, Nat.reduceAdd, Nat.reduceMul, Nat.reduceLT, Nat.reduceLeDiff, ne_eq, n_ell]
        exact s2
      · try simp only [↓reduceIte, Nat.reduceEqDiff, Option.bind_some, ao_let, n_ell]
        try simp (disch := first | omega | assumption) only [↓reduceIte, Nat.reduceEqDiff, Option.bind_some, ao_let, t_le, f_le, t_lt, f_lt, f_eq, u_eq, u_n1, u_n2, n_cl, n_lt, n_le, n_eq, n_ltl, n_llt, n_lel, n_lle, n_eql, n_leq, n_add, n_mul, n_sub, n_addl, n_ladd, n_mull, n_lmul, n_subl, Int32.reduceLT, Int32.reduceLE, Int32.reduceAdd, Int32.reduceSub, Int32.reduceMul, Int32.reduceToNatClampNeg, not_false_eq_true, not_true_eq_false, or_false, false_or, or_self, and_self, false_and, true_and, and_false, and_true, true_or, or_true, Nat.reduceAdd, Nat.reduceMul, Nat.reduceLT, Nat.reduceLeDiff, ne_eq, n_ell]
        exact s3
      · try simp only [↓reduceIte, Nat.reduceEqDiff, Option.bind_some, ao_let, n_ell]
        try simp (disch := first | omega | assumption) only [↓reduceIte, Nat.reduceEqDiff, Option.bind_some, ao_let, t_le, f_le, t_lt, f_lt, f_eq, u_eq, u_n1, u_n2, n_cl, n_lt, n_le, n_eq, n_ltl, n_llt, n_lel, n_lle, n_eql, n_leq, n_add, n_mul, n_sub, n_addl, n_ladd, n_mull, n_lmul, n_subl, Int32.reduceLT, Int32.reduceLE, Int32.reduceAdd, Int32.reduceSub, Int32.reduceMul, Int32.reduceToNatClampNeg, not_false_eq_true, not_true_eq_false, or_false, false_or, or_self, and_self, false_and, true_and, and_false, and_true, true_or, or_true, Nat.reduceAdd, Nat.reduceMul, Nat.reduceLT, Nat.reduceLeDiff, ne_eq, n_ell]
        exact s4 i hi

set_option maxHeartbeats 1000000 in
theorem st_say2 (hF : Full C ρ D σ kp rc nw bw br) (ht : t < 6) (ho : Opn C ρ D rc t s len kd a1 a2 a3 φ N H K a) (ha : a < len) (h : C a1 a = 15 ∧ dcd D t (3 * φ a) = 14 ∧ H a = 1 ∧ nxt φ N H K a 1 0) (es : s = 2) :
    hv (fun n => gX2_step n 12 (92 + 71 * t) C ρ) (fun y => hv (fun n => gX12_step n 537 (nI t) D σ) (fun w => EndP kp rc nw bw br y w)) := by
  obtain ⟨i1, i2, i3, j1, j2, j3, j4⟩ := h
  have ho' := ho
  have hF' := hF
  obtain ⟨hcat, cok, tc⟩ := ho
  obtain ⟨⟨f1, f2, f3, f4⟩, -⟩ := hF
  obtain ⟨t1, t2, t3, t4, t5, t6, t7, t8, t9, t10, t11, t12, t13, t14, t15⟩ := tc
  have hR := RnS_of f2 ht
  have hh := (cok.2.2.2.2.2.1 a t9).2.2.1
  obtain ⟨g0, g1, g2, g3⟩ := d_ins (C := C) (rc := rc) (s := s) cok t9
  have hcat0 := hcat
  have tc0 := ho'.2.2
  rw [i2] at g1
  rw [i3] at t12
  have e1 := t12.2.2 0 (by omega)
  obtain ⟨p1, ⟨p2, p3, pH⟩, p5, p6, p7⟩ := t15 es
  have hlna := (cok.2.2.2.2.2.1 a t9).2.1
  have nl1 := @nl_le (N a)
  obtain ⟨j, ej⟩ : ∃ j, nl (N a) = j + 1 := ⟨nl (N a) - 1, by omega⟩
  rw [ej] at p2 p3 pH p5 nl1
  clear t14 t15
  have hlen := cok.1
  obtain ⟨b1, b2, b3, b4, b5, b6, b7, b8, b9, b10, b11, b12, b13, b14, b15, b16, b17, b18⟩ := hcat
  have hmode : (D 551 t = 2) = True := by
    rw [t3, es]
    exact eq_true (by decide)
  obtain ⟨n, en, hn⟩ : ∃ n, C (92 + 71 * t) 13 = nI n ∧ n ≤ 200 := by
    obtain ⟨hl, _, q, _⟩ := pH
    exact ⟨_, q, by omega⟩
  obtain ⟨m, em, hm⟩ : ∃ m, D 584 (t * 12 + j) = nI m ∧ m ≤ 200 := by
    obtain ⟨hl, q, _, _⟩ := pH
    obtain ⟨q1, q2, _, _⟩ := q j (by omega)
    exact ⟨_, q2, q1⟩
  have fin : ∀ C' D' : ao_M, (∀ x i, ¬ (x = 92 + 71 * t ∧ (i = 3 ∨ i = 5 ∨ i = 13)) → x ≠ 92 + 71 * t + 70 → C' x i = C x i) → C' (92 + 71 * t) 3 = nI (a + 1) → C' (92 + 71 * t) 5 = nI 0 → C' (92 + 71 * t) 13 = nI (if n < 200 then n + 1 else n) → (∀ i, C' (92 + 71 * t + 70) i = if n < 200 ∧ i = n then C (92 + 71 * t + 5) 0 else C (92 + 71 * t + 70) i) → (∀ x i, ¬ (i = t ∧ (x = 552 ∨ x = 555)) → ¬ (x = 584 ∧ i = t * 12 + j) → ¬ (x = 583 ∧ (t * 12 + j) * 200 ≤ i ∧ i < (t * 12 + j) * 200 + 200) → D' x i = D x i) → D' 552 t = nI (φ a + 1) → D' 555 t = nI 0 → D' 584 (t * 12 + j) = nI (if m < 200 then m + 1 else m) → (∀ i, i < 200 → D' 583 ((t * 12 + j) * 200 + i) = if m < 200 ∧ i = m then C (92 + 71 * t + 5) 0 else D 583 ((t * 12 + j) * 200 + i)) → EndP kp rc nw bw br (0, C', ρ) (0, D', σ) := by
    intro C' D' hC hc3 hc5 hc13 hc70 hD hd52 hd55 hd84 hd83
    clear f1 f2 f3 f4 hR
    have hH : Held C' D' t (j + 1) := Held_add pH (by omega) en hn em hm hc13 hc70 (fun i hi => hC _ _ (by omega) (by omega)) hd84 hd83 (fun i hi => hD _ _ (by omega) (by omega) (by omega)) (fun i k hi hk => hD _ _ (by omega) (by omega) (by omega))
    obtain ⟨y1, y2, y3, y4, y5, y6, y7, y8, y9, y10, y11, y12, y13, y14, y15⟩ := tc0
    obtain ⟨q11, q58, q57, qE⟩ := y13
    have hch := (cok.2.2.2.2.2.1 a t9).2.2.2
    have hbd := chd_b (fun i hi => (cok.2.2.2.2.2.1 i hi).2.1) (N a) hch hlna
    clear y14 y15 y1
    have tc' : Tc C' D' rc t s (C a2) (C a3) len φ N H (a + 1) := by
      refine ⟨Or.inr es, ?_, ?_, ?_, ?_, ?_, ?_, ?_, by omega, hc3, by rw [j1]; exact hd52, ?_, ?_, fun e => absurd e (by omega), fun _ => ?_⟩
      · rw [hC _ _ (by omega) (by omega)]; exact y2
      · rw [hD _ _ (by omega) (by omega) (by omega)]; exact y3
      · rw [hC _ _ (by omega) (by omega)]; exact y4
      · rw [hC _ _ (by omega) (by omega), hD _ _ (by omega) (by omega) (by omega)]; exact y5
      · rw [hC _ _ (by omega) (by omega), hD _ _ (by omega) (by omega) (by omega)]; exact y6
      · rw [hC _ _ (by omega) (by omega), hD _ _ (by omega) (by omega) (by omega)]; exact y7
      · intro k hk
        rw [hC _ _ (by omega) (by omega), hD _ _ (by omega) (by omega) (by omega)]; exact t8 k hk
      · rw [j3]
        exact ⟨hc5, hd55, fun i hi => absurd hi (by omega)⟩
      · rw [j2]
        refine ⟨by rw [hC _ _ (by omega) (by omega)]; exact q11, by rw [hD _ _ (by omega) (by omega) (by omega)]; exact q58, by rw [hD _ _ (by omega) (by omega) (by omega)]; exact q57, fun x hx => ?_⟩
        obtain ⟨m1, m2, m3⟩ := hbd x hx
        exact Ent_mv (qE x hx) (fun e => ⟨hC _ _ (by omega) (by omega), hC _ _ (by omega) (by omega), fun y q1 q2 => hD _ _ (by omega) (by omega) (by omega)⟩) (fun e => hD _ _ (by omega) (by omega) (by omega)) (fun e => ⟨hC _ _ (by omega) (by omega), hC _ _ (by omega) (by omega), fun y q1 q2 => hD _ _ (by omega) (by omega) (by omega)⟩)
      · rw [j2, ej]
        refine ⟨by omega, ⟨by rw [hC _ _ (by omega) (by omega)]; exact p2, fun i hi => ?_, hH⟩, by rw [hD _ _ (by omega) (by omega) (by omega)]; exact p5, by rw [hC _ _ (by omega) (by omega), hD _ _ (by omega) (by omega) (by omega)]; exact p6, by rw [hC _ _ (by omega) (by omega), hD _ _ (by omega) (by omega) (by omega)]; exact p7⟩
        obtain ⟨⟨l1, l2⟩, l3, l4, ⟨ps, vs, ws, l5, l6⟩⟩ := p3 i hi
        refine ⟨⟨?_, ?_⟩, fun k hk => ?_, ⟨fun p hp => ?_, fun p hp => ?_⟩, ps, vs, ws, RdC_mv l5 (hC _ _ (by omega) (by omega)) (hC _ _ (by omega) (by omega)) (fun i => ⟨hC _ _ (by omega) (by omega), hC _ _ (by omega) (by omega), hC _ _ (by omega) (by omega)⟩), RdD_mv l6 (Nat.le_refl _) (fun p hp => ⟨hD _ _ (by omega) (by omega) (by omega), hD _ _ (by omega) (by omega) (by omega), hD _ _ (by omega) (by omega) (by omega), hD _ _ (by omega) (by omega) (by omega)⟩)⟩
        · rw [hC _ _ (by omega) (by omega), hD _ _ (by omega) (by omega) (by omega)]; exact l1
        · rw [hD _ _ (by omega) (by omega) (by omega)]; exact l2
        · rw [hC _ _ (by omega) (by omega), hD _ _ (by omega) (by omega) (by omega)]; exact l3 k hk
        · rw [hC _ _ (by omega) (by omega)]; exact l4.1 p hp
        · rw [hC _ _ (by omega) (by omega), hD _ _ (by omega) (by omega) (by omega), hD _ _ (by omega) (by omega) (by omega), hC _ _ (by omega) (by omega)]; exact l4.2 p hp
    obtain ⟨z1, z2, z3, z4⟩ := Cat_loc hcat0 (C' := C') (fun x i hx => hC x i (by omega) (by omega))
    have ed : dcd D' t = dcd D t := dcd_eq (fun i => hD _ _ (by omega) (by omega) (by omega))
    have hT : Thr C' ρ D' rc t := Tc_Thr z1 (by rw [z2, z3, z4, ed]; exact cok) (by rw [z3, z4]; exact tc')
    have e8 : dpC C' t = j + 1 := by
      unfold dpC
      rw [hC _ _ (by omega) (by omega), p2, n_cl (by omega)]
    have e8' : dpC C t = j + 1 := by
      unfold dpC
      rw [p2, n_cl (by omega)]
    refine ⟨rfl, (show ¬ (0 : Int32) < 0 by decide), ?_⟩
    show Full C' ρ D' σ kp rc nw bw br
    refine Full_loc hF' ht (fun x i q => hC x i (by omega) (by omega)) (fun x i q => hD x i ?_ ?_ ?_) hT (hC _ _ (by omega) (by omega)) (hC _ _ (by omega) (by omega)) (hD _ _ (by omega) (by omega) (by omega)) ?_ ?_
    · rintro ⟨rfl, q1⟩
      have hw1 : wd x = 1 := by
        unfold wd
        rw [if_neg (by omega), if_neg (by omega), if_neg (by omega), if_neg (by omega), if_neg (by omega), if_neg (by omega)]
      exact q ⟨by omega, by omega, by rw [hw1]; omega, by rw [hw1]; omega⟩
    · rintro ⟨rfl, rfl⟩
      exact q ⟨by omega, by omega, by show t * 12 ≤ _; omega, by show _ < (t + 1) * 12; omega⟩
    · rintro ⟨rfl, q1, q2⟩
      exact q ⟨by omega, by omega, by show t * 2400 ≤ _; omega, by show _ < (t + 1) * 2400; omega⟩
    · rw [e8, e8']
      exact Nat.le_of_eq (wsum_congr _ (fun i hi => hC _ _ (by omega) (by omega)))
    · rw [e8, e8']
      refine Nat.le_of_eq (rsum_congr _ (fun i hi => ?_))
      unfold rl
      rw [hC _ _ (by omega) (by omega)]
  unfold gX2_step
  refine hv_up (fun _ => fX2_step.eq_2 ..) ?_
  try simp only [↓reduceIte, Nat.reduceEqDiff, Option.bind_some, ao_let, n_ell, f1, hR, b1, b2, b3, b4, b5, b6, b7, b8, b9, b10, b11, b12, b13, t10, i1]
  try simp (disch := first | omega | assumption) only [↓reduceIte, Nat.reduceEqDiff, Option.bind_some, ao_let, t_le, f_le, t_lt, f_lt, f_eq, u_eq, u_n1, u_n2, n_cl, n_lt, n_le, n_eq, n_ltl, n_llt, n_lel, n_lle, n_eql, n_leq, n_add, n_mul, n_sub, n_addl, n_ladd, n_mull, n_lmul, n_subl, Int32.reduceLT, Int32.reduceLE, Int32.reduceAdd, Int32.reduceSub, Int32.reduceMul, Int32.reduceToNatClampNeg, not_false_eq_true, not_true_eq_false, or_false, false_or, or_self, and_self, false_and, true_and, and_false, and_true, true_or, or_true, Nat.reduceAdd, Nat.reduceMul, Nat.reduceLT, Nat.reduceLeDiff, ne_eq, n_ell, f1, hR, b1, b2, b3, b4, b5, b6, b7, b8, b9, b10, b11, b12, b13, t10, i1]
  rw [c_pop (h := 0) hR (by rw [u_n2 (by omega)]; exact t12.1) (by omega)]
  try simp only [↓reduceIte, Nat.reduceEqDiff, Option.bind_some, ao_let, n_ell, f1, hR, gX2_say, p2, t4]
  try simp (disch := first | omega | assumption) only [↓reduceIte, Nat.reduceEqDiff, Option.bind_some, ao_let, t_le, f_le, t_lt, f_lt, f_eq, u_eq, u_n1, u_n2, n_cl, n_lt, n_le, n_eq, n_ltl, n_llt, n_lel, n_lle, n_eql, n_leq, n_add, n_mul, n_sub, n_addl, n_ladd, n_mull, n_lmul, n_subl, Int32.reduceLT, Int32.reduceLE, Int32.reduceAdd, Int32.reduceSub, Int32.reduceMul, Int32.reduceToNatClampNeg, not_false_eq_true, not_true_eq_false, or_false, false_or, or_self, and_self, false_and, true_and, and_false, and_true, true_or, or_true, Nat.reduceAdd, Nat.reduceMul, Nat.reduceLT, Nat.reduceLeDiff, ne_eq, n_ell, f1, hR, gX2_say, p2, t4]
  have dstep : ∀ {P : Int32 × ao_S → Prop}, hv (fun n => (gX12_hold 537 (nI (t * 12 + j)) (C (92 + 71 * t + 5) 0) (ao_u (ao_u D 555 t (nI 0)) 552 t (nI (φ a + 1))) σ).bind fun p59 => some ((0 : Int32), p59, σ)) P → hv (fun n => gX12_step n 537 (nI t) D σ) P := by
    intro P hP
    unfold gX12_step
    refine hv_up (fun _ => fX12_step.eq_2 ..) ?_
    try simp only [↓reduceIte, Nat.reduceEqDiff, Option.bind_some, ao_let, n_ell, f4, t11, g1, d_pop (h := 0) f4 ht t12.2.1 (by omega)]
    try simp (disch := first | omega | assumption) only [↓reduceIte, Nat.reduceEqDiff, Option.bind_some, ao_let, t_le, f_le, t_lt, f_lt, f_eq, u_eq, u_n1, u_n2, n_cl, n_lt, n_le, n_eq, n_ltl, n_llt, n_lel, n_lle, n_eql, n_leq, n_add, n_mul, n_sub, n_addl, n_ladd, n_mull, n_lmul, n_subl, Int32.reduceLT, Int32.reduceLE, Int32.reduceAdd, Int32.reduceSub, Int32.reduceMul, Int32.reduceToNatClampNeg, not_false_eq_true, not_true_eq_false, or_false, false_or, or_self, and_self, false_and, true_and, and_false, and_true, true_or, or_true, Nat.reduceAdd, Nat.reduceMul, Nat.reduceLT, Nat.reduceLeDiff, ne_eq, n_ell, f4, t11, g1, d_pop (h := 0) f4 ht t12.2.1 (by omega)]
    simp only [hmode, ↓reduceIte]
    try simp only [↓reduceIte, Nat.reduceEqDiff, Option.bind_some, ao_let, n_ell, f4, p5, gX12_level, Nat.add_sub_cancel]
    try simp (disch := first | omega | assumption) only [↓reduceIte, Nat.reduceEqDiff, Option.bind_some, ao_let, t_le, f_le, t_lt, f_lt, f_eq, u_eq, u_n1, u_n2, n_cl, n_lt, n_le, n_eq, n_ltl, n_llt, n_lel, n_lle, n_eql, n_leq, n_add, n_mul, n_sub, n_addl, n_ladd, n_mull, n_lmul, n_subl, Int32.reduceLT, Int32.reduceLE, Int32.reduceAdd, Int32.reduceSub, Int32.reduceMul, Int32.reduceToNatClampNeg, not_false_eq_true, not_true_eq_false, or_false, false_or, or_self, and_self, false_and, true_and, and_false, and_true, true_or, or_true, Nat.reduceAdd, Nat.reduceMul, Nat.reduceLT, Nat.reduceLeDiff, ne_eq, n_ell, f4, p5, gX12_level, Nat.add_sub_cancel]
    rw [e1] at hP
    exact hP
  unfold gX7_hold
  rcases (show n < 200 ∨ n = 200 by omega) with hn2 | hn2
  all_goals
    rcases (show m < 200 ∨ m = 200 by omega) with hm2 | hm2
    all_goals
      try subst hn2
      try subst hm2
      try simp only [↓reduceIte, Nat.reduceEqDiff, Option.bind_some, ao_let, n_ell, f1, hR, en]
      try simp (disch := first | omega | assumption) only [↓reduceIte, Nat.reduceEqDiff, Option.bind_some, ao_let, t_le, f_le, t_lt, f_lt, f_eq, u_eq, u_n1, u_n2, n_cl, n_lt, n_le, n_eq, n_ltl, n_llt, n_lel, n_lle, n_eql, n_leq, n_add, n_mul, n_sub, n_addl, n_ladd, n_mull, n_lmul, n_subl, Int32.reduceLT, Int32.reduceLE, Int32.reduceAdd, Int32.reduceSub, Int32.reduceMul, Int32.reduceToNatClampNeg, not_false_eq_true, not_true_eq_false, or_false, false_or, or_self, and_self, false_and, true_and, and_false, and_true, true_or, or_true, Nat.reduceAdd, Nat.reduceMul, Nat.reduceLT, Nat.reduceLeDiff, ne_eq, n_ell, f1, hR, en]
      refine hv_some (dstep ?_)
      unfold gX12_hold
      try simp only [↓reduceIte, Nat.reduceEqDiff, Option.bind_some, ao_let, n_ell, f4, em]
      try simp (disch := first | omega | assumption) only [↓reduceIte, Nat.reduceEqDiff, Option.bind_some, ao_let, t_le, f_le, t_lt, f_lt, f_eq, u_eq, u_n1, u_n2, n_cl, n_lt, n_le, n_eq, n_ltl, n_llt, n_lel, n_lle, n_eql, n_leq, n_add, n_mul, n_sub, n_addl, n_ladd, n_mull, n_lmul, n_subl, Int32.reduceLT, Int32.reduceLE, Int32.reduceAdd, Int32.reduceSub, Int32.reduceMul, Int32.reduceToNatClampNeg, not_false_eq_true, not_true_eq_false, or_false, false_or, or_self, and_self, false_and, true_and, and_false, and_true, true_or, or_true, Nat.reduceAdd, Nat.reduceMul, Nat.reduceLT, Nat.reduceLeDiff, ne_eq, n_ell, f4, em]
      refine hv_some (fin _ _ ?_ ?_ ?_ ?_ ?_ ?_ ?_ ?_ ?_ ?_)
      · intro x i q1 q2
        simp (disch := omega) only [u_ne]
      · try simp only [↓reduceIte, Nat.reduceEqDiff, Option.bind_some, ao_let, n_ell]
        try simp (disch := first | omega | assumption) only [↓reduceIte, Nat.reduceEqDiff, Option.bind_some, ao_let, t_le, f_le, t_lt, f_lt, f_eq, u_eq, u_n1, u_n2, n_cl, n_lt, n_le, n_eq, n_ltl, n_llt, n_lel, n_lle, n_eql, n_leq, n_add, n_mul, n_sub, n_addl, n_ladd, n_mull, n_lmul, n_subl, Int32.reduceLT, Int32.reduceLE, Int32.reduceAdd, Int32.reduceSub, Int32.reduceMul, Int32.reduceToNatClampNeg, not_false_eq_true, not_true_eq_false, or_false, false_or, or_self, and_self, false_and, true_and, and_false, and_true, true_or, or_true, Nat.reduceAdd, Nat.reduceMul, Nat.reduceLT, Nat.reduceLeDiff, ne_eq, n_ell]
      · try simp only [↓reduceIte, Nat.reduceEqDiff, Option.bind_some, ao_let, n_ell]
        try simp (disch := first | omega | assumption) only [↓reduceIte, Nat.reduceEqDiff, Option.bind_some, ao_let, t_le, f_le, t_lt, f_lt, f_eq, u_eq, u_n1, u_n2, n_cl, n_lt, n_le, n_eq, n_ltl, n_llt, n_lel, n_lle, n_eql, n_leq, n_add, n_mul, n_sub, n_addl, n_ladd, n_mull, n_lmul, n_subl, Int32.reduceLT, Int32.reduceLE, Int32.reduceAdd, Int32.reduceSub, Int32.reduceMul, Int32.reduceToNatClampNeg, not_false_eq_true, not_true_eq_false, or_false, false_or, or_self, and_self, false_and, true_and, and_false, and_true, true_or, or_true, Nat.reduceAdd, Nat.reduceMul, Nat.reduceLT, Nat.reduceLeDiff, ne_eq, n_ell]
      · try simp only [↓reduceIte, Nat.reduceEqDiff, Option.bind_some, ao_let, n_ell, en]
        try simp (disch := first | omega | assumption) only [↓reduceIte, Nat.reduceEqDiff, Option.bind_some, ao_let, t_le, f_le, t_lt, f_lt, f_eq, u_eq, u_n1, u_n2, n_cl, n_lt, n_le, n_eq, n_ltl, n_llt, n_lel, n_lle, n_eql, n_leq, n_add, n_mul, n_sub, n_addl, n_ladd, n_mull, n_lmul, n_subl, Int32.reduceLT, Int32.reduceLE, Int32.reduceAdd, Int32.reduceSub, Int32.reduceMul, Int32.reduceToNatClampNeg, not_false_eq_true, not_true_eq_false, or_false, false_or, or_self, and_self, false_and, true_and, and_false, and_true, true_or, or_true, Nat.reduceAdd, Nat.reduceMul, Nat.reduceLT, Nat.reduceLeDiff, ne_eq, n_ell, en]
      · intro i
        simp only [ao_u]
        clear f1 f2 f3 f4 hR fin dstep
        grind
      · intro x i q1 q2 q3
        simp (disch := omega) only [u_ne]
      · try simp only [↓reduceIte, Nat.reduceEqDiff, Option.bind_some, ao_let, n_ell]
        try simp (disch := first | omega | assumption) only [↓reduceIte, Nat.reduceEqDiff, Option.bind_some, ao_let, t_le, f_le, t_lt, f_lt, f_eq, u_eq, u_n1, u_n2, n_cl, n_lt, n_le, n_eq, n_ltl, n_llt, n_lel, n_lle, n_eql, n_leq, n_add, n_mul, n_sub, n_addl, n_ladd, n_mull, n_lmul, n_subl, Int32.reduceLT, Int32.reduceLE, Int32.reduceAdd, Int32.reduceSub, Int32.reduceMul, Int32.reduceToNatClampNeg, not_false_eq_true, not_true_eq_false, or_false, false_or, or_self, and_self, false_and, true_and, and_false, and_true, true_or, or_true, Nat.reduceAdd, Nat.reduceMul, Nat.reduceLT, Nat.reduceLeDiff, ne_eq, n_ell]
      · try simp only [↓reduceIte, Nat.reduceEqDiff, Option.bind_some, ao_let, n_ell]
        try simp (disch := first | omega | assumption) only [↓reduceIte, Nat.reduceEqDiff, Option.bind_some, ao_let, t_le, f_le, t_lt, f_lt, f_eq, u_eq, u_n1, u_n2, n_cl, n_lt, n_le, n_eq, n_ltl, n_llt, n_lel, n_lle, n_eql, n_leq, n_add, n_mul, n_sub, n_addl, n_ladd, n_mull, n_lmul, n_subl, Int32.reduceLT, Int32.reduceLE, Int32.reduceAdd, Int32.reduceSub, Int32.reduceMul, Int32.reduceToNatClampNeg, not_false_eq_true, not_true_eq_false, or_false, false_or, or_self, and_self, false_and, true_and, and_false, and_true, true_or, or_true, Nat.reduceAdd, Nat.reduceMul, Nat.reduceLT, Nat.reduceLeDiff, ne_eq, n_ell]
      · try simp only [↓reduceIte, Nat.reduceEqDiff, Option.bind_some, ao_let, n_ell, em]
        try simp (disch := first | omega | assumption) only [↓reduceIte, Nat.reduceEqDiff, Option.bind_some, ao_let, t_le, f_le, t_lt, f_lt, f_eq, u_eq, u_n1, u_n2, n_cl, n_lt, n_le, n_eq, n_ltl, n_llt, n_lel, n_lle, n_eql, n_leq, n_add, n_mul, n_sub, n_addl, n_ladd, n_mull, n_lmul, n_subl, Int32.reduceLT, Int32.reduceLE, Int32.reduceAdd, Int32.reduceSub, Int32.reduceMul, Int32.reduceToNatClampNeg, not_false_eq_true, not_true_eq_false, or_false, false_or, or_self, and_self, false_and, true_and, and_false, and_true, true_or, or_true, Nat.reduceAdd, Nat.reduceMul, Nat.reduceLT, Nat.reduceLeDiff, ne_eq, n_ell, em]
      · intro i hi
        simp only [ao_u]
        clear f1 f2 f3 f4 hR fin dstep
        grind

end St8
