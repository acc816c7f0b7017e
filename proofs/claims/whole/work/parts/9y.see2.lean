set_option linter.unusedSimpArgs false
set_option linter.unusedVariables false
section St9y
variable {C D : ao_M} {ρ σ : ao_H} {kp rc nw bw br t s len kd a1 a2 a3 a : Nat} {φ : Nat → Nat} {N : Ns} {H K : Nat → Nat}
/-- the answer of a look, of a write: at the same, with new numbers -/
def EndE (nw bw br : Nat) (y w : Int32 × ao_S) : Prop := ∃ kp' rc', EndP kp' rc' nw bw br y w
theorem Full_br {br' bw' : Nat} (h : Full C ρ D σ kp rc nw bw br) (h1 : bw ≤ bw') (h2 : br ≤ br') (h3 : bw' ≤ 28000) (h4 : br' ≤ 100000000) : Full C ρ D σ kp rc nw bw' br' := by
  obtain ⟨z1, z2, z3, z4, z5, z6, z7, z8, z9, ⟨e1, e2, e3⟩, z11, z12⟩ := h
  exact ⟨z1, z2, z3, z4, z5, z6, z7, z8, z9, ⟨fun q => Nat.le_trans (e1 q) h1, fun q => Nat.le_trans (e2 q) h1, Nat.le_trans e3 h2⟩, h3, h4⟩
set_option maxHeartbeats 4000000 in
theorem st_see2 (hF : Full C ρ D σ kp rc nw bw br) (ht : t < 6) (ho : Opn C ρ D rc t s len kd a1 a2 a3 φ N H K a) (ha : a < len) (h : C a1 a = 3 ∧ dcd D t (3 * φ a) = 2 ∧ (∃ r, r < 26 ∧ C a2 a = nI r ∧ dcd D t (3 * φ a + 1) = nI r) ∧ nxt φ N H K a 1 (H a + 1)) (es : s = 2) (hbr : br + 11 ≤ 100000000) :
    hv (fun n => gX2_step n 12 (92 + 71 * t) C ρ) (fun y => hv (fun n => gX12_step n 537 (nI t) D σ) (fun w => EndE nw bw (br + 11) y w)) := by
  obtain ⟨i1, i2, ⟨p, hp, i4, i5⟩, jx⟩ := h
  have hF' := hF
  have hmid := mid_of (C1 := ao_u C (92 + 71 * t) 3 (nI (a + 1))) (D1 := D) hF ht ho es (fun x i q1 q2 => u_ne (by omega)) (fun _ _ _ _ => rfl)
  obtain ⟨hF1, hM1⟩ := hmid
  obtain ⟨hcat, cok, tc⟩ := ho
  obtain ⟨⟨f1, f2, f3, f4⟩, fR, ⟨fw, ⟨w, w4, wD⟩, -⟩, flz, -, -, -, -, -, -, fbw, -⟩ := hF
  obtain ⟨t1, t2, t3, t4, t5, t6, t7, t8, t9, t10, t11, t12, t13, t14, t15⟩ := tc
  have hR := RnS_of f2 ht
  obtain ⟨g0, g1, g2, g3⟩ := d_ins (C := C) (rc := rc) (s := s) cok t9
  rw [i2] at g1
  rw [i5] at g2
  subst es
  obtain ⟨w1, wI, w3, w14, w55⟩ := t15 rfl
  have hlen := cok.1
  have hl10 := (cok.2.2.2.2.2.1 a t9).2.1
  have l1 := @nl_le (N a)
  obtain ⟨b1, b2, b3, b4, b5, b6, b7, b8, b9, b10, b11, b12, b13, b14, b15, b16, b17, b18⟩ := hcat
  obtain ⟨j, ej⟩ : ∃ j, nl (N a) = j + 1 := ⟨nl (N a) - 1, by omega⟩
  rw [ej] at w3
  have h8 : C (92 + 71 * t) 8 = nI (j + 1) := by rw [← ej]; exact wI.1
  have hfl : ∀ i, i < j + 1 → D 578 ((t * 12 + i) * 26 + p) = (if bt (C (92 + 71 * t + 8 + 6 * i) 6) p = true then 1 else 0) ∧ (bt (C (92 + 71 * t + 8 + 6 * i) 6) p = true → C (92 + 71 * t + 8 + 6 * i + 4) p = D 582 ((t * 12 + i) * 26 + p)) := fun i hi => (wI.2.1 i (by omega)).2.2.1.2 p hp
  have hrd0 := (wI.2.1 j (by omega)).2.2.2
  have hev : C 14 p = D 542 p ∧ C 15 p = D 543 p ∧ C 16 p = D 544 p ∧ C 13 4 = D 537 26 ∧ (C 16 p = -1 ∨ ∃ u, u < 6 ∧ C 16 p = nI u) := by
    obtain ⟨f, g, h, pc, pd, ch, ev, ec⟩ := fR
    exact ⟨(ev p hp).1, (ev p hp).2.1, (ev p hp).2.2.1, ec, (ev p hp).2.2.2.2.2.1⟩
  obtain ⟨v1, v2, v3, v4, v6⟩ := hev
  have hmode : (D 551 t = 2) = True := by rw [t3]; exact eq_true rfl
  clear t1 t13 t14 t15 wI
  have hwC : C 12 5 = nI w := by rw [fw]; exact wD
  have hl := LvS_of f2 ht (show j < 10 by omega)
  have hS1 : Stk (ao_u C (92 + 71 * t) 3 (nI (a + 1))) D t (H a) := ⟨by rw [u_n2 (by omega)]; exact t12.1, t12.2.1, fun i hi => by rw [u_n1 (by omega)]; exact t12.2.2 i hi⟩
  have c3 : ao_u C (92 + 71 * t) 3 (nI (a + 1)) (92 + 71 * t) 3 = nI (a + 1) := u_eq
  have cu : ∀ x i, ¬ (x = 92 + 71 * t ∧ i = 3) → ao_u C (92 + 71 * t) 3 (nI (a + 1)) x i = C x i := fun x i q => u_ne (by omega)
  generalize hC1 : ao_u C (92 + 71 * t) 3 (nI (a + 1)) = C1 at hF1 hM1 hS1 c3 cu
  -- the reference, down to looks
  have dst : ∀ {P : Int32 × ao_S → Prop}, hv (fun n => gX12_looks n 537 (nI t) (nI p) D σ) (fun w => (w.1 = 0 ∧ P (1, w.2)) ∨ (w.1 = 1 ∧ hv (fun n => fX12_doLook n 72 537 (nI t) (nI p) 0 w.2.1 w.2.2) P)) → hv (fun n => gX12_step n 537 (nI t) D σ) P := by
    intro P hP
    unfold gX12_step
    refine hv_up (fun _ => fX12_step.eq_2 ..) ?_
    try simp only [↓reduceIte, Nat.reduceEqDiff, Option.bind_some, ao_let, n_ell, f4, t11, g1, g2]
    try simp (disch := first | omega | assumption) only [↓reduceIte, Nat.reduceEqDiff, Option.bind_some, ao_let, t_le, f_le, t_lt, f_lt, f_eq, u_eq, u_n1, u_n2, n_cl, n_lt, n_le, n_eq, n_ltl, n_llt, n_lel, n_lle, n_eql, n_leq, n_add, n_mul, n_sub, n_addl, n_ladd, n_mull, n_lmul, n_subl, Int32.reduceLT, Int32.reduceLE, Int32.reduceAdd, Int32.reduceSub, Int32.reduceMul, Int32.reduceToNatClampNeg, not_false_eq_true, not_true_eq_false, or_false, false_or, or_self, and_self, false_and, true_and, and_false, and_true, true_or, or_true, Nat.reduceAdd, Nat.reduceMul, Nat.reduceLT, Nat.reduceLeDiff, ne_eq, n_ell, f4, t11, g1, g2]
    refine hv_bind (P := P) ?_ ?_
    rotate_left 1
    · intro y hy
      refine hv_up (fun _ => fX12_step.eq_2 ..) ?_
      try simp only [↓reduceIte, Nat.reduceEqDiff, Option.bind_some, ao_let, n_ell]
      try simp (disch := first | omega | assumption) only [↓reduceIte, Nat.reduceEqDiff, Option.bind_some, ao_let, t_le, f_le, t_lt, f_lt, f_eq, u_eq, u_n1, u_n2, n_cl, n_lt, n_le, n_eq, n_ltl, n_llt, n_lel, n_lle, n_eql, n_leq, n_add, n_mul, n_sub, n_addl, n_ladd, n_mull, n_lmul, n_subl, Int32.reduceLT, Int32.reduceLE, Int32.reduceAdd, Int32.reduceSub, Int32.reduceMul, Int32.reduceToNatClampNeg, not_false_eq_true, not_true_eq_false, or_false, false_or, or_self, and_self, false_and, true_and, and_false, and_true, true_or, or_true, Nat.reduceAdd, Nat.reduceMul, Nat.reduceLT, Nat.reduceLeDiff, ne_eq, n_ell]
      exact hv_some hy
    unfold gX12_doLook
    refine hv_up (fun _ => fX12_doLook.eq_2 ..) ?_
    try simp only [↓reduceIte, Nat.reduceEqDiff, Option.bind_some, ao_let, n_ell, f4, hmode]
    try simp (disch := first | omega | assumption) only [↓reduceIte, Nat.reduceEqDiff, Option.bind_some, ao_let, t_le, f_le, t_lt, f_lt, f_eq, u_eq, u_n1, u_n2, n_cl, n_lt, n_le, n_eq, n_ltl, n_llt, n_lel, n_lle, n_eql, n_leq, n_add, n_mul, n_sub, n_addl, n_ladd, n_mull, n_lmul, n_subl, Int32.reduceLT, Int32.reduceLE, Int32.reduceAdd, Int32.reduceSub, Int32.reduceMul, Int32.reduceToNatClampNeg, not_false_eq_true, not_true_eq_false, or_false, false_or, or_self, and_self, false_and, true_and, and_false, and_true, true_or, or_true, Nat.reduceAdd, Nat.reduceMul, Nat.reduceLT, Nat.reduceLeDiff, ne_eq, n_ell, f4, hmode]
    refine hv_bind hP ?_
    rintro ⟨x, M, θ⟩ (⟨e, h⟩ | ⟨e, h⟩)
    · dsimp only at e h
      subst e
      refine hv_up (fun _ => fX12_doLook.eq_2 ..) ?_
      try simp only [↓reduceIte, Nat.reduceEqDiff, Option.bind_some, ao_let, n_ell]
      try simp (disch := first | omega | assumption) only [↓reduceIte, Nat.reduceEqDiff, Option.bind_some, ao_let, t_le, f_le, t_lt, f_lt, f_eq, u_eq, u_n1, u_n2, n_cl, n_lt, n_le, n_eq, n_ltl, n_llt, n_lel, n_lle, n_eql, n_leq, n_add, n_mul, n_sub, n_addl, n_ladd, n_mull, n_lmul, n_subl, Int32.reduceLT, Int32.reduceLE, Int32.reduceAdd, Int32.reduceSub, Int32.reduceMul, Int32.reduceToNatClampNeg, not_false_eq_true, not_true_eq_false, or_false, false_or, or_self, and_self, false_and, true_and, and_false, and_true, true_or, or_true, Nat.reduceAdd, Nat.reduceMul, Nat.reduceLT, Nat.reduceLeDiff, ne_eq, n_ell]
      exact hv_some h
    · dsimp only at e h
      subst e
      refine hv_up (fun _ => fX12_doLook.eq_2 ..) ?_
      try simp only [↓reduceIte, Nat.reduceEqDiff, Option.bind_some, ao_let, n_ell, show ((1 : Int32) = 0) = False from by decide]
      try simp (disch := first | omega | assumption) only [↓reduceIte, Nat.reduceEqDiff, Option.bind_some, ao_let, t_le, f_le, t_lt, f_lt, f_eq, u_eq, u_n1, u_n2, n_cl, n_lt, n_le, n_eq, n_ltl, n_llt, n_lel, n_lle, n_eql, n_leq, n_add, n_mul, n_sub, n_addl, n_ladd, n_mull, n_lmul, n_subl, Int32.reduceLT, Int32.reduceLE, Int32.reduceAdd, Int32.reduceSub, Int32.reduceMul, Int32.reduceToNatClampNeg, not_false_eq_true, not_true_eq_false, or_false, false_or, or_self, and_self, false_and, true_and, and_false, and_true, true_or, or_true, Nat.reduceAdd, Nat.reduceMul, Nat.reduceLT, Nat.reduceLeDiff, ne_eq, n_ell, show ((1 : Int32) = 0) = False from by decide]
      exact h
  -- the class, down to see
  unfold gX2_step
  refine hv_up (fun _ => fX2_step.eq_2 ..) ?_
  try simp only [↓reduceIte, Nat.reduceEqDiff, Option.bind_some, ao_let, n_ell, f1, hR, b1, b2, b3, b4, b5, b6, b7, b8, b9, b10, b11, b12, b13, t10, i1, i4]
  try simp (disch := first | omega | assumption) only [↓reduceIte, Nat.reduceEqDiff, Option.bind_some, ao_let, t_le, f_le, t_lt, f_lt, f_eq, u_eq, u_n1, u_n2, n_cl, n_lt, n_le, n_eq, n_ltl, n_llt, n_lel, n_lle, n_eql, n_leq, n_add, n_mul, n_sub, n_addl, n_ladd, n_mull, n_lmul, n_subl, Int32.reduceLT, Int32.reduceLE, Int32.reduceAdd, Int32.reduceSub, Int32.reduceMul, Int32.reduceToNatClampNeg, not_false_eq_true, not_true_eq_false, or_false, false_or, or_self, and_self, false_and, true_and, and_false, and_true, true_or, or_true, Nat.reduceAdd, Nat.reduceMul, Nat.reduceLT, Nat.reduceLeDiff, ne_eq, n_ell, f1, hR, b1, b2, b3, b4, b5, b6, b7, b8, b9, b10, b11, b12, b13, t10, i1, i4]
  rw [hC1]
  refine hv_bind (P := fun y => hv (fun n => gX12_step n 537 (nI t) D σ) (fun w => EndE nw bw (br + 11) y w)) ?_ ?_
  rotate_left 1
  · intro y hy
    refine hv_up (fun _ => fX2_step.eq_2 ..) ?_
    try simp only [↓reduceIte, Nat.reduceEqDiff, Option.bind_some, ao_let, n_ell]
    try simp (disch := first | omega | assumption) only [↓reduceIte, Nat.reduceEqDiff, Option.bind_some, ao_let, t_le, f_le, t_lt, f_lt, f_eq, u_eq, u_n1, u_n2, n_cl, n_lt, n_le, n_eq, n_ltl, n_llt, n_lel, n_lle, n_eql, n_leq, n_add, n_mul, n_sub, n_addl, n_ladd, n_mull, n_lmul, n_subl, Int32.reduceLT, Int32.reduceLE, Int32.reduceAdd, Int32.reduceSub, Int32.reduceMul, Int32.reduceToNatClampNeg, not_false_eq_true, not_true_eq_false, or_false, false_or, or_self, and_self, false_and, true_and, and_false, and_true, true_or, or_true, Nat.reduceAdd, Nat.reduceMul, Nat.reduceLT, Nat.reduceLeDiff, ne_eq, n_ell]
    exact hv_some hy
  have c8 : C1 (92 + 71 * t) 8 = nI (j + 1) := by rw [cu _ _ (by omega)]; exact h8
  have c12 : C1 12 5 = nI w := by rw [cu _ _ (by omega)]; exact hwC
  have c0 : C1 (92 + 71 * t) 0 = nI t := by rw [cu _ _ (by omega)]; exact t4
  have c14 : C1 (92 + 71 * t) 14 = D 560 t := by rw [cu _ _ (by omega)]; exact w14
  -- how the reference looks for a level that wrote
  have dwl : ∀ {Q : Int32 × ao_M → Prop}, (∀ i, i < j + 1 → D 578 ((t * 12 + i) * 26 + p) = 1 → (∀ i', i < i' → i' < j + 1 → D 578 ((t * 12 + i') * 26 + p) = 0) → Q (nI i, D)) → ((∀ i, i < j + 1 → D 578 ((t * 12 + i) * 26 + p) = 0) → Q (-1, D)) → hv (fun n => gX12_writtenLevel n 537 (nI t) (nI p) D σ) Q := by
    intro Q q1 q2
    unfold gX12_writtenLevel
    refine hv_up (fun _ => fX12_writtenLevel.eq_2 ..) ?_
    simp (disch := omega) only [↓reduceIte, f4, ao_let, n_ltl, n_cl, f_lt, f_le, or_self, not_false_eq_true, Option.bind_some, w3]
    refine d_wlev f4 ht hp (j + 1) _ (by omega) rfl (fun i hi => ?_) q1 q2
    rw [(hfl i hi).1]
    by_cases q : bt (C (92 + 71 * t + 8 + 6 * i) 6) p = true
    · rw [if_pos q]; exact Or.inr rfl
    · rw [if_neg q]; exact Or.inl rfl
  unfold gX2_see
  by_cases hE : D 537 27 = 3 ∨ D 537 27 = 4
  · -- written in place
    have hEC : C1 12 5 = 3 ∨ C1 12 5 = 4 := by rw [c12, ← wD]; exact hE
    refine hv_up (fun _ => fX2_see.eq_2 ..) ?_
    try simp only [↓reduceIte, Nat.reduceEqDiff, Option.bind_some, ao_let, n_ell, hR, c8, f1]
    try simp (disch := first | omega | assumption) only [↓reduceIte, Nat.reduceEqDiff, Option.bind_some, ao_let, t_le, f_le, t_lt, f_lt, f_eq, u_eq, u_n1, u_n2, n_cl, n_lt, n_le, n_eq, n_ltl, n_llt, n_lel, n_lle, n_eql, n_leq, n_add, n_mul, n_sub, n_addl, n_ladd, n_mull, n_lmul, n_subl, Int32.reduceLT, Int32.reduceLE, Int32.reduceAdd, Int32.reduceSub, Int32.reduceMul, Int32.reduceToNatClampNeg, not_false_eq_true, not_true_eq_false, or_false, false_or, or_self, and_self, false_and, true_and, and_false, and_true, true_or, or_true, Nat.reduceAdd, Nat.reduceMul, Nat.reduceLT, Nat.reduceLeDiff, ne_eq, n_ell, hR, c8, f1]
    refine hv_bind (P := fun y => y = (1, C1)) (cv_eager f1 C1 (by rw [if_pos hEC])) ?_
    rintro _ rfl
    simp only [show ((1 : Int32) = 0) = False from by decide, ↓reduceIte]
    -- the reference, down to 36
    have d36 : ∀ {P : Int32 × ao_S → Prop}, (∀ x, hv (fun n => fX12_looks n 36 537 (nI t) (nI p) x 0 0 D σ) P) → hv (fun n => gX12_looks n 537 (nI t) (nI p) D σ) P := by
      intro P hP
      unfold gX12_looks
      refine hv_up (fun _ => fX12_looks.eq_2 ..) ?_
      simp only [↓reduceIte, f4]
      refine hv_bind (P := fun y => y.2 = D ∧ (y.1 = -1 ∨ ∃ i, i < j + 1 ∧ y.1 = nI i)) (dwl (fun i hi _ _ => ⟨rfl, Or.inr ⟨i, hi, rfl⟩⟩) (fun _ => ⟨rfl, Or.inl rfl⟩)) ?_
      rintro ⟨x, D'⟩ ⟨e, hx⟩
      obtain rfl : D' = D := e
      rcases hx with e | ⟨i, hi, e⟩
      · dsimp only at e
        subst e
        simp only [ao_let, n_g1, ↓reduceIte]
        exact hP _
      · dsimp only at e
        subst e
        simp (disch := omega) only [ao_let, n_ltl, f_lt, ↓reduceIte]
        refine hv_bind (P := fun y => y = (1, D')) (dv_eagerT f4 D' hE rfl) ?_
        rintro _ rfl
        simp only [show ((1 : Int32) = 0) = False from by decide, ↓reduceIte]
        exact hP _
    by_cases ek : C 16 p = nI t
    · -- the place is its own
      have e1 : C1 16 p = nI t := by rw [cu _ _ (by omega)]; exact ek
      have e14 : C1 14 p = C 14 p := cu _ _ (by omega)
      obtain ⟨Cf, q1, q2⟩ := see_end (p := p) (C3 := C1) (D3 := ao_u D 537 77 (C 14 p)) (rc' := rc) (v := C 14 p) hF1 ht hM1 ej ha jx hbr c3 t11 hS1 (fun _ _ _ _ _ => rfl) (fun x i q1 q2 q3 => u_ne (by omega)) u_eq (by rw [u_n1 (by omega)]; exact c14) (by
        obtain ⟨ps, vs, ws, r1, r2⟩ := (hM1.2.2.2.2.2.2.2.1 j (by omega)).2.2.2
        exact ⟨ps, vs, ws, r1, RdD_mv r2 (Nat.le_refl _) (fun q hq => ⟨u_n1 (by omega), u_n1 (by omega), u_n1 (by omega), u_n1 (by omega)⟩)⟩) (by rw [u_n2 (by omega)]; exact hF1.2.2.2.2.2.2.1) (Nat.le_refl _) (by omega)
      refine hv_up (fun _ => fX2_see.eq_2 ..) ?_
      try simp only [↓reduceIte, Nat.reduceEqDiff, Option.bind_some, ao_let, n_ell, f1, hR, c8, c0, e1, gX5_isTakenBy, show ((1 : Int32) = 0) = False from by decide]
      try simp (disch := first | omega | assumption) only [↓reduceIte, Nat.reduceEqDiff, Option.bind_some, ao_let, t_le, f_le, t_lt, f_lt, f_eq, u_eq, u_n1, u_n2, n_cl, n_lt, n_le, n_eq, n_ltl, n_llt, n_lel, n_lle, n_eql, n_leq, n_add, n_mul, n_sub, n_addl, n_ladd, n_mull, n_lmul, n_subl, Int32.reduceLT, Int32.reduceLE, Int32.reduceAdd, Int32.reduceSub, Int32.reduceMul, Int32.reduceToNatClampNeg, not_false_eq_true, not_true_eq_false, or_false, false_or, or_self, and_self, false_and, true_and, and_false, and_true, true_or, or_true, Nat.reduceAdd, Nat.reduceMul, Nat.reduceLT, Nat.reduceLeDiff, ne_eq, n_ell, f1, hR, c8, c0, e1, gX5_isTakenBy, show ((1 : Int32) = 0) = False from by decide]
      refine hv_up (fun _ => fX2_see.eq_2 ..) ?_
      try simp only [↓reduceIte, Nat.reduceEqDiff, Option.bind_some, ao_let, n_ell, f1, hR, e14, q1]
      try simp (disch := first | omega | assumption) only [↓reduceIte, Nat.reduceEqDiff, Option.bind_some, ao_let, t_le, f_le, t_lt, f_lt, f_eq, u_eq, u_n1, u_n2, n_cl, n_lt, n_le, n_eq, n_ltl, n_llt, n_lel, n_lle, n_eql, n_leq, n_add, n_mul, n_sub, n_addl, n_ladd, n_mull, n_lmul, n_subl, Int32.reduceLT, Int32.reduceLE, Int32.reduceAdd, Int32.reduceSub, Int32.reduceMul, Int32.reduceToNatClampNeg, not_false_eq_true, not_true_eq_false, or_false, false_or, or_self, and_self, false_and, true_and, and_false, and_true, true_or, or_true, Nat.reduceAdd, Nat.reduceMul, Nat.reduceLT, Nat.reduceLeDiff, ne_eq, n_ell, f1, hR, e14, q1]
      refine hv_some (dst (d36 (fun x => ?_)))
      have e4 : D 544 p = nI t := by rw [← v3]; exact ek
      refine hv_up (fun _ => fX12_looks.eq_2 ..) ?_
      simp only [↓reduceIte, Nat.reduceEqDiff, f4]
      refine hv_bind (P := fun y => y = (1, D)) (dv_eagerT f4 D hE rfl) ?_
      rintro _ rfl
      generalize hEv : EndE nw bw (br + 11) (0, Cf, ρ) = P
      try simp only [↓reduceIte, Nat.reduceEqDiff, Option.bind_some, ao_let, n_ell, f4, e4, show ((1 : Int32) = 0) = False from by decide]
      try simp (disch := first | omega | assumption) only [↓reduceIte, Nat.reduceEqDiff, Option.bind_some, ao_let, t_le, f_le, t_lt, f_lt, f_eq, u_eq, u_n1, u_n2, n_cl, n_lt, n_le, n_eq, n_ltl, n_llt, n_lel, n_lle, n_eql, n_leq, n_add, n_mul, n_sub, n_addl, n_ladd, n_mull, n_lmul, n_subl, Int32.reduceLT, Int32.reduceLE, Int32.reduceAdd, Int32.reduceSub, Int32.reduceMul, Int32.reduceToNatClampNeg, not_false_eq_true, not_true_eq_false, or_false, false_or, or_self, and_self, false_and, true_and, and_false, and_true, true_or, or_true, Nat.reduceAdd, Nat.reduceMul, Nat.reduceLT, Nat.reduceLeDiff, ne_eq, n_ell, f4, e4, show ((1 : Int32) = 0) = False from by decide]
      refine hv_some (Or.inr ⟨rfl, ?_⟩)
      dsimp only
      rw [← v1, ← hEv]
      exact hv_mono q2 (fun w hw => ⟨_, _, hw⟩)
    · have e1 : C1 16 p = C 16 p := cu _ _ (by omega)
      have e4 : (D 544 p = nI t) = False := by rw [← v3]; exact eq_false ek
      -- the reference, down to 65
      have d65 : ∀ {P : Int32 × ao_S → Prop}, (∀ x, hv (fun n => fX12_looks n 65 537 (nI t) (nI p) x 0 0 D σ) P) → hv (fun n => gX12_looks n 537 (nI t) (nI p) D σ) P := by
        intro P hP
        refine d36 (fun x => ?_)
        refine hv_up (fun _ => fX12_looks.eq_2 ..) ?_
        simp only [↓reduceIte, Nat.reduceEqDiff, f4]
        refine hv_bind (P := fun y => y = (1, D)) (dv_eagerT f4 D hE rfl) ?_
        rintro _ rfl
        try simp only [↓reduceIte, Nat.reduceEqDiff, Option.bind_some, ao_let, n_ell, f4, e4, show ((1 : Int32) = 0) = False from by decide]
        try simp (disch := first | omega | assumption) only [↓reduceIte, Nat.reduceEqDiff, Option.bind_some, ao_let, t_le, f_le, t_lt, f_lt, f_eq, u_eq, u_n1, u_n2, n_cl, n_lt, n_le, n_eq, n_ltl, n_llt, n_lel, n_lle, n_eql, n_leq, n_add, n_mul, n_sub, n_addl, n_ladd, n_mull, n_lmul, n_subl, Int32.reduceLT, Int32.reduceLE, Int32.reduceAdd, Int32.reduceSub, Int32.reduceMul, Int32.reduceToNatClampNeg, not_false_eq_true, not_true_eq_false, or_false, false_or, or_self, and_self, false_and, true_and, and_false, and_true, true_or, or_true, Nat.reduceAdd, Nat.reduceMul, Nat.reduceLT, Nat.reduceLeDiff, ne_eq, n_ell, f4, e4, show ((1 : Int32) = 0) = False from by decide]
        exact hP x
      -- the class's tail
      have ctail : ∀ {C2 C3 Cf : ao_M} {ρ2 : ao_H} {Q : Int32 × ao_S → Prop}, ShA ρ2 → ShB ρ2 → C2 (92 + 71 * t) 8 = nI (j + 1) → gX3_addRead (92 + 71 * t + 8 + 6 * j) (nI p) (C2 14 p) (C2 15 p) C2 ρ2 = some C3 → C3 14 p = C2 14 p → gX7_push (92 + 71 * t) (C2 14 p) C3 ρ2 = some Cf → Q (0, Cf, ρ2) → hv (fun n => fX2_see n 113 12 (92 + 71 * t) (nI p) 0 C2 ρ2) Q := by
        intro C2 C3 Cf ρ2 Q h1 h2 h3 h4 h5 h6 h7
        have hR2 := RnS_of h2 ht
        have hl2 := LvS_of h2 ht (show j < 10 by omega)
        refine hv_up (fun _ => fX2_see.eq_2 ..) ?_
        simp only [↓reduceIte, Nat.reduceEqDiff, hR2]
        refine hv_bind (P := fun y => y = (92 + 71 * t + 8 + 6 * j, C2)) ?_ ?_
        · unfold gX7_innermost
          simp only [hR2, ↓reduceIte, h3, n_pre]
          refine hv_bind (P := fun y => y = (92 + 71 * t + 8 + 6 * j, C2)) (c_level h2 ht (by omega) C2 rfl) ?_
          rintro _ rfl
          exact hv_some rfl
        rintro _ rfl
        try simp only [↓reduceIte, Nat.reduceEqDiff, Option.bind_some, ao_let, n_ell, h1, hl2, h4]
        try simp (disch := first | omega | assumption) only [↓reduceIte, Nat.reduceEqDiff, Option.bind_some, ao_let, t_le, f_le, t_lt, f_lt, f_eq, u_eq, u_n1, u_n2, n_cl, n_lt, n_le, n_eq, n_ltl, n_llt, n_lel, n_lle, n_eql, n_leq, n_add, n_mul, n_sub, n_addl, n_ladd, n_mull, n_lmul, n_subl, Int32.reduceLT, Int32.reduceLE, Int32.reduceAdd, Int32.reduceSub, Int32.reduceMul, Int32.reduceToNatClampNeg, not_false_eq_true, not_true_eq_false, or_false, false_or, or_self, and_self, false_and, true_and, and_false, and_true, true_or, or_true, Nat.reduceAdd, Nat.reduceMul, Nat.reduceLT, Nat.reduceLeDiff, ne_eq, n_ell, h1, hl2, h4]
        refine hv_up (fun _ => fX2_see.eq_2 ..) ?_
        try simp only [↓reduceIte, Nat.reduceEqDiff, Option.bind_some, ao_let, n_ell, h1, hR2, h5, h6]
        try simp (disch := first | omega | assumption) only [↓reduceIte, Nat.reduceEqDiff, Option.bind_some, ao_let, t_le, f_le, t_lt, f_lt, f_eq, u_eq, u_n1, u_n2, n_cl, n_lt, n_le, n_eq, n_ltl, n_llt, n_lel, n_lle, n_eql, n_leq, n_add, n_mul, n_sub, n_addl, n_ladd, n_mull, n_lmul, n_subl, Int32.reduceLT, Int32.reduceLE, Int32.reduceAdd, Int32.reduceSub, Int32.reduceMul, Int32.reduceToNatClampNeg, not_false_eq_true, not_true_eq_false, or_false, false_or, or_self, and_self, false_and, true_and, and_false, and_true, true_or, or_true, Nat.reduceAdd, Nat.reduceMul, Nat.reduceLT, Nat.reduceLeDiff, ne_eq, n_ell, h1, hR2, h5, h6]
        exact hv_some h7
      -- the reference's tail
      have dtail : ∀ {D2 D3 : ao_M} {σ2 : ao_H} {x : Int32} {Q : Int32 × ao_S → Prop}, ShD σ2 → (D2 537 27 = 3 ∨ D2 537 27 = 4) → gX12_addRead 537 (nI t) (nI p) (D2 542 p) (ao_u D2 537 77 (D2 542 p)) σ2 = some D3 → Q (1, D3, σ2) → hv (fun n => fX12_looks n 177 537 (nI t) (nI p) x 0 0 D2 σ2) Q := by
        intro D2 D3 σ2 x Q h1 h2 h3 h4
        have h2' : (D2 537 27 = 2) = False := eq_false (fun z => by rw [z] at h2; exact absurd h2 (by decide))
        refine hv_up (fun _ => fX12_looks.eq_2 ..) ?_
        try simp only [↓reduceIte, Nat.reduceEqDiff, Option.bind_some, ao_let, n_ell, h1, h2']
        try simp (disch := first | omega | assumption) only [↓reduceIte, Nat.reduceEqDiff, Option.bind_some, ao_let, t_le, f_le, t_lt, f_lt, f_eq, u_eq, u_n1, u_n2, n_cl, n_lt, n_le, n_eq, n_ltl, n_llt, n_lel, n_lle, n_eql, n_leq, n_add, n_mul, n_sub, n_addl, n_ladd, n_mull, n_lmul, n_subl, Int32.reduceLT, Int32.reduceLE, Int32.reduceAdd, Int32.reduceSub, Int32.reduceMul, Int32.reduceToNatClampNeg, not_false_eq_true, not_true_eq_false, or_false, false_or, or_self, and_self, false_and, true_and, and_false, and_true, true_or, or_true, Nat.reduceAdd, Nat.reduceMul, Nat.reduceLT, Nat.reduceLeDiff, ne_eq, n_ell, h1, h2']
        refine hv_up (fun _ => fX12_looks.eq_2 ..) ?_
        try simp only [↓reduceIte, Nat.reduceEqDiff, Option.bind_some, ao_let, n_ell, h1, h3]
        try simp (disch := first | omega | assumption) only [↓reduceIte, Nat.reduceEqDiff, Option.bind_some, ao_let, t_le, f_le, t_lt, f_lt, f_eq, u_eq, u_n1, u_n2, n_cl, n_lt, n_le, n_eq, n_ltl, n_llt, n_lel, n_lle, n_eql, n_leq, n_add, n_mul, n_sub, n_addl, n_ladd, n_mull, n_lmul, n_subl, Int32.reduceLT, Int32.reduceLE, Int32.reduceAdd, Int32.reduceSub, Int32.reduceMul, Int32.reduceToNatClampNeg, not_false_eq_true, not_true_eq_false, or_false, false_or, or_self, and_self, false_and, true_and, and_false, and_true, true_or, or_true, Nat.reduceAdd, Nat.reduceMul, Nat.reduceLT, Nat.reduceLeDiff, ne_eq, n_ell, h1, h3]
        exact hv_some h4
      have cpre : ∀ {Q : Int32 × ao_S → Prop}, (if C1 12 5 = 3 then hv (fun n => (gX2_mayTouch n 12 (92 + 71 * t) (nI p) C1 ρ).bind fun p17 => fX2_see n 108 12 (92 + 71 * t) (nI p) p17.1 p17.2.1 p17.2.2) Q else hv (fun n => fX2_see n 113 12 (92 + 71 * t) (nI p) 0 C1 ρ) Q) → hv (fun n => fX2_see n 33 12 (92 + 71 * t) (nI p) 0 C1 ρ) Q := by
        intro Q hQ
        have e1' : (C1 16 p = nI t) = False := by rw [e1]; exact eq_false ek
        refine hv_up (fun _ => fX2_see.eq_2 ..) ?_
        try simp only [↓reduceIte, Nat.reduceEqDiff, Option.bind_some, ao_let, n_ell, f1, hR, c8, c0, e1', gX5_isTakenBy]
        try simp (disch := first | omega | assumption) only [↓reduceIte, Nat.reduceEqDiff, Option.bind_some, ao_let, t_le, f_le, t_lt, f_lt, f_eq, u_eq, u_n1, u_n2, n_cl, n_lt, n_le, n_eq, n_ltl, n_llt, n_lel, n_lle, n_eql, n_leq, n_add, n_mul, n_sub, n_addl, n_ladd, n_mull, n_lmul, n_subl, Int32.reduceLT, Int32.reduceLE, Int32.reduceAdd, Int32.reduceSub, Int32.reduceMul, Int32.reduceToNatClampNeg, not_false_eq_true, not_true_eq_false, or_false, false_or, or_self, and_self, false_and, true_and, and_false, and_true, true_or, or_true, Nat.reduceAdd, Nat.reduceMul, Nat.reduceLT, Nat.reduceLeDiff, ne_eq, n_ell, f1, hR, c8, c0, e1', gX5_isTakenBy]
        by_cases q : C1 12 5 = 3
        · simp only [q, ↓reduceIte] at hQ ⊢
          exact hQ
        · simp only [q, ↓reduceIte] at hQ ⊢
          exact hQ
      by_cases h3 : D 537 27 = 3
      · have hC3 : C1 12 5 = 3 := by rw [c12, ← wD]; exact h3
        refine cpre ?_
        rw [if_pos hC3]
        refine hv_bind (touch_P hF1 ht hp hM1 h3) ?_
        rintro ⟨b, C2, ρ2⟩ ⟨Nw, ⟨bw1, D2, σ2⟩, ew, hT⟩
        have dwin : ∀ {P : Int32 × ao_S → Prop} {x : Int32}, hv (fun n => fX12_looks n 164 537 (nI t) (nI p) x bw1 0 D2 σ2) P → hv (fun n => fX12_looks n 65 537 (nI t) (nI p) x 0 0 D σ) P := by
          intro P x hP
          refine hv_up (fun _ => fX12_looks.eq_2 ..) ?_
          try simp only [↓reduceIte, Nat.reduceEqDiff, Option.bind_some, ao_let, n_ell, f4, h3]
          try simp (disch := first | omega | assumption) only [↓reduceIte, Nat.reduceEqDiff, Option.bind_some, ao_let, t_le, f_le, t_lt, f_lt, f_eq, u_eq, u_n1, u_n2, n_cl, n_lt, n_le, n_eq, n_ltl, n_llt, n_lel, n_lle, n_eql, n_leq, n_add, n_mul, n_sub, n_addl, n_ladd, n_mull, n_lmul, n_subl, Int32.reduceLT, Int32.reduceLE, Int32.reduceAdd, Int32.reduceSub, Int32.reduceMul, Int32.reduceToNatClampNeg, not_false_eq_true, not_true_eq_false, or_false, false_or, or_self, and_self, false_and, true_and, and_false, and_true, true_or, or_true, Nat.reduceAdd, Nat.reduceMul, Nat.reduceLT, Nat.reduceLeDiff, ne_eq, n_ell, f4, h3]
          refine hv_bind (P := fun y => y = (bw1, D2, σ2)) ⟨Nw, _, ew, rfl⟩ ?_
          rintro _ rfl
          exact hP
        dsimp only [TouP] at hT
        rcases hT with ⟨e1, e2, kp', hfu⟩ | ⟨e1, hgo⟩
        · subst e1 e2
          refine hv_up (fun _ => fX2_see.eq_2 ..) ?_
          simp only [↓reduceIte, Nat.reduceEqDiff]
          refine hv_some (dst (d65 (fun x => dwin ?_)))
          refine hv_up (fun _ => fX12_looks.eq_2 ..) ?_
          generalize hEv : EndE nw bw (br + 11) (1, C2, ρ2) = P
          simp only [↓reduceIte, Nat.reduceEqDiff]
          refine hv_some (Or.inl ⟨rfl, ?_⟩)
          rw [← hEv]
          exact ⟨kp', rc, rfl, (show ¬ (1 : Int32) < 0 by decide), Full_br hfu (Nat.le_refl _) (by omega) fbw hbr⟩
        · subst e1
          obtain ⟨f42, Ng, ⟨bg, D3, σ3⟩, eg, hg⟩ := hgo
          have dgo : ∀ {P : Int32 × ao_S → Prop} {x : Int32}, hv (fun n => fX12_looks n 172 537 (nI t) (nI p) x bg 0 D3 σ3) P → hv (fun n => fX12_looks n 164 537 (nI t) (nI p) x 1 0 D2 σ2) P := by
            intro P x hP
            refine hv_up (fun _ => fX12_looks.eq_2 ..) ?_
            simp only [↓reduceIte, Nat.reduceEqDiff, show ((1 : Int32) = 0) = False from by decide, f42]
            refine hv_bind (P := fun y => y = (bg, D3, σ3)) ⟨Ng, _, eg, rfl⟩ ?_
            rintro _ rfl
            exact hP
          dsimp only at hg
          rcases hg with ⟨e1, e2, kp', hfu⟩ | ⟨e1, e2, kp', u1, u2, u3⟩
          · subst e1 e2
            refine hv_up (fun _ => fX2_see.eq_2 ..) ?_
            simp only [↓reduceIte, Nat.reduceEqDiff]
            refine hv_some (dst (d65 (fun x => dwin (dgo ?_))))
            refine hv_up (fun _ => fX12_looks.eq_2 ..) ?_
            generalize hEv : EndE nw bw (br + 11) (1, C2, ρ2) = P
            simp only [↓reduceIte, Nat.reduceEqDiff]
            refine hv_some (Or.inl ⟨rfl, ?_⟩)
            rw [← hEv]
            exact ⟨kp', rc, rfl, (show ¬ (1 : Int32) < 0 by decide), Full_br hfu (Nat.le_refl _) (by omega) fbw hbr⟩
          · subst e1 e2
            obtain ⟨iC, iD, i12⟩ := u3
            have hD3 : D3 537 27 = 3 := by rw [← u1.2.2.1.1, i12]; exact hC3
            have c38 : C2 (92 + 71 * t) 8 = nI (j + 1) := by rw [iC _ _ (by omega) (by omega)]; exact c8
            have hv14 : C2 14 p = D3 542 p := by
              obtain ⟨f, g, h, pc, pd, ch, ev, ec⟩ := u1.2.1
              exact (ev p hp).1
            obtain ⟨C4, D4, Cf, rc', q1, q2, q3, q4, q5⟩ := look_tail (C2 := C2) (D2 := D3) (p := p) (C2 14 p) u1 ht hp u2 ej ha jx hbr (by rw [iC _ _ (by omega) (by omega)]; exact c3) (by rw [inD_1 iD (by omega)]; exact t11) (Stk_fr (by
              have := (cok.2.2.2.2.2.1 a t9).2.2.1
              omega) hS1 iC iD) (fun _ _ _ => rfl) (fun _ _ _ => rfl) (u2.2.2.1.2.2.2.2.2.2.1)
            refine hv_up (fun _ => fX2_see.eq_2 ..) ?_
            simp only [↓reduceIte, Nat.reduceEqDiff, show ((1 : Int32) = 0) = False from by decide]
            refine ctail u1.1.1 u1.1.2.1 c38 q1 q4 q3 (dst (d65 (fun x => dwin (dgo ?_))))
            refine hv_up (fun _ => fX12_looks.eq_2 ..) ?_
            generalize hEv : EndE nw bw (br + 11) (0, Cf, ρ2) = P
            simp only [↓reduceIte, Nat.reduceEqDiff, show ((1 : Int32) = 0) = False from by decide]
            rw [hv14] at q2
            refine dtail u1.1.2.2.2 (Or.inl hD3) q2 (Or.inr ⟨rfl, ?_⟩)
            rw [← hEv]
            exact hv_mono q5 (fun w hw => ⟨_, _, hw⟩)
      · have h4 : D 537 27 = 4 := by
          rcases hE with e | e
          · exact absurd e h3
          · exact e
        have hC3 : ¬ C1 12 5 = 3 := by rw [c12, ← wD]; exact h3
        obtain ⟨C4, D4, Cf, rc', q1, q2, q3, q4, q5⟩ := look_tail (C2 := C1) (D2 := D) (p := p) (C1 14 p) hF1 ht hp hM1 ej ha jx hbr c3 t11 hS1 (fun _ _ _ => rfl) (fun _ _ _ => rfl) c14
        refine cpre ?_
        rw [if_neg hC3]
        refine ctail f1 f2 c8 q1 q4 q3 (dst (d65 (fun x => ?_)))
        generalize hEv : EndE nw bw (br + 11) (0, Cf, ρ) = P
        refine hv_up (fun _ => fX12_looks.eq_2 ..) ?_
        try simp only [↓reduceIte, Nat.reduceEqDiff, Option.bind_some, ao_let, n_ell, f4, h4]
        try simp (disch := first | omega | assumption) only [↓reduceIte, Nat.reduceEqDiff, Option.bind_some, ao_let, t_le, f_le, t_lt, f_lt, f_eq, u_eq, u_n1, u_n2, n_cl, n_lt, n_le, n_eq, n_ltl, n_llt, n_lel, n_lle, n_eql, n_leq, n_add, n_mul, n_sub, n_addl, n_ladd, n_mull, n_lmul, n_subl, Int32.reduceLT, Int32.reduceLE, Int32.reduceAdd, Int32.reduceSub, Int32.reduceMul, Int32.reduceToNatClampNeg, not_false_eq_true, not_true_eq_false, or_false, false_or, or_self, and_self, false_and, true_and, and_false, and_true, true_or, or_true, Nat.reduceAdd, Nat.reduceMul, Nat.reduceLT, Nat.reduceLeDiff, ne_eq, n_ell, f4, h4]
        have e14 : C1 14 p = D 542 p := by rw [cu _ _ (by omega)]; exact v1
        rw [e14] at q2
        refine dtail f4 (Or.inr h4) q2 (Or.inr ⟨rfl, ?_⟩)
        rw [← hEv]
        exact hv_mono q5 (fun w hw => ⟨_, _, hw⟩)
  · -- written at the end
    have hEC : ¬ (C1 12 5 = 3 ∨ C1 12 5 = 4) := by rw [c12, ← wD]; exact hE
    refine hv_up (fun _ => fX2_see.eq_2 ..) ?_
    try simp only [↓reduceIte, Nat.reduceEqDiff, Option.bind_some, ao_let, n_ell, hR, c8, f1]
    try simp (disch := first | omega | assumption) only [↓reduceIte, Nat.reduceEqDiff, Option.bind_some, ao_let, t_le, f_le, t_lt, f_lt, f_eq, u_eq, u_n1, u_n2, n_cl, n_lt, n_le, n_eq, n_ltl, n_llt, n_lel, n_lle, n_eql, n_leq, n_add, n_mul, n_sub, n_addl, n_ladd, n_mull, n_lmul, n_subl, Int32.reduceLT, Int32.reduceLE, Int32.reduceAdd, Int32.reduceSub, Int32.reduceMul, Int32.reduceToNatClampNeg, not_false_eq_true, not_true_eq_false, or_false, false_or, or_self, and_self, false_and, true_and, and_false, and_true, true_or, or_true, Nat.reduceAdd, Nat.reduceMul, Nat.reduceLT, Nat.reduceLeDiff, ne_eq, n_ell, hR, c8, f1]
    refine hv_bind (P := fun y => y = (0, C1)) (cv_eager f1 C1 (by rw [if_neg hEC])) ?_
    rintro _ rfl
    simp only [↓reduceIte]
    refine hv_bind (P := fun y => hv (fun n => gX12_step n 537 (nI t) D σ) (fun w => EndE nw bw (br + 11) y w)) ?_ ?_
    rotate_left 1
    · intro y hy
      refine hv_up (fun _ => fX2_see.eq_2 ..) ?_
      try simp only [↓reduceIte, Nat.reduceEqDiff, Option.bind_some, ao_let, n_ell]
      try simp (disch := first | omega | assumption) only [↓reduceIte, Nat.reduceEqDiff, Option.bind_some, ao_let, t_le, f_le, t_lt, f_lt, f_eq, u_eq, u_n1, u_n2, n_cl, n_lt, n_le, n_eq, n_ltl, n_llt, n_lel, n_lle, n_eql, n_leq, n_add, n_mul, n_sub, n_addl, n_ladd, n_mull, n_lmul, n_subl, Int32.reduceLT, Int32.reduceLE, Int32.reduceAdd, Int32.reduceSub, Int32.reduceMul, Int32.reduceToNatClampNeg, not_false_eq_true, not_true_eq_false, or_false, false_or, or_self, and_self, false_and, true_and, and_false, and_true, true_or, or_true, Nat.reduceAdd, Nat.reduceMul, Nat.reduceLT, Nat.reduceLeDiff, ne_eq, n_ell]
      exact hv_some hy
    unfold gX2_seeHeld
    refine hv_up (fun _ => fX2_seeHeld.eq_2 ..) ?_
    simp only [↓reduceIte, hR, ao_let, c8]
    refine c_held f2 ht hp (j + 1) _ (by omega) rfl (fun i hi hb hn => ?_) (fun hn => ?_)
    · -- a level wrote it
      rw [cu _ _ (by omega)] at hb
      have hn' : ∀ i', i < i' → i' < j + 1 → D 578 ((t * 12 + i') * 26 + p) = 0 := fun i' g1 g2 => by
        have := hn i' g1 g2
        rw [cu _ _ (by omega)] at this
        rw [(hfl i' g2).1, if_neg (by rw [this]; decide)]
      have h1 : D 578 ((t * 12 + i) * 26 + p) = 1 := by rw [(hfl i hi).1, if_pos hb]
      have hval : C1 (92 + 71 * t + 8 + 6 * i + 4) p = D 582 ((t * 12 + i) * 26 + p) := by rw [cu _ _ (by omega)]; exact (hfl i hi).2 hb
      obtain ⟨Cf, q1, q2⟩ := see_end (p := p) (C3 := C1) (D3 := ao_u D 537 77 (D 582 ((t * 12 + i) * 26 + p))) (rc' := rc) (v := D 582 ((t * 12 + i) * 26 + p)) hF1 ht hM1 ej ha jx hbr c3 t11 hS1 (fun _ _ _ _ _ => rfl) (fun x i q1 q2 q3 => u_ne (by omega)) u_eq (by rw [u_n1 (by omega)]; exact c14) (by
        obtain ⟨ps, vs, ws, r1, r2⟩ := (hM1.2.2.2.2.2.2.2.1 j (by omega)).2.2.2
        exact ⟨ps, vs, ws, r1, RdD_mv r2 (Nat.le_refl _) (fun q hq => ⟨u_n1 (by omega), u_n1 (by omega), u_n1 (by omega), u_n1 (by omega)⟩)⟩) (by rw [u_n2 (by omega)]; exact hF1.2.2.2.2.2.2.1) (Nat.le_refl _) (by omega)
      rw [hval, q1]
      refine hv_some (dst ?_)
      generalize hEv : EndE nw bw (br + 11) (0, Cf, ρ) = P
      unfold gX12_looks
      refine hv_up (fun _ => fX12_looks.eq_2 ..) ?_
      simp only [↓reduceIte, f4]
      refine hv_bind (P := fun y => y = (nI i, D)) (dwl (fun i2 hi2 g1 g2 => ?_) (fun hn2 => ?_)) ?_
      · have : i2 = i := by
          rcases (show i2 < i ∨ i2 = i ∨ i < i2 by omega) with e | e | e
          · have := g2 i e hi
            rw [h1] at this
            exact absurd this (by decide)
          · exact e
          · have := hn' i2 e hi2
            rw [g1] at this
            exact absurd this (by decide)
        rw [this]
      · have := hn2 i hi
        rw [h1] at this
        exact absurd this (by decide)
      rintro _ rfl
      simp (disch := omega) only [ao_let, n_ltl, f_lt, ↓reduceIte]
      refine hv_bind (P := fun y => y = (0, D)) (dv_eagerF f4 D hE rfl) ?_
      rintro _ rfl
      try simp only [↓reduceIte, Nat.reduceEqDiff, Option.bind_some, ao_let, n_ell, f4, gX12_cell]
      try simp (disch := first | omega | assumption) only [↓reduceIte, Nat.reduceEqDiff, Option.bind_some, ao_let, t_le, f_le, t_lt, f_lt, f_eq, u_eq, u_n1, u_n2, n_cl, n_lt, n_le, n_eq, n_ltl, n_llt, n_lel, n_lle, n_eql, n_leq, n_add, n_mul, n_sub, n_addl, n_ladd, n_mull, n_lmul, n_subl, Int32.reduceLT, Int32.reduceLE, Int32.reduceAdd, Int32.reduceSub, Int32.reduceMul, Int32.reduceToNatClampNeg, not_false_eq_true, not_true_eq_false, or_false, false_or, or_self, and_self, false_and, true_and, and_false, and_true, true_or, or_true, Nat.reduceAdd, Nat.reduceMul, Nat.reduceLT, Nat.reduceLeDiff, ne_eq, n_ell, f4, gX12_cell]
      refine hv_some (Or.inr ⟨rfl, ?_⟩)
      dsimp only
      rw [← hEv]
      exact hv_mono q2 (fun w hw => ⟨_, _, hw⟩)
    · have hn' : ∀ i', i' < j + 1 → D 578 ((t * 12 + i') * 26 + p) = 0 := fun i' g2 => by
        have := hn i' g2
        rw [cu _ _ (by omega)] at this
        rw [(hfl i' g2).1, if_neg (by rw [this]; decide)]
      clear hn
      have d65 : ∀ {P : Int32 × ao_S → Prop}, hv (fun n => fX12_looks n 65 537 (nI t) (nI p) (-1) 0 0 D σ) P → hv (fun n => gX12_looks n 537 (nI t) (nI p) D σ) P := by
        intro P hP
        unfold gX12_looks
        refine hv_up (fun _ => fX12_looks.eq_2 ..) ?_
        simp only [↓reduceIte, f4]
        refine hv_bind (P := fun y => y = (-1, D)) (dwl (fun i2 hi2 g1 g2 => absurd (g1.symm.trans (hn' i2 hi2)) (by decide)) (fun _ => rfl)) ?_
        rintro _ rfl
        simp only [ao_let, n_g1, ↓reduceIte]
        refine hv_up (fun _ => fX12_looks.eq_2 ..) ?_
        simp only [↓reduceIte, Nat.reduceEqDiff, f4]
        refine hv_bind (P := fun y => y = (0, D)) (dv_eagerF f4 D hE rfl) ?_
        rintro _ rfl
        simp only [↓reduceIte]
        exact hP
      -- the class's tail
      have ctail : ∀ {C2 C3 Cf : ao_M} {v x3 x4 : Int32} {Q : Int32 × ao_S → Prop}, C2 (92 + 71 * t) 8 = nI (j + 1) → gX3_addRead (92 + 71 * t + 8 + 6 * j) (nI p) v (C2 15 p) C2 ρ = some C3 → gX7_push (92 + 71 * t) v C3 ρ = some Cf → Q (0, Cf, ρ) → hv (fun n => fX2_seeHeld n 181 12 (92 + 71 * t) (nI p) x3 x4 v 0 0 C2 ρ) Q := by
        intro C2 C3 Cf v x3 x4 Q h3 h4 h6 h7
        refine hv_up (fun _ => fX2_seeHeld.eq_2 ..) ?_
        simp only [↓reduceIte, Nat.reduceEqDiff, hR]
        refine hv_bind (P := fun y => y = (92 + 71 * t + 8 + 6 * j, C2)) ?_ ?_
        · unfold gX7_innermost
          simp only [hR, ↓reduceIte, h3, n_pre]
          refine hv_bind (P := fun y => y = (92 + 71 * t + 8 + 6 * j, C2)) (c_level f2 ht (by omega) C2 rfl) ?_
          rintro _ rfl
          exact hv_some rfl
        rintro _ rfl
        try simp only [↓reduceIte, Nat.reduceEqDiff, Option.bind_some, ao_let, n_ell, f1, hl, h4, h6]
        try simp (disch := first | omega | assumption) only [↓reduceIte, Nat.reduceEqDiff, Option.bind_some, ao_let, t_le, f_le, t_lt, f_lt, f_eq, u_eq, u_n1, u_n2, n_cl, n_lt, n_le, n_eq, n_ltl, n_llt, n_lel, n_lle, n_eql, n_leq, n_add, n_mul, n_sub, n_addl, n_ladd, n_mull, n_lmul, n_subl, Int32.reduceLT, Int32.reduceLE, Int32.reduceAdd, Int32.reduceSub, Int32.reduceMul, Int32.reduceToNatClampNeg, not_false_eq_true, not_true_eq_false, or_false, false_or, or_self, and_self, false_and, true_and, and_false, and_true, true_or, or_true, Nat.reduceAdd, Nat.reduceMul, Nat.reduceLT, Nat.reduceLeDiff, ne_eq, n_ell, f1, hl, h4, h6]
        exact hv_some h7
      have dtail : ∀ {D2 D3 : ao_M} {v x : Int32} {Q : Int32 × ao_S → Prop}, gX12_addRead 537 (nI t) (nI p) v (ao_u D2 537 77 v) σ = some D3 → Q (1, D3, σ) → hv (fun n => fX12_looks n 206 537 (nI t) (nI p) x v 537 D2 σ) Q := by
        intro D2 D3 v x Q h3 h4
        refine hv_up (fun _ => fX12_looks.eq_2 ..) ?_
        try simp only [↓reduceIte, Nat.reduceEqDiff, Option.bind_some, ao_let, n_ell, f4, h3]
        try simp (disch := first | omega | assumption) only [↓reduceIte, Nat.reduceEqDiff, Option.bind_some, ao_let, t_le, f_le, t_lt, f_lt, f_eq, u_eq, u_n1, u_n2, n_cl, n_lt, n_le, n_eq, n_ltl, n_llt, n_lel, n_lle, n_eql, n_leq, n_add, n_mul, n_sub, n_addl, n_ladd, n_mull, n_lmul, n_subl, Int32.reduceLT, Int32.reduceLE, Int32.reduceAdd, Int32.reduceSub, Int32.reduceMul, Int32.reduceToNatClampNeg, not_false_eq_true, not_true_eq_false, or_false, false_or, or_self, and_self, false_and, true_and, and_false, and_true, true_or, or_true, Nat.reduceAdd, Nat.reduceMul, Nat.reduceLT, Nat.reduceLeDiff, ne_eq, n_ell, f4, h3]
        exact hv_some h4
      have hw2 : w = 0 ∨ w = 1 ∨ w = 2 := by
        rcases w5 w4 with e | e | e | e | e
        · exact Or.inl e
        · exact Or.inr (Or.inl e)
        · exact Or.inr (Or.inr e)
        · subst e; exact absurd (Or.inl wD) hE
        · subst e; exact absurd (Or.inr wD) hE
      have e15 : C1 15 p = D 543 p := by rw [cu _ _ (by omega)]; exact v2
      have e14 : C1 14 p = D 542 p := by rw [cu _ _ (by omega)]; exact v1
      rcases hw2 with rfl | rfl | rfl
      · -- by the clock
        by_cases hlt : D 543 p ≤ D 560 t
        · obtain ⟨C4, D4, Cf, rc', q1, q2, q3, q4, q5⟩ := look_tail (C2 := C1) (D2 := D) (p := p) (C1 14 p) hF1 ht hp hM1 ej ha jx hbr c3 t11 hS1 (fun _ _ _ => rfl) (fun _ _ _ => rfl) c14
          refine hv_up (fun _ => fX2_seeHeld.eq_2 ..) ?_
          try simp only [↓reduceIte, Nat.reduceEqDiff, Option.bind_some, ao_let, n_ell, f1, hR, n_g1, c12, e15, c14, hlt]
          try simp (disch := first | omega | assumption) only [↓reduceIte, Nat.reduceEqDiff, Option.bind_some, ao_let, t_le, f_le, t_lt, f_lt, f_eq, u_eq, u_n1, u_n2, n_cl, n_lt, n_le, n_eq, n_ltl, n_llt, n_lel, n_lle, n_eql, n_leq, n_add, n_mul, n_sub, n_addl, n_ladd, n_mull, n_lmul, n_subl, Int32.reduceLT, Int32.reduceLE, Int32.reduceAdd, Int32.reduceSub, Int32.reduceMul, Int32.reduceToNatClampNeg, not_false_eq_true, not_true_eq_false, or_false, false_or, or_self, and_self, false_and, true_and, and_false, and_true, true_or, or_true, Nat.reduceAdd, Nat.reduceMul, Nat.reduceLT, Nat.reduceLeDiff, ne_eq, n_ell, f1, hR, n_g1, c12, e15, c14, hlt]
          refine hv_up (fun _ => fX2_seeHeld.eq_2 ..) ?_
          try simp only [↓reduceIte, Nat.reduceEqDiff, Option.bind_some, ao_let, n_ell]
          try simp (disch := first | omega | assumption) only [↓reduceIte, Nat.reduceEqDiff, Option.bind_some, ao_let, t_le, f_le, t_lt, f_lt, f_eq, u_eq, u_n1, u_n2, n_cl, n_lt, n_le, n_eq, n_ltl, n_llt, n_lel, n_lle, n_eql, n_leq, n_add, n_mul, n_sub, n_addl, n_ladd, n_mull, n_lmul, n_subl, Int32.reduceLT, Int32.reduceLE, Int32.reduceAdd, Int32.reduceSub, Int32.reduceMul, Int32.reduceToNatClampNeg, not_false_eq_true, not_true_eq_false, or_false, false_or, or_self, and_self, false_and, true_and, and_false, and_true, true_or, or_true, Nat.reduceAdd, Nat.reduceMul, Nat.reduceLT, Nat.reduceLeDiff, ne_eq, n_ell]
          refine hv_up (fun _ => fX2_seeHeld.eq_2 ..) ?_
          try simp only [↓reduceIte, Nat.reduceEqDiff, Option.bind_some, ao_let, n_ell, f1, c12]
          try simp (disch := first | omega | assumption) only [↓reduceIte, Nat.reduceEqDiff, Option.bind_some, ao_let, t_le, f_le, t_lt, f_lt, f_eq, u_eq, u_n1, u_n2, n_cl, n_lt, n_le, n_eq, n_ltl, n_llt, n_lel, n_lle, n_eql, n_leq, n_add, n_mul, n_sub, n_addl, n_ladd, n_mull, n_lmul, n_subl, Int32.reduceLT, Int32.reduceLE, Int32.reduceAdd, Int32.reduceSub, Int32.reduceMul, Int32.reduceToNatClampNeg, not_false_eq_true, not_true_eq_false, or_false, false_or, or_self, and_self, false_and, true_and, and_false, and_true, true_or, or_true, Nat.reduceAdd, Nat.reduceMul, Nat.reduceLT, Nat.reduceLeDiff, ne_eq, n_ell, f1, c12]
          refine hv_up (fun _ => fX2_seeHeld.eq_2 ..) ?_
          try simp only [↓reduceIte, Nat.reduceEqDiff, Option.bind_some, ao_let, n_ell, f1, c12, n_g1]
          try simp (disch := first | omega | assumption) only [↓reduceIte, Nat.reduceEqDiff, Option.bind_some, ao_let, t_le, f_le, t_lt, f_lt, f_eq, u_eq, u_n1, u_n2, n_cl, n_lt, n_le, n_eq, n_ltl, n_llt, n_lel, n_lle, n_eql, n_leq, n_add, n_mul, n_sub, n_addl, n_ladd, n_mull, n_lmul, n_subl, Int32.reduceLT, Int32.reduceLE, Int32.reduceAdd, Int32.reduceSub, Int32.reduceMul, Int32.reduceToNatClampNeg, not_false_eq_true, not_true_eq_false, or_false, false_or, or_self, and_self, false_and, true_and, and_false, and_true, true_or, or_true, Nat.reduceAdd, Nat.reduceMul, Nat.reduceLT, Nat.reduceLeDiff, ne_eq, n_ell, f1, c12, n_g1]
          refine hv_up (fun _ => fX2_seeHeld.eq_2 ..) ?_
          try simp only [↓reduceIte, Nat.reduceEqDiff, Option.bind_some, ao_let, n_ell, f1, c12]
          try simp (disch := first | omega | assumption) only [↓reduceIte, Nat.reduceEqDiff, Option.bind_some, ao_let, t_le, f_le, t_lt, f_lt, f_eq, u_eq, u_n1, u_n2, n_cl, n_lt, n_le, n_eq, n_ltl, n_llt, n_lel, n_lle, n_eql, n_leq, n_add, n_mul, n_sub, n_addl, n_ladd, n_mull, n_lmul, n_subl, Int32.reduceLT, Int32.reduceLE, Int32.reduceAdd, Int32.reduceSub, Int32.reduceMul, Int32.reduceToNatClampNeg, not_false_eq_true, not_true_eq_false, or_false, false_or, or_self, and_self, false_and, true_and, and_false, and_true, true_or, or_true, Nat.reduceAdd, Nat.reduceMul, Nat.reduceLT, Nat.reduceLeDiff, ne_eq, n_ell, f1, c12]
          refine ctail c8 q1 q3 (dst (d65 ?_))
          generalize hEv : EndE nw bw (br + 11) (0, Cf, ρ) = P
          refine hv_up (fun _ => fX12_looks.eq_2 ..) ?_
          try simp only [↓reduceIte, Nat.reduceEqDiff, Option.bind_some, ao_let, n_ell, f4, wD, hlt]
          try simp (disch := first | omega | assumption) only [↓reduceIte, Nat.reduceEqDiff, Option.bind_some, ao_let, t_le, f_le, t_lt, f_lt, f_eq, u_eq, u_n1, u_n2, n_cl, n_lt, n_le, n_eq, n_ltl, n_llt, n_lel, n_lle, n_eql, n_leq, n_add, n_mul, n_sub, n_addl, n_ladd, n_mull, n_lmul, n_subl, Int32.reduceLT, Int32.reduceLE, Int32.reduceAdd, Int32.reduceSub, Int32.reduceMul, Int32.reduceToNatClampNeg, not_false_eq_true, not_true_eq_false, or_false, false_or, or_self, and_self, false_and, true_and, and_false, and_true, true_or, or_true, Nat.reduceAdd, Nat.reduceMul, Nat.reduceLT, Nat.reduceLeDiff, ne_eq, n_ell, f4, wD, hlt]
          refine hv_up (fun _ => fX12_looks.eq_2 ..) ?_
          try simp only [↓reduceIte, Nat.reduceEqDiff, Option.bind_some, ao_let, n_ell, f4, wD]
          try simp (disch := first | omega | assumption) only [↓reduceIte, Nat.reduceEqDiff, Option.bind_some, ao_let, t_le, f_le, t_lt, f_lt, f_eq, u_eq, u_n1, u_n2, n_cl, n_lt, n_le, n_eq, n_ltl, n_llt, n_lel, n_lle, n_eql, n_leq, n_add, n_mul, n_sub, n_addl, n_ladd, n_mull, n_lmul, n_subl, Int32.reduceLT, Int32.reduceLE, Int32.reduceAdd, Int32.reduceSub, Int32.reduceMul, Int32.reduceToNatClampNeg, not_false_eq_true, not_true_eq_false, or_false, false_or, or_self, and_self, false_and, true_and, and_false, and_true, true_or, or_true, Nat.reduceAdd, Nat.reduceMul, Nat.reduceLT, Nat.reduceLeDiff, ne_eq, n_ell, f4, wD]
          rw [← e14]
          refine dtail q2 (Or.inr ⟨rfl, ?_⟩)
          rw [← hEv]
          exact hv_mono q5 (fun w hw => ⟨_, _, hw⟩)
        · refine hv_up (fun _ => fX2_seeHeld.eq_2 ..) ?_
          try simp only [↓reduceIte, Nat.reduceEqDiff, Option.bind_some, ao_let, n_ell, f1, hR, n_g1, c12, e15, c14, hlt]
          try simp (disch := first | omega | assumption) only [↓reduceIte, Nat.reduceEqDiff, Option.bind_some, ao_let, t_le, f_le, t_lt, f_lt, f_eq, u_eq, u_n1, u_n2, n_cl, n_lt, n_le, n_eq, n_ltl, n_llt, n_lel, n_lle, n_eql, n_leq, n_add, n_mul, n_sub, n_addl, n_ladd, n_mull, n_lmul, n_subl, Int32.reduceLT, Int32.reduceLE, Int32.reduceAdd, Int32.reduceSub, Int32.reduceMul, Int32.reduceToNatClampNeg, not_false_eq_true, not_true_eq_false, or_false, false_or, or_self, and_self, false_and, true_and, and_false, and_true, true_or, or_true, Nat.reduceAdd, Nat.reduceMul, Nat.reduceLT, Nat.reduceLeDiff, ne_eq, n_ell, f1, hR, n_g1, c12, e15, c14, hlt]
          refine hv_up (fun _ => fX2_seeHeld.eq_2 ..) ?_
          try simp only [↓reduceIte, Nat.reduceEqDiff, Option.bind_some, ao_let, n_ell, show ((1 : Int32) = 0) = False from by decide]
          try simp (disch := first | omega | assumption) only [↓reduceIte, Nat.reduceEqDiff, Option.bind_some, ao_let, t_le, f_le, t_lt, f_lt, f_eq, u_eq, u_n1, u_n2, n_cl, n_lt, n_le, n_eq, n_ltl, n_llt, n_lel, n_lle, n_eql, n_leq, n_add, n_mul, n_sub, n_addl, n_ladd, n_mull, n_lmul, n_subl, Int32.reduceLT, Int32.reduceLE, Int32.reduceAdd, Int32.reduceSub, Int32.reduceMul, Int32.reduceToNatClampNeg, not_false_eq_true, not_true_eq_false, or_false, false_or, or_self, and_self, false_and, true_and, and_false, and_true, true_or, or_true, Nat.reduceAdd, Nat.reduceMul, Nat.reduceLT, Nat.reduceLeDiff, ne_eq, n_ell, show ((1 : Int32) = 0) = False from by decide]
          refine hv_up (fun _ => fX2_seeHeld.eq_2 ..) ?_
          simp only [↓reduceIte, Nat.reduceEqDiff, f1]
          refine hv_bind (P := fun y => y.2 = C1 ∧ FW D t 0 (nl (N a)) y.1) (ow_P hF1 ht hM1 (fun x => absurd (wD.symm.trans x.1) (by decide)) (fun x hx => ⟨rfl, hx⟩)) ?_
          rintro ⟨x, C1'⟩ ⟨e, hx⟩
          obtain rfl : C1' = C1 := e
          have hcf := conf_P hF1 ht hM1 hx
          have h125 : ∀ {x3 x4 : Int32} {Q : Int32 × ao_S → Prop}, hv (fun n => gX2_restart n 12 (92 + 71 * t) (if x < 0 then C1' (92 + 71 * t) 8 - 1 else x) C1' ρ) (fun y => Q (1, y)) → hv (fun n => fX2_seeHeld n 125 12 (92 + 71 * t) (nI p) x3 x4 (if x < 0 then C1' (92 + 71 * t) 8 - 1 else x) (92 + 71 * t) 12 C1' ρ) Q := by
            intro x3 x4 Q hQ
            refine hv_up (fun _ => fX2_seeHeld.eq_2 ..) ?_
            simp only [↓reduceIte, Nat.reduceEqDiff, f1]
            refine hv_bind hQ ?_
            intro y hy
            refine hv_up (fun _ => fX2_seeHeld.eq_2 ..) ?_
            try simp only [↓reduceIte, Nat.reduceEqDiff, Option.bind_some, ao_let, n_ell]
            try simp (disch := first | omega | assumption) only [↓reduceIte, Nat.reduceEqDiff, Option.bind_some, ao_let, t_le, f_le, t_lt, f_lt, f_eq, u_eq, u_n1, u_n2, n_cl, n_lt, n_le, n_eq, n_ltl, n_llt, n_lel, n_lle, n_eql, n_leq, n_add, n_mul, n_sub, n_addl, n_ladd, n_mull, n_lmul, n_subl, Int32.reduceLT, Int32.reduceLE, Int32.reduceAdd, Int32.reduceSub, Int32.reduceMul, Int32.reduceToNatClampNeg, not_false_eq_true, not_true_eq_false, or_false, false_or, or_self, and_self, false_and, true_and, and_false, and_true, true_or, or_true, Nat.reduceAdd, Nat.reduceMul, Nat.reduceLT, Nat.reduceLeDiff, ne_eq, n_ell]
            exact hv_some hy
          have h107 : ∀ {Q : Int32 × ao_S → Prop}, hv (fun n => gX2_restart n 12 (92 + 71 * t) (if x < 0 then C1' (92 + 71 * t) 8 - 1 else x) C1' ρ) (fun y => Q (1, y)) → hv (fun n => fX2_seeHeld n 96 12 (92 + 71 * t) (nI p) 1 0 x 0 0 C1' ρ) Q := by
            intro Q hQ
            refine hv_up (fun _ => fX2_seeHeld.eq_2 ..) ?_
            try simp only [↓reduceIte, Nat.reduceEqDiff, Option.bind_some, ao_let, n_ell, show ((1 : Int32) = 0) = False from by decide]
            try simp (disch := first | omega | assumption) only [↓reduceIte, Nat.reduceEqDiff, Option.bind_some, ao_let, t_le, f_le, t_lt, f_lt, f_eq, u_eq, u_n1, u_n2, n_cl, n_lt, n_le, n_eq, n_ltl, n_llt, n_lel, n_lle, n_eql, n_leq, n_add, n_mul, n_sub, n_addl, n_ladd, n_mull, n_lmul, n_subl, Int32.reduceLT, Int32.reduceLE, Int32.reduceAdd, Int32.reduceSub, Int32.reduceMul, Int32.reduceToNatClampNeg, not_false_eq_true, not_true_eq_false, or_false, false_or, or_self, and_self, false_and, true_and, and_false, and_true, true_or, or_true, Nat.reduceAdd, Nat.reduceMul, Nat.reduceLT, Nat.reduceLeDiff, ne_eq, n_ell, show ((1 : Int32) = 0) = False from by decide]
            refine hv_up (fun _ => fX2_seeHeld.eq_2 ..) ?_
            simp only [↓reduceIte, Nat.reduceEqDiff, hR]
            by_cases hx0 : x < 0
            · have := h125 (x3 := 1) (x4 := x) hQ
              simp only [hx0, ↓reduceIte] at this ⊢
              exact this
            · have := h125 (x3 := 1) (x4 := x) hQ
              simp only [hx0, ↓reduceIte] at this ⊢
              exact this
          refine h107 (hv_mono hcf (fun y hy => dst (d65 ?_)))
          obtain ⟨y1, y2⟩ := y
          generalize hEv : EndE nw bw (br + 11) (1, y1, y2) = P
          refine hv_up (fun _ => fX12_looks.eq_2 ..) ?_
          try simp only [↓reduceIte, Nat.reduceEqDiff, Option.bind_some, ao_let, n_ell, f4, wD, hlt]
          try simp (disch := first | omega | assumption) only [↓reduceIte, Nat.reduceEqDiff, Option.bind_some, ao_let, t_le, f_le, t_lt, f_lt, f_eq, u_eq, u_n1, u_n2, n_cl, n_lt, n_le, n_eq, n_ltl, n_llt, n_lel, n_lle, n_eql, n_leq, n_add, n_mul, n_sub, n_addl, n_ladd, n_mull, n_lmul, n_subl, Int32.reduceLT, Int32.reduceLE, Int32.reduceAdd, Int32.reduceSub, Int32.reduceMul, Int32.reduceToNatClampNeg, not_false_eq_true, not_true_eq_false, or_false, false_or, or_self, and_self, false_and, true_and, and_false, and_true, true_or, or_true, Nat.reduceAdd, Nat.reduceMul, Nat.reduceLT, Nat.reduceLeDiff, ne_eq, n_ell, f4, wD, hlt]
          refine hv_bind hy ?_
          rintro ⟨z1, z2⟩ ⟨kp', hz⟩
          refine hv_up (fun _ => fX12_looks.eq_2 ..) ?_
          try simp only [↓reduceIte, Nat.reduceEqDiff, Option.bind_some, ao_let, n_ell]
          try simp (disch := first | omega | assumption) only [↓reduceIte, Nat.reduceEqDiff, Option.bind_some, ao_let, t_le, f_le, t_lt, f_lt, f_eq, u_eq, u_n1, u_n2, n_cl, n_lt, n_le, n_eq, n_ltl, n_llt, n_lel, n_lle, n_eql, n_leq, n_add, n_mul, n_sub, n_addl, n_ladd, n_mull, n_lmul, n_subl, Int32.reduceLT, Int32.reduceLE, Int32.reduceAdd, Int32.reduceSub, Int32.reduceMul, Int32.reduceToNatClampNeg, not_false_eq_true, not_true_eq_false, or_false, false_or, or_self, and_self, false_and, true_and, and_false, and_true, true_or, or_true, Nat.reduceAdd, Nat.reduceMul, Nat.reduceLT, Nat.reduceLeDiff, ne_eq, n_ell]
          refine hv_some (Or.inl ⟨rfl, ?_⟩)
          rw [← hEv]
          exact ⟨kp', rc, rfl, (show ¬ (1 : Int32) < 0 by decide), Full_br hz (Nat.le_refl _) (by omega) fbw hbr⟩
      · -- by values
        have e134 : C1 13 4 = D 537 26 := by rw [cu _ _ (by omega)]; exact v4
        obtain ⟨C4, D4, Cf, rc', q1, q2, q3, q4, q5⟩ := look_tail (C2 := ao_u C1 (92 + 71 * t) 14 (C1 13 4)) (D2 := ao_u D 560 t (D 537 26)) (p := p) (C1 14 p) hF1 ht hp hM1 ej ha jx hbr c3 t11 hS1 (fun x i q => u_ne (by omega)) (fun x i q => u_ne (by omega)) (by rw [u_eq, u_eq]; exact e134)
        have c82 : ao_u C1 (92 + 71 * t) 14 (C1 13 4) (92 + 71 * t) 8 = nI (j + 1) := by rw [u_n2 (by omega)]; exact c8
        have c152 : ao_u C1 (92 + 71 * t) 14 (C1 13 4) 12 5 = nI 1 := by rw [u_n1 (by omega)]; exact c12
        have c142 : ao_u C1 (92 + 71 * t) 14 (C1 13 4) 14 p = C1 14 p := u_n1 (by omega)
        have cgo : ∀ {Q : Int32 × ao_S → Prop}, Q (0, Cf, ρ) → hv (fun n => fX2_seeHeld n 96 12 (92 + 71 * t) (nI p) 0 0 (-1) 0 0 C1 ρ) Q := by
          intro Q hQ
          refine hv_up (fun _ => fX2_seeHeld.eq_2 ..) ?_
          try simp only [↓reduceIte, Nat.reduceEqDiff, Option.bind_some, ao_let, n_ell, f1, hR, c12, n_g1]
          try simp (disch := first | omega | assumption) only [↓reduceIte, Nat.reduceEqDiff, Option.bind_some, ao_let, t_le, f_le, t_lt, f_lt, f_eq, u_eq, u_n1, u_n2, n_cl, n_lt, n_le, n_eq, n_ltl, n_llt, n_lel, n_lle, n_eql, n_leq, n_add, n_mul, n_sub, n_addl, n_ladd, n_mull, n_lmul, n_subl, Int32.reduceLT, Int32.reduceLE, Int32.reduceAdd, Int32.reduceSub, Int32.reduceMul, Int32.reduceToNatClampNeg, not_false_eq_true, not_true_eq_false, or_false, false_or, or_self, and_self, false_and, true_and, and_false, and_true, true_or, or_true, Nat.reduceAdd, Nat.reduceMul, Nat.reduceLT, Nat.reduceLeDiff, ne_eq, n_ell, f1, hR, c12, n_g1]
          refine hv_up (fun _ => fX2_seeHeld.eq_2 ..) ?_
          try simp only [↓reduceIte, Nat.reduceEqDiff, Option.bind_some, ao_let, n_ell, f1, hR, c152, c142]
          try simp (disch := first | omega | assumption) only [↓reduceIte, Nat.reduceEqDiff, Option.bind_some, ao_let, t_le, f_le, t_lt, f_lt, f_eq, u_eq, u_n1, u_n2, n_cl, n_lt, n_le, n_eq, n_ltl, n_llt, n_lel, n_lle, n_eql, n_leq, n_add, n_mul, n_sub, n_addl, n_ladd, n_mull, n_lmul, n_subl, Int32.reduceLT, Int32.reduceLE, Int32.reduceAdd, Int32.reduceSub, Int32.reduceMul, Int32.reduceToNatClampNeg, not_false_eq_true, not_true_eq_false, or_false, false_or, or_self, and_self, false_and, true_and, and_false, and_true, true_or, or_true, Nat.reduceAdd, Nat.reduceMul, Nat.reduceLT, Nat.reduceLeDiff, ne_eq, n_ell, f1, hR, c152, c142]
          exact ctail c82 q1 q3 hQ
        refine hv_up (fun _ => fX2_seeHeld.eq_2 ..) ?_
        try simp only [↓reduceIte, Nat.reduceEqDiff, Option.bind_some, ao_let, n_ell, f1, hR, n_g1, c12]
        try simp (disch := first | omega | assumption) only [↓reduceIte, Nat.reduceEqDiff, Option.bind_some, ao_let, t_le, f_le, t_lt, f_lt, f_eq, u_eq, u_n1, u_n2, n_cl, n_lt, n_le, n_eq, n_ltl, n_llt, n_lel, n_lle, n_eql, n_leq, n_add, n_mul, n_sub, n_addl, n_ladd, n_mull, n_lmul, n_subl, Int32.reduceLT, Int32.reduceLE, Int32.reduceAdd, Int32.reduceSub, Int32.reduceMul, Int32.reduceToNatClampNeg, not_false_eq_true, not_true_eq_false, or_false, false_or, or_self, and_self, false_and, true_and, and_false, and_true, true_or, or_true, Nat.reduceAdd, Nat.reduceMul, Nat.reduceLT, Nat.reduceLeDiff, ne_eq, n_ell, f1, hR, n_g1, c12]
        refine hv_up (fun _ => fX2_seeHeld.eq_2 ..) ?_
        try simp only [↓reduceIte, Nat.reduceEqDiff, Option.bind_some, ao_let, n_ell]
        try simp (disch := first | omega | assumption) only [↓reduceIte, Nat.reduceEqDiff, Option.bind_some, ao_let, t_le, f_le, t_lt, f_lt, f_eq, u_eq, u_n1, u_n2, n_cl, n_lt, n_le, n_eq, n_ltl, n_llt, n_lel, n_lle, n_eql, n_leq, n_add, n_mul, n_sub, n_addl, n_ladd, n_mull, n_lmul, n_subl, Int32.reduceLT, Int32.reduceLE, Int32.reduceAdd, Int32.reduceSub, Int32.reduceMul, Int32.reduceToNatClampNeg, not_false_eq_true, not_true_eq_false, or_false, false_or, or_self, and_self, false_and, true_and, and_false, and_true, true_or, or_true, Nat.reduceAdd, Nat.reduceMul, Nat.reduceLT, Nat.reduceLeDiff, ne_eq, n_ell]
        refine hv_up (fun _ => fX2_seeHeld.eq_2 ..) ?_
        try simp only [↓reduceIte, Nat.reduceEqDiff, Option.bind_some, ao_let, n_ell, f1, c12]
        try simp (disch := first | omega | assumption) only [↓reduceIte, Nat.reduceEqDiff, Option.bind_some, ao_let, t_le, f_le, t_lt, f_lt, f_eq, u_eq, u_n1, u_n2, n_cl, n_lt, n_le, n_eq, n_ltl, n_llt, n_lel, n_lle, n_eql, n_leq, n_add, n_mul, n_sub, n_addl, n_ladd, n_mull, n_lmul, n_subl, Int32.reduceLT, Int32.reduceLE, Int32.reduceAdd, Int32.reduceSub, Int32.reduceMul, Int32.reduceToNatClampNeg, not_false_eq_true, not_true_eq_false, or_false, false_or, or_self, and_self, false_and, true_and, and_false, and_true, true_or, or_true, Nat.reduceAdd, Nat.reduceMul, Nat.reduceLT, Nat.reduceLeDiff, ne_eq, n_ell, f1, c12]
        refine hv_up (fun _ => fX2_seeHeld.eq_2 ..) ?_
        simp only [↓reduceIte, Nat.reduceEqDiff, f1]
        by_cases hck : D 537 26 = D 560 t
        · refine hv_bind (P := fun y => y = (-1, C1)) ?_ ?_
          · unfold gX2_outermostWrong
            refine hv_up (fun _ => fX2_outermostWrong.eq_2 ..) ?_
            try simp only [↓reduceIte, Nat.reduceEqDiff, Option.bind_some, ao_let, n_ell, f1, hR, c12, e134, c14, hck]
            try simp (disch := first | omega | assumption) only [↓reduceIte, Nat.reduceEqDiff, Option.bind_some, ao_let, t_le, f_le, t_lt, f_lt, f_eq, u_eq, u_n1, u_n2, n_cl, n_lt, n_le, n_eq, n_ltl, n_llt, n_lel, n_lle, n_eql, n_leq, n_add, n_mul, n_sub, n_addl, n_ladd, n_mull, n_lmul, n_subl, Int32.reduceLT, Int32.reduceLE, Int32.reduceAdd, Int32.reduceSub, Int32.reduceMul, Int32.reduceToNatClampNeg, not_false_eq_true, not_true_eq_false, or_false, false_or, or_self, and_self, false_and, true_and, and_false, and_true, true_or, or_true, Nat.reduceAdd, Nat.reduceMul, Nat.reduceLT, Nat.reduceLeDiff, ne_eq, n_ell, f1, hR, c12, e134, c14, hck]
            exact hv_some rfl
          rintro _ rfl
          refine cgo (dst (d65 ?_))
          generalize hEv : EndE nw bw (br + 11) (0, Cf, ρ) = P
          have hDD : ao_u D 560 t (D 537 26) = D := by
            funext x i
            unfold ao_u
            by_cases e : x = 560 ∧ i = t
            · rw [if_pos e, e.1, e.2]; exact hck
            · rw [if_neg e]
          rw [hDD] at q2
          refine hv_up (fun _ => fX12_looks.eq_2 ..) ?_
          try simp only [↓reduceIte, Nat.reduceEqDiff, Option.bind_some, ao_let, n_ell, f4, wD, hck]
          try simp (disch := first | omega | assumption) only [↓reduceIte, Nat.reduceEqDiff, Option.bind_some, ao_let, t_le, f_le, t_lt, f_lt, f_eq, u_eq, u_n1, u_n2, n_cl, n_lt, n_le, n_eq, n_ltl, n_llt, n_lel, n_lle, n_eql, n_leq, n_add, n_mul, n_sub, n_addl, n_ladd, n_mull, n_lmul, n_subl, Int32.reduceLT, Int32.reduceLE, Int32.reduceAdd, Int32.reduceSub, Int32.reduceMul, Int32.reduceToNatClampNeg, not_false_eq_true, not_true_eq_false, or_false, false_or, or_self, and_self, false_and, true_and, and_false, and_true, true_or, or_true, Nat.reduceAdd, Nat.reduceMul, Nat.reduceLT, Nat.reduceLeDiff, ne_eq, n_ell, f4, wD, hck]
          refine hv_up (fun _ => fX12_looks.eq_2 ..) ?_
          try simp only [↓reduceIte, Nat.reduceEqDiff, Option.bind_some, ao_let, n_ell, f4, wD]
          try simp (disch := first | omega | assumption) only [↓reduceIte, Nat.reduceEqDiff, Option.bind_some, ao_let, t_le, f_le, t_lt, f_lt, f_eq, u_eq, u_n1, u_n2, n_cl, n_lt, n_le, n_eq, n_ltl, n_llt, n_lel, n_lle, n_eql, n_leq, n_add, n_mul, n_sub, n_addl, n_ladd, n_mull, n_lmul, n_subl, Int32.reduceLT, Int32.reduceLE, Int32.reduceAdd, Int32.reduceSub, Int32.reduceMul, Int32.reduceToNatClampNeg, not_false_eq_true, not_true_eq_false, or_false, false_or, or_self, and_self, false_and, true_and, and_false, and_true, true_or, or_true, Nat.reduceAdd, Nat.reduceMul, Nat.reduceLT, Nat.reduceLeDiff, ne_eq, n_ell, f4, wD]
          rw [← e14]
          refine dtail q2 (Or.inr ⟨rfl, ?_⟩)
          rw [← hEv]
          exact hv_mono q5 (fun w hw => ⟨_, _, hw⟩)
        · refine hv_bind (P := fun y => y.2 = C1 ∧ FW D t 0 (nl (N a)) y.1) (ow_P hF1 ht hM1 (fun x => hck x.2) (fun x hx => ⟨rfl, hx⟩)) ?_
          rintro ⟨x, C1'⟩ ⟨e, hx⟩
          have e' : C1 = C1' := e.symm
          subst e'
          have hgo := goes_P hF1 ht hM1 hx
          have d140 : ∀ {P : Int32 × ao_S → Prop}, hv (fun n => gX12_goesOn n 537 (nI t) D σ) (fun w => hv (fun n => fX12_looks n 140 537 (nI t) (nI p) (-1) w.1 0 w.2.1 w.2.2) P) → hv (fun n => fX12_looks n 65 537 (nI t) (nI p) (-1) 0 0 D σ) P := by
            intro P hP
            refine hv_up (fun _ => fX12_looks.eq_2 ..) ?_
            try simp only [↓reduceIte, Nat.reduceEqDiff, Option.bind_some, ao_let, n_ell, f4, wD, hck]
            try simp (disch := first | omega | assumption) only [↓reduceIte, Nat.reduceEqDiff, Option.bind_some, ao_let, t_le, f_le, t_lt, f_lt, f_eq, u_eq, u_n1, u_n2, n_cl, n_lt, n_le, n_eq, n_ltl, n_llt, n_lel, n_lle, n_eql, n_leq, n_add, n_mul, n_sub, n_addl, n_ladd, n_mull, n_lmul, n_subl, Int32.reduceLT, Int32.reduceLE, Int32.reduceAdd, Int32.reduceSub, Int32.reduceMul, Int32.reduceToNatClampNeg, not_false_eq_true, not_true_eq_false, or_false, false_or, or_self, and_self, false_and, true_and, and_false, and_true, true_or, or_true, Nat.reduceAdd, Nat.reduceMul, Nat.reduceLT, Nat.reduceLeDiff, ne_eq, n_ell, f4, wD, hck]
            exact hv_bind hP (fun y hy => hy)
          obtain ⟨Nr, ⟨y1, y2⟩, er, hgr⟩ := hgo
          obtain ⟨Ng, wg, eg, hg⟩ := hgr
          rcases hg with ⟨g1', g2', g3'⟩ | ⟨g1', g2', g3', kp', g4'⟩
          · subst g1' g3'
            refine cgo (dst (d65 (d140 ⟨Ng, _, eg, ?_⟩)))
            dsimp only
            generalize hEv : EndE nw bw (br + 11) (0, Cf, ρ) = P
            refine hv_up (fun _ => fX12_looks.eq_2 ..) ?_
            try simp only [↓reduceIte, Nat.reduceEqDiff, Option.bind_some, ao_let, n_ell, f4, show ((1 : Int32) = 0) = False from by decide]
            try simp (disch := first | omega | assumption) only [↓reduceIte, Nat.reduceEqDiff, Option.bind_some, ao_let, t_le, f_le, t_lt, f_lt, f_eq, u_eq, u_n1, u_n2, n_cl, n_lt, n_le, n_eq, n_ltl, n_llt, n_lel, n_lle, n_eql, n_leq, n_add, n_mul, n_sub, n_addl, n_ladd, n_mull, n_lmul, n_subl, Int32.reduceLT, Int32.reduceLE, Int32.reduceAdd, Int32.reduceSub, Int32.reduceMul, Int32.reduceToNatClampNeg, not_false_eq_true, not_true_eq_false, or_false, false_or, or_self, and_self, false_and, true_and, and_false, and_true, true_or, or_true, Nat.reduceAdd, Nat.reduceMul, Nat.reduceLT, Nat.reduceLeDiff, ne_eq, n_ell, f4, show ((1 : Int32) = 0) = False from by decide]
            have d27 : ao_u D 560 t (D 537 26) 537 27 = nI 1 := by rw [u_n1 (by omega)]; exact wD
            have d42 : ao_u D 560 t (D 537 26) 542 p = D 542 p := u_n1 (by omega)
            refine hv_up (fun _ => fX12_looks.eq_2 ..) ?_
            try simp only [↓reduceIte, Nat.reduceEqDiff, Option.bind_some, ao_let, n_ell, f4, d27, d42]
            try simp (disch := first | omega | assumption) only [↓reduceIte, Nat.reduceEqDiff, Option.bind_some, ao_let, t_le, f_le, t_lt, f_lt, f_eq, u_eq, u_n1, u_n2, n_cl, n_lt, n_le, n_eq, n_ltl, n_llt, n_lel, n_lle, n_eql, n_leq, n_add, n_mul, n_sub, n_addl, n_ladd, n_mull, n_lmul, n_subl, Int32.reduceLT, Int32.reduceLE, Int32.reduceAdd, Int32.reduceSub, Int32.reduceMul, Int32.reduceToNatClampNeg, not_false_eq_true, not_true_eq_false, or_false, false_or, or_self, and_self, false_and, true_and, and_false, and_true, true_or, or_true, Nat.reduceAdd, Nat.reduceMul, Nat.reduceLT, Nat.reduceLeDiff, ne_eq, n_ell, f4, d27, d42]
            rw [← e14]
            refine dtail q2 (Or.inr ⟨rfl, ?_⟩)
            rw [← hEv]
            exact hv_mono q5 (fun w hw => ⟨_, _, hw⟩)
          · have hx0 : (x < 0) = False := eq_false g1'
            refine hv_up (fun _ => fX2_seeHeld.eq_2 ..) ?_
            try simp only [↓reduceIte, Nat.reduceEqDiff, Option.bind_some, ao_let, n_ell, hx0]
            try simp (disch := first | omega | assumption) only [↓reduceIte, Nat.reduceEqDiff, Option.bind_some, ao_let, t_le, f_le, t_lt, f_lt, f_eq, u_eq, u_n1, u_n2, n_cl, n_lt, n_le, n_eq, n_ltl, n_llt, n_lel, n_lle, n_eql, n_leq, n_add, n_mul, n_sub, n_addl, n_ladd, n_mull, n_lmul, n_subl, Int32.reduceLT, Int32.reduceLE, Int32.reduceAdd, Int32.reduceSub, Int32.reduceMul, Int32.reduceToNatClampNeg, not_false_eq_true, not_true_eq_false, or_false, false_or, or_self, and_self, false_and, true_and, and_false, and_true, true_or, or_true, Nat.reduceAdd, Nat.reduceMul, Nat.reduceLT, Nat.reduceLeDiff, ne_eq, n_ell, hx0]
            refine hv_up (fun _ => fX2_seeHeld.eq_2 ..) ?_
            simp only [↓reduceIte, Nat.reduceEqDiff, hx0]
            refine hv_up (fun _ => fX2_seeHeld.eq_2 ..) ?_
            simp only [↓reduceIte, Nat.reduceEqDiff, f1]
            refine hv_bind (P := fun y => y = (y1, y2)) ⟨Nr, _, er, rfl⟩ ?_
            rintro _ rfl
            refine hv_up (fun _ => fX2_seeHeld.eq_2 ..) ?_
            try simp only [↓reduceIte, Nat.reduceEqDiff, Option.bind_some, ao_let, n_ell]
            try simp (disch := first | omega | assumption) only [↓reduceIte, Nat.reduceEqDiff, Option.bind_some, ao_let, t_le, f_le, t_lt, f_lt, f_eq, u_eq, u_n1, u_n2, n_cl, n_lt, n_le, n_eq, n_ltl, n_llt, n_lel, n_lle, n_eql, n_leq, n_add, n_mul, n_sub, n_addl, n_ladd, n_mull, n_lmul, n_subl, Int32.reduceLT, Int32.reduceLE, Int32.reduceAdd, Int32.reduceSub, Int32.reduceMul, Int32.reduceToNatClampNeg, not_false_eq_true, not_true_eq_false, or_false, false_or, or_self, and_self, false_and, true_and, and_false, and_true, true_or, or_true, Nat.reduceAdd, Nat.reduceMul, Nat.reduceLT, Nat.reduceLeDiff, ne_eq, n_ell]
            refine hv_some (dst (d65 (d140 ⟨Ng, _, eg, ?_⟩)))
            obtain ⟨wb, z1, z2⟩ := wg
            dsimp only at g3' g4' ⊢
            subst g3'
            generalize hEv : EndE nw bw (br + 11) (1, y1, y2) = P
            refine hv_up (fun _ => fX12_looks.eq_2 ..) ?_
            try simp only [↓reduceIte, Nat.reduceEqDiff, Option.bind_some, ao_let, n_ell]
            try simp (disch := first | omega | assumption) only [↓reduceIte, Nat.reduceEqDiff, Option.bind_some, ao_let, t_le, f_le, t_lt, f_lt, f_eq, u_eq, u_n1, u_n2, n_cl, n_lt, n_le, n_eq, n_ltl, n_llt, n_lel, n_lle, n_eql, n_leq, n_add, n_mul, n_sub, n_addl, n_ladd, n_mull, n_lmul, n_subl, Int32.reduceLT, Int32.reduceLE, Int32.reduceAdd, Int32.reduceSub, Int32.reduceMul, Int32.reduceToNatClampNeg, not_false_eq_true, not_true_eq_false, or_false, false_or, or_self, and_self, false_and, true_and, and_false, and_true, true_or, or_true, Nat.reduceAdd, Nat.reduceMul, Nat.reduceLT, Nat.reduceLeDiff, ne_eq, n_ell]
            refine hv_some (Or.inl ⟨rfl, ?_⟩)
            rw [← hEv]
            exact ⟨kp', rc, rfl, (show ¬ (1 : Int32) < 0 by decide), Full_br g4' (Nat.le_refl _) (by omega) fbw hbr⟩
      · -- with pasts
        refine hv_up (fun _ => fX2_seeHeld.eq_2 ..) ?_
        try simp only [↓reduceIte, Nat.reduceEqDiff, Option.bind_some, ao_let, n_ell, f1, hR, n_g1, c12]
        try simp (disch := first | omega | assumption) only [↓reduceIte, Nat.reduceEqDiff, Option.bind_some, ao_let, t_le, f_le, t_lt, f_lt, f_eq, u_eq, u_n1, u_n2, n_cl, n_lt, n_le, n_eq, n_ltl, n_llt, n_lel, n_lle, n_eql, n_leq, n_add, n_mul, n_sub, n_addl, n_ladd, n_mull, n_lmul, n_subl, Int32.reduceLT, Int32.reduceLE, Int32.reduceAdd, Int32.reduceSub, Int32.reduceMul, Int32.reduceToNatClampNeg, not_false_eq_true, not_true_eq_false, or_false, false_or, or_self, and_self, false_and, true_and, and_false, and_true, true_or, or_true, Nat.reduceAdd, Nat.reduceMul, Nat.reduceLT, Nat.reduceLeDiff, ne_eq, n_ell, f1, hR, n_g1, c12]
        refine hv_up (fun _ => fX2_seeHeld.eq_2 ..) ?_
        try simp only [↓reduceIte, Nat.reduceEqDiff, Option.bind_some, ao_let, n_ell]
        try simp (disch := first | omega | assumption) only [↓reduceIte, Nat.reduceEqDiff, Option.bind_some, ao_let, t_le, f_le, t_lt, f_lt, f_eq, u_eq, u_n1, u_n2, n_cl, n_lt, n_le, n_eq, n_ltl, n_llt, n_lel, n_lle, n_eql, n_leq, n_add, n_mul, n_sub, n_addl, n_ladd, n_mull, n_lmul, n_subl, Int32.reduceLT, Int32.reduceLE, Int32.reduceAdd, Int32.reduceSub, Int32.reduceMul, Int32.reduceToNatClampNeg, not_false_eq_true, not_true_eq_false, or_false, false_or, or_self, and_self, false_and, true_and, and_false, and_true, true_or, or_true, Nat.reduceAdd, Nat.reduceMul, Nat.reduceLT, Nat.reduceLeDiff, ne_eq, n_ell]
        refine hv_up (fun _ => fX2_seeHeld.eq_2 ..) ?_
        try simp only [↓reduceIte, Nat.reduceEqDiff, Option.bind_some, ao_let, n_ell, f1, c12]
        try simp (disch := first | omega | assumption) only [↓reduceIte, Nat.reduceEqDiff, Option.bind_some, ao_let, t_le, f_le, t_lt, f_lt, f_eq, u_eq, u_n1, u_n2, n_cl, n_lt, n_le, n_eq, n_ltl, n_llt, n_lel, n_lle, n_eql, n_leq, n_add, n_mul, n_sub, n_addl, n_ladd, n_mull, n_lmul, n_subl, Int32.reduceLT, Int32.reduceLE, Int32.reduceAdd, Int32.reduceSub, Int32.reduceMul, Int32.reduceToNatClampNeg, not_false_eq_true, not_true_eq_false, or_false, false_or, or_self, and_self, false_and, true_and, and_false, and_true, true_or, or_true, Nat.reduceAdd, Nat.reduceMul, Nat.reduceLT, Nat.reduceLeDiff, ne_eq, n_ell, f1, c12]
        refine hv_up (fun _ => fX2_seeHeld.eq_2 ..) ?_
        try simp only [↓reduceIte, Nat.reduceEqDiff, Option.bind_some, ao_let, n_ell, f1, c12, n_g1]
        try simp (disch := first | omega | assumption) only [↓reduceIte, Nat.reduceEqDiff, Option.bind_some, ao_let, t_le, f_le, t_lt, f_lt, f_eq, u_eq, u_n1, u_n2, n_cl, n_lt, n_le, n_eq, n_ltl, n_llt, n_lel, n_lle, n_eql, n_leq, n_add, n_mul, n_sub, n_addl, n_ladd, n_mull, n_lmul, n_subl, Int32.reduceLT, Int32.reduceLE, Int32.reduceAdd, Int32.reduceSub, Int32.reduceMul, Int32.reduceToNatClampNeg, not_false_eq_true, not_true_eq_false, or_false, false_or, or_self, and_self, false_and, true_and, and_false, and_true, true_or, or_true, Nat.reduceAdd, Nat.reduceMul, Nat.reduceLT, Nat.reduceLeDiff, ne_eq, n_ell, f1, c12, n_g1]
        refine hv_up (fun _ => fX2_seeHeld.eq_2 ..) ?_
        try simp only [↓reduceIte, Nat.reduceEqDiff, Option.bind_some, ao_let, n_ell, f1, hR, c12]
        try simp (disch := first | omega | assumption) only [↓reduceIte, Nat.reduceEqDiff, Option.bind_some, ao_let, t_le, f_le, t_lt, f_lt, f_eq, u_eq, u_n1, u_n2, n_cl, n_lt, n_le, n_eq, n_ltl, n_llt, n_lel, n_lle, n_eql, n_leq, n_add, n_mul, n_sub, n_addl, n_ladd, n_mull, n_lmul, n_subl, Int32.reduceLT, Int32.reduceLE, Int32.reduceAdd, Int32.reduceSub, Int32.reduceMul, Int32.reduceToNatClampNeg, not_false_eq_true, not_true_eq_false, or_false, false_or, or_self, and_self, false_and, true_and, and_false, and_true, true_or, or_true, Nat.reduceAdd, Nat.reduceMul, Nat.reduceLT, Nat.reduceLeDiff, ne_eq, n_ell, f1, hR, c12]
        obtain ⟨-, fR1, -, -, -, -, -, -, -, ⟨-, fe2, -⟩, -, -⟩ := id hF1
        obtain ⟨f, g, hh, pc, pd, ch, ev, ec⟩ := fR1
        have hkp : kp ≤ 28000 := by
          have := fe2 hE
          omega
        refine hv_bind (had_pair f1 f4 pc pd (by omega) ch (C1 (92 + 71 * t) 14) hp (ev p hp).2.2.2.2.1 (ev p hp).2.2.2.2.2.2) ?_
        rintro ⟨v, C1'⟩ ⟨e, hpast⟩
        have e' : C1 = C1' := e.symm
        subst e'
        obtain ⟨C4, D4, Cf, rc', q1, q2, q3, q4, q5⟩ := look_tail (C2 := C1) (D2 := D) (p := p) v hF1 ht hp hM1 ej ha jx hbr c3 t11 hS1 (fun _ _ _ => rfl) (fun _ _ _ => rfl) c14
        refine ctail c8 q1 q3 (dst (d65 ?_))
        generalize hEv : EndE nw bw (br + 11) (0, Cf, ρ) = P
        refine hv_up (fun _ => fX12_looks.eq_2 ..) ?_
        try simp only [↓reduceIte, Nat.reduceEqDiff, Option.bind_some, ao_let, n_ell, f4, wD]
        try simp (disch := first | omega | assumption) only [↓reduceIte, Nat.reduceEqDiff, Option.bind_some, ao_let, t_le, f_le, t_lt, f_lt, f_eq, u_eq, u_n1, u_n2, n_cl, n_lt, n_le, n_eq, n_ltl, n_llt, n_lel, n_lle, n_eql, n_leq, n_add, n_mul, n_sub, n_addl, n_ladd, n_mull, n_lmul, n_subl, Int32.reduceLT, Int32.reduceLE, Int32.reduceAdd, Int32.reduceSub, Int32.reduceMul, Int32.reduceToNatClampNeg, not_false_eq_true, not_true_eq_false, or_false, false_or, or_self, and_self, false_and, true_and, and_false, and_true, true_or, or_true, Nat.reduceAdd, Nat.reduceMul, Nat.reduceLT, Nat.reduceLeDiff, ne_eq, n_ell, f4, wD]
        refine hv_up (fun _ => fX12_looks.eq_2 ..) ?_
        try simp only [↓reduceIte, Nat.reduceEqDiff, Option.bind_some, ao_let, n_ell, f4, wD]
        try simp (disch := first | omega | assumption) only [↓reduceIte, Nat.reduceEqDiff, Option.bind_some, ao_let, t_le, f_le, t_lt, f_lt, f_eq, u_eq, u_n1, u_n2, n_cl, n_lt, n_le, n_eq, n_ltl, n_llt, n_lel, n_lle, n_eql, n_leq, n_add, n_mul, n_sub, n_addl, n_ladd, n_mull, n_lmul, n_subl, Int32.reduceLT, Int32.reduceLE, Int32.reduceAdd, Int32.reduceSub, Int32.reduceMul, Int32.reduceToNatClampNeg, not_false_eq_true, not_true_eq_false, or_false, false_or, or_self, and_self, false_and, true_and, and_false, and_true, true_or, or_true, Nat.reduceAdd, Nat.reduceMul, Nat.reduceLT, Nat.reduceLeDiff, ne_eq, n_ell, f4, wD]
        rw [c14] at hpast
        refine hv_bind hpast ?_
        rintro ⟨v', D'⟩ ⟨e1, e2⟩
        dsimp only at e1 e2
        subst e2
        have e' : D = D' := e1.symm
        subst e'
        refine dtail q2 (Or.inr ⟨rfl, ?_⟩)
        rw [← hEv]
        exact hv_mono q5 (fun w hw => ⟨_, _, hw⟩)
end St9y
