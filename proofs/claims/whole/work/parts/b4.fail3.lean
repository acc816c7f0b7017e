set_option linter.unusedSimpArgs false
set_option linter.unusedVariables false
section Stb4
variable {C D : ao_M} {ρ σ : ao_H} {kp rc nw bw br t s len kd a1 a2 a3 a : Nat} {φ : Nat → Nat} {N : Ns} {H K : Nat → Nat}
theorem Thr5 {C D : ao_M} {ρ : ao_H} {rc t len kd a1 a2 a3 : Nat} {φ : Nat → Nat} {N : Ns} {H K : Nat → Nat} (hcat : Cat C ρ t len kd a1 a2 a3) (cok : Cok (C a1) (C a2) (C a3) (dcd D t) len φ N H K) (c2 : C (92 + 71 * t) 2 = 5) (d51 : D 551 t = 5) (c0 : C (92 + 71 * t) 0 = nI t) (c17 : C (92 + 71 * t) 17 = D 559 t) (c18 : C (92 + 71 * t) 18 = D 562 t) (c19 : C (92 + 71 * t) 19 = D 561 t) (hR : Regs C D t) (c8 : C (92 + 71 * t) 8 = 0) (d56 : D 556 t = 0) : Thr C ρ D rc t :=
  ⟨5, by omega, c2, d51, c0, c17, c18, c19, hR, fun _ _ => c8, fun _ => d56, Or.inr ⟨by omega, len, kd, a1, a2, a3, φ, N, H, K, hcat, cok, fun e => absurd e (by omega), fun e => absurd e (by omega), fun e => absurd e (by omega)⟩⟩
set_option maxHeartbeats 4000000 in
/-- all levels are left by a fail: dead, or caught outside -/
theorem st_fail_out (hF : Full C ρ D σ kp rc nw bw br) (ht : t < 6) (ho : Opn C ρ D rc t s len kd a1 a2 a3 φ N H K a) (ha : a < len) (h : C a1 a = 20 ∧ dcd D t (3 * φ a) = 19 ∧ H a = 1 ∧ ∀ b, (2, b) ∈ N a → ∀ T, C a2 b = nI T → T ≤ len → K a < K T) (hk : 1 ≤ nl (N a)) (hdn : ∀ b, b < len → nt (N b) + 1 = nt (N a) → (2, b) ∈ N a → nl (N b) = 0) :
    hv (fun n => gX2_step n 12 (92 + 71 * t) C ρ) (fun y => hv (fun n => gX12_step n 537 (nI t) D σ) (fun w => GoE nw bw br t len kd a1 a2 a3 φ N H K a y w ∨ EndE nw bw br y w)) := by
  obtain ⟨i1, i2, i3, i4⟩ := h
  obtain ⟨v, pc, pd⟩ := fail_pre hF ht ho ha ⟨i1, i2, i3⟩
  have es : s = 2 := by
    obtain ⟨-, -, t1, -, -, -, -, -, -, -, -, -, -, -, -, t14, -⟩ := ho
    rcases t1 with es | es
    · have := (t14 es).1; omega
    · exact es
  obtain ⟨hF1, hM1⟩ := mid_of (C1 := ao_u (ao_u C (92 + 71 * t) 3 (nI (a + 1))) (92 + 71 * t) 5 0) (D1 := ao_u D 555 t 0) hF ht ho es (fun x i q1 q2 => by rw [u_ne (by omega), u_ne (by omega)]) (fun x i q1 q2 => u_ne (by omega))
  obtain ⟨hcat, cok, tc⟩ := ho
  obtain ⟨⟨f1, f2, f3, f4⟩, -⟩ := hF
  have hR := RnS_of f2 ht
  have hlen := cok.1
  have q11 : C (92 + 71 * t) 11 = nI (nt (N a)) := tc.2.2.2.2.2.2.2.2.2.2.2.2.1.1
  have q58 : D 558 t = nI (nt (N a)) := tc.2.2.2.2.2.2.2.2.2.2.2.2.1.2.1
  obtain ⟨z14, z15, z16, z17⟩ := Cat_b hcat
  have ha10 : nt (N a) ≤ 10 := by
    have := @nt_le (N a)
    have := (cok.2.2.2.2.2.1 a (by omega)).2.1
    omega
  have htry := fun hnt => try_of cok tc hnt
  have cu : ∀ x i, ¬ (x = 92 + 71 * t ∧ (i = 3 ∨ i = 5)) → ao_u (ao_u C (92 + 71 * t) 3 (nI (a + 1))) (92 + 71 * t) 5 0 x i = C x i := fun x i q => by rw [u_ne (by omega), u_ne (by omega)]
  have du : ∀ x i, ¬ (x = 555 ∧ i = t) → ao_u D 555 t 0 x i = D x i := fun x i q => u_ne (by omega)
  clear tc
  generalize ao_u (ao_u C (92 + 71 * t) 3 (nI (a + 1))) (92 + 71 * t) 5 0 = C1 at hF1 hM1 cu pc
  generalize ao_u D 555 t 0 = D1 at hF1 hM1 du pd
  have c81 : C1 (92 + 71 * t) 8 = nI (nl (N a)) := hM1.2.2.2.2.2.2.1
  have w3 : D1 556 t = nI (nl (N a)) := hM1.2.2.1.2.2.2.2.2.2.2.2
  have hl10 : nl (N a) ≤ 10 := by
    have := @nl_le (N a)
    have := hM1.2.2.2.2.2.1.2.1
    omega
  have ea1 : C1 a1 = C a1 := funext fun i => cu _ _ (by omega)
  have ea2 : C1 a2 = C a2 := funext fun i => cu _ _ (by omega)
  have ea3 : C1 a3 = C a3 := funext fun i => cu _ _ (by omega)
  obtain ⟨b0, B0, o1, o2, o3, o4, o5, o6, o7, o8, o9, o10, o11, o12, o13, o14, o15, o16, o17, -, -, -⟩ := out_b hM1
  obtain ⟨C2, C3', D2, y1, y2, y3, ⟨y4, y5, y6⟩, y7⟩ := lv0 (x1 := nI 0 - 1) hF1 ht hM1 rfl (Or.inl rfl)
  obtain ⟨C4, ρ4, D4, σ4, kp', rc', z1, z2, z3, z4, z5⟩ := y7 (ao_u C3' (92 + 71 * t) 8 0) (ao_u D2 556 t 0) (fun x i q => u_ne (by omega)) (fun x i q => u_ne (by omega))
  clear y7
  have y1 := hv_mono y1 (fun _ h => Eq.symm h)
  have y2 := hv_mono y2 (fun _ h => Eq.symm h)
  have y3 := hv_mono y3 (fun _ h => Eq.symm h)
  have hz3 := z3
  obtain ⟨⟨l1, l2, -, -⟩, ⟨r1, r2, r3, r4, r5, r6, r7, r8, r9⟩, ⟨s1, s2, s3, s4, s5, s6, s7⟩, -⟩ := hz3
  have zc := sh_zc hF1.2.1
  have zd := sh_zd hF1.2.1
  have f14 := HxC_shA l1 zc f1
  have f24 := HxC_shB l1 zc f2
  have f44 := HxD_sh l2 zd f4
  have hR4 := RnS_of f24 ht
  have hLv := hM1.2.2.2.2.2.2.2.1 0 (by omega)
  -- what both have then
  have hdc : ∀ x i, ¬ (i = t ∧ (x = 551 ∨ x = 556)) → ¬ ((x = 577 ∨ x = 578) ∧ t * 12 * 26 ≤ i ∧ i < t * 12 * 26 + 26) → ¬ (x = 584 ∧ i = t * 12) → ao_u (dClear t 0 (ao_u D4 556 t 0)) 551 t 1 x i = D4 x i := fun x i q1 q2 q3 => by
    rw [u_ne (by omega)]
    unfold dClear
    rw [Nat.add_zero, if_neg (by omega), if_neg (by omega), u_ne (by omega)]
  have hd51 : ao_u (dClear t 0 (ao_u D4 556 t 0)) 551 t 1 551 t = 1 := u_eq
  have hd56 : ao_u (dClear t 0 (ao_u D4 556 t 0)) 551 t 1 556 t = 0 := by
    rw [u_n1 (by omega)]
    unfold dClear
    rw [if_neg (by omega), if_neg (by omega), u_eq]
  have e8 : dpC C1 t = nl (N a) := by
    unfold dpC
    rw [c81, n_cl (by omega)]
  have hdp0 : ∀ {C5 : ao_M}, C5 (92 + 71 * t) 8 = 0 → dpC C5 t = 0 := by
    intro C5 e
    unfold dpC
    rw [e]; decide
  have c48 : C4 (92 + 71 * t) 8 = 0 := by rw [z4 _ (by omega), u_eq]
  have dleave : hv (fun n => gX12_leave n 537 (nI t) (ao_u D2 556 t 0) σ) (fun y => y = (ao_u (dClear t 0 (ao_u D4 556 t 0)) 551 t 1, σ4)) := by
    unfold gX12_leave
    refine hv_up (fun _ => fX12_leave.eq_2 ..) ?_
    simp only [↓reduceIte, f4]
    refine hv_bind (P := fun y => y = (D4, σ4)) z2 ?_
    rintro _ rfl
    refine hv_up (fun _ => fX12_leave.eq_2 ..) ?_
    try simp only [↓reduceIte, Nat.reduceEqDiff, Option.bind_some, ao_let, n_ell, f44]
    try simp (disch := first | omega | assumption) only [↓reduceIte, Nat.reduceEqDiff, Option.bind_some, ao_let, t_le, f_le, t_lt, f_lt, f_eq, u_eq, u_n1, u_n2, n_cl, n_lt, n_le, n_eq, n_ltl, n_llt, n_lel, n_lle, n_eql, n_leq, n_add, n_mul, n_sub, n_addl, n_ladd, n_mull, n_lmul, n_subl, Int32.reduceLT, Int32.reduceLE, Int32.reduceAdd, Int32.reduceSub, Int32.reduceMul, Int32.reduceToNatClampNeg, not_false_eq_true, not_true_eq_false, or_false, false_or, or_self, and_self, false_and, true_and, and_false, and_true, true_or, or_true, Nat.reduceAdd, Nat.reduceMul, Nat.reduceLT, Nat.reduceLeDiff, ne_eq, n_ell, f44]
    refine hv_bind (P := fun y => y = dClear t 0 (ao_u D4 556 t 0)) (dv_clear (l := 0) f44 ht (by omega) _ rfl) ?_
    rintro _ rfl
    try simp only [↓reduceIte, Nat.reduceEqDiff, Option.bind_some, ao_let, n_ell, f44]
    try simp (disch := first | omega | assumption) only [↓reduceIte, Nat.reduceEqDiff, Option.bind_some, ao_let, t_le, f_le, t_lt, f_lt, f_eq, u_eq, u_n1, u_n2, n_cl, n_lt, n_le, n_eq, n_ltl, n_llt, n_lel, n_lle, n_eql, n_leq, n_add, n_mul, n_sub, n_addl, n_ladd, n_mull, n_lmul, n_subl, Int32.reduceLT, Int32.reduceLE, Int32.reduceAdd, Int32.reduceSub, Int32.reduceMul, Int32.reduceToNatClampNeg, not_false_eq_true, not_true_eq_false, or_false, false_or, or_self, and_self, false_and, true_and, and_false, and_true, true_or, or_true, Nat.reduceAdd, Nat.reduceMul, Nat.reduceLT, Nat.reduceLeDiff, ne_eq, n_ell, f44]
    exact hv_some rfl
  have wdD : ∀ x i, ¬ (551 ≤ x ∧ x ≤ 584 ∧ t * wd x ≤ i ∧ i < (t + 1) * wd x) → ao_u (dClear t 0 (ao_u D4 556 t 0)) 551 t 1 x i = D4 x i := fun x i q => by
    obtain ⟨u1, u12, -, u312, -⟩ := wd_of q
    refine hdc x i ?_ ?_ ?_
    · rintro ⟨q1, q2⟩
      exact u1 (by omega) q1
    · rintro ⟨q1, q2, q3⟩
      exact u312 (by omega) (by omega)
    · rintro ⟨q1, q2⟩
      exact u12 (by omega) (by omega)
  generalize ao_u (dClear t 0 (ao_u D4 556 t 0)) 551 t 1 = DL at dleave hdc hd51 hd56 wdD
  have cleave : hv (fun n => gX2_leaveFrom n 12 (92 + 71 * t) 0 C1 ρ) (fun y => y = (ao_u C4 (92 + 71 * t) 2 1, ρ4)) := by
    unfold gX2_leaveFrom
    refine hv_up (fun _ => fX2_leaveFrom.eq_2 ..) ?_
    have hlt : ((0 : Int32) < nI (nl (N a))) = True := by
      rw [n_llt (by omega) (by decide)]
      exact eq_true (by show 0 < nl (N a); omega)
    simp only [↓reduceIte, show ((0 : Int32) < 0) = False from by decide, hR, c81, hlt]
    refine hv_bind (P := fun y => C2 = y) y1 ?_
    rintro _ rfl
    simp only [f1, ↓reduceIte]
    refine hv_bind (P := fun y => C3' = y) y2 ?_
    rintro _ rfl
    clear y1 y2 y3 dleave
    try simp only [↓reduceIte, Nat.reduceEqDiff, Option.bind_some, ao_let, n_ell, f1, y4]
    try simp (disch := first | omega | assumption) only [↓reduceIte, Nat.reduceEqDiff, Option.bind_some, ao_let, t_le, f_le, t_lt, f_lt, f_eq, u_eq, u_n1, u_n2, n_cl, n_lt, n_le, n_eq, n_ltl, n_llt, n_lel, n_lle, n_eql, n_leq, n_add, n_mul, n_sub, n_addl, n_ladd, n_mull, n_lmul, n_subl, Int32.reduceLT, Int32.reduceLE, Int32.reduceAdd, Int32.reduceSub, Int32.reduceMul, Int32.reduceToNatClampNeg, not_false_eq_true, not_true_eq_false, or_false, false_or, or_self, and_self, false_and, true_and, and_false, and_true, true_or, or_true, Nat.reduceAdd, Nat.reduceMul, Nat.reduceLT, Nat.reduceLeDiff, ne_eq, n_ell, f1, y4]
    refine hv_bind (P := fun y => y = (C4, ρ4)) z1 ?_
    rintro _ rfl
    refine hv_up (fun _ => fX2_leaveFrom.eq_2 ..) ?_
    try simp only [↓reduceIte, Nat.reduceEqDiff, Option.bind_some, ao_let, n_ell, hR4]
    try simp (disch := first | omega | assumption) only [↓reduceIte, Nat.reduceEqDiff, Option.bind_some, ao_let, t_le, f_le, t_lt, f_lt, f_eq, u_eq, u_n1, u_n2, n_cl, n_lt, n_le, n_eq, n_ltl, n_llt, n_lel, n_lle, n_eql, n_leq, n_add, n_mul, n_sub, n_addl, n_ladd, n_mull, n_lmul, n_subl, Int32.reduceLT, Int32.reduceLE, Int32.reduceAdd, Int32.reduceSub, Int32.reduceMul, Int32.reduceToNatClampNeg, not_false_eq_true, not_true_eq_false, or_false, false_or, or_self, and_self, false_and, true_and, and_false, and_true, true_or, or_true, Nat.reduceAdd, Nat.reduceMul, Nat.reduceLT, Nat.reduceLeDiff, ne_eq, n_ell, hR4]
    exact hv_some rfl
  -- the reference, from 46 on
  have d46 : ∀ {P : Int32 × ao_S → Prop}, hv (fun n => fX12_fail n 76 537 (nI t) v 0 1 0 (DL) σ4) P → hv (fun n => fX12_fail n 31 537 (nI t) v 0 0 0 D1 σ) P := by
    intro P hP
    refine hv_up (fun _ => fX12_fail.eq_2 ..) ?_
    try simp only [↓reduceIte, Nat.reduceEqDiff, Option.bind_some, ao_let, n_ell, f4, w3]
    try simp (disch := first | omega | assumption) only [↓reduceIte, Nat.reduceEqDiff, Option.bind_some, ao_let, t_le, f_le, t_lt, f_lt, f_eq, u_eq, u_n1, u_n2, n_cl, n_lt, n_le, n_eq, n_ltl, n_llt, n_lel, n_lle, n_eql, n_leq, n_add, n_mul, n_sub, n_addl, n_ladd, n_mull, n_lmul, n_subl, Int32.reduceLT, Int32.reduceLE, Int32.reduceAdd, Int32.reduceSub, Int32.reduceMul, Int32.reduceToNatClampNeg, not_false_eq_true, not_true_eq_false, or_false, false_or, or_self, and_self, false_and, true_and, and_false, and_true, true_or, or_true, Nat.reduceAdd, Nat.reduceMul, Nat.reduceLT, Nat.reduceLeDiff, ne_eq, n_ell, f4, w3]
    refine hv_up (fun _ => fX12_fail.eq_2 ..) ?_
    simp only [↓reduceIte, Nat.reduceEqDiff, f4]
    refine hv_bind (P := fun y => D2 = y) y3 ?_
    rintro _ rfl
    have hdl := dleave
    clear y1 y2 y3 dleave cleave
    try simp only [↓reduceIte, Nat.reduceEqDiff, Option.bind_some, ao_let, n_ell, f4, show ((1 : Int32) = 0) = False from by decide]
    try simp (disch := first | omega | assumption) only [↓reduceIte, Nat.reduceEqDiff, Option.bind_some, ao_let, t_le, f_le, t_lt, f_lt, f_eq, u_eq, u_n1, u_n2, n_cl, n_lt, n_le, n_eq, n_ltl, n_llt, n_lel, n_lle, n_eql, n_leq, n_add, n_mul, n_sub, n_addl, n_ladd, n_mull, n_lmul, n_subl, Int32.reduceLT, Int32.reduceLE, Int32.reduceAdd, Int32.reduceSub, Int32.reduceMul, Int32.reduceToNatClampNeg, not_false_eq_true, not_true_eq_false, or_false, false_or, or_self, and_self, false_and, true_and, and_false, and_true, true_or, or_true, Nat.reduceAdd, Nat.reduceMul, Nat.reduceLT, Nat.reduceLeDiff, ne_eq, n_ell, f4, show ((1 : Int32) = 0) = False from by decide]
    refine hv_bind (P := fun y => y = (DL, σ4)) hdl ?_
    rintro _ rfl
    exact hP
  have c45 : C4 (92 + 71 * t) 11 = nI (nt (N b0)) := by rw [r4]; exact o6
  have hRg : ∀ k, k < 26 → C4 (92 + 71 * t + 6) k = D4 553 (t * 26 + k) := fun k hk => by
    rw [r5 k hk, s5 k hk]
    have := hLv.2.1 k hk
    rw [Nat.mul_zero, Nat.add_zero, Nat.add_zero] at this
    exact this
  have hRv := hM1.2.2.1
  obtain ⟨g1, g2, g3, g4, g5, g6, g7, g8, g9⟩ := hRv
  by_cases hnt : nt (N a) = 0
  · -- dead
    have fin : EndE nw bw br (5, ao_u (ao_u (ao_u C4 (92 + 71 * t) 2 1) (92 + 71 * t) 2 5) (92 + 71 * t) 19 v, ρ4) (5, ao_u (ao_u (DL) 551 t 5) 561 t v, σ4) := by
      have hC5 : ∀ x i, ¬ (92 + 71 * t ≤ x ∧ x < 92 + 71 * t + 71) → ao_u (ao_u (ao_u C4 (92 + 71 * t) 2 1) (92 + 71 * t) 2 5) (92 + 71 * t) 19 v x i = C4 x i := fun x i q => by rw [u_ne (by omega), u_ne (by omega), u_ne (by omega)]
      have hD5 : ∀ x i, ¬ (551 ≤ x ∧ x ≤ 584 ∧ t * wd x ≤ i ∧ i < (t + 1) * wd x) → ao_u (ao_u (DL) 551 t 5) 561 t v x i = D4 x i := fun x i q => by
        obtain ⟨u1, -⟩ := wd_of q
        rw [u_ne (by
          by_cases e : x = 561
          · exact Or.inr (u1 (by omega))
          · exact Or.inl e), u_ne (by
          by_cases e : x = 551
          · exact Or.inr (u1 (by omega))
          · exact Or.inl e)]
        exact wdD x i q
      obtain ⟨k1, k3, k4, ed, k5, k2⟩ := lo_cat hF1 ht hM1 z3 hC5 hD5
      have hT : Thr (ao_u (ao_u (ao_u C4 (92 + 71 * t) 2 1) (92 + 71 * t) 2 5) (92 + 71 * t) 19 v) ρ4 (ao_u (ao_u (DL) 551 t 5) 561 t v) rc' t := by
        refine Thr5 k1 k5 ?_ ?_ ?_ ?_ ?_ ?_ (fun k hk => ?_) ?_ ?_
        · simp (disch := omega) only [u_ne, u_eq]
        · simp (disch := omega) only [u_ne, u_eq]
        · simp (disch := omega) only [u_ne]
          rw [r1 _ (by omega) (by omega) (by omega) (by omega) (by omega) (by omega)]; exact g3
        · rw [u_n2 (by omega), u_n2 (by omega), u_n2 (by omega), u_n1 (by omega), u_n1 (by omega), hdc _ _ (by omega) (by omega) (by omega), r1 _ (by omega) (by omega) (by omega) (by omega) (by omega) (by omega), s1 _ (by omega) (by omega)]; exact g4
        · rw [u_n2 (by omega), u_n2 (by omega), u_n2 (by omega), u_n1 (by omega), u_n1 (by omega), hdc _ _ (by omega) (by omega) (by omega), r1 _ (by omega) (by omega) (by omega) (by omega) (by omega) (by omega), s1 _ (by omega) (by omega)]; exact g5
        · rw [u_eq, u_eq]
        · rw [u_n1 (by omega), u_n1 (by omega), u_n1 (by omega), u_n1 (by omega), u_n1 (by omega), hdc _ _ (by omega) (by omega) (by omega)]; exact hRg k hk
        · rw [u_n2 (by omega), u_n2 (by omega), u_n2 (by omega)]; exact c48
        · rw [u_n1 (by omega), u_n1 (by omega)]; exact hd56
      have c8' : ao_u (ao_u (ao_u C4 (92 + 71 * t) 2 1) (92 + 71 * t) 2 5) (92 + 71 * t) 19 v (92 + 71 * t) 8 = 0 := by rw [u_n2 (by omega), u_n2 (by omega), u_n2 (by omega)]; exact c48
      refine ⟨kp', rc', rfl, (show ¬ (5 : Int32) < 0 by decide), ?_⟩
      exact lo_fin hF1 ht e8 z3 hC5 hD5 hT (lo_B hF1 ht z3 hC5 hD5 (by dsimp only; rw [u_n2 (by omega), u_eq]; decide)) (by dsimp only; rw [hdp0 c8']; rfl) (by dsimp only; rw [hdp0 c8']; exact Nat.zero_le _)
    have r11 : C1 (92 + 71 * t) 11 = nI 0 := by rw [cu _ _ (by omega), ← hnt]; exact q11
    have s58 : D1 558 t = nI 0 := by rw [du _ _ (by omega), ← hnt]; exact q58
    have t58 : DL 558 t = nI 0 := by
      rw [hdc _ _ (by omega) (by omega) (by omega), z5 _ (by omega), u_n1 (by omega), y6 _ (by omega)]; exact s58
    refine pc _ ?_
    clear pc htry hM1 hF1 z3 i4 hdn o4 o17 cok
    unfold gX2_fail
    refine hv_up (fun _ => fX2_fail.eq_2 ..) ?_
    simp only [↓reduceIte, hR, r11, ao_let, n_z1, n_g2, f1]
    refine hv_bind (P := fun y => y = (ao_u C4 (92 + 71 * t) 2 1, ρ4)) cleave ?_
    rintro _ rfl
    clear cleave
    refine hv_up (fun _ => fX2_fail.eq_2 ..) ?_
    try simp only [↓reduceIte, Nat.reduceEqDiff, Option.bind_some, ao_let, n_ell, hR4]
    try simp (disch := first | omega | assumption) only [↓reduceIte, Nat.reduceEqDiff, Option.bind_some, ao_let, t_le, f_le, t_lt, f_lt, f_eq, u_eq, u_n1, u_n2, n_cl, n_lt, n_le, n_eq, n_ltl, n_llt, n_lel, n_lle, n_eql, n_leq, n_add, n_mul, n_sub, n_addl, n_ladd, n_mull, n_lmul, n_subl, Int32.reduceLT, Int32.reduceLE, Int32.reduceAdd, Int32.reduceSub, Int32.reduceMul, Int32.reduceToNatClampNeg, not_false_eq_true, not_true_eq_false, or_false, false_or, or_self, and_self, false_and, true_and, and_false, and_true, true_or, or_true, Nat.reduceAdd, Nat.reduceMul, Nat.reduceLT, Nat.reduceLeDiff, ne_eq, n_ell, hR4]
    refine hv_some (pd _ ?_)
    have fin' : GoE nw bw br t len kd a1 a2 a3 φ N H K a (5, ao_u (ao_u (ao_u C4 (92 + 71 * t) 2 1) (92 + 71 * t) 2 5) (92 + 71 * t) 19 v, ρ4) (5, ao_u (ao_u (DL) 551 t 5) 561 t v, σ4) ∨ EndE nw bw br (5, ao_u (ao_u (ao_u C4 (92 + 71 * t) 2 1) (92 + 71 * t) 2 5) (92 + 71 * t) 19 v, ρ4) (5, ao_u (ao_u (DL) 551 t 5) 561 t v, σ4) := Or.inr fin
    clear fin
    generalize hP : (fun w => GoE nw bw br t len kd a1 a2 a3 φ N H K a (5, ao_u (ao_u (ao_u C4 (92 + 71 * t) 2 1) (92 + 71 * t) 2 5) (92 + 71 * t) 19 v, ρ4) w ∨ EndE nw bw br (5, ao_u (ao_u (ao_u C4 (92 + 71 * t) 2 1) (92 + 71 * t) 2 5) (92 + 71 * t) 19 v, ρ4) w) = P
    have fin2 : P (5, ao_u (ao_u (DL) 551 t 5) 561 t v, σ4) := by
      rw [← hP]; exact fin'
    clear fin' hP
    unfold gX12_fail
    refine hv_up (fun _ => fX12_fail.eq_2 ..) ?_
    have le0 : (nI 0 ≤ 0) = True := by decide
    try simp only [↓reduceIte, Nat.reduceEqDiff, Option.bind_some, ao_let, n_ell, f4, s58, le0]
    try simp (disch := first | omega | assumption) only [↓reduceIte, Nat.reduceEqDiff, Option.bind_some, ao_let, t_le, f_le, t_lt, f_lt, f_eq, u_eq, u_n1, u_n2, n_cl, n_lt, n_le, n_eq, n_ltl, n_llt, n_lel, n_lle, n_eql, n_leq, n_add, n_mul, n_sub, n_addl, n_ladd, n_mull, n_lmul, n_subl, Int32.reduceLT, Int32.reduceLE, Int32.reduceAdd, Int32.reduceSub, Int32.reduceMul, Int32.reduceToNatClampNeg, not_false_eq_true, not_true_eq_false, or_false, false_or, or_self, and_self, false_and, true_and, and_false, and_true, true_or, or_true, Nat.reduceAdd, Nat.reduceMul, Nat.reduceLT, Nat.reduceLeDiff, ne_eq, n_ell, f4, s58, le0]
    refine d46 ?_
    clear d46 dleave y1 y2 y3
    have e00 : (nI 0 = 0) = True := by decide
    refine hv_up (fun _ => fX12_fail.eq_2 ..) ?_
    try simp only [↓reduceIte, Nat.reduceEqDiff, Option.bind_some, ao_let, n_ell, f44, t58, e00]
    try simp (disch := first | omega | assumption) only [↓reduceIte, Nat.reduceEqDiff, Option.bind_some, ao_let, t_le, f_le, t_lt, f_lt, f_eq, u_eq, u_n1, u_n2, n_cl, n_lt, n_le, n_eq, n_ltl, n_llt, n_lel, n_lle, n_eql, n_leq, n_add, n_mul, n_sub, n_addl, n_ladd, n_mull, n_lmul, n_subl, Int32.reduceLT, Int32.reduceLE, Int32.reduceAdd, Int32.reduceSub, Int32.reduceMul, Int32.reduceToNatClampNeg, not_false_eq_true, not_true_eq_false, or_false, false_or, or_self, and_self, false_and, true_and, and_false, and_true, true_or, or_true, Nat.reduceAdd, Nat.reduceMul, Nat.reduceLT, Nat.reduceLeDiff, ne_eq, n_ell, f44, t58, e00]
    exact hv_some fin2
  · -- caught outside of the block
    obtain ⟨b, T, r, x1, x2, x3, x4, x4', x5, x6, x7, x8, x9, x10, x11, x12, x13, x14, x15, x16, x17, x18, x19, x20⟩ := htry (by omega)
    have hbn := hdn b x1 x2 (x4 _ (by simp))
    have hKT := i4 b (x4 _ (by simp)) T x5 x8
    obtain ⟨b', p1, p2, p3, p4, p5, p6⟩ := x4' 0 (by omega) (by omega)
    rw [hbn] at x16 x19
    have hb' : b' = b0 := by
      obtain ⟨e1, -⟩ := (hM1.2.2.2.2.1.2.2.2 (0, b') (p4 _ (by simp))).1 rfl
      dsimp only at e1
      rw [p3, Nat.mul_zero, Nat.add_zero] at e1
      rw [o5] at e1
      have := (n_eq (show b0 < 2147483648 by omega) (show b' < 2147483648 by omega)).mp e1
      omega
    subst hb'
    have hhave : ∃ (C5 D5 : ao_M), Full C5 ρ4 D5 σ4 kp' rc' nw bw br ∧ Opn C5 ρ4 D5 rc' t 1 len kd a1 a2 a3 φ N H K B0 ∧ (∀ x i, ¬ (x = 92 + 71 * t ∧ i = 3) → C5 x i = ao_u C4 (92 + 71 * t) 2 1 x i) ∧ (∀ x i, ¬ (i = t ∧ (x = 552 ∨ x = 557 ∨ x = 558)) → D5 x i = DL x i) := by
      have hop : Opn (ao_u (ao_u C4 (92 + 71 * t) 2 1) (92 + 71 * t) 3 (nI B0)) ρ4 (ao_u (ao_u (ao_u DL 552 t (nI (φ B0))) 557 t (nI (ns (N b')))) 558 t (nI (nt (N b')))) rc' t 1 len kd a1 a2 a3 φ N H K B0 := by
        refine rdy_O (B := B0) hF1 ht hM1 z3 (fun x i q => by rw [u_ne (by omega), u_ne (by omega)]) (fun x i q => ?_) (by rw [u_n2 (by omega), u_eq]) (by rw [u_n1 (by omega), u_n1 (by omega), u_n1 (by omega)]; exact hd51) (by rw [u_n2 (by omega), u_n2 (by omega)]; exact c48) (by rw [u_n1 (by omega), u_n1 (by omega), u_n1 (by omega)]; exact hd56) (fun i q1 q2 q3 q4 => by rw [u_n2 (by omega), u_n2 (by omega)]) (fun x q => by rw [u_n1 (by omega), u_n1 (by omega), u_n1 (by omega)]; exact hdc _ _ (by omega) (by omega) (by omega)) (fun k hk => ?_) o8 o10 (by rw [o9]; exact o3) u_eq (by simp (disch := omega) only [u_ne, u_eq]) (by rw [o9, u_n2 (by omega), u_n2 (by omega)]; exact c45) (by rw [o9]; exact u_eq) (by rw [o9]; simp (disch := omega) only [u_ne, u_eq]) (fun x hx => ?_)
        · obtain ⟨u1, -⟩ := wd_of q
          rw [u_ne (by
            by_cases e : x = 558
            · exact Or.inr (u1 (by omega))
            · exact Or.inl e), u_ne (by
            by_cases e : x = 557
            · exact Or.inr (u1 (by omega))
            · exact Or.inl e), u_ne (by
            by_cases e : x = 552
            · exact Or.inr (u1 (by omega))
            · exact Or.inl e)]
          exact wdD x i q
        · rw [u_n1 (by omega), u_n1 (by omega), u_n1 (by omega), u_n1 (by omega), u_n1 (by omega), hdc _ _ (by omega) (by omega) (by omega)]; exact hRg k hk
        · rw [o9] at hx
          obtain ⟨n1, n2, n3⟩ := o17 x hx
          exact lo_ent ht z3 (hM1.2.2.2.2.1.2.2.2 x (o4 x (List.mem_cons_of_mem _ hx))) (fun e => absurd e n1) n2 n3 ⟨by rw [u_n1 (by omega), u_n1 (by omega)], by rw [u_n1 (by omega), u_n1 (by omega)], fun y i q1 q2 => by rw [u_n1 (by omega), u_n1 (by omega)]⟩ (fun y j q1 q2 q3 => by rw [u_n1 (by omega), u_n1 (by omega), u_n1 (by omega)]; exact hdc _ _ (by omega) (by omega) (by omega))
      refine ⟨ao_u (ao_u C4 (92 + 71 * t) 2 1) (92 + 71 * t) 3 (nI B0), ao_u (ao_u (ao_u (DL) 552 t (nI (φ B0))) 557 t (nI (ns (N b')))) 558 t (nI (nt (N b'))), ?_, ?_, fun x i q => u_ne (by omega), fun x i q => by rw [u_ne (by omega), u_ne (by omega), u_ne (by omega)]⟩
      · have hD5 : ∀ x i, ¬ (551 ≤ x ∧ x ≤ 584 ∧ t * wd x ≤ i ∧ i < (t + 1) * wd x) → ao_u (ao_u (ao_u DL 552 t (nI (φ B0))) 557 t (nI (ns (N b')))) 558 t (nI (nt (N b'))) x i = D4 x i := fun x i q => by
          obtain ⟨u1, -⟩ := wd_of q
          rw [u_ne (by
            by_cases e : x = 558
            · exact Or.inr (u1 (by omega))
            · exact Or.inl e), u_ne (by
            by_cases e : x = 557
            · exact Or.inr (u1 (by omega))
            · exact Or.inl e), u_ne (by
            by_cases e : x = 552
            · exact Or.inr (u1 (by omega))
            · exact Or.inl e)]
          exact wdD x i q
        have hC5 : ∀ x i, ¬ (92 + 71 * t ≤ x ∧ x < 92 + 71 * t + 71) → ao_u (ao_u C4 (92 + 71 * t) 2 1) (92 + 71 * t) 3 (nI B0) x i = C4 x i := fun x i q => by rw [u_ne (by omega), u_ne (by omega)]
        have c8' : ao_u (ao_u C4 (92 + 71 * t) 2 1) (92 + 71 * t) 3 (nI B0) (92 + 71 * t) 8 = 0 := by rw [u_n2 (by omega), u_n2 (by omega)]; exact c48
        exact lo_fin hF1 ht e8 z3 hC5 hD5 (Tc_Thr hop.1 hop.2.1 hop.2.2) (lo_B hF1 ht z3 hC5 hD5 (by rw [u_n2 (by omega), u_eq]; decide)) (by rw [hdp0 c8']; rfl) (by rw [hdp0 c8']; exact Nat.zero_le _)
      · exact hop
    obtain ⟨C5, D5, hfu, hop, hC5, hD5⟩ := hhave
    have fin : GoE nw bw br t len kd a1 a2 a3 φ N H K a (-1, ao_u (ao_u (ao_u (ao_u C4 (92 + 71 * t) 2 1) (92 + 71 * t) 11 (nI (nt (N b)))) (92 + 71 * t + 6) r v) (92 + 71 * t) 3 (nI T), ρ4) (-1, ao_u (ao_u (ao_u (ao_u DL 558 t (nI (nt (N b)))) 557 t (nI (ns (N b)))) 552 t (nI (φ T))) 553 (t * 26 + r) v, σ4) := by
      refine ⟨rfl, rfl, kp', rc', 1, T, hKT, ?_⟩
      refine catch_go (b := b) (T := T) (r := r) (v := v) hfu ht hop (fun e he => by rw [o9]; exact p6 e he) (by rw [o9, o3, hbn]) x8 x9 x10 x7 (fun x i q1 q2 q3 => ?_) (fun x i q1 q2 q3 => ?_) ?_ ?_ ?_ ?_ ?_ ?_ ?_ ?_ ?_
      · dsimp only
        rw [hC5 x i (by omega)]
        rw [u_ne (by omega), u_ne (by omega), u_ne (by omega)]
      · dsimp only
        rw [hD5 x i (by omega)]
        simp (disch := omega) only [u_ne]
      · dsimp only
        simp (disch := omega) only [u_ne, u_eq]
      · dsimp only
        simp (disch := omega) only [u_ne, u_eq]
        exact r2
      · dsimp only
        simp (disch := omega) only [u_ne, u_eq]
      · dsimp only
        simp (disch := omega) only [u_ne, u_eq]
      · dsimp only
        simp (disch := omega) only [u_ne, u_eq]
      · dsimp only
        simp (disch := omega) only [u_ne, u_eq]
        rw [hdc _ _ (by omega) (by omega) (by omega)]
        exact s4
      · dsimp only
        simp (disch := omega) only [u_ne, u_eq]
      · dsimp only
        simp (disch := omega) only [u_ne, u_eq]
      · dsimp only
        simp (disch := omega) only [u_ne, u_eq]
    have hcat5 : Cat (ao_u C4 (92 + 71 * t) 2 1) ρ4 t len kd a1 a2 a3 := (Cat_loc hop.1 (fun x i hx => (hC5 x i (by omega)).symm)).1
    have hc5 : ∀ x i, 599 ≤ x → ao_u C4 (92 + 71 * t) 2 1 x i = C5 x i := fun x i hx => (hC5 x i (by omega)).symm
    obtain ⟨k1, k3, k4, ed, k5, k2⟩ := lo_cat hF1 ht hM1 z3 (C5 := ao_u C4 (92 + 71 * t) 2 1) (D5 := D4) (fun x i q => u_ne (by omega)) (fun _ _ _ => rfl)
    have r11 : C1 (92 + 71 * t) 11 = nI (nt (N b) + 1) := by rw [cu _ _ (by omega), x2]; exact q11
    have s58 : D1 558 t = nI (nt (N b) + 1) := by rw [du _ _ (by omega), x2]; exact q58
    have r15 : C1 (92 + 71 * t + 68) (nt (N b)) = nI b := by rw [cu _ _ (by omega)]; exact x15
    have r16 : C1 (92 + 71 * t + 69) (nt (N b)) = 0 := by rw [cu _ _ (by omega)]; exact x16
    have s68 : D1 568 (t * 12 + nt (N b)) = 0 := by rw [du _ _ (by omega)]; exact x19
    have t58 : DL 558 t = nI (nt (N b) + 1) := by rw [hdc _ _ (by omega) (by omega) (by omega), z5 _ (by omega), u_n1 (by omega), y6 _ (by omega)]; exact s58
    have tD : ∀ x, x = 566 ∨ x = 567 ∨ x = 569 → DL x (t * 12 + nt (N b)) = D x (t * 12 + nt (N b)) := fun x q => by
      rw [hdc _ _ (by omega) (by omega) (by omega), s2 _ _ (by omega) (by omega), du _ _ (by omega)]
    have t66 : DL 566 (t * 12 + nt (N b)) = nI (φ T) := by rw [tD _ (by omega)]; exact x17
    have t67 : DL 567 (t * 12 + nt (N b)) = nI r := by rw [tD _ (by omega)]; exact x18
    have t69 : DL 569 (t * 12 + nt (N b)) = nI (ns (N b)) := by rw [tD _ (by omega)]; exact x20
    have hx2 : ao_u C4 (92 + 71 * t) 2 1 a2 b = nI T := by rw [k3, ea2]; exact x5
    have hx3 : ao_u C4 (92 + 71 * t) 2 1 a3 b = nI r := by rw [k4, ea3]; exact x6
    refine pc _ ?_
    clear pc htry hM1 hF1 z3 i4 hdn o4 o17 cok hfu hop hC5 hD5 x4 x4' p4 p6 hc5 k5
    unfold gX2_fail
    refine hv_up (fun _ => fX2_fail.eq_2 ..) ?_
    try simp only [↓reduceIte, Nat.reduceEqDiff, Option.bind_some, ao_let, n_ell, hR, r11, Nat.add_sub_cancel, gX7_tryAtOf, gX7_tryDepthOf, r15, r16, f1]
    try simp (disch := first | omega | assumption) only [↓reduceIte, Nat.reduceEqDiff, Option.bind_some, ao_let, t_le, f_le, t_lt, f_lt, f_eq, u_eq, u_n1, u_n2, n_cl, n_lt, n_le, n_eq, n_ltl, n_llt, n_lel, n_lle, n_eql, n_leq, n_add, n_mul, n_sub, n_addl, n_ladd, n_mull, n_lmul, n_subl, Int32.reduceLT, Int32.reduceLE, Int32.reduceAdd, Int32.reduceSub, Int32.reduceMul, Int32.reduceToNatClampNeg, not_false_eq_true, not_true_eq_false, or_false, false_or, or_self, and_self, false_and, true_and, and_false, and_true, true_or, or_true, Nat.reduceAdd, Nat.reduceMul, Nat.reduceLT, Nat.reduceLeDiff, ne_eq, n_ell, hR, r11, Nat.add_sub_cancel, gX7_tryAtOf, gX7_tryDepthOf, r15, r16, f1]
    refine hv_bind (P := fun y => y = (ao_u C4 (92 + 71 * t) 2 1, ρ4)) cleave ?_
    rintro _ rfl
    dsimp only
    clear cleave
    refine c_catch (T := T) (r := r) (i := nt (N b)) (b := b) f24 ht k1 hlen x1 x7 hx2 hx3 (pd _ ?_)
    have fin2 : ∀ w, w = (-1, ao_u (ao_u (ao_u (ao_u DL 558 t (nI (nt (N b)))) 557 t (nI (ns (N b)))) 552 t (nI (φ T))) 553 (t * 26 + r) v, σ4) → GoE nw bw br t len kd a1 a2 a3 φ N H K a (-1, ao_u (ao_u (ao_u (ao_u C4 (92 + 71 * t) 2 1) (92 + 71 * t) 11 (nI (nt (N b)))) (92 + 71 * t + 6) r v) (92 + 71 * t) 3 (nI T), ρ4) w ∨ EndE nw bw br (-1, ao_u (ao_u (ao_u (ao_u C4 (92 + 71 * t) 2 1) (92 + 71 * t) 11 (nI (nt (N b)))) (92 + 71 * t + 6) r v) (92 + 71 * t) 3 (nI T), ρ4) w := by
      rintro _ rfl
      exact Or.inl fin
    clear fin
    refine hv_mono (P := fun w => w = (-1, ao_u (ao_u (ao_u (ao_u DL 558 t (nI (nt (N b)))) 557 t (nI (ns (N b)))) 552 t (nI (φ T))) 553 (t * 26 + r) v, σ4)) ?_ fin2
    clear fin2
    unfold gX12_fail
    refine hv_up (fun _ => fX12_fail.eq_2 ..) ?_
    try simp only [↓reduceIte, Nat.reduceEqDiff, Option.bind_some, ao_let, n_ell, f4, s58, gX12_level, Nat.add_sub_cancel, s68]
    try simp (disch := first | omega | assumption) only [↓reduceIte, Nat.reduceEqDiff, Option.bind_some, ao_let, t_le, f_le, t_lt, f_lt, f_eq, u_eq, u_n1, u_n2, n_cl, n_lt, n_le, n_eq, n_ltl, n_llt, n_lel, n_lle, n_eql, n_leq, n_add, n_mul, n_sub, n_addl, n_ladd, n_mull, n_lmul, n_subl, Int32.reduceLT, Int32.reduceLE, Int32.reduceAdd, Int32.reduceSub, Int32.reduceMul, Int32.reduceToNatClampNeg, not_false_eq_true, not_true_eq_false, or_false, false_or, or_self, and_self, false_and, true_and, and_false, and_true, true_or, or_true, Nat.reduceAdd, Nat.reduceMul, Nat.reduceLT, Nat.reduceLeDiff, ne_eq, n_ell, f4, s58, gX12_level, Nat.add_sub_cancel, s68]
    refine d46 ?_
    exact d_catch (i := nt (N b)) (q := φ T) (n1 := ns (N b)) (r := r) f44 ht (by omega) x7 t58 t66 t67 t69 rfl
end Stb4
