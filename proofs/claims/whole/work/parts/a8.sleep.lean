set_option linter.unusedSimpArgs false
set_option linter.unusedVariables false
section Sta8
variable {C D : ao_M} {ρ σ : ao_H} {kp rc nw bw br t s len kd a1 a2 a3 a : Nat} {φ : Nat → Nat} {N : Ns} {H K : Nat → Nat}
/-- level k has an or, and is not in it -/
def OrL (D : ao_M) (t k : Nat) : Prop := D 576 (t * 12 + k) = 0 ∧ ¬ D 571 (t * 12 + k) < 0
/-- what a level has to tell about its or -/
theorem lvl_or {l : List (Nat × Nat)} (hM : Md C ρ D rc t len kd a1 a2 a3 φ N H K l) {k : Nat} (hk : k < nl l) : ∃ b, b < len ∧ C a1 b = 16 ∧ nl (N b) = k ∧ (∀ e, e ∈ (0, b) :: N b → e ∈ l) ∧ C (92 + 71 * t + 8 + 6 * k) 8 = nI b ∧ (C (92 + 71 * t + 8 + 6 * k) 9 = D 576 (t * 12 + k) ∧ (D 576 (t * 12 + k) = 0 ∨ D 576 (t * 12 + k) = 1)) ∧ (C a2 b = -1 ∧ D 571 (t * 12 + k) = -1 ∨ ∃ T, T ≤ len ∧ C a2 b = nI T ∧ D 571 (t * 12 + k) = nI (φ T) ∧ φ T < 6000 ∧ N T = (0, b) :: N b ∧ H T = 0) := by
  obtain ⟨-, cok, -, -, m5, ⟨m6, m7, m8⟩, mI⟩ := hM
  obtain ⟨b, bl, bop, bnl, bmem⟩ := nest_at l k m6 hk
  obtain ⟨e1, e2, e3, e4, -, e6, e7, -⟩ := (m5.2.2.2 (0, b) (bmem _ (by simp))).1 rfl
  dsimp only at e1 e2 e3 e4 e6 e7
  rw [bnl] at e1 e4
  have hlen := cok.1
  obtain ⟨-, -, -, -, -, -, BB, rr, mm, q1, -, q3, q4, q5, -, -, -, q9⟩ := ins_16 (cok.2.2.2.2.2.2 b bl) bop
  refine ⟨b, bl, bop, bnl, bmem, e1, (mI.2.1 k hk).1, ?_⟩
  rcases e4 with e4 | ⟨T, t1, t2, t3⟩
  · exact Or.inl e4
  · refine Or.inr ⟨T, t1, t2, t3, ?_⟩
    have := (cok.2.2.2.2.2.1 T t1).1
    refine ⟨by omega, ?_⟩
    rcases q9 with ⟨q9, -⟩ | ⟨T', q9, -, q10, q11, q12⟩
    · rw [t2] at q9
      have := n_neg (n := T) (by omega)
      rw [q9] at this
      exact absurd rfl (by rw [this]; exact id)
    · have : T' = T := by
        rw [t2] at q9
        have := (n_eq (show T < 2147483648 by omega) (show T' < 2147483648 by omega)).mp q9
        omega
      subst this
      exact ⟨q11, q12⟩
theorem c_lwo {l : List (Nat × Nat)} {Q : Int32 × ao_M → Prop} (hM : Md C ρ D rc t len kd a1 a2 a3 φ N H K l) (f2 : ShB ρ) (ht : t < 6) : ∀ (m : Nat) (x : Int32), m ≤ nl l → x = nI m - 1 → (∀ k, k < m → OrL D t k → (∀ k', k < k' → k' < m → ¬ OrL D t k') → Q (nI k, C)) → ((∀ k, k < m → ¬ OrL D t k) → Q (-1, C)) → hv (fun n => fX7_levelWithOr n 7 (92 + 71 * t) x C ρ) Q := by
  have hR := RnS_of f2 ht
  have hlen := hM.2.1.1
  obtain ⟨b1, b2, b3, b4, b5, b6, b7, b8, b9, b10, b11, b12, b13, b14, b15, b16, b17, b18⟩ := hM.1
  have hl10 : nl l ≤ 10 := by
    have := @nl_le l
    have := hM.2.2.2.2.2.1.2.1
    omega
  intro m
  induction m with
  | zero =>
    rintro x h rfl q1 q2
    rw [n_z1]
    have := q2 (fun k hk => absurd hk (by omega))
    refine hv_up (fun _ => fX7_levelWithOr.eq_2 ..) ?_
    simp only [↓reduceIte, Nat.reduceEqDiff, n_g1]
    exact hv_some this
  | succ m ih =>
    rintro x h rfl q1 q2
    have hl := LvS_of f2 ht (show m < 10 by omega)
    obtain ⟨b, y1, y2, y3, y4, y5, ⟨y6, y6'⟩, y7⟩ := lvl_or hM (show m < nl l by omega)
    have go : ¬ OrL D t m → hv (fun n => fX7_levelWithOr n 42 (92 + 71 * t) (nI m) C ρ) Q := by
      intro hn
      refine hv_up (fun _ => fX7_levelWithOr.eq_2 ..) ?_
      simp only [↓reduceIte, Nat.reduceEqDiff, ao_let, dec_m1]
      refine ih (nI m - 1) (by omega) rfl (fun k hk h1 h2 => q1 k (by omega) h1 (fun k' g1 g2 => ?_)) (fun hno => q2 (fun k hk => ?_))
      · by_cases e : k' = m
        · subst e; exact hn
        · exact h2 k' g1 (by omega)
      · by_cases e : k = m
        · subst e; exact hn
        · exact hno k (by omega)
    rw [n_pre]
    refine hv_up (fun _ => fX7_levelWithOr.eq_2 ..) ?_
    simp (disch := omega) only [↓reduceIte, Nat.reduceEqDiff, n_ltl, f_lt, hR]
    refine hv_bind (P := fun y => y = (92 + 71 * t + 8 + 6 * m, C)) (c_level f2 ht (by omega) C rfl) ?_
    rintro _ rfl
    rcases y6' with e0 | e0
    · have e9 : C (92 + 71 * t + 8 + 6 * m) 9 = 0 := by rw [y6]; exact e0
      simp only [hl, ↓reduceIte, e9, b1, Option.bind_some]
      refine hv_bind (P := fun y => y = (92 + 71 * t + 8 + 6 * m, C)) (c_level f2 ht (by omega) C rfl) ?_
      rintro _ rfl
      rcases y7 with ⟨z1, z2⟩ | ⟨T, z1, z2, z3, z4, -⟩
      · have hg := go (fun z => z.2 (by rw [z2]; decide))
        clear go ih q1 q2
        try simp only [↓reduceIte, Nat.reduceEqDiff, Option.bind_some, ao_let, n_ell, hl, b2, gX1_firstAt, y5, b12, b4, b7, b10, z1, n_g1]
        try simp (disch := first | omega | assumption) only [↓reduceIte, Nat.reduceEqDiff, Option.bind_some, ao_let, t_le, f_le, t_lt, f_lt, f_eq, u_eq, u_n1, u_n2, n_cl, n_lt, n_le, n_eq, n_ltl, n_llt, n_lel, n_lle, n_eql, n_leq, n_add, n_mul, n_sub, n_addl, n_ladd, n_mull, n_lmul, n_subl, Int32.reduceLT, Int32.reduceLE, Int32.reduceAdd, Int32.reduceSub, Int32.reduceMul, Int32.reduceToNatClampNeg, not_false_eq_true, not_true_eq_false, or_false, false_or, or_self, and_self, false_and, true_and, and_false, and_true, true_or, or_true, Nat.reduceAdd, Nat.reduceMul, Nat.reduceLT, Nat.reduceLeDiff, ne_eq, n_ell, hl, b2, gX1_firstAt, y5, b12, b4, b7, b10, z1, n_g1]
        exact hg
      · have hg := q1 m (by omega) ⟨e0, by rw [z3]; simp (disch := omega) only [n_ltl, f_lt, not_false_eq_true]⟩ (fun k' g1 g2 => absurd g2 (by omega))
        clear go ih q1 q2
        try simp only [↓reduceIte, Nat.reduceEqDiff, Option.bind_some, ao_let, n_ell, hl, b2, gX1_firstAt, y5, b12, b4, b7, b10, z2]
        try simp (disch := first | omega | assumption) only [↓reduceIte, Nat.reduceEqDiff, Option.bind_some, ao_let, t_le, f_le, t_lt, f_lt, f_eq, u_eq, u_n1, u_n2, n_cl, n_lt, n_le, n_eq, n_ltl, n_llt, n_lel, n_lle, n_eql, n_leq, n_add, n_mul, n_sub, n_addl, n_ladd, n_mull, n_lmul, n_subl, Int32.reduceLT, Int32.reduceLE, Int32.reduceAdd, Int32.reduceSub, Int32.reduceMul, Int32.reduceToNatClampNeg, not_false_eq_true, not_true_eq_false, or_false, false_or, or_self, and_self, false_and, true_and, and_false, and_true, true_or, or_true, Nat.reduceAdd, Nat.reduceMul, Nat.reduceLT, Nat.reduceLeDiff, ne_eq, n_ell, hl, b2, gX1_firstAt, y5, b12, b4, b7, b10, z2]
        exact hv_some hg
    · have e9 : C (92 + 71 * t + 8 + 6 * m) 9 = 1 := by rw [y6]; exact e0
      simp only [hl, ↓reduceIte, e9, show ((1 : Int32) = 0) = False from by decide]
      exact go (fun z => absurd (e0.symm.trans z.1) (by decide))
theorem d_lwo {l : List (Nat × Nat)} {Q : Int32 × ao_S → Prop} (hM : Md C ρ D rc t len kd a1 a2 a3 φ N H K l) (f4 : ShD σ) (ht : t < 6) : ∀ (m : Nat) (x : Int32), m ≤ nl l → x = nI m - 1 → (∀ k, k < m → OrL D t k → (∀ k', k < k' → k' < m → ¬ OrL D t k') → hv (fun n => fX12_retry n 47 537 (nI t) (nI k) 0 0 0 0 D σ) Q) → ((∀ k, k < m → ¬ OrL D t k) → hv (fun n => fX12_retry n 47 537 (nI t) (-1) 0 0 0 0 D σ) Q) → hv (fun n => fX12_retry n 9 537 (nI t) x 0 0 0 0 D σ) Q := by
  have hlen := hM.2.1.1
  have hl10 : nl l ≤ 10 := by
    have := @nl_le l
    have := hM.2.2.2.2.2.1.2.1
    omega
  intro m
  induction m with
  | zero =>
    rintro x h rfl q1 q2
    rw [n_z1]
    have := q2 (fun k hk => absurd hk (by omega))
    refine hv_up (fun _ => fX12_retry.eq_2 ..) ?_
    simp only [↓reduceIte, Nat.reduceEqDiff, n_g1]
    exact this
  | succ m ih =>
    rintro x h rfl q1 q2
    obtain ⟨b, y1, y2, y3, y4, y5, ⟨y6, y6'⟩, y7⟩ := lvl_or hM (show m < nl l by omega)
    have go : ¬ OrL D t m → hv (fun n => fX12_retry n 41 537 (nI t) (nI m) 0 0 0 0 D σ) Q := by
      intro hn
      refine hv_up (fun _ => fX12_retry.eq_2 ..) ?_
      simp only [↓reduceIte, Nat.reduceEqDiff, ao_let, dec_m1]
      refine ih (nI m - 1) (by omega) rfl (fun k hk h1 h2 => q1 k (by omega) h1 (fun k' g1 g2 => ?_)) (fun hno => q2 (fun k hk => ?_))
      · by_cases e : k' = m
        · subst e; exact hn
        · exact h2 k' g1 (by omega)
      · by_cases e : k = m
        · subst e; exact hn
        · exact hno k (by omega)
    rw [n_pre]
    rcases y7 with ⟨z1, z2⟩ | ⟨T, z1, z2, z3, z4, -⟩
    · have hg := go (fun z => z.2 (by rw [z2]; decide))
      clear go ih q1 q2
      refine hv_up (fun _ => fX12_retry.eq_2 ..) ?_
      try simp only [↓reduceIte, Nat.reduceEqDiff, Option.bind_some, ao_let, n_ell, f4, gX12_level, z2, n_g1]
      try simp (disch := first | omega | assumption) only [↓reduceIte, Nat.reduceEqDiff, Option.bind_some, ao_let, t_le, f_le, t_lt, f_lt, f_eq, u_eq, u_n1, u_n2, n_cl, n_lt, n_le, n_eq, n_ltl, n_llt, n_lel, n_lle, n_eql, n_leq, n_add, n_mul, n_sub, n_addl, n_ladd, n_mull, n_lmul, n_subl, Int32.reduceLT, Int32.reduceLE, Int32.reduceAdd, Int32.reduceSub, Int32.reduceMul, Int32.reduceToNatClampNeg, not_false_eq_true, not_true_eq_false, or_false, false_or, or_self, and_self, false_and, true_and, and_false, and_true, true_or, or_true, Nat.reduceAdd, Nat.reduceMul, Nat.reduceLT, Nat.reduceLeDiff, ne_eq, n_ell, f4, gX12_level, z2, n_g1]
      exact hg
    · rcases y6' with e0 | e0
      · have hg := q1 m (by omega) ⟨e0, by rw [z3]; simp (disch := omega) only [n_ltl, f_lt, not_false_eq_true]⟩ (fun k' g1 g2 => absurd g2 (by omega))
        clear go ih q1 q2
        refine hv_up (fun _ => fX12_retry.eq_2 ..) ?_
        try simp only [↓reduceIte, Nat.reduceEqDiff, Option.bind_some, ao_let, n_ell, f4, gX12_level, z3, e0]
        try simp (disch := first | omega | assumption) only [↓reduceIte, Nat.reduceEqDiff, Option.bind_some, ao_let, t_le, f_le, t_lt, f_lt, f_eq, u_eq, u_n1, u_n2, n_cl, n_lt, n_le, n_eq, n_ltl, n_llt, n_lel, n_lle, n_eql, n_leq, n_add, n_mul, n_sub, n_addl, n_ladd, n_mull, n_lmul, n_subl, Int32.reduceLT, Int32.reduceLE, Int32.reduceAdd, Int32.reduceSub, Int32.reduceMul, Int32.reduceToNatClampNeg, not_false_eq_true, not_true_eq_false, or_false, false_or, or_self, and_self, false_and, true_and, and_false, and_true, true_or, or_true, Nat.reduceAdd, Nat.reduceMul, Nat.reduceLT, Nat.reduceLeDiff, ne_eq, n_ell, f4, gX12_level, z3, e0]
        exact hg
      · have hg := go (fun z => absurd (e0.symm.trans z.1) (by decide))
        clear go ih q1 q2
        refine hv_up (fun _ => fX12_retry.eq_2 ..) ?_
        try simp only [↓reduceIte, Nat.reduceEqDiff, Option.bind_some, ao_let, n_ell, f4, gX12_level, z3, e0, show ((1 : Int32) = 0) = False from by decide]
        try simp (disch := first | omega | assumption) only [↓reduceIte, Nat.reduceEqDiff, Option.bind_some, ao_let, t_le, f_le, t_lt, f_lt, f_eq, u_eq, u_n1, u_n2, n_cl, n_lt, n_le, n_eq, n_ltl, n_llt, n_lel, n_lle, n_eql, n_leq, n_add, n_mul, n_sub, n_addl, n_ladd, n_mull, n_lmul, n_subl, Int32.reduceLT, Int32.reduceLE, Int32.reduceAdd, Int32.reduceSub, Int32.reduceMul, Int32.reduceToNatClampNeg, not_false_eq_true, not_true_eq_false, or_false, false_or, or_self, and_self, false_and, true_and, and_false, and_true, true_or, or_true, Nat.reduceAdd, Nat.reduceMul, Nat.reduceLT, Nat.reduceLeDiff, ne_eq, n_ell, f4, gX12_level, z3, e0, show ((1 : Int32) = 0) = False from by decide]
        exact hg
/-- thread t sleeps -/
theorem slp_T {C4 D4 : ao_M} {ρ4 σ4 : ao_H} {kp' rc' dp : Nat} {l : List (Nat × Nat)} (hF : FullP (fun u => u ≠ t) C ρ D σ kp rc nw bw br) (ht : t < 6) (hM : Md C ρ D rc t len kd a1 a2 a3 φ N H K l) (hL : LV0 C D ρ σ kp rc t dp C4 ρ4 D4 σ4 kp' rc') (c48 : C4 (92 + 71 * t) 8 = nI 1) : Thr (ao_u C4 (92 + 71 * t) 2 3) ρ4 (ao_u (ao_u D4 556 t 0) 551 t 3) rc' t := by
  have hC5 : ∀ x i, ¬ (92 + 71 * t ≤ x ∧ x < 92 + 71 * t + 71) → ao_u C4 (92 + 71 * t) 2 3 x i = C4 x i := fun x i q => u_ne (by omega)
  have hd5 : ∀ x i, ¬ (i = t ∧ (x = 551 ∨ x = 556)) → ao_u (ao_u D4 556 t 0) 551 t 3 x i = D4 x i := fun x i q => by rw [u_ne (by omega), u_ne (by omega)]
  have hD5 : ∀ x i, ¬ (551 ≤ x ∧ x ≤ 584 ∧ t * wd x ≤ i ∧ i < (t + 1) * wd x) → ao_u (ao_u D4 556 t 0) 551 t 3 x i = D4 x i := fun x i q => hd5 x i (by
    rintro ⟨rfl, q'⟩
    have hw1 : wd x = 1 := by
      unfold wd
      rw [if_neg (by omega), if_neg (by omega), if_neg (by omega), if_neg (by omega), if_neg (by omega), if_neg (by omega)]
    exact q ⟨by omega, by omega, by rw [hw1]; omega, by rw [hw1]; omega⟩)
  obtain ⟨k1, k3, k4, ed, k5, k2⟩ := lo_cat hF ht hM hL hC5 hD5
  obtain ⟨b, B, o1, o2, o3, o4, o5, o6, o7, o8, o9, o10, o11, o12, o13, o14, o15, o16, o17, o18, o19, o20⟩ := out_b hM
  have hL' := hL
  have hM' := hM
  obtain ⟨-, -, ⟨g1, g2, g3, g4, g5, g6, g7, g8, g9⟩, -, m5, ⟨m6, m7, m8⟩, I8, IL, hl, h1, h2, h3⟩ := hM
  obtain ⟨-, ⟨r1, r2, r3, r4, r5, r6, r7, r8, r9⟩, ⟨e1, e2, e3, e4, e5, e6, e7⟩, ⟨x1, x2, x3, x4⟩, -⟩ := hL
  obtain ⟨⟨v1, v2⟩, v3, -, -⟩ := IL 0 (by omega)
  obtain ⟨-, -, u3, -⟩ := h1 0 (by omega)
  rw [Nat.mul_zero, Nat.add_zero] at v1 v3 u3
  rw [Nat.add_zero] at v1 v2 v3
  have cR : ∀ i, i ≠ 2 → ao_u C4 (92 + 71 * t) 2 3 (92 + 71 * t) i = C4 (92 + 71 * t) i := fun i h => u_n2 h
  have cX : ∀ x i, x ≠ 92 + 71 * t → ao_u C4 (92 + 71 * t) 2 3 x i = C4 x i := fun x i h => u_n1 h
  have d76 : ao_u (ao_u D4 556 t 0) 551 t 3 576 (t * 12) = D 576 (t * 12) := by
    rw [hd5 _ _ (by omega)]
    exact e2 576 0 (by omega) (by omega)
  refine ⟨3, by omega, u_eq, u_eq, ?_, ?_, ?_, ?_, fun k hk => ?_, fun q1 q2 => absurd rfl q2, fun _ => ?_, Or.inr ⟨by omega, len, kd, a1, a2, a3, φ, N, H, K, k1, k5, fun e => absurd e (by omega), fun e => absurd e (by omega), fun _ => ⟨b, o1, by rw [k2]; exact o2, o18, o19, o20, o3, fun x hx => ?_, ⟨?_, fun j hj => ?_, fun _ => [], fun j hj => ?_, ?_, fun i hi => absurd hi (by simp [cat])⟩, fun p => ?_⟩⟩⟩
  · rw [cR _ (by omega), r1 _ (by omega) (by omega) (by omega) (by omega) (by omega) (by omega)]; exact g3
  · rw [cR _ (by omega), r1 _ (by omega) (by omega) (by omega) (by omega) (by omega) (by omega), hd5 _ _ (by omega), e1 _ (by omega) (by omega)]; exact g4
  · rw [cR _ (by omega), r1 _ (by omega) (by omega) (by omega) (by omega) (by omega) (by omega), hd5 _ _ (by omega), e1 _ (by omega) (by omega)]; exact g5
  · rw [cR _ (by omega), r1 _ (by omega) (by omega) (by omega) (by omega) (by omega) (by omega), hd5 _ _ (by omega), e1 _ (by omega) (by omega)]; exact g6
  · rw [cX _ _ (by omega), r5 k hk, hd5 _ _ (by omega), e5 k hk]; exact v3 k hk
  · rw [u_n1 (by omega), u_eq]
  · rw [k3, k4]
    rcases List.mem_cons.mp hx with rfl | hx'
    · exact lo_ent ht hL' (m5.2.2.2 _ (o4 _ (by simp))) (fun _ => o3) o15 o16 ⟨cX _ _ (by omega), cX _ _ (by omega), fun y i q1 q2 => cX _ _ (by omega)⟩ (fun y j q1 q2 q3 => hd5 _ _ (by omega))
    · obtain ⟨n1, n2, n3⟩ := o17 x hx'
      exact lo_ent ht hL' (m5.2.2.2 x (o4 x hx)) (fun e => absurd e n1) n2 n3 ⟨cX _ _ (by omega), cX _ _ (by omega), fun y i q1 q2 => cX _ _ (by omega)⟩ (fun y j q1 q2 q3 => hd5 _ _ (by omega))
  · rw [cR _ (by omega)]; exact c48
  · obtain rfl : j = 0 := by omega
    unfold Lv Wr Rd
    simp only [Nat.mul_zero, Nat.add_zero]
    obtain ⟨ps, vs, ws, y1, y2⟩ := x3
    rw [Nat.mul_zero, Nat.add_zero] at y1
    rw [Nat.add_zero] at y2
    refine ⟨⟨by rw [cX _ _ (by omega), r6 _ (by omega) (by omega) (by omega), d76]; exact v1, by rw [d76]; exact v2⟩, fun k hk => ?_, ⟨fun p hp => ?_, fun p hp => ⟨?_, fun q => ?_⟩⟩, ps, vs, ws, RdC_mv y1 (cX _ _ (by omega)) (cX _ _ (by omega)) (fun i => ⟨cX _ _ (by omega), cX _ _ (by omega), cX _ _ (by omega)⟩), RdD_mv y2 (Nat.le_refl _) (fun p hp => ⟨hd5 _ _ (by omega), hd5 _ _ (by omega), hd5 _ _ (by omega), hd5 _ _ (by omega)⟩)⟩
    · rw [cX _ _ (by omega), r8 k, hd5 _ _ (by omega), e3 k hk]; exact v3 k hk
    · rw [cX _ _ (by omega), r7, bt_0]
    · rw [cX _ _ (by omega), r7, bt_0, hd5 _ _ (by omega), e6 p hp]
      simp
    · rw [cX _ _ (by omega), r7, bt_0] at q
      exact absurd q (by decide)
  · obtain rfl : j = 0 := by omega
    rw [Nat.mul_zero, Nat.add_zero, Nat.add_zero]
    refine ⟨by simp, ?_, ?_, fun i hi => absurd hi (by simp)⟩
    · rw [hd5 _ _ (by omega), e7]; rfl
    · rw [cX _ _ (by omega), r6 _ (by omega) (by omega) (by omega), u3]
      simp [cat]
  · rw [cR _ (by omega), r3, u3]
    simp [cat]
  · rw [cX _ _ (by omega), r7, bt_0]
end Sta8
