set_option linter.unusedSimpArgs false
set_option linter.unusedVariables false
/-! ===== calls between calls: judge ===== -/
section Ccg
variable {m B1 B2 E1 E2 : Nat} {C D : ao_M} {ρ σ : ao_H} {k : Nat}
set_option maxHeartbeats 8000000 in
theorem c_decL (hc : ShA ρ) (hk : k ≤ 14) {Q : Int32 × ao_M → Prop} : ∀ (s j : Nat) (C : ao_M), j + s = k → (∀ C', (∀ j', j ≤ j' → j' < k → ∀ i, bt (C' 536 j') i = true ↔ i < k ∧ ah C i j') → (∀ x i, ¬ (x = 536 ∧ j ≤ i ∧ i < k) → C' x i = C x i) → hv (fun a => fX0_decide a 54 518 25 13 (nI k) (nI k) C' ρ) Q) → hv (fun a => fX0_decide a 21 518 25 13 (nI k) (nI j) C ρ) Q := by
  intro s
  induction s with
  | zero =>
    intro j C h q
    obtain rfl : j = k := by omega
    refine hv_up (fun _ => fX0_decide.eq_2 ..) ?_
    try simp only [↓reduceIte, Nat.reduceEqDiff, Option.bind_some, ao_let, n_ell, hc]
    try simp (disch := first | omega | assumption) only [↓reduceIte, Nat.reduceEqDiff, Option.bind_some, ao_let, t_le, f_le, t_lt, f_lt, f_eq, u_eq, u_n1, u_n2, n_cl, n_lt, n_le, n_eq, n_ltl, n_llt, n_lel, n_lle, n_eql, n_leq, n_add, n_mul, n_sub, n_addl, n_ladd, n_mull, n_lmul, n_subl, Int32.reduceLT, Int32.reduceLE, Int32.reduceAdd, Int32.reduceSub, Int32.reduceMul, Int32.reduceToNatClampNeg, not_false_eq_true, not_true_eq_false, or_false, false_or, or_self, and_self, false_and, true_and, and_false, and_true, true_or, or_true, Nat.reduceAdd, Nat.reduceMul, Nat.reduceLT, Nat.reduceLeDiff, ne_eq, n_ell, hc]
    exact q C (fun j' h1 h2 => by omega) (fun _ _ _ => rfl)
  | succ s ih =>
    intro j C h q
    refine hv_up (fun _ => fX0_decide.eq_2 ..) ?_
    try simp only [↓reduceIte, Nat.reduceEqDiff, Option.bind_some, ao_let, n_ell, hc]
    try simp (disch := first | omega | assumption) only [↓reduceIte, Nat.reduceEqDiff, Option.bind_some, ao_let, t_le, f_le, t_lt, f_lt, f_eq, u_eq, u_n1, u_n2, n_cl, n_lt, n_le, n_eq, n_ltl, n_llt, n_lel, n_lle, n_eql, n_leq, n_add, n_mul, n_sub, n_addl, n_ladd, n_mull, n_lmul, n_subl, Int32.reduceLT, Int32.reduceLE, Int32.reduceAdd, Int32.reduceSub, Int32.reduceMul, Int32.reduceToNatClampNeg, not_false_eq_true, not_true_eq_false, or_false, false_or, or_self, and_self, false_and, true_and, and_false, and_true, true_or, or_true, Nat.reduceAdd, Nat.reduceMul, Nat.reduceLT, Nat.reduceLeDiff, ne_eq, n_ell, hc]
    refine hv_bind (c_msk hc hk (show j < k by omega)) ?_
    rintro ⟨y1, C1⟩ ⟨e, hy⟩
    dsimp only at e hy
    subst e
    try simp only [↓reduceIte, Nat.reduceEqDiff, Option.bind_some, ao_let, n_ell, hc]
    try simp (disch := first | omega | assumption) only [↓reduceIte, Nat.reduceEqDiff, Option.bind_some, ao_let, t_le, f_le, t_lt, f_lt, f_eq, u_eq, u_n1, u_n2, n_cl, n_lt, n_le, n_eq, n_ltl, n_llt, n_lel, n_lle, n_eql, n_leq, n_add, n_mul, n_sub, n_addl, n_ladd, n_mull, n_lmul, n_subl, Int32.reduceLT, Int32.reduceLE, Int32.reduceAdd, Int32.reduceSub, Int32.reduceMul, Int32.reduceToNatClampNeg, not_false_eq_true, not_true_eq_false, or_false, false_or, or_self, and_self, false_and, true_and, and_false, and_true, true_or, or_true, Nat.reduceAdd, Nat.reduceMul, Nat.reduceLT, Nat.reduceLeDiff, ne_eq, n_ell, hc]
    refine ih (j + 1) _ (by omega) (fun C' g1 g2 => q C' (fun j' q1 q2 i => ?_) (fun x i q1 => ?_))
    · by_cases e : j' = j
      · subst e
        rw [g2 _ _ (by omega), u_eq]
        exact hy i
      · have := g1 j' (by omega) q2 i
        unfold ah at this ⊢
        rw [u_ne (by omega), u_ne (by omega)] at this
        exact this
    · rw [g2 x i (by omega), u_ne (by omega)]
theorem d_jP (hs : ShD σ) : ∀ (s p : Nat) (D : ao_M), p + s = 26 → ∃ D', (∀ p', p ≤ p' → p' < 26 → D' 596 p' = D 545 p') ∧ (∀ x i, ¬ (x = 596 ∧ p ≤ i ∧ i < 26) → D' x i = D x i) ∧ ∀ Q : Int32 × ao_M → Prop, hv (fun a => fX12_judge a 49 537 0 0 0 0 0 0 0 D' σ) Q → hv (fun a => fX12_judge a 23 537 (nI p) 0 0 0 0 0 0 D σ) Q := by
  intro s
  induction s with
  | zero =>
    intro p D h
    obtain rfl : p = 26 := by omega
    refine ⟨D, fun p' h1 h2 => by omega, fun _ _ _ => rfl, fun Q q => ?_⟩
    refine hv_up (fun _ => fX12_judge.eq_2 ..) ?_
    try simp only [↓reduceIte, Nat.reduceEqDiff, Option.bind_some, ao_let, n_ell, hs]
    try simp (disch := first | omega | assumption) only [↓reduceIte, Nat.reduceEqDiff, Option.bind_some, ao_let, t_le, f_le, t_lt, f_lt, f_eq, u_eq, u_n1, u_n2, n_cl, n_lt, n_le, n_eq, n_ltl, n_llt, n_lel, n_lle, n_eql, n_leq, n_add, n_mul, n_sub, n_addl, n_ladd, n_mull, n_lmul, n_subl, Int32.reduceLT, Int32.reduceLE, Int32.reduceAdd, Int32.reduceSub, Int32.reduceMul, Int32.reduceToNatClampNeg, not_false_eq_true, not_true_eq_false, or_false, false_or, or_self, and_self, false_and, true_and, and_false, and_true, true_or, or_true, Nat.reduceAdd, Nat.reduceMul, Nat.reduceLT, Nat.reduceLeDiff, ne_eq, n_ell, hs]
    exact q
  | succ s ih =>
    intro p D h
    obtain ⟨D', g1, g2, g3⟩ := ih (p + 1) (ao_u D 596 p (D 545 p)) (by omega)
    refine ⟨D', fun p' q1 q2 => ?_, fun x i q1 => ?_, fun Q q => ?_⟩
    · by_cases e : p' = p
      · subst e
        rw [g2 _ _ (by omega), u_eq]
      · rw [g1 p' (by omega) q2, u_ne (by omega)]
    · rw [g2 x i (by omega), u_ne (by omega)]
    · refine hv_up (fun _ => fX12_judge.eq_2 ..) ?_
      try simp only [↓reduceIte, Nat.reduceEqDiff, Option.bind_some, ao_let, n_ell, hs]
      try simp (disch := first | omega | assumption) only [↓reduceIte, Nat.reduceEqDiff, Option.bind_some, ao_let, t_le, f_le, t_lt, f_lt, f_eq, u_eq, u_n1, u_n2, n_cl, n_lt, n_le, n_eq, n_ltl, n_llt, n_lel, n_lle, n_eql, n_leq, n_add, n_mul, n_sub, n_addl, n_ladd, n_mull, n_lmul, n_subl, Int32.reduceLT, Int32.reduceLE, Int32.reduceAdd, Int32.reduceSub, Int32.reduceMul, Int32.reduceToNatClampNeg, not_false_eq_true, not_true_eq_false, or_false, false_or, or_self, and_self, false_and, true_and, and_false, and_true, true_or, or_true, Nat.reduceAdd, Nat.reduceMul, Nat.reduceLT, Nat.reduceLeDiff, ne_eq, n_ell, hs]
      exact g3 Q q
theorem d_jU (hs : ShD σ) (hk : k ≤ 14) : ∀ (s j : Nat) (D : ao_M), j + s = k → D 537 76 = nI k → ∃ D', (∀ j', j ≤ j' → j' < k → D' 597 j' = 0) ∧ (∀ x i, ¬ (x = 597 ∧ j ≤ i ∧ i < k) → D' x i = D x i) ∧ ∀ Q : Int32 × ao_M → Prop, hv (fun a => fX12_judge a 81 537 1 0 0 0 0 0 0 (ao_u D' 595 0 0) σ) Q → hv (fun a => fX12_judge a 49 537 (nI j) 0 0 0 0 0 0 D σ) Q := by
  intro s
  induction s with
  | zero =>
    intro j D h d76
    obtain rfl : j = k := by omega
    refine ⟨D, fun p' h1 h2 => by omega, fun _ _ _ => rfl, fun Q q => ?_⟩
    refine hv_up (fun _ => fX12_judge.eq_2 ..) ?_
    try simp only [↓reduceIte, Nat.reduceEqDiff, Option.bind_some, ao_let, n_ell, hs, d76]
    try simp (disch := first | omega | assumption) only [↓reduceIte, Nat.reduceEqDiff, Option.bind_some, ao_let, t_le, f_le, t_lt, f_lt, f_eq, u_eq, u_n1, u_n2, n_cl, n_lt, n_le, n_eq, n_ltl, n_llt, n_lel, n_lle, n_eql, n_leq, n_add, n_mul, n_sub, n_addl, n_ladd, n_mull, n_lmul, n_subl, Int32.reduceLT, Int32.reduceLE, Int32.reduceAdd, Int32.reduceSub, Int32.reduceMul, Int32.reduceToNatClampNeg, not_false_eq_true, not_true_eq_false, or_false, false_or, or_self, and_self, false_and, true_and, and_false, and_true, true_or, or_true, Nat.reduceAdd, Nat.reduceMul, Nat.reduceLT, Nat.reduceLeDiff, ne_eq, n_ell, hs, d76]
    exact q
  | succ s ih =>
    intro j D h d76
    obtain ⟨D', g1, g2, g3⟩ := ih (j + 1) (ao_u D 597 j 0) (by omega) (by rw [u_ne (by omega)]; exact d76)
    refine ⟨D', fun p' q1 q2 => ?_, fun x i q1 => ?_, fun Q q => ?_⟩
    · by_cases e : p' = j
      · subst e
        rw [g2 _ _ (by omega), u_eq]
      · exact g1 p' (by omega) q2
    · rw [g2 x i (by omega), u_ne (by omega)]
    · refine hv_up (fun _ => fX12_judge.eq_2 ..) ?_
      try simp only [↓reduceIte, Nat.reduceEqDiff, Option.bind_some, ao_let, n_ell, hs, d76]
      try simp (disch := first | omega | assumption) only [↓reduceIte, Nat.reduceEqDiff, Option.bind_some, ao_let, t_le, f_le, t_lt, f_lt, f_eq, u_eq, u_n1, u_n2, n_cl, n_lt, n_le, n_eq, n_ltl, n_llt, n_lel, n_lle, n_eql, n_leq, n_add, n_mul, n_sub, n_addl, n_ladd, n_mull, n_lmul, n_subl, Int32.reduceLT, Int32.reduceLE, Int32.reduceAdd, Int32.reduceSub, Int32.reduceMul, Int32.reduceToNatClampNeg, not_false_eq_true, not_true_eq_false, or_false, false_or, or_self, and_self, false_and, true_and, and_false, and_true, true_or, or_true, Nat.reduceAdd, Nat.reduceMul, Nat.reduceLT, Nat.reduceLeDiff, ne_eq, n_ell, hs, d76]
      exact g3 Q q
/-- after a judgement -/
theorem PR_jd {C' D' : ao_M} {q : Nat} (h : PR m B1 B2 E1 E2 C ρ D σ) (hm : m + 1 ≤ 512) (hC : ∀ x i, x < 518 → C' x i = C x i) (hC9 : ∀ x i, 599 ≤ x → C' x i = C x i) (hD : ∀ x i, ¬ (x = 537 ∧ (i = 0 ∨ i = 82)) → ¬ (594 ≤ x ∧ x ≤ 597) → D' x i = D x i) (hq : q ≤ 14) (c1 : C' 518 1 = nI q) (d82 : D' 537 82 = nI q) (hs : ∀ i, i < q → C' 519 i = D' 594 i) : PR (m + 1) (B1 + 5) (B2 + 3100) E1 E2 C' ρ D' σ := by
  refine PR_ext h hm (Or.inl rfl) (fun x i z => ?_) (fun x i z1 z2 => hD x i (by omega) (by omega)) ?_
  · by_cases w : x < 518
    · exact hC x i w
    · exact hC9 x i (by omega)
  · rintro - ⟨l, l1, l2, l3, l4⟩ z
    refine ⟨⟨q, hq, c1, d82, hs⟩, ⟨l, l1, by rw [hC _ _ (by omega)]; exact l2, by rw [hD _ _ (by omega) (by omega)]; exact l3, fun i hi => by rw [hC _ _ (by omega), hD _ _ (by omega) (by omega)]; exact l4 i hi⟩, by rw [hC _ _ (by omega), hD _ _ (by omega) (by omega)]; exact z⟩
set_option maxHeartbeats 8000000 in
theorem PR_judge (h : PR m B1 B2 E1 E2 C ρ D σ) (hm : m + 1 ≤ 512) : hv (fun n => gX10_judge n 0 C ρ) (fun y => hv (fun n => gX12_judge n 537 D σ) (fun w => y.1 = w.1 ∧ PR (m + 1) (B1 + 5) (B2 + 3100) E1 E2 y.2 ρ w.2 σ)) := by
  obtain ⟨⟨hc, hb, hg, hs, hO⟩, ⟨kp, -, f, g, hh, pc, pd, ch, pe, ec⟩, -, -, -, -, ⟨k, k1, k2, k3, k4⟩, -, hle⟩ := PR_C h
  have c25 : ao_u C 518 1 0 25 9 = nI k := by rw [u_ne (by omega)]; exact k2
  have d76 : ao_u (ao_u D 537 0 0) 537 82 0 537 76 = nI k := by rw [u_ne (by omega), u_ne (by omega)]; exact k3
  have pre : ∀ {Q : Int32 × ao_M → Prop}, hv (fun n => gX0_decide n 518 25 13 C ρ) Q → hv (fun n => gX10_judge n 0 C ρ) Q := by
    intro Q hQ
    unfold gX10_judge
    simp only [hc, ↓reduceIte, Option.bind_some]
    refine hv_bind hQ ?_
    intro y hy
    exact hv_some hy
  refine pre ?_
  unfold gX0_decide
  by_cases hk : k ≤ 14
  · -- the reference makes ready
    obtain ⟨D2, p1, p2, p3⟩ := d_jP (σ := σ) hs 26 0 (ao_u (ao_u D 537 0 0) 537 82 0) rfl
    obtain ⟨D3, u1, u2, u3⟩ := d_jU (σ := σ) hs hk k 0 D2 (by omega) (by rw [p2 _ _ (by omega)]; exact d76)
    have run : ∀ Q : Int32 × ao_M → Prop, hv (fun a => fX12_judge a 81 537 1 0 0 0 0 0 0 (ao_u D3 595 0 0) σ) Q → hv (fun n => gX12_judge n 537 D σ) Q := by
      intro Q hQ
      unfold gX12_judge
      refine hv_up (fun _ => fX12_judge.eq_2 ..) ?_
      try simp only [↓reduceIte, Nat.reduceEqDiff, Option.bind_some, ao_let, n_ell, hs, k3]
      try simp (disch := first | omega | assumption) only [↓reduceIte, Nat.reduceEqDiff, Option.bind_some, ao_let, t_le, f_le, t_lt, f_lt, f_eq, u_eq, u_n1, u_n2, n_cl, n_lt, n_le, n_eq, n_ltl, n_llt, n_lel, n_lle, n_eql, n_leq, n_add, n_mul, n_sub, n_addl, n_ladd, n_mull, n_lmul, n_subl, Int32.reduceLT, Int32.reduceLE, Int32.reduceAdd, Int32.reduceSub, Int32.reduceMul, Int32.reduceToNatClampNeg, not_false_eq_true, not_true_eq_false, or_false, false_or, or_self, and_self, false_and, true_and, and_false, and_true, true_or, or_true, Nat.reduceAdd, Nat.reduceMul, Nat.reduceLT, Nat.reduceLeDiff, ne_eq, n_ell, hs, k3]
      exact p3 Q (u3 Q hQ)
    have eD : ∀ x i, ¬ (x = 537 ∧ (i = 0 ∨ i = 82)) → ¬ (594 ≤ x ∧ x ≤ 597) → ao_u D3 595 0 0 x i = D x i := fun x i q1 q2 => by rw [u_ne (by omega), u2 x i (by omega), p2 x i (by omega), u_ne (by omega), u_ne (by omega)]
    have e82 : ao_u D3 595 0 0 537 82 = 0 := by rw [u_ne (by omega), u2 _ _ (by omega), p2 _ _ (by omega), u_eq]
    have e96 : ∀ p, p < 26 → ao_u D3 595 0 0 596 p = D 545 p := fun p hp => by rw [u_ne (by omega), u2 _ _ (by omega), p1 p (by omega) hp, u_ne (by omega), u_ne (by omega)]
    have e97 : ∀ j, j < k → ao_u D3 595 0 0 597 j = 0 := fun j hj => by rw [u_ne (by omega), u1 j (by omega) hj]
    have e95 : ao_u D3 595 0 0 595 0 = 0 := u_eq
    generalize ao_u D3 595 0 0 = D4 at *
    refine hv_up (fun _ => fX0_decide.eq_2 ..) ?_
    try simp only [↓reduceIte, Nat.reduceEqDiff, Option.bind_some, ao_let, n_ell, hc, c25, k2]
    try simp (disch := first | omega | assumption) only [↓reduceIte, Nat.reduceEqDiff, Option.bind_some, ao_let, t_le, f_le, t_lt, f_lt, f_eq, u_eq, u_n1, u_n2, n_cl, n_lt, n_le, n_eq, n_ltl, n_llt, n_lel, n_lle, n_eql, n_leq, n_add, n_mul, n_sub, n_addl, n_ladd, n_mull, n_lmul, n_subl, Int32.reduceLT, Int32.reduceLE, Int32.reduceAdd, Int32.reduceSub, Int32.reduceMul, Int32.reduceToNatClampNeg, not_false_eq_true, not_true_eq_false, or_false, false_or, or_self, and_self, false_and, true_and, and_false, and_true, true_or, or_true, Nat.reduceAdd, Nat.reduceMul, Nat.reduceLT, Nat.reduceLeDiff, ne_eq, n_ell, hc, c25, k2]
    refine c_decL hc hk k 0 _ (by omega) (fun C1 g1 g2 => ?_)
    have e1 : ∀ x i, x < 518 ∨ 599 ≤ x → C1 x i = C x i := fun x i q => by rw [g2 x i (by omega), u_ne (by omega)]
    have e1' : C1 518 1 = 0 := by rw [g2 _ _ (by omega), u_eq]
    obtain ⟨g0, -, -, -, -, -, -, -, -, -, -, -, r12, r13, r14⟩ := id hg
    have s0 := r12 0 (by omega)
    have s1 := r13 0 (by omega)
    have s2 := r14 0 (by omega)
    rw [Nat.add_zero] at s0 s1 s2
    refine hv_up (fun _ => fX0_decide.eq_2 ..) ?_
    try simp only [↓reduceIte, Nat.reduceEqDiff, Option.bind_some, ao_let, n_ell, hc, s0, s1, s2]
    try simp (disch := first | omega | assumption) only [↓reduceIte, Nat.reduceEqDiff, Option.bind_some, ao_let, t_le, f_le, t_lt, f_lt, f_eq, u_eq, u_n1, u_n2, n_cl, n_lt, n_le, n_eq, n_ltl, n_llt, n_lel, n_lle, n_eql, n_leq, n_add, n_mul, n_sub, n_addl, n_ladd, n_mull, n_lmul, n_subl, Int32.reduceLT, Int32.reduceLE, Int32.reduceAdd, Int32.reduceSub, Int32.reduceMul, Int32.reduceToNatClampNeg, not_false_eq_true, not_true_eq_false, or_false, false_or, or_self, and_self, false_and, true_and, and_false, and_true, true_or, or_true, Nat.reduceAdd, Nat.reduceMul, Nat.reduceLT, Nat.reduceLeDiff, ne_eq, n_ell, hc, s0, s1, s2]
    have eC : ∀ x i, x ≠ 521 → ¬ (x = 518 ∧ i = 4) → ao_u (ao_u (ao_cp C1 17 521 0 0 26) 518 4 0) 518 4 1 x i = C1 x i := fun x i q1 q2 => by rw [u_ne (by omega), u_ne (by omega), cp_n q1]
    have eR : ∀ p, p < 26 → ao_u (ao_u (ao_cp C1 17 521 0 0 26) 518 4 0) 518 4 1 521 p = C 17 p := fun p hp => by rw [u_ne (by omega), u_ne (by omega), cp_e hp, e1 _ _ (by omega)]
    have e4 : ao_u (ao_u (ao_cp C1 17 521 0 0 26) 518 4 0) 518 4 1 518 4 = nI 1 := u_eq
    have c9 : ao_u (ao_cp C1 17 521 0 0 26) 518 4 0 25 9 = nI k := by rw [u_ne (by omega), cp_n (by omega), e1 _ _ (by omega)]; exact k2
    have c4 : ao_u (ao_cp C1 17 521 0 0 26) 518 4 0 518 4 = nI 0 := u_eq
    have c9' : ao_cp C1 17 521 0 0 26 25 9 = nI k := by rw [cp_n (by omega), e1 _ _ (by omega)]; exact k2
    have hJ : Jv k 0 0 1 (ao_u (ao_u (ao_cp C1 17 521 0 0 26) 518 4 0) 518 4 1) D4 := by
      have cl : ∀ x i, x < 518 → ao_u (ao_u (ao_cp C1 17 521 0 0 26) 518 4 0) 518 4 1 x i = C x i := fun x i q => by rw [eC x i (by omega) (by omega), e1 x i (by omega)]
      have ecn : ∀ a i, a = 592 ∨ a = 593 → cntF D4 a i = cntF D a i := fun a i ha => by
        unfold cntF
        exact List.countP_congr (fun p _ => by rw [eD _ _ (by omega) (by omega)])
      refine ⟨⟨⟨hk, by rw [cl _ _ (by omega)]; exact k2, by rw [eD _ _ (by omega) (by omega)]; exact k3⟩, fun i hi => ?_, fun i => by rw [cl _ _ (by omega), cl _ _ (by omega)]; exact hle i, fun j hj i => ?_, fun p hp => ?_⟩, by omega, by omega, e4, fun d' hd' p hp => ?_, fun j hj => ?_, ?_, fun d' hd' => by omega⟩
      · obtain ⟨-, b1, b2, b3, b4, b5, b6⟩ := k4 i hi
        obtain ⟨b7, b8⟩ := b6 (by omega)
        refine ⟨by rw [cl _ _ (by omega), eD _ _ (by omega) (by omega)]; exact b1, by rw [cl _ _ (by omega), eD _ _ (by omega) (by omega)]; exact b2, by rw [cl _ _ (by omega), ecn _ _ (by omega)]; exact b3, by rw [cl _ _ (by omega), ecn _ _ (by omega)]; exact b4, fun p hp => by rw [eD _ _ (by omega) (by omega), eD _ _ (by omega) (by omega)]; exact b5 p hp, RecL_mv b7 (fun n => ⟨cl _ _ (by omega), cl _ _ (by omega)⟩) (fun n => ⟨eD _ _ (by omega) (by omega), eD _ _ (by omega) (by omega)⟩), RecL_mv b8 (fun n => ⟨cl _ _ (by omega), cl _ _ (by omega)⟩) (fun n => ⟨eD _ _ (by omega) (by omega), eD _ _ (by omega) (by omega)⟩)⟩
      · have := g1 j (by omega) hj i
        unfold ah at this ⊢
        rw [u_ne (by omega), u_ne (by omega)] at this
        rw [eC _ _ (by omega) (by omega), cl _ _ (by omega), cl _ _ (by omega)]
        exact this
      · obtain ⟨y1, y2, y3, y4, y5, y6, y7⟩ := pe p hp
        rw [cl _ _ (by omega), cl _ _ (by omega), eD _ _ (by omega) (by omega), eD _ _ (by omega) (by omega)]
        exact ⟨y1, y3, y6⟩
      · obtain rfl : d' = 0 := by omega
        rw [Nat.add_zero, Nat.zero_mul, Nat.zero_add, eR p hp, e96 p hp]
        exact (pe p hp).2.2.2.1
      · rw [e97 j hj, bt_0]; rfl
      · refine List.countP_eq_zero.mpr (fun p _ => ?_)
        rw [bt_0]
        decide
    have nd := j_node (k := k) (ρ := ρ) (σ := σ) hc hg hs k 0 (by omega) 64 0 1 _ D4 (by omega) hJ e95
    refine hv_bind (P := JO σ k 0 0 (ao_u (ao_u (ao_cp C1 17 521 0 0 26) 518 4 0) 518 4 1) D4 (fun Q => hv (fun a => fX12_judge a 81 537 1 0 0 0 0 0 0 D4 σ) Q)) ?_ ?_
    · unfold gX0_tryFrom
      by_cases q : 0 = k
      · rw [if_pos q] at nd
        subst q
        refine hv_up (fun _ => fGT.eq_2 ..) ?_
        try simp only [↓reduceIte, Nat.reduceEqDiff, Option.bind_some, ao_let, n_ell, hc, c4, c9, c9']
        try simp (disch := first | omega | assumption) only [↓reduceIte, Nat.reduceEqDiff, Option.bind_some, ao_let, t_le, f_le, t_lt, f_lt, f_eq, u_eq, u_n1, u_n2, n_cl, n_lt, n_le, n_eq, n_ltl, n_llt, n_lel, n_lle, n_eql, n_leq, n_add, n_mul, n_sub, n_addl, n_ladd, n_mull, n_lmul, n_subl, Int32.reduceLT, Int32.reduceLE, Int32.reduceAdd, Int32.reduceSub, Int32.reduceMul, Int32.reduceToNatClampNeg, not_false_eq_true, not_true_eq_false, or_false, false_or, or_self, and_self, false_and, true_and, and_false, and_true, true_or, or_true, Nat.reduceAdd, Nat.reduceMul, Nat.reduceLT, Nat.reduceLeDiff, ne_eq, n_ell, hc, c4, c9, c9']
        exact nd
      · rw [if_neg q] at nd
        refine hv_up (fun _ => fGT.eq_2 ..) ?_
        try simp only [↓reduceIte, Nat.reduceEqDiff, Option.bind_some, ao_let, n_ell, hc, c4, c9, c9']
        try simp (disch := first | omega | assumption) only [↓reduceIte, Nat.reduceEqDiff, Option.bind_some, ao_let, t_le, f_le, t_lt, f_lt, f_eq, u_eq, u_n1, u_n2, n_cl, n_lt, n_le, n_eq, n_ltl, n_llt, n_lel, n_lle, n_eql, n_leq, n_add, n_mul, n_sub, n_addl, n_ladd, n_mull, n_lmul, n_subl, Int32.reduceLT, Int32.reduceLE, Int32.reduceAdd, Int32.reduceSub, Int32.reduceMul, Int32.reduceToNatClampNeg, not_false_eq_true, not_true_eq_false, or_false, false_or, or_self, and_self, false_and, true_and, and_false, and_true, true_or, or_true, Nat.reduceAdd, Nat.reduceMul, Nat.reduceLT, Nat.reduceLeDiff, ne_eq, n_ell, hc, c4, c9, c9']
        exact nd
    rintro ⟨y1, C5⟩ ⟨fC, hy⟩
    dsimp only at fC hy
    have f5 : ∀ x i, x < 518 ∨ 599 ≤ x → C5 x i = C x i := fun x i q => by rw [fC x i (by omega) (by omega) (by omega), eC x i (by omega) (by omega), e1 x i q]
    have f51 : C5 518 1 = 0 := by rw [fC _ _ (by omega) (by omega) (by omega), eC _ _ (by omega) (by omega)]; exact e1'
    have fD : ∀ D', FxD D4 D' → ∀ x i, ¬ (x = 537 ∧ (i = 0 ∨ i = 82)) → ¬ (594 ≤ x ∧ x ≤ 597) → D' x i = D x i := fun D' q x i q1 q2 => by rw [q x i q2 (by omega), eD x i q1 q2]
    simp only [ao_let]
    rcases hy with ⟨rfl, D', q1, q2, q3, q4⟩ | ⟨rfl, D', q1, q2, q3⟩ | ⟨rfl, D', τ', q1, q2, q3, q4, q5⟩
    · simp only [↓reduceIte]
      refine hv_some (hv_mono (run _ q1) ?_)
      rintro _ rfl
      exact ⟨rfl, PR_jd (C' := ao_u C5 518 1 (nI k)) (D' := D') h hm (fun x i q => by rw [u_ne (by omega)]; exact f5 x i (by omega)) (fun x i q => by rw [u_ne (by omega)]; exact f5 x i (by omega)) (fD D' q2) hk u_eq q3 (fun i hi => by rw [u_ne (by omega)]; exact q4 i hi)⟩
    · simp only [show ((-1 : Int32) = 1) = False from by decide, ↓reduceIte]
      refine hv_some (hv_mono (run _ q1) ?_)
      rintro _ rfl
      exact ⟨rfl, PR_jd (C' := C5) (D' := D') (q := 0) h hm (fun x i q => f5 x i (by omega)) (fun x i q => f5 x i (by omega)) (fD D' q2) (by omega) f51 (by rw [q3]; exact e82) (fun i hi => by omega)⟩
    · simp only [show ((0 : Int32) = 1) = False from by decide, ↓reduceIte]
      refine hv_some (hv_mono (run (fun w => w = (0, D')) (q5 _ ?_)) ?_)
      · have z1 : nI 0 + (-1 : Int32) = -1 := by decide
        have z2 : ((-1 : Int32) < 0) = True := eq_true (by decide)
        refine hv_up (fun _ => fX12_judge.eq_2 ..) ?_
        simp only [Nat.reduceEqDiff, ↓reduceIte, ao_let, z1, z2]
        refine hv_up (fun _ => fX12_judge.eq_2 ..) ?_
        simp only [Nat.reduceEqDiff, ↓reduceIte, z2]
        exact hv_some rfl
      · rintro _ rfl
        exact ⟨rfl, PR_jd (C' := C5) (D' := D') (q := 0) h hm (fun x i q => f5 x i (by omega)) (fun x i q => f5 x i (by omega)) (fD D' q2) (by omega) f51 (by rw [q3]; exact e82) (fun i hi => by omega)⟩
  · refine hv_up (fun _ => fX0_decide.eq_2 ..) ?_
    try simp only [↓reduceIte, Nat.reduceEqDiff, Option.bind_some, ao_let, n_ell, hc, c25, k2]
    try simp (disch := first | omega | assumption) only [↓reduceIte, Nat.reduceEqDiff, Option.bind_some, ao_let, t_le, f_le, t_lt, f_lt, f_eq, u_eq, u_n1, u_n2, n_cl, n_lt, n_le, n_eq, n_ltl, n_llt, n_lel, n_lle, n_eql, n_leq, n_add, n_mul, n_sub, n_addl, n_ladd, n_mull, n_lmul, n_subl, Int32.reduceLT, Int32.reduceLE, Int32.reduceAdd, Int32.reduceSub, Int32.reduceMul, Int32.reduceToNatClampNeg, not_false_eq_true, not_true_eq_false, or_false, false_or, or_self, and_self, false_and, true_and, and_false, and_true, true_or, or_true, Nat.reduceAdd, Nat.reduceMul, Nat.reduceLT, Nat.reduceLeDiff, ne_eq, n_ell, hc, c25, k2]
    refine hv_some ?_
    unfold gX12_judge
    refine hv_up (fun _ => fX12_judge.eq_2 ..) ?_
    try simp only [↓reduceIte, Nat.reduceEqDiff, Option.bind_some, ao_let, n_ell, hs, k3]
    try simp (disch := first | omega | assumption) only [↓reduceIte, Nat.reduceEqDiff, Option.bind_some, ao_let, t_le, f_le, t_lt, f_lt, f_eq, u_eq, u_n1, u_n2, n_cl, n_lt, n_le, n_eq, n_ltl, n_llt, n_lel, n_lle, n_eql, n_leq, n_add, n_mul, n_sub, n_addl, n_ladd, n_mull, n_lmul, n_subl, Int32.reduceLT, Int32.reduceLE, Int32.reduceAdd, Int32.reduceSub, Int32.reduceMul, Int32.reduceToNatClampNeg, not_false_eq_true, not_true_eq_false, or_false, false_or, or_self, and_self, false_and, true_and, and_false, and_true, true_or, or_true, Nat.reduceAdd, Nat.reduceMul, Nat.reduceLT, Nat.reduceLeDiff, ne_eq, n_ell, hs, k3]
    refine hv_some ⟨rfl, PR_jd (q := 0) h hm (fun x i q => ?_) (fun x i q => ?_) (fun x i q1 q2 => ?_) (by omega) ?_ ?_ (fun i hi => by omega)⟩
    · try dsimp only
      exact u_ne (by omega)
    · try dsimp only
      exact u_ne (by omega)
    · try dsimp only
      rw [u_ne (by omega), u_ne (by omega)]
    · try dsimp only
      exact u_eq
    · try dsimp only
      exact u_eq
end Ccg
