set_option linter.unusedSimpArgs false
set_option linter.unusedVariables false
section Ccf5
variable {C D : ao_M} {ρ σ : ao_H} {k : Nat}
theorem as0 {A B : Prop} {P : Nat → Prop} (h : (A ∧ ∀ p', 0 ≤ p' → P p') ∨ B) : (A ∧ ∀ p', True → P p') ∨ B := by
  rcases h with ⟨a, b⟩ | b
  · exact Or.inl ⟨a, fun p' _ => b p' (Nat.zero_le _)⟩
  · exact Or.inr b
set_option maxHeartbeats 8000000 in
theorem j_leaf (hc : ShA ρ) (hg : ShG ρ) (hs : ShD σ) {d e τ : Nat} {pl : Int32} (h : Jv d d pl τ C D) (h95 : D 595 d = 0) : hv (fun a => fGT a e (if d = d then 40 else 58) 518 25 13 (nI d) pl 0 0 0 C ρ) (JO σ d d pl C D (fun Q => hv (fun a => fX12_judge a 81 537 (nI τ) (nI d) 0 0 0 0 0 D σ) Q)) := by
  have h' := h
  obtain ⟨⟨⟨a1, a2, a3⟩, a4, a5, a6, a7⟩, h2, h3, h4, h5, h6, h7, h8⟩ := h
  have hrow : ∀ p, p < 26 → C (521 + d) p = D 596 (d * 26 + p) := fun p hp => h5 d (Nat.le_refl _) p hp
  have hall := all_in h7
  have hu : ∀ j, j < d → D 597 j = 1 := fun j hj => by rw [h6 j hj, if_pos (hall j hj)]
  have d544 : ∀ p, p < 26 → D 544 p = -1 ∨ ∃ t, t < 6 ∧ D 544 p = nI t := fun p hp => by rw [← (a7 p hp).2.1]; exact (a7 p hp).2.2
  have dA : hv (fun a => gX12_isAsIs a 537 (nI d) D σ) (fun y => (y = (1, D) ∧ ∀ p', 0 ≤ p' → p' < 26 → D 544 p' = -1 → D 596 (d * 26 + p') = D 542 p') ∨ (y = (0, D) ∧ ∃ p', p' < 26 ∧ D 544 p' = -1 ∧ ¬ D 596 (d * 26 + p') = D 542 p')) := by
    unfold gX12_isAsIs
    refine hv_up (fun _ => fX12_isAsIs.eq_2 ..) ?_
    try simp only [↓reduceIte, Nat.reduceEqDiff, Option.bind_some, ao_let, n_ell]
    try simp (disch := first | omega | assumption) only [↓reduceIte, Nat.reduceEqDiff, Option.bind_some, ao_let, t_le, f_le, t_lt, f_lt, f_eq, u_eq, u_n1, u_n2, n_cl, n_lt, n_le, n_eq, n_ltl, n_llt, n_lel, n_lle, n_eql, n_leq, n_add, n_mul, n_sub, n_addl, n_ladd, n_mull, n_lmul, n_subl, Int32.reduceLT, Int32.reduceLE, Int32.reduceAdd, Int32.reduceSub, Int32.reduceMul, Int32.reduceToNatClampNeg, not_false_eq_true, not_true_eq_false, or_false, false_or, or_self, and_self, false_and, true_and, and_false, and_true, true_or, or_true, Nat.reduceAdd, Nat.reduceMul, Nat.reduceLT, Nat.reduceLeDiff, ne_eq, n_ell]
    exact hv_mono (d_asL hs a1 d544 26 0 rfl) (fun _ q => as0 q)
  rw [if_pos rfl]
  refine hv_up (fun _ => fGT.eq_2 ..) ?_
  try simp only [↓reduceIte, Nat.reduceEqDiff, Option.bind_some, ao_let, n_ell, hc]
  try simp (disch := first | omega | assumption) only [↓reduceIte, Nat.reduceEqDiff, Option.bind_some, ao_let, t_le, f_le, t_lt, f_lt, f_eq, u_eq, u_n1, u_n2, n_cl, n_lt, n_le, n_eq, n_ltl, n_llt, n_lel, n_lle, n_eql, n_leq, n_add, n_mul, n_sub, n_addl, n_ladd, n_mull, n_lmul, n_subl, Int32.reduceLT, Int32.reduceLE, Int32.reduceAdd, Int32.reduceSub, Int32.reduceMul, Int32.reduceToNatClampNeg, not_false_eq_true, not_true_eq_false, or_false, false_or, or_self, and_self, false_and, true_and, and_false, and_true, true_or, or_true, Nat.reduceAdd, Nat.reduceMul, Nat.reduceLT, Nat.reduceLeDiff, ne_eq, n_ell, hc]
  refine hv_bind (P := fun y => (y = (1, C) ∧ ∀ p', 0 ≤ p' → p' < 26 → C 16 p' = -1 → C 14 p' = C (521 + d) p') ∨ (y = (0, C) ∧ ∃ p', p' < 26 ∧ C 16 p' = -1 ∧ ¬ C 14 p' = C (521 + d) p')) ?_ ?_
  · unfold gX0_isAsItIs
    refine hv_up (fun _ => fX0_isAsItIs.eq_2 ..) ?_
    try simp only [↓reduceIte, Nat.reduceEqDiff, Option.bind_some, ao_let, n_ell]
    try simp (disch := first | omega | assumption) only [↓reduceIte, Nat.reduceEqDiff, Option.bind_some, ao_let, t_le, f_le, t_lt, f_lt, f_eq, u_eq, u_n1, u_n2, n_cl, n_lt, n_le, n_eq, n_ltl, n_llt, n_lel, n_lle, n_eql, n_leq, n_add, n_mul, n_sub, n_addl, n_ladd, n_mull, n_lmul, n_subl, Int32.reduceLT, Int32.reduceLE, Int32.reduceAdd, Int32.reduceSub, Int32.reduceMul, Int32.reduceToNatClampNeg, not_false_eq_true, not_true_eq_false, or_false, false_or, or_self, and_self, false_and, true_and, and_false, and_true, true_or, or_true, Nat.reduceAdd, Nat.reduceMul, Nat.reduceLT, Nat.reduceLeDiff, ne_eq, n_ell]
    exact hv_mono (c_asL hc hg a1 26 0 rfl) (fun _ q => as0 q)
  rintro _ (⟨rfl, hP⟩ | ⟨rfl, p, p1, p2, p3⟩)
  · simp only [show ((1 : Int32) = 0) = False from by decide, ↓reduceIte]
    refine hv_some ⟨FxC_rf, Or.inl ⟨rfl, ao_u D 537 82 (nI d), ?_, fun x i q1 q2 => u_ne (by omega), u_eq, fun i hi => ?_⟩⟩
    · refine hv_up (fun _ => fX12_judge.eq_2 ..) ?_
      try simp only [↓reduceIte, Nat.reduceEqDiff, Option.bind_some, ao_let, n_ell, hs, a3]
      try simp (disch := first | omega | assumption) only [↓reduceIte, Nat.reduceEqDiff, Option.bind_some, ao_let, t_le, f_le, t_lt, f_lt, f_eq, u_eq, u_n1, u_n2, n_cl, n_lt, n_le, n_eq, n_ltl, n_llt, n_lel, n_lle, n_eql, n_leq, n_add, n_mul, n_sub, n_addl, n_ladd, n_mull, n_lmul, n_subl, Int32.reduceLT, Int32.reduceLE, Int32.reduceAdd, Int32.reduceSub, Int32.reduceMul, Int32.reduceToNatClampNeg, not_false_eq_true, not_true_eq_false, or_false, false_or, or_self, and_self, false_and, true_and, and_false, and_true, true_or, or_true, Nat.reduceAdd, Nat.reduceMul, Nat.reduceLT, Nat.reduceLeDiff, ne_eq, n_ell, hs, a3]
      refine hv_bind dA ?_
      rintro _ (⟨rfl, -⟩ | ⟨rfl, p, p1, p2, p3⟩)
      · simp only [show ((1 : Int32) = 0) = False from by decide, ↓reduceIte, ao_let]
        exact hv_some rfl
      · exfalso
        refine p3 ?_
        rw [← hrow p p1, ← (a7 p p1).1]
        refine (hP p (by omega) p1 ?_).symm
        rw [(a7 p p1).2.1]; exact p2
    · obtain ⟨o, -, o1, o2⟩ := h8 i hi
      rw [u_ne (by omega), o2]; exact o1
  · simp only [↓reduceIte]
    refine hv_some ⟨FxC_rf, Or.inr (Or.inr ⟨rfl, D, τ, h', FxD_rf, rfl, fun _ _ => ⟨rfl, rfl⟩, fun Q hQ => ?_⟩)⟩
    refine hv_up (fun _ => fX12_judge.eq_2 ..) ?_
    try simp only [↓reduceIte, Nat.reduceEqDiff, Option.bind_some, ao_let, n_ell, hs, a3]
    try simp (disch := first | omega | assumption) only [↓reduceIte, Nat.reduceEqDiff, Option.bind_some, ao_let, t_le, f_le, t_lt, f_lt, f_eq, u_eq, u_n1, u_n2, n_cl, n_lt, n_le, n_eq, n_ltl, n_llt, n_lel, n_lle, n_eql, n_leq, n_add, n_mul, n_sub, n_addl, n_ladd, n_mull, n_lmul, n_subl, Int32.reduceLT, Int32.reduceLE, Int32.reduceAdd, Int32.reduceSub, Int32.reduceMul, Int32.reduceToNatClampNeg, not_false_eq_true, not_true_eq_false, or_false, false_or, or_self, and_self, false_and, true_and, and_false, and_true, true_or, or_true, Nat.reduceAdd, Nat.reduceMul, Nat.reduceLT, Nat.reduceLeDiff, ne_eq, n_ell, hs, a3]
    refine hv_bind dA ?_
    rintro _ (⟨rfl, hP⟩ | ⟨rfl, -⟩)
    · exfalso
      refine p3 ?_
      rw [(a7 p p1).1, hrow p p1]
      refine (hP p (by omega) p1 ?_).symm
      rw [← (a7 p p1).2.1]; exact p2
    · simp only [↓reduceIte]
      refine hv_up (fun _ => fX12_judge.eq_2 ..) ?_
      try simp only [↓reduceIte, Nat.reduceEqDiff, Option.bind_some, ao_let, n_ell, hs, h95]
      try simp (disch := first | omega | assumption) only [↓reduceIte, Nat.reduceEqDiff, Option.bind_some, ao_let, t_le, f_le, t_lt, f_lt, f_eq, u_eq, u_n1, u_n2, n_cl, n_lt, n_le, n_eq, n_ltl, n_llt, n_lel, n_lle, n_eql, n_leq, n_add, n_mul, n_sub, n_addl, n_ladd, n_mull, n_lmul, n_subl, Int32.reduceLT, Int32.reduceLE, Int32.reduceAdd, Int32.reduceSub, Int32.reduceMul, Int32.reduceToNatClampNeg, not_false_eq_true, not_true_eq_false, or_false, false_or, or_self, and_self, false_and, true_and, and_false, and_true, true_or, or_true, Nat.reduceAdd, Nat.reduceMul, Nat.reduceLT, Nat.reduceLeDiff, ne_eq, n_ell, hs, h95]
      exact d_none hs a1 a3 hu hQ d 0 (by omega)
end Ccf5
