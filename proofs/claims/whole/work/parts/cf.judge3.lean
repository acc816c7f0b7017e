set_option linter.unusedSimpArgs false
set_option linter.unusedVariables false
section Ccf
variable {C D : ao_M} {ρ σ : ao_H} {k : Nat}
theorem FxC_rf : FxC C C := fun _ _ _ _ _ => rfl
theorem FxD_rf : FxD D D := fun _ _ _ _ => rfl
theorem bt_zz {x : Int32} {j : Nat} (hj : j < 26) : (((x >>> (nI j &&& 31)) &&& 1) = 0) = (bt x j = false) := bt_z x hj
set_option maxHeartbeats 8000000 in
/-- the class tries record j, or goes on -/
theorem c_58 (hc : ShA ρ) (hg : ShG ρ) {d j e τ : Nat} {pl : Int32} (h : Jv k d pl τ C D) (hd : d < k) (hj : j < k) {Q : Int32 × ao_M → Prop} (no : ¬ mcP k d j pl C D → hv (fun a => fGT a e 58 518 25 13 (nI d) pl (nI (j + 1)) 0 0 C ρ) Q)
    (yes : mcP k d j pl C D → hv (fun a => (gX6_apply a 25 (nI j) (521 + (d + 1)) (ao_cp (ao_u C 519 d (nI j)) (521 + d) (521 + (d + 1)) 0 0 26) ρ).bind fun p39 => if 0 < e then (fGT a (e - 1) 0 518 25 13 (nI (d + 1)) (pl ||| ((1 : Int32) <<< (nI j &&& 31))) 0 0 0 p39 ρ).bind fun p40 => if p40.1 = 0 then fGT a e 195 518 25 13 (nI d) pl (nI j) 1 0 p40.2 ρ else some (p40.1, p40.2) else none) Q) : hv (fun a => fGT a e 58 518 25 13 (nI d) pl (nI j) 0 0 C ρ) Q := by
  obtain ⟨⟨⟨a1, a2, a3⟩, a4, a5, a6, a7⟩, h2, h3, h4, h5, h6, h7, h8⟩ := h
  obtain ⟨b1, b2, b3, b4, b5, b6, b7⟩ := a4 j hj
  have n195 : ∀ s0 : Int32, ¬ mcP k d j pl C D → hv (fun a => fGT a e 195 518 25 13 (nI d) pl (nI j) s0 0 C ρ) Q := by
    intro s0 q
    refine hv_up (fun _ => fGT.eq_2 ..) ?_
    try simp only [↓reduceIte, Nat.reduceEqDiff, Option.bind_some, ao_let, n_ell]
    try simp (disch := first | omega | assumption) only [↓reduceIte, Nat.reduceEqDiff, Option.bind_some, ao_let, t_le, f_le, t_lt, f_lt, f_eq, u_eq, u_n1, u_n2, n_cl, n_lt, n_le, n_eq, n_ltl, n_llt, n_lel, n_lle, n_eql, n_leq, n_add, n_mul, n_sub, n_addl, n_ladd, n_mull, n_lmul, n_subl, Int32.reduceLT, Int32.reduceLE, Int32.reduceAdd, Int32.reduceSub, Int32.reduceMul, Int32.reduceToNatClampNeg, not_false_eq_true, not_true_eq_false, or_false, false_or, or_self, and_self, false_and, true_and, and_false, and_true, true_or, or_true, Nat.reduceAdd, Nat.reduceMul, Nat.reduceLT, Nat.reduceLeDiff, ne_eq, n_ell]
    exact no q
  have n103 : ¬ mcP k d j pl C D → hv (fun a => fGT a e 103 518 25 13 (nI d) pl (nI j) 0 0 C ρ) Q := by
    intro q
    refine hv_up (fun _ => fGT.eq_2 ..) ?_
    try simp only [↓reduceIte, Nat.reduceEqDiff, Option.bind_some, ao_let, n_ell]
    try simp (disch := first | omega | assumption) only [↓reduceIte, Nat.reduceEqDiff, Option.bind_some, ao_let, t_le, f_le, t_lt, f_lt, f_eq, u_eq, u_n1, u_n2, n_cl, n_lt, n_le, n_eq, n_ltl, n_llt, n_lel, n_lle, n_eql, n_leq, n_add, n_mul, n_sub, n_addl, n_ladd, n_mull, n_lmul, n_subl, Int32.reduceLT, Int32.reduceLE, Int32.reduceAdd, Int32.reduceSub, Int32.reduceMul, Int32.reduceToNatClampNeg, not_false_eq_true, not_true_eq_false, or_false, false_or, or_self, and_self, false_and, true_and, and_false, and_true, true_or, or_true, Nat.reduceAdd, Nat.reduceMul, Nat.reduceLT, Nat.reduceLeDiff, ne_eq, n_ell]
    refine hv_up (fun _ => fGT.eq_2 ..) ?_
    simp only [Nat.reduceEqDiff, ↓reduceIte]
    exact n195 0 q
  refine hv_up (fun _ => fGT.eq_2 ..) ?_
  simp (disch := omega) only [Nat.reduceEqDiff, ↓reduceIte, hc, a2, n_le, n_lle, f_le, bt_zz, Option.bind_some, n_cl, n_ltl, f_lt, or_self, not_false_eq_true]
  refine hv_if (fun z => ?_) (fun z => n103 (fun q => z q.1))
  refine hv_if (fun w => ?_) (fun w => n103 (fun q => w ?_))
  · have w' := (an_nt _ _).mp w
    have h2' : ∀ i, i < k → i ≠ j → bt pl i = false → C 29 j ≤ C 30 i := fun i hi hne hb => by
      by_cases q : C 29 j ≤ C 30 i
      · exact q
      · have := w' i ((a6 j hj i).mpr ⟨hi, q⟩)
        rw [hb] at this
        exact absurd this (by decide)
    obtain ⟨g0, g1, g2, g3, g4, g5, g6, g7, g8, g9, g10, g11, g12, g13, g14⟩ := id hg
    have r0 := g12 d (by omega)
    have r1 := g13 d (by omega)
    have r2 := g14 d (by omega)
    have s0 := g12 (d + 1) (by omega)
    have s1 := g13 (d + 1) (by omega)
    have s2 := g14 (d + 1) (by omega)
    refine hv_up (fun _ => fGT.eq_2 ..) ?_
    try simp only [↓reduceIte, Nat.reduceEqDiff, Option.bind_some, ao_let, n_ell, hc, r0]
    try simp (disch := first | omega | assumption) only [↓reduceIte, Nat.reduceEqDiff, Option.bind_some, ao_let, t_le, f_le, t_lt, f_lt, f_eq, u_eq, u_n1, u_n2, n_cl, n_lt, n_le, n_eq, n_ltl, n_llt, n_lel, n_lle, n_eql, n_leq, n_add, n_mul, n_sub, n_addl, n_ladd, n_mull, n_lmul, n_subl, Int32.reduceLT, Int32.reduceLE, Int32.reduceAdd, Int32.reduceSub, Int32.reduceMul, Int32.reduceToNatClampNeg, not_false_eq_true, not_true_eq_false, or_false, false_or, or_self, and_self, false_and, true_and, and_false, and_true, true_or, or_true, Nat.reduceAdd, Nat.reduceMul, Nat.reduceLT, Nat.reduceLeDiff, ne_eq, n_ell, hc, r0]
    refine hv_bind (c_rar (D := D) hc hg (show j < 14 by omega) (show d < 15 by omega) b3 b6) ?_
    rintro _ (⟨rfl, q⟩ | ⟨rfl, p, q1, q2, q3⟩)
    · have mc : mcP k d j pl C D := ⟨z, h2', q⟩
      have one : ((1 : Int32) = 0) = False := eq_false (by decide)
      try simp only [↓reduceIte, Nat.reduceEqDiff, Option.bind_some, ao_let, n_ell, hc, one, r0, r1, r2, s0, s1, s2]
      try simp (disch := first | omega | assumption) only [↓reduceIte, Nat.reduceEqDiff, Option.bind_some, ao_let, t_le, f_le, t_lt, f_lt, f_eq, u_eq, u_n1, u_n2, n_cl, n_lt, n_le, n_eq, n_ltl, n_llt, n_lel, n_lle, n_eql, n_leq, n_add, n_mul, n_sub, n_addl, n_ladd, n_mull, n_lmul, n_subl, Int32.reduceLT, Int32.reduceLE, Int32.reduceAdd, Int32.reduceSub, Int32.reduceMul, Int32.reduceToNatClampNeg, not_false_eq_true, not_true_eq_false, or_false, false_or, or_self, and_self, false_and, true_and, and_false, and_true, true_or, or_true, Nat.reduceAdd, Nat.reduceMul, Nat.reduceLT, Nat.reduceLeDiff, ne_eq, n_ell, hc, one, r0, r1, r2, s0, s1, s2]
      exact yes mc
    · simp only [↓reduceIte]
      exact n195 1 (fun mc => q3 (mc.2.2 p q1 q2))
  · rw [an_nt]
    intro i hi
    obtain ⟨i1, i2⟩ := (a6 j hj i).mp hi
    by_cases e : bt pl i = true
    · exact e
    · have hij : i ≠ j := fun e' => by
        subst e'
        exact i2 (a5 i (by omega))
      exact absurd (q.2.1 i i1 hij (by simpa using e)) i2
set_option maxHeartbeats 8000000 in
theorem j_node (hc : ShA ρ) (hg : ShG ρ) (hs : ShD σ) : ∀ (r d : Nat), d + r = k → ∀ (e : Nat) (pl : Int32) (τ : Nat) (C D : ao_M), r ≤ e → Jv k d pl τ C D → D 595 d = 0 → hv (fun a => fGT a e (if d = k then 40 else 58) 518 25 13 (nI d) pl 0 0 0 C ρ) (JO σ k d pl C D (fun Q => hv (fun a => fX12_judge a 81 537 (nI τ) (nI d) 0 0 0 0 0 D σ) Q)) := by
  intro r
  induction r with
  | zero =>
    intro d hd e pl τ C D _ h h95
    obtain rfl : d = k := by omega
    have h' := h
    obtain ⟨⟨⟨a1, a2, a3⟩, a4, a5, a6, a7⟩, h2, h3, h4, h5, h6, h7, h8⟩ := h
    have hrow : ∀ p, p < 26 → C (521 + d) p = D 596 (d * 26 + p) := fun p hp => h5 d (Nat.le_refl _) p hp
    have hall := all_in h7
    have hu : ∀ j, j < d → D 597 j = 1 := fun j hj => by rw [h6 j hj, if_pos (hall j hj)]
    have d544 : ∀ p, p < 26 → D 544 p = -1 ∨ ∃ t, t < 6 ∧ D 544 p = nI t := fun p hp => by rw [← (a7 p hp).2.1]; exact (a7 p hp).2.2
    have dA : hv (fun a => gX12_isAsIs a 537 (nI d) D σ) (fun y => (y = (1, D) ∧ ∀ p', 0 ≤ p' → p' < 26 → D 544 p' = -1 → D 596 (d * 26 + p') = D 542 p') ∨ (y = (0, D) ∧ ∃ p', p' < 26 ∧ D 544 p' = -1 ∧ ¬ D 596 (d * 26 + p') = D 542 p')) := by
      unfold gX12_isAsIs
      refine hv_up (fun _ => fX12_isAsIs.eq_2 ..) ?_
      try simp only [↓reduceIte, Nat.reduceEqDiff, Option.bind_some, ao_let, n_ell]
      try simp (disch := first | omega | assumption) only [↓reduceIte, Nat.reduceEqDiff, Option.bind_some, ao_let, t_le, f_le, t_lt, f_lt, f_eq, u_eq, u_n1, u_n2, n_cl, n_lt, n_le, n_eq, n_ltl, n_llt, n_lel, n_lle, n_eql, n_leq, n_add, n_mul, n_sub, n_addl, n_ladd, n_mull, n_lmul, n_subl, Int32.reduceLT, Int32.reduceLE, Int32.reduceAdd, Int32.reduceSub, Int32.reduceMul, Int32.reduceToNatClampNeg, not_false_eq_true, not_true_eq_false, or_false, false_or, or_self, and_self, false_and, true_and, and_false, and_true, true_or, or_true, Nat.reduceAdd, Nat.reduceMul, Nat.reduceLT, Nat.reduceLeDiff, ne_eq, n_ell]
      exact d_asL hs a1 d544 26 0 rfl
    rw [if_pos rfl]
    refine hv_up (fun _ => fGT.eq_2 ..) ?_
    try simp only [↓reduceIte, Nat.reduceEqDiff, Option.bind_some, ao_let, n_ell, hc]
    try simp (disch := first | omega | assumption) only [↓reduceIte, Nat.reduceEqDiff, Option.bind_some, ao_let, t_le, f_le, t_lt, f_lt, f_eq, u_eq, u_n1, u_n2, n_cl, n_lt, n_le, n_eq, n_ltl, n_llt, n_lel, n_lle, n_eql, n_leq, n_add, n_mul, n_sub, n_addl, n_ladd, n_mull, n_lmul, n_subl, Int32.reduceLT, Int32.reduceLE, Int32.reduceAdd, Int32.reduceSub, Int32.reduceMul, Int32.reduceToNatClampNeg, not_false_eq_true, not_true_eq_false, or_false, false_or, or_self, and_self, false_and, true_and, and_false, and_true, true_or, or_true, Nat.reduceAdd, Nat.reduceMul, Nat.reduceLT, Nat.reduceLeDiff, ne_eq, n_ell, hc]
    refine hv_bind (P := fun y => (y = (1, C) ∧ ∀ p', 0 ≤ p' → p' < 26 → C 16 p' = -1 → C 14 p' = C (521 + d) p') ∨ (y = (0, C) ∧ ∃ p', p' < 26 ∧ C 16 p' = -1 ∧ ¬ C 14 p' = C (521 + d) p')) ?_ ?_
    · unfold gX0_isAsItIs
      refine hv_up (fun _ => fX0_isAsItIs.eq_2 ..) ?_
      try simp only [↓reduceIte, Nat.reduceEqDiff, Option.bind_some, ao_let, n_ell]
      try simp (disch := first | omega | assumption) only [↓reduceIte, Nat.reduceEqDiff, Option.bind_some, ao_let, t_le, f_le, t_lt, f_lt, f_eq, u_eq, u_n1, u_n2, n_cl, n_lt, n_le, n_eq, n_ltl, n_llt, n_lel, n_lle, n_eql, n_leq, n_add, n_mul, n_sub, n_addl, n_ladd, n_mull, n_lmul, n_subl, Int32.reduceLT, Int32.reduceLE, Int32.reduceAdd, Int32.reduceSub, Int32.reduceMul, Int32.reduceToNatClampNeg, not_false_eq_true, not_true_eq_false, or_false, false_or, or_self, and_self, false_and, true_and, and_false, and_true, true_or, or_true, Nat.reduceAdd, Nat.reduceMul, Nat.reduceLT, Nat.reduceLeDiff, ne_eq, n_ell]
      exact c_asL hc hg a1 26 0 rfl
    rintro _ (⟨rfl, hP⟩ | ⟨rfl, p, p1, p2, p3⟩)
    · simp only [show ((1 : Int32) = 0) = False from by decide, ↓reduceIte]
      refine hv_some ⟨FxC_rf, Or.inl ⟨rfl, ao_u D 537 82 (nI d), ?_, fun x i q1 q2 => u_ne (by omega), u_eq, fun i hi => ?_⟩⟩
      · refine hv_up (fun _ => fX12_judge.eq_2 ..) ?_
        try simp only [↓reduceIte, Nat.reduceEqDiff, Option.bind_some, ao_let, n_ell, hs, a3]
        try simp (disch := first | omega | assumption) only [↓reduceIte, Nat.reduceEqDiff, Option.bind_some, ao_let, t_le, f_le, t_lt, f_lt, f_eq, u_eq, u_n1, u_n2, n_cl, n_lt, n_le, n_eq, n_ltl, n_llt, n_lel, n_lle, n_eql, n_leq, n_add, n_mul, n_sub, n_addl, n_ladd, n_mull, n_lmul, n_subl, Int32.reduceLT, Int32.reduceLE, Int32.reduceAdd, Int32.reduceSub, Int32.reduceMul, Int32.reduceToNatClampNeg, not_false_eq_true, not_true_eq_false, or_false, false_or, or_self, and_self, false_and, true_and, and_false, and_true, true_or, or_true, Nat.reduceAdd, Nat.reduceMul, Nat.reduceLT, Nat.reduceLeDiff, ne_eq, n_ell, hs, a3]
        refine hv_bind dA ?_
        rintro _ (⟨rfl, -⟩ | ⟨rfl, p, p1, p2, p3⟩)
        · simp only [show ((1 : Int32) = 0) = False from by decide, ↓reduceIte, ao_let]
          exact hv_some rfl
        · exfalso
          refine p3 ?_
          rw [← hrow p p1, ← (a7 p p1).1]
          refine (hP p (by omega) p1 ?_).symm
          rw [(a7 p p1).2.1]; exact p2
      · obtain ⟨o, -, o1, o2⟩ := h8 i hi
        rw [u_ne (by omega), o2]; exact o1
    · simp only [↓reduceIte]
      refine hv_some ⟨FxC_rf, Or.inr (Or.inr ⟨rfl, D, τ, h', FxD_rf, rfl, fun _ _ => ⟨rfl, rfl⟩, fun Q hQ => ?_⟩)⟩
      refine hv_up (fun _ => fX12_judge.eq_2 ..) ?_
      try simp only [↓reduceIte, Nat.reduceEqDiff, Option.bind_some, ao_let, n_ell, hs, a3]
      try simp (disch := first | omega | assumption) only [↓reduceIte, Nat.reduceEqDiff, Option.bind_some, ao_let, t_le, f_le, t_lt, f_lt, f_eq, u_eq, u_n1, u_n2, n_cl, n_lt, n_le, n_eq, n_ltl, n_llt, n_lel, n_lle, n_eql, n_leq, n_add, n_mul, n_sub, n_addl, n_ladd, n_mull, n_lmul, n_subl, Int32.reduceLT, Int32.reduceLE, Int32.reduceAdd, Int32.reduceSub, Int32.reduceMul, Int32.reduceToNatClampNeg, not_false_eq_true, not_true_eq_false, or_false, false_or, or_self, and_self, false_and, true_and, and_false, and_true, true_or, or_true, Nat.reduceAdd, Nat.reduceMul, Nat.reduceLT, Nat.reduceLeDiff, ne_eq, n_ell, hs, a3]
      refine hv_bind dA ?_
      rintro _ (⟨rfl, hP⟩ | ⟨rfl, -⟩)
      · exfalso
        refine p3 ?_
        rw [(a7 p p1).1, hrow p p1]
        refine (hP p (by omega) p1 ?_).symm
        rw [← (a7 p p1).2.1]; exact p2
      · simp only [↓reduceIte]
        refine hv_up (fun _ => fX12_judge.eq_2 ..) ?_
        try simp only [↓reduceIte, Nat.reduceEqDiff, Option.bind_some, ao_let, n_ell, hs, h95]
        try simp (disch := first | omega | assumption) only [↓reduceIte, Nat.reduceEqDiff, Option.bind_some, ao_let, t_le, f_le, t_lt, f_lt, f_eq, u_eq, u_n1, u_n2, n_cl, n_lt, n_le, n_eq, n_ltl, n_llt, n_lel, n_lle, n_eql, n_leq, n_add, n_mul, n_sub, n_addl, n_ladd, n_mull, n_lmul, n_subl, Int32.reduceLT, Int32.reduceLE, Int32.reduceAdd, Int32.reduceSub, Int32.reduceMul, Int32.reduceToNatClampNeg, not_false_eq_true, not_true_eq_false, or_false, false_or, or_self, and_self, false_and, true_and, and_false, and_true, true_or, or_true, Nat.reduceAdd, Nat.reduceMul, Nat.reduceLT, Nat.reduceLeDiff, ne_eq, n_ell, hs, h95]
        exact d_none hs a1 a3 hu hQ d 0 (by omega)
  | succ r ih =>
    intro d hd e pl τ C D he h h95
    have hdk : d < k := by omega
    have hk14 : k ≤ 14 := h.1.1.1
    -- the loop over records
    have B : ∀ (s j : Nat), j + s = k → ∀ (τ : Nat) (C D : ao_M), Jv k d pl τ C D → hv (fun a => fGT a e 58 518 25 13 (nI d) pl (nI j) 0 0 C ρ) (JO σ k d pl C D (fun Q => hv (fun a => fX12_judge a 115 537 (nI τ) (nI d) (nI j) 0 0 0 0 D σ) Q)) := by
      intro s
      induction s with
      | zero =>
        intro j hj τ C D h
        obtain rfl : j = k := by omega
        have a2 := h.1.1.2.1
        have a3 := h.1.1.2.2
        refine hv_up (fun _ => fGT.eq_2 ..) ?_
        try simp only [↓reduceIte, Nat.reduceEqDiff, Option.bind_some, ao_let, n_ell, hc, a2]
        try simp (disch := first | omega | assumption) only [↓reduceIte, Nat.reduceEqDiff, Option.bind_some, ao_let, t_le, f_le, t_lt, f_lt, f_eq, u_eq, u_n1, u_n2, n_cl, n_lt, n_le, n_eq, n_ltl, n_llt, n_lel, n_lle, n_eql, n_leq, n_add, n_mul, n_sub, n_addl, n_ladd, n_mull, n_lmul, n_subl, Int32.reduceLT, Int32.reduceLE, Int32.reduceAdd, Int32.reduceSub, Int32.reduceMul, Int32.reduceToNatClampNeg, not_false_eq_true, not_true_eq_false, or_false, false_or, or_self, and_self, false_and, true_and, and_false, and_true, true_or, or_true, Nat.reduceAdd, Nat.reduceMul, Nat.reduceLT, Nat.reduceLeDiff, ne_eq, n_ell, hc, a2]
        refine hv_some ⟨FxC_rf, Or.inr (Or.inr ⟨rfl, D, τ, h, FxD_rf, rfl, fun _ _ => ⟨rfl, rfl⟩, fun Q hQ => ?_⟩)⟩
        refine hv_up (fun _ => fX12_judge.eq_2 ..) ?_
        try simp only [↓reduceIte, Nat.reduceEqDiff, Option.bind_some, ao_let, n_ell, hs, a3]
        try simp (disch := first | omega | assumption) only [↓reduceIte, Nat.reduceEqDiff, Option.bind_some, ao_let, t_le, f_le, t_lt, f_lt, f_eq, u_eq, u_n1, u_n2, n_cl, n_lt, n_le, n_eq, n_ltl, n_llt, n_lel, n_lle, n_eql, n_leq, n_add, n_mul, n_sub, n_addl, n_ladd, n_mull, n_lmul, n_subl, Int32.reduceLT, Int32.reduceLE, Int32.reduceAdd, Int32.reduceSub, Int32.reduceMul, Int32.reduceToNatClampNeg, not_false_eq_true, not_true_eq_false, or_false, false_or, or_self, and_self, false_and, true_and, and_false, and_true, true_or, or_true, Nat.reduceAdd, Nat.reduceMul, Nat.reduceLT, Nat.reduceLeDiff, ne_eq, n_ell, hs, a3]
        refine hv_up (fun _ => fX12_judge.eq_2 ..) ?_
        try simp only [↓reduceIte, Nat.reduceEqDiff, Option.bind_some, ao_let, n_ell, hs, a3]
        try simp (disch := first | omega | assumption) only [↓reduceIte, Nat.reduceEqDiff, Option.bind_some, ao_let, t_le, f_le, t_lt, f_lt, f_eq, u_eq, u_n1, u_n2, n_cl, n_lt, n_le, n_eq, n_ltl, n_llt, n_lel, n_lle, n_eql, n_leq, n_add, n_mul, n_sub, n_addl, n_ladd, n_mull, n_lmul, n_subl, Int32.reduceLT, Int32.reduceLE, Int32.reduceAdd, Int32.reduceSub, Int32.reduceMul, Int32.reduceToNatClampNeg, not_false_eq_true, not_true_eq_false, or_false, false_or, or_self, and_self, false_and, true_and, and_false, and_true, true_or, or_true, Nat.reduceAdd, Nat.reduceMul, Nat.reduceLT, Nat.reduceLeDiff, ne_eq, n_ell, hs, a3]
        exact hQ
      | succ s ihs =>
        intro j hj τ C D h
        have hjk : j < k := by omega
        have a3 := h.1.1.2.2
        have hmD := d_mc (σ := σ) hs h hjk
        refine c_58 hc hg h hdk hjk (fun no => ?_) (fun yes => ?_)
        · refine hv_mono (ihs (j + 1) (by omega) τ C D h) (fun y hy => JO_tr hy FxC_rf FxD_rf rfl (fun _ _ => ⟨rfl, rfl⟩) (fun Q hQ => ?_))
          refine hv_up (fun _ => fX12_judge.eq_2 ..) ?_
          try simp only [↓reduceIte, Nat.reduceEqDiff, Option.bind_some, ao_let, n_ell, hs, a3]
          try simp (disch := first | omega | assumption) only [↓reduceIte, Nat.reduceEqDiff, Option.bind_some, ao_let, t_le, f_le, t_lt, f_lt, f_eq, u_eq, u_n1, u_n2, n_cl, n_lt, n_le, n_eq, n_ltl, n_llt, n_lel, n_lle, n_eql, n_leq, n_add, n_mul, n_sub, n_addl, n_ladd, n_mull, n_lmul, n_subl, Int32.reduceLT, Int32.reduceLE, Int32.reduceAdd, Int32.reduceSub, Int32.reduceMul, Int32.reduceToNatClampNeg, not_false_eq_true, not_true_eq_false, or_false, false_or, or_self, and_self, false_and, true_and, and_false, and_true, true_or, or_true, Nat.reduceAdd, Nat.reduceMul, Nat.reduceLT, Nat.reduceLeDiff, ne_eq, n_ell, hs, a3]
          refine hv_bind hmD ?_
          rintro _ (⟨rfl, q⟩ | ⟨rfl, -⟩)
          · exact absurd q no
          · simp only [↓reduceIte, ao_let, n_addl]
            exact hQ
        · -- it may come
          obtain ⟨hJK, h2, h3, h4, h5, h6, h7, h8⟩ := id h
          obtain ⟨⟨a1, a2, -⟩, a4, a5, a6, a7⟩ := id hJK
          obtain ⟨b1, b2, b3, b4, b5, b6, b7⟩ := a4 j hjk
          have eC2 : ∀ x i, x ≠ 519 → x ≠ 521 + (d + 1) → ao_cp (ao_u C 519 d (nI j)) (521 + d) (521 + (d + 1)) 0 0 26 x i = C x i := fun x i q1 q2 => by rw [cp_n q2, u_n1 q1]
          have eR : ∀ p, p < 26 → ao_cp (ao_u C 519 d (nI j)) (521 + d) (521 + (d + 1)) 0 0 26 (521 + (d + 1)) p = C (521 + d) p := fun p hp => by rw [cp_e hp, u_n1 (by omega)]
          have eS : ∀ i, ao_cp (ao_u C 519 d (nI j)) (521 + d) (521 + (d + 1)) 0 0 26 519 i = ao_u C 519 d (nI j) 519 i := fun i => cp_n (by omega)
          generalize ao_cp (ao_u C 519 d (nI j)) (521 + d) (521 + (d + 1)) 0 0 26 = C2 at *
          refine hv_bind (c_apl (D := D) hc hg (show j < 14 by omega) (show d + 1 < 15 by omega) (by rw [eC2 _ _ (by omega) (by omega)]; exact b4) (RecL_mv b7 (fun n => ⟨eC2 _ _ (by omega) (by omega), eC2 _ _ (by omega) (by omega)⟩) (fun n => ⟨rfl, rfl⟩))) ?_
          rintro C3 ⟨g1, g2⟩
          have eC3 : ∀ x i, x ≠ 519 → x ≠ 521 + (d + 1) → C3 x i = C x i := fun x i q1 q2 => by rw [g1 x i (by omega), eC2 x i q1 q2]
          have e4 : C3 518 4 = nI τ := by rw [eC3 _ _ (by omega) (by omega)]; exact h4
          have e9 : C3 25 9 = nI k := by rw [eC3 _ _ (by omega) (by omega)]; exact a2
          have fC3 : FxC C C3 := fun x i q1 q2 q3 => eC3 x i q2 (by omega)
          have e0 : (0 < e) = True := eq_true (by omega)
          simp only [e0, ↓reduceIte]
          by_cases ht : τ < 20000
          · -- both go on
            obtain ⟨D2, k1, k2, k3⟩ := d_rowL (σ := σ) (d := d) (j := j) (x1 := nI (τ + 1)) hs (by omega) (by omega) 26 0 (ao_u (ao_u (ao_u D 595 d (nI (j + 1))) 594 d (nI j)) 597 j 1) rfl
            have eD : ∀ x i, x < 594 → ao_u D2 595 (d + 1) 0 x i = D x i := fun x i q => by rw [u_ne (by omega), k2 x i (by omega), u_ne (by omega), u_ne (by omega), u_ne (by omega)]
            have e94 : ∀ i, ao_u D2 595 (d + 1) 0 594 i = if i = d then nI j else D 594 i := fun i => by
              rw [u_ne (by omega), k2 _ _ (by omega), u_ne (by omega)]
              by_cases q : i = d
              · subst q; rw [u_eq, if_pos rfl]
              · rw [u_ne (by omega), u_ne (by omega), if_neg q]
            have e95 : ∀ i, i ≤ d → ao_u D2 595 (d + 1) 0 595 i = if i = d then nI (j + 1) else D 595 i := fun i hi => by
              rw [u_ne (by omega), k2 _ _ (by omega), u_ne (by omega), u_ne (by omega)]
              by_cases q : i = d
              · subst q; rw [u_eq, if_pos rfl]
              · rw [u_ne (by omega), if_neg q]
            have e97 : ∀ i, ao_u D2 595 (d + 1) 0 597 i = if i = j then 1 else D 597 i := fun i => by
              rw [u_ne (by omega), k2 _ _ (by omega)]
              by_cases q : i = j
              · subst q; rw [u_eq, if_pos rfl]
              · rw [u_ne (by omega), u_ne (by omega), u_ne (by omega), if_neg q]
            have e96 : ∀ d' p, d' ≤ d → p < 26 → ao_u D2 595 (d + 1) 0 596 (d' * 26 + p) = D 596 (d' * 26 + p) := fun d' p q1 q2 => by
              rw [u_ne (by omega), k2 _ _ (by omega), u_ne (by omega), u_ne (by omega), u_ne (by omega)]
            have e96' : ∀ p, p < 26 → ao_u D2 595 (d + 1) 0 596 ((d + 1) * 26 + p) = if D 593 (j * 26 + p) = 0 then D 596 (d * 26 + p) else D 591 (j * 26 + p) := fun p hp => by
              rw [u_ne (by omega), k1 p (by omega) hp, u_ne (by omega), u_ne (by omega), u_ne (by omega), u_ne (by omega), u_ne (by omega), u_ne (by omega), u_ne (by omega), u_ne (by omega), u_ne (by omega)]
            have e95' : ao_u D2 595 (d + 1) 0 595 (d + 1) = 0 := u_eq
            have fD : FxD D (ao_u D2 595 (d + 1) 0) := fun x i q1 q2 => by
              by_cases q : x < 594
              · exact eD x i q
              · rw [u_ne (by omega), k2 x i (by omega), u_ne (by omega), u_ne (by omega), u_ne (by omega)]
            have e82 : ao_u D2 595 (d + 1) 0 537 82 = D 537 82 := eD _ _ (by omega)
            generalize ao_u D2 595 (d + 1) 0 = D3 at *
            -- the reference comes to the next length
            have run : ∀ Q, hv (fun a => fX12_judge a 81 537 (nI (τ + 1)) (nI (d + 1)) 0 0 0 0 0 D3 σ) Q → hv (fun a => fX12_judge a 115 537 (nI τ) (nI d) (nI j) 0 0 0 0 D σ) Q := by
              intro Q hQ
              refine hv_up (fun _ => fX12_judge.eq_2 ..) ?_
              try simp only [↓reduceIte, Nat.reduceEqDiff, Option.bind_some, ao_let, n_ell, hs, a3]
              try simp (disch := first | omega | assumption) only [↓reduceIte, Nat.reduceEqDiff, Option.bind_some, ao_let, t_le, f_le, t_lt, f_lt, f_eq, u_eq, u_n1, u_n2, n_cl, n_lt, n_le, n_eq, n_ltl, n_llt, n_lel, n_lle, n_eql, n_leq, n_add, n_mul, n_sub, n_addl, n_ladd, n_mull, n_lmul, n_subl, Int32.reduceLT, Int32.reduceLE, Int32.reduceAdd, Int32.reduceSub, Int32.reduceMul, Int32.reduceToNatClampNeg, not_false_eq_true, not_true_eq_false, or_false, false_or, or_self, and_self, false_and, true_and, and_false, and_true, true_or, or_true, Nat.reduceAdd, Nat.reduceMul, Nat.reduceLT, Nat.reduceLeDiff, ne_eq, n_ell, hs, a3]
              refine hv_bind hmD ?_
              rintro _ (⟨rfl, -⟩ | ⟨rfl, q⟩)
              · simp only [show ((1 : Int32) = 0) = False from by decide, ↓reduceIte]
                refine hv_up (fun _ => fX12_judge.eq_2 ..) ?_
                try simp only [↓reduceIte, Nat.reduceEqDiff, Option.bind_some, ao_let, n_ell, hs, a3]
                try simp (disch := first | omega | assumption) only [↓reduceIte, Nat.reduceEqDiff, Option.bind_some, ao_let, t_le, f_le, t_lt, f_lt, f_eq, u_eq, u_n1, u_n2, n_cl, n_lt, n_le, n_eq, n_ltl, n_llt, n_lel, n_lle, n_eql, n_leq, n_add, n_mul, n_sub, n_addl, n_ladd, n_mull, n_lmul, n_subl, Int32.reduceLT, Int32.reduceLE, Int32.reduceAdd, Int32.reduceSub, Int32.reduceMul, Int32.reduceToNatClampNeg, not_false_eq_true, not_true_eq_false, or_false, false_or, or_self, and_self, false_and, true_and, and_false, and_true, true_or, or_true, Nat.reduceAdd, Nat.reduceMul, Nat.reduceLT, Nat.reduceLeDiff, ne_eq, n_ell, hs, a3]
                exact k3 Q hQ
              · exact absurd yes q
            -- the class comes there
            have C4 : ∀ x i, ¬ (x = 518 ∧ i = 4) → ao_u C3 518 4 (nI (τ + 1)) x i = C3 x i := fun x i q => u_ne (by omega)
            have fC4 : FxC C (ao_u C3 518 4 (nI (τ + 1))) := fun x i q1 q2 q3 => by rw [C4 x i q1]; exact fC3 x i q1 q2 q3
            have hJ : Jv k (d + 1) (pl ||| ((1 : Int32) <<< (nI j &&& 31))) (τ + 1) (ao_u C3 518 4 (nI (τ + 1))) D3 := by
              refine ⟨JK_mv hJK fC4 fD, by omega, by omega, u_eq, fun d' q1 p hp => ?_, fun i hi => ?_, ?_, fun d' q1 => ?_⟩
              · rw [C4 _ _ (by omega)]
                by_cases q : d' = d + 1
                · subst q
                  rw [e96' p hp]
                  rcases (b5 p hp).2 with z | z
                  · rw [if_pos z, (g2 p hp).2 (by rw [z]; decide), eR p hp]
                    exact h5 d (Nat.le_refl _) p hp
                  · rw [if_neg (by rw [z]; decide), (g2 p hp).1 z]
                · rw [eC3 _ _ (by omega) (by omega), e96 d' p (by omega) hp]
                  exact h5 d' (by omega) p hp
              · rw [e97 i, bt_or pl (show i < 26 by omega) (show j < 26 by omega)]
                by_cases q : i = j
                · subst q
                  rw [if_pos rfl, decide_eq_true rfl, Bool.or_true, if_pos rfl]
                · rw [if_neg q, decide_eq_false q, Bool.or_false]
                  exact h6 i hi
              · rw [cnt_add hk14 hjk yes.1, h7]
              · by_cases q : d' = d
                · subst q
                  refine ⟨j, hjk, ?_, ?_⟩
                  · rw [C4 _ _ (by omega), g1 _ _ (by omega), eS, u_eq]
                  · rw [e94, if_pos rfl]
                · obtain ⟨o, o1, o2, o3⟩ := h8 d' (by omega)
                  refine ⟨o, o1, ?_, ?_⟩
                  · rw [C4 _ _ (by omega), g1 _ _ (by omega), eS, u_ne (by omega)]; exact o2
                  · rw [e94, if_neg q]; exact o3
            have hch := ih (d + 1) (by omega) (e - 1) (pl ||| ((1 : Int32) <<< (nI j &&& 31))) (τ + 1) (ao_u C3 518 4 (nI (τ + 1))) D3 (by omega) hJ e95'
            have ent : hv (fun a => fGT a (e - 1) 0 518 25 13 (nI (d + 1)) (pl ||| ((1 : Int32) <<< (nI j &&& 31))) 0 0 0 C3 ρ) (JO σ k (d + 1) (pl ||| ((1 : Int32) <<< (nI j &&& 31))) (ao_u C3 518 4 (nI (τ + 1))) D3 (fun Q => hv (fun a => fX12_judge a 81 537 (nI (τ + 1)) (nI (d + 1)) 0 0 0 0 0 D3 σ) Q)) := by
              by_cases q : d + 1 = k
              · rw [if_pos q] at hch
                refine hv_up (fun _ => fGT.eq_2 ..) ?_
                try simp only [↓reduceIte, Nat.reduceEqDiff, Option.bind_some, ao_let, n_ell, hc, e4, e9]
                try simp (disch := first | omega | assumption) only [↓reduceIte, Nat.reduceEqDiff, Option.bind_some, ao_let, t_le, f_le, t_lt, f_lt, f_eq, u_eq, u_n1, u_n2, n_cl, n_lt, n_le, n_eq, n_ltl, n_llt, n_lel, n_lle, n_eql, n_leq, n_add, n_mul, n_sub, n_addl, n_ladd, n_mull, n_lmul, n_subl, Int32.reduceLT, Int32.reduceLE, Int32.reduceAdd, Int32.reduceSub, Int32.reduceMul, Int32.reduceToNatClampNeg, not_false_eq_true, not_true_eq_false, or_false, false_or, or_self, and_self, false_and, true_and, and_false, and_true, true_or, or_true, Nat.reduceAdd, Nat.reduceMul, Nat.reduceLT, Nat.reduceLeDiff, ne_eq, n_ell, hc, e4, e9]
                exact hch
              · rw [if_neg q] at hch
                refine hv_up (fun _ => fGT.eq_2 ..) ?_
                try simp only [↓reduceIte, Nat.reduceEqDiff, Option.bind_some, ao_let, n_ell, hc, e4, e9]
                try simp (disch := first | omega | assumption) only [↓reduceIte, Nat.reduceEqDiff, Option.bind_some, ao_let, t_le, f_le, t_lt, f_lt, f_eq, u_eq, u_n1, u_n2, n_cl, n_lt, n_le, n_eq, n_ltl, n_llt, n_lel, n_lle, n_eql, n_leq, n_add, n_mul, n_sub, n_addl, n_ladd, n_mull, n_lmul, n_subl, Int32.reduceLT, Int32.reduceLE, Int32.reduceAdd, Int32.reduceSub, Int32.reduceMul, Int32.reduceToNatClampNeg, not_false_eq_true, not_true_eq_false, or_false, false_or, or_self, and_self, false_and, true_and, and_false, and_true, true_or, or_true, Nat.reduceAdd, Nat.reduceMul, Nat.reduceLT, Nat.reduceLeDiff, ne_eq, n_ell, hc, e4, e9]
                exact hch
            refine hv_bind ent ?_
            rintro ⟨y1, C5⟩ ⟨fC5, hy⟩
            dsimp only at fC5 hy ⊢
            have fC6 : FxC C C5 := FxC_tr fC4 fC5
            rcases hy with ⟨rfl, D', q1, q2, q3, q4⟩ | ⟨rfl, D', q1, q2, q3⟩ | ⟨rfl, D', τ', q1, q2, q3, q4, q5⟩
            · simp only [show ((1 : Int32) = 0) = False from by decide, ↓reduceIte]
              exact hv_some ⟨fC6, Or.inl ⟨rfl, D', run _ q1, FxD_tr fD q2, q3, q4⟩⟩
            · simp only [show ((-1 : Int32) = 0) = False from by decide, ↓reduceIte]
              exact hv_some ⟨fC6, Or.inr (Or.inl ⟨rfl, D', run _ q1, FxD_tr fD q2, q3.trans e82⟩)⟩
            · simp only [↓reduceIte]
              -- back: record j is taken out again
              obtain ⟨x1, x2, x3, x4, x5, x6, x7, x8⟩ := q1
              have d94 : D' 594 d = nI j := by rw [(q4 d (by omega)).1, e94, if_pos rfl]
              have d95 : D' 595 d = nI (j + 1) := by rw [(q4 d (by omega)).2, e95 d (Nat.le_refl _), if_pos rfl]
              have d76 : D' 537 76 = nI k := x1.1.2.2
              have hJ' : Jv k d pl τ' C5 (ao_u D' 597 j 0) := by
                refine ⟨JK_mv x1 FxC_rf (fun x i z1 z2 => u_ne (by omega)), h2, x3, x4, fun d' z1 p hp => by rw [u_ne (by omega)]; exact x5 d' (by omega) p hp, fun i hi => ?_, h7, fun d' z1 => ?_⟩
                · by_cases z : i = j
                  · subst z
                    rw [u_eq, if_neg (by rw [yes.1]; decide)]
                  · rw [u_ne (by omega), x6 i hi, bt_or pl (show i < 26 by omega) (show j < 26 by omega), decide_eq_false z, Bool.or_false]
                · obtain ⟨o, o1, o2, o3⟩ := x8 d' (by omega)
                  exact ⟨o, o1, o2, by rw [u_ne (by omega)]; exact o3⟩
              refine hv_up (fun _ => fGT.eq_2 ..) ?_
              try simp only [↓reduceIte, Nat.reduceEqDiff, Option.bind_some, ao_let, n_ell]
              try simp (disch := first | omega | assumption) only [↓reduceIte, Nat.reduceEqDiff, Option.bind_some, ao_let, t_le, f_le, t_lt, f_lt, f_eq, u_eq, u_n1, u_n2, n_cl, n_lt, n_le, n_eq, n_ltl, n_llt, n_lel, n_lle, n_eql, n_leq, n_add, n_mul, n_sub, n_addl, n_ladd, n_mull, n_lmul, n_subl, Int32.reduceLT, Int32.reduceLE, Int32.reduceAdd, Int32.reduceSub, Int32.reduceMul, Int32.reduceToNatClampNeg, not_false_eq_true, not_true_eq_false, or_false, false_or, or_self, and_self, false_and, true_and, and_false, and_true, true_or, or_true, Nat.reduceAdd, Nat.reduceMul, Nat.reduceLT, Nat.reduceLeDiff, ne_eq, n_ell]
              refine hv_mono (ihs (j + 1) (by omega) τ' C5 (ao_u D' 597 j 0) hJ') (fun y hy => JO_tr hy fC6 (FxD_tr (FxD_tr fD q2) (fun x i z1 z2 => u_ne (by omega))) (by rw [u_ne (by omega), q3, e82]) (fun d' z => ?_) (fun Q hQ => run Q (q5 Q ?_)))
              · rw [u_ne (by omega), u_ne (by omega), (q4 d' (by omega)).1, (q4 d' (by omega)).2, e94, e95 d' (by omega), if_neg (by omega), if_neg (by omega)]
                exact ⟨rfl, rfl⟩
              · have d76' : ao_u D' 597 j 0 537 76 = nI k := by rw [u_ne (by omega)]; exact d76
                have d95' : ao_u D' 597 j 0 595 d = nI (j + 1) := by rw [u_ne (by omega)]; exact d95
                refine hv_up (fun _ => fX12_judge.eq_2 ..) ?_
                try simp only [↓reduceIte, Nat.reduceEqDiff, Option.bind_some, ao_let, n_ell, hs, n_addm, d94]
                try simp (disch := first | omega | assumption) only [↓reduceIte, Nat.reduceEqDiff, Option.bind_some, ao_let, t_le, f_le, t_lt, f_lt, f_eq, u_eq, u_n1, u_n2, n_cl, n_lt, n_le, n_eq, n_ltl, n_llt, n_lel, n_lle, n_eql, n_leq, n_add, n_mul, n_sub, n_addl, n_ladd, n_mull, n_lmul, n_subl, Int32.reduceLT, Int32.reduceLE, Int32.reduceAdd, Int32.reduceSub, Int32.reduceMul, Int32.reduceToNatClampNeg, not_false_eq_true, not_true_eq_false, or_false, false_or, or_self, and_self, false_and, true_and, and_false, and_true, true_or, or_true, Nat.reduceAdd, Nat.reduceMul, Nat.reduceLT, Nat.reduceLeDiff, ne_eq, n_ell, hs, n_addm, d94]
                generalize ao_u D' 597 j 0 = D4 at *
                refine hv_up (fun _ => fX12_judge.eq_2 ..) ?_
                try simp only [↓reduceIte, Nat.reduceEqDiff, Option.bind_some, ao_let, n_ell, hs, d76']
                try simp (disch := first | omega | assumption) only [↓reduceIte, Nat.reduceEqDiff, Option.bind_some, ao_let, t_le, f_le, t_lt, f_lt, f_eq, u_eq, u_n1, u_n2, n_cl, n_lt, n_le, n_eq, n_ltl, n_llt, n_lel, n_lle, n_eql, n_leq, n_add, n_mul, n_sub, n_addl, n_ladd, n_mull, n_lmul, n_subl, Int32.reduceLT, Int32.reduceLE, Int32.reduceAdd, Int32.reduceSub, Int32.reduceMul, Int32.reduceToNatClampNeg, not_false_eq_true, not_true_eq_false, or_false, false_or, or_self, and_self, false_and, true_and, and_false, and_true, true_or, or_true, Nat.reduceAdd, Nat.reduceMul, Nat.reduceLT, Nat.reduceLeDiff, ne_eq, n_ell, hs, d76']
                refine hv_up (fun _ => fX12_judge.eq_2 ..) ?_
                try simp only [↓reduceIte, Nat.reduceEqDiff, Option.bind_some, ao_let, n_ell, hs, d95']
                try simp (disch := first | omega | assumption) only [↓reduceIte, Nat.reduceEqDiff, Option.bind_some, ao_let, t_le, f_le, t_lt, f_lt, f_eq, u_eq, u_n1, u_n2, n_cl, n_lt, n_le, n_eq, n_ltl, n_llt, n_lel, n_lle, n_eql, n_leq, n_add, n_mul, n_sub, n_addl, n_ladd, n_mull, n_lmul, n_subl, Int32.reduceLT, Int32.reduceLE, Int32.reduceAdd, Int32.reduceSub, Int32.reduceMul, Int32.reduceToNatClampNeg, not_false_eq_true, not_true_eq_false, or_false, false_or, or_self, and_self, false_and, true_and, and_false, and_true, true_or, or_true, Nat.reduceAdd, Nat.reduceMul, Nat.reduceLT, Nat.reduceLeDiff, ne_eq, n_ell, hs, d95']
                exact hQ
          · -- too many
            obtain rfl : τ = 20000 := by omega
            refine hv_bind (P := fun y => y = (-1, C3)) ?_ ?_
            · refine hv_up (fun _ => fGT.eq_2 ..) ?_
              try simp only [↓reduceIte, Nat.reduceEqDiff, Option.bind_some, ao_let, n_ell, hc, e4]
              try simp (disch := first | omega | assumption) only [↓reduceIte, Nat.reduceEqDiff, Option.bind_some, ao_let, t_le, f_le, t_lt, f_lt, f_eq, u_eq, u_n1, u_n2, n_cl, n_lt, n_le, n_eq, n_ltl, n_llt, n_lel, n_lle, n_eql, n_leq, n_add, n_mul, n_sub, n_addl, n_ladd, n_mull, n_lmul, n_subl, Int32.reduceLT, Int32.reduceLE, Int32.reduceAdd, Int32.reduceSub, Int32.reduceMul, Int32.reduceToNatClampNeg, not_false_eq_true, not_true_eq_false, or_false, false_or, or_self, and_self, false_and, true_and, and_false, and_true, true_or, or_true, Nat.reduceAdd, Nat.reduceMul, Nat.reduceLT, Nat.reduceLeDiff, ne_eq, n_ell, hc, e4]
              exact hv_some rfl
            rintro _ rfl
            simp only [show ((-1 : Int32) = 0) = False from by decide, ↓reduceIte]
            refine hv_some ⟨fC3, Or.inr (Or.inl ⟨rfl, D, ?_, FxD_rf, rfl⟩)⟩
            refine hv_up (fun _ => fX12_judge.eq_2 ..) ?_
            try simp only [↓reduceIte, Nat.reduceEqDiff, Option.bind_some, ao_let, n_ell, hs, a3]
            try simp (disch := first | omega | assumption) only [↓reduceIte, Nat.reduceEqDiff, Option.bind_some, ao_let, t_le, f_le, t_lt, f_lt, f_eq, u_eq, u_n1, u_n2, n_cl, n_lt, n_le, n_eq, n_ltl, n_llt, n_lel, n_lle, n_eql, n_leq, n_add, n_mul, n_sub, n_addl, n_ladd, n_mull, n_lmul, n_subl, Int32.reduceLT, Int32.reduceLE, Int32.reduceAdd, Int32.reduceSub, Int32.reduceMul, Int32.reduceToNatClampNeg, not_false_eq_true, not_true_eq_false, or_false, false_or, or_self, and_self, false_and, true_and, and_false, and_true, true_or, or_true, Nat.reduceAdd, Nat.reduceMul, Nat.reduceLT, Nat.reduceLeDiff, ne_eq, n_ell, hs, a3]
            refine hv_bind hmD ?_
            rintro _ (⟨rfl, -⟩ | ⟨rfl, q⟩)
            · simp only [show ((1 : Int32) = 0) = False from by decide, ↓reduceIte]
              refine hv_up (fun _ => fX12_judge.eq_2 ..) ?_
              try simp only [↓reduceIte, Nat.reduceEqDiff, Option.bind_some, ao_let, n_ell, hs, a3]
              try simp (disch := first | omega | assumption) only [↓reduceIte, Nat.reduceEqDiff, Option.bind_some, ao_let, t_le, f_le, t_lt, f_lt, f_eq, u_eq, u_n1, u_n2, n_cl, n_lt, n_le, n_eq, n_ltl, n_llt, n_lel, n_lle, n_eql, n_leq, n_add, n_mul, n_sub, n_addl, n_ladd, n_mull, n_lmul, n_subl, Int32.reduceLT, Int32.reduceLE, Int32.reduceAdd, Int32.reduceSub, Int32.reduceMul, Int32.reduceToNatClampNeg, not_false_eq_true, not_true_eq_false, or_false, false_or, or_self, and_self, false_and, true_and, and_false, and_true, true_or, or_true, Nat.reduceAdd, Nat.reduceMul, Nat.reduceLT, Nat.reduceLeDiff, ne_eq, n_ell, hs, a3]
              exact hv_some rfl
            · exact absurd yes q
    rw [if_neg (by omega)]
    have a3 := h.1.1.2.2
    refine hv_mono (B k 0 (by omega) τ C D h) (fun y hy => JO_tr hy FxC_rf FxD_rf rfl (fun _ _ => ⟨rfl, rfl⟩) (fun Q hQ => ?_))
    refine hv_up (fun _ => fX12_judge.eq_2 ..) ?_
    try simp only [↓reduceIte, Nat.reduceEqDiff, Option.bind_some, ao_let, n_ell, hs, a3]
    try simp (disch := first | omega | assumption) only [↓reduceIte, Nat.reduceEqDiff, Option.bind_some, ao_let, t_le, f_le, t_lt, f_lt, f_eq, u_eq, u_n1, u_n2, n_cl, n_lt, n_le, n_eq, n_ltl, n_llt, n_lel, n_lle, n_eql, n_leq, n_add, n_mul, n_sub, n_addl, n_ladd, n_mull, n_lmul, n_subl, Int32.reduceLT, Int32.reduceLE, Int32.reduceAdd, Int32.reduceSub, Int32.reduceMul, Int32.reduceToNatClampNeg, not_false_eq_true, not_true_eq_false, or_false, false_or, or_self, and_self, false_and, true_and, and_false, and_true, true_or, or_true, Nat.reduceAdd, Nat.reduceMul, Nat.reduceLT, Nat.reduceLeDiff, ne_eq, n_ell, hs, a3]
    refine hv_up (fun _ => fX12_judge.eq_2 ..) ?_
    try simp only [↓reduceIte, Nat.reduceEqDiff, Option.bind_some, ao_let, n_ell, hs, h95]
    try simp (disch := first | omega | assumption) only [↓reduceIte, Nat.reduceEqDiff, Option.bind_some, ao_let, t_le, f_le, t_lt, f_lt, f_eq, u_eq, u_n1, u_n2, n_cl, n_lt, n_le, n_eq, n_ltl, n_llt, n_lel, n_lle, n_eql, n_leq, n_add, n_mul, n_sub, n_addl, n_ladd, n_mull, n_lmul, n_subl, Int32.reduceLT, Int32.reduceLE, Int32.reduceAdd, Int32.reduceSub, Int32.reduceMul, Int32.reduceToNatClampNeg, not_false_eq_true, not_true_eq_false, or_false, false_or, or_self, and_self, false_and, true_and, and_false, and_true, true_or, or_true, Nat.reduceAdd, Nat.reduceMul, Nat.reduceLT, Nat.reduceLeDiff, ne_eq, n_ell, hs, h95]
    exact hQ
end Ccf
