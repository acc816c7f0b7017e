set_option linter.unusedSimpArgs false
set_option linter.unusedVariables false
section Ccf
variable {C D : ao_M} {ρ σ : ao_H} {k : Nat}
theorem FxC_rf : FxC C C := fun _ _ _ _ _ => rfl
theorem FxD_rf : FxD D D := fun _ _ _ _ => rfl
theorem bt_zz {x : Int32} {j : Nat} (hj : j < 26) : (((x >>> (nI j &&& 31)) &&& 1) = 0) = (bt x j = false) := bt_z x hj
set_option maxHeartbeats 8000000 in
/-- the class tries record j, or goes on -/
theorem c_58 (hc : ShA ρ) (hg : ShG ρ) {d j e τ : Nat} {pl : Int32} (h : Jv k d pl τ C D) (hd : d < k) (hj : j < k) {Q : Int32 × ao_M → Prop} (no : ¬ mcP k d j pl C D → hv (fun a => fGT a e 58 518 25 13 (nI d) pl (nI (j + 1)) 0 0 C ρ) Q)
    (yes : mcP k d j pl C D → hv (fun a => (gX6_apply a 25 (nI j) (521 + (d + 1)) (ao_cp (ao_u C 519 d (nI j)) (521 + d) (521 + (d + 1)) 0 0 26) ρ).bind fun p39 => if 0 < e then (fGT a (e - 1) 0 518 25 13 (nI (d + 1)) (pl ||| ((1 : Int32) <<< (nI j &&& 31))) 0 0 0 p39 ρ).bind fun p40 => if p40.1 = 0 then fGT a e 195 518 25 13 (nI d) pl (nI j) 1 0 p40.2 ρ else some (p40.1, p40.2) else none) Q) : hv (fun a => fGT a e 58 518 25 13 (nI d) pl (nI j) 0 0 C ρ) Q := by
  obtain ⟨⟨⟨a1, a2, a3⟩, a4, a5, a6, a7⟩, h2, h3, h4, h5, h6, h7, h8⟩ := h
  obtain ⟨b1, b2, b3, b4, b5, b6, b7⟩ := a4 j hj
  have n195 : ∀ s0 : Int32, ¬ mcP k d j pl C D → hv (fun a => fGT a e 195 518 25 13 (nI d) pl (nI j) s0 0 C ρ) Q := by
    intro s0 q
    refine hv_up (fun _ => fGT.eq_2 ..) ?_
    try simp only [↓reduceIte, Nat.reduceEqDiff, Option.bind_some, ao_let, n_ell]
    try simp (disch := first | omega | assumption) only [↓reduceIte, Nat.reduceEqDiff, Option.bind_some, ao_let, t_le, f_le, t_lt, f_lt, f_eq, u_eq, u_n1, u_n2, n_cl, n_lt, n_le, n_eq, n_ltl, n_llt, n_lel, n_lle, n_eql, n_leq, n_add, n_mul, n_sub, n_addl, n_ladd, n_mull, n_lmul, n_subl, Int32.reduceLT, Int32.reduceLE, Int32.reduceAdd, Int32.reduceSub, Int32.reduceMul, Int32.reduceToNatClampNeg, not_false_eq_true, not_true_eq_false, or_false, false_or, or_self, and_self, false_and, true_and, and_false, and_true, true_or, or_true, Nat.reduceAdd, Nat.reduceMul, Nat.reduceLT, Nat.reduceLeDiff, ne_eq, n_ell]
    exact no q
  have n103 : ¬ mcP k d j pl C D → hv (fun a => fGT a e 103 518 25 13 (nI d) pl (nI j) 0 0 C ρ) Q := by
    intro q
    refine hv_up (fun _ => fGT.eq_2 ..) ?_
    try simp only [↓reduceIte, Nat.reduceEqDiff, Option.bind_some, ao_let, n_ell]
    try simp (disch := first | omega | assumption) only [↓reduceIte, Nat.reduceEqDiff, Option.bind_some, ao_let, t_le, f_le, t_lt, f_lt, f_eq, u_eq, u_n1, u_n2, n_cl, n_lt, n_le, n_eq, n_ltl, n_llt, n_lel, n_lle, n_eql, n_leq, n_add, n_mul, n_sub, n_addl, n_ladd, n_mull, n_lmul, n_subl, Int32.reduceLT, Int32.reduceLE, Int32.reduceAdd, Int32.reduceSub, Int32.reduceMul, Int32.reduceToNatClampNeg, not_false_eq_true, not_true_eq_false, or_false, false_or, or_self, and_self, false_and, true_and, and_false, and_true, true_or, or_true, Nat.reduceAdd, Nat.reduceMul, Nat.reduceLT, Nat.reduceLeDiff, ne_eq, n_ell]
    refine hv_up (fun _ => fGT.eq_2 ..) ?_
    simp only [Nat.reduceEqDiff, ↓reduceIte]
    exact n195 0 q
  refine hv_up (fun _ => fGT.eq_2 ..) ?_
  simp (disch := omega) only [Nat.reduceEqDiff, ↓reduceIte, hc, a2, n_le, n_lle, f_le, bt_zz, Option.bind_some, n_cl, n_ltl, f_lt, or_self, not_false_eq_true]
  refine hv_if (fun z => ?_) (fun z => n103 (fun q => z q.1))
  refine hv_if (fun w => ?_) (fun w => n103 (fun q => w ?_))
  · have w' := (an_nt _ _).mp w
    have h2' : ∀ i, i < k → i ≠ j → bt pl i = false → C 29 j ≤ C 30 i := fun i hi hne hb => by
      by_cases q : C 29 j ≤ C 30 i
      · exact q
      · have := w' i ((a6 j hj i).mpr ⟨hi, q⟩)
        rw [hb] at this
        exact absurd this (by decide)
    obtain ⟨g0, g1, g2, g3, g4, g5, g6, g7, g8, g9, g10, g11, g12, g13, g14⟩ := id hg
    have r0 := g12 d (by omega)
    have r1 := g13 d (by omega)
    have r2 := g14 d (by omega)
    have s0 := g12 (d + 1) (by omega)
    have s1 := g13 (d + 1) (by omega)
    have s2 := g14 (d + 1) (by omega)
    refine hv_up (fun _ => fGT.eq_2 ..) ?_
    try simp only [↓reduceIte, Nat.reduceEqDiff, Option.bind_some, ao_let, n_ell, hc, r0]
    try simp (disch := first | omega | assumption) only [↓reduceIte, Nat.reduceEqDiff, Option.bind_some, ao_let, t_le, f_le, t_lt, f_lt, f_eq, u_eq, u_n1, u_n2, n_cl, n_lt, n_le, n_eq, n_ltl, n_llt, n_lel, n_lle, n_eql, n_leq, n_add, n_mul, n_sub, n_addl, n_ladd, n_mull, n_lmul, n_subl, Int32.reduceLT, Int32.reduceLE, Int32.reduceAdd, Int32.reduceSub, Int32.reduceMul, Int32.reduceToNatClampNeg, not_false_eq_true, not_true_eq_false, or_false, false_or, or_self, and_self, false_and, true_and, and_false, and_true, true_or, or_true, Nat.reduceAdd, Nat.reduceMul, Nat.reduceLT, Nat.reduceLeDiff, ne_eq, n_ell, hc, r0]
    refine hv_bind (c_rar (D := D) hc hg (show j < 14 by omega) (show d < 15 by omega) b3 b6) ?_
    rintro _ (⟨rfl, q⟩ | ⟨rfl, p, q1, q2, q3⟩)
    · have mc : mcP k d j pl C D := ⟨z, h2', q⟩
      have one : ((1 : Int32) = 0) = False := eq_false (by decide)
      try simp only [↓reduceIte, Nat.reduceEqDiff, Option.bind_some, ao_let, n_ell, hc, one, r0, r1, r2, s0, s1, s2]
      try simp (disch := first | omega | assumption) only [↓reduceIte, Nat.reduceEqDiff, Option.bind_some, ao_let, t_le, f_le, t_lt, f_lt, f_eq, u_eq, u_n1, u_n2, n_cl, n_lt, n_le, n_eq, n_ltl, n_llt, n_lel, n_lle, n_eql, n_leq, n_add, n_mul, n_sub, n_addl, n_ladd, n_mull, n_lmul, n_subl, Int32.reduceLT, Int32.reduceLE, Int32.reduceAdd, Int32.reduceSub, Int32.reduceMul, Int32.reduceToNatClampNeg, not_false_eq_true, not_true_eq_false, or_false, false_or, or_self, and_self, false_and, true_and, and_false, and_true, true_or, or_true, Nat.reduceAdd, Nat.reduceMul, Nat.reduceLT, Nat.reduceLeDiff, ne_eq, n_ell, hc, one, r0, r1, r2, s0, s1, s2]
      exact yes mc
    · simp only [↓reduceIte]
      exact n195 1 (fun mc => q3 (mc.2.2 p q1 q2))
  · rw [an_nt]
    intro i hi
    obtain ⟨i1, i2⟩ := (a6 j hj i).mp hi
    by_cases e : bt pl i = true
    · exact e
    · have hij : i ≠ j := fun e' => by
        subst e'
        exact i2 (a5 i (by omega))
      exact absurd (q.2.1 i i1 hij (by simpa using e)) i2
end Ccf
