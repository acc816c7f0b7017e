set_option linter.unusedSimpArgs false
set_option linter.unusedVariables false
theorem byte_rng (x : Int32) : -128 ≤ ((x.toInt8.toInt32).toInt8.toInt32).toInt ∧ ((x.toInt8.toInt32).toInt8.toInt32).toInt ≤ 127 := by
  have h := (x.toInt8.toInt32).toInt8
  rw [Int8.toInt_toInt32]
  have h1 := ((x.toInt8.toInt32).toInt8).le_toInt
  have h2 := ((x.toInt8.toInt32).toInt8).toInt_lt
  constructor
  · simpa using h1
  · have : ((x.toInt8.toInt32).toInt8).toInt < 128 := by simpa using h2
    omega
theorem four_pair {C D : ao_M} {ρ σ : ao_H} (hc : ShA ρ) (hs : ShD σ) (x : Int32) (n : Nat) (hn : n + 4 ≤ 1000) (c4 : C 0 4 = nI n) (d6 : D 537 6 = nI n) (ht : ∀ i, i < 1000 → C 1 i = D 539 i ∧ (-128 ≤ (C 1 i).toInt ∧ (C 1 i).toInt ≤ 127)) {Q : ao_M → ao_M → Prop}
    (q : ∀ C' D', C' 0 4 = nI (n + 4) → D' 537 6 = nI (n + 4) → (∀ i, i < 1000 → C' 1 i = D' 539 i ∧ (-128 ≤ (C' 1 i).toInt ∧ (C' 1 i).toInt ≤ 127)) → (∀ a i, a ≠ 1 → ¬ (a = 0 ∧ i = 4) → C' a i = C a i) → (∀ a i, a ≠ 539 → ¬ (a = 537 ∧ i = 6) → D' a i = D a i) → Q C' D') :
    hv (fun m => gX10_addToTape m 0 x C ρ) (fun C' => hv (fun m => gX12_four m 537 x D σ) (fun D' => Q C' D')) := by
  unfold gX10_addToTape
  refine hv_up (fun _ => fX10_addToTape.eq_2 ..) ?_
  try simp only [↓reduceIte, Nat.reduceEqDiff, Option.bind_some, ao_let, n_ell, hc]
  try simp (disch := first | omega | assumption) only [↓reduceIte, Nat.reduceEqDiff, Option.bind_some, ao_let, t_le, f_le, t_lt, f_lt, f_eq, u_eq, u_n1, u_n2, n_cl, n_lt, n_le, n_eq, n_ltl, n_llt, n_lel, n_lle, n_eql, n_leq, n_add, n_mul, n_sub, n_addl, n_ladd, n_mull, n_lmul, n_subl, Int32.reduceLT, Int32.reduceLE, Int32.reduceAdd, Int32.reduceSub, Int32.reduceMul, Int32.reduceToNatClampNeg, not_false_eq_true, not_true_eq_false, or_false, false_or, or_self, and_self, false_and, true_and, and_false, and_true, true_or, or_true, Nat.reduceAdd, Nat.reduceMul, Nat.reduceLT, Nat.reduceLeDiff, ne_eq, n_ell, hc]
  refine hv_up (fun _ => fX10_addToTape.eq_2 ..) ?_
  try simp only [↓reduceIte, Nat.reduceEqDiff, Option.bind_some, ao_let, n_ell, hc, c4]
  try simp (disch := first | omega | assumption) only [↓reduceIte, Nat.reduceEqDiff, Option.bind_some, ao_let, t_le, f_le, t_lt, f_lt, f_eq, u_eq, u_n1, u_n2, n_cl, n_lt, n_le, n_eq, n_ltl, n_llt, n_lel, n_lle, n_eql, n_leq, n_add, n_mul, n_sub, n_addl, n_ladd, n_mull, n_lmul, n_subl, Int32.reduceLT, Int32.reduceLE, Int32.reduceAdd, Int32.reduceSub, Int32.reduceMul, Int32.reduceToNatClampNeg, not_false_eq_true, not_true_eq_false, or_false, false_or, or_self, and_self, false_and, true_and, and_false, and_true, true_or, or_true, Nat.reduceAdd, Nat.reduceMul, Nat.reduceLT, Nat.reduceLeDiff, ne_eq, n_ell, hc, c4]
  refine hv_up (fun _ => fX10_addToTape.eq_2 ..) ?_
  try simp only [↓reduceIte, Nat.reduceEqDiff, Option.bind_some, ao_let, n_ell, hc, c4]
  try simp (disch := first | omega | assumption) only [↓reduceIte, Nat.reduceEqDiff, Option.bind_some, ao_let, t_le, f_le, t_lt, f_lt, f_eq, u_eq, u_n1, u_n2, n_cl, n_lt, n_le, n_eq, n_ltl, n_llt, n_lel, n_lle, n_eql, n_leq, n_add, n_mul, n_sub, n_addl, n_ladd, n_mull, n_lmul, n_subl, Int32.reduceLT, Int32.reduceLE, Int32.reduceAdd, Int32.reduceSub, Int32.reduceMul, Int32.reduceToNatClampNeg, not_false_eq_true, not_true_eq_false, or_false, false_or, or_self, and_self, false_and, true_and, and_false, and_true, true_or, or_true, Nat.reduceAdd, Nat.reduceMul, Nat.reduceLT, Nat.reduceLeDiff, ne_eq, n_ell, hc, c4]
  refine hv_up (fun _ => fX10_addToTape.eq_2 ..) ?_
  try simp only [↓reduceIte, Nat.reduceEqDiff, Option.bind_some, ao_let, n_ell, hc, c4]
  try simp (disch := first | omega | assumption) only [↓reduceIte, Nat.reduceEqDiff, Option.bind_some, ao_let, t_le, f_le, t_lt, f_lt, f_eq, u_eq, u_n1, u_n2, n_cl, n_lt, n_le, n_eq, n_ltl, n_llt, n_lel, n_lle, n_eql, n_leq, n_add, n_mul, n_sub, n_addl, n_ladd, n_mull, n_lmul, n_subl, Int32.reduceLT, Int32.reduceLE, Int32.reduceAdd, Int32.reduceSub, Int32.reduceMul, Int32.reduceToNatClampNeg, not_false_eq_true, not_true_eq_false, or_false, false_or, or_self, and_self, false_and, true_and, and_false, and_true, true_or, or_true, Nat.reduceAdd, Nat.reduceMul, Nat.reduceLT, Nat.reduceLeDiff, ne_eq, n_ell, hc, c4]
  refine hv_up (fun _ => fX10_addToTape.eq_2 ..) ?_
  try simp only [↓reduceIte, Nat.reduceEqDiff, Option.bind_some, ao_let, n_ell, hc, c4]
  try simp (disch := first | omega | assumption) only [↓reduceIte, Nat.reduceEqDiff, Option.bind_some, ao_let, t_le, f_le, t_lt, f_lt, f_eq, u_eq, u_n1, u_n2, n_cl, n_lt, n_le, n_eq, n_ltl, n_llt, n_lel, n_lle, n_eql, n_leq, n_add, n_mul, n_sub, n_addl, n_ladd, n_mull, n_lmul, n_subl, Int32.reduceLT, Int32.reduceLE, Int32.reduceAdd, Int32.reduceSub, Int32.reduceMul, Int32.reduceToNatClampNeg, not_false_eq_true, not_true_eq_false, or_false, false_or, or_self, and_self, false_and, true_and, and_false, and_true, true_or, or_true, Nat.reduceAdd, Nat.reduceMul, Nat.reduceLT, Nat.reduceLeDiff, ne_eq, n_ell, hc, c4]
  refine hv_up (fun _ => fX10_addToTape.eq_2 ..) ?_
  try simp only [↓reduceIte, Nat.reduceEqDiff, Option.bind_some, ao_let, n_ell, hc, c4]
  try simp (disch := first | omega | assumption) only [↓reduceIte, Nat.reduceEqDiff, Option.bind_some, ao_let, t_le, f_le, t_lt, f_lt, f_eq, u_eq, u_n1, u_n2, n_cl, n_lt, n_le, n_eq, n_ltl, n_llt, n_lel, n_lle, n_eql, n_leq, n_add, n_mul, n_sub, n_addl, n_ladd, n_mull, n_lmul, n_subl, Int32.reduceLT, Int32.reduceLE, Int32.reduceAdd, Int32.reduceSub, Int32.reduceMul, Int32.reduceToNatClampNeg, not_false_eq_true, not_true_eq_false, or_false, false_or, or_self, and_self, false_and, true_and, and_false, and_true, true_or, or_true, Nat.reduceAdd, Nat.reduceMul, Nat.reduceLT, Nat.reduceLeDiff, ne_eq, n_ell, hc, c4]
  refine hv_up (fun _ => fX10_addToTape.eq_2 ..) ?_
  try simp only [↓reduceIte, Nat.reduceEqDiff, Option.bind_some, ao_let, n_ell, hc, c4]
  try simp (disch := first | omega | assumption) only [↓reduceIte, Nat.reduceEqDiff, Option.bind_some, ao_let, t_le, f_le, t_lt, f_lt, f_eq, u_eq, u_n1, u_n2, n_cl, n_lt, n_le, n_eq, n_ltl, n_llt, n_lel, n_lle, n_eql, n_leq, n_add, n_mul, n_sub, n_addl, n_ladd, n_mull, n_lmul, n_subl, Int32.reduceLT, Int32.reduceLE, Int32.reduceAdd, Int32.reduceSub, Int32.reduceMul, Int32.reduceToNatClampNeg, not_false_eq_true, not_true_eq_false, or_false, false_or, or_self, and_self, false_and, true_and, and_false, and_true, true_or, or_true, Nat.reduceAdd, Nat.reduceMul, Nat.reduceLT, Nat.reduceLeDiff, ne_eq, n_ell, hc, c4]
  refine hv_up (fun _ => fX10_addToTape.eq_2 ..) ?_
  try simp only [↓reduceIte, Nat.reduceEqDiff, Option.bind_some, ao_let, n_ell, hc, c4]
  try simp (disch := first | omega | assumption) only [↓reduceIte, Nat.reduceEqDiff, Option.bind_some, ao_let, t_le, f_le, t_lt, f_lt, f_eq, u_eq, u_n1, u_n2, n_cl, n_lt, n_le, n_eq, n_ltl, n_llt, n_lel, n_lle, n_eql, n_leq, n_add, n_mul, n_sub, n_addl, n_ladd, n_mull, n_lmul, n_subl, Int32.reduceLT, Int32.reduceLE, Int32.reduceAdd, Int32.reduceSub, Int32.reduceMul, Int32.reduceToNatClampNeg, not_false_eq_true, not_true_eq_false, or_false, false_or, or_self, and_self, false_and, true_and, and_false, and_true, true_or, or_true, Nat.reduceAdd, Nat.reduceMul, Nat.reduceLT, Nat.reduceLeDiff, ne_eq, n_ell, hc, c4]
  refine hv_up (fun _ => fX10_addToTape.eq_2 ..) ?_
  try simp only [↓reduceIte, Nat.reduceEqDiff, Option.bind_some, ao_let, n_ell, hc, c4]
  try simp (disch := first | omega | assumption) only [↓reduceIte, Nat.reduceEqDiff, Option.bind_some, ao_let, t_le, f_le, t_lt, f_lt, f_eq, u_eq, u_n1, u_n2, n_cl, n_lt, n_le, n_eq, n_ltl, n_llt, n_lel, n_lle, n_eql, n_leq, n_add, n_mul, n_sub, n_addl, n_ladd, n_mull, n_lmul, n_subl, Int32.reduceLT, Int32.reduceLE, Int32.reduceAdd, Int32.reduceSub, Int32.reduceMul, Int32.reduceToNatClampNeg, not_false_eq_true, not_true_eq_false, or_false, false_or, or_self, and_self, false_and, true_and, and_false, and_true, true_or, or_true, Nat.reduceAdd, Nat.reduceMul, Nat.reduceLT, Nat.reduceLeDiff, ne_eq, n_ell, hc, c4]
  refine hv_up (fun _ => fX10_addToTape.eq_2 ..) ?_
  try simp only [↓reduceIte, Nat.reduceEqDiff, Option.bind_some, ao_let, n_ell, hc, c4]
  try simp (disch := first | omega | assumption) only [↓reduceIte, Nat.reduceEqDiff, Option.bind_some, ao_let, t_le, f_le, t_lt, f_lt, f_eq, u_eq, u_n1, u_n2, n_cl, n_lt, n_le, n_eq, n_ltl, n_llt, n_lel, n_lle, n_eql, n_leq, n_add, n_mul, n_sub, n_addl, n_ladd, n_mull, n_lmul, n_subl, Int32.reduceLT, Int32.reduceLE, Int32.reduceAdd, Int32.reduceSub, Int32.reduceMul, Int32.reduceToNatClampNeg, not_false_eq_true, not_true_eq_false, or_false, false_or, or_self, and_self, false_and, true_and, and_false, and_true, true_or, or_true, Nat.reduceAdd, Nat.reduceMul, Nat.reduceLT, Nat.reduceLeDiff, ne_eq, n_ell, hc, c4]
  refine hv_some ?_
  unfold gX12_four
  refine hv_up (fun _ => fX12_four.eq_2 ..) ?_
  try simp only [↓reduceIte, Nat.reduceEqDiff, Option.bind_some, ao_let, n_ell, hs]
  try simp (disch := first | omega | assumption) only [↓reduceIte, Nat.reduceEqDiff, Option.bind_some, ao_let, t_le, f_le, t_lt, f_lt, f_eq, u_eq, u_n1, u_n2, n_cl, n_lt, n_le, n_eq, n_ltl, n_llt, n_lel, n_lle, n_eql, n_leq, n_add, n_mul, n_sub, n_addl, n_ladd, n_mull, n_lmul, n_subl, Int32.reduceLT, Int32.reduceLE, Int32.reduceAdd, Int32.reduceSub, Int32.reduceMul, Int32.reduceToNatClampNeg, not_false_eq_true, not_true_eq_false, or_false, false_or, or_self, and_self, false_and, true_and, and_false, and_true, true_or, or_true, Nat.reduceAdd, Nat.reduceMul, Nat.reduceLT, Nat.reduceLeDiff, ne_eq, n_ell, hs]
  refine hv_up (fun _ => fX12_four.eq_2 ..) ?_
  try simp only [↓reduceIte, Nat.reduceEqDiff, Option.bind_some, ao_let, n_ell, hs, d6]
  try simp (disch := first | omega | assumption) only [↓reduceIte, Nat.reduceEqDiff, Option.bind_some, ao_let, t_le, f_le, t_lt, f_lt, f_eq, u_eq, u_n1, u_n2, n_cl, n_lt, n_le, n_eq, n_ltl, n_llt, n_lel, n_lle, n_eql, n_leq, n_add, n_mul, n_sub, n_addl, n_ladd, n_mull, n_lmul, n_subl, Int32.reduceLT, Int32.reduceLE, Int32.reduceAdd, Int32.reduceSub, Int32.reduceMul, Int32.reduceToNatClampNeg, not_false_eq_true, not_true_eq_false, or_false, false_or, or_self, and_self, false_and, true_and, and_false, and_true, true_or, or_true, Nat.reduceAdd, Nat.reduceMul, Nat.reduceLT, Nat.reduceLeDiff, ne_eq, n_ell, hs, d6]
  refine hv_up (fun _ => fX12_four.eq_2 ..) ?_
  try simp only [↓reduceIte, Nat.reduceEqDiff, Option.bind_some, ao_let, n_ell, hs, d6]
  try simp (disch := first | omega | assumption) only [↓reduceIte, Nat.reduceEqDiff, Option.bind_some, ao_let, t_le, f_le, t_lt, f_lt, f_eq, u_eq, u_n1, u_n2, n_cl, n_lt, n_le, n_eq, n_ltl, n_llt, n_lel, n_lle, n_eql, n_leq, n_add, n_mul, n_sub, n_addl, n_ladd, n_mull, n_lmul, n_subl, Int32.reduceLT, Int32.reduceLE, Int32.reduceAdd, Int32.reduceSub, Int32.reduceMul, Int32.reduceToNatClampNeg, not_false_eq_true, not_true_eq_false, or_false, false_or, or_self, and_self, false_and, true_and, and_false, and_true, true_or, or_true, Nat.reduceAdd, Nat.reduceMul, Nat.reduceLT, Nat.reduceLeDiff, ne_eq, n_ell, hs, d6]
  refine hv_up (fun _ => fX12_four.eq_2 ..) ?_
  try simp only [↓reduceIte, Nat.reduceEqDiff, Option.bind_some, ao_let, n_ell, hs, d6]
  try simp (disch := first | omega | assumption) only [↓reduceIte, Nat.reduceEqDiff, Option.bind_some, ao_let, t_le, f_le, t_lt, f_lt, f_eq, u_eq, u_n1, u_n2, n_cl, n_lt, n_le, n_eq, n_ltl, n_llt, n_lel, n_lle, n_eql, n_leq, n_add, n_mul, n_sub, n_addl, n_ladd, n_mull, n_lmul, n_subl, Int32.reduceLT, Int32.reduceLE, Int32.reduceAdd, Int32.reduceSub, Int32.reduceMul, Int32.reduceToNatClampNeg, not_false_eq_true, not_true_eq_false, or_false, false_or, or_self, and_self, false_and, true_and, and_false, and_true, true_or, or_true, Nat.reduceAdd, Nat.reduceMul, Nat.reduceLT, Nat.reduceLeDiff, ne_eq, n_ell, hs, d6]
  refine hv_up (fun _ => fX12_four.eq_2 ..) ?_
  try simp only [↓reduceIte, Nat.reduceEqDiff, Option.bind_some, ao_let, n_ell, hs, d6]
  try simp (disch := first | omega | assumption) only [↓reduceIte, Nat.reduceEqDiff, Option.bind_some, ao_let, t_le, f_le, t_lt, f_lt, f_eq, u_eq, u_n1, u_n2, n_cl, n_lt, n_le, n_eq, n_ltl, n_llt, n_lel, n_lle, n_eql, n_leq, n_add, n_mul, n_sub, n_addl, n_ladd, n_mull, n_lmul, n_subl, Int32.reduceLT, Int32.reduceLE, Int32.reduceAdd, Int32.reduceSub, Int32.reduceMul, Int32.reduceToNatClampNeg, not_false_eq_true, not_true_eq_false, or_false, false_or, or_self, and_self, false_and, true_and, and_false, and_true, true_or, or_true, Nat.reduceAdd, Nat.reduceMul, Nat.reduceLT, Nat.reduceLeDiff, ne_eq, n_ell, hs, d6]
  refine hv_up (fun _ => fX12_four.eq_2 ..) ?_
  try simp only [↓reduceIte, Nat.reduceEqDiff, Option.bind_some, ao_let, n_ell, hs, d6]
  try simp (disch := first | omega | assumption) only [↓reduceIte, Nat.reduceEqDiff, Option.bind_some, ao_let, t_le, f_le, t_lt, f_lt, f_eq, u_eq, u_n1, u_n2, n_cl, n_lt, n_le, n_eq, n_ltl, n_llt, n_lel, n_lle, n_eql, n_leq, n_add, n_mul, n_sub, n_addl, n_ladd, n_mull, n_lmul, n_subl, Int32.reduceLT, Int32.reduceLE, Int32.reduceAdd, Int32.reduceSub, Int32.reduceMul, Int32.reduceToNatClampNeg, not_false_eq_true, not_true_eq_false, or_false, false_or, or_self, and_self, false_and, true_and, and_false, and_true, true_or, or_true, Nat.reduceAdd, Nat.reduceMul, Nat.reduceLT, Nat.reduceLeDiff, ne_eq, n_ell, hs, d6]
  refine hv_some (q _ _ ?_ ?_ ?_ ?_ ?_)
  · try simp only [↓reduceIte, Nat.reduceEqDiff, Option.bind_some, ao_let, n_ell]
    try simp (disch := first | omega | assumption) only [↓reduceIte, Nat.reduceEqDiff, Option.bind_some, ao_let, t_le, f_le, t_lt, f_lt, f_eq, u_eq, u_n1, u_n2, n_cl, n_lt, n_le, n_eq, n_ltl, n_llt, n_lel, n_lle, n_eql, n_leq, n_add, n_mul, n_sub, n_addl, n_ladd, n_mull, n_lmul, n_subl, Int32.reduceLT, Int32.reduceLE, Int32.reduceAdd, Int32.reduceSub, Int32.reduceMul, Int32.reduceToNatClampNeg, not_false_eq_true, not_true_eq_false, or_false, false_or, or_self, and_self, false_and, true_and, and_false, and_true, true_or, or_true, Nat.reduceAdd, Nat.reduceMul, Nat.reduceLT, Nat.reduceLeDiff, ne_eq, n_ell]
  · try simp only [↓reduceIte, Nat.reduceEqDiff, Option.bind_some, ao_let, n_ell]
    try simp (disch := first | omega | assumption) only [↓reduceIte, Nat.reduceEqDiff, Option.bind_some, ao_let, t_le, f_le, t_lt, f_lt, f_eq, u_eq, u_n1, u_n2, n_cl, n_lt, n_le, n_eq, n_ltl, n_llt, n_lel, n_lle, n_eql, n_leq, n_add, n_mul, n_sub, n_addl, n_ladd, n_mull, n_lmul, n_subl, Int32.reduceLT, Int32.reduceLE, Int32.reduceAdd, Int32.reduceSub, Int32.reduceMul, Int32.reduceToNatClampNeg, not_false_eq_true, not_true_eq_false, or_false, false_or, or_self, and_self, false_and, true_and, and_false, and_true, true_or, or_true, Nat.reduceAdd, Nat.reduceMul, Nat.reduceLT, Nat.reduceLeDiff, ne_eq, n_ell]
  · intro i hi
    by_cases e3 : i = n + 1 + 1 + 1
    · subst e3
      try simp only [↓reduceIte, Nat.reduceEqDiff, Option.bind_some, ao_let, n_ell]
      try simp (disch := first | omega | assumption) only [↓reduceIte, Nat.reduceEqDiff, Option.bind_some, ao_let, t_le, f_le, t_lt, f_lt, f_eq, u_eq, u_n1, u_n2, n_cl, n_lt, n_le, n_eq, n_ltl, n_llt, n_lel, n_lle, n_eql, n_leq, n_add, n_mul, n_sub, n_addl, n_ladd, n_mull, n_lmul, n_subl, Int32.reduceLT, Int32.reduceLE, Int32.reduceAdd, Int32.reduceSub, Int32.reduceMul, Int32.reduceToNatClampNeg, not_false_eq_true, not_true_eq_false, or_false, false_or, or_self, and_self, false_and, true_and, and_false, and_true, true_or, or_true, Nat.reduceAdd, Nat.reduceMul, Nat.reduceLT, Nat.reduceLeDiff, ne_eq, n_ell]
      exact byte_rng _
    · by_cases e2 : i = n + 1 + 1
      · subst e2
        try simp only [↓reduceIte, Nat.reduceEqDiff, Option.bind_some, ao_let, n_ell]
        try simp (disch := first | omega | assumption) only [↓reduceIte, Nat.reduceEqDiff, Option.bind_some, ao_let, t_le, f_le, t_lt, f_lt, f_eq, u_eq, u_n1, u_n2, n_cl, n_lt, n_le, n_eq, n_ltl, n_llt, n_lel, n_lle, n_eql, n_leq, n_add, n_mul, n_sub, n_addl, n_ladd, n_mull, n_lmul, n_subl, Int32.reduceLT, Int32.reduceLE, Int32.reduceAdd, Int32.reduceSub, Int32.reduceMul, Int32.reduceToNatClampNeg, not_false_eq_true, not_true_eq_false, or_false, false_or, or_self, and_self, false_and, true_and, and_false, and_true, true_or, or_true, Nat.reduceAdd, Nat.reduceMul, Nat.reduceLT, Nat.reduceLeDiff, ne_eq, n_ell]
        exact byte_rng _
      · by_cases e1 : i = n + 1
        · subst e1
          try simp only [↓reduceIte, Nat.reduceEqDiff, Option.bind_some, ao_let, n_ell]
          try simp (disch := first | omega | assumption) only [↓reduceIte, Nat.reduceEqDiff, Option.bind_some, ao_let, t_le, f_le, t_lt, f_lt, f_eq, u_eq, u_n1, u_n2, n_cl, n_lt, n_le, n_eq, n_ltl, n_llt, n_lel, n_lle, n_eql, n_leq, n_add, n_mul, n_sub, n_addl, n_ladd, n_mull, n_lmul, n_subl, Int32.reduceLT, Int32.reduceLE, Int32.reduceAdd, Int32.reduceSub, Int32.reduceMul, Int32.reduceToNatClampNeg, not_false_eq_true, not_true_eq_false, or_false, false_or, or_self, and_self, false_and, true_and, and_false, and_true, true_or, or_true, Nat.reduceAdd, Nat.reduceMul, Nat.reduceLT, Nat.reduceLeDiff, ne_eq, n_ell]
          exact byte_rng _
        · by_cases e0 : i = n
          · subst e0
            try simp only [↓reduceIte, Nat.reduceEqDiff, Option.bind_some, ao_let, n_ell]
            try simp (disch := first | omega | assumption) only [↓reduceIte, Nat.reduceEqDiff, Option.bind_some, ao_let, t_le, f_le, t_lt, f_lt, f_eq, u_eq, u_n1, u_n2, n_cl, n_lt, n_le, n_eq, n_ltl, n_llt, n_lel, n_lle, n_eql, n_leq, n_add, n_mul, n_sub, n_addl, n_ladd, n_mull, n_lmul, n_subl, Int32.reduceLT, Int32.reduceLE, Int32.reduceAdd, Int32.reduceSub, Int32.reduceMul, Int32.reduceToNatClampNeg, not_false_eq_true, not_true_eq_false, or_false, false_or, or_self, and_self, false_and, true_and, and_false, and_true, true_or, or_true, Nat.reduceAdd, Nat.reduceMul, Nat.reduceLT, Nat.reduceLeDiff, ne_eq, n_ell]
            exact byte_rng _
          · try simp only [↓reduceIte, Nat.reduceEqDiff, Option.bind_some, ao_let, n_ell]
            try simp (disch := first | omega | assumption) only [↓reduceIte, Nat.reduceEqDiff, Option.bind_some, ao_let, t_le, f_le, t_lt, f_lt, f_eq, u_eq, u_n1, u_n2, n_cl, n_lt, n_le, n_eq, n_ltl, n_llt, n_lel, n_lle, n_eql, n_leq, n_add, n_mul, n_sub, n_addl, n_ladd, n_mull, n_lmul, n_subl, Int32.reduceLT, Int32.reduceLE, Int32.reduceAdd, Int32.reduceSub, Int32.reduceMul, Int32.reduceToNatClampNeg, not_false_eq_true, not_true_eq_false, or_false, false_or, or_self, and_self, false_and, true_and, and_false, and_true, true_or, or_true, Nat.reduceAdd, Nat.reduceMul, Nat.reduceLT, Nat.reduceLeDiff, ne_eq, n_ell]
            exact ht i hi
  · intro a i h1 h2
    simp (disch := omega) only [u_ne]
  · intro a i h1 h2
    simp (disch := omega) only [u_ne]
