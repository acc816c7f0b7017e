set_option linter.unusedSimpArgs false
set_option linter.unusedVariables false
section Ccf2
variable {C D : ao_M} {ρ σ : ao_H} {k : Nat} {d j e τ : Nat} {pl : Int32} {Q : Int32 × ao_M → Prop}
theorem d_115y (hs : ShD σ) (hjk : j < k) (hd : d < k) (hk : k ≤ 14) (ht : τ < 20000) (a3 : D 537 76 = nI k) (hm : hv (fun a => gX12_mayCome a 537 (nI j) (nI d) D σ) (fun y => y = (1, D))) (hQ : hv (fun a => fX12_judge a 214 537 (nI (τ + 1)) (nI d) (nI j) (nI 0) 0 0 0 (ao_u (ao_u (ao_u D 595 d (nI (j + 1))) 594 d (nI j)) 597 j 1) σ) Q) : hv (fun a => fX12_judge a 115 537 (nI τ) (nI d) (nI j) 0 0 0 0 D σ) Q := by
  refine hv_up (fun _ => fX12_judge.eq_2 ..) ?_
  try simp only [↓reduceIte, Nat.reduceEqDiff, Option.bind_some, ao_let, n_ell, hs, a3]
  try simp (disch := first | omega | assumption) only [↓reduceIte, Nat.reduceEqDiff, Option.bind_some, ao_let, t_le, f_le, t_lt, f_lt, f_eq, u_eq, u_n1, u_n2, n_cl, n_lt, n_le, n_eq, n_ltl, n_llt, n_lel, n_lle, n_eql, n_leq, n_add, n_mul, n_sub, n_addl, n_ladd, n_mull, n_lmul, n_subl, Int32.reduceLT, Int32.reduceLE, Int32.reduceAdd, Int32.reduceSub, Int32.reduceMul, Int32.reduceToNatClampNeg, not_false_eq_true, not_true_eq_false, or_false, false_or, or_self, and_self, false_and, true_and, and_false, and_true, true_or, or_true, Nat.reduceAdd, Nat.reduceMul, Nat.reduceLT, Nat.reduceLeDiff, ne_eq, n_ell, hs, a3]
  refine hv_bind hm ?_
  rintro _ rfl
  simp only [show ((1 : Int32) = 0) = False from by decide, ↓reduceIte]
  refine hv_up (fun _ => fX12_judge.eq_2 ..) ?_
  try simp only [↓reduceIte, Nat.reduceEqDiff, Option.bind_some, ao_let, n_ell, hs, a3]
  try simp (disch := first | omega | assumption) only [↓reduceIte, Nat.reduceEqDiff, Option.bind_some, ao_let, t_le, f_le, t_lt, f_lt, f_eq, u_eq, u_n1, u_n2, n_cl, n_lt, n_le, n_eq, n_ltl, n_llt, n_lel, n_lle, n_eql, n_leq, n_add, n_mul, n_sub, n_addl, n_ladd, n_mull, n_lmul, n_subl, Int32.reduceLT, Int32.reduceLE, Int32.reduceAdd, Int32.reduceSub, Int32.reduceMul, Int32.reduceToNatClampNeg, not_false_eq_true, not_true_eq_false, or_false, false_or, or_self, and_self, false_and, true_and, and_false, and_true, true_or, or_true, Nat.reduceAdd, Nat.reduceMul, Nat.reduceLT, Nat.reduceLeDiff, ne_eq, n_ell, hs, a3]
  exact hQ
theorem d_115m (hs : ShD σ) (hjk : j < k) (hd : d < k) (hk : k ≤ 14) (hτ : τ = 20000) (a3 : D 537 76 = nI k) (hm : hv (fun a => gX12_mayCome a 537 (nI j) (nI d) D σ) (fun y => y = (1, D))) : hv (fun a => fX12_judge a 115 537 (nI τ) (nI d) (nI j) 0 0 0 0 D σ) (fun w => w = (-1, D)) := by
  refine hv_up (fun _ => fX12_judge.eq_2 ..) ?_
  try simp only [↓reduceIte, Nat.reduceEqDiff, Option.bind_some, ao_let, n_ell, hs, a3]
  try simp (disch := first | omega | assumption) only [↓reduceIte, Nat.reduceEqDiff, Option.bind_some, ao_let, t_le, f_le, t_lt, f_lt, f_eq, u_eq, u_n1, u_n2, n_cl, n_lt, n_le, n_eq, n_ltl, n_llt, n_lel, n_lle, n_eql, n_leq, n_add, n_mul, n_sub, n_addl, n_ladd, n_mull, n_lmul, n_subl, Int32.reduceLT, Int32.reduceLE, Int32.reduceAdd, Int32.reduceSub, Int32.reduceMul, Int32.reduceToNatClampNeg, not_false_eq_true, not_true_eq_false, or_false, false_or, or_self, and_self, false_and, true_and, and_false, and_true, true_or, or_true, Nat.reduceAdd, Nat.reduceMul, Nat.reduceLT, Nat.reduceLeDiff, ne_eq, n_ell, hs, a3]
  refine hv_bind hm ?_
  rintro _ rfl
  simp only [show ((1 : Int32) = 0) = False from by decide, ↓reduceIte]
  refine hv_up (fun _ => fX12_judge.eq_2 ..) ?_
  try simp only [↓reduceIte, Nat.reduceEqDiff, Option.bind_some, ao_let, n_ell, hs, a3]
  try simp (disch := first | omega | assumption) only [↓reduceIte, Nat.reduceEqDiff, Option.bind_some, ao_let, t_le, f_le, t_lt, f_lt, f_eq, u_eq, u_n1, u_n2, n_cl, n_lt, n_le, n_eq, n_ltl, n_llt, n_lel, n_lle, n_eql, n_leq, n_add, n_mul, n_sub, n_addl, n_ladd, n_mull, n_lmul, n_subl, Int32.reduceLT, Int32.reduceLE, Int32.reduceAdd, Int32.reduceSub, Int32.reduceMul, Int32.reduceToNatClampNeg, not_false_eq_true, not_true_eq_false, or_false, false_or, or_self, and_self, false_and, true_and, and_false, and_true, true_or, or_true, Nat.reduceAdd, Nat.reduceMul, Nat.reduceLT, Nat.reduceLeDiff, ne_eq, n_ell, hs, a3]
  exact hv_some rfl
end Ccf2
