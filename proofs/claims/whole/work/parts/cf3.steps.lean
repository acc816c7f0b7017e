set_option linter.unusedSimpArgs false
set_option linter.unusedVariables false
section Ccf3
variable {C D : ao_M} {ρ σ : ao_H} {k : Nat} {d j e τ : Nat} {pl : Int32} {Q : Int32 × ao_M → Prop}
theorem d_bk0 {x y : Int32} (hs : ShD σ) (hjk : j < k) (hd : d < k) (hk : k ≤ 14) (d94 : D 594 d = nI j) (hx : x + (-1 : Int32) = nI d) (h81 : hv (fun a => fX12_judge a 81 537 (nI τ) (nI d) 0 0 0 0 0 (ao_u D 597 j 0) σ) Q) : hv (fun a => fX12_judge a 154 537 (nI τ) x y 0 0 0 0 D σ) Q := by
  have c1 : (nI d < (0 : Int32)) = False := by
    rw [show (0 : Int32) = nI 0 from rfl, n_lt (by omega) (by omega)]
    exact eq_false (by omega)
  have c2 : (nI j < (0 : Int32)) = False := by
    rw [show (0 : Int32) = nI 0 from rfl, n_lt (by omega) (by omega)]
    exact eq_false (by omega)
  refine hv_up (fun _ => fX12_judge.eq_2 ..) ?_
  simp only [Nat.reduceEqDiff, ↓reduceIte]
  rw [hx]
  simp only [ao_let, c1, ↓reduceIte]
  simp (disch := omega) only [hs, Option.bind_some, ↓reduceIte, c1, c2, n_cl, d94, f_le, or_self, not_false_eq_true]
  exact h81
theorem d_bk (hs : ShD σ) (hjk : j < k) (hd : d < k) (hk : k ≤ 14) (d94 : D 594 d = nI j) (d95 : D 595 d = nI (j + 1)) (d76 : D 537 76 = nI k) (hQ : hv (fun a => fX12_judge a 115 537 (nI τ) (nI d) (nI (j + 1)) 0 0 0 0 (ao_u D 597 j 0) σ) Q) : hv (fun a => fX12_judge a 154 537 (nI τ) (nI (d + 1)) (nI k) 0 0 0 0 D σ) Q := by
  have d76' : ao_u D 597 j 0 537 76 = nI k := by rw [u_ne (by omega)]; exact d76
  have d95' : ao_u D 597 j 0 595 d = nI (j + 1) := by rw [u_ne (by omega)]; exact d95
  exact d_bk0 hs hjk hd hk d94 n_addm (d_ent hs hd hk d76' d95' (by omega) hQ)
theorem d_lst (hs : ShD σ) (hk : k ≤ 14) (hd : d < k) (a3 : D 537 76 = nI k) (hQ : hv (fun a => fX12_judge a 154 537 (nI τ) (nI d) (nI k) 0 0 0 0 D σ) Q) : hv (fun a => fX12_judge a 115 537 (nI τ) (nI d) (nI k) 0 0 0 0 D σ) Q := by
  refine hv_up (fun _ => fX12_judge.eq_2 ..) ?_
  try simp only [↓reduceIte, Nat.reduceEqDiff, Option.bind_some, ao_let, n_ell, hs, a3]
  try simp (disch := first | omega | assumption) only [↓reduceIte, Nat.reduceEqDiff, Option.bind_some, ao_let, t_le, f_le, t_lt, f_lt, f_eq, u_eq, u_n1, u_n2, n_cl, n_lt, n_le, n_eq, n_ltl, n_llt, n_lel, n_lle, n_eql, n_leq, n_add, n_mul, n_sub, n_addl, n_ladd, n_mull, n_lmul, n_subl, Int32.reduceLT, Int32.reduceLE, Int32.reduceAdd, Int32.reduceSub, Int32.reduceMul, Int32.reduceToNatClampNeg, not_false_eq_true, not_true_eq_false, or_false, false_or, or_self, and_self, false_and, true_and, and_false, and_true, true_or, or_true, Nat.reduceAdd, Nat.reduceMul, Nat.reduceLT, Nat.reduceLeDiff, ne_eq, n_ell, hs, a3]
  refine hv_up (fun _ => fX12_judge.eq_2 ..) ?_
  try simp only [↓reduceIte, Nat.reduceEqDiff, Option.bind_some, ao_let, n_ell, hs, a3]
  try simp (disch := first | omega | assumption) only [↓reduceIte, Nat.reduceEqDiff, Option.bind_some, ao_let, t_le, f_le, t_lt, f_lt, f_eq, u_eq, u_n1, u_n2, n_cl, n_lt, n_le, n_eq, n_ltl, n_llt, n_lel, n_lle, n_eql, n_leq, n_add, n_mul, n_sub, n_addl, n_ladd, n_mull, n_lmul, n_subl, Int32.reduceLT, Int32.reduceLE, Int32.reduceAdd, Int32.reduceSub, Int32.reduceMul, Int32.reduceToNatClampNeg, not_false_eq_true, not_true_eq_false, or_false, false_or, or_self, and_self, false_and, true_and, and_false, and_true, true_or, or_true, Nat.reduceAdd, Nat.reduceMul, Nat.reduceLT, Nat.reduceLeDiff, ne_eq, n_ell, hs, a3]
  exact hQ
end Ccf3
