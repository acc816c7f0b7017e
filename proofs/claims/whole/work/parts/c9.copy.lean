set_option linter.unusedSimpArgs false
set_option linter.unusedVariables false
/-! ===== a program's code is copied ===== -/
section Cc9
variable {C D : ao_M} {ρ σ : ao_H}
def inM (M : ao_M) (z : Nat) (L : Nat) : ao_M := ao_u (ao_u (ao_zr (ao_zr (ao_zr (ao_u M z 0 (nI L)) (z + 1)) (z + 1 + 1)) (z + 1 + 1 + 1)) z 4 0) z 5 0
def inH (ρ : ao_H) (z L : Nat) : ao_H := ao_r (ao_nw (ao_r (ao_nw (ao_r (ao_nw ρ (z + 1) 0 L L) z 1 (some (z + 1))) (z + 1 + 1) 0 L L) z 2 (some (z + 1 + 1))) (z + 1 + 1 + 1) 0 L L) z 3 (some (z + 1 + 1 + 1))
theorem c_init {M : ao_M} {z L : Nat} (kz : ρ.2.1 z = 11) (hz : ρ.2.2.2.1 = some (z + 1)) (hL : L ≤ 1000) : hv (fun n => gX1_init n z (nI L) M ρ) (fun y => y = (inM M z L, inH ρ z L)) := by
  unfold gX1_init
  refine hv_up (fun _ => fX1_init.eq_2 ..) ?_
  try simp only [↓reduceIte, Nat.reduceEqDiff, Option.bind_some, ao_let, n_ell]
  try simp (disch := first | omega | assumption) only [↓reduceIte, Nat.reduceEqDiff, Option.bind_some, ao_let, t_le, f_le, t_lt, f_lt, f_eq, u_eq, u_n1, u_n2, n_cl, n_lt, n_le, n_eq, n_ltl, n_llt, n_lel, n_lle, n_eql, n_leq, n_add, n_mul, n_sub, n_addl, n_ladd, n_mull, n_lmul, n_subl, Int32.reduceLT, Int32.reduceLE, Int32.reduceAdd, Int32.reduceSub, Int32.reduceMul, Int32.reduceToNatClampNeg, not_false_eq_true, not_true_eq_false, or_false, false_or, or_self, and_self, false_and, true_and, and_false, and_true, true_or, or_true, Nat.reduceAdd, Nat.reduceMul, Nat.reduceLT, Nat.reduceLeDiff, ne_eq, n_ell]
  refine hv_up (fun _ => fX1_init.eq_2 ..) ?_
  try simp only [↓reduceIte, Nat.reduceEqDiff, Option.bind_some, ao_let, n_ell, kz, hz]
  try simp (disch := first | omega | assumption) only [↓reduceIte, Nat.reduceEqDiff, Option.bind_some, ao_let, t_le, f_le, t_lt, f_lt, f_eq, u_eq, u_n1, u_n2, n_cl, n_lt, n_le, n_eq, n_ltl, n_llt, n_lel, n_lle, n_eql, n_leq, n_add, n_mul, n_sub, n_addl, n_ladd, n_mull, n_lmul, n_subl, Int32.reduceLT, Int32.reduceLE, Int32.reduceAdd, Int32.reduceSub, Int32.reduceMul, Int32.reduceToNatClampNeg, not_false_eq_true, not_true_eq_false, or_false, false_or, or_self, and_self, false_and, true_and, and_false, and_true, true_or, or_true, Nat.reduceAdd, Nat.reduceMul, Nat.reduceLT, Nat.reduceLeDiff, ne_eq, n_ell, kz, hz]
  refine hv_up (fun _ => fX1_init.eq_2 ..) ?_
  try simp only [↓reduceIte, Nat.reduceEqDiff, Option.bind_some, ao_let, n_ell, nw_K, kz]
  try simp (disch := first | omega | assumption) only [↓reduceIte, Nat.reduceEqDiff, Option.bind_some, ao_let, t_le, f_le, t_lt, f_lt, f_eq, u_eq, u_n1, u_n2, n_cl, n_lt, n_le, n_eq, n_ltl, n_llt, n_lel, n_lle, n_eql, n_leq, n_add, n_mul, n_sub, n_addl, n_ladd, n_mull, n_lmul, n_subl, Int32.reduceLT, Int32.reduceLE, Int32.reduceAdd, Int32.reduceSub, Int32.reduceMul, Int32.reduceToNatClampNeg, not_false_eq_true, not_true_eq_false, or_false, false_or, or_self, and_self, false_and, true_and, and_false, and_true, true_or, or_true, Nat.reduceAdd, Nat.reduceMul, Nat.reduceLT, Nat.reduceLeDiff, ne_eq, n_ell, nw_K, kz]
  refine hv_up (fun _ => fX1_init.eq_2 ..) ?_
  try simp only [↓reduceIte, Nat.reduceEqDiff, Option.bind_some, ao_let, n_ell, r_K, nw_K, kz, r_Z, nw_Z, zr_n]
  try simp (disch := first | omega | assumption) only [↓reduceIte, Nat.reduceEqDiff, Option.bind_some, ao_let, t_le, f_le, t_lt, f_lt, f_eq, u_eq, u_n1, u_n2, n_cl, n_lt, n_le, n_eq, n_ltl, n_llt, n_lel, n_lle, n_eql, n_leq, n_add, n_mul, n_sub, n_addl, n_ladd, n_mull, n_lmul, n_subl, Int32.reduceLT, Int32.reduceLE, Int32.reduceAdd, Int32.reduceSub, Int32.reduceMul, Int32.reduceToNatClampNeg, not_false_eq_true, not_true_eq_false, or_false, false_or, or_self, and_self, false_and, true_and, and_false, and_true, true_or, or_true, Nat.reduceAdd, Nat.reduceMul, Nat.reduceLT, Nat.reduceLeDiff, ne_eq, n_ell, r_K, nw_K, kz, r_Z, nw_Z, zr_n]
  refine hv_up (fun _ => fX1_init.eq_2 ..) ?_
  try simp only [↓reduceIte, Nat.reduceEqDiff, Option.bind_some, ao_let, n_ell, r_K, nw_K, kz]
  try simp (disch := first | omega | assumption) only [↓reduceIte, Nat.reduceEqDiff, Option.bind_some, ao_let, t_le, f_le, t_lt, f_lt, f_eq, u_eq, u_n1, u_n2, n_cl, n_lt, n_le, n_eq, n_ltl, n_llt, n_lel, n_lle, n_eql, n_leq, n_add, n_mul, n_sub, n_addl, n_ladd, n_mull, n_lmul, n_subl, Int32.reduceLT, Int32.reduceLE, Int32.reduceAdd, Int32.reduceSub, Int32.reduceMul, Int32.reduceToNatClampNeg, not_false_eq_true, not_true_eq_false, or_false, false_or, or_self, and_self, false_and, true_and, and_false, and_true, true_or, or_true, Nat.reduceAdd, Nat.reduceMul, Nat.reduceLT, Nat.reduceLeDiff, ne_eq, n_ell, r_K, nw_K, kz]
  refine hv_up (fun _ => fX1_init.eq_2 ..) ?_
  try simp only [↓reduceIte, Nat.reduceEqDiff, Option.bind_some, ao_let, n_ell, r_K, nw_K, kz, r_Z, nw_Z, zr_n]
  try simp (disch := first | omega | assumption) only [↓reduceIte, Nat.reduceEqDiff, Option.bind_some, ao_let, t_le, f_le, t_lt, f_lt, f_eq, u_eq, u_n1, u_n2, n_cl, n_lt, n_le, n_eq, n_ltl, n_llt, n_lel, n_lle, n_eql, n_leq, n_add, n_mul, n_sub, n_addl, n_ladd, n_mull, n_lmul, n_subl, Int32.reduceLT, Int32.reduceLE, Int32.reduceAdd, Int32.reduceSub, Int32.reduceMul, Int32.reduceToNatClampNeg, not_false_eq_true, not_true_eq_false, or_false, false_or, or_self, and_self, false_and, true_and, and_false, and_true, true_or, or_true, Nat.reduceAdd, Nat.reduceMul, Nat.reduceLT, Nat.reduceLeDiff, ne_eq, n_ell, r_K, nw_K, kz, r_Z, nw_Z, zr_n]
  refine hv_up (fun _ => fX1_init.eq_2 ..) ?_
  try simp only [↓reduceIte, Nat.reduceEqDiff, Option.bind_some, ao_let, n_ell, r_K, nw_K, kz]
  try simp (disch := first | omega | assumption) only [↓reduceIte, Nat.reduceEqDiff, Option.bind_some, ao_let, t_le, f_le, t_lt, f_lt, f_eq, u_eq, u_n1, u_n2, n_cl, n_lt, n_le, n_eq, n_ltl, n_llt, n_lel, n_lle, n_eql, n_leq, n_add, n_mul, n_sub, n_addl, n_ladd, n_mull, n_lmul, n_subl, Int32.reduceLT, Int32.reduceLE, Int32.reduceAdd, Int32.reduceSub, Int32.reduceMul, Int32.reduceToNatClampNeg, not_false_eq_true, not_true_eq_false, or_false, false_or, or_self, and_self, false_and, true_and, and_false, and_true, true_or, or_true, Nat.reduceAdd, Nat.reduceMul, Nat.reduceLT, Nat.reduceLeDiff, ne_eq, n_ell, r_K, nw_K, kz]
  refine hv_up (fun _ => fX1_init.eq_2 ..) ?_
  try simp only [↓reduceIte, Nat.reduceEqDiff, Option.bind_some, ao_let, n_ell, r_K, nw_K, kz]
  try simp (disch := first | omega | assumption) only [↓reduceIte, Nat.reduceEqDiff, Option.bind_some, ao_let, t_le, f_le, t_lt, f_lt, f_eq, u_eq, u_n1, u_n2, n_cl, n_lt, n_le, n_eq, n_ltl, n_llt, n_lel, n_lle, n_eql, n_leq, n_add, n_mul, n_sub, n_addl, n_ladd, n_mull, n_lmul, n_subl, Int32.reduceLT, Int32.reduceLE, Int32.reduceAdd, Int32.reduceSub, Int32.reduceMul, Int32.reduceToNatClampNeg, not_false_eq_true, not_true_eq_false, or_false, false_or, or_self, and_self, false_and, true_and, and_false, and_true, true_or, or_true, Nat.reduceAdd, Nat.reduceMul, Nat.reduceLT, Nat.reduceLeDiff, ne_eq, n_ell, r_K, nw_K, kz]
  exact hv_some rfl
/-- what the copy's loop needs of the heap -/
def CpH (ρ : ao_H) (z L : Nat) : Prop := (ρ.2.1 8 = 11 ∧ ρ.2.1 z = 11) ∧ (ρ.1 8 1 = some 9 ∧ ρ.1 8 2 = some 10 ∧ ρ.1 8 3 = some 11) ∧ (ρ.1 z 1 = some (z + 1) ∧ ρ.1 z 2 = some (z + 1 + 1) ∧ ρ.1 z 3 = some (z + 1 + 1 + 1)) ∧ (ρ.2.1 9 = 0 ∧ ρ.2.1 10 = 0 ∧ ρ.2.1 11 = 0 ∧ ρ.2.2.1 9 = 1000 ∧ ρ.2.2.1 10 = 1000 ∧ ρ.2.2.1 11 = 1000) ∧ ρ.2.1 (z + 1) = 0 ∧ ρ.2.1 (z + 1 + 1) = 0 ∧ ρ.2.1 (z + 1 + 1 + 1) = 0 ∧ ρ.2.2.1 (z + 1) = L ∧ ρ.2.2.1 (z + 1 + 1) = L ∧ ρ.2.2.1 (z + 1 + 1 + 1) = L
/-- what the copy leaves -/
def CpM (M : ao_M) (z L u : Nat) (M' : ao_M) : Prop := (∀ i, u ≤ i → i < L → M' (z + 1) i = M 9 i ∧ M' (z + 1 + 1) i = M 10 i ∧ M' (z + 1 + 1 + 1) i = M 11 i) ∧ (∀ i, i < u → M' (z + 1) i = M (z + 1) i ∧ M' (z + 1 + 1) i = M (z + 1 + 1) i ∧ M' (z + 1 + 1 + 1) i = M (z + 1 + 1 + 1) i) ∧ (M' z 0 = nI L ∧ M' z 4 = nI L ∧ M' z 5 = M 8 5) ∧ ∀ x i, x < z → M' x i = M x i
set_option maxHeartbeats 8000000 in
theorem c_cpL {z L : Nat} (h : CpH ρ z L) (h9 : 599 ≤ z) (hL : L ≤ 1000) : ∀ (k u : Nat) (M : ao_M), u + k = L → M 8 4 = nI L → M 8 0 = 1000 → M z 0 = nI L → hv (fun n => fX1_copy n 14 8 z (nI u) 0 M ρ) (fun y => y.1 = z ∧ y.2.2 = ρ ∧ CpM M z L u y.2.1) := by
  obtain ⟨⟨k1, k2⟩, ⟨r1, r2, r3⟩, ⟨s1, s2, s3⟩, ⟨a1, a2, a3, a4, a5, a6⟩, b1, b2, b3, b4, b5, b6⟩ := h
  intro k
  induction k with
  | zero =>
    intro u M h m4 m0 mz
    obtain rfl : u = L := by omega
    refine hv_up (fun _ => fX1_copy.eq_2 ..) ?_
    try simp only [↓reduceIte, Nat.reduceEqDiff, Option.bind_some, ao_let, n_ell, k1, m4]
    try simp (disch := first | omega | assumption) only [↓reduceIte, Nat.reduceEqDiff, Option.bind_some, ao_let, t_le, f_le, t_lt, f_lt, f_eq, u_eq, u_n1, u_n2, n_cl, n_lt, n_le, n_eq, n_ltl, n_llt, n_lel, n_lle, n_eql, n_leq, n_add, n_mul, n_sub, n_addl, n_ladd, n_mull, n_lmul, n_subl, Int32.reduceLT, Int32.reduceLE, Int32.reduceAdd, Int32.reduceSub, Int32.reduceMul, Int32.reduceToNatClampNeg, not_false_eq_true, not_true_eq_false, or_false, false_or, or_self, and_self, false_and, true_and, and_false, and_true, true_or, or_true, Nat.reduceAdd, Nat.reduceMul, Nat.reduceLT, Nat.reduceLeDiff, ne_eq, n_ell, k1, m4]
    refine hv_up (fun _ => fX1_copy.eq_2 ..) ?_
    try simp only [↓reduceIte, Nat.reduceEqDiff, Option.bind_some, ao_let, n_ell, k1, k2, mz]
    try simp (disch := first | omega | assumption) only [↓reduceIte, Nat.reduceEqDiff, Option.bind_some, ao_let, t_le, f_le, t_lt, f_lt, f_eq, u_eq, u_n1, u_n2, n_cl, n_lt, n_le, n_eq, n_ltl, n_llt, n_lel, n_lle, n_eql, n_leq, n_add, n_mul, n_sub, n_addl, n_ladd, n_mull, n_lmul, n_subl, Int32.reduceLT, Int32.reduceLE, Int32.reduceAdd, Int32.reduceSub, Int32.reduceMul, Int32.reduceToNatClampNeg, not_false_eq_true, not_true_eq_false, or_false, false_or, or_self, and_self, false_and, true_and, and_false, and_true, true_or, or_true, Nat.reduceAdd, Nat.reduceMul, Nat.reduceLT, Nat.reduceLeDiff, ne_eq, n_ell, k1, k2, mz]
    refine hv_some ⟨rfl, rfl, fun i q1 q2 => by omega, fun i hi => ⟨?_, ?_, ?_⟩, ⟨?_, ?_, ?_⟩, fun x i hx => ?_⟩
    · dsimp only; rw [u_ne (by omega), u_ne (by omega)]
    · dsimp only; rw [u_ne (by omega), u_ne (by omega)]
    · dsimp only; rw [u_ne (by omega), u_ne (by omega)]
    · dsimp only; rw [u_ne (by omega), u_ne (by omega)]; exact mz
    · dsimp only; rw [u_ne (by omega), u_eq]
    · dsimp only; rw [u_eq]
    · dsimp only; rw [u_ne (by omega), u_ne (by omega)]
  | succ k ih =>
    intro u M h m4 m0 mz
    refine hv_up (fun _ => fX1_copy.eq_2 ..) ?_
    try simp only [↓reduceIte, Nat.reduceEqDiff, Option.bind_some, ao_let, n_ell, k1, k2, r1, r2, r3, s1, s2, s3, a1, a2, a3, a4, a5, a6, b1, b2, b3, b4, b5, b6, m4, m0, mz]
    try simp (disch := first | omega | assumption) only [↓reduceIte, Nat.reduceEqDiff, Option.bind_some, ao_let, t_le, f_le, t_lt, f_lt, f_eq, u_eq, u_n1, u_n2, n_cl, n_lt, n_le, n_eq, n_ltl, n_llt, n_lel, n_lle, n_eql, n_leq, n_add, n_mul, n_sub, n_addl, n_ladd, n_mull, n_lmul, n_subl, Int32.reduceLT, Int32.reduceLE, Int32.reduceAdd, Int32.reduceSub, Int32.reduceMul, Int32.reduceToNatClampNeg, not_false_eq_true, not_true_eq_false, or_false, false_or, or_self, and_self, false_and, true_and, and_false, and_true, true_or, or_true, Nat.reduceAdd, Nat.reduceMul, Nat.reduceLT, Nat.reduceLeDiff, ne_eq, n_ell, k1, k2, r1, r2, r3, s1, s2, s3, a1, a2, a3, a4, a5, a6, b1, b2, b3, b4, b5, b6, m4, m0, mz]
    refine hv_mono (ih (u + 1) _ (by omega) ?_ ?_ ?_) ?_
    · rw [u_ne (by omega), u_ne (by omega), u_ne (by omega)]; exact m4
    · rw [u_ne (by omega), u_ne (by omega), u_ne (by omega)]; exact m0
    · rw [u_ne (by omega), u_ne (by omega), u_ne (by omega)]; exact mz
    · rintro ⟨y1, M', ρ'⟩ ⟨e1, e2, c1, c2, ⟨c3, c4, c5⟩, c6⟩
      dsimp only at e1 e2 c1 c2 c3 c4 c5 c6
      refine ⟨e1, e2, fun i q1 q2 => ?_, fun i hi => ?_, ⟨c3, c4, ?_⟩, fun x i hx => ?_⟩
      · by_cases e : i = u
        · subst e
          obtain ⟨d1, d2, d3⟩ := c2 i (by omega)
          try dsimp only
          rw [d1, d2, d3]
          refine ⟨?_, ?_, ?_⟩
          · rw [u_ne (by omega), u_ne (by omega), u_eq]
          · rw [u_ne (by omega), u_eq]
          · rw [u_eq]
        · obtain ⟨d1, d2, d3⟩ := c1 i (by omega) q2
          try dsimp only
          rw [d1, d2, d3]
          refine ⟨?_, ?_, ?_⟩
          · rw [u_ne (by omega), u_ne (by omega), u_ne (by omega)]
          · rw [u_ne (by omega), u_ne (by omega), u_ne (by omega)]
          · rw [u_ne (by omega), u_ne (by omega), u_ne (by omega)]
      · obtain ⟨d1, d2, d3⟩ := c2 i (by omega)
        try dsimp only
        rw [d1, d2, d3]
        refine ⟨?_, ?_, ?_⟩
        · rw [u_ne (by omega), u_ne (by omega), u_ne (by omega)]
        · rw [u_ne (by omega), u_ne (by omega), u_ne (by omega)]
        · rw [u_ne (by omega), u_ne (by omega), u_ne (by omega)]
      · try dsimp only
        rw [c5, u_ne (by omega), u_ne (by omega), u_ne (by omega)]
      · try dsimp only
        rw [c6 x i hx, u_ne (by omega), u_ne (by omega), u_ne (by omega)]
set_option maxHeartbeats 8000000 in
theorem c_copy {z L st : Nat} (hs : ShA ρ) (hz : ρ.2.2.2.1 = some z) (h9 : 599 ≤ z) (hL : L ≤ 1000) (h0 : C 8 0 = 1000) (h4 : C 8 4 = nI L) (h5 : C 8 5 = nI st) : hv (fun n => gX1_copy n 8 C ρ) (fun y => y.1 = z ∧ y.2.2 = inH (ao_nw ρ z 11 0 6) z L ∧ (∀ i, i < L → y.2.1 (z + 1) i = C 9 i ∧ y.2.1 (z + 1 + 1) i = C 10 i ∧ y.2.1 (z + 1 + 1 + 1) i = C 11 i) ∧ (y.2.1 z 0 = nI L ∧ y.2.1 z 4 = nI L ∧ y.2.1 z 5 = nI st) ∧ ∀ x i, x < z → y.2.1 x i = C x i) := by
  have e : ∀ x i, x < z → inM (ao_zr C z) z L x i = C x i := fun x i hx => by
    unfold inM
    rw [u_ne (by omega), u_ne (by omega), zr_n (by omega), zr_n (by omega), zr_n (by omega), u_ne (by omega), zr_n (by omega)]
  have e0 : inM (ao_zr C z) z L z 0 = nI L := by
    unfold inM
    rw [u_ne (by omega), u_ne (by omega), zr_n (by omega), zr_n (by omega), zr_n (by omega), u_eq]
  have hH : CpH (inH (ao_nw ρ z 11 0 6) z L) z L := by
    unfold inH
    refine ⟨⟨?_, ?_⟩, ⟨?_, ?_, ?_⟩, ⟨?_, ?_, ?_⟩, ⟨?_, ?_, ?_, ?_, ?_, ?_⟩, ?_, ?_, ?_, ?_, ?_, ?_⟩
    · try simp only [↓reduceIte, Nat.reduceEqDiff, Option.bind_some, ao_let, n_ell, r_K, nw_K, hs]
      try simp (disch := first | omega | assumption) only [↓reduceIte, Nat.reduceEqDiff, Option.bind_some, ao_let, t_le, f_le, t_lt, f_lt, f_eq, u_eq, u_n1, u_n2, n_cl, n_lt, n_le, n_eq, n_ltl, n_llt, n_lel, n_lle, n_eql, n_leq, n_add, n_mul, n_sub, n_addl, n_ladd, n_mull, n_lmul, n_subl, Int32.reduceLT, Int32.reduceLE, Int32.reduceAdd, Int32.reduceSub, Int32.reduceMul, Int32.reduceToNatClampNeg, not_false_eq_true, not_true_eq_false, or_false, false_or, or_self, and_self, false_and, true_and, and_false, and_true, true_or, or_true, Nat.reduceAdd, Nat.reduceMul, Nat.reduceLT, Nat.reduceLeDiff, ne_eq, n_ell, r_K, nw_K, hs]
    · try simp only [↓reduceIte, Nat.reduceEqDiff, Option.bind_some, ao_let, n_ell, r_K, nw_K, nw_Ke]
      try simp (disch := first | omega | assumption) only [↓reduceIte, Nat.reduceEqDiff, Option.bind_some, ao_let, t_le, f_le, t_lt, f_lt, f_eq, u_eq, u_n1, u_n2, n_cl, n_lt, n_le, n_eq, n_ltl, n_llt, n_lel, n_lle, n_eql, n_leq, n_add, n_mul, n_sub, n_addl, n_ladd, n_mull, n_lmul, n_subl, Int32.reduceLT, Int32.reduceLE, Int32.reduceAdd, Int32.reduceSub, Int32.reduceMul, Int32.reduceToNatClampNeg, not_false_eq_true, not_true_eq_false, or_false, false_or, or_self, and_self, false_and, true_and, and_false, and_true, true_or, or_true, Nat.reduceAdd, Nat.reduceMul, Nat.reduceLT, Nat.reduceLeDiff, ne_eq, n_ell, r_K, nw_K, nw_Ke]
    · try simp only [↓reduceIte, Nat.reduceEqDiff, Option.bind_some, ao_let, n_ell, r_Fn, nw_F, hs]
      try simp (disch := first | omega | assumption) only [↓reduceIte, Nat.reduceEqDiff, Option.bind_some, ao_let, t_le, f_le, t_lt, f_lt, f_eq, u_eq, u_n1, u_n2, n_cl, n_lt, n_le, n_eq, n_ltl, n_llt, n_lel, n_lle, n_eql, n_leq, n_add, n_mul, n_sub, n_addl, n_ladd, n_mull, n_lmul, n_subl, Int32.reduceLT, Int32.reduceLE, Int32.reduceAdd, Int32.reduceSub, Int32.reduceMul, Int32.reduceToNatClampNeg, not_false_eq_true, not_true_eq_false, or_false, false_or, or_self, and_self, false_and, true_and, and_false, and_true, true_or, or_true, Nat.reduceAdd, Nat.reduceMul, Nat.reduceLT, Nat.reduceLeDiff, ne_eq, n_ell, r_Fn, nw_F, hs]
    · try simp only [↓reduceIte, Nat.reduceEqDiff, Option.bind_some, ao_let, n_ell, r_Fn, nw_F, hs]
      try simp (disch := first | omega | assumption) only [↓reduceIte, Nat.reduceEqDiff, Option.bind_some, ao_let, t_le, f_le, t_lt, f_lt, f_eq, u_eq, u_n1, u_n2, n_cl, n_lt, n_le, n_eq, n_ltl, n_llt, n_lel, n_lle, n_eql, n_leq, n_add, n_mul, n_sub, n_addl, n_ladd, n_mull, n_lmul, n_subl, Int32.reduceLT, Int32.reduceLE, Int32.reduceAdd, Int32.reduceSub, Int32.reduceMul, Int32.reduceToNatClampNeg, not_false_eq_true, not_true_eq_false, or_false, false_or, or_self, and_self, false_and, true_and, and_false, and_true, true_or, or_true, Nat.reduceAdd, Nat.reduceMul, Nat.reduceLT, Nat.reduceLeDiff, ne_eq, n_ell, r_Fn, nw_F, hs]
    · try simp only [↓reduceIte, Nat.reduceEqDiff, Option.bind_some, ao_let, n_ell, r_Fn, nw_F, hs]
      try simp (disch := first | omega | assumption) only [↓reduceIte, Nat.reduceEqDiff, Option.bind_some, ao_let, t_le, f_le, t_lt, f_lt, f_eq, u_eq, u_n1, u_n2, n_cl, n_lt, n_le, n_eq, n_ltl, n_llt, n_lel, n_lle, n_eql, n_leq, n_add, n_mul, n_sub, n_addl, n_ladd, n_mull, n_lmul, n_subl, Int32.reduceLT, Int32.reduceLE, Int32.reduceAdd, Int32.reduceSub, Int32.reduceMul, Int32.reduceToNatClampNeg, not_false_eq_true, not_true_eq_false, or_false, false_or, or_self, and_self, false_and, true_and, and_false, and_true, true_or, or_true, Nat.reduceAdd, Nat.reduceMul, Nat.reduceLT, Nat.reduceLeDiff, ne_eq, n_ell, r_Fn, nw_F, hs]
    · simp (disch := omega) only [r_Fm, nw_F, r_Fe]
    · simp (disch := omega) only [r_Fm, nw_F, r_Fe]
    · simp (disch := omega) only [r_Fm, nw_F, r_Fe]
    · try simp only [↓reduceIte, Nat.reduceEqDiff, Option.bind_some, ao_let, n_ell, r_K, nw_K, hs]
      try simp (disch := first | omega | assumption) only [↓reduceIte, Nat.reduceEqDiff, Option.bind_some, ao_let, t_le, f_le, t_lt, f_lt, f_eq, u_eq, u_n1, u_n2, n_cl, n_lt, n_le, n_eq, n_ltl, n_llt, n_lel, n_lle, n_eql, n_leq, n_add, n_mul, n_sub, n_addl, n_ladd, n_mull, n_lmul, n_subl, Int32.reduceLT, Int32.reduceLE, Int32.reduceAdd, Int32.reduceSub, Int32.reduceMul, Int32.reduceToNatClampNeg, not_false_eq_true, not_true_eq_false, or_false, false_or, or_self, and_self, false_and, true_and, and_false, and_true, true_or, or_true, Nat.reduceAdd, Nat.reduceMul, Nat.reduceLT, Nat.reduceLeDiff, ne_eq, n_ell, r_K, nw_K, hs]
    · try simp only [↓reduceIte, Nat.reduceEqDiff, Option.bind_some, ao_let, n_ell, r_K, nw_K, hs]
      try simp (disch := first | omega | assumption) only [↓reduceIte, Nat.reduceEqDiff, Option.bind_some, ao_let, t_le, f_le, t_lt, f_lt, f_eq, u_eq, u_n1, u_n2, n_cl, n_lt, n_le, n_eq, n_ltl, n_llt, n_lel, n_lle, n_eql, n_leq, n_add, n_mul, n_sub, n_addl, n_ladd, n_mull, n_lmul, n_subl, Int32.reduceLT, Int32.reduceLE, Int32.reduceAdd, Int32.reduceSub, Int32.reduceMul, Int32.reduceToNatClampNeg, not_false_eq_true, not_true_eq_false, or_false, false_or, or_self, and_self, false_and, true_and, and_false, and_true, true_or, or_true, Nat.reduceAdd, Nat.reduceMul, Nat.reduceLT, Nat.reduceLeDiff, ne_eq, n_ell, r_K, nw_K, hs]
    · try simp only [↓reduceIte, Nat.reduceEqDiff, Option.bind_some, ao_let, n_ell, r_K, nw_K, hs]
      try simp (disch := first | omega | assumption) only [↓reduceIte, Nat.reduceEqDiff, Option.bind_some, ao_let, t_le, f_le, t_lt, f_lt, f_eq, u_eq, u_n1, u_n2, n_cl, n_lt, n_le, n_eq, n_ltl, n_llt, n_lel, n_lle, n_eql, n_leq, n_add, n_mul, n_sub, n_addl, n_ladd, n_mull, n_lmul, n_subl, Int32.reduceLT, Int32.reduceLE, Int32.reduceAdd, Int32.reduceSub, Int32.reduceMul, Int32.reduceToNatClampNeg, not_false_eq_true, not_true_eq_false, or_false, false_or, or_self, and_self, false_and, true_and, and_false, and_true, true_or, or_true, Nat.reduceAdd, Nat.reduceMul, Nat.reduceLT, Nat.reduceLeDiff, ne_eq, n_ell, r_K, nw_K, hs]
    · try simp only [↓reduceIte, Nat.reduceEqDiff, Option.bind_some, ao_let, n_ell, r_L, nw_L, hs]
      try simp (disch := first | omega | assumption) only [↓reduceIte, Nat.reduceEqDiff, Option.bind_some, ao_let, t_le, f_le, t_lt, f_lt, f_eq, u_eq, u_n1, u_n2, n_cl, n_lt, n_le, n_eq, n_ltl, n_llt, n_lel, n_lle, n_eql, n_leq, n_add, n_mul, n_sub, n_addl, n_ladd, n_mull, n_lmul, n_subl, Int32.reduceLT, Int32.reduceLE, Int32.reduceAdd, Int32.reduceSub, Int32.reduceMul, Int32.reduceToNatClampNeg, not_false_eq_true, not_true_eq_false, or_false, false_or, or_self, and_self, false_and, true_and, and_false, and_true, true_or, or_true, Nat.reduceAdd, Nat.reduceMul, Nat.reduceLT, Nat.reduceLeDiff, ne_eq, n_ell, r_L, nw_L, hs]
    · try simp only [↓reduceIte, Nat.reduceEqDiff, Option.bind_some, ao_let, n_ell, r_L, nw_L, hs]
      try simp (disch := first | omega | assumption) only [↓reduceIte, Nat.reduceEqDiff, Option.bind_some, ao_let, t_le, f_le, t_lt, f_lt, f_eq, u_eq, u_n1, u_n2, n_cl, n_lt, n_le, n_eq, n_ltl, n_llt, n_lel, n_lle, n_eql, n_leq, n_add, n_mul, n_sub, n_addl, n_ladd, n_mull, n_lmul, n_subl, Int32.reduceLT, Int32.reduceLE, Int32.reduceAdd, Int32.reduceSub, Int32.reduceMul, Int32.reduceToNatClampNeg, not_false_eq_true, not_true_eq_false, or_false, false_or, or_self, and_self, false_and, true_and, and_false, and_true, true_or, or_true, Nat.reduceAdd, Nat.reduceMul, Nat.reduceLT, Nat.reduceLeDiff, ne_eq, n_ell, r_L, nw_L, hs]
    · try simp only [↓reduceIte, Nat.reduceEqDiff, Option.bind_some, ao_let, n_ell, r_L, nw_L, hs]
      try simp (disch := first | omega | assumption) only [↓reduceIte, Nat.reduceEqDiff, Option.bind_some, ao_let, t_le, f_le, t_lt, f_lt, f_eq, u_eq, u_n1, u_n2, n_cl, n_lt, n_le, n_eq, n_ltl, n_llt, n_lel, n_lle, n_eql, n_leq, n_add, n_mul, n_sub, n_addl, n_ladd, n_mull, n_lmul, n_subl, Int32.reduceLT, Int32.reduceLE, Int32.reduceAdd, Int32.reduceSub, Int32.reduceMul, Int32.reduceToNatClampNeg, not_false_eq_true, not_true_eq_false, or_false, false_or, or_self, and_self, false_and, true_and, and_false, and_true, true_or, or_true, Nat.reduceAdd, Nat.reduceMul, Nat.reduceLT, Nat.reduceLeDiff, ne_eq, n_ell, r_L, nw_L, hs]
    · simp (disch := omega) only [r_K, nw_K, nw_Ke]
    · simp (disch := omega) only [r_K, nw_K, nw_Ke]
    · simp (disch := omega) only [r_K, nw_K, nw_Ke]
    · simp (disch := omega) only [r_L, nw_L, nw_Le]
    · simp (disch := omega) only [r_L, nw_L, nw_Le]
    · simp (disch := omega) only [r_L, nw_L, nw_Le]
  unfold gX1_copy
  refine hv_up (fun _ => fX1_copy.eq_2 ..) ?_
  try simp only [↓reduceIte, Nat.reduceEqDiff, Option.bind_some, ao_let, n_ell, hz]
  try simp (disch := first | omega | assumption) only [↓reduceIte, Nat.reduceEqDiff, Option.bind_some, ao_let, t_le, f_le, t_lt, f_lt, f_eq, u_eq, u_n1, u_n2, n_cl, n_lt, n_le, n_eq, n_ltl, n_llt, n_lel, n_lle, n_eql, n_leq, n_add, n_mul, n_sub, n_addl, n_ladd, n_mull, n_lmul, n_subl, Int32.reduceLT, Int32.reduceLE, Int32.reduceAdd, Int32.reduceSub, Int32.reduceMul, Int32.reduceToNatClampNeg, not_false_eq_true, not_true_eq_false, or_false, false_or, or_self, and_self, false_and, true_and, and_false, and_true, true_or, or_true, Nat.reduceAdd, Nat.reduceMul, Nat.reduceLT, Nat.reduceLeDiff, ne_eq, n_ell, hz]
  refine hv_up (fun _ => fX1_copy.eq_2 ..) ?_
  try simp only [↓reduceIte, Nat.reduceEqDiff, Option.bind_some, ao_let, n_ell, hs, nw_K, zr_n, h4]
  try simp (disch := first | omega | assumption) only [↓reduceIte, Nat.reduceEqDiff, Option.bind_some, ao_let, t_le, f_le, t_lt, f_lt, f_eq, u_eq, u_n1, u_n2, n_cl, n_lt, n_le, n_eq, n_ltl, n_llt, n_lel, n_lle, n_eql, n_leq, n_add, n_mul, n_sub, n_addl, n_ladd, n_mull, n_lmul, n_subl, Int32.reduceLT, Int32.reduceLE, Int32.reduceAdd, Int32.reduceSub, Int32.reduceMul, Int32.reduceToNatClampNeg, not_false_eq_true, not_true_eq_false, or_false, false_or, or_self, and_self, false_and, true_and, and_false, and_true, true_or, or_true, Nat.reduceAdd, Nat.reduceMul, Nat.reduceLT, Nat.reduceLeDiff, ne_eq, n_ell, hs, nw_K, zr_n, h4]
  refine hv_bind (c_init (z := z) (L := L) (nw_Ke) nw_Z hL) ?_
  rintro _ rfl
  refine hv_up (fun _ => fX1_copy.eq_2 ..) ?_
  try simp only [↓reduceIte, Nat.reduceEqDiff, Option.bind_some, ao_let, n_ell]
  try simp (disch := first | omega | assumption) only [↓reduceIte, Nat.reduceEqDiff, Option.bind_some, ao_let, t_le, f_le, t_lt, f_lt, f_eq, u_eq, u_n1, u_n2, n_cl, n_lt, n_le, n_eq, n_ltl, n_llt, n_lel, n_lle, n_eql, n_leq, n_add, n_mul, n_sub, n_addl, n_ladd, n_mull, n_lmul, n_subl, Int32.reduceLT, Int32.reduceLE, Int32.reduceAdd, Int32.reduceSub, Int32.reduceMul, Int32.reduceToNatClampNeg, not_false_eq_true, not_true_eq_false, or_false, false_or, or_self, and_self, false_and, true_and, and_false, and_true, true_or, or_true, Nat.reduceAdd, Nat.reduceMul, Nat.reduceLT, Nat.reduceLeDiff, ne_eq, n_ell]
  refine hv_mono (c_cpL hH h9 hL L 0 _ (by omega) ?_ ?_ e0) ?_
  · try dsimp only
    rw [e _ _ (by omega)]; exact h4
  · try dsimp only
    rw [e _ _ (by omega)]; exact h0
  · rintro ⟨y1, M', ρ'⟩ ⟨e1, e2, c1, c2, ⟨c3, c4, c5⟩, c6⟩
    dsimp only at e1 e2 c1 c2 c3 c4 c5 c6 ⊢
    refine ⟨e1, e2, fun i hi => ?_, ⟨c3, c4, ?_⟩, fun x i hx => ?_⟩
    · obtain ⟨d1, d2, d3⟩ := c1 i (by omega) hi
      rw [d1, d2, d3, e _ _ (by omega), e _ _ (by omega), e _ _ (by omega)]
      exact ⟨rfl, rfl, rfl⟩
    · rw [c5, e _ _ (by omega)]; exact h5
    · rw [c6 x i hx, e x i hx]
end Cc9
