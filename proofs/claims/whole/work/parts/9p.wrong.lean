set_option linter.unusedSimpArgs false
set_option linter.unusedVariables false
/-! ===== wrong reads ===== -/
def wrp (w st vl vr tk me v r : Int32) : Prop := (w = 0 ∨ w = 2) ∧ ¬ vr ≤ st ∨ w = 1 ∧ vl ≠ v ∨ w = 3 ∧ ((tk ≠ -1 ∧ tk ≠ me) ∨ vr ≠ r)
theorem w5 {w : Nat} (h : w ≤ 4) : w = 0 ∨ w = 1 ∨ w = 2 ∨ w = 3 ∨ w = 4 := by omega
theorem wrp_0 {st vl vr tk me v r : Int32} : wrp (nI 0) st vl vr tk me v r ↔ ¬ vr ≤ st := by unfold wrp; simp [show (nI 0 : Int32) = 0 from rfl]
theorem wrp_1 {st vl vr tk me v r : Int32} : wrp (nI 1) st vl vr tk me v r ↔ vl ≠ v := by unfold wrp; simp [show (nI 1 : Int32) = 1 from rfl]
theorem wrp_2 {st vl vr tk me v r : Int32} : wrp (nI 2) st vl vr tk me v r ↔ ¬ vr ≤ st := by unfold wrp; simp [show (nI 2 : Int32) = 2 from rfl]
theorem wrp_3 {st vl vr tk me v r : Int32} : wrp (nI 3) st vl vr tk me v r ↔ ((tk ≠ -1 ∧ tk ≠ me) ∨ vr ≠ r) := by unfold wrp; simp [show (nI 3 : Int32) = 3 from rfl]
theorem wrp_4 {st vl vr tk me v r : Int32} : ¬ wrp (nI 4) st vl vr tk me v r := by unfold wrp; simp [show (nI 4 : Int32) = 4 from rfl]
theorem c_isw {ρ : ao_H} {C : ao_M} {t lv i p w : Nat} (hc : ShA ρ) (hR : RnS ρ (92 + 71 * t)) (hl : LvS ρ lv) (hi : i < 26) (hp : p < 26) (h1 : C (lv + 1) i = nI p) (hw : C 12 5 = nI w) (hw4 : w ≤ 4) {Q : Int32 × ao_M → Prop}
    (q : ∀ x, (x = 0 ∧ ¬ wrp (nI w) (C (92 + 71 * t) 14) (C 14 p) (C 15 p) (C 16 p) (C (92 + 71 * t) 0) (C (lv + 2) i) (C (lv + 3) i) ∨ x = 1 ∧ wrp (nI w) (C (92 + 71 * t) 14) (C 14 p) (C 15 p) (C 16 p) (C (92 + 71 * t) 0) (C (lv + 2) i) (C (lv + 3) i)) → Q (x, C)) : hv (fun n => gX2_isWrong n 12 (92 + 71 * t) lv (nI i) C ρ) Q := by
  unfold gX2_isWrong
  rcases w5 hw4 with rfl | rfl | rfl | rfl | rfl
  · refine hv_up (fun _ => fX2_isWrong.eq_2 ..) ?_
    try simp only [↓reduceIte, Nat.reduceEqDiff, Option.bind_some, ao_let, n_ell, hc, hR, hl, h1, hw]
    try simp (disch := first | omega | assumption) only [↓reduceIte, Nat.reduceEqDiff, Option.bind_some, ao_let, t_le, f_le, t_lt, f_lt, f_eq, u_eq, u_n1, u_n2, n_cl, n_lt, n_le, n_eq, n_ltl, n_llt, n_lel, n_lle, n_eql, n_leq, n_add, n_mul, n_sub, n_addl, n_ladd, n_mull, n_lmul, n_subl, Int32.reduceLT, Int32.reduceLE, Int32.reduceAdd, Int32.reduceSub, Int32.reduceMul, Int32.reduceToNatClampNeg, not_false_eq_true, not_true_eq_false, or_false, false_or, or_self, and_self, false_and, true_and, and_false, and_true, true_or, or_true, Nat.reduceAdd, Nat.reduceMul, Nat.reduceLT, Nat.reduceLeDiff, ne_eq, n_ell, hc, hR, hl, h1, hw]
    refine hv_up (fun _ => fX2_isWrong.eq_2 ..) ?_
    try simp only [↓reduceIte, Nat.reduceEqDiff, Option.bind_some, ao_let, n_ell, hc, hR, hl, h1, hw]
    try simp (disch := first | omega | assumption) only [↓reduceIte, Nat.reduceEqDiff, Option.bind_some, ao_let, t_le, f_le, t_lt, f_lt, f_eq, u_eq, u_n1, u_n2, n_cl, n_lt, n_le, n_eq, n_ltl, n_llt, n_lel, n_lle, n_eql, n_leq, n_add, n_mul, n_sub, n_addl, n_ladd, n_mull, n_lmul, n_subl, Int32.reduceLT, Int32.reduceLE, Int32.reduceAdd, Int32.reduceSub, Int32.reduceMul, Int32.reduceToNatClampNeg, not_false_eq_true, not_true_eq_false, or_false, false_or, or_self, and_self, false_and, true_and, and_false, and_true, true_or, or_true, Nat.reduceAdd, Nat.reduceMul, Nat.reduceLT, Nat.reduceLeDiff, ne_eq, n_ell, hc, hR, hl, h1, hw]
    refine hv_if (fun e => hv_some (q _ (Or.inl ⟨rfl, ?_⟩))) (fun e => hv_some (q _ (Or.inr ⟨rfl, ?_⟩)))
    · rw [wrp_0]; exact fun x => x e
    · rw [wrp_0]; exact e
  · refine hv_up (fun _ => fX2_isWrong.eq_2 ..) ?_
    try simp only [↓reduceIte, Nat.reduceEqDiff, Option.bind_some, ao_let, n_ell, hc, hR, hl, h1, hw]
    try simp (disch := first | omega | assumption) only [↓reduceIte, Nat.reduceEqDiff, Option.bind_some, ao_let, t_le, f_le, t_lt, f_lt, f_eq, u_eq, u_n1, u_n2, n_cl, n_lt, n_le, n_eq, n_ltl, n_llt, n_lel, n_lle, n_eql, n_leq, n_add, n_mul, n_sub, n_addl, n_ladd, n_mull, n_lmul, n_subl, Int32.reduceLT, Int32.reduceLE, Int32.reduceAdd, Int32.reduceSub, Int32.reduceMul, Int32.reduceToNatClampNeg, not_false_eq_true, not_true_eq_false, or_false, false_or, or_self, and_self, false_and, true_and, and_false, and_true, true_or, or_true, Nat.reduceAdd, Nat.reduceMul, Nat.reduceLT, Nat.reduceLeDiff, ne_eq, n_ell, hc, hR, hl, h1, hw]
    refine hv_if (fun e => hv_some (q _ (Or.inl ⟨rfl, ?_⟩))) (fun e => hv_some (q _ (Or.inr ⟨rfl, ?_⟩)))
    · rw [wrp_1]; exact fun x => x e
    · rw [wrp_1]; exact e
  · refine hv_up (fun _ => fX2_isWrong.eq_2 ..) ?_
    try simp only [↓reduceIte, Nat.reduceEqDiff, Option.bind_some, ao_let, n_ell, hc, hR, hl, h1, hw]
    try simp (disch := first | omega | assumption) only [↓reduceIte, Nat.reduceEqDiff, Option.bind_some, ao_let, t_le, f_le, t_lt, f_lt, f_eq, u_eq, u_n1, u_n2, n_cl, n_lt, n_le, n_eq, n_ltl, n_llt, n_lel, n_lle, n_eql, n_leq, n_add, n_mul, n_sub, n_addl, n_ladd, n_mull, n_lmul, n_subl, Int32.reduceLT, Int32.reduceLE, Int32.reduceAdd, Int32.reduceSub, Int32.reduceMul, Int32.reduceToNatClampNeg, not_false_eq_true, not_true_eq_false, or_false, false_or, or_self, and_self, false_and, true_and, and_false, and_true, true_or, or_true, Nat.reduceAdd, Nat.reduceMul, Nat.reduceLT, Nat.reduceLeDiff, ne_eq, n_ell, hc, hR, hl, h1, hw]
    refine hv_up (fun _ => fX2_isWrong.eq_2 ..) ?_
    try simp only [↓reduceIte, Nat.reduceEqDiff, Option.bind_some, ao_let, n_ell, hc, hR, hl, h1, hw]
    try simp (disch := first | omega | assumption) only [↓reduceIte, Nat.reduceEqDiff, Option.bind_some, ao_let, t_le, f_le, t_lt, f_lt, f_eq, u_eq, u_n1, u_n2, n_cl, n_lt, n_le, n_eq, n_ltl, n_llt, n_lel, n_lle, n_eql, n_leq, n_add, n_mul, n_sub, n_addl, n_ladd, n_mull, n_lmul, n_subl, Int32.reduceLT, Int32.reduceLE, Int32.reduceAdd, Int32.reduceSub, Int32.reduceMul, Int32.reduceToNatClampNeg, not_false_eq_true, not_true_eq_false, or_false, false_or, or_self, and_self, false_and, true_and, and_false, and_true, true_or, or_true, Nat.reduceAdd, Nat.reduceMul, Nat.reduceLT, Nat.reduceLeDiff, ne_eq, n_ell, hc, hR, hl, h1, hw]
    refine hv_if (fun e => hv_some (q _ (Or.inl ⟨rfl, ?_⟩))) (fun e => hv_some (q _ (Or.inr ⟨rfl, ?_⟩)))
    · rw [wrp_2]; exact fun x => x e
    · rw [wrp_2]; exact e
  · refine hv_up (fun _ => fX2_isWrong.eq_2 ..) ?_
    try simp only [↓reduceIte, Nat.reduceEqDiff, Option.bind_some, ao_let, n_ell, hc, hR, hl, h1, hw, gX5_isTakenByOther]
    try simp (disch := first | omega | assumption) only [↓reduceIte, Nat.reduceEqDiff, Option.bind_some, ao_let, t_le, f_le, t_lt, f_lt, f_eq, u_eq, u_n1, u_n2, n_cl, n_lt, n_le, n_eq, n_ltl, n_llt, n_lel, n_lle, n_eql, n_leq, n_add, n_mul, n_sub, n_addl, n_ladd, n_mull, n_lmul, n_subl, Int32.reduceLT, Int32.reduceLE, Int32.reduceAdd, Int32.reduceSub, Int32.reduceMul, Int32.reduceToNatClampNeg, not_false_eq_true, not_true_eq_false, or_false, false_or, or_self, and_self, false_and, true_and, and_false, and_true, true_or, or_true, Nat.reduceAdd, Nat.reduceMul, Nat.reduceLT, Nat.reduceLeDiff, ne_eq, n_ell, hc, hR, hl, h1, hw, gX5_isTakenByOther]
    by_cases e1 : C 16 p = -1
    · simp only [e1, ↓reduceIte, Option.bind_some]
      refine hv_if (fun e => hv_some (q _ (Or.inl ⟨rfl, ?_⟩))) (fun e => ?_)
      · rw [wrp_3]; exact fun x => x.elim (fun y => y.1 e1) (fun y => y e)
      · refine hv_up (fun _ => fX2_isWrong.eq_2 ..) ?_
        try simp only [↓reduceIte, Nat.reduceEqDiff, Option.bind_some, ao_let, n_ell]
        try simp (disch := first | omega | assumption) only [↓reduceIte, Nat.reduceEqDiff, Option.bind_some, ao_let, t_le, f_le, t_lt, f_lt, f_eq, u_eq, u_n1, u_n2, n_cl, n_lt, n_le, n_eq, n_ltl, n_llt, n_lel, n_lle, n_eql, n_leq, n_add, n_mul, n_sub, n_addl, n_ladd, n_mull, n_lmul, n_subl, Int32.reduceLT, Int32.reduceLE, Int32.reduceAdd, Int32.reduceSub, Int32.reduceMul, Int32.reduceToNatClampNeg, not_false_eq_true, not_true_eq_false, or_false, false_or, or_self, and_self, false_and, true_and, and_false, and_true, true_or, or_true, Nat.reduceAdd, Nat.reduceMul, Nat.reduceLT, Nat.reduceLeDiff, ne_eq, n_ell]
        exact hv_some (q _ (Or.inr ⟨rfl, by rw [wrp_3]; exact Or.inr e⟩))
    · by_cases e2 : C 16 p = C (92 + 71 * t) 0
      · simp only [e1, e2, ↓reduceIte, Option.bind_some]
        rw [e2] at e1
        simp only [e1, ↓reduceIte, Option.bind_some]
        refine hv_if (fun e => hv_some (q _ (Or.inl ⟨rfl, ?_⟩))) (fun e => ?_)
        · rw [wrp_3]; exact fun x => x.elim (fun y => y.2 e2) (fun y => y e)
        · refine hv_up (fun _ => fX2_isWrong.eq_2 ..) ?_
          try simp only [↓reduceIte, Nat.reduceEqDiff, Option.bind_some, ao_let, n_ell]
          try simp (disch := first | omega | assumption) only [↓reduceIte, Nat.reduceEqDiff, Option.bind_some, ao_let, t_le, f_le, t_lt, f_lt, f_eq, u_eq, u_n1, u_n2, n_cl, n_lt, n_le, n_eq, n_ltl, n_llt, n_lel, n_lle, n_eql, n_leq, n_add, n_mul, n_sub, n_addl, n_ladd, n_mull, n_lmul, n_subl, Int32.reduceLT, Int32.reduceLE, Int32.reduceAdd, Int32.reduceSub, Int32.reduceMul, Int32.reduceToNatClampNeg, not_false_eq_true, not_true_eq_false, or_false, false_or, or_self, and_self, false_and, true_and, and_false, and_true, true_or, or_true, Nat.reduceAdd, Nat.reduceMul, Nat.reduceLT, Nat.reduceLeDiff, ne_eq, n_ell]
          exact hv_some (q _ (Or.inr ⟨rfl, by rw [wrp_3]; exact Or.inr e⟩))
      · simp only [e1, e2, ↓reduceIte, Option.bind_some, show ((1 : Int32) = 0) = False from by decide]
        refine hv_up (fun _ => fX2_isWrong.eq_2 ..) ?_
        try simp only [↓reduceIte, Nat.reduceEqDiff, Option.bind_some, ao_let, n_ell]
        try simp (disch := first | omega | assumption) only [↓reduceIte, Nat.reduceEqDiff, Option.bind_some, ao_let, t_le, f_le, t_lt, f_lt, f_eq, u_eq, u_n1, u_n2, n_cl, n_lt, n_le, n_eq, n_ltl, n_llt, n_lel, n_lle, n_eql, n_leq, n_add, n_mul, n_sub, n_addl, n_ladd, n_mull, n_lmul, n_subl, Int32.reduceLT, Int32.reduceLE, Int32.reduceAdd, Int32.reduceSub, Int32.reduceMul, Int32.reduceToNatClampNeg, not_false_eq_true, not_true_eq_false, or_false, false_or, or_self, and_self, false_and, true_and, and_false, and_true, true_or, or_true, Nat.reduceAdd, Nat.reduceMul, Nat.reduceLT, Nat.reduceLeDiff, ne_eq, n_ell]
        exact hv_some (q _ (Or.inr ⟨rfl, by rw [wrp_3]; exact Or.inl ⟨e1, e2⟩⟩))
  · refine hv_up (fun _ => fX2_isWrong.eq_2 ..) ?_
    try simp only [↓reduceIte, Nat.reduceEqDiff, Option.bind_some, ao_let, n_ell, hc, hR, hl, h1, hw]
    try simp (disch := first | omega | assumption) only [↓reduceIte, Nat.reduceEqDiff, Option.bind_some, ao_let, t_le, f_le, t_lt, f_lt, f_eq, u_eq, u_n1, u_n2, n_cl, n_lt, n_le, n_eq, n_ltl, n_llt, n_lel, n_lle, n_eql, n_leq, n_add, n_mul, n_sub, n_addl, n_ladd, n_mull, n_lmul, n_subl, Int32.reduceLT, Int32.reduceLE, Int32.reduceAdd, Int32.reduceSub, Int32.reduceMul, Int32.reduceToNatClampNeg, not_false_eq_true, not_true_eq_false, or_false, false_or, or_self, and_self, false_and, true_and, and_false, and_true, true_or, or_true, Nat.reduceAdd, Nat.reduceMul, Nat.reduceLT, Nat.reduceLeDiff, ne_eq, n_ell, hc, hR, hl, h1, hw]
    exact hv_some (q _ (Or.inl ⟨rfl, wrp_4⟩))
theorem d_isw {σ : ao_H} {D : ao_M} {t l p w : Nat} (hs : ShD σ) (ht : t < 6) (hl : l < 12) (hp : p < 26) (hw : D 537 27 = nI w) (hw4 : w ≤ 4) (h577 : D 577 ((t * 12 + l) * 26 + p) = 0 ∨ D 577 ((t * 12 + l) * 26 + p) = 1) (htk : D 544 p = -1 ∨ ∃ u, u < 6 ∧ D 544 p = nI u) {Q : Int32 × ao_M → Prop}
    (q : ∀ x, (x = 0 ∧ ¬ (D 577 ((t * 12 + l) * 26 + p) = 1 ∧ wrp (nI w) (D 560 t) (D 542 p) (D 543 p) (D 544 p) (nI t) (D 579 ((t * 12 + l) * 26 + p)) (D 580 ((t * 12 + l) * 26 + p))) ∨ x = 1 ∧ (D 577 ((t * 12 + l) * 26 + p) = 1 ∧ wrp (nI w) (D 560 t) (D 542 p) (D 543 p) (D 544 p) (nI t) (D 579 ((t * 12 + l) * 26 + p)) (D 580 ((t * 12 + l) * 26 + p)))) → Q (x, D)) : hv (fun n => gX12_isWrong n 537 (nI t) (nI l) (nI p) D σ) Q := by
  unfold gX12_isWrong
  rcases h577 with e0 | e0
  · refine hv_up (fun _ => fX12_isWrong.eq_2 ..) ?_
    try simp only [↓reduceIte, Nat.reduceEqDiff, Option.bind_some, ao_let, n_ell, hs, gX12_cell, e0]
    try simp (disch := first | omega | assumption) only [↓reduceIte, Nat.reduceEqDiff, Option.bind_some, ao_let, t_le, f_le, t_lt, f_lt, f_eq, u_eq, u_n1, u_n2, n_cl, n_lt, n_le, n_eq, n_ltl, n_llt, n_lel, n_lle, n_eql, n_leq, n_add, n_mul, n_sub, n_addl, n_ladd, n_mull, n_lmul, n_subl, Int32.reduceLT, Int32.reduceLE, Int32.reduceAdd, Int32.reduceSub, Int32.reduceMul, Int32.reduceToNatClampNeg, not_false_eq_true, not_true_eq_false, or_false, false_or, or_self, and_self, false_and, true_and, and_false, and_true, true_or, or_true, Nat.reduceAdd, Nat.reduceMul, Nat.reduceLT, Nat.reduceLeDiff, ne_eq, n_ell, hs, gX12_cell, e0]
    exact hv_some (q _ (Or.inl ⟨rfl, fun x => absurd (e0.symm.trans x.1) (by decide)⟩))
  rw [e0] at q
  have h10 : ((1 : Int32) = 0) = False := by decide
  rcases w5 hw4 with rfl | rfl | rfl | rfl | rfl
  · refine hv_up (fun _ => fX12_isWrong.eq_2 ..) ?_
    try simp only [↓reduceIte, Nat.reduceEqDiff, Option.bind_some, ao_let, n_ell, hs, gX12_cell, e0, hw, h10]
    try simp (disch := first | omega | assumption) only [↓reduceIte, Nat.reduceEqDiff, Option.bind_some, ao_let, t_le, f_le, t_lt, f_lt, f_eq, u_eq, u_n1, u_n2, n_cl, n_lt, n_le, n_eq, n_ltl, n_llt, n_lel, n_lle, n_eql, n_leq, n_add, n_mul, n_sub, n_addl, n_ladd, n_mull, n_lmul, n_subl, Int32.reduceLT, Int32.reduceLE, Int32.reduceAdd, Int32.reduceSub, Int32.reduceMul, Int32.reduceToNatClampNeg, not_false_eq_true, not_true_eq_false, or_false, false_or, or_self, and_self, false_and, true_and, and_false, and_true, true_or, or_true, Nat.reduceAdd, Nat.reduceMul, Nat.reduceLT, Nat.reduceLeDiff, ne_eq, n_ell, hs, gX12_cell, e0, hw, h10]
    refine hv_up (fun _ => fX12_isWrong.eq_2 ..) ?_
    try simp only [↓reduceIte, Nat.reduceEqDiff, Option.bind_some, ao_let, n_ell, hs]
    try simp (disch := first | omega | assumption) only [↓reduceIte, Nat.reduceEqDiff, Option.bind_some, ao_let, t_le, f_le, t_lt, f_lt, f_eq, u_eq, u_n1, u_n2, n_cl, n_lt, n_le, n_eq, n_ltl, n_llt, n_lel, n_lle, n_eql, n_leq, n_add, n_mul, n_sub, n_addl, n_ladd, n_mull, n_lmul, n_subl, Int32.reduceLT, Int32.reduceLE, Int32.reduceAdd, Int32.reduceSub, Int32.reduceMul, Int32.reduceToNatClampNeg, not_false_eq_true, not_true_eq_false, or_false, false_or, or_self, and_self, false_and, true_and, and_false, and_true, true_or, or_true, Nat.reduceAdd, Nat.reduceMul, Nat.reduceLT, Nat.reduceLeDiff, ne_eq, n_ell, hs]
    refine hv_if (fun e => hv_some (q _ (Or.inl ⟨rfl, ?_⟩))) (fun e => hv_some (q _ (Or.inr ⟨rfl, rfl, ?_⟩)))
    · rw [wrp_0]; exact fun x => x.2 e
    · rw [wrp_0]; exact e
  · refine hv_up (fun _ => fX12_isWrong.eq_2 ..) ?_
    try simp only [↓reduceIte, Nat.reduceEqDiff, Option.bind_some, ao_let, n_ell, hs, gX12_cell, e0, hw, h10]
    try simp (disch := first | omega | assumption) only [↓reduceIte, Nat.reduceEqDiff, Option.bind_some, ao_let, t_le, f_le, t_lt, f_lt, f_eq, u_eq, u_n1, u_n2, n_cl, n_lt, n_le, n_eq, n_ltl, n_llt, n_lel, n_lle, n_eql, n_leq, n_add, n_mul, n_sub, n_addl, n_ladd, n_mull, n_lmul, n_subl, Int32.reduceLT, Int32.reduceLE, Int32.reduceAdd, Int32.reduceSub, Int32.reduceMul, Int32.reduceToNatClampNeg, not_false_eq_true, not_true_eq_false, or_false, false_or, or_self, and_self, false_and, true_and, and_false, and_true, true_or, or_true, Nat.reduceAdd, Nat.reduceMul, Nat.reduceLT, Nat.reduceLeDiff, ne_eq, n_ell, hs, gX12_cell, e0, hw, h10]
    refine hv_if (fun e => hv_some (q _ (Or.inl ⟨rfl, ?_⟩))) (fun e => hv_some (q _ (Or.inr ⟨rfl, rfl, ?_⟩)))
    · rw [wrp_1]; exact fun x => x.2 e
    · rw [wrp_1]; exact e
  · refine hv_up (fun _ => fX12_isWrong.eq_2 ..) ?_
    try simp only [↓reduceIte, Nat.reduceEqDiff, Option.bind_some, ao_let, n_ell, hs, gX12_cell, e0, hw, h10]
    try simp (disch := first | omega | assumption) only [↓reduceIte, Nat.reduceEqDiff, Option.bind_some, ao_let, t_le, f_le, t_lt, f_lt, f_eq, u_eq, u_n1, u_n2, n_cl, n_lt, n_le, n_eq, n_ltl, n_llt, n_lel, n_lle, n_eql, n_leq, n_add, n_mul, n_sub, n_addl, n_ladd, n_mull, n_lmul, n_subl, Int32.reduceLT, Int32.reduceLE, Int32.reduceAdd, Int32.reduceSub, Int32.reduceMul, Int32.reduceToNatClampNeg, not_false_eq_true, not_true_eq_false, or_false, false_or, or_self, and_self, false_and, true_and, and_false, and_true, true_or, or_true, Nat.reduceAdd, Nat.reduceMul, Nat.reduceLT, Nat.reduceLeDiff, ne_eq, n_ell, hs, gX12_cell, e0, hw, h10]
    refine hv_up (fun _ => fX12_isWrong.eq_2 ..) ?_
    try simp only [↓reduceIte, Nat.reduceEqDiff, Option.bind_some, ao_let, n_ell, hs]
    try simp (disch := first | omega | assumption) only [↓reduceIte, Nat.reduceEqDiff, Option.bind_some, ao_let, t_le, f_le, t_lt, f_lt, f_eq, u_eq, u_n1, u_n2, n_cl, n_lt, n_le, n_eq, n_ltl, n_llt, n_lel, n_lle, n_eql, n_leq, n_add, n_mul, n_sub, n_addl, n_ladd, n_mull, n_lmul, n_subl, Int32.reduceLT, Int32.reduceLE, Int32.reduceAdd, Int32.reduceSub, Int32.reduceMul, Int32.reduceToNatClampNeg, not_false_eq_true, not_true_eq_false, or_false, false_or, or_self, and_self, false_and, true_and, and_false, and_true, true_or, or_true, Nat.reduceAdd, Nat.reduceMul, Nat.reduceLT, Nat.reduceLeDiff, ne_eq, n_ell, hs]
    refine hv_if (fun e => hv_some (q _ (Or.inl ⟨rfl, ?_⟩))) (fun e => hv_some (q _ (Or.inr ⟨rfl, rfl, ?_⟩)))
    · rw [wrp_2]; exact fun x => x.2 e
    · rw [wrp_2]; exact e
  · have last : ∀ {x4 : Int32}, x4 = nI ((t * 12 + l) * 26 + p) → ¬ (D 544 p ≠ -1 ∧ D 544 p ≠ nI t) → hv (fun n => fX12_isWrong n 118 537 (nI t) (nI l) (nI p) x4 D σ) Q := by
      rintro _ rfl hn
      refine hv_up (fun _ => fX12_isWrong.eq_2 ..) ?_
      try simp only [↓reduceIte, Nat.reduceEqDiff, Option.bind_some, ao_let, n_ell, hs]
      try simp (disch := first | omega | assumption) only [↓reduceIte, Nat.reduceEqDiff, Option.bind_some, ao_let, t_le, f_le, t_lt, f_lt, f_eq, u_eq, u_n1, u_n2, n_cl, n_lt, n_le, n_eq, n_ltl, n_llt, n_lel, n_lle, n_eql, n_leq, n_add, n_mul, n_sub, n_addl, n_ladd, n_mull, n_lmul, n_subl, Int32.reduceLT, Int32.reduceLE, Int32.reduceAdd, Int32.reduceSub, Int32.reduceMul, Int32.reduceToNatClampNeg, not_false_eq_true, not_true_eq_false, or_false, false_or, or_self, and_self, false_and, true_and, and_false, and_true, true_or, or_true, Nat.reduceAdd, Nat.reduceMul, Nat.reduceLT, Nat.reduceLeDiff, ne_eq, n_ell, hs]
      refine hv_if (fun e => hv_some (q _ (Or.inl ⟨rfl, ?_⟩))) (fun e => ?_)
      · rw [wrp_3]; exact fun x => x.2.elim hn (fun y => y e)
      · refine hv_up (fun _ => fX12_isWrong.eq_2 ..) ?_
        try simp only [↓reduceIte, Nat.reduceEqDiff, Option.bind_some, ao_let, n_ell]
        try simp (disch := first | omega | assumption) only [↓reduceIte, Nat.reduceEqDiff, Option.bind_some, ao_let, t_le, f_le, t_lt, f_lt, f_eq, u_eq, u_n1, u_n2, n_cl, n_lt, n_le, n_eq, n_ltl, n_llt, n_lel, n_lle, n_eql, n_leq, n_add, n_mul, n_sub, n_addl, n_ladd, n_mull, n_lmul, n_subl, Int32.reduceLT, Int32.reduceLE, Int32.reduceAdd, Int32.reduceSub, Int32.reduceMul, Int32.reduceToNatClampNeg, not_false_eq_true, not_true_eq_false, or_false, false_or, or_self, and_self, false_and, true_and, and_false, and_true, true_or, or_true, Nat.reduceAdd, Nat.reduceMul, Nat.reduceLT, Nat.reduceLeDiff, ne_eq, n_ell]
        exact hv_some (q _ (Or.inr ⟨rfl, rfl, by rw [wrp_3]; exact Or.inr e⟩))
    rcases htk with e1 | ⟨u, hu, e1⟩
    · refine hv_up (fun _ => fX12_isWrong.eq_2 ..) ?_
      try simp only [↓reduceIte, Nat.reduceEqDiff, Option.bind_some, ao_let, n_ell, hs, gX12_cell, e0, hw, h10, e1, show ((-1 : Int32) < 0) = True from by decide]
      try simp (disch := first | omega | assumption) only [↓reduceIte, Nat.reduceEqDiff, Option.bind_some, ao_let, t_le, f_le, t_lt, f_lt, f_eq, u_eq, u_n1, u_n2, n_cl, n_lt, n_le, n_eq, n_ltl, n_llt, n_lel, n_lle, n_eql, n_leq, n_add, n_mul, n_sub, n_addl, n_ladd, n_mull, n_lmul, n_subl, Int32.reduceLT, Int32.reduceLE, Int32.reduceAdd, Int32.reduceSub, Int32.reduceMul, Int32.reduceToNatClampNeg, not_false_eq_true, not_true_eq_false, or_false, false_or, or_self, and_self, false_and, true_and, and_false, and_true, true_or, or_true, Nat.reduceAdd, Nat.reduceMul, Nat.reduceLT, Nat.reduceLeDiff, ne_eq, n_ell, hs, gX12_cell, e0, hw, h10, e1, show ((-1 : Int32) < 0) = True from by decide]
      exact last (by rfl) (fun x => x.1 e1)
    · refine hv_up (fun _ => fX12_isWrong.eq_2 ..) ?_
      try simp only [↓reduceIte, Nat.reduceEqDiff, Option.bind_some, ao_let, n_ell, hs, gX12_cell, e0, hw, h10, e1]
      try simp (disch := first | omega | assumption) only [↓reduceIte, Nat.reduceEqDiff, Option.bind_some, ao_let, t_le, f_le, t_lt, f_lt, f_eq, u_eq, u_n1, u_n2, n_cl, n_lt, n_le, n_eq, n_ltl, n_llt, n_lel, n_lle, n_eql, n_leq, n_add, n_mul, n_sub, n_addl, n_ladd, n_mull, n_lmul, n_subl, Int32.reduceLT, Int32.reduceLE, Int32.reduceAdd, Int32.reduceSub, Int32.reduceMul, Int32.reduceToNatClampNeg, not_false_eq_true, not_true_eq_false, or_false, false_or, or_self, and_self, false_and, true_and, and_false, and_true, true_or, or_true, Nat.reduceAdd, Nat.reduceMul, Nat.reduceLT, Nat.reduceLeDiff, ne_eq, n_ell, hs, gX12_cell, e0, hw, h10, e1]
      by_cases e2 : u = t
      · subst e2
        simp only [↓reduceIte]
        exact last (by rfl) (fun x => x.2 e1)
      · simp only [e2, ↓reduceIte]
        refine hv_up (fun _ => fX12_isWrong.eq_2 ..) ?_
        try simp only [↓reduceIte, Nat.reduceEqDiff, Option.bind_some, ao_let, n_ell]
        try simp (disch := first | omega | assumption) only [↓reduceIte, Nat.reduceEqDiff, Option.bind_some, ao_let, t_le, f_le, t_lt, f_lt, f_eq, u_eq, u_n1, u_n2, n_cl, n_lt, n_le, n_eq, n_ltl, n_llt, n_lel, n_lle, n_eql, n_leq, n_add, n_mul, n_sub, n_addl, n_ladd, n_mull, n_lmul, n_subl, Int32.reduceLT, Int32.reduceLE, Int32.reduceAdd, Int32.reduceSub, Int32.reduceMul, Int32.reduceToNatClampNeg, not_false_eq_true, not_true_eq_false, or_false, false_or, or_self, and_self, false_and, true_and, and_false, and_true, true_or, or_true, Nat.reduceAdd, Nat.reduceMul, Nat.reduceLT, Nat.reduceLeDiff, ne_eq, n_ell]
        exact hv_some (q _ (Or.inr ⟨rfl, rfl, by
          rw [wrp_3, e1]
          refine Or.inl ⟨fun z => ?_, fun z => ?_⟩
          · have := n_neg (n := u) (by omega)
            rw [z] at this
            exact absurd rfl (by rw [this]; exact id)
          · have := (n_eq (show u < 2147483648 by omega) (show t < 2147483648 by omega)).mp z
            exact e2 this⟩))
  · refine hv_up (fun _ => fX12_isWrong.eq_2 ..) ?_
    try simp only [↓reduceIte, Nat.reduceEqDiff, Option.bind_some, ao_let, n_ell, hs, gX12_cell, e0, hw, h10]
    try simp (disch := first | omega | assumption) only [↓reduceIte, Nat.reduceEqDiff, Option.bind_some, ao_let, t_le, f_le, t_lt, f_lt, f_eq, u_eq, u_n1, u_n2, n_cl, n_lt, n_le, n_eq, n_ltl, n_llt, n_lel, n_lle, n_eql, n_leq, n_add, n_mul, n_sub, n_addl, n_ladd, n_mull, n_lmul, n_subl, Int32.reduceLT, Int32.reduceLE, Int32.reduceAdd, Int32.reduceSub, Int32.reduceMul, Int32.reduceToNatClampNeg, not_false_eq_true, not_true_eq_false, or_false, false_or, or_self, and_self, false_and, true_and, and_false, and_true, true_or, or_true, Nat.reduceAdd, Nat.reduceMul, Nat.reduceLT, Nat.reduceLeDiff, ne_eq, n_ell, hs, gX12_cell, e0, hw, h10]
    exact hv_some (q _ (Or.inl ⟨rfl, fun x => wrp_4 x.2⟩))
/-- level j of thread t has a wrong read -/
def WL (D : ao_M) (t j : Nat) : Prop := ∃ p, p < 26 ∧ D 577 ((t * 12 + j) * 26 + p) = 1 ∧ wrp (D 537 27) (D 560 t) (D 542 p) (D 543 p) (D 544 p) (nI t) (D 579 ((t * 12 + j) * 26 + p)) (D 580 ((t * 12 + j) * 26 + p))
/-- x is the first of the levels that has one, from k on, or -1 -/
def FW (D : ao_M) (t k dp : Nat) (x : Int32) : Prop := (∃ j, k ≤ j ∧ j < dp ∧ x = nI j ∧ WL D t j ∧ ∀ i, k ≤ i → i < j → ¬ WL D t i) ∨ x = -1 ∧ ∀ i, k ≤ i → i < dp → ¬ WL D t i
theorem FW_un {D : ao_M} {t k dp : Nat} {x y : Int32} (h : FW D t k dp x) (g : FW D t k dp y) : x = y := by
  rcases h with ⟨j, h1, h2, rfl, h3, h4⟩ | ⟨rfl, h1⟩
  · rcases g with ⟨i, g1, g2, rfl, g3, g4⟩ | ⟨rfl, g1⟩
    · have : j = i := by
        rcases (show j < i ∨ j = i ∨ i < j by omega) with e | e | e
        · exact absurd h3 (g4 j h1 e)
        · exact e
        · exact absurd g3 (h4 i g1 e)
      rw [this]
    · exact absurd h3 (g1 j h1 h2)
  · rcases g with ⟨i, g1, g2, rfl, g3, g4⟩ | ⟨rfl, g1⟩
    · exact absurd g3 (h1 i g1 g2)
    · rfl
theorem FW_s {D : ao_M} {t k dp : Nat} {x : Int32} (hn : ¬ WL D t k) (h : FW D t (k + 1) dp x) : FW D t k dp x := by
  rcases h with ⟨j, h1, h2, h3, h4, h5⟩ | ⟨h1, h2⟩
  · refine Or.inl ⟨j, by omega, h2, h3, h4, fun i i1 i2 => ?_⟩
    by_cases e : i = k
    · subst e; exact hn
    · exact h5 i (by omega) i2
  · refine Or.inr ⟨h1, fun i i1 i2 => ?_⟩
    by_cases e : i = k
    · subst e; exact hn
    · exact h2 i (by omega) i2
theorem d_wl1 {σ : ao_H} {D : ao_M} {t j w : Nat} (hs : ShD σ) (ht : t < 6) (hj : j < 10) (hw : D 537 27 = nI w) (hw4 : w ≤ 4) (h577 : ∀ p, p < 26 → D 577 ((t * 12 + j) * 26 + p) = 0 ∨ D 577 ((t * 12 + j) * 26 + p) = 1) (htk : ∀ p, p < 26 → D 544 p = -1 ∨ ∃ u, u < 6 ∧ D 544 p = nI u) {Q : Int32 × ao_M → Prop} (q1 : WL D t j → Q (nI j, D)) (q2 : ¬ WL D t j → hv (fun n => fX12_wrongLevel n 2 537 (nI t) (nI (j + 1)) 0 D σ) Q) : ∀ (m p : Nat), p + m = 26 → (∀ p', p' < p → ¬ (D 577 ((t * 12 + j) * 26 + p') = 1 ∧ wrp (D 537 27) (D 560 t) (D 542 p') (D 543 p') (D 544 p') (nI t) (D 579 ((t * 12 + j) * 26 + p')) (D 580 ((t * 12 + j) * 26 + p')))) → hv (fun n => fX12_wrongLevel n 14 537 (nI t) (nI j) (nI p) D σ) Q := by
  intro m
  induction m with
  | zero =>
    intro p h hn
    obtain rfl : p = 26 := by omega
    refine hv_up (fun _ => fX12_wrongLevel.eq_2 ..) ?_
    try simp only [↓reduceIte, Nat.reduceEqDiff, Option.bind_some, ao_let, n_ell]
    try simp (disch := first | omega | assumption) only [↓reduceIte, Nat.reduceEqDiff, Option.bind_some, ao_let, t_le, f_le, t_lt, f_lt, f_eq, u_eq, u_n1, u_n2, n_cl, n_lt, n_le, n_eq, n_ltl, n_llt, n_lel, n_lle, n_eql, n_leq, n_add, n_mul, n_sub, n_addl, n_ladd, n_mull, n_lmul, n_subl, Int32.reduceLT, Int32.reduceLE, Int32.reduceAdd, Int32.reduceSub, Int32.reduceMul, Int32.reduceToNatClampNeg, not_false_eq_true, not_true_eq_false, or_false, false_or, or_self, and_self, false_and, true_and, and_false, and_true, true_or, or_true, Nat.reduceAdd, Nat.reduceMul, Nat.reduceLT, Nat.reduceLeDiff, ne_eq, n_ell]
    exact q2 (fun ⟨p, h1, h2⟩ => hn p h1 h2)
  | succ m ih =>
    intro p h hn
    refine hv_up (fun _ => fX12_wrongLevel.eq_2 ..) ?_
    try simp only [↓reduceIte, Nat.reduceEqDiff, Option.bind_some, ao_let, n_ell, hs]
    try simp (disch := first | omega | assumption) only [↓reduceIte, Nat.reduceEqDiff, Option.bind_some, ao_let, t_le, f_le, t_lt, f_lt, f_eq, u_eq, u_n1, u_n2, n_cl, n_lt, n_le, n_eq, n_ltl, n_llt, n_lel, n_lle, n_eql, n_leq, n_add, n_mul, n_sub, n_addl, n_ladd, n_mull, n_lmul, n_subl, Int32.reduceLT, Int32.reduceLE, Int32.reduceAdd, Int32.reduceSub, Int32.reduceMul, Int32.reduceToNatClampNeg, not_false_eq_true, not_true_eq_false, or_false, false_or, or_self, and_self, false_and, true_and, and_false, and_true, true_or, or_true, Nat.reduceAdd, Nat.reduceMul, Nat.reduceLT, Nat.reduceLeDiff, ne_eq, n_ell, hs]
    refine hv_bind (P := fun y => y.2 = D ∧ (y.1 = 0 ∧ ¬ (D 577 ((t * 12 + j) * 26 + p) = 1 ∧ wrp (nI w) (D 560 t) (D 542 p) (D 543 p) (D 544 p) (nI t) (D 579 ((t * 12 + j) * 26 + p)) (D 580 ((t * 12 + j) * 26 + p))) ∨ y.1 = 1 ∧ (D 577 ((t * 12 + j) * 26 + p) = 1 ∧ wrp (nI w) (D 560 t) (D 542 p) (D 543 p) (D 544 p) (nI t) (D 579 ((t * 12 + j) * 26 + p)) (D 580 ((t * 12 + j) * 26 + p))))) (d_isw hs ht (by omega) (by omega) hw hw4 (h577 p (by omega)) (htk p (by omega)) (fun x hx => ⟨rfl, hx⟩)) ?_
    rintro ⟨x, D'⟩ ⟨e, hx⟩
    obtain rfl : D' = D := e
    rcases hx with ⟨rfl, hx⟩ | ⟨rfl, hx⟩
    · simp only [↓reduceIte, ao_let, n_addl]
      refine ih (p + 1) (by omega) (fun p' hp' => ?_)
      by_cases e : p' = p
      · subst e; rw [hw]; exact hx
      · exact hn p' (by omega)
    · simp only [show ((1 : Int32) = 0) = False from by decide, ↓reduceIte]
      exact hv_some (q1 ⟨p, by omega, hx.1, by rw [hw]; exact hx.2⟩)
theorem d_wl {σ : ao_H} {D : ao_M} {t dp w : Nat} (hs : ShD σ) (ht : t < 6) (hd : dp ≤ 10) (hw : D 537 27 = nI w) (hw4 : w ≤ 4) (h56 : D 556 t = nI dp) (h577 : ∀ j p, j < dp → p < 26 → D 577 ((t * 12 + j) * 26 + p) = 0 ∨ D 577 ((t * 12 + j) * 26 + p) = 1) (htk : ∀ p, p < 26 → D 544 p = -1 ∨ ∃ u, u < 6 ∧ D 544 p = nI u) {Q : Int32 × ao_M → Prop} (q : ∀ x, FW D t 0 dp x → Q (x, D)) : hv (fun n => gX12_wrongLevel n 537 (nI t) D σ) Q := by
  unfold gX12_wrongLevel
  refine hv_up (fun _ => fX12_wrongLevel.eq_2 ..) ?_
  try simp only [↓reduceIte, Nat.reduceEqDiff, Option.bind_some, ao_let, n_ell]
  try simp (disch := first | omega | assumption) only [↓reduceIte, Nat.reduceEqDiff, Option.bind_some, ao_let, t_le, f_le, t_lt, f_lt, f_eq, u_eq, u_n1, u_n2, n_cl, n_lt, n_le, n_eq, n_ltl, n_llt, n_lel, n_lle, n_eql, n_leq, n_add, n_mul, n_sub, n_addl, n_ladd, n_mull, n_lmul, n_subl, Int32.reduceLT, Int32.reduceLE, Int32.reduceAdd, Int32.reduceSub, Int32.reduceMul, Int32.reduceToNatClampNeg, not_false_eq_true, not_true_eq_false, or_false, false_or, or_self, and_self, false_and, true_and, and_false, and_true, true_or, or_true, Nat.reduceAdd, Nat.reduceMul, Nat.reduceLT, Nat.reduceLeDiff, ne_eq, n_ell]
  have main : ∀ (m k : Nat), k + m = dp → (∀ x, FW D t k dp x → Q (x, D)) → hv (fun n => fX12_wrongLevel n 2 537 (nI t) (nI k) 0 D σ) Q := by
    intro m
    induction m with
    | zero =>
      intro k h hq
      obtain rfl : k = dp := by omega
      refine hv_up (fun _ => fX12_wrongLevel.eq_2 ..) ?_
      try simp only [↓reduceIte, Nat.reduceEqDiff, Option.bind_some, ao_let, n_ell, hs, h56]
      try simp (disch := first | omega | assumption) only [↓reduceIte, Nat.reduceEqDiff, Option.bind_some, ao_let, t_le, f_le, t_lt, f_lt, f_eq, u_eq, u_n1, u_n2, n_cl, n_lt, n_le, n_eq, n_ltl, n_llt, n_lel, n_lle, n_eql, n_leq, n_add, n_mul, n_sub, n_addl, n_ladd, n_mull, n_lmul, n_subl, Int32.reduceLT, Int32.reduceLE, Int32.reduceAdd, Int32.reduceSub, Int32.reduceMul, Int32.reduceToNatClampNeg, not_false_eq_true, not_true_eq_false, or_false, false_or, or_self, and_self, false_and, true_and, and_false, and_true, true_or, or_true, Nat.reduceAdd, Nat.reduceMul, Nat.reduceLT, Nat.reduceLeDiff, ne_eq, n_ell, hs, h56]
      exact hv_some (hq _ (Or.inr ⟨rfl, fun i i1 i2 => absurd i2 (by omega)⟩))
    | succ m ih =>
      intro k h hq
      refine hv_up (fun _ => fX12_wrongLevel.eq_2 ..) ?_
      try simp only [↓reduceIte, Nat.reduceEqDiff, Option.bind_some, ao_let, n_ell, hs, h56]
      try simp (disch := first | omega | assumption) only [↓reduceIte, Nat.reduceEqDiff, Option.bind_some, ao_let, t_le, f_le, t_lt, f_lt, f_eq, u_eq, u_n1, u_n2, n_cl, n_lt, n_le, n_eq, n_ltl, n_llt, n_lel, n_lle, n_eql, n_leq, n_add, n_mul, n_sub, n_addl, n_ladd, n_mull, n_lmul, n_subl, Int32.reduceLT, Int32.reduceLE, Int32.reduceAdd, Int32.reduceSub, Int32.reduceMul, Int32.reduceToNatClampNeg, not_false_eq_true, not_true_eq_false, or_false, false_or, or_self, and_self, false_and, true_and, and_false, and_true, true_or, or_true, Nat.reduceAdd, Nat.reduceMul, Nat.reduceLT, Nat.reduceLeDiff, ne_eq, n_ell, hs, h56]
      refine d_wl1 hs ht (by omega) hw hw4 (fun p hp => h577 k p (by omega) hp) htk (fun hW => hq _ (Or.inl ⟨k, by omega, by omega, rfl, hW, fun i i1 i2 => absurd i2 (by omega)⟩)) (fun hW => ih (k + 1) (by omega) (fun x hx => hq x (FW_s hW hx))) 26 0 rfl (fun p' hp' => absurd hp' (by omega))
  exact main dp 0 (by omega) q
/-- the class looks at the reads of level j -/
theorem c_ow1 {ρ : ao_H} {C : ao_M} {t j w : Nat} {ps : List Nat} {vs ws : Nat → Int32} (hc : ShA ρ) (hR : RnS ρ (92 + 71 * t)) (hl : LvS ρ (92 + 71 * t + 8 + 6 * j)) (hw : C 12 5 = nI w) (hw4 : w ≤ 4) (hrd : RdC C (92 + 71 * t + 8 + 6 * j) ps vs ws) {Q : Int32 × ao_M → Prop} {W : Prop}
    (hW : W ↔ ∃ p ∈ ps, wrp (nI w) (C (92 + 71 * t) 14) (C 14 p) (C 15 p) (C 16 p) (C (92 + 71 * t) 0) (vs p) (ws p)) (q1 : W → Q (nI j, C)) (q2 : ¬ W → hv (fun n => fX2_outermostWrong n 26 12 (92 + 71 * t) (nI (j + 1)) 0 0 C ρ) Q) : ∀ (m i : Nat), i + m = ps.length → (∀ (i' : Nat) (h : i' < ps.length), i' < i → ¬ wrp (nI w) (C (92 + 71 * t) 14) (C 14 ps[i']) (C 15 ps[i']) (C 16 ps[i']) (C (92 + 71 * t) 0) (vs ps[i']) (ws ps[i'])) → hv (fun n => fX2_outermostWrong n 43 12 (92 + 71 * t) (nI j) (92 + 71 * t + 8 + 6 * j) (nI i) C ρ) Q := by
  have hlen := RdC_len hrd
  obtain ⟨r3, r1, r4, r5, r6⟩ := hrd
  intro m
  induction m with
  | zero =>
    intro i h hn
    obtain rfl : i = ps.length := by omega
    refine hv_up (fun _ => fX2_outermostWrong.eq_2 ..) ?_
    try simp only [↓reduceIte, Nat.reduceEqDiff, Option.bind_some, ao_let, n_ell, hl, r3]
    try simp (disch := first | omega | assumption) only [↓reduceIte, Nat.reduceEqDiff, Option.bind_some, ao_let, t_le, f_le, t_lt, f_lt, f_eq, u_eq, u_n1, u_n2, n_cl, n_lt, n_le, n_eq, n_ltl, n_llt, n_lel, n_lle, n_eql, n_leq, n_add, n_mul, n_sub, n_addl, n_ladd, n_mull, n_lmul, n_subl, Int32.reduceLT, Int32.reduceLE, Int32.reduceAdd, Int32.reduceSub, Int32.reduceMul, Int32.reduceToNatClampNeg, not_false_eq_true, not_true_eq_false, or_false, false_or, or_self, and_self, false_and, true_and, and_false, and_true, true_or, or_true, Nat.reduceAdd, Nat.reduceMul, Nat.reduceLT, Nat.reduceLeDiff, ne_eq, n_ell, hl, r3]
    refine hv_up (fun _ => fX2_outermostWrong.eq_2 ..) ?_
    try simp only [↓reduceIte, Nat.reduceEqDiff, Option.bind_some, ao_let, n_ell]
    try simp (disch := first | omega | assumption) only [↓reduceIte, Nat.reduceEqDiff, Option.bind_some, ao_let, t_le, f_le, t_lt, f_lt, f_eq, u_eq, u_n1, u_n2, n_cl, n_lt, n_le, n_eq, n_ltl, n_llt, n_lel, n_lle, n_eql, n_leq, n_add, n_mul, n_sub, n_addl, n_ladd, n_mull, n_lmul, n_subl, Int32.reduceLT, Int32.reduceLE, Int32.reduceAdd, Int32.reduceSub, Int32.reduceMul, Int32.reduceToNatClampNeg, not_false_eq_true, not_true_eq_false, or_false, false_or, or_self, and_self, false_and, true_and, and_false, and_true, true_or, or_true, Nat.reduceAdd, Nat.reduceMul, Nat.reduceLT, Nat.reduceLeDiff, ne_eq, n_ell]
    refine q2 (fun hx => ?_)
    obtain ⟨p, hp, hx⟩ := hW.mp hx
    obtain ⟨i', hi', e⟩ := List.mem_iff_getElem.mp hp
    subst e
    exact hn i' hi' (by omega) hx
  | succ m ih =>
    intro i h hn
    have hi : i < ps.length := by omega
    obtain ⟨z1, z2, z3⟩ := r1 i hi
    refine hv_up (fun _ => fX2_outermostWrong.eq_2 ..) ?_
    try simp only [↓reduceIte, Nat.reduceEqDiff, Option.bind_some, ao_let, n_ell, hl, r3, hc]
    try simp (disch := first | omega | assumption) only [↓reduceIte, Nat.reduceEqDiff, Option.bind_some, ao_let, t_le, f_le, t_lt, f_lt, f_eq, u_eq, u_n1, u_n2, n_cl, n_lt, n_le, n_eq, n_ltl, n_llt, n_lel, n_lle, n_eql, n_leq, n_add, n_mul, n_sub, n_addl, n_ladd, n_mull, n_lmul, n_subl, Int32.reduceLT, Int32.reduceLE, Int32.reduceAdd, Int32.reduceSub, Int32.reduceMul, Int32.reduceToNatClampNeg, not_false_eq_true, not_true_eq_false, or_false, false_or, or_self, and_self, false_and, true_and, and_false, and_true, true_or, or_true, Nat.reduceAdd, Nat.reduceMul, Nat.reduceLT, Nat.reduceLeDiff, ne_eq, n_ell, hl, r3, hc]
    refine hv_bind (P := fun y => y.2 = C ∧ (y.1 = 0 ∧ ¬ wrp (nI w) (C (92 + 71 * t) 14) (C 14 ps[i]) (C 15 ps[i]) (C 16 ps[i]) (C (92 + 71 * t) 0) (vs ps[i]) (ws ps[i]) ∨ y.1 = 1 ∧ wrp (nI w) (C (92 + 71 * t) 14) (C 14 ps[i]) (C 15 ps[i]) (C 16 ps[i]) (C (92 + 71 * t) 0) (vs ps[i]) (ws ps[i]))) (c_isw hc hR hl (by omega) (r6 _ (List.getElem_mem hi)) z1 hw hw4 (fun x hx => ⟨rfl, by rw [z2, z3] at hx; exact hx⟩)) ?_
    rintro ⟨x, C'⟩ ⟨e, hx⟩
    obtain rfl : C' = C := e
    rcases hx with ⟨rfl, hx⟩ | ⟨rfl, hx⟩
    · simp only [↓reduceIte, ao_let, n_addl]
      refine ih (i + 1) (by omega) (fun i' h1 h2 => ?_)
      by_cases e : i' = i
      · subst e; exact hx
      · exact hn i' h1 (by omega)
    · simp only [show ((1 : Int32) = 0) = False from by decide, ↓reduceIte]
      exact hv_some (q1 (hW.mpr ⟨ps[i], List.getElem_mem hi, hx⟩))
theorem c_ow {ρ σ : ao_H} {C D : ao_M} {kp rc t dp w : Nat} (hc : ShA ρ) (hb : ShB ρ) (ht : t < 6) (hd : dp ≤ 10) (hw : C 12 5 = nI w) (hwD : D 537 27 = nI w) (hw4 : w ≤ 4) (r : Rpl kp C ρ D σ) (h8 : C (92 + 71 * t) 8 = nI dp) (h0 : C (92 + 71 * t) 0 = nI t) (h14 : C (92 + 71 * t) 14 = D 560 t) (hrd : ∀ j, j < dp → Rd C D rc t j) (hnv : ¬ (w = 1 ∧ D 537 26 = D 560 t)) {Q : Int32 × ao_M → Prop} (q : ∀ x, FW D t 0 dp x → Q (x, C)) : hv (fun n => gX2_outermostWrong n 12 (92 + 71 * t) C ρ) Q := by
  have hR := RnS_of hb ht
  obtain ⟨f, g, h, pc, pd, ch, ev, ec⟩ := r
  have main : ∀ (m k : Nat), k + m = dp → (∀ x, FW D t k dp x → Q (x, C)) → hv (fun n => fX2_outermostWrong n 26 12 (92 + 71 * t) (nI k) 0 0 C ρ) Q := by
    intro m
    induction m with
    | zero =>
      intro k h hq
      obtain rfl : k = dp := by omega
      refine hv_up (fun _ => fX2_outermostWrong.eq_2 ..) ?_
      try simp only [↓reduceIte, Nat.reduceEqDiff, Option.bind_some, ao_let, n_ell, hR, h8]
      try simp (disch := first | omega | assumption) only [↓reduceIte, Nat.reduceEqDiff, Option.bind_some, ao_let, t_le, f_le, t_lt, f_lt, f_eq, u_eq, u_n1, u_n2, n_cl, n_lt, n_le, n_eq, n_ltl, n_llt, n_lel, n_lle, n_eql, n_leq, n_add, n_mul, n_sub, n_addl, n_ladd, n_mull, n_lmul, n_subl, Int32.reduceLT, Int32.reduceLE, Int32.reduceAdd, Int32.reduceSub, Int32.reduceMul, Int32.reduceToNatClampNeg, not_false_eq_true, not_true_eq_false, or_false, false_or, or_self, and_self, false_and, true_and, and_false, and_true, true_or, or_true, Nat.reduceAdd, Nat.reduceMul, Nat.reduceLT, Nat.reduceLeDiff, ne_eq, n_ell, hR, h8]
      exact hv_some (hq _ (Or.inr ⟨rfl, fun i i1 i2 => absurd i2 (by omega)⟩))
    | succ m ih =>
      intro k h hq
      refine hv_up (fun _ => fX2_outermostWrong.eq_2 ..) ?_
      try simp only [↓reduceIte, Nat.reduceEqDiff, Option.bind_some, ao_let, n_ell, hR, h8]
      try simp (disch := first | omega | assumption) only [↓reduceIte, Nat.reduceEqDiff, Option.bind_some, ao_let, t_le, f_le, t_lt, f_lt, f_eq, u_eq, u_n1, u_n2, n_cl, n_lt, n_le, n_eq, n_ltl, n_llt, n_lel, n_lle, n_eql, n_leq, n_add, n_mul, n_sub, n_addl, n_ladd, n_mull, n_lmul, n_subl, Int32.reduceLT, Int32.reduceLE, Int32.reduceAdd, Int32.reduceSub, Int32.reduceMul, Int32.reduceToNatClampNeg, not_false_eq_true, not_true_eq_false, or_false, false_or, or_self, and_self, false_and, true_and, and_false, and_true, true_or, or_true, Nat.reduceAdd, Nat.reduceMul, Nat.reduceLT, Nat.reduceLeDiff, ne_eq, n_ell, hR, h8]
      refine hv_bind (P := fun y => y = (92 + 71 * t + 8 + 6 * k, C)) (c_level hb ht (by omega) C rfl) ?_
      rintro _ rfl
      obtain ⟨ps, vs, ws, rC, o, d1, d2, d3⟩ := hrd k (by omega)
      refine c_ow1 hc hR (LvS_of hb ht (by omega)) hw hw4 rC (W := WL D t k) ?_ (fun hW => hq _ (Or.inl ⟨k, by omega, by omega, rfl, hW, fun i i1 i2 => absurd i2 (by omega)⟩)) (fun hW => ih (k + 1) (by omega) (fun x hx => hq x (FW_s hW hx))) ps.length 0 (by omega) (fun i' h1 h2 => absurd h2 (by omega))
      rw [h14, h0]
      constructor
      · rintro ⟨p, hp, e1, e2⟩
        have hm : p ∈ ps := by
          have := d1 p hp
          rw [e1] at this
          by_cases hm : p ∈ ps
          · exact hm
          · rw [if_neg hm] at this
            exact absurd this (by decide)
        obtain ⟨y1, y2, y3, y4, y5⟩ := d2 p hm
        obtain ⟨v1, v2, v3, v4, v5, v6, v7⟩ := ev p hp
        rw [y2, y3, hwD] at e2
        exact ⟨p, hm, by rw [v1, v2, v3]; exact e2⟩
      · rintro ⟨p, hm, e2⟩
        obtain ⟨y1, y2, y3, y4, y5⟩ := d2 p hm
        obtain ⟨v1, v2, v3, v4, v5, v6, v7⟩ := ev p y1
        rw [v1, v2, v3] at e2
        exact ⟨p, y1, by rw [d1 p y1, if_pos hm], by rw [y2, y3, hwD]; exact e2⟩
  have go : hv (fun n => fX2_outermostWrong n 24 12 (92 + 71 * t) 0 0 0 C ρ) Q := by
    refine hv_up (fun _ => fX2_outermostWrong.eq_2 ..) ?_
    try simp only [↓reduceIte, Nat.reduceEqDiff, Option.bind_some, ao_let, n_ell]
    try simp (disch := first | omega | assumption) only [↓reduceIte, Nat.reduceEqDiff, Option.bind_some, ao_let, t_le, f_le, t_lt, f_lt, f_eq, u_eq, u_n1, u_n2, n_cl, n_lt, n_le, n_eq, n_ltl, n_llt, n_lel, n_lle, n_eql, n_leq, n_add, n_mul, n_sub, n_addl, n_ladd, n_mull, n_lmul, n_subl, Int32.reduceLT, Int32.reduceLE, Int32.reduceAdd, Int32.reduceSub, Int32.reduceMul, Int32.reduceToNatClampNeg, not_false_eq_true, not_true_eq_false, or_false, false_or, or_self, and_self, false_and, true_and, and_false, and_true, true_or, or_true, Nat.reduceAdd, Nat.reduceMul, Nat.reduceLT, Nat.reduceLeDiff, ne_eq, n_ell]
    exact main dp 0 (by omega) q
  unfold gX2_outermostWrong
  by_cases e : w = 1
  · subst e
    have hne : (D 537 26 = D 560 t) = False := eq_false (fun x => hnv ⟨rfl, x⟩)
    refine hv_up (fun _ => fX2_outermostWrong.eq_2 ..) ?_
    try simp only [↓reduceIte, Nat.reduceEqDiff, Option.bind_some, ao_let, n_ell, hc, hR, hw, ec, h14, hne]
    try simp (disch := first | omega | assumption) only [↓reduceIte, Nat.reduceEqDiff, Option.bind_some, ao_let, t_le, f_le, t_lt, f_lt, f_eq, u_eq, u_n1, u_n2, n_cl, n_lt, n_le, n_eq, n_ltl, n_llt, n_lel, n_lle, n_eql, n_leq, n_add, n_mul, n_sub, n_addl, n_ladd, n_mull, n_lmul, n_subl, Int32.reduceLT, Int32.reduceLE, Int32.reduceAdd, Int32.reduceSub, Int32.reduceMul, Int32.reduceToNatClampNeg, not_false_eq_true, not_true_eq_false, or_false, false_or, or_self, and_self, false_and, true_and, and_false, and_true, true_or, or_true, Nat.reduceAdd, Nat.reduceMul, Nat.reduceLT, Nat.reduceLeDiff, ne_eq, n_ell, hc, hR, hw, ec, h14, hne]
    exact go
  · refine hv_up (fun _ => fX2_outermostWrong.eq_2 ..) ?_
    try simp only [↓reduceIte, Nat.reduceEqDiff, Option.bind_some, ao_let, n_ell, hc, hR, hw]
    try simp (disch := first | omega | assumption) only [↓reduceIte, Nat.reduceEqDiff, Option.bind_some, ao_let, t_le, f_le, t_lt, f_lt, f_eq, u_eq, u_n1, u_n2, n_cl, n_lt, n_le, n_eq, n_ltl, n_llt, n_lel, n_lle, n_eql, n_leq, n_add, n_mul, n_sub, n_addl, n_ladd, n_mull, n_lmul, n_subl, Int32.reduceLT, Int32.reduceLE, Int32.reduceAdd, Int32.reduceSub, Int32.reduceMul, Int32.reduceToNatClampNeg, not_false_eq_true, not_true_eq_false, or_false, false_or, or_self, and_self, false_and, true_and, and_false, and_true, true_or, or_true, Nat.reduceAdd, Nat.reduceMul, Nat.reduceLT, Nat.reduceLeDiff, ne_eq, n_ell, hc, hR, hw]
    exact go
