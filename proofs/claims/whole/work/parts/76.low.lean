set_option linter.unusedSimpArgs false
set_option linter.unusedVariables false
/-! ===== the reference's low loops (by wip/whole/pure/gen76.py) ===== -/
theorem d_clear {σ : ao_H} (hs : ShD σ) (t l : Nat) (ht : t < 6) (hl : l < 12) : ∀ (k p : Nat) (D : ao_M), p + k = 26 → 
    hv (fun n => fX12_clearLevel n 2 537 (nI t) (nI l) (nI p) D σ) (fun D' => D' = fun a i => if (a = 577 ∨ a = 578) ∧ (t * 12 + l) * 26 + p ≤ i ∧ i < (t * 12 + l) * 26 + 26 then 0 else if a = 584 ∧ i = t * 12 + l then 0 else D a i) := by
  intro k
  induction k with
  | zero =>
    intro p D h
    obtain rfl : p = 26 := by omega
    refine hv_up (fun _ => fX12_clearLevel.eq_2 ..) ?_
    try simp only [↓reduceIte, Nat.reduceEqDiff, Option.bind_some, ao_let, hs, gX12_level, gX12_cell]
    try simp (disch := first | omega | assumption) only [↓reduceIte, Nat.reduceEqDiff, Option.bind_some, ao_let, t_le, f_le, t_lt, f_lt, f_eq, u_eq, u_n1, u_n2, n_cl, n_lt, n_le, n_eq, n_ltl, n_llt, n_lel, n_lle, n_eql, n_leq, n_add, n_mul, n_sub, n_addl, n_ladd, n_mull, n_lmul, n_subl, Int32.reduceLT, Int32.reduceLE, Int32.reduceAdd, Int32.reduceSub, Int32.reduceMul, Int32.reduceToNatClampNeg, not_false_eq_true, not_true_eq_false, or_false, false_or, or_self, and_self, false_and, true_and, and_false, and_true, true_or, or_true, Nat.reduceAdd, Nat.reduceMul, Nat.reduceLT, Nat.reduceLeDiff, ne_eq, hs, gX12_level, gX12_cell]
    refine hv_some ?_
    funext a i
    try simp only [ao_u, Nat.reduceEqDiff, false_and, true_and, and_true, ↓reduceIte, Nat.add_left_cancel_iff, ne_eq]
    try clear ih
    try clear hs
    try clear hc
    try grind (splits := 40)
  | succ k ih =>
    intro p D h
    refine hv_up (fun _ => fX12_clearLevel.eq_2 ..) ?_
    try simp only [↓reduceIte, Nat.reduceEqDiff, Option.bind_some, ao_let, hs, gX12_level, gX12_cell]
    try simp (disch := first | omega | assumption) only [↓reduceIte, Nat.reduceEqDiff, Option.bind_some, ao_let, t_le, f_le, t_lt, f_lt, f_eq, u_eq, u_n1, u_n2, n_cl, n_lt, n_le, n_eq, n_ltl, n_llt, n_lel, n_lle, n_eql, n_leq, n_add, n_mul, n_sub, n_addl, n_ladd, n_mull, n_lmul, n_subl, Int32.reduceLT, Int32.reduceLE, Int32.reduceAdd, Int32.reduceSub, Int32.reduceMul, Int32.reduceToNatClampNeg, not_false_eq_true, not_true_eq_false, or_false, false_or, or_self, and_self, false_and, true_and, and_false, and_true, true_or, or_true, Nat.reduceAdd, Nat.reduceMul, Nat.reduceLT, Nat.reduceLeDiff, ne_eq, hs, gX12_level, gX12_cell]
    refine hv_mono (ih _ _ (by omega)) ?_
    rintro _ rfl
    funext a i
    try simp only [ao_u, Nat.reduceEqDiff, false_and, true_and, and_true, ↓reduceIte, Nat.add_left_cancel_iff, ne_eq]
    try clear ih
    try clear hs
    try clear hc
    try grind (splits := 40)
def dClear (t l : Nat) (D : ao_M) : ao_M := fun a i => if (a = 577 ∨ a = 578) ∧ (t * 12 + l) * 26 ≤ i ∧ i < (t * 12 + l) * 26 + 26 then 0 else if a = 584 ∧ i = t * 12 + l then 0 else D a i
theorem dv_clear {σ : ao_H} (hs : ShD σ) {t l : Nat} (ht : t < 6) (hl : l < 12) (D : ao_M) {Q : ao_M → Prop} (q : Q (dClear t l D)) : hv (fun n => gX12_clearLevel n 537 (nI t) (nI l) D σ) Q := by
  unfold gX12_clearLevel
  refine hv_up (fun _ => fX12_clearLevel.eq_2 ..) ?_
  try simp only [↓reduceIte, Nat.reduceEqDiff, Option.bind_some, ao_let, hs]
  try simp (disch := first | omega | assumption) only [↓reduceIte, Nat.reduceEqDiff, Option.bind_some, ao_let, t_le, f_le, t_lt, f_lt, f_eq, u_eq, u_n1, u_n2, n_cl, n_lt, n_le, n_eq, n_ltl, n_llt, n_lel, n_lle, n_eql, n_leq, n_add, n_mul, n_sub, n_addl, n_ladd, n_mull, n_lmul, n_subl, Int32.reduceLT, Int32.reduceLE, Int32.reduceAdd, Int32.reduceSub, Int32.reduceMul, Int32.reduceToNatClampNeg, not_false_eq_true, not_true_eq_false, or_false, false_or, or_self, and_self, false_and, true_and, and_false, and_true, true_or, or_true, Nat.reduceAdd, Nat.reduceMul, Nat.reduceLT, Nat.reduceLeDiff, ne_eq, hs]
  refine hv_mono (d_clear hs t l ht hl 26 0 D rfl) ?_
  rintro _ rfl
  exact q
theorem d_keep {σ : ao_H} (hs : ShD σ) (t l : Nat) (ht : t < 6) (hl : l < 12) : ∀ (k p : Nat) (D : ao_M), p + k = 26 → 
    hv (fun n => fX12_keepRegisters n 2 537 (nI t) (nI l) (nI p) D σ) (fun D' => D' = fun a i => if (a = 575) ∧ (t * 12 + l) * 26 + p ≤ i ∧ i < (t * 12 + l) * 26 + 26 then D 553 (t * 26 + (i - (t * 12 + l) * 26)) else D a i) := by
  intro k
  induction k with
  | zero =>
    intro p D h
    obtain rfl : p = 26 := by omega
    refine hv_up (fun _ => fX12_keepRegisters.eq_2 ..) ?_
    try simp only [↓reduceIte, Nat.reduceEqDiff, Option.bind_some, ao_let, hs, gX12_cell]
    try simp (disch := first | omega | assumption) only [↓reduceIte, Nat.reduceEqDiff, Option.bind_some, ao_let, t_le, f_le, t_lt, f_lt, f_eq, u_eq, u_n1, u_n2, n_cl, n_lt, n_le, n_eq, n_ltl, n_llt, n_lel, n_lle, n_eql, n_leq, n_add, n_mul, n_sub, n_addl, n_ladd, n_mull, n_lmul, n_subl, Int32.reduceLT, Int32.reduceLE, Int32.reduceAdd, Int32.reduceSub, Int32.reduceMul, Int32.reduceToNatClampNeg, not_false_eq_true, not_true_eq_false, or_false, false_or, or_self, and_self, false_and, true_and, and_false, and_true, true_or, or_true, Nat.reduceAdd, Nat.reduceMul, Nat.reduceLT, Nat.reduceLeDiff, ne_eq, hs, gX12_cell]
    refine hv_some ?_
    funext a i
    try simp only [ao_u, Nat.reduceEqDiff, false_and, true_and, and_true, ↓reduceIte, Nat.add_left_cancel_iff, ne_eq]
    try clear ih
    try clear hs
    try clear hc
    try grind (splits := 40)
  | succ k ih =>
    intro p D h
    refine hv_up (fun _ => fX12_keepRegisters.eq_2 ..) ?_
    try simp only [↓reduceIte, Nat.reduceEqDiff, Option.bind_some, ao_let, hs, gX12_cell]
    try simp (disch := first | omega | assumption) only [↓reduceIte, Nat.reduceEqDiff, Option.bind_some, ao_let, t_le, f_le, t_lt, f_lt, f_eq, u_eq, u_n1, u_n2, n_cl, n_lt, n_le, n_eq, n_ltl, n_llt, n_lel, n_lle, n_eql, n_leq, n_add, n_mul, n_sub, n_addl, n_ladd, n_mull, n_lmul, n_subl, Int32.reduceLT, Int32.reduceLE, Int32.reduceAdd, Int32.reduceSub, Int32.reduceMul, Int32.reduceToNatClampNeg, not_false_eq_true, not_true_eq_false, or_false, false_or, or_self, and_self, false_and, true_and, and_false, and_true, true_or, or_true, Nat.reduceAdd, Nat.reduceMul, Nat.reduceLT, Nat.reduceLeDiff, ne_eq, hs, gX12_cell]
    refine hv_mono (ih _ _ (by omega)) ?_
    rintro _ rfl
    funext a i
    try simp only [ao_u, Nat.reduceEqDiff, false_and, true_and, and_true, ↓reduceIte, Nat.add_left_cancel_iff, ne_eq]
    try clear ih
    try clear hs
    try clear hc
    try grind (splits := 40)
def dKeep (t l : Nat) (D : ao_M) : ao_M := fun a i => if (a = 575) ∧ (t * 12 + l) * 26 ≤ i ∧ i < (t * 12 + l) * 26 + 26 then D 553 (t * 26 + (i - (t * 12 + l) * 26)) else D a i
theorem dv_keep {σ : ao_H} (hs : ShD σ) {t l : Nat} (ht : t < 6) (hl : l < 12) (D : ao_M) {Q : ao_M → Prop} (q : Q (dKeep t l D)) : hv (fun n => gX12_keepRegisters n 537 (nI t) (nI l) D σ) Q := by
  unfold gX12_keepRegisters
  refine hv_up (fun _ => fX12_keepRegisters.eq_2 ..) ?_
  try simp only [↓reduceIte, Nat.reduceEqDiff, Option.bind_some, ao_let, hs]
  try simp (disch := first | omega | assumption) only [↓reduceIte, Nat.reduceEqDiff, Option.bind_some, ao_let, t_le, f_le, t_lt, f_lt, f_eq, u_eq, u_n1, u_n2, n_cl, n_lt, n_le, n_eq, n_ltl, n_llt, n_lel, n_lle, n_eql, n_leq, n_add, n_mul, n_sub, n_addl, n_ladd, n_mull, n_lmul, n_subl, Int32.reduceLT, Int32.reduceLE, Int32.reduceAdd, Int32.reduceSub, Int32.reduceMul, Int32.reduceToNatClampNeg, not_false_eq_true, not_true_eq_false, or_false, false_or, or_self, and_self, false_and, true_and, and_false, and_true, true_or, or_true, Nat.reduceAdd, Nat.reduceMul, Nat.reduceLT, Nat.reduceLeDiff, ne_eq, hs]
  refine hv_mono (d_keep hs t l ht hl 26 0 D rfl) ?_
  rintro _ rfl
  exact q
theorem d_drop {σ : ao_H} (hs : ShD σ) (t l : Nat) (ht : t < 6) (hl : l < 12) : ∀ (k p : Nat) (D : ao_M), p + k = 26 → 
    hv (fun n => fX12_dropReads n 2 537 (nI t) (nI l) (nI p) D σ) (fun D' => D' = fun a i => if (a = 577) ∧ (t * 12 + l) * 26 + p ≤ i ∧ i < (t * 12 + l) * 26 + 26 then 0 else D a i) := by
  intro k
  induction k with
  | zero =>
    intro p D h
    obtain rfl : p = 26 := by omega
    refine hv_up (fun _ => fX12_dropReads.eq_2 ..) ?_
    try simp only [↓reduceIte, Nat.reduceEqDiff, Option.bind_some, ao_let, hs, gX12_cell]
    try simp (disch := first | omega | assumption) only [↓reduceIte, Nat.reduceEqDiff, Option.bind_some, ao_let, t_le, f_le, t_lt, f_lt, f_eq, u_eq, u_n1, u_n2, n_cl, n_lt, n_le, n_eq, n_ltl, n_llt, n_lel, n_lle, n_eql, n_leq, n_add, n_mul, n_sub, n_addl, n_ladd, n_mull, n_lmul, n_subl, Int32.reduceLT, Int32.reduceLE, Int32.reduceAdd, Int32.reduceSub, Int32.reduceMul, Int32.reduceToNatClampNeg, not_false_eq_true, not_true_eq_false, or_false, false_or, or_self, and_self, false_and, true_and, and_false, and_true, true_or, or_true, Nat.reduceAdd, Nat.reduceMul, Nat.reduceLT, Nat.reduceLeDiff, ne_eq, hs, gX12_cell]
    refine hv_some ?_
    funext a i
    try simp only [ao_u, Nat.reduceEqDiff, false_and, true_and, and_true, ↓reduceIte, Nat.add_left_cancel_iff, ne_eq]
    try clear ih
    try clear hs
    try clear hc
    try grind (splits := 40)
  | succ k ih =>
    intro p D h
    refine hv_up (fun _ => fX12_dropReads.eq_2 ..) ?_
    try simp only [↓reduceIte, Nat.reduceEqDiff, Option.bind_some, ao_let, hs, gX12_cell]
    try simp (disch := first | omega | assumption) only [↓reduceIte, Nat.reduceEqDiff, Option.bind_some, ao_let, t_le, f_le, t_lt, f_lt, f_eq, u_eq, u_n1, u_n2, n_cl, n_lt, n_le, n_eq, n_ltl, n_llt, n_lel, n_lle, n_eql, n_leq, n_add, n_mul, n_sub, n_addl, n_ladd, n_mull, n_lmul, n_subl, Int32.reduceLT, Int32.reduceLE, Int32.reduceAdd, Int32.reduceSub, Int32.reduceMul, Int32.reduceToNatClampNeg, not_false_eq_true, not_true_eq_false, or_false, false_or, or_self, and_self, false_and, true_and, and_false, and_true, true_or, or_true, Nat.reduceAdd, Nat.reduceMul, Nat.reduceLT, Nat.reduceLeDiff, ne_eq, hs, gX12_cell]
    refine hv_mono (ih _ _ (by omega)) ?_
    rintro _ rfl
    funext a i
    try simp only [ao_u, Nat.reduceEqDiff, false_and, true_and, and_true, ↓reduceIte, Nat.add_left_cancel_iff, ne_eq]
    try clear ih
    try clear hs
    try clear hc
    try grind (splits := 40)
def dDrop (t l : Nat) (D : ao_M) : ao_M := fun a i => if (a = 577) ∧ (t * 12 + l) * 26 ≤ i ∧ i < (t * 12 + l) * 26 + 26 then 0 else D a i
theorem dv_drop {σ : ao_H} (hs : ShD σ) {t l : Nat} (ht : t < 6) (hl : l < 12) (D : ao_M) {Q : ao_M → Prop} (q : Q (dDrop t l D)) : hv (fun n => gX12_dropReads n 537 (nI t) (nI l) D σ) Q := by
  unfold gX12_dropReads
  refine hv_up (fun _ => fX12_dropReads.eq_2 ..) ?_
  try simp only [↓reduceIte, Nat.reduceEqDiff, Option.bind_some, ao_let, hs]
  try simp (disch := first | omega | assumption) only [↓reduceIte, Nat.reduceEqDiff, Option.bind_some, ao_let, t_le, f_le, t_lt, f_lt, f_eq, u_eq, u_n1, u_n2, n_cl, n_lt, n_le, n_eq, n_ltl, n_llt, n_lel, n_lle, n_eql, n_leq, n_add, n_mul, n_sub, n_addl, n_ladd, n_mull, n_lmul, n_subl, Int32.reduceLT, Int32.reduceLE, Int32.reduceAdd, Int32.reduceSub, Int32.reduceMul, Int32.reduceToNatClampNeg, not_false_eq_true, not_true_eq_false, or_false, false_or, or_self, and_self, false_and, true_and, and_false, and_true, true_or, or_true, Nat.reduceAdd, Nat.reduceMul, Nat.reduceLT, Nat.reduceLeDiff, ne_eq, hs]
  refine hv_mono (d_drop hs t l ht hl 26 0 D rfl) ?_
  rintro _ rfl
  exact q
theorem dv_eager {σ : ao_H} (hs : ShD σ) (D : ao_M) {Q : Int32 × ao_M → Prop} (q : Q (if D 537 27 = 3 ∨ D 537 27 = 4 then 1 else 0, D)) : hv (fun n => gX12_isEager n 537 D σ) Q := by
  unfold gX12_isEager
  refine hv_up (fun _ => fX12_isEager.eq_2 ..) ?_
  try simp only [↓reduceIte, Nat.reduceEqDiff, Option.bind_some, ao_let, hs]
  try simp (disch := first | omega | assumption) only [↓reduceIte, Nat.reduceEqDiff, Option.bind_some, ao_let, t_le, f_le, t_lt, f_lt, f_eq, u_eq, u_n1, u_n2, n_cl, n_lt, n_le, n_eq, n_ltl, n_llt, n_lel, n_lle, n_eql, n_leq, n_add, n_mul, n_sub, n_addl, n_ladd, n_mull, n_lmul, n_subl, Int32.reduceLT, Int32.reduceLE, Int32.reduceAdd, Int32.reduceSub, Int32.reduceMul, Int32.reduceToNatClampNeg, not_false_eq_true, not_true_eq_false, or_false, false_or, or_self, and_self, false_and, true_and, and_false, and_true, true_or, or_true, Nat.reduceAdd, Nat.reduceMul, Nat.reduceLT, Nat.reduceLeDiff, ne_eq, hs]
  by_cases h3 : D 537 27 = 3
  · simp only [if_pos h3, h3, ite_true, true_or] at q ⊢
    refine hv_up (fun _ => fX12_isEager.eq_2 ..) ?_
    try simp only [↓reduceIte, Nat.reduceEqDiff, Option.bind_some, ao_let, hs]
    try simp (disch := first | omega | assumption) only [↓reduceIte, Nat.reduceEqDiff, Option.bind_some, ao_let, t_le, f_le, t_lt, f_lt, f_eq, u_eq, u_n1, u_n2, n_cl, n_lt, n_le, n_eq, n_ltl, n_llt, n_lel, n_lle, n_eql, n_leq, n_add, n_mul, n_sub, n_addl, n_ladd, n_mull, n_lmul, n_subl, Int32.reduceLT, Int32.reduceLE, Int32.reduceAdd, Int32.reduceSub, Int32.reduceMul, Int32.reduceToNatClampNeg, not_false_eq_true, not_true_eq_false, or_false, false_or, or_self, and_self, false_and, true_and, and_false, and_true, true_or, or_true, Nat.reduceAdd, Nat.reduceMul, Nat.reduceLT, Nat.reduceLeDiff, ne_eq, hs]
    exact hv_some q
  · by_cases h4 : D 537 27 = 4
    · simp only [if_neg h3, if_pos h4]
      rw [if_pos (Or.inr h4)] at q
      refine hv_up (fun _ => fX12_isEager.eq_2 ..) ?_
      try simp only [↓reduceIte, Nat.reduceEqDiff, Option.bind_some, ao_let, hs]
      try simp (disch := first | omega | assumption) only [↓reduceIte, Nat.reduceEqDiff, Option.bind_some, ao_let, t_le, f_le, t_lt, f_lt, f_eq, u_eq, u_n1, u_n2, n_cl, n_lt, n_le, n_eq, n_ltl, n_llt, n_lel, n_lle, n_eql, n_leq, n_add, n_mul, n_sub, n_addl, n_ladd, n_mull, n_lmul, n_subl, Int32.reduceLT, Int32.reduceLE, Int32.reduceAdd, Int32.reduceSub, Int32.reduceMul, Int32.reduceToNatClampNeg, not_false_eq_true, not_true_eq_false, or_false, false_or, or_self, and_self, false_and, true_and, and_false, and_true, true_or, or_true, Nat.reduceAdd, Nat.reduceMul, Nat.reduceLT, Nat.reduceLeDiff, ne_eq, hs]
      exact hv_some q
    · simp only [if_neg h3, if_neg h4]
      rw [if_neg (by simp [h3, h4])] at q
      exact hv_some q
theorem dv_eagerT {σ : ao_H} (hs : ShD σ) (D : ao_M) (e : D 537 27 = 3 ∨ D 537 27 = 4) {Q : Int32 × ao_M → Prop} (q : Q (1, D)) : hv (fun n => gX12_isEager n 537 D σ) Q :=
  dv_eager hs D (by rw [if_pos e]; exact q)
theorem dv_eagerF {σ : ao_H} (hs : ShD σ) (D : ao_M) (e : ¬ (D 537 27 = 3 ∨ D 537 27 = 4)) {Q : Int32 × ao_M → Prop} (q : Q (0, D)) : hv (fun n => gX12_isEager n 537 D σ) Q :=
  dv_eager hs D (by rw [if_neg e]; exact q)
theorem d_backE {σ : ao_H} (hs : ShD σ) (t l : Nat) (ht : t < 6) (hl : l < 12) : ∀ (k p : Nat) (D : ao_M), p + k = 26 → (D 537 27 = 3 ∨ D 537 27 = 4) →
    hv (fun n => fX12_takeBack n 2 537 (nI t) (nI l) (nI p) 0 D σ) (fun D' => D' = fun a i => if a = 542 ∧ p ≤ i ∧ i < 26 ∧ D 578 ((t * 12 + l) * 26 + i) ≠ 0 then D 582 ((t * 12 + l) * 26 + i) else if (a = 578) ∧ (t * 12 + l) * 26 + p ≤ i ∧ i < (t * 12 + l) * 26 + 26 then 0 else if a = 553 ∧ t * 26 + p ≤ i ∧ i < t * 26 + 26 then D 575 ((t * 12 + l) * 26 + (i - t * 26)) else if a = 584 ∧ i = t * 12 + l then 0 else D a i) := by
  intro k
  induction k with
  | zero =>
    intro p D h h0
    obtain rfl : p = 26 := by omega
    refine hv_up (fun _ => fX12_takeBack.eq_2 ..) ?_
    try simp only [↓reduceIte, Nat.reduceEqDiff, Option.bind_some, ao_let, hs, gX12_cell, gX12_level]
    try simp (disch := first | omega | assumption) only [↓reduceIte, Nat.reduceEqDiff, Option.bind_some, ao_let, t_le, f_le, t_lt, f_lt, f_eq, u_eq, u_n1, u_n2, n_cl, n_lt, n_le, n_eq, n_ltl, n_llt, n_lel, n_lle, n_eql, n_leq, n_add, n_mul, n_sub, n_addl, n_ladd, n_mull, n_lmul, n_subl, Int32.reduceLT, Int32.reduceLE, Int32.reduceAdd, Int32.reduceSub, Int32.reduceMul, Int32.reduceToNatClampNeg, not_false_eq_true, not_true_eq_false, or_false, false_or, or_self, and_self, false_and, true_and, and_false, and_true, true_or, or_true, Nat.reduceAdd, Nat.reduceMul, Nat.reduceLT, Nat.reduceLeDiff, ne_eq, hs, gX12_cell, gX12_level]
    refine hv_some ?_
    funext a i
    try simp only [ao_u, Nat.reduceEqDiff, false_and, true_and, and_true, ↓reduceIte, Nat.add_left_cancel_iff, ne_eq]
    try clear ih
    try clear hs
    try clear hc
    try grind (splits := 40)
  | succ k ih =>
    intro p D h h0
    refine hv_up (fun _ => fX12_takeBack.eq_2 ..) ?_
    try simp only [↓reduceIte, Nat.reduceEqDiff, Option.bind_some, ao_let, hs, gX12_cell]
    try simp (disch := first | omega | assumption) only [↓reduceIte, Nat.reduceEqDiff, Option.bind_some, ao_let, t_le, f_le, t_lt, f_lt, f_eq, u_eq, u_n1, u_n2, n_cl, n_lt, n_le, n_eq, n_ltl, n_llt, n_lel, n_lle, n_eql, n_leq, n_add, n_mul, n_sub, n_addl, n_ladd, n_mull, n_lmul, n_subl, Int32.reduceLT, Int32.reduceLE, Int32.reduceAdd, Int32.reduceSub, Int32.reduceMul, Int32.reduceToNatClampNeg, not_false_eq_true, not_true_eq_false, or_false, false_or, or_self, and_self, false_and, true_and, and_false, and_true, true_or, or_true, Nat.reduceAdd, Nat.reduceMul, Nat.reduceLT, Nat.reduceLeDiff, ne_eq, hs, gX12_cell]
    by_cases hw : D 578 ((t * 12 + l) * 26 + p) = 0
    · simp only [if_pos hw]
      refine hv_up (fun _ => fX12_takeBack.eq_2 ..) ?_
      try simp only [↓reduceIte, Nat.reduceEqDiff, Option.bind_some, ao_let, hs]
      try simp (disch := first | omega | assumption) only [↓reduceIte, Nat.reduceEqDiff, Option.bind_some, ao_let, t_le, f_le, t_lt, f_lt, f_eq, u_eq, u_n1, u_n2, n_cl, n_lt, n_le, n_eq, n_ltl, n_llt, n_lel, n_lle, n_eql, n_leq, n_add, n_mul, n_sub, n_addl, n_ladd, n_mull, n_lmul, n_subl, Int32.reduceLT, Int32.reduceLE, Int32.reduceAdd, Int32.reduceSub, Int32.reduceMul, Int32.reduceToNatClampNeg, not_false_eq_true, not_true_eq_false, or_false, false_or, or_self, and_self, false_and, true_and, and_false, and_true, true_or, or_true, Nat.reduceAdd, Nat.reduceMul, Nat.reduceLT, Nat.reduceLeDiff, ne_eq, hs]
      refine hv_mono (ih _ _ (by omega) (by simp (disch := omega) only [u_n1]; exact h0)) ?_
      rintro _ rfl
      funext a i
      try simp only [ao_u, Nat.reduceEqDiff, false_and, true_and, and_true, ↓reduceIte, Nat.add_left_cancel_iff, ne_eq]
      try clear ih
      try clear hs
      try clear hc
      try grind (splits := 40)
    · simp only [if_neg hw]
      refine hv_bind (P := fun y => y = (1, D)) (dv_eagerT hs _ h0 ?_) ?_
      · rfl
      rintro _ rfl
      simp only [show ((1 : Int32) = 0) = False from by decide]
      try simp only [↓reduceIte, Nat.reduceEqDiff, Option.bind_some, ao_let, hs]
      try simp (disch := first | omega | assumption) only [↓reduceIte, Nat.reduceEqDiff, Option.bind_some, ao_let, t_le, f_le, t_lt, f_lt, f_eq, u_eq, u_n1, u_n2, n_cl, n_lt, n_le, n_eq, n_ltl, n_llt, n_lel, n_lle, n_eql, n_leq, n_add, n_mul, n_sub, n_addl, n_ladd, n_mull, n_lmul, n_subl, Int32.reduceLT, Int32.reduceLE, Int32.reduceAdd, Int32.reduceSub, Int32.reduceMul, Int32.reduceToNatClampNeg, not_false_eq_true, not_true_eq_false, or_false, false_or, or_self, and_self, false_and, true_and, and_false, and_true, true_or, or_true, Nat.reduceAdd, Nat.reduceMul, Nat.reduceLT, Nat.reduceLeDiff, ne_eq, hs]
      refine hv_up (fun _ => fX12_takeBack.eq_2 ..) ?_
      try simp only [↓reduceIte, Nat.reduceEqDiff, Option.bind_some, ao_let, hs]
      try simp (disch := first | omega | assumption) only [↓reduceIte, Nat.reduceEqDiff, Option.bind_some, ao_let, t_le, f_le, t_lt, f_lt, f_eq, u_eq, u_n1, u_n2, n_cl, n_lt, n_le, n_eq, n_ltl, n_llt, n_lel, n_lle, n_eql, n_leq, n_add, n_mul, n_sub, n_addl, n_ladd, n_mull, n_lmul, n_subl, Int32.reduceLT, Int32.reduceLE, Int32.reduceAdd, Int32.reduceSub, Int32.reduceMul, Int32.reduceToNatClampNeg, not_false_eq_true, not_true_eq_false, or_false, false_or, or_self, and_self, false_and, true_and, and_false, and_true, true_or, or_true, Nat.reduceAdd, Nat.reduceMul, Nat.reduceLT, Nat.reduceLeDiff, ne_eq, hs]
      refine hv_mono (ih _ _ (by omega) (by simp (disch := omega) only [u_n1]; exact h0)) ?_
      rintro _ rfl
      funext a i
      try simp only [ao_u, Nat.reduceEqDiff, false_and, true_and, and_true, ↓reduceIte, Nat.add_left_cancel_iff, ne_eq]
      try clear ih
      try clear hs
      try clear hc
      try grind (splits := 40)
def dBackE (t l : Nat) (D : ao_M) : ao_M := fun a i => if a = 542 ∧ 0 ≤ i ∧ i < 26 ∧ D 578 ((t * 12 + l) * 26 + i) ≠ 0 then D 582 ((t * 12 + l) * 26 + i) else if (a = 578) ∧ (t * 12 + l) * 26 ≤ i ∧ i < (t * 12 + l) * 26 + 26 then 0 else if a = 553 ∧ t * 26 ≤ i ∧ i < t * 26 + 26 then D 575 ((t * 12 + l) * 26 + (i - t * 26)) else if a = 584 ∧ i = t * 12 + l then 0 else D a i
theorem dv_backE {σ : ao_H} (hs : ShD σ) {t l : Nat} (ht : t < 6) (hl : l < 12) (D : ao_M) (h0 : D 537 27 = 3 ∨ D 537 27 = 4) {Q : ao_M → Prop} (q : Q (dBackE t l D)) : hv (fun n => gX12_takeBack n 537 (nI t) (nI l) D σ) Q := by
  unfold gX12_takeBack
  refine hv_up (fun _ => fX12_takeBack.eq_2 ..) ?_
  try simp only [↓reduceIte, Nat.reduceEqDiff, Option.bind_some, ao_let, hs]
  try simp (disch := first | omega | assumption) only [↓reduceIte, Nat.reduceEqDiff, Option.bind_some, ao_let, t_le, f_le, t_lt, f_lt, f_eq, u_eq, u_n1, u_n2, n_cl, n_lt, n_le, n_eq, n_ltl, n_llt, n_lel, n_lle, n_eql, n_leq, n_add, n_mul, n_sub, n_addl, n_ladd, n_mull, n_lmul, n_subl, Int32.reduceLT, Int32.reduceLE, Int32.reduceAdd, Int32.reduceSub, Int32.reduceMul, Int32.reduceToNatClampNeg, not_false_eq_true, not_true_eq_false, or_false, false_or, or_self, and_self, false_and, true_and, and_false, and_true, true_or, or_true, Nat.reduceAdd, Nat.reduceMul, Nat.reduceLT, Nat.reduceLeDiff, ne_eq, hs]
  refine hv_mono (d_backE hs t l ht hl 26 0 D rfl h0) ?_
  rintro _ rfl
  exact q
theorem d_backL {σ : ao_H} (hs : ShD σ) (t l : Nat) (ht : t < 6) (hl : l < 12) : ∀ (k p : Nat) (D : ao_M), p + k = 26 → (¬ (D 537 27 = 3 ∨ D 537 27 = 4)) →
    hv (fun n => fX12_takeBack n 2 537 (nI t) (nI l) (nI p) 0 D σ) (fun D' => D' = fun a i => if (a = 578) ∧ (t * 12 + l) * 26 + p ≤ i ∧ i < (t * 12 + l) * 26 + 26 then 0 else if a = 553 ∧ t * 26 + p ≤ i ∧ i < t * 26 + 26 then D 575 ((t * 12 + l) * 26 + (i - t * 26)) else if a = 584 ∧ i = t * 12 + l then 0 else D a i) := by
  intro k
  induction k with
  | zero =>
    intro p D h h0
    obtain rfl : p = 26 := by omega
    refine hv_up (fun _ => fX12_takeBack.eq_2 ..) ?_
    try simp only [↓reduceIte, Nat.reduceEqDiff, Option.bind_some, ao_let, hs, gX12_cell, gX12_level]
    try simp (disch := first | omega | assumption) only [↓reduceIte, Nat.reduceEqDiff, Option.bind_some, ao_let, t_le, f_le, t_lt, f_lt, f_eq, u_eq, u_n1, u_n2, n_cl, n_lt, n_le, n_eq, n_ltl, n_llt, n_lel, n_lle, n_eql, n_leq, n_add, n_mul, n_sub, n_addl, n_ladd, n_mull, n_lmul, n_subl, Int32.reduceLT, Int32.reduceLE, Int32.reduceAdd, Int32.reduceSub, Int32.reduceMul, Int32.reduceToNatClampNeg, not_false_eq_true, not_true_eq_false, or_false, false_or, or_self, and_self, false_and, true_and, and_false, and_true, true_or, or_true, Nat.reduceAdd, Nat.reduceMul, Nat.reduceLT, Nat.reduceLeDiff, ne_eq, hs, gX12_cell, gX12_level]
    refine hv_some ?_
    funext a i
    try simp only [ao_u, Nat.reduceEqDiff, false_and, true_and, and_true, ↓reduceIte, Nat.add_left_cancel_iff, ne_eq]
    try clear ih
    try clear hs
    try clear hc
    try grind (splits := 40)
  | succ k ih =>
    intro p D h h0
    refine hv_up (fun _ => fX12_takeBack.eq_2 ..) ?_
    try simp only [↓reduceIte, Nat.reduceEqDiff, Option.bind_some, ao_let, hs, gX12_cell]
    try simp (disch := first | omega | assumption) only [↓reduceIte, Nat.reduceEqDiff, Option.bind_some, ao_let, t_le, f_le, t_lt, f_lt, f_eq, u_eq, u_n1, u_n2, n_cl, n_lt, n_le, n_eq, n_ltl, n_llt, n_lel, n_lle, n_eql, n_leq, n_add, n_mul, n_sub, n_addl, n_ladd, n_mull, n_lmul, n_subl, Int32.reduceLT, Int32.reduceLE, Int32.reduceAdd, Int32.reduceSub, Int32.reduceMul, Int32.reduceToNatClampNeg, not_false_eq_true, not_true_eq_false, or_false, false_or, or_self, and_self, false_and, true_and, and_false, and_true, true_or, or_true, Nat.reduceAdd, Nat.reduceMul, Nat.reduceLT, Nat.reduceLeDiff, ne_eq, hs, gX12_cell]
    by_cases hw : D 578 ((t * 12 + l) * 26 + p) = 0
    · simp only [if_pos hw]
      refine hv_up (fun _ => fX12_takeBack.eq_2 ..) ?_
      try simp only [↓reduceIte, Nat.reduceEqDiff, Option.bind_some, ao_let, hs]
      try simp (disch := first | omega | assumption) only [↓reduceIte, Nat.reduceEqDiff, Option.bind_some, ao_let, t_le, f_le, t_lt, f_lt, f_eq, u_eq, u_n1, u_n2, n_cl, n_lt, n_le, n_eq, n_ltl, n_llt, n_lel, n_lle, n_eql, n_leq, n_add, n_mul, n_sub, n_addl, n_ladd, n_mull, n_lmul, n_subl, Int32.reduceLT, Int32.reduceLE, Int32.reduceAdd, Int32.reduceSub, Int32.reduceMul, Int32.reduceToNatClampNeg, not_false_eq_true, not_true_eq_false, or_false, false_or, or_self, and_self, false_and, true_and, and_false, and_true, true_or, or_true, Nat.reduceAdd, Nat.reduceMul, Nat.reduceLT, Nat.reduceLeDiff, ne_eq, hs]
      refine hv_mono (ih _ _ (by omega) (by simp (disch := omega) only [u_n1]; exact h0)) ?_
      rintro _ rfl
      funext a i
      try simp only [ao_u, Nat.reduceEqDiff, false_and, true_and, and_true, ↓reduceIte, Nat.add_left_cancel_iff, ne_eq]
      try clear ih
      try clear hs
      try clear hc
      try grind (splits := 40)
    · simp only [if_neg hw]
      refine hv_bind (P := fun y => y = (0, D)) (dv_eagerF hs _ h0 ?_) ?_
      · rfl
      rintro _ rfl
      simp only [show ((0 : Int32) = 0) = True from by decide]
      try simp only [↓reduceIte, Nat.reduceEqDiff, Option.bind_some, ao_let, hs]
      try simp (disch := first | omega | assumption) only [↓reduceIte, Nat.reduceEqDiff, Option.bind_some, ao_let, t_le, f_le, t_lt, f_lt, f_eq, u_eq, u_n1, u_n2, n_cl, n_lt, n_le, n_eq, n_ltl, n_llt, n_lel, n_lle, n_eql, n_leq, n_add, n_mul, n_sub, n_addl, n_ladd, n_mull, n_lmul, n_subl, Int32.reduceLT, Int32.reduceLE, Int32.reduceAdd, Int32.reduceSub, Int32.reduceMul, Int32.reduceToNatClampNeg, not_false_eq_true, not_true_eq_false, or_false, false_or, or_self, and_self, false_and, true_and, and_false, and_true, true_or, or_true, Nat.reduceAdd, Nat.reduceMul, Nat.reduceLT, Nat.reduceLeDiff, ne_eq, hs]
      refine hv_up (fun _ => fX12_takeBack.eq_2 ..) ?_
      try simp only [↓reduceIte, Nat.reduceEqDiff, Option.bind_some, ao_let, hs]
      try simp (disch := first | omega | assumption) only [↓reduceIte, Nat.reduceEqDiff, Option.bind_some, ao_let, t_le, f_le, t_lt, f_lt, f_eq, u_eq, u_n1, u_n2, n_cl, n_lt, n_le, n_eq, n_ltl, n_llt, n_lel, n_lle, n_eql, n_leq, n_add, n_mul, n_sub, n_addl, n_ladd, n_mull, n_lmul, n_subl, Int32.reduceLT, Int32.reduceLE, Int32.reduceAdd, Int32.reduceSub, Int32.reduceMul, Int32.reduceToNatClampNeg, not_false_eq_true, not_true_eq_false, or_false, false_or, or_self, and_self, false_and, true_and, and_false, and_true, true_or, or_true, Nat.reduceAdd, Nat.reduceMul, Nat.reduceLT, Nat.reduceLeDiff, ne_eq, hs]
      refine hv_mono (ih _ _ (by omega) (by simp (disch := omega) only [u_n1]; exact h0)) ?_
      rintro _ rfl
      funext a i
      try simp only [ao_u, Nat.reduceEqDiff, false_and, true_and, and_true, ↓reduceIte, Nat.add_left_cancel_iff, ne_eq]
      try clear ih
      try clear hs
      try clear hc
      try grind (splits := 40)
def dBackL (t l : Nat) (D : ao_M) : ao_M := fun a i => if (a = 578) ∧ (t * 12 + l) * 26 ≤ i ∧ i < (t * 12 + l) * 26 + 26 then 0 else if a = 553 ∧ t * 26 ≤ i ∧ i < t * 26 + 26 then D 575 ((t * 12 + l) * 26 + (i - t * 26)) else if a = 584 ∧ i = t * 12 + l then 0 else D a i
theorem dv_backL {σ : ao_H} (hs : ShD σ) {t l : Nat} (ht : t < 6) (hl : l < 12) (D : ao_M) (h0 : ¬ (D 537 27 = 3 ∨ D 537 27 = 4)) {Q : ao_M → Prop} (q : Q (dBackL t l D)) : hv (fun n => gX12_takeBack n 537 (nI t) (nI l) D σ) Q := by
  unfold gX12_takeBack
  refine hv_up (fun _ => fX12_takeBack.eq_2 ..) ?_
  try simp only [↓reduceIte, Nat.reduceEqDiff, Option.bind_some, ao_let, hs]
  try simp (disch := first | omega | assumption) only [↓reduceIte, Nat.reduceEqDiff, Option.bind_some, ao_let, t_le, f_le, t_lt, f_lt, f_eq, u_eq, u_n1, u_n2, n_cl, n_lt, n_le, n_eq, n_ltl, n_llt, n_lel, n_lle, n_eql, n_leq, n_add, n_mul, n_sub, n_addl, n_ladd, n_mull, n_lmul, n_subl, Int32.reduceLT, Int32.reduceLE, Int32.reduceAdd, Int32.reduceSub, Int32.reduceMul, Int32.reduceToNatClampNeg, not_false_eq_true, not_true_eq_false, or_false, false_or, or_self, and_self, false_and, true_and, and_false, and_true, true_or, or_true, Nat.reduceAdd, Nat.reduceMul, Nat.reduceLT, Nat.reduceLeDiff, ne_eq, hs]
  refine hv_mono (d_backL hs t l ht hl 26 0 D rfl h0) ?_
  rintro _ rfl
  exact q
