set_option linter.unusedSimpArgs false
set_option linter.unusedVariables false
/-! ===== is another within a block? ===== -/
theorem c_howL {ρ : ao_H} (hc : ShA ρ) (hb : ShB ρ) {C : ao_M} {x : Int32} : ∀ (k u c : Nat), u + k = 6 → hv (fun n => fX2_howManyAre n 4 12 x (nI c) (nI u) C ρ) (fun y => y = (nI (c + (List.range' u k).countP (fun v => decide (C (92 + 71 * v) 2 = x))), C)) := by
  intro k
  induction k with
  | zero =>
    intro u c h
    obtain rfl : u = 6 := by omega
    refine hv_up (fun _ => fX2_howManyAre.eq_2 ..) ?_
    try simp only [↓reduceIte, Nat.reduceEqDiff, Option.bind_some, ao_let, n_ell, hc]
    try simp (disch := first | omega | assumption) only [↓reduceIte, Nat.reduceEqDiff, Option.bind_some, ao_let, t_le, f_le, t_lt, f_lt, f_eq, u_eq, u_n1, u_n2, n_cl, n_lt, n_le, n_eq, n_ltl, n_llt, n_lel, n_lle, n_eql, n_leq, n_add, n_mul, n_sub, n_addl, n_ladd, n_mull, n_lmul, n_subl, Int32.reduceLT, Int32.reduceLE, Int32.reduceAdd, Int32.reduceSub, Int32.reduceMul, Int32.reduceToNatClampNeg, not_false_eq_true, not_true_eq_false, or_false, false_or, or_self, and_self, false_and, true_and, and_false, and_true, true_or, or_true, Nat.reduceAdd, Nat.reduceMul, Nat.reduceLT, Nat.reduceLeDiff, ne_eq, n_ell, hc]
    refine hv_some ?_
    simp
  | succ k ih =>
    intro u c h
    have hR := RnS_of hb (show u < 6 by omega)
    have h91 : ρ.1 91 u = some (92 + 71 * u) := by obtain ⟨a0, _⟩ := hb; exact a0 u (by omega)
    rw [List.range'_succ, List.countP_cons]
    refine hv_up (fun _ => fX2_howManyAre.eq_2 ..) ?_
    try simp only [↓reduceIte, Nat.reduceEqDiff, Option.bind_some, ao_let, n_ell, hc, h91, hR]
    try simp (disch := first | omega | assumption) only [↓reduceIte, Nat.reduceEqDiff, Option.bind_some, ao_let, t_le, f_le, t_lt, f_lt, f_eq, u_eq, u_n1, u_n2, n_cl, n_lt, n_le, n_eq, n_ltl, n_llt, n_lel, n_lle, n_eql, n_leq, n_add, n_mul, n_sub, n_addl, n_ladd, n_mull, n_lmul, n_subl, Int32.reduceLT, Int32.reduceLE, Int32.reduceAdd, Int32.reduceSub, Int32.reduceMul, Int32.reduceToNatClampNeg, not_false_eq_true, not_true_eq_false, or_false, false_or, or_self, and_self, false_and, true_and, and_false, and_true, true_or, or_true, Nat.reduceAdd, Nat.reduceMul, Nat.reduceLT, Nat.reduceLeDiff, ne_eq, n_ell, hc, h91, hR]
    by_cases e : C (92 + 71 * u) 2 = x
    · simp only [e, ↓reduceIte, decide_true]
      refine hv_up (fun _ => fX2_howManyAre.eq_2 ..) ?_
      try simp only [↓reduceIte, Nat.reduceEqDiff, Option.bind_some, ao_let, n_ell]
      try simp (disch := first | omega | assumption) only [↓reduceIte, Nat.reduceEqDiff, Option.bind_some, ao_let, t_le, f_le, t_lt, f_lt, f_eq, u_eq, u_n1, u_n2, n_cl, n_lt, n_le, n_eq, n_ltl, n_llt, n_lel, n_lle, n_eql, n_leq, n_add, n_mul, n_sub, n_addl, n_ladd, n_mull, n_lmul, n_subl, Int32.reduceLT, Int32.reduceLE, Int32.reduceAdd, Int32.reduceSub, Int32.reduceMul, Int32.reduceToNatClampNeg, not_false_eq_true, not_true_eq_false, or_false, false_or, or_self, and_self, false_and, true_and, and_false, and_true, true_or, or_true, Nat.reduceAdd, Nat.reduceMul, Nat.reduceLT, Nat.reduceLeDiff, ne_eq, n_ell]
      refine hv_mono (ih (u + 1) (c + 1) (by omega)) ?_
      rintro _ rfl
      rw [show c + 1 + List.countP (fun v => decide (C (92 + 71 * v) 2 = x)) (List.range' (u + 1) k) = c + (List.countP (fun v => decide (C (92 + 71 * v) 2 = x)) (List.range' (u + 1) k) + 1) by omega]
    · simp only [e, ↓reduceIte, decide_false]
      refine hv_up (fun _ => fX2_howManyAre.eq_2 ..) ?_
      try simp only [↓reduceIte, Nat.reduceEqDiff, Option.bind_some, ao_let, n_ell]
      try simp (disch := first | omega | assumption) only [↓reduceIte, Nat.reduceEqDiff, Option.bind_some, ao_let, t_le, f_le, t_lt, f_lt, f_eq, u_eq, u_n1, u_n2, n_cl, n_lt, n_le, n_eq, n_ltl, n_llt, n_lel, n_lle, n_eql, n_leq, n_add, n_mul, n_sub, n_addl, n_ladd, n_mull, n_lmul, n_subl, Int32.reduceLT, Int32.reduceLE, Int32.reduceAdd, Int32.reduceSub, Int32.reduceMul, Int32.reduceToNatClampNeg, not_false_eq_true, not_true_eq_false, or_false, false_or, or_self, and_self, false_and, true_and, and_false, and_true, true_or, or_true, Nat.reduceAdd, Nat.reduceMul, Nat.reduceLT, Nat.reduceLeDiff, ne_eq, n_ell]
      refine hv_mono (ih (u + 1) c (by omega)) ?_
      rintro _ rfl
      rfl
theorem c_howMany {ρ : ao_H} (hc : ShA ρ) (hb : ShB ρ) {C : ao_M} {x : Int32} {Q : Int32 × ao_M → Prop} (q : Q (nI ((List.range' 0 6).countP (fun v => decide (C (92 + 71 * v) 2 = x))), C)) : hv (fun n => gX2_howManyAre n 12 x C ρ) Q := by
  unfold gX2_howManyAre
  refine hv_up (fun _ => fX2_howManyAre.eq_2 ..) ?_
  try simp only [↓reduceIte, Nat.reduceEqDiff, Option.bind_some, ao_let, n_ell, hc]
  try simp (disch := first | omega | assumption) only [↓reduceIte, Nat.reduceEqDiff, Option.bind_some, ao_let, t_le, f_le, t_lt, f_lt, f_eq, u_eq, u_n1, u_n2, n_cl, n_lt, n_le, n_eq, n_ltl, n_llt, n_lel, n_lle, n_eql, n_leq, n_add, n_mul, n_sub, n_addl, n_ladd, n_mull, n_lmul, n_subl, Int32.reduceLT, Int32.reduceLE, Int32.reduceAdd, Int32.reduceSub, Int32.reduceMul, Int32.reduceToNatClampNeg, not_false_eq_true, not_true_eq_false, or_false, false_or, or_self, and_self, false_and, true_and, and_false, and_true, true_or, or_true, Nat.reduceAdd, Nat.reduceMul, Nat.reduceLT, Nat.reduceLeDiff, ne_eq, n_ell, hc]
  refine hv_mono (c_howL hc hb 6 0 0 rfl) ?_
  rintro _ rfl
  rw [Nat.zero_add]
  exact q
/-- another than t is within -/
def bsy (C : ao_M) (t : Nat) : Prop := ∃ o, o < 6 ∧ o ≠ t ∧ C (92 + 71 * o) 2 = 2
theorem c_busy {ρ : ao_H} (hc : ShA ρ) (hb : ShB ρ) {C : ao_M} {t : Nat} (ht : t < 6) (hn : C (92 + 71 * t) 2 ≠ 2) {Q : Int32 × ao_M → Prop} (q1 : C 12 5 = 4 → bsy C t → Q (1, C)) (q0 : ¬ (C 12 5 = 4 ∧ bsy C t) → Q (0, C)) : hv (fun n => gX2_isBusy n 12 (92 + 71 * t) C ρ) Q := by
  have hR := RnS_of hb ht
  unfold gX2_isBusy
  refine hv_up (fun _ => fX2_isBusy.eq_2 ..) ?_
  try simp only [↓reduceIte, Nat.reduceEqDiff, Option.bind_some, ao_let, n_ell, hc]
  try simp (disch := first | omega | assumption) only [↓reduceIte, Nat.reduceEqDiff, Option.bind_some, ao_let, t_le, f_le, t_lt, f_lt, f_eq, u_eq, u_n1, u_n2, n_cl, n_lt, n_le, n_eq, n_ltl, n_llt, n_lel, n_lle, n_eql, n_leq, n_add, n_mul, n_sub, n_addl, n_ladd, n_mull, n_lmul, n_subl, Int32.reduceLT, Int32.reduceLE, Int32.reduceAdd, Int32.reduceSub, Int32.reduceMul, Int32.reduceToNatClampNeg, not_false_eq_true, not_true_eq_false, or_false, false_or, or_self, and_self, false_and, true_and, and_false, and_true, true_or, or_true, Nat.reduceAdd, Nat.reduceMul, Nat.reduceLT, Nat.reduceLeDiff, ne_eq, n_ell, hc]
  by_cases e4 : C 12 5 = 4
  · simp only [e4, ↓reduceIte]
    refine hv_bind (P := fun y => y = _) (c_howMany hc hb rfl) ?_
    rintro _ rfl
    simp only [hR, ↓reduceIte, hn]
    refine hv_up (fun _ => fX2_isBusy.eq_2 ..) ?_
    have hle : (List.range' 0 6).countP (fun v => decide (C (92 + 71 * v) 2 = 2)) ≤ 6 := Nat.le_trans List.countP_le_length (by simp)
    simp only [↓reduceIte, Nat.reduceEqDiff]
    simp only [show (nI ((List.range' 0 6).countP (fun v => decide (C (92 + 71 * v) 2 = 2))) ≤ 0) = ((List.range' 0 6).countP (fun v => decide (C (92 + 71 * v) 2 = 2)) ≤ 0) from n_lel (by omega) (by omega)]
    by_cases h0 : (List.range' 0 6).countP (fun v => decide (C (92 + 71 * v) 2 = 2)) ≤ 0
    · simp only [h0, ↓reduceIte]
      refine hv_some (q0 ?_)
      rintro ⟨_, o, ho, _, h2⟩
      have := List.countP_pos_iff (p := fun v => decide (C (92 + 71 * v) 2 = 2)) (l := List.range' 0 6) |>.mpr ⟨o, by rw [List.mem_range'_1]; omega, by simpa using h2⟩
      omega
    · simp only [h0, ↓reduceIte]
      refine hv_some (q1 e4 ?_)
      obtain ⟨o, h1, h2⟩ := List.countP_pos_iff.mp (show 0 < (List.range' 0 6).countP (fun v => decide (C (92 + 71 * v) 2 = 2)) by omega)
      rw [List.mem_range'_1] at h1
      have h2' : C (92 + 71 * o) 2 = 2 := by simpa using h2
      exact ⟨o, by omega, fun e => hn (e ▸ h2'), h2'⟩
  · simp only [e4, ↓reduceIte]
    exact hv_some (q0 (fun x => e4 x.1))
theorem d_busyL {σ : ao_H} (hs : ShD σ) {D : ao_M} {t : Nat} (ht : t < 6) {Q : Int32 × ao_M → Prop} : ∀ (k u : Nat), u + k = 6 → ((∃ o, u ≤ o ∧ o < 6 ∧ o ≠ t ∧ D 551 o = 2) → Q (1, D)) → (¬ (∃ o, u ≤ o ∧ o < 6 ∧ o ≠ t ∧ D 551 o = 2) → Q (0, D)) → hv (fun n => fX12_isBusy n 12 537 (nI t) (nI u) D σ) Q := by
  intro k
  induction k with
  | zero =>
    intro u h q1 q0
    obtain rfl : u = 6 := by omega
    refine hv_up (fun _ => fX12_isBusy.eq_2 ..) ?_
    try simp only [↓reduceIte, Nat.reduceEqDiff, Option.bind_some, ao_let, n_ell, hs]
    try simp (disch := first | omega | assumption) only [↓reduceIte, Nat.reduceEqDiff, Option.bind_some, ao_let, t_le, f_le, t_lt, f_lt, f_eq, u_eq, u_n1, u_n2, n_cl, n_lt, n_le, n_eq, n_ltl, n_llt, n_lel, n_lle, n_eql, n_leq, n_add, n_mul, n_sub, n_addl, n_ladd, n_mull, n_lmul, n_subl, Int32.reduceLT, Int32.reduceLE, Int32.reduceAdd, Int32.reduceSub, Int32.reduceMul, Int32.reduceToNatClampNeg, not_false_eq_true, not_true_eq_false, or_false, false_or, or_self, and_self, false_and, true_and, and_false, and_true, true_or, or_true, Nat.reduceAdd, Nat.reduceMul, Nat.reduceLT, Nat.reduceLeDiff, ne_eq, n_ell, hs]
    refine hv_some (q0 ?_)
    rintro ⟨o, h1, h2, _⟩
    omega
  | succ k ih =>
    intro u h q1 q0
    refine hv_up (fun _ => fX12_isBusy.eq_2 ..) ?_
    try simp only [↓reduceIte, Nat.reduceEqDiff, Option.bind_some, ao_let, n_ell, hs]
    try simp (disch := first | omega | assumption) only [↓reduceIte, Nat.reduceEqDiff, Option.bind_some, ao_let, t_le, f_le, t_lt, f_lt, f_eq, u_eq, u_n1, u_n2, n_cl, n_lt, n_le, n_eq, n_ltl, n_llt, n_lel, n_lle, n_eql, n_leq, n_add, n_mul, n_sub, n_addl, n_ladd, n_mull, n_lmul, n_subl, Int32.reduceLT, Int32.reduceLE, Int32.reduceAdd, Int32.reduceSub, Int32.reduceMul, Int32.reduceToNatClampNeg, not_false_eq_true, not_true_eq_false, or_false, false_or, or_self, and_self, false_and, true_and, and_false, and_true, true_or, or_true, Nat.reduceAdd, Nat.reduceMul, Nat.reduceLT, Nat.reduceLeDiff, ne_eq, n_ell, hs]
    have skip : (u = t ∨ D 551 u ≠ 2) → hv (fun n => fX12_isBusy n 35 537 (nI t) (nI u) D σ) Q := by
      intro hh
      refine hv_up (fun _ => fX12_isBusy.eq_2 ..) ?_
      try simp only [↓reduceIte, Nat.reduceEqDiff, Option.bind_some, ao_let, n_ell]
      try simp (disch := first | omega | assumption) only [↓reduceIte, Nat.reduceEqDiff, Option.bind_some, ao_let, t_le, f_le, t_lt, f_lt, f_eq, u_eq, u_n1, u_n2, n_cl, n_lt, n_le, n_eq, n_ltl, n_llt, n_lel, n_lle, n_eql, n_leq, n_add, n_mul, n_sub, n_addl, n_ladd, n_mull, n_lmul, n_subl, Int32.reduceLT, Int32.reduceLE, Int32.reduceAdd, Int32.reduceSub, Int32.reduceMul, Int32.reduceToNatClampNeg, not_false_eq_true, not_true_eq_false, or_false, false_or, or_self, and_self, false_and, true_and, and_false, and_true, true_or, or_true, Nat.reduceAdd, Nat.reduceMul, Nat.reduceLT, Nat.reduceLeDiff, ne_eq, n_ell]
      refine ih (u + 1) (by omega) (fun ⟨o, h1, h2, h3⟩ => q1 ⟨o, by omega, h2, h3⟩) (fun hn => q0 ?_)
      rintro ⟨o, h1, h2, h3, h4⟩
      by_cases e : o = u
      · subst e
        rcases hh with hh | hh
        · exact h3 hh
        · exact hh h4
      · exact hn ⟨o, by omega, h2, h3, h4⟩
    by_cases e : u = t
    · simp only [e, ↓reduceIte]
      subst e
      exact skip (Or.inl rfl)
    · try simp only [↓reduceIte, Nat.reduceEqDiff, Option.bind_some, ao_let, n_ell, hs, e]
      try simp (disch := first | omega | assumption) only [↓reduceIte, Nat.reduceEqDiff, Option.bind_some, ao_let, t_le, f_le, t_lt, f_lt, f_eq, u_eq, u_n1, u_n2, n_cl, n_lt, n_le, n_eq, n_ltl, n_llt, n_lel, n_lle, n_eql, n_leq, n_add, n_mul, n_sub, n_addl, n_ladd, n_mull, n_lmul, n_subl, Int32.reduceLT, Int32.reduceLE, Int32.reduceAdd, Int32.reduceSub, Int32.reduceMul, Int32.reduceToNatClampNeg, not_false_eq_true, not_true_eq_false, or_false, false_or, or_self, and_self, false_and, true_and, and_false, and_true, true_or, or_true, Nat.reduceAdd, Nat.reduceMul, Nat.reduceLT, Nat.reduceLeDiff, ne_eq, n_ell, hs, e]
      by_cases e2 : D 551 u = 2
      · simp only [e2, ↓reduceIte]
        exact hv_some (q1 ⟨u, by omega, by omega, e, e2⟩)
      · simp only [e2, ↓reduceIte]
        exact skip (Or.inr e2)
theorem d_busy {σ : ao_H} (hs : ShD σ) {D : ao_M} {t : Nat} (ht : t < 6) {Q : Int32 × ao_M → Prop} (q1 : D 537 27 = 4 → (∃ o, o < 6 ∧ o ≠ t ∧ D 551 o = 2) → Q (1, D)) (q0 : ¬ (D 537 27 = 4 ∧ ∃ o, o < 6 ∧ o ≠ t ∧ D 551 o = 2) → Q (0, D)) : hv (fun n => gX12_isBusy n 537 (nI t) D σ) Q := by
  unfold gX12_isBusy
  refine hv_up (fun _ => fX12_isBusy.eq_2 ..) ?_
  try simp only [↓reduceIte, Nat.reduceEqDiff, Option.bind_some, ao_let, n_ell, hs]
  try simp (disch := first | omega | assumption) only [↓reduceIte, Nat.reduceEqDiff, Option.bind_some, ao_let, t_le, f_le, t_lt, f_lt, f_eq, u_eq, u_n1, u_n2, n_cl, n_lt, n_le, n_eq, n_ltl, n_llt, n_lel, n_lle, n_eql, n_leq, n_add, n_mul, n_sub, n_addl, n_ladd, n_mull, n_lmul, n_subl, Int32.reduceLT, Int32.reduceLE, Int32.reduceAdd, Int32.reduceSub, Int32.reduceMul, Int32.reduceToNatClampNeg, not_false_eq_true, not_true_eq_false, or_false, false_or, or_self, and_self, false_and, true_and, and_false, and_true, true_or, or_true, Nat.reduceAdd, Nat.reduceMul, Nat.reduceLT, Nat.reduceLeDiff, ne_eq, n_ell, hs]
  by_cases e4 : D 537 27 = 4
  · simp only [e4, ↓reduceIte]
    refine d_busyL hs ht 6 0 rfl (fun ⟨o, _, h2, h3⟩ => q1 e4 ⟨o, h2, h3⟩) (fun hn => q0 ?_)
    rintro ⟨_, o, h2, h3⟩
    exact hn ⟨o, by omega, h2, h3⟩
  · simp only [e4, ↓reduceIte]
    exact hv_some (q0 (fun x => e4 x.1))
/-- states are alike -/
theorem sts_eq {C D : ao_M} {ρ : ao_H} {rc : Nat} (h : ∀ t, t < 6 → Thr C ρ D rc t) {u : Nat} (hu : u < 6) : C (92 + 71 * u) 2 = D 551 u := by
  obtain ⟨s, a1, a2, a3, _⟩ := h u hu
  rw [a2, a3]
theorem bsy_D {C D : ao_M} {ρ : ao_H} {rc t : Nat} (h : ∀ t, t < 6 → Thr C ρ D rc t) : bsy C t ↔ ∃ o, o < 6 ∧ o ≠ t ∧ D 551 o = 2 := by
  constructor
  · rintro ⟨o, h1, h2, h3⟩
    exact ⟨o, h1, h2, by rw [← sts_eq h h1]; exact h3⟩
  · rintro ⟨o, h1, h2, h3⟩
    exact ⟨o, h1, h2, by rw [sts_eq h h1]; exact h3⟩
