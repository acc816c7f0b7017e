set_option linter.unusedSimpArgs false
set_option linter.unusedVariables false
/-! ===== records ===== -/
def RcB (C0 C : ao_M) (rs ws : List (Nat × Int32)) (th fr to : Int32) : Prop := ∃ k, k ≤ 300 ∧ C0 25 9 = nI k ∧ (∀ x i, x < 25 ∨ 90 < x → C x i = C0 x i) ∧ (k = 300 ∧ (∀ x i, ¬ (x = 25 ∧ i = 10) → C x i = C0 x i) ∧ C 25 10 = 0 ∨
  k < 300 ∧ C 25 10 = 1 ∧ C 25 9 = nI (k + 1) ∧ C 26 k = th ∧ C 29 k = fr ∧ C 30 k = to ∧ C 27 k = nI rs.length ∧ C 28 k = nI ws.length ∧ (k < 14 → (∀ (n : Nat) (h : n < rs.length), C (32 + k) n = nI rs[n].1 ∧ C (47 + k) n = rs[n].2) ∧ ∀ (n : Nat) (h : n < ws.length), C (62 + k) n = nI ws[n].1 ∧ C (77 + k) n = ws[n].2) ∧
  (∀ x i, 26 ≤ x → x ≤ 30 → i ≠ k → C x i = C0 x i) ∧ ∀ x j i, (x = 32 ∨ x = 47 ∨ x = 62 ∨ x = 77) → j < 14 → j ≠ k → C (x + j) i = C0 (x + j) i)
theorem rb_begin {C : ao_M} {ρ : ao_H} {k : Nat} {th fr to : Int32} (hc : ShA ρ) (hk : k ≤ 300) (h9 : C 25 9 = nI k) {Q : ao_M → Prop} (q : ∀ C', RcB C C' [] [] th fr to → Q C') : hv (fun n => gX6_begin n 25 th fr to C ρ) Q := by
  have h10 : ((1 : Int32) = 0) = False := by decide
  unfold gX6_begin
  by_cases e : k = 300
  · subst e
    refine hv_up (fun _ => fX6_begin.eq_2 ..) ?_
    try simp only [↓reduceIte, Nat.reduceEqDiff, Option.bind_some, ao_let, n_ell, hc, h9]
    try simp (disch := first | omega | assumption) only [↓reduceIte, Nat.reduceEqDiff, Option.bind_some, ao_let, t_le, f_le, t_lt, f_lt, f_eq, u_eq, u_n1, u_n2, n_cl, n_lt, n_le, n_eq, n_ltl, n_llt, n_lel, n_lle, n_eql, n_leq, n_add, n_mul, n_sub, n_addl, n_ladd, n_mull, n_lmul, n_subl, Int32.reduceLT, Int32.reduceLE, Int32.reduceAdd, Int32.reduceSub, Int32.reduceMul, Int32.reduceToNatClampNeg, not_false_eq_true, not_true_eq_false, or_false, false_or, or_self, and_self, false_and, true_and, and_false, and_true, true_or, or_true, Nat.reduceAdd, Nat.reduceMul, Nat.reduceLT, Nat.reduceLeDiff, ne_eq, n_ell, hc, h9]
    refine hv_up (fun _ => fX6_begin.eq_2 ..) ?_
    try simp only [↓reduceIte, Nat.reduceEqDiff, Option.bind_some, ao_let, n_ell, hc]
    try simp (disch := first | omega | assumption) only [↓reduceIte, Nat.reduceEqDiff, Option.bind_some, ao_let, t_le, f_le, t_lt, f_lt, f_eq, u_eq, u_n1, u_n2, n_cl, n_lt, n_le, n_eq, n_ltl, n_llt, n_lel, n_lle, n_eql, n_leq, n_add, n_mul, n_sub, n_addl, n_ladd, n_mull, n_lmul, n_subl, Int32.reduceLT, Int32.reduceLE, Int32.reduceAdd, Int32.reduceSub, Int32.reduceMul, Int32.reduceToNatClampNeg, not_false_eq_true, not_true_eq_false, or_false, false_or, or_self, and_self, false_and, true_and, and_false, and_true, true_or, or_true, Nat.reduceAdd, Nat.reduceMul, Nat.reduceLT, Nat.reduceLeDiff, ne_eq, n_ell, hc]
    refine hv_up (fun _ => fX6_begin.eq_2 ..) ?_
    try simp only [↓reduceIte, Nat.reduceEqDiff, Option.bind_some, ao_let, n_ell, hc]
    try simp (disch := first | omega | assumption) only [↓reduceIte, Nat.reduceEqDiff, Option.bind_some, ao_let, t_le, f_le, t_lt, f_lt, f_eq, u_eq, u_n1, u_n2, n_cl, n_lt, n_le, n_eq, n_ltl, n_llt, n_lel, n_lle, n_eql, n_leq, n_add, n_mul, n_sub, n_addl, n_ladd, n_mull, n_lmul, n_subl, Int32.reduceLT, Int32.reduceLE, Int32.reduceAdd, Int32.reduceSub, Int32.reduceMul, Int32.reduceToNatClampNeg, not_false_eq_true, not_true_eq_false, or_false, false_or, or_self, and_self, false_and, true_and, and_false, and_true, true_or, or_true, Nat.reduceAdd, Nat.reduceMul, Nat.reduceLT, Nat.reduceLeDiff, ne_eq, n_ell, hc]
    refine hv_some (q _ ⟨300, by omega, h9, fun x i h => u_n1 (by omega), Or.inl ⟨rfl, fun x i h => u_ne (by omega), u_eq⟩⟩)
  · refine hv_up (fun _ => fX6_begin.eq_2 ..) ?_
    try simp only [↓reduceIte, Nat.reduceEqDiff, Option.bind_some, ao_let, n_ell, hc, h9]
    try simp (disch := first | omega | assumption) only [↓reduceIte, Nat.reduceEqDiff, Option.bind_some, ao_let, t_le, f_le, t_lt, f_lt, f_eq, u_eq, u_n1, u_n2, n_cl, n_lt, n_le, n_eq, n_ltl, n_llt, n_lel, n_lle, n_eql, n_leq, n_add, n_mul, n_sub, n_addl, n_ladd, n_mull, n_lmul, n_subl, Int32.reduceLT, Int32.reduceLE, Int32.reduceAdd, Int32.reduceSub, Int32.reduceMul, Int32.reduceToNatClampNeg, not_false_eq_true, not_true_eq_false, or_false, false_or, or_self, and_self, false_and, true_and, and_false, and_true, true_or, or_true, Nat.reduceAdd, Nat.reduceMul, Nat.reduceLT, Nat.reduceLeDiff, ne_eq, n_ell, hc, h9]
    refine hv_up (fun _ => fX6_begin.eq_2 ..) ?_
    try simp only [↓reduceIte, Nat.reduceEqDiff, Option.bind_some, ao_let, n_ell, hc, h10, h9]
    try simp (disch := first | omega | assumption) only [↓reduceIte, Nat.reduceEqDiff, Option.bind_some, ao_let, t_le, f_le, t_lt, f_lt, f_eq, u_eq, u_n1, u_n2, n_cl, n_lt, n_le, n_eq, n_ltl, n_llt, n_lel, n_lle, n_eql, n_leq, n_add, n_mul, n_sub, n_addl, n_ladd, n_mull, n_lmul, n_subl, Int32.reduceLT, Int32.reduceLE, Int32.reduceAdd, Int32.reduceSub, Int32.reduceMul, Int32.reduceToNatClampNeg, not_false_eq_true, not_true_eq_false, or_false, false_or, or_self, and_self, false_and, true_and, and_false, and_true, true_or, or_true, Nat.reduceAdd, Nat.reduceMul, Nat.reduceLT, Nat.reduceLeDiff, ne_eq, n_ell, hc, h10, h9]
    refine hv_some (q _ ⟨k, hk, h9, fun x i h => ?_, Or.inr ⟨by omega, ?_, ?_, ?_, ?_, ?_, ?_, ?_, fun _ => ⟨fun n h => absurd h (by simp), fun n h => absurd h (by simp)⟩, fun x i h1 h2 h3 => ?_, fun x j i h1 h2 h3 => ?_⟩⟩)
    · simp (disch := omega) only [u_ne]
    · simp (disch := omega) only [u_ne, u_eq]
    · simp (disch := omega) only [u_ne, u_eq]
    · simp (disch := omega) only [u_ne, u_eq]
    · simp (disch := omega) only [u_ne, u_eq]
    · simp (disch := omega) only [u_ne, u_eq]
    · simp (disch := omega) only [u_ne, u_eq]
      rfl
    · simp (disch := omega) only [u_ne, u_eq]
      rfl
    · simp (disch := omega) only [u_ne]
    · simp (disch := omega) only [u_ne]
theorem rb_read {C0 C : ao_M} {ρ : ao_H} {rs ws : List (Nat × Int32)} {th fr to v : Int32} {p : Nat} (hc : ShA ρ) (hg : ShG ρ) (h : RcB C0 C rs ws th fr to) (hl : rs.length < 26) {Q : ao_M → Prop} (q : ∀ C', RcB C0 C' (rs ++ [(p, v)]) ws th fr to → Q C') : hv (fun n => gX6_addRead n 25 (nI p) v C ρ) Q := by
  obtain ⟨k, hk, h9, h0, h1⟩ := h
  unfold gX6_addRead
  try simp only [↓reduceIte, Nat.reduceEqDiff, Option.bind_some, ao_let, n_ell, hc]
  try simp (disch := first | omega | assumption) only [↓reduceIte, Nat.reduceEqDiff, Option.bind_some, ao_let, t_le, f_le, t_lt, f_lt, f_eq, u_eq, u_n1, u_n2, n_cl, n_lt, n_le, n_eq, n_ltl, n_llt, n_lel, n_lle, n_eql, n_leq, n_add, n_mul, n_sub, n_addl, n_ladd, n_mull, n_lmul, n_subl, Int32.reduceLT, Int32.reduceLE, Int32.reduceAdd, Int32.reduceSub, Int32.reduceMul, Int32.reduceToNatClampNeg, not_false_eq_true, not_true_eq_false, or_false, false_or, or_self, and_self, false_and, true_and, and_false, and_true, true_or, or_true, Nat.reduceAdd, Nat.reduceMul, Nat.reduceLT, Nat.reduceLeDiff, ne_eq, n_ell, hc]
  rcases h1 with ⟨e, r1, r2⟩ | ⟨e, r1, r2, r3, r4, r5, r6, r7, r8, r9, r10⟩
  · refine hv_bind (P := fun y => y = C) ?_ ?_
    · unfold gX6_note
      refine hv_up (fun _ => fX6_note.eq_2 ..) ?_
      try simp only [↓reduceIte, Nat.reduceEqDiff, Option.bind_some, ao_let, n_ell, hc, r2]
      try simp (disch := first | omega | assumption) only [↓reduceIte, Nat.reduceEqDiff, Option.bind_some, ao_let, t_le, f_le, t_lt, f_lt, f_eq, u_eq, u_n1, u_n2, n_cl, n_lt, n_le, n_eq, n_ltl, n_llt, n_lel, n_lle, n_eql, n_leq, n_add, n_mul, n_sub, n_addl, n_ladd, n_mull, n_lmul, n_subl, Int32.reduceLT, Int32.reduceLE, Int32.reduceAdd, Int32.reduceSub, Int32.reduceMul, Int32.reduceToNatClampNeg, not_false_eq_true, not_true_eq_false, or_false, false_or, or_self, and_self, false_and, true_and, and_false, and_true, true_or, or_true, Nat.reduceAdd, Nat.reduceMul, Nat.reduceLT, Nat.reduceLeDiff, ne_eq, n_ell, hc, r2]
      exact hv_some rfl
    · rintro _ rfl
      exact hv_some (q _ ⟨k, hk, h9, h0, Or.inl ⟨e, r1, r2⟩⟩)
  · have h10 : ((1 : Int32) = 0) = False := by decide
    refine hv_bind (P := Q) ?_ (fun y hy => hv_some hy)
    unfold gX6_note
    by_cases e14 : k < 14
    · have e31 := hg.1 k e14
      obtain ⟨r8a, r8b⟩ := r8 e14
      refine hv_up (fun _ => fX6_note.eq_2 ..) ?_
      try simp only [↓reduceIte, Nat.reduceEqDiff, Option.bind_some, ao_let, n_ell, hc, hg, r1, r2, h10, r6, Nat.add_sub_cancel]
      try simp (disch := first | omega | assumption) only [↓reduceIte, Nat.reduceEqDiff, Option.bind_some, ao_let, t_le, f_le, t_lt, f_lt, f_eq, u_eq, u_n1, u_n2, n_cl, n_lt, n_le, n_eq, n_ltl, n_llt, n_lel, n_lle, n_eql, n_leq, n_add, n_mul, n_sub, n_addl, n_ladd, n_mull, n_lmul, n_subl, Int32.reduceLT, Int32.reduceLE, Int32.reduceAdd, Int32.reduceSub, Int32.reduceMul, Int32.reduceToNatClampNeg, not_false_eq_true, not_true_eq_false, or_false, false_or, or_self, and_self, false_and, true_and, and_false, and_true, true_or, or_true, Nat.reduceAdd, Nat.reduceMul, Nat.reduceLT, Nat.reduceLeDiff, ne_eq, n_ell, hc, hg, r1, r2, h10, r6, Nat.add_sub_cancel]
      refine hv_up (fun _ => fX6_note.eq_2 ..) ?_
      try simp only [↓reduceIte, Nat.reduceEqDiff, Option.bind_some, ao_let, n_ell, hc]
      try simp (disch := first | omega | assumption) only [↓reduceIte, Nat.reduceEqDiff, Option.bind_some, ao_let, t_le, f_le, t_lt, f_lt, f_eq, u_eq, u_n1, u_n2, n_cl, n_lt, n_le, n_eq, n_ltl, n_llt, n_lel, n_lle, n_eql, n_leq, n_add, n_mul, n_sub, n_addl, n_ladd, n_mull, n_lmul, n_subl, Int32.reduceLT, Int32.reduceLE, Int32.reduceAdd, Int32.reduceSub, Int32.reduceMul, Int32.reduceToNatClampNeg, not_false_eq_true, not_true_eq_false, or_false, false_or, or_self, and_self, false_and, true_and, and_false, and_true, true_or, or_true, Nat.reduceAdd, Nat.reduceMul, Nat.reduceLT, Nat.reduceLeDiff, ne_eq, n_ell, hc]
      refine hv_some (q _ ⟨k, hk, h9, fun x i h => ?_, Or.inr ⟨by omega, ?_, ?_, ?_, ?_, ?_, ?_, ?_, fun _ => ⟨fun n h => ?_, fun n h => ?_⟩, fun x i h1 h2 h3 => ?_, fun x j i h1 h2 h3 => ?_⟩⟩)
      · simp (disch := omega) only [u_ne]; exact h0 x i h
      · simp (disch := omega) only [u_ne]; exact r1
      · simp (disch := omega) only [u_ne]; exact r2
      · simp (disch := omega) only [u_ne]; exact r3
      · simp (disch := omega) only [u_ne]; exact r4
      · simp (disch := omega) only [u_ne]; exact r5
      · simp (disch := omega) only [u_ne, u_eq, List.length_append, List.length_cons, List.length_nil]
      · simp (disch := omega) only [u_ne]; exact r7
      · simp only [List.length_append, List.length_cons, List.length_nil] at h
        by_cases en : n < rs.length
        · rw [List.getElem_append_left en]
          simp (disch := omega) only [u_ne]
          exact r8a n en
        · obtain rfl : n = rs.length := by omega
          simp (disch := omega) only [u_ne, u_eq, List.getElem_append_right, Nat.sub_self, List.getElem_cons_zero, and_self]
      · simp (disch := omega) only [u_ne]; exact r8b n h
      · simp (disch := omega) only [u_ne]; exact r9 x i h1 h2 h3
      · simp (disch := omega) only [u_ne]; exact r10 x j i h1 h2 h3
    · refine hv_up (fun _ => fX6_note.eq_2 ..) ?_
      try simp only [↓reduceIte, Nat.reduceEqDiff, Option.bind_some, ao_let, n_ell, hc, hg, r1, r2, h10, r6, Nat.add_sub_cancel]
      try simp (disch := first | omega | assumption) only [↓reduceIte, Nat.reduceEqDiff, Option.bind_some, ao_let, t_le, f_le, t_lt, f_lt, f_eq, u_eq, u_n1, u_n2, n_cl, n_lt, n_le, n_eq, n_ltl, n_llt, n_lel, n_lle, n_eql, n_leq, n_add, n_mul, n_sub, n_addl, n_ladd, n_mull, n_lmul, n_subl, Int32.reduceLT, Int32.reduceLE, Int32.reduceAdd, Int32.reduceSub, Int32.reduceMul, Int32.reduceToNatClampNeg, not_false_eq_true, not_true_eq_false, or_false, false_or, or_self, and_self, false_and, true_and, and_false, and_true, true_or, or_true, Nat.reduceAdd, Nat.reduceMul, Nat.reduceLT, Nat.reduceLeDiff, ne_eq, n_ell, hc, hg, r1, r2, h10, r6, Nat.add_sub_cancel]
      refine hv_up (fun _ => fX6_note.eq_2 ..) ?_
      try simp only [↓reduceIte, Nat.reduceEqDiff, Option.bind_some, ao_let, n_ell, hc]
      try simp (disch := first | omega | assumption) only [↓reduceIte, Nat.reduceEqDiff, Option.bind_some, ao_let, t_le, f_le, t_lt, f_lt, f_eq, u_eq, u_n1, u_n2, n_cl, n_lt, n_le, n_eq, n_ltl, n_llt, n_lel, n_lle, n_eql, n_leq, n_add, n_mul, n_sub, n_addl, n_ladd, n_mull, n_lmul, n_subl, Int32.reduceLT, Int32.reduceLE, Int32.reduceAdd, Int32.reduceSub, Int32.reduceMul, Int32.reduceToNatClampNeg, not_false_eq_true, not_true_eq_false, or_false, false_or, or_self, and_self, false_and, true_and, and_false, and_true, true_or, or_true, Nat.reduceAdd, Nat.reduceMul, Nat.reduceLT, Nat.reduceLeDiff, ne_eq, n_ell, hc]
      refine hv_some (q _ ⟨k, hk, h9, fun x i h => ?_, Or.inr ⟨by omega, ?_, ?_, ?_, ?_, ?_, ?_, ?_, fun h => absurd h e14, fun x i h1 h2 h3 => ?_, fun x j i h1 h2 h3 => ?_⟩⟩)
      · simp (disch := omega) only [u_ne]; exact h0 x i h
      · simp (disch := omega) only [u_ne]; exact r1
      · simp (disch := omega) only [u_ne]; exact r2
      · simp (disch := omega) only [u_ne]; exact r3
      · simp (disch := omega) only [u_ne]; exact r4
      · simp (disch := omega) only [u_ne]; exact r5
      · simp (disch := omega) only [u_ne, u_eq, List.length_append, List.length_cons, List.length_nil]
      · simp (disch := omega) only [u_ne]; exact r7
      · simp (disch := omega) only [u_ne]; exact r9 x i h1 h2 h3
      · simp (disch := omega) only [u_ne]; exact r10 x j i h1 h2 h3
theorem rb_write {C0 C : ao_M} {ρ : ao_H} {rs ws : List (Nat × Int32)} {th fr to v : Int32} {p : Nat} (hc : ShA ρ) (hg : ShG ρ) (h : RcB C0 C rs ws th fr to) (hl : ws.length < 26) {Q : ao_M → Prop} (q : ∀ C', RcB C0 C' rs (ws ++ [(p, v)]) th fr to → Q C') : hv (fun n => gX6_addWrite n 25 (nI p) v C ρ) Q := by
  obtain ⟨k, hk, h9, h0, h1⟩ := h
  unfold gX6_addWrite
  try simp only [↓reduceIte, Nat.reduceEqDiff, Option.bind_some, ao_let, n_ell, hc]
  try simp (disch := first | omega | assumption) only [↓reduceIte, Nat.reduceEqDiff, Option.bind_some, ao_let, t_le, f_le, t_lt, f_lt, f_eq, u_eq, u_n1, u_n2, n_cl, n_lt, n_le, n_eq, n_ltl, n_llt, n_lel, n_lle, n_eql, n_leq, n_add, n_mul, n_sub, n_addl, n_ladd, n_mull, n_lmul, n_subl, Int32.reduceLT, Int32.reduceLE, Int32.reduceAdd, Int32.reduceSub, Int32.reduceMul, Int32.reduceToNatClampNeg, not_false_eq_true, not_true_eq_false, or_false, false_or, or_self, and_self, false_and, true_and, and_false, and_true, true_or, or_true, Nat.reduceAdd, Nat.reduceMul, Nat.reduceLT, Nat.reduceLeDiff, ne_eq, n_ell, hc]
  rcases h1 with ⟨e, r1, r2⟩ | ⟨e, r1, r2, r3, r4, r5, r6, r7, r8, r9, r10⟩
  · refine hv_bind (P := fun y => y = C) ?_ ?_
    · unfold gX6_note
      refine hv_up (fun _ => fX6_note.eq_2 ..) ?_
      try simp only [↓reduceIte, Nat.reduceEqDiff, Option.bind_some, ao_let, n_ell, hc, r2]
      try simp (disch := first | omega | assumption) only [↓reduceIte, Nat.reduceEqDiff, Option.bind_some, ao_let, t_le, f_le, t_lt, f_lt, f_eq, u_eq, u_n1, u_n2, n_cl, n_lt, n_le, n_eq, n_ltl, n_llt, n_lel, n_lle, n_eql, n_leq, n_add, n_mul, n_sub, n_addl, n_ladd, n_mull, n_lmul, n_subl, Int32.reduceLT, Int32.reduceLE, Int32.reduceAdd, Int32.reduceSub, Int32.reduceMul, Int32.reduceToNatClampNeg, not_false_eq_true, not_true_eq_false, or_false, false_or, or_self, and_self, false_and, true_and, and_false, and_true, true_or, or_true, Nat.reduceAdd, Nat.reduceMul, Nat.reduceLT, Nat.reduceLeDiff, ne_eq, n_ell, hc, r2]
      exact hv_some rfl
    · rintro _ rfl
      exact hv_some (q _ ⟨k, hk, h9, h0, Or.inl ⟨e, r1, r2⟩⟩)
  · have h10 : ((1 : Int32) = 0) = False := by decide
    refine hv_bind (P := Q) ?_ (fun y hy => hv_some hy)
    unfold gX6_note
    by_cases e14 : k < 14
    · obtain ⟨r8a, r8b⟩ := r8 e14
      refine hv_up (fun _ => fX6_note.eq_2 ..) ?_
      try simp only [↓reduceIte, Nat.reduceEqDiff, Option.bind_some, ao_let, n_ell, hc, hg, r1, r2, h10, r7, Nat.add_sub_cancel]
      try simp (disch := first | omega | assumption) only [↓reduceIte, Nat.reduceEqDiff, Option.bind_some, ao_let, t_le, f_le, t_lt, f_lt, f_eq, u_eq, u_n1, u_n2, n_cl, n_lt, n_le, n_eq, n_ltl, n_llt, n_lel, n_lle, n_eql, n_leq, n_add, n_mul, n_sub, n_addl, n_ladd, n_mull, n_lmul, n_subl, Int32.reduceLT, Int32.reduceLE, Int32.reduceAdd, Int32.reduceSub, Int32.reduceMul, Int32.reduceToNatClampNeg, not_false_eq_true, not_true_eq_false, or_false, false_or, or_self, and_self, false_and, true_and, and_false, and_true, true_or, or_true, Nat.reduceAdd, Nat.reduceMul, Nat.reduceLT, Nat.reduceLeDiff, ne_eq, n_ell, hc, hg, r1, r2, h10, r7, Nat.add_sub_cancel]
      refine hv_up (fun _ => fX6_note.eq_2 ..) ?_
      try simp only [↓reduceIte, Nat.reduceEqDiff, Option.bind_some, ao_let, n_ell, hc]
      try simp (disch := first | omega | assumption) only [↓reduceIte, Nat.reduceEqDiff, Option.bind_some, ao_let, t_le, f_le, t_lt, f_lt, f_eq, u_eq, u_n1, u_n2, n_cl, n_lt, n_le, n_eq, n_ltl, n_llt, n_lel, n_lle, n_eql, n_leq, n_add, n_mul, n_sub, n_addl, n_ladd, n_mull, n_lmul, n_subl, Int32.reduceLT, Int32.reduceLE, Int32.reduceAdd, Int32.reduceSub, Int32.reduceMul, Int32.reduceToNatClampNeg, not_false_eq_true, not_true_eq_false, or_false, false_or, or_self, and_self, false_and, true_and, and_false, and_true, true_or, or_true, Nat.reduceAdd, Nat.reduceMul, Nat.reduceLT, Nat.reduceLeDiff, ne_eq, n_ell, hc]
      refine hv_some (q _ ⟨k, hk, h9, fun x i h => ?_, Or.inr ⟨by omega, ?_, ?_, ?_, ?_, ?_, ?_, ?_, fun _ => ⟨fun n h => ?_, fun n h => ?_⟩, fun x i h1 h2 h3 => ?_, fun x j i h1 h2 h3 => ?_⟩⟩)
      · simp (disch := omega) only [u_ne]; exact h0 x i h
      · simp (disch := omega) only [u_ne]; exact r1
      · simp (disch := omega) only [u_ne]; exact r2
      · simp (disch := omega) only [u_ne]; exact r3
      · simp (disch := omega) only [u_ne]; exact r4
      · simp (disch := omega) only [u_ne]; exact r5
      · simp (disch := omega) only [u_ne]; exact r6
      · simp (disch := omega) only [u_ne, u_eq, List.length_append, List.length_cons, List.length_nil]
      · simp (disch := omega) only [u_ne]; exact r8a n h
      · simp only [List.length_append, List.length_cons, List.length_nil] at h
        by_cases en : n < ws.length
        · rw [List.getElem_append_left en]
          simp (disch := omega) only [u_ne]
          exact r8b n en
        · obtain rfl : n = ws.length := by omega
          simp (disch := omega) only [u_ne, u_eq, List.getElem_append_right, Nat.sub_self, List.getElem_cons_zero, and_self]
      · simp (disch := omega) only [u_ne]; exact r9 x i h1 h2 h3
      · simp (disch := omega) only [u_ne]; exact r10 x j i h1 h2 h3
    · refine hv_up (fun _ => fX6_note.eq_2 ..) ?_
      try simp only [↓reduceIte, Nat.reduceEqDiff, Option.bind_some, ao_let, n_ell, hc, hg, r1, r2, h10, r7, Nat.add_sub_cancel]
      try simp (disch := first | omega | assumption) only [↓reduceIte, Nat.reduceEqDiff, Option.bind_some, ao_let, t_le, f_le, t_lt, f_lt, f_eq, u_eq, u_n1, u_n2, n_cl, n_lt, n_le, n_eq, n_ltl, n_llt, n_lel, n_lle, n_eql, n_leq, n_add, n_mul, n_sub, n_addl, n_ladd, n_mull, n_lmul, n_subl, Int32.reduceLT, Int32.reduceLE, Int32.reduceAdd, Int32.reduceSub, Int32.reduceMul, Int32.reduceToNatClampNeg, not_false_eq_true, not_true_eq_false, or_false, false_or, or_self, and_self, false_and, true_and, and_false, and_true, true_or, or_true, Nat.reduceAdd, Nat.reduceMul, Nat.reduceLT, Nat.reduceLeDiff, ne_eq, n_ell, hc, hg, r1, r2, h10, r7, Nat.add_sub_cancel]
      refine hv_up (fun _ => fX6_note.eq_2 ..) ?_
      try simp only [↓reduceIte, Nat.reduceEqDiff, Option.bind_some, ao_let, n_ell, hc]
      try simp (disch := first | omega | assumption) only [↓reduceIte, Nat.reduceEqDiff, Option.bind_some, ao_let, t_le, f_le, t_lt, f_lt, f_eq, u_eq, u_n1, u_n2, n_cl, n_lt, n_le, n_eq, n_ltl, n_llt, n_lel, n_lle, n_eql, n_leq, n_add, n_mul, n_sub, n_addl, n_ladd, n_mull, n_lmul, n_subl, Int32.reduceLT, Int32.reduceLE, Int32.reduceAdd, Int32.reduceSub, Int32.reduceMul, Int32.reduceToNatClampNeg, not_false_eq_true, not_true_eq_false, or_false, false_or, or_self, and_self, false_and, true_and, and_false, and_true, true_or, or_true, Nat.reduceAdd, Nat.reduceMul, Nat.reduceLT, Nat.reduceLeDiff, ne_eq, n_ell, hc]
      refine hv_some (q _ ⟨k, hk, h9, fun x i h => ?_, Or.inr ⟨by omega, ?_, ?_, ?_, ?_, ?_, ?_, ?_, fun h => absurd h e14, fun x i h1 h2 h3 => ?_, fun x j i h1 h2 h3 => ?_⟩⟩)
      · simp (disch := omega) only [u_ne]; exact h0 x i h
      · simp (disch := omega) only [u_ne]; exact r1
      · simp (disch := omega) only [u_ne]; exact r2
      · simp (disch := omega) only [u_ne]; exact r3
      · simp (disch := omega) only [u_ne]; exact r4
      · simp (disch := omega) only [u_ne]; exact r5
      · simp (disch := omega) only [u_ne]; exact r6
      · simp (disch := omega) only [u_ne, u_eq, List.length_append, List.length_cons, List.length_nil]
      · simp (disch := omega) only [u_ne]; exact r9 x i h1 h2 h3
      · simp (disch := omega) only [u_ne]; exact r10 x j i h1 h2 h3
/-- the reference's new record -/
def nrD (k : Nat) (t fr : Int32) (D : ao_M) : ao_M := fun x i => if x = 537 ∧ i = 76 then nI (k + 1) else if x = 587 ∧ i = k then t else if x = 588 ∧ i = k then fr else if x = 589 ∧ i = k then D 537 65 else if (x = 592 ∨ x = 593) ∧ k * 26 ≤ i ∧ i < k * 26 + 26 then 0 else D x i
theorem d_newL {σ : ao_H} {k : Nat} {x1 x2 : Int32} (hs : ShD σ) (hk : k < 300) : ∀ (m p : Nat) (D : ao_M), p + m = 26 → D 537 76 = nI k → hv (fun n => fX12_newRecord n 53 537 x1 x2 (nI (k * 26 + p)) D σ) (fun y => y = (nI k, fun x i => if x = 537 ∧ i = 76 then nI (k + 1) else if (x = 592 ∨ x = 593) ∧ k * 26 + p ≤ i ∧ i < k * 26 + 26 then 0 else D x i)) := by
  intro m
  induction m with
  | zero =>
    intro p D h h76
    obtain rfl : p = 26 := by omega
    refine hv_up (fun _ => fX12_newRecord.eq_2 ..) ?_
    try simp only [↓reduceIte, Nat.reduceEqDiff, Option.bind_some, ao_let, n_ell, hs, h76, Nat.add_sub_cancel]
    try simp (disch := first | omega | assumption) only [↓reduceIte, Nat.reduceEqDiff, Option.bind_some, ao_let, t_le, f_le, t_lt, f_lt, f_eq, u_eq, u_n1, u_n2, n_cl, n_lt, n_le, n_eq, n_ltl, n_llt, n_lel, n_lle, n_eql, n_leq, n_add, n_mul, n_sub, n_addl, n_ladd, n_mull, n_lmul, n_subl, Int32.reduceLT, Int32.reduceLE, Int32.reduceAdd, Int32.reduceSub, Int32.reduceMul, Int32.reduceToNatClampNeg, not_false_eq_true, not_true_eq_false, or_false, false_or, or_self, and_self, false_and, true_and, and_false, and_true, true_or, or_true, Nat.reduceAdd, Nat.reduceMul, Nat.reduceLT, Nat.reduceLeDiff, ne_eq, n_ell, hs, h76, Nat.add_sub_cancel]
    refine hv_some ?_
    refine congrArg (fun m => (nI k, m)) ?_
    funext x i
    unfold ao_u
    by_cases e : x = 537 ∧ i = 76
    · rw [if_pos e, if_pos e]
    · rw [if_neg e, if_neg e, if_neg (by omega)]
  | succ m ih =>
    intro p D h h76
    refine hv_up (fun _ => fX12_newRecord.eq_2 ..) ?_
    try simp only [↓reduceIte, Nat.reduceEqDiff, Option.bind_some, ao_let, n_ell, hs, h76]
    try simp (disch := first | omega | assumption) only [↓reduceIte, Nat.reduceEqDiff, Option.bind_some, ao_let, t_le, f_le, t_lt, f_lt, f_eq, u_eq, u_n1, u_n2, n_cl, n_lt, n_le, n_eq, n_ltl, n_llt, n_lel, n_lle, n_eql, n_leq, n_add, n_mul, n_sub, n_addl, n_ladd, n_mull, n_lmul, n_subl, Int32.reduceLT, Int32.reduceLE, Int32.reduceAdd, Int32.reduceSub, Int32.reduceMul, Int32.reduceToNatClampNeg, not_false_eq_true, not_true_eq_false, or_false, false_or, or_self, and_self, false_and, true_and, and_false, and_true, true_or, or_true, Nat.reduceAdd, Nat.reduceMul, Nat.reduceLT, Nat.reduceLeDiff, ne_eq, n_ell, hs, h76]
    refine hv_mono (ih (p + 1) _ (by omega) ?_) ?_
    · simp (disch := omega) only [u_ne]; exact h76
    · rintro _ rfl
      refine congrArg (fun m => (nI k, m)) ?_
      funext x i
      unfold ao_u
      by_cases e : x = 537 ∧ i = 76
      · rw [if_pos e, if_pos e]
      · rw [if_neg e, if_neg e]
        by_cases e1 : (x = 592 ∨ x = 593) ∧ k * 26 + (p + 1) ≤ i ∧ i < k * 26 + 26
        · rw [if_pos e1, if_pos (by omega)]
        · rw [if_neg e1]
          by_cases e2 : x = 593 ∧ i = k * 26 + p
          · rw [if_pos e2, if_pos (by omega)]
          · rw [if_neg e2]
            by_cases e3 : x = 592 ∧ i = k * 26 + p
            · rw [if_pos e3, if_pos (by omega)]
            · rw [if_neg e3, if_neg (by omega)]
theorem d_new {σ : ao_H} {k t : Nat} {fr : Int32} {D : ao_M} (hs : ShD σ) (hk : k ≤ 300) (h76 : D 537 76 = nI k) {Q : Int32 × ao_M → Prop} (q0 : k = 300 → Q (-1, D)) (q1 : k < 300 → Q (nI k, nrD k (nI t) fr D)) : hv (fun n => gX12_newRecord n 537 (nI t) fr D σ) Q := by
  unfold gX12_newRecord
  by_cases e : k = 300
  · have hq := q0 e
    subst e
    clear q0 q1
    refine hv_up (fun _ => fX12_newRecord.eq_2 ..) ?_
    try simp only [↓reduceIte, Nat.reduceEqDiff, Option.bind_some, ao_let, n_ell, hs, h76]
    try simp (disch := first | omega | assumption) only [↓reduceIte, Nat.reduceEqDiff, Option.bind_some, ao_let, t_le, f_le, t_lt, f_lt, f_eq, u_eq, u_n1, u_n2, n_cl, n_lt, n_le, n_eq, n_ltl, n_llt, n_lel, n_lle, n_eql, n_leq, n_add, n_mul, n_sub, n_addl, n_ladd, n_mull, n_lmul, n_subl, Int32.reduceLT, Int32.reduceLE, Int32.reduceAdd, Int32.reduceSub, Int32.reduceMul, Int32.reduceToNatClampNeg, not_false_eq_true, not_true_eq_false, or_false, false_or, or_self, and_self, false_and, true_and, and_false, and_true, true_or, or_true, Nat.reduceAdd, Nat.reduceMul, Nat.reduceLT, Nat.reduceLeDiff, ne_eq, n_ell, hs, h76]
    exact hv_some hq
  · have hq := q1 (by omega)
    clear q0 q1
    refine hv_up (fun _ => fX12_newRecord.eq_2 ..) ?_
    try simp only [↓reduceIte, Nat.reduceEqDiff, Option.bind_some, ao_let, n_ell, hs, h76]
    try simp (disch := first | omega | assumption) only [↓reduceIte, Nat.reduceEqDiff, Option.bind_some, ao_let, t_le, f_le, t_lt, f_lt, f_eq, u_eq, u_n1, u_n2, n_cl, n_lt, n_le, n_eq, n_ltl, n_llt, n_lel, n_lle, n_eql, n_leq, n_add, n_mul, n_sub, n_addl, n_ladd, n_mull, n_lmul, n_subl, Int32.reduceLT, Int32.reduceLE, Int32.reduceAdd, Int32.reduceSub, Int32.reduceMul, Int32.reduceToNatClampNeg, not_false_eq_true, not_true_eq_false, or_false, false_or, or_self, and_self, false_and, true_and, and_false, and_true, true_or, or_true, Nat.reduceAdd, Nat.reduceMul, Nat.reduceLT, Nat.reduceLeDiff, ne_eq, n_ell, hs, h76]
    have := d_newL (x1 := nI t) (x2 := fr) hs (show k < 300 by omega) 26 0 (ao_u (ao_u (ao_u D 587 k (nI t)) 588 k fr) 589 k (D 537 65)) rfl (by simp (disch := omega) only [u_ne]; exact h76)
    rw [Nat.add_zero] at this
    refine hv_mono this ?_
    rintro _ rfl
    have : (fun x i => if x = 537 ∧ i = 76 then nI (k + 1) else if (x = 592 ∨ x = 593) ∧ k * 26 ≤ i ∧ i < k * 26 + 26 then 0 else ao_u (ao_u (ao_u D 587 k (nI t)) 588 k fr) 589 k (D 537 65) x i) = nrD k (nI t) fr D := by
      funext x i
      unfold nrD ao_u
      clear hs hq
      grind (splits := 40)
    rw [this]
    exact hq
theorem cnt_nodup {f : Nat → Bool} : ∀ (l : List Nat), l.Nodup → (∀ p ∈ l, p < 26) → (∀ p, p < 26 → f p = decide (p ∈ l)) → (List.range 26).countP f = l.length := by
  intro l hn hl hf
  have h1 : (List.range 26).countP f = ((List.range 26).filter f).length := List.countP_eq_length_filter
  rw [h1]
  have hp : List.Perm ((List.range 26).filter f) l := by
    refine (List.perm_ext_iff_of_nodup (List.Pairwise.filter _ List.nodup_range) hn).mpr (fun p => ?_)
    rw [List.mem_filter, List.mem_range]
    constructor
    · rintro ⟨h1, h2⟩
      rw [hf p h1] at h2
      simpa using h2
    · intro h
      exact ⟨hl p h, by rw [hf p (hl p h)]; simpa using h⟩
  exact hp.length_eq
/-- a row of flags and values, and a list -/
def RowD (D : ao_M) (fa va k : Nat) (rs : List (Nat × Int32)) : Prop := (rs.map Prod.fst).Nodup ∧ (∀ e ∈ rs, e.1 < 26 ∧ D va (k * 26 + e.1) = e.2) ∧ ∀ p, p < 26 → D fa (k * 26 + p) = if p ∈ rs.map Prod.fst then 1 else 0
theorem Row_cnt {D : ao_M} {fa va k : Nat} {rs : List (Nat × Int32)} (h : RowD D fa va k rs) : cntF D fa k = rs.length := by
  obtain ⟨h1, h2, h3⟩ := h
  have := cnt_nodup (f := fun p => decide (D fa (k * 26 + p) = 1)) (rs.map Prod.fst) h1 (fun p hp => by
    obtain ⟨e, he, rfl⟩ := List.mem_map.mp hp
    exact (h2 e he).1) (fun p hp => by
    rw [h3 p hp]
    by_cases q : p ∈ rs.map Prod.fst
    · simp only [q, ↓reduceIte, decide_true]
    · simp only [q, ↓reduceIte, decide_false]
      decide)
  unfold cntF
  rw [this, List.length_map]
theorem Row_rec {C D : ao_M} {fa va pl vl k : Nat} {rs : List (Nat × Int32)} (h : RowD D fa va k rs) (hc : ∀ (n : Nat) (h : n < rs.length), C (pl + k) n = nI rs[n].1 ∧ C (vl + k) n = rs[n].2) : RecL C D fa va pl vl k := by
  have hn := Row_cnt h
  obtain ⟨h1, h2, h3⟩ := h
  refine ⟨fun n hn' => ?_, fun p hp hf => ?_⟩
  · rw [hn] at hn'
    obtain ⟨c1, c2⟩ := hc n hn'
    obtain ⟨e1, e2⟩ := h2 _ (List.getElem_mem hn')
    refine ⟨rs[n].1, e1, c1, ?_, by rw [c2, e2]⟩
    rw [h3 _ e1, if_pos (List.mem_map.mpr ⟨_, List.getElem_mem hn', rfl⟩)]
  · rw [h3 p hp] at hf
    by_cases q : p ∈ rs.map Prod.fst
    · obtain ⟨e, he, rfl⟩ := List.mem_map.mp q
      obtain ⟨n, hn', rfl⟩ := List.mem_iff_getElem.mp he
      exact ⟨n, by rw [hn]; exact hn', (hc n hn').1⟩
    · rw [if_neg q] at hf
      exact absurd hf (by decide)
theorem rec_fin {C0 C D0 D : ao_M} {rs ws : List (Nat × Int32)} {th fr to : Int32} {k : Nat} (h : Rrc C0 D0) (hb : RcB C0 C rs ws th fr to) (hk : C0 25 9 = nI k) (hk3 : k ≤ 300) (h0 : k = 300 → D 537 76 = D0 537 76 ∧ ∀ x i, 587 ≤ x → x ≤ 593 → D x i = D0 x i)
    (h1 : k < 300 → D 537 76 = nI (k + 1) ∧ D 587 k = th ∧ D 588 k = fr ∧ D 589 k = to ∧ (∀ x i, 587 ≤ x → x ≤ 589 → i ≠ k → D x i = D0 x i) ∧ (∀ x i, 590 ≤ x → x ≤ 593 → i < k * 26 → D x i = D0 x i) ∧ RowD D 592 590 k rs ∧ RowD D 593 591 k ws) : Rrc C D := by
  obtain ⟨k', b1, b2, b3, b4⟩ := hb
  have ek : k' = k := by
    rw [b2] at hk
    exact (n_eq (show k' < 2147483648 by omega) (show k < 2147483648 by omega)).mp hk
  subst ek
  obtain ⟨j, a1, a2, a3, a4⟩ := h
  have ej : j = k' := by
    rw [b2] at a2
    exact ((n_eq (show k' < 2147483648 by omega) (show j < 2147483648 by omega)).mp a2).symm
  subst ej
  rcases b4 with ⟨e, r1, r2⟩ | ⟨e, r1, r2, r3, r4, r5, r6, r7, r8, r9, r10⟩
  · obtain ⟨z1, z2⟩ := h0 e
    have hh : Rrc C0 D0 := ⟨j, a1, a2, a3, a4⟩
    clear a4 h1
    have cE : ∀ a i, 25 ≤ a → a ≤ 90 → ¬ (a = 25 ∧ i = 10) → C a i = C0 a i := fun a i _ _ h => r1 a i h
    -- cell 10 of thing 25 is no part of Rrc
    have : Rrc (ao_u C 25 10 (C0 25 10)) D := Rrc_fr hh (fun a i q1 q2 => by
      by_cases q : a = 25 ∧ i = 10
      · rw [q.1, q.2]; exact u_eq
      · rw [u_ne (by omega)]; exact r1 a i q) z1 z2
    obtain ⟨jj, y1, y2, y3, y4⟩ := this
    have cu : ∀ a i, ¬ (a = 25 ∧ i = 10) → ao_u C 25 10 (C0 25 10) a i = C a i := fun a i q => u_ne (by omega)
    refine ⟨jj, y1, by rw [cu _ _ (by omega)] at y2; exact y2, y3, fun i hi => ?_⟩
    obtain ⟨w1, w2, w3, w4, w5, w6, w7⟩ := y4 i hi
    rw [cu _ _ (by omega)] at w1 w2 w3 w4 w5
    refine ⟨w1, w2, w3, w4, w5, w6, fun h14 => ?_⟩
    obtain ⟨⟨v1, v2⟩, v3, v4⟩ := w7 h14
    refine ⟨⟨fun n hn => ?_, fun p hp hf => ?_⟩, fun n hn => ?_, fun p hp hf => ?_⟩
    · have := v1 n hn; simpa (disch := omega) only [cu] using this
    · have := v2 p hp hf; simpa (disch := omega) only [cu] using this
    · have := v3 n hn; simpa (disch := omega) only [cu] using this
    · have := v4 p hp hf; simpa (disch := omega) only [cu] using this
  · obtain ⟨z1, z2, z3, z4, z5, z6, z7, z8⟩ := h1 e
    refine ⟨j + 1, by omega, r2, z1, fun i hi => ?_⟩
    by_cases ei : i = j
    · subst ei
      refine ⟨by rw [r3, z2], by rw [r4, z3], by rw [r5, z4], by rw [r6, Row_cnt z7], by rw [r7, Row_cnt z8], fun p hp => ?_, fun h14 => ?_⟩
      · rw [z7.2.2 p hp, z8.2.2 p hp]
        constructor
        · by_cases q : p ∈ rs.map Prod.fst
          · rw [if_pos q]; exact Or.inr rfl
          · rw [if_neg q]; exact Or.inl rfl
        · by_cases q : p ∈ ws.map Prod.fst
          · rw [if_pos q]; exact Or.inr rfl
          · rw [if_neg q]; exact Or.inl rfl
      · obtain ⟨v1, v2⟩ := r8 h14
        exact ⟨Row_rec z7 v1, Row_rec z8 v2⟩
    · have hij : i < j := by omega
      clear r8 z7 z8
      obtain ⟨b1', b2', b3', b4', b5', b6', b7'⟩ := a4 i hij
      have ec : ∀ a, a = 592 ∨ a = 593 → cntF D a i = cntF D0 a i := fun a ha => by
        unfold cntF
        exact List.countP_congr (fun p hp => by
          have : p < 26 := by simpa using hp
          rw [z6 _ _ (by omega) (by omega) (by omega)])
      refine ⟨?_, ?_, ?_, ?_, ?_, ?_, ?_⟩
      · rw [r9 _ _ (by omega) (by omega) ei, z5 _ _ (by omega) (by omega) ei]; exact b1'
      · rw [r9 _ _ (by omega) (by omega) ei, z5 _ _ (by omega) (by omega) ei]; exact b2'
      · rw [r9 _ _ (by omega) (by omega) ei, z5 _ _ (by omega) (by omega) ei]; exact b3'
      · rw [r9 _ _ (by omega) (by omega) ei, ec _ (by omega)]; exact b4'
      · rw [r9 _ _ (by omega) (by omega) ei, ec _ (by omega)]; exact b5'
      · intro p hp
        rw [z6 _ _ (by omega) (by omega) (by omega), z6 _ _ (by omega) (by omega) (by omega)]; exact b6' p hp
      · intro h14
        obtain ⟨⟨v1, v2⟩, v3, v4⟩ := b7' h14
        refine ⟨⟨fun n hn => ?_, fun p hp hf => ?_⟩, fun n hn => ?_, fun p hp hf => ?_⟩
        · rw [ec _ (by omega)] at hn
          obtain ⟨p, y1, y2, y3, y4⟩ := v1 n hn
          exact ⟨p, y1, by rw [r10 32 i n (by omega) h14 ei]; exact y2, by rw [z6 _ _ (by omega) (by omega) (by omega)]; exact y3, by rw [r10 47 i n (by omega) h14 ei, z6 _ _ (by omega) (by omega) (by omega)]; exact y4⟩
        · rw [z6 _ _ (by omega) (by omega) (by omega)] at hf
          obtain ⟨n, y1, y2⟩ := v2 p hp hf
          exact ⟨n, by rw [ec _ (by omega)]; exact y1, by rw [r10 32 i n (by omega) h14 ei]; exact y2⟩
        · rw [ec _ (by omega)] at hn
          obtain ⟨p, y1, y2, y3, y4⟩ := v3 n hn
          exact ⟨p, y1, by rw [r10 62 i n (by omega) h14 ei]; exact y2, by rw [z6 _ _ (by omega) (by omega) (by omega)]; exact y3, by rw [r10 77 i n (by omega) h14 ei, z6 _ _ (by omega) (by omega) (by omega)]; exact y4⟩
        · rw [z6 _ _ (by omega) (by omega) (by omega)] at hf
          obtain ⟨n, y1, y2⟩ := v4 p hp hf
          exact ⟨n, by rw [ec _ (by omega)]; exact y1, by rw [r10 62 i n (by omega) h14 ei]; exact y2⟩
