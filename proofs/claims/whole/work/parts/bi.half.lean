set_option linter.unusedSimpArgs false
set_option linter.unusedVariables false
/-! ===== each parser's own small moves ===== -/
theorem kd_le {s : Fn} {len i : Nat} : kd s len i ≤ 27 := (@tkK_rng s len (bg s len i)).1
theorem kd_lt {ρ σ : ao_H} {s : Fn} {len e i : Nat} (hE : PE ρ σ s len e) (hi : i ≤ e) (h : kd s len i ≠ 0) : i < e := by
  refine Classical.byContradiction fun g => h ?_
  rw [show i = e by omega]
  exact hE.2.2.2.2.1
theorem PC_fr {C C' : ao_M} {s : Fn} {len e i l st l' : Nat} (h : PC C s len e i l st) (g : FrC C C' l') (h3 : ∀ j, 7 ≤ j → j ≤ 10 → C' 3 j = C 3 j) (h4 : C' 8 4 = C 8 4) (h5 : C' 8 5 = C 8 5) : PC C' s len e i l st := by
  obtain ⟨⟨t1, t2⟩, ⟨a1, a2, a3, a4⟩, b1, b2, b3⟩ := h
  refine ⟨⟨by rw [g.1 _ _ (by omega)]; exact t1, fun j hj => ?_⟩, ⟨by rw [h3 _ (by omega) (by omega)]; exact a1, by rw [h3 _ (by omega) (by omega)]; exact a2, by rw [h3 _ (by omega) (by omega)]; exact a3, by rw [h3 _ (by omega) (by omega)]; exact a4⟩, by rw [g.1 _ _ (by omega)]; exact b1, h4.trans b2, h5.trans b3⟩
  rw [g.1 _ _ (by omega), g.1 _ _ (by omega), g.1 _ _ (by omega)]
  exact t2 j hj
theorem c_adv {ρ σ : ao_H} {s : Fn} {len e i l st : Nat} {C : ao_M} (hE : PE ρ σ s len e) (h : PC C s len e i l st) (hi : i < e) : hv (fun n => gX9_advance n 3 C ρ) (fun y => PC y s len e (i + 1) l st ∧ (∀ l', FrC C y l')) := by
  obtain ⟨h1, h2, h3, h4, h5⟩ := h
  refine hv_mono (adv_ok hE.1 h1 (by have := hE.2.2.1; have := hE.2.2.2.1; omega) hi h2.1) ?_
  rintro y ⟨y1, y2⟩
  refine ⟨⟨⟨by rw [y1 _ _ (by omega)]; exact h1.1, fun j hj => ?_⟩, y2, by rw [y1 _ _ (by omega)]; exact h3, by rw [y1 _ _ (by omega)]; exact h4, by rw [y1 _ _ (by omega)]; exact h5⟩, fun l' => ⟨fun x j hx => y1 x j (by omega), fun j hj => ⟨y1 _ _ (by omega), y1 _ _ (by omega), y1 _ _ (by omega)⟩⟩⟩
  rw [y1 _ _ (by omega), y1 _ _ (by omega), y1 _ _ (by omega)]
  exact h1.2 j hj
theorem c_brk {ρ σ : ao_H} {s : Fn} {len e i l st : Nat} {C : ao_M} (hE : PE ρ σ s len e) (h : PC C s len e i l st) : gX4_broken 2 C ρ = some (0, ao_u C 2 2 (nI (bg s len i))) := by
  have hρ := hE.1
  have h9 := h.2.1.2.2.1
  unfold gX4_broken
  try simp only [↓reduceIte, Nat.reduceEqDiff, Option.bind_some, ao_let, n_ell, hρ, h9]
  try simp (disch := first | omega | assumption) only [↓reduceIte, Nat.reduceEqDiff, Option.bind_some, ao_let, t_le, f_le, t_lt, f_lt, f_eq, u_eq, u_n1, u_n2, n_cl, n_lt, n_le, n_eq, n_ltl, n_llt, n_lel, n_lle, n_eql, n_leq, n_add, n_mul, n_sub, n_addl, n_ladd, n_mull, n_lmul, n_subl, Int32.reduceLT, Int32.reduceLE, Int32.reduceAdd, Int32.reduceSub, Int32.reduceMul, Int32.reduceToNatClampNeg, not_false_eq_true, not_true_eq_false, or_false, false_or, or_self, and_self, false_and, true_and, and_false, and_true, true_or, or_true, Nat.reduceAdd, Nat.reduceMul, Nat.reduceLT, Nat.reduceLeDiff, ne_eq, n_ell, hρ, h9]
theorem c_brkF {C : ao_M} {v : Int32} {l : Nat} : FrC C (ao_u C 2 2 v) l := ⟨fun x j hx => u_ne (by omega), fun j _ => ⟨u_n1 (by omega), u_n1 (by omega), u_n1 (by omega)⟩⟩
theorem c_exp {ρ σ : ao_H} {s : Fn} {len e i l st k : Nat} {C : ao_M} (hE : PE ρ σ s len e) (h : PC C s len e i l st) (hi : i < e) (hk : kd s len i = k) : hv (fun n => gX4_expect n 2 (nI k) C ρ) (fun y => y.1 = 1 ∧ PC y.2 s len e (i + 1) l st ∧ (∀ l', FrC C y.2 l')) := by
  have hρ := hE.1
  have h8 := h.2.1.2.1
  rw [hk] at h8
  unfold gX4_expect
  simp only [hρ, h8, Option.bind_some, ↓reduceIte]
  refine hv_bind (c_adv hE h hi) ?_
  rintro y hy
  exact hv_some ⟨rfl, hy⟩
theorem c_exp0 {ρ σ : ao_H} {s : Fn} {len e i l st k : Nat} {C : ao_M} (hE : PE ρ σ s len e) (h : PC C s len e i l st) (hk : kd s len i ≠ k) (hk2 : k ≤ 27) : hv (fun n => gX4_expect n 2 (nI k) C ρ) (fun y => y.1 = 0 ∧ (∀ l', FrC C y.2 l') ∧ y.2 2 2 = nI (bg s len i)) := by
  have hρ := hE.1
  have h8 := h.2.1.2.1
  have hl := @kd_le s len i
  have hne : ¬ nI (kd s len i) = nI k := by rw [n_eq (by omega) (by omega)]; exact hk
  unfold gX4_expect
  simp only [hρ, h8, Option.bind_some, ↓reduceIte, if_neg hne, c_brk hE h, true_or]
  exact hv_some ⟨rfl, fun _ => c_brkF, show (ao_u C 2 2 (nI (bg s len i))) 2 2 = _ from u_eq⟩
theorem c_nst {ρ σ : ao_H} {s : Fn} {len e i l st k dep : Nat} {C : ao_M} (hE : PE ρ σ s len e) (h : PC C s len e i l st) (hd : dep < 10) (hi : i < e) (hk : kd s len i = k) : hv (fun n => gX4_expectNested n 2 (nI k) (nI dep) C ρ) (fun y => y.1 = 1 ∧ PC y.2 s len e (i + 1) l st ∧ (∀ l', FrC C y.2 l')) := by
  have hρ := hE.1
  unfold gX4_expectNested
  refine hv_ifF (by rw [show (10 : Int32) = nI 10 from rfl, n_le (by omega) (by omega)]; omega) ?_
  simp only [hρ, ↓reduceIte]
  refine hv_bind (c_exp hE h hi hk) ?_
  rintro ⟨y1, y2⟩ ⟨hy, hy2⟩
  dsimp only at hy hy2
  subst hy
  dsimp only
  exact hv_ifT (Or.inr rfl) (hv_some ⟨rfl, hy2⟩)
theorem c_nst0 {ρ σ : ao_H} {s : Fn} {len e i l st k dep : Nat} {C : ao_M} (hE : PE ρ σ s len e) (h : PC C s len e i l st) (hk : ¬ (dep < 10 ∧ kd s len i = k)) (hk2 : k ≤ 27) (hd2 : dep ≤ 10) : hv (fun n => gX4_expectNested n 2 (nI k) (nI dep) C ρ) (fun y => y.1 = 0 ∧ (∀ l', FrC C y.2 l') ∧ y.2 2 2 = nI (bg s len i)) := by
  have hρ := hE.1
  unfold gX4_expectNested
  by_cases hd : dep < 10
  · refine hv_ifF (by rw [show (10 : Int32) = nI 10 from rfl, n_le (by omega) (by omega)]; omega) ?_
    simp only [hρ, ↓reduceIte]
    refine hv_bind (c_exp0 hE h (fun q => hk ⟨hd, q⟩) hk2) ?_
    rintro ⟨y1, y2⟩ ⟨hy, hy2⟩
    dsimp only at hy hy2
    subst hy
    dsimp only
    exact hv_ifT (Or.inl rfl) (hv_some ⟨rfl, hy2⟩)
  · refine hv_ifT (by rw [show (10 : Int32) = nI 10 from rfl, n_le (by omega) (by omega)]; omega) ?_
    simp only [hρ, ↓reduceIte, c_brk hE h, Option.bind_some, true_or]
    exact hv_some ⟨rfl, fun _ => c_brkF, show (ao_u C 2 2 (nI (bg s len i))) 2 2 = _ from u_eq⟩
theorem c_add {ρ σ : ao_H} {s : Fn} {len e i l st : Nat} {C : ao_M} (hE : PE ρ σ s len e) (h : PC C s len e i l st) (hl : l < 1000) (o a : Int32) : ∃ C', gX1_add 8 o a C ρ = some (nI l, C') ∧ PC C' s len e i (l + 1) st ∧ FrC C C' l ∧ C' 9 l = o ∧ C' 10 l = a ∧ C' 11 l = 0 := by
  have hρ := hE.1
  have h0 := h.2.2.1
  have h4 := h.2.2.2.1
  refine ⟨ao_u (ao_u (ao_u (ao_u C 9 l o) 10 l a) 11 l 0) 8 4 (nI (l + 1)), ?_, ?_, ⟨fun x j hx => ?_, fun j hj => ⟨?_, ?_, ?_⟩⟩, ?_, ?_, ?_⟩
  · unfold gX1_add
    try simp only [↓reduceIte, Nat.reduceEqDiff, Option.bind_some, ao_let, n_ell, hρ, h0, h4]
    try simp (disch := first | omega | assumption) only [↓reduceIte, Nat.reduceEqDiff, Option.bind_some, ao_let, t_le, f_le, t_lt, f_lt, f_eq, u_eq, u_n1, u_n2, n_cl, n_lt, n_le, n_eq, n_ltl, n_llt, n_lel, n_lle, n_eql, n_leq, n_add, n_mul, n_sub, n_addl, n_ladd, n_mull, n_lmul, n_subl, Int32.reduceLT, Int32.reduceLE, Int32.reduceAdd, Int32.reduceSub, Int32.reduceMul, Int32.reduceToNatClampNeg, not_false_eq_true, not_true_eq_false, or_false, false_or, or_self, and_self, false_and, true_and, and_false, and_true, true_or, or_true, Nat.reduceAdd, Nat.reduceMul, Nat.reduceLT, Nat.reduceLeDiff, ne_eq, n_ell, hρ, h0, h4]
  · obtain ⟨⟨t1, t2⟩, ⟨a1, a2, a3, a4⟩, b1, b2, b3⟩ := h
    refine ⟨⟨?_, fun j hj => ?_⟩, ⟨?_, ?_, ?_, ?_⟩, ?_, u_eq, ?_⟩
    · try simp only [↓reduceIte, Nat.reduceEqDiff, Option.bind_some, ao_let, n_ell]
      try simp (disch := first | omega | assumption) only [↓reduceIte, Nat.reduceEqDiff, Option.bind_some, ao_let, t_le, f_le, t_lt, f_lt, f_eq, u_eq, u_n1, u_n2, n_cl, n_lt, n_le, n_eq, n_ltl, n_llt, n_lel, n_lle, n_eql, n_leq, n_add, n_mul, n_sub, n_addl, n_ladd, n_mull, n_lmul, n_subl, Int32.reduceLT, Int32.reduceLE, Int32.reduceAdd, Int32.reduceSub, Int32.reduceMul, Int32.reduceToNatClampNeg, not_false_eq_true, not_true_eq_false, or_false, false_or, or_self, and_self, false_and, true_and, and_false, and_true, true_or, or_true, Nat.reduceAdd, Nat.reduceMul, Nat.reduceLT, Nat.reduceLeDiff, ne_eq, n_ell]
      exact t1
    · try simp only [↓reduceIte, Nat.reduceEqDiff, Option.bind_some, ao_let, n_ell]
      try simp (disch := first | omega | assumption) only [↓reduceIte, Nat.reduceEqDiff, Option.bind_some, ao_let, t_le, f_le, t_lt, f_lt, f_eq, u_eq, u_n1, u_n2, n_cl, n_lt, n_le, n_eq, n_ltl, n_llt, n_lel, n_lle, n_eql, n_leq, n_add, n_mul, n_sub, n_addl, n_ladd, n_mull, n_lmul, n_subl, Int32.reduceLT, Int32.reduceLE, Int32.reduceAdd, Int32.reduceSub, Int32.reduceMul, Int32.reduceToNatClampNeg, not_false_eq_true, not_true_eq_false, or_false, false_or, or_self, and_self, false_and, true_and, and_false, and_true, true_or, or_true, Nat.reduceAdd, Nat.reduceMul, Nat.reduceLT, Nat.reduceLeDiff, ne_eq, n_ell]
      exact t2 j hj
    · try simp only [↓reduceIte, Nat.reduceEqDiff, Option.bind_some, ao_let, n_ell]
      try simp (disch := first | omega | assumption) only [↓reduceIte, Nat.reduceEqDiff, Option.bind_some, ao_let, t_le, f_le, t_lt, f_lt, f_eq, u_eq, u_n1, u_n2, n_cl, n_lt, n_le, n_eq, n_ltl, n_llt, n_lel, n_lle, n_eql, n_leq, n_add, n_mul, n_sub, n_addl, n_ladd, n_mull, n_lmul, n_subl, Int32.reduceLT, Int32.reduceLE, Int32.reduceAdd, Int32.reduceSub, Int32.reduceMul, Int32.reduceToNatClampNeg, not_false_eq_true, not_true_eq_false, or_false, false_or, or_self, and_self, false_and, true_and, and_false, and_true, true_or, or_true, Nat.reduceAdd, Nat.reduceMul, Nat.reduceLT, Nat.reduceLeDiff, ne_eq, n_ell]
      exact a1
    · try simp only [↓reduceIte, Nat.reduceEqDiff, Option.bind_some, ao_let, n_ell]
      try simp (disch := first | omega | assumption) only [↓reduceIte, Nat.reduceEqDiff, Option.bind_some, ao_let, t_le, f_le, t_lt, f_lt, f_eq, u_eq, u_n1, u_n2, n_cl, n_lt, n_le, n_eq, n_ltl, n_llt, n_lel, n_lle, n_eql, n_leq, n_add, n_mul, n_sub, n_addl, n_ladd, n_mull, n_lmul, n_subl, Int32.reduceLT, Int32.reduceLE, Int32.reduceAdd, Int32.reduceSub, Int32.reduceMul, Int32.reduceToNatClampNeg, not_false_eq_true, not_true_eq_false, or_false, false_or, or_self, and_self, false_and, true_and, and_false, and_true, true_or, or_true, Nat.reduceAdd, Nat.reduceMul, Nat.reduceLT, Nat.reduceLeDiff, ne_eq, n_ell]
      exact a2
    · try simp only [↓reduceIte, Nat.reduceEqDiff, Option.bind_some, ao_let, n_ell]
      try simp (disch := first | omega | assumption) only [↓reduceIte, Nat.reduceEqDiff, Option.bind_some, ao_let, t_le, f_le, t_lt, f_lt, f_eq, u_eq, u_n1, u_n2, n_cl, n_lt, n_le, n_eq, n_ltl, n_llt, n_lel, n_lle, n_eql, n_leq, n_add, n_mul, n_sub, n_addl, n_ladd, n_mull, n_lmul, n_subl, Int32.reduceLT, Int32.reduceLE, Int32.reduceAdd, Int32.reduceSub, Int32.reduceMul, Int32.reduceToNatClampNeg, not_false_eq_true, not_true_eq_false, or_false, false_or, or_self, and_self, false_and, true_and, and_false, and_true, true_or, or_true, Nat.reduceAdd, Nat.reduceMul, Nat.reduceLT, Nat.reduceLeDiff, ne_eq, n_ell]
      exact a3
    · try simp only [↓reduceIte, Nat.reduceEqDiff, Option.bind_some, ao_let, n_ell]
      try simp (disch := first | omega | assumption) only [↓reduceIte, Nat.reduceEqDiff, Option.bind_some, ao_let, t_le, f_le, t_lt, f_lt, f_eq, u_eq, u_n1, u_n2, n_cl, n_lt, n_le, n_eq, n_ltl, n_llt, n_lel, n_lle, n_eql, n_leq, n_add, n_mul, n_sub, n_addl, n_ladd, n_mull, n_lmul, n_subl, Int32.reduceLT, Int32.reduceLE, Int32.reduceAdd, Int32.reduceSub, Int32.reduceMul, Int32.reduceToNatClampNeg, not_false_eq_true, not_true_eq_false, or_false, false_or, or_self, and_self, false_and, true_and, and_false, and_true, true_or, or_true, Nat.reduceAdd, Nat.reduceMul, Nat.reduceLT, Nat.reduceLeDiff, ne_eq, n_ell]
      exact a4
    · try simp only [↓reduceIte, Nat.reduceEqDiff, Option.bind_some, ao_let, n_ell]
      try simp (disch := first | omega | assumption) only [↓reduceIte, Nat.reduceEqDiff, Option.bind_some, ao_let, t_le, f_le, t_lt, f_lt, f_eq, u_eq, u_n1, u_n2, n_cl, n_lt, n_le, n_eq, n_ltl, n_llt, n_lel, n_lle, n_eql, n_leq, n_add, n_mul, n_sub, n_addl, n_ladd, n_mull, n_lmul, n_subl, Int32.reduceLT, Int32.reduceLE, Int32.reduceAdd, Int32.reduceSub, Int32.reduceMul, Int32.reduceToNatClampNeg, not_false_eq_true, not_true_eq_false, or_false, false_or, or_self, and_self, false_and, true_and, and_false, and_true, true_or, or_true, Nat.reduceAdd, Nat.reduceMul, Nat.reduceLT, Nat.reduceLeDiff, ne_eq, n_ell]
      exact b1
    · try simp only [↓reduceIte, Nat.reduceEqDiff, Option.bind_some, ao_let, n_ell]
      try simp (disch := first | omega | assumption) only [↓reduceIte, Nat.reduceEqDiff, Option.bind_some, ao_let, t_le, f_le, t_lt, f_lt, f_eq, u_eq, u_n1, u_n2, n_cl, n_lt, n_le, n_eq, n_ltl, n_llt, n_lel, n_lle, n_eql, n_leq, n_add, n_mul, n_sub, n_addl, n_ladd, n_mull, n_lmul, n_subl, Int32.reduceLT, Int32.reduceLE, Int32.reduceAdd, Int32.reduceSub, Int32.reduceMul, Int32.reduceToNatClampNeg, not_false_eq_true, not_true_eq_false, or_false, false_or, or_self, and_self, false_and, true_and, and_false, and_true, true_or, or_true, Nat.reduceAdd, Nat.reduceMul, Nat.reduceLT, Nat.reduceLeDiff, ne_eq, n_ell]
      exact b3
  · rw [u_ne (by omega), u_ne (by omega), u_ne (by omega), u_ne (by omega)]
  · try simp only [↓reduceIte, Nat.reduceEqDiff, Option.bind_some, ao_let, n_ell]
    try simp (disch := first | omega | assumption) only [↓reduceIte, Nat.reduceEqDiff, Option.bind_some, ao_let, t_le, f_le, t_lt, f_lt, f_eq, u_eq, u_n1, u_n2, n_cl, n_lt, n_le, n_eq, n_ltl, n_llt, n_lel, n_lle, n_eql, n_leq, n_add, n_mul, n_sub, n_addl, n_ladd, n_mull, n_lmul, n_subl, Int32.reduceLT, Int32.reduceLE, Int32.reduceAdd, Int32.reduceSub, Int32.reduceMul, Int32.reduceToNatClampNeg, not_false_eq_true, not_true_eq_false, or_false, false_or, or_self, and_self, false_and, true_and, and_false, and_true, true_or, or_true, Nat.reduceAdd, Nat.reduceMul, Nat.reduceLT, Nat.reduceLeDiff, ne_eq, n_ell]
  · try simp only [↓reduceIte, Nat.reduceEqDiff, Option.bind_some, ao_let, n_ell]
    try simp (disch := first | omega | assumption) only [↓reduceIte, Nat.reduceEqDiff, Option.bind_some, ao_let, t_le, f_le, t_lt, f_lt, f_eq, u_eq, u_n1, u_n2, n_cl, n_lt, n_le, n_eq, n_ltl, n_llt, n_lel, n_lle, n_eql, n_leq, n_add, n_mul, n_sub, n_addl, n_ladd, n_mull, n_lmul, n_subl, Int32.reduceLT, Int32.reduceLE, Int32.reduceAdd, Int32.reduceSub, Int32.reduceMul, Int32.reduceToNatClampNeg, not_false_eq_true, not_true_eq_false, or_false, false_or, or_self, and_self, false_and, true_and, and_false, and_true, true_or, or_true, Nat.reduceAdd, Nat.reduceMul, Nat.reduceLT, Nat.reduceLeDiff, ne_eq, n_ell]
  · try simp only [↓reduceIte, Nat.reduceEqDiff, Option.bind_some, ao_let, n_ell]
    try simp (disch := first | omega | assumption) only [↓reduceIte, Nat.reduceEqDiff, Option.bind_some, ao_let, t_le, f_le, t_lt, f_lt, f_eq, u_eq, u_n1, u_n2, n_cl, n_lt, n_le, n_eq, n_ltl, n_llt, n_lel, n_lle, n_eql, n_leq, n_add, n_mul, n_sub, n_addl, n_ladd, n_mull, n_lmul, n_subl, Int32.reduceLT, Int32.reduceLE, Int32.reduceAdd, Int32.reduceSub, Int32.reduceMul, Int32.reduceToNatClampNeg, not_false_eq_true, not_true_eq_false, or_false, false_or, or_self, and_self, false_and, true_and, and_false, and_true, true_or, or_true, Nat.reduceAdd, Nat.reduceMul, Nat.reduceLT, Nat.reduceLeDiff, ne_eq, n_ell]
  · try simp only [↓reduceIte, Nat.reduceEqDiff, Option.bind_some, ao_let, n_ell]
    try simp (disch := first | omega | assumption) only [↓reduceIte, Nat.reduceEqDiff, Option.bind_some, ao_let, t_le, f_le, t_lt, f_lt, f_eq, u_eq, u_n1, u_n2, n_cl, n_lt, n_le, n_eq, n_ltl, n_llt, n_lel, n_lle, n_eql, n_leq, n_add, n_mul, n_sub, n_addl, n_ladd, n_mull, n_lmul, n_subl, Int32.reduceLT, Int32.reduceLE, Int32.reduceAdd, Int32.reduceSub, Int32.reduceMul, Int32.reduceToNatClampNeg, not_false_eq_true, not_true_eq_false, or_false, false_or, or_self, and_self, false_and, true_and, and_false, and_true, true_or, or_true, Nat.reduceAdd, Nat.reduceMul, Nat.reduceLT, Nat.reduceLeDiff, ne_eq, n_ell]
  · try simp only [↓reduceIte, Nat.reduceEqDiff, Option.bind_some, ao_let, n_ell]
    try simp (disch := first | omega | assumption) only [↓reduceIte, Nat.reduceEqDiff, Option.bind_some, ao_let, t_le, f_le, t_lt, f_lt, f_eq, u_eq, u_n1, u_n2, n_cl, n_lt, n_le, n_eq, n_ltl, n_llt, n_lel, n_lle, n_eql, n_leq, n_add, n_mul, n_sub, n_addl, n_ladd, n_mull, n_lmul, n_subl, Int32.reduceLT, Int32.reduceLE, Int32.reduceAdd, Int32.reduceSub, Int32.reduceMul, Int32.reduceToNatClampNeg, not_false_eq_true, not_true_eq_false, or_false, false_or, or_self, and_self, false_and, true_and, and_false, and_true, true_or, or_true, Nat.reduceAdd, Nat.reduceMul, Nat.reduceLT, Nat.reduceLeDiff, ne_eq, n_ell]
  · try simp only [↓reduceIte, Nat.reduceEqDiff, Option.bind_some, ao_let, n_ell]
    try simp (disch := first | omega | assumption) only [↓reduceIte, Nat.reduceEqDiff, Option.bind_some, ao_let, t_le, f_le, t_lt, f_lt, f_eq, u_eq, u_n1, u_n2, n_cl, n_lt, n_le, n_eq, n_ltl, n_llt, n_lel, n_lle, n_eql, n_leq, n_add, n_mul, n_sub, n_addl, n_ladd, n_mull, n_lmul, n_subl, Int32.reduceLT, Int32.reduceLE, Int32.reduceAdd, Int32.reduceSub, Int32.reduceMul, Int32.reduceToNatClampNeg, not_false_eq_true, not_true_eq_false, or_false, false_or, or_self, and_self, false_and, true_and, and_false, and_true, true_or, or_true, Nat.reduceAdd, Nat.reduceMul, Nat.reduceLT, Nat.reduceLeDiff, ne_eq, n_ell]
/-! the reference -/
theorem d_tok {ρ σ : ao_H} {s : Fn} {len e i m dep st wi : Nat} {D : ao_M} (hE : PE ρ σ s len e) (h : PD D σ s len i m dep st wi) : hv (fun n => gX12_token n 537 D σ) (fun y => PD y σ s len (i + 1) m dep st wi ∧ (∀ m', FrD D y m')) := by
  obtain ⟨h1, h2, h3, h4, h5, h6⟩ := h
  refine hv_mono (tok_ok h1 (tp_le (i + 1)) h2.2.2.2) ?_
  rintro y ⟨y1, y2, y3, y4, y5, y6⟩
  refine ⟨⟨y1, ⟨y4, y5, y6, y3⟩, by rw [y2 _ _ (by omega)]; exact h3, by rw [y2 _ _ (by omega)]; exact h4, by rw [y2 _ _ (by omega)]; exact h5, by rw [y2 _ _ (by omega)]; exact h6⟩, fun m' => ⟨fun x j hx => y2 x j (by omega), fun x hx => y2 _ _ (by omega)⟩⟩
theorem sg_inj : ∀ k, k ≤ 27 → 17 ≤ k → ∀ j, j ≤ 27 → 17 ≤ j → sgw k = sgw j → k = j := by decide +kernel
theorem d_sign {σ : ao_H} {s : Fn} {len i m dep st wi k : Nat} {D : ao_M} {c : Int32} (h : PD D σ s len i m dep st wi) (hc : c = sgw k) (h1 : 17 ≤ k) (h2 : k ≤ 27) : gX12_isSign 537 c D σ = some (if kd s len i = k then 1 else 0, D) := by
  obtain ⟨a1, ⟨a2, a3, a4, a5⟩, -⟩ := h
  have hl := @kd_le s len i
  unfold gX12_isSign
  rw [if_pos a1.1, a2]
  by_cases hk : kd s len i = k
  · have e1 : rK k = 5 := by unfold rK; rw [if_neg (by omega), if_neg (by omega), if_neg (by omega), if_neg (by omega), if_neg (by omega), if_neg (by omega)]
    have e2 : ∀ v, rW k v = sgw k := fun v => by unfold rW; rw [if_neg (by omega), if_neg (by omega)]
    rw [if_pos hk, a3 (by omega), hk, e1, e2, if_pos rfl, if_pos hc.symm]
  · rw [if_neg hk]
    by_cases h17 : 17 ≤ kd s len i
    · have e1 : rK (kd s len i) = 5 := by unfold rK; rw [if_neg (by omega), if_neg (by omega), if_neg (by omega), if_neg (by omega), if_neg (by omega), if_neg (by omega)]
      have e2 : ∀ v, rW (kd s len i) v = sgw (kd s len i) := fun v => by unfold rW; rw [if_neg (by omega), if_neg (by omega)]
      rw [a3 (by omega), e1, e2, if_pos rfl, if_neg (by rw [hc]; exact fun q => hk (sg_inj _ hl h17 _ h2 h1 q))]
    · have : ¬ rK (kd s len i) = 5 := by
        generalize kd s len i = q at *
        have : ∀ q, q < 17 → ¬ rK q = 5 := by decide +kernel
        exact this q (by omega)
      rw [if_neg this]
theorem d_word {σ : ao_H} {s : Fn} {len i m dep st wi w : Nat} {D : ao_M} (h : PD D σ s len i m dep st wi) (hw : w < 12) : gX12_isWord 537 (nI w) D σ = some (if kd s len i = 5 + w then 1 else 0, D) := by
  obtain ⟨a1, ⟨a2, a3, a4, a5⟩, -⟩ := h
  have hl := @kd_le s len i
  unfold gX12_isWord
  rw [if_pos a1.1, a2]
  by_cases h3 : 5 ≤ kd s len i ∧ kd s len i ≤ 16
  · have e : rK (kd s len i) = 3 := by
      unfold rK
      rw [if_neg (by omega), if_neg (by omega), if_neg (by omega), if_neg (by omega), if_neg (by omega), if_pos (by omega)]
    have e2 : rW (kd s len i) (vl s len i) = nI (kd s len i - 5) := by
      unfold rW
      rw [if_neg (by omega), if_pos (by omega)]
    rw [e, if_pos rfl, a3 (by omega), e2]
    by_cases hk : kd s len i = 5 + w
    · rw [if_pos (by rw [hk, Nat.add_sub_cancel_left]), if_pos hk]
    · rw [if_neg (by rw [n_eq (by omega) (by omega)]; omega), if_neg hk]
  · have e : ¬ rK (kd s len i) = 3 := by
      generalize kd s len i = q at *
      have : ∀ q, q ≤ 27 → ¬ (5 ≤ q ∧ q ≤ 16) → ¬ rK q = 3 := by decide +kernel
      exact this q hl h3
    rw [if_neg e, if_neg (by omega)]
theorem d_wrong {ρ σ : ao_H} {s : Fn} {len e i m dep st wi : Nat} {D : ao_M} (hE : PE ρ σ s len e) (h : PD D σ s len i m dep st wi) : gX12_wrong 537 (D 537 11) D σ = some (538, ao_u D 537 2 (nI (bg s len i))) := by
  have hσ := hE.2.1
  have h11 := h.2.1.2.2.1
  have hX := hE.2.2.2.2.2.2.2.1
  unfold gX12_wrong
  rw [h11]
  try simp only [↓reduceIte, Nat.reduceEqDiff, Option.bind_some, ao_let, n_ell, hσ, hX]
  try simp (disch := first | omega | assumption) only [↓reduceIte, Nat.reduceEqDiff, Option.bind_some, ao_let, t_le, f_le, t_lt, f_lt, f_eq, u_eq, u_n1, u_n2, n_cl, n_lt, n_le, n_eq, n_ltl, n_llt, n_lel, n_lle, n_eql, n_leq, n_add, n_mul, n_sub, n_addl, n_ladd, n_mull, n_lmul, n_subl, Int32.reduceLT, Int32.reduceLE, Int32.reduceAdd, Int32.reduceSub, Int32.reduceMul, Int32.reduceToNatClampNeg, not_false_eq_true, not_true_eq_false, or_false, false_or, or_self, and_self, false_and, true_and, and_false, and_true, true_or, or_true, Nat.reduceAdd, Nat.reduceMul, Nat.reduceLT, Nat.reduceLeDiff, ne_eq, n_ell, hσ, hX]
theorem d_wrF {D : ao_M} {v : Int32} {m : Nat} : FrD D (ao_u D 537 2 v) m := ⟨fun x j hx => u_ne (by omega), fun x _ => u_n1 (by omega)⟩
theorem d_538 {ρ σ : ao_H} {s : Fn} {len e : Nat} (hE : PE ρ σ s len e) : σ.2.1 538 = 21 := by
  exact hE.2.2.2.2.2.2.2.2
theorem d_need {ρ σ : ao_H} {s : Fn} {len e i m dep st wi k : Nat} {D : ao_M} {c : Int32} (hE : PE ρ σ s len e) (h : PD D σ s len i m dep st wi) (hc : c = sgw k) (h1 : 17 ≤ k) (h2 : k ≤ 27) (hk : kd s len i = k) : hv (fun n => gX12_need n 537 c D σ) (fun w => w.1 = .inl 0 ∧ w.2.2 = σ ∧ PD w.2.1 σ s len (i + 1) m dep st wi ∧ (∀ m', FrD D w.2.1 m')) := by
  unfold gX12_need
  refine hv_up (fun _ => fX12_need.eq_2 ..) ?_
  unfold gX12_take
  simp only [↓reduceIte, if_pos h.1.1, d_sign h hc h1 h2, if_pos hk, Option.bind_some, if_neg (show ¬ (1 : Int32) = 0 by decide), Option.bind_assoc]
  refine hv_bind (d_tok hE h) ?_
  rintro y ⟨y1, y2⟩
  try simp only [Option.bind_some, if_neg (show ¬ (1 : Int32) = 0 by decide)]
  exact hv_some ⟨rfl, rfl, y1, y2⟩
theorem d_need0 {ρ σ : ao_H} {s : Fn} {len e i m dep st wi k : Nat} {D : ao_M} {c : Int32} (hE : PE ρ σ s len e) (h : PD D σ s len i m dep st wi) (hc : c = sgw k) (h1 : 17 ≤ k) (h2 : k ≤ 27) (hk : kd s len i ≠ k) : hv (fun n => gX12_need n 537 c D σ) (fun w => w.1 = .inr RX11 ∧ w.2.2 = σ ∧ w.2.1 537 2 = nI (bg s len i) ∧ (∀ m', FrD D w.2.1 m')) := by
  unfold gX12_need
  refine hv_up (fun _ => fX12_need.eq_2 ..) ?_
  unfold gX12_take
  simp only [↓reduceIte, if_pos h.1.1, d_sign h hc h1 h2, if_neg hk, Option.bind_some, d_wrong hE h, if_pos (d_538 hE)]
  exact hv_some ⟨rfl, rfl, show (ao_u D 537 2 (nI (bg s len i))) 537 2 = _ from u_eq, fun _ => d_wrF⟩
theorem d_enter {σ : ao_H} {s : Fn} {len i m dep st wi : Nat} {D : ao_M} (h : PD D σ s len i m dep st wi) (hd : dep < 10) : hv (fun n => gX12_enter n 537 D σ) (fun w => w.1 = .inl 0 ∧ w.2.2 = σ ∧ PD w.2.1 σ s len i m (dep + 1) st wi ∧ (∀ m', FrD D w.2.1 m')) := by
  obtain ⟨a1, ⟨a2, a3, a4, a5⟩, a6, a7, a8, a9⟩ := h
  have q : ¬ nI dep = (10 : Int32) := by rw [show (10 : Int32) = nI 10 from rfl, n_eq (by omega) (by omega)]; omega
  unfold gX12_enter
  refine hv_up (fun _ => fX12_enter.eq_2 ..) ?_
  simp only [↓reduceIte, if_pos a1.1, a7, if_neg q, ao_let, show nI dep + (1 : Int32) = nI (dep + 1) from n_add]
  have key : PD (ao_u D 537 14 (nI (dep + 1))) σ s len i m (dep + 1) st wi ∧ (∀ m', FrD D (ao_u D 537 14 (nI (dep + 1))) m') := ⟨⟨DT_fr a1 (u_n2 (by omega)) (fun i => u_n1 (by omega)), ⟨by rw [u_n2 (by omega)]; exact a2, fun q => by rw [u_n2 (by omega)]; exact a3 q, by rw [u_n2 (by omega)]; exact a4, by rw [u_n2 (by omega)]; exact a5⟩, by rw [u_n2 (by omega)]; exact a6, u_eq, by rw [u_n2 (by omega)]; exact a8, by rw [u_n2 (by omega)]; exact a9⟩, fun m' => ⟨fun x j hx => u_ne (by omega), fun x hx => u_n1 (by omega)⟩⟩
  exact hv_some ⟨rfl, rfl, key.1, key.2⟩
theorem d_enter0 {ρ σ : ao_H} {s : Fn} {len e i m dep st wi : Nat} {D : ao_M} (hE : PE ρ σ s len e) (h : PD D σ s len i m dep st wi) (hd : dep = 10) : hv (fun n => gX12_enter n 537 D σ) (fun w => w.1 = .inr RX11 ∧ w.2.2 = σ ∧ w.2.1 537 2 = nI (bg s len i) ∧ (∀ m', FrD D w.2.1 m')) := by
  have a7 := h.2.2.2.1
  subst hd
  unfold gX12_enter
  refine hv_up (fun _ => fX12_enter.eq_2 ..) ?_
  simp only [↓reduceIte, if_pos h.1.1, a7, if_pos (show nI 10 = (10 : Int32) from rfl), d_wrong hE h, Option.bind_some, if_pos (d_538 hE)]
  exact hv_some ⟨rfl, rfl, show (ao_u D 537 2 (nI (bg s len i))) 537 2 = _ from u_eq, fun _ => d_wrF⟩
/-- a slot of 537 that the parser's state does not read, or the depth -/
theorem PD_dep {σ : ao_H} {s : Fn} {len i m dep st wi m' : Nat} {D : ao_M} (h : PD D σ s len i m (dep + 1) st wi) : PD (ao_u D 537 14 (D 537 14 - 1)) σ s len i m dep st wi ∧ FrD D (ao_u D 537 14 (D 537 14 - 1)) m' := by
  obtain ⟨a1, ⟨a2, a3, a4, a5⟩, a6, a7, a8, a9⟩ := h
  have q : nI (dep + 1) - (1 : Int32) = nI dep := n_sub (b := 1) (by omega)
  rw [a7, q]
  exact ⟨⟨DT_fr a1 (u_n2 (by omega)) (fun i => u_n1 (by omega)), ⟨by rw [u_n2 (by omega)]; exact a2, fun q => by rw [u_n2 (by omega)]; exact a3 q, by rw [u_n2 (by omega)]; exact a4, by rw [u_n2 (by omega)]; exact a5⟩, by rw [u_n2 (by omega)]; exact a6, u_eq, by rw [u_n2 (by omega)]; exact a8, by rw [u_n2 (by omega)]; exact a9⟩, fun x j hx => u_ne (by omega), fun x hx => u_n1 (by omega)⟩
theorem d_make {ρ σ : ao_H} {s : Fn} {len e i m dep st wi : Nat} {D : ao_M} (hE : PE ρ σ s len e) (h : PD D σ s len i m dep st wi) (hm : m < 6000) (o a b : Int32) : ∃ D', gX12_make 537 o a b D σ = some (nI m, D') ∧ PD D' σ s len i (m + 1) dep st wi ∧ FrD D D' m ∧ D' 541 (3 * m) = o ∧ D' 541 (3 * m + 1) = a ∧ D' 541 (3 * m + 2) = b := by
  have hσ := hE.2.1
  obtain ⟨a1, ⟨a2, a3, a4, a5⟩, a6, a7, a8, a9⟩ := h
  refine ⟨ao_u (ao_u (ao_u (ao_u D 541 (3 * m) o) 541 (3 * m + 1) a) 541 (3 * m + 2) b) 537 13 (nI (m + 1)), ?_, ⟨DT_fr a1 ?_ (fun i => ?_), ⟨?_, fun q => ?_, ?_, ?_⟩, u_eq, ?_, ?_, ?_⟩, ⟨fun x j hx => ?_, fun x hx => ?_⟩, ?_, ?_, ?_⟩
  · unfold gX12_make
    try simp only [↓reduceIte, Nat.reduceEqDiff, Option.bind_some, ao_let, n_ell, hσ, a6]
    try simp (disch := first | omega | assumption) only [↓reduceIte, Nat.reduceEqDiff, Option.bind_some, ao_let, t_le, f_le, t_lt, f_lt, f_eq, u_eq, u_n1, u_n2, n_cl, n_lt, n_le, n_eq, n_ltl, n_llt, n_lel, n_lle, n_eql, n_leq, n_add, n_mul, n_sub, n_addl, n_ladd, n_mull, n_lmul, n_subl, Int32.reduceLT, Int32.reduceLE, Int32.reduceAdd, Int32.reduceSub, Int32.reduceMul, Int32.reduceToNatClampNeg, not_false_eq_true, not_true_eq_false, or_false, false_or, or_self, and_self, false_and, true_and, and_false, and_true, true_or, or_true, Nat.reduceAdd, Nat.reduceMul, Nat.reduceLT, Nat.reduceLeDiff, ne_eq, n_ell, hσ, a6]
    rw [Nat.add_sub_cancel]
  · try simp only [↓reduceIte, Nat.reduceEqDiff, Option.bind_some, ao_let, n_ell]
    try simp (disch := first | omega | assumption) only [↓reduceIte, Nat.reduceEqDiff, Option.bind_some, ao_let, t_le, f_le, t_lt, f_lt, f_eq, u_eq, u_n1, u_n2, n_cl, n_lt, n_le, n_eq, n_ltl, n_llt, n_lel, n_lle, n_eql, n_leq, n_add, n_mul, n_sub, n_addl, n_ladd, n_mull, n_lmul, n_subl, Int32.reduceLT, Int32.reduceLE, Int32.reduceAdd, Int32.reduceSub, Int32.reduceMul, Int32.reduceToNatClampNeg, not_false_eq_true, not_true_eq_false, or_false, false_or, or_self, and_self, false_and, true_and, and_false, and_true, true_or, or_true, Nat.reduceAdd, Nat.reduceMul, Nat.reduceLT, Nat.reduceLeDiff, ne_eq, n_ell]
  · try simp only [↓reduceIte, Nat.reduceEqDiff, Option.bind_some, ao_let, n_ell]
    try simp (disch := first | omega | assumption) only [↓reduceIte, Nat.reduceEqDiff, Option.bind_some, ao_let, t_le, f_le, t_lt, f_lt, f_eq, u_eq, u_n1, u_n2, n_cl, n_lt, n_le, n_eq, n_ltl, n_llt, n_lel, n_lle, n_eql, n_leq, n_add, n_mul, n_sub, n_addl, n_ladd, n_mull, n_lmul, n_subl, Int32.reduceLT, Int32.reduceLE, Int32.reduceAdd, Int32.reduceSub, Int32.reduceMul, Int32.reduceToNatClampNeg, not_false_eq_true, not_true_eq_false, or_false, false_or, or_self, and_self, false_and, true_and, and_false, and_true, true_or, or_true, Nat.reduceAdd, Nat.reduceMul, Nat.reduceLT, Nat.reduceLeDiff, ne_eq, n_ell]
  · try simp only [↓reduceIte, Nat.reduceEqDiff, Option.bind_some, ao_let, n_ell]
    try simp (disch := first | omega | assumption) only [↓reduceIte, Nat.reduceEqDiff, Option.bind_some, ao_let, t_le, f_le, t_lt, f_lt, f_eq, u_eq, u_n1, u_n2, n_cl, n_lt, n_le, n_eq, n_ltl, n_llt, n_lel, n_lle, n_eql, n_leq, n_add, n_mul, n_sub, n_addl, n_ladd, n_mull, n_lmul, n_subl, Int32.reduceLT, Int32.reduceLE, Int32.reduceAdd, Int32.reduceSub, Int32.reduceMul, Int32.reduceToNatClampNeg, not_false_eq_true, not_true_eq_false, or_false, false_or, or_self, and_self, false_and, true_and, and_false, and_true, true_or, or_true, Nat.reduceAdd, Nat.reduceMul, Nat.reduceLT, Nat.reduceLeDiff, ne_eq, n_ell]
    exact a2
  · try simp only [↓reduceIte, Nat.reduceEqDiff, Option.bind_some, ao_let, n_ell]
    try simp (disch := first | omega | assumption) only [↓reduceIte, Nat.reduceEqDiff, Option.bind_some, ao_let, t_le, f_le, t_lt, f_lt, f_eq, u_eq, u_n1, u_n2, n_cl, n_lt, n_le, n_eq, n_ltl, n_llt, n_lel, n_lle, n_eql, n_leq, n_add, n_mul, n_sub, n_addl, n_ladd, n_mull, n_lmul, n_subl, Int32.reduceLT, Int32.reduceLE, Int32.reduceAdd, Int32.reduceSub, Int32.reduceMul, Int32.reduceToNatClampNeg, not_false_eq_true, not_true_eq_false, or_false, false_or, or_self, and_self, false_and, true_and, and_false, and_true, true_or, or_true, Nat.reduceAdd, Nat.reduceMul, Nat.reduceLT, Nat.reduceLeDiff, ne_eq, n_ell]
    exact a3 q
  · try simp only [↓reduceIte, Nat.reduceEqDiff, Option.bind_some, ao_let, n_ell]
    try simp (disch := first | omega | assumption) only [↓reduceIte, Nat.reduceEqDiff, Option.bind_some, ao_let, t_le, f_le, t_lt, f_lt, f_eq, u_eq, u_n1, u_n2, n_cl, n_lt, n_le, n_eq, n_ltl, n_llt, n_lel, n_lle, n_eql, n_leq, n_add, n_mul, n_sub, n_addl, n_ladd, n_mull, n_lmul, n_subl, Int32.reduceLT, Int32.reduceLE, Int32.reduceAdd, Int32.reduceSub, Int32.reduceMul, Int32.reduceToNatClampNeg, not_false_eq_true, not_true_eq_false, or_false, false_or, or_self, and_self, false_and, true_and, and_false, and_true, true_or, or_true, Nat.reduceAdd, Nat.reduceMul, Nat.reduceLT, Nat.reduceLeDiff, ne_eq, n_ell]
    exact a4
  · try simp only [↓reduceIte, Nat.reduceEqDiff, Option.bind_some, ao_let, n_ell]
    try simp (disch := first | omega | assumption) only [↓reduceIte, Nat.reduceEqDiff, Option.bind_some, ao_let, t_le, f_le, t_lt, f_lt, f_eq, u_eq, u_n1, u_n2, n_cl, n_lt, n_le, n_eq, n_ltl, n_llt, n_lel, n_lle, n_eql, n_leq, n_add, n_mul, n_sub, n_addl, n_ladd, n_mull, n_lmul, n_subl, Int32.reduceLT, Int32.reduceLE, Int32.reduceAdd, Int32.reduceSub, Int32.reduceMul, Int32.reduceToNatClampNeg, not_false_eq_true, not_true_eq_false, or_false, false_or, or_self, and_self, false_and, true_and, and_false, and_true, true_or, or_true, Nat.reduceAdd, Nat.reduceMul, Nat.reduceLT, Nat.reduceLeDiff, ne_eq, n_ell]
    exact a5
  · try simp only [↓reduceIte, Nat.reduceEqDiff, Option.bind_some, ao_let, n_ell]
    try simp (disch := first | omega | assumption) only [↓reduceIte, Nat.reduceEqDiff, Option.bind_some, ao_let, t_le, f_le, t_lt, f_lt, f_eq, u_eq, u_n1, u_n2, n_cl, n_lt, n_le, n_eq, n_ltl, n_llt, n_lel, n_lle, n_eql, n_leq, n_add, n_mul, n_sub, n_addl, n_ladd, n_mull, n_lmul, n_subl, Int32.reduceLT, Int32.reduceLE, Int32.reduceAdd, Int32.reduceSub, Int32.reduceMul, Int32.reduceToNatClampNeg, not_false_eq_true, not_true_eq_false, or_false, false_or, or_self, and_self, false_and, true_and, and_false, and_true, true_or, or_true, Nat.reduceAdd, Nat.reduceMul, Nat.reduceLT, Nat.reduceLeDiff, ne_eq, n_ell]
    exact a7
  · try simp only [↓reduceIte, Nat.reduceEqDiff, Option.bind_some, ao_let, n_ell]
    try simp (disch := first | omega | assumption) only [↓reduceIte, Nat.reduceEqDiff, Option.bind_some, ao_let, t_le, f_le, t_lt, f_lt, f_eq, u_eq, u_n1, u_n2, n_cl, n_lt, n_le, n_eq, n_ltl, n_llt, n_lel, n_lle, n_eql, n_leq, n_add, n_mul, n_sub, n_addl, n_ladd, n_mull, n_lmul, n_subl, Int32.reduceLT, Int32.reduceLE, Int32.reduceAdd, Int32.reduceSub, Int32.reduceMul, Int32.reduceToNatClampNeg, not_false_eq_true, not_true_eq_false, or_false, false_or, or_self, and_self, false_and, true_and, and_false, and_true, true_or, or_true, Nat.reduceAdd, Nat.reduceMul, Nat.reduceLT, Nat.reduceLeDiff, ne_eq, n_ell]
    exact a8
  · try simp only [↓reduceIte, Nat.reduceEqDiff, Option.bind_some, ao_let, n_ell]
    try simp (disch := first | omega | assumption) only [↓reduceIte, Nat.reduceEqDiff, Option.bind_some, ao_let, t_le, f_le, t_lt, f_lt, f_eq, u_eq, u_n1, u_n2, n_cl, n_lt, n_le, n_eq, n_ltl, n_llt, n_lel, n_lle, n_eql, n_leq, n_add, n_mul, n_sub, n_addl, n_ladd, n_mull, n_lmul, n_subl, Int32.reduceLT, Int32.reduceLE, Int32.reduceAdd, Int32.reduceSub, Int32.reduceMul, Int32.reduceToNatClampNeg, not_false_eq_true, not_true_eq_false, or_false, false_or, or_self, and_self, false_and, true_and, and_false, and_true, true_or, or_true, Nat.reduceAdd, Nat.reduceMul, Nat.reduceLT, Nat.reduceLeDiff, ne_eq, n_ell]
    exact a9
  · rw [u_ne (by omega), u_ne (by omega), u_ne (by omega), u_ne (by omega)]
  · try simp only [↓reduceIte, Nat.reduceEqDiff, Option.bind_some, ao_let, n_ell]
    try simp (disch := first | omega | assumption) only [↓reduceIte, Nat.reduceEqDiff, Option.bind_some, ao_let, t_le, f_le, t_lt, f_lt, f_eq, u_eq, u_n1, u_n2, n_cl, n_lt, n_le, n_eq, n_ltl, n_llt, n_lel, n_lle, n_eql, n_leq, n_add, n_mul, n_sub, n_addl, n_ladd, n_mull, n_lmul, n_subl, Int32.reduceLT, Int32.reduceLE, Int32.reduceAdd, Int32.reduceSub, Int32.reduceMul, Int32.reduceToNatClampNeg, not_false_eq_true, not_true_eq_false, or_false, false_or, or_self, and_self, false_and, true_and, and_false, and_true, true_or, or_true, Nat.reduceAdd, Nat.reduceMul, Nat.reduceLT, Nat.reduceLeDiff, ne_eq, n_ell]
  · try simp only [↓reduceIte, Nat.reduceEqDiff, Option.bind_some, ao_let, n_ell]
    try simp (disch := first | omega | assumption) only [↓reduceIte, Nat.reduceEqDiff, Option.bind_some, ao_let, t_le, f_le, t_lt, f_lt, f_eq, u_eq, u_n1, u_n2, n_cl, n_lt, n_le, n_eq, n_ltl, n_llt, n_lel, n_lle, n_eql, n_leq, n_add, n_mul, n_sub, n_addl, n_ladd, n_mull, n_lmul, n_subl, Int32.reduceLT, Int32.reduceLE, Int32.reduceAdd, Int32.reduceSub, Int32.reduceMul, Int32.reduceToNatClampNeg, not_false_eq_true, not_true_eq_false, or_false, false_or, or_self, and_self, false_and, true_and, and_false, and_true, true_or, or_true, Nat.reduceAdd, Nat.reduceMul, Nat.reduceLT, Nat.reduceLeDiff, ne_eq, n_ell]
  · try simp only [↓reduceIte, Nat.reduceEqDiff, Option.bind_some, ao_let, n_ell]
    try simp (disch := first | omega | assumption) only [↓reduceIte, Nat.reduceEqDiff, Option.bind_some, ao_let, t_le, f_le, t_lt, f_lt, f_eq, u_eq, u_n1, u_n2, n_cl, n_lt, n_le, n_eq, n_ltl, n_llt, n_lel, n_lle, n_eql, n_leq, n_add, n_mul, n_sub, n_addl, n_ladd, n_mull, n_lmul, n_subl, Int32.reduceLT, Int32.reduceLE, Int32.reduceAdd, Int32.reduceSub, Int32.reduceMul, Int32.reduceToNatClampNeg, not_false_eq_true, not_true_eq_false, or_false, false_or, or_self, and_self, false_and, true_and, and_false, and_true, true_or, or_true, Nat.reduceAdd, Nat.reduceMul, Nat.reduceLT, Nat.reduceLeDiff, ne_eq, n_ell]
  · try simp only [↓reduceIte, Nat.reduceEqDiff, Option.bind_some, ao_let, n_ell]
    try simp (disch := first | omega | assumption) only [↓reduceIte, Nat.reduceEqDiff, Option.bind_some, ao_let, t_le, f_le, t_lt, f_lt, f_eq, u_eq, u_n1, u_n2, n_cl, n_lt, n_le, n_eq, n_ltl, n_llt, n_lel, n_lle, n_eql, n_leq, n_add, n_mul, n_sub, n_addl, n_ladd, n_mull, n_lmul, n_subl, Int32.reduceLT, Int32.reduceLE, Int32.reduceAdd, Int32.reduceSub, Int32.reduceMul, Int32.reduceToNatClampNeg, not_false_eq_true, not_true_eq_false, or_false, false_or, or_self, and_self, false_and, true_and, and_false, and_true, true_or, or_true, Nat.reduceAdd, Nat.reduceMul, Nat.reduceLT, Nat.reduceLeDiff, ne_eq, n_ell]
