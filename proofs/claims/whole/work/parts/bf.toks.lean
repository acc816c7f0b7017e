set_option linter.unusedSimpArgs false
set_option linter.unusedVariables false
/-! ===== all tokens of a text ===== -/
/-- where token i is looked for -/
def tp (s : Fn) (len : Nat) : Nat → Nat
  | 0 => 0
  | i + 1 => tkE s len (skp blkP s (len - tp s len i) (tp s len i))
def bg (s : Fn) (len i : Nat) : Nat := skp blkP s (len - tp s len i) (tp s len i)
noncomputable def kd (s : Fn) (len i : Nat) : Nat := tkK s len (bg s len i)
def vl (s : Fn) (len i : Nat) : Int32 := tkV s len (bg s len i)
theorem tkE_ge {s : Fn} {len b : Nat} (hb : b ≤ len) : b ≤ tkE s len b ∧ tkE s len b ≤ len ∧ (b < len → b < tkE s len b) := by
  unfold tkE
  by_cases h : len ≤ b
  · rw [if_pos h]; omega
  · rw [if_neg h]
    by_cases hl : ltrP (s b)
    · rw [if_pos hl]
      obtain ⟨k1, k2, k3, k4⟩ := @skp_ge ltrP _ s (len - b) b
      refine ⟨k1, by omega, fun _ => ?_⟩
      refine Classical.byContradiction fun h => ?_
      have e : skp ltrP s (len - b) b = b := by omega
      rw [e] at k4
      exact k4 (by omega) hl
    · rw [if_neg hl]
      by_cases hd : dgtP (s b)
      · rw [if_pos hd]
        obtain ⟨k1, k2, k3, k4⟩ := @skp_ge dgtP _ s (len - b) b
        refine ⟨k1, by omega, fun _ => ?_⟩
        refine Classical.byContradiction fun h => ?_
        have e : skp dgtP s (len - b) b = b := by omega
        rw [e] at k4
        exact k4 (by omega) hd
      · rw [if_neg hd]
        split <;> omega
theorem bg_ge {s : Fn} {len i : Nat} (h : tp s len i ≤ len) : tp s len i ≤ bg s len i ∧ bg s len i ≤ len := by
  obtain ⟨k1, k2, k3, k4⟩ := @skp_ge blkP _ s (len - tp s len i) (tp s len i)
  exact ⟨k1, by unfold bg; omega⟩
theorem tp_le {s : Fn} {len : Nat} : ∀ i, tp s len i ≤ len := by
  intro i
  induction i with
  | zero => simp [tp]
  | succ i ih => exact (tkE_ge (bg_ge ih).2).2.1
theorem kwd_rng {s : Fn} {b n : Nat} : ∀ k w, w + k = 12 → 1 ≤ kwd s b n k w ∧ kwd s b n k w ≤ 16 ∧ ¬ (2 ≤ kwd s b n k w ∧ kwd s b n k w ≤ 4) := by
  intro k
  induction k with
  | zero => intro w _; simp [kwd]
  | succ k ih =>
    intro w h
    unfold kwd
    split
    · omega
    · exact ih (w + 1) (by omega)
theorem sgk_rng {x : Int32} : 1 ≤ sgk x ∧ sgk x ≤ 27 ∧ ¬ (2 ≤ sgk x ∧ sgk x ≤ 16) := by
  unfold sgk
  repeat' split
  all_goals omega
theorem tkK_rng {s : Fn} {len b : Nat} : tkK s len b ≤ 27 ∧ (b < len → 1 ≤ tkK s len b) ∧ (len ≤ b → tkK s len b = 0) := by
  unfold tkK
  have h1 := @kwd_rng s b (skp ltrP s (len - b) b - b) 12 0 (by omega)
  have h2 := @sgk_rng (s b)
  by_cases h : len ≤ b
  · rw [if_pos h]; omega
  · rw [if_neg h]
    split
    · split
      · split <;> omega
      · omega
    · split
      · split <;> omega
      · split
        · split <;> omega
        · omega
/-- letters are small numbers -/
theorem vl_ltr {s : Fn} {len b : Nat} (hb : ∀ i, i < len → bytP (s i)) (h : tkK s len b = 2 ∨ tkK s len b = 3) : ∃ r, r < 26 ∧ tkV s len b = nI r := by
  have h1 := @kwd_rng s b (skp ltrP s (len - b) b - b) 12 0 (by omega)
  have h2 := @sgk_rng (s b)
  unfold tkK at h
  unfold tkV
  by_cases g : len ≤ b
  · rw [if_pos g] at h; omega
  rw [if_neg g] at h ⊢
  by_cases hl : ltrP (s b)
  · rw [if_pos hl] at h ⊢
    by_cases h3 : skp ltrP s (len - b) b - b = 1
    · rw [if_pos h3] at h ⊢
      have hby := hb b (by omega)
      have h0 := all_byte (P := fun x => ltrP x → (97 ≤ x ∧ x ≤ 122 → (x.toInt - 97).toNat < 26 ∧ x - 97 = nI (x.toInt - 97).toNat) ∧ (¬ (97 ≤ x ∧ x ≤ 122) → (x.toInt - 65).toNat < 26 ∧ x - 65 = nI (x.toInt - 65).toNat)) (by decide +kernel) _ hby.1 hby.2 hl
      by_cases h4 : 97 ≤ s b ∧ s b ≤ 122
      · rw [if_pos h4]
        exact ⟨_, h0.1 h4⟩
      · rw [if_neg h4]
        exact ⟨_, h0.2 h4⟩
    · rw [if_neg h3] at h; omega
  · rw [if_neg hl] at h
    by_cases hd : dgtP (s b)
    · rw [if_pos hd] at h
      split at h <;> omega
    · rw [if_neg hd] at h
      split at h
      · split at h <;> omega
      · omega
theorem kd_grow {s : Fn} {len : Nat} : ∀ i, (∀ j, j < i → kd s len j ≠ 0) → i ≤ tp s len i := by
  intro i
  induction i with
  | zero => intro _; omega
  | succ i ih =>
    intro h
    have h1 := ih (fun j hj => h j (by omega))
    have h2 := @tp_le s len i
    obtain ⟨h3, h4⟩ := bg_ge h2
    have h5 := h i (by omega)
    have h6 := @tkK_rng s len (bg s len i)
    have h7 : bg s len i < len := by
      refine Classical.byContradiction fun h => h5 ?_
      exact h6.2.2 (by omega)
    have h8 := (tkE_ge (s := s) (Nat.le_of_lt h7)).2.2 h7
    show i + 1 ≤ tkE s len (bg s len i)
    omega
/-- the last token -/
theorem last_tok (s : Fn) (len : Nat) : ∃ e, e ≤ len ∧ kd s len e = 0 ∧ ∀ i, i < e → kd s len i ≠ 0 := by
  refine Classical.byContradiction fun hno => ?_
  have h : ∀ i, i ≤ len → kd s len i ≠ 0 := by
    intro i
    induction i using Nat.strongRecOn with
    | _ i ih =>
      intro hi h0
      exact hno ⟨i, hi, h0, fun j hj => ih j hj (by omega)⟩
  have h1 := kd_grow (s := s) (len := len) (len + 1) (fun j hj => h j (by omega))
  have h2 := @tp_le s len (len + 1)
  omega
/-- the class has its tokens -/
def TA (C : ao_M) (s : Fn) (len e : Nat) : Prop := C 3 6 = nI (e + 1) ∧ ∀ i, i ≤ e → C 5 i = nI (kd s len i) ∧ C 6 i = nI (bg s len i) ∧ C 7 i = vl s len i
/-- the class is at token i -/
def AtC (C : ao_M) (s : Fn) (len i : Nat) : Prop := C 3 7 = nI i ∧ C 3 8 = nI (kd s len i) ∧ C 3 9 = nI (bg s len i) ∧ C 3 10 = vl s len i
/-- the reference is at token i -/
def AtD (D : ao_M) (s : Fn) (len i : Nat) : Prop := D 537 9 = rK (kd s len i) ∧ (2 ≤ kd s len i → D 537 10 = rW (kd s len i) (vl s len i)) ∧ D 537 11 = nI (bg s len i) ∧ D 537 8 = nI (tp s len (i + 1))
theorem adv_ok {C : ao_M} {ρ : ao_H} {s : Fn} {len e i : Nat} (hρ : ShA ρ) (hT : TA C s len e) (he : e ≤ 1000) (hi : i < e) (h7 : C 3 7 = nI i) : hv (fun n => gX9_advance n 3 C ρ) (fun y => (∀ x j, ¬ (x = 3 ∧ 7 ≤ j ∧ j ≤ 10) → y x j = C x j) ∧ AtC y s len (i + 1)) := by
  obtain ⟨t1, t2⟩ := hT
  obtain ⟨g1, g2, g3⟩ := t2 (i + 1) (by omega)
  unfold gX9_advance
  refine hv_up (fun _ => fX9_advance.eq_2 ..) ?_
  try simp only [↓reduceIte, Nat.reduceEqDiff, Option.bind_some, ao_let, n_ell, hρ, t1, h7]
  try simp (disch := first | omega | assumption) only [↓reduceIte, Nat.reduceEqDiff, Option.bind_some, ao_let, t_le, f_le, t_lt, f_lt, f_eq, u_eq, u_n1, u_n2, n_cl, n_lt, n_le, n_eq, n_ltl, n_llt, n_lel, n_lle, n_eql, n_leq, n_add, n_mul, n_sub, n_addl, n_ladd, n_mull, n_lmul, n_subl, Int32.reduceLT, Int32.reduceLE, Int32.reduceAdd, Int32.reduceSub, Int32.reduceMul, Int32.reduceToNatClampNeg, not_false_eq_true, not_true_eq_false, or_false, false_or, or_self, and_self, false_and, true_and, and_false, and_true, true_or, or_true, Nat.reduceAdd, Nat.reduceMul, Nat.reduceLT, Nat.reduceLeDiff, ne_eq, n_ell, hρ, t1, h7]
  refine hv_up (fun _ => fX9_advance.eq_2 ..) ?_
  try simp only [↓reduceIte, Nat.reduceEqDiff, Option.bind_some, ao_let, n_ell, hρ, t1, h7, g1, g2, g3]
  try simp (disch := first | omega | assumption) only [↓reduceIte, Nat.reduceEqDiff, Option.bind_some, ao_let, t_le, f_le, t_lt, f_lt, f_eq, u_eq, u_n1, u_n2, n_cl, n_lt, n_le, n_eq, n_ltl, n_llt, n_lel, n_lle, n_eql, n_leq, n_add, n_mul, n_sub, n_addl, n_ladd, n_mull, n_lmul, n_subl, Int32.reduceLT, Int32.reduceLE, Int32.reduceAdd, Int32.reduceSub, Int32.reduceMul, Int32.reduceToNatClampNeg, not_false_eq_true, not_true_eq_false, or_false, false_or, or_self, and_self, false_and, true_and, and_false, and_true, true_or, or_true, Nat.reduceAdd, Nat.reduceMul, Nat.reduceLT, Nat.reduceLeDiff, ne_eq, n_ell, hρ, t1, h7, g1, g2, g3]
  refine hv_some ⟨fun x j hx => ?_, ?_, ?_, ?_, ?_⟩
  · rw [u_ne (by omega), u_ne (by omega), u_ne (by omega), u_ne (by omega)]
  · try simp only [↓reduceIte, Nat.reduceEqDiff, Option.bind_some, ao_let, n_ell]
    try simp (disch := first | omega | assumption) only [↓reduceIte, Nat.reduceEqDiff, Option.bind_some, ao_let, t_le, f_le, t_lt, f_lt, f_eq, u_eq, u_n1, u_n2, n_cl, n_lt, n_le, n_eq, n_ltl, n_llt, n_lel, n_lle, n_eql, n_leq, n_add, n_mul, n_sub, n_addl, n_ladd, n_mull, n_lmul, n_subl, Int32.reduceLT, Int32.reduceLE, Int32.reduceAdd, Int32.reduceSub, Int32.reduceMul, Int32.reduceToNatClampNeg, not_false_eq_true, not_true_eq_false, or_false, false_or, or_self, and_self, false_and, true_and, and_false, and_true, true_or, or_true, Nat.reduceAdd, Nat.reduceMul, Nat.reduceLT, Nat.reduceLeDiff, ne_eq, n_ell]
  · try simp only [↓reduceIte, Nat.reduceEqDiff, Option.bind_some, ao_let, n_ell]
    try simp (disch := first | omega | assumption) only [↓reduceIte, Nat.reduceEqDiff, Option.bind_some, ao_let, t_le, f_le, t_lt, f_lt, f_eq, u_eq, u_n1, u_n2, n_cl, n_lt, n_le, n_eq, n_ltl, n_llt, n_lel, n_lle, n_eql, n_leq, n_add, n_mul, n_sub, n_addl, n_ladd, n_mull, n_lmul, n_subl, Int32.reduceLT, Int32.reduceLE, Int32.reduceAdd, Int32.reduceSub, Int32.reduceMul, Int32.reduceToNatClampNeg, not_false_eq_true, not_true_eq_false, or_false, false_or, or_self, and_self, false_and, true_and, and_false, and_true, true_or, or_true, Nat.reduceAdd, Nat.reduceMul, Nat.reduceLT, Nat.reduceLeDiff, ne_eq, n_ell]
  · try simp only [↓reduceIte, Nat.reduceEqDiff, Option.bind_some, ao_let, n_ell]
    try simp (disch := first | omega | assumption) only [↓reduceIte, Nat.reduceEqDiff, Option.bind_some, ao_let, t_le, f_le, t_lt, f_lt, f_eq, u_eq, u_n1, u_n2, n_cl, n_lt, n_le, n_eq, n_ltl, n_llt, n_lel, n_lle, n_eql, n_leq, n_add, n_mul, n_sub, n_addl, n_ladd, n_mull, n_lmul, n_subl, Int32.reduceLT, Int32.reduceLE, Int32.reduceAdd, Int32.reduceSub, Int32.reduceMul, Int32.reduceToNatClampNeg, not_false_eq_true, not_true_eq_false, or_false, false_or, or_self, and_self, false_and, true_and, and_false, and_true, true_or, or_true, Nat.reduceAdd, Nat.reduceMul, Nat.reduceLT, Nat.reduceLeDiff, ne_eq, n_ell]
  · try simp only [↓reduceIte, Nat.reduceEqDiff, Option.bind_some, ao_let, n_ell]
    try simp (disch := first | omega | assumption) only [↓reduceIte, Nat.reduceEqDiff, Option.bind_some, ao_let, t_le, f_le, t_lt, f_lt, f_eq, u_eq, u_n1, u_n2, n_cl, n_lt, n_le, n_eq, n_ltl, n_llt, n_lel, n_lle, n_eql, n_leq, n_add, n_mul, n_sub, n_addl, n_ladd, n_mull, n_lmul, n_subl, Int32.reduceLT, Int32.reduceLE, Int32.reduceAdd, Int32.reduceSub, Int32.reduceMul, Int32.reduceToNatClampNeg, not_false_eq_true, not_true_eq_false, or_false, false_or, or_self, and_self, false_and, true_and, and_false, and_true, true_or, or_true, Nat.reduceAdd, Nat.reduceMul, Nat.reduceLT, Nat.reduceLeDiff, ne_eq, n_ell]
theorem adv_0 {C : ao_M} {ρ : ao_H} {s : Fn} {len e : Nat} (hρ : ShA ρ) (hT : TA C s len e) (he : e ≤ 1000) (h7 : C 3 7 = -1) : hv (fun n => gX9_advance n 3 C ρ) (fun y => (∀ x j, ¬ (x = 3 ∧ 7 ≤ j ∧ j ≤ 10) → y x j = C x j) ∧ AtC y s len 0) := by
  obtain ⟨t1, t2⟩ := hT
  obtain ⟨g1, g2, g3⟩ := t2 0 (by omega)
  have q : ¬ nI (e + 1) - (1 : Int32) ≤ (-1 : Int32) := by
    rw [show nI (e + 1) - (1 : Int32) = nI (e + 1 - 1) from n_sub (b := 1) (by omega), Int32.le_iff_toInt_le, n_toInt (by omega)]
    show ¬ (((e + 1 - 1 : Nat) : Int) ≤ -1)
    omega
  unfold gX9_advance
  refine hv_up (fun _ => fX9_advance.eq_2 ..) ?_
  simp only [↓reduceIte, hρ, h7, t1, if_neg q, ao_let, show (-1 : Int32) + 1 = 0 by decide]
  refine hv_up (fun _ => fX9_advance.eq_2 ..) ?_
  simp only [↓reduceIte, Nat.reduceEqDiff, hρ, ao_let, u_eq, Option.bind_some]
  simp (disch := omega) only [u_n1, u_n2, u_eq, g1, g2, g3, show (0 : Int32).toNatClampNeg = 0 by decide, show ¬ (0 : Int32) < 0 by decide, show ¬ (1001 : Int32) ≤ 0 by decide, ↓reduceIte, hρ, Nat.reduceLeDiff, or_self, not_false_eq_true]
  refine hv_some ⟨fun x j hx => ?_, ?_, ?_, ?_, ?_⟩
  · rw [u_ne (by omega), u_ne (by omega), u_ne (by omega), u_ne (by omega)]
  · try simp only [↓reduceIte, Nat.reduceEqDiff, Option.bind_some, ao_let, n_ell]
    try simp (disch := first | omega | assumption) only [↓reduceIte, Nat.reduceEqDiff, Option.bind_some, ao_let, t_le, f_le, t_lt, f_lt, f_eq, u_eq, u_n1, u_n2, n_cl, n_lt, n_le, n_eq, n_ltl, n_llt, n_lel, n_lle, n_eql, n_leq, n_add, n_mul, n_sub, n_addl, n_ladd, n_mull, n_lmul, n_subl, Int32.reduceLT, Int32.reduceLE, Int32.reduceAdd, Int32.reduceSub, Int32.reduceMul, Int32.reduceToNatClampNeg, not_false_eq_true, not_true_eq_false, or_false, false_or, or_self, and_self, false_and, true_and, and_false, and_true, true_or, or_true, Nat.reduceAdd, Nat.reduceMul, Nat.reduceLT, Nat.reduceLeDiff, ne_eq, n_ell]
  · try simp only [↓reduceIte, Nat.reduceEqDiff, Option.bind_some, ao_let, n_ell]
    try simp (disch := first | omega | assumption) only [↓reduceIte, Nat.reduceEqDiff, Option.bind_some, ao_let, t_le, f_le, t_lt, f_lt, f_eq, u_eq, u_n1, u_n2, n_cl, n_lt, n_le, n_eq, n_ltl, n_llt, n_lel, n_lle, n_eql, n_leq, n_add, n_mul, n_sub, n_addl, n_ladd, n_mull, n_lmul, n_subl, Int32.reduceLT, Int32.reduceLE, Int32.reduceAdd, Int32.reduceSub, Int32.reduceMul, Int32.reduceToNatClampNeg, not_false_eq_true, not_true_eq_false, or_false, false_or, or_self, and_self, false_and, true_and, and_false, and_true, true_or, or_true, Nat.reduceAdd, Nat.reduceMul, Nat.reduceLT, Nat.reduceLeDiff, ne_eq, n_ell]
  · try simp only [↓reduceIte, Nat.reduceEqDiff, Option.bind_some, ao_let, n_ell]
    try simp (disch := first | omega | assumption) only [↓reduceIte, Nat.reduceEqDiff, Option.bind_some, ao_let, t_le, f_le, t_lt, f_lt, f_eq, u_eq, u_n1, u_n2, n_cl, n_lt, n_le, n_eq, n_ltl, n_llt, n_lel, n_lle, n_eql, n_leq, n_add, n_mul, n_sub, n_addl, n_ladd, n_mull, n_lmul, n_subl, Int32.reduceLT, Int32.reduceLE, Int32.reduceAdd, Int32.reduceSub, Int32.reduceMul, Int32.reduceToNatClampNeg, not_false_eq_true, not_true_eq_false, or_false, false_or, or_self, and_self, false_and, true_and, and_false, and_true, true_or, or_true, Nat.reduceAdd, Nat.reduceMul, Nat.reduceLT, Nat.reduceLeDiff, ne_eq, n_ell]
  · try simp only [↓reduceIte, Nat.reduceEqDiff, Option.bind_some, ao_let, n_ell]
    try simp (disch := first | omega | assumption) only [↓reduceIte, Nat.reduceEqDiff, Option.bind_some, ao_let, t_le, f_le, t_lt, f_lt, f_eq, u_eq, u_n1, u_n2, n_cl, n_lt, n_le, n_eq, n_ltl, n_llt, n_lel, n_lle, n_eql, n_leq, n_add, n_mul, n_sub, n_addl, n_ladd, n_mull, n_lmul, n_subl, Int32.reduceLT, Int32.reduceLE, Int32.reduceAdd, Int32.reduceSub, Int32.reduceMul, Int32.reduceToNatClampNeg, not_false_eq_true, not_true_eq_false, or_false, false_or, or_self, and_self, false_and, true_and, and_false, and_true, true_or, or_true, Nat.reduceAdd, Nat.reduceMul, Nat.reduceLT, Nat.reduceLeDiff, ne_eq, n_ell]
theorem rd_loop {ρ : ao_H} {s : Fn} {len e : Nat} {x2 : Int32} {Q : ao_S → Prop} (hρ : ShA ρ) (he : e ≤ len) (h0 : kd s len e = 0) (h1 : ∀ i, i < e → kd s len i ≠ 0) : ∀ (k i : Nat) (C : ao_M), i + k = e + 1 → CT C ρ s len → C 3 2 = nI (tp s len i) → (i = 0 → C 3 8 = 1) → (0 < i → C 3 8 = nI (kd s len (i - 1)) ∧ C 3 6 = nI i) → (∀ j, j < i → C 5 j = nI (kd s len j) ∧ C 6 j = nI (bg s len j) ∧ C 7 j = vl s len j) →
    (∀ C', TA C' s len e → (∀ x j, ¬ (x = 3 ∨ x = 5 ∨ x = 6 ∨ x = 7) → C' x j = C x j) → hv (fun n => fX9_read n 88 3 1 x2 (nI (e + 1)) C' ρ) Q) → hv (fun n => fX9_read n 27 3 1 x2 (nI i) C ρ) Q := by
  intro k
  induction k with
  | zero =>
    intro i C hk hC h2 g0 g1 ha q
    have a6 := hC.2.2.2.2.2.1
    have ei : i = e + 1 := by omega
    subst ei
    obtain ⟨g2, g3⟩ := g1 (by omega)
    rw [Nat.add_sub_cancel, h0] at g2
    have fin := q C ⟨g3, fun j hj => ha j (by omega)⟩ (fun _ _ _ => rfl)
    refine hv_up (fun _ => fX9_read.eq_2 ..) ?_
    simp only [↓reduceIte, Nat.reduceEqDiff]
    by_cases hq : (1001 : Int32) ≤ nI (e + 1)
    · exact hv_ifT hq fin
    · refine hv_ifF hq ?_
      simp only [if_pos hρ.2.2.2.1, g2]
      exact hv_ifT rfl fin
  | succ k ih =>
    intro i C hk hC h2 g0 g1 ha q
    have a6 := hC.2.2.2.2.2.1
    have h8 : ¬ C 3 8 = 0 := by
      by_cases hi : i = 0
      · rw [g0 hi]; decide
      · rw [(g1 (by omega)).1]
        have r1 := (@tkK_rng s len (bg s len (i - 1))).1
        have r2 := h1 (i - 1) (by omega)
        rw [show (0 : Int32) = nI 0 from rfl, n_eq (by unfold kd; omega) (by omega)]
        exact r2
    have hlt : ¬ (1001 : Int32) ≤ nI i := by
      have : ((1001 : Int32) ≤ nI i) = (1001 ≤ i) := n_le (a := 1001) (by decide) (by omega)
      rw [this]; omega
    refine hv_up (fun _ => fX9_read.eq_2 ..) ?_
    simp only [↓reduceIte, Nat.reduceEqDiff, if_neg hlt, if_pos hρ.2.2.2.1, if_neg h8]
    refine hv_bind (scan_ok hC (tp_le i) h2) ?_
    rintro y ⟨y1, y2, y3, y4, y5, y6⟩
    try simp only [↓reduceIte, Nat.reduceEqDiff, Option.bind_some, ao_let, n_ell, hρ, y4, y5, y6]
    try simp (disch := first | omega | assumption) only [↓reduceIte, Nat.reduceEqDiff, Option.bind_some, ao_let, t_le, f_le, t_lt, f_lt, f_eq, u_eq, u_n1, u_n2, n_cl, n_lt, n_le, n_eq, n_ltl, n_llt, n_lel, n_lle, n_eql, n_leq, n_add, n_mul, n_sub, n_addl, n_ladd, n_mull, n_lmul, n_subl, Int32.reduceLT, Int32.reduceLE, Int32.reduceAdd, Int32.reduceSub, Int32.reduceMul, Int32.reduceToNatClampNeg, not_false_eq_true, not_true_eq_false, or_false, false_or, or_self, and_self, false_and, true_and, and_false, and_true, true_or, or_true, Nat.reduceAdd, Nat.reduceMul, Nat.reduceLT, Nat.reduceLeDiff, ne_eq, n_ell, hρ, y4, y5, y6]
    refine ih (i + 1) _ (by omega) (CT_fr y1 ?_ (fun j => ?_)) ?_ (fun h => by omega) (fun _ => ⟨?_, ?_⟩) (fun j hj => ?_) (fun C' c1 c2 => q C' c1 (fun x j hx => ?_))
    · try simp only [↓reduceIte, Nat.reduceEqDiff, Option.bind_some, ao_let, n_ell]
      try simp (disch := first | omega | assumption) only [↓reduceIte, Nat.reduceEqDiff, Option.bind_some, ao_let, t_le, f_le, t_lt, f_lt, f_eq, u_eq, u_n1, u_n2, n_cl, n_lt, n_le, n_eq, n_ltl, n_llt, n_lel, n_lle, n_eql, n_leq, n_add, n_mul, n_sub, n_addl, n_ladd, n_mull, n_lmul, n_subl, Int32.reduceLT, Int32.reduceLE, Int32.reduceAdd, Int32.reduceSub, Int32.reduceMul, Int32.reduceToNatClampNeg, not_false_eq_true, not_true_eq_false, or_false, false_or, or_self, and_self, false_and, true_and, and_false, and_true, true_or, or_true, Nat.reduceAdd, Nat.reduceMul, Nat.reduceLT, Nat.reduceLeDiff, ne_eq, n_ell]
    · try simp only [↓reduceIte, Nat.reduceEqDiff, Option.bind_some, ao_let, n_ell]
      try simp (disch := first | omega | assumption) only [↓reduceIte, Nat.reduceEqDiff, Option.bind_some, ao_let, t_le, f_le, t_lt, f_lt, f_eq, u_eq, u_n1, u_n2, n_cl, n_lt, n_le, n_eq, n_ltl, n_llt, n_lel, n_lle, n_eql, n_leq, n_add, n_mul, n_sub, n_addl, n_ladd, n_mull, n_lmul, n_subl, Int32.reduceLT, Int32.reduceLE, Int32.reduceAdd, Int32.reduceSub, Int32.reduceMul, Int32.reduceToNatClampNeg, not_false_eq_true, not_true_eq_false, or_false, false_or, or_self, and_self, false_and, true_and, and_false, and_true, true_or, or_true, Nat.reduceAdd, Nat.reduceMul, Nat.reduceLT, Nat.reduceLeDiff, ne_eq, n_ell]
    · try simp only [↓reduceIte, Nat.reduceEqDiff, Option.bind_some, ao_let, n_ell]
      try simp (disch := first | omega | assumption) only [↓reduceIte, Nat.reduceEqDiff, Option.bind_some, ao_let, t_le, f_le, t_lt, f_lt, f_eq, u_eq, u_n1, u_n2, n_cl, n_lt, n_le, n_eq, n_ltl, n_llt, n_lel, n_lle, n_eql, n_leq, n_add, n_mul, n_sub, n_addl, n_ladd, n_mull, n_lmul, n_subl, Int32.reduceLT, Int32.reduceLE, Int32.reduceAdd, Int32.reduceSub, Int32.reduceMul, Int32.reduceToNatClampNeg, not_false_eq_true, not_true_eq_false, or_false, false_or, or_self, and_self, false_and, true_and, and_false, and_true, true_or, or_true, Nat.reduceAdd, Nat.reduceMul, Nat.reduceLT, Nat.reduceLeDiff, ne_eq, n_ell]
      exact y3
    · rw [Nat.add_sub_cancel]
      try simp only [↓reduceIte, Nat.reduceEqDiff, Option.bind_some, ao_let, n_ell]
      try simp (disch := first | omega | assumption) only [↓reduceIte, Nat.reduceEqDiff, Option.bind_some, ao_let, t_le, f_le, t_lt, f_lt, f_eq, u_eq, u_n1, u_n2, n_cl, n_lt, n_le, n_eq, n_ltl, n_llt, n_lel, n_lle, n_eql, n_leq, n_add, n_mul, n_sub, n_addl, n_ladd, n_mull, n_lmul, n_subl, Int32.reduceLT, Int32.reduceLE, Int32.reduceAdd, Int32.reduceSub, Int32.reduceMul, Int32.reduceToNatClampNeg, not_false_eq_true, not_true_eq_false, or_false, false_or, or_self, and_self, false_and, true_and, and_false, and_true, true_or, or_true, Nat.reduceAdd, Nat.reduceMul, Nat.reduceLT, Nat.reduceLeDiff, ne_eq, n_ell]
      exact y4
    · try simp only [↓reduceIte, Nat.reduceEqDiff, Option.bind_some, ao_let, n_ell]
      try simp (disch := first | omega | assumption) only [↓reduceIte, Nat.reduceEqDiff, Option.bind_some, ao_let, t_le, f_le, t_lt, f_lt, f_eq, u_eq, u_n1, u_n2, n_cl, n_lt, n_le, n_eq, n_ltl, n_llt, n_lel, n_lle, n_eql, n_leq, n_add, n_mul, n_sub, n_addl, n_ladd, n_mull, n_lmul, n_subl, Int32.reduceLT, Int32.reduceLE, Int32.reduceAdd, Int32.reduceSub, Int32.reduceMul, Int32.reduceToNatClampNeg, not_false_eq_true, not_true_eq_false, or_false, false_or, or_self, and_self, false_and, true_and, and_false, and_true, true_or, or_true, Nat.reduceAdd, Nat.reduceMul, Nat.reduceLT, Nat.reduceLeDiff, ne_eq, n_ell]
    · by_cases ej : j = i
      · subst ej
        try simp only [↓reduceIte, Nat.reduceEqDiff, Option.bind_some, ao_let, n_ell]
        try simp (disch := first | omega | assumption) only [↓reduceIte, Nat.reduceEqDiff, Option.bind_some, ao_let, t_le, f_le, t_lt, f_lt, f_eq, u_eq, u_n1, u_n2, n_cl, n_lt, n_le, n_eq, n_ltl, n_llt, n_lel, n_lle, n_eql, n_leq, n_add, n_mul, n_sub, n_addl, n_ladd, n_mull, n_lmul, n_subl, Int32.reduceLT, Int32.reduceLE, Int32.reduceAdd, Int32.reduceSub, Int32.reduceMul, Int32.reduceToNatClampNeg, not_false_eq_true, not_true_eq_false, or_false, false_or, or_self, and_self, false_and, true_and, and_false, and_true, true_or, or_true, Nat.reduceAdd, Nat.reduceMul, Nat.reduceLT, Nat.reduceLeDiff, ne_eq, n_ell]
        exact ⟨rfl, rfl, rfl⟩
      · obtain ⟨b1, b2, b3⟩ := ha j (by omega)
        try simp only [↓reduceIte, Nat.reduceEqDiff, Option.bind_some, ao_let, n_ell]
        try simp (disch := first | omega | assumption) only [↓reduceIte, Nat.reduceEqDiff, Option.bind_some, ao_let, t_le, f_le, t_lt, f_lt, f_eq, u_eq, u_n1, u_n2, n_cl, n_lt, n_le, n_eq, n_ltl, n_llt, n_lel, n_lle, n_eql, n_leq, n_add, n_mul, n_sub, n_addl, n_ladd, n_mull, n_lmul, n_subl, Int32.reduceLT, Int32.reduceLE, Int32.reduceAdd, Int32.reduceSub, Int32.reduceMul, Int32.reduceToNatClampNeg, not_false_eq_true, not_true_eq_false, or_false, false_or, or_self, and_self, false_and, true_and, and_false, and_true, true_or, or_true, Nat.reduceAdd, Nat.reduceMul, Nat.reduceLT, Nat.reduceLeDiff, ne_eq, n_ell]
        rw [y2 _ _ (by omega), y2 _ _ (by omega), y2 _ _ (by omega)]
        exact ⟨b1, b2, b3⟩
    · rw [c2 x j hx, u_ne (by omega), u_ne (by omega), u_ne (by omega), u_ne (by omega), y2 _ _ (by omega)]
theorem read_ok {C : ao_M} {ρ : ao_H} {s : Fn} {len e : Nat} (hρ : ShA ρ) (hl : len ≤ 1000) (hs : ∀ i, i < len → C 1 i = s i ∧ bytP (s i)) (he : e ≤ len) (h0 : kd s len e = 0) (h1 : ∀ i, i < e → kd s len i ≠ 0) (hρ' : ShA (ao_r ρ 3 0 (some 1))) : hv (fun n => gX9_read n 3 1 (nI len) C ρ) (fun y => y.2 = ao_r ρ 3 0 (some 1) ∧ TA y.1 s len e ∧ AtC y.1 s len 0 ∧ ∀ x j, ¬ (x = 3 ∨ x = 5 ∨ x = 6 ∨ x = 7) → y.1 x j = C x j) := by
  unfold gX9_read
  refine hv_up (fun _ => fX9_read.eq_2 ..) ?_
  simp only [↓reduceIte, if_pos hρ.2.2.2.1]
  refine hv_up (fun _ => fX9_read.eq_2 ..) ?_
  simp only [↓reduceIte, Nat.reduceEqDiff, if_pos hρ'.2.2.2.1, ao_let]
  have hr : (ao_r ρ 3 0 (some 1)).1 3 0 = some 1 := r_Fe
  refine rd_loop (ρ := ao_r ρ 3 0 (some 1)) (s := s) (len := len) (e := e) hρ' he h0 h1 (e + 1) 0 _ (by omega) ⟨hρ'.2.2.2.1, hr, hρ'.2.1, ?_, ?_, hl, fun i hi => ?_⟩ ?_ (fun _ => ?_) (fun h => by omega) (fun j h => by omega) (fun C' c1 c2 => ?_)
  · exact (show ShA _ from hρ').2.2.2.2.2.2.2.2.2.2.2.2.2.2.2.2.2.2.2.2.2.2.2.2.2.2.2.2.2.2.2.2.2.2.2.2.1
  · try simp only [↓reduceIte, Nat.reduceEqDiff, Option.bind_some, ao_let, n_ell]
    try simp (disch := first | omega | assumption) only [↓reduceIte, Nat.reduceEqDiff, Option.bind_some, ao_let, t_le, f_le, t_lt, f_lt, f_eq, u_eq, u_n1, u_n2, n_cl, n_lt, n_le, n_eq, n_ltl, n_llt, n_lel, n_lle, n_eql, n_leq, n_add, n_mul, n_sub, n_addl, n_ladd, n_mull, n_lmul, n_subl, Int32.reduceLT, Int32.reduceLE, Int32.reduceAdd, Int32.reduceSub, Int32.reduceMul, Int32.reduceToNatClampNeg, not_false_eq_true, not_true_eq_false, or_false, false_or, or_self, and_self, false_and, true_and, and_false, and_true, true_or, or_true, Nat.reduceAdd, Nat.reduceMul, Nat.reduceLT, Nat.reduceLeDiff, ne_eq, n_ell]
  · try simp only [↓reduceIte, Nat.reduceEqDiff, Option.bind_some, ao_let, n_ell]
    try simp (disch := first | omega | assumption) only [↓reduceIte, Nat.reduceEqDiff, Option.bind_some, ao_let, t_le, f_le, t_lt, f_lt, f_eq, u_eq, u_n1, u_n2, n_cl, n_lt, n_le, n_eq, n_ltl, n_llt, n_lel, n_lle, n_eql, n_leq, n_add, n_mul, n_sub, n_addl, n_ladd, n_mull, n_lmul, n_subl, Int32.reduceLT, Int32.reduceLE, Int32.reduceAdd, Int32.reduceSub, Int32.reduceMul, Int32.reduceToNatClampNeg, not_false_eq_true, not_true_eq_false, or_false, false_or, or_self, and_self, false_and, true_and, and_false, and_true, true_or, or_true, Nat.reduceAdd, Nat.reduceMul, Nat.reduceLT, Nat.reduceLeDiff, ne_eq, n_ell]
    exact hs i hi
  · try simp only [↓reduceIte, Nat.reduceEqDiff, Option.bind_some, ao_let, n_ell]
    try simp (disch := first | omega | assumption) only [↓reduceIte, Nat.reduceEqDiff, Option.bind_some, ao_let, t_le, f_le, t_lt, f_lt, f_eq, u_eq, u_n1, u_n2, n_cl, n_lt, n_le, n_eq, n_ltl, n_llt, n_lel, n_lle, n_eql, n_leq, n_add, n_mul, n_sub, n_addl, n_ladd, n_mull, n_lmul, n_subl, Int32.reduceLT, Int32.reduceLE, Int32.reduceAdd, Int32.reduceSub, Int32.reduceMul, Int32.reduceToNatClampNeg, not_false_eq_true, not_true_eq_false, or_false, false_or, or_self, and_self, false_and, true_and, and_false, and_true, true_or, or_true, Nat.reduceAdd, Nat.reduceMul, Nat.reduceLT, Nat.reduceLeDiff, ne_eq, n_ell]
    rfl
  · try simp only [↓reduceIte, Nat.reduceEqDiff, Option.bind_some, ao_let, n_ell]
    try simp (disch := first | omega | assumption) only [↓reduceIte, Nat.reduceEqDiff, Option.bind_some, ao_let, t_le, f_le, t_lt, f_lt, f_eq, u_eq, u_n1, u_n2, n_cl, n_lt, n_le, n_eq, n_ltl, n_llt, n_lel, n_lle, n_eql, n_leq, n_add, n_mul, n_sub, n_addl, n_ladd, n_mull, n_lmul, n_subl, Int32.reduceLT, Int32.reduceLE, Int32.reduceAdd, Int32.reduceSub, Int32.reduceMul, Int32.reduceToNatClampNeg, not_false_eq_true, not_true_eq_false, or_false, false_or, or_self, and_self, false_and, true_and, and_false, and_true, true_or, or_true, Nat.reduceAdd, Nat.reduceMul, Nat.reduceLT, Nat.reduceLeDiff, ne_eq, n_ell]
  · refine hv_up (fun _ => fX9_read.eq_2 ..) ?_
    simp only [↓reduceIte, Nat.reduceEqDiff, if_pos hρ'.2.2.2.1, ao_let]
    refine hv_bind (adv_0 (C := ao_u C' 3 7 (-1)) (s := s) (len := len) (e := e) hρ' ⟨by rw [u_n2 (by omega)]; exact c1.1, fun i hi => by rw [u_n1 (by omega), u_n1 (by omega), u_n1 (by omega)]; exact c1.2 i hi⟩ (by omega) u_eq) ?_
    rintro y ⟨y1, y2⟩
    refine hv_some ⟨rfl, ⟨?_, fun i hi => ?_⟩, y2, fun x j hx => ?_⟩
    · dsimp only
      rw [y1 _ _ (by omega), u_n2 (by omega)]; exact c1.1
    · dsimp only
      rw [y1 _ _ (by omega), y1 _ _ (by omega), y1 _ _ (by omega), u_n1 (by omega), u_n1 (by omega), u_n1 (by omega)]; exact c1.2 i hi
    · dsimp only
      rw [y1 _ _ (by omega), u_ne (by omega), c2 x j hx, u_ne (by omega), u_ne (by omega), u_ne (by omega), u_ne (by omega)]
