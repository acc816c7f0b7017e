set_option linter.unusedSimpArgs false
set_option linter.unusedVariables false
/-! ===== calls between calls: round ===== -/
theorem n_mod6 {i : Nat} (h : i < 2147483648) : nI i - nI i / 6 * 6 = nI (i % 6) := by
  have e : nI i / 6 = nI (i / 6) := (Int32.ofNat_div (a := i) (b := 6) h (by decide)).symm
  rw [e, n_mull, n_sub (show i / 6 * (OfNat.ofNat 6 : Nat) ≤ i from Nat.div_mul_le_self i 6)]
  congr 1
  show i - i / 6 * 6 = i % 6
  omega
section Cc6
variable {m B1 B2 E1 E2 : Nat} {C D : ao_M} {ρ σ : ao_H}
abbrev liv (C : ao_M) (t : Nat) : Prop := C (92 + 71 * t) 2 = 1 ∨ C (92 + 71 * t) 2 = 2 ∨ C (92 + 71 * t) 2 = 3
def lvs (C : ao_M) : Nat := (List.range' 0 6).countP (fun t => decide (liv C t))
theorem c_left (hb : ShB ρ) {t : Nat} (ht : t < 6) {Q : Int32 × ao_M → Prop} (q1 : liv C t → Q (1, C)) (q0 : ¬ liv C t → Q (0, C)) : hv (fun n => gX7_isLeft n (92 + 71 * t) C ρ) Q := by
  have hR := RnS_of hb ht
  have fin : liv C t → hv (fun n => fX7_isLeft n 24 (92 + 71 * t) C ρ) Q := by
    intro hl
    refine hv_up (fun _ => fX7_isLeft.eq_2 ..) ?_
    try simp only [↓reduceIte, Nat.reduceEqDiff, Option.bind_some, ao_let, n_ell]
    try simp (disch := first | omega | assumption) only [↓reduceIte, Nat.reduceEqDiff, Option.bind_some, ao_let, t_le, f_le, t_lt, f_lt, f_eq, u_eq, u_n1, u_n2, n_cl, n_lt, n_le, n_eq, n_ltl, n_llt, n_lel, n_lle, n_eql, n_leq, n_add, n_mul, n_sub, n_addl, n_ladd, n_mull, n_lmul, n_subl, Int32.reduceLT, Int32.reduceLE, Int32.reduceAdd, Int32.reduceSub, Int32.reduceMul, Int32.reduceToNatClampNeg, not_false_eq_true, not_true_eq_false, or_false, false_or, or_self, and_self, false_and, true_and, and_false, and_true, true_or, or_true, Nat.reduceAdd, Nat.reduceMul, Nat.reduceLT, Nat.reduceLeDiff, ne_eq, n_ell]
    exact hv_some (q1 hl)
  unfold gX7_isLeft
  refine hv_up (fun _ => fX7_isLeft.eq_2 ..) ?_
  simp only [↓reduceIte, hR]
  refine hv_if (fun e => fin (Or.inl e)) (fun e1 => hv_if (fun e => fin (Or.inr (Or.inl e))) (fun e2 => hv_if (fun e => fin (Or.inr (Or.inr e))) (fun e3 => hv_some (q0 ?_))))
  rintro (e | e | e)
  · exact e1 e
  · exact e2 e
  · exact e3 e
theorem d_live (hs : ShD σ) {t : Nat} (ht : t < 6) (he : C (92 + 71 * t) 2 = D 551 t) {Q : Int32 × ao_M → Prop} (q1 : liv C t → Q (1, D)) (q0 : ¬ liv C t → Q (0, D)) : hv (fun n => gX12_isLive n 537 (nI t) D σ) Q := by
  have fin : liv C t → hv (fun n => fX12_isLive n 30 537 (nI t) D σ) Q := by
    intro hl
    refine hv_up (fun _ => fX12_isLive.eq_2 ..) ?_
    try simp only [↓reduceIte, Nat.reduceEqDiff, Option.bind_some, ao_let, n_ell]
    try simp (disch := first | omega | assumption) only [↓reduceIte, Nat.reduceEqDiff, Option.bind_some, ao_let, t_le, f_le, t_lt, f_lt, f_eq, u_eq, u_n1, u_n2, n_cl, n_lt, n_le, n_eq, n_ltl, n_llt, n_lel, n_lle, n_eql, n_leq, n_add, n_mul, n_sub, n_addl, n_ladd, n_mull, n_lmul, n_subl, Int32.reduceLT, Int32.reduceLE, Int32.reduceAdd, Int32.reduceSub, Int32.reduceMul, Int32.reduceToNatClampNeg, not_false_eq_true, not_true_eq_false, or_false, false_or, or_self, and_self, false_and, true_and, and_false, and_true, true_or, or_true, Nat.reduceAdd, Nat.reduceMul, Nat.reduceLT, Nat.reduceLeDiff, ne_eq, n_ell]
    exact hv_some (q1 hl)
  unfold gX12_isLive
  refine hv_up (fun _ => fX12_isLive.eq_2 ..) ?_
  try simp only [↓reduceIte, Nat.reduceEqDiff, Option.bind_some, ao_let, n_ell, hs]
  try simp (disch := first | omega | assumption) only [↓reduceIte, Nat.reduceEqDiff, Option.bind_some, ao_let, t_le, f_le, t_lt, f_lt, f_eq, u_eq, u_n1, u_n2, n_cl, n_lt, n_le, n_eq, n_ltl, n_llt, n_lel, n_lle, n_eql, n_leq, n_add, n_mul, n_sub, n_addl, n_ladd, n_mull, n_lmul, n_subl, Int32.reduceLT, Int32.reduceLE, Int32.reduceAdd, Int32.reduceSub, Int32.reduceMul, Int32.reduceToNatClampNeg, not_false_eq_true, not_true_eq_false, or_false, false_or, or_self, and_self, false_and, true_and, and_false, and_true, true_or, or_true, Nat.reduceAdd, Nat.reduceMul, Nat.reduceLT, Nat.reduceLeDiff, ne_eq, n_ell, hs]
  refine hv_if (fun e => fin (Or.inl (he.trans e))) (fun e1 => hv_if (fun e => fin (Or.inr (Or.inl (he.trans e)))) (fun e2 => hv_if (fun e => fin (Or.inr (Or.inr (he.trans e)))) (fun e3 => hv_some (q0 ?_))))
  rintro (e | e | e)
  · exact e1 (he.symm.trans e)
  · exact e2 (he.symm.trans e)
  · exact e3 (he.symm.trans e)
theorem c_leftL (hc : ShA ρ) (hb : ShB ρ) : ∀ (k u c : Nat), u + k = 6 → hv (fun n => fX2_howManyAreLeft n 4 12 (nI c) (nI u) C ρ) (fun y => y = (nI (c + (List.range' u k).countP (fun t => decide (liv C t))), C)) := by
  intro k
  induction k with
  | zero =>
    intro u c h
    obtain rfl : u = 6 := by omega
    refine hv_up (fun _ => fX2_howManyAreLeft.eq_2 ..) ?_
    try simp only [↓reduceIte, Nat.reduceEqDiff, Option.bind_some, ao_let, n_ell, hc]
    try simp (disch := first | omega | assumption) only [↓reduceIte, Nat.reduceEqDiff, Option.bind_some, ao_let, t_le, f_le, t_lt, f_lt, f_eq, u_eq, u_n1, u_n2, n_cl, n_lt, n_le, n_eq, n_ltl, n_llt, n_lel, n_lle, n_eql, n_leq, n_add, n_mul, n_sub, n_addl, n_ladd, n_mull, n_lmul, n_subl, Int32.reduceLT, Int32.reduceLE, Int32.reduceAdd, Int32.reduceSub, Int32.reduceMul, Int32.reduceToNatClampNeg, not_false_eq_true, not_true_eq_false, or_false, false_or, or_self, and_self, false_and, true_and, and_false, and_true, true_or, or_true, Nat.reduceAdd, Nat.reduceMul, Nat.reduceLT, Nat.reduceLeDiff, ne_eq, n_ell, hc]
    refine hv_some ?_
    simp
  | succ k ih =>
    intro u c h
    have hR := RnS_of hb (show u < 6 by omega)
    have h91 : ρ.1 91 u = some (92 + 71 * u) := by obtain ⟨a0, _⟩ := hb; exact a0 u (by omega)
    rw [cP_s (f := fun t => liv C t)]
    refine hv_up (fun _ => fX2_howManyAreLeft.eq_2 ..) ?_
    try simp only [↓reduceIte, Nat.reduceEqDiff, Option.bind_some, ao_let, n_ell, hc, h91, hR]
    try simp (disch := first | omega | assumption) only [↓reduceIte, Nat.reduceEqDiff, Option.bind_some, ao_let, t_le, f_le, t_lt, f_lt, f_eq, u_eq, u_n1, u_n2, n_cl, n_lt, n_le, n_eq, n_ltl, n_llt, n_lel, n_lle, n_eql, n_leq, n_add, n_mul, n_sub, n_addl, n_ladd, n_mull, n_lmul, n_subl, Int32.reduceLT, Int32.reduceLE, Int32.reduceAdd, Int32.reduceSub, Int32.reduceMul, Int32.reduceToNatClampNeg, not_false_eq_true, not_true_eq_false, or_false, false_or, or_self, and_self, false_and, true_and, and_false, and_true, true_or, or_true, Nat.reduceAdd, Nat.reduceMul, Nat.reduceLT, Nat.reduceLeDiff, ne_eq, n_ell, hc, h91, hR]
    refine hv_bind (c_left (Q := fun y => y = (1, C) ∧ liv C u ∨ y = (0, C) ∧ ¬ liv C u) hb (by omega) (fun q => Or.inl ⟨rfl, q⟩) (fun q => Or.inr ⟨rfl, q⟩)) ?_
    rintro _ (⟨rfl, q⟩ | ⟨rfl, q⟩)
    · rw [if_pos q, ← Nat.add_assoc]
      simp only [show ((1 : Int32) = 0) = False from by decide, ↓reduceIte, ao_let, n_addl]
      refine hv_up (fun _ => fX2_howManyAreLeft.eq_2 ..) ?_
      try simp only [↓reduceIte, Nat.reduceEqDiff, Option.bind_some, ao_let, n_ell]
      try simp (disch := first | omega | assumption) only [↓reduceIte, Nat.reduceEqDiff, Option.bind_some, ao_let, t_le, f_le, t_lt, f_lt, f_eq, u_eq, u_n1, u_n2, n_cl, n_lt, n_le, n_eq, n_ltl, n_llt, n_lel, n_lle, n_eql, n_leq, n_add, n_mul, n_sub, n_addl, n_ladd, n_mull, n_lmul, n_subl, Int32.reduceLT, Int32.reduceLE, Int32.reduceAdd, Int32.reduceSub, Int32.reduceMul, Int32.reduceToNatClampNeg, not_false_eq_true, not_true_eq_false, or_false, false_or, or_self, and_self, false_and, true_and, and_false, and_true, true_or, or_true, Nat.reduceAdd, Nat.reduceMul, Nat.reduceLT, Nat.reduceLeDiff, ne_eq, n_ell]
      exact ih (u + 1) (c + 1) (by omega)
    · rw [if_neg q, Nat.zero_add]
      simp only [↓reduceIte]
      refine hv_up (fun _ => fX2_howManyAreLeft.eq_2 ..) ?_
      try simp only [↓reduceIte, Nat.reduceEqDiff, Option.bind_some, ao_let, n_ell]
      try simp (disch := first | omega | assumption) only [↓reduceIte, Nat.reduceEqDiff, Option.bind_some, ao_let, t_le, f_le, t_lt, f_lt, f_eq, u_eq, u_n1, u_n2, n_cl, n_lt, n_le, n_eq, n_ltl, n_llt, n_lel, n_lle, n_eql, n_leq, n_add, n_mul, n_sub, n_addl, n_ladd, n_mull, n_lmul, n_subl, Int32.reduceLT, Int32.reduceLE, Int32.reduceAdd, Int32.reduceSub, Int32.reduceMul, Int32.reduceToNatClampNeg, not_false_eq_true, not_true_eq_false, or_false, false_or, or_self, and_self, false_and, true_and, and_false, and_true, true_or, or_true, Nat.reduceAdd, Nat.reduceMul, Nat.reduceLT, Nat.reduceLeDiff, ne_eq, n_ell]
      exact ih (u + 1) c (by omega)
theorem c_lvs (hc : ShA ρ) (hb : ShB ρ) {Q : Int32 × ao_M → Prop} (q : Q (nI (lvs C), C)) : hv (fun n => gX2_howManyAreLeft n 12 C ρ) Q := by
  unfold gX2_howManyAreLeft
  refine hv_up (fun _ => fX2_howManyAreLeft.eq_2 ..) ?_
  try simp only [↓reduceIte, Nat.reduceEqDiff, Option.bind_some, ao_let, n_ell]
  try simp (disch := first | omega | assumption) only [↓reduceIte, Nat.reduceEqDiff, Option.bind_some, ao_let, t_le, f_le, t_lt, f_lt, f_eq, u_eq, u_n1, u_n2, n_cl, n_lt, n_le, n_eq, n_ltl, n_llt, n_lel, n_lle, n_eql, n_leq, n_add, n_mul, n_sub, n_addl, n_ladd, n_mull, n_lmul, n_subl, Int32.reduceLT, Int32.reduceLE, Int32.reduceAdd, Int32.reduceSub, Int32.reduceMul, Int32.reduceToNatClampNeg, not_false_eq_true, not_true_eq_false, or_false, false_or, or_self, and_self, false_and, true_and, and_false, and_true, true_or, or_true, Nat.reduceAdd, Nat.reduceMul, Nat.reduceLT, Nat.reduceLeDiff, ne_eq, n_ell]
  refine hv_mono (c_leftL hc hb 6 0 0 rfl) ?_
  rintro _ rfl
  rw [Nat.zero_add]
  exact q
theorem d_liveL (hs : ShD σ) (he : ∀ t, t < 6 → C (92 + 71 * t) 2 = D 551 t) {x1 x2 x3 x4 : Int32} {Q : Int32 × ao_S → Prop} : ∀ (k u c : Nat), u + k = 6 → hv (fun n => fX12_round n 53 537 x1 x2 x3 x4 (nI (c + (List.range' u k).countP (fun t => decide (liv C t)))) (nI 6) 0 0 0 D σ) Q → hv (fun n => fX12_round n 53 537 x1 x2 x3 x4 (nI c) (nI u) 0 0 0 D σ) Q := by
  intro k
  induction k with
  | zero =>
    intro u c h q
    obtain rfl : u = 6 := by omega
    simpa using q
  | succ k ih =>
    intro u c h q
    rw [cP_s (f := fun t => liv C t)] at q
    refine hv_up (fun _ => fX12_round.eq_2 ..) ?_
    try simp only [↓reduceIte, Nat.reduceEqDiff, Option.bind_some, ao_let, n_ell, hs]
    try simp (disch := first | omega | assumption) only [↓reduceIte, Nat.reduceEqDiff, Option.bind_some, ao_let, t_le, f_le, t_lt, f_lt, f_eq, u_eq, u_n1, u_n2, n_cl, n_lt, n_le, n_eq, n_ltl, n_llt, n_lel, n_lle, n_eql, n_leq, n_add, n_mul, n_sub, n_addl, n_ladd, n_mull, n_lmul, n_subl, Int32.reduceLT, Int32.reduceLE, Int32.reduceAdd, Int32.reduceSub, Int32.reduceMul, Int32.reduceToNatClampNeg, not_false_eq_true, not_true_eq_false, or_false, false_or, or_self, and_self, false_and, true_and, and_false, and_true, true_or, or_true, Nat.reduceAdd, Nat.reduceMul, Nat.reduceLT, Nat.reduceLeDiff, ne_eq, n_ell, hs]
    refine hv_bind (d_live (C := C) (Q := fun y => y = (1, D) ∧ liv C u ∨ y = (0, D) ∧ ¬ liv C u) hs (show u < 6 by omega) (he u (by omega)) (fun q => Or.inl ⟨rfl, q⟩) (fun q => Or.inr ⟨rfl, q⟩)) ?_
    rintro _ (⟨rfl, e⟩ | ⟨rfl, e⟩)
    · rw [if_pos e, ← Nat.add_assoc] at q
      simp only [show ((1 : Int32) = 0) = False from by decide, ↓reduceIte, ao_let, n_addl]
      refine hv_up (fun _ => fX12_round.eq_2 ..) ?_
      try simp only [↓reduceIte, Nat.reduceEqDiff, Option.bind_some, ao_let, n_ell]
      try simp (disch := first | omega | assumption) only [↓reduceIte, Nat.reduceEqDiff, Option.bind_some, ao_let, t_le, f_le, t_lt, f_lt, f_eq, u_eq, u_n1, u_n2, n_cl, n_lt, n_le, n_eq, n_ltl, n_llt, n_lel, n_lle, n_eql, n_leq, n_add, n_mul, n_sub, n_addl, n_ladd, n_mull, n_lmul, n_subl, Int32.reduceLT, Int32.reduceLE, Int32.reduceAdd, Int32.reduceSub, Int32.reduceMul, Int32.reduceToNatClampNeg, not_false_eq_true, not_true_eq_false, or_false, false_or, or_self, and_self, false_and, true_and, and_false, and_true, true_or, or_true, Nat.reduceAdd, Nat.reduceMul, Nat.reduceLT, Nat.reduceLeDiff, ne_eq, n_ell]
      exact ih (u + 1) (c + 1) (by omega) q
    · rw [if_neg e, Nat.zero_add] at q
      simp only [↓reduceIte]
      refine hv_up (fun _ => fX12_round.eq_2 ..) ?_
      try simp only [↓reduceIte, Nat.reduceEqDiff, Option.bind_some, ao_let, n_ell]
      try simp (disch := first | omega | assumption) only [↓reduceIte, Nat.reduceEqDiff, Option.bind_some, ao_let, t_le, f_le, t_lt, f_lt, f_eq, u_eq, u_n1, u_n2, n_cl, n_lt, n_le, n_eq, n_ltl, n_llt, n_lel, n_lle, n_eql, n_leq, n_add, n_mul, n_sub, n_addl, n_ladd, n_mull, n_lmul, n_subl, Int32.reduceLT, Int32.reduceLE, Int32.reduceAdd, Int32.reduceSub, Int32.reduceMul, Int32.reduceToNatClampNeg, not_false_eq_true, not_true_eq_false, or_false, false_or, or_self, and_self, false_and, true_and, and_false, and_true, true_or, or_true, Nat.reduceAdd, Nat.reduceMul, Nat.reduceLT, Nat.reduceLeDiff, ne_eq, n_ell]
      exact ih (u + 1) c (by omega) q
/-- both have gone round -/
def RnP (m N br B1 B2 E1 E2 : Nat) (y : (Int32 ⊕ String) × ao_S) (w : Int32 × ao_S) : Prop := ∃ k n, k ≤ N ∧ y.1 = .inl (nI k) ∧ w.1 = nI k ∧ PT m n (br + 11 * k) B1 B2 E1 E2 y.2.1 y.2.2 w.2.1 w.2.2
set_option maxHeartbeats 8000000 in
theorem rnd_loop {N br : Nat} (hN : N ≤ 2000) (hm : m ≤ 512) (hbr : br + 22000 ≤ 100000000) : ∀ (k i tn idle g n : Nat) (C : ao_M) (ρ : ao_H) (D : ao_M) (σ : ao_H), i + k = 6 * (N + 1) → tn ≤ N → i ≤ 6 * tn + g → g ≤ 5 → (∀ j, 1 ≤ j → j ≤ g → ¬ liv C ((i + 6 - j) % 6)) → idle ≤ tn → n ≤ 20000 → PT m n (br + 11 * tn) B1 B2 E1 E2 C ρ D σ →
    hv (fun a => fX10_round a 28 0 (nI N) (nI tn) (nI idle) (nI i) 0 0 0 C ρ) (fun y => hv (fun a => fX12_round a 32 537 (nI N) (nI tn) (nI idle) (nI (i % 6)) 0 0 0 0 0 D σ) (fun w => RnP m N br B1 B2 E1 E2 y w)) := by
  intro k
  induction k with
  | zero =>
    intro i tn idle g n C ρ D σ h1 h2 h3 h4
    omega
  | succ k ih =>
    intro i tn idle g n C ρ D σ h1 h2 h3 h4 h5 h6 h7 hP
    obtain ⟨kp, rc, ⟨p1, F⟩, ⟨hRv, hRv'⟩, hRx, hO⟩ := id hP
    obtain ⟨⟨hc, hb, hg, hs⟩, -, ⟨-, -, fX⟩, -, -, -, -, hT, -⟩ := id F
    obtain ⟨-, -, -, -, -, d65, -⟩ := fX
    rw [Nat.mul_div_cancel_left _ (by omega)] at d65
    have he : ∀ t, t < 6 → C (92 + 71 * t) 2 = D 551 t := fun t ht => by
      have := sts_eq hT ht
      rw [tk_n (by omega)] at this; exact this
    have done : hv (fun a => fX12_round a 32 537 (nI N) (nI tn) (nI idle) (nI (i % 6)) 0 0 0 0 0 D σ) (fun w => w = (nI tn, D, σ)) → hv (fun a => fX12_round a 32 537 (nI N) (nI tn) (nI idle) (nI (i % 6)) 0 0 0 0 0 D σ) (fun w => RnP m N br B1 B2 E1 E2 (.inl (nI tn), C, ρ) w) := by
      intro q
      refine hv_mono q ?_
      rintro _ rfl
      exact ⟨tn, n, h2, rfl, rfl, hP⟩
    by_cases c1 : tn = N
    · subst c1
      refine hv_up (fun _ => fX10_round.eq_2 ..) ?_
      try simp only [↓reduceIte, Nat.reduceEqDiff, Option.bind_some, ao_let, n_ell, hc]
      try simp (disch := first | omega | assumption) only [↓reduceIte, Nat.reduceEqDiff, Option.bind_some, ao_let, t_le, f_le, t_lt, f_lt, f_eq, u_eq, u_n1, u_n2, n_cl, n_lt, n_le, n_eq, n_ltl, n_llt, n_lel, n_lle, n_eql, n_leq, n_add, n_mul, n_sub, n_addl, n_ladd, n_mull, n_lmul, n_subl, Int32.reduceLT, Int32.reduceLE, Int32.reduceAdd, Int32.reduceSub, Int32.reduceMul, Int32.reduceToNatClampNeg, not_false_eq_true, not_true_eq_false, or_false, false_or, or_self, and_self, false_and, true_and, and_false, and_true, true_or, or_true, Nat.reduceAdd, Nat.reduceMul, Nat.reduceLT, Nat.reduceLeDiff, ne_eq, n_ell, hc]
      refine hv_some (done ?_)
      refine hv_up (fun _ => fX12_round.eq_2 ..) ?_
      try simp only [↓reduceIte, Nat.reduceEqDiff, Option.bind_some, ao_let, n_ell, hs]
      try simp (disch := first | omega | assumption) only [↓reduceIte, Nat.reduceEqDiff, Option.bind_some, ao_let, t_le, f_le, t_lt, f_lt, f_eq, u_eq, u_n1, u_n2, n_cl, n_lt, n_le, n_eq, n_ltl, n_llt, n_lel, n_lle, n_eql, n_leq, n_add, n_mul, n_sub, n_addl, n_ladd, n_mull, n_lmul, n_subl, Int32.reduceLT, Int32.reduceLE, Int32.reduceAdd, Int32.reduceSub, Int32.reduceMul, Int32.reduceToNatClampNeg, not_false_eq_true, not_true_eq_false, or_false, false_or, or_self, and_self, false_and, true_and, and_false, and_true, true_or, or_true, Nat.reduceAdd, Nat.reduceMul, Nat.reduceLT, Nat.reduceLeDiff, ne_eq, n_ell, hs]
      exact hv_some rfl
    by_cases c2 : n = 20000
    · subst c2
      refine hv_up (fun _ => fX10_round.eq_2 ..) ?_
      try simp only [↓reduceIte, Nat.reduceEqDiff, Option.bind_some, ao_let, n_ell, hc, p1]
      try simp (disch := first | omega | assumption) only [↓reduceIte, Nat.reduceEqDiff, Option.bind_some, ao_let, t_le, f_le, t_lt, f_lt, f_eq, u_eq, u_n1, u_n2, n_cl, n_lt, n_le, n_eq, n_ltl, n_llt, n_lel, n_lle, n_eql, n_leq, n_add, n_mul, n_sub, n_addl, n_ladd, n_mull, n_lmul, n_subl, Int32.reduceLT, Int32.reduceLE, Int32.reduceAdd, Int32.reduceSub, Int32.reduceMul, Int32.reduceToNatClampNeg, not_false_eq_true, not_true_eq_false, or_false, false_or, or_self, and_self, false_and, true_and, and_false, and_true, true_or, or_true, Nat.reduceAdd, Nat.reduceMul, Nat.reduceLT, Nat.reduceLeDiff, ne_eq, n_ell, hc, p1]
      refine hv_some (done ?_)
      refine hv_up (fun _ => fX12_round.eq_2 ..) ?_
      try simp only [↓reduceIte, Nat.reduceEqDiff, Option.bind_some, ao_let, n_ell, hs, d65]
      try simp (disch := first | omega | assumption) only [↓reduceIte, Nat.reduceEqDiff, Option.bind_some, ao_let, t_le, f_le, t_lt, f_lt, f_eq, u_eq, u_n1, u_n2, n_cl, n_lt, n_le, n_eq, n_ltl, n_llt, n_lel, n_lle, n_eql, n_leq, n_add, n_mul, n_sub, n_addl, n_ladd, n_mull, n_lmul, n_subl, Int32.reduceLT, Int32.reduceLE, Int32.reduceAdd, Int32.reduceSub, Int32.reduceMul, Int32.reduceToNatClampNeg, not_false_eq_true, not_true_eq_false, or_false, false_or, or_self, and_self, false_and, true_and, and_false, and_true, true_or, or_true, Nat.reduceAdd, Nat.reduceMul, Nat.reduceLT, Nat.reduceLeDiff, ne_eq, n_ell, hs, d65]
      exact hv_some rfl
    have hL6 : lvs C ≤ 6 := Nat.le_trans List.countP_le_length (by simp)
    have hmod := n_mod6 (show i < 2147483648 by omega)
    have hmod' : nI (i % 6 + 1) - nI (i % 6 + 1) / 6 * 6 = nI ((i + 1) % 6) := by
      rw [n_mod6 (by omega)]
      congr 1
      omega
    have ht : i % 6 < 6 := Nat.mod_lt _ (by omega)
    have hR := RnS_of hb ht
    have h91 : ρ.1 91 (i % 6) = some (92 + 71 * (i % 6)) := by obtain ⟨a0, _⟩ := hb; exact a0 _ ht
    generalize hti : i % 6 = t at *
    -- the reference, to where it looks at thread t
    have d53 : ∀ {Q : Int32 × ao_S → Prop}, hv (fun a => fX12_round a 53 537 (nI N) (nI tn) (nI idle) (nI t) (nI (lvs C)) (nI 6) 0 0 0 D σ) Q → hv (fun a => fX12_round a 32 537 (nI N) (nI tn) (nI idle) (nI t) 0 0 0 0 0 D σ) Q := by
      intro Q hQ
      refine hv_up (fun _ => fX12_round.eq_2 ..) ?_
      try simp only [↓reduceIte, Nat.reduceEqDiff, Option.bind_some, ao_let, n_ell, hs, d65]
      try simp (disch := first | omega | assumption) only [↓reduceIte, Nat.reduceEqDiff, Option.bind_some, ao_let, t_le, f_le, t_lt, f_lt, f_eq, u_eq, u_n1, u_n2, n_cl, n_lt, n_le, n_eq, n_ltl, n_llt, n_lel, n_lle, n_eql, n_leq, n_add, n_mul, n_sub, n_addl, n_ladd, n_mull, n_lmul, n_subl, Int32.reduceLT, Int32.reduceLE, Int32.reduceAdd, Int32.reduceSub, Int32.reduceMul, Int32.reduceToNatClampNeg, not_false_eq_true, not_true_eq_false, or_false, false_or, or_self, and_self, false_and, true_and, and_false, and_true, true_or, or_true, Nat.reduceAdd, Nat.reduceMul, Nat.reduceLT, Nat.reduceLeDiff, ne_eq, n_ell, hs, d65]
      refine d_liveL hs he 6 0 0 rfl ?_
      rw [Nat.zero_add]
      exact hQ
    refine hv_up (fun _ => fX10_round.eq_2 ..) ?_
    try simp only [↓reduceIte, Nat.reduceEqDiff, Option.bind_some, ao_let, n_ell, hc, p1]
    try simp (disch := first | omega | assumption) only [↓reduceIte, Nat.reduceEqDiff, Option.bind_some, ao_let, t_le, f_le, t_lt, f_lt, f_eq, u_eq, u_n1, u_n2, n_cl, n_lt, n_le, n_eq, n_ltl, n_llt, n_lel, n_lle, n_eql, n_leq, n_add, n_mul, n_sub, n_addl, n_ladd, n_mull, n_lmul, n_subl, Int32.reduceLT, Int32.reduceLE, Int32.reduceAdd, Int32.reduceSub, Int32.reduceMul, Int32.reduceToNatClampNeg, not_false_eq_true, not_true_eq_false, or_false, false_or, or_self, and_self, false_and, true_and, and_false, and_true, true_or, or_true, Nat.reduceAdd, Nat.reduceMul, Nat.reduceLT, Nat.reduceLeDiff, ne_eq, n_ell, hc, p1]
    refine hv_bind (P := fun y => y = (nI (lvs C), C)) (c_lvs hc hb rfl) ?_
    rintro _ rfl
    by_cases c3 : idle < lvs C
    · try simp only [↓reduceIte, Nat.reduceEqDiff, Option.bind_some, ao_let, n_ell, c3, hmod, h91, hR]
      try simp (disch := first | omega | assumption) only [↓reduceIte, Nat.reduceEqDiff, Option.bind_some, ao_let, t_le, f_le, t_lt, f_lt, f_eq, u_eq, u_n1, u_n2, n_cl, n_lt, n_le, n_eq, n_ltl, n_llt, n_lel, n_lle, n_eql, n_leq, n_add, n_mul, n_sub, n_addl, n_ladd, n_mull, n_lmul, n_subl, Int32.reduceLT, Int32.reduceLE, Int32.reduceAdd, Int32.reduceSub, Int32.reduceMul, Int32.reduceToNatClampNeg, not_false_eq_true, not_true_eq_false, or_false, false_or, or_self, and_self, false_and, true_and, and_false, and_true, true_or, or_true, Nat.reduceAdd, Nat.reduceMul, Nat.reduceLT, Nat.reduceLeDiff, ne_eq, n_ell, c3, hmod, h91, hR]
      -- the reference looks at thread t
      have dt : ∀ {Q : Int32 × ao_S → Prop}, (liv C t → hv (fun a => (gX12_takeTurn a 537 (nI t) D σ).bind fun p15 => fX12_round a 106 537 (nI N) (nI tn) (nI idle) (nI t) (nI (lvs C)) (nI 6) 0 p15.1 0 p15.2.1 p15.2.2) Q) → (¬ liv C t → hv (fun a => fX12_round a 32 537 (nI N) (nI tn) (nI idle) (nI ((i + 1) % 6)) 0 0 0 0 0 D σ) Q) → hv (fun a => fX12_round a 32 537 (nI N) (nI tn) (nI idle) (nI t) 0 0 0 0 0 D σ) Q := by
        intro Q q1 q0
        refine d53 ?_
        have z0 : (nI (lvs C) = 0) = False := eq_false (fun e => by
          have := (n_eql (a := lvs C) (b := 0) (by omega) (by decide)).mp e
          have : lvs C = 0 := this
          omega)
        refine hv_up (fun _ => fX12_round.eq_2 ..) ?_
        try simp only [↓reduceIte, Nat.reduceEqDiff, Option.bind_some, ao_let, n_ell, hs, z0, c3]
        try simp (disch := first | omega | assumption) only [↓reduceIte, Nat.reduceEqDiff, Option.bind_some, ao_let, t_le, f_le, t_lt, f_lt, f_eq, u_eq, u_n1, u_n2, n_cl, n_lt, n_le, n_eq, n_ltl, n_llt, n_lel, n_lle, n_eql, n_leq, n_add, n_mul, n_sub, n_addl, n_ladd, n_mull, n_lmul, n_subl, Int32.reduceLT, Int32.reduceLE, Int32.reduceAdd, Int32.reduceSub, Int32.reduceMul, Int32.reduceToNatClampNeg, not_false_eq_true, not_true_eq_false, or_false, false_or, or_self, and_self, false_and, true_and, and_false, and_true, true_or, or_true, Nat.reduceAdd, Nat.reduceMul, Nat.reduceLT, Nat.reduceLeDiff, ne_eq, n_ell, hs, z0, c3]
        refine hv_bind (d_live (C := C) (Q := fun y => y = (1, D) ∧ liv C t ∨ y = (0, D) ∧ ¬ liv C t) hs ht (he t ht) (fun q => Or.inl ⟨rfl, q⟩) (fun q => Or.inr ⟨rfl, q⟩)) ?_
        rintro _ (⟨rfl, e⟩ | ⟨rfl, e⟩)
        · simp only [show ((1 : Int32) = 0) = False from by decide, ↓reduceIte]
          exact q1 e
        · simp only [↓reduceIte]
          refine hv_up (fun _ => fX12_round.eq_2 ..) ?_
          try simp only [↓reduceIte, Nat.reduceEqDiff, Option.bind_some, ao_let, n_ell, hmod']
          try simp (disch := first | omega | assumption) only [↓reduceIte, Nat.reduceEqDiff, Option.bind_some, ao_let, t_le, f_le, t_lt, f_lt, f_eq, u_eq, u_n1, u_n2, n_cl, n_lt, n_le, n_eq, n_ltl, n_llt, n_lel, n_lle, n_eql, n_leq, n_add, n_mul, n_sub, n_addl, n_ladd, n_mull, n_lmul, n_subl, Int32.reduceLT, Int32.reduceLE, Int32.reduceAdd, Int32.reduceSub, Int32.reduceMul, Int32.reduceToNatClampNeg, not_false_eq_true, not_true_eq_false, or_false, false_or, or_self, and_self, false_and, true_and, and_false, and_true, true_or, or_true, Nat.reduceAdd, Nat.reduceMul, Nat.reduceLT, Nat.reduceLeDiff, ne_eq, n_ell, hmod']
          exact q0 e
      refine hv_bind (c_left (Q := fun y => y = (1, C) ∧ liv C t ∨ y = (0, C) ∧ ¬ liv C t) hb ht (fun q => Or.inl ⟨rfl, q⟩) (fun q => Or.inr ⟨rfl, q⟩)) ?_
      rintro _ (⟨rfl, e⟩ | ⟨rfl, e⟩)
      · -- a turn
        simp only [show ((1 : Int32) = 0) = False from by decide, ↓reduceIte]
        refine hv_bind (PT_turn hP hm (by omega) (by omega) ht) ?_
        rintro ⟨y1, C1, ρ1⟩ ⟨hO1, hw⟩
        obtain ⟨⟨w1, D1, σ1⟩, ⟨e1, e65, hP1⟩, rw1⟩ := hv_ex hw
        dsimp only at e1 e65 hP1
        subst e1
        have f14 : ShD σ1 := by
          obtain ⟨kp, rc, ⟨-, F⟩, -⟩ := hP1
          exact F.1.2.2.2
        rw [show br + 11 * tn + 11 = br + 11 * (tn + 1) by omega] at hP1
        -- both go on with idle'
        have go : ∀ idle', idle' ≤ tn + 1 → (∀ {Q : (Int32 ⊕ String) × ao_S → Prop}, hv (fun a => fX10_round a 126 0 (nI N) (nI (tn + 1)) (nI idle) (nI i) (92 + 71 * t) y1 (nI idle') C1 ρ1) Q → hv (fun a => fX10_round a 102 0 (nI N) (nI tn) (nI idle) (nI i) (92 + 71 * t) 0 y1 C1 ρ1) Q) → (∀ {Q : Int32 × ao_S → Prop}, hv (fun a => fX12_round a 140 537 (nI N) (nI (tn + 1)) (nI idle) (nI t) (nI (lvs C)) y1 0 (nI idle') 0 (ao_u D1 537 65 (nI (n + 1))) σ1) Q → hv (fun a => fX12_round a 106 537 (nI N) (nI tn) (nI idle) (nI t) (nI (lvs C)) (nI 6) 0 y1 0 D1 σ1) Q) → hv (fun a => fX10_round a 102 0 (nI N) (nI tn) (nI idle) (nI i) (92 + 71 * t) 0 y1 C1 ρ1) (fun y => hv (fun a => fX12_round a 32 537 (nI N) (nI tn) (nI idle) (nI t) 0 0 0 0 0 D σ) (fun w => RnP m N br B1 B2 E1 E2 y w)) := by
          intro idle' hi' cg dg
          refine cg ?_
          refine hv_up (fun _ => fX10_round.eq_2 ..) ?_
          try simp only [↓reduceIte, Nat.reduceEqDiff, Option.bind_some, ao_let, n_ell]
          try simp (disch := first | omega | assumption) only [↓reduceIte, Nat.reduceEqDiff, Option.bind_some, ao_let, t_le, f_le, t_lt, f_lt, f_eq, u_eq, u_n1, u_n2, n_cl, n_lt, n_le, n_eq, n_ltl, n_llt, n_lel, n_lle, n_eql, n_leq, n_add, n_mul, n_sub, n_addl, n_ladd, n_mull, n_lmul, n_subl, Int32.reduceLT, Int32.reduceLE, Int32.reduceAdd, Int32.reduceSub, Int32.reduceMul, Int32.reduceToNatClampNeg, not_false_eq_true, not_true_eq_false, or_false, false_or, or_self, and_self, false_and, true_and, and_false, and_true, true_or, or_true, Nat.reduceAdd, Nat.reduceMul, Nat.reduceLT, Nat.reduceLeDiff, ne_eq, n_ell]
          refine hv_up (fun _ => fX10_round.eq_2 ..) ?_
          try simp only [↓reduceIte, Nat.reduceEqDiff, Option.bind_some, ao_let, n_ell]
          try simp (disch := first | omega | assumption) only [↓reduceIte, Nat.reduceEqDiff, Option.bind_some, ao_let, t_le, f_le, t_lt, f_lt, f_eq, u_eq, u_n1, u_n2, n_cl, n_lt, n_le, n_eq, n_ltl, n_llt, n_lel, n_lle, n_eql, n_leq, n_add, n_mul, n_sub, n_addl, n_ladd, n_mull, n_lmul, n_subl, Int32.reduceLT, Int32.reduceLE, Int32.reduceAdd, Int32.reduceSub, Int32.reduceMul, Int32.reduceToNatClampNeg, not_false_eq_true, not_true_eq_false, or_false, false_or, or_self, and_self, false_and, true_and, and_false, and_true, true_or, or_true, Nat.reduceAdd, Nat.reduceMul, Nat.reduceLT, Nat.reduceLeDiff, ne_eq, n_ell]
          refine hv_mono (ih (i + 1) (tn + 1) idle' 0 (n + 1) C1 ρ1 _ _ (by omega) (by omega) (by omega) (by omega) (fun j q1 q2 => by omega) hi' (by omega) hP1) ?_
          intro y hy
          refine dt (fun _ => ?_) (fun q => absurd e q)
          refine hv_bind (rw1 (fun z => z = (y1, D1, σ1)) rfl) ?_
          rintro _ rfl
          refine dg ?_
          refine hv_up (fun _ => fX12_round.eq_2 ..) ?_
          try simp only [↓reduceIte, Nat.reduceEqDiff, Option.bind_some, ao_let, n_ell]
          try simp (disch := first | omega | assumption) only [↓reduceIte, Nat.reduceEqDiff, Option.bind_some, ao_let, t_le, f_le, t_lt, f_lt, f_eq, u_eq, u_n1, u_n2, n_cl, n_lt, n_le, n_eq, n_ltl, n_llt, n_lel, n_lle, n_eql, n_leq, n_add, n_mul, n_sub, n_addl, n_ladd, n_mull, n_lmul, n_subl, Int32.reduceLT, Int32.reduceLE, Int32.reduceAdd, Int32.reduceSub, Int32.reduceMul, Int32.reduceToNatClampNeg, not_false_eq_true, not_true_eq_false, or_false, false_or, or_self, and_self, false_and, true_and, and_false, and_true, true_or, or_true, Nat.reduceAdd, Nat.reduceMul, Nat.reduceLT, Nat.reduceLeDiff, ne_eq, n_ell]
          refine hv_up (fun _ => fX12_round.eq_2 ..) ?_
          try simp only [↓reduceIte, Nat.reduceEqDiff, Option.bind_some, ao_let, n_ell, hmod']
          try simp (disch := first | omega | assumption) only [↓reduceIte, Nat.reduceEqDiff, Option.bind_some, ao_let, t_le, f_le, t_lt, f_lt, f_eq, u_eq, u_n1, u_n2, n_cl, n_lt, n_le, n_eq, n_ltl, n_llt, n_lel, n_lle, n_eql, n_leq, n_add, n_mul, n_sub, n_addl, n_ladd, n_mull, n_lmul, n_subl, Int32.reduceLT, Int32.reduceLE, Int32.reduceAdd, Int32.reduceSub, Int32.reduceMul, Int32.reduceToNatClampNeg, not_false_eq_true, not_true_eq_false, or_false, false_or, or_self, and_self, false_and, true_and, and_false, and_true, true_or, or_true, Nat.reduceAdd, Nat.reduceMul, Nat.reduceLT, Nat.reduceLeDiff, ne_eq, n_ell, hmod']
          exact hy
        by_cases y3 : y1 = 3
        · refine go (idle + 1) (by omega) (fun {Q} hQ => ?_) (fun {Q} hQ => ?_)
          · refine hv_up (fun _ => fX10_round.eq_2 ..) ?_
            simp only [Nat.reduceEqDiff, ↓reduceIte, ao_let, n_addl, if_pos y3]
            refine hv_up (fun _ => fX10_round.eq_2 ..) ?_
            try simp only [↓reduceIte, Nat.reduceEqDiff, Option.bind_some, ao_let, n_ell]
            try simp (disch := first | omega | assumption) only [↓reduceIte, Nat.reduceEqDiff, Option.bind_some, ao_let, t_le, f_le, t_lt, f_lt, f_eq, u_eq, u_n1, u_n2, n_cl, n_lt, n_le, n_eq, n_ltl, n_llt, n_lel, n_lle, n_eql, n_leq, n_add, n_mul, n_sub, n_addl, n_ladd, n_mull, n_lmul, n_subl, Int32.reduceLT, Int32.reduceLE, Int32.reduceAdd, Int32.reduceSub, Int32.reduceMul, Int32.reduceToNatClampNeg, not_false_eq_true, not_true_eq_false, or_false, false_or, or_self, and_self, false_and, true_and, and_false, and_true, true_or, or_true, Nat.reduceAdd, Nat.reduceMul, Nat.reduceLT, Nat.reduceLeDiff, ne_eq, n_ell]
            exact hQ
          · refine hv_up (fun _ => fX12_round.eq_2 ..) ?_
            simp only [Nat.reduceEqDiff, ↓reduceIte, ao_let, n_addl, if_pos y3, f14, e65]
            refine hv_up (fun _ => fX12_round.eq_2 ..) ?_
            try simp only [↓reduceIte, Nat.reduceEqDiff, Option.bind_some, ao_let, n_ell]
            try simp (disch := first | omega | assumption) only [↓reduceIte, Nat.reduceEqDiff, Option.bind_some, ao_let, t_le, f_le, t_lt, f_lt, f_eq, u_eq, u_n1, u_n2, n_cl, n_lt, n_le, n_eq, n_ltl, n_llt, n_lel, n_lle, n_eql, n_leq, n_add, n_mul, n_sub, n_addl, n_ladd, n_mull, n_lmul, n_subl, Int32.reduceLT, Int32.reduceLE, Int32.reduceAdd, Int32.reduceSub, Int32.reduceMul, Int32.reduceToNatClampNeg, not_false_eq_true, not_true_eq_false, or_false, false_or, or_self, and_self, false_and, true_and, and_false, and_true, true_or, or_true, Nat.reduceAdd, Nat.reduceMul, Nat.reduceLT, Nat.reduceLeDiff, ne_eq, n_ell]
            exact hQ
        · by_cases y4 : y1 = 4
          · refine go (idle + 1) (by omega) (fun {Q} hQ => ?_) (fun {Q} hQ => ?_)
            · refine hv_up (fun _ => fX10_round.eq_2 ..) ?_
              simp only [Nat.reduceEqDiff, ↓reduceIte, ao_let, n_addl, if_neg y3, if_pos y4]
              refine hv_up (fun _ => fX10_round.eq_2 ..) ?_
              try simp only [↓reduceIte, Nat.reduceEqDiff, Option.bind_some, ao_let, n_ell]
              try simp (disch := first | omega | assumption) only [↓reduceIte, Nat.reduceEqDiff, Option.bind_some, ao_let, t_le, f_le, t_lt, f_lt, f_eq, u_eq, u_n1, u_n2, n_cl, n_lt, n_le, n_eq, n_ltl, n_llt, n_lel, n_lle, n_eql, n_leq, n_add, n_mul, n_sub, n_addl, n_ladd, n_mull, n_lmul, n_subl, Int32.reduceLT, Int32.reduceLE, Int32.reduceAdd, Int32.reduceSub, Int32.reduceMul, Int32.reduceToNatClampNeg, not_false_eq_true, not_true_eq_false, or_false, false_or, or_self, and_self, false_and, true_and, and_false, and_true, true_or, or_true, Nat.reduceAdd, Nat.reduceMul, Nat.reduceLT, Nat.reduceLeDiff, ne_eq, n_ell]
              exact hQ
            · refine hv_up (fun _ => fX12_round.eq_2 ..) ?_
              simp only [Nat.reduceEqDiff, ↓reduceIte, ao_let, n_addl, if_neg y3, if_pos y4, f14, e65]
              refine hv_up (fun _ => fX12_round.eq_2 ..) ?_
              try simp only [↓reduceIte, Nat.reduceEqDiff, Option.bind_some, ao_let, n_ell]
              try simp (disch := first | omega | assumption) only [↓reduceIte, Nat.reduceEqDiff, Option.bind_some, ao_let, t_le, f_le, t_lt, f_lt, f_eq, u_eq, u_n1, u_n2, n_cl, n_lt, n_le, n_eq, n_ltl, n_llt, n_lel, n_lle, n_eql, n_leq, n_add, n_mul, n_sub, n_addl, n_ladd, n_mull, n_lmul, n_subl, Int32.reduceLT, Int32.reduceLE, Int32.reduceAdd, Int32.reduceSub, Int32.reduceMul, Int32.reduceToNatClampNeg, not_false_eq_true, not_true_eq_false, or_false, false_or, or_self, and_self, false_and, true_and, and_false, and_true, true_or, or_true, Nat.reduceAdd, Nat.reduceMul, Nat.reduceLT, Nat.reduceLeDiff, ne_eq, n_ell]
              exact hQ
          · refine go 0 (by omega) (fun {Q} hQ => ?_) (fun {Q} hQ => ?_)
            · refine hv_up (fun _ => fX10_round.eq_2 ..) ?_
              simp only [Nat.reduceEqDiff, ↓reduceIte, ao_let, n_addl, if_neg y3, if_neg y4]
              exact hQ
            · refine hv_up (fun _ => fX12_round.eq_2 ..) ?_
              simp only [Nat.reduceEqDiff, ↓reduceIte, ao_let, n_addl, if_neg y3, if_neg y4, f14, e65]
              exact hQ
      · -- none
        simp only [↓reduceIte]
        have g5 : g + 1 ≤ 5 := by
          by_cases q : g = 5
          · exfalso
            obtain ⟨u, q1, q2⟩ := List.countP_pos_iff.mp (show 0 < lvs C by omega)
            rw [List.mem_range'_1] at q1
            have q2' : liv C u := by simpa using q2
            by_cases z : u = t
            · exact e (z ▸ q2')
            · refine h5 ((i + 6 - u) % 6) (by omega) (by omega) ?_
              rw [show (i + 6 - (i + 6 - u) % 6) % 6 = u by omega]
              exact q2'
          · omega
        refine hv_up (fun _ => fX10_round.eq_2 ..) ?_
        try simp only [↓reduceIte, Nat.reduceEqDiff, Option.bind_some, ao_let, n_ell]
        try simp (disch := first | omega | assumption) only [↓reduceIte, Nat.reduceEqDiff, Option.bind_some, ao_let, t_le, f_le, t_lt, f_lt, f_eq, u_eq, u_n1, u_n2, n_cl, n_lt, n_le, n_eq, n_ltl, n_llt, n_lel, n_lle, n_eql, n_leq, n_add, n_mul, n_sub, n_addl, n_ladd, n_mull, n_lmul, n_subl, Int32.reduceLT, Int32.reduceLE, Int32.reduceAdd, Int32.reduceSub, Int32.reduceMul, Int32.reduceToNatClampNeg, not_false_eq_true, not_true_eq_false, or_false, false_or, or_self, and_self, false_and, true_and, and_false, and_true, true_or, or_true, Nat.reduceAdd, Nat.reduceMul, Nat.reduceLT, Nat.reduceLeDiff, ne_eq, n_ell]
        refine hv_mono (ih (i + 1) tn idle (g + 1) n C ρ D σ (by omega) h2 (by omega) g5 (fun j q1 q2 => ?_) h6 h7 hP) ?_
        · by_cases z : j = 1
          · subst z
            rw [show (i + 1 + 6 - 1) % 6 = t by omega]
            exact e
          · have := h5 (j - 1) (by omega) (by omega)
            rw [show (i + 6 - (j - 1)) % 6 = (i + 1 + 6 - j) % 6 by omega] at this
            exact this
        · intro y hy
          exact dt (fun q => absurd q e) (fun _ => hy)
    · try simp only [↓reduceIte, Nat.reduceEqDiff, Option.bind_some, ao_let, n_ell, c3]
      try simp (disch := first | omega | assumption) only [↓reduceIte, Nat.reduceEqDiff, Option.bind_some, ao_let, t_le, f_le, t_lt, f_lt, f_eq, u_eq, u_n1, u_n2, n_cl, n_lt, n_le, n_eq, n_ltl, n_llt, n_lel, n_lle, n_eql, n_leq, n_add, n_mul, n_sub, n_addl, n_ladd, n_mull, n_lmul, n_subl, Int32.reduceLT, Int32.reduceLE, Int32.reduceAdd, Int32.reduceSub, Int32.reduceMul, Int32.reduceToNatClampNeg, not_false_eq_true, not_true_eq_false, or_false, false_or, or_self, and_self, false_and, true_and, and_false, and_true, true_or, or_true, Nat.reduceAdd, Nat.reduceMul, Nat.reduceLT, Nat.reduceLeDiff, ne_eq, n_ell, c3]
      refine hv_some ?_
      refine hv_mono (d53 ?_) (fun w (hw : w = (nI tn, D, σ)) => by subst hw; exact ⟨tn, n, h2, rfl, rfl, hP⟩)
      by_cases z : lvs C = 0
      · rw [z]
        refine hv_up (fun _ => fX12_round.eq_2 ..) ?_
        try simp only [↓reduceIte, Nat.reduceEqDiff, Option.bind_some, ao_let, n_ell, hs]
        try simp (disch := first | omega | assumption) only [↓reduceIte, Nat.reduceEqDiff, Option.bind_some, ao_let, t_le, f_le, t_lt, f_lt, f_eq, u_eq, u_n1, u_n2, n_cl, n_lt, n_le, n_eq, n_ltl, n_llt, n_lel, n_lle, n_eql, n_leq, n_add, n_mul, n_sub, n_addl, n_ladd, n_mull, n_lmul, n_subl, Int32.reduceLT, Int32.reduceLE, Int32.reduceAdd, Int32.reduceSub, Int32.reduceMul, Int32.reduceToNatClampNeg, not_false_eq_true, not_true_eq_false, or_false, false_or, or_self, and_self, false_and, true_and, and_false, and_true, true_or, or_true, Nat.reduceAdd, Nat.reduceMul, Nat.reduceLT, Nat.reduceLeDiff, ne_eq, n_ell, hs]
        exact hv_some rfl
      · have z0 : (nI (lvs C) = 0) = False := eq_false (fun e => z ((n_eql (a := lvs C) (b := 0) (by omega) (by decide)).mp e))
        refine hv_up (fun _ => fX12_round.eq_2 ..) ?_
        try simp only [↓reduceIte, Nat.reduceEqDiff, Option.bind_some, ao_let, n_ell, hs, z0, c3]
        try simp (disch := first | omega | assumption) only [↓reduceIte, Nat.reduceEqDiff, Option.bind_some, ao_let, t_le, f_le, t_lt, f_lt, f_eq, u_eq, u_n1, u_n2, n_cl, n_lt, n_le, n_eq, n_ltl, n_llt, n_lel, n_lle, n_eql, n_leq, n_add, n_mul, n_sub, n_addl, n_ladd, n_mull, n_lmul, n_subl, Int32.reduceLT, Int32.reduceLE, Int32.reduceAdd, Int32.reduceSub, Int32.reduceMul, Int32.reduceToNatClampNeg, not_false_eq_true, not_true_eq_false, or_false, false_or, or_self, and_self, false_and, true_and, and_false, and_true, true_or, or_true, Nat.reduceAdd, Nat.reduceMul, Nat.reduceLT, Nat.reduceLeDiff, ne_eq, n_ell, hs, z0, c3]
        exact hv_some rfl
set_option maxHeartbeats 8000000 in
theorem PR_round (h : PR m B1 B2 E1 E2 C ρ D σ) (hm : m + 1 ≤ 512) (x : Int32) : hv (fun n => gL_round n 0 x 598 C ρ) (fun y => hv (fun n => gX12_round n 537 x D σ) (fun w => CR m B1 B2 E1 E2 y w.1 w.2.1 w.2.2)) := by
  obtain ⟨⟨hc, hb, hg, hs, hO⟩, -⟩ := PR_C h
  obtain ⟨n, hn, n1, n2, hPT⟩ := PR_PT h
  rcases pl_of x 2001 (by omega) with ⟨N, hN, rfl⟩ | hx
  · have hl := rnd_loop (N := N) (br := 22000 * m) (m := m) (B1 := B1) (B2 := B2) (E1 := E1) (E2 := E2) (by omega) (by omega) (by omega) (6 * (N + 1)) 0 0 0 0 n C ρ (ao_u D 537 0 0) σ (by omega) (by omega) (by omega) (by omega) (fun j q1 q2 => by omega) (by omega) hn hPT
    unfold gL_round
    refine hv_up (fun _ => fL_round.eq_2 ..) ?_
    try simp only [↓reduceIte, Nat.reduceEqDiff, Option.bind_some, ao_let, n_ell, hc]
    try simp (disch := first | omega | assumption) only [↓reduceIte, Nat.reduceEqDiff, Option.bind_some, ao_let, t_le, f_le, t_lt, f_lt, f_eq, u_eq, u_n1, u_n2, n_cl, n_lt, n_le, n_eq, n_ltl, n_llt, n_lel, n_lle, n_eql, n_leq, n_add, n_mul, n_sub, n_addl, n_ladd, n_mull, n_lmul, n_subl, Int32.reduceLT, Int32.reduceLE, Int32.reduceAdd, Int32.reduceSub, Int32.reduceMul, Int32.reduceToNatClampNeg, not_false_eq_true, not_true_eq_false, or_false, false_or, or_self, and_self, false_and, true_and, and_false, and_true, true_or, or_true, Nat.reduceAdd, Nat.reduceMul, Nat.reduceLT, Nat.reduceLeDiff, ne_eq, n_ell, hc]
    refine hv_bind (P := fun u => ∃ k C1 ρ1, u = (.inl (nI k), C1, ρ1) ∧ hv (fun a => fX12_round a 32 537 (nI N) 0 0 0 0 0 0 0 0 (ao_u D 537 0 0) σ) (fun w => RnP m N (22000 * m) B1 B2 E1 E2 (.inl (nI k), C1, ρ1) w)) ?_ ?_
    · unfold gX10_round
      refine hv_up (fun _ => fX10_round.eq_2 ..) ?_
      try simp only [↓reduceIte, Nat.reduceEqDiff, Option.bind_some, ao_let, n_ell]
      try simp (disch := first | omega | assumption) only [↓reduceIte, Nat.reduceEqDiff, Option.bind_some, ao_let, t_le, f_le, t_lt, f_lt, f_eq, u_eq, u_n1, u_n2, n_cl, n_lt, n_le, n_eq, n_ltl, n_llt, n_lel, n_lle, n_eql, n_leq, n_add, n_mul, n_sub, n_addl, n_ladd, n_mull, n_lmul, n_subl, Int32.reduceLT, Int32.reduceLE, Int32.reduceAdd, Int32.reduceSub, Int32.reduceMul, Int32.reduceToNatClampNeg, not_false_eq_true, not_true_eq_false, or_false, false_or, or_self, and_self, false_and, true_and, and_false, and_true, true_or, or_true, Nat.reduceAdd, Nat.reduceMul, Nat.reduceLT, Nat.reduceLeDiff, ne_eq, n_ell]
      refine hv_mono hl ?_
      rintro ⟨y1, C1, ρ1⟩ hy
      obtain ⟨w, ⟨k, n', q1, q2, q3, q4⟩, -⟩ := hv_ex hy
      dsimp only at q2
      subst q2
      exact ⟨k, C1, ρ1, rfl, hy⟩
    rintro _ ⟨k, C1, ρ1, rfl, hy⟩
    have hO1 : ShO ρ1 := by
      obtain ⟨w, ⟨k, n', q1, q2, q3, ⟨-, -, -, -, -, q4⟩⟩, -⟩ := hv_ex hy
      exact q4
    simp only [ao_cs]
    refine hv_up (fun _ => fL_round.eq_2 ..) ?_
    try simp only [↓reduceIte, Nat.reduceEqDiff, Option.bind_some, ao_let, n_ell, hO1]
    try simp (disch := first | omega | assumption) only [↓reduceIte, Nat.reduceEqDiff, Option.bind_some, ao_let, t_le, f_le, t_lt, f_lt, f_eq, u_eq, u_n1, u_n2, n_cl, n_lt, n_le, n_eq, n_ltl, n_llt, n_lel, n_lle, n_eql, n_leq, n_add, n_mul, n_sub, n_addl, n_ladd, n_mull, n_lmul, n_subl, Int32.reduceLT, Int32.reduceLE, Int32.reduceAdd, Int32.reduceSub, Int32.reduceMul, Int32.reduceToNatClampNeg, not_false_eq_true, not_true_eq_false, or_false, false_or, or_self, and_self, false_and, true_and, and_false, and_true, true_or, or_true, Nat.reduceAdd, Nat.reduceMul, Nat.reduceLT, Nat.reduceLeDiff, ne_eq, n_ell, hO1]
    refine hv_some ?_
    unfold gX12_round
    refine hv_up (fun _ => fX12_round.eq_2 ..) ?_
    try simp only [↓reduceIte, Nat.reduceEqDiff, Option.bind_some, ao_let, n_ell, hs]
    try simp (disch := first | omega | assumption) only [↓reduceIte, Nat.reduceEqDiff, Option.bind_some, ao_let, t_le, f_le, t_lt, f_lt, f_eq, u_eq, u_n1, u_n2, n_cl, n_lt, n_le, n_eq, n_ltl, n_llt, n_lel, n_lle, n_eql, n_leq, n_add, n_mul, n_sub, n_addl, n_ladd, n_mull, n_lmul, n_subl, Int32.reduceLT, Int32.reduceLE, Int32.reduceAdd, Int32.reduceSub, Int32.reduceMul, Int32.reduceToNatClampNeg, not_false_eq_true, not_true_eq_false, or_false, false_or, or_self, and_self, false_and, true_and, and_false, and_true, true_or, or_true, Nat.reduceAdd, Nat.reduceMul, Nat.reduceLT, Nat.reduceLeDiff, ne_eq, n_ell, hs]
    refine hv_up (fun _ => fX12_round.eq_2 ..) ?_
    try simp only [↓reduceIte, Nat.reduceEqDiff, Option.bind_some, ao_let, n_ell, hs, gX12_fails]
    try simp (disch := first | omega | assumption) only [↓reduceIte, Nat.reduceEqDiff, Option.bind_some, ao_let, t_le, f_le, t_lt, f_lt, f_eq, u_eq, u_n1, u_n2, n_cl, n_lt, n_le, n_eq, n_ltl, n_llt, n_lel, n_lle, n_eql, n_leq, n_add, n_mul, n_sub, n_addl, n_ladd, n_mull, n_lmul, n_subl, Int32.reduceLT, Int32.reduceLE, Int32.reduceAdd, Int32.reduceSub, Int32.reduceMul, Int32.reduceToNatClampNeg, not_false_eq_true, not_true_eq_false, or_false, false_or, or_self, and_self, false_and, true_and, and_false, and_true, true_or, or_true, Nat.reduceAdd, Nat.reduceMul, Nat.reduceLT, Nat.reduceLeDiff, ne_eq, n_ell, hs, gX12_fails]
    refine hv_mono hy ?_
    rintro ⟨w1, D1, σ1⟩ ⟨k', n', q1, q2, q3, q4⟩
    dsimp only at q2 q3 q4
    subst q3
    have ek : nI k = nI k' := by injection q2
    obtain ⟨o1, o2⟩ := PT_out (v := nI k) q4 (by omega) hm
    exact ⟨o1, o2, fun _ => by rw [← ek]; dsimp only; exact u_eq⟩
  · have hth : hv (fun n => gX10_round n 0 x C ρ) (fun u => u = (.inr "java/lang/IllegalArgumentException", C, ao_th ρ)) := by
      rcases hx with hx | ⟨n, h1, h2, rfl⟩
      · unfold gX10_round
        refine hv_up (fun _ => fX10_round.eq_2 ..) ?_
        try simp only [↓reduceIte, Nat.reduceEqDiff, Option.bind_some, ao_let, n_ell, hc, hx]
        try simp (disch := first | omega | assumption) only [↓reduceIte, Nat.reduceEqDiff, Option.bind_some, ao_let, t_le, f_le, t_lt, f_lt, f_eq, u_eq, u_n1, u_n2, n_cl, n_lt, n_le, n_eq, n_ltl, n_llt, n_lel, n_lle, n_eql, n_leq, n_add, n_mul, n_sub, n_addl, n_ladd, n_mull, n_lmul, n_subl, Int32.reduceLT, Int32.reduceLE, Int32.reduceAdd, Int32.reduceSub, Int32.reduceMul, Int32.reduceToNatClampNeg, not_false_eq_true, not_true_eq_false, or_false, false_or, or_self, and_self, false_and, true_and, and_false, and_true, true_or, or_true, Nat.reduceAdd, Nat.reduceMul, Nat.reduceLT, Nat.reduceLeDiff, ne_eq, n_ell, hc, hx]
        refine hv_up (fun _ => fX10_round.eq_2 ..) ?_
        try simp only [↓reduceIte, Nat.reduceEqDiff, Option.bind_some, ao_let, n_ell]
        try simp (disch := first | omega | assumption) only [↓reduceIte, Nat.reduceEqDiff, Option.bind_some, ao_let, t_le, f_le, t_lt, f_lt, f_eq, u_eq, u_n1, u_n2, n_cl, n_lt, n_le, n_eq, n_ltl, n_llt, n_lel, n_lle, n_eql, n_leq, n_add, n_mul, n_sub, n_addl, n_ladd, n_mull, n_lmul, n_subl, Int32.reduceLT, Int32.reduceLE, Int32.reduceAdd, Int32.reduceSub, Int32.reduceMul, Int32.reduceToNatClampNeg, not_false_eq_true, not_true_eq_false, or_false, false_or, or_self, and_self, false_and, true_and, and_false, and_true, true_or, or_true, Nat.reduceAdd, Nat.reduceMul, Nat.reduceLT, Nat.reduceLeDiff, ne_eq, n_ell]
        exact hv_some rfl
      · unfold gX10_round
        refine hv_up (fun _ => fX10_round.eq_2 ..) ?_
        try simp only [↓reduceIte, Nat.reduceEqDiff, Option.bind_some, ao_let, n_ell, hc]
        try simp (disch := first | omega | assumption) only [↓reduceIte, Nat.reduceEqDiff, Option.bind_some, ao_let, t_le, f_le, t_lt, f_lt, f_eq, u_eq, u_n1, u_n2, n_cl, n_lt, n_le, n_eq, n_ltl, n_llt, n_lel, n_lle, n_eql, n_leq, n_add, n_mul, n_sub, n_addl, n_ladd, n_mull, n_lmul, n_subl, Int32.reduceLT, Int32.reduceLE, Int32.reduceAdd, Int32.reduceSub, Int32.reduceMul, Int32.reduceToNatClampNeg, not_false_eq_true, not_true_eq_false, or_false, false_or, or_self, and_self, false_and, true_and, and_false, and_true, true_or, or_true, Nat.reduceAdd, Nat.reduceMul, Nat.reduceLT, Nat.reduceLeDiff, ne_eq, n_ell, hc]
        refine hv_up (fun _ => fX10_round.eq_2 ..) ?_
        try simp only [↓reduceIte, Nat.reduceEqDiff, Option.bind_some, ao_let, n_ell]
        try simp (disch := first | omega | assumption) only [↓reduceIte, Nat.reduceEqDiff, Option.bind_some, ao_let, t_le, f_le, t_lt, f_lt, f_eq, u_eq, u_n1, u_n2, n_cl, n_lt, n_le, n_eq, n_ltl, n_llt, n_lel, n_lle, n_eql, n_leq, n_add, n_mul, n_sub, n_addl, n_ladd, n_mull, n_lmul, n_subl, Int32.reduceLT, Int32.reduceLE, Int32.reduceAdd, Int32.reduceSub, Int32.reduceMul, Int32.reduceToNatClampNeg, not_false_eq_true, not_true_eq_false, or_false, false_or, or_self, and_self, false_and, true_and, and_false, and_true, true_or, or_true, Nat.reduceAdd, Nat.reduceMul, Nat.reduceLT, Nat.reduceLeDiff, ne_eq, n_ell]
        exact hv_some rfl
    unfold gL_round
    refine hv_up (fun _ => fL_round.eq_2 ..) ?_
    try simp only [↓reduceIte, Nat.reduceEqDiff, Option.bind_some, ao_let, n_ell, hc]
    try simp (disch := first | omega | assumption) only [↓reduceIte, Nat.reduceEqDiff, Option.bind_some, ao_let, t_le, f_le, t_lt, f_lt, f_eq, u_eq, u_n1, u_n2, n_cl, n_lt, n_le, n_eq, n_ltl, n_llt, n_lel, n_lle, n_eql, n_leq, n_add, n_mul, n_sub, n_addl, n_ladd, n_mull, n_lmul, n_subl, Int32.reduceLT, Int32.reduceLE, Int32.reduceAdd, Int32.reduceSub, Int32.reduceMul, Int32.reduceToNatClampNeg, not_false_eq_true, not_true_eq_false, or_false, false_or, or_self, and_self, false_and, true_and, and_false, and_true, true_or, or_true, Nat.reduceAdd, Nat.reduceMul, Nat.reduceLT, Nat.reduceLeDiff, ne_eq, n_ell, hc]
    refine hv_bind hth ?_
    rintro _ rfl
    simp only [ao_cs, ↓reduceIte]
    refine hv_some ?_
    have h15 : hv (fun n => fX12_round n 12 537 x 0 0 0 0 0 537 0 0 D σ) (fun w => CR m B1 B2 E1 E2 (1, C, ao_th ρ) w.1 w.2.1 w.2.2) := by
      refine hv_up (fun _ => fX12_round.eq_2 ..) ?_
      try simp only [↓reduceIte, Nat.reduceEqDiff, Option.bind_some, ao_let, n_ell]
      try simp (disch := first | omega | assumption) only [↓reduceIte, Nat.reduceEqDiff, Option.bind_some, ao_let, t_le, f_le, t_lt, f_lt, f_eq, u_eq, u_n1, u_n2, n_cl, n_lt, n_le, n_eq, n_ltl, n_llt, n_lel, n_lle, n_eql, n_leq, n_add, n_mul, n_sub, n_addl, n_ladd, n_mull, n_lmul, n_subl, Int32.reduceLT, Int32.reduceLE, Int32.reduceAdd, Int32.reduceSub, Int32.reduceMul, Int32.reduceToNatClampNeg, not_false_eq_true, not_true_eq_false, or_false, false_or, or_self, and_self, false_and, true_and, and_false, and_true, true_or, or_true, Nat.reduceAdd, Nat.reduceMul, Nat.reduceLT, Nat.reduceLeDiff, ne_eq, n_ell]
      refine hv_up (fun _ => fX12_round.eq_2 ..) ?_
      try simp only [↓reduceIte, Nat.reduceEqDiff, Option.bind_some, ao_let, n_ell, hs, gX12_fails]
      try simp (disch := first | omega | assumption) only [↓reduceIte, Nat.reduceEqDiff, Option.bind_some, ao_let, t_le, f_le, t_lt, f_lt, f_eq, u_eq, u_n1, u_n2, n_cl, n_lt, n_le, n_eq, n_ltl, n_llt, n_lel, n_lle, n_eql, n_leq, n_add, n_mul, n_sub, n_addl, n_ladd, n_mull, n_lmul, n_subl, Int32.reduceLT, Int32.reduceLE, Int32.reduceAdd, Int32.reduceSub, Int32.reduceMul, Int32.reduceToNatClampNeg, not_false_eq_true, not_true_eq_false, or_false, false_or, or_self, and_self, false_and, true_and, and_false, and_true, true_or, or_true, Nat.reduceAdd, Nat.reduceMul, Nat.reduceLT, Nat.reduceLeDiff, ne_eq, n_ell, hs, gX12_fails]
      exact hv_some (PR_tell (w := (0, ao_u D 537 0 1)) h hm ⟨rfl, Or.inr ⟨(show (1 : Int32) ≠ 0 by decide), rfl, rfl⟩⟩)
    unfold gX12_round
    rcases hx with hx | ⟨n, h1, h2, rfl⟩
    · refine hv_up (fun _ => fX12_round.eq_2 ..) ?_
      try simp only [↓reduceIte, Nat.reduceEqDiff, Option.bind_some, ao_let, n_ell, hs, hx]
      try simp (disch := first | omega | assumption) only [↓reduceIte, Nat.reduceEqDiff, Option.bind_some, ao_let, t_le, f_le, t_lt, f_lt, f_eq, u_eq, u_n1, u_n2, n_cl, n_lt, n_le, n_eq, n_ltl, n_llt, n_lel, n_lle, n_eql, n_leq, n_add, n_mul, n_sub, n_addl, n_ladd, n_mull, n_lmul, n_subl, Int32.reduceLT, Int32.reduceLE, Int32.reduceAdd, Int32.reduceSub, Int32.reduceMul, Int32.reduceToNatClampNeg, not_false_eq_true, not_true_eq_false, or_false, false_or, or_self, and_self, false_and, true_and, and_false, and_true, true_or, or_true, Nat.reduceAdd, Nat.reduceMul, Nat.reduceLT, Nat.reduceLeDiff, ne_eq, n_ell, hs, hx]
      exact h15
    · refine hv_up (fun _ => fX12_round.eq_2 ..) ?_
      try simp only [↓reduceIte, Nat.reduceEqDiff, Option.bind_some, ao_let, n_ell, hs]
      try simp (disch := first | omega | assumption) only [↓reduceIte, Nat.reduceEqDiff, Option.bind_some, ao_let, t_le, f_le, t_lt, f_lt, f_eq, u_eq, u_n1, u_n2, n_cl, n_lt, n_le, n_eq, n_ltl, n_llt, n_lel, n_lle, n_eql, n_leq, n_add, n_mul, n_sub, n_addl, n_ladd, n_mull, n_lmul, n_subl, Int32.reduceLT, Int32.reduceLE, Int32.reduceAdd, Int32.reduceSub, Int32.reduceMul, Int32.reduceToNatClampNeg, not_false_eq_true, not_true_eq_false, or_false, false_or, or_self, and_self, false_and, true_and, and_false, and_true, true_or, or_true, Nat.reduceAdd, Nat.reduceMul, Nat.reduceLT, Nat.reduceLeDiff, ne_eq, n_ell, hs]
      exact h15
end Cc6
