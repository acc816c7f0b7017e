set_option linter.unusedSimpArgs false
set_option linter.unusedVariables false
/-! ===== a block ends: the parts ===== -/
/-- what holds of the rest of a run holds of the run -/
def adv {α : Type} (f g : Nat → Option α) : Prop := ∀ Q : α → Prop, hv g Q → hv f Q
theorem adv_rf {α : Type} {f : Nat → Option α} : adv f f := fun _ h => h
theorem adv_tr {α : Type} {f g h : Nat → Option α} (a : adv f g) (b : adv g h) : adv f h := fun Q x => a Q (b Q x)
/-- the reference's record of a block, from place p on -/
def rcF (k t p : Nat) (e : Bool) (D : ao_M) : ao_M := fun x i => if k * 26 + p ≤ i ∧ i < k * 26 + 26 then (if x = 592 then D 577 (t * 12 * 26 + (i - k * 26)) else if x = 590 then D 579 (t * 12 * 26 + (i - k * 26)) else if x = 593 then D 578 (t * 12 * 26 + (i - k * 26)) else if x = 591 then (if e = true then D 542 (i - k * 26) else D 582 (t * 12 * 26 + (i - k * 26))) else D x i) else D x i
theorem d_recL {σ : ao_H} {k t : Nat} {e : Bool} (hs : ShD σ) (ht : t < 6) (hk : k < 300) : ∀ (m p : Nat) (D : ao_M), p + m = 26 → decide (D 537 27 = 3 ∨ D 537 27 = 4) = e → (∀ q, q < 26 → (D 577 (t * 12 * 26 + q) = 0 ∨ D 577 (t * 12 * 26 + q) = 1) ∧ (D 578 (t * 12 * 26 + q) = 0 ∨ D 578 (t * 12 * 26 + q) = 1)) → adv (fun n => fX12_done n 14 537 (nI t) (nI k) (nI p) 0 0 0 0 D σ) (fun n => fX12_done n 127 537 (nI t) (nI k) 26 0 0 0 0 (rcF k t p e D) σ) := by
  intro m
  induction m with
  | zero =>
    intro p D h he hf Q hQ
    obtain rfl : p = 26 := by omega
    have : rcF k t 26 e D = D := by
      funext x i
      unfold rcF
      rw [if_neg (by omega)]
    rw [this] at hQ
    refine hv_up (fun _ => fX12_done.eq_2 ..) ?_
    try simp only [↓reduceIte, Nat.reduceEqDiff, Option.bind_some, ao_let, n_ell]
    try simp (disch := first | omega | assumption) only [↓reduceIte, Nat.reduceEqDiff, Option.bind_some, ao_let, t_le, f_le, t_lt, f_lt, f_eq, u_eq, u_n1, u_n2, n_cl, n_lt, n_le, n_eq, n_ltl, n_llt, n_lel, n_lle, n_eql, n_leq, n_add, n_mul, n_sub, n_addl, n_ladd, n_mull, n_lmul, n_subl, Int32.reduceLT, Int32.reduceLE, Int32.reduceAdd, Int32.reduceSub, Int32.reduceMul, Int32.reduceToNatClampNeg, not_false_eq_true, not_true_eq_false, or_false, false_or, or_self, and_self, false_and, true_and, and_false, and_true, true_or, or_true, Nat.reduceAdd, Nat.reduceMul, Nat.reduceLT, Nat.reduceLeDiff, ne_eq, n_ell]
    exact hQ
  | succ m ih =>
    intro p D h he hf Q hQ
    obtain ⟨hf1, hf2⟩ := hf p (by omega)
    have nx : ∀ (D' : ao_M), (∀ x i, x ≠ 590 → x ≠ 591 → x ≠ 592 → x ≠ 593 → D' x i = D x i) → rcF k t (p + 1) e D' = rcF k t p e D → hv (fun n => fX12_done n 14 537 (nI t) (nI k) (nI (p + 1)) 0 0 0 0 D' σ) Q := by
      intro D' hD' eq
      refine ih (p + 1) D' (by omega) (by rw [hD' _ _ (by omega) (by omega) (by omega) (by omega)]; exact he) (fun q hq => by rw [hD' 577 _ (by omega) (by omega) (by omega) (by omega), hD' 578 _ (by omega) (by omega) (by omega) (by omega)]; exact hf q hq) Q ?_
      rw [eq]; exact hQ
    have key : ∀ v : Int32, v = (if e = true then D 542 p else D 582 (t * 12 * 26 + p)) → hv (fun n => fX12_done n 14 537 (nI t) (nI k) (nI (p + 1)) 0 0 0 0 (ao_u (ao_u (ao_u (ao_u D 592 (k * 26 + p) (D 577 (t * 12 * 26 + p))) 590 (k * 26 + p) (D 579 (t * 12 * 26 + p))) 593 (k * 26 + p) (D 578 (t * 12 * 26 + p))) 591 (k * 26 + p) v) σ) Q := by
      intro v hv'
      refine nx _ (fun x i h1 h2 h3 h4 => by rw [u_n1 (by omega), u_n1 (by omega), u_n1 (by omega), u_n1 (by omega)]) ?_
      funext x i
      unfold rcF
      by_cases r1 : k * 26 + (p + 1) ≤ i ∧ i < k * 26 + 26
      · rw [if_pos r1, if_pos (show k * 26 + p ≤ i ∧ i < k * 26 + 26 by omega)]
        simp (disch := omega) only [u_ne]
      · rw [if_neg r1]
        by_cases r2 : i = k * 26 + p
        · subst r2
          rw [if_pos (show k * 26 + p ≤ k * 26 + p ∧ k * 26 + p < k * 26 + 26 by omega), show k * 26 + p - k * 26 = p by omega]
          by_cases x1 : x = 592
          · subst x1
            simp (disch := omega) only [u_ne, u_eq, ↓reduceIte]
          · by_cases x2 : x = 590
            · subst x2
              simp (disch := omega) only [u_ne, u_eq, ↓reduceIte, Nat.reduceEqDiff]
            · by_cases x3 : x = 593
              · subst x3
                simp (disch := omega) only [u_ne, u_eq, ↓reduceIte, Nat.reduceEqDiff]
              · by_cases x4 : x = 591
                · subst x4
                  simp (disch := omega) only [u_eq, ↓reduceIte, Nat.reduceEqDiff]
                  exact hv'
                · rw [if_neg x1, if_neg x2, if_neg x3, if_neg x4, u_n1 (by omega), u_n1 (by omega), u_n1 (by omega), u_n1 (by omega)]
        · rw [if_neg (show ¬ (k * 26 + p ≤ i ∧ i < k * 26 + 26) by omega)]
          simp (disch := omega) only [u_ne]
    clear nx ih hf
    refine hv_up (fun _ => fX12_done.eq_2 ..) ?_
    try simp only [↓reduceIte, Nat.reduceEqDiff, Option.bind_some, ao_let, n_ell, hs, gX12_cell, Nat.add_zero, hf1, hf2]
    try simp (disch := first | omega | assumption) only [↓reduceIte, Nat.reduceEqDiff, Option.bind_some, ao_let, t_le, f_le, t_lt, f_lt, f_eq, u_eq, u_n1, u_n2, n_cl, n_lt, n_le, n_eq, n_ltl, n_llt, n_lel, n_lle, n_eql, n_leq, n_add, n_mul, n_sub, n_addl, n_ladd, n_mull, n_lmul, n_subl, Int32.reduceLT, Int32.reduceLE, Int32.reduceAdd, Int32.reduceSub, Int32.reduceMul, Int32.reduceToNatClampNeg, not_false_eq_true, not_true_eq_false, or_false, false_or, or_self, and_self, false_and, true_and, and_false, and_true, true_or, or_true, Nat.reduceAdd, Nat.reduceMul, Nat.reduceLT, Nat.reduceLeDiff, ne_eq, n_ell, hs, gX12_cell, Nat.add_zero, hf1, hf2]
    have hE : (ao_u (ao_u (ao_u D 592 (k * 26 + p) (D 577 (t * 12 * 26 + p))) 590 (k * 26 + p) (D 579 (t * 12 * 26 + p))) 593 (k * 26 + p) (D 578 (t * 12 * 26 + p))) 537 27 = D 537 27 := by rw [u_n1 (by omega), u_n1 (by omega), u_n1 (by omega)]
    by_cases q : D 537 27 = 3 ∨ D 537 27 = 4
    · have ee : e = true := by rw [← he]; exact decide_eq_true q
      refine hv_bind (P := fun y => y = (1, ao_u (ao_u (ao_u D 592 (k * 26 + p) (D 577 (t * 12 * 26 + p))) 590 (k * 26 + p) (D 579 (t * 12 * 26 + p))) 593 (k * 26 + p) (D 578 (t * 12 * 26 + p)))) (dv_eagerT hs _ (by rw [hE]; exact q) rfl) ?_
      rintro _ rfl
      have hk := key (D 542 p) (by rw [if_pos ee])
      clear key hQ
      try simp only [↓reduceIte, Nat.reduceEqDiff, Option.bind_some, ao_let, n_ell, hs, show ((1 : Int32) = 0) = False from by decide]
      try simp (disch := first | omega | assumption) only [↓reduceIte, Nat.reduceEqDiff, Option.bind_some, ao_let, t_le, f_le, t_lt, f_lt, f_eq, u_eq, u_n1, u_n2, n_cl, n_lt, n_le, n_eq, n_ltl, n_llt, n_lel, n_lle, n_eql, n_leq, n_add, n_mul, n_sub, n_addl, n_ladd, n_mull, n_lmul, n_subl, Int32.reduceLT, Int32.reduceLE, Int32.reduceAdd, Int32.reduceSub, Int32.reduceMul, Int32.reduceToNatClampNeg, not_false_eq_true, not_true_eq_false, or_false, false_or, or_self, and_self, false_and, true_and, and_false, and_true, true_or, or_true, Nat.reduceAdd, Nat.reduceMul, Nat.reduceLT, Nat.reduceLeDiff, ne_eq, n_ell, hs, show ((1 : Int32) = 0) = False from by decide]
      refine hv_up (fun _ => fX12_done.eq_2 ..) ?_
      try simp only [↓reduceIte, Nat.reduceEqDiff, Option.bind_some, ao_let, n_ell, hs]
      try simp (disch := first | omega | assumption) only [↓reduceIte, Nat.reduceEqDiff, Option.bind_some, ao_let, t_le, f_le, t_lt, f_lt, f_eq, u_eq, u_n1, u_n2, n_cl, n_lt, n_le, n_eq, n_ltl, n_llt, n_lel, n_lle, n_eql, n_leq, n_add, n_mul, n_sub, n_addl, n_ladd, n_mull, n_lmul, n_subl, Int32.reduceLT, Int32.reduceLE, Int32.reduceAdd, Int32.reduceSub, Int32.reduceMul, Int32.reduceToNatClampNeg, not_false_eq_true, not_true_eq_false, or_false, false_or, or_self, and_self, false_and, true_and, and_false, and_true, true_or, or_true, Nat.reduceAdd, Nat.reduceMul, Nat.reduceLT, Nat.reduceLeDiff, ne_eq, n_ell, hs]
      exact hk
    · have ee : ¬ e = true := by rw [← he]; simpa using q
      refine hv_bind (P := fun y => y = (0, ao_u (ao_u (ao_u D 592 (k * 26 + p) (D 577 (t * 12 * 26 + p))) 590 (k * 26 + p) (D 579 (t * 12 * 26 + p))) 593 (k * 26 + p) (D 578 (t * 12 * 26 + p)))) (dv_eagerF hs _ (by rw [hE]; exact q) rfl) ?_
      rintro _ rfl
      have hk := key (D 582 (t * 12 * 26 + p)) (by rw [if_neg ee])
      clear key hQ
      try simp only [↓reduceIte, Nat.reduceEqDiff, Option.bind_some, ao_let, n_ell, hs]
      try simp (disch := first | omega | assumption) only [↓reduceIte, Nat.reduceEqDiff, Option.bind_some, ao_let, t_le, f_le, t_lt, f_lt, f_eq, u_eq, u_n1, u_n2, n_cl, n_lt, n_le, n_eq, n_ltl, n_llt, n_lel, n_lle, n_eql, n_leq, n_add, n_mul, n_sub, n_addl, n_ladd, n_mull, n_lmul, n_subl, Int32.reduceLT, Int32.reduceLE, Int32.reduceAdd, Int32.reduceSub, Int32.reduceMul, Int32.reduceToNatClampNeg, not_false_eq_true, not_true_eq_false, or_false, false_or, or_self, and_self, false_and, true_and, and_false, and_true, true_or, or_true, Nat.reduceAdd, Nat.reduceMul, Nat.reduceLT, Nat.reduceLeDiff, ne_eq, n_ell, hs]
      refine hv_up (fun _ => fX12_done.eq_2 ..) ?_
      try simp only [↓reduceIte, Nat.reduceEqDiff, Option.bind_some, ao_let, n_ell, hs]
      try simp (disch := first | omega | assumption) only [↓reduceIte, Nat.reduceEqDiff, Option.bind_some, ao_let, t_le, f_le, t_lt, f_lt, f_eq, u_eq, u_n1, u_n2, n_cl, n_lt, n_le, n_eq, n_ltl, n_llt, n_lel, n_lle, n_eql, n_leq, n_add, n_mul, n_sub, n_addl, n_ladd, n_mull, n_lmul, n_subl, Int32.reduceLT, Int32.reduceLE, Int32.reduceAdd, Int32.reduceSub, Int32.reduceMul, Int32.reduceToNatClampNeg, not_false_eq_true, not_true_eq_false, or_false, false_or, or_self, and_self, false_and, true_and, and_false, and_true, true_or, or_true, Nat.reduceAdd, Nat.reduceMul, Nat.reduceLT, Nat.reduceLeDiff, ne_eq, n_ell, hs]
      exact hk
theorem rcF_n {k t p x i : Nat} {e : Bool} {D : ao_M} (h : x < 590 ∨ 593 < x) : rcF k t p e D x i = D x i := by
  unfold rcF
  by_cases r : k * 26 + p ≤ i ∧ i < k * 26 + 26
  · rw [if_pos r, if_neg (by omega), if_neg (by omega), if_neg (by omega), if_neg (by omega)]
  · rw [if_neg r]
/-- the reference's record, whole -/
theorem d_rec {σ : ao_H} {D : ao_M} {k t : Nat} (hs : ShD σ) (ht : t < 6) (hk : k ≤ 300) (h76 : D 537 76 = nI k) (hf : ∀ q, q < 26 → (D 577 (t * 12 * 26 + q) = 0 ∨ D 577 (t * 12 * 26 + q) = 1) ∧ (D 578 (t * 12 * 26 + q) = 0 ∨ D 578 (t * 12 * 26 + q) = 1)) : ∃ (D1 : ao_M) (x2 x3 : Int32), adv (fun n => gX12_done n 537 (nI t) D σ) (fun n => fX12_done n 127 537 (nI t) x2 x3 0 0 0 0 D1 σ) ∧ (∀ x i, ¬ (x = 537 ∧ i = 76) → ¬ (587 ≤ x ∧ x ≤ 593) → D1 x i = D x i) ∧ (k = 300 → D1 = D) ∧
    (k < 300 → D1 537 76 = nI (k + 1) ∧ D1 587 k = nI t ∧ D1 588 k = D 564 t ∧ D1 589 k = D 537 65 ∧ (∀ x i, 587 ≤ x → x ≤ 589 → i ≠ k → D1 x i = D x i) ∧ (∀ x i, 590 ≤ x → x ≤ 593 → i < k * 26 → D1 x i = D x i) ∧ ∀ p, p < 26 → D1 592 (k * 26 + p) = D 577 (t * 12 * 26 + p) ∧ D1 590 (k * 26 + p) = D 579 (t * 12 * 26 + p) ∧ D1 593 (k * 26 + p) = D 578 (t * 12 * 26 + p) ∧ D1 591 (k * 26 + p) = if D 537 27 = 3 ∨ D 537 27 = 4 then D 542 p else D 582 (t * 12 * 26 + p)) := by
  by_cases e : k = 300
  · refine ⟨D, -1, 0, fun Q hQ => ?_, fun _ _ _ _ => rfl, fun _ => rfl, fun q => absurd q (by omega)⟩
    unfold gX12_done
    refine hv_up (fun _ => fX12_done.eq_2 ..) ?_
    try simp only [↓reduceIte, Nat.reduceEqDiff, Option.bind_some, ao_let, n_ell, hs]
    try simp (disch := first | omega | assumption) only [↓reduceIte, Nat.reduceEqDiff, Option.bind_some, ao_let, t_le, f_le, t_lt, f_lt, f_eq, u_eq, u_n1, u_n2, n_cl, n_lt, n_le, n_eq, n_ltl, n_llt, n_lel, n_lle, n_eql, n_leq, n_add, n_mul, n_sub, n_addl, n_ladd, n_mull, n_lmul, n_subl, Int32.reduceLT, Int32.reduceLE, Int32.reduceAdd, Int32.reduceSub, Int32.reduceMul, Int32.reduceToNatClampNeg, not_false_eq_true, not_true_eq_false, or_false, false_or, or_self, and_self, false_and, true_and, and_false, and_true, true_or, or_true, Nat.reduceAdd, Nat.reduceMul, Nat.reduceLT, Nat.reduceLeDiff, ne_eq, n_ell, hs]
    refine hv_bind (P := fun y => y = (-1, D)) (d_new hs hk h76 (fun _ => rfl) (fun q => absurd q (by omega))) ?_
    rintro _ rfl
    refine hv_up (fun _ => fX12_done.eq_2 ..) ?_
    try simp only [↓reduceIte, Nat.reduceEqDiff, Option.bind_some, ao_let, n_ell, n_g1]
    try simp (disch := first | omega | assumption) only [↓reduceIte, Nat.reduceEqDiff, Option.bind_some, ao_let, t_le, f_le, t_lt, f_lt, f_eq, u_eq, u_n1, u_n2, n_cl, n_lt, n_le, n_eq, n_ltl, n_llt, n_lel, n_lle, n_eql, n_leq, n_add, n_mul, n_sub, n_addl, n_ladd, n_mull, n_lmul, n_subl, Int32.reduceLT, Int32.reduceLE, Int32.reduceAdd, Int32.reduceSub, Int32.reduceMul, Int32.reduceToNatClampNeg, not_false_eq_true, not_true_eq_false, or_false, false_or, or_self, and_self, false_and, true_and, and_false, and_true, true_or, or_true, Nat.reduceAdd, Nat.reduceMul, Nat.reduceLT, Nat.reduceLeDiff, ne_eq, n_ell, n_g1]
    exact hQ
  · have hk3 : k < 300 := by omega
    have nE : ∀ x i, ¬ (x = 537 ∧ i = 76) → ¬ (587 ≤ x ∧ x ≤ 593) → nrD k (nI t) (D 564 t) D x i = D x i := fun x i h1 h2 => by
      unfold nrD
      rw [if_neg (by omega), if_neg (by omega), if_neg (by omega), if_neg (by omega), if_neg (by omega)]
    refine ⟨rcF k t 0 (decide (D 537 27 = 3 ∨ D 537 27 = 4)) (nrD k (nI t) (D 564 t) D), nI k, 26, fun Q hQ => ?_, fun x i h1 h2 => ?_, fun q => absurd q e, fun _ => ⟨?_, ?_, ?_, ?_, fun x i h1 h2 h3 => ?_, fun x i h1 h2 h3 => ?_, fun p hp => ?_⟩⟩
    · unfold gX12_done
      refine hv_up (fun _ => fX12_done.eq_2 ..) ?_
      try simp only [↓reduceIte, Nat.reduceEqDiff, Option.bind_some, ao_let, n_ell, hs]
      try simp (disch := first | omega | assumption) only [↓reduceIte, Nat.reduceEqDiff, Option.bind_some, ao_let, t_le, f_le, t_lt, f_lt, f_eq, u_eq, u_n1, u_n2, n_cl, n_lt, n_le, n_eq, n_ltl, n_llt, n_lel, n_lle, n_eql, n_leq, n_add, n_mul, n_sub, n_addl, n_ladd, n_mull, n_lmul, n_subl, Int32.reduceLT, Int32.reduceLE, Int32.reduceAdd, Int32.reduceSub, Int32.reduceMul, Int32.reduceToNatClampNeg, not_false_eq_true, not_true_eq_false, or_false, false_or, or_self, and_self, false_and, true_and, and_false, and_true, true_or, or_true, Nat.reduceAdd, Nat.reduceMul, Nat.reduceLT, Nat.reduceLeDiff, ne_eq, n_ell, hs]
      refine hv_bind (P := fun y => y = (nI k, nrD k (nI t) (D 564 t) D)) (d_new hs hk h76 (fun q => absurd q e) (fun _ => rfl)) ?_
      rintro _ rfl
      exact d_recL hs ht hk3 26 0 (nrD k (nI t) (D 564 t) D) rfl (by rw [nE _ _ (by omega) (by omega)]) (fun q hq => by rw [nE 577 _ (by omega) (by omega), nE 578 _ (by omega) (by omega)]; exact hf q hq) Q hQ
    · unfold rcF
      by_cases r : k * 26 + 0 ≤ i ∧ i < k * 26 + 26
      · rw [if_pos r, if_neg (by omega), if_neg (by omega), if_neg (by omega), if_neg (by omega)]; exact nE x i h1 h2
      · rw [if_neg r]; exact nE x i h1 h2
    · have : rcF k t 0 (decide (D 537 27 = 3 ∨ D 537 27 = 4)) (nrD k (nI t) (D 564 t) D) 537 76 = nrD k (nI t) (D 564 t) D 537 76 := rcF_n (by omega)
      rw [this]; unfold nrD; rw [if_pos (by omega)]
    · rw [rcF_n (by omega)]; unfold nrD; rw [if_neg (by omega), if_pos (by omega)]
    · rw [rcF_n (by omega)]; unfold nrD; rw [if_neg (by omega), if_neg (by omega), if_pos (by omega)]
    · rw [rcF_n (by omega)]; unfold nrD; rw [if_neg (by omega), if_neg (by omega), if_neg (by omega), if_pos (by omega)]
    · rw [rcF_n (by omega)]; unfold nrD; rw [if_neg (by omega), if_neg (by omega), if_neg (by omega), if_neg (by omega), if_neg (by omega)]
    · unfold rcF
      rw [if_neg (by omega)]
      unfold nrD
      rw [if_neg (by omega), if_neg (by omega), if_neg (by omega), if_neg (by omega), if_neg (by omega)]
    · unfold rcF
      rw [if_pos (by omega), if_pos rfl, if_pos (by omega), if_neg (by omega), if_pos rfl, if_pos (by omega), if_neg (by omega), if_neg (by omega), if_pos rfl, if_pos (by omega), if_neg (by omega), if_neg (by omega), if_neg (by omega), if_pos rfl, show k * 26 + p - k * 26 = p by omega, nE 577 _ (by omega) (by omega), nE 579 _ (by omega) (by omega), nE 578 _ (by omega) (by omega), nE 542 _ (by omega) (by omega), nE 582 _ (by omega) (by omega)]
      refine ⟨rfl, rfl, rfl, ?_⟩
      by_cases q : D 537 27 = 3 ∨ D 537 27 = 4
      · rw [if_pos (decide_eq_true q), if_pos q]
      · rw [if_neg (by simpa using q), if_neg q]

/-- the class's record of a block -/
theorem c_wrec {C : ao_M} {ρ : ao_H} {t k : Nat} {ps : List Nat} {vs ws : Nat → Int32} {to : Int32} (f1 : ShA ρ) (f2 : ShB ρ) (f3 : ShG ρ) (ht : t < 6) (hk : k ≤ 300) (h259 : C 25 9 = nI k) (hrd : RdC C (92 + 71 * t + 8) ps vs ws) (h6 : C 12 6 = to) {Q : ao_M → Prop}
    (q : ∀ C', RcB C C' (ps.map (fun p => (p, vs p))) (((List.range 26).filter (fun p => bt (C (92 + 71 * t + 8) 6) p)).map (fun p => (p, C 14 p))) (C (92 + 71 * t) 0) (C (92 + 71 * t) 16) to → Q C') : hv (fun n => gX2_writeRecord n 12 (92 + 71 * t) (92 + 71 * t + 8) C ρ) Q := by
  have hR := RnS_of f2 ht
  have hl := LvS_of f2 ht (show 0 < 10 by omega)
  rw [Nat.mul_zero, Nat.add_zero] at hl
  have hlen := RdC_len hrd
  obtain ⟨r3, r1, -, -, r6⟩ := hrd
  have loopW : ∀ (m p : Nat) (C1 : ao_M), p + m = 26 → RcB C C1 (ps.map (fun p => (p, vs p))) (((List.range p).filter (fun p => bt (C (92 + 71 * t + 8) 6) p)).map (fun p => (p, C 14 p))) (C (92 + 71 * t) 0) (C (92 + 71 * t) 16) to → hv (fun n => fX2_writeRecord n 62 12 (92 + 71 * t) (92 + 71 * t + 8) (nI p) C1 ρ) Q := by
    intro m
    induction m with
    | zero =>
      intro p C1 h hB
      obtain rfl : p = 26 := by omega
      have := q C1 hB
      clear q
      refine hv_up (fun _ => fX2_writeRecord.eq_2 ..) ?_
      try simp only [↓reduceIte, Nat.reduceEqDiff, Option.bind_some, ao_let, n_ell]
      try simp (disch := first | omega | assumption) only [↓reduceIte, Nat.reduceEqDiff, Option.bind_some, ao_let, t_le, f_le, t_lt, f_lt, f_eq, u_eq, u_n1, u_n2, n_cl, n_lt, n_le, n_eq, n_ltl, n_llt, n_lel, n_lle, n_eql, n_leq, n_add, n_mul, n_sub, n_addl, n_ladd, n_mull, n_lmul, n_subl, Int32.reduceLT, Int32.reduceLE, Int32.reduceAdd, Int32.reduceSub, Int32.reduceMul, Int32.reduceToNatClampNeg, not_false_eq_true, not_true_eq_false, or_false, false_or, or_self, and_self, false_and, true_and, and_false, and_true, true_or, or_true, Nat.reduceAdd, Nat.reduceMul, Nat.reduceLT, Nat.reduceLeDiff, ne_eq, n_ell]
      exact hv_some this
    | succ m ih =>
      intro p C1 h hB
      have hp : p < 26 := by omega
      have c0 : ∀ x i, x < 25 ∨ 90 < x → C1 x i = C x i := by
        obtain ⟨-, -, -, c0, -⟩ := hB
        exact c0
      have e6 : C1 (92 + 71 * t + 8) 6 = C (92 + 71 * t + 8) 6 := c0 _ _ (by omega)
      have e14 : C1 14 p = C 14 p := c0 _ _ (by omega)
      have nx : ∀ (C2 : ao_M), RcB C C2 (ps.map (fun p => (p, vs p))) (((List.range (p + 1)).filter (fun p => bt (C (92 + 71 * t + 8) 6) p)).map (fun p => (p, C 14 p))) (C (92 + 71 * t) 0) (C (92 + 71 * t) 16) to → hv (fun n => fX2_writeRecord n 93 12 (92 + 71 * t) (92 + 71 * t + 8) (nI p) C2 ρ) Q := by
        intro C2 h2
        refine hv_up (fun _ => fX2_writeRecord.eq_2 ..) ?_
        simp only [↓reduceIte, Nat.reduceEqDiff, ao_let, n_addl]
        exact ih (p + 1) C2 (by omega) h2
      clear ih q
      refine hv_up (fun _ => fX2_writeRecord.eq_2 ..) ?_
      by_cases hb : bt (C (92 + 71 * t + 8) 6) p = true
      · have hb2 : (bt (C (92 + 71 * t + 8) 6) p = false) = False := by rw [hb]; exact eq_false (by decide)
        try simp only [↓reduceIte, Nat.reduceEqDiff, Option.bind_some, ao_let, n_ell, f1, hl, gX3_wrote, e6, bt_z, hb2, e14, show ((1 : Int32) = 0) = False from by decide]
        try simp (disch := first | omega | assumption) only [↓reduceIte, Nat.reduceEqDiff, Option.bind_some, ao_let, t_le, f_le, t_lt, f_lt, f_eq, u_eq, u_n1, u_n2, n_cl, n_lt, n_le, n_eq, n_ltl, n_llt, n_lel, n_lle, n_eql, n_leq, n_add, n_mul, n_sub, n_addl, n_ladd, n_mull, n_lmul, n_subl, Int32.reduceLT, Int32.reduceLE, Int32.reduceAdd, Int32.reduceSub, Int32.reduceMul, Int32.reduceToNatClampNeg, not_false_eq_true, not_true_eq_false, or_false, false_or, or_self, and_self, false_and, true_and, and_false, and_true, true_or, or_true, Nat.reduceAdd, Nat.reduceMul, Nat.reduceLT, Nat.reduceLeDiff, ne_eq, n_ell, f1, hl, gX3_wrote, e6, bt_z, hb2, e14, show ((1 : Int32) = 0) = False from by decide]
        refine hv_bind (rb_write (p := p) (v := C 14 p) f1 f3 hB ?_ (fun C2 h => h)) ?_
        · rw [List.length_map]
          have h1 := List.length_filter_le (fun p => bt (C (92 + 71 * t + 8) 6) p) (List.range p)
          rw [List.length_range] at h1
          omega
        intro C2 hC2
        refine nx C2 ?_
        rw [List.range_succ, List.filter_append, List.map_append]
        simp only [List.filter_cons, hb, List.filter_nil, ↓reduceIte, List.map_cons, List.map_nil]
        exact hC2
      · have hb2 : bt (C (92 + 71 * t + 8) 6) p = false := by simpa using hb
        try simp only [↓reduceIte, Nat.reduceEqDiff, Option.bind_some, ao_let, n_ell, f1, hl, gX3_wrote, e6, bt_z, hb2]
        try simp (disch := first | omega | assumption) only [↓reduceIte, Nat.reduceEqDiff, Option.bind_some, ao_let, t_le, f_le, t_lt, f_lt, f_eq, u_eq, u_n1, u_n2, n_cl, n_lt, n_le, n_eq, n_ltl, n_llt, n_lel, n_lle, n_eql, n_leq, n_add, n_mul, n_sub, n_addl, n_ladd, n_mull, n_lmul, n_subl, Int32.reduceLT, Int32.reduceLE, Int32.reduceAdd, Int32.reduceSub, Int32.reduceMul, Int32.reduceToNatClampNeg, not_false_eq_true, not_true_eq_false, or_false, false_or, or_self, and_self, false_and, true_and, and_false, and_true, true_or, or_true, Nat.reduceAdd, Nat.reduceMul, Nat.reduceLT, Nat.reduceLeDiff, ne_eq, n_ell, f1, hl, gX3_wrote, e6, bt_z, hb2]
        refine nx C1 ?_
        rw [List.range_succ, List.filter_append, List.map_append]
        simp only [List.filter_cons, hb2, Bool.false_eq_true, List.filter_nil, ↓reduceIte, List.map_nil, List.append_nil]
        exact hB
  have loopR : ∀ (m i : Nat) (C1 : ao_M), i + m = ps.length → RcB C C1 ((ps.take i).map (fun p => (p, vs p))) [] (C (92 + 71 * t) 0) (C (92 + 71 * t) 16) to → hv (fun n => fX2_writeRecord n 21 12 (92 + 71 * t) (92 + 71 * t + 8) (nI i) C1 ρ) Q := by
    intro m
    induction m with
    | zero =>
      intro i C1 h hB
      obtain rfl : i = ps.length := by omega
      have c0 : ∀ x i, x < 25 ∨ 90 < x → C1 x i = C x i := by
        obtain ⟨-, -, -, c0, -⟩ := hB
        exact c0
      have e3 : C1 (92 + 71 * t + 8) 3 = nI ps.length := by rw [c0 _ _ (by omega)]; exact r3
      rw [List.take_length] at hB
      have := loopW 26 0 C1 rfl (by simpa using hB)
      clear loopW q
      refine hv_up (fun _ => fX2_writeRecord.eq_2 ..) ?_
      try simp only [↓reduceIte, Nat.reduceEqDiff, Option.bind_some, ao_let, n_ell, hl, e3]
      try simp (disch := first | omega | assumption) only [↓reduceIte, Nat.reduceEqDiff, Option.bind_some, ao_let, t_le, f_le, t_lt, f_lt, f_eq, u_eq, u_n1, u_n2, n_cl, n_lt, n_le, n_eq, n_ltl, n_llt, n_lel, n_lle, n_eql, n_leq, n_add, n_mul, n_sub, n_addl, n_ladd, n_mull, n_lmul, n_subl, Int32.reduceLT, Int32.reduceLE, Int32.reduceAdd, Int32.reduceSub, Int32.reduceMul, Int32.reduceToNatClampNeg, not_false_eq_true, not_true_eq_false, or_false, false_or, or_self, and_self, false_and, true_and, and_false, and_true, true_or, or_true, Nat.reduceAdd, Nat.reduceMul, Nat.reduceLT, Nat.reduceLeDiff, ne_eq, n_ell, hl, e3]
      refine hv_up (fun _ => fX2_writeRecord.eq_2 ..) ?_
      try simp only [↓reduceIte, Nat.reduceEqDiff, Option.bind_some, ao_let, n_ell]
      try simp (disch := first | omega | assumption) only [↓reduceIte, Nat.reduceEqDiff, Option.bind_some, ao_let, t_le, f_le, t_lt, f_lt, f_eq, u_eq, u_n1, u_n2, n_cl, n_lt, n_le, n_eq, n_ltl, n_llt, n_lel, n_lle, n_eql, n_leq, n_add, n_mul, n_sub, n_addl, n_ladd, n_mull, n_lmul, n_subl, Int32.reduceLT, Int32.reduceLE, Int32.reduceAdd, Int32.reduceSub, Int32.reduceMul, Int32.reduceToNatClampNeg, not_false_eq_true, not_true_eq_false, or_false, false_or, or_self, and_self, false_and, true_and, and_false, and_true, true_or, or_true, Nat.reduceAdd, Nat.reduceMul, Nat.reduceLT, Nat.reduceLeDiff, ne_eq, n_ell]
      exact this
    | succ m ih =>
      intro i C1 h hB
      have hi : i < ps.length := by omega
      have c0 : ∀ x i, x < 25 ∨ 90 < x → C1 x i = C x i := by
        obtain ⟨-, -, -, c0, -⟩ := hB
        exact c0
      have e3 : C1 (92 + 71 * t + 8) 3 = nI ps.length := by rw [c0 _ _ (by omega)]; exact r3
      have e1 : C1 (92 + 71 * t + 8 + 1) i = nI ps[i] := by rw [c0 _ _ (by omega)]; exact (r1 i hi).1
      have e2 : C1 (92 + 71 * t + 8 + 2) i = vs ps[i] := by rw [c0 _ _ (by omega)]; exact (r1 i hi).2.1
      clear loopW q
      refine hv_up (fun _ => fX2_writeRecord.eq_2 ..) ?_
      try simp only [↓reduceIte, Nat.reduceEqDiff, Option.bind_some, ao_let, n_ell, f1, hl, e3, e1, e2]
      try simp (disch := first | omega | assumption) only [↓reduceIte, Nat.reduceEqDiff, Option.bind_some, ao_let, t_le, f_le, t_lt, f_lt, f_eq, u_eq, u_n1, u_n2, n_cl, n_lt, n_le, n_eq, n_ltl, n_llt, n_lel, n_lle, n_eql, n_leq, n_add, n_mul, n_sub, n_addl, n_ladd, n_mull, n_lmul, n_subl, Int32.reduceLT, Int32.reduceLE, Int32.reduceAdd, Int32.reduceSub, Int32.reduceMul, Int32.reduceToNatClampNeg, not_false_eq_true, not_true_eq_false, or_false, false_or, or_self, and_self, false_and, true_and, and_false, and_true, true_or, or_true, Nat.reduceAdd, Nat.reduceMul, Nat.reduceLT, Nat.reduceLeDiff, ne_eq, n_ell, f1, hl, e3, e1, e2]
      refine hv_bind (rb_read (p := ps[i]) (v := vs ps[i]) f1 f3 hB ?_ (fun C2 h => h)) ?_
      · rw [List.length_map, List.length_take]
        omega
      intro C2 hC2
      refine ih (i + 1) C2 (by omega) ?_
      rw [List.take_add_one, List.getElem?_eq_getElem hi, List.map_append]
      exact hC2
  unfold gX2_writeRecord
  refine hv_up (fun _ => fX2_writeRecord.eq_2 ..) ?_
  try simp only [↓reduceIte, Nat.reduceEqDiff, Option.bind_some, ao_let, n_ell, f1, hR, h6]
  try simp (disch := first | omega | assumption) only [↓reduceIte, Nat.reduceEqDiff, Option.bind_some, ao_let, t_le, f_le, t_lt, f_lt, f_eq, u_eq, u_n1, u_n2, n_cl, n_lt, n_le, n_eq, n_ltl, n_llt, n_lel, n_lle, n_eql, n_leq, n_add, n_mul, n_sub, n_addl, n_ladd, n_mull, n_lmul, n_subl, Int32.reduceLT, Int32.reduceLE, Int32.reduceAdd, Int32.reduceSub, Int32.reduceMul, Int32.reduceToNatClampNeg, not_false_eq_true, not_true_eq_false, or_false, false_or, or_self, and_self, false_and, true_and, and_false, and_true, true_or, or_true, Nat.reduceAdd, Nat.reduceMul, Nat.reduceLT, Nat.reduceLeDiff, ne_eq, n_ell, f1, hR, h6]
  refine hv_bind (rb_begin (k := k) f1 hk h259 (fun C1 h => h)) ?_
  intro C1 hC1
  exact loopR ps.length 0 C1 (by omega) (by simpa using hC1)
/-- what was held is said, on both sides -/
theorem sy_P {ρ σ : ao_H} {t L : Nat} {hl : List Int32} {lv : Nat} {x2 : Int32} (f1 : ShA ρ) (f2 : ShB ρ) (f4 : ShD σ) (ht : t < 6) (hL : hl.length = L) (hL2 : L ≤ 200) : ∀ (m i : Nat) (C D : ao_M), i + m = L → Rsd C D → C (92 + 71 * t) 0 = nI t → C (92 + 71 * t) 13 = nI L → (∀ (j : Nat) (h : j < hl.length), C (92 + 71 * t + 70) j = hl[j]) → D 584 (t * 12) = nI L → (∀ (j : Nat) (h : j < hl.length), D 583 (t * 12 * 200 + j) = hl[j]) →
    ∃ C' D', adv (fun n => fX2_finish n 91 12 (92 + 71 * t) lv (nI i) C ρ) (fun n => fX2_finish n 129 12 (92 + 71 * t) lv (nI L) C' ρ) ∧ adv (fun n => fX12_done n 217 537 (nI t) x2 (nI i) 0 0 0 0 D σ) (fun n => fX12_done n 217 537 (nI t) x2 (nI L) 0 0 0 0 D' σ) ∧ Rsd C' D' ∧ (∀ x i, ¬ (22 ≤ x ∧ x ≤ 24) → C' x i = C x i) ∧ (∀ x i, ¬ (x = 537 ∧ i = 68) → x ≠ 585 → x ≠ 586 → D' x i = D x i) := by
  have hR := RnS_of f2 ht
  intro m
  induction m with
  | zero =>
    intro i C D h hS h0 h13 h70 h84 h83
    obtain rfl : i = L := by omega
    refine ⟨C, D, fun Q hQ => ?_, adv_rf, hS, fun _ _ _ => rfl, fun _ _ _ _ _ => rfl⟩
    refine hv_up (fun _ => fX2_finish.eq_2 ..) ?_
    try simp only [↓reduceIte, Nat.reduceEqDiff, Option.bind_some, ao_let, n_ell, hR, h13]
    try simp (disch := first | omega | assumption) only [↓reduceIte, Nat.reduceEqDiff, Option.bind_some, ao_let, t_le, f_le, t_lt, f_lt, f_eq, u_eq, u_n1, u_n2, n_cl, n_lt, n_le, n_eq, n_ltl, n_llt, n_lel, n_lle, n_eql, n_leq, n_add, n_mul, n_sub, n_addl, n_ladd, n_mull, n_lmul, n_subl, Int32.reduceLT, Int32.reduceLE, Int32.reduceAdd, Int32.reduceSub, Int32.reduceMul, Int32.reduceToNatClampNeg, not_false_eq_true, not_true_eq_false, or_false, false_or, or_self, and_self, false_and, true_and, and_false, and_true, true_or, or_true, Nat.reduceAdd, Nat.reduceMul, Nat.reduceLT, Nat.reduceLeDiff, ne_eq, n_ell, hR, h13]
    exact hQ
  | succ m ih =>
    intro i C D h hS h0 h13 h70 h84 h83
    have hi : i < hl.length := by omega
    have e70 := h70 i hi
    have e83 := h83 i hi
    obtain ⟨k, s1, s2, s3, s4⟩ := id hS
    -- both add
    have both : ∃ C1 D1, gX8_add 22 (nI t) hl[i] C ρ = some C1 ∧ gX12_say 537 (nI t) hl[i] D σ = some D1 ∧ Rsd C1 D1 ∧ (∀ x i, ¬ (22 ≤ x ∧ x ≤ 24) → C1 x i = C x i) ∧ (∀ x i, ¬ (x = 537 ∧ i = 68) → x ≠ 585 → x ≠ 586 → D1 x i = D x i) := by
      by_cases hk : k < 200
      · refine ⟨ao_u (ao_u (ao_u C 23 k (nI t)) 24 k hl[i]) 22 2 (nI (k + 1)), ao_u (ao_u (ao_u D 585 k hl[i]) 586 k (nI t)) 537 68 (nI (k + 1)), ?_, ?_, ⟨k + 1, by omega, ?_, ?_, fun j hj => ?_⟩, ?_, ?_⟩
        · unfold gX8_add
          try simp only [↓reduceIte, Nat.reduceEqDiff, Option.bind_some, ao_let, n_ell, f1, s2]
          try simp (disch := first | omega | assumption) only [↓reduceIte, Nat.reduceEqDiff, Option.bind_some, ao_let, t_le, f_le, t_lt, f_lt, f_eq, u_eq, u_n1, u_n2, n_cl, n_lt, n_le, n_eq, n_ltl, n_llt, n_lel, n_lle, n_eql, n_leq, n_add, n_mul, n_sub, n_addl, n_ladd, n_mull, n_lmul, n_subl, Int32.reduceLT, Int32.reduceLE, Int32.reduceAdd, Int32.reduceSub, Int32.reduceMul, Int32.reduceToNatClampNeg, not_false_eq_true, not_true_eq_false, or_false, false_or, or_self, and_self, false_and, true_and, and_false, and_true, true_or, or_true, Nat.reduceAdd, Nat.reduceMul, Nat.reduceLT, Nat.reduceLeDiff, ne_eq, n_ell, f1, s2]
        · unfold gX12_say
          try simp only [↓reduceIte, Nat.reduceEqDiff, Option.bind_some, ao_let, n_ell, f4, s3]
          try simp (disch := first | omega | assumption) only [↓reduceIte, Nat.reduceEqDiff, Option.bind_some, ao_let, t_le, f_le, t_lt, f_lt, f_eq, u_eq, u_n1, u_n2, n_cl, n_lt, n_le, n_eq, n_ltl, n_llt, n_lel, n_lle, n_eql, n_leq, n_add, n_mul, n_sub, n_addl, n_ladd, n_mull, n_lmul, n_subl, Int32.reduceLT, Int32.reduceLE, Int32.reduceAdd, Int32.reduceSub, Int32.reduceMul, Int32.reduceToNatClampNeg, not_false_eq_true, not_true_eq_false, or_false, false_or, or_self, and_self, false_and, true_and, and_false, and_true, true_or, or_true, Nat.reduceAdd, Nat.reduceMul, Nat.reduceLT, Nat.reduceLeDiff, ne_eq, n_ell, f4, s3]
        · rw [u_eq]
        · rw [u_eq]
        · by_cases e : j = k
          · subst e
            simp (disch := omega) only [u_ne, u_eq, and_self]
          · simp (disch := omega) only [u_ne]
            exact s4 j (by omega)
        · intro x i hx
          simp (disch := omega) only [u_ne]
        · intro x i h1 h2 h3
          simp (disch := omega) only [u_ne]
      · obtain rfl : k = 200 := by omega
        refine ⟨C, D, ?_, ?_, hS, fun _ _ _ => rfl, fun _ _ _ _ _ => rfl⟩
        · unfold gX8_add
          try simp only [↓reduceIte, Nat.reduceEqDiff, Option.bind_some, ao_let, n_ell, f1, s2]
          try simp (disch := first | omega | assumption) only [↓reduceIte, Nat.reduceEqDiff, Option.bind_some, ao_let, t_le, f_le, t_lt, f_lt, f_eq, u_eq, u_n1, u_n2, n_cl, n_lt, n_le, n_eq, n_ltl, n_llt, n_lel, n_lle, n_eql, n_leq, n_add, n_mul, n_sub, n_addl, n_ladd, n_mull, n_lmul, n_subl, Int32.reduceLT, Int32.reduceLE, Int32.reduceAdd, Int32.reduceSub, Int32.reduceMul, Int32.reduceToNatClampNeg, not_false_eq_true, not_true_eq_false, or_false, false_or, or_self, and_self, false_and, true_and, and_false, and_true, true_or, or_true, Nat.reduceAdd, Nat.reduceMul, Nat.reduceLT, Nat.reduceLeDiff, ne_eq, n_ell, f1, s2]
        · unfold gX12_say
          try simp only [↓reduceIte, Nat.reduceEqDiff, Option.bind_some, ao_let, n_ell, f4, s3]
          try simp (disch := first | omega | assumption) only [↓reduceIte, Nat.reduceEqDiff, Option.bind_some, ao_let, t_le, f_le, t_lt, f_lt, f_eq, u_eq, u_n1, u_n2, n_cl, n_lt, n_le, n_eq, n_ltl, n_llt, n_lel, n_lle, n_eql, n_leq, n_add, n_mul, n_sub, n_addl, n_ladd, n_mull, n_lmul, n_subl, Int32.reduceLT, Int32.reduceLE, Int32.reduceAdd, Int32.reduceSub, Int32.reduceMul, Int32.reduceToNatClampNeg, not_false_eq_true, not_true_eq_false, or_false, false_or, or_self, and_self, false_and, true_and, and_false, and_true, true_or, or_true, Nat.reduceAdd, Nat.reduceMul, Nat.reduceLT, Nat.reduceLeDiff, ne_eq, n_ell, f4, s3]
    obtain ⟨C1, D1, e1, e2, e3, e4, e5⟩ := both
    obtain ⟨C', D', a1, a2, a3, a4, a5⟩ := ih (i + 1) C1 D1 (by omega) e3 (by rw [e4 _ _ (by omega)]; exact h0) (by rw [e4 _ _ (by omega)]; exact h13) (fun j hj => by rw [e4 _ _ (by omega)]; exact h70 j hj) (by rw [e5 _ _ (by omega) (by omega) (by omega)]; exact h84) (fun j hj => by rw [e5 _ _ (by omega) (by omega) (by omega)]; exact h83 j hj)
    refine ⟨C', D', fun Q hQ => ?_, fun Q hQ => ?_, a3, fun x i hx => (a4 x i hx).trans (e4 x i hx), fun x i h1 h2 h3 => (a5 x i h1 h2 h3).trans (e5 x i h1 h2 h3)⟩
    · have := a1 Q hQ
      clear ih a1 a2 hQ s4 h70 h83
      refine hv_up (fun _ => fX2_finish.eq_2 ..) ?_
      try simp only [↓reduceIte, Nat.reduceEqDiff, Option.bind_some, ao_let, n_ell, f1, hR, h13, e70, h0, e1]
      try simp (disch := first | omega | assumption) only [↓reduceIte, Nat.reduceEqDiff, Option.bind_some, ao_let, t_le, f_le, t_lt, f_lt, f_eq, u_eq, u_n1, u_n2, n_cl, n_lt, n_le, n_eq, n_ltl, n_llt, n_lel, n_lle, n_eql, n_leq, n_add, n_mul, n_sub, n_addl, n_ladd, n_mull, n_lmul, n_subl, Int32.reduceLT, Int32.reduceLE, Int32.reduceAdd, Int32.reduceSub, Int32.reduceMul, Int32.reduceToNatClampNeg, not_false_eq_true, not_true_eq_false, or_false, false_or, or_self, and_self, false_and, true_and, and_false, and_true, true_or, or_true, Nat.reduceAdd, Nat.reduceMul, Nat.reduceLT, Nat.reduceLeDiff, ne_eq, n_ell, f1, hR, h13, e70, h0, e1]
      exact this
    · have := a2 Q hQ
      clear ih a1 a2 hQ s4 h70 h83
      refine hv_up (fun _ => fX12_done.eq_2 ..) ?_
      try simp only [↓reduceIte, Nat.reduceEqDiff, Option.bind_some, ao_let, n_ell, f4, gX12_level, h84, Nat.add_zero, e83, e2]
      try simp (disch := first | omega | assumption) only [↓reduceIte, Nat.reduceEqDiff, Option.bind_some, ao_let, t_le, f_le, t_lt, f_lt, f_eq, u_eq, u_n1, u_n2, n_cl, n_lt, n_le, n_eq, n_ltl, n_llt, n_lel, n_lle, n_eql, n_leq, n_add, n_mul, n_sub, n_addl, n_ladd, n_mull, n_lmul, n_subl, Int32.reduceLT, Int32.reduceLE, Int32.reduceAdd, Int32.reduceSub, Int32.reduceMul, Int32.reduceToNatClampNeg, not_false_eq_true, not_true_eq_false, or_false, false_or, or_self, and_self, false_and, true_and, and_false, and_true, true_or, or_true, Nat.reduceAdd, Nat.reduceMul, Nat.reduceLT, Nat.reduceLeDiff, ne_eq, n_ell, f4, gX12_level, h84, Nat.add_zero, e83, e2]
      exact this
/-- the writes that waited come to the places, on both sides -/
theorem chg_P {t : Nat} {x2 : Int32} (ht : t < 6) {mk : Int32} {wv : Nat → Int32} : ∀ (m p : Nat) (C D : ao_M) (ρ σ : ao_H) (kp : Nat), p + m = 26 → ShA ρ → ShB ρ → ShD σ → kp + m ≤ 30000 → Rpl kp C ρ D σ → C (92 + 71 * t + 8) 6 = mk → (∀ q, q < 26 → bt mk q = true → C (92 + 71 * t + 8 + 4) q = wv q) → (∀ q, q < 26 → D 578 (t * 12 * 26 + q) = (if bt mk q = true then 1 else 0) ∧ (bt mk q = true → D 582 (t * 12 * 26 + q) = wv q)) →
    ∃ C' ρ' D' σ' x3, adv (fun n => fX2_finish n 49 12 (92 + 71 * t) (92 + 71 * t + 8) (nI p) C ρ) (fun n => fX2_finish n 83 12 (92 + 71 * t) (92 + 71 * t + 8) 0 C' ρ') ∧ adv (fun n => fX12_done n 162 537 (nI t) x2 (nI p) 0 0 0 0 D σ) (fun n => fX12_done n 215 537 (nI t) x2 x3 0 0 0 0 D' σ') ∧ Rpl (kp + (List.range' p m).countP (fun q => bt mk q)) C' ρ' D' σ' ∧ FC C ρ C' ρ' ∧ FD D σ D' σ' ∧ ∀ q, q < 26 → C' 14 q = (if p ≤ q ∧ bt mk q = true then wv q else C 14 q) ∧ C' 16 q = C 16 q := by
  intro m
  induction m with
  | zero =>
    intro p C D ρ σ kp h f1 f2 f4 hkp r hm hw hd
    obtain rfl : p = 26 := by omega
    obtain ⟨⟨z, ez, _⟩, ⟨z', ez', _⟩⟩ := Rpl_z r
    refine ⟨C, ρ, D, σ, 26, fun Q hQ => ?_, fun Q hQ => ?_, by simpa using r, ⟨HxC_refl ez rfl, fun _ _ _ _ _ => rfl⟩, ⟨HxD_refl ez', fun _ _ _ _ _ _ => rfl⟩, fun q hq => ⟨by rw [if_neg (by omega)], rfl⟩⟩
    · refine hv_up (fun _ => fX2_finish.eq_2 ..) ?_
      try simp only [↓reduceIte, Nat.reduceEqDiff, Option.bind_some, ao_let, n_ell]
      try simp (disch := first | omega | assumption) only [↓reduceIte, Nat.reduceEqDiff, Option.bind_some, ao_let, t_le, f_le, t_lt, f_lt, f_eq, u_eq, u_n1, u_n2, n_cl, n_lt, n_le, n_eq, n_ltl, n_llt, n_lel, n_lle, n_eql, n_leq, n_add, n_mul, n_sub, n_addl, n_ladd, n_mull, n_lmul, n_subl, Int32.reduceLT, Int32.reduceLE, Int32.reduceAdd, Int32.reduceSub, Int32.reduceMul, Int32.reduceToNatClampNeg, not_false_eq_true, not_true_eq_false, or_false, false_or, or_self, and_self, false_and, true_and, and_false, and_true, true_or, or_true, Nat.reduceAdd, Nat.reduceMul, Nat.reduceLT, Nat.reduceLeDiff, ne_eq, n_ell]
      exact hQ
    · refine hv_up (fun _ => fX12_done.eq_2 ..) ?_
      try simp only [↓reduceIte, Nat.reduceEqDiff, Option.bind_some, ao_let, n_ell]
      try simp (disch := first | omega | assumption) only [↓reduceIte, Nat.reduceEqDiff, Option.bind_some, ao_let, t_le, f_le, t_lt, f_lt, f_eq, u_eq, u_n1, u_n2, n_cl, n_lt, n_le, n_eq, n_ltl, n_llt, n_lel, n_lle, n_eql, n_leq, n_add, n_mul, n_sub, n_addl, n_ladd, n_mull, n_lmul, n_subl, Int32.reduceLT, Int32.reduceLE, Int32.reduceAdd, Int32.reduceSub, Int32.reduceMul, Int32.reduceToNatClampNeg, not_false_eq_true, not_true_eq_false, or_false, false_or, or_self, and_self, false_and, true_and, and_false, and_true, true_or, or_true, Nat.reduceAdd, Nat.reduceMul, Nat.reduceLT, Nat.reduceLeDiff, ne_eq, n_ell]
      exact hQ
  | succ m ih =>
    intro p C D ρ σ kp h f1 f2 f4 hkp r hm hw hd
    have hl := LvS_of f2 ht (show 0 < 10 by omega)
    rw [Nat.mul_zero, Nat.add_zero] at hl
    have hp : p < 26 := by omega
    obtain ⟨hd1, hd2⟩ := hd p hp
    have cnt : (List.range' p (m + 1)).countP (fun q => bt mk q) = (List.range' (p + 1) m).countP (fun q => bt mk q) + if bt mk p = true then 1 else 0 := by
      simp [List.range'_succ, List.countP_cons]
    by_cases hb : bt mk p = true
    · have hb2 : (bt mk p = false) = False := by rw [hb]; exact eq_false (by decide)
      have hwp := hw p hp hb
      have hdp := hd2 hb
      rw [if_pos hb] at hd1
      obtain ⟨Nc, ⟨C1, ρ1⟩, ec, Nd, ⟨D1, σ1⟩, ed, hr1, hFC, hFD, hq, -⟩ := ch_pair (v := wv p) f1 f4 hp (by omega) r
      dsimp only at hr1 hFC hFD hq
      have zc := sh_zc r
      have zd := sh_zd r
      have npc : ∀ x, (x < 19 ∨ 21 < x) ∧ x < 599 → ¬ PAc ρ x := fun x hx => Rpl_nc r hx
      have npd : ∀ x, (x < 547 ∨ 549 < x) ∧ x < 599 → ¬ PAd σ x := fun x hx => Rpl_nd r hx
      have cl : ∀ x i, (x < 13 ∨ 22 ≤ x ∧ x < 599) → C1 x i = C x i := fun x i h1 => hFC.2 x i (by omega) (npc x (by omega)) (fun z hz => by have := zc z hz; omega)
      have dl : ∀ x i, x < 599 → 549 < x → D1 x i = D x i := fun x i h0 h2 => hFD.2 x i (by omega) (by omega) (npd x (by omega)) (fun z hz => by have := zd z hz; omega)
      obtain ⟨C', ρ', D', σ', x3, a1, a2, a3, a4, a5, a6⟩ := ih (p + 1) C1 D1 ρ1 σ1 (kp + 1) (by omega) (HxC_shA hFC.1 zc f1) (HxC_shB hFC.1 zc f2) (HxD_sh hFD.1 zd f4) (by omega) hr1 (by rw [cl _ _ (by omega)]; exact hm) (fun q hq hbq => by rw [cl _ _ (by omega)]; exact hw q hq hbq) (fun q hq => by rw [dl _ _ (by omega) (by omega), dl _ _ (by omega) (by omega)]; exact hd q hq)
      refine ⟨C', ρ', D', σ', x3, fun Q hQ => ?_, fun Q hQ => ?_, ?_, FC_trans hFC a4, FD_trans hFD a5, fun q hq' => ?_⟩
      · have := a1 Q hQ
        clear ih a1 a2 hQ hw hd cl dl npc npd
        refine hv_up (fun _ => fX2_finish.eq_2 ..) ?_
        try simp only [↓reduceIte, Nat.reduceEqDiff, Option.bind_some, ao_let, n_ell, f1, hl, gX3_wrote, hm, bt_z, hb2, hwp, show ((1 : Int32) = 0) = False from by decide]
        try simp (disch := first | omega | assumption) only [↓reduceIte, Nat.reduceEqDiff, Option.bind_some, ao_let, t_le, f_le, t_lt, f_lt, f_eq, u_eq, u_n1, u_n2, n_cl, n_lt, n_le, n_eq, n_ltl, n_llt, n_lel, n_lle, n_eql, n_leq, n_add, n_mul, n_sub, n_addl, n_ladd, n_mull, n_lmul, n_subl, Int32.reduceLT, Int32.reduceLE, Int32.reduceAdd, Int32.reduceSub, Int32.reduceMul, Int32.reduceToNatClampNeg, not_false_eq_true, not_true_eq_false, or_false, false_or, or_self, and_self, false_and, true_and, and_false, and_true, true_or, or_true, Nat.reduceAdd, Nat.reduceMul, Nat.reduceLT, Nat.reduceLeDiff, ne_eq, n_ell, f1, hl, gX3_wrote, hm, bt_z, hb2, hwp, show ((1 : Int32) = 0) = False from by decide]
        refine hv_bind (P := fun y => y = (C1, ρ1)) ⟨Nc, _, ec, rfl⟩ ?_
        rintro _ rfl
        refine hv_up (fun _ => fX2_finish.eq_2 ..) ?_
        try simp only [↓reduceIte, Nat.reduceEqDiff, Option.bind_some, ao_let, n_ell]
        try simp (disch := first | omega | assumption) only [↓reduceIte, Nat.reduceEqDiff, Option.bind_some, ao_let, t_le, f_le, t_lt, f_lt, f_eq, u_eq, u_n1, u_n2, n_cl, n_lt, n_le, n_eq, n_ltl, n_llt, n_lel, n_lle, n_eql, n_leq, n_add, n_mul, n_sub, n_addl, n_ladd, n_mull, n_lmul, n_subl, Int32.reduceLT, Int32.reduceLE, Int32.reduceAdd, Int32.reduceSub, Int32.reduceMul, Int32.reduceToNatClampNeg, not_false_eq_true, not_true_eq_false, or_false, false_or, or_self, and_self, false_and, true_and, and_false, and_true, true_or, or_true, Nat.reduceAdd, Nat.reduceMul, Nat.reduceLT, Nat.reduceLeDiff, ne_eq, n_ell]
        exact this
      · have := a2 Q hQ
        clear ih a1 a2 hQ hw hd cl dl npc npd
        refine hv_up (fun _ => fX12_done.eq_2 ..) ?_
        try simp only [↓reduceIte, Nat.reduceEqDiff, Option.bind_some, ao_let, n_ell, f4, gX12_cell, Nat.add_zero, hd1, hdp, show ((1 : Int32) = 0) = False from by decide]
        try simp (disch := first | omega | assumption) only [↓reduceIte, Nat.reduceEqDiff, Option.bind_some, ao_let, t_le, f_le, t_lt, f_lt, f_eq, u_eq, u_n1, u_n2, n_cl, n_lt, n_le, n_eq, n_ltl, n_llt, n_lel, n_lle, n_eql, n_leq, n_add, n_mul, n_sub, n_addl, n_ladd, n_mull, n_lmul, n_subl, Int32.reduceLT, Int32.reduceLE, Int32.reduceAdd, Int32.reduceSub, Int32.reduceMul, Int32.reduceToNatClampNeg, not_false_eq_true, not_true_eq_false, or_false, false_or, or_self, and_self, false_and, true_and, and_false, and_true, true_or, or_true, Nat.reduceAdd, Nat.reduceMul, Nat.reduceLT, Nat.reduceLeDiff, ne_eq, n_ell, f4, gX12_cell, Nat.add_zero, hd1, hdp, show ((1 : Int32) = 0) = False from by decide]
        refine hv_bind (P := fun y => y = (D1, σ1)) ⟨Nd, _, ed, rfl⟩ ?_
        rintro _ rfl
        refine hv_up (fun _ => fX12_done.eq_2 ..) ?_
        try simp only [↓reduceIte, Nat.reduceEqDiff, Option.bind_some, ao_let, n_ell]
        try simp (disch := first | omega | assumption) only [↓reduceIte, Nat.reduceEqDiff, Option.bind_some, ao_let, t_le, f_le, t_lt, f_lt, f_eq, u_eq, u_n1, u_n2, n_cl, n_lt, n_le, n_eq, n_ltl, n_llt, n_lel, n_lle, n_eql, n_leq, n_add, n_mul, n_sub, n_addl, n_ladd, n_mull, n_lmul, n_subl, Int32.reduceLT, Int32.reduceLE, Int32.reduceAdd, Int32.reduceSub, Int32.reduceMul, Int32.reduceToNatClampNeg, not_false_eq_true, not_true_eq_false, or_false, false_or, or_self, and_self, false_and, true_and, and_false, and_true, true_or, or_true, Nat.reduceAdd, Nat.reduceMul, Nat.reduceLT, Nat.reduceLeDiff, ne_eq, n_ell]
        exact this
      · rw [cnt, if_pos hb]
        rw [show kp + ((List.range' (p + 1) m).countP (fun q => bt mk q) + 1) = kp + 1 + (List.range' (p + 1) m).countP (fun q => bt mk q) by omega]
        exact a3
      · obtain ⟨z1, z2⟩ := a6 q hq'
        obtain ⟨y1, y2, y3⟩ := hq q hq'
        refine ⟨?_, z2.trans y3⟩
        rw [z1, y1]
        by_cases e : q = p
        · subst e
          rw [if_neg (by omega), if_pos rfl, if_pos ⟨Nat.le_refl _, hb⟩]
        · rw [if_neg e]
          by_cases e2 : bt mk q = true
          · by_cases e3 : p + 1 ≤ q
            · rw [if_pos ⟨e3, e2⟩, if_pos ⟨by omega, e2⟩]
            · rw [if_neg (by omega), if_neg (by omega)]
          · rw [if_neg (fun x => e2 x.2), if_neg (fun x => e2 x.2)]
    · have hb2 : bt mk p = false := by simpa using hb
      rw [if_neg hb] at hd1
      obtain ⟨C', ρ', D', σ', x3, a1, a2, a3, a4, a5, a6⟩ := ih (p + 1) C D ρ σ kp (by omega) f1 f2 f4 (by omega) r hm hw hd
      refine ⟨C', ρ', D', σ', x3, fun Q hQ => ?_, fun Q hQ => ?_, ?_, a4, a5, fun q hq' => ?_⟩
      · have := a1 Q hQ
        clear ih a1 a2 hQ hw hd
        refine hv_up (fun _ => fX2_finish.eq_2 ..) ?_
        try simp only [↓reduceIte, Nat.reduceEqDiff, Option.bind_some, ao_let, n_ell, f1, hl, gX3_wrote, hm, bt_z, hb2]
        try simp (disch := first | omega | assumption) only [↓reduceIte, Nat.reduceEqDiff, Option.bind_some, ao_let, t_le, f_le, t_lt, f_lt, f_eq, u_eq, u_n1, u_n2, n_cl, n_lt, n_le, n_eq, n_ltl, n_llt, n_lel, n_lle, n_eql, n_leq, n_add, n_mul, n_sub, n_addl, n_ladd, n_mull, n_lmul, n_subl, Int32.reduceLT, Int32.reduceLE, Int32.reduceAdd, Int32.reduceSub, Int32.reduceMul, Int32.reduceToNatClampNeg, not_false_eq_true, not_true_eq_false, or_false, false_or, or_self, and_self, false_and, true_and, and_false, and_true, true_or, or_true, Nat.reduceAdd, Nat.reduceMul, Nat.reduceLT, Nat.reduceLeDiff, ne_eq, n_ell, f1, hl, gX3_wrote, hm, bt_z, hb2]
        refine hv_up (fun _ => fX2_finish.eq_2 ..) ?_
        try simp only [↓reduceIte, Nat.reduceEqDiff, Option.bind_some, ao_let, n_ell]
        try simp (disch := first | omega | assumption) only [↓reduceIte, Nat.reduceEqDiff, Option.bind_some, ao_let, t_le, f_le, t_lt, f_lt, f_eq, u_eq, u_n1, u_n2, n_cl, n_lt, n_le, n_eq, n_ltl, n_llt, n_lel, n_lle, n_eql, n_leq, n_add, n_mul, n_sub, n_addl, n_ladd, n_mull, n_lmul, n_subl, Int32.reduceLT, Int32.reduceLE, Int32.reduceAdd, Int32.reduceSub, Int32.reduceMul, Int32.reduceToNatClampNeg, not_false_eq_true, not_true_eq_false, or_false, false_or, or_self, and_self, false_and, true_and, and_false, and_true, true_or, or_true, Nat.reduceAdd, Nat.reduceMul, Nat.reduceLT, Nat.reduceLeDiff, ne_eq, n_ell]
        exact this
      · have := a2 Q hQ
        clear ih a1 a2 hQ hw hd
        refine hv_up (fun _ => fX12_done.eq_2 ..) ?_
        try simp only [↓reduceIte, Nat.reduceEqDiff, Option.bind_some, ao_let, n_ell, f4, gX12_cell, Nat.add_zero, hd1]
        try simp (disch := first | omega | assumption) only [↓reduceIte, Nat.reduceEqDiff, Option.bind_some, ao_let, t_le, f_le, t_lt, f_lt, f_eq, u_eq, u_n1, u_n2, n_cl, n_lt, n_le, n_eq, n_ltl, n_llt, n_lel, n_lle, n_eql, n_leq, n_add, n_mul, n_sub, n_addl, n_ladd, n_mull, n_lmul, n_subl, Int32.reduceLT, Int32.reduceLE, Int32.reduceAdd, Int32.reduceSub, Int32.reduceMul, Int32.reduceToNatClampNeg, not_false_eq_true, not_true_eq_false, or_false, false_or, or_self, and_self, false_and, true_and, and_false, and_true, true_or, or_true, Nat.reduceAdd, Nat.reduceMul, Nat.reduceLT, Nat.reduceLeDiff, ne_eq, n_ell, f4, gX12_cell, Nat.add_zero, hd1]
        refine hv_up (fun _ => fX12_done.eq_2 ..) ?_
        try simp only [↓reduceIte, Nat.reduceEqDiff, Option.bind_some, ao_let, n_ell]
        try simp (disch := first | omega | assumption) only [↓reduceIte, Nat.reduceEqDiff, Option.bind_some, ao_let, t_le, f_le, t_lt, f_lt, f_eq, u_eq, u_n1, u_n2, n_cl, n_lt, n_le, n_eq, n_ltl, n_llt, n_lel, n_lle, n_eql, n_leq, n_add, n_mul, n_sub, n_addl, n_ladd, n_mull, n_lmul, n_subl, Int32.reduceLT, Int32.reduceLE, Int32.reduceAdd, Int32.reduceSub, Int32.reduceMul, Int32.reduceToNatClampNeg, not_false_eq_true, not_true_eq_false, or_false, false_or, or_self, and_self, false_and, true_and, and_false, and_true, true_or, or_true, Nat.reduceAdd, Nat.reduceMul, Nat.reduceLT, Nat.reduceLeDiff, ne_eq, n_ell]
        exact this
      · rw [cnt, if_neg hb]
        exact a3
      · obtain ⟨z1, z2⟩ := a6 q hq'
        refine ⟨?_, z2⟩
        rw [z1]
        by_cases e2 : bt mk q = true
        · by_cases e3 : p + 1 ≤ q
          · rw [if_pos ⟨e3, e2⟩, if_pos ⟨by omega, e2⟩]
          · rw [if_neg (by omega)]
            by_cases e : q = p
            · subst e; exact absurd e2 hb
            · rw [if_neg (by omega)]
        · rw [if_neg (fun x => e2 x.2), if_neg (fun x => e2 x.2)]
