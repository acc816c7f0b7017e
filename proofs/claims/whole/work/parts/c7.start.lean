set_option linter.unusedSimpArgs false
set_option linter.unusedVariables false
/-! ===== calls between calls: start ===== -/
section Cc7
variable {m B1 B2 E1 E2 : Nat} {C D : ao_M} {ρ σ : ao_H}
theorem c_fillL {a L : Nat} {v : Int32} (hk : ρ.2.1 a = 0) (hl : ρ.2.2.1 a = L) (hL : L < 2147483648) : ∀ (k u : Nat) (C : ao_M), u + k = L → hv (fun n => fJ7_fill_53178 n 5 a v (nI u) (nI L) C ρ) (fun C' => (∀ i, u ≤ i → i < L → C' a i = v) ∧ ∀ x i, ¬ (x = a ∧ u ≤ i ∧ i < L) → C' x i = C x i) := by
  intro k
  induction k with
  | zero =>
    intro u C h
    obtain rfl : u = L := by omega
    refine hv_up (fun _ => fJ7_fill_53178.eq_2 ..) ?_
    try simp only [↓reduceIte, Nat.reduceEqDiff, Option.bind_some, ao_let, n_ell, hk, hl]
    try simp (disch := first | omega | assumption) only [↓reduceIte, Nat.reduceEqDiff, Option.bind_some, ao_let, t_le, f_le, t_lt, f_lt, f_eq, u_eq, u_n1, u_n2, n_cl, n_lt, n_le, n_eq, n_ltl, n_llt, n_lel, n_lle, n_eql, n_leq, n_add, n_mul, n_sub, n_addl, n_ladd, n_mull, n_lmul, n_subl, Int32.reduceLT, Int32.reduceLE, Int32.reduceAdd, Int32.reduceSub, Int32.reduceMul, Int32.reduceToNatClampNeg, not_false_eq_true, not_true_eq_false, or_false, false_or, or_self, and_self, false_and, true_and, and_false, and_true, true_or, or_true, Nat.reduceAdd, Nat.reduceMul, Nat.reduceLT, Nat.reduceLeDiff, ne_eq, n_ell, hk, hl]
    exact hv_some ⟨fun i h1 h2 => by omega, fun _ _ _ => rfl⟩
  | succ k ih =>
    intro u C h
    refine hv_up (fun _ => fJ7_fill_53178.eq_2 ..) ?_
    try simp only [↓reduceIte, Nat.reduceEqDiff, Option.bind_some, ao_let, n_ell, hk, hl]
    try simp (disch := first | omega | assumption) only [↓reduceIte, Nat.reduceEqDiff, Option.bind_some, ao_let, t_le, f_le, t_lt, f_lt, f_eq, u_eq, u_n1, u_n2, n_cl, n_lt, n_le, n_eq, n_ltl, n_llt, n_lel, n_lle, n_eql, n_leq, n_add, n_mul, n_sub, n_addl, n_ladd, n_mull, n_lmul, n_subl, Int32.reduceLT, Int32.reduceLE, Int32.reduceAdd, Int32.reduceSub, Int32.reduceMul, Int32.reduceToNatClampNeg, not_false_eq_true, not_true_eq_false, or_false, false_or, or_self, and_self, false_and, true_and, and_false, and_true, true_or, or_true, Nat.reduceAdd, Nat.reduceMul, Nat.reduceLT, Nat.reduceLeDiff, ne_eq, n_ell, hk, hl]
    refine hv_mono (ih (u + 1) _ (by omega)) ?_
    rintro C' ⟨h1, h2⟩
    refine ⟨fun i q1 q2 => ?_, fun x i q => ?_⟩
    · by_cases e : i = u
      · subst e
        rw [h2 _ _ (by omega), u_eq]
      · exact h1 i (by omega) q2
    · rw [h2 x i (by omega), u_ne (by omega)]
theorem c_fill {a L : Nat} {v : Int32} (hk : ρ.2.1 a = 0) (hl : ρ.2.2.1 a = L) (hL : L < 2147483648) (C : ao_M) : hv (fun n => gJ7_fill_53178 n a v C ρ) (fun C' => (∀ i, i < L → C' a i = v) ∧ ∀ x i, ¬ (x = a ∧ i < L) → C' x i = C x i) := by
  unfold gJ7_fill_53178
  refine hv_up (fun _ => fJ7_fill_53178.eq_2 ..) ?_
  try simp only [↓reduceIte, Nat.reduceEqDiff, Option.bind_some, ao_let, n_ell, hk, hl]
  try simp (disch := first | omega | assumption) only [↓reduceIte, Nat.reduceEqDiff, Option.bind_some, ao_let, t_le, f_le, t_lt, f_lt, f_eq, u_eq, u_n1, u_n2, n_cl, n_lt, n_le, n_eq, n_ltl, n_llt, n_lel, n_lle, n_eql, n_leq, n_add, n_mul, n_sub, n_addl, n_ladd, n_mull, n_lmul, n_subl, Int32.reduceLT, Int32.reduceLE, Int32.reduceAdd, Int32.reduceSub, Int32.reduceMul, Int32.reduceToNatClampNeg, not_false_eq_true, not_true_eq_false, or_false, false_or, or_self, and_self, false_and, true_and, and_false, and_true, true_or, or_true, Nat.reduceAdd, Nat.reduceMul, Nat.reduceLT, Nat.reduceLeDiff, ne_eq, n_ell, hk, hl]
  refine hv_mono (c_fillL hk hl hL L 0 C (by omega)) ?_
  rintro C' ⟨h1, h2⟩
  exact ⟨fun i hi => h1 i (by omega) hi, fun x i q => h2 x i (by omega)⟩
/-- a runner is as new -/
def RnwC (t : Nat) (C C' : ao_M) : Prop := (C' (92 + 71 * t) 2 = 1 ∧ C' (92 + 71 * t) 3 = 0 ∧ C' (92 + 71 * t) 5 = 0 ∧ C' (92 + 71 * t) 8 = 0 ∧ C' (92 + 71 * t) 11 = 0 ∧ C' (92 + 71 * t) 13 = 0) ∧ (∀ i, 14 ≤ i → i ≤ 19 → C' (92 + 71 * t) i = 0) ∧ (∀ k, k < 26 → C' (92 + 71 * t + 6) k = 0) ∧
  ∀ x i, ¬ (x = 92 + 71 * t ∧ (i = 2 ∨ i = 3 ∨ i = 5 ∨ i = 8 ∨ i = 11 ∨ 13 ≤ i ∧ i ≤ 19)) → ¬ (x = 92 + 71 * t + 6 ∧ i < 26) → C' x i = C x i
theorem c_renew (hb : ShB ρ) {t : Nat} (ht : t < 6) (C : ao_M) : hv (fun n => gX7_renew n (92 + 71 * t) C ρ) (RnwC t C) := by
  have hR := RnS_of hb ht
  unfold gX7_renew
  simp only [hR, ↓reduceIte, ao_let, Option.bind_some]
  refine hv_bind (c_fill (a := 92 + 71 * t + 6) (L := 26) (by simp only [hR]) (by simp only [hR]) (by omega) _) ?_
  rintro C1 ⟨h1, h2⟩
  refine hv_some ?_
  refine ⟨⟨?_, ?_, ?_, ?_, ?_, ?_⟩, fun i q1 q2 => ?_, fun k hk => ?_, fun x i q1 q2 => ?_⟩
  · simp (disch := omega) only [u_n2]
    rw [h2 _ _ (by omega)]
    simp (disch := omega) only [u_n2, u_eq]
  · simp (disch := omega) only [u_n2]
    rw [h2 _ _ (by omega)]
    simp (disch := omega) only [u_n2, u_eq]
  · simp (disch := omega) only [u_n2]
    rw [h2 _ _ (by omega)]
    simp (disch := omega) only [u_n2, u_eq]
  · simp (disch := omega) only [u_n2, u_eq]
  · simp (disch := omega) only [u_n2, u_eq]
  · simp (disch := omega) only [u_n2, u_eq]
  · rcases (show i = 14 ∨ i = 15 ∨ i = 16 ∨ i = 17 ∨ i = 18 ∨ i = 19 by omega) with rfl | rfl | rfl | rfl | rfl | rfl <;> simp (disch := omega) only [u_n2, u_eq]
  · simp (disch := omega) only [u_n1]
    exact h1 k hk
  · rw [u_ne (by omega), u_ne (by omega), u_ne (by omega), u_ne (by omega), u_ne (by omega), u_ne (by omega), u_ne (by omega), u_ne (by omega), u_ne (by omega), h2 x i q2, u_ne (by omega), u_ne (by omega), u_ne (by omega)]
/-- what a start makes of a runner -/
def StC (t : Nat) (C C' : ao_M) : Prop := C (92 + 71 * t) 2 = 0 ∧ (∀ x i, 92 + 71 * t ≤ x → x < 92 + 71 * t + 71 → C' x i = C x i) ∨ C (92 + 71 * t) 2 ≠ 0 ∧ (C' (92 + 71 * t) 2 = 1 ∧ C' (92 + 71 * t) 3 = 0 ∧ C' (92 + 71 * t) 5 = 0 ∧ C' (92 + 71 * t) 8 = 0 ∧ C' (92 + 71 * t) 11 = 0 ∧ C' (92 + 71 * t) 13 = 0) ∧ (∀ i, 14 ≤ i → i ≤ 19 → C' (92 + 71 * t) i = 0) ∧ (∀ k, k < 26 → C' (92 + 71 * t + 6) k = 0) ∧ C' (92 + 71 * t) 0 = C (92 + 71 * t) 0
theorem StC_mv {t : Nat} {C C1 C2 C' : ao_M} (h : StC t C1 C2) (e1 : ∀ x i, 92 + 71 * t ≤ x → x < 92 + 71 * t + 71 → C1 x i = C x i) (e2 : ∀ x i, 92 + 71 * t ≤ x → x < 92 + 71 * t + 71 → C' x i = C2 x i) : StC t C C' := by
  have f1 : ∀ i, C1 (92 + 71 * t) i = C (92 + 71 * t) i := fun i => e1 _ _ (by omega) (by omega)
  have f2 : ∀ i, C' (92 + 71 * t) i = C2 (92 + 71 * t) i := fun i => e2 _ _ (by omega) (by omega)
  have f3 : ∀ i, C' (92 + 71 * t + 6) i = C2 (92 + 71 * t + 6) i := fun i => e2 _ _ (by omega) (by omega)
  rcases h with ⟨h1, h2⟩ | ⟨h1, h2, h3, h4, h5⟩
  · refine Or.inl ⟨by rw [← f1]; exact h1, fun x i q1 q2 => by rw [e2 x i q1 q2, h2 x i q1 q2, e1 x i q1 q2]⟩
  · refine Or.inr ⟨by rw [← f1]; exact h1, ?_, fun i q1 q2 => by rw [f2]; exact h3 i q1 q2, fun k hk => by rw [f3]; exact h4 k hk, by rw [f2, ← f1]; exact h5⟩
    rw [f2, f2, f2, f2, f2, f2]; exact h2
set_option maxHeartbeats 8000000 in
theorem c_staL (hc : ShA ρ) (hb : ShB ρ) {w : Int32} : ∀ (k u : Nat) (C : ao_M), u + k = 6 → hv (fun n => fX2_startAgain n 34 12 w (nI u) C ρ) (fun C' => (∀ t, u ≤ t → t < 6 → StC t C C') ∧ ∀ x i, ¬ (92 + 71 * u ≤ x ∧ x < 518) → C' x i = C x i) := by
  intro k
  induction k with
  | zero =>
    intro u C h
    obtain rfl : u = 6 := by omega
    refine hv_up (fun _ => fX2_startAgain.eq_2 ..) ?_
    try simp only [↓reduceIte, Nat.reduceEqDiff, Option.bind_some, ao_let, n_ell, hc]
    try simp (disch := first | omega | assumption) only [↓reduceIte, Nat.reduceEqDiff, Option.bind_some, ao_let, t_le, f_le, t_lt, f_lt, f_eq, u_eq, u_n1, u_n2, n_cl, n_lt, n_le, n_eq, n_ltl, n_llt, n_lel, n_lle, n_eql, n_leq, n_add, n_mul, n_sub, n_addl, n_ladd, n_mull, n_lmul, n_subl, Int32.reduceLT, Int32.reduceLE, Int32.reduceAdd, Int32.reduceSub, Int32.reduceMul, Int32.reduceToNatClampNeg, not_false_eq_true, not_true_eq_false, or_false, false_or, or_self, and_self, false_and, true_and, and_false, and_true, true_or, or_true, Nat.reduceAdd, Nat.reduceMul, Nat.reduceLT, Nat.reduceLeDiff, ne_eq, n_ell, hc]
    exact hv_some ⟨fun t h1 h2 => by omega, fun _ _ _ => rfl⟩
  | succ k ih =>
    intro u C h
    have hR := RnS_of hb (show u < 6 by omega)
    have h91 : ρ.1 91 u = some (92 + 71 * u) := by obtain ⟨a0, _⟩ := hb; exact a0 u (by omega)
    have nx : ∀ C1, StC u C C1 → (∀ x i, ¬ (92 + 71 * u ≤ x ∧ x < 92 + 71 * u + 71) → C1 x i = C x i) → hv (fun n => fX2_startAgain n 61 12 w (nI u) C1 ρ) (fun C' => (∀ t, u ≤ t → t < 6 → StC t C C') ∧ ∀ x i, ¬ (92 + 71 * u ≤ x ∧ x < 518) → C' x i = C x i) := by
      intro C1 s1 s2
      refine hv_up (fun _ => fX2_startAgain.eq_2 ..) ?_
      try simp only [↓reduceIte, Nat.reduceEqDiff, Option.bind_some, ao_let, n_ell]
      try simp (disch := first | omega | assumption) only [↓reduceIte, Nat.reduceEqDiff, Option.bind_some, ao_let, t_le, f_le, t_lt, f_lt, f_eq, u_eq, u_n1, u_n2, n_cl, n_lt, n_le, n_eq, n_ltl, n_llt, n_lel, n_lle, n_eql, n_leq, n_add, n_mul, n_sub, n_addl, n_ladd, n_mull, n_lmul, n_subl, Int32.reduceLT, Int32.reduceLE, Int32.reduceAdd, Int32.reduceSub, Int32.reduceMul, Int32.reduceToNatClampNeg, not_false_eq_true, not_true_eq_false, or_false, false_or, or_self, and_self, false_and, true_and, and_false, and_true, true_or, or_true, Nat.reduceAdd, Nat.reduceMul, Nat.reduceLT, Nat.reduceLeDiff, ne_eq, n_ell]
      refine hv_mono (ih (u + 1) C1 (by omega)) ?_
      rintro C' ⟨g1, g2⟩
      refine ⟨fun t q1 q2 => ?_, fun x i q => ?_⟩
      · by_cases e : t = u
        · subst e
          exact StC_mv s1 (fun _ _ _ _ => rfl) (fun x i z1 z2 => g2 x i (by omega))
        · exact StC_mv (g1 t (by omega) q2) (fun x i z1 z2 => s2 x i (by omega)) (fun _ _ _ _ => rfl)
      · rw [g2 x i (by omega), s2 x i (by omega)]
    refine hv_up (fun _ => fX2_startAgain.eq_2 ..) ?_
    try simp only [↓reduceIte, Nat.reduceEqDiff, Option.bind_some, ao_let, n_ell, hc, h91, hR]
    try simp (disch := first | omega | assumption) only [↓reduceIte, Nat.reduceEqDiff, Option.bind_some, ao_let, t_le, f_le, t_lt, f_lt, f_eq, u_eq, u_n1, u_n2, n_cl, n_lt, n_le, n_eq, n_ltl, n_llt, n_lel, n_lle, n_eql, n_leq, n_add, n_mul, n_sub, n_addl, n_ladd, n_mull, n_lmul, n_subl, Int32.reduceLT, Int32.reduceLE, Int32.reduceAdd, Int32.reduceSub, Int32.reduceMul, Int32.reduceToNatClampNeg, not_false_eq_true, not_true_eq_false, or_false, false_or, or_self, and_self, false_and, true_and, and_false, and_true, true_or, or_true, Nat.reduceAdd, Nat.reduceMul, Nat.reduceLT, Nat.reduceLeDiff, ne_eq, n_ell, hc, h91, hR]
    by_cases e : C (92 + 71 * u) 2 = 0
    · refine hv_ifT e ?_
      exact nx C (Or.inl ⟨e, fun _ _ _ _ => rfl⟩) (fun _ _ _ => rfl)
    · refine hv_ifF e ?_
      refine hv_bind (c_renew hb (show u < 6 by omega) C) ?_
      rintro C1 ⟨r1, r2, r3, r4⟩
      exact nx C1 (Or.inr ⟨e, r1, r2, r3, r4 _ _ (by omega) (by omega)⟩) (fun x i q => r4 x i (by omega) (by omega))
/-- what a start makes of places -/
def ClrC (C C' : ao_M) : Prop := (∀ p, p < 26 → C' 14 p = 0 ∧ C' 15 p = 0 ∧ C' 16 p = -1 ∧ C' 17 p = 0 ∧ C' 18 p = -1) ∧ C' 13 4 = 0 ∧ C' 13 10 = 0 ∧ ∀ x i, ¬ (14 ≤ x ∧ x ≤ 18) → ¬ (x = 13 ∧ (i = 4 ∨ i = 10)) → C' x i = C x i
theorem c_clear (hc : ShA ρ) (C : ao_M) : hv (fun n => gX5_clear n 13 C ρ) (ClrC C) := by
  unfold gX5_clear
  simp only [hc, ↓reduceIte, Option.bind_some]
  refine hv_bind (c_fill (a := 14) (L := 26) (by simp only [hc]) (by simp only [hc]) (by omega) _) ?_
  rintro C1 ⟨a1, a2⟩
  refine hv_bind (c_fill (a := 15) (L := 26) (by simp only [hc]) (by simp only [hc]) (by omega) _) ?_
  rintro C2 ⟨b1, b2⟩
  refine hv_bind (c_fill (a := 16) (L := 26) (by simp only [hc]) (by simp only [hc]) (by omega) _) ?_
  rintro C3 ⟨c1, c2⟩
  refine hv_bind (c_fill (a := 17) (L := 26) (by simp only [hc]) (by simp only [hc]) (by omega) _) ?_
  rintro C4 ⟨d1, d2⟩
  refine hv_bind (c_fill (a := 18) (L := 26) (by simp only [hc]) (by simp only [hc]) (by omega) _) ?_
  rintro C5 ⟨e1, e2⟩
  simp only [ao_let]
  refine hv_some ⟨fun p hp => ⟨?_, ?_, ?_, ?_, ?_⟩, ?_, ?_, fun x i q1 q2 => ?_⟩
  · rw [u_ne (by omega), u_ne (by omega), e2 _ _ (by omega), d2 _ _ (by omega), c2 _ _ (by omega), b2 _ _ (by omega)]; exact a1 p hp
  · rw [u_ne (by omega), u_ne (by omega), e2 _ _ (by omega), d2 _ _ (by omega), c2 _ _ (by omega)]; exact b1 p hp
  · rw [u_ne (by omega), u_ne (by omega), e2 _ _ (by omega), d2 _ _ (by omega)]; exact c1 p hp
  · rw [u_ne (by omega), u_ne (by omega), e2 _ _ (by omega)]; exact d1 p hp
  · rw [u_ne (by omega), u_ne (by omega)]; exact e1 p hp
  · rw [u_ne (by omega), u_eq]
  · rw [u_eq]
  · rw [u_ne (by omega), u_ne (by omega), e2 _ _ (by omega), d2 _ _ (by omega), c2 _ _ (by omega), b2 _ _ (by omega), a2 _ _ (by omega)]
/-! the reference -/
def ResV (t : Nat) (D D' : ao_M) : Prop := D' 551 t = (if D 551 t = 0 then 0 else 1) ∧ (D' 552 t = 0 ∧ D' 555 t = 0 ∧ D' 556 t = 0 ∧ D' 557 t = 0 ∧ D' 558 t = 0 ∧ D' 559 t = 0 ∧ D' 561 t = 0 ∧ D' 562 t = 0) ∧ ∀ k, k < 26 → D' 553 (t * 26 + k) = 0
def ResF (t : Nat) (D D' : ao_M) : Prop := ∀ x i, ¬ (551 ≤ x ∧ x ≤ 562 ∧ x ≠ 553 ∧ x ≠ 554 ∧ i = t) → ¬ (x = 553 ∧ t * 26 ≤ i ∧ i < t * 26 + 26) → ¬ ((x = 577 ∨ x = 578) ∧ t * 12 * 26 ≤ i ∧ i < t * 12 * 26 + 26) → ¬ (x = 584 ∧ i = t * 12) → D' x i = D x i
theorem d_resL (hs : ShD σ) {t : Nat} (ht : t < 6) : ∀ (k u : Nat) (D : ao_M), u + k = 26 → hv (fun n => fX12_reset n 74 537 (nI t) (nI u) D σ) (fun D' => (∀ k, u ≤ k → k < 26 → D' 553 (t * 26 + k) = 0) ∧ ∀ x i, ¬ (x = 553 ∧ t * 26 + u ≤ i ∧ i < t * 26 + 26) → ¬ ((x = 577 ∨ x = 578) ∧ t * 12 * 26 ≤ i ∧ i < t * 12 * 26 + 26) → ¬ (x = 584 ∧ i = t * 12) → D' x i = D x i) := by
  intro k
  induction k with
  | zero =>
    intro u D h
    obtain rfl : u = 26 := by omega
    refine hv_up (fun _ => fX12_reset.eq_2 ..) ?_
    try simp only [↓reduceIte, Nat.reduceEqDiff, Option.bind_some, ao_let, n_ell, hs]
    try simp (disch := first | omega | assumption) only [↓reduceIte, Nat.reduceEqDiff, Option.bind_some, ao_let, t_le, f_le, t_lt, f_lt, f_eq, u_eq, u_n1, u_n2, n_cl, n_lt, n_le, n_eq, n_ltl, n_llt, n_lel, n_lle, n_eql, n_leq, n_add, n_mul, n_sub, n_addl, n_ladd, n_mull, n_lmul, n_subl, Int32.reduceLT, Int32.reduceLE, Int32.reduceAdd, Int32.reduceSub, Int32.reduceMul, Int32.reduceToNatClampNeg, not_false_eq_true, not_true_eq_false, or_false, false_or, or_self, and_self, false_and, true_and, and_false, and_true, true_or, or_true, Nat.reduceAdd, Nat.reduceMul, Nat.reduceLT, Nat.reduceLeDiff, ne_eq, n_ell, hs]
    refine hv_bind (dv_clear (l := 0) (Q := fun z => z = dClear t 0 D) hs ht (by omega) D rfl) ?_
    rintro _ rfl
    refine hv_some ⟨fun k h1 h2 => by omega, fun x i q1 q2 q3 => ?_⟩
    unfold dClear
    rw [Nat.add_zero, if_neg q2, if_neg q3]
  | succ k ih =>
    intro u D h
    refine hv_up (fun _ => fX12_reset.eq_2 ..) ?_
    try simp only [↓reduceIte, Nat.reduceEqDiff, Option.bind_some, ao_let, n_ell, hs]
    try simp (disch := first | omega | assumption) only [↓reduceIte, Nat.reduceEqDiff, Option.bind_some, ao_let, t_le, f_le, t_lt, f_lt, f_eq, u_eq, u_n1, u_n2, n_cl, n_lt, n_le, n_eq, n_ltl, n_llt, n_lel, n_lle, n_eql, n_leq, n_add, n_mul, n_sub, n_addl, n_ladd, n_mull, n_lmul, n_subl, Int32.reduceLT, Int32.reduceLE, Int32.reduceAdd, Int32.reduceSub, Int32.reduceMul, Int32.reduceToNatClampNeg, not_false_eq_true, not_true_eq_false, or_false, false_or, or_self, and_self, false_and, true_and, and_false, and_true, true_or, or_true, Nat.reduceAdd, Nat.reduceMul, Nat.reduceLT, Nat.reduceLeDiff, ne_eq, n_ell, hs]
    refine hv_mono (ih (u + 1) _ (by omega)) ?_
    rintro D' ⟨g1, g2⟩
    refine ⟨fun j q1 q2 => ?_, fun x i q1 q2 q3 => ?_⟩
    · by_cases e : j = u
      · subst e
        rw [g2 _ _ (by omega) (by omega) (by omega), u_eq]
      · exact g1 j (by omega) q2
    · rw [g2 x i (by omega) q2 q3, u_ne (by omega)]
set_option maxHeartbeats 8000000 in
theorem d_reset (hs : ShD σ) {t : Nat} (ht : t < 6) (D : ao_M) : hv (fun n => gX12_reset n 537 (nI t) D σ) (fun D' => ResV t D D' ∧ ResF t D D') := by
  have nx : ∀ D1, D1 551 t = (if D 551 t = 0 then 0 else 1) → (∀ x i, ¬ (x = 551 ∧ i = t) → D1 x i = D x i) → hv (fun n => fX12_reset n 16 537 (nI t) 0 D1 σ) (fun D' => ResV t D D' ∧ ResF t D D') := by
    intro D1 h1 h2
    refine hv_up (fun _ => fX12_reset.eq_2 ..) ?_
    try simp only [↓reduceIte, Nat.reduceEqDiff, Option.bind_some, ao_let, n_ell, hs]
    try simp (disch := first | omega | assumption) only [↓reduceIte, Nat.reduceEqDiff, Option.bind_some, ao_let, t_le, f_le, t_lt, f_lt, f_eq, u_eq, u_n1, u_n2, n_cl, n_lt, n_le, n_eq, n_ltl, n_llt, n_lel, n_lle, n_eql, n_leq, n_add, n_mul, n_sub, n_addl, n_ladd, n_mull, n_lmul, n_subl, Int32.reduceLT, Int32.reduceLE, Int32.reduceAdd, Int32.reduceSub, Int32.reduceMul, Int32.reduceToNatClampNeg, not_false_eq_true, not_true_eq_false, or_false, false_or, or_self, and_self, false_and, true_and, and_false, and_true, true_or, or_true, Nat.reduceAdd, Nat.reduceMul, Nat.reduceLT, Nat.reduceLeDiff, ne_eq, n_ell, hs]
    refine hv_mono (d_resL hs ht 26 0 _ rfl) ?_
    rintro D' ⟨g1, g2⟩
    refine ⟨⟨?_, ⟨?_, ?_, ?_, ?_, ?_, ?_, ?_, ?_⟩, fun k hk => g1 k (by omega) hk⟩, fun x i q1 q2 q3 q4 => ?_⟩
    · rw [g2 _ _ (by omega) (by omega) (by omega), u_ne (by omega), u_ne (by omega), u_ne (by omega), u_ne (by omega), u_ne (by omega), u_ne (by omega), u_ne (by omega), u_ne (by omega)]; exact h1
    · rw [g2 _ _ (by omega) (by omega) (by omega)]
      simp (disch := omega) only [u_n1, u_eq]
    · rw [g2 _ _ (by omega) (by omega) (by omega)]
      simp (disch := omega) only [u_n1, u_eq]
    · rw [g2 _ _ (by omega) (by omega) (by omega)]
      simp (disch := omega) only [u_n1, u_eq]
    · rw [g2 _ _ (by omega) (by omega) (by omega)]
      simp (disch := omega) only [u_n1, u_eq]
    · rw [g2 _ _ (by omega) (by omega) (by omega)]
      simp (disch := omega) only [u_n1, u_eq]
    · rw [g2 _ _ (by omega) (by omega) (by omega)]
      simp (disch := omega) only [u_n1, u_eq]
    · rw [g2 _ _ (by omega) (by omega) (by omega)]
      simp (disch := omega) only [u_n1, u_eq]
    · rw [g2 _ _ (by omega) (by omega) (by omega)]
      simp (disch := omega) only [u_n1, u_eq]
    · rw [g2 x i (by omega) q3 q4, u_ne (by omega), u_ne (by omega), u_ne (by omega), u_ne (by omega), u_ne (by omega), u_ne (by omega), u_ne (by omega), u_ne (by omega)]
      exact h2 x i (by omega)
  unfold gX12_reset
  refine hv_up (fun _ => fX12_reset.eq_2 ..) ?_
  try simp only [↓reduceIte, Nat.reduceEqDiff, Option.bind_some, ao_let, n_ell, hs]
  try simp (disch := first | omega | assumption) only [↓reduceIte, Nat.reduceEqDiff, Option.bind_some, ao_let, t_le, f_le, t_lt, f_lt, f_eq, u_eq, u_n1, u_n2, n_cl, n_lt, n_le, n_eq, n_ltl, n_llt, n_lel, n_lle, n_eql, n_leq, n_add, n_mul, n_sub, n_addl, n_ladd, n_mull, n_lmul, n_subl, Int32.reduceLT, Int32.reduceLE, Int32.reduceAdd, Int32.reduceSub, Int32.reduceMul, Int32.reduceToNatClampNeg, not_false_eq_true, not_true_eq_false, or_false, false_or, or_self, and_self, false_and, true_and, and_false, and_true, true_or, or_true, Nat.reduceAdd, Nat.reduceMul, Nat.reduceLT, Nat.reduceLeDiff, ne_eq, n_ell, hs]
  by_cases e : D 551 t = 0
  · exact hv_ifT e (nx D (by rw [if_pos e]; exact e) (fun _ _ _ => rfl))
  · exact hv_ifF e (nx _ (by rw [if_neg e, u_eq]) (fun x i q => u_ne (by omega)))
set_option maxHeartbeats 8000000 in
theorem d_bgT (hs : ShD σ) {w : Int32} : ∀ (k u : Nat) (D : ao_M), u + k = 6 → hv (fun n => fX12_begin n 96 537 w (nI u) D σ) (fun D' => (∀ t, u ≤ t → t < 6 → ResV t D D') ∧ ∀ x i, (x < 551 ∨ 584 < x ∨ 551 ≤ x ∧ x ≤ 562 ∧ x ≠ 553 ∧ i < u ∨ x = 553 ∧ i < u * 26) → D' x i = D x i) := by
  intro k
  induction k with
  | zero =>
    intro u D h
    obtain rfl : u = 6 := by omega
    refine hv_up (fun _ => fX12_begin.eq_2 ..) ?_
    try simp only [↓reduceIte, Nat.reduceEqDiff, Option.bind_some, ao_let, n_ell, hs]
    try simp (disch := first | omega | assumption) only [↓reduceIte, Nat.reduceEqDiff, Option.bind_some, ao_let, t_le, f_le, t_lt, f_lt, f_eq, u_eq, u_n1, u_n2, n_cl, n_lt, n_le, n_eq, n_ltl, n_llt, n_lel, n_lle, n_eql, n_leq, n_add, n_mul, n_sub, n_addl, n_ladd, n_mull, n_lmul, n_subl, Int32.reduceLT, Int32.reduceLE, Int32.reduceAdd, Int32.reduceSub, Int32.reduceMul, Int32.reduceToNatClampNeg, not_false_eq_true, not_true_eq_false, or_false, false_or, or_self, and_self, false_and, true_and, and_false, and_true, true_or, or_true, Nat.reduceAdd, Nat.reduceMul, Nat.reduceLT, Nat.reduceLeDiff, ne_eq, n_ell, hs]
    exact hv_some ⟨fun t h1 h2 => by omega, fun _ _ _ => rfl⟩
  | succ k ih =>
    intro u D h
    refine hv_up (fun _ => fX12_begin.eq_2 ..) ?_
    try simp only [↓reduceIte, Nat.reduceEqDiff, Option.bind_some, ao_let, n_ell, hs]
    try simp (disch := first | omega | assumption) only [↓reduceIte, Nat.reduceEqDiff, Option.bind_some, ao_let, t_le, f_le, t_lt, f_lt, f_eq, u_eq, u_n1, u_n2, n_cl, n_lt, n_le, n_eq, n_ltl, n_llt, n_lel, n_lle, n_eql, n_leq, n_add, n_mul, n_sub, n_addl, n_ladd, n_mull, n_lmul, n_subl, Int32.reduceLT, Int32.reduceLE, Int32.reduceAdd, Int32.reduceSub, Int32.reduceMul, Int32.reduceToNatClampNeg, not_false_eq_true, not_true_eq_false, or_false, false_or, or_self, and_self, false_and, true_and, and_false, and_true, true_or, or_true, Nat.reduceAdd, Nat.reduceMul, Nat.reduceLT, Nat.reduceLeDiff, ne_eq, n_ell, hs]
    refine hv_bind (d_reset hs (show u < 6 by omega) D) ?_
    rintro D1 ⟨⟨v1, v2, v3⟩, f1⟩
    try simp only [n_addl]
    refine hv_mono (ih (u + 1) D1 (by omega)) ?_
    rintro D' ⟨g1, g2⟩
    have low : ∀ x, 551 ≤ x → x ≤ 562 → x ≠ 553 → D' x u = D1 x u := fun x q1 q2 q3 => g2 x u (by omega)
    refine ⟨fun t q1 q2 => ?_, fun x i q => ?_⟩
    · by_cases e : t = u
      · subst e
        refine ⟨by rw [low _ (by omega) (by omega) (by omega)]; exact v1, ?_, fun k hk => by rw [g2 _ _ (by omega)]; exact v3 k hk⟩
        rw [low _ (by omega) (by omega) (by omega), low _ (by omega) (by omega) (by omega), low _ (by omega) (by omega) (by omega), low _ (by omega) (by omega) (by omega), low _ (by omega) (by omega) (by omega), low _ (by omega) (by omega) (by omega), low _ (by omega) (by omega) (by omega), low _ (by omega) (by omega) (by omega)]
        exact v2
      · obtain ⟨z1, z2⟩ := g1 t (by omega) q2
        refine ⟨?_, z2⟩
        rw [z1, f1 _ _ (by omega) (by omega) (by omega) (by omega)]
    · rw [g2 x i (by omega), f1 x i (by omega) (by omega) (by omega) (by omega)]
theorem d_bgP (hs : ShD σ) {w : Int32} {Q : ao_M → Prop} : ∀ (k u : Nat) (D : ao_M), u + k = 26 → (∀ D', (∀ p, u ≤ p → p < 26 → D' 542 p = 0 ∧ D' 543 p = 0 ∧ D' 544 p = -1 ∧ D' 545 p = 0 ∧ D' 546 p = -1) → (∀ x i, ¬ (542 ≤ x ∧ x ≤ 546 ∧ u ≤ i) → D' x i = D x i) → hv (fun n => fX12_begin n 96 537 w 0 D' σ) Q) → hv (fun n => fX12_begin n 47 537 w (nI u) D σ) Q := by
  intro k
  induction k with
  | zero =>
    intro u D h q
    obtain rfl : u = 26 := by omega
    refine hv_up (fun _ => fX12_begin.eq_2 ..) ?_
    try simp only [↓reduceIte, Nat.reduceEqDiff, Option.bind_some, ao_let, n_ell, hs]
    try simp (disch := first | omega | assumption) only [↓reduceIte, Nat.reduceEqDiff, Option.bind_some, ao_let, t_le, f_le, t_lt, f_lt, f_eq, u_eq, u_n1, u_n2, n_cl, n_lt, n_le, n_eq, n_ltl, n_llt, n_lel, n_lle, n_eql, n_leq, n_add, n_mul, n_sub, n_addl, n_ladd, n_mull, n_lmul, n_subl, Int32.reduceLT, Int32.reduceLE, Int32.reduceAdd, Int32.reduceSub, Int32.reduceMul, Int32.reduceToNatClampNeg, not_false_eq_true, not_true_eq_false, or_false, false_or, or_self, and_self, false_and, true_and, and_false, and_true, true_or, or_true, Nat.reduceAdd, Nat.reduceMul, Nat.reduceLT, Nat.reduceLeDiff, ne_eq, n_ell, hs]
    exact q D (fun p h1 h2 => by omega) (fun _ _ _ => rfl)
  | succ k ih =>
    intro u D h q
    refine hv_up (fun _ => fX12_begin.eq_2 ..) ?_
    try simp only [↓reduceIte, Nat.reduceEqDiff, Option.bind_some, ao_let, n_ell, hs]
    try simp (disch := first | omega | assumption) only [↓reduceIte, Nat.reduceEqDiff, Option.bind_some, ao_let, t_le, f_le, t_lt, f_lt, f_eq, u_eq, u_n1, u_n2, n_cl, n_lt, n_le, n_eq, n_ltl, n_llt, n_lel, n_lle, n_eql, n_leq, n_add, n_mul, n_sub, n_addl, n_ladd, n_mull, n_lmul, n_subl, Int32.reduceLT, Int32.reduceLE, Int32.reduceAdd, Int32.reduceSub, Int32.reduceMul, Int32.reduceToNatClampNeg, not_false_eq_true, not_true_eq_false, or_false, false_or, or_self, and_self, false_and, true_and, and_false, and_true, true_or, or_true, Nat.reduceAdd, Nat.reduceMul, Nat.reduceLT, Nat.reduceLeDiff, ne_eq, n_ell, hs]
    refine ih (u + 1) _ (by omega) (fun D' g1 g2 => q D' (fun p q1 q2 => ?_) (fun x i q1 => ?_))
    · by_cases e : p = u
      · subst e
        rw [g2 _ _ (by omega), g2 _ _ (by omega), g2 _ _ (by omega), g2 _ _ (by omega), g2 _ _ (by omega)]
        simp (disch := omega) only [u_n1, u_eq, and_self]
      · exact g1 p (by omega) q2
    · rw [g2 x i (by omega), u_ne (by omega), u_ne (by omega), u_ne (by omega), u_ne (by omega), u_ne (by omega)]
/-- what a start makes of the reference -/
def BgD (w : Int32) (D D' : ao_M) : Prop := (D' 537 27 = w ∧ D' 537 26 = 0 ∧ D' 537 25 = 0 ∧ D' 537 68 = 0 ∧ D' 537 76 = 0 ∧ D' 537 65 = 0 ∧ D' 537 63 = 0 ∧ D' 537 82 = 0 ∧ D' 537 3 = -1) ∧ (∀ p, p < 26 → D' 542 p = 0 ∧ D' 543 p = 0 ∧ D' 544 p = -1 ∧ D' 545 p = 0 ∧ D' 546 p = -1) ∧ (∀ t, t < 6 → ResV t D D') ∧
  ∀ x i, ¬ (x = 537 ∧ (i = 3 ∨ i = 25 ∨ i = 26 ∨ i = 27 ∨ i = 63 ∨ i = 65 ∨ i = 68 ∨ i = 76 ∨ i = 82)) → (x < 542 ∨ 546 < x ∧ x < 551 ∨ 584 < x) → D' x i = D x i
theorem d_begin (hs : ShD σ) {w : Int32} (D : ao_M) : hv (fun n => gX12_begin n 537 w D σ) (BgD w D) := by
  unfold gX12_begin
  refine hv_up (fun _ => fX12_begin.eq_2 ..) ?_
  try simp only [↓reduceIte, Nat.reduceEqDiff, Option.bind_some, ao_let, n_ell, hs]
  try simp (disch := first | omega | assumption) only [↓reduceIte, Nat.reduceEqDiff, Option.bind_some, ao_let, t_le, f_le, t_lt, f_lt, f_eq, u_eq, u_n1, u_n2, n_cl, n_lt, n_le, n_eq, n_ltl, n_llt, n_lel, n_lle, n_eql, n_leq, n_add, n_mul, n_sub, n_addl, n_ladd, n_mull, n_lmul, n_subl, Int32.reduceLT, Int32.reduceLE, Int32.reduceAdd, Int32.reduceSub, Int32.reduceMul, Int32.reduceToNatClampNeg, not_false_eq_true, not_true_eq_false, or_false, false_or, or_self, and_self, false_and, true_and, and_false, and_true, true_or, or_true, Nat.reduceAdd, Nat.reduceMul, Nat.reduceLT, Nat.reduceLeDiff, ne_eq, n_ell, hs]
  refine d_bgP hs 26 0 _ rfl (fun D1 g1 g2 => ?_)
  refine hv_mono (d_bgT hs 6 0 D1 rfl) ?_
  rintro D' ⟨g3, g4⟩
  refine ⟨⟨?_, ?_, ?_, ?_, ?_, ?_, ?_, ?_, ?_⟩, fun p hp => ?_, fun t ht => ?_, fun x i q1 q2 => ?_⟩
  · rw [g4 _ _ (by omega), g2 _ _ (by omega)]; simp (disch := omega) only [u_n2, u_eq]
  · rw [g4 _ _ (by omega), g2 _ _ (by omega)]; simp (disch := omega) only [u_n2, u_eq]
  · rw [g4 _ _ (by omega), g2 _ _ (by omega)]; simp (disch := omega) only [u_n2, u_eq]
  · rw [g4 _ _ (by omega), g2 _ _ (by omega)]; simp (disch := omega) only [u_n2, u_eq]
  · rw [g4 _ _ (by omega), g2 _ _ (by omega)]; simp (disch := omega) only [u_n2, u_eq]
  · rw [g4 _ _ (by omega), g2 _ _ (by omega)]; simp (disch := omega) only [u_n2, u_eq]
  · rw [g4 _ _ (by omega), g2 _ _ (by omega)]; simp (disch := omega) only [u_n2, u_eq]
  · rw [g4 _ _ (by omega), g2 _ _ (by omega)]; simp (disch := omega) only [u_n2, u_eq]
  · rw [g4 _ _ (by omega), g2 _ _ (by omega)]; simp (disch := omega) only [u_n2, u_eq]
  · rw [g4 _ _ (by omega), g4 _ _ (by omega), g4 _ _ (by omega), g4 _ _ (by omega), g4 _ _ (by omega)]
    exact g1 p (by omega) hp
  · obtain ⟨z1, z2⟩ := g3 t (by omega) ht
    refine ⟨?_, z2⟩
    rw [z1, g2 _ _ (by omega)]
    simp (disch := omega) only [u_n1]
  · rw [g4 x i (by omega), g2 x i (by omega), u_ne (by omega), u_ne (by omega), u_ne (by omega), u_ne (by omega), u_ne (by omega), u_ne (by omega), u_ne (by omega), u_ne (by omega), u_ne (by omega)]
end Cc7
