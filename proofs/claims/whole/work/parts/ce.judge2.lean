set_option linter.unusedSimpArgs false
set_option linter.unusedVariables false
/-! ===== the judge: both try orders alike ===== -/
section Cce
variable {C D : ao_M} {ρ σ : ao_H} {k d τ : Nat} {pl : Int32}
theorem n_addm {n : Nat} : nI (n + 1) + (-1 : Int32) = nI n := by
  rw [show nI (n + 1) = nI n + nI 1 from n_add.symm, Int32.add_assoc, show nI 1 + (-1 : Int32) = 0 from by decide, Int32.add_zero]
/-- what the judge goes by, on both sides -/
def JK (k : Nat) (C D : ao_M) : Prop := (k ≤ 14 ∧ C 25 9 = nI k ∧ D 537 76 = nI k) ∧ (∀ i, i < k → C 29 i = D 588 i ∧ C 30 i = D 589 i ∧ C 27 i = nI (cntF D 592 i) ∧ C 28 i = nI (cntF D 593 i) ∧ (∀ p, p < 26 → (D 592 (i * 26 + p) = 0 ∨ D 592 (i * 26 + p) = 1) ∧ (D 593 (i * 26 + p) = 0 ∨ D 593 (i * 26 + p) = 1)) ∧ RecL C D 592 590 32 47 i ∧ RecL C D 593 591 62 77 i) ∧ (∀ i, i < 300 → C 29 i ≤ C 30 i) ∧ (∀ j, j < k → ∀ i, bt (C 536 j) i = true ↔ i < k ∧ ah C i j) ∧ ∀ p, p < 26 → C 14 p = D 542 p ∧ C 16 p = D 544 p ∧ (C 16 p = -1 ∨ ∃ t, t < 6 ∧ C 16 p = nI t)
/-- what trying leaves alone -/
def FxC (C C' : ao_M) : Prop := ∀ x i, ¬ (x = 518 ∧ i = 4) → x ≠ 519 → ¬ (521 ≤ x ∧ x ≤ 535) → C' x i = C x i
def FxD (D D' : ao_M) : Prop := ∀ x i, ¬ (594 ≤ x ∧ x ≤ 597) → ¬ (x = 537 ∧ i = 82) → D' x i = D x i
theorem FxC_tr {C1 C2 C3 : ao_M} (h : FxC C1 C2) (g : FxC C2 C3) : FxC C1 C3 := fun x i p q r => by rw [g x i p q r, h x i p q r]
theorem FxD_tr {D1 D2 D3 : ao_M} (h : FxD D1 D2) (g : FxD D2 D3) : FxD D1 D3 := fun x i p q => by rw [g x i p q, h x i p q]
theorem RecL_mv {fa va pl vl i : Nat} {C' D' : ao_M} (h : RecL C D fa va pl vl i) (hC : ∀ n, C' (pl + i) n = C (pl + i) n ∧ C' (vl + i) n = C (vl + i) n) (hD : ∀ n, D' fa n = D fa n ∧ D' va n = D va n) : RecL C' D' fa va pl vl i := by
  have ec : cntF D' fa i = cntF D fa i := by
    unfold cntF
    exact List.countP_congr (fun p _ => by rw [(hD _).1])
  obtain ⟨h1, h2⟩ := h
  refine ⟨fun n hn => ?_, fun p hp hf => ?_⟩
  · rw [ec] at hn
    obtain ⟨p, q1, q2, q3, q4⟩ := h1 n hn
    exact ⟨p, q1, by rw [(hC n).1]; exact q2, by rw [(hD _).1]; exact q3, by rw [(hC n).2, (hD _).2]; exact q4⟩
  · rw [(hD _).1] at hf
    obtain ⟨n, q1, q2⟩ := h2 p hp hf
    exact ⟨n, by rw [ec]; exact q1, by rw [(hC n).1]; exact q2⟩
theorem JK_mv {C' D' : ao_M} (h : JK k C D) (hC : FxC C C') (hD : FxD D D') : JK k C' D' := by
  obtain ⟨⟨a1, a2, a3⟩, a4, a5, a6, a7⟩ := h
  have cl : ∀ x i, x < 518 ∨ x = 536 → C' x i = C x i := fun x i q => hC x i (by omega) (by omega) (by omega)
  have dl : ∀ x i, ¬ (x = 537 ∧ i = 82) → x < 594 → D' x i = D x i := fun x i q1 q2 => hD x i (by omega) q1
  have ec : ∀ a i, a = 592 ∨ a = 593 → cntF D' a i = cntF D a i := fun a i ha => by
    unfold cntF
    exact List.countP_congr (fun p _ => by rw [dl _ _ (by omega) (by omega)])
  refine ⟨⟨a1, by rw [cl _ _ (by omega)]; exact a2, by rw [dl _ _ (by omega) (by omega)]; exact a3⟩, fun i hi => ?_, fun i hi => by rw [cl _ _ (by omega), cl _ _ (by omega)]; exact a5 i hi, fun j hj i => ?_, fun p hp => ?_⟩
  · obtain ⟨b1, b2, b3, b4, b5, b6, b7⟩ := a4 i hi
    refine ⟨by rw [cl _ _ (by omega), dl _ _ (by omega) (by omega)]; exact b1, by rw [cl _ _ (by omega), dl _ _ (by omega) (by omega)]; exact b2, by rw [cl _ _ (by omega), ec _ _ (by omega)]; exact b3, by rw [cl _ _ (by omega), ec _ _ (by omega)]; exact b4, fun p hp => by rw [dl _ _ (by omega) (by omega), dl _ _ (by omega) (by omega)]; exact b5 p hp, RecL_mv b6 (fun n => ⟨cl _ _ (by omega), cl _ _ (by omega)⟩) (fun n => ⟨dl _ _ (by omega) (by omega), dl _ _ (by omega) (by omega)⟩), RecL_mv b7 (fun n => ⟨cl _ _ (by omega), cl _ _ (by omega)⟩) (fun n => ⟨dl _ _ (by omega) (by omega), dl _ _ (by omega) (by omega)⟩)⟩
  · unfold ah
    rw [cl _ _ (by omega), cl _ _ (by omega), cl _ _ (by omega)]
    exact a6 j hj i
  · rw [cl _ _ (by omega), cl _ _ (by omega), dl _ _ (by omega) (by omega), dl _ _ (by omega) (by omega)]
    exact a7 p hp
/-- at a beginning of length d -/
def Jv (k d : Nat) (pl : Int32) (τ : Nat) (C D : ao_M) : Prop := JK k C D ∧ d ≤ k ∧ τ ≤ 20000 ∧ C 518 4 = nI τ ∧ (∀ d', d' ≤ d → ∀ p, p < 26 → C (521 + d') p = D 596 (d' * 26 + p)) ∧ (∀ j, j < k → D 597 j = if bt pl j = true then 1 else 0) ∧ (List.range k).countP (fun j => bt pl j) = d ∧ ∀ d', d' < d → ∃ o, o < k ∧ C 519 d' = nI o ∧ D 594 d' = nI o
/-- how a try of the class ends, and what the reference does then -/
def JO (σ : ao_H) (k d : Nat) (pl : Int32) (C D : ao_M) (run : (Int32 × ao_M → Prop) → Prop) (y : Int32 × ao_M) : Prop :=
  FxC C y.2 ∧ ((y.1 = 1 ∧ ∃ D', run (fun w => w = (1, D')) ∧ FxD D D' ∧ D' 537 82 = nI k ∧ ∀ i, i < k → y.2 519 i = D' 594 i) ∨
    (y.1 = -1 ∧ ∃ D', run (fun w => w = (-1, D')) ∧ FxD D D' ∧ D' 537 82 = D 537 82) ∨
    (y.1 = 0 ∧ ∃ D' τ', Jv k d pl τ' y.2 D' ∧ FxD D D' ∧ D' 537 82 = D 537 82 ∧ (∀ d', d' < d → D' 594 d' = D 594 d' ∧ D' 595 d' = D 595 d') ∧ ∀ Q, hv (fun a => fX12_judge a 154 537 (nI τ') (nI d) (nI k) 0 0 0 0 D' σ) Q → run Q))
theorem JO_tr {C1 D1 : ao_M} {run run1 : (Int32 × ao_M → Prop) → Prop} {y : Int32 × ao_M} (h : JO σ k d pl C1 D1 run1 y) (hC : FxC C C1) (hD : FxD D D1) (h82 : D1 537 82 = D 537 82) (hd : ∀ d', d' < d → D1 594 d' = D 594 d' ∧ D1 595 d' = D 595 d') (hr : ∀ Q, run1 Q → run Q) : JO σ k d pl C D run y := by
  obtain ⟨h1, h2⟩ := h
  refine ⟨FxC_tr hC h1, ?_⟩
  rcases h2 with ⟨e, D', q1, q2, q3, q4⟩ | ⟨e, D', q1, q2, q3⟩ | ⟨e, D', τ', q1, q2, q3, q4, q5⟩
  · exact Or.inl ⟨e, D', hr _ q1, FxD_tr hD q2, q3, q4⟩
  · exact Or.inr (Or.inl ⟨e, D', hr _ q1, FxD_tr hD q2, q3.trans h82⟩)
  · exact Or.inr (Or.inr ⟨e, D', τ', q1, FxD_tr hD q2, q3.trans h82, fun d' hd' => ⟨(q4 d' hd').1.trans (hd d' hd').1, (q4 d' hd').2.trans (hd d' hd').2⟩, fun Q hQ => hr _ (q5 Q hQ)⟩)
/-- may record j come next? -/
def mcP (k d j : Nat) (pl : Int32) (C D : ao_M) : Prop := bt pl j = false ∧ (∀ i, i < k → i ≠ j → bt pl i = false → C 29 j ≤ C 30 i) ∧ ∀ p, p < 26 → D 592 (j * 26 + p) = 1 → C (521 + d) p = D 590 (j * 26 + p)
set_option maxHeartbeats 8000000 in
theorem d_mc (hs : ShD σ) {j : Nat} (h : Jv k d pl τ C D) (hj : j < k) : hv (fun a => gX12_mayCome a 537 (nI j) (nI d) D σ) (fun y => (y = (1, D) ∧ mcP k d j pl C D) ∨ (y = (0, D) ∧ ¬ mcP k d j pl C D)) := by
  obtain ⟨⟨⟨a1, a2, a3⟩, a4, a5, a6, a7⟩, h2, h3, h4, h5, h6, h7, h8⟩ := h
  have e597 : ∀ i, i < k → (D 597 i = 0 ↔ bt pl i = false) ∧ (D 597 i = 0 ∨ D 597 i = 1) := fun i hi => by
    rw [h6 i hi]
    by_cases q : bt pl i = true
    · rw [if_pos q, q]
      exact ⟨⟨fun e => absurd e (by decide), fun e => absurd e (by decide)⟩, Or.inr rfl⟩
    · rw [if_neg q]
      exact ⟨⟨fun _ => by simpa using q, fun _ => rfl⟩, Or.inl rfl⟩
  obtain ⟨b1, b2, b3, b4, b5, b6, b7⟩ := a4 j hj
  have hrow : ∀ p, p < 26 → C (521 + d) p = D 596 (d * 26 + p) := fun p hp => h5 d (Nat.le_refl _) p hp
  have he : ∀ i, i < k → ((C 29 j ≤ C 30 i) = (D 588 j ≤ D 589 i)) := fun i hi => by rw [b1, (a4 i hi).2.1]
  unfold gX12_mayCome
  refine hv_up (fun _ => fX12_mayCome.eq_2 ..) ?_
  try simp only [↓reduceIte, Nat.reduceEqDiff, Option.bind_some, ao_let, n_ell, hs]
  try simp (disch := first | omega | assumption) only [↓reduceIte, Nat.reduceEqDiff, Option.bind_some, ao_let, t_le, f_le, t_lt, f_lt, f_eq, u_eq, u_n1, u_n2, n_cl, n_lt, n_le, n_eq, n_ltl, n_llt, n_lel, n_lle, n_eql, n_leq, n_add, n_mul, n_sub, n_addl, n_ladd, n_mull, n_lmul, n_subl, Int32.reduceLT, Int32.reduceLE, Int32.reduceAdd, Int32.reduceSub, Int32.reduceMul, Int32.reduceToNatClampNeg, not_false_eq_true, not_true_eq_false, or_false, false_or, or_self, and_self, false_and, true_and, and_false, and_true, true_or, or_true, Nat.reduceAdd, Nat.reduceMul, Nat.reduceLT, Nat.reduceLeDiff, ne_eq, n_ell, hs]
  refine hv_if (fun z => ?_) (fun z => hv_some (Or.inr ⟨rfl, fun q => z ((e597 j hj).1.mpr q.1)⟩))
  refine d_mcA hs a1 hj a3 (fun i hi => (e597 i hi).2) k 0 (by omega) ?_ ?_
  · rintro ⟨i, -, q2, q3, q4, q5⟩
    refine Or.inr ⟨rfl, fun q => q5 ?_⟩
    rw [← he i q2]
    exact q.2.1 i q2 q3 ((e597 i q2).1.mp q4)
  · intro hA
    refine d_mcB hs (by omega) (by omega) (fun p hp => (b5 p hp).1) 26 0 rfl ?_ ?_
    · rintro ⟨p, -, q2, q3, q4⟩
      refine Or.inr ⟨rfl, fun q => q4 ?_⟩
      rw [← hrow p q2]
      exact (q.2.2 p q2 q3).symm
    · intro hB
      refine Or.inl ⟨rfl, (e597 j hj).1.mp z, fun i q1 q2 q3 => ?_, fun p q1 q2 => ?_⟩
      · rw [he i q1]
        exact hA i (by omega) q1 q2 ((e597 i q1).1.mpr q3)
      · rw [hrow p q1]
        exact (hB p (by omega) q1 q2).symm
set_option maxHeartbeats 8000000 in
/-- the reference makes the next row -/
theorem d_rowL (hs : ShD σ) {j : Nat} {x1 : Int32} (hj : j < 14) (hd : d < 14) : ∀ (s p : Nat) (D : ao_M), p + s = 26 → ∃ D', (∀ p', p ≤ p' → p' < 26 → D' 596 ((d + 1) * 26 + p') = if D 593 (j * 26 + p') = 0 then D 596 (d * 26 + p') else D 591 (j * 26 + p')) ∧ (∀ x i, ¬ (x = 596 ∧ (d + 1) * 26 + p ≤ i ∧ i < (d + 1) * 26 + 26) → D' x i = D x i) ∧ ∀ Q : Int32 × ao_M → Prop, hv (fun a => fX12_judge a 81 537 x1 (nI (d + 1)) 0 0 0 0 0 (ao_u D' 595 (d + 1) 0) σ) Q → hv (fun a => fX12_judge a 214 537 x1 (nI d) (nI j) (nI p) 0 0 0 D σ) Q := by
  intro s
  induction s with
  | zero =>
    intro p D h
    obtain rfl : p = 26 := by omega
    refine ⟨D, fun p' h1 h2 => by omega, fun _ _ _ => rfl, fun Q q => ?_⟩
    refine hv_up (fun _ => fX12_judge.eq_2 ..) ?_
    try simp only [↓reduceIte, Nat.reduceEqDiff, Option.bind_some, ao_let, n_ell, hs]
    try simp (disch := first | omega | assumption) only [↓reduceIte, Nat.reduceEqDiff, Option.bind_some, ao_let, t_le, f_le, t_lt, f_lt, f_eq, u_eq, u_n1, u_n2, n_cl, n_lt, n_le, n_eq, n_ltl, n_llt, n_lel, n_lle, n_eql, n_leq, n_add, n_mul, n_sub, n_addl, n_ladd, n_mull, n_lmul, n_subl, Int32.reduceLT, Int32.reduceLE, Int32.reduceAdd, Int32.reduceSub, Int32.reduceMul, Int32.reduceToNatClampNeg, not_false_eq_true, not_true_eq_false, or_false, false_or, or_self, and_self, false_and, true_and, and_false, and_true, true_or, or_true, Nat.reduceAdd, Nat.reduceMul, Nat.reduceLT, Nat.reduceLeDiff, ne_eq, n_ell, hs]
    exact q
  | succ s ih =>
    intro p D h
    obtain ⟨D', g1, g2, g3⟩ := ih (p + 1) (ao_u D 596 ((d + 1) * 26 + p) (if D 593 (j * 26 + p) = 0 then D 596 (d * 26 + p) else D 591 (j * 26 + p))) (by omega)
    refine ⟨D', fun p' q1 q2 => ?_, fun x i q1 => ?_, fun Q q => ?_⟩
    · by_cases e : p' = p
      · subst e
        rw [g2 _ _ (by omega), u_eq]
      · rw [g1 p' (by omega) q2, u_ne (by omega), u_ne (by omega), u_ne (by omega)]
    · rw [g2 x i (by omega), u_ne (by omega)]
    · have nx := g3 Q q
      refine hv_up (fun _ => fX12_judge.eq_2 ..) ?_
      try simp only [↓reduceIte, Nat.reduceEqDiff, Option.bind_some, ao_let, n_ell, hs]
      try simp (disch := first | omega | assumption) only [↓reduceIte, Nat.reduceEqDiff, Option.bind_some, ao_let, t_le, f_le, t_lt, f_lt, f_eq, u_eq, u_n1, u_n2, n_cl, n_lt, n_le, n_eq, n_ltl, n_llt, n_lel, n_lle, n_eql, n_leq, n_add, n_mul, n_sub, n_addl, n_ladd, n_mull, n_lmul, n_subl, Int32.reduceLT, Int32.reduceLE, Int32.reduceAdd, Int32.reduceSub, Int32.reduceMul, Int32.reduceToNatClampNeg, not_false_eq_true, not_true_eq_false, or_false, false_or, or_self, and_self, false_and, true_and, and_false, and_true, true_or, or_true, Nat.reduceAdd, Nat.reduceMul, Nat.reduceLT, Nat.reduceLeDiff, ne_eq, n_ell, hs]
      by_cases z : D 593 (j * 26 + p) = 0
      · rw [if_pos z] at nx
        refine hv_ifT z ?_
        refine hv_up (fun _ => fX12_judge.eq_2 ..) ?_
        try simp only [↓reduceIte, Nat.reduceEqDiff, Option.bind_some, ao_let, n_ell, hs]
        try simp (disch := first | omega | assumption) only [↓reduceIte, Nat.reduceEqDiff, Option.bind_some, ao_let, t_le, f_le, t_lt, f_lt, f_eq, u_eq, u_n1, u_n2, n_cl, n_lt, n_le, n_eq, n_ltl, n_llt, n_lel, n_lle, n_eql, n_leq, n_add, n_mul, n_sub, n_addl, n_ladd, n_mull, n_lmul, n_subl, Int32.reduceLT, Int32.reduceLE, Int32.reduceAdd, Int32.reduceSub, Int32.reduceMul, Int32.reduceToNatClampNeg, not_false_eq_true, not_true_eq_false, or_false, false_or, or_self, and_self, false_and, true_and, and_false, and_true, true_or, or_true, Nat.reduceAdd, Nat.reduceMul, Nat.reduceLT, Nat.reduceLeDiff, ne_eq, n_ell, hs]
        exact nx
      · rw [if_neg z] at nx
        refine hv_ifF z ?_
        refine hv_up (fun _ => fX12_judge.eq_2 ..) ?_
        try simp only [↓reduceIte, Nat.reduceEqDiff, Option.bind_some, ao_let, n_ell, hs]
        try simp (disch := first | omega | assumption) only [↓reduceIte, Nat.reduceEqDiff, Option.bind_some, ao_let, t_le, f_le, t_lt, f_lt, f_eq, u_eq, u_n1, u_n2, n_cl, n_lt, n_le, n_eq, n_ltl, n_llt, n_lel, n_lle, n_eql, n_leq, n_add, n_mul, n_sub, n_addl, n_ladd, n_mull, n_lmul, n_subl, Int32.reduceLT, Int32.reduceLE, Int32.reduceAdd, Int32.reduceSub, Int32.reduceMul, Int32.reduceToNatClampNeg, not_false_eq_true, not_true_eq_false, or_false, false_or, or_self, and_self, false_and, true_and, and_false, and_true, true_or, or_true, Nat.reduceAdd, Nat.reduceMul, Nat.reduceLT, Nat.reduceLeDiff, ne_eq, n_ell, hs]
        exact nx
theorem cnt_add {j : Nat} (hk : k ≤ 14) (hj : j < k) (h : bt pl j = false) : (List.range k).countP (fun i => bt (pl ||| ((1 : Int32) <<< (nI j &&& 31))) i) = (List.range k).countP (fun i => bt pl i) + 1 := by
  have : ∀ n, n ≤ k → (List.range n).countP (fun i => bt (pl ||| ((1 : Int32) <<< (nI j &&& 31))) i) = (List.range n).countP (fun i => bt pl i) + if j < n then 1 else 0 := by
    intro n
    induction n with
    | zero => intro _; simp
    | succ n ih =>
      intro hn
      rw [List.range_succ, List.countP_append, List.countP_append, ih (by omega), List.countP_singleton, List.countP_singleton, bt_or pl (show n < 26 by omega) (show j < 26 by omega)]
      by_cases e : n = j
      · subst e
        simp [h]
      · rw [show decide (n = j) = false from decide_eq_false e, Bool.or_false]
        have e1 : (if j < n + 1 then 1 else 0 : Nat) = (if j < n then 1 else 0 : Nat) := by
          by_cases q : j < n
          · rw [if_pos q, if_pos (by omega)]
          · rw [if_neg q, if_neg (by omega)]
        rw [e1]
        omega
  have := this k (Nat.le_refl _)
  rw [if_pos hj] at this
  exact this
theorem all_in (h : (List.range k).countP (fun j => bt pl j) = k) : ∀ j, j < k → bt pl j = true := by
  have := (List.countP_eq_length (p := fun j => bt pl j) (l := List.range k)).mp (by rw [h, List.length_range])
  intro j hj
  exact this j (by simpa using hj)
/-- all are placed: the reference finds none that may come -/
theorem d_none (hs : ShD σ) (hk : k ≤ 14) (d76 : D 537 76 = nI k) (hu : ∀ j, j < k → D 597 j = 1) {x1 : Int32} {Q : Int32 × ao_M → Prop} (q : hv (fun a => fX12_judge a 154 537 x1 (nI k) (nI k) 0 0 0 0 D σ) Q) : ∀ (s j : Nat), j + s = k → hv (fun a => fX12_judge a 115 537 x1 (nI k) (nI j) 0 0 0 0 D σ) Q := by
  intro s
  induction s with
  | zero =>
    intro j h
    obtain rfl : j = k := by omega
    refine hv_up (fun _ => fX12_judge.eq_2 ..) ?_
    try simp only [↓reduceIte, Nat.reduceEqDiff, Option.bind_some, ao_let, n_ell, hs, d76]
    try simp (disch := first | omega | assumption) only [↓reduceIte, Nat.reduceEqDiff, Option.bind_some, ao_let, t_le, f_le, t_lt, f_lt, f_eq, u_eq, u_n1, u_n2, n_cl, n_lt, n_le, n_eq, n_ltl, n_llt, n_lel, n_lle, n_eql, n_leq, n_add, n_mul, n_sub, n_addl, n_ladd, n_mull, n_lmul, n_subl, Int32.reduceLT, Int32.reduceLE, Int32.reduceAdd, Int32.reduceSub, Int32.reduceMul, Int32.reduceToNatClampNeg, not_false_eq_true, not_true_eq_false, or_false, false_or, or_self, and_self, false_and, true_and, and_false, and_true, true_or, or_true, Nat.reduceAdd, Nat.reduceMul, Nat.reduceLT, Nat.reduceLeDiff, ne_eq, n_ell, hs, d76]
    refine hv_up (fun _ => fX12_judge.eq_2 ..) ?_
    try simp only [↓reduceIte, Nat.reduceEqDiff, Option.bind_some, ao_let, n_ell, hs, d76]
    try simp (disch := first | omega | assumption) only [↓reduceIte, Nat.reduceEqDiff, Option.bind_some, ao_let, t_le, f_le, t_lt, f_lt, f_eq, u_eq, u_n1, u_n2, n_cl, n_lt, n_le, n_eq, n_ltl, n_llt, n_lel, n_lle, n_eql, n_leq, n_add, n_mul, n_sub, n_addl, n_ladd, n_mull, n_lmul, n_subl, Int32.reduceLT, Int32.reduceLE, Int32.reduceAdd, Int32.reduceSub, Int32.reduceMul, Int32.reduceToNatClampNeg, not_false_eq_true, not_true_eq_false, or_false, false_or, or_self, and_self, false_and, true_and, and_false, and_true, true_or, or_true, Nat.reduceAdd, Nat.reduceMul, Nat.reduceLT, Nat.reduceLeDiff, ne_eq, n_ell, hs, d76]
    exact q
  | succ s ih =>
    intro j h
    have hn : (D 597 j = 0) = False := eq_false (by rw [hu j (by omega)]; decide)
    refine hv_up (fun _ => fX12_judge.eq_2 ..) ?_
    try simp only [↓reduceIte, Nat.reduceEqDiff, Option.bind_some, ao_let, n_ell, hs, d76]
    try simp (disch := first | omega | assumption) only [↓reduceIte, Nat.reduceEqDiff, Option.bind_some, ao_let, t_le, f_le, t_lt, f_lt, f_eq, u_eq, u_n1, u_n2, n_cl, n_lt, n_le, n_eq, n_ltl, n_llt, n_lel, n_lle, n_eql, n_leq, n_add, n_mul, n_sub, n_addl, n_ladd, n_mull, n_lmul, n_subl, Int32.reduceLT, Int32.reduceLE, Int32.reduceAdd, Int32.reduceSub, Int32.reduceMul, Int32.reduceToNatClampNeg, not_false_eq_true, not_true_eq_false, or_false, false_or, or_self, and_self, false_and, true_and, and_false, and_true, true_or, or_true, Nat.reduceAdd, Nat.reduceMul, Nat.reduceLT, Nat.reduceLeDiff, ne_eq, n_ell, hs, d76]
    refine hv_bind (P := fun y => y = (0, D)) ?_ ?_
    · unfold gX12_mayCome
      refine hv_up (fun _ => fX12_mayCome.eq_2 ..) ?_
      try simp only [↓reduceIte, Nat.reduceEqDiff, Option.bind_some, ao_let, n_ell, hs, hn]
      try simp (disch := first | omega | assumption) only [↓reduceIte, Nat.reduceEqDiff, Option.bind_some, ao_let, t_le, f_le, t_lt, f_lt, f_eq, u_eq, u_n1, u_n2, n_cl, n_lt, n_le, n_eq, n_ltl, n_llt, n_lel, n_lle, n_eql, n_leq, n_add, n_mul, n_sub, n_addl, n_ladd, n_mull, n_lmul, n_subl, Int32.reduceLT, Int32.reduceLE, Int32.reduceAdd, Int32.reduceSub, Int32.reduceMul, Int32.reduceToNatClampNeg, not_false_eq_true, not_true_eq_false, or_false, false_or, or_self, and_self, false_and, true_and, and_false, and_true, true_or, or_true, Nat.reduceAdd, Nat.reduceMul, Nat.reduceLT, Nat.reduceLeDiff, ne_eq, n_ell, hs, hn]
      exact hv_some rfl
    rintro _ rfl
    simp only [↓reduceIte, ao_let, n_addl]
    exact ih (j + 1) (by omega)
end Cce
