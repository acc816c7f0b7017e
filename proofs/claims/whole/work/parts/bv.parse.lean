set_option linter.unusedSimpArgs false
set_option linter.unusedVariables false
/-! ===== a whole text ===== -/
theorem ShA_r30 {ρ : ao_H} (h : ShA ρ) : ShA (ao_r ρ 3 0 (some 1)) := ShA_own (ρ := ρ) (fun _ _ => rfl) (fun _ _ => rfl) (fun x k _ hk => by
  show (if x = 3 ∧ k = 0 then some 1 else ρ.1 x k) = ρ.1 x k
  rw [if_neg (by omega)]) h
/-- what stays, on the class's side -/
def KpC (C C' : ao_M) : Prop := ∀ x j, ¬ (x = 2 ∧ j = 2 ∨ x = 3 ∨ x = 5 ∨ x = 6 ∨ x = 7 ∨ x = 8 ∧ (j = 4 ∨ j = 5) ∨ x = 9 ∨ x = 10 ∨ x = 11) → C' x j = C x j
def KpD (D D' : ao_M) : Prop := ∀ x j, ¬ (x = 537 ∧ (j = 2 ∨ 8 ≤ j ∧ j ≤ 11 ∨ 13 ≤ j ∧ j ≤ 16) ∨ x = 541) → D' x j = D x j
/-- both have read a text -/
def PP (C D : ao_M) (ρ σ : ao_H) (len : Nat) (y : Int32 × ao_S) (w : (Int32 ⊕ String) × ao_S) : Prop := y.2.2 = ao_r ρ 3 0 (some 1) ∧ w.2.2 = σ ∧ KpC C y.2.1 ∧ KpD D w.2.1 ∧
  (y.1 = 1 ∧ w.1 = .inl 0 ∧ (∃ L m st, L ≤ 1000 ∧ m ≤ 2000 ∧ st ≤ 300 ∧ y.2.1 8 4 = nI L ∧ y.2.1 8 5 = nI st ∧ w.2.1 537 15 = nI st ∧ w.2.1 537 13 = nI (m + 1) ∧ ∀ op fi se d : Fn, (∀ i, i < L → op i = y.2.1 9 i ∧ fi i = y.2.1 10 i ∧ se i = y.2.1 11 i) → (∀ x, x < 3 * (m + 1) → d x = w.2.1 541 x) → ∃ φ N H K, Cok op fi se d L φ N H K) ∨
   y.1 = 0 ∧ w.1 = .inr RX11 ∧ ∃ b, b ≤ len ∧ y.2.1 2 2 = nI b ∧ w.2.1 537 2 = nI b)
theorem parse_ok {C D : ao_M} {ρ σ : ao_H} {s : Fn} {len : Nat} (hρ : ShA ρ) (hσ : ShD σ) (hX : ShX σ) (hl : len ≤ 1000) (h80 : C 8 0 = 1000) (hs : ∀ i, i < len → C 1 i = s i ∧ bytP (s i)) (h7 : D 537 7 = nI len) (ht : ∀ i, i < len → D 540 i = s i) : hv (fun n => gX4_parse n 2 1 (nI len) C ρ) (fun y => hv (fun n => gX12_readProgram n 537 D σ) (fun w => PP C D ρ σ len y w)) := by
  obtain ⟨e, he1, he2, he3⟩ := last_tok s len
  have hρ' := ShA_r30 hρ
  have hE : PE (ao_r ρ 3 0 (some 1)) σ s len e := ⟨hρ', hσ, hl, he1, he2, he3, fun i hi => (hs i hi).2, hX⟩
  have h537 : σ.2.1 537 = 22 := hσ.1
  unfold gX4_parse gX12_readProgram
  refine hv_up (fun _ => fX4_parse.eq_2 ..) ?_
  unfold gX1_clear
  try simp only [↓reduceIte, Nat.reduceEqDiff, Option.bind_some, ao_let, n_ell, hρ]
  try simp (disch := first | omega | assumption) only [↓reduceIte, Nat.reduceEqDiff, Option.bind_some, ao_let, t_le, f_le, t_lt, f_lt, f_eq, u_eq, u_n1, u_n2, n_cl, n_lt, n_le, n_eq, n_ltl, n_llt, n_lel, n_lle, n_eql, n_leq, n_add, n_mul, n_sub, n_addl, n_ladd, n_mull, n_lmul, n_subl, Int32.reduceLT, Int32.reduceLE, Int32.reduceAdd, Int32.reduceSub, Int32.reduceMul, Int32.reduceToNatClampNeg, not_false_eq_true, not_true_eq_false, or_false, false_or, or_self, and_self, false_and, true_and, and_false, and_true, true_or, or_true, Nat.reduceAdd, Nat.reduceMul, Nat.reduceLT, Nat.reduceLeDiff, ne_eq, n_ell, hρ]
  refine hv_bind (read_ok (s := s) (e := e) hρ hl (fun i hi => ?_) he1 he2 he3 hρ') ?_
  · rw [u_n1 (by omega), u_n1 (by omega), u_n1 (by omega)]; exact hs i hi
  rintro ⟨C1, ρ1⟩ ⟨y1, y2, y3, y4⟩
  dsimp only at y1 y2 y3 y4
  subst y1
  have cC : PC C1 s len e 0 0 0 := by
    refine ⟨y2, y3, ?_, ?_, ?_⟩
    · rw [y4 _ _ (by omega), u_n1 (by omega), u_n2 (by omega), u_n2 (by omega)]
      exact h80
    · rw [y4 _ _ (by omega), u_n1 (by omega), u_n2 (by omega), u_eq]
      rfl
    · rw [y4 _ _ (by omega), u_n1 (by omega), u_eq]
      rfl
  -- the reference's begin
  refine hv_inU (fun _ => fX12_readProgram.eq_2 ..) ?_
  simp only [↓reduceIte, if_pos h537, ao_let]
  have cD0 : DT (ao_u (ao_u (ao_u (ao_u (ao_u D 537 8 0) 537 13 0) 537 14 0) 537 15 0) 537 16 0) σ s len := by
    refine ⟨h537, ?_, ?_, ?_, ?_, hl, fun i hi => ⟨?_, (hs i hi).2⟩⟩
    · try simp only [↓reduceIte, Nat.reduceEqDiff, Option.bind_some, ao_let, n_ell, hσ]
      try simp (disch := first | omega | assumption) only [↓reduceIte, Nat.reduceEqDiff, Option.bind_some, ao_let, t_le, f_le, t_lt, f_lt, f_eq, u_eq, u_n1, u_n2, n_cl, n_lt, n_le, n_eq, n_ltl, n_llt, n_lel, n_lle, n_eql, n_leq, n_add, n_mul, n_sub, n_addl, n_ladd, n_mull, n_lmul, n_subl, Int32.reduceLT, Int32.reduceLE, Int32.reduceAdd, Int32.reduceSub, Int32.reduceMul, Int32.reduceToNatClampNeg, not_false_eq_true, not_true_eq_false, or_false, false_or, or_self, and_self, false_and, true_and, and_false, and_true, true_or, or_true, Nat.reduceAdd, Nat.reduceMul, Nat.reduceLT, Nat.reduceLeDiff, ne_eq, n_ell, hσ]
    · try simp only [↓reduceIte, Nat.reduceEqDiff, Option.bind_some, ao_let, n_ell, hσ]
      try simp (disch := first | omega | assumption) only [↓reduceIte, Nat.reduceEqDiff, Option.bind_some, ao_let, t_le, f_le, t_lt, f_lt, f_eq, u_eq, u_n1, u_n2, n_cl, n_lt, n_le, n_eq, n_ltl, n_llt, n_lel, n_lle, n_eql, n_leq, n_add, n_mul, n_sub, n_addl, n_ladd, n_mull, n_lmul, n_subl, Int32.reduceLT, Int32.reduceLE, Int32.reduceAdd, Int32.reduceSub, Int32.reduceMul, Int32.reduceToNatClampNeg, not_false_eq_true, not_true_eq_false, or_false, false_or, or_self, and_self, false_and, true_and, and_false, and_true, true_or, or_true, Nat.reduceAdd, Nat.reduceMul, Nat.reduceLT, Nat.reduceLeDiff, ne_eq, n_ell, hσ]
    · try simp only [↓reduceIte, Nat.reduceEqDiff, Option.bind_some, ao_let, n_ell, hσ]
      try simp (disch := first | omega | assumption) only [↓reduceIte, Nat.reduceEqDiff, Option.bind_some, ao_let, t_le, f_le, t_lt, f_lt, f_eq, u_eq, u_n1, u_n2, n_cl, n_lt, n_le, n_eq, n_ltl, n_llt, n_lel, n_lle, n_eql, n_leq, n_add, n_mul, n_sub, n_addl, n_ladd, n_mull, n_lmul, n_subl, Int32.reduceLT, Int32.reduceLE, Int32.reduceAdd, Int32.reduceSub, Int32.reduceMul, Int32.reduceToNatClampNeg, not_false_eq_true, not_true_eq_false, or_false, false_or, or_self, and_self, false_and, true_and, and_false, and_true, true_or, or_true, Nat.reduceAdd, Nat.reduceMul, Nat.reduceLT, Nat.reduceLeDiff, ne_eq, n_ell, hσ]
    · try simp only [↓reduceIte, Nat.reduceEqDiff, Option.bind_some, ao_let, n_ell]
      try simp (disch := first | omega | assumption) only [↓reduceIte, Nat.reduceEqDiff, Option.bind_some, ao_let, t_le, f_le, t_lt, f_lt, f_eq, u_eq, u_n1, u_n2, n_cl, n_lt, n_le, n_eq, n_ltl, n_llt, n_lel, n_lle, n_eql, n_leq, n_add, n_mul, n_sub, n_addl, n_ladd, n_mull, n_lmul, n_subl, Int32.reduceLT, Int32.reduceLE, Int32.reduceAdd, Int32.reduceSub, Int32.reduceMul, Int32.reduceToNatClampNeg, not_false_eq_true, not_true_eq_false, or_false, false_or, or_self, and_self, false_and, true_and, and_false, and_true, true_or, or_true, Nat.reduceAdd, Nat.reduceMul, Nat.reduceLT, Nat.reduceLeDiff, ne_eq, n_ell]
      exact h7
    · try simp only [↓reduceIte, Nat.reduceEqDiff, Option.bind_some, ao_let, n_ell]
      try simp (disch := first | omega | assumption) only [↓reduceIte, Nat.reduceEqDiff, Option.bind_some, ao_let, t_le, f_le, t_lt, f_lt, f_eq, u_eq, u_n1, u_n2, n_cl, n_lt, n_le, n_eq, n_ltl, n_llt, n_lel, n_lle, n_eql, n_leq, n_add, n_mul, n_sub, n_addl, n_ladd, n_mull, n_lmul, n_subl, Int32.reduceLT, Int32.reduceLE, Int32.reduceAdd, Int32.reduceSub, Int32.reduceMul, Int32.reduceToNatClampNeg, not_false_eq_true, not_true_eq_false, or_false, false_or, or_self, and_self, false_and, true_and, and_false, and_true, true_or, or_true, Nat.reduceAdd, Nat.reduceMul, Nat.reduceLT, Nat.reduceLeDiff, ne_eq, n_ell]
      exact ht i hi
  have e8 : (ao_u (ao_u (ao_u (ao_u (ao_u D 537 8 0) 537 13 0) 537 14 0) 537 15 0) 537 16 0) 537 8 = nI 0 := by
    try simp only [↓reduceIte, Nat.reduceEqDiff, Option.bind_some, ao_let, n_ell]
    try simp (disch := first | omega | assumption) only [↓reduceIte, Nat.reduceEqDiff, Option.bind_some, ao_let, t_le, f_le, t_lt, f_lt, f_eq, u_eq, u_n1, u_n2, n_cl, n_lt, n_le, n_eq, n_ltl, n_llt, n_lel, n_lle, n_eql, n_leq, n_add, n_mul, n_sub, n_addl, n_ladd, n_mull, n_lmul, n_subl, Int32.reduceLT, Int32.reduceLE, Int32.reduceAdd, Int32.reduceSub, Int32.reduceMul, Int32.reduceToNatClampNeg, not_false_eq_true, not_true_eq_false, or_false, false_or, or_self, and_self, false_and, true_and, and_false, and_true, true_or, or_true, Nat.reduceAdd, Nat.reduceMul, Nat.reduceLT, Nat.reduceLeDiff, ne_eq, n_ell]
  have z13 : (ao_u (ao_u (ao_u (ao_u (ao_u D 537 8 0) 537 13 0) 537 14 0) 537 15 0) 537 16 0) 537 13 = nI 0 := by
    try simp only [↓reduceIte, Nat.reduceEqDiff, Option.bind_some, ao_let, n_ell]
    try simp (disch := first | omega | assumption) only [↓reduceIte, Nat.reduceEqDiff, Option.bind_some, ao_let, t_le, f_le, t_lt, f_lt, f_eq, u_eq, u_n1, u_n2, n_cl, n_lt, n_le, n_eq, n_ltl, n_llt, n_lel, n_lle, n_eql, n_leq, n_add, n_mul, n_sub, n_addl, n_ladd, n_mull, n_lmul, n_subl, Int32.reduceLT, Int32.reduceLE, Int32.reduceAdd, Int32.reduceSub, Int32.reduceMul, Int32.reduceToNatClampNeg, not_false_eq_true, not_true_eq_false, or_false, false_or, or_self, and_self, false_and, true_and, and_false, and_true, true_or, or_true, Nat.reduceAdd, Nat.reduceMul, Nat.reduceLT, Nat.reduceLeDiff, ne_eq, n_ell]
  have z14 : (ao_u (ao_u (ao_u (ao_u (ao_u D 537 8 0) 537 13 0) 537 14 0) 537 15 0) 537 16 0) 537 14 = nI 0 := by
    try simp only [↓reduceIte, Nat.reduceEqDiff, Option.bind_some, ao_let, n_ell]
    try simp (disch := first | omega | assumption) only [↓reduceIte, Nat.reduceEqDiff, Option.bind_some, ao_let, t_le, f_le, t_lt, f_lt, f_eq, u_eq, u_n1, u_n2, n_cl, n_lt, n_le, n_eq, n_ltl, n_llt, n_lel, n_lle, n_eql, n_leq, n_add, n_mul, n_sub, n_addl, n_ladd, n_mull, n_lmul, n_subl, Int32.reduceLT, Int32.reduceLE, Int32.reduceAdd, Int32.reduceSub, Int32.reduceMul, Int32.reduceToNatClampNeg, not_false_eq_true, not_true_eq_false, or_false, false_or, or_self, and_self, false_and, true_and, and_false, and_true, true_or, or_true, Nat.reduceAdd, Nat.reduceMul, Nat.reduceLT, Nat.reduceLeDiff, ne_eq, n_ell]
  have z15 : (ao_u (ao_u (ao_u (ao_u (ao_u D 537 8 0) 537 13 0) 537 14 0) 537 15 0) 537 16 0) 537 15 = nI 0 := by
    try simp only [↓reduceIte, Nat.reduceEqDiff, Option.bind_some, ao_let, n_ell]
    try simp (disch := first | omega | assumption) only [↓reduceIte, Nat.reduceEqDiff, Option.bind_some, ao_let, t_le, f_le, t_lt, f_lt, f_eq, u_eq, u_n1, u_n2, n_cl, n_lt, n_le, n_eq, n_ltl, n_llt, n_lel, n_lle, n_eql, n_leq, n_add, n_mul, n_sub, n_addl, n_ladd, n_mull, n_lmul, n_subl, Int32.reduceLT, Int32.reduceLE, Int32.reduceAdd, Int32.reduceSub, Int32.reduceMul, Int32.reduceToNatClampNeg, not_false_eq_true, not_true_eq_false, or_false, false_or, or_self, and_self, false_and, true_and, and_false, and_true, true_or, or_true, Nat.reduceAdd, Nat.reduceMul, Nat.reduceLT, Nat.reduceLeDiff, ne_eq, n_ell]
  have z16 : (ao_u (ao_u (ao_u (ao_u (ao_u D 537 8 0) 537 13 0) 537 14 0) 537 15 0) 537 16 0) 537 16 = nI 0 := by
    try simp only [↓reduceIte, Nat.reduceEqDiff, Option.bind_some, ao_let, n_ell]
    try simp (disch := first | omega | assumption) only [↓reduceIte, Nat.reduceEqDiff, Option.bind_some, ao_let, t_le, f_le, t_lt, f_lt, f_eq, u_eq, u_n1, u_n2, n_cl, n_lt, n_le, n_eq, n_ltl, n_llt, n_lel, n_lle, n_eql, n_leq, n_add, n_mul, n_sub, n_addl, n_ladd, n_mull, n_lmul, n_subl, Int32.reduceLT, Int32.reduceLE, Int32.reduceAdd, Int32.reduceSub, Int32.reduceMul, Int32.reduceToNatClampNeg, not_false_eq_true, not_true_eq_false, or_false, false_or, or_self, and_self, false_and, true_and, and_false, and_true, true_or, or_true, Nat.reduceAdd, Nat.reduceMul, Nat.reduceLT, Nat.reduceLeDiff, ne_eq, n_ell]
  have fD0 : FrD D (ao_u (ao_u (ao_u (ao_u (ao_u D 537 8 0) 537 13 0) 537 14 0) 537 15 0) 537 16 0) 0 := ⟨fun x j hx => by rw [u_ne (by omega), u_ne (by omega), u_ne (by omega), u_ne (by omega), u_ne (by omega)], fun x hx => by omega⟩
  generalize ao_u (ao_u (ao_u (ao_u (ao_u D 537 8 0) 537 13 0) 537 14 0) 537 15 0) 537 16 0 = D0 at *
  refine hv_inB (tok_ok cD0 (Nat.zero_le _) e8) ?_
  rintro D1 ⟨g1, g2, g3, g4, g5, g6⟩
  have cD : PD D1 σ s len 0 0 0 0 (fc []) := ⟨g1, ⟨g4, g5, g6, g3⟩, by rw [g2 _ _ (by omega)]; exact z13, by rw [g2 _ _ (by omega)]; exact z14, by rw [g2 _ _ (by omega)]; exact z15, by rw [g2 _ _ (by omega)]; exact z16⟩
  have fD1 : FrD D D1 0 := FrD_tr fD0 ⟨fun x j hx => g2 x j (by omega), fun x hx => g2 _ _ (by omega)⟩ (Nat.le_refl _)
  have st0 : SQ1 σ s len e 0 0 0 0 0 [] C1 D1 0 0 0 0 (fun _ => (0, [], 0)) := by
    refine ⟨Nat.le_refl _, by omega, by omega, cC, cD, Nat.le_refl _, Nat.le_refl _, Nat.le_refl _, Nat.le_refl _, rfl, rfl, Nat.le_refl _, Nat.le_refl _, fun _ _ _ => ⟨Nat.le_refl _, Nat.le_refl _⟩, fun op fi se d L G' a b c q x => ⟨fun i p q => by omega, fun i p r => pos_base (q i p r) (by omega) (by simp)⟩⟩
  have lp := stmts_loop (T := e) (C := C1) (D := D1) (i := 0) (l := 0) (m := 0) (dep := 0) (st := 0) (ec := 64) (ed := 64) (β := []) (g := fun D n => fX12_readProgram n 29 537 D σ) hE (fun T' h => (stmts hE T').1) (by omega) (by simp) (by omega) (by omega) (by omega) (by omega) (by
    intro D2 i1 m1 st1 P R q1 q2 q3 q4 q5
    have nk : ¬ rK (kd s len i1) = 0 := by
      have : ∀ k, k < 28 → ¬ k = 0 → ¬ rK k = 0 := by decide +kernel
      exact this _ (by have := @kd_le s len i1; omega) q2
    refine hv_up (fun _ => fX12_readProgram.eq_2 ..) ?_
    simp only [Nat.reduceEqDiff, ↓reduceIte, if_pos q1.1.1, q1.2.1.1, if_neg nk]
    unfold gX12_statement
    refine hv_bind q4 ?_
    rintro ⟨w1, D3, σ3⟩ hw
    obtain ⟨r1, ⟨r2, r3⟩ | ⟨r2, r3⟩⟩ := q5 _ hw
    · dsimp only at r1 r2 r3
      subst r1 r2
      simp only [ao_cs]
      refine hv_up (fun _ => fX12_readProgram.eq_2 ..) ?_
      simp only [Nat.reduceEqDiff, ↓reduceIte]
      exact r3
    · dsimp only at r1 r2
      subst r1 r2
      simp only [ao_cs]
      exact hv_some r3) e C1 D1 0 0 0 0 0 (fun _ => (0, [], 0)) (by omega) (Nat.le_refl _) st0 FrC_rf FrD_rf (by omega)
  have kpC : ∀ C', FrC C1 C' 0 → KpC C C' := fun C' h x j hx => by
    rw [h.1 x j (by omega), y4 x j (by omega), u_ne (by omega), u_ne (by omega), u_ne (by omega)]
  have kpD : ∀ D', FrD D1 D' 0 → KpD D D' := fun D' h x j hx => by
    rw [h.1 x j hx, fD1.1 x j hx]
  refine hv_up (fun _ => fX4_parse.eq_2 ..) ?_
  simp only [Nat.reduceEqDiff, ↓reduceIte, if_pos hρ'.2.2.1]
  unfold gX4_statements
  refine hv_bind (P := fun y => (y.1 = 1 ∧ ∃ D' i' l' m' st' G, SQ1 σ s len e 0 0 0 0 0 [] y.2 D' i' l' m' st' G ∧ FrC C1 y.2 0 ∧ FrD D1 D' 0 ∧ (kd s len i' = 0 ∨ kd s len i' = 18) ∧ ∀ R, hv (fun n => fX12_readProgram n 29 537 D' σ) R → hv (fun n => fX12_readProgram n 29 537 D1 σ) R) ∨ (y.1 = 0 ∧ FrC C1 y.2 0 ∧ ∃ j, j ≤ e ∧ y.2 2 2 = nI (bg s len j) ∧ hv (fun n => fX12_readProgram n 29 537 D1 σ) (fun w => w.1 = .inr RX11 ∧ w.2.2 = σ ∧ w.2.1 537 2 = nI (bg s len j) ∧ FrD D1 w.2.1 0))) ?_ ?_
  · refine hv_up (fun _ => fGS.eq_2 ..) ?_
    simp only [↓reduceIte]
    exact lp
  · rintro ⟨y1, C3⟩ (⟨z1, D3, i', l', m', st', G, z2, z3, z4, z5, z6⟩ | ⟨z1, z2, j, z3, z4, z5⟩)
    · dsimp only at z1 z2 z3
      subst z1
      simp only [if_neg (show ¬ (1 : Int32) = 0 by decide)]
      obtain ⟨q1, q2, q3, q4, q5, q6, q7, q8, q9, q10, q11, q12⟩ := z2
      have hkl := @kd_le s len i'
      rw [show (ao_r ρ 3 0 (some 1)).1 2 0 = some 3 from by rw [r_Fn (by omega)]; simp only [hρ]]
      simp only [Option.bind_some, if_pos hρ'.2.2.2.1, q4.2.1.2.1]
      by_cases k0 : kd s len i' = 0
      · refine hv_ifT (by rw [k0]; rfl) ?_
        refine hv_up (fun _ => fX4_parse.eq_2 ..) ?_
        simp only [Nat.reduceEqDiff, ↓reduceIte]
        refine hv_some ?_
        refine z6 _ ?_
        obtain ⟨D4, d1, d2, d3, d4, d5, d6⟩ := d_make hE q5 (show m' < 6000 by omega) 22 0 0
        refine hv_up (fun _ => fX12_readProgram.eq_2 ..) ?_
        simp only [Nat.reduceEqDiff, ↓reduceIte, if_pos q5.1.1, q5.2.1.1, if_pos (show rK (kd s len i') = 0 by rw [k0]; rfl), d1, Option.bind_some, ao_let]
        refine hv_some ⟨rfl, rfl, kpC _ z3, kpD _ (FrD_tr z4 (FrD_lo d3 (by omega)) (Nat.le_refl _)), Or.inl ⟨rfl, rfl, l', m', st', by omega, by omega, q3, q4.2.2.2.1, q4.2.2.2.2, d2.2.2.2.2.1, d2.2.2.1, fun op fi se d a b => ?_⟩⟩
        obtain ⟨n1, n2, n3, n4⟩ := q12
        obtain ⟨o1, o2⟩ := n4 op fi se d l' G (Nat.le_refl _) (fun i _ hi => a i hi) (fun x _ hx => by rw [b x (by omega)]; exact d3.2 x (by omega)) (fun _ _ _ => rfl) trivial
        exact ⟨_, _, _, _, cok_of (m := m') (by omega) q10 q11 (fun i hi => by have := n3 i (by omega) hi; omega) (by rw [b _ (by omega)]; exact d4) (fun i hi => o1 i (by omega) hi) (fun i hi => o2 i (by omega) hi)⟩
      · have k18 : kd s len i' = 18 := z5.resolve_left k0
        refine hv_ifF (by rw [k18]; decide) ?_
        simp only [c_brk hE q4, Option.bind_some, ↓reduceIte]
        refine hv_some ?_
        refine z6 _ ?_
        have nk : ¬ rK (kd s len i') = 0 := by rw [k18]; decide
        refine hv_up (fun _ => fX12_readProgram.eq_2 ..) ?_
        simp only [Nat.reduceEqDiff, ↓reduceIte, if_pos q5.1.1, q5.2.1.1, if_neg nk]
        unfold gX12_statement
        refine hv_bind (d_bad hE q5 q3 (by simp [fc]) (by omega)) ?_
        rintro ⟨w1, D4, σ4⟩ ⟨f4, f5, f6, f7⟩
        dsimp only at f4 f5 f6 f7
        subst f4 f5
        simp only [ao_cs]
        exact hv_some ⟨rfl, rfl, kpC _ (FrC_tr z3 c_brkF (Nat.le_refl _)), kpD _ (FrD_tr z4 (f7 0) (Nat.le_refl _)), Or.inr ⟨rfl, rfl, bg s len i', (bg_ge (tp_le i')).2, show (ao_u C3 2 2 _) 2 2 = _ from u_eq, f6⟩⟩
    · dsimp only at z1 z2 z4
      subst z1
      simp only [↓reduceIte]
      refine hv_some ?_
      refine hv_mono z5 ?_
      rintro w ⟨f4, f5, f6, f7⟩
      exact ⟨rfl, f5, kpC _ z2, kpD _ f7, Or.inr ⟨rfl, f4, bg s len j, (bg_ge (tp_le j)).2, z4, f6⟩⟩
