set_option linter.unusedSimpArgs false
set_option linter.unusedVariables false
/-! ===== release and free ===== -/
def cntT (C : ao_M) (t p m : Nat) : Nat := (List.range' p m).countP (fun q => C 16 q = nI t)
theorem cntT_s {C : ao_M} {t p m : Nat} : cntT C t p (m + 1) = cntT C t (p + 1) m + if C 16 p = nI t then 1 else 0 := by
  simp [cntT, List.range'_succ, List.countP_cons]
theorem cntT_e {C C' : ao_M} {t p m : Nat} (h : ∀ q, p ≤ q → q < p + m → C' 16 q = C 16 q) : cntT C' t p m = cntT C t p m := by
  unfold cntT
  refine List.countP_congr fun q hq => ?_
  rw [List.mem_range'_1] at hq
  rw [h q hq.1 hq.2]
theorem cntT_le {C : ao_M} {t p m : Nat} : cntT C t p m ≤ m := by
  unfold cntT
  exact Nat.le_trans (List.countP_le_length) (by simp)
/-- what letting go does from place p on -/
def relP (C D : ao_M) (ρ σ : ao_H) (t k p m : Nat) (y w : ao_S) : Prop := Rpl (k + cntT C t p m) y.1 y.2 w.1 w.2 ∧ FC C ρ y.1 y.2 ∧ FD D σ w.1 w.2 ∧ ∀ q, q < 26 → y.1 14 q = C 14 q ∧ y.1 16 q = if p ≤ q ∧ C 16 q = nI t then -1 else C 16 q
theorem sh_zc {k : Nat} {C D : ao_M} {ρ σ : ao_H} (r : Rpl k C ρ D σ) : ∀ z, ρ.2.2.2.1 = some z → 599 ≤ z := by
  obtain ⟨⟨z, e, h⟩, _⟩ := Rpl_z r
  intro z' e'
  rw [e] at e'
  have := Option.some.inj e'
  omega
theorem sh_zd {k : Nat} {C D : ao_M} {ρ σ : ao_H} (r : Rpl k C ρ D σ) : ∀ z, σ.2.2.2.1 = some z → 599 ≤ z := by
  obtain ⟨_, ⟨z, e, h⟩⟩ := Rpl_z r
  intro z' e'
  rw [e] at e'
  have := Option.some.inj e'
  omega
theorem rel_loop {t : Nat} (ht : t < 6) : ∀ (m p k : Nat) (C D : ao_M) (ρ σ : ao_H), p + m = 26 → ShA ρ → ShD σ → k + m ≤ 30000 → Rpl k C ρ D σ →
    hv (fun n => fX5_release n 4 13 (nI t) 1 (nI p) C ρ) (fun y => hv (fun n => fX12_free n 53 537 (nI t) 1 (nI p) D σ) (fun w => relP C D ρ σ t k p m y w)) := by
  intro m
  induction m with
  | zero =>
    intro p k C D ρ σ h hc hs hk r
    obtain rfl : p = 26 := by omega
    refine hv_up (fun _ => fX5_release.eq_2 ..) ?_
    try simp only [↓reduceIte, Nat.reduceEqDiff, Option.bind_some, ao_let, hc]
    try simp (disch := first | omega | assumption) only [↓reduceIte, Nat.reduceEqDiff, Option.bind_some, ao_let, t_le, f_le, t_lt, f_lt, f_eq, u_eq, u_n1, u_n2, n_cl, n_lt, n_le, n_eq, n_ltl, n_llt, n_lel, n_lle, n_eql, n_leq, n_add, n_mul, n_sub, n_addl, n_ladd, n_mull, n_lmul, n_subl, Int32.reduceLT, Int32.reduceLE, Int32.reduceAdd, Int32.reduceSub, Int32.reduceMul, Int32.reduceToNatClampNeg, not_false_eq_true, not_true_eq_false, or_false, false_or, or_self, and_self, false_and, true_and, and_false, and_true, true_or, or_true, Nat.reduceAdd, Nat.reduceMul, Nat.reduceLT, Nat.reduceLeDiff, ne_eq, hc]
    refine hv_some ?_
    refine hv_up (fun _ => fX12_free.eq_2 ..) ?_
    try simp only [↓reduceIte, Nat.reduceEqDiff, Option.bind_some, ao_let, hs]
    try simp (disch := first | omega | assumption) only [↓reduceIte, Nat.reduceEqDiff, Option.bind_some, ao_let, t_le, f_le, t_lt, f_lt, f_eq, u_eq, u_n1, u_n2, n_cl, n_lt, n_le, n_eq, n_ltl, n_llt, n_lel, n_lle, n_eql, n_leq, n_add, n_mul, n_sub, n_addl, n_ladd, n_mull, n_lmul, n_subl, Int32.reduceLT, Int32.reduceLE, Int32.reduceAdd, Int32.reduceSub, Int32.reduceMul, Int32.reduceToNatClampNeg, not_false_eq_true, not_true_eq_false, or_false, false_or, or_self, and_self, false_and, true_and, and_false, and_true, true_or, or_true, Nat.reduceAdd, Nat.reduceMul, Nat.reduceLT, Nat.reduceLeDiff, ne_eq, hs]
    refine hv_some ⟨by simpa [cntT] using r, ?_, ?_, ?_⟩
    · obtain ⟨⟨z, e, h⟩, _⟩ := Rpl_z r
      exact ⟨HxC_refl e rfl, fun _ _ _ _ _ => rfl⟩
    · obtain ⟨_, ⟨z, e, h⟩⟩ := Rpl_z r
      exact ⟨HxD_refl e, fun _ _ _ _ _ _ => rfl⟩
    · intro q hq
      exact ⟨rfl, by rw [if_neg (by omega)]⟩
  | succ m ih =>
    intro p k C D ρ σ h hc hs hk r
    have r0 := r
    obtain ⟨f, g, hh, pc, pd, ch, ev, ec⟩ := r
    have e16 := (ev p (by omega)).2.2.1
    refine hv_up (fun _ => fX5_release.eq_2 ..) ?_
    try simp only [↓reduceIte, Nat.reduceEqDiff, Option.bind_some, ao_let, hc]
    try simp (disch := first | omega | assumption) only [↓reduceIte, Nat.reduceEqDiff, Option.bind_some, ao_let, t_le, f_le, t_lt, f_lt, f_eq, u_eq, u_n1, u_n2, n_cl, n_lt, n_le, n_eq, n_ltl, n_llt, n_lel, n_lle, n_eql, n_leq, n_add, n_mul, n_sub, n_addl, n_ladd, n_mull, n_lmul, n_subl, Int32.reduceLT, Int32.reduceLE, Int32.reduceAdd, Int32.reduceSub, Int32.reduceMul, Int32.reduceToNatClampNeg, not_false_eq_true, not_true_eq_false, or_false, false_or, or_self, and_self, false_and, true_and, and_false, and_true, true_or, or_true, Nat.reduceAdd, Nat.reduceMul, Nat.reduceLT, Nat.reduceLeDiff, ne_eq, hc]
    by_cases e : C 16 p = nI t
    · simp only [if_pos e, show ((1 : Int32) = 0) = False from by decide, ↓reduceIte]
      refine hv_up (fun _ => fX5_release.eq_2 ..) ?_
      try simp only [↓reduceIte, Nat.reduceEqDiff, Option.bind_some, ao_let, hc]
      try simp (disch := first | omega | assumption) only [↓reduceIte, Nat.reduceEqDiff, Option.bind_some, ao_let, t_le, f_le, t_lt, f_lt, f_eq, u_eq, u_n1, u_n2, n_cl, n_lt, n_le, n_eq, n_ltl, n_llt, n_lel, n_lle, n_eql, n_leq, n_add, n_mul, n_sub, n_addl, n_ladd, n_mull, n_lmul, n_subl, Int32.reduceLT, Int32.reduceLE, Int32.reduceAdd, Int32.reduceSub, Int32.reduceMul, Int32.reduceToNatClampNeg, not_false_eq_true, not_true_eq_false, or_false, false_or, or_self, and_self, false_and, true_and, and_false, and_true, true_or, or_true, Nat.reduceAdd, Nat.reduceMul, Nat.reduceLT, Nat.reduceLeDiff, ne_eq, hc]
      refine hv_bind (let_go hc hs (by omega) (by omega) r0) ?_
      rintro ⟨C1, ρ1⟩ h1
      refine hv_up (fun _ => fX5_release.eq_2 ..) ?_
      try simp only [↓reduceIte, Nat.reduceEqDiff, Option.bind_some, ao_let, hc]
      try simp (disch := first | omega | assumption) only [↓reduceIte, Nat.reduceEqDiff, Option.bind_some, ao_let, t_le, f_le, t_lt, f_lt, f_eq, u_eq, u_n1, u_n2, n_cl, n_lt, n_le, n_eq, n_ltl, n_llt, n_lel, n_lle, n_eql, n_leq, n_add, n_mul, n_sub, n_addl, n_ladd, n_mull, n_lmul, n_subl, Int32.reduceLT, Int32.reduceLE, Int32.reduceAdd, Int32.reduceSub, Int32.reduceMul, Int32.reduceToNatClampNeg, not_false_eq_true, not_true_eq_false, or_false, false_or, or_self, and_self, false_and, true_and, and_false, and_true, true_or, or_true, Nat.reduceAdd, Nat.reduceMul, Nat.reduceLT, Nat.reduceLeDiff, ne_eq, hc]
      obtain ⟨N, ⟨D1, σ1⟩, ed, a1, a2, a3, a4⟩ := h1
      dsimp only at a1 a2 a3 a4
      have hc1 : ShA ρ1 := HxC_shA a2.1 (sh_zc r0) hc
      have hs1 : ShD σ1 := HxD_sh a3.1 (sh_zd r0) hs
      refine hv_mono (ih (p + 1) (k + 1) C1 D1 ρ1 σ1 (by omega) hc1 hs1 (by omega) a1) ?_
      rintro ⟨C2, ρ2⟩ h2
      refine hv_up (fun _ => fX12_free.eq_2 ..) ?_
      try simp only [↓reduceIte, Nat.reduceEqDiff, Option.bind_some, ao_let, hs]
      try simp (disch := first | omega | assumption) only [↓reduceIte, Nat.reduceEqDiff, Option.bind_some, ao_let, t_le, f_le, t_lt, f_lt, f_eq, u_eq, u_n1, u_n2, n_cl, n_lt, n_le, n_eq, n_ltl, n_llt, n_lel, n_lle, n_eql, n_leq, n_add, n_mul, n_sub, n_addl, n_ladd, n_mull, n_lmul, n_subl, Int32.reduceLT, Int32.reduceLE, Int32.reduceAdd, Int32.reduceSub, Int32.reduceMul, Int32.reduceToNatClampNeg, not_false_eq_true, not_true_eq_false, or_false, false_or, or_self, and_self, false_and, true_and, and_false, and_true, true_or, or_true, Nat.reduceAdd, Nat.reduceMul, Nat.reduceLT, Nat.reduceLeDiff, ne_eq, hs]
      rw [e16] at e
      simp only [if_pos e]
      refine hv_bind (P := fun w => w = (D1, σ1)) ⟨N, _, ed, rfl⟩ ?_
      rintro _ rfl
      refine hv_up (fun _ => fX12_free.eq_2 ..) ?_
      try simp only [↓reduceIte, Nat.reduceEqDiff, Option.bind_some, ao_let, hs]
      try simp (disch := first | omega | assumption) only [↓reduceIte, Nat.reduceEqDiff, Option.bind_some, ao_let, t_le, f_le, t_lt, f_lt, f_eq, u_eq, u_n1, u_n2, n_cl, n_lt, n_le, n_eq, n_ltl, n_llt, n_lel, n_lle, n_eql, n_leq, n_add, n_mul, n_sub, n_addl, n_ladd, n_mull, n_lmul, n_subl, Int32.reduceLT, Int32.reduceLE, Int32.reduceAdd, Int32.reduceSub, Int32.reduceMul, Int32.reduceToNatClampNeg, not_false_eq_true, not_true_eq_false, or_false, false_or, or_self, and_self, false_and, true_and, and_false, and_true, true_or, or_true, Nat.reduceAdd, Nat.reduceMul, Nat.reduceLT, Nat.reduceLeDiff, ne_eq, hs]
      refine hv_mono h2 ?_
      rintro ⟨D2, σ2⟩ ⟨b1, b2, b3, b4⟩
      dsimp only at b1 b2 b3 b4
      rw [← e16] at e
      refine ⟨?_, FC_trans a2 b2, FD_trans a3 b3, ?_⟩
      · rw [cntT_s, if_pos e]
        have := cntT_e (C := C) (C' := C1) (t := t) (p := p + 1) (m := m) (fun q h1 h2 => by rw [(a4 q (by omega)).2, if_neg (by omega)])
        rw [this] at b1
        rw [show k + (cntT C t (p + 1) m + 1) = k + 1 + cntT C t (p + 1) m by omega]
        exact b1
      · intro q hq
        refine ⟨(b4 q hq).1.trans (a4 q hq).1, ?_⟩
        dsimp only
        rw [(b4 q hq).2, (a4 q hq).2]
        by_cases eq : q = p
        · subst eq
          rw [if_pos rfl, if_neg (by omega), if_pos ⟨by omega, e⟩]
        · rw [if_neg eq]
          by_cases e2 : C 16 q = nI t
          · by_cases e3 : p + 1 ≤ q
            · rw [if_pos ⟨e3, e2⟩, if_pos ⟨by omega, e2⟩]
            · rw [if_neg (by omega), if_neg (by omega)]
          · rw [if_neg (fun x => e2 x.2), if_neg (fun x => e2 x.2)]
    · simp only [if_neg e]
      refine hv_up (fun _ => fX5_release.eq_2 ..) ?_
      try simp only [↓reduceIte, Nat.reduceEqDiff, Option.bind_some, ao_let, hc]
      try simp (disch := first | omega | assumption) only [↓reduceIte, Nat.reduceEqDiff, Option.bind_some, ao_let, t_le, f_le, t_lt, f_lt, f_eq, u_eq, u_n1, u_n2, n_cl, n_lt, n_le, n_eq, n_ltl, n_llt, n_lel, n_lle, n_eql, n_leq, n_add, n_mul, n_sub, n_addl, n_ladd, n_mull, n_lmul, n_subl, Int32.reduceLT, Int32.reduceLE, Int32.reduceAdd, Int32.reduceSub, Int32.reduceMul, Int32.reduceToNatClampNeg, not_false_eq_true, not_true_eq_false, or_false, false_or, or_self, and_self, false_and, true_and, and_false, and_true, true_or, or_true, Nat.reduceAdd, Nat.reduceMul, Nat.reduceLT, Nat.reduceLeDiff, ne_eq, hc]
      refine hv_mono (ih (p + 1) k C D ρ σ (by omega) hc hs (by omega) r0) ?_
      rintro ⟨C2, ρ2⟩ h2
      refine hv_up (fun _ => fX12_free.eq_2 ..) ?_
      try simp only [↓reduceIte, Nat.reduceEqDiff, Option.bind_some, ao_let, hs]
      try simp (disch := first | omega | assumption) only [↓reduceIte, Nat.reduceEqDiff, Option.bind_some, ao_let, t_le, f_le, t_lt, f_lt, f_eq, u_eq, u_n1, u_n2, n_cl, n_lt, n_le, n_eq, n_ltl, n_llt, n_lel, n_lle, n_eql, n_leq, n_add, n_mul, n_sub, n_addl, n_ladd, n_mull, n_lmul, n_subl, Int32.reduceLT, Int32.reduceLE, Int32.reduceAdd, Int32.reduceSub, Int32.reduceMul, Int32.reduceToNatClampNeg, not_false_eq_true, not_true_eq_false, or_false, false_or, or_self, and_self, false_and, true_and, and_false, and_true, true_or, or_true, Nat.reduceAdd, Nat.reduceMul, Nat.reduceLT, Nat.reduceLeDiff, ne_eq, hs]
      rw [e16] at e
      simp only [if_neg e]
      refine hv_up (fun _ => fX12_free.eq_2 ..) ?_
      try simp only [↓reduceIte, Nat.reduceEqDiff, Option.bind_some, ao_let, hs]
      try simp (disch := first | omega | assumption) only [↓reduceIte, Nat.reduceEqDiff, Option.bind_some, ao_let, t_le, f_le, t_lt, f_lt, f_eq, u_eq, u_n1, u_n2, n_cl, n_lt, n_le, n_eq, n_ltl, n_llt, n_lel, n_lle, n_eql, n_leq, n_add, n_mul, n_sub, n_addl, n_ladd, n_mull, n_lmul, n_subl, Int32.reduceLT, Int32.reduceLE, Int32.reduceAdd, Int32.reduceSub, Int32.reduceMul, Int32.reduceToNatClampNeg, not_false_eq_true, not_true_eq_false, or_false, false_or, or_self, and_self, false_and, true_and, and_false, and_true, true_or, or_true, Nat.reduceAdd, Nat.reduceMul, Nat.reduceLT, Nat.reduceLeDiff, ne_eq, hs]
      refine hv_mono h2 ?_
      rintro ⟨D2, σ2⟩ ⟨b1, b2, b3, b4⟩
      dsimp only at b1 b2 b3 b4
      rw [← e16] at e
      refine ⟨?_, b2, b3, ?_⟩
      · rw [cntT_s, if_neg e]
        exact b1
      · intro q hq
        refine ⟨(b4 q hq).1, ?_⟩
        dsimp only
        rw [(b4 q hq).2]
        by_cases eq : q = p
        · subst eq
          rw [if_neg (by omega), if_neg (fun x => e x.2)]
        · by_cases e2 : C 16 q = nI t
          · by_cases e3 : p + 1 ≤ q
            · rw [if_pos ⟨e3, e2⟩, if_pos ⟨by omega, e2⟩]
            · rw [if_neg (by omega), if_neg (by omega)]
          · rw [if_neg (fun x => e2 x.2), if_neg (fun x => e2 x.2)]
/-- the reference looks whether there is something to let go -/
theorem fr_seek {σ : ao_H} (hs : ShD σ) {t : Nat} (ht : t < 6) {D : ao_M} {Q : ao_S → Prop} : ∀ (m p : Nat) (b : Int32), p + m = 26 → (b = 0 ∨ b = 1) →
    (¬ (b = 1 ∨ ∃ q, p ≤ q ∧ q < 26 ∧ D 544 q = nI t) → Q (D, σ)) → ((b = 1 ∨ ∃ q, p ≤ q ∧ q < 26 ∧ D 544 q = nI t) → hv (fun n => fX12_free n 53 537 (nI t) 1 (nI 0) (ao_u D 537 26 (D 537 26 + 1)) σ) Q) →
    hv (fun n => fX12_free n 12 537 (nI t) b (nI p) D σ) Q := by
  intro m
  induction m with
  | zero =>
    intro p b h hb q1 q2
    obtain rfl : p = 26 := by omega
    refine hv_up (fun _ => fX12_free.eq_2 ..) ?_
    try simp only [↓reduceIte, Nat.reduceEqDiff, Option.bind_some, ao_let, hs]
    try simp (disch := first | omega | assumption) only [↓reduceIte, Nat.reduceEqDiff, Option.bind_some, ao_let, t_le, f_le, t_lt, f_lt, f_eq, u_eq, u_n1, u_n2, n_cl, n_lt, n_le, n_eq, n_ltl, n_llt, n_lel, n_lle, n_eql, n_leq, n_add, n_mul, n_sub, n_addl, n_ladd, n_mull, n_lmul, n_subl, Int32.reduceLT, Int32.reduceLE, Int32.reduceAdd, Int32.reduceSub, Int32.reduceMul, Int32.reduceToNatClampNeg, not_false_eq_true, not_true_eq_false, or_false, false_or, or_self, and_self, false_and, true_and, and_false, and_true, true_or, or_true, Nat.reduceAdd, Nat.reduceMul, Nat.reduceLT, Nat.reduceLeDiff, ne_eq, hs]
    rcases hb with rfl | rfl
    · simp only [↓reduceIte]
      refine hv_some (q1 ?_)
      rintro (e | ⟨q, h1, h2, _⟩)
      · exact absurd e (by decide)
      · omega
    · simp only [show ((1 : Int32) = 0) = False from by decide, ↓reduceIte]
      exact q2 (Or.inl rfl)
  | succ m ih =>
    intro p b h hb q1 q2
    refine hv_up (fun _ => fX12_free.eq_2 ..) ?_
    try simp only [↓reduceIte, Nat.reduceEqDiff, Option.bind_some, ao_let, hs]
    try simp (disch := first | omega | assumption) only [↓reduceIte, Nat.reduceEqDiff, Option.bind_some, ao_let, t_le, f_le, t_lt, f_lt, f_eq, u_eq, u_n1, u_n2, n_cl, n_lt, n_le, n_eq, n_ltl, n_llt, n_lel, n_lle, n_eql, n_leq, n_add, n_mul, n_sub, n_addl, n_ladd, n_mull, n_lmul, n_subl, Int32.reduceLT, Int32.reduceLE, Int32.reduceAdd, Int32.reduceSub, Int32.reduceMul, Int32.reduceToNatClampNeg, not_false_eq_true, not_true_eq_false, or_false, false_or, or_self, and_self, false_and, true_and, and_false, and_true, true_or, or_true, Nat.reduceAdd, Nat.reduceMul, Nat.reduceLT, Nat.reduceLeDiff, ne_eq, hs]
    by_cases e : D 544 p = nI t
    · simp only [if_pos e]
      refine hv_up (fun _ => fX12_free.eq_2 ..) ?_
      try simp only [↓reduceIte, Nat.reduceEqDiff, Option.bind_some, ao_let, hs]
      try simp (disch := first | omega | assumption) only [↓reduceIte, Nat.reduceEqDiff, Option.bind_some, ao_let, t_le, f_le, t_lt, f_lt, f_eq, u_eq, u_n1, u_n2, n_cl, n_lt, n_le, n_eq, n_ltl, n_llt, n_lel, n_lle, n_eql, n_leq, n_add, n_mul, n_sub, n_addl, n_ladd, n_mull, n_lmul, n_subl, Int32.reduceLT, Int32.reduceLE, Int32.reduceAdd, Int32.reduceSub, Int32.reduceMul, Int32.reduceToNatClampNeg, not_false_eq_true, not_true_eq_false, or_false, false_or, or_self, and_self, false_and, true_and, and_false, and_true, true_or, or_true, Nat.reduceAdd, Nat.reduceMul, Nat.reduceLT, Nat.reduceLeDiff, ne_eq, hs]
      refine ih (p + 1) 1 (by omega) (Or.inr rfl) (fun x => absurd (Or.inl rfl) x) (fun _ => q2 (Or.inr ⟨p, by omega, by omega, e⟩))
    · simp only [if_neg e]
      refine hv_up (fun _ => fX12_free.eq_2 ..) ?_
      try simp only [↓reduceIte, Nat.reduceEqDiff, Option.bind_some, ao_let, hs]
      try simp (disch := first | omega | assumption) only [↓reduceIte, Nat.reduceEqDiff, Option.bind_some, ao_let, t_le, f_le, t_lt, f_lt, f_eq, u_eq, u_n1, u_n2, n_cl, n_lt, n_le, n_eq, n_ltl, n_llt, n_lel, n_lle, n_eql, n_leq, n_add, n_mul, n_sub, n_addl, n_ladd, n_mull, n_lmul, n_subl, Int32.reduceLT, Int32.reduceLE, Int32.reduceAdd, Int32.reduceSub, Int32.reduceMul, Int32.reduceToNatClampNeg, not_false_eq_true, not_true_eq_false, or_false, false_or, or_self, and_self, false_and, true_and, and_false, and_true, true_or, or_true, Nat.reduceAdd, Nat.reduceMul, Nat.reduceLT, Nat.reduceLeDiff, ne_eq, hs]
      have hx : (b = 1 ∨ ∃ q, p ≤ q ∧ q < 26 ∧ D 544 q = nI t) ↔ (b = 1 ∨ ∃ q, p + 1 ≤ q ∧ q < 26 ∧ D 544 q = nI t) := by
        constructor
        · rintro (x | ⟨q, h1, h2, h3⟩)
          · exact Or.inl x
          · by_cases eq : q = p
            · exact absurd (eq ▸ h3) e
            · exact Or.inr ⟨q, by omega, h2, h3⟩
        · rintro (x | ⟨q, h1, h2, h3⟩)
          · exact Or.inl x
          · exact Or.inr ⟨q, by omega, h2, h3⟩
      exact ih (p + 1) b (by omega) hb (fun x => q1 (fun y => x (hx.mp y))) (fun x => q2 (hx.mpr x))
theorem cntT_0 {C : ao_M} {t p m : Nat} (h : ∀ q, p ≤ q → q < p + m → C 16 q ≠ nI t) : cntT C t p m = 0 := by
  unfold cntT
  rw [List.countP_eq_zero]
  intro q hq
  rw [List.mem_range'_1] at hq
  simpa using h q hq.1 hq.2
/-- the class has nothing to let go -/
theorem rel_none {ρ : ao_H} (hc : ShA ρ) {t : Nat} {C : ao_M} {Q : ao_S → Prop} (q : Q (C, ρ)) : ∀ (m p : Nat), p + m = 26 → (∀ q, p ≤ q → q < 26 → C 16 q ≠ nI t) → hv (fun n => fX5_release n 4 13 (nI t) 0 (nI p) C ρ) Q := by
  intro m
  induction m with
  | zero =>
    intro p h _
    obtain rfl : p = 26 := by omega
    refine hv_up (fun _ => fX5_release.eq_2 ..) ?_
    try simp only [↓reduceIte, Nat.reduceEqDiff, Option.bind_some, ao_let, hc]
    try simp (disch := first | omega | assumption) only [↓reduceIte, Nat.reduceEqDiff, Option.bind_some, ao_let, t_le, f_le, t_lt, f_lt, f_eq, u_eq, u_n1, u_n2, n_cl, n_lt, n_le, n_eq, n_ltl, n_llt, n_lel, n_lle, n_eql, n_leq, n_add, n_mul, n_sub, n_addl, n_ladd, n_mull, n_lmul, n_subl, Int32.reduceLT, Int32.reduceLE, Int32.reduceAdd, Int32.reduceSub, Int32.reduceMul, Int32.reduceToNatClampNeg, not_false_eq_true, not_true_eq_false, or_false, false_or, or_self, and_self, false_and, true_and, and_false, and_true, true_or, or_true, Nat.reduceAdd, Nat.reduceMul, Nat.reduceLT, Nat.reduceLeDiff, ne_eq, hc]
    exact hv_some q
  | succ m ih =>
    intro p h hn
    refine hv_up (fun _ => fX5_release.eq_2 ..) ?_
    try simp only [↓reduceIte, Nat.reduceEqDiff, Option.bind_some, ao_let, hc]
    try simp (disch := first | omega | assumption) only [↓reduceIte, Nat.reduceEqDiff, Option.bind_some, ao_let, t_le, f_le, t_lt, f_lt, f_eq, u_eq, u_n1, u_n2, n_cl, n_lt, n_le, n_eq, n_ltl, n_llt, n_lel, n_lle, n_eql, n_leq, n_add, n_mul, n_sub, n_addl, n_ladd, n_mull, n_lmul, n_subl, Int32.reduceLT, Int32.reduceLE, Int32.reduceAdd, Int32.reduceSub, Int32.reduceMul, Int32.reduceToNatClampNeg, not_false_eq_true, not_true_eq_false, or_false, false_or, or_self, and_self, false_and, true_and, and_false, and_true, true_or, or_true, Nat.reduceAdd, Nat.reduceMul, Nat.reduceLT, Nat.reduceLeDiff, ne_eq, hc]
    simp only [if_neg (hn p (by omega) (by omega))]
    refine hv_up (fun _ => fX5_release.eq_2 ..) ?_
    try simp only [↓reduceIte, Nat.reduceEqDiff, Option.bind_some, ao_let, hc]
    try simp (disch := first | omega | assumption) only [↓reduceIte, Nat.reduceEqDiff, Option.bind_some, ao_let, t_le, f_le, t_lt, f_lt, f_eq, u_eq, u_n1, u_n2, n_cl, n_lt, n_le, n_eq, n_ltl, n_llt, n_lel, n_lle, n_eql, n_leq, n_add, n_mul, n_sub, n_addl, n_ladd, n_mull, n_lmul, n_subl, Int32.reduceLT, Int32.reduceLE, Int32.reduceAdd, Int32.reduceSub, Int32.reduceMul, Int32.reduceToNatClampNeg, not_false_eq_true, not_true_eq_false, or_false, false_or, or_self, and_self, false_and, true_and, and_false, and_true, true_or, or_true, Nat.reduceAdd, Nat.reduceMul, Nat.reduceLT, Nat.reduceLeDiff, ne_eq, hc]
    exact ih (p + 1) (by omega) (fun q h1 h2 => hn q (by omega) h2)
/-- the class has something to let go: the clock goes on at the first such place, at the reference it has gone on -/
theorem rel_some {t : Nat} (ht : t < 6) : ∀ (m p k : Nat) (C D : ao_M) (ρ σ : ao_H), p + m = 26 → ShA ρ → ShD σ → k + m ≤ 30000 → Rpl k C ρ D σ → (∃ q, p ≤ q ∧ q < 26 ∧ C 16 q = nI t) →
    hv (fun n => fX5_release n 4 13 (nI t) 0 (nI p) C ρ) (fun y => hv (fun n => fX12_free n 53 537 (nI t) 1 (nI p) (ao_u D 537 26 (D 537 26 + 1)) σ) (fun w => relP C D ρ σ t k p m y w)) := by
  intro m
  induction m with
  | zero =>
    intro p k C D ρ σ h hc hs hk r hq
    obtain ⟨q, h1, h2, _⟩ := hq
    omega
  | succ m ih =>
    intro p k C D ρ σ h hc hs hk r hq
    have r0 := r
    obtain ⟨f, g, hh, pc, pd, ch, ev, ec⟩ := r
    have e16 := (ev p (by omega)).2.2.1
    by_cases e : C 16 p = nI t
    · have r1 : Rpl k (ao_u C 13 4 (C 13 4 + 1)) ρ (ao_u D 537 26 (D 537 26 + 1)) σ := by
        refine ⟨f, g, hh, PLc_mv pc ?_ ?_ ?_, PLd_mv pd ?_ ?_, ch, ?_, ?_⟩
        · simp (disch := omega) only [u_n1, u_n2]
        · simp (disch := omega) only [u_n1, u_n2]
        · intro x hx; funext i; simp (disch := omega) only [u_n1]
        · simp (disch := omega) only [u_n1, u_n2]
        · intro x hx; funext i; simp (disch := omega) only [u_n1]
        · intro q hq
          simp (disch := omega) only [u_n1]
          exact ev q hq
        · simp only [u_eq, ec]
      have hl := rel_loop ht (m + 1) p k (ao_u C 13 4 (C 13 4 + 1)) (ao_u D 537 26 (D 537 26 + 1)) ρ σ h hc hs hk r1
      have e' : (ao_u C 13 4 (C 13 4 + 1)) 16 p = nI t := by rw [u_n1 (by omega)]; exact e
      -- both go on from here alike
      have hgo : hv (fun n => fX5_release n 4 13 (nI t) 0 (nI p) C ρ) (fun y => hv (fun n => fX12_free n 53 537 (nI t) 1 (nI p) (ao_u D 537 26 (D 537 26 + 1)) σ) (fun w => relP (ao_u C 13 4 (C 13 4 + 1)) (ao_u D 537 26 (D 537 26 + 1)) ρ σ t k p (m + 1) y w)) := by
        obtain ⟨N, y, ey, qy⟩ := hl
        refine ⟨N + 1, y, fun n hn => ?_, qy⟩
        have h1 := ey n (by omega)
        obtain ⟨n, rfl⟩ : ∃ j, n = j + 1 := ⟨n - 1, by omega⟩
        dsimp only at h1 ⊢
        rw [fX5_release.eq_2] at h1 ⊢
        try simp only [↓reduceIte, Nat.reduceEqDiff, Option.bind_some, ao_let, hc, e, e', show ((1 : Int32) = 0) = False from by decide] at h1 ⊢
        try simp (disch := first | omega | assumption) only [↓reduceIte, Nat.reduceEqDiff, Option.bind_some, ao_let, t_le, f_le, t_lt, f_lt, f_eq, u_eq, u_n1, u_n2, n_cl, n_lt, n_le, n_eq, n_ltl, n_llt, n_lel, n_lle, n_eql, n_leq, n_add, n_mul, n_sub, n_addl, n_ladd, n_mull, n_lmul, n_subl, Int32.reduceLT, Int32.reduceLE, Int32.reduceAdd, Int32.reduceSub, Int32.reduceMul, Int32.reduceToNatClampNeg, not_false_eq_true, not_true_eq_false, or_false, false_or, or_self, and_self, false_and, true_and, and_false, and_true, true_or, or_true, Nat.reduceAdd, Nat.reduceMul, Nat.reduceLT, Nat.reduceLeDiff, ne_eq, hc, e, e', show ((1 : Int32) = 0) = False from by decide] at h1 ⊢
        exact h1
      refine hv_mono hgo ?_
      rintro ⟨C2, ρ2⟩ h2
      refine hv_mono h2 ?_
      rintro ⟨D2, σ2⟩ ⟨b1, b2, b3, b4⟩
      dsimp only at b1 b2 b3 b4
      refine ⟨?_, ⟨b2.1, fun x i hx hp hz => ?_⟩, ⟨b3.1, fun x i hi hx hp hz => ?_⟩, fun q hq => ?_⟩
      · exact b1
      · dsimp only
        rw [b2.2 x i hx hp hz, u_n1 (by omega)]
      · dsimp only
        rw [b3.2 x i hi hx hp hz, u_ne (by omega)]
      · exact b4 q hq
    · refine hv_up (fun _ => fX5_release.eq_2 ..) ?_
      try simp only [↓reduceIte, Nat.reduceEqDiff, Option.bind_some, ao_let, hc]
      try simp (disch := first | omega | assumption) only [↓reduceIte, Nat.reduceEqDiff, Option.bind_some, ao_let, t_le, f_le, t_lt, f_lt, f_eq, u_eq, u_n1, u_n2, n_cl, n_lt, n_le, n_eq, n_ltl, n_llt, n_lel, n_lle, n_eql, n_leq, n_add, n_mul, n_sub, n_addl, n_ladd, n_mull, n_lmul, n_subl, Int32.reduceLT, Int32.reduceLE, Int32.reduceAdd, Int32.reduceSub, Int32.reduceMul, Int32.reduceToNatClampNeg, not_false_eq_true, not_true_eq_false, or_false, false_or, or_self, and_self, false_and, true_and, and_false, and_true, true_or, or_true, Nat.reduceAdd, Nat.reduceMul, Nat.reduceLT, Nat.reduceLeDiff, ne_eq, hc]
      simp only [if_neg e]
      refine hv_up (fun _ => fX5_release.eq_2 ..) ?_
      try simp only [↓reduceIte, Nat.reduceEqDiff, Option.bind_some, ao_let, hc]
      try simp (disch := first | omega | assumption) only [↓reduceIte, Nat.reduceEqDiff, Option.bind_some, ao_let, t_le, f_le, t_lt, f_lt, f_eq, u_eq, u_n1, u_n2, n_cl, n_lt, n_le, n_eq, n_ltl, n_llt, n_lel, n_lle, n_eql, n_leq, n_add, n_mul, n_sub, n_addl, n_ladd, n_mull, n_lmul, n_subl, Int32.reduceLT, Int32.reduceLE, Int32.reduceAdd, Int32.reduceSub, Int32.reduceMul, Int32.reduceToNatClampNeg, not_false_eq_true, not_true_eq_false, or_false, false_or, or_self, and_self, false_and, true_and, and_false, and_true, true_or, or_true, Nat.reduceAdd, Nat.reduceMul, Nat.reduceLT, Nat.reduceLeDiff, ne_eq, hc]
      refine hv_mono (ih (p + 1) k C D ρ σ (by omega) hc hs (by omega) r0 ?_) ?_
      · obtain ⟨q, h1, h2, h3⟩ := hq
        by_cases eq : q = p
        · exact absurd (eq ▸ h3) e
        · exact ⟨q, by omega, h2, h3⟩
      rintro ⟨C2, ρ2⟩ h2
      refine hv_up (fun _ => fX12_free.eq_2 ..) ?_
      try simp only [↓reduceIte, Nat.reduceEqDiff, Option.bind_some, ao_let, hs]
      try simp (disch := first | omega | assumption) only [↓reduceIte, Nat.reduceEqDiff, Option.bind_some, ao_let, t_le, f_le, t_lt, f_lt, f_eq, u_eq, u_n1, u_n2, n_cl, n_lt, n_le, n_eq, n_ltl, n_llt, n_lel, n_lle, n_eql, n_leq, n_add, n_mul, n_sub, n_addl, n_ladd, n_mull, n_lmul, n_subl, Int32.reduceLT, Int32.reduceLE, Int32.reduceAdd, Int32.reduceSub, Int32.reduceMul, Int32.reduceToNatClampNeg, not_false_eq_true, not_true_eq_false, or_false, false_or, or_self, and_self, false_and, true_and, and_false, and_true, true_or, or_true, Nat.reduceAdd, Nat.reduceMul, Nat.reduceLT, Nat.reduceLeDiff, ne_eq, hs]
      rw [e16] at e
      have e2 : ¬ (ao_u D 537 26 (D 537 26 + 1)) 544 p = nI t := by rw [u_n1 (by omega)]; exact e
      simp only [if_neg e]
      refine hv_up (fun _ => fX12_free.eq_2 ..) ?_
      try simp only [↓reduceIte, Nat.reduceEqDiff, Option.bind_some, ao_let, hs]
      try simp (disch := first | omega | assumption) only [↓reduceIte, Nat.reduceEqDiff, Option.bind_some, ao_let, t_le, f_le, t_lt, f_lt, f_eq, u_eq, u_n1, u_n2, n_cl, n_lt, n_le, n_eq, n_ltl, n_llt, n_lel, n_lle, n_eql, n_leq, n_add, n_mul, n_sub, n_addl, n_ladd, n_mull, n_lmul, n_subl, Int32.reduceLT, Int32.reduceLE, Int32.reduceAdd, Int32.reduceSub, Int32.reduceMul, Int32.reduceToNatClampNeg, not_false_eq_true, not_true_eq_false, or_false, false_or, or_self, and_self, false_and, true_and, and_false, and_true, true_or, or_true, Nat.reduceAdd, Nat.reduceMul, Nat.reduceLT, Nat.reduceLeDiff, ne_eq, hs]
      refine hv_mono h2 ?_
      rintro ⟨D2, σ2⟩ ⟨b1, b2, b3, b4⟩
      dsimp only at b1 b2 b3 b4
      rw [← e16] at e
      refine ⟨?_, b2, b3, ?_⟩
      · rw [cntT_s, if_neg e]
        exact b1
      · intro q hq
        refine ⟨(b4 q hq).1, ?_⟩
        dsimp only
        rw [(b4 q hq).2]
        by_cases eq : q = p
        · subst eq
          rw [if_neg (by omega), if_neg (fun x => e x.2)]
        · by_cases e2 : C 16 q = nI t
          · by_cases e3 : p + 1 ≤ q
            · rw [if_pos ⟨e3, e2⟩, if_pos ⟨by omega, e2⟩]
            · rw [if_neg (by omega), if_neg (by omega)]
          · rw [if_neg (fun x => e2 x.2), if_neg (fun x => e2 x.2)]
/-- release and free -/
theorem rel_pair {t k : Nat} {C D : ao_M} {ρ σ : ao_H} (ht : t < 6) (hc : ShA ρ) (hs : ShD σ) (hk : k ≤ 29000) (r : Rpl k C ρ D σ) (hw : ¬ (D 537 27 = 3 ∨ D 537 27 = 4) → ∀ p, p < 26 → C 16 p = -1) :
    hv (fun n => gX5_release n 13 (nI t) C ρ) (fun y => hv (fun n => gX12_free n 537 (nI t) D σ) (fun w => relP C D ρ σ t k 0 26 y w)) := by
  have r0 := r
  obtain ⟨f, g, hh, pc, pd, ch, ev, ec⟩ := r
  have nochange : (∀ q, q < 26 → C 16 q ≠ nI t) → relP C D ρ σ t k 0 26 (C, ρ) (D, σ) := by
    intro hn
    obtain ⟨⟨z, ez, _⟩, ⟨z', ez', _⟩⟩ := Rpl_z r0
    refine ⟨?_, ⟨HxC_refl ez rfl, fun _ _ _ _ _ => rfl⟩, ⟨HxD_refl ez', fun _ _ _ _ _ _ => rfl⟩, fun q hq => ⟨rfl, ?_⟩⟩
    · rw [cntT_0 (fun q _ h => hn q (by omega))]; exact r0
    · dsimp only
      rw [if_neg (fun x => hn q hq x.2)]
  unfold gX5_release
  refine hv_up (fun _ => fX5_release.eq_2 ..) ?_
  try simp only [↓reduceIte, Nat.reduceEqDiff, Option.bind_some, ao_let, hc]
  try simp (disch := first | omega | assumption) only [↓reduceIte, Nat.reduceEqDiff, Option.bind_some, ao_let, t_le, f_le, t_lt, f_lt, f_eq, u_eq, u_n1, u_n2, n_cl, n_lt, n_le, n_eq, n_ltl, n_llt, n_lel, n_lle, n_eql, n_leq, n_add, n_mul, n_sub, n_addl, n_ladd, n_mull, n_lmul, n_subl, Int32.reduceLT, Int32.reduceLE, Int32.reduceAdd, Int32.reduceSub, Int32.reduceMul, Int32.reduceToNatClampNeg, not_false_eq_true, not_true_eq_false, or_false, false_or, or_self, and_self, false_and, true_and, and_false, and_true, true_or, or_true, Nat.reduceAdd, Nat.reduceMul, Nat.reduceLT, Nat.reduceLeDiff, ne_eq, hc]
  by_cases hE : D 537 27 = 3 ∨ D 537 27 = 4
  · by_cases hq : ∃ q, 0 ≤ q ∧ q < 26 ∧ C 16 q = nI t
    · refine hv_mono (rel_some ht 26 0 k C D ρ σ rfl hc hs (by omega) r0 hq) ?_
      rintro y hy
      unfold gX12_free
      refine hv_up (fun _ => fX12_free.eq_2 ..) ?_
      try simp only [↓reduceIte, Nat.reduceEqDiff, Option.bind_some, ao_let, hs]
      try simp (disch := first | omega | assumption) only [↓reduceIte, Nat.reduceEqDiff, Option.bind_some, ao_let, t_le, f_le, t_lt, f_lt, f_eq, u_eq, u_n1, u_n2, n_cl, n_lt, n_le, n_eq, n_ltl, n_llt, n_lel, n_lle, n_eql, n_leq, n_add, n_mul, n_sub, n_addl, n_ladd, n_mull, n_lmul, n_subl, Int32.reduceLT, Int32.reduceLE, Int32.reduceAdd, Int32.reduceSub, Int32.reduceMul, Int32.reduceToNatClampNeg, not_false_eq_true, not_true_eq_false, or_false, false_or, or_self, and_self, false_and, true_and, and_false, and_true, true_or, or_true, Nat.reduceAdd, Nat.reduceMul, Nat.reduceLT, Nat.reduceLeDiff, ne_eq, hs]
      refine hv_bind (P := fun w => w = (1, D)) (dv_eagerT hs D hE rfl) ?_
      rintro _ rfl
      simp only [show ((1 : Int32) = 0) = False from by decide, ↓reduceIte]
      refine fr_seek hs ht 26 0 0 rfl (Or.inl rfl) ?_ ?_
      · intro hn
        obtain ⟨q, h1, h2, h3⟩ := hq
        exact absurd (Or.inr ⟨q, h1, h2, by rw [← (ev q h2).2.2.1]; exact h3⟩) hn
      · intro _
        exact hy
    · have hn : ∀ q, q < 26 → C 16 q ≠ nI t := fun q h1 h2 => hq ⟨q, by omega, h1, h2⟩
      refine rel_none hc ?_ 26 0 rfl (fun q _ h => hn q h)
      unfold gX12_free
      refine hv_up (fun _ => fX12_free.eq_2 ..) ?_
      try simp only [↓reduceIte, Nat.reduceEqDiff, Option.bind_some, ao_let, hs]
      try simp (disch := first | omega | assumption) only [↓reduceIte, Nat.reduceEqDiff, Option.bind_some, ao_let, t_le, f_le, t_lt, f_lt, f_eq, u_eq, u_n1, u_n2, n_cl, n_lt, n_le, n_eq, n_ltl, n_llt, n_lel, n_lle, n_eql, n_leq, n_add, n_mul, n_sub, n_addl, n_ladd, n_mull, n_lmul, n_subl, Int32.reduceLT, Int32.reduceLE, Int32.reduceAdd, Int32.reduceSub, Int32.reduceMul, Int32.reduceToNatClampNeg, not_false_eq_true, not_true_eq_false, or_false, false_or, or_self, and_self, false_and, true_and, and_false, and_true, true_or, or_true, Nat.reduceAdd, Nat.reduceMul, Nat.reduceLT, Nat.reduceLeDiff, ne_eq, hs]
      refine hv_bind (P := fun w => w = (1, D)) (dv_eagerT hs D hE rfl) ?_
      rintro _ rfl
      simp only [show ((1 : Int32) = 0) = False from by decide, ↓reduceIte]
      refine fr_seek hs ht 26 0 0 rfl (Or.inl rfl) ?_ ?_
      · intro _
        exact nochange hn
      · rintro (x | ⟨q, h1, h2, h3⟩)
        · exact absurd x (by decide)
        · exact absurd (by rw [(ev q h2).2.2.1]; exact h3) (hn q h2)
  · have hn : ∀ q, q < 26 → C 16 q ≠ nI t := fun q h1 h2 => by
      rw [hw hE q h1] at h2
      have := n_neg (n := t) (by omega)
      rw [← h2] at this
      exact absurd rfl (by rw [this]; exact id)
    refine rel_none hc ?_ 26 0 rfl (fun q _ h => hn q h)
    unfold gX12_free
    refine hv_up (fun _ => fX12_free.eq_2 ..) ?_
    try simp only [↓reduceIte, Nat.reduceEqDiff, Option.bind_some, ao_let, hs]
    try simp (disch := first | omega | assumption) only [↓reduceIte, Nat.reduceEqDiff, Option.bind_some, ao_let, t_le, f_le, t_lt, f_lt, f_eq, u_eq, u_n1, u_n2, n_cl, n_lt, n_le, n_eq, n_ltl, n_llt, n_lel, n_lle, n_eql, n_leq, n_add, n_mul, n_sub, n_addl, n_ladd, n_mull, n_lmul, n_subl, Int32.reduceLT, Int32.reduceLE, Int32.reduceAdd, Int32.reduceSub, Int32.reduceMul, Int32.reduceToNatClampNeg, not_false_eq_true, not_true_eq_false, or_false, false_or, or_self, and_self, false_and, true_and, and_false, and_true, true_or, or_true, Nat.reduceAdd, Nat.reduceMul, Nat.reduceLT, Nat.reduceLeDiff, ne_eq, hs]
    refine hv_bind (P := fun w => w = (0, D)) (dv_eagerF hs D hE rfl) ?_
    rintro _ rfl
    simp only [↓reduceIte]
    exact hv_some (nochange hn)
