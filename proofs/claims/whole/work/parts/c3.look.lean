set_option linter.unusedSimpArgs false
set_option linter.unusedVariables false
/-! ===== calls between calls: look ===== -/
section Cc3
variable {m B1 B2 E1 E2 : Nat} {C D : ao_M} {ρ σ : ao_H} {t : Nat}
/-- what a look finds of a thread -/
theorem thr_dp {rc : Nat} (h : Thr C ρ D rc t) : ∃ s dp, s ≤ 5 ∧ C (92 + 71 * t) 2 = nI s ∧ D 551 t = nI s ∧ dp ≤ 10 ∧ C (92 + 71 * t) 8 = nI dp ∧ (∀ j, j < dp → Lv C D rc t j) ∧ (s = 2 → D 556 t = nI dp ∧ C (92 + 71 * t) 14 = D 560 t) ∧ (s ≠ 2 → D 556 t = 0) ∧ (s = 3 → dp = 1) ∧ (s ≠ 2 → s ≠ 3 → dp = 0) ∧ C (92 + 71 * t) 17 = D 559 t ∧ C (92 + 71 * t) 18 = D 562 t ∧ C (92 + 71 * t) 19 = D 561 t := by
  obtain ⟨s, a1, a2, a3, a4, a5, a6, a7, a8, a9, a10, a11⟩ := h
  by_cases q2 : s = 2
  · rcases a11 with ⟨a11, -⟩ | ⟨-, len, kd, x1, x2, x3, φ, N, H, K, g1, g2, g3⟩
    · omega
    · obtain ⟨a, h1, h2, h3, h4, h5, h6, h7, h8, h9⟩ := g3.2.1 q2
      have l2 := (g2.2.2.2.2.2.1 a h1).2.1
      have l1 := @nl_le (N a)
      exact ⟨s, nl (N a), a1, a2, a3, by omega, h6.1, h6.2.1, fun _ => ⟨h7, h8⟩, fun q => absurd q2 q, fun q => by omega, fun q => absurd q2 q, a5, a6, a7⟩
  · by_cases q3 : s = 3
    · rcases a11 with ⟨a11, -⟩ | ⟨-, len, kd, x1, x2, x3, φ, N, H, K, g1, g2, g3⟩
      · omega
      · obtain ⟨b, h1, h2, h3, h4, h5, h6, h7, h8, h9⟩ := g3.2.2 q3
        exact ⟨s, 1, a1, a2, a3, by omega, h8.1, h8.2.1, fun q => absurd q q2, fun _ => a10 q2, fun _ => rfl, fun _ q => absurd q3 q, a5, a6, a7⟩
    · exact ⟨s, 0, a1, a2, a3, by omega, a9 q2 q3, fun j hj => absurd hj (by omega), fun q => absurd q q2, fun _ => a10 q2, fun q => absurd q q3, fun _ _ => rfl, a5, a6, a7⟩
def rdn (C : ao_M) (t : Nat) : Nat → Nat
  | 0 => 0
  | n + 1 => rdn C t n + rl C t n
def orm (C : ao_M) (t : Nat) : Nat → Int32
  | 0 => 0
  | n + 1 => orm C t n ||| C (92 + 71 * t + 8 + 6 * n) 6
theorem bt_oo (a b : Int32) (p : Nat) : bt (a ||| b) p = (bt a p || bt b p) := by
  unfold bt
  simp only [Int32.toBitVec_or, BitVec.getLsbD_or]
theorem orm_bt {p : Nat} : ∀ n, bt (orm C t n) p = true ↔ ∃ j, j < n ∧ bt (C (92 + 71 * t + 8 + 6 * j) 6) p = true := by
  intro n
  induction n with
  | zero =>
    constructor
    · intro h
      have h0 : bt 0 p = true := h
      rw [bt_0] at h0
      exact absurd h0 (by decide)
    · rintro ⟨j, hj, -⟩
      omega
  | succ n ih =>
    show bt (orm C t n ||| C (92 + 71 * t + 8 + 6 * n) 6) p = true ↔ _
    rw [bt_oo, Bool.or_eq_true, ih]
    constructor
    · rintro (⟨j, hj, h⟩ | h)
      · exact ⟨j, by omega, h⟩
      · exact ⟨n, by omega, h⟩
    · rintro ⟨j, hj, h⟩
      by_cases e : j = n
      · subst e; exact Or.inr h
      · exact Or.inl ⟨j, by omega, h⟩
theorem rl_at {rc j : Nat} (h : Lv C D rc t j) : C (92 + 71 * t + 8 + 6 * j) 3 = nI (rl C t j) ∧ rl C t j ≤ 26 ∧ (List.range' 0 26).countP (fun p => decide (D 577 ((t * 12 + j) * 26 + p) = 1)) = rl C t j ∧ ∀ p, p < 26 → D 577 ((t * 12 + j) * 26 + p) = 0 ∨ D 577 ((t * 12 + j) * 26 + p) = 1 := by
  obtain ⟨-, -, -, ps, vs, ws, hR, o, r1, r2, r3⟩ := h
  have hl := RdC_len hR
  have e : rl C t j = ps.length := by
    unfold rl
    rw [hR.1, n_cl (by omega)]
  refine ⟨by rw [e]; exact hR.1, by omega, ?_, fun p hp => ?_⟩
  · rw [e, ← List.range_eq_range']
    refine cnt_nodup ps hR.2.2.2.1 hR.2.2.2.2 (fun p hp => ?_)
    rw [r1 p hp]
    by_cases q : p ∈ ps
    · rw [if_pos q]; simp [q]
    · rw [if_neg q]; simp [q]
  · rw [r1 p hp]
    by_cases q : p ∈ ps
    · rw [if_pos q]; exact Or.inr rfl
    · rw [if_neg q]; exact Or.inl rfl
theorem rdn_le : ∀ n, (∀ j, j < n → rl C t j ≤ 26) → rdn C t n ≤ 26 * n := by
  intro n
  induction n with
  | zero => intro _; exact Nat.le_refl _
  | succ n ih =>
    intro h
    have h1 := ih (fun j hj => h j (by omega))
    have h2 := h n (by omega)
    show rdn C t n + rl C t n ≤ _
    omega
theorem c_rdA (hb : ShB ρ) (ht : t < 6) {dp : Nat} (hd : dp ≤ 10) (h8 : C (92 + 71 * t) 8 = nI dp) (hl : ∀ j, j < dp → C (92 + 71 * t + 8 + 6 * j) 3 = nI (rl C t j) ∧ rl C t j ≤ 26) : ∀ (k u : Nat), u + k = dp → hv (fun n => fX7_readsOfAll n 4 (92 + 71 * t) (nI (rdn C t u)) (nI u) C ρ) (fun y => y = (nI (rdn C t dp), C)) := by
  intro k
  have hR := RnS_of hb ht
  induction k with
  | zero =>
    intro u h
    obtain rfl : u = dp := by omega
    refine hv_up (fun _ => fX7_readsOfAll.eq_2 ..) ?_
    try simp only [↓reduceIte, Nat.reduceEqDiff, Option.bind_some, ao_let, n_ell, hR, h8]
    try simp (disch := first | omega | assumption) only [↓reduceIte, Nat.reduceEqDiff, Option.bind_some, ao_let, t_le, f_le, t_lt, f_lt, f_eq, u_eq, u_n1, u_n2, n_cl, n_lt, n_le, n_eq, n_ltl, n_llt, n_lel, n_lle, n_eql, n_leq, n_add, n_mul, n_sub, n_addl, n_ladd, n_mull, n_lmul, n_subl, Int32.reduceLT, Int32.reduceLE, Int32.reduceAdd, Int32.reduceSub, Int32.reduceMul, Int32.reduceToNatClampNeg, not_false_eq_true, not_true_eq_false, or_false, false_or, or_self, and_self, false_and, true_and, and_false, and_true, true_or, or_true, Nat.reduceAdd, Nat.reduceMul, Nat.reduceLT, Nat.reduceLeDiff, ne_eq, n_ell, hR, h8]
    exact hv_some rfl
  | succ k ih =>
    intro u h
    have hL := LvS_of hb ht (show u < 10 by omega)
    refine hv_up (fun _ => fX7_readsOfAll.eq_2 ..) ?_
    try simp only [↓reduceIte, Nat.reduceEqDiff, Option.bind_some, ao_let, n_ell, hR, h8]
    try simp (disch := first | omega | assumption) only [↓reduceIte, Nat.reduceEqDiff, Option.bind_some, ao_let, t_le, f_le, t_lt, f_lt, f_eq, u_eq, u_n1, u_n2, n_cl, n_lt, n_le, n_eq, n_ltl, n_llt, n_lel, n_lle, n_eql, n_leq, n_add, n_mul, n_sub, n_addl, n_ladd, n_mull, n_lmul, n_subl, Int32.reduceLT, Int32.reduceLE, Int32.reduceAdd, Int32.reduceSub, Int32.reduceMul, Int32.reduceToNatClampNeg, not_false_eq_true, not_true_eq_false, or_false, false_or, or_self, and_self, false_and, true_and, and_false, and_true, true_or, or_true, Nat.reduceAdd, Nat.reduceMul, Nat.reduceLT, Nat.reduceLeDiff, ne_eq, n_ell, hR, h8]
    refine hv_bind (P := fun z => z = (92 + 71 * t + 8 + 6 * u, C)) (c_level hb ht (by omega) C rfl) ?_
    rintro _ rfl
    have e3 := (hl u (by omega)).1
    try simp only [↓reduceIte, Nat.reduceEqDiff, Option.bind_some, ao_let, n_ell, hL, e3]
    try simp (disch := first | omega | assumption) only [↓reduceIte, Nat.reduceEqDiff, Option.bind_some, ao_let, t_le, f_le, t_lt, f_lt, f_eq, u_eq, u_n1, u_n2, n_cl, n_lt, n_le, n_eq, n_ltl, n_llt, n_lel, n_lle, n_eql, n_leq, n_add, n_mul, n_sub, n_addl, n_ladd, n_mull, n_lmul, n_subl, Int32.reduceLT, Int32.reduceLE, Int32.reduceAdd, Int32.reduceSub, Int32.reduceMul, Int32.reduceToNatClampNeg, not_false_eq_true, not_true_eq_false, or_false, false_or, or_self, and_self, false_and, true_and, and_false, and_true, true_or, or_true, Nat.reduceAdd, Nat.reduceMul, Nat.reduceLT, Nat.reduceLeDiff, ne_eq, n_ell, hL, e3]
    exact ih (u + 1) (by omega)
theorem c_wrA (hb : ShB ρ) (ht : t < 6) {dp : Nat} (hd : dp ≤ 10) (h8 : C (92 + 71 * t) 8 = nI dp) : ∀ (k u : Nat), u + k = dp → hv (fun n => fX7_writesOfAll n 4 (92 + 71 * t) (orm C t u) (nI u) C ρ) (fun y => y = (orm C t dp, C)) := by
  intro k
  have hR := RnS_of hb ht
  induction k with
  | zero =>
    intro u h
    obtain rfl : u = dp := by omega
    refine hv_up (fun _ => fX7_writesOfAll.eq_2 ..) ?_
    try simp only [↓reduceIte, Nat.reduceEqDiff, Option.bind_some, ao_let, n_ell, hR, h8]
    try simp (disch := first | omega | assumption) only [↓reduceIte, Nat.reduceEqDiff, Option.bind_some, ao_let, t_le, f_le, t_lt, f_lt, f_eq, u_eq, u_n1, u_n2, n_cl, n_lt, n_le, n_eq, n_ltl, n_llt, n_lel, n_lle, n_eql, n_leq, n_add, n_mul, n_sub, n_addl, n_ladd, n_mull, n_lmul, n_subl, Int32.reduceLT, Int32.reduceLE, Int32.reduceAdd, Int32.reduceSub, Int32.reduceMul, Int32.reduceToNatClampNeg, not_false_eq_true, not_true_eq_false, or_false, false_or, or_self, and_self, false_and, true_and, and_false, and_true, true_or, or_true, Nat.reduceAdd, Nat.reduceMul, Nat.reduceLT, Nat.reduceLeDiff, ne_eq, n_ell, hR, h8]
    exact hv_some rfl
  | succ k ih =>
    intro u h
    have hL := LvS_of hb ht (show u < 10 by omega)
    refine hv_up (fun _ => fX7_writesOfAll.eq_2 ..) ?_
    try simp only [↓reduceIte, Nat.reduceEqDiff, Option.bind_some, ao_let, n_ell, hR, h8]
    try simp (disch := first | omega | assumption) only [↓reduceIte, Nat.reduceEqDiff, Option.bind_some, ao_let, t_le, f_le, t_lt, f_lt, f_eq, u_eq, u_n1, u_n2, n_cl, n_lt, n_le, n_eq, n_ltl, n_llt, n_lel, n_lle, n_eql, n_leq, n_add, n_mul, n_sub, n_addl, n_ladd, n_mull, n_lmul, n_subl, Int32.reduceLT, Int32.reduceLE, Int32.reduceAdd, Int32.reduceSub, Int32.reduceMul, Int32.reduceToNatClampNeg, not_false_eq_true, not_true_eq_false, or_false, false_or, or_self, and_self, false_and, true_and, and_false, and_true, true_or, or_true, Nat.reduceAdd, Nat.reduceMul, Nat.reduceLT, Nat.reduceLeDiff, ne_eq, n_ell, hR, h8]
    refine hv_bind (P := fun z => z = (92 + 71 * t + 8 + 6 * u, C)) (c_level hb ht (by omega) C rfl) ?_
    rintro _ rfl
    try simp only [↓reduceIte, Nat.reduceEqDiff, Option.bind_some, ao_let, n_ell, hL]
    try simp (disch := first | omega | assumption) only [↓reduceIte, Nat.reduceEqDiff, Option.bind_some, ao_let, t_le, f_le, t_lt, f_lt, f_eq, u_eq, u_n1, u_n2, n_cl, n_lt, n_le, n_eq, n_ltl, n_llt, n_lel, n_lle, n_eql, n_leq, n_add, n_mul, n_sub, n_addl, n_ladd, n_mull, n_lmul, n_subl, Int32.reduceLT, Int32.reduceLE, Int32.reduceAdd, Int32.reduceSub, Int32.reduceMul, Int32.reduceToNatClampNeg, not_false_eq_true, not_true_eq_false, or_false, false_or, or_self, and_self, false_and, true_and, and_false, and_true, true_or, or_true, Nat.reduceAdd, Nat.reduceMul, Nat.reduceLT, Nat.reduceLeDiff, ne_eq, n_ell, hL]
    exact ih (u + 1) (by omega)
theorem d_rdI (hs : ShD σ) (ht : t < 6) {u : Nat} (hu : u < 10) {x3 : Int32} (hf : ∀ p, p < 26 → D 577 ((t * 12 + u) * 26 + p) = 0 ∨ D 577 ((t * 12 + u) * 26 + p) = 1) {Q : Int32 × ao_M → Prop} : ∀ (k p c : Nat), p + k = 26 → hv (fun n => fX12_readsOf n 26 537 (nI t) (nI (c + (List.range' p k).countP (fun p => decide (D 577 ((t * 12 + u) * 26 + p) = 1)))) x3 (nI (u + 1)) 0 0 D σ) Q → hv (fun n => fX12_readsOf n 35 537 (nI t) (nI c) x3 (nI u) (nI p) 0 D σ) Q := by
  intro k
  induction k with
  | zero =>
    intro p c h q
    obtain rfl : p = 26 := by omega
    refine hv_up (fun _ => fX12_readsOf.eq_2 ..) ?_
    try simp only [↓reduceIte, Nat.reduceEqDiff, Option.bind_some, ao_let, n_ell, hs]
    try simp (disch := first | omega | assumption) only [↓reduceIte, Nat.reduceEqDiff, Option.bind_some, ao_let, t_le, f_le, t_lt, f_lt, f_eq, u_eq, u_n1, u_n2, n_cl, n_lt, n_le, n_eq, n_ltl, n_llt, n_lel, n_lle, n_eql, n_leq, n_add, n_mul, n_sub, n_addl, n_ladd, n_mull, n_lmul, n_subl, Int32.reduceLT, Int32.reduceLE, Int32.reduceAdd, Int32.reduceSub, Int32.reduceMul, Int32.reduceToNatClampNeg, not_false_eq_true, not_true_eq_false, or_false, false_or, or_self, and_self, false_and, true_and, and_false, and_true, true_or, or_true, Nat.reduceAdd, Nat.reduceMul, Nat.reduceLT, Nat.reduceLeDiff, ne_eq, n_ell, hs]
    simpa using q
  | succ k ih =>
    intro p c h q
    rw [cP_s (f := fun p => D 577 ((t * 12 + u) * 26 + p) = 1)] at q
    refine hv_up (fun _ => fX12_readsOf.eq_2 ..) ?_
    try simp only [↓reduceIte, Nat.reduceEqDiff, Option.bind_some, ao_let, n_ell, hs, gX12_cell]
    try simp (disch := first | omega | assumption) only [↓reduceIte, Nat.reduceEqDiff, Option.bind_some, ao_let, t_le, f_le, t_lt, f_lt, f_eq, u_eq, u_n1, u_n2, n_cl, n_lt, n_le, n_eq, n_ltl, n_llt, n_lel, n_lle, n_eql, n_leq, n_add, n_mul, n_sub, n_addl, n_ladd, n_mull, n_lmul, n_subl, Int32.reduceLT, Int32.reduceLE, Int32.reduceAdd, Int32.reduceSub, Int32.reduceMul, Int32.reduceToNatClampNeg, not_false_eq_true, not_true_eq_false, or_false, false_or, or_self, and_self, false_and, true_and, and_false, and_true, true_or, or_true, Nat.reduceAdd, Nat.reduceMul, Nat.reduceLT, Nat.reduceLeDiff, ne_eq, n_ell, hs, gX12_cell]
    rcases hf p (by omega) with e | e
    · refine hv_ifT e ?_
      rw [e, if_neg (by decide), Nat.zero_add] at q
      refine hv_up (fun _ => fX12_readsOf.eq_2 ..) ?_
      try simp only [↓reduceIte, Nat.reduceEqDiff, Option.bind_some, ao_let, n_ell]
      try simp (disch := first | omega | assumption) only [↓reduceIte, Nat.reduceEqDiff, Option.bind_some, ao_let, t_le, f_le, t_lt, f_lt, f_eq, u_eq, u_n1, u_n2, n_cl, n_lt, n_le, n_eq, n_ltl, n_llt, n_lel, n_lle, n_eql, n_leq, n_add, n_mul, n_sub, n_addl, n_ladd, n_mull, n_lmul, n_subl, Int32.reduceLT, Int32.reduceLE, Int32.reduceAdd, Int32.reduceSub, Int32.reduceMul, Int32.reduceToNatClampNeg, not_false_eq_true, not_true_eq_false, or_false, false_or, or_self, and_self, false_and, true_and, and_false, and_true, true_or, or_true, Nat.reduceAdd, Nat.reduceMul, Nat.reduceLT, Nat.reduceLeDiff, ne_eq, n_ell]
      exact ih (p + 1) c (by omega) q
    · refine hv_ifF (by rw [e]; decide) ?_
      rw [e, if_pos rfl, ← Nat.add_assoc] at q
      refine hv_up (fun _ => fX12_readsOf.eq_2 ..) ?_
      try simp only [↓reduceIte, Nat.reduceEqDiff, Option.bind_some, ao_let, n_ell]
      try simp (disch := first | omega | assumption) only [↓reduceIte, Nat.reduceEqDiff, Option.bind_some, ao_let, t_le, f_le, t_lt, f_lt, f_eq, u_eq, u_n1, u_n2, n_cl, n_lt, n_le, n_eq, n_ltl, n_llt, n_lel, n_lle, n_eql, n_leq, n_add, n_mul, n_sub, n_addl, n_ladd, n_mull, n_lmul, n_subl, Int32.reduceLT, Int32.reduceLE, Int32.reduceAdd, Int32.reduceSub, Int32.reduceMul, Int32.reduceToNatClampNeg, not_false_eq_true, not_true_eq_false, or_false, false_or, or_self, and_self, false_and, true_and, and_false, and_true, true_or, or_true, Nat.reduceAdd, Nat.reduceMul, Nat.reduceLT, Nat.reduceLeDiff, ne_eq, n_ell]
      exact ih (p + 1) (c + 1) (by omega) q
theorem d_rdA (hs : ShD σ) (ht : t < 6) {mn : Nat} (hd : mn ≤ 10) (hl : ∀ j, j < mn → (List.range' 0 26).countP (fun p => decide (D 577 ((t * 12 + j) * 26 + p) = 1)) = rl C t j ∧ ∀ p, p < 26 → D 577 ((t * 12 + j) * 26 + p) = 0 ∨ D 577 ((t * 12 + j) * 26 + p) = 1) : ∀ (k u : Nat), u + k = mn → hv (fun n => fX12_readsOf n 26 537 (nI t) (nI (rdn C t u)) (nI mn) (nI u) 0 0 D σ) (fun y => y = (nI (rdn C t mn), D)) := by
  intro k
  induction k with
  | zero =>
    intro u h
    obtain rfl : u = mn := by omega
    refine hv_up (fun _ => fX12_readsOf.eq_2 ..) ?_
    try simp only [↓reduceIte, Nat.reduceEqDiff, Option.bind_some, ao_let, n_ell, hs]
    try simp (disch := first | omega | assumption) only [↓reduceIte, Nat.reduceEqDiff, Option.bind_some, ao_let, t_le, f_le, t_lt, f_lt, f_eq, u_eq, u_n1, u_n2, n_cl, n_lt, n_le, n_eq, n_ltl, n_llt, n_lel, n_lle, n_eql, n_leq, n_add, n_mul, n_sub, n_addl, n_ladd, n_mull, n_lmul, n_subl, Int32.reduceLT, Int32.reduceLE, Int32.reduceAdd, Int32.reduceSub, Int32.reduceMul, Int32.reduceToNatClampNeg, not_false_eq_true, not_true_eq_false, or_false, false_or, or_self, and_self, false_and, true_and, and_false, and_true, true_or, or_true, Nat.reduceAdd, Nat.reduceMul, Nat.reduceLT, Nat.reduceLeDiff, ne_eq, n_ell, hs]
    exact hv_some rfl
  | succ k ih =>
    intro u h
    refine hv_up (fun _ => fX12_readsOf.eq_2 ..) ?_
    try simp only [↓reduceIte, Nat.reduceEqDiff, Option.bind_some, ao_let, n_ell, hs]
    try simp (disch := first | omega | assumption) only [↓reduceIte, Nat.reduceEqDiff, Option.bind_some, ao_let, t_le, f_le, t_lt, f_lt, f_eq, u_eq, u_n1, u_n2, n_cl, n_lt, n_le, n_eq, n_ltl, n_llt, n_lel, n_lle, n_eql, n_leq, n_add, n_mul, n_sub, n_addl, n_ladd, n_mull, n_lmul, n_subl, Int32.reduceLT, Int32.reduceLE, Int32.reduceAdd, Int32.reduceSub, Int32.reduceMul, Int32.reduceToNatClampNeg, not_false_eq_true, not_true_eq_false, or_false, false_or, or_self, and_self, false_and, true_and, and_false, and_true, true_or, or_true, Nat.reduceAdd, Nat.reduceMul, Nat.reduceLT, Nat.reduceLeDiff, ne_eq, n_ell, hs]
    refine d_rdI hs ht (by omega) (hl u (by omega)).2 26 0 _ rfl ?_
    rw [(hl u (by omega)).1]
    exact ih (u + 1) (by omega)
set_option maxHeartbeats 8000000 in
theorem d_wrA (hs : ShD σ) (ht : t < 6) {dp : Nat} (hd : dp ≤ 10) (w3 : D 556 t = nI dp) (hW : ∀ j, j < dp → ∀ p, p < 26 → D 578 ((t * 12 + j) * 26 + p) = if bt (C (92 + 71 * t + 8 + 6 * j) 6) p = true then 1 else 0) : ∀ (k p c : Nat), p + k = 26 → hv (fun n => fX12_writesOf n 4 537 (nI t) (nI c) (nI p) D σ) (fun y => y = (nI (c + (List.range' p k).countP (fun q => decide (bt (orm C t dp) q = true))), D)) := by
  intro k
  induction k with
  | zero =>
    intro p c h
    obtain rfl : p = 26 := by omega
    refine hv_up (fun _ => fX12_writesOf.eq_2 ..) ?_
    try simp only [↓reduceIte, Nat.reduceEqDiff, Option.bind_some, ao_let, n_ell, hs]
    try simp (disch := first | omega | assumption) only [↓reduceIte, Nat.reduceEqDiff, Option.bind_some, ao_let, t_le, f_le, t_lt, f_lt, f_eq, u_eq, u_n1, u_n2, n_cl, n_lt, n_le, n_eq, n_ltl, n_llt, n_lel, n_lle, n_eql, n_leq, n_add, n_mul, n_sub, n_addl, n_ladd, n_mull, n_lmul, n_subl, Int32.reduceLT, Int32.reduceLE, Int32.reduceAdd, Int32.reduceSub, Int32.reduceMul, Int32.reduceToNatClampNeg, not_false_eq_true, not_true_eq_false, or_false, false_or, or_self, and_self, false_and, true_and, and_false, and_true, true_or, or_true, Nat.reduceAdd, Nat.reduceMul, Nat.reduceLT, Nat.reduceLeDiff, ne_eq, n_ell, hs]
    refine hv_some ?_
    simp
  | succ k ih =>
    intro p c h
    rw [cP_s (f := fun q => bt (orm C t dp) q = true)]
    refine hv_up (fun _ => fX12_writesOf.eq_2 ..) ?_
    try simp only [↓reduceIte, Nat.reduceEqDiff, Option.bind_some, ao_let, n_ell, hs]
    try simp (disch := first | omega | assumption) only [↓reduceIte, Nat.reduceEqDiff, Option.bind_some, ao_let, t_le, f_le, t_lt, f_lt, f_eq, u_eq, u_n1, u_n2, n_cl, n_lt, n_le, n_eq, n_ltl, n_llt, n_lel, n_lle, n_eql, n_leq, n_add, n_mul, n_sub, n_addl, n_ladd, n_mull, n_lmul, n_subl, Int32.reduceLT, Int32.reduceLE, Int32.reduceAdd, Int32.reduceSub, Int32.reduceMul, Int32.reduceToNatClampNeg, not_false_eq_true, not_true_eq_false, or_false, false_or, or_self, and_self, false_and, true_and, and_false, and_true, true_or, or_true, Nat.reduceAdd, Nat.reduceMul, Nat.reduceLT, Nat.reduceLeDiff, ne_eq, n_ell, hs]
    refine hv_bind (P := fun y => y.2 = D ∧ ((bt (orm C t dp) p = true ∧ ∃ i, i < dp ∧ y.1 = nI i) ∨ (¬ bt (orm C t dp) p = true ∧ y.1 = -1))) ?_ ?_
    · unfold gX12_writtenLevel
      refine hv_up (fun _ => fX12_writtenLevel.eq_2 ..) ?_
      simp (disch := omega) only [↓reduceIte, hs, ao_let, n_ltl, n_cl, f_lt, f_le, or_self, not_false_eq_true, Option.bind_some, w3]
      refine d_wlev hs ht (by omega) dp _ (by omega) rfl (fun i hi => ?_) (fun i hi h1 _ => ⟨rfl, Or.inl ⟨(orm_bt dp).mpr ⟨i, hi, ?_⟩, i, hi, rfl⟩⟩) (fun h0 => ⟨rfl, Or.inr ⟨fun hq => ?_, rfl⟩⟩)
      · rw [hW i hi p (by omega)]
        by_cases q : bt (C (92 + 71 * t + 8 + 6 * i) 6) p = true
        · rw [if_pos q]; exact Or.inr rfl
        · rw [if_neg q]; exact Or.inl rfl
      · rw [hW i hi p (by omega)] at h1
        by_cases q : bt (C (92 + 71 * t + 8 + 6 * i) 6) p = true
        · exact q
        · rw [if_neg q] at h1
          exact absurd h1 (by decide)
      · obtain ⟨j, hj, q⟩ := (orm_bt dp).mp hq
        have := h0 j hj
        rw [hW j hj p (by omega), if_pos q] at this
        exact absurd this (by decide)
    rintro ⟨y1, D'⟩ ⟨e, ⟨hq, i, hi, e1⟩ | ⟨hq, e1⟩⟩
    · dsimp only at e e1
      subst e e1
      refine hv_ifF (by rw [n_ltl (by omega) (by decide)]; omega) ?_
      rw [if_pos hq, ← Nat.add_assoc]
      simp only [ao_let, n_addl]
      refine hv_up (fun _ => fX12_writesOf.eq_2 ..) ?_
      try simp only [↓reduceIte, Nat.reduceEqDiff, Option.bind_some, ao_let, n_ell]
      try simp (disch := first | omega | assumption) only [↓reduceIte, Nat.reduceEqDiff, Option.bind_some, ao_let, t_le, f_le, t_lt, f_lt, f_eq, u_eq, u_n1, u_n2, n_cl, n_lt, n_le, n_eq, n_ltl, n_llt, n_lel, n_lle, n_eql, n_leq, n_add, n_mul, n_sub, n_addl, n_ladd, n_mull, n_lmul, n_subl, Int32.reduceLT, Int32.reduceLE, Int32.reduceAdd, Int32.reduceSub, Int32.reduceMul, Int32.reduceToNatClampNeg, not_false_eq_true, not_true_eq_false, or_false, false_or, or_self, and_self, false_and, true_and, and_false, and_true, true_or, or_true, Nat.reduceAdd, Nat.reduceMul, Nat.reduceLT, Nat.reduceLeDiff, ne_eq, n_ell]
      exact ih (p + 1) (c + 1) (by omega)
    · dsimp only at e e1
      subst e e1
      refine hv_ifT (by show (-1 : Int32) < 0; decide) ?_
      rw [if_neg hq, Nat.zero_add]
      refine hv_up (fun _ => fX12_writesOf.eq_2 ..) ?_
      try simp only [↓reduceIte, Nat.reduceEqDiff, Option.bind_some, ao_let, n_ell]
      try simp (disch := first | omega | assumption) only [↓reduceIte, Nat.reduceEqDiff, Option.bind_some, ao_let, t_le, f_le, t_lt, f_lt, f_eq, u_eq, u_n1, u_n2, n_cl, n_lt, n_le, n_eq, n_ltl, n_llt, n_lel, n_lle, n_eql, n_leq, n_add, n_mul, n_sub, n_addl, n_ladd, n_mull, n_lmul, n_subl, Int32.reduceLT, Int32.reduceLE, Int32.reduceAdd, Int32.reduceSub, Int32.reduceMul, Int32.reduceToNatClampNeg, not_false_eq_true, not_true_eq_false, or_false, false_or, or_self, and_self, false_and, true_and, and_false, and_true, true_or, or_true, Nat.reduceAdd, Nat.reduceMul, Nat.reduceLT, Nat.reduceLeDiff, ne_eq, n_ell]
      exact ih (p + 1) c (by omega)
set_option maxHeartbeats 8000000 in
theorem PR_look (h : PR m B1 B2 E1 E2 C ρ D σ) (hm : m + 1 ≤ 512) (x z : Int32) : hv (fun n => gL_look n 0 x z 598 C ρ) (fun y => hv (fun n => gX12_look n 537 x z D σ) (fun w => CR m B1 B2 E1 E2 y w.1 w.2 σ)) := by
  obtain ⟨⟨hc, hb, -, hs, hO⟩, -, -, -, -, -, -, ⟨rc, hT⟩, -⟩ := PR_C h
  suffices hh : hv (fun n => gL_look n 0 x z 598 C ρ) (fun y => hv (fun n => gX12_look n 537 x z D σ) (fun w => TellP C ρ D y w)) from hv_mono hh (fun y hy => hv_mono hy (fun w hw => PR_tell h hm hw))
  have ev : ∀ x j, ¬ (x = 537 ∧ j = 0) → ao_u D 537 0 0 x j = D x j := fun x j q => u_ne (by omega)
  have good : ∀ v : Int32, hv (fun n => gX10_look n 0 x z C ρ) (fun u => u = (.inl v, C, ρ)) → hv (fun n => gX12_look n 537 x z D σ) (fun w => w = (v, ao_u D 537 0 0)) → hv (fun n => gL_look n 0 x z 598 C ρ) (fun y => hv (fun n => gX12_look n 537 x z D σ) (fun w => TellP C ρ D y w)) := by
    intro v h1 h2
    unfold gL_look
    refine hv_up (fun _ => fL_look.eq_2 ..) ?_
    try simp only [↓reduceIte, Nat.reduceEqDiff, Option.bind_some, ao_let, n_ell, hc]
    try simp (disch := first | omega | assumption) only [↓reduceIte, Nat.reduceEqDiff, Option.bind_some, ao_let, t_le, f_le, t_lt, f_lt, f_eq, u_eq, u_n1, u_n2, n_cl, n_lt, n_le, n_eq, n_ltl, n_llt, n_lel, n_lle, n_eql, n_leq, n_add, n_mul, n_sub, n_addl, n_ladd, n_mull, n_lmul, n_subl, Int32.reduceLT, Int32.reduceLE, Int32.reduceAdd, Int32.reduceSub, Int32.reduceMul, Int32.reduceToNatClampNeg, not_false_eq_true, not_true_eq_false, or_false, false_or, or_self, and_self, false_and, true_and, and_false, and_true, true_or, or_true, Nat.reduceAdd, Nat.reduceMul, Nat.reduceLT, Nat.reduceLeDiff, ne_eq, n_ell, hc]
    refine hv_bind h1 ?_
    rintro _ rfl
    simp only [ao_cs]
    refine hv_up (fun _ => fL_look.eq_2 ..) ?_
    try simp only [↓reduceIte, Nat.reduceEqDiff, Option.bind_some, ao_let, n_ell, hO]
    try simp (disch := first | omega | assumption) only [↓reduceIte, Nat.reduceEqDiff, Option.bind_some, ao_let, t_le, f_le, t_lt, f_lt, f_eq, u_eq, u_n1, u_n2, n_cl, n_lt, n_le, n_eq, n_ltl, n_llt, n_lel, n_lle, n_eql, n_leq, n_add, n_mul, n_sub, n_addl, n_ladd, n_mull, n_lmul, n_subl, Int32.reduceLT, Int32.reduceLE, Int32.reduceAdd, Int32.reduceSub, Int32.reduceMul, Int32.reduceToNatClampNeg, not_false_eq_true, not_true_eq_false, or_false, false_or, or_self, and_self, false_and, true_and, and_false, and_true, true_or, or_true, Nat.reduceAdd, Nat.reduceMul, Nat.reduceLT, Nat.reduceLeDiff, ne_eq, n_ell, hO]
    refine hv_some (hv_mono h2 ?_)
    rintro _ rfl
    exact ⟨rfl, Or.inl ⟨rfl, rfl, rfl⟩⟩
  by_cases hok : (∃ t, t < 6 ∧ x = nI t) ∧ ∃ w, w < 8 ∧ z = nI w
  · obtain ⟨⟨t, ht, rfl⟩, ⟨w, hw, rfl⟩⟩ := hok
    have hR := RnS_of hb ht
    have h91 : ρ.1 91 t = some (92 + 71 * t) := by obtain ⟨a0, _⟩ := hb; exact a0 t ht
    obtain ⟨s, dp, s5, c2, d51, hdp, c8, hL, h2, h2', h3, h4, c17, c18, c19⟩ := thr_dp (hT t ht)
    have es : ∀ k, k < 10 → (nI s = nI k) = (s = k) := fun k hk => n_eq (by omega) (by omega)
    have cc : ∀ v : Int32, hv (fun n => gX7_tellOf n (92 + 71 * t) (nI w) C ρ) (fun u => u = (v, C)) → hv (fun n => gX10_look n 0 (nI t) (nI w) C ρ) (fun u => u = (.inl v, C, ρ)) := by
      intro v hh
      unfold gX10_look
      refine hv_up (fun _ => fX10_look.eq_2 ..) ?_
      try simp only [↓reduceIte, Nat.reduceEqDiff, Option.bind_some, ao_let, n_ell, hc, h91, hR]
      try simp (disch := first | omega | assumption) only [↓reduceIte, Nat.reduceEqDiff, Option.bind_some, ao_let, t_le, f_le, t_lt, f_lt, f_eq, u_eq, u_n1, u_n2, n_cl, n_lt, n_le, n_eq, n_ltl, n_llt, n_lel, n_lle, n_eql, n_leq, n_add, n_mul, n_sub, n_addl, n_ladd, n_mull, n_lmul, n_subl, Int32.reduceLT, Int32.reduceLE, Int32.reduceAdd, Int32.reduceSub, Int32.reduceMul, Int32.reduceToNatClampNeg, not_false_eq_true, not_true_eq_false, or_false, false_or, or_self, and_self, false_and, true_and, and_false, and_true, true_or, or_true, Nat.reduceAdd, Nat.reduceMul, Nat.reduceLT, Nat.reduceLeDiff, ne_eq, n_ell, hc, h91, hR]
      refine hv_bind hh ?_
      rintro _ rfl
      exact hv_some rfl
    have dd : ∀ {Q : Int32 × ao_M → Prop}, hv (fun n => fX12_look n 23 537 (nI t) (nI w) 0 0 537 D σ) Q → hv (fun n => gX12_look n 537 (nI t) (nI w) D σ) Q := by
      intro Q hQ
      unfold gX12_look
      refine hv_up (fun _ => fX12_look.eq_2 ..) ?_
      try simp only [↓reduceIte, Nat.reduceEqDiff, Option.bind_some, ao_let, n_ell, hs, isTh_yes ht]
      try simp (disch := first | omega | assumption) only [↓reduceIte, Nat.reduceEqDiff, Option.bind_some, ao_let, t_le, f_le, t_lt, f_lt, f_eq, u_eq, u_n1, u_n2, n_cl, n_lt, n_le, n_eq, n_ltl, n_llt, n_lel, n_lle, n_eql, n_leq, n_add, n_mul, n_sub, n_addl, n_ladd, n_mull, n_lmul, n_subl, Int32.reduceLT, Int32.reduceLE, Int32.reduceAdd, Int32.reduceSub, Int32.reduceMul, Int32.reduceToNatClampNeg, not_false_eq_true, not_true_eq_false, or_false, false_or, or_self, and_self, false_and, true_and, and_false, and_true, true_or, or_true, Nat.reduceAdd, Nat.reduceMul, Nat.reduceLT, Nat.reduceLeDiff, ne_eq, n_ell, hs, isTh_yes ht]
      exact hQ
    rcases (show w = 0 ∨ w = 1 ∨ w = 2 ∨ w = 3 ∨ w = 4 ∨ w = 5 ∨ w = 6 ∨ w = 7 by omega) with rfl | rfl | rfl | rfl | rfl | rfl | rfl | rfl
    · refine good (nI s) (cc _ ?_) (dd ?_)
      · unfold gX7_tellOf
        try simp only [↓reduceIte, Nat.reduceEqDiff, Option.bind_some, ao_let, n_ell, hR, c2]
        try simp (disch := first | omega | assumption) only [↓reduceIte, Nat.reduceEqDiff, Option.bind_some, ao_let, t_le, f_le, t_lt, f_lt, f_eq, u_eq, u_n1, u_n2, n_cl, n_lt, n_le, n_eq, n_ltl, n_llt, n_lel, n_lle, n_eql, n_leq, n_add, n_mul, n_sub, n_addl, n_ladd, n_mull, n_lmul, n_subl, Int32.reduceLT, Int32.reduceLE, Int32.reduceAdd, Int32.reduceSub, Int32.reduceMul, Int32.reduceToNatClampNeg, not_false_eq_true, not_true_eq_false, or_false, false_or, or_self, and_self, false_and, true_and, and_false, and_true, true_or, or_true, Nat.reduceAdd, Nat.reduceMul, Nat.reduceLT, Nat.reduceLeDiff, ne_eq, n_ell, hR, c2]
        exact hv_some rfl
      · refine hv_up (fun _ => fX12_look.eq_2 ..) ?_
        try simp only [↓reduceIte, Nat.reduceEqDiff, Option.bind_some, ao_let, n_ell, hs, gX12_fails, d51]
        try simp (disch := first | omega | assumption) only [↓reduceIte, Nat.reduceEqDiff, Option.bind_some, ao_let, t_le, f_le, t_lt, f_lt, f_eq, u_eq, u_n1, u_n2, n_cl, n_lt, n_le, n_eq, n_ltl, n_llt, n_lel, n_lle, n_eql, n_leq, n_add, n_mul, n_sub, n_addl, n_ladd, n_mull, n_lmul, n_subl, Int32.reduceLT, Int32.reduceLE, Int32.reduceAdd, Int32.reduceSub, Int32.reduceMul, Int32.reduceToNatClampNeg, not_false_eq_true, not_true_eq_false, or_false, false_or, or_self, and_self, false_and, true_and, and_false, and_true, true_or, or_true, Nat.reduceAdd, Nat.reduceMul, Nat.reduceLT, Nat.reduceLeDiff, ne_eq, n_ell, hs, gX12_fails, d51]
        exact hv_some rfl
    · refine good (D 556 t) (cc _ ?_) (dd ?_)
      · unfold gX7_tellOf
        simp only [show (nI 1 = 0) = False from by decide, show (nI 1 = 1) = True from by decide, ↓reduceIte, hR, c2]
        by_cases q : s = 2
        · rw [(h2 q).1, c8]
          subst q
          refine hv_ifT rfl (hv_some rfl)
        · rw [h2' q]
          refine hv_ifF (fun e => q ?_) (hv_some rfl)
          have := (n_eql (a := s) (b := 2) (by omega) (by decide)).mp e
          exact this
      · refine hv_up (fun _ => fX12_look.eq_2 ..) ?_
        try simp only [↓reduceIte, Nat.reduceEqDiff, Option.bind_some, ao_let, n_ell, hs, gX12_fails]
        try simp (disch := first | omega | assumption) only [↓reduceIte, Nat.reduceEqDiff, Option.bind_some, ao_let, t_le, f_le, t_lt, f_lt, f_eq, u_eq, u_n1, u_n2, n_cl, n_lt, n_le, n_eq, n_ltl, n_llt, n_lel, n_lle, n_eql, n_leq, n_add, n_mul, n_sub, n_addl, n_ladd, n_mull, n_lmul, n_subl, Int32.reduceLT, Int32.reduceLE, Int32.reduceAdd, Int32.reduceSub, Int32.reduceMul, Int32.reduceToNatClampNeg, not_false_eq_true, not_true_eq_false, or_false, false_or, or_self, and_self, false_and, true_and, and_false, and_true, true_or, or_true, Nat.reduceAdd, Nat.reduceMul, Nat.reduceLT, Nat.reduceLeDiff, ne_eq, n_ell, hs, gX12_fails]
        exact hv_some rfl
    · have hl : ∀ j, j < dp → C (92 + 71 * t + 8 + 6 * j) 3 = nI (rl C t j) ∧ rl C t j ≤ 26 := fun j hj => ⟨(rl_at (hL j hj)).1, (rl_at (hL j hj)).2.1⟩
      have hl' : ∀ j, j < dp → (List.range' 0 26).countP (fun p => decide (ao_u D 537 0 0 577 ((t * 12 + j) * 26 + p) = 1)) = rl C t j ∧ ∀ p, p < 26 → ao_u D 537 0 0 577 ((t * 12 + j) * 26 + p) = 0 ∨ ao_u D 537 0 0 577 ((t * 12 + j) * 26 + p) = 1 := fun j hj => by
        have e : ∀ p, ao_u D 537 0 0 577 p = D 577 p := fun p => ev _ _ (by omega)
        simp only [e]
        exact (rl_at (hL j hj)).2.2
      refine good (nI (rdn C t dp)) (cc _ ?_) (dd ?_)
      · unfold gX7_tellOf
        simp only [show (nI 2 = 0) = False from by decide, show (nI 2 = 1) = False from by decide, show (nI 2 = 2) = True from by decide, ↓reduceIte, hR]
        refine hv_bind (P := fun u => u = (nI (rdn C t dp), C)) ?_ ?_
        · unfold gX7_readsOfAll
          refine hv_up (fun _ => fX7_readsOfAll.eq_2 ..) ?_
          try simp only [↓reduceIte, Nat.reduceEqDiff, Option.bind_some, ao_let, n_ell]
          try simp (disch := first | omega | assumption) only [↓reduceIte, Nat.reduceEqDiff, Option.bind_some, ao_let, t_le, f_le, t_lt, f_lt, f_eq, u_eq, u_n1, u_n2, n_cl, n_lt, n_le, n_eq, n_ltl, n_llt, n_lel, n_lle, n_eql, n_leq, n_add, n_mul, n_sub, n_addl, n_ladd, n_mull, n_lmul, n_subl, Int32.reduceLT, Int32.reduceLE, Int32.reduceAdd, Int32.reduceSub, Int32.reduceMul, Int32.reduceToNatClampNeg, not_false_eq_true, not_true_eq_false, or_false, false_or, or_self, and_self, false_and, true_and, and_false, and_true, true_or, or_true, Nat.reduceAdd, Nat.reduceMul, Nat.reduceLT, Nat.reduceLeDiff, ne_eq, n_ell]
          exact c_rdA hb ht hdp c8 hl dp 0 (by omega)
        rintro _ rfl
        exact hv_some rfl
      · refine hv_up (fun _ => fX12_look.eq_2 ..) ?_
        try simp only [↓reduceIte, Nat.reduceEqDiff, Option.bind_some, ao_let, n_ell, hs, gX12_fails]
        try simp (disch := first | omega | assumption) only [↓reduceIte, Nat.reduceEqDiff, Option.bind_some, ao_let, t_le, f_le, t_lt, f_lt, f_eq, u_eq, u_n1, u_n2, n_cl, n_lt, n_le, n_eq, n_ltl, n_llt, n_lel, n_lle, n_eql, n_leq, n_add, n_mul, n_sub, n_addl, n_ladd, n_mull, n_lmul, n_subl, Int32.reduceLT, Int32.reduceLE, Int32.reduceAdd, Int32.reduceSub, Int32.reduceMul, Int32.reduceToNatClampNeg, not_false_eq_true, not_true_eq_false, or_false, false_or, or_self, and_self, false_and, true_and, and_false, and_true, true_or, or_true, Nat.reduceAdd, Nat.reduceMul, Nat.reduceLT, Nat.reduceLeDiff, ne_eq, n_ell, hs, gX12_fails]
        refine hv_bind (P := fun u => u = (nI (rdn C t dp), ao_u D 537 0 0)) ?_ ?_
        · have e51 : ao_u D 537 0 0 551 t = nI s := by rw [ev _ _ (by omega)]; exact d51
          have e56 : ao_u D 537 0 0 556 t = D 556 t := ev _ _ (by omega)
          have n22 : hv (fun n => fX12_readsOf n 22 537 (nI t) 0 0 0 0 (nI dp) (ao_u D 537 0 0) σ) (fun u => u = (nI (rdn C t dp), ao_u D 537 0 0)) := by
            refine hv_up (fun _ => fX12_readsOf.eq_2 ..) ?_
            try simp only [↓reduceIte, Nat.reduceEqDiff, Option.bind_some, ao_let, n_ell]
            try simp (disch := first | omega | assumption) only [↓reduceIte, Nat.reduceEqDiff, Option.bind_some, ao_let, t_le, f_le, t_lt, f_lt, f_eq, u_eq, u_n1, u_n2, n_cl, n_lt, n_le, n_eq, n_ltl, n_llt, n_lel, n_lle, n_eql, n_leq, n_add, n_mul, n_sub, n_addl, n_ladd, n_mull, n_lmul, n_subl, Int32.reduceLT, Int32.reduceLE, Int32.reduceAdd, Int32.reduceSub, Int32.reduceMul, Int32.reduceToNatClampNeg, not_false_eq_true, not_true_eq_false, or_false, false_or, or_self, and_self, false_and, true_and, and_false, and_true, true_or, or_true, Nat.reduceAdd, Nat.reduceMul, Nat.reduceLT, Nat.reduceLeDiff, ne_eq, n_ell]
            exact d_rdA hs ht hdp hl' dp 0 (by omega)
          generalize ao_u D 537 0 0 = D1 at *
          unfold gX12_readsOf
          refine hv_up (fun _ => fX12_readsOf.eq_2 ..) ?_
          try simp only [↓reduceIte, Nat.reduceEqDiff, Option.bind_some, ao_let, n_ell, hs, e51, e56]
          try simp (disch := first | omega | assumption) only [↓reduceIte, Nat.reduceEqDiff, Option.bind_some, ao_let, t_le, f_le, t_lt, f_lt, f_eq, u_eq, u_n1, u_n2, n_cl, n_lt, n_le, n_eq, n_ltl, n_llt, n_lel, n_lle, n_eql, n_leq, n_add, n_mul, n_sub, n_addl, n_ladd, n_mull, n_lmul, n_subl, Int32.reduceLT, Int32.reduceLE, Int32.reduceAdd, Int32.reduceSub, Int32.reduceMul, Int32.reduceToNatClampNeg, not_false_eq_true, not_true_eq_false, or_false, false_or, or_self, and_self, false_and, true_and, and_false, and_true, true_or, or_true, Nat.reduceAdd, Nat.reduceMul, Nat.reduceLT, Nat.reduceLeDiff, ne_eq, n_ell, hs, e51, e56]
          by_cases q : s = 3
          · have e1 := h3 q
            subst q e1
            exact hv_ifT (by first | rfl | trivial) n22
          · refine hv_ifF (by first | exact q | exact fun e => q ((n_eql (a := s) (b := 3) (by omega) (by decide)).mp e)) ?_
            by_cases q2 : s = 2
            · rw [(h2 q2).1]; exact n22
            · have e0 := h4 q2 q
              subst e0
              rw [h2' q2]; exact n22
        rintro _ rfl
        exact hv_some rfl
    · have hW : ∀ j, j < dp → ∀ p, p < 26 → ao_u D 537 0 0 578 ((t * 12 + j) * 26 + p) = if bt (C (92 + 71 * t + 8 + 6 * j) 6) p = true then 1 else 0 := fun j hj p hp => by
        rw [ev _ _ (by omega)]
        exact ((hL j hj).2.2.1.2 p hp).1
      have hi : ∀ p, 26 ≤ p → bt (orm C t dp) p = false := fun p hp => by
        by_cases q : bt (orm C t dp) p = true
        · obtain ⟨j, hj, hq⟩ := (orm_bt dp).mp q
          rw [(hL j hj).2.2.1.1 p hp] at hq
          exact absurd hq (by decide)
        · simpa using q
      have ep : (List.range' 0 26).countP (fun q => decide (bt (orm C t dp) q = true)) = popc (orm C t dp) := by
        unfold popc
        rw [List.range_eq_range']
        exact List.countP_congr (fun p _ => by simp)
      have e56 : ao_u D 537 0 0 556 t = D 556 t := ev _ _ (by omega)
      refine good (if s = 2 then nI (popc (orm C t dp)) else 0) (cc _ ?_) (dd ?_)
      · unfold gX7_tellOf
        simp only [show (nI 3 = 0) = False from by decide, show (nI 3 = 1) = False from by decide, show (nI 3 = 2) = False from by decide, show (nI 3 = 3) = True from by decide, ↓reduceIte, hR, c2]
        by_cases q : s = 2
        · rw [if_pos q]
          refine hv_ifT (by rw [q]; rfl) ?_
          refine hv_bind (P := fun u => u = (orm C t dp, C)) ?_ ?_
          · unfold gX7_writesOfAll
            refine hv_up (fun _ => fX7_writesOfAll.eq_2 ..) ?_
            try simp only [↓reduceIte, Nat.reduceEqDiff, Option.bind_some, ao_let, n_ell]
            try simp (disch := first | omega | assumption) only [↓reduceIte, Nat.reduceEqDiff, Option.bind_some, ao_let, t_le, f_le, t_lt, f_lt, f_eq, u_eq, u_n1, u_n2, n_cl, n_lt, n_le, n_eq, n_ltl, n_llt, n_lel, n_lle, n_eql, n_leq, n_add, n_mul, n_sub, n_addl, n_ladd, n_mull, n_lmul, n_subl, Int32.reduceLT, Int32.reduceLE, Int32.reduceAdd, Int32.reduceSub, Int32.reduceMul, Int32.reduceToNatClampNeg, not_false_eq_true, not_true_eq_false, or_false, false_or, or_self, and_self, false_and, true_and, and_false, and_true, true_or, or_true, Nat.reduceAdd, Nat.reduceMul, Nat.reduceLT, Nat.reduceLeDiff, ne_eq, n_ell]
            exact c_wrA hb ht hdp c8 dp 0 (by omega)
          rintro _ rfl
          simp only [bitCount_ok _ hi, Option.bind_some]
          exact hv_some rfl
        · rw [if_neg q]
          refine hv_ifF (fun e => q ?_) (hv_some rfl)
          have := (n_eql (a := s) (b := 2) (by omega) (by decide)).mp e
          exact this
      · refine hv_up (fun _ => fX12_look.eq_2 ..) ?_
        try simp only [↓reduceIte, Nat.reduceEqDiff, Option.bind_some, ao_let, n_ell, hs, gX12_fails]
        try simp (disch := first | omega | assumption) only [↓reduceIte, Nat.reduceEqDiff, Option.bind_some, ao_let, t_le, f_le, t_lt, f_lt, f_eq, u_eq, u_n1, u_n2, n_cl, n_lt, n_le, n_eq, n_ltl, n_llt, n_lel, n_lle, n_eql, n_leq, n_add, n_mul, n_sub, n_addl, n_ladd, n_mull, n_lmul, n_subl, Int32.reduceLT, Int32.reduceLE, Int32.reduceAdd, Int32.reduceSub, Int32.reduceMul, Int32.reduceToNatClampNeg, not_false_eq_true, not_true_eq_false, or_false, false_or, or_self, and_self, false_and, true_and, and_false, and_true, true_or, or_true, Nat.reduceAdd, Nat.reduceMul, Nat.reduceLT, Nat.reduceLeDiff, ne_eq, n_ell, hs, gX12_fails]
        generalize ao_u D 537 0 0 = D1 at *
        refine hv_bind (P := fun u => u = ((if s = 2 then nI (popc (orm C t dp)) else 0), D1)) ?_ ?_
        · unfold gX12_writesOf
          refine hv_up (fun _ => fX12_writesOf.eq_2 ..) ?_
          try simp only [↓reduceIte, Nat.reduceEqDiff, Option.bind_some, ao_let, n_ell]
          try simp (disch := first | omega | assumption) only [↓reduceIte, Nat.reduceEqDiff, Option.bind_some, ao_let, t_le, f_le, t_lt, f_lt, f_eq, u_eq, u_n1, u_n2, n_cl, n_lt, n_le, n_eq, n_ltl, n_llt, n_lel, n_lle, n_eql, n_leq, n_add, n_mul, n_sub, n_addl, n_ladd, n_mull, n_lmul, n_subl, Int32.reduceLT, Int32.reduceLE, Int32.reduceAdd, Int32.reduceSub, Int32.reduceMul, Int32.reduceToNatClampNeg, not_false_eq_true, not_true_eq_false, or_false, false_or, or_self, and_self, false_and, true_and, and_false, and_true, true_or, or_true, Nat.reduceAdd, Nat.reduceMul, Nat.reduceLT, Nat.reduceLeDiff, ne_eq, n_ell]
          by_cases q : s = 2
          · rw [if_pos q]
            refine hv_mono (d_wrA hs ht hdp (by rw [e56]; exact (h2 q).1) hW 26 0 0 rfl) ?_
            rintro _ rfl
            rw [Nat.zero_add, ep]
          · rw [if_neg q]
            refine hv_mono (d_wrA (C := C) (dp := 0) hs ht (by omega) (by rw [e56]; exact h2' q) (fun j hj => absurd hj (by omega)) 26 0 0 rfl) ?_
            rintro _ rfl
            rw [Nat.zero_add, List.countP_eq_zero.mpr (fun p _ => by
              show ¬ (decide (bt 0 p = true)) = true
              rw [bt_0]; decide)]
            rfl
        rintro _ rfl
        exact hv_some rfl
    · refine good (D 559 t) (cc _ ?_) (dd ?_)
      · unfold gX7_tellOf
        try simp only [↓reduceIte, Nat.reduceEqDiff, Option.bind_some, ao_let, n_ell, hR, c17]
        try simp (disch := first | omega | assumption) only [↓reduceIte, Nat.reduceEqDiff, Option.bind_some, ao_let, t_le, f_le, t_lt, f_lt, f_eq, u_eq, u_n1, u_n2, n_cl, n_lt, n_le, n_eq, n_ltl, n_llt, n_lel, n_lle, n_eql, n_leq, n_add, n_mul, n_sub, n_addl, n_ladd, n_mull, n_lmul, n_subl, Int32.reduceLT, Int32.reduceLE, Int32.reduceAdd, Int32.reduceSub, Int32.reduceMul, Int32.reduceToNatClampNeg, not_false_eq_true, not_true_eq_false, or_false, false_or, or_self, and_self, false_and, true_and, and_false, and_true, true_or, or_true, Nat.reduceAdd, Nat.reduceMul, Nat.reduceLT, Nat.reduceLeDiff, ne_eq, n_ell, hR, c17]
        exact hv_some rfl
      · refine hv_up (fun _ => fX12_look.eq_2 ..) ?_
        try simp only [↓reduceIte, Nat.reduceEqDiff, Option.bind_some, ao_let, n_ell, hs, gX12_fails]
        try simp (disch := first | omega | assumption) only [↓reduceIte, Nat.reduceEqDiff, Option.bind_some, ao_let, t_le, f_le, t_lt, f_lt, f_eq, u_eq, u_n1, u_n2, n_cl, n_lt, n_le, n_eq, n_ltl, n_llt, n_lel, n_lle, n_eql, n_leq, n_add, n_mul, n_sub, n_addl, n_ladd, n_mull, n_lmul, n_subl, Int32.reduceLT, Int32.reduceLE, Int32.reduceAdd, Int32.reduceSub, Int32.reduceMul, Int32.reduceToNatClampNeg, not_false_eq_true, not_true_eq_false, or_false, false_or, or_self, and_self, false_and, true_and, and_false, and_true, true_or, or_true, Nat.reduceAdd, Nat.reduceMul, Nat.reduceLT, Nat.reduceLeDiff, ne_eq, n_ell, hs, gX12_fails]
        exact hv_some rfl
    · refine good (if s = 2 then D 560 t else 0) (cc _ ?_) (dd ?_)
      · unfold gX7_tellOf
        simp only [show (nI 5 = 0) = False from by decide, show (nI 5 = 1) = False from by decide, show (nI 5 = 2) = False from by decide, show (nI 5 = 3) = False from by decide, show (nI 5 = 4) = False from by decide, show (nI 5 = 5) = True from by decide, ↓reduceIte, hR, c2]
        by_cases q : s = 2
        · rw [if_pos q, (h2 q).2]
          exact hv_ifT (by rw [q]; rfl) (hv_some rfl)
        · rw [if_neg q]
          refine hv_ifF (fun e => q ?_) (hv_some rfl)
          have := (n_eql (a := s) (b := 2) (by omega) (by decide)).mp e
          exact this
      · refine hv_up (fun _ => fX12_look.eq_2 ..) ?_
        try simp only [↓reduceIte, Nat.reduceEqDiff, Option.bind_some, ao_let, n_ell, hs, gX12_fails, d51]
        try simp (disch := first | omega | assumption) only [↓reduceIte, Nat.reduceEqDiff, Option.bind_some, ao_let, t_le, f_le, t_lt, f_lt, f_eq, u_eq, u_n1, u_n2, n_cl, n_lt, n_le, n_eq, n_ltl, n_llt, n_lel, n_lle, n_eql, n_leq, n_add, n_mul, n_sub, n_addl, n_ladd, n_mull, n_lmul, n_subl, Int32.reduceLT, Int32.reduceLE, Int32.reduceAdd, Int32.reduceSub, Int32.reduceMul, Int32.reduceToNatClampNeg, not_false_eq_true, not_true_eq_false, or_false, false_or, or_self, and_self, false_and, true_and, and_false, and_true, true_or, or_true, Nat.reduceAdd, Nat.reduceMul, Nat.reduceLT, Nat.reduceLeDiff, ne_eq, n_ell, hs, gX12_fails, d51]
        by_cases q : s = 2
        · rw [if_pos q]
          exact hv_some (by rw [if_pos q])
        · rw [if_neg q]
          exact hv_some (by rw [if_neg q])
    · refine good (D 561 t) (cc _ ?_) (dd ?_)
      · unfold gX7_tellOf
        try simp only [↓reduceIte, Nat.reduceEqDiff, Option.bind_some, ao_let, n_ell, hR, c19]
        try simp (disch := first | omega | assumption) only [↓reduceIte, Nat.reduceEqDiff, Option.bind_some, ao_let, t_le, f_le, t_lt, f_lt, f_eq, u_eq, u_n1, u_n2, n_cl, n_lt, n_le, n_eq, n_ltl, n_llt, n_lel, n_lle, n_eql, n_leq, n_add, n_mul, n_sub, n_addl, n_ladd, n_mull, n_lmul, n_subl, Int32.reduceLT, Int32.reduceLE, Int32.reduceAdd, Int32.reduceSub, Int32.reduceMul, Int32.reduceToNatClampNeg, not_false_eq_true, not_true_eq_false, or_false, false_or, or_self, and_self, false_and, true_and, and_false, and_true, true_or, or_true, Nat.reduceAdd, Nat.reduceMul, Nat.reduceLT, Nat.reduceLeDiff, ne_eq, n_ell, hR, c19]
        exact hv_some rfl
      · refine hv_up (fun _ => fX12_look.eq_2 ..) ?_
        try simp only [↓reduceIte, Nat.reduceEqDiff, Option.bind_some, ao_let, n_ell, hs, gX12_fails]
        try simp (disch := first | omega | assumption) only [↓reduceIte, Nat.reduceEqDiff, Option.bind_some, ao_let, t_le, f_le, t_lt, f_lt, f_eq, u_eq, u_n1, u_n2, n_cl, n_lt, n_le, n_eq, n_ltl, n_llt, n_lel, n_lle, n_eql, n_leq, n_add, n_mul, n_sub, n_addl, n_ladd, n_mull, n_lmul, n_subl, Int32.reduceLT, Int32.reduceLE, Int32.reduceAdd, Int32.reduceSub, Int32.reduceMul, Int32.reduceToNatClampNeg, not_false_eq_true, not_true_eq_false, or_false, false_or, or_self, and_self, false_and, true_and, and_false, and_true, true_or, or_true, Nat.reduceAdd, Nat.reduceMul, Nat.reduceLT, Nat.reduceLeDiff, ne_eq, n_ell, hs, gX12_fails]
        exact hv_some rfl
    · refine good (D 562 t) (cc _ ?_) (dd ?_)
      · unfold gX7_tellOf
        try simp only [↓reduceIte, Nat.reduceEqDiff, Option.bind_some, ao_let, n_ell, hR, c18]
        try simp (disch := first | omega | assumption) only [↓reduceIte, Nat.reduceEqDiff, Option.bind_some, ao_let, t_le, f_le, t_lt, f_lt, f_eq, u_eq, u_n1, u_n2, n_cl, n_lt, n_le, n_eq, n_ltl, n_llt, n_lel, n_lle, n_eql, n_leq, n_add, n_mul, n_sub, n_addl, n_ladd, n_mull, n_lmul, n_subl, Int32.reduceLT, Int32.reduceLE, Int32.reduceAdd, Int32.reduceSub, Int32.reduceMul, Int32.reduceToNatClampNeg, not_false_eq_true, not_true_eq_false, or_false, false_or, or_self, and_self, false_and, true_and, and_false, and_true, true_or, or_true, Nat.reduceAdd, Nat.reduceMul, Nat.reduceLT, Nat.reduceLeDiff, ne_eq, n_ell, hR, c18]
        exact hv_some rfl
      · refine hv_up (fun _ => fX12_look.eq_2 ..) ?_
        try simp only [↓reduceIte, Nat.reduceEqDiff, Option.bind_some, ao_let, n_ell, hs, gX12_fails]
        try simp (disch := first | omega | assumption) only [↓reduceIte, Nat.reduceEqDiff, Option.bind_some, ao_let, t_le, f_le, t_lt, f_lt, f_eq, u_eq, u_n1, u_n2, n_cl, n_lt, n_le, n_eq, n_ltl, n_llt, n_lel, n_lle, n_eql, n_leq, n_add, n_mul, n_sub, n_addl, n_ladd, n_mull, n_lmul, n_subl, Int32.reduceLT, Int32.reduceLE, Int32.reduceAdd, Int32.reduceSub, Int32.reduceMul, Int32.reduceToNatClampNeg, not_false_eq_true, not_true_eq_false, or_false, false_or, or_self, and_self, false_and, true_and, and_false, and_true, true_or, or_true, Nat.reduceAdd, Nat.reduceMul, Nat.reduceLT, Nat.reduceLeDiff, ne_eq, n_ell, hs, gX12_fails]
        exact hv_some rfl
  · have hx : (x < 0 ∨ ∃ n, 6 ≤ n ∧ n < 2147483648 ∧ x = nI n) ∨ (∃ t, t < 6 ∧ x = nI t) ∧ (z < 0 ∨ ∃ n, 8 ≤ n ∧ n < 2147483648 ∧ z = nI n) := by
      rcases pl_of x 6 (by omega) with h | h
      · rcases pl_of z 8 (by omega) with h' | h'
        · exact absurd ⟨h, h'⟩ hok
        · exact Or.inr ⟨h, h'⟩
      · exact Or.inl h
    have hth : hv (fun n => gX10_look n 0 x z C ρ) (fun u => u = (.inr "java/lang/IllegalArgumentException", C, ao_th ρ)) := by
      unfold gX10_look
      rcases hx with (hx | ⟨n, h1, h2, rfl⟩) | ⟨⟨t, ht, rfl⟩, hx | ⟨n, h1, h2, rfl⟩⟩
      · refine hv_up (fun _ => fX10_look.eq_2 ..) ?_
        try simp only [↓reduceIte, Nat.reduceEqDiff, Option.bind_some, ao_let, n_ell, hc, hx]
        try simp (disch := first | omega | assumption) only [↓reduceIte, Nat.reduceEqDiff, Option.bind_some, ao_let, t_le, f_le, t_lt, f_lt, f_eq, u_eq, u_n1, u_n2, n_cl, n_lt, n_le, n_eq, n_ltl, n_llt, n_lel, n_lle, n_eql, n_leq, n_add, n_mul, n_sub, n_addl, n_ladd, n_mull, n_lmul, n_subl, Int32.reduceLT, Int32.reduceLE, Int32.reduceAdd, Int32.reduceSub, Int32.reduceMul, Int32.reduceToNatClampNeg, not_false_eq_true, not_true_eq_false, or_false, false_or, or_self, and_self, false_and, true_and, and_false, and_true, true_or, or_true, Nat.reduceAdd, Nat.reduceMul, Nat.reduceLT, Nat.reduceLeDiff, ne_eq, n_ell, hc, hx]
        refine hv_up (fun _ => fX10_look.eq_2 ..) ?_
        try simp only [↓reduceIte, Nat.reduceEqDiff, Option.bind_some, ao_let, n_ell]
        try simp (disch := first | omega | assumption) only [↓reduceIte, Nat.reduceEqDiff, Option.bind_some, ao_let, t_le, f_le, t_lt, f_lt, f_eq, u_eq, u_n1, u_n2, n_cl, n_lt, n_le, n_eq, n_ltl, n_llt, n_lel, n_lle, n_eql, n_leq, n_add, n_mul, n_sub, n_addl, n_ladd, n_mull, n_lmul, n_subl, Int32.reduceLT, Int32.reduceLE, Int32.reduceAdd, Int32.reduceSub, Int32.reduceMul, Int32.reduceToNatClampNeg, not_false_eq_true, not_true_eq_false, or_false, false_or, or_self, and_self, false_and, true_and, and_false, and_true, true_or, or_true, Nat.reduceAdd, Nat.reduceMul, Nat.reduceLT, Nat.reduceLeDiff, ne_eq, n_ell]
        exact hv_some rfl
      · refine hv_up (fun _ => fX10_look.eq_2 ..) ?_
        try simp only [↓reduceIte, Nat.reduceEqDiff, Option.bind_some, ao_let, n_ell, hc]
        try simp (disch := first | omega | assumption) only [↓reduceIte, Nat.reduceEqDiff, Option.bind_some, ao_let, t_le, f_le, t_lt, f_lt, f_eq, u_eq, u_n1, u_n2, n_cl, n_lt, n_le, n_eq, n_ltl, n_llt, n_lel, n_lle, n_eql, n_leq, n_add, n_mul, n_sub, n_addl, n_ladd, n_mull, n_lmul, n_subl, Int32.reduceLT, Int32.reduceLE, Int32.reduceAdd, Int32.reduceSub, Int32.reduceMul, Int32.reduceToNatClampNeg, not_false_eq_true, not_true_eq_false, or_false, false_or, or_self, and_self, false_and, true_and, and_false, and_true, true_or, or_true, Nat.reduceAdd, Nat.reduceMul, Nat.reduceLT, Nat.reduceLeDiff, ne_eq, n_ell, hc]
        refine hv_up (fun _ => fX10_look.eq_2 ..) ?_
        try simp only [↓reduceIte, Nat.reduceEqDiff, Option.bind_some, ao_let, n_ell]
        try simp (disch := first | omega | assumption) only [↓reduceIte, Nat.reduceEqDiff, Option.bind_some, ao_let, t_le, f_le, t_lt, f_lt, f_eq, u_eq, u_n1, u_n2, n_cl, n_lt, n_le, n_eq, n_ltl, n_llt, n_lel, n_lle, n_eql, n_leq, n_add, n_mul, n_sub, n_addl, n_ladd, n_mull, n_lmul, n_subl, Int32.reduceLT, Int32.reduceLE, Int32.reduceAdd, Int32.reduceSub, Int32.reduceMul, Int32.reduceToNatClampNeg, not_false_eq_true, not_true_eq_false, or_false, false_or, or_self, and_self, false_and, true_and, and_false, and_true, true_or, or_true, Nat.reduceAdd, Nat.reduceMul, Nat.reduceLT, Nat.reduceLeDiff, ne_eq, n_ell]
        exact hv_some rfl
      · refine hv_up (fun _ => fX10_look.eq_2 ..) ?_
        try simp only [↓reduceIte, Nat.reduceEqDiff, Option.bind_some, ao_let, n_ell, hc, hx]
        try simp (disch := first | omega | assumption) only [↓reduceIte, Nat.reduceEqDiff, Option.bind_some, ao_let, t_le, f_le, t_lt, f_lt, f_eq, u_eq, u_n1, u_n2, n_cl, n_lt, n_le, n_eq, n_ltl, n_llt, n_lel, n_lle, n_eql, n_leq, n_add, n_mul, n_sub, n_addl, n_ladd, n_mull, n_lmul, n_subl, Int32.reduceLT, Int32.reduceLE, Int32.reduceAdd, Int32.reduceSub, Int32.reduceMul, Int32.reduceToNatClampNeg, not_false_eq_true, not_true_eq_false, or_false, false_or, or_self, and_self, false_and, true_and, and_false, and_true, true_or, or_true, Nat.reduceAdd, Nat.reduceMul, Nat.reduceLT, Nat.reduceLeDiff, ne_eq, n_ell, hc, hx]
        refine hv_up (fun _ => fX10_look.eq_2 ..) ?_
        try simp only [↓reduceIte, Nat.reduceEqDiff, Option.bind_some, ao_let, n_ell]
        try simp (disch := first | omega | assumption) only [↓reduceIte, Nat.reduceEqDiff, Option.bind_some, ao_let, t_le, f_le, t_lt, f_lt, f_eq, u_eq, u_n1, u_n2, n_cl, n_lt, n_le, n_eq, n_ltl, n_llt, n_lel, n_lle, n_eql, n_leq, n_add, n_mul, n_sub, n_addl, n_ladd, n_mull, n_lmul, n_subl, Int32.reduceLT, Int32.reduceLE, Int32.reduceAdd, Int32.reduceSub, Int32.reduceMul, Int32.reduceToNatClampNeg, not_false_eq_true, not_true_eq_false, or_false, false_or, or_self, and_self, false_and, true_and, and_false, and_true, true_or, or_true, Nat.reduceAdd, Nat.reduceMul, Nat.reduceLT, Nat.reduceLeDiff, ne_eq, n_ell]
        exact hv_some rfl
      · refine hv_up (fun _ => fX10_look.eq_2 ..) ?_
        try simp only [↓reduceIte, Nat.reduceEqDiff, Option.bind_some, ao_let, n_ell, hc]
        try simp (disch := first | omega | assumption) only [↓reduceIte, Nat.reduceEqDiff, Option.bind_some, ao_let, t_le, f_le, t_lt, f_lt, f_eq, u_eq, u_n1, u_n2, n_cl, n_lt, n_le, n_eq, n_ltl, n_llt, n_lel, n_lle, n_eql, n_leq, n_add, n_mul, n_sub, n_addl, n_ladd, n_mull, n_lmul, n_subl, Int32.reduceLT, Int32.reduceLE, Int32.reduceAdd, Int32.reduceSub, Int32.reduceMul, Int32.reduceToNatClampNeg, not_false_eq_true, not_true_eq_false, or_false, false_or, or_self, and_self, false_and, true_and, and_false, and_true, true_or, or_true, Nat.reduceAdd, Nat.reduceMul, Nat.reduceLT, Nat.reduceLeDiff, ne_eq, n_ell, hc]
        refine hv_up (fun _ => fX10_look.eq_2 ..) ?_
        try simp only [↓reduceIte, Nat.reduceEqDiff, Option.bind_some, ao_let, n_ell]
        try simp (disch := first | omega | assumption) only [↓reduceIte, Nat.reduceEqDiff, Option.bind_some, ao_let, t_le, f_le, t_lt, f_lt, f_eq, u_eq, u_n1, u_n2, n_cl, n_lt, n_le, n_eq, n_ltl, n_llt, n_lel, n_lle, n_eql, n_leq, n_add, n_mul, n_sub, n_addl, n_ladd, n_mull, n_lmul, n_subl, Int32.reduceLT, Int32.reduceLE, Int32.reduceAdd, Int32.reduceSub, Int32.reduceMul, Int32.reduceToNatClampNeg, not_false_eq_true, not_true_eq_false, or_false, false_or, or_self, and_self, false_and, true_and, and_false, and_true, true_or, or_true, Nat.reduceAdd, Nat.reduceMul, Nat.reduceLT, Nat.reduceLeDiff, ne_eq, n_ell]
        exact hv_some rfl
    unfold gL_look
    refine hv_up (fun _ => fL_look.eq_2 ..) ?_
    try simp only [↓reduceIte, Nat.reduceEqDiff, Option.bind_some, ao_let, n_ell, hc]
    try simp (disch := first | omega | assumption) only [↓reduceIte, Nat.reduceEqDiff, Option.bind_some, ao_let, t_le, f_le, t_lt, f_lt, f_eq, u_eq, u_n1, u_n2, n_cl, n_lt, n_le, n_eq, n_ltl, n_llt, n_lel, n_lle, n_eql, n_leq, n_add, n_mul, n_sub, n_addl, n_ladd, n_mull, n_lmul, n_subl, Int32.reduceLT, Int32.reduceLE, Int32.reduceAdd, Int32.reduceSub, Int32.reduceMul, Int32.reduceToNatClampNeg, not_false_eq_true, not_true_eq_false, or_false, false_or, or_self, and_self, false_and, true_and, and_false, and_true, true_or, or_true, Nat.reduceAdd, Nat.reduceMul, Nat.reduceLT, Nat.reduceLeDiff, ne_eq, n_ell, hc]
    refine hv_bind hth ?_
    rintro _ rfl
    simp only [ao_cs, ↓reduceIte]
    refine hv_some ?_
    have h15 : hv (fun n => fX12_look n 18 537 x z 537 0 0 D σ) (fun w => TellP C ρ D (1, C, ao_th ρ) w) := by
      refine hv_up (fun _ => fX12_look.eq_2 ..) ?_
      try simp only [↓reduceIte, Nat.reduceEqDiff, Option.bind_some, ao_let, n_ell]
      try simp (disch := first | omega | assumption) only [↓reduceIte, Nat.reduceEqDiff, Option.bind_some, ao_let, t_le, f_le, t_lt, f_lt, f_eq, u_eq, u_n1, u_n2, n_cl, n_lt, n_le, n_eq, n_ltl, n_llt, n_lel, n_lle, n_eql, n_leq, n_add, n_mul, n_sub, n_addl, n_ladd, n_mull, n_lmul, n_subl, Int32.reduceLT, Int32.reduceLE, Int32.reduceAdd, Int32.reduceSub, Int32.reduceMul, Int32.reduceToNatClampNeg, not_false_eq_true, not_true_eq_false, or_false, false_or, or_self, and_self, false_and, true_and, and_false, and_true, true_or, or_true, Nat.reduceAdd, Nat.reduceMul, Nat.reduceLT, Nat.reduceLeDiff, ne_eq, n_ell]
      refine hv_up (fun _ => fX12_look.eq_2 ..) ?_
      try simp only [↓reduceIte, Nat.reduceEqDiff, Option.bind_some, ao_let, n_ell, hs, gX12_fails]
      try simp (disch := first | omega | assumption) only [↓reduceIte, Nat.reduceEqDiff, Option.bind_some, ao_let, t_le, f_le, t_lt, f_lt, f_eq, u_eq, u_n1, u_n2, n_cl, n_lt, n_le, n_eq, n_ltl, n_llt, n_lel, n_lle, n_eql, n_leq, n_add, n_mul, n_sub, n_addl, n_ladd, n_mull, n_lmul, n_subl, Int32.reduceLT, Int32.reduceLE, Int32.reduceAdd, Int32.reduceSub, Int32.reduceMul, Int32.reduceToNatClampNeg, not_false_eq_true, not_true_eq_false, or_false, false_or, or_self, and_self, false_and, true_and, and_false, and_true, true_or, or_true, Nat.reduceAdd, Nat.reduceMul, Nat.reduceLT, Nat.reduceLeDiff, ne_eq, n_ell, hs, gX12_fails]
      exact hv_some ⟨rfl, Or.inr ⟨(show (1 : Int32) ≠ 0 by decide), rfl, rfl⟩⟩
    unfold gX12_look
    rcases hx with hx | ⟨⟨t, ht, rfl⟩, hx | ⟨n, h1, h2, rfl⟩⟩
    · refine hv_up (fun _ => fX12_look.eq_2 ..) ?_
      try simp only [↓reduceIte, Nat.reduceEqDiff, Option.bind_some, ao_let, n_ell, hs, isTh_no hx]
      try simp (disch := first | omega | assumption) only [↓reduceIte, Nat.reduceEqDiff, Option.bind_some, ao_let, t_le, f_le, t_lt, f_lt, f_eq, u_eq, u_n1, u_n2, n_cl, n_lt, n_le, n_eq, n_ltl, n_llt, n_lel, n_lle, n_eql, n_leq, n_add, n_mul, n_sub, n_addl, n_ladd, n_mull, n_lmul, n_subl, Int32.reduceLT, Int32.reduceLE, Int32.reduceAdd, Int32.reduceSub, Int32.reduceMul, Int32.reduceToNatClampNeg, not_false_eq_true, not_true_eq_false, or_false, false_or, or_self, and_self, false_and, true_and, and_false, and_true, true_or, or_true, Nat.reduceAdd, Nat.reduceMul, Nat.reduceLT, Nat.reduceLeDiff, ne_eq, n_ell, hs, isTh_no hx]
      exact h15
    · refine hv_up (fun _ => fX12_look.eq_2 ..) ?_
      try simp only [↓reduceIte, Nat.reduceEqDiff, Option.bind_some, ao_let, n_ell, hs, isTh_yes ht, hx]
      try simp (disch := first | omega | assumption) only [↓reduceIte, Nat.reduceEqDiff, Option.bind_some, ao_let, t_le, f_le, t_lt, f_lt, f_eq, u_eq, u_n1, u_n2, n_cl, n_lt, n_le, n_eq, n_ltl, n_llt, n_lel, n_lle, n_eql, n_leq, n_add, n_mul, n_sub, n_addl, n_ladd, n_mull, n_lmul, n_subl, Int32.reduceLT, Int32.reduceLE, Int32.reduceAdd, Int32.reduceSub, Int32.reduceMul, Int32.reduceToNatClampNeg, not_false_eq_true, not_true_eq_false, or_false, false_or, or_self, and_self, false_and, true_and, and_false, and_true, true_or, or_true, Nat.reduceAdd, Nat.reduceMul, Nat.reduceLT, Nat.reduceLeDiff, ne_eq, n_ell, hs, isTh_yes ht, hx]
      exact h15
    · refine hv_up (fun _ => fX12_look.eq_2 ..) ?_
      try simp only [↓reduceIte, Nat.reduceEqDiff, Option.bind_some, ao_let, n_ell, hs, isTh_yes ht]
      try simp (disch := first | omega | assumption) only [↓reduceIte, Nat.reduceEqDiff, Option.bind_some, ao_let, t_le, f_le, t_lt, f_lt, f_eq, u_eq, u_n1, u_n2, n_cl, n_lt, n_le, n_eq, n_ltl, n_llt, n_lel, n_lle, n_eql, n_leq, n_add, n_mul, n_sub, n_addl, n_ladd, n_mull, n_lmul, n_subl, Int32.reduceLT, Int32.reduceLE, Int32.reduceAdd, Int32.reduceSub, Int32.reduceMul, Int32.reduceToNatClampNeg, not_false_eq_true, not_true_eq_false, or_false, false_or, or_self, and_self, false_and, true_and, and_false, and_true, true_or, or_true, Nat.reduceAdd, Nat.reduceMul, Nat.reduceLT, Nat.reduceLeDiff, ne_eq, n_ell, hs, isTh_yes ht]
      exact h15
end Cc3
