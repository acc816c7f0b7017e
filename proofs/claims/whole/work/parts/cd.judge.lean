set_option linter.unusedSimpArgs false
set_option linter.unusedVariables false
/-! ===== the judge: what both look at ===== -/
section Ccd
variable {C D : ao_M} {ρ σ : ao_H}
theorem bt_an (a b : Int32) (p : Nat) : bt (a &&& b) p = (bt a p && bt b p) := by
  unfold bt
  simp only [Int32.toBitVec_and, BitVec.getLsbD_and]
theorem bt_nt (x : Int32) {p : Nat} (hp : p < 32) : bt (x ^^^ (-1)) p = !bt x p := by
  unfold bt
  rw [Int32.toBitVec_xor, show (-1 : Int32).toBitVec = BitVec.allOnes 32 from by decide, BitVec.getLsbD_xor, BitVec.getLsbD_allOnes, decide_eq_true hp, Bool.xor_true]
theorem bt_hi (x : Int32) {p : Nat} (hp : 32 ≤ p) : bt x p = false := by
  unfold bt
  exact BitVec.getLsbD_of_ge _ _ hp
theorem bt_z0 (x : Int32) : x = 0 ↔ ∀ p, bt x p = false := by
  constructor
  · rintro rfl p
    exact bt_0 p
  · intro h
    exact bt_all x (fun p _ => h p) (fun p _ => h p)
theorem an_nt (a x : Int32) : ((a &&& (x ^^^ (-1))) = 0) ↔ ∀ p, bt a p = true → bt x p = true := by
  rw [bt_z0]
  constructor
  · intro h p hp
    have := h p
    by_cases q : p < 32
    · rw [bt_an, bt_nt x q, hp, Bool.true_and] at this
      simpa using this
    · rw [bt_hi a (by omega)] at hp
      exact absurd hp (by decide)
  · intro h p
    by_cases q : p < 32
    · rw [bt_an, bt_nt x q]
      by_cases e : bt a p = true
      · rw [h p e]; simp
      · have : bt a p = false := by simpa using e
        rw [this, Bool.false_and]
    · exact bt_hi _ (by omega)
/-- i went up to a turn ahead of that from which j went -/
def ah (C : ao_M) (i j : Nat) : Prop := ¬ C 29 j ≤ C 30 i
theorem c_ahead (hc : ShA ρ) {i j : Nat} (hi : i < 14) (hj : j < 14) : (ah C i j ∧ gX6_isAhead 25 (nI i) (nI j) C ρ = some (1, C)) ∨ (¬ ah C i j ∧ gX6_isAhead 25 (nI i) (nI j) C ρ = some (0, C)) := by
  unfold gX6_isAhead ah
  by_cases q : C 29 j ≤ C 30 i
  · refine Or.inr ⟨fun h => h q, ?_⟩
    try simp only [↓reduceIte, Nat.reduceEqDiff, Option.bind_some, ao_let, n_ell, hc, q]
    try simp (disch := first | omega | assumption) only [↓reduceIte, Nat.reduceEqDiff, Option.bind_some, ao_let, t_le, f_le, t_lt, f_lt, f_eq, u_eq, u_n1, u_n2, n_cl, n_lt, n_le, n_eq, n_ltl, n_llt, n_lel, n_lle, n_eql, n_leq, n_add, n_mul, n_sub, n_addl, n_ladd, n_mull, n_lmul, n_subl, Int32.reduceLT, Int32.reduceLE, Int32.reduceAdd, Int32.reduceSub, Int32.reduceMul, Int32.reduceToNatClampNeg, not_false_eq_true, not_true_eq_false, or_false, false_or, or_self, and_self, false_and, true_and, and_false, and_true, true_or, or_true, Nat.reduceAdd, Nat.reduceMul, Nat.reduceLT, Nat.reduceLeDiff, ne_eq, n_ell, hc, q]
  · refine Or.inl ⟨q, ?_⟩
    try simp only [↓reduceIte, Nat.reduceEqDiff, Option.bind_some, ao_let, n_ell, hc, q]
    try simp (disch := first | omega | assumption) only [↓reduceIte, Nat.reduceEqDiff, Option.bind_some, ao_let, t_le, f_le, t_lt, f_lt, f_eq, u_eq, u_n1, u_n2, n_cl, n_lt, n_le, n_eq, n_ltl, n_llt, n_lel, n_lle, n_eql, n_leq, n_add, n_mul, n_sub, n_addl, n_ladd, n_mull, n_lmul, n_subl, Int32.reduceLT, Int32.reduceLE, Int32.reduceAdd, Int32.reduceSub, Int32.reduceMul, Int32.reduceToNatClampNeg, not_false_eq_true, not_true_eq_false, or_false, false_or, or_self, and_self, false_and, true_and, and_false, and_true, true_or, or_true, Nat.reduceAdd, Nat.reduceMul, Nat.reduceLT, Nat.reduceLeDiff, ne_eq, n_ell, hc, q]
set_option maxHeartbeats 8000000 in
theorem c_mskL (hc : ShA ρ) {k j : Nat} (hk : k ≤ 14) (hj : j < k) : ∀ (s u : Nat) (x : Int32), u + s = k → (∀ i, bt x i = true ↔ i < u ∧ ah C i j) → hv (fun n => fX0_maskAhead n 5 25 (nI k) (nI j) x (nI u) C ρ) (fun y => y.2 = C ∧ ∀ i, bt y.1 i = true ↔ i < k ∧ ah C i j) := by
  intro s
  induction s with
  | zero =>
    intro u x h hx
    obtain rfl : u = k := by omega
    refine hv_up (fun _ => fX0_maskAhead.eq_2 ..) ?_
    try simp only [↓reduceIte, Nat.reduceEqDiff, Option.bind_some, ao_let, n_ell, hc]
    try simp (disch := first | omega | assumption) only [↓reduceIte, Nat.reduceEqDiff, Option.bind_some, ao_let, t_le, f_le, t_lt, f_lt, f_eq, u_eq, u_n1, u_n2, n_cl, n_lt, n_le, n_eq, n_ltl, n_llt, n_lel, n_lle, n_eql, n_leq, n_add, n_mul, n_sub, n_addl, n_ladd, n_mull, n_lmul, n_subl, Int32.reduceLT, Int32.reduceLE, Int32.reduceAdd, Int32.reduceSub, Int32.reduceMul, Int32.reduceToNatClampNeg, not_false_eq_true, not_true_eq_false, or_false, false_or, or_self, and_self, false_and, true_and, and_false, and_true, true_or, or_true, Nat.reduceAdd, Nat.reduceMul, Nat.reduceLT, Nat.reduceLeDiff, ne_eq, n_ell, hc]
    exact hv_some ⟨rfl, hx⟩
  | succ s ih =>
    intro u x h hx
    have hu26 : u < 26 := by omega
    rcases c_ahead (C := C) hc (show u < 14 by omega) (show j < 14 by omega) with ⟨q, e⟩ | ⟨q, e⟩
    · refine hv_up (fun _ => fX0_maskAhead.eq_2 ..) ?_
      try simp only [↓reduceIte, Nat.reduceEqDiff, Option.bind_some, ao_let, n_ell, hc, e]
      try simp (disch := first | omega | assumption) only [↓reduceIte, Nat.reduceEqDiff, Option.bind_some, ao_let, t_le, f_le, t_lt, f_lt, f_eq, u_eq, u_n1, u_n2, n_cl, n_lt, n_le, n_eq, n_ltl, n_llt, n_lel, n_lle, n_eql, n_leq, n_add, n_mul, n_sub, n_addl, n_ladd, n_mull, n_lmul, n_subl, Int32.reduceLT, Int32.reduceLE, Int32.reduceAdd, Int32.reduceSub, Int32.reduceMul, Int32.reduceToNatClampNeg, not_false_eq_true, not_true_eq_false, or_false, false_or, or_self, and_self, false_and, true_and, and_false, and_true, true_or, or_true, Nat.reduceAdd, Nat.reduceMul, Nat.reduceLT, Nat.reduceLeDiff, ne_eq, n_ell, hc, e]
      refine hv_up (fun _ => fX0_maskAhead.eq_2 ..) ?_
      try simp only [↓reduceIte, Nat.reduceEqDiff, Option.bind_some, ao_let, n_ell]
      try simp (disch := first | omega | assumption) only [↓reduceIte, Nat.reduceEqDiff, Option.bind_some, ao_let, t_le, f_le, t_lt, f_lt, f_eq, u_eq, u_n1, u_n2, n_cl, n_lt, n_le, n_eq, n_ltl, n_llt, n_lel, n_lle, n_eql, n_leq, n_add, n_mul, n_sub, n_addl, n_ladd, n_mull, n_lmul, n_subl, Int32.reduceLT, Int32.reduceLE, Int32.reduceAdd, Int32.reduceSub, Int32.reduceMul, Int32.reduceToNatClampNeg, not_false_eq_true, not_true_eq_false, or_false, false_or, or_self, and_self, false_and, true_and, and_false, and_true, true_or, or_true, Nat.reduceAdd, Nat.reduceMul, Nat.reduceLT, Nat.reduceLeDiff, ne_eq, n_ell]
      refine ih (u + 1) _ (by omega) (fun i => ?_)
      by_cases z : i < 26
      · rw [bt_or x z hu26, Bool.or_eq_true, hx i, decide_eq_true_eq]
        constructor
        · rintro (⟨h1, h2⟩ | rfl)
          · exact ⟨by omega, h2⟩
          · exact ⟨by omega, q⟩
        · rintro ⟨h1, h2⟩
          by_cases w : i = u
          · exact Or.inr w
          · exact Or.inl ⟨by omega, h2⟩
      · rw [bt_orh x (by omega) hu26, hx i]
        constructor
        · rintro ⟨h1, h2⟩; exact ⟨by omega, h2⟩
        · rintro ⟨h1, h2⟩; omega
    · refine hv_up (fun _ => fX0_maskAhead.eq_2 ..) ?_
      try simp only [↓reduceIte, Nat.reduceEqDiff, Option.bind_some, ao_let, n_ell, hc, e]
      try simp (disch := first | omega | assumption) only [↓reduceIte, Nat.reduceEqDiff, Option.bind_some, ao_let, t_le, f_le, t_lt, f_lt, f_eq, u_eq, u_n1, u_n2, n_cl, n_lt, n_le, n_eq, n_ltl, n_llt, n_lel, n_lle, n_eql, n_leq, n_add, n_mul, n_sub, n_addl, n_ladd, n_mull, n_lmul, n_subl, Int32.reduceLT, Int32.reduceLE, Int32.reduceAdd, Int32.reduceSub, Int32.reduceMul, Int32.reduceToNatClampNeg, not_false_eq_true, not_true_eq_false, or_false, false_or, or_self, and_self, false_and, true_and, and_false, and_true, true_or, or_true, Nat.reduceAdd, Nat.reduceMul, Nat.reduceLT, Nat.reduceLeDiff, ne_eq, n_ell, hc, e]
      refine hv_up (fun _ => fX0_maskAhead.eq_2 ..) ?_
      try simp only [↓reduceIte, Nat.reduceEqDiff, Option.bind_some, ao_let, n_ell]
      try simp (disch := first | omega | assumption) only [↓reduceIte, Nat.reduceEqDiff, Option.bind_some, ao_let, t_le, f_le, t_lt, f_lt, f_eq, u_eq, u_n1, u_n2, n_cl, n_lt, n_le, n_eq, n_ltl, n_llt, n_lel, n_lle, n_eql, n_leq, n_add, n_mul, n_sub, n_addl, n_ladd, n_mull, n_lmul, n_subl, Int32.reduceLT, Int32.reduceLE, Int32.reduceAdd, Int32.reduceSub, Int32.reduceMul, Int32.reduceToNatClampNeg, not_false_eq_true, not_true_eq_false, or_false, false_or, or_self, and_self, false_and, true_and, and_false, and_true, true_or, or_true, Nat.reduceAdd, Nat.reduceMul, Nat.reduceLT, Nat.reduceLeDiff, ne_eq, n_ell]
      refine ih (u + 1) _ (by omega) (fun i => ?_)
      rw [hx i]
      constructor
      · rintro ⟨h1, h2⟩; exact ⟨by omega, h2⟩
      · rintro ⟨h1, h2⟩
        by_cases w : i = u
        · subst w; exact absurd h2 q
        · exact ⟨by omega, h2⟩
theorem c_msk (hc : ShA ρ) {k j : Nat} (hk : k ≤ 14) (hj : j < k) : hv (fun n => gX0_maskAhead n 25 (nI k) (nI j) C ρ) (fun y => y.2 = C ∧ ∀ i, bt y.1 i = true ↔ i < k ∧ ah C i j) := by
  unfold gX0_maskAhead
  refine hv_up (fun _ => fX0_maskAhead.eq_2 ..) ?_
  try simp only [↓reduceIte, Nat.reduceEqDiff, Option.bind_some, ao_let, n_ell]
  try simp (disch := first | omega | assumption) only [↓reduceIte, Nat.reduceEqDiff, Option.bind_some, ao_let, t_le, f_le, t_lt, f_lt, f_eq, u_eq, u_n1, u_n2, n_cl, n_lt, n_le, n_eq, n_ltl, n_llt, n_lel, n_lle, n_eql, n_leq, n_add, n_mul, n_sub, n_addl, n_ladd, n_mull, n_lmul, n_subl, Int32.reduceLT, Int32.reduceLE, Int32.reduceAdd, Int32.reduceSub, Int32.reduceMul, Int32.reduceToNatClampNeg, not_false_eq_true, not_true_eq_false, or_false, false_or, or_self, and_self, false_and, true_and, and_false, and_true, true_or, or_true, Nat.reduceAdd, Nat.reduceMul, Nat.reduceLT, Nat.reduceLeDiff, ne_eq, n_ell]
  refine c_mskL hc hk hj k 0 0 (by omega) (fun i => ?_)
  rw [bt_0]
  constructor
  · intro h; exact absurd h (by decide)
  · rintro ⟨h1, -⟩; omega
set_option maxHeartbeats 8000000 in
/-- a record's reads against a row -/
theorem c_rarL (hc : ShA ρ) (hg : ShG ρ) {j d cnt : Nat} (hj : j < 14) (hd : d < 15) (hcnt : cnt ≤ 26) (c27 : C 27 j = nI cnt) (hp : ∀ n, n < cnt → ∃ p, p < 26 ∧ C (32 + j) n = nI p) : ∀ (s n : Nat), n + s = cnt → hv (fun a => fX6_readsAreRight a 14 25 (nI j) (521 + d) (nI n) C ρ) (fun y => y.2 = C ∧ ((y.1 = 1 ∧ ∀ n' p, n ≤ n' → n' < cnt → p < 26 → C (32 + j) n' = nI p → C (521 + d) p = C (47 + j) n') ∨ (y.1 = 0 ∧ ∃ n' p, n' < cnt ∧ p < 26 ∧ C (32 + j) n' = nI p ∧ ¬ C (521 + d) p = C (47 + j) n'))) := by
  obtain ⟨g0, g1, g2, g3, g4, g5, g6, g7, g8, g9, g10, g11, g12, g13, g14⟩ := hg
  have a0 := g0 j hj
  have a1 := g1 j hj
  have a2 := g2 j hj
  have a3 := g3 j hj
  have a4 := g4 j hj
  have a5 := g5 j hj
  have b1 := g13 d hd
  have b2 := g14 d hd
  intro s
  induction s with
  | zero =>
    intro n h
    obtain rfl : n = cnt := by omega
    refine hv_up (fun _ => fX6_readsAreRight.eq_2 ..) ?_
    try simp only [↓reduceIte, Nat.reduceEqDiff, Option.bind_some, ao_let, n_ell, hc, c27]
    try simp (disch := first | omega | assumption) only [↓reduceIte, Nat.reduceEqDiff, Option.bind_some, ao_let, t_le, f_le, t_lt, f_lt, f_eq, u_eq, u_n1, u_n2, n_cl, n_lt, n_le, n_eq, n_ltl, n_llt, n_lel, n_lle, n_eql, n_leq, n_add, n_mul, n_sub, n_addl, n_ladd, n_mull, n_lmul, n_subl, Int32.reduceLT, Int32.reduceLE, Int32.reduceAdd, Int32.reduceSub, Int32.reduceMul, Int32.reduceToNatClampNeg, not_false_eq_true, not_true_eq_false, or_false, false_or, or_self, and_self, false_and, true_and, and_false, and_true, true_or, or_true, Nat.reduceAdd, Nat.reduceMul, Nat.reduceLT, Nat.reduceLeDiff, ne_eq, n_ell, hc, c27]
    exact hv_some ⟨rfl, Or.inl ⟨rfl, fun n' p q1 q2 => by omega⟩⟩
  | succ s ih =>
    intro n h
    obtain ⟨p, hp26, ep⟩ := hp n (by omega)
    have l26 : (nI 26 ≤ nI p) = False := by rw [n_le (by omega) (by omega)]; exact eq_false (by omega)
    refine hv_up (fun _ => fX6_readsAreRight.eq_2 ..) ?_
    try simp only [↓reduceIte, Nat.reduceEqDiff, Option.bind_some, ao_let, n_ell, hc, c27, a0, a1, a2, ep, b1, b2, l26, a3, a4, a5]
    try simp (disch := first | omega | assumption) only [↓reduceIte, Nat.reduceEqDiff, Option.bind_some, ao_let, t_le, f_le, t_lt, f_lt, f_eq, u_eq, u_n1, u_n2, n_cl, n_lt, n_le, n_eq, n_ltl, n_llt, n_lel, n_lle, n_eql, n_leq, n_add, n_mul, n_sub, n_addl, n_ladd, n_mull, n_lmul, n_subl, Int32.reduceLT, Int32.reduceLE, Int32.reduceAdd, Int32.reduceSub, Int32.reduceMul, Int32.reduceToNatClampNeg, not_false_eq_true, not_true_eq_false, or_false, false_or, or_self, and_self, false_and, true_and, and_false, and_true, true_or, or_true, Nat.reduceAdd, Nat.reduceMul, Nat.reduceLT, Nat.reduceLeDiff, ne_eq, n_ell, hc, c27, a0, a1, a2, ep, b1, b2, l26, a3, a4, a5]
    by_cases q : C (521 + d) p = C (47 + j) n
    · refine hv_ifT q ?_
      refine hv_mono (ih (n + 1) (by omega)) ?_
      rintro y ⟨y1, ⟨y2, y3⟩ | ⟨y2, y3⟩⟩
      · refine ⟨y1, Or.inl ⟨y2, fun n' p' q1 q2 q3 q4 => ?_⟩⟩
        by_cases e : n' = n
        · subst e
          rw [ep, n_eq (by omega) (by omega)] at q4
          subst q4
          exact q
        · exact y3 n' p' (by omega) q2 q3 q4
      · exact ⟨y1, Or.inr ⟨y2, y3⟩⟩
    · refine hv_ifF q ?_
      exact hv_some ⟨rfl, Or.inr ⟨rfl, n, p, by omega, hp26, ep, q⟩⟩
/-- both find the reads right, or wrong -/
theorem c_rar (hc : ShA ρ) (hg : ShG ρ) {j d : Nat} (hj : j < 14) (hd : d < 15) {D : ao_M} (c27 : C 27 j = nI (cntF D 592 j)) (hr : RecL C D 592 590 32 47 j) : hv (fun a => gX6_readsAreRight a 25 (nI j) (521 + d) C ρ) (fun y => (y = (1, C) ∧ ∀ p, p < 26 → D 592 (j * 26 + p) = 1 → C (521 + d) p = D 590 (j * 26 + p)) ∨ (y = (0, C) ∧ ∃ p, p < 26 ∧ D 592 (j * 26 + p) = 1 ∧ ¬ C (521 + d) p = D 590 (j * 26 + p))) := by
  obtain ⟨r1, r2⟩ := hr
  have hcnt : cntF D 592 j ≤ 26 := Nat.le_trans List.countP_le_length (by simp)
  unfold gX6_readsAreRight
  refine hv_up (fun _ => fX6_readsAreRight.eq_2 ..) ?_
  try simp only [↓reduceIte, Nat.reduceEqDiff, Option.bind_some, ao_let, n_ell]
  try simp (disch := first | omega | assumption) only [↓reduceIte, Nat.reduceEqDiff, Option.bind_some, ao_let, t_le, f_le, t_lt, f_lt, f_eq, u_eq, u_n1, u_n2, n_cl, n_lt, n_le, n_eq, n_ltl, n_llt, n_lel, n_lle, n_eql, n_leq, n_add, n_mul, n_sub, n_addl, n_ladd, n_mull, n_lmul, n_subl, Int32.reduceLT, Int32.reduceLE, Int32.reduceAdd, Int32.reduceSub, Int32.reduceMul, Int32.reduceToNatClampNeg, not_false_eq_true, not_true_eq_false, or_false, false_or, or_self, and_self, false_and, true_and, and_false, and_true, true_or, or_true, Nat.reduceAdd, Nat.reduceMul, Nat.reduceLT, Nat.reduceLeDiff, ne_eq, n_ell]
  refine hv_mono (c_rarL hc hg hj hd hcnt c27 (fun n hn => by obtain ⟨p, q1, q2, -⟩ := r1 n hn; exact ⟨p, q1, q2⟩) _ 0 (Nat.zero_add _)) ?_
  rintro ⟨y1, C'⟩ ⟨e, ⟨e1, h⟩ | ⟨e1, n, p, q1, q2, q3, q4⟩⟩
  · dsimp only at e e1
    subst e e1
    refine Or.inl ⟨rfl, fun p hp hf => ?_⟩
    obtain ⟨n, hn, en⟩ := r2 p hp hf
    obtain ⟨p', z1, z2, z3, z4⟩ := r1 n hn
    have : p' = p := by
      rw [z2, n_eq (by omega) (by omega)] at en
      exact en
    subst this
    rw [h n p' (by omega) hn hp en, z4]
  · dsimp only at e e1
    subst e e1
    obtain ⟨p', z1, z2, z3, z4⟩ := r1 n q1
    have : p' = p := by
      rw [z2, n_eq (by omega) (by omega)] at q3
      exact q3
    subst this
    exact Or.inr ⟨rfl, p', q2, z3, by rw [← z4]; exact q4⟩
set_option maxHeartbeats 8000000 in
/-- a record's writes come to a row -/
theorem c_aplL (hc : ShA ρ) (hg : ShG ρ) {j d cnt : Nat} (hj : j < 14) (hd : d < 15) (hcnt : cnt ≤ 26) {V : Nat → Int32} : ∀ (s n : Nat) (C : ao_M), n + s = cnt → C 28 j = nI cnt → (∀ n, n < cnt → ∃ p, p < 26 ∧ C (62 + j) n = nI p ∧ C (77 + j) n = V p) → hv (fun a => fX6_apply a 13 25 (nI j) (521 + d) (nI n) 0 C ρ) (fun C' => (∀ x i, ¬ (x = 521 + d ∧ i < 26) → C' x i = C x i) ∧ ∀ p, p < 26 → ((∃ n', n ≤ n' ∧ n' < cnt ∧ C (62 + j) n' = nI p) → C' (521 + d) p = V p) ∧ (¬ (∃ n', n ≤ n' ∧ n' < cnt ∧ C (62 + j) n' = nI p) → C' (521 + d) p = C (521 + d) p)) := by
  obtain ⟨g0, g1, g2, g3, g4, g5, g6, g7, g8, g9, g10, g11, g12, g13, g14⟩ := hg
  have a0 := g6 j hj
  have a1 := g7 j hj
  have a2 := g8 j hj
  have a3 := g9 j hj
  have a4 := g10 j hj
  have a5 := g11 j hj
  have b1 := g13 d hd
  have b2 := g14 d hd
  intro s
  induction s with
  | zero =>
    intro n C h c28 hp
    obtain rfl : n = cnt := by omega
    refine hv_up (fun _ => fX6_apply.eq_2 ..) ?_
    try simp only [↓reduceIte, Nat.reduceEqDiff, Option.bind_some, ao_let, n_ell, hc, c28]
    try simp (disch := first | omega | assumption) only [↓reduceIte, Nat.reduceEqDiff, Option.bind_some, ao_let, t_le, f_le, t_lt, f_lt, f_eq, u_eq, u_n1, u_n2, n_cl, n_lt, n_le, n_eq, n_ltl, n_llt, n_lel, n_lle, n_eql, n_leq, n_add, n_mul, n_sub, n_addl, n_ladd, n_mull, n_lmul, n_subl, Int32.reduceLT, Int32.reduceLE, Int32.reduceAdd, Int32.reduceSub, Int32.reduceMul, Int32.reduceToNatClampNeg, not_false_eq_true, not_true_eq_false, or_false, false_or, or_self, and_self, false_and, true_and, and_false, and_true, true_or, or_true, Nat.reduceAdd, Nat.reduceMul, Nat.reduceLT, Nat.reduceLeDiff, ne_eq, n_ell, hc, c28]
    refine hv_some ⟨fun _ _ _ => rfl, fun p hp => ⟨fun ⟨n', q1, q2, _⟩ => by omega, fun _ => rfl⟩⟩
  | succ s ih =>
    intro n C h c28 hp
    obtain ⟨p, hp26, ep, ev⟩ := hp n (by omega)
    have l26 : (nI 26 ≤ nI p) = False := by rw [n_le (by omega) (by omega)]; exact eq_false (by omega)
    refine hv_up (fun _ => fX6_apply.eq_2 ..) ?_
    try simp only [↓reduceIte, Nat.reduceEqDiff, Option.bind_some, ao_let, n_ell, hc, c28, a0, a1, a2, ep, b1, b2, l26, a3, a4, a5, ev]
    try simp (disch := first | omega | assumption) only [↓reduceIte, Nat.reduceEqDiff, Option.bind_some, ao_let, t_le, f_le, t_lt, f_lt, f_eq, u_eq, u_n1, u_n2, n_cl, n_lt, n_le, n_eq, n_ltl, n_llt, n_lel, n_lle, n_eql, n_leq, n_add, n_mul, n_sub, n_addl, n_ladd, n_mull, n_lmul, n_subl, Int32.reduceLT, Int32.reduceLE, Int32.reduceAdd, Int32.reduceSub, Int32.reduceMul, Int32.reduceToNatClampNeg, not_false_eq_true, not_true_eq_false, or_false, false_or, or_self, and_self, false_and, true_and, and_false, and_true, true_or, or_true, Nat.reduceAdd, Nat.reduceMul, Nat.reduceLT, Nat.reduceLeDiff, ne_eq, n_ell, hc, c28, a0, a1, a2, ep, b1, b2, l26, a3, a4, a5, ev]
    refine hv_up (fun _ => fX6_apply.eq_2 ..) ?_
    try simp only [↓reduceIte, Nat.reduceEqDiff, Option.bind_some, ao_let, n_ell]
    try simp (disch := first | omega | assumption) only [↓reduceIte, Nat.reduceEqDiff, Option.bind_some, ao_let, t_le, f_le, t_lt, f_lt, f_eq, u_eq, u_n1, u_n2, n_cl, n_lt, n_le, n_eq, n_ltl, n_llt, n_lel, n_lle, n_eql, n_leq, n_add, n_mul, n_sub, n_addl, n_ladd, n_mull, n_lmul, n_subl, Int32.reduceLT, Int32.reduceLE, Int32.reduceAdd, Int32.reduceSub, Int32.reduceMul, Int32.reduceToNatClampNeg, not_false_eq_true, not_true_eq_false, or_false, false_or, or_self, and_self, false_and, true_and, and_false, and_true, true_or, or_true, Nat.reduceAdd, Nat.reduceMul, Nat.reduceLT, Nat.reduceLeDiff, ne_eq, n_ell]
    refine hv_mono (ih (n + 1) _ (by omega) (by rw [u_ne (by omega)]; exact c28) (fun n' hn' => by
      obtain ⟨p', q1, q2, q3⟩ := hp n' hn'
      exact ⟨p', q1, by rw [u_ne (by omega)]; exact q2, by rw [u_ne (by omega)]; exact q3⟩)) ?_
    rintro C' ⟨h1, h2⟩
    have e62 : ∀ i, ao_u C (521 + d) p (V p) (62 + j) i = C (62 + j) i := fun i => u_ne (by omega)
    simp only [e62] at h2
    refine ⟨fun x i q => by rw [h1 x i q, u_ne (by omega)], fun p' hp' => ⟨fun ⟨n', q1, q2, q3⟩ => ?_, fun q => ?_⟩⟩
    · by_cases z : ∃ n', n + 1 ≤ n' ∧ n' < cnt ∧ C (62 + j) n' = nI p'
      · exact (h2 p' hp').1 z
      · rw [(h2 p' hp').2 z]
        have : n' = n := by
          by_cases w : n' = n
          · exact w
          · exact absurd ⟨n', by omega, q2, q3⟩ z
        subst this
        rw [ep, n_eq (by omega) (by omega)] at q3
        subst q3
        rw [u_eq]
    · rw [(h2 p' hp').2 (fun ⟨n', q1, q2, q3⟩ => q ⟨n', by omega, q2, q3⟩), u_ne ?_]
      by_cases w : p' = p
      · subst w
        exact absurd ⟨n, by omega, by omega, ep⟩ q
      · omega
theorem c_apl (hc : ShA ρ) (hg : ShG ρ) {j d : Nat} (hj : j < 14) (hd : d < 15) {D : ao_M} (c28 : C 28 j = nI (cntF D 593 j)) (hr : RecL C D 593 591 62 77 j) : hv (fun a => gX6_apply a 25 (nI j) (521 + d) C ρ) (fun C' => (∀ x i, ¬ (x = 521 + d ∧ i < 26) → C' x i = C x i) ∧ ∀ p, p < 26 → (D 593 (j * 26 + p) = 1 → C' (521 + d) p = D 591 (j * 26 + p)) ∧ (¬ D 593 (j * 26 + p) = 1 → C' (521 + d) p = C (521 + d) p)) := by
  obtain ⟨r1, r2⟩ := hr
  have hcnt : cntF D 593 j ≤ 26 := Nat.le_trans List.countP_le_length (by simp)
  unfold gX6_apply
  refine hv_up (fun _ => fX6_apply.eq_2 ..) ?_
  try simp only [↓reduceIte, Nat.reduceEqDiff, Option.bind_some, ao_let, n_ell]
  try simp (disch := first | omega | assumption) only [↓reduceIte, Nat.reduceEqDiff, Option.bind_some, ao_let, t_le, f_le, t_lt, f_lt, f_eq, u_eq, u_n1, u_n2, n_cl, n_lt, n_le, n_eq, n_ltl, n_llt, n_lel, n_lle, n_eql, n_leq, n_add, n_mul, n_sub, n_addl, n_ladd, n_mull, n_lmul, n_subl, Int32.reduceLT, Int32.reduceLE, Int32.reduceAdd, Int32.reduceSub, Int32.reduceMul, Int32.reduceToNatClampNeg, not_false_eq_true, not_true_eq_false, or_false, false_or, or_self, and_self, false_and, true_and, and_false, and_true, true_or, or_true, Nat.reduceAdd, Nat.reduceMul, Nat.reduceLT, Nat.reduceLeDiff, ne_eq, n_ell]
  refine hv_mono (c_aplL (V := fun p => D 591 (j * 26 + p)) hc hg hj hd hcnt _ 0 C (Nat.zero_add _) c28 (fun n hn => by
    obtain ⟨p, z1, z2, z3, z4⟩ := r1 n hn
    exact ⟨p, z1, z2, z4⟩)) ?_
  rintro C' ⟨h1, h2⟩
  refine ⟨h1, fun p hp => ⟨fun q => (h2 p hp).1 ?_, fun q => (h2 p hp).2 ?_⟩⟩
  · obtain ⟨n, hn, en⟩ := r2 p hp q
    exact ⟨n, by omega, hn, en⟩
  · rintro ⟨n, -, hn, en⟩
    obtain ⟨p', z1, z2, z3, z4⟩ := r1 n hn
    rw [z2, n_eq (by omega) (by omega)] at en
    subst en
    exact q z3
set_option maxHeartbeats 8000000 in
/-- is a row as it is? -/
theorem c_asL (hc : ShA ρ) (hg : ShG ρ) {d : Nat} (hd : d ≤ 14) : ∀ (s p : Nat), p + s = 26 → hv (fun a => fX0_isAsItIs a 14 518 13 (nI d) (nI p) C ρ) (fun y => (y = (1, C) ∧ ∀ p', p ≤ p' → p' < 26 → C 16 p' = -1 → C 14 p' = C (521 + d) p') ∨ (y = (0, C) ∧ ∃ p', p' < 26 ∧ C 16 p' = -1 ∧ ¬ C 14 p' = C (521 + d) p')) := by
  obtain ⟨g0, g1, g2, g3, g4, g5, g6, g7, g8, g9, g10, g11, g12, g13, g14⟩ := hg
  have b0 := g12 d (by omega)
  have b1 := g13 d (by omega)
  have b2 := g14 d (by omega)
  intro s
  induction s with
  | zero =>
    intro p h
    obtain rfl : p = 26 := by omega
    refine hv_up (fun _ => fX0_isAsItIs.eq_2 ..) ?_
    try simp only [↓reduceIte, Nat.reduceEqDiff, Option.bind_some, ao_let, n_ell, hc]
    try simp (disch := first | omega | assumption) only [↓reduceIte, Nat.reduceEqDiff, Option.bind_some, ao_let, t_le, f_le, t_lt, f_lt, f_eq, u_eq, u_n1, u_n2, n_cl, n_lt, n_le, n_eq, n_ltl, n_llt, n_lel, n_lle, n_eql, n_leq, n_add, n_mul, n_sub, n_addl, n_ladd, n_mull, n_lmul, n_subl, Int32.reduceLT, Int32.reduceLE, Int32.reduceAdd, Int32.reduceSub, Int32.reduceMul, Int32.reduceToNatClampNeg, not_false_eq_true, not_true_eq_false, or_false, false_or, or_self, and_self, false_and, true_and, and_false, and_true, true_or, or_true, Nat.reduceAdd, Nat.reduceMul, Nat.reduceLT, Nat.reduceLeDiff, ne_eq, n_ell, hc]
    exact hv_some (Or.inl ⟨rfl, fun p' q1 q2 => by omega⟩)
  | succ s ih =>
    intro p h
    have nx : (C 16 p = -1 → C 14 p = C (521 + d) p) → hv (fun a => fX0_isAsItIs a 49 518 13 (nI d) (nI p) C ρ) (fun y => (y = (1, C) ∧ ∀ p', p ≤ p' → p' < 26 → C 16 p' = -1 → C 14 p' = C (521 + d) p') ∨ (y = (0, C) ∧ ∃ p', p' < 26 ∧ C 16 p' = -1 ∧ ¬ C 14 p' = C (521 + d) p')) := by
      intro q
      refine hv_up (fun _ => fX0_isAsItIs.eq_2 ..) ?_
      try simp only [↓reduceIte, Nat.reduceEqDiff, Option.bind_some, ao_let, n_ell]
      try simp (disch := first | omega | assumption) only [↓reduceIte, Nat.reduceEqDiff, Option.bind_some, ao_let, t_le, f_le, t_lt, f_lt, f_eq, u_eq, u_n1, u_n2, n_cl, n_lt, n_le, n_eq, n_ltl, n_llt, n_lel, n_lle, n_eql, n_leq, n_add, n_mul, n_sub, n_addl, n_ladd, n_mull, n_lmul, n_subl, Int32.reduceLT, Int32.reduceLE, Int32.reduceAdd, Int32.reduceSub, Int32.reduceMul, Int32.reduceToNatClampNeg, not_false_eq_true, not_true_eq_false, or_false, false_or, or_self, and_self, false_and, true_and, and_false, and_true, true_or, or_true, Nat.reduceAdd, Nat.reduceMul, Nat.reduceLT, Nat.reduceLeDiff, ne_eq, n_ell]
      refine hv_mono (ih (p + 1) (by omega)) ?_
      rintro y (⟨y1, y2⟩ | y1)
      · refine Or.inl ⟨y1, fun p' q1 q2 q3 => ?_⟩
        by_cases e : p' = p
        · subst e; exact q q3
        · exact y2 p' (by omega) q2 q3
      · exact Or.inr y1
    refine hv_up (fun _ => fX0_isAsItIs.eq_2 ..) ?_
    try simp only [↓reduceIte, Nat.reduceEqDiff, Option.bind_some, ao_let, n_ell, hc, b0, b1, b2]
    try simp (disch := first | omega | assumption) only [↓reduceIte, Nat.reduceEqDiff, Option.bind_some, ao_let, t_le, f_le, t_lt, f_lt, f_eq, u_eq, u_n1, u_n2, n_cl, n_lt, n_le, n_eq, n_ltl, n_llt, n_lel, n_lle, n_eql, n_leq, n_add, n_mul, n_sub, n_addl, n_ladd, n_mull, n_lmul, n_subl, Int32.reduceLT, Int32.reduceLE, Int32.reduceAdd, Int32.reduceSub, Int32.reduceMul, Int32.reduceToNatClampNeg, not_false_eq_true, not_true_eq_false, or_false, false_or, or_self, and_self, false_and, true_and, and_false, and_true, true_or, or_true, Nat.reduceAdd, Nat.reduceMul, Nat.reduceLT, Nat.reduceLeDiff, ne_eq, n_ell, hc, b0, b1, b2]
    refine hv_if (fun e => hv_if (fun e' => nx (fun _ => e')) (fun e' => hv_some (Or.inr ⟨rfl, p, by omega, e, e'⟩))) (fun e => nx (fun q => absurd q e))
set_option maxHeartbeats 8000000 in
theorem d_asL (hs : ShD σ) {d : Nat} (hd : d ≤ 14) (ht : ∀ p, p < 26 → D 544 p = -1 ∨ ∃ t, t < 6 ∧ D 544 p = nI t) : ∀ (s p : Nat), p + s = 26 → hv (fun a => fX12_isAsIs a 2 537 (nI d) (nI p) D σ) (fun y => (y = (1, D) ∧ ∀ p', p ≤ p' → p' < 26 → D 544 p' = -1 → D 596 (d * 26 + p') = D 542 p') ∨ (y = (0, D) ∧ ∃ p', p' < 26 ∧ D 544 p' = -1 ∧ ¬ D 596 (d * 26 + p') = D 542 p')) := by
  intro s
  induction s with
  | zero =>
    intro p h
    obtain rfl : p = 26 := by omega
    refine hv_up (fun _ => fX12_isAsIs.eq_2 ..) ?_
    try simp only [↓reduceIte, Nat.reduceEqDiff, Option.bind_some, ao_let, n_ell, hs]
    try simp (disch := first | omega | assumption) only [↓reduceIte, Nat.reduceEqDiff, Option.bind_some, ao_let, t_le, f_le, t_lt, f_lt, f_eq, u_eq, u_n1, u_n2, n_cl, n_lt, n_le, n_eq, n_ltl, n_llt, n_lel, n_lle, n_eql, n_leq, n_add, n_mul, n_sub, n_addl, n_ladd, n_mull, n_lmul, n_subl, Int32.reduceLT, Int32.reduceLE, Int32.reduceAdd, Int32.reduceSub, Int32.reduceMul, Int32.reduceToNatClampNeg, not_false_eq_true, not_true_eq_false, or_false, false_or, or_self, and_self, false_and, true_and, and_false, and_true, true_or, or_true, Nat.reduceAdd, Nat.reduceMul, Nat.reduceLT, Nat.reduceLeDiff, ne_eq, n_ell, hs]
    exact hv_some (Or.inl ⟨rfl, fun p' q1 q2 => by omega⟩)
  | succ s ih =>
    intro p h
    have nx : (D 544 p = -1 → D 596 (d * 26 + p) = D 542 p) → hv (fun a => fX12_isAsIs a 39 537 (nI d) (nI p) D σ) (fun y => (y = (1, D) ∧ ∀ p', p ≤ p' → p' < 26 → D 544 p' = -1 → D 596 (d * 26 + p') = D 542 p') ∨ (y = (0, D) ∧ ∃ p', p' < 26 ∧ D 544 p' = -1 ∧ ¬ D 596 (d * 26 + p') = D 542 p')) := by
      intro q
      refine hv_up (fun _ => fX12_isAsIs.eq_2 ..) ?_
      try simp only [↓reduceIte, Nat.reduceEqDiff, Option.bind_some, ao_let, n_ell]
      try simp (disch := first | omega | assumption) only [↓reduceIte, Nat.reduceEqDiff, Option.bind_some, ao_let, t_le, f_le, t_lt, f_lt, f_eq, u_eq, u_n1, u_n2, n_cl, n_lt, n_le, n_eq, n_ltl, n_llt, n_lel, n_lle, n_eql, n_leq, n_add, n_mul, n_sub, n_addl, n_ladd, n_mull, n_lmul, n_subl, Int32.reduceLT, Int32.reduceLE, Int32.reduceAdd, Int32.reduceSub, Int32.reduceMul, Int32.reduceToNatClampNeg, not_false_eq_true, not_true_eq_false, or_false, false_or, or_self, and_self, false_and, true_and, and_false, and_true, true_or, or_true, Nat.reduceAdd, Nat.reduceMul, Nat.reduceLT, Nat.reduceLeDiff, ne_eq, n_ell]
      refine hv_mono (ih (p + 1) (by omega)) ?_
      rintro y (⟨y1, y2⟩ | y1)
      · refine Or.inl ⟨y1, fun p' q1 q2 q3 => ?_⟩
        by_cases e : p' = p
        · subst e; exact q q3
        · exact y2 p' (by omega) q2 q3
      · exact Or.inr y1
    refine hv_up (fun _ => fX12_isAsIs.eq_2 ..) ?_
    try simp only [↓reduceIte, Nat.reduceEqDiff, Option.bind_some, ao_let, n_ell, hs]
    try simp (disch := first | omega | assumption) only [↓reduceIte, Nat.reduceEqDiff, Option.bind_some, ao_let, t_le, f_le, t_lt, f_lt, f_eq, u_eq, u_n1, u_n2, n_cl, n_lt, n_le, n_eq, n_ltl, n_llt, n_lel, n_lle, n_eql, n_leq, n_add, n_mul, n_sub, n_addl, n_ladd, n_mull, n_lmul, n_subl, Int32.reduceLT, Int32.reduceLE, Int32.reduceAdd, Int32.reduceSub, Int32.reduceMul, Int32.reduceToNatClampNeg, not_false_eq_true, not_true_eq_false, or_false, false_or, or_self, and_self, false_and, true_and, and_false, and_true, true_or, or_true, Nat.reduceAdd, Nat.reduceMul, Nat.reduceLT, Nat.reduceLeDiff, ne_eq, n_ell, hs]
    rcases ht p (by omega) with e | ⟨t, h6, e⟩
    · refine hv_ifF (by rw [e]; decide) ?_
      refine hv_if (fun e' => nx (fun _ => e')) (fun e' => hv_some (Or.inr ⟨rfl, p, by omega, e, e'⟩))
    · refine hv_ifT (by rw [e, show (0 : Int32) = nI 0 from rfl, n_le (by omega) (by omega)]; omega) ?_
      exact nx (fun q => by
        rw [e] at q
        exact absurd q (by rw [n_neg (by omega)]; exact id))
set_option maxHeartbeats 8000000 in
/-- may record j come next? -/
theorem d_mcA (hs : ShD σ) {k j : Nat} (hk : k ≤ 14) (hj : j < k) {x2 : Int32} (d76 : D 537 76 = nI k) (hu : ∀ i, i < k → D 597 i = 0 ∨ D 597 i = 1) {Q : Int32 × ao_M → Prop} : ∀ (s u : Nat), u + s = k → ((∃ i, u ≤ i ∧ i < k ∧ i ≠ j ∧ D 597 i = 0 ∧ ¬ D 588 j ≤ D 589 i) → Q (0, D)) → ((∀ i, u ≤ i → i < k → i ≠ j → D 597 i = 0 → D 588 j ≤ D 589 i) → hv (fun a => fX12_mayCome a 60 537 (nI j) x2 0 D σ) Q) → hv (fun a => fX12_mayCome a 13 537 (nI j) x2 (nI u) D σ) Q := by
  intro s
  induction s with
  | zero =>
    intro u h q0 q1
    obtain rfl : u = k := by omega
    refine hv_up (fun _ => fX12_mayCome.eq_2 ..) ?_
    try simp only [↓reduceIte, Nat.reduceEqDiff, Option.bind_some, ao_let, n_ell, hs, d76]
    try simp (disch := first | omega | assumption) only [↓reduceIte, Nat.reduceEqDiff, Option.bind_some, ao_let, t_le, f_le, t_lt, f_lt, f_eq, u_eq, u_n1, u_n2, n_cl, n_lt, n_le, n_eq, n_ltl, n_llt, n_lel, n_lle, n_eql, n_leq, n_add, n_mul, n_sub, n_addl, n_ladd, n_mull, n_lmul, n_subl, Int32.reduceLT, Int32.reduceLE, Int32.reduceAdd, Int32.reduceSub, Int32.reduceMul, Int32.reduceToNatClampNeg, not_false_eq_true, not_true_eq_false, or_false, false_or, or_self, and_self, false_and, true_and, and_false, and_true, true_or, or_true, Nat.reduceAdd, Nat.reduceMul, Nat.reduceLT, Nat.reduceLeDiff, ne_eq, n_ell, hs, d76]
    exact q1 (fun i h1 h2 => by omega)
  | succ s ih =>
    intro u h q0 q1
    have nx : (u ≠ j → D 597 u = 0 → D 588 j ≤ D 589 u) → hv (fun a => fX12_mayCome a 52 537 (nI j) x2 (nI u) D σ) Q := by
      intro q
      refine hv_up (fun _ => fX12_mayCome.eq_2 ..) ?_
      try simp only [↓reduceIte, Nat.reduceEqDiff, Option.bind_some, ao_let, n_ell]
      try simp (disch := first | omega | assumption) only [↓reduceIte, Nat.reduceEqDiff, Option.bind_some, ao_let, t_le, f_le, t_lt, f_lt, f_eq, u_eq, u_n1, u_n2, n_cl, n_lt, n_le, n_eq, n_ltl, n_llt, n_lel, n_lle, n_eql, n_leq, n_add, n_mul, n_sub, n_addl, n_ladd, n_mull, n_lmul, n_subl, Int32.reduceLT, Int32.reduceLE, Int32.reduceAdd, Int32.reduceSub, Int32.reduceMul, Int32.reduceToNatClampNeg, not_false_eq_true, not_true_eq_false, or_false, false_or, or_self, and_self, false_and, true_and, and_false, and_true, true_or, or_true, Nat.reduceAdd, Nat.reduceMul, Nat.reduceLT, Nat.reduceLeDiff, ne_eq, n_ell]
      refine ih (u + 1) (by omega) (fun ⟨i, h1, h2, h3⟩ => q0 ⟨i, by omega, h2, h3⟩) (fun hh => q1 (fun i h1 h2 h3 h4 => ?_))
      by_cases e : i = u
      · subst e; exact q h3 h4
      · exact hh i (by omega) h2 h3 h4
    refine hv_up (fun _ => fX12_mayCome.eq_2 ..) ?_
    try simp only [↓reduceIte, Nat.reduceEqDiff, Option.bind_some, ao_let, n_ell, hs, d76]
    try simp (disch := first | omega | assumption) only [↓reduceIte, Nat.reduceEqDiff, Option.bind_some, ao_let, t_le, f_le, t_lt, f_lt, f_eq, u_eq, u_n1, u_n2, n_cl, n_lt, n_le, n_eq, n_ltl, n_llt, n_lel, n_lle, n_eql, n_leq, n_add, n_mul, n_sub, n_addl, n_ladd, n_mull, n_lmul, n_subl, Int32.reduceLT, Int32.reduceLE, Int32.reduceAdd, Int32.reduceSub, Int32.reduceMul, Int32.reduceToNatClampNeg, not_false_eq_true, not_true_eq_false, or_false, false_or, or_self, and_self, false_and, true_and, and_false, and_true, true_or, or_true, Nat.reduceAdd, Nat.reduceMul, Nat.reduceLT, Nat.reduceLeDiff, ne_eq, n_ell, hs, d76]
    rcases hu u (by omega) with z | z
    · refine hv_ifT z ?_
      by_cases e : u = j
      · refine hv_ifT (by first | exact e | (rw [e])) (nx (fun q => absurd e q))
      · refine hv_ifF (by first | exact e | exact fun q => e ((n_eq (by omega) (by omega)).mp q)) ?_
        refine hv_if (fun e' => nx (fun _ _ => e')) (fun e' => hv_some (q0 ⟨u, Nat.le_refl _, by omega, e, z, e'⟩))
    · refine hv_ifF (by rw [z]; decide) ?_
      exact nx (fun _ q => by rw [z] at q; exact absurd q (by decide))
theorem d_mcB (hs : ShD σ) {j d : Nat} (hj : j < 14) (hd : d ≤ 14) (hf : ∀ p, p < 26 → D 592 (j * 26 + p) = 0 ∨ D 592 (j * 26 + p) = 1) {Q : Int32 × ao_M → Prop} : ∀ (s p : Nat), p + s = 26 → ((∃ p', p ≤ p' ∧ p' < 26 ∧ D 592 (j * 26 + p') = 1 ∧ ¬ D 590 (j * 26 + p') = D 596 (d * 26 + p')) → Q (0, D)) → ((∀ p', p ≤ p' → p' < 26 → D 592 (j * 26 + p') = 1 → D 590 (j * 26 + p') = D 596 (d * 26 + p')) → Q (1, D)) → hv (fun a => fX12_mayCome a 60 537 (nI j) (nI d) (nI p) D σ) Q := by
  intro s
  induction s with
  | zero =>
    intro p h q0 q1
    obtain rfl : p = 26 := by omega
    refine hv_up (fun _ => fX12_mayCome.eq_2 ..) ?_
    try simp only [↓reduceIte, Nat.reduceEqDiff, Option.bind_some, ao_let, n_ell, hs]
    try simp (disch := first | omega | assumption) only [↓reduceIte, Nat.reduceEqDiff, Option.bind_some, ao_let, t_le, f_le, t_lt, f_lt, f_eq, u_eq, u_n1, u_n2, n_cl, n_lt, n_le, n_eq, n_ltl, n_llt, n_lel, n_lle, n_eql, n_leq, n_add, n_mul, n_sub, n_addl, n_ladd, n_mull, n_lmul, n_subl, Int32.reduceLT, Int32.reduceLE, Int32.reduceAdd, Int32.reduceSub, Int32.reduceMul, Int32.reduceToNatClampNeg, not_false_eq_true, not_true_eq_false, or_false, false_or, or_self, and_self, false_and, true_and, and_false, and_true, true_or, or_true, Nat.reduceAdd, Nat.reduceMul, Nat.reduceLT, Nat.reduceLeDiff, ne_eq, n_ell, hs]
    exact hv_some (q1 (fun i h1 h2 => by omega))
  | succ s ih =>
    intro p h q0 q1
    have nx : (D 592 (j * 26 + p) = 1 → D 590 (j * 26 + p) = D 596 (d * 26 + p)) → hv (fun a => fX12_mayCome a 107 537 (nI j) (nI d) (nI p) D σ) Q := by
      intro q
      refine hv_up (fun _ => fX12_mayCome.eq_2 ..) ?_
      try simp only [↓reduceIte, Nat.reduceEqDiff, Option.bind_some, ao_let, n_ell]
      try simp (disch := first | omega | assumption) only [↓reduceIte, Nat.reduceEqDiff, Option.bind_some, ao_let, t_le, f_le, t_lt, f_lt, f_eq, u_eq, u_n1, u_n2, n_cl, n_lt, n_le, n_eq, n_ltl, n_llt, n_lel, n_lle, n_eql, n_leq, n_add, n_mul, n_sub, n_addl, n_ladd, n_mull, n_lmul, n_subl, Int32.reduceLT, Int32.reduceLE, Int32.reduceAdd, Int32.reduceSub, Int32.reduceMul, Int32.reduceToNatClampNeg, not_false_eq_true, not_true_eq_false, or_false, false_or, or_self, and_self, false_and, true_and, and_false, and_true, true_or, or_true, Nat.reduceAdd, Nat.reduceMul, Nat.reduceLT, Nat.reduceLeDiff, ne_eq, n_ell]
      refine ih (p + 1) (by omega) (fun ⟨i, h1, h2, h3⟩ => q0 ⟨i, by omega, h2, h3⟩) (fun hh => q1 (fun i h1 h2 h3 => ?_))
      by_cases e : i = p
      · subst e; exact q h3
      · exact hh i (by omega) h2 h3
    refine hv_up (fun _ => fX12_mayCome.eq_2 ..) ?_
    try simp only [↓reduceIte, Nat.reduceEqDiff, Option.bind_some, ao_let, n_ell, hs]
    try simp (disch := first | omega | assumption) only [↓reduceIte, Nat.reduceEqDiff, Option.bind_some, ao_let, t_le, f_le, t_lt, f_lt, f_eq, u_eq, u_n1, u_n2, n_cl, n_lt, n_le, n_eq, n_ltl, n_llt, n_lel, n_lle, n_eql, n_leq, n_add, n_mul, n_sub, n_addl, n_ladd, n_mull, n_lmul, n_subl, Int32.reduceLT, Int32.reduceLE, Int32.reduceAdd, Int32.reduceSub, Int32.reduceMul, Int32.reduceToNatClampNeg, not_false_eq_true, not_true_eq_false, or_false, false_or, or_self, and_self, false_and, true_and, and_false, and_true, true_or, or_true, Nat.reduceAdd, Nat.reduceMul, Nat.reduceLT, Nat.reduceLeDiff, ne_eq, n_ell, hs]
    rcases hf p (by omega) with z | z
    · refine hv_ifT z ?_
      exact nx (fun q => by rw [z] at q; exact absurd q (by decide))
    · refine hv_ifF (by rw [z]; decide) ?_
      refine hv_if (fun e' => nx (fun _ => e')) (fun e' => hv_some (q0 ⟨p, Nat.le_refl _, by omega, z, e'⟩))
end Ccd
