set_option linter.unusedSimpArgs false
set_option linter.unusedVariables false
/-! ===== what a level read ===== -/
/-- lv is a level -/
abbrev LvS (ρ : ao_H) (lv : Nat) : Prop := ρ.2.1 lv = 13 ∧ ρ.1 lv 0 = some (lv + 1) ∧ ρ.1 lv 1 = some (lv + 2) ∧ ρ.1 lv 2 = some (lv + 3) ∧ ρ.1 lv 5 = some (lv + 4) ∧ ρ.1 lv 7 = some (lv + 5) ∧
  ρ.2.1 (lv + 1) = 0 ∧ ρ.2.1 (lv + 2) = 0 ∧ ρ.2.1 (lv + 3) = 0 ∧ ρ.2.1 (lv + 4) = 0 ∧ ρ.2.1 (lv + 5) = 0 ∧ ρ.2.2.1 (lv + 1) = 26 ∧ ρ.2.2.1 (lv + 2) = 26 ∧ ρ.2.2.1 (lv + 3) = 26 ∧ ρ.2.2.1 (lv + 4) = 26 ∧ ρ.2.2.1 (lv + 5) = 26
theorem LvS_of {ρ : ao_H} (hb : ShB ρ) {t j : Nat} (ht : t < 6) (hj : j < 10) : LvS ρ (92 + 71 * t + 8 + 6 * j) := by
  obtain ⟨a0, a1, a2, a3, a4, a5, a6, a7, a8, a9, a10, a11, a12, a13, a14, a15, a16, a17, a18, a19, b0, b1, b2, b3, b4, b5, b6, b7, b8, b9, b10, b11, b12, b13, b14, b15, b16⟩ := hb
  exact ⟨b1 t ht j hj, b12 t ht j hj, b13 t ht j hj, b14 t ht j hj, b15 t ht j hj, b16 t ht j hj, b2 t ht j hj, b3 t ht j hj, b4 t ht j hj, b5 t ht j hj, b6 t ht j hj, b7 t ht j hj, b8 t ht j hj, b9 t ht j hj, b10 t ht j hj, b11 t ht j hj⟩
/-- the class's reads are ps, with values vs and versions ws -/
def RdC (C : ao_M) (lv : Nat) (ps : List Nat) (vs ws : Nat → Int32) : Prop := C lv 3 = nI ps.length ∧ (∀ (i : Nat) (h : i < ps.length), C (lv + 1) i = nI ps[i] ∧ C (lv + 2) i = vs ps[i] ∧ C (lv + 3) i = ws ps[i]) ∧
  (∀ p, p < 26 → bt (C lv 4) p = decide (p ∈ ps)) ∧ ps.Nodup ∧ ∀ p ∈ ps, p < 26
/-- the reference's, at x, in the order in which they were made -/
def RdD (D : ao_M) (x rc : Nat) (ps : List Nat) (vs ws : Nat → Int32) : Prop := ∃ o : Nat → Nat, (∀ p, p < 26 → D 577 (x * 26 + p) = if p ∈ ps then 1 else 0) ∧
  (∀ p ∈ ps, p < 26 ∧ D 579 (x * 26 + p) = vs p ∧ D 580 (x * 26 + p) = ws p ∧ D 581 (x * 26 + p) = nI (o p) ∧ o p < rc) ∧ ps.Pairwise (fun a b => o a < o b)
theorem RdC_len {C : ao_M} {lv : Nat} {ps : List Nat} {vs ws : Nat → Int32} (h : RdC C lv ps vs ws) : ps.length ≤ 26 := nodup_le 26 ps h.2.2.2.1 h.2.2.2.2
theorem RdC_mv {C C' : ao_M} {lv : Nat} {ps : List Nat} {vs ws : Nat → Int32} (h : RdC C lv ps vs ws) (h3 : C' lv 3 = C lv 3) (h4 : C' lv 4 = C lv 4) (h5 : ∀ i, C' (lv + 1) i = C (lv + 1) i ∧ C' (lv + 2) i = C (lv + 2) i ∧ C' (lv + 3) i = C (lv + 3) i) : RdC C' lv ps vs ws := by
  obtain ⟨a, b, c, d, e⟩ := h
  refine ⟨h3.trans a, fun i hi => ?_, fun p hp => by rw [h4]; exact c p hp, d, e⟩
  rw [(h5 i).1, (h5 i).2.1, (h5 i).2.2]
  exact b i hi
theorem RdD_mv {D D' : ao_M} {x rc rc' : Nat} {ps : List Nat} {vs ws : Nat → Int32} (h : RdD D x rc ps vs ws) (hr : rc ≤ rc') (h7 : ∀ p, p < 26 → D' 577 (x * 26 + p) = D 577 (x * 26 + p) ∧ D' 579 (x * 26 + p) = D 579 (x * 26 + p) ∧ D' 580 (x * 26 + p) = D 580 (x * 26 + p) ∧ D' 581 (x * 26 + p) = D 581 (x * 26 + p)) : RdD D' x rc' ps vs ws := by
  obtain ⟨o, a, b, c⟩ := h
  refine ⟨o, fun p hp => by rw [(h7 p hp).1]; exact a p hp, fun p hp => ?_, c⟩
  obtain ⟨b1, b2, b3, b4, b5⟩ := b p hp
  obtain ⟨e1, e2, e3, e4⟩ := h7 p b1
  exact ⟨b1, by rw [e2]; exact b2, by rw [e3]; exact b3, by rw [e4]; exact b4, by omega⟩
theorem RdC_nil {C : ao_M} {lv : Nat} {vs ws : Nat → Int32} (h3 : C lv 3 = 0) (h4 : C lv 4 = 0) : RdC C lv [] vs ws :=
  ⟨h3, fun i h => absurd h (by simp), fun p _ => by rw [h4, bt_0]; simp, List.nodup_nil, fun p h => absurd h (by simp)⟩
theorem RdD_nil {D : ao_M} {x rc : Nat} {vs ws : Nat → Int32} (h : ∀ p, p < 26 → D 577 (x * 26 + p) = 0) : RdD D x rc [] vs ws :=
  ⟨fun _ => 0, fun p hp => by rw [h p hp]; simp, fun p h => absurd h (by simp), List.Pairwise.nil⟩
/-- the class: read already -/
theorem ca_old {ρ : ao_H} {C : ao_M} {lv p : Nat} {ps : List Nat} {vs ws : Nat → Int32} {v w : Int32} (hl : LvS ρ lv) (h : RdC C lv ps vs ws) (hp : p < 26) (hm : p ∈ ps) : gX3_addRead lv (nI p) v w C ρ = some C := by
  unfold gX3_addRead
  have := h.2.2.1 p hp
  try simp only [↓reduceIte, Nat.reduceEqDiff, Option.bind_some, ao_let, hl, bt_z, this, hm]
  try simp (disch := first | omega | assumption) only [↓reduceIte, Nat.reduceEqDiff, Option.bind_some, ao_let, t_le, f_le, t_lt, f_lt, f_eq, u_eq, u_n1, u_n2, n_cl, n_lt, n_le, n_eq, n_ltl, n_llt, n_lel, n_lle, n_eql, n_leq, n_add, n_mul, n_sub, n_addl, n_ladd, n_mull, n_lmul, n_subl, Int32.reduceLT, Int32.reduceLE, Int32.reduceAdd, Int32.reduceSub, Int32.reduceMul, Int32.reduceToNatClampNeg, not_false_eq_true, not_true_eq_false, or_false, false_or, or_self, and_self, false_and, true_and, and_false, and_true, true_or, or_true, Nat.reduceAdd, Nat.reduceMul, Nat.reduceLT, Nat.reduceLeDiff, ne_eq, hl, bt_z, this, hm]
  try simp
/-- what a new read does to the class's numbers -/
def cAdd (lv p n : Nat) (v w : Int32) (C : ao_M) : ao_M := ao_u (ao_u (ao_u (ao_u (ao_u C lv 4 (C lv 4 ||| ((1 : Int32) <<< (nI p &&& 31)))) (lv + 1) n (nI p)) (lv + 2) n v) (lv + 3) n w) lv 3 (nI (n + 1))
theorem ca_new {ρ : ao_H} {C : ao_M} {lv p : Nat} {ps : List Nat} {vs ws : Nat → Int32} {v w : Int32} (hl : LvS ρ lv) (h : RdC C lv ps vs ws) (hp : p < 26) (hm : p ∉ ps) : gX3_addRead lv (nI p) v w C ρ = some (cAdd lv p ps.length v w C) ∧ RdC (cAdd lv p ps.length v w C) lv (ps ++ [p]) (updF vs p v) (updF ws p w) := by
  have hlen : ps.length < 26 := by
    have := nodup_le 26 (p :: ps) (List.nodup_cons.mpr ⟨hm, h.2.2.2.1⟩) (by intro x hx; rcases List.mem_cons.mp hx with rfl | hx; exact hp; exact h.2.2.2.2 x hx)
    simp at this
    omega
  have h3 := h.1
  have hb := h.2.2.1 p hp
  rw [decide_eq_false hm] at hb
  refine ⟨?_, ?_⟩
  · unfold gX3_addRead cAdd
    try simp only [↓reduceIte, Nat.reduceEqDiff, Option.bind_some, ao_let, hl, bt_z, hb, h3]
    try simp (disch := first | omega | assumption) only [↓reduceIte, Nat.reduceEqDiff, Option.bind_some, ao_let, t_le, f_le, t_lt, f_lt, f_eq, u_eq, u_n1, u_n2, n_cl, n_lt, n_le, n_eq, n_ltl, n_llt, n_lel, n_lle, n_eql, n_leq, n_add, n_mul, n_sub, n_addl, n_ladd, n_mull, n_lmul, n_subl, Int32.reduceLT, Int32.reduceLE, Int32.reduceAdd, Int32.reduceSub, Int32.reduceMul, Int32.reduceToNatClampNeg, not_false_eq_true, not_true_eq_false, or_false, false_or, or_self, and_self, false_and, true_and, and_false, and_true, true_or, or_true, Nat.reduceAdd, Nat.reduceMul, Nat.reduceLT, Nat.reduceLeDiff, ne_eq, hl, bt_z, hb, h3]
  · obtain ⟨a, b, c, d, e⟩ := h
    refine ⟨?_, ?_, ?_, ?_, ?_⟩
    · unfold cAdd
      simp [u_eq]
    · intro i hi
      unfold cAdd
      simp at hi
      by_cases e : i = ps.length
      · subst e
        try simp only [↓reduceIte, Nat.reduceEqDiff, Option.bind_some, ao_let, updF]
        try simp (disch := first | omega | assumption) only [↓reduceIte, Nat.reduceEqDiff, Option.bind_some, ao_let, t_le, f_le, t_lt, f_lt, f_eq, u_eq, u_n1, u_n2, n_cl, n_lt, n_le, n_eq, n_ltl, n_llt, n_lel, n_lle, n_eql, n_leq, n_add, n_mul, n_sub, n_addl, n_ladd, n_mull, n_lmul, n_subl, Int32.reduceLT, Int32.reduceLE, Int32.reduceAdd, Int32.reduceSub, Int32.reduceMul, Int32.reduceToNatClampNeg, not_false_eq_true, not_true_eq_false, or_false, false_or, or_self, and_self, false_and, true_and, and_false, and_true, true_or, or_true, Nat.reduceAdd, Nat.reduceMul, Nat.reduceLT, Nat.reduceLeDiff, ne_eq, updF]
        simp [u_eq]
      · have hi' : i < ps.length := by omega
        obtain ⟨b1, b2, b3⟩ := b i hi'
        have hne : ps[i] ≠ p := fun x => hm (x ▸ List.getElem_mem hi')
        rw [List.getElem_append_left hi']
        try simp only [↓reduceIte, Nat.reduceEqDiff, Option.bind_some, ao_let, updF, b1, b2, b3, hne]
        try simp (disch := first | omega | assumption) only [↓reduceIte, Nat.reduceEqDiff, Option.bind_some, ao_let, t_le, f_le, t_lt, f_lt, f_eq, u_eq, u_n1, u_n2, n_cl, n_lt, n_le, n_eq, n_ltl, n_llt, n_lel, n_lle, n_eql, n_leq, n_add, n_mul, n_sub, n_addl, n_ladd, n_mull, n_lmul, n_subl, Int32.reduceLT, Int32.reduceLE, Int32.reduceAdd, Int32.reduceSub, Int32.reduceMul, Int32.reduceToNatClampNeg, not_false_eq_true, not_true_eq_false, or_false, false_or, or_self, and_self, false_and, true_and, and_false, and_true, true_or, or_true, Nat.reduceAdd, Nat.reduceMul, Nat.reduceLT, Nat.reduceLeDiff, ne_eq, updF, b1, b2, b3, hne]
    · intro q hq
      unfold cAdd
      try simp only [↓reduceIte, Nat.reduceEqDiff, Option.bind_some, ao_let]
      try simp (disch := first | omega | assumption) only [↓reduceIte, Nat.reduceEqDiff, Option.bind_some, ao_let, t_le, f_le, t_lt, f_lt, f_eq, u_eq, u_n1, u_n2, n_cl, n_lt, n_le, n_eq, n_ltl, n_llt, n_lel, n_lle, n_eql, n_leq, n_add, n_mul, n_sub, n_addl, n_ladd, n_mull, n_lmul, n_subl, Int32.reduceLT, Int32.reduceLE, Int32.reduceAdd, Int32.reduceSub, Int32.reduceMul, Int32.reduceToNatClampNeg, not_false_eq_true, not_true_eq_false, or_false, false_or, or_self, and_self, false_and, true_and, and_false, and_true, true_or, or_true, Nat.reduceAdd, Nat.reduceMul, Nat.reduceLT, Nat.reduceLeDiff, ne_eq]
      rw [bt_or _ hq hp, c q hq]
      simp
    · rw [List.nodup_append]
      refine ⟨d, by simp, ?_⟩
      intro x hx y hy
      simp at hy
      subst hy
      exact fun e => hm (e ▸ hx)
    · intro q hq
      rcases List.mem_append.mp hq with hq | hq
      · exact e q hq
      · simp at hq
        omega
/-- what a new read does to the reference's -/
theorem RdD_add {D D' : ao_M} {x rc p : Nat} {ps : List Nat} {vs ws : Nat → Int32} {v w : Int32} (h : RdD D x rc ps vs ws) (hp : p < 26) (hm : p ∉ ps) (e1 : ∀ q, q < 26 → D' 577 (x * 26 + q) = if q = p then 1 else D 577 (x * 26 + q)) (e2 : ∀ q, q < 26 → D' 579 (x * 26 + q) = if q = p then v else D 579 (x * 26 + q)) (e3 : ∀ q, q < 26 → D' 580 (x * 26 + q) = if q = p then w else D 580 (x * 26 + q)) (e4 : ∀ q, q < 26 → D' 581 (x * 26 + q) = if q = p then nI rc else D 581 (x * 26 + q)) : RdD D' x (rc + 1) (ps ++ [p]) (updF vs p v) (updF ws p w) := by
  obtain ⟨o, a, b, c⟩ := h
  refine ⟨fun q => if q = p then rc else o q, ?_, ?_, ?_⟩
  · intro q hq
    rw [e1 q hq, a q hq]
    by_cases e : q = p
    · simp [e]
    · simp [e]
  · intro q hq
    by_cases e : q = p
    · subst e
      rw [e2 q hp, e3 q hp, e4 q hp]
      simp [updF, hp]
    · have hq' : q ∈ ps := by
        rcases List.mem_append.mp hq with hq | hq
        · exact hq
        · simp at hq; exact absurd hq e
      obtain ⟨b1, b2, b3, b4, b5⟩ := b q hq'
      rw [e2 q b1, e3 q b1, e4 q b1]
      simp [updF, e, b1, b2, b3, b4]
      omega
  · rw [List.pairwise_append]
    refine ⟨?_, by simp, ?_⟩
    · refine c.imp_of_mem ?_
      intro y z hy hz hyz
      have : y ≠ p := fun e => hm (e ▸ hy)
      have : z ≠ p := fun e => hm (e ▸ hz)
      simp [*]
    · intro y hy z hz
      simp at hz
      subst hz
      have : y ≠ z := fun e => hm (e ▸ hy)
      simp [this]
      exact (b y hy).2.2.2.2
