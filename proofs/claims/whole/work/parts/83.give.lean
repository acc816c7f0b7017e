set_option linter.unusedSimpArgs false
set_option linter.unusedVariables false
/-! ===== reads go to the level around ===== -/
/-- the reference looks for the read that was made first -/
theorem gv_best {σ : ao_H} (hs : ShD σ) {t l : Nat} (ht : t < 6) (hl : l < 12) {D : ao_M} {rs : List Nat} {o : Nat → Nat} (hf : ∀ p, p < 26 → D 577 ((t * 12 + l) * 26 + p) = if p ∈ rs then 1 else 0) (ho : ∀ p ∈ rs, p < 26 ∧ D 581 ((t * 12 + l) * 26 + p) = nI (o p) ∧ o p < 2147483648) {Q : ao_M → Prop} :
    ∀ (m p : Nat) (b : Int32), p + m = 26 → ((b = -1 ∧ ∀ q ∈ rs, p ≤ q) ∨ ∃ q ∈ rs, q < p ∧ b = nI q ∧ ∀ q' ∈ rs, q' < p → o q ≤ o q') →
    (∀ b, ((b = -1 ∧ rs = []) ∨ ∃ q ∈ rs, b = nI q ∧ ∀ q' ∈ rs, o q ≤ o q') → hv (fun n => fX12_giveReads n 10 537 (nI t) (nI l) b (nI 26) D σ) Q) → hv (fun n => fX12_giveReads n 10 537 (nI t) (nI l) b (nI p) D σ) Q := by
  intro m
  induction m with
  | zero =>
    intro p b h hb q
    obtain rfl : p = 26 := by omega
    refine q b ?_
    rcases hb with ⟨h1, h2⟩ | ⟨q, h1, h2, h3, h4⟩
    · refine Or.inl ⟨h1, ?_⟩
      cases rs with
      | nil => rfl
      | cons a r => exact absurd (h2 a (by simp)) (by have := (ho a (by simp)).1; omega)
    · exact Or.inr ⟨q, h1, h3, fun q' hq => h4 q' hq (ho q' hq).1⟩
  | succ m ih =>
    intro p b h hb q
    refine hv_up (fun _ => fX12_giveReads.eq_2 ..) ?_
    try simp only [↓reduceIte, Nat.reduceEqDiff, Option.bind_some, ao_let, hs, gX12_cell]
    try simp (disch := first | omega | assumption) only [↓reduceIte, Nat.reduceEqDiff, Option.bind_some, ao_let, t_le, f_le, t_lt, f_lt, f_eq, u_eq, u_n1, u_n2, n_cl, n_lt, n_le, n_eq, n_ltl, n_llt, n_lel, n_lle, n_eql, n_leq, n_add, n_mul, n_sub, n_addl, n_ladd, n_mull, n_lmul, n_subl, Int32.reduceLT, Int32.reduceLE, Int32.reduceAdd, Int32.reduceSub, Int32.reduceMul, Int32.reduceToNatClampNeg, not_false_eq_true, not_true_eq_false, or_false, false_or, or_self, and_self, false_and, true_and, and_false, and_true, true_or, or_true, Nat.reduceAdd, Nat.reduceMul, Nat.reduceLT, Nat.reduceLeDiff, ne_eq, hs, gX12_cell]
    have hfp := hf p (by omega)
    by_cases hm : p ∈ rs
    · rw [if_pos hm] at hfp
      simp only [hfp, show ((1 : Int32) = 0) = False from by decide, ↓reduceIte]
      obtain ⟨_, op, _⟩ := ho p hm
      rcases hb with ⟨rfl, h2⟩ | ⟨r, h1, h2, rfl, h4⟩
      · simp only [n_m1, ↓reduceIte]
        refine hv_up (fun _ => fX12_giveReads.eq_2 ..) ?_
        try simp only [↓reduceIte, Nat.reduceEqDiff, Option.bind_some, ao_let, hs]
        try simp (disch := first | omega | assumption) only [↓reduceIte, Nat.reduceEqDiff, Option.bind_some, ao_let, t_le, f_le, t_lt, f_lt, f_eq, u_eq, u_n1, u_n2, n_cl, n_lt, n_le, n_eq, n_ltl, n_llt, n_lel, n_lle, n_eql, n_leq, n_add, n_mul, n_sub, n_addl, n_ladd, n_mull, n_lmul, n_subl, Int32.reduceLT, Int32.reduceLE, Int32.reduceAdd, Int32.reduceSub, Int32.reduceMul, Int32.reduceToNatClampNeg, not_false_eq_true, not_true_eq_false, or_false, false_or, or_self, and_self, false_and, true_and, and_false, and_true, true_or, or_true, Nat.reduceAdd, Nat.reduceMul, Nat.reduceLT, Nat.reduceLeDiff, ne_eq, hs]
        refine hv_up (fun _ => fX12_giveReads.eq_2 ..) ?_
        try simp only [↓reduceIte, Nat.reduceEqDiff, Option.bind_some, ao_let, hs]
        try simp (disch := first | omega | assumption) only [↓reduceIte, Nat.reduceEqDiff, Option.bind_some, ao_let, t_le, f_le, t_lt, f_lt, f_eq, u_eq, u_n1, u_n2, n_cl, n_lt, n_le, n_eq, n_ltl, n_llt, n_lel, n_lle, n_eql, n_leq, n_add, n_mul, n_sub, n_addl, n_ladd, n_mull, n_lmul, n_subl, Int32.reduceLT, Int32.reduceLE, Int32.reduceAdd, Int32.reduceSub, Int32.reduceMul, Int32.reduceToNatClampNeg, not_false_eq_true, not_true_eq_false, or_false, false_or, or_self, and_self, false_and, true_and, and_false, and_true, true_or, or_true, Nat.reduceAdd, Nat.reduceMul, Nat.reduceLT, Nat.reduceLeDiff, ne_eq, hs]
        refine ih (p + 1) (nI p) (by omega) (Or.inr ⟨p, hm, by omega, rfl, fun q' h5 h6 => ?_⟩) q
        have := h2 q' h5
        obtain rfl : q' = p := by omega
        omega
      · obtain ⟨hr, or, _⟩ := ho r h1
        try simp only [↓reduceIte, Nat.reduceEqDiff, Option.bind_some, ao_let, hs, gX12_cell]
        try simp (disch := first | omega | assumption) only [↓reduceIte, Nat.reduceEqDiff, Option.bind_some, ao_let, t_le, f_le, t_lt, f_lt, f_eq, u_eq, u_n1, u_n2, n_cl, n_lt, n_le, n_eq, n_ltl, n_llt, n_lel, n_lle, n_eql, n_leq, n_add, n_mul, n_sub, n_addl, n_ladd, n_mull, n_lmul, n_subl, Int32.reduceLT, Int32.reduceLE, Int32.reduceAdd, Int32.reduceSub, Int32.reduceMul, Int32.reduceToNatClampNeg, not_false_eq_true, not_true_eq_false, or_false, false_or, or_self, and_self, false_and, true_and, and_false, and_true, true_or, or_true, Nat.reduceAdd, Nat.reduceMul, Nat.reduceLT, Nat.reduceLeDiff, ne_eq, hs, gX12_cell]
        rw [op, or]
        by_cases hle : o r ≤ o p
        · simp only [n_le (show o r < 2147483648 by omega) (show o p < 2147483648 by omega), hle, ↓reduceIte]
          refine hv_up (fun _ => fX12_giveReads.eq_2 ..) ?_
          try simp only [↓reduceIte, Nat.reduceEqDiff, Option.bind_some, ao_let, hs]
          try simp (disch := first | omega | assumption) only [↓reduceIte, Nat.reduceEqDiff, Option.bind_some, ao_let, t_le, f_le, t_lt, f_lt, f_eq, u_eq, u_n1, u_n2, n_cl, n_lt, n_le, n_eq, n_ltl, n_llt, n_lel, n_lle, n_eql, n_leq, n_add, n_mul, n_sub, n_addl, n_ladd, n_mull, n_lmul, n_subl, Int32.reduceLT, Int32.reduceLE, Int32.reduceAdd, Int32.reduceSub, Int32.reduceMul, Int32.reduceToNatClampNeg, not_false_eq_true, not_true_eq_false, or_false, false_or, or_self, and_self, false_and, true_and, and_false, and_true, true_or, or_true, Nat.reduceAdd, Nat.reduceMul, Nat.reduceLT, Nat.reduceLeDiff, ne_eq, hs]
          refine ih (p + 1) (nI r) (by omega) (Or.inr ⟨r, h1, by omega, rfl, fun q' h5 h6 => ?_⟩) q
          by_cases e : q' = p
          · subst e; exact hle
          · exact h4 q' h5 (by omega)
        · simp only [n_le (show o r < 2147483648 by omega) (show o p < 2147483648 by omega), hle, ↓reduceIte]
          refine hv_up (fun _ => fX12_giveReads.eq_2 ..) ?_
          try simp only [↓reduceIte, Nat.reduceEqDiff, Option.bind_some, ao_let, hs]
          try simp (disch := first | omega | assumption) only [↓reduceIte, Nat.reduceEqDiff, Option.bind_some, ao_let, t_le, f_le, t_lt, f_lt, f_eq, u_eq, u_n1, u_n2, n_cl, n_lt, n_le, n_eq, n_ltl, n_llt, n_lel, n_lle, n_eql, n_leq, n_add, n_mul, n_sub, n_addl, n_ladd, n_mull, n_lmul, n_subl, Int32.reduceLT, Int32.reduceLE, Int32.reduceAdd, Int32.reduceSub, Int32.reduceMul, Int32.reduceToNatClampNeg, not_false_eq_true, not_true_eq_false, or_false, false_or, or_self, and_self, false_and, true_and, and_false, and_true, true_or, or_true, Nat.reduceAdd, Nat.reduceMul, Nat.reduceLT, Nat.reduceLeDiff, ne_eq, hs]
          refine hv_up (fun _ => fX12_giveReads.eq_2 ..) ?_
          try simp only [↓reduceIte, Nat.reduceEqDiff, Option.bind_some, ao_let, hs]
          try simp (disch := first | omega | assumption) only [↓reduceIte, Nat.reduceEqDiff, Option.bind_some, ao_let, t_le, f_le, t_lt, f_lt, f_eq, u_eq, u_n1, u_n2, n_cl, n_lt, n_le, n_eq, n_ltl, n_llt, n_lel, n_lle, n_eql, n_leq, n_add, n_mul, n_sub, n_addl, n_ladd, n_mull, n_lmul, n_subl, Int32.reduceLT, Int32.reduceLE, Int32.reduceAdd, Int32.reduceSub, Int32.reduceMul, Int32.reduceToNatClampNeg, not_false_eq_true, not_true_eq_false, or_false, false_or, or_self, and_self, false_and, true_and, and_false, and_true, true_or, or_true, Nat.reduceAdd, Nat.reduceMul, Nat.reduceLT, Nat.reduceLeDiff, ne_eq, hs]
          refine ih (p + 1) (nI p) (by omega) (Or.inr ⟨p, hm, by omega, rfl, fun q' h5 h6 => ?_⟩) q
          by_cases e : q' = p
          · subst e; omega
          · have := h4 q' h5 (by omega)
            omega
    · rw [if_neg hm] at hfp
      simp only [hfp, ↓reduceIte]
      refine hv_up (fun _ => fX12_giveReads.eq_2 ..) ?_
      try simp only [↓reduceIte, Nat.reduceEqDiff, Option.bind_some, ao_let, hs]
      try simp (disch := first | omega | assumption) only [↓reduceIte, Nat.reduceEqDiff, Option.bind_some, ao_let, t_le, f_le, t_lt, f_lt, f_eq, u_eq, u_n1, u_n2, n_cl, n_lt, n_le, n_eq, n_ltl, n_llt, n_lel, n_lle, n_eql, n_leq, n_add, n_mul, n_sub, n_addl, n_ladd, n_mull, n_lmul, n_subl, Int32.reduceLT, Int32.reduceLE, Int32.reduceAdd, Int32.reduceSub, Int32.reduceMul, Int32.reduceToNatClampNeg, not_false_eq_true, not_true_eq_false, or_false, false_or, or_self, and_self, false_and, true_and, and_false, and_true, true_or, or_true, Nat.reduceAdd, Nat.reduceMul, Nat.reduceLT, Nat.reduceLeDiff, ne_eq, hs]
      refine ih (p + 1) b (by omega) ?_ q
      rcases hb with ⟨h1, h2⟩ | ⟨r, h1, h2, h3, h4⟩
      · refine Or.inl ⟨h1, fun q' hq => ?_⟩
        have := h2 q' hq
        have : q' ≠ p := fun e => hm (e ▸ hq)
        omega
      · refine Or.inr ⟨r, h1, by omega, h3, fun q' hq hlt => ?_⟩
        have : q' ≠ p := fun e => hm (e ▸ hq)
        exact h4 q' hq (by omega)
/-- the first of an ordered list is the least -/
theorem pw_least {o : Nat → Nat} {a : Nat} {r : List Nat} (h : (a :: r).Pairwise (fun x y => o x < o y)) {q : Nat} (hq : q ∈ a :: r) (hm : ∀ q' ∈ a :: r, o q ≤ o q') : q = a := by
  rcases List.mem_cons.mp hq with e | e
  · exact e
  · have h1 := (List.pairwise_cons.mp h).1 q e
    have h2 := hm a (by simp)
    omega
def givP (C D : ao_M) (lv lv' x x' rc mm : Nat) (ps' : List Nat) (C' D' : ao_M) : Prop := ∃ ps'' vs'' ws'' rc'', RdC C' lv [] vs'' ws'' ∧ RdC C' lv' ps'' vs'' ws'' ∧ RdD D' x rc'' [] vs'' ws'' ∧ RdD D' x' rc'' ps'' vs'' ws'' ∧ D' 537 64 = nI rc'' ∧ rc'' + ps'.length = rc + ps''.length ∧ (rc ≤ rc'' ∧ rc'' ≤ rc + mm) ∧
  (∀ a i, ¬ ((a = lv ∨ a = lv') ∧ (i = 3 ∨ i = 4)) → ¬ (lv' < a ∧ a ≤ lv' + 3) → C' a i = C a i) ∧
  (∀ a i, ¬ (a = 537 ∧ i = 64) → ¬ (a = 577 ∧ x * 26 ≤ i ∧ i < x * 26 + 26) → ¬ ((a = 577 ∨ a = 579 ∨ a = 580 ∨ a = 581) ∧ x' * 26 ≤ i ∧ i < x' * 26 + 26) → D' a i = D a i)
theorem give_loop {ρ σ : ao_H} {lv lv' t l : Nat} {ps : List Nat} {vs ws : Nat → Int32} (h1 : LvS ρ lv) (h1' : LvS ρ lv') (elv : lv = lv' + 6) (hs : ShD σ) (ht : t < 6) (hl1 : 1 ≤ l) (hl : l < 12) : ∀ (m i : Nat) (C D : ao_M) (ps' : List Nat) (vs' ws' : Nat → Int32) (rc : Nat), i + m = ps.length →
    RdC C lv ps vs ws → RdC C lv' ps' vs' ws' → RdD D (t * 12 + l) rc (ps.drop i) vs ws → RdD D (t * 12 + (l - 1)) rc ps' vs' ws' → D 537 64 = nI rc → rc + m < 2147483648 →
    hv (fun n => fX3_takeReadsOf n 2 lv' lv (nI i) C ρ) (fun C' => hv (fun n => fX12_giveReads n 5 537 (nI t) (nI l) 0 0 D σ) (fun D' => givP C D lv lv' (t * 12 + l) (t * 12 + (l - 1)) rc m ps' C' D')) := by
  intro m
  induction m with
  | zero =>
    intro i C D ps' vs' ws' rc h rC rC' rD rD' hrc hb
    have hlen := RdC_len rC
    have l3 := rC.1
    refine hv_up (fun _ => fX3_takeReadsOf.eq_2 ..) ?_
    try simp only [↓reduceIte, Nat.reduceEqDiff, Option.bind_some, ao_let, h1, h1', l3]
    try simp (disch := first | omega | assumption) only [↓reduceIte, Nat.reduceEqDiff, Option.bind_some, ao_let, t_le, f_le, t_lt, f_lt, f_eq, u_eq, u_n1, u_n2, n_cl, n_lt, n_le, n_eq, n_ltl, n_llt, n_lel, n_lle, n_eql, n_leq, n_add, n_mul, n_sub, n_addl, n_ladd, n_mull, n_lmul, n_subl, Int32.reduceLT, Int32.reduceLE, Int32.reduceAdd, Int32.reduceSub, Int32.reduceMul, Int32.reduceToNatClampNeg, not_false_eq_true, not_true_eq_false, or_false, false_or, or_self, and_self, false_and, true_and, and_false, and_true, true_or, or_true, Nat.reduceAdd, Nat.reduceMul, Nat.reduceLT, Nat.reduceLeDiff, ne_eq, h1, h1', l3]
    refine hv_up (fun _ => fX3_takeReadsOf.eq_2 ..) ?_
    try simp only [↓reduceIte, Nat.reduceEqDiff, Option.bind_some, ao_let, h1, h1', gX3_forgetReads]
    try simp (disch := first | omega | assumption) only [↓reduceIte, Nat.reduceEqDiff, Option.bind_some, ao_let, t_le, f_le, t_lt, f_lt, f_eq, u_eq, u_n1, u_n2, n_cl, n_lt, n_le, n_eq, n_ltl, n_llt, n_lel, n_lle, n_eql, n_leq, n_add, n_mul, n_sub, n_addl, n_ladd, n_mull, n_lmul, n_subl, Int32.reduceLT, Int32.reduceLE, Int32.reduceAdd, Int32.reduceSub, Int32.reduceMul, Int32.reduceToNatClampNeg, not_false_eq_true, not_true_eq_false, or_false, false_or, or_self, and_self, false_and, true_and, and_false, and_true, true_or, or_true, Nat.reduceAdd, Nat.reduceMul, Nat.reduceLT, Nat.reduceLeDiff, ne_eq, h1, h1', gX3_forgetReads]
    refine hv_some ?_
    rw [List.drop_eq_nil_of_le (by omega)] at rD
    obtain ⟨o, o1, o2, o3⟩ := rD
    refine hv_up (fun _ => fX12_giveReads.eq_2 ..) ?_
    try simp only [↓reduceIte, Nat.reduceEqDiff, Option.bind_some, ao_let, hs]
    try simp (disch := first | omega | assumption) only [↓reduceIte, Nat.reduceEqDiff, Option.bind_some, ao_let, t_le, f_le, t_lt, f_lt, f_eq, u_eq, u_n1, u_n2, n_cl, n_lt, n_le, n_eq, n_ltl, n_llt, n_lel, n_lle, n_eql, n_leq, n_add, n_mul, n_sub, n_addl, n_ladd, n_mull, n_lmul, n_subl, Int32.reduceLT, Int32.reduceLE, Int32.reduceAdd, Int32.reduceSub, Int32.reduceMul, Int32.reduceToNatClampNeg, not_false_eq_true, not_true_eq_false, or_false, false_or, or_self, and_self, false_and, true_and, and_false, and_true, true_or, or_true, Nat.reduceAdd, Nat.reduceMul, Nat.reduceLT, Nat.reduceLeDiff, ne_eq, hs]
    refine gv_best hs ht hl (rs := []) (o := fun _ => 0) o1 (fun p hp => absurd hp (by simp)) 26 0 (-1) rfl (Or.inl ⟨rfl, fun q hq => absurd hq (by simp)⟩) ?_
    intro b hbb
    rcases hbb with ⟨rfl, _⟩ | ⟨q, hq, _⟩
    · refine hv_up (fun _ => fX12_giveReads.eq_2 ..) ?_
      try simp only [↓reduceIte, Nat.reduceEqDiff, Option.bind_some, ao_let, hs, n_m0]
      try simp (disch := first | omega | assumption) only [↓reduceIte, Nat.reduceEqDiff, Option.bind_some, ao_let, t_le, f_le, t_lt, f_lt, f_eq, u_eq, u_n1, u_n2, n_cl, n_lt, n_le, n_eq, n_ltl, n_llt, n_lel, n_lle, n_eql, n_leq, n_add, n_mul, n_sub, n_addl, n_ladd, n_mull, n_lmul, n_subl, Int32.reduceLT, Int32.reduceLE, Int32.reduceAdd, Int32.reduceSub, Int32.reduceMul, Int32.reduceToNatClampNeg, not_false_eq_true, not_true_eq_false, or_false, false_or, or_self, and_self, false_and, true_and, and_false, and_true, true_or, or_true, Nat.reduceAdd, Nat.reduceMul, Nat.reduceLT, Nat.reduceLeDiff, ne_eq, hs, n_m0]
      refine hv_some ⟨ps', vs', ws', rc, RdC_nil (by simp (disch := omega) only [u_eq, u_n2]) (by simp (disch := omega) only [u_eq, u_n2]), RdC_mv rC' ?_ ?_ ?_, ⟨o, o1, fun p hp => absurd hp (by simp), List.Pairwise.nil⟩, rD', hrc, rfl, ⟨Nat.le_refl _, by omega⟩, ?_, fun _ _ _ _ _ => rfl⟩
      · simp (disch := omega) only [u_n1]
      · simp (disch := omega) only [u_n1]
      · intro i
        simp (disch := omega) only [u_n1, and_self]
      · intro a i h1 h2
        simp (disch := omega) only [u_ne]
    · exact absurd hq (by simp)
  | succ m ih =>
    intro i C D ps' vs' ws' rc h rC rC' rD rD' hrc hb
    have hlen := RdC_len rC
    have hlen' := RdC_len rC'
    have l3 := rC.1
    have hi : i < ps.length := by omega
    obtain ⟨b1, b2, b3⟩ := rC.2.1 i hi
    have hp26 : ps[i] < 26 := rC.2.2.2.2 _ (List.getElem_mem hi)
    refine hv_up (fun _ => fX3_takeReadsOf.eq_2 ..) ?_
    try simp only [↓reduceIte, Nat.reduceEqDiff, Option.bind_some, ao_let, h1, h1', l3, b1, b2, b3]
    try simp (disch := first | omega | assumption) only [↓reduceIte, Nat.reduceEqDiff, Option.bind_some, ao_let, t_le, f_le, t_lt, f_lt, f_eq, u_eq, u_n1, u_n2, n_cl, n_lt, n_le, n_eq, n_ltl, n_llt, n_lel, n_lle, n_eql, n_leq, n_add, n_mul, n_sub, n_addl, n_ladd, n_mull, n_lmul, n_subl, Int32.reduceLT, Int32.reduceLE, Int32.reduceAdd, Int32.reduceSub, Int32.reduceMul, Int32.reduceToNatClampNeg, not_false_eq_true, not_true_eq_false, or_false, false_or, or_self, and_self, false_and, true_and, and_false, and_true, true_or, or_true, Nat.reduceAdd, Nat.reduceMul, Nat.reduceLT, Nat.reduceLeDiff, ne_eq, h1, h1', l3, b1, b2, b3]
    rw [List.drop_eq_getElem_cons hi] at rD
    -- one step of the reference
    have rstep : ∀ {Q : ao_M → Prop}, (∀ D1, D1 = ao_u D 577 ((t * 12 + l) * 26 + ps[i]) 0 → (ps[i] ∈ ps' → hv (fun n => fX12_giveReads n 5 537 (nI t) (nI l) 0 0 D1 σ) Q) ∧ (ps[i] ∉ ps' → ∀ D2, D2 = ao_u (ao_u (ao_u (ao_u (ao_u D1 577 ((t * 12 + (l - 1)) * 26 + ps[i]) 1) 579 ((t * 12 + (l - 1)) * 26 + ps[i]) (vs ps[i])) 580 ((t * 12 + (l - 1)) * 26 + ps[i]) (ws ps[i])) 581 ((t * 12 + (l - 1)) * 26 + ps[i]) (nI rc)) 537 64 (nI (rc + 1)) → hv (fun n => fX12_giveReads n 5 537 (nI t) (nI l) 0 0 D2 σ) Q)) → hv (fun n => fX12_giveReads n 5 537 (nI t) (nI l) 0 0 D σ) Q := by
      intro Q hQ
      obtain ⟨o, o1, o2, o3⟩ := rD
      refine hv_up (fun _ => fX12_giveReads.eq_2 ..) ?_
      try simp only [↓reduceIte, Nat.reduceEqDiff, Option.bind_some, ao_let, hs]
      try simp (disch := first | omega | assumption) only [↓reduceIte, Nat.reduceEqDiff, Option.bind_some, ao_let, t_le, f_le, t_lt, f_lt, f_eq, u_eq, u_n1, u_n2, n_cl, n_lt, n_le, n_eq, n_ltl, n_llt, n_lel, n_lle, n_eql, n_leq, n_add, n_mul, n_sub, n_addl, n_ladd, n_mull, n_lmul, n_subl, Int32.reduceLT, Int32.reduceLE, Int32.reduceAdd, Int32.reduceSub, Int32.reduceMul, Int32.reduceToNatClampNeg, not_false_eq_true, not_true_eq_false, or_false, false_or, or_self, and_self, false_and, true_and, and_false, and_true, true_or, or_true, Nat.reduceAdd, Nat.reduceMul, Nat.reduceLT, Nat.reduceLeDiff, ne_eq, hs]
      refine gv_best hs ht hl (rs := ps[i] :: ps.drop (i + 1)) (o := o) o1 (fun p hp => ⟨(o2 p hp).1, (o2 p hp).2.2.2.1, by have := (o2 p hp).2.2.2.2; omega⟩) 26 0 (-1) rfl (Or.inl ⟨rfl, fun q hq => by omega⟩) ?_
      intro b hbb
      rcases hbb with ⟨_, hn⟩ | ⟨q, hq, rfl, hmin⟩
      · exact absurd hn (List.cons_ne_nil _ _)
      · obtain rfl := pw_least o3 hq hmin
        obtain ⟨hD1a, hD1b⟩ := hQ _ rfl
        obtain ⟨_, v1, v2, _, _⟩ := o2 _ (List.mem_cons_self)
        obtain ⟨o', p1, p2, p3⟩ := rD'
        have hto := p1 ps[i] hp26
        refine hv_up (fun _ => fX12_giveReads.eq_2 ..) ?_
        try simp only [↓reduceIte, Nat.reduceEqDiff, Option.bind_some, ao_let, hs, gX12_cell]
        try simp (disch := first | omega | assumption) only [↓reduceIte, Nat.reduceEqDiff, Option.bind_some, ao_let, t_le, f_le, t_lt, f_lt, f_eq, u_eq, u_n1, u_n2, n_cl, n_lt, n_le, n_eq, n_ltl, n_llt, n_lel, n_lle, n_eql, n_leq, n_add, n_mul, n_sub, n_addl, n_ladd, n_mull, n_lmul, n_subl, Int32.reduceLT, Int32.reduceLE, Int32.reduceAdd, Int32.reduceSub, Int32.reduceMul, Int32.reduceToNatClampNeg, not_false_eq_true, not_true_eq_false, or_false, false_or, or_self, and_self, false_and, true_and, and_false, and_true, true_or, or_true, Nat.reduceAdd, Nat.reduceMul, Nat.reduceLT, Nat.reduceLeDiff, ne_eq, hs, gX12_cell]
        by_cases hm : ps[i] ∈ ps'
        · rw [if_pos hm] at hto
          try simp only [↓reduceIte, Nat.reduceEqDiff, Option.bind_some, ao_let, hto, show ((1 : Int32) = 0) = False from by decide]
          try simp (disch := first | omega | assumption) only [↓reduceIte, Nat.reduceEqDiff, Option.bind_some, ao_let, t_le, f_le, t_lt, f_lt, f_eq, u_eq, u_n1, u_n2, n_cl, n_lt, n_le, n_eq, n_ltl, n_llt, n_lel, n_lle, n_eql, n_leq, n_add, n_mul, n_sub, n_addl, n_ladd, n_mull, n_lmul, n_subl, Int32.reduceLT, Int32.reduceLE, Int32.reduceAdd, Int32.reduceSub, Int32.reduceMul, Int32.reduceToNatClampNeg, not_false_eq_true, not_true_eq_false, or_false, false_or, or_self, and_self, false_and, true_and, and_false, and_true, true_or, or_true, Nat.reduceAdd, Nat.reduceMul, Nat.reduceLT, Nat.reduceLeDiff, ne_eq, hto, show ((1 : Int32) = 0) = False from by decide]
          exact hD1a hm
        · rw [if_neg hm] at hto
          try simp only [↓reduceIte, Nat.reduceEqDiff, Option.bind_some, ao_let, hs, hto, v1, v2, hrc]
          try simp (disch := first | omega | assumption) only [↓reduceIte, Nat.reduceEqDiff, Option.bind_some, ao_let, t_le, f_le, t_lt, f_lt, f_eq, u_eq, u_n1, u_n2, n_cl, n_lt, n_le, n_eq, n_ltl, n_llt, n_lel, n_lle, n_eql, n_leq, n_add, n_mul, n_sub, n_addl, n_ladd, n_mull, n_lmul, n_subl, Int32.reduceLT, Int32.reduceLE, Int32.reduceAdd, Int32.reduceSub, Int32.reduceMul, Int32.reduceToNatClampNeg, not_false_eq_true, not_true_eq_false, or_false, false_or, or_self, and_self, false_and, true_and, and_false, and_true, true_or, or_true, Nat.reduceAdd, Nat.reduceMul, Nat.reduceLT, Nat.reduceLeDiff, ne_eq, hs, hto, v1, v2, hrc]
          exact hD1b hm _ rfl
    by_cases hm : ps[i] ∈ ps'
    · rw [ca_old h1' rC' hp26 hm]
      try simp only [↓reduceIte, Nat.reduceEqDiff, Option.bind_some, ao_let]
      try simp (disch := first | omega | assumption) only [↓reduceIte, Nat.reduceEqDiff, Option.bind_some, ao_let, t_le, f_le, t_lt, f_lt, f_eq, u_eq, u_n1, u_n2, n_cl, n_lt, n_le, n_eq, n_ltl, n_llt, n_lel, n_lle, n_eql, n_leq, n_add, n_mul, n_sub, n_addl, n_ladd, n_mull, n_lmul, n_subl, Int32.reduceLT, Int32.reduceLE, Int32.reduceAdd, Int32.reduceSub, Int32.reduceMul, Int32.reduceToNatClampNeg, not_false_eq_true, not_true_eq_false, or_false, false_or, or_self, and_self, false_and, true_and, and_false, and_true, true_or, or_true, Nat.reduceAdd, Nat.reduceMul, Nat.reduceLT, Nat.reduceLeDiff, ne_eq]
      have rD1 : RdD (ao_u D 577 ((t * 12 + l) * 26 + ps[i]) 0) (t * 12 + l) rc (ps.drop (i + 1)) vs ws := by
        obtain ⟨o, o1, o2, o3⟩ := rD
        have hnd : ps[i] ∉ ps.drop (i + 1) := by
          have := rC.2.2.2.1
          rw [← List.take_append_drop i ps, List.drop_eq_getElem_cons hi] at this
          have := (List.nodup_append.mp this).2.1
          exact (List.nodup_cons.mp this).1
        refine ⟨o, fun p hp => ?_, fun p hp => ?_, (List.pairwise_cons.mp o3).2⟩
        · by_cases e : p = ps[i]
          · subst e
            rw [u_eq, if_neg hnd]
          · rw [u_n2 (by omega), o1 p hp]
            simp only [List.mem_cons, e, false_or]
        · have := o2 p (List.mem_cons_of_mem _ hp)
          simp (disch := omega) only [u_n1]
          exact this
      have rD1' : RdD (ao_u D 577 ((t * 12 + l) * 26 + ps[i]) 0) (t * 12 + (l - 1)) rc ps' vs' ws' := RdD_mv rD' (Nat.le_refl _) (fun p hp => by simp (disch := omega) only [u_n1, u_n2, and_self])
      refine hv_mono (ih (i + 1) C _ ps' vs' ws' rc (by omega) rC rC' rD1 rD1' (by rw [u_n1 (by omega)]; exact hrc) (by omega)) ?_
      intro C' hC'
      refine rstep ?_
      rintro D1 rfl
      refine ⟨fun _ => hv_mono hC' ?_, fun hn => absurd hm hn⟩
      rintro D' ⟨ps'', vs'', ws'', rc'', g1, g2, g3, g4, g5, g6, g6', g7, g8⟩
      refine ⟨ps'', vs'', ws'', rc'', g1, g2, g3, g4, g5, g6, ⟨g6'.1, by omega⟩, g7, fun a j h1 h2 h3 => ?_⟩
      rw [g8 a j h1 h2 h3, u_ne (by omega)]
    · obtain ⟨ea, rC1'⟩ := ca_new (v := vs ps[i]) (w := ws ps[i]) h1' rC' hp26 hm
      rw [ea]
      try simp only [↓reduceIte, Nat.reduceEqDiff, Option.bind_some, ao_let]
      try simp (disch := first | omega | assumption) only [↓reduceIte, Nat.reduceEqDiff, Option.bind_some, ao_let, t_le, f_le, t_lt, f_lt, f_eq, u_eq, u_n1, u_n2, n_cl, n_lt, n_le, n_eq, n_ltl, n_llt, n_lel, n_lle, n_eql, n_leq, n_add, n_mul, n_sub, n_addl, n_ladd, n_mull, n_lmul, n_subl, Int32.reduceLT, Int32.reduceLE, Int32.reduceAdd, Int32.reduceSub, Int32.reduceMul, Int32.reduceToNatClampNeg, not_false_eq_true, not_true_eq_false, or_false, false_or, or_self, and_self, false_and, true_and, and_false, and_true, true_or, or_true, Nat.reduceAdd, Nat.reduceMul, Nat.reduceLT, Nat.reduceLeDiff, ne_eq]
      have rC1 : RdC (cAdd lv' ps[i] ps'.length (vs ps[i]) (ws ps[i]) C) lv ps vs ws := by
        unfold cAdd
        refine RdC_mv rC ?_ ?_ ?_
        · simp (disch := omega) only [u_n1]
        · simp (disch := omega) only [u_n1]
        · intro j
          simp (disch := omega) only [u_n1, and_self]
      have hnd : ps[i] ∉ ps.drop (i + 1) := by
        have := rC.2.2.2.1
        rw [← List.take_append_drop i ps, List.drop_eq_getElem_cons hi] at this
        have := (List.nodup_append.mp this).2.1
        exact (List.nodup_cons.mp this).1
      have rDn : RdD (ao_u (ao_u (ao_u (ao_u (ao_u (ao_u D 577 ((t * 12 + l) * 26 + ps[i]) 0) 577 ((t * 12 + (l - 1)) * 26 + ps[i]) 1) 579 ((t * 12 + (l - 1)) * 26 + ps[i]) (vs ps[i])) 580 ((t * 12 + (l - 1)) * 26 + ps[i]) (ws ps[i])) 581 ((t * 12 + (l - 1)) * 26 + ps[i]) (nI rc)) 537 64 (nI (rc + 1))) (t * 12 + l) (rc + 1) (ps.drop (i + 1)) vs ws := by
        obtain ⟨o, o1, o2, o3⟩ := rD
        refine ⟨o, fun p hp => ?_, fun p hp => ?_, (List.pairwise_cons.mp o3).2⟩
        · by_cases e : p = ps[i]
          · subst e
            simp (disch := omega) only [u_n1, u_n2, u_eq, if_neg hnd]
          · simp (disch := omega) only [u_n1, u_n2]
            rw [o1 p hp]
            simp only [List.mem_cons, e, false_or]
        · obtain ⟨c1, c2, c3, c4, c5⟩ := o2 p (List.mem_cons_of_mem _ hp)
          simp (disch := omega) only [u_n1, u_n2]
          exact ⟨c1, c2, c3, c4, by omega⟩
      have rDn' : RdD (ao_u (ao_u (ao_u (ao_u (ao_u (ao_u D 577 ((t * 12 + l) * 26 + ps[i]) 0) 577 ((t * 12 + (l - 1)) * 26 + ps[i]) 1) 579 ((t * 12 + (l - 1)) * 26 + ps[i]) (vs ps[i])) 580 ((t * 12 + (l - 1)) * 26 + ps[i]) (ws ps[i])) 581 ((t * 12 + (l - 1)) * 26 + ps[i]) (nI rc)) 537 64 (nI (rc + 1))) (t * 12 + (l - 1)) (rc + 1) (ps' ++ [ps[i]]) (updF vs' ps[i] (vs ps[i])) (updF ws' ps[i] (ws ps[i])) := by
        refine RdD_add rD' hp26 hm ?_ ?_ ?_ ?_
        all_goals
          intro q hq
          by_cases e : q = ps[i]
          · subst e
            simp (disch := omega) only [u_n1, u_n2, u_eq, ↓reduceIte]
          · simp (disch := omega) only [u_n1, u_n2, if_neg e]
      refine hv_mono (ih (i + 1) _ _ (ps' ++ [ps[i]]) _ _ (rc + 1) (by omega) rC1 rC1' rDn rDn' (by rw [u_eq]) (by omega)) ?_
      intro C' hC'
      refine rstep ?_
      rintro D1 rfl
      refine ⟨fun hn => absurd hn hm, ?_⟩
      rintro _ D2 rfl
      refine hv_mono hC' ?_
      rintro D' ⟨ps'', vs'', ws'', rc'', g1, g2, g3, g4, g5, g6, g6', g7, g8⟩
      refine ⟨ps'', vs'', ws'', rc'', g1, g2, g3, g4, g5, ?_, ⟨by omega, by omega⟩, fun a j h1 h2 => ?_, fun a j h1 h2 h3 => ?_⟩
      · simp at g6
        omega
      · rw [g7 a j h1 h2]
        unfold cAdd
        simp (disch := omega) only [u_ne]
      · rw [g8 a j h1 h2 h3]
        simp (disch := omega) only [u_ne]
theorem give_pair {ρ σ : ao_H} {lv lv' t l rc : Nat} {ps ps' : List Nat} {vs ws vs' ws' : Nat → Int32} {C D : ao_M} (h1 : LvS ρ lv) (h1' : LvS ρ lv') (elv : lv = lv' + 6) (hs : ShD σ) (ht : t < 6) (hl1 : 1 ≤ l) (hl : l < 12)
    (rC : RdC C lv ps vs ws) (rC' : RdC C lv' ps' vs' ws') (rD : RdD D (t * 12 + l) rc ps vs ws) (rD' : RdD D (t * 12 + (l - 1)) rc ps' vs' ws') (hrc : D 537 64 = nI rc) (hb : rc + 26 < 2147483648) :
    hv (fun n => gX3_takeReadsOf n lv' lv C ρ) (fun C' => hv (fun n => gX12_giveReads n 537 (nI t) (nI l) D σ) (fun D' => givP C D lv lv' (t * 12 + l) (t * 12 + (l - 1)) rc ps.length ps' C' D')) := by
  have hlen := RdC_len rC
  unfold gX3_takeReadsOf
  refine hv_up (fun _ => fX3_takeReadsOf.eq_2 ..) ?_
  try simp only [↓reduceIte, Nat.reduceEqDiff, Option.bind_some, ao_let, h1]
  try simp (disch := first | omega | assumption) only [↓reduceIte, Nat.reduceEqDiff, Option.bind_some, ao_let, t_le, f_le, t_lt, f_lt, f_eq, u_eq, u_n1, u_n2, n_cl, n_lt, n_le, n_eq, n_ltl, n_llt, n_lel, n_lle, n_eql, n_leq, n_add, n_mul, n_sub, n_addl, n_ladd, n_mull, n_lmul, n_subl, Int32.reduceLT, Int32.reduceLE, Int32.reduceAdd, Int32.reduceSub, Int32.reduceMul, Int32.reduceToNatClampNeg, not_false_eq_true, not_true_eq_false, or_false, false_or, or_self, and_self, false_and, true_and, and_false, and_true, true_or, or_true, Nat.reduceAdd, Nat.reduceMul, Nat.reduceLT, Nat.reduceLeDiff, ne_eq, h1]
  refine hv_mono (give_loop h1 h1' elv hs ht hl1 hl ps.length 0 C D ps' vs' ws' rc (by omega) rC rC' (by simpa using rD) rD' hrc (by omega)) ?_
  intro C' h2
  unfold gX12_giveReads
  refine hv_up (fun _ => fX12_giveReads.eq_2 ..) ?_
  try simp only [↓reduceIte, Nat.reduceEqDiff, Option.bind_some, ao_let, hs]
  try simp (disch := first | omega | assumption) only [↓reduceIte, Nat.reduceEqDiff, Option.bind_some, ao_let, t_le, f_le, t_lt, f_lt, f_eq, u_eq, u_n1, u_n2, n_cl, n_lt, n_le, n_eq, n_ltl, n_llt, n_lel, n_lle, n_eql, n_leq, n_add, n_mul, n_sub, n_addl, n_ladd, n_mull, n_lmul, n_subl, Int32.reduceLT, Int32.reduceLE, Int32.reduceAdd, Int32.reduceSub, Int32.reduceMul, Int32.reduceToNatClampNeg, not_false_eq_true, not_true_eq_false, or_false, false_or, or_self, and_self, false_and, true_and, and_false, and_true, true_or, or_true, Nat.reduceAdd, Nat.reduceMul, Nat.reduceLT, Nat.reduceLeDiff, ne_eq, hs]
  exact h2
/-- the outermost level gives nothing -/
theorem give_0 {σ : ao_H} {t : Nat} {D : ao_M} {Q : ao_M → Prop} (q : Q D) : hv (fun n => gX12_giveReads n 537 (nI t) 0 D σ) Q := by
  unfold gX12_giveReads
  refine hv_up (fun _ => fX12_giveReads.eq_2 ..) ?_
  try simp only [↓reduceIte, Nat.reduceEqDiff, Option.bind_some, ao_let]
  try simp (disch := first | omega | assumption) only [↓reduceIte, Nat.reduceEqDiff, Option.bind_some, ao_let, t_le, f_le, t_lt, f_lt, f_eq, u_eq, u_n1, u_n2, n_cl, n_lt, n_le, n_eq, n_ltl, n_llt, n_lel, n_lle, n_eql, n_leq, n_add, n_mul, n_sub, n_addl, n_ladd, n_mull, n_lmul, n_subl, Int32.reduceLT, Int32.reduceLE, Int32.reduceAdd, Int32.reduceSub, Int32.reduceMul, Int32.reduceToNatClampNeg, not_false_eq_true, not_true_eq_false, or_false, false_or, or_self, and_self, false_and, true_and, and_false, and_true, true_or, or_true, Nat.reduceAdd, Nat.reduceMul, Nat.reduceLT, Nat.reduceLeDiff, ne_eq]
  exact hv_some q
/-- the reference adds a read of its innermost level -/
theorem da_old {σ : ao_H} {D : ao_M} {t j p rc : Nat} {ps : List Nat} {vs ws : Nat → Int32} {v : Int32} (hs : ShD σ) (ht : t < 6) (hj : j < 12) (hl : D 556 t = nI (j + 1)) (h : RdD D (t * 12 + j) rc ps vs ws) (hp : p < 26) (hm : p ∈ ps) : gX12_addRead 537 (nI t) (nI p) v D σ = some D := by
  obtain ⟨o, o1, o2, o3⟩ := h
  have := o1 p hp
  rw [if_pos hm] at this
  unfold gX12_addRead
  try simp only [↓reduceIte, Nat.reduceEqDiff, Option.bind_some, ao_let, hs, gX12_cell, hl, Nat.add_sub_cancel, this, show ((1 : Int32) = 0) = False from by decide]
  try simp (disch := first | omega | assumption) only [↓reduceIte, Nat.reduceEqDiff, Option.bind_some, ao_let, t_le, f_le, t_lt, f_lt, f_eq, u_eq, u_n1, u_n2, n_cl, n_lt, n_le, n_eq, n_ltl, n_llt, n_lel, n_lle, n_eql, n_leq, n_add, n_mul, n_sub, n_addl, n_ladd, n_mull, n_lmul, n_subl, Int32.reduceLT, Int32.reduceLE, Int32.reduceAdd, Int32.reduceSub, Int32.reduceMul, Int32.reduceToNatClampNeg, not_false_eq_true, not_true_eq_false, or_false, false_or, or_self, and_self, false_and, true_and, and_false, and_true, true_or, or_true, Nat.reduceAdd, Nat.reduceMul, Nat.reduceLT, Nat.reduceLeDiff, ne_eq, hs, gX12_cell, hl, Nat.add_sub_cancel, this, show ((1 : Int32) = 0) = False from by decide]
def dAdd (x p rc : Nat) (v : Int32) (D : ao_M) : ao_M := ao_u (ao_u (ao_u (ao_u (ao_u D 577 (x * 26 + p) 1) 579 (x * 26 + p) v) 580 (x * 26 + p) (D 543 p)) 581 (x * 26 + p) (nI rc)) 537 64 (nI (rc + 1))
theorem da_new {σ : ao_H} {D : ao_M} {t j p rc : Nat} {ps : List Nat} {vs ws : Nat → Int32} {v : Int32} (hs : ShD σ) (ht : t < 6) (hj : j < 12) (hl : D 556 t = nI (j + 1)) (hrc : D 537 64 = nI rc) (h : RdD D (t * 12 + j) rc ps vs ws) (hp : p < 26) (hm : p ∉ ps) :
    gX12_addRead 537 (nI t) (nI p) v D σ = some (dAdd (t * 12 + j) p rc v D) ∧ RdD (dAdd (t * 12 + j) p rc v D) (t * 12 + j) (rc + 1) (ps ++ [p]) (updF vs p v) (updF ws p (D 543 p)) := by
  have h0 := h
  obtain ⟨o, o1, o2, o3⟩ := h
  have := o1 p hp
  rw [if_neg hm] at this
  refine ⟨?_, ?_⟩
  · unfold gX12_addRead dAdd
    try simp only [↓reduceIte, Nat.reduceEqDiff, Option.bind_some, ao_let, hs, gX12_cell, hl, Nat.add_sub_cancel, this, hrc]
    try simp (disch := first | omega | assumption) only [↓reduceIte, Nat.reduceEqDiff, Option.bind_some, ao_let, t_le, f_le, t_lt, f_lt, f_eq, u_eq, u_n1, u_n2, n_cl, n_lt, n_le, n_eq, n_ltl, n_llt, n_lel, n_lle, n_eql, n_leq, n_add, n_mul, n_sub, n_addl, n_ladd, n_mull, n_lmul, n_subl, Int32.reduceLT, Int32.reduceLE, Int32.reduceAdd, Int32.reduceSub, Int32.reduceMul, Int32.reduceToNatClampNeg, not_false_eq_true, not_true_eq_false, or_false, false_or, or_self, and_self, false_and, true_and, and_false, and_true, true_or, or_true, Nat.reduceAdd, Nat.reduceMul, Nat.reduceLT, Nat.reduceLeDiff, ne_eq, hs, gX12_cell, hl, Nat.add_sub_cancel, this, hrc]
  · unfold dAdd
    refine RdD_add h0 hp hm ?_ ?_ ?_ ?_
    all_goals
      intro q hq
      by_cases e : q = p
      · subst e
        simp (disch := omega) only [u_n1, u_n2, u_eq, ↓reduceIte]
      · simp (disch := omega) only [u_n1, u_n2, if_neg e]
