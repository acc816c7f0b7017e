set_option linter.unusedSimpArgs false
set_option linter.unusedVariables false
/-! ===== tokens: the class's scanner ===== -/
abbrev blkP (x : Int32) : Prop := x = 10 ∨ x = 32
abbrev ltrP (x : Int32) : Prop := (97 ≤ x ∧ x ≤ 122) ∨ (65 ≤ x ∧ x ≤ 90)
abbrev dgtP (x : Int32) : Prop := 48 ≤ x ∧ x ≤ 57
/-- the first place from p on that is not P; k places are left -/
def skp (P : Int32 → Prop) [DecidablePred P] (s : Fn) : Nat → Nat → Nat
  | 0, p => p
  | k + 1, p => if P (s p) then skp P s k (p + 1) else p
theorem skp_ge {P : Int32 → Prop} [DecidablePred P] {s : Fn} : ∀ (k p : Nat), p ≤ skp P s k p ∧ skp P s k p ≤ p + k ∧ (∀ i, p ≤ i → i < skp P s k p → P (s i)) ∧ (skp P s k p < p + k → ¬ P (s (skp P s k p))) := by
  intro k
  induction k with
  | zero => intro p; simp [skp]; omega
  | succ k ih =>
    intro p
    unfold skp
    by_cases h : P (s p)
    · rw [if_pos h]
      obtain ⟨h1, h2, h3, h4⟩ := ih (p + 1)
      refine ⟨by omega, by omega, fun i a b => ?_, fun g => h4 (by omega)⟩
      by_cases e : i = p
      · rw [e]; exact h
      · exact h3 i (by omega) b
    · rw [if_neg h]
      exact ⟨by omega, by omega, fun i a b => by omega, fun _ => h⟩
theorem all_byte {P : Int32 → Prop} (h : ∀ k : Fin 256, P (Int32.ofInt ((k.val : Int) - 128))) (x : Int32) (h1 : -128 ≤ x.toInt) (h2 : x.toInt ≤ 127) : P x := by
  have := h ⟨(x.toInt + 128).toNat, by omega⟩
  have e : (Int32.ofInt ((((⟨(x.toInt + 128).toNat, by omega⟩ : Fin 256).val : Nat) : Int) - 128)) = x := by
    rw [show ((((⟨(x.toInt + 128).toNat, by omega⟩ : Fin 256).val : Nat) : Int) - 128) = x.toInt by show ((x.toInt + 128).toNat : Int) - 128 = _; omega]
    exact Int32.ofInt_toInt x
  rwa [e] at this
def bytP (x : Int32) : Prop := -128 ≤ x.toInt ∧ x.toInt ≤ 127
theorem c_blk {x : Int32} (h : bytP x) {M : ao_M} {ρ : ao_H} : hv (fun n => gX9_isBlank n (x &&& 255) M ρ) (fun y => y = (if blkP x then 1 else 0, M)) := by
  have h0 := all_byte (P := fun x => ((x &&& 255) = 10 ↔ x = 10) ∧ ((x &&& 255) = 32 ↔ x = 32)) (by decide +kernel) x h.1 h.2
  by_cases h1 : x = 10
  · have e := h0.1.2 h1
    unfold gX9_isBlank
    refine hv_up (fun _ => fX9_isBlank.eq_2 ..) ?_
    try simp only [↓reduceIte, Nat.reduceEqDiff, Option.bind_some, ao_let, n_ell, e]
    try simp (disch := first | omega | assumption) only [↓reduceIte, Nat.reduceEqDiff, Option.bind_some, ao_let, t_le, f_le, t_lt, f_lt, f_eq, u_eq, u_n1, u_n2, n_cl, n_lt, n_le, n_eq, n_ltl, n_llt, n_lel, n_lle, n_eql, n_leq, n_add, n_mul, n_sub, n_addl, n_ladd, n_mull, n_lmul, n_subl, Int32.reduceLT, Int32.reduceLE, Int32.reduceAdd, Int32.reduceSub, Int32.reduceMul, Int32.reduceToNatClampNeg, not_false_eq_true, not_true_eq_false, or_false, false_or, or_self, and_self, false_and, true_and, and_false, and_true, true_or, or_true, Nat.reduceAdd, Nat.reduceMul, Nat.reduceLT, Nat.reduceLeDiff, ne_eq, n_ell, e]
    refine hv_up (fun _ => fX9_isBlank.eq_2 ..) ?_
    try simp only [↓reduceIte, Nat.reduceEqDiff, Option.bind_some, ao_let, n_ell]
    try simp (disch := first | omega | assumption) only [↓reduceIte, Nat.reduceEqDiff, Option.bind_some, ao_let, t_le, f_le, t_lt, f_lt, f_eq, u_eq, u_n1, u_n2, n_cl, n_lt, n_le, n_eq, n_ltl, n_llt, n_lel, n_lle, n_eql, n_leq, n_add, n_mul, n_sub, n_addl, n_ladd, n_mull, n_lmul, n_subl, Int32.reduceLT, Int32.reduceLE, Int32.reduceAdd, Int32.reduceSub, Int32.reduceMul, Int32.reduceToNatClampNeg, not_false_eq_true, not_true_eq_false, or_false, false_or, or_self, and_self, false_and, true_and, and_false, and_true, true_or, or_true, Nat.reduceAdd, Nat.reduceMul, Nat.reduceLT, Nat.reduceLeDiff, ne_eq, n_ell]
    exact hv_some (by rw [if_pos (show blkP x from Or.inl h1)])
  · by_cases h2 : x = 32
    · have e := h0.2.2 h2
      unfold gX9_isBlank
      refine hv_up (fun _ => fX9_isBlank.eq_2 ..) ?_
      try simp only [↓reduceIte, Nat.reduceEqDiff, Option.bind_some, ao_let, n_ell, e]
      try simp (disch := first | omega | assumption) only [↓reduceIte, Nat.reduceEqDiff, Option.bind_some, ao_let, t_le, f_le, t_lt, f_lt, f_eq, u_eq, u_n1, u_n2, n_cl, n_lt, n_le, n_eq, n_ltl, n_llt, n_lel, n_lle, n_eql, n_leq, n_add, n_mul, n_sub, n_addl, n_ladd, n_mull, n_lmul, n_subl, Int32.reduceLT, Int32.reduceLE, Int32.reduceAdd, Int32.reduceSub, Int32.reduceMul, Int32.reduceToNatClampNeg, not_false_eq_true, not_true_eq_false, or_false, false_or, or_self, and_self, false_and, true_and, and_false, and_true, true_or, or_true, Nat.reduceAdd, Nat.reduceMul, Nat.reduceLT, Nat.reduceLeDiff, ne_eq, n_ell, e]
      refine hv_up (fun _ => fX9_isBlank.eq_2 ..) ?_
      try simp only [↓reduceIte, Nat.reduceEqDiff, Option.bind_some, ao_let, n_ell]
      try simp (disch := first | omega | assumption) only [↓reduceIte, Nat.reduceEqDiff, Option.bind_some, ao_let, t_le, f_le, t_lt, f_lt, f_eq, u_eq, u_n1, u_n2, n_cl, n_lt, n_le, n_eq, n_ltl, n_llt, n_lel, n_lle, n_eql, n_leq, n_add, n_mul, n_sub, n_addl, n_ladd, n_mull, n_lmul, n_subl, Int32.reduceLT, Int32.reduceLE, Int32.reduceAdd, Int32.reduceSub, Int32.reduceMul, Int32.reduceToNatClampNeg, not_false_eq_true, not_true_eq_false, or_false, false_or, or_self, and_self, false_and, true_and, and_false, and_true, true_or, or_true, Nat.reduceAdd, Nat.reduceMul, Nat.reduceLT, Nat.reduceLeDiff, ne_eq, n_ell]
      exact hv_some (by rw [if_pos (show blkP x from Or.inr h2)])
    · have e1 : ¬ (x &&& 255) = 10 := fun e => h1 (h0.1.1 e)
      have e2 : ¬ (x &&& 255) = 32 := fun e => h2 (h0.2.1 e)
      unfold gX9_isBlank
      refine hv_up (fun _ => fX9_isBlank.eq_2 ..) ?_
      simp only [↓reduceIte, if_neg e1, if_neg e2]
      exact hv_some (by rw [if_neg (show ¬ blkP x from fun g => g.elim h1 h2)])
theorem c_small {x : Int32} (h : bytP x) {M : ao_M} {ρ : ao_H} : gX9_isSmall (x &&& 255) M ρ = some (if 97 ≤ x ∧ x ≤ 122 then 1 else 0, M) := by
  have h0 := all_byte (P := fun x => (if (x &&& 255) < 97 then (0 : Int32) else if 122 < (x &&& 255) then 0 else 1) = if 97 ≤ x ∧ x ≤ 122 then 1 else 0) (by decide +kernel) x h.1 h.2
  unfold gX9_isSmall
  by_cases h1 : (x &&& 255) < 97
  · rw [if_pos h1] at h0 ⊢; rw [← h0]
  · rw [if_neg h1] at h0 ⊢
    by_cases h2 : 122 < (x &&& 255)
    · rw [if_pos h2] at h0 ⊢; rw [← h0]
    · rw [if_neg h2] at h0 ⊢; rw [← h0]
theorem c_dgt {x : Int32} (h : bytP x) {M : ao_M} {ρ : ao_H} : gX9_isDigit (x &&& 255) M ρ = some (if dgtP x then 1 else 0, M) := by
  have h0 := all_byte (P := fun x => (if (x &&& 255) < 48 then (0 : Int32) else if 57 < (x &&& 255) then 0 else 1) = if dgtP x then 1 else 0) (by decide +kernel) x h.1 h.2
  unfold gX9_isDigit
  by_cases h1 : (x &&& 255) < 48
  · rw [if_pos h1] at h0 ⊢; rw [← h0]
  · rw [if_neg h1] at h0 ⊢
    by_cases h2 : 57 < (x &&& 255)
    · rw [if_pos h2] at h0 ⊢; rw [← h0]
    · rw [if_neg h2] at h0 ⊢; rw [← h0]
theorem c_ltr {x : Int32} (h : bytP x) {M : ao_M} {ρ : ao_H} : hv (fun n => gX9_isLetter n (x &&& 255) M ρ) (fun y => y = (if ltrP x then 1 else 0, M)) := by
  have h0 := all_byte (P := fun x => (97 ≤ x ∧ x ≤ 122) ∨ ¬ (97 ≤ x ∧ x ≤ 122) ∧ ((x &&& 255) < 65 ∧ ¬ ltrP x ∨ ¬ (x &&& 255) < 65 ∧ (90 < (x &&& 255) ∧ ¬ ltrP x ∨ ¬ 90 < (x &&& 255) ∧ ltrP x))) (by decide +kernel) x h.1 h.2
  unfold gX9_isLetter
  rcases h0 with h1 | ⟨h1, h0⟩
  · refine hv_up (fun _ => fX9_isLetter.eq_2 ..) ?_
    simp only [c_small h, if_pos h1, Option.bind_some, ↓reduceIte, show ((1 : Int32) = 0) = False by decide]
    refine hv_up (fun _ => fX9_isLetter.eq_2 ..) ?_
    try simp only [↓reduceIte, Nat.reduceEqDiff, Option.bind_some, ao_let, n_ell]
    try simp (disch := first | omega | assumption) only [↓reduceIte, Nat.reduceEqDiff, Option.bind_some, ao_let, t_le, f_le, t_lt, f_lt, f_eq, u_eq, u_n1, u_n2, n_cl, n_lt, n_le, n_eq, n_ltl, n_llt, n_lel, n_lle, n_eql, n_leq, n_add, n_mul, n_sub, n_addl, n_ladd, n_mull, n_lmul, n_subl, Int32.reduceLT, Int32.reduceLE, Int32.reduceAdd, Int32.reduceSub, Int32.reduceMul, Int32.reduceToNatClampNeg, not_false_eq_true, not_true_eq_false, or_false, false_or, or_self, and_self, false_and, true_and, and_false, and_true, true_or, or_true, Nat.reduceAdd, Nat.reduceMul, Nat.reduceLT, Nat.reduceLeDiff, ne_eq, n_ell]
    exact hv_some (by rw [if_pos (show ltrP x from Or.inl h1)])
  · refine hv_up (fun _ => fX9_isLetter.eq_2 ..) ?_
    simp only [c_small h, if_neg h1, Option.bind_some, ↓reduceIte]
    rcases h0 with ⟨h2, h3⟩ | ⟨h2, h0⟩
    · simp only [if_pos h2, if_neg h3]
      exact hv_some rfl
    · simp only [if_neg h2]
      rcases h0 with ⟨h3, h4⟩ | ⟨h3, h4⟩
      · simp only [if_pos h3, if_neg h4]
        exact hv_some rfl
      · simp only [if_neg h3, if_pos h4]
        refine hv_up (fun _ => fX9_isLetter.eq_2 ..) ?_
        try simp only [↓reduceIte, Nat.reduceEqDiff, Option.bind_some, ao_let, n_ell]
        try simp (disch := first | omega | assumption) only [↓reduceIte, Nat.reduceEqDiff, Option.bind_some, ao_let, t_le, f_le, t_lt, f_lt, f_eq, u_eq, u_n1, u_n2, n_cl, n_lt, n_le, n_eq, n_ltl, n_llt, n_lel, n_lle, n_eql, n_leq, n_add, n_mul, n_sub, n_addl, n_ladd, n_mull, n_lmul, n_subl, Int32.reduceLT, Int32.reduceLE, Int32.reduceAdd, Int32.reduceSub, Int32.reduceMul, Int32.reduceToNatClampNeg, not_false_eq_true, not_true_eq_false, or_false, false_or, or_self, and_self, false_and, true_and, and_false, and_true, true_or, or_true, Nat.reduceAdd, Nat.reduceMul, Nat.reduceLT, Nat.reduceLeDiff, ne_eq, n_ell]
        exact hv_some rfl
/-- the class's text -/
def CT (C : ao_M) (ρ : ao_H) (s : Fn) (len : Nat) : Prop := ρ.2.1 3 = 19 ∧ ρ.1 3 0 = some 1 ∧ ρ.2.1 1 = 1 ∧ ρ.2.2.1 1 = 1000 ∧ C 3 1 = nI len ∧ len ≤ 1000 ∧ (∀ i, i < len → C 1 i = s i ∧ bytP (s i))
theorem CT_fr {C C' : ao_M} {ρ : ao_H} {s : Fn} {len : Nat} (h : CT C ρ s len) (h1 : C' 3 1 = C 3 1) (h2 : ∀ i, C' 1 i = C 1 i) : CT C' ρ s len := by
  obtain ⟨a1, a2, a3, a4, a5, a6, a7⟩ := h
  exact ⟨a1, a2, a3, a4, h1.trans a5, a6, fun i hi => by rw [h2]; exact a7 i hi⟩
theorem c_byte {C : ao_M} {ρ : ao_H} {s : Fn} {len p : Nat} (h : CT C ρ s len) (hp : p < len) : gX9_byteAt 3 (nI p) C ρ = some (s p &&& 255, C) := by
  obtain ⟨a1, a2, a3, a4, a5, a6, a7⟩ := h
  unfold gX9_byteAt
  try simp only [↓reduceIte, Nat.reduceEqDiff, Option.bind_some, ao_let, n_ell, a1, a2, a3, a4, a5, (a7 p hp).1]
  try simp (disch := first | omega | assumption) only [↓reduceIte, Nat.reduceEqDiff, Option.bind_some, ao_let, t_le, f_le, t_lt, f_lt, f_eq, u_eq, u_n1, u_n2, n_cl, n_lt, n_le, n_eq, n_ltl, n_llt, n_lel, n_lle, n_eql, n_leq, n_add, n_mul, n_sub, n_addl, n_ladd, n_mull, n_lmul, n_subl, Int32.reduceLT, Int32.reduceLE, Int32.reduceAdd, Int32.reduceSub, Int32.reduceMul, Int32.reduceToNatClampNeg, not_false_eq_true, not_true_eq_false, or_false, false_or, or_self, and_self, false_and, true_and, and_false, and_true, true_or, or_true, Nat.reduceAdd, Nat.reduceMul, Nat.reduceLT, Nat.reduceLeDiff, ne_eq, n_ell, a1, a2, a3, a4, a5, (a7 p hp).1]
theorem c_byteN {C : ao_M} {ρ : ao_H} {s : Fn} {len p : Nat} (h : CT C ρ s len) (hp : len ≤ p) (hp2 : p ≤ 2000) : gX9_byteAt 3 (nI p) C ρ = some (-1, C) := by
  obtain ⟨a1, a2, a3, a4, a5, a6, a7⟩ := h
  unfold gX9_byteAt
  try simp only [↓reduceIte, Nat.reduceEqDiff, Option.bind_some, ao_let, n_ell, a1, a2, a3, a4, a5]
  try simp (disch := first | omega | assumption) only [↓reduceIte, Nat.reduceEqDiff, Option.bind_some, ao_let, t_le, f_le, t_lt, f_lt, f_eq, u_eq, u_n1, u_n2, n_cl, n_lt, n_le, n_eq, n_ltl, n_llt, n_lel, n_lle, n_eql, n_leq, n_add, n_mul, n_sub, n_addl, n_ladd, n_mull, n_lmul, n_subl, Int32.reduceLT, Int32.reduceLE, Int32.reduceAdd, Int32.reduceSub, Int32.reduceMul, Int32.reduceToNatClampNeg, not_false_eq_true, not_true_eq_false, or_false, false_or, or_self, and_self, false_and, true_and, and_false, and_true, true_or, or_true, Nat.reduceAdd, Nat.reduceMul, Nat.reduceLT, Nat.reduceLeDiff, ne_eq, n_ell, a1, a2, a3, a4, a5]
theorem scan_blk {ρ : ao_H} {s : Fn} {len : Nat} {Q : ao_M → Prop} : ∀ (k p : Nat) (C : ao_M), p + k = len → CT C ρ s len → C 3 2 = nI p → (∀ C', CT C' ρ s len → (∀ x j, ¬ (x = 3 ∧ j = 2) → C' x j = C x j) → C' 3 2 = nI (skp blkP s k p) → hv (fun n => fX9_scan n 38 3 C' ρ) Q) → hv (fun n => fX9_scan n 0 3 C ρ) Q := by
  intro k
  induction k with
  | zero =>
    intro p C hk hC h2 q
    have hl := hC.2.2.2.2.1
    have a1 := hC.1
    have a6 := hC.2.2.2.2.2.1
    refine hv_up (fun _ => fX9_scan.eq_2 ..) ?_
    try simp only [↓reduceIte, Nat.reduceEqDiff, Option.bind_some, ao_let, n_ell, a1, h2, hl]
    try simp (disch := first | omega | assumption) only [↓reduceIte, Nat.reduceEqDiff, Option.bind_some, ao_let, t_le, f_le, t_lt, f_lt, f_eq, u_eq, u_n1, u_n2, n_cl, n_lt, n_le, n_eq, n_ltl, n_llt, n_lel, n_lle, n_eql, n_leq, n_add, n_mul, n_sub, n_addl, n_ladd, n_mull, n_lmul, n_subl, Int32.reduceLT, Int32.reduceLE, Int32.reduceAdd, Int32.reduceSub, Int32.reduceMul, Int32.reduceToNatClampNeg, not_false_eq_true, not_true_eq_false, or_false, false_or, or_self, and_self, false_and, true_and, and_false, and_true, true_or, or_true, Nat.reduceAdd, Nat.reduceMul, Nat.reduceLT, Nat.reduceLeDiff, ne_eq, n_ell, a1, h2, hl]
    exact q C hC (fun _ _ _ => rfl) h2
  | succ k ih =>
    intro p C hk hC h2 q
    have hl := hC.2.2.2.2.1
    have a1 := hC.1
    have a6 := hC.2.2.2.2.2.1
    have hb := c_byte hC (show p < len by omega)
    refine hv_up (fun _ => fX9_scan.eq_2 ..) ?_
    try simp only [↓reduceIte, Nat.reduceEqDiff, Option.bind_some, ao_let, n_ell, a1, h2, hl, hb]
    try simp (disch := first | omega | assumption) only [↓reduceIte, Nat.reduceEqDiff, Option.bind_some, ao_let, t_le, f_le, t_lt, f_lt, f_eq, u_eq, u_n1, u_n2, n_cl, n_lt, n_le, n_eq, n_ltl, n_llt, n_lel, n_lle, n_eql, n_leq, n_add, n_mul, n_sub, n_addl, n_ladd, n_mull, n_lmul, n_subl, Int32.reduceLT, Int32.reduceLE, Int32.reduceAdd, Int32.reduceSub, Int32.reduceMul, Int32.reduceToNatClampNeg, not_false_eq_true, not_true_eq_false, or_false, false_or, or_self, and_self, false_and, true_and, and_false, and_true, true_or, or_true, Nat.reduceAdd, Nat.reduceMul, Nat.reduceLT, Nat.reduceLeDiff, ne_eq, n_ell, a1, h2, hl, hb]
    refine hv_bind (c_blk (hC.2.2.2.2.2.2 p (by omega)).2) ?_
    rintro _ rfl
    dsimp only
    by_cases hp : blkP (s p)
    · simp only [if_pos hp, if_neg (show ¬ (1 : Int32) = 0 by decide)]
      try simp only [↓reduceIte, Nat.reduceEqDiff, Option.bind_some, ao_let, n_ell, h2]
      try simp (disch := first | omega | assumption) only [↓reduceIte, Nat.reduceEqDiff, Option.bind_some, ao_let, t_le, f_le, t_lt, f_lt, f_eq, u_eq, u_n1, u_n2, n_cl, n_lt, n_le, n_eq, n_ltl, n_llt, n_lel, n_lle, n_eql, n_leq, n_add, n_mul, n_sub, n_addl, n_ladd, n_mull, n_lmul, n_subl, Int32.reduceLT, Int32.reduceLE, Int32.reduceAdd, Int32.reduceSub, Int32.reduceMul, Int32.reduceToNatClampNeg, not_false_eq_true, not_true_eq_false, or_false, false_or, or_self, and_self, false_and, true_and, and_false, and_true, true_or, or_true, Nat.reduceAdd, Nat.reduceMul, Nat.reduceLT, Nat.reduceLeDiff, ne_eq, n_ell, h2]
      refine ih (p + 1) _ (by omega) (CT_fr hC (u_n2 (by omega)) (fun i => u_n1 (by omega))) u_eq (fun C' h1 h3 h4 => q C' h1 (fun x j hx => ?_) ?_)
      · rw [h3 x j hx]; exact u_ne (by omega)
      · rw [h4, skp, if_pos hp]
    · simp only [if_neg hp, ↓reduceIte]
      exact q C hC (fun _ _ _ => rfl) (by rw [skp, if_neg hp]; exact h2)
def dg (x : Int32) : Nat := (x.toInt - 48).toNat
theorem dg_of {x : Int32} (h : bytP x) (hd : dgtP x) : dg x < 10 ∧ x = nI (48 + dg x) ∧ x &&& 255 = nI (48 + dg x) := by
  have h0 := all_byte (P := fun x => dgtP x → dg x < 10 ∧ x = nI (48 + dg x) ∧ x &&& 255 = nI (48 + dg x)) (by decide +kernel) x h.1 h.2
  exact h0 hd
/-- the number that the digits make -/
def nmv (s : Fn) : Nat → Nat → Nat → Nat
  | 0, _, v => v
  | k + 1, p, v => if dgtP (s p) then nmv s k (p + 1) (if v ≤ 1000000 then 10 * v + dg (s p) else v) else v
theorem num_loop {ρ : ao_H} {s : Fn} {len : Nat} {Q : Int32 × ao_M → Prop} : ∀ (k p : Nat) (C : ao_M) (v : Nat), v ≤ 10000010 → p + k = len → CT C ρ s len → C 3 2 = nI p → C 3 10 = nI v → (∀ C', CT C' ρ s len → (∀ x j, ¬ (x = 3 ∧ (j = 2 ∨ j = 10)) → C' x j = C x j) → C' 3 2 = nI (skp dgtP s k p) → C' 3 10 = nI (nmv s k p v) → nmv s k p v ≤ 10000010 → hv (fun n => fX9_numberKind n 70 3 C' ρ) Q) → hv (fun n => fX9_numberKind n 0 3 C ρ) Q := by
  intro k
  induction k with
  | zero =>
    intro p C v hv0 hk hC h2 h10 q
    have hl := hC.2.2.2.2.1
    have a1 := hC.1
    have a6 := hC.2.2.2.2.2.1
    refine hv_up (fun _ => fX9_numberKind.eq_2 ..) ?_
    try simp only [↓reduceIte, Nat.reduceEqDiff, Option.bind_some, ao_let, n_ell, a1, h2, hl]
    try simp (disch := first | omega | assumption) only [↓reduceIte, Nat.reduceEqDiff, Option.bind_some, ao_let, t_le, f_le, t_lt, f_lt, f_eq, u_eq, u_n1, u_n2, n_cl, n_lt, n_le, n_eq, n_ltl, n_llt, n_lel, n_lle, n_eql, n_leq, n_add, n_mul, n_sub, n_addl, n_ladd, n_mull, n_lmul, n_subl, Int32.reduceLT, Int32.reduceLE, Int32.reduceAdd, Int32.reduceSub, Int32.reduceMul, Int32.reduceToNatClampNeg, not_false_eq_true, not_true_eq_false, or_false, false_or, or_self, and_self, false_and, true_and, and_false, and_true, true_or, or_true, Nat.reduceAdd, Nat.reduceMul, Nat.reduceLT, Nat.reduceLeDiff, ne_eq, n_ell, a1, h2, hl]
    exact q C hC (fun _ _ _ => rfl) h2 h10 hv0
  | succ k ih =>
    intro p C v hv0 hk hC h2 h10 q
    have hl := hC.2.2.2.2.1
    have a1 := hC.1
    have a6 := hC.2.2.2.2.2.1
    have hb := c_byte hC (show p < len by omega)
    have hby := (hC.2.2.2.2.2.2 p (by omega)).2
    by_cases hp : dgtP (s p)
    · have hd : ∀ M, gX9_isDigit (s p &&& 255) M ρ = some (1, M) := fun M => by rw [c_dgt hby, if_pos hp]
      obtain ⟨g1, g2, g3⟩ := dg_of hby hp
      by_cases hv1 : v ≤ 1000000
      · refine hv_up (fun _ => fX9_numberKind.eq_2 ..) ?_
        try simp only [↓reduceIte, Nat.reduceEqDiff, Option.bind_some, ao_let, n_ell, a1, h2, hl, hb, hd, h10]
        try simp (disch := first | omega | assumption) only [↓reduceIte, Nat.reduceEqDiff, Option.bind_some, ao_let, t_le, f_le, t_lt, f_lt, f_eq, u_eq, u_n1, u_n2, n_cl, n_lt, n_le, n_eq, n_ltl, n_llt, n_lel, n_lle, n_eql, n_leq, n_add, n_mul, n_sub, n_addl, n_ladd, n_mull, n_lmul, n_subl, Int32.reduceLT, Int32.reduceLE, Int32.reduceAdd, Int32.reduceSub, Int32.reduceMul, Int32.reduceToNatClampNeg, not_false_eq_true, not_true_eq_false, or_false, false_or, or_self, and_self, false_and, true_and, and_false, and_true, true_or, or_true, Nat.reduceAdd, Nat.reduceMul, Nat.reduceLT, Nat.reduceLeDiff, ne_eq, n_ell, a1, h2, hl, hb, hd, h10]
        try simp only [if_neg (show ¬ (1 : Int32) = 0 by decide)]
        try simp only [↓reduceIte, Nat.reduceEqDiff, Option.bind_some, ao_let, n_ell, h2, hb, h10, g3]
        try simp (disch := first | omega | assumption) only [↓reduceIte, Nat.reduceEqDiff, Option.bind_some, ao_let, t_le, f_le, t_lt, f_lt, f_eq, u_eq, u_n1, u_n2, n_cl, n_lt, n_le, n_eq, n_ltl, n_llt, n_lel, n_lle, n_eql, n_leq, n_add, n_mul, n_sub, n_addl, n_ladd, n_mull, n_lmul, n_subl, Int32.reduceLT, Int32.reduceLE, Int32.reduceAdd, Int32.reduceSub, Int32.reduceMul, Int32.reduceToNatClampNeg, not_false_eq_true, not_true_eq_false, or_false, false_or, or_self, and_self, false_and, true_and, and_false, and_true, true_or, or_true, Nat.reduceAdd, Nat.reduceMul, Nat.reduceLT, Nat.reduceLeDiff, ne_eq, n_ell, h2, hb, h10, g3]
        refine hv_up (fun _ => fX9_numberKind.eq_2 ..) ?_
        try simp only [↓reduceIte, Nat.reduceEqDiff, Option.bind_some, ao_let, n_ell, a1, h2]
        try simp (disch := first | omega | assumption) only [↓reduceIte, Nat.reduceEqDiff, Option.bind_some, ao_let, t_le, f_le, t_lt, f_lt, f_eq, u_eq, u_n1, u_n2, n_cl, n_lt, n_le, n_eq, n_ltl, n_llt, n_lel, n_lle, n_eql, n_leq, n_add, n_mul, n_sub, n_addl, n_ladd, n_mull, n_lmul, n_subl, Int32.reduceLT, Int32.reduceLE, Int32.reduceAdd, Int32.reduceSub, Int32.reduceMul, Int32.reduceToNatClampNeg, not_false_eq_true, not_true_eq_false, or_false, false_or, or_self, and_self, false_and, true_and, and_false, and_true, true_or, or_true, Nat.reduceAdd, Nat.reduceMul, Nat.reduceLT, Nat.reduceLeDiff, ne_eq, n_ell, a1, h2]
        refine ih (p + 1) _ (10 * v + dg (s p)) (by omega) (by omega) (CT_fr hC ?_ (fun i => ?_)) u_eq ?_ (fun C' h1 h3 h4 h5 h6 => q C' h1 (fun x j hx => ?_) ?_ ?_ ?_)
        · try simp only [↓reduceIte, Nat.reduceEqDiff, Option.bind_some, ao_let, n_ell]
          try simp (disch := first | omega | assumption) only [↓reduceIte, Nat.reduceEqDiff, Option.bind_some, ao_let, t_le, f_le, t_lt, f_lt, f_eq, u_eq, u_n1, u_n2, n_cl, n_lt, n_le, n_eq, n_ltl, n_llt, n_lel, n_lle, n_eql, n_leq, n_add, n_mul, n_sub, n_addl, n_ladd, n_mull, n_lmul, n_subl, Int32.reduceLT, Int32.reduceLE, Int32.reduceAdd, Int32.reduceSub, Int32.reduceMul, Int32.reduceToNatClampNeg, not_false_eq_true, not_true_eq_false, or_false, false_or, or_self, and_self, false_and, true_and, and_false, and_true, true_or, or_true, Nat.reduceAdd, Nat.reduceMul, Nat.reduceLT, Nat.reduceLeDiff, ne_eq, n_ell]
        · try simp only [↓reduceIte, Nat.reduceEqDiff, Option.bind_some, ao_let, n_ell]
          try simp (disch := first | omega | assumption) only [↓reduceIte, Nat.reduceEqDiff, Option.bind_some, ao_let, t_le, f_le, t_lt, f_lt, f_eq, u_eq, u_n1, u_n2, n_cl, n_lt, n_le, n_eq, n_ltl, n_llt, n_lel, n_lle, n_eql, n_leq, n_add, n_mul, n_sub, n_addl, n_ladd, n_mull, n_lmul, n_subl, Int32.reduceLT, Int32.reduceLE, Int32.reduceAdd, Int32.reduceSub, Int32.reduceMul, Int32.reduceToNatClampNeg, not_false_eq_true, not_true_eq_false, or_false, false_or, or_self, and_self, false_and, true_and, and_false, and_true, true_or, or_true, Nat.reduceAdd, Nat.reduceMul, Nat.reduceLT, Nat.reduceLeDiff, ne_eq, n_ell]
        · rw [u_n2 (by omega), u_eq, Nat.mul_comm v 10, Nat.add_comm 48, ← Nat.add_assoc, Nat.add_sub_cancel]
        · rw [h3 x j hx, u_ne (by omega), u_ne (by omega)]
        · rw [h4, skp, if_pos hp]
        · rw [h5, nmv, if_pos hp, if_pos hv1]
        · rw [nmv, if_pos hp, if_pos hv1]; exact h6
      · refine hv_up (fun _ => fX9_numberKind.eq_2 ..) ?_
        try simp only [↓reduceIte, Nat.reduceEqDiff, Option.bind_some, ao_let, n_ell, a1, h2, hl, hb, hd, h10]
        try simp (disch := first | omega | assumption) only [↓reduceIte, Nat.reduceEqDiff, Option.bind_some, ao_let, t_le, f_le, t_lt, f_lt, f_eq, u_eq, u_n1, u_n2, n_cl, n_lt, n_le, n_eq, n_ltl, n_llt, n_lel, n_lle, n_eql, n_leq, n_add, n_mul, n_sub, n_addl, n_ladd, n_mull, n_lmul, n_subl, Int32.reduceLT, Int32.reduceLE, Int32.reduceAdd, Int32.reduceSub, Int32.reduceMul, Int32.reduceToNatClampNeg, not_false_eq_true, not_true_eq_false, or_false, false_or, or_self, and_self, false_and, true_and, and_false, and_true, true_or, or_true, Nat.reduceAdd, Nat.reduceMul, Nat.reduceLT, Nat.reduceLeDiff, ne_eq, n_ell, a1, h2, hl, hb, hd, h10]
        try simp only [if_neg (show ¬ (1 : Int32) = 0 by decide)]
        refine hv_up (fun _ => fX9_numberKind.eq_2 ..) ?_
        try simp only [↓reduceIte, Nat.reduceEqDiff, Option.bind_some, ao_let, n_ell, a1, h2]
        try simp (disch := first | omega | assumption) only [↓reduceIte, Nat.reduceEqDiff, Option.bind_some, ao_let, t_le, f_le, t_lt, f_lt, f_eq, u_eq, u_n1, u_n2, n_cl, n_lt, n_le, n_eq, n_ltl, n_llt, n_lel, n_lle, n_eql, n_leq, n_add, n_mul, n_sub, n_addl, n_ladd, n_mull, n_lmul, n_subl, Int32.reduceLT, Int32.reduceLE, Int32.reduceAdd, Int32.reduceSub, Int32.reduceMul, Int32.reduceToNatClampNeg, not_false_eq_true, not_true_eq_false, or_false, false_or, or_self, and_self, false_and, true_and, and_false, and_true, true_or, or_true, Nat.reduceAdd, Nat.reduceMul, Nat.reduceLT, Nat.reduceLeDiff, ne_eq, n_ell, a1, h2]
        refine ih (p + 1) _ v (by omega) (by omega) (CT_fr hC ?_ (fun i => ?_)) u_eq ?_ (fun C' h1 h3 h4 h5 h6 => q C' h1 (fun x j hx => ?_) ?_ ?_ ?_)
        · try simp only [↓reduceIte, Nat.reduceEqDiff, Option.bind_some, ao_let, n_ell]
          try simp (disch := first | omega | assumption) only [↓reduceIte, Nat.reduceEqDiff, Option.bind_some, ao_let, t_le, f_le, t_lt, f_lt, f_eq, u_eq, u_n1, u_n2, n_cl, n_lt, n_le, n_eq, n_ltl, n_llt, n_lel, n_lle, n_eql, n_leq, n_add, n_mul, n_sub, n_addl, n_ladd, n_mull, n_lmul, n_subl, Int32.reduceLT, Int32.reduceLE, Int32.reduceAdd, Int32.reduceSub, Int32.reduceMul, Int32.reduceToNatClampNeg, not_false_eq_true, not_true_eq_false, or_false, false_or, or_self, and_self, false_and, true_and, and_false, and_true, true_or, or_true, Nat.reduceAdd, Nat.reduceMul, Nat.reduceLT, Nat.reduceLeDiff, ne_eq, n_ell]
        · try simp only [↓reduceIte, Nat.reduceEqDiff, Option.bind_some, ao_let, n_ell]
          try simp (disch := first | omega | assumption) only [↓reduceIte, Nat.reduceEqDiff, Option.bind_some, ao_let, t_le, f_le, t_lt, f_lt, f_eq, u_eq, u_n1, u_n2, n_cl, n_lt, n_le, n_eq, n_ltl, n_llt, n_lel, n_lle, n_eql, n_leq, n_add, n_mul, n_sub, n_addl, n_ladd, n_mull, n_lmul, n_subl, Int32.reduceLT, Int32.reduceLE, Int32.reduceAdd, Int32.reduceSub, Int32.reduceMul, Int32.reduceToNatClampNeg, not_false_eq_true, not_true_eq_false, or_false, false_or, or_self, and_self, false_and, true_and, and_false, and_true, true_or, or_true, Nat.reduceAdd, Nat.reduceMul, Nat.reduceLT, Nat.reduceLeDiff, ne_eq, n_ell]
        · try simp only [↓reduceIte, Nat.reduceEqDiff, Option.bind_some, ao_let, n_ell]
          try simp (disch := first | omega | assumption) only [↓reduceIte, Nat.reduceEqDiff, Option.bind_some, ao_let, t_le, f_le, t_lt, f_lt, f_eq, u_eq, u_n1, u_n2, n_cl, n_lt, n_le, n_eq, n_ltl, n_llt, n_lel, n_lle, n_eql, n_leq, n_add, n_mul, n_sub, n_addl, n_ladd, n_mull, n_lmul, n_subl, Int32.reduceLT, Int32.reduceLE, Int32.reduceAdd, Int32.reduceSub, Int32.reduceMul, Int32.reduceToNatClampNeg, not_false_eq_true, not_true_eq_false, or_false, false_or, or_self, and_self, false_and, true_and, and_false, and_true, true_or, or_true, Nat.reduceAdd, Nat.reduceMul, Nat.reduceLT, Nat.reduceLeDiff, ne_eq, n_ell]
          exact h10
        · rw [h3 x j hx, u_ne (by omega)]
        · rw [h4, skp, if_pos hp]
        · rw [h5, nmv, if_pos hp, if_neg hv1]
        · rw [nmv, if_pos hp, if_neg hv1]; exact h6
    · have hd : ∀ M, gX9_isDigit (s p &&& 255) M ρ = some (0, M) := fun M => by rw [c_dgt hby, if_neg hp]
      refine hv_up (fun _ => fX9_numberKind.eq_2 ..) ?_
      try simp only [↓reduceIte, Nat.reduceEqDiff, Option.bind_some, ao_let, n_ell, a1, h2, hl, hb, hd, h10]
      try simp (disch := first | omega | assumption) only [↓reduceIte, Nat.reduceEqDiff, Option.bind_some, ao_let, t_le, f_le, t_lt, f_lt, f_eq, u_eq, u_n1, u_n2, n_cl, n_lt, n_le, n_eq, n_ltl, n_llt, n_lel, n_lle, n_eql, n_leq, n_add, n_mul, n_sub, n_addl, n_ladd, n_mull, n_lmul, n_subl, Int32.reduceLT, Int32.reduceLE, Int32.reduceAdd, Int32.reduceSub, Int32.reduceMul, Int32.reduceToNatClampNeg, not_false_eq_true, not_true_eq_false, or_false, false_or, or_self, and_self, false_and, true_and, and_false, and_true, true_or, or_true, Nat.reduceAdd, Nat.reduceMul, Nat.reduceLT, Nat.reduceLeDiff, ne_eq, n_ell, a1, h2, hl, hb, hd, h10]
      exact q C hC (fun _ _ _ => rfl) (by rw [skp, if_neg hp]; exact h2) (by rw [nmv, if_neg hp]; exact h10) (by rw [nmv, if_neg hp]; exact hv0)
theorem word_loop {ρ : ao_H} {s : Fn} {len : Nat} {Q : Int32 × ao_M → Prop} : ∀ (k p : Nat) (C : ao_M), p + k = len → CT C ρ s len → C 3 2 = nI p → (∀ C', CT C' ρ s len → (∀ x j, ¬ (x = 3 ∧ j = 2) → C' x j = C x j) → C' 3 2 = nI (skp ltrP s k p) → hv (fun n => fX9_wordKind n 38 3 0 0 0 C' ρ) Q) → hv (fun n => fX9_wordKind n 0 3 0 0 0 C ρ) Q := by
  intro k
  induction k with
  | zero =>
    intro p C hk hC h2 q
    have hl := hC.2.2.2.2.1
    have a1 := hC.1
    have a6 := hC.2.2.2.2.2.1
    refine hv_up (fun _ => fX9_wordKind.eq_2 ..) ?_
    try simp only [↓reduceIte, Nat.reduceEqDiff, Option.bind_some, ao_let, n_ell, a1, h2, hl]
    try simp (disch := first | omega | assumption) only [↓reduceIte, Nat.reduceEqDiff, Option.bind_some, ao_let, t_le, f_le, t_lt, f_lt, f_eq, u_eq, u_n1, u_n2, n_cl, n_lt, n_le, n_eq, n_ltl, n_llt, n_lel, n_lle, n_eql, n_leq, n_add, n_mul, n_sub, n_addl, n_ladd, n_mull, n_lmul, n_subl, Int32.reduceLT, Int32.reduceLE, Int32.reduceAdd, Int32.reduceSub, Int32.reduceMul, Int32.reduceToNatClampNeg, not_false_eq_true, not_true_eq_false, or_false, false_or, or_self, and_self, false_and, true_and, and_false, and_true, true_or, or_true, Nat.reduceAdd, Nat.reduceMul, Nat.reduceLT, Nat.reduceLeDiff, ne_eq, n_ell, a1, h2, hl]
    exact q C hC (fun _ _ _ => rfl) h2
  | succ k ih =>
    intro p C hk hC h2 q
    have hl := hC.2.2.2.2.1
    have a1 := hC.1
    have a6 := hC.2.2.2.2.2.1
    have hb := c_byte hC (show p < len by omega)
    refine hv_up (fun _ => fX9_wordKind.eq_2 ..) ?_
    try simp only [↓reduceIte, Nat.reduceEqDiff, Option.bind_some, ao_let, n_ell, a1, h2, hl, hb]
    try simp (disch := first | omega | assumption) only [↓reduceIte, Nat.reduceEqDiff, Option.bind_some, ao_let, t_le, f_le, t_lt, f_lt, f_eq, u_eq, u_n1, u_n2, n_cl, n_lt, n_le, n_eq, n_ltl, n_llt, n_lel, n_lle, n_eql, n_leq, n_add, n_mul, n_sub, n_addl, n_ladd, n_mull, n_lmul, n_subl, Int32.reduceLT, Int32.reduceLE, Int32.reduceAdd, Int32.reduceSub, Int32.reduceMul, Int32.reduceToNatClampNeg, not_false_eq_true, not_true_eq_false, or_false, false_or, or_self, and_self, false_and, true_and, and_false, and_true, true_or, or_true, Nat.reduceAdd, Nat.reduceMul, Nat.reduceLT, Nat.reduceLeDiff, ne_eq, n_ell, a1, h2, hl, hb]
    refine hv_bind (c_ltr (hC.2.2.2.2.2.2 p (by omega)).2) ?_
    rintro _ rfl
    dsimp only
    by_cases hp : ltrP (s p)
    · simp only [if_pos hp, if_neg (show ¬ (1 : Int32) = 0 by decide)]
      try simp only [↓reduceIte, Nat.reduceEqDiff, Option.bind_some, ao_let, n_ell, h2]
      try simp (disch := first | omega | assumption) only [↓reduceIte, Nat.reduceEqDiff, Option.bind_some, ao_let, t_le, f_le, t_lt, f_lt, f_eq, u_eq, u_n1, u_n2, n_cl, n_lt, n_le, n_eq, n_ltl, n_llt, n_lel, n_lle, n_eql, n_leq, n_add, n_mul, n_sub, n_addl, n_ladd, n_mull, n_lmul, n_subl, Int32.reduceLT, Int32.reduceLE, Int32.reduceAdd, Int32.reduceSub, Int32.reduceMul, Int32.reduceToNatClampNeg, not_false_eq_true, not_true_eq_false, or_false, false_or, or_self, and_self, false_and, true_and, and_false, and_true, true_or, or_true, Nat.reduceAdd, Nat.reduceMul, Nat.reduceLT, Nat.reduceLeDiff, ne_eq, n_ell, h2]
      refine ih (p + 1) _ (by omega) (CT_fr hC (u_n2 (by omega)) (fun i => u_n1 (by omega))) u_eq (fun C' h1 h3 h4 => q C' h1 (fun x j hx => ?_) ?_)
      · rw [h3 x j hx]; exact u_ne (by omega)
      · rw [h4, skp, if_pos hp]
    · simp only [if_neg hp, ↓reduceIte]
      exact q C hC (fun _ _ _ => rfl) (by rw [skp, if_neg hp]; exact h2)
/-- word w lies at b, n long -/
def mtw (s : Fn) (b n w : Nat) : Prop := ao_len.getD w 0 = n ∧ ∀ i, i < n → ao_chr w (nI i) = (s (b + i) &&& 255)
/-- the kind of a word -/
noncomputable def kwd (s : Fn) (b n : Nat) : Nat → Nat → Nat
  | 0, _ => 1
  | k + 1, w => @ite _ (mtw s b n w) (Classical.propDecidable _) (5 + w) (kwd s b n k (w + 1))
theorem isw_loop {ρ : ao_H} {s : Fn} {len b w : Nat} (hw : w < 13) {C : ao_M} (hC : CT C ρ s len) (h9 : C 3 9 = nI b) (hn : b + ao_len.getD w 0 ≤ len) : ∀ (k i : Nat), i + k = ao_len.getD w 0 → hv (fun n => fX9_isWord n 20 3 w (nI i) C ρ) (fun y => y.2 = C ∧ (y.1 = 1 ∧ (∀ j, i ≤ j → j < ao_len.getD w 0 → ao_chr w (nI j) = (s (b + j) &&& 255)) ∨ y.1 = 0 ∧ ∃ j, i ≤ j ∧ j < ao_len.getD w 0 ∧ ¬ ao_chr w (nI j) = (s (b + j) &&& 255))) := by
  intro k
  have a1 := hC.1
  have a6 := hC.2.2.2.2.2.1
  induction k with
  | zero =>
    intro i hi
    refine hv_up (fun _ => fX9_isWord.eq_2 ..) ?_
    simp only [Nat.reduceEqDiff, ↓reduceIte, if_pos hw]
    rw [show (fun n => if nI (ao_len.getD w 0) ≤ nI i then _ else _) = fun n => some ((1 : Int32), C) from by
      funext n; rw [if_pos (by rw [n_le (by omega) (by omega)]; omega)]]
    exact hv_some ⟨rfl, Or.inl ⟨rfl, fun j h1 h2 => by omega⟩⟩
  | succ k ih =>
    intro i hi
    have hb := c_byte hC (show b + i < len by omega)
    refine hv_up (fun _ => fX9_isWord.eq_2 ..) ?_
    simp only [Nat.reduceEqDiff, ↓reduceIte, if_pos hw]
    refine hv_ifF (by rw [n_le (by omega) (by omega)]; omega) ?_
    refine hv_ifT (by rw [n_cl (by omega)]; intro h; rcases h with h | h; · rw [show ((0 : Int32)) = nI 0 from rfl, n_lt (by omega) (by omega)] at h; omega
                      · omega) ?_
    refine hv_ifT a1 ?_
    rw [h9]
    simp only [n_add, hb, Option.bind_some]
    by_cases e : ao_chr w (nI i) = (s (b + i) &&& 255)
    · simp only [if_pos e, ao_let]
      rw [show nI i + (1 : Int32) = nI (i + 1) from n_add]
      refine hv_mono (ih (i + 1) (by omega)) ?_
      rintro y ⟨h1, h2 | ⟨h2, j, h3, h4⟩⟩
      · refine ⟨h1, Or.inl ⟨h2.1, fun j g1 g2 => ?_⟩⟩
        by_cases q : j = i
        · rw [q]; exact e
        · exact h2.2 j (by omega) g2
      · exact ⟨h1, Or.inr ⟨h2, j, by omega, h4⟩⟩
    · simp only [if_neg e]
      exact hv_some ⟨rfl, Or.inr ⟨rfl, i, by omega, by omega, e⟩⟩
theorem len_w : ∀ w, w < 13 → ao_len.getD w 0 ≤ 57 := by decide +kernel
theorem isw_ok {ρ : ao_H} {s : Fn} {len b e w : Nat} (hw : w < 13) {C : ao_M} (hC : CT C ρ s len) (h9 : C 3 9 = nI b) (h2 : C 3 2 = nI e) (hbe : b ≤ e) (he : e ≤ len) : hv (fun n => gX9_isWord n 3 w C ρ) (fun y => y.2 = C ∧ (y.1 = 1 ∧ mtw s b (e - b) w ∨ y.1 = 0 ∧ ¬ mtw s b (e - b) w)) := by
  have a1 := hC.1
  have a6 := hC.2.2.2.2.2.1
  have hl := len_w w hw
  unfold gX9_isWord
  refine hv_up (fun _ => fX9_isWord.eq_2 ..) ?_
  simp only [Nat.reduceEqDiff, ↓reduceIte, if_pos hw, a1, h2, h9, n_sub hbe]
  by_cases q : ao_len.getD w 0 = e - b
  · refine hv_ifT (by rw [q]) ?_
    refine hv_mono (isw_loop hw hC h9 (by omega) (ao_len.getD w 0) 0 (by omega)) ?_
    rintro y ⟨h1, h2 | ⟨h2, j, h3, h4, h5⟩⟩
    · exact ⟨h1, Or.inl ⟨h2.1, q, fun i hi => h2.2 i (by omega) (by omega)⟩⟩
    · exact ⟨h1, Or.inr ⟨h2, fun hm => h5 (hm.2 j (by omega))⟩⟩
  · refine hv_ifF (by rw [n_eq (by omega) (by omega)]; exact q) ?_
    exact hv_some ⟨rfl, Or.inr ⟨rfl, fun hm => q hm.1⟩⟩
theorem kw_ok {ρ : ao_H} {s : Fn} {len b e : Nat} {C : ao_M} (hC : CT C ρ s len) (h9 : C 3 9 = nI b) (h2 : C 3 2 = nI e) (hbe : b ≤ e) (he : e ≤ len) : hv (fun n => gX9_keywordKind n 3 C ρ) (fun y => y = (nI (kwd s b (e - b) 12 0), C)) := by
  have a1 := hC.1
  unfold gX9_keywordKind
  simp only [if_pos a1]
  refine hv_bind (isw_ok (w := 0) (by omega) hC h9 h2 hbe he) ?_
  rintro ⟨y1, y2⟩ ⟨rfl, ⟨rfl, hm0⟩ | ⟨rfl, hm0⟩⟩
  · dsimp only
    simp only [if_neg (show ¬ (1 : Int32) = 0 by decide)]
    exact hv_some (by simp only [kwd, hm0, ↓reduceIte]; rfl)
  dsimp only
  simp only [↓reduceIte]
  refine hv_bind (isw_ok (w := 1) (by omega) hC h9 h2 hbe he) ?_
  rintro ⟨y1, y2⟩ ⟨rfl, ⟨rfl, hm1⟩ | ⟨rfl, hm1⟩⟩
  · dsimp only
    simp only [if_neg (show ¬ (1 : Int32) = 0 by decide)]
    exact hv_some (by simp only [kwd, hm1, hm0, ↓reduceIte]; rfl)
  dsimp only
  simp only [↓reduceIte]
  refine hv_bind (isw_ok (w := 2) (by omega) hC h9 h2 hbe he) ?_
  rintro ⟨y1, y2⟩ ⟨rfl, ⟨rfl, hm2⟩ | ⟨rfl, hm2⟩⟩
  · dsimp only
    simp only [if_neg (show ¬ (1 : Int32) = 0 by decide)]
    exact hv_some (by simp only [kwd, hm2, hm0, hm1, ↓reduceIte]; rfl)
  dsimp only
  simp only [↓reduceIte]
  refine hv_bind (isw_ok (w := 3) (by omega) hC h9 h2 hbe he) ?_
  rintro ⟨y1, y2⟩ ⟨rfl, ⟨rfl, hm3⟩ | ⟨rfl, hm3⟩⟩
  · dsimp only
    simp only [if_neg (show ¬ (1 : Int32) = 0 by decide)]
    exact hv_some (by simp only [kwd, hm3, hm0, hm1, hm2, ↓reduceIte]; rfl)
  dsimp only
  simp only [↓reduceIte]
  refine hv_bind (isw_ok (w := 4) (by omega) hC h9 h2 hbe he) ?_
  rintro ⟨y1, y2⟩ ⟨rfl, ⟨rfl, hm4⟩ | ⟨rfl, hm4⟩⟩
  · dsimp only
    simp only [if_neg (show ¬ (1 : Int32) = 0 by decide)]
    exact hv_some (by simp only [kwd, hm4, hm0, hm1, hm2, hm3, ↓reduceIte]; rfl)
  dsimp only
  simp only [↓reduceIte]
  refine hv_bind (isw_ok (w := 5) (by omega) hC h9 h2 hbe he) ?_
  rintro ⟨y1, y2⟩ ⟨rfl, ⟨rfl, hm5⟩ | ⟨rfl, hm5⟩⟩
  · dsimp only
    simp only [if_neg (show ¬ (1 : Int32) = 0 by decide)]
    exact hv_some (by simp only [kwd, hm5, hm0, hm1, hm2, hm3, hm4, ↓reduceIte]; rfl)
  dsimp only
  simp only [↓reduceIte]
  refine hv_bind (isw_ok (w := 6) (by omega) hC h9 h2 hbe he) ?_
  rintro ⟨y1, y2⟩ ⟨rfl, ⟨rfl, hm6⟩ | ⟨rfl, hm6⟩⟩
  · dsimp only
    simp only [if_neg (show ¬ (1 : Int32) = 0 by decide)]
    exact hv_some (by simp only [kwd, hm6, hm0, hm1, hm2, hm3, hm4, hm5, ↓reduceIte]; rfl)
  dsimp only
  simp only [↓reduceIte]
  refine hv_bind (isw_ok (w := 7) (by omega) hC h9 h2 hbe he) ?_
  rintro ⟨y1, y2⟩ ⟨rfl, ⟨rfl, hm7⟩ | ⟨rfl, hm7⟩⟩
  · dsimp only
    simp only [if_neg (show ¬ (1 : Int32) = 0 by decide)]
    exact hv_some (by simp only [kwd, hm7, hm0, hm1, hm2, hm3, hm4, hm5, hm6, ↓reduceIte]; rfl)
  dsimp only
  simp only [↓reduceIte]
  refine hv_bind (isw_ok (w := 8) (by omega) hC h9 h2 hbe he) ?_
  rintro ⟨y1, y2⟩ ⟨rfl, ⟨rfl, hm8⟩ | ⟨rfl, hm8⟩⟩
  · dsimp only
    simp only [if_neg (show ¬ (1 : Int32) = 0 by decide)]
    exact hv_some (by simp only [kwd, hm8, hm0, hm1, hm2, hm3, hm4, hm5, hm6, hm7, ↓reduceIte]; rfl)
  dsimp only
  simp only [↓reduceIte]
  refine hv_bind (isw_ok (w := 9) (by omega) hC h9 h2 hbe he) ?_
  rintro ⟨y1, y2⟩ ⟨rfl, ⟨rfl, hm9⟩ | ⟨rfl, hm9⟩⟩
  · dsimp only
    simp only [if_neg (show ¬ (1 : Int32) = 0 by decide)]
    exact hv_some (by simp only [kwd, hm9, hm0, hm1, hm2, hm3, hm4, hm5, hm6, hm7, hm8, ↓reduceIte]; rfl)
  dsimp only
  simp only [↓reduceIte]
  refine hv_bind (isw_ok (w := 10) (by omega) hC h9 h2 hbe he) ?_
  rintro ⟨y1, y2⟩ ⟨rfl, ⟨rfl, hm10⟩ | ⟨rfl, hm10⟩⟩
  · dsimp only
    simp only [if_neg (show ¬ (1 : Int32) = 0 by decide)]
    exact hv_some (by simp only [kwd, hm10, hm0, hm1, hm2, hm3, hm4, hm5, hm6, hm7, hm8, hm9, ↓reduceIte]; rfl)
  dsimp only
  simp only [↓reduceIte]
  refine hv_bind (isw_ok (w := 11) (by omega) hC h9 h2 hbe he) ?_
  rintro ⟨y1, y2⟩ ⟨rfl, ⟨rfl, hm11⟩ | ⟨rfl, hm11⟩⟩
  · dsimp only
    simp only [if_neg (show ¬ (1 : Int32) = 0 by decide)]
    exact hv_some (by simp only [kwd, hm11, hm0, hm1, hm2, hm3, hm4, hm5, hm6, hm7, hm8, hm9, hm10, ↓reduceIte]; rfl)
  dsimp only
  simp only [↓reduceIte]
  exact hv_some (by simp only [kwd, hm0, hm1, hm2, hm3, hm4, hm5, hm6, hm7, hm8, hm9, hm10, hm11, ↓reduceIte]; rfl)
