set_option linter.unusedSimpArgs false
set_option linter.unusedVariables false
/-! ===== new things ===== -/
theorem nw_F {ρ : ao_H} {n kd len sl x k : Nat} (h : x ≠ n) : (ao_nw ρ n kd len sl).1 x k = ρ.1 x k := by simp [ao_nw, h]
theorem nw_K {ρ : ao_H} {n kd len sl x : Nat} (h : x ≠ n) : (ao_nw ρ n kd len sl).2.1 x = ρ.2.1 x := by simp [ao_nw, h]
theorem nw_L {ρ : ao_H} {n kd len sl x : Nat} (h : x ≠ n) : (ao_nw ρ n kd len sl).2.2.1 x = ρ.2.2.1 x := by simp [ao_nw, h]
theorem nw_Ke {ρ : ao_H} {n kd len sl : Nat} : (ao_nw ρ n kd len sl).2.1 n = kd := by simp [ao_nw]
theorem nw_Le {ρ : ao_H} {n kd len sl : Nat} : (ao_nw ρ n kd len sl).2.2.1 n = len := by simp [ao_nw]
theorem nw_Z {ρ : ao_H} {n kd len sl : Nat} : (ao_nw ρ n kd len sl).2.2.2.1 = some (n + 1) := rfl
theorem nw_c {ρ : ao_H} {n kd len sl : Nat} : (ao_nw ρ n kd len sl).2.2.2.2.1 = ρ.2.2.2.2.1 + 1 := rfl
theorem nw_s {ρ : ao_H} {n kd len sl : Nat} : (ao_nw ρ n kd len sl).2.2.2.2.2 = ρ.2.2.2.2.2 + sl := rfl
theorem r_Fe {ρ : ao_H} {i k : Nat} {j : Option Nat} : (ao_r ρ i k j).1 i k = j := by simp [ao_r]
theorem r_Fn {ρ : ao_H} {i k x c : Nat} {j : Option Nat} (h : x ≠ i) : (ao_r ρ i k j).1 x c = ρ.1 x c := by simp [ao_r, h]
theorem r_Fm {ρ : ao_H} {i k x c : Nat} {j : Option Nat} (h : c ≠ k) : (ao_r ρ i k j).1 x c = ρ.1 x c := by simp [ao_r, h]
theorem r_K {ρ : ao_H} {i k : Nat} {j : Option Nat} : (ao_r ρ i k j).2.1 = ρ.2.1 := rfl
theorem r_L {ρ : ao_H} {i k : Nat} {j : Option Nat} : (ao_r ρ i k j).2.2.1 = ρ.2.2.1 := rfl
theorem r_Z {ρ : ao_H} {i k : Nat} {j : Option Nat} : (ao_r ρ i k j).2.2.2.1 = ρ.2.2.2.1 := rfl
theorem r_c {ρ : ao_H} {i k : Nat} {j : Option Nat} : (ao_r ρ i k j).2.2.2.2 = ρ.2.2.2.2 := rfl
theorem zr_n {M : ao_M} {n a k : Nat} (h : a ≠ n) : ao_zr M n a k = M a k := by simp [ao_zr, h]
theorem cp_n {M : ao_M} {i j sp dp n a k : Nat} (h : a ≠ j) : ao_cp M i j sp dp n a k = M a k := by simp [ao_cp, h]
theorem cp_e {M : ao_M} {i j n k : Nat} (h : k < n) : ao_cp M i j 0 0 n j k = M i k := by simp [ao_cp, h]
/-- a longer copy -/
theorem c_copyOf {ρ : ao_H} {M : ao_M} {a rm z : Nat} (hk : ρ.2.1 a = 0) (hl : ρ.2.2.1 a = rm) (hz : ρ.2.2.2.1 = some z) (ha : a ≠ z) (h1 : 1 ≤ rm) (h2 : rm ≤ 60000) {Q : Nat × ao_S → Prop}
    (q : Q (z, ao_cp (ao_zr M z) a z 0 0 rm, ao_nw ρ z 0 (2 * rm) (2 * rm))) : hv (fun n => gJ7_copyOf_59c91 n a (nI (rm * 2)) M ρ) Q := by
  unfold gJ7_copyOf_59c91
  refine hv_up (fun _ => fJ7_copyOf_59c91.eq_2 ..) ?_
  simp only [↓reduceIte, hk, hl, hz, Option.bind_some, n_eq (show rm * 2 < 2147483648 by omega) (show rm < 2147483648 by omega), f_eq (show rm * 2 ≠ rm by omega), n_cl (show rm * 2 < 2147483648 by omega), n_ltl (show rm * 2 < 2147483648 by omega) (show 0 < 2147483648 by omega), f_lt (show 0 ≤ rm * 2 by omega), t_le (show rm * 2 * 8 ≤ 536870912 by omega), not_false_eq_true, and_self]
  refine hv_up (fun _ => fJ7_copyOf_59c91.eq_2 ..) ?_
  simp only [↓reduceIte, Nat.reduceEqDiff, nw_K ha, nw_L ha, hk, hl, nw_Ke, nw_Le, n_lt (show rm * 2 < 2147483648 by omega) (show rm < 2147483648 by omega), f_lt (show rm ≤ rm * 2 by omega), n_cl (show rm < 2147483648 by omega), n_ltl (show rm < 2147483648 by omega) (show 0 < 2147483648 by omega), f_lt (show 0 ≤ rm by omega), Int32.reduceLT, Int32.reduceToNatClampNeg, Nat.zero_add, t_le (show rm ≤ rm * 2 by omega), Nat.le_refl, not_false_eq_true, and_self, ao_let]
  refine hv_some ?_
  rw [Nat.mul_comm rm 2]
  exact q
theorem d_longerL {σ : ao_H} {a z rm : Nat} (hk : σ.2.1 a = 0) (hl : σ.2.2.1 a = rm) (hkz : σ.2.1 z = 0) (hlz : σ.2.2.1 z = 2 * rm) (ha : a ≠ z) (h2 : rm ≤ 60000) : ∀ (k p : Nat) (D : ao_M), p + k = rm →
    hv (fun n => fX12_longer n 9 a z (nI p) 0 D σ) (fun y => y = (z, (fun x i => if x = z ∧ p ≤ i ∧ i < rm then D a i else D x i), σ)) := by
  intro k
  induction k with
  | zero =>
    intro p D h
    obtain rfl : p = rm := by omega
    refine hv_up (fun _ => fX12_longer.eq_2 ..) ?_
    try simp only [↓reduceIte, Nat.reduceEqDiff, Option.bind_some, ao_let, hk, hl, hkz, hlz]
    try simp (disch := first | omega | assumption) only [↓reduceIte, Nat.reduceEqDiff, Option.bind_some, ao_let, t_le, f_le, t_lt, f_lt, f_eq, u_eq, u_n1, u_n2, n_cl, n_lt, n_le, n_eq, n_ltl, n_llt, n_lel, n_lle, n_eql, n_leq, n_add, n_mul, n_sub, n_addl, n_ladd, n_mull, n_lmul, n_subl, Int32.reduceLT, Int32.reduceLE, Int32.reduceAdd, Int32.reduceSub, Int32.reduceMul, Int32.reduceToNatClampNeg, not_false_eq_true, not_true_eq_false, or_false, false_or, or_self, and_self, false_and, true_and, and_false, and_true, true_or, or_true, Nat.reduceAdd, Nat.reduceMul, Nat.reduceLT, Nat.reduceLeDiff, ne_eq, hk, hl, hkz, hlz]
    refine hv_some ?_
    refine congrArg (fun m => (z, m, σ)) ?_
    funext x i
    grind
  | succ k ih =>
    intro p D h
    refine hv_up (fun _ => fX12_longer.eq_2 ..) ?_
    try simp only [↓reduceIte, Nat.reduceEqDiff, Option.bind_some, ao_let, hk, hl, hkz, hlz]
    try simp (disch := first | omega | assumption) only [↓reduceIte, Nat.reduceEqDiff, Option.bind_some, ao_let, t_le, f_le, t_lt, f_lt, f_eq, u_eq, u_n1, u_n2, n_cl, n_lt, n_le, n_eq, n_ltl, n_llt, n_lel, n_lle, n_eql, n_leq, n_add, n_mul, n_sub, n_addl, n_ladd, n_mull, n_lmul, n_subl, Int32.reduceLT, Int32.reduceLE, Int32.reduceAdd, Int32.reduceSub, Int32.reduceMul, Int32.reduceToNatClampNeg, not_false_eq_true, not_true_eq_false, or_false, false_or, or_self, and_self, false_and, true_and, and_false, and_true, true_or, or_true, Nat.reduceAdd, Nat.reduceMul, Nat.reduceLT, Nat.reduceLeDiff, ne_eq, hk, hl, hkz, hlz]
    refine hv_mono (ih _ _ (by omega)) ?_
    rintro _ rfl
    refine congrArg (fun m => (z, m, σ)) ?_
    funext x i
    simp only [ao_u]
    grind
theorem d_longer {σ : ao_H} {D : ao_M} {a rm z : Nat} (hk : σ.2.1 a = 0) (hl : σ.2.2.1 a = rm) (hz : σ.2.2.2.1 = some z) (ha : a ≠ z) (h1 : 1 ≤ rm) (h2 : rm ≤ 60000) {Q : Nat × ao_S → Prop}
    (q : ∀ D', (∀ x, x ≠ z → D' x = D x) → (∀ i, i < rm → D' z i = D a i) → Q (z, D', ao_nw σ z 0 (2 * rm) (2 * rm))) : hv (fun n => gX12_longer n a D σ) Q := by
  unfold gX12_longer
  refine hv_up (fun _ => fX12_longer.eq_2 ..) ?_
  try simp only [↓reduceIte, Nat.reduceEqDiff, Option.bind_some, ao_let, hk, hl, hz]
  try simp (disch := first | omega | assumption) only [↓reduceIte, Nat.reduceEqDiff, Option.bind_some, ao_let, t_le, f_le, t_lt, f_lt, f_eq, u_eq, u_n1, u_n2, n_cl, n_lt, n_le, n_eq, n_ltl, n_llt, n_lel, n_lle, n_eql, n_leq, n_add, n_mul, n_sub, n_addl, n_ladd, n_mull, n_lmul, n_subl, Int32.reduceLT, Int32.reduceLE, Int32.reduceAdd, Int32.reduceSub, Int32.reduceMul, Int32.reduceToNatClampNeg, not_false_eq_true, not_true_eq_false, or_false, false_or, or_self, and_self, false_and, true_and, and_false, and_true, true_or, or_true, Nat.reduceAdd, Nat.reduceMul, Nat.reduceLT, Nat.reduceLeDiff, ne_eq, hk, hl, hz]
  refine hv_up (fun _ => fX12_longer.eq_2 ..) ?_
  try simp only [↓reduceIte, Nat.reduceEqDiff, Option.bind_some, ao_let]
  try simp (disch := first | omega | assumption) only [↓reduceIte, Nat.reduceEqDiff, Option.bind_some, ao_let, t_le, f_le, t_lt, f_lt, f_eq, u_eq, u_n1, u_n2, n_cl, n_lt, n_le, n_eq, n_ltl, n_llt, n_lel, n_lle, n_eql, n_leq, n_add, n_mul, n_sub, n_addl, n_ladd, n_mull, n_lmul, n_subl, Int32.reduceLT, Int32.reduceLE, Int32.reduceAdd, Int32.reduceSub, Int32.reduceMul, Int32.reduceToNatClampNeg, not_false_eq_true, not_true_eq_false, or_false, false_or, or_self, and_self, false_and, true_and, and_false, and_true, true_or, or_true, Nat.reduceAdd, Nat.reduceMul, Nat.reduceLT, Nat.reduceLeDiff, ne_eq]
  refine hv_mono (d_longerL (a := a) (z := z) (rm := rm) ?_ ?_ ?_ ?_ ha h2 rm 0 _ (by omega)) ?_
  · rw [nw_K ha, hk]
  · rw [nw_L ha, hl]
  · rw [nw_Ke]
  · rw [nw_Le]
  · rintro _ rfl
    refine q _ ?_ ?_
    · intro x hx
      funext i
      simp [ao_zr, hx]
    · intro i hi
      simp [ao_zr, hi, ha]
/-! ===== the pasts ===== -/
def updF (f : Nat → Int32) (k : Nat) (v : Int32) : Nat → Int32 := fun i => if i = k then v else f i
/-- the class's pasts: k of them; clocks f, values g, those before h -/
def PLc (C : ao_M) (ρ : ao_H) (k : Nat) (f g h : Nat → Int32) : Prop := ∃ a b c rm z, ρ.1 13 6 = some a ∧ ρ.1 13 7 = some b ∧ ρ.1 13 8 = some c ∧ ρ.2.1 a = 0 ∧ ρ.2.1 b = 0 ∧ ρ.2.1 c = 0 ∧ ρ.2.2.1 a = rm ∧ ρ.2.2.1 b = rm ∧ ρ.2.2.1 c = rm ∧
  C 13 9 = nI rm ∧ C 13 10 = nI k ∧ k ≤ rm ∧ 64 ≤ rm ∧ rm ≤ 60000 ∧ a ≠ b ∧ a ≠ c ∧ b ≠ c ∧ (19 ≤ a ∧ a ≤ 21 ∨ 599 ≤ a) ∧ (19 ≤ b ∧ b ≤ 21 ∨ 599 ≤ b) ∧ (19 ≤ c ∧ c ≤ 21 ∨ 599 ≤ c) ∧
  ρ.2.2.2.1 = some z ∧ 599 ≤ z ∧ a < z ∧ b < z ∧ c < z ∧ ∀ i, i < k → C a i = f i ∧ C b i = g i ∧ C c i = h i
def PLd (D : ao_M) (σ : ao_H) (k : Nat) (f g h : Nat → Int32) : Prop := ∃ a b c rm z, σ.1 537 22 = some a ∧ σ.1 537 23 = some b ∧ σ.1 537 24 = some c ∧ σ.2.1 a = 0 ∧ σ.2.1 b = 0 ∧ σ.2.1 c = 0 ∧ σ.2.2.1 a = rm ∧ σ.2.2.1 b = rm ∧ σ.2.2.1 c = rm ∧
  D 537 25 = nI k ∧ k ≤ rm ∧ 64 ≤ rm ∧ rm ≤ 60000 ∧ a ≠ b ∧ a ≠ c ∧ b ≠ c ∧ (547 ≤ a ∧ a ≤ 549 ∨ 599 ≤ a) ∧ (547 ≤ b ∧ b ≤ 549 ∨ 599 ≤ b) ∧ (547 ≤ c ∧ c ≤ 549 ∨ 599 ≤ c) ∧
  σ.2.2.2.1 = some z ∧ 599 ≤ z ∧ a < z ∧ b < z ∧ c < z ∧ ∀ i, i < k → D a i = f i ∧ D b i = g i ∧ D c i = h i
/-- x is one of the arrays of pasts -/
def PAc (ρ : ao_H) (x : Nat) : Prop := ρ.1 13 6 = some x ∨ ρ.1 13 7 = some x ∨ ρ.1 13 8 = some x
def PAd (σ : ao_H) (x : Nat) : Prop := σ.1 537 22 = some x ∨ σ.1 537 23 = some x ∨ σ.1 537 24 = some x
def rmC (C : ao_M) : Nat := (C 13 9).toNatClampNeg
def rmD (σ : ao_H) : Nat := σ.2.2.1 ((σ.1 537 22).getD 0)
/-- what a change of the class leaves of the shapes -/
def HxC (C : ao_M) (ρ : ao_H) (C' : ao_M) (ρ' : ao_H) : Prop := ∃ z z', ρ.2.2.2.1 = some z ∧ ρ'.2.2.2.1 = some z' ∧ z ≤ z' ∧ (∀ x, x < z → ρ'.2.1 x = ρ.2.1 x ∧ ρ'.2.2.1 x = ρ.2.2.1 x) ∧ (∀ x k, x < z → (x ≠ 13 ∨ k < 6 ∨ 8 < k) → ρ'.1 x k = ρ.1 x k) ∧
  (∀ x, PAc ρ' x → PAc ρ x ∨ z ≤ x) ∧ ρ'.2.2.2.2.1 + rmC C ≤ ρ.2.2.2.2.1 + rmC C' ∧ ρ'.2.2.2.2.2 + 6 * rmC C = ρ.2.2.2.2.2 + 6 * rmC C'
def HxD (σ σ' : ao_H) : Prop := ∃ z z', σ.2.2.2.1 = some z ∧ σ'.2.2.2.1 = some z' ∧ z ≤ z' ∧ (∀ x, x < z → σ'.2.1 x = σ.2.1 x ∧ σ'.2.2.1 x = σ.2.2.1 x) ∧ (∀ x k, x < z → (x ≠ 537 ∨ k < 22 ∨ 24 < k) → σ'.1 x k = σ.1 x k) ∧
  (∀ x, PAd σ' x → PAd σ x ∨ z ≤ x) ∧ σ'.2.2.2.2.1 + rmD σ ≤ σ.2.2.2.2.1 + rmD σ' ∧ σ'.2.2.2.2.2 + 6 * rmD σ = σ.2.2.2.2.2 + 6 * rmD σ'
/-- what a change does to the class's fixed things -/
def chC (p : Nat) (v : Int32) (k : Nat) (C : ao_M) : ao_M := fun x i => if x = 14 ∧ i = p then v else if x = 15 ∧ i = p then C 13 4 else if x = 18 ∧ i = p then nI k else if x = 13 ∧ i = 10 then nI (k + 1) else C x i
def chD (p : Nat) (k : Nat) (D : ao_M) : ao_M := fun x i => if x = 543 ∧ i = p then D 537 26 else if x = 546 ∧ i = p then nI k else if x = 537 ∧ i = 25 then nI (k + 1) else D x i
theorem c_change103 {ρ : ao_H} {C : ao_M} {k p : Nat} {f g h : Nat → Int32} {v : Int32} (hs : ShA ρ) (pl : PLc C ρ k f g h) (hk : k < rmC C) (hp : p < 26) {Q : ao_S → Prop}
    (q : ∀ C', PLc C' ρ (k + 1) (updF f k (C 13 4)) (updF g k v) (updF h k (C 18 p)) → (∀ x i, ¬ PAc ρ x → C' x i = if x = 18 ∧ i = p then nI k else if x = 13 ∧ i = 10 then nI (k + 1) else C x i) → Q (C', ρ)) :
    hv (fun n => fX5_change n 103 13 (nI p) v 0 0 C ρ) Q := by
  obtain ⟨a, b, c, rm, z, F6, F7, F8, ka, kb, kc, la, lb, lc, m9, m10, h1, h2, h3, ab, ac, bc, da, db, dc, hz, hz9, az, bz, cz, eqs⟩ := pl
  have hk' : k < rm := by simpa [rmC, m9, n_cl (show rm < 2147483648 by omega)] using hk
  refine hv_up (fun _ => fX5_change.eq_2 ..) ?_
  try simp only [↓reduceIte, Nat.reduceEqDiff, Option.bind_some, ao_let, hs, F6, F7, F8, ka, kb, kc, la, lb, lc, m9, m10]
  try simp (disch := first | omega | assumption) only [↓reduceIte, Nat.reduceEqDiff, Option.bind_some, ao_let, t_le, f_le, t_lt, f_lt, f_eq, u_eq, u_n1, u_n2, n_cl, n_lt, n_le, n_eq, n_ltl, n_llt, n_lel, n_lle, n_eql, n_leq, n_add, n_mul, n_sub, n_addl, n_ladd, n_mull, n_lmul, n_subl, Int32.reduceLT, Int32.reduceLE, Int32.reduceAdd, Int32.reduceSub, Int32.reduceMul, Int32.reduceToNatClampNeg, not_false_eq_true, not_true_eq_false, or_false, false_or, or_self, and_self, false_and, true_and, and_false, and_true, true_or, or_true, Nat.reduceAdd, Nat.reduceMul, Nat.reduceLT, Nat.reduceLeDiff, ne_eq, hs, F6, F7, F8, ka, kb, kc, la, lb, lc, m9, m10]
  refine hv_some (q _ ?_ ?_)
  · refine ⟨a, b, c, rm, z, F6, F7, F8, ka, kb, kc, la, lb, lc, ?_, ?_, by omega, h2, h3, ab, ac, bc, da, db, dc, hz, hz9, az, bz, cz, ?_⟩
    · try simp only [↓reduceIte, Nat.reduceEqDiff, Option.bind_some, ao_let, m9]
      try simp (disch := first | omega | assumption) only [↓reduceIte, Nat.reduceEqDiff, Option.bind_some, ao_let, t_le, f_le, t_lt, f_lt, f_eq, u_eq, u_n1, u_n2, n_cl, n_lt, n_le, n_eq, n_ltl, n_llt, n_lel, n_lle, n_eql, n_leq, n_add, n_mul, n_sub, n_addl, n_ladd, n_mull, n_lmul, n_subl, Int32.reduceLT, Int32.reduceLE, Int32.reduceAdd, Int32.reduceSub, Int32.reduceMul, Int32.reduceToNatClampNeg, not_false_eq_true, not_true_eq_false, or_false, false_or, or_self, and_self, false_and, true_and, and_false, and_true, true_or, or_true, Nat.reduceAdd, Nat.reduceMul, Nat.reduceLT, Nat.reduceLeDiff, ne_eq, m9]
    · try simp only [↓reduceIte, Nat.reduceEqDiff, Option.bind_some, ao_let]
      try simp (disch := first | omega | assumption) only [↓reduceIte, Nat.reduceEqDiff, Option.bind_some, ao_let, t_le, f_le, t_lt, f_lt, f_eq, u_eq, u_n1, u_n2, n_cl, n_lt, n_le, n_eq, n_ltl, n_llt, n_lel, n_lle, n_eql, n_leq, n_add, n_mul, n_sub, n_addl, n_ladd, n_mull, n_lmul, n_subl, Int32.reduceLT, Int32.reduceLE, Int32.reduceAdd, Int32.reduceSub, Int32.reduceMul, Int32.reduceToNatClampNeg, not_false_eq_true, not_true_eq_false, or_false, false_or, or_self, and_self, false_and, true_and, and_false, and_true, true_or, or_true, Nat.reduceAdd, Nat.reduceMul, Nat.reduceLT, Nat.reduceLeDiff, ne_eq]
    · intro i hi
      simp only [updF]
      by_cases e : i = k
      · subst e
        try simp only [↓reduceIte, Nat.reduceEqDiff, Option.bind_some, ao_let, m10]
        try simp (disch := first | omega | assumption) only [↓reduceIte, Nat.reduceEqDiff, Option.bind_some, ao_let, t_le, f_le, t_lt, f_lt, f_eq, u_eq, u_n1, u_n2, n_cl, n_lt, n_le, n_eq, n_ltl, n_llt, n_lel, n_lle, n_eql, n_leq, n_add, n_mul, n_sub, n_addl, n_ladd, n_mull, n_lmul, n_subl, Int32.reduceLT, Int32.reduceLE, Int32.reduceAdd, Int32.reduceSub, Int32.reduceMul, Int32.reduceToNatClampNeg, not_false_eq_true, not_true_eq_false, or_false, false_or, or_self, and_self, false_and, true_and, and_false, and_true, true_or, or_true, Nat.reduceAdd, Nat.reduceMul, Nat.reduceLT, Nat.reduceLeDiff, ne_eq, m10]
      · obtain ⟨e1, e2, e3⟩ := eqs i (by omega)
        try simp only [↓reduceIte, Nat.reduceEqDiff, Option.bind_some, ao_let, e, e1, e2, e3]
        try simp (disch := first | omega | assumption) only [↓reduceIte, Nat.reduceEqDiff, Option.bind_some, ao_let, t_le, f_le, t_lt, f_lt, f_eq, u_eq, u_n1, u_n2, n_cl, n_lt, n_le, n_eq, n_ltl, n_llt, n_lel, n_lle, n_eql, n_leq, n_add, n_mul, n_sub, n_addl, n_ladd, n_mull, n_lmul, n_subl, Int32.reduceLT, Int32.reduceLE, Int32.reduceAdd, Int32.reduceSub, Int32.reduceMul, Int32.reduceToNatClampNeg, not_false_eq_true, not_true_eq_false, or_false, false_or, or_self, and_self, false_and, true_and, and_false, and_true, true_or, or_true, Nat.reduceAdd, Nat.reduceMul, Nat.reduceLT, Nat.reduceLeDiff, ne_eq, e, e1, e2, e3]
  · intro x i hx
    have xa : x ≠ a := fun e => hx (by rw [e]; exact Or.inl F6)
    have xb : x ≠ b := fun e => hx (by rw [e]; exact Or.inr (Or.inl F7))
    have xc : x ≠ c := fun e => hx (by rw [e]; exact Or.inr (Or.inr F8))
    simp only [ao_u]
    clear hs q eqs
    grind (splits := 20)
theorem c_grow {ρ : ao_H} {C : ao_M} {k p : Nat} {f g h : Nat → Int32} {v : Int32} (hs : ShA ρ) (pl : PLc C ρ k f g h) (hk : rmC C ≤ k) (hk3 : k ≤ 30000) {Q : ao_S → Prop}
    (q : ∀ C' ρ', ShA ρ' → PLc C' ρ' k f g h → k < rmC C' → HxC C ρ C' ρ' → (∀ x i, ¬ PAc ρ' x → (x ≠ 13 ∨ i ≠ 9) → (∀ z, ρ.2.2.2.1 = some z → x < z) → C' x i = C x i) → hv (fun n => fX5_change n 103 13 (nI p) v 0 0 C' ρ') Q)
    (rm0 : Nat) (er0 : rmC C = rm0) (j15 : Nat) (e15 : ρ.1 13 6 = some j15) : hv (fun n => (gJ7_copyOf_59c91 n j15 (nI (rm0 * 2)) (ao_u C 13 9 (nI (rm0 * 2))) ρ).bind fun p16 => fX5_change n 70 13 (nI p) v p16.1 13 p16.2.1 p16.2.2) Q := by
  obtain ⟨a, b, c, rm, z, F6, F7, F8, ka, kb, kc, la, lb, lc, m9, m10, h1, h2, h3, ab, ac, bc, da, db, dc, hz, hz9, az, bz, cz, eqs⟩ := pl
  have er : rmC C = rm := by simp [rmC, m9, n_cl (show rm < 2147483648 by omega)]
  obtain rfl : j15 = a := by rw [F6] at e15; exact (Option.some.inj e15).symm
  have hk' : k = rm := by omega
  subst hk'
  obtain rfl : k = rm0 := by omega
  refine hv_bind (c_copyOf ka la hz (by omega) (by omega) h3 (rfl : _ = _)) ?_
  rintro _ rfl
  refine hv_up (fun _ => fX5_change.eq_2 ..) ?_
  try simp only [↓reduceIte, Nat.reduceEqDiff, Option.bind_some, ao_let, hs, nw_K]
  try simp (disch := first | omega | assumption) only [↓reduceIte, Nat.reduceEqDiff, Option.bind_some, ao_let, t_le, f_le, t_lt, f_lt, f_eq, u_eq, u_n1, u_n2, n_cl, n_lt, n_le, n_eq, n_ltl, n_llt, n_lel, n_lle, n_eql, n_leq, n_add, n_mul, n_sub, n_addl, n_ladd, n_mull, n_lmul, n_subl, Int32.reduceLT, Int32.reduceLE, Int32.reduceAdd, Int32.reduceSub, Int32.reduceMul, Int32.reduceToNatClampNeg, not_false_eq_true, not_true_eq_false, or_false, false_or, or_self, and_self, false_and, true_and, and_false, and_true, true_or, or_true, Nat.reduceAdd, Nat.reduceMul, Nat.reduceLT, Nat.reduceLeDiff, ne_eq, hs, nw_K]
  refine hv_up (fun _ => fX5_change.eq_2 ..) ?_
  try simp only [↓reduceIte, Nat.reduceEqDiff, Option.bind_some, ao_let, hs, nw_K, r_K, r_Fe, r_Fn, r_Fm, nw_F, F7, u_eq, zr_n, cp_n]
  try simp (disch := first | omega | assumption) only [↓reduceIte, Nat.reduceEqDiff, Option.bind_some, ao_let, t_le, f_le, t_lt, f_lt, f_eq, u_eq, u_n1, u_n2, n_cl, n_lt, n_le, n_eq, n_ltl, n_llt, n_lel, n_lle, n_eql, n_leq, n_add, n_mul, n_sub, n_addl, n_ladd, n_mull, n_lmul, n_subl, Int32.reduceLT, Int32.reduceLE, Int32.reduceAdd, Int32.reduceSub, Int32.reduceMul, Int32.reduceToNatClampNeg, not_false_eq_true, not_true_eq_false, or_false, false_or, or_self, and_self, false_and, true_and, and_false, and_true, true_or, or_true, Nat.reduceAdd, Nat.reduceMul, Nat.reduceLT, Nat.reduceLeDiff, ne_eq, hs, nw_K, r_K, r_Fe, r_Fn, r_Fm, nw_F, F7, u_eq, zr_n, cp_n]
  refine hv_bind (c_copyOf (a := b) (rm := k) (z := z + 1) ?_ ?_ ?_ (by omega) (by omega) h3 (rfl : _ = _)) ?_
  · try simp only [↓reduceIte, Nat.reduceEqDiff, Option.bind_some, ao_let, r_K, nw_K, kb]
    try simp (disch := first | omega | assumption) only [↓reduceIte, Nat.reduceEqDiff, Option.bind_some, ao_let, t_le, f_le, t_lt, f_lt, f_eq, u_eq, u_n1, u_n2, n_cl, n_lt, n_le, n_eq, n_ltl, n_llt, n_lel, n_lle, n_eql, n_leq, n_add, n_mul, n_sub, n_addl, n_ladd, n_mull, n_lmul, n_subl, Int32.reduceLT, Int32.reduceLE, Int32.reduceAdd, Int32.reduceSub, Int32.reduceMul, Int32.reduceToNatClampNeg, not_false_eq_true, not_true_eq_false, or_false, false_or, or_self, and_self, false_and, true_and, and_false, and_true, true_or, or_true, Nat.reduceAdd, Nat.reduceMul, Nat.reduceLT, Nat.reduceLeDiff, ne_eq, r_K, nw_K, kb]
  · try simp only [↓reduceIte, Nat.reduceEqDiff, Option.bind_some, ao_let, r_L, nw_L, lb]
    try simp (disch := first | omega | assumption) only [↓reduceIte, Nat.reduceEqDiff, Option.bind_some, ao_let, t_le, f_le, t_lt, f_lt, f_eq, u_eq, u_n1, u_n2, n_cl, n_lt, n_le, n_eq, n_ltl, n_llt, n_lel, n_lle, n_eql, n_leq, n_add, n_mul, n_sub, n_addl, n_ladd, n_mull, n_lmul, n_subl, Int32.reduceLT, Int32.reduceLE, Int32.reduceAdd, Int32.reduceSub, Int32.reduceMul, Int32.reduceToNatClampNeg, not_false_eq_true, not_true_eq_false, or_false, false_or, or_self, and_self, false_and, true_and, and_false, and_true, true_or, or_true, Nat.reduceAdd, Nat.reduceMul, Nat.reduceLT, Nat.reduceLeDiff, ne_eq, r_L, nw_L, lb]
  · try simp only [↓reduceIte, Nat.reduceEqDiff, Option.bind_some, ao_let, r_Z, nw_Z]
    try simp (disch := first | omega | assumption) only [↓reduceIte, Nat.reduceEqDiff, Option.bind_some, ao_let, t_le, f_le, t_lt, f_lt, f_eq, u_eq, u_n1, u_n2, n_cl, n_lt, n_le, n_eq, n_ltl, n_llt, n_lel, n_lle, n_eql, n_leq, n_add, n_mul, n_sub, n_addl, n_ladd, n_mull, n_lmul, n_subl, Int32.reduceLT, Int32.reduceLE, Int32.reduceAdd, Int32.reduceSub, Int32.reduceMul, Int32.reduceToNatClampNeg, not_false_eq_true, not_true_eq_false, or_false, false_or, or_self, and_self, false_and, true_and, and_false, and_true, true_or, or_true, Nat.reduceAdd, Nat.reduceMul, Nat.reduceLT, Nat.reduceLeDiff, ne_eq, r_Z, nw_Z]
  rintro _ rfl
  refine hv_up (fun _ => fX5_change.eq_2 ..) ?_
  try simp only [↓reduceIte, Nat.reduceEqDiff, Option.bind_some, ao_let, hs, nw_K, r_K]
  try simp (disch := first | omega | assumption) only [↓reduceIte, Nat.reduceEqDiff, Option.bind_some, ao_let, t_le, f_le, t_lt, f_lt, f_eq, u_eq, u_n1, u_n2, n_cl, n_lt, n_le, n_eq, n_ltl, n_llt, n_lel, n_lle, n_eql, n_leq, n_add, n_mul, n_sub, n_addl, n_ladd, n_mull, n_lmul, n_subl, Int32.reduceLT, Int32.reduceLE, Int32.reduceAdd, Int32.reduceSub, Int32.reduceMul, Int32.reduceToNatClampNeg, not_false_eq_true, not_true_eq_false, or_false, false_or, or_self, and_self, false_and, true_and, and_false, and_true, true_or, or_true, Nat.reduceAdd, Nat.reduceMul, Nat.reduceLT, Nat.reduceLeDiff, ne_eq, hs, nw_K, r_K]
  refine hv_up (fun _ => fX5_change.eq_2 ..) ?_
  try simp only [↓reduceIte, Nat.reduceEqDiff, Option.bind_some, ao_let, hs, nw_K, r_K, r_Fe, r_Fn, r_Fm, nw_F, F8, u_eq, zr_n, cp_n]
  try simp (disch := first | omega | assumption) only [↓reduceIte, Nat.reduceEqDiff, Option.bind_some, ao_let, t_le, f_le, t_lt, f_lt, f_eq, u_eq, u_n1, u_n2, n_cl, n_lt, n_le, n_eq, n_ltl, n_llt, n_lel, n_lle, n_eql, n_leq, n_add, n_mul, n_sub, n_addl, n_ladd, n_mull, n_lmul, n_subl, Int32.reduceLT, Int32.reduceLE, Int32.reduceAdd, Int32.reduceSub, Int32.reduceMul, Int32.reduceToNatClampNeg, not_false_eq_true, not_true_eq_false, or_false, false_or, or_self, and_self, false_and, true_and, and_false, and_true, true_or, or_true, Nat.reduceAdd, Nat.reduceMul, Nat.reduceLT, Nat.reduceLeDiff, ne_eq, hs, nw_K, r_K, r_Fe, r_Fn, r_Fm, nw_F, F8, u_eq, zr_n, cp_n]
  refine hv_bind (c_copyOf (a := c) (rm := k) (z := z + 2) ?_ ?_ ?_ (by omega) (by omega) h3 (rfl : _ = _)) ?_
  · try simp only [↓reduceIte, Nat.reduceEqDiff, Option.bind_some, ao_let, r_K, nw_K, kc]
    try simp (disch := first | omega | assumption) only [↓reduceIte, Nat.reduceEqDiff, Option.bind_some, ao_let, t_le, f_le, t_lt, f_lt, f_eq, u_eq, u_n1, u_n2, n_cl, n_lt, n_le, n_eq, n_ltl, n_llt, n_lel, n_lle, n_eql, n_leq, n_add, n_mul, n_sub, n_addl, n_ladd, n_mull, n_lmul, n_subl, Int32.reduceLT, Int32.reduceLE, Int32.reduceAdd, Int32.reduceSub, Int32.reduceMul, Int32.reduceToNatClampNeg, not_false_eq_true, not_true_eq_false, or_false, false_or, or_self, and_self, false_and, true_and, and_false, and_true, true_or, or_true, Nat.reduceAdd, Nat.reduceMul, Nat.reduceLT, Nat.reduceLeDiff, ne_eq, r_K, nw_K, kc]
  · try simp only [↓reduceIte, Nat.reduceEqDiff, Option.bind_some, ao_let, r_L, nw_L, lc]
    try simp (disch := first | omega | assumption) only [↓reduceIte, Nat.reduceEqDiff, Option.bind_some, ao_let, t_le, f_le, t_lt, f_lt, f_eq, u_eq, u_n1, u_n2, n_cl, n_lt, n_le, n_eq, n_ltl, n_llt, n_lel, n_lle, n_eql, n_leq, n_add, n_mul, n_sub, n_addl, n_ladd, n_mull, n_lmul, n_subl, Int32.reduceLT, Int32.reduceLE, Int32.reduceAdd, Int32.reduceSub, Int32.reduceMul, Int32.reduceToNatClampNeg, not_false_eq_true, not_true_eq_false, or_false, false_or, or_self, and_self, false_and, true_and, and_false, and_true, true_or, or_true, Nat.reduceAdd, Nat.reduceMul, Nat.reduceLT, Nat.reduceLeDiff, ne_eq, r_L, nw_L, lc]
  · try simp only [↓reduceIte, Nat.reduceEqDiff, Option.bind_some, ao_let, r_Z, nw_Z]
    try simp (disch := first | omega | assumption) only [↓reduceIte, Nat.reduceEqDiff, Option.bind_some, ao_let, t_le, f_le, t_lt, f_lt, f_eq, u_eq, u_n1, u_n2, n_cl, n_lt, n_le, n_eq, n_ltl, n_llt, n_lel, n_lle, n_eql, n_leq, n_add, n_mul, n_sub, n_addl, n_ladd, n_mull, n_lmul, n_subl, Int32.reduceLT, Int32.reduceLE, Int32.reduceAdd, Int32.reduceSub, Int32.reduceMul, Int32.reduceToNatClampNeg, not_false_eq_true, not_true_eq_false, or_false, false_or, or_self, and_self, false_and, true_and, and_false, and_true, true_or, or_true, Nat.reduceAdd, Nat.reduceMul, Nat.reduceLT, Nat.reduceLeDiff, ne_eq, r_Z, nw_Z]
  rintro _ rfl
  refine hv_up (fun _ => fX5_change.eq_2 ..) ?_
  try simp only [↓reduceIte, Nat.reduceEqDiff, Option.bind_some, ao_let, hs, nw_K, r_K]
  try simp (disch := first | omega | assumption) only [↓reduceIte, Nat.reduceEqDiff, Option.bind_some, ao_let, t_le, f_le, t_lt, f_lt, f_eq, u_eq, u_n1, u_n2, n_cl, n_lt, n_le, n_eq, n_ltl, n_llt, n_lel, n_lle, n_eql, n_leq, n_add, n_mul, n_sub, n_addl, n_ladd, n_mull, n_lmul, n_subl, Int32.reduceLT, Int32.reduceLE, Int32.reduceAdd, Int32.reduceSub, Int32.reduceMul, Int32.reduceToNatClampNeg, not_false_eq_true, not_true_eq_false, or_false, false_or, or_self, and_self, false_and, true_and, and_false, and_true, true_or, or_true, Nat.reduceAdd, Nat.reduceMul, Nat.reduceLT, Nat.reduceLeDiff, ne_eq, hs, nw_K, r_K]
  refine q _ _ ?_ ?_ ?_ ?_ ?_
  · refine ShA_keep ?_ ?_ ?_ hs
    · intro x hx
      try simp only [↓reduceIte, Nat.reduceEqDiff, Option.bind_some, ao_let, nw_K, r_K]
      try simp (disch := first | omega | assumption) only [↓reduceIte, Nat.reduceEqDiff, Option.bind_some, ao_let, t_le, f_le, t_lt, f_lt, f_eq, u_eq, u_n1, u_n2, n_cl, n_lt, n_le, n_eq, n_ltl, n_llt, n_lel, n_lle, n_eql, n_leq, n_add, n_mul, n_sub, n_addl, n_ladd, n_mull, n_lmul, n_subl, Int32.reduceLT, Int32.reduceLE, Int32.reduceAdd, Int32.reduceSub, Int32.reduceMul, Int32.reduceToNatClampNeg, not_false_eq_true, not_true_eq_false, or_false, false_or, or_self, and_self, false_and, true_and, and_false, and_true, true_or, or_true, Nat.reduceAdd, Nat.reduceMul, Nat.reduceLT, Nat.reduceLeDiff, ne_eq, nw_K, r_K]
    · intro x hx
      try simp only [↓reduceIte, Nat.reduceEqDiff, Option.bind_some, ao_let, nw_L, r_L]
      try simp (disch := first | omega | assumption) only [↓reduceIte, Nat.reduceEqDiff, Option.bind_some, ao_let, t_le, f_le, t_lt, f_lt, f_eq, u_eq, u_n1, u_n2, n_cl, n_lt, n_le, n_eq, n_ltl, n_llt, n_lel, n_lle, n_eql, n_leq, n_add, n_mul, n_sub, n_addl, n_ladd, n_mull, n_lmul, n_subl, Int32.reduceLT, Int32.reduceLE, Int32.reduceAdd, Int32.reduceSub, Int32.reduceMul, Int32.reduceToNatClampNeg, not_false_eq_true, not_true_eq_false, or_false, false_or, or_self, and_self, false_and, true_and, and_false, and_true, true_or, or_true, Nat.reduceAdd, Nat.reduceMul, Nat.reduceLT, Nat.reduceLeDiff, ne_eq, nw_L, r_L]
    · intro x i hx hi
      by_cases e : x = 13
      · subst e
        try simp only [↓reduceIte, Nat.reduceEqDiff, Option.bind_some, ao_let, r_Fm, nw_F]
        try simp (disch := first | omega | assumption) only [↓reduceIte, Nat.reduceEqDiff, Option.bind_some, ao_let, t_le, f_le, t_lt, f_lt, f_eq, u_eq, u_n1, u_n2, n_cl, n_lt, n_le, n_eq, n_ltl, n_llt, n_lel, n_lle, n_eql, n_leq, n_add, n_mul, n_sub, n_addl, n_ladd, n_mull, n_lmul, n_subl, Int32.reduceLT, Int32.reduceLE, Int32.reduceAdd, Int32.reduceSub, Int32.reduceMul, Int32.reduceToNatClampNeg, not_false_eq_true, not_true_eq_false, or_false, false_or, or_self, and_self, false_and, true_and, and_false, and_true, true_or, or_true, Nat.reduceAdd, Nat.reduceMul, Nat.reduceLT, Nat.reduceLeDiff, ne_eq, r_Fm, nw_F]
      · try simp only [↓reduceIte, Nat.reduceEqDiff, Option.bind_some, ao_let, r_Fn, nw_F]
        try simp (disch := first | omega | assumption) only [↓reduceIte, Nat.reduceEqDiff, Option.bind_some, ao_let, t_le, f_le, t_lt, f_lt, f_eq, u_eq, u_n1, u_n2, n_cl, n_lt, n_le, n_eq, n_ltl, n_llt, n_lel, n_lle, n_eql, n_leq, n_add, n_mul, n_sub, n_addl, n_ladd, n_mull, n_lmul, n_subl, Int32.reduceLT, Int32.reduceLE, Int32.reduceAdd, Int32.reduceSub, Int32.reduceMul, Int32.reduceToNatClampNeg, not_false_eq_true, not_true_eq_false, or_false, false_or, or_self, and_self, false_and, true_and, and_false, and_true, true_or, or_true, Nat.reduceAdd, Nat.reduceMul, Nat.reduceLT, Nat.reduceLeDiff, ne_eq, r_Fn, nw_F]
  · refine ⟨z, z + 1, z + 2, 2 * k, z + 3, ?_, ?_, ?_, ?_, ?_, ?_, ?_, ?_, ?_, ?_, ?_, ?_, ?_, ?_, ?_, ?_, ?_, ?_, ?_, ?_, ?_, ?_, ?_, ?_, ?_, ?_⟩
    · try simp only [↓reduceIte, Nat.reduceEqDiff, Option.bind_some, ao_let, r_Fe, r_Fm, nw_F]
      try simp (disch := first | omega | assumption) only [↓reduceIte, Nat.reduceEqDiff, Option.bind_some, ao_let, t_le, f_le, t_lt, f_lt, f_eq, u_eq, u_n1, u_n2, n_cl, n_lt, n_le, n_eq, n_ltl, n_llt, n_lel, n_lle, n_eql, n_leq, n_add, n_mul, n_sub, n_addl, n_ladd, n_mull, n_lmul, n_subl, Int32.reduceLT, Int32.reduceLE, Int32.reduceAdd, Int32.reduceSub, Int32.reduceMul, Int32.reduceToNatClampNeg, not_false_eq_true, not_true_eq_false, or_false, false_or, or_self, and_self, false_and, true_and, and_false, and_true, true_or, or_true, Nat.reduceAdd, Nat.reduceMul, Nat.reduceLT, Nat.reduceLeDiff, ne_eq, r_Fe, r_Fm, nw_F]
    · try simp only [↓reduceIte, Nat.reduceEqDiff, Option.bind_some, ao_let, r_Fe, r_Fm, nw_F]
      try simp (disch := first | omega | assumption) only [↓reduceIte, Nat.reduceEqDiff, Option.bind_some, ao_let, t_le, f_le, t_lt, f_lt, f_eq, u_eq, u_n1, u_n2, n_cl, n_lt, n_le, n_eq, n_ltl, n_llt, n_lel, n_lle, n_eql, n_leq, n_add, n_mul, n_sub, n_addl, n_ladd, n_mull, n_lmul, n_subl, Int32.reduceLT, Int32.reduceLE, Int32.reduceAdd, Int32.reduceSub, Int32.reduceMul, Int32.reduceToNatClampNeg, not_false_eq_true, not_true_eq_false, or_false, false_or, or_self, and_self, false_and, true_and, and_false, and_true, true_or, or_true, Nat.reduceAdd, Nat.reduceMul, Nat.reduceLT, Nat.reduceLeDiff, ne_eq, r_Fe, r_Fm, nw_F]
    · try simp only [↓reduceIte, Nat.reduceEqDiff, Option.bind_some, ao_let, r_Fe, r_Fm, nw_F]
      try simp (disch := first | omega | assumption) only [↓reduceIte, Nat.reduceEqDiff, Option.bind_some, ao_let, t_le, f_le, t_lt, f_lt, f_eq, u_eq, u_n1, u_n2, n_cl, n_lt, n_le, n_eq, n_ltl, n_llt, n_lel, n_lle, n_eql, n_leq, n_add, n_mul, n_sub, n_addl, n_ladd, n_mull, n_lmul, n_subl, Int32.reduceLT, Int32.reduceLE, Int32.reduceAdd, Int32.reduceSub, Int32.reduceMul, Int32.reduceToNatClampNeg, not_false_eq_true, not_true_eq_false, or_false, false_or, or_self, and_self, false_and, true_and, and_false, and_true, true_or, or_true, Nat.reduceAdd, Nat.reduceMul, Nat.reduceLT, Nat.reduceLeDiff, ne_eq, r_Fe, r_Fm, nw_F]
    · try simp only [↓reduceIte, Nat.reduceEqDiff, Option.bind_some, ao_let, r_K, nw_K, nw_Ke]
      try simp (disch := first | omega | assumption) only [↓reduceIte, Nat.reduceEqDiff, Option.bind_some, ao_let, t_le, f_le, t_lt, f_lt, f_eq, u_eq, u_n1, u_n2, n_cl, n_lt, n_le, n_eq, n_ltl, n_llt, n_lel, n_lle, n_eql, n_leq, n_add, n_mul, n_sub, n_addl, n_ladd, n_mull, n_lmul, n_subl, Int32.reduceLT, Int32.reduceLE, Int32.reduceAdd, Int32.reduceSub, Int32.reduceMul, Int32.reduceToNatClampNeg, not_false_eq_true, not_true_eq_false, or_false, false_or, or_self, and_self, false_and, true_and, and_false, and_true, true_or, or_true, Nat.reduceAdd, Nat.reduceMul, Nat.reduceLT, Nat.reduceLeDiff, ne_eq, r_K, nw_K, nw_Ke]
    · try simp only [↓reduceIte, Nat.reduceEqDiff, Option.bind_some, ao_let, r_K, nw_K, nw_Ke]
      try simp (disch := first | omega | assumption) only [↓reduceIte, Nat.reduceEqDiff, Option.bind_some, ao_let, t_le, f_le, t_lt, f_lt, f_eq, u_eq, u_n1, u_n2, n_cl, n_lt, n_le, n_eq, n_ltl, n_llt, n_lel, n_lle, n_eql, n_leq, n_add, n_mul, n_sub, n_addl, n_ladd, n_mull, n_lmul, n_subl, Int32.reduceLT, Int32.reduceLE, Int32.reduceAdd, Int32.reduceSub, Int32.reduceMul, Int32.reduceToNatClampNeg, not_false_eq_true, not_true_eq_false, or_false, false_or, or_self, and_self, false_and, true_and, and_false, and_true, true_or, or_true, Nat.reduceAdd, Nat.reduceMul, Nat.reduceLT, Nat.reduceLeDiff, ne_eq, r_K, nw_K, nw_Ke]
    · try simp only [↓reduceIte, Nat.reduceEqDiff, Option.bind_some, ao_let, r_K, nw_K, nw_Ke]
      try simp (disch := first | omega | assumption) only [↓reduceIte, Nat.reduceEqDiff, Option.bind_some, ao_let, t_le, f_le, t_lt, f_lt, f_eq, u_eq, u_n1, u_n2, n_cl, n_lt, n_le, n_eq, n_ltl, n_llt, n_lel, n_lle, n_eql, n_leq, n_add, n_mul, n_sub, n_addl, n_ladd, n_mull, n_lmul, n_subl, Int32.reduceLT, Int32.reduceLE, Int32.reduceAdd, Int32.reduceSub, Int32.reduceMul, Int32.reduceToNatClampNeg, not_false_eq_true, not_true_eq_false, or_false, false_or, or_self, and_self, false_and, true_and, and_false, and_true, true_or, or_true, Nat.reduceAdd, Nat.reduceMul, Nat.reduceLT, Nat.reduceLeDiff, ne_eq, r_K, nw_K, nw_Ke]
    · try simp only [↓reduceIte, Nat.reduceEqDiff, Option.bind_some, ao_let, r_L, nw_L, nw_Le]
      try simp (disch := first | omega | assumption) only [↓reduceIte, Nat.reduceEqDiff, Option.bind_some, ao_let, t_le, f_le, t_lt, f_lt, f_eq, u_eq, u_n1, u_n2, n_cl, n_lt, n_le, n_eq, n_ltl, n_llt, n_lel, n_lle, n_eql, n_leq, n_add, n_mul, n_sub, n_addl, n_ladd, n_mull, n_lmul, n_subl, Int32.reduceLT, Int32.reduceLE, Int32.reduceAdd, Int32.reduceSub, Int32.reduceMul, Int32.reduceToNatClampNeg, not_false_eq_true, not_true_eq_false, or_false, false_or, or_self, and_self, false_and, true_and, and_false, and_true, true_or, or_true, Nat.reduceAdd, Nat.reduceMul, Nat.reduceLT, Nat.reduceLeDiff, ne_eq, r_L, nw_L, nw_Le]
    · try simp only [↓reduceIte, Nat.reduceEqDiff, Option.bind_some, ao_let, r_L, nw_L, nw_Le]
      try simp (disch := first | omega | assumption) only [↓reduceIte, Nat.reduceEqDiff, Option.bind_some, ao_let, t_le, f_le, t_lt, f_lt, f_eq, u_eq, u_n1, u_n2, n_cl, n_lt, n_le, n_eq, n_ltl, n_llt, n_lel, n_lle, n_eql, n_leq, n_add, n_mul, n_sub, n_addl, n_ladd, n_mull, n_lmul, n_subl, Int32.reduceLT, Int32.reduceLE, Int32.reduceAdd, Int32.reduceSub, Int32.reduceMul, Int32.reduceToNatClampNeg, not_false_eq_true, not_true_eq_false, or_false, false_or, or_self, and_self, false_and, true_and, and_false, and_true, true_or, or_true, Nat.reduceAdd, Nat.reduceMul, Nat.reduceLT, Nat.reduceLeDiff, ne_eq, r_L, nw_L, nw_Le]
    · try simp only [↓reduceIte, Nat.reduceEqDiff, Option.bind_some, ao_let, r_L, nw_L, nw_Le]
      try simp (disch := first | omega | assumption) only [↓reduceIte, Nat.reduceEqDiff, Option.bind_some, ao_let, t_le, f_le, t_lt, f_lt, f_eq, u_eq, u_n1, u_n2, n_cl, n_lt, n_le, n_eq, n_ltl, n_llt, n_lel, n_lle, n_eql, n_leq, n_add, n_mul, n_sub, n_addl, n_ladd, n_mull, n_lmul, n_subl, Int32.reduceLT, Int32.reduceLE, Int32.reduceAdd, Int32.reduceSub, Int32.reduceMul, Int32.reduceToNatClampNeg, not_false_eq_true, not_true_eq_false, or_false, false_or, or_self, and_self, false_and, true_and, and_false, and_true, true_or, or_true, Nat.reduceAdd, Nat.reduceMul, Nat.reduceLT, Nat.reduceLeDiff, ne_eq, r_L, nw_L, nw_Le]
    · try simp only [↓reduceIte, Nat.reduceEqDiff, Option.bind_some, ao_let, cp_n, zr_n]
      try simp (disch := first | omega | assumption) only [↓reduceIte, Nat.reduceEqDiff, Option.bind_some, ao_let, t_le, f_le, t_lt, f_lt, f_eq, u_eq, u_n1, u_n2, n_cl, n_lt, n_le, n_eq, n_ltl, n_llt, n_lel, n_lle, n_eql, n_leq, n_add, n_mul, n_sub, n_addl, n_ladd, n_mull, n_lmul, n_subl, Int32.reduceLT, Int32.reduceLE, Int32.reduceAdd, Int32.reduceSub, Int32.reduceMul, Int32.reduceToNatClampNeg, not_false_eq_true, not_true_eq_false, or_false, false_or, or_self, and_self, false_and, true_and, and_false, and_true, true_or, or_true, Nat.reduceAdd, Nat.reduceMul, Nat.reduceLT, Nat.reduceLeDiff, ne_eq, cp_n, zr_n]
      rw [Nat.mul_comm]
    · try simp only [↓reduceIte, Nat.reduceEqDiff, Option.bind_some, ao_let, cp_n, zr_n, m10]
      try simp (disch := first | omega | assumption) only [↓reduceIte, Nat.reduceEqDiff, Option.bind_some, ao_let, t_le, f_le, t_lt, f_lt, f_eq, u_eq, u_n1, u_n2, n_cl, n_lt, n_le, n_eq, n_ltl, n_llt, n_lel, n_lle, n_eql, n_leq, n_add, n_mul, n_sub, n_addl, n_ladd, n_mull, n_lmul, n_subl, Int32.reduceLT, Int32.reduceLE, Int32.reduceAdd, Int32.reduceSub, Int32.reduceMul, Int32.reduceToNatClampNeg, not_false_eq_true, not_true_eq_false, or_false, false_or, or_self, and_self, false_and, true_and, and_false, and_true, true_or, or_true, Nat.reduceAdd, Nat.reduceMul, Nat.reduceLT, Nat.reduceLeDiff, ne_eq, cp_n, zr_n, m10]
    · omega
    · omega
    · omega
    · omega
    · omega
    · omega
    · omega
    · omega
    · omega
    · try simp only [↓reduceIte, Nat.reduceEqDiff, Option.bind_some, ao_let, r_Z, nw_Z]
      try simp (disch := first | omega | assumption) only [↓reduceIte, Nat.reduceEqDiff, Option.bind_some, ao_let, t_le, f_le, t_lt, f_lt, f_eq, u_eq, u_n1, u_n2, n_cl, n_lt, n_le, n_eq, n_ltl, n_llt, n_lel, n_lle, n_eql, n_leq, n_add, n_mul, n_sub, n_addl, n_ladd, n_mull, n_lmul, n_subl, Int32.reduceLT, Int32.reduceLE, Int32.reduceAdd, Int32.reduceSub, Int32.reduceMul, Int32.reduceToNatClampNeg, not_false_eq_true, not_true_eq_false, or_false, false_or, or_self, and_self, false_and, true_and, and_false, and_true, true_or, or_true, Nat.reduceAdd, Nat.reduceMul, Nat.reduceLT, Nat.reduceLeDiff, ne_eq, r_Z, nw_Z]
    · omega
    · omega
    · omega
    · omega
    · intro i hi
      obtain ⟨e1, e2, e3⟩ := eqs i hi
      try simp only [↓reduceIte, Nat.reduceEqDiff, Option.bind_some, ao_let, cp_n, zr_n, cp_e, e1, e2, e3]
      try simp (disch := first | omega | assumption) only [↓reduceIte, Nat.reduceEqDiff, Option.bind_some, ao_let, t_le, f_le, t_lt, f_lt, f_eq, u_eq, u_n1, u_n2, n_cl, n_lt, n_le, n_eq, n_ltl, n_llt, n_lel, n_lle, n_eql, n_leq, n_add, n_mul, n_sub, n_addl, n_ladd, n_mull, n_lmul, n_subl, Int32.reduceLT, Int32.reduceLE, Int32.reduceAdd, Int32.reduceSub, Int32.reduceMul, Int32.reduceToNatClampNeg, not_false_eq_true, not_true_eq_false, or_false, false_or, or_self, and_self, false_and, true_and, and_false, and_true, true_or, or_true, Nat.reduceAdd, Nat.reduceMul, Nat.reduceLT, Nat.reduceLeDiff, ne_eq, cp_n, zr_n, cp_e, e1, e2, e3]
  · try simp only [↓reduceIte, Nat.reduceEqDiff, Option.bind_some, ao_let, rmC, cp_n, zr_n]
    try simp (disch := first | omega | assumption) only [↓reduceIte, Nat.reduceEqDiff, Option.bind_some, ao_let, t_le, f_le, t_lt, f_lt, f_eq, u_eq, u_n1, u_n2, n_cl, n_lt, n_le, n_eq, n_ltl, n_llt, n_lel, n_lle, n_eql, n_leq, n_add, n_mul, n_sub, n_addl, n_ladd, n_mull, n_lmul, n_subl, Int32.reduceLT, Int32.reduceLE, Int32.reduceAdd, Int32.reduceSub, Int32.reduceMul, Int32.reduceToNatClampNeg, not_false_eq_true, not_true_eq_false, or_false, false_or, or_self, and_self, false_and, true_and, and_false, and_true, true_or, or_true, Nat.reduceAdd, Nat.reduceMul, Nat.reduceLT, Nat.reduceLeDiff, ne_eq, rmC, cp_n, zr_n]
  · refine ⟨z, z + 3, hz, ?_, by omega, ?_, ?_, ?_, ?_, ?_⟩
    · try simp only [↓reduceIte, Nat.reduceEqDiff, Option.bind_some, ao_let, r_Z, nw_Z]
      try simp (disch := first | omega | assumption) only [↓reduceIte, Nat.reduceEqDiff, Option.bind_some, ao_let, t_le, f_le, t_lt, f_lt, f_eq, u_eq, u_n1, u_n2, n_cl, n_lt, n_le, n_eq, n_ltl, n_llt, n_lel, n_lle, n_eql, n_leq, n_add, n_mul, n_sub, n_addl, n_ladd, n_mull, n_lmul, n_subl, Int32.reduceLT, Int32.reduceLE, Int32.reduceAdd, Int32.reduceSub, Int32.reduceMul, Int32.reduceToNatClampNeg, not_false_eq_true, not_true_eq_false, or_false, false_or, or_self, and_self, false_and, true_and, and_false, and_true, true_or, or_true, Nat.reduceAdd, Nat.reduceMul, Nat.reduceLT, Nat.reduceLeDiff, ne_eq, r_Z, nw_Z]
    · intro x hx
      try simp only [↓reduceIte, Nat.reduceEqDiff, Option.bind_some, ao_let, r_K, nw_K, r_L, nw_L]
      try simp (disch := first | omega | assumption) only [↓reduceIte, Nat.reduceEqDiff, Option.bind_some, ao_let, t_le, f_le, t_lt, f_lt, f_eq, u_eq, u_n1, u_n2, n_cl, n_lt, n_le, n_eq, n_ltl, n_llt, n_lel, n_lle, n_eql, n_leq, n_add, n_mul, n_sub, n_addl, n_ladd, n_mull, n_lmul, n_subl, Int32.reduceLT, Int32.reduceLE, Int32.reduceAdd, Int32.reduceSub, Int32.reduceMul, Int32.reduceToNatClampNeg, not_false_eq_true, not_true_eq_false, or_false, false_or, or_self, and_self, false_and, true_and, and_false, and_true, true_or, or_true, Nat.reduceAdd, Nat.reduceMul, Nat.reduceLT, Nat.reduceLeDiff, ne_eq, r_K, nw_K, r_L, nw_L]
    · intro x i hx hi
      by_cases e : x = 13
      · subst e
        try simp only [↓reduceIte, Nat.reduceEqDiff, Option.bind_some, ao_let, r_Fm, nw_F]
        try simp (disch := first | omega | assumption) only [↓reduceIte, Nat.reduceEqDiff, Option.bind_some, ao_let, t_le, f_le, t_lt, f_lt, f_eq, u_eq, u_n1, u_n2, n_cl, n_lt, n_le, n_eq, n_ltl, n_llt, n_lel, n_lle, n_eql, n_leq, n_add, n_mul, n_sub, n_addl, n_ladd, n_mull, n_lmul, n_subl, Int32.reduceLT, Int32.reduceLE, Int32.reduceAdd, Int32.reduceSub, Int32.reduceMul, Int32.reduceToNatClampNeg, not_false_eq_true, not_true_eq_false, or_false, false_or, or_self, and_self, false_and, true_and, and_false, and_true, true_or, or_true, Nat.reduceAdd, Nat.reduceMul, Nat.reduceLT, Nat.reduceLeDiff, ne_eq, r_Fm, nw_F]
      · try simp only [↓reduceIte, Nat.reduceEqDiff, Option.bind_some, ao_let, r_Fn, nw_F]
        try simp (disch := first | omega | assumption) only [↓reduceIte, Nat.reduceEqDiff, Option.bind_some, ao_let, t_le, f_le, t_lt, f_lt, f_eq, u_eq, u_n1, u_n2, n_cl, n_lt, n_le, n_eq, n_ltl, n_llt, n_lel, n_lle, n_eql, n_leq, n_add, n_mul, n_sub, n_addl, n_ladd, n_mull, n_lmul, n_subl, Int32.reduceLT, Int32.reduceLE, Int32.reduceAdd, Int32.reduceSub, Int32.reduceMul, Int32.reduceToNatClampNeg, not_false_eq_true, not_true_eq_false, or_false, false_or, or_self, and_self, false_and, true_and, and_false, and_true, true_or, or_true, Nat.reduceAdd, Nat.reduceMul, Nat.reduceLT, Nat.reduceLeDiff, ne_eq, r_Fn, nw_F]
    · rintro x (e | e | e)
      · simp (disch := omega) only [r_Fe, r_Fm, nw_F] at e
        exact Or.inr (by have := Option.some.inj e; omega)
      · simp (disch := omega) only [r_Fe, r_Fm, nw_F] at e
        exact Or.inr (by have := Option.some.inj e; omega)
      · simp (disch := omega) only [r_Fe, r_Fm, nw_F] at e
        exact Or.inr (by have := Option.some.inj e; omega)
    · try simp only [↓reduceIte, Nat.reduceEqDiff, Option.bind_some, ao_let, rmC, m9, cp_n, zr_n, r_c, nw_c]
      try simp (disch := first | omega | assumption) only [↓reduceIte, Nat.reduceEqDiff, Option.bind_some, ao_let, t_le, f_le, t_lt, f_lt, f_eq, u_eq, u_n1, u_n2, n_cl, n_lt, n_le, n_eq, n_ltl, n_llt, n_lel, n_lle, n_eql, n_leq, n_add, n_mul, n_sub, n_addl, n_ladd, n_mull, n_lmul, n_subl, Int32.reduceLT, Int32.reduceLE, Int32.reduceAdd, Int32.reduceSub, Int32.reduceMul, Int32.reduceToNatClampNeg, not_false_eq_true, not_true_eq_false, or_false, false_or, or_self, and_self, false_and, true_and, and_false, and_true, true_or, or_true, Nat.reduceAdd, Nat.reduceMul, Nat.reduceLT, Nat.reduceLeDiff, ne_eq, rmC, m9, cp_n, zr_n, r_c, nw_c]
      try omega
    · try simp only [↓reduceIte, Nat.reduceEqDiff, Option.bind_some, ao_let, rmC, m9, cp_n, zr_n, r_c, nw_s]
      try simp (disch := first | omega | assumption) only [↓reduceIte, Nat.reduceEqDiff, Option.bind_some, ao_let, t_le, f_le, t_lt, f_lt, f_eq, u_eq, u_n1, u_n2, n_cl, n_lt, n_le, n_eq, n_ltl, n_llt, n_lel, n_lle, n_eql, n_leq, n_add, n_mul, n_sub, n_addl, n_ladd, n_mull, n_lmul, n_subl, Int32.reduceLT, Int32.reduceLE, Int32.reduceAdd, Int32.reduceSub, Int32.reduceMul, Int32.reduceToNatClampNeg, not_false_eq_true, not_true_eq_false, or_false, false_or, or_self, and_self, false_and, true_and, and_false, and_true, true_or, or_true, Nat.reduceAdd, Nat.reduceMul, Nat.reduceLT, Nat.reduceLeDiff, ne_eq, rmC, m9, cp_n, zr_n, r_c, nw_s]
      try omega
  · intro x i hx hi hz'
    have hxz := hz' z hz
    try simp only [↓reduceIte, Nat.reduceEqDiff, Option.bind_some, ao_let, cp_n, zr_n]
    try simp (disch := first | omega | assumption) only [↓reduceIte, Nat.reduceEqDiff, Option.bind_some, ao_let, t_le, f_le, t_lt, f_lt, f_eq, u_eq, u_n1, u_n2, n_cl, n_lt, n_le, n_eq, n_ltl, n_llt, n_lel, n_lle, n_eql, n_leq, n_add, n_mul, n_sub, n_addl, n_ladd, n_mull, n_lmul, n_subl, Int32.reduceLT, Int32.reduceLE, Int32.reduceAdd, Int32.reduceSub, Int32.reduceMul, Int32.reduceToNatClampNeg, not_false_eq_true, not_true_eq_false, or_false, false_or, or_self, and_self, false_and, true_and, and_false, and_true, true_or, or_true, Nat.reduceAdd, Nat.reduceMul, Nat.reduceLT, Nat.reduceLeDiff, ne_eq, cp_n, zr_n]
    rcases hi with hi | hi
    · try simp only [↓reduceIte, Nat.reduceEqDiff, Option.bind_some, ao_let]
      try simp (disch := first | omega | assumption) only [↓reduceIte, Nat.reduceEqDiff, Option.bind_some, ao_let, t_le, f_le, t_lt, f_lt, f_eq, u_eq, u_n1, u_n2, n_cl, n_lt, n_le, n_eq, n_ltl, n_llt, n_lel, n_lle, n_eql, n_leq, n_add, n_mul, n_sub, n_addl, n_ladd, n_mull, n_lmul, n_subl, Int32.reduceLT, Int32.reduceLE, Int32.reduceAdd, Int32.reduceSub, Int32.reduceMul, Int32.reduceToNatClampNeg, not_false_eq_true, not_true_eq_false, or_false, false_or, or_self, and_self, false_and, true_and, and_false, and_true, true_or, or_true, Nat.reduceAdd, Nat.reduceMul, Nat.reduceLT, Nat.reduceLeDiff, ne_eq]
    · try simp only [↓reduceIte, Nat.reduceEqDiff, Option.bind_some, ao_let]
      try simp (disch := first | omega | assumption) only [↓reduceIte, Nat.reduceEqDiff, Option.bind_some, ao_let, t_le, f_le, t_lt, f_lt, f_eq, u_eq, u_n1, u_n2, n_cl, n_lt, n_le, n_eq, n_ltl, n_llt, n_lel, n_lle, n_eql, n_leq, n_add, n_mul, n_sub, n_addl, n_ladd, n_mull, n_lmul, n_subl, Int32.reduceLT, Int32.reduceLE, Int32.reduceAdd, Int32.reduceSub, Int32.reduceMul, Int32.reduceToNatClampNeg, not_false_eq_true, not_true_eq_false, or_false, false_or, or_self, and_self, false_and, true_and, and_false, and_true, true_or, or_true, Nat.reduceAdd, Nat.reduceMul, Nat.reduceLT, Nat.reduceLeDiff, ne_eq]
theorem HxC_refl {C C' : ao_M} {ρ : ao_H} {z : Nat} (hz : ρ.2.2.2.1 = some z) (h : rmC C = rmC C') : HxC C ρ C' ρ :=
  ⟨z, z, hz, hz, Nat.le_refl _, fun _ _ => ⟨rfl, rfl⟩, fun _ _ _ _ => rfl, fun _ hx => Or.inl hx, by rw [h]; exact Nat.le_refl _, by rw [h]⟩
theorem HxC_trans {C C' C'' : ao_M} {ρ ρ' ρ'' : ao_H} (h : HxC C ρ C' ρ') (g : HxC C' ρ' C'' ρ'') : HxC C ρ C'' ρ'' := by
  obtain ⟨z, z', a1, a2, a3, a4, a5, a6, a8, a9⟩ := h
  obtain ⟨y, y', b1, b2, b3, b4, b5, b6, b8, b9⟩ := g
  obtain rfl : z' = y := by rw [a2] at b1; exact Option.some.inj b1
  refine ⟨z, y', a1, b2, by omega, fun x hx => ?_, fun x k hx hk => ?_, fun x hx => ?_, by omega, by omega⟩
  · rw [(b4 x (by omega)).1, (b4 x (by omega)).2]; exact a4 x hx
  · rw [b5 x k (by omega) hk]; exact a5 x k hx hk
  · rcases b6 x hx with e | e
    · exact a6 x e
    · exact Or.inr (by omega)
theorem HxC_shA {C C' : ao_M} {ρ ρ' : ao_H} (h : HxC C ρ C' ρ') (h9 : ∀ z, ρ.2.2.2.1 = some z → 599 ≤ z) (hs : ShA ρ) : ShA ρ' := by
  obtain ⟨z, z', a1, a2, a3, a4, a5, a6, a8, a9⟩ := h
  have := h9 z a1
  exact ShA_keep (fun x hx => (a4 x (by omega)).1) (fun x hx => (a4 x (by omega)).2) (fun x k hx hk => a5 x k (by omega) hk.1) hs
theorem HxC_shB {C C' : ao_M} {ρ ρ' : ao_H} (h : HxC C ρ C' ρ') (h9 : ∀ z, ρ.2.2.2.1 = some z → 599 ≤ z) (hs : ShB ρ) : ShB ρ' := by
  obtain ⟨z, z', a1, a2, a3, a4, a5, a6, a8, a9⟩ := h
  have := h9 z a1
  exact ShB_keep (fun x hx => (a4 x (by omega)).1) (fun x hx => (a4 x (by omega)).2) (fun x k hx hk => a5 x k (by omega) hk.1) hs
theorem HxC_shG {C C' : ao_M} {ρ ρ' : ao_H} (h : HxC C ρ C' ρ') (h9 : ∀ z, ρ.2.2.2.1 = some z → 599 ≤ z) (hs : ShG ρ) : ShG ρ' := by
  obtain ⟨z, z', a1, a2, a3, a4, a5, a6, a8, a9⟩ := h
  have := h9 z a1
  exact ShG_keep (fun x hx => (a4 x (by omega)).1) (fun x hx => (a4 x (by omega)).2) (fun x k hx hk => a5 x k (by omega) hk.1) hs
theorem c_change {ρ : ao_H} {C : ao_M} {k p : Nat} {f g h : Nat → Int32} {v : Int32} (hs : ShA ρ) (pl : PLc C ρ k f g h) (hk3 : k ≤ 30000) (hp : p < 26) {Q : ao_S → Prop}
    (q : ∀ C' ρ', PLc C' ρ' (k + 1) (updF f k (C 13 4)) (updF g k v) (updF h k (C 18 p)) → HxC C ρ C' ρ' → (∀ x i, ¬ PAc ρ' x → (x ≠ 13 ∨ i ≠ 9) → (∀ z, ρ.2.2.2.1 = some z → x < z) → C' x i = chC p v k C x i) → Q (C', ρ')) :
    hv (fun n => gX5_change n 13 (nI p) v C ρ) Q := by
  have pl0 := pl
  obtain ⟨a, b, c, rm, z, F6, F7, F8, ka, kb, kc, la, lb, lc, m9, m10, h1, h2, h3, ab, ac, bc, da, db, dc, hz, hz9, az, bz, cz, eqs⟩ := pl
  have er : rmC C = rm := by simp [rmC, m9, n_cl (show rm < 2147483648 by omega)]
  have nPA : ∀ x, x = 14 ∨ x = 15 ∨ x = 18 ∨ x = 13 → ∀ ρ', HxC C ρ C ρ' ∨ ρ' = ρ → ¬ PAc ρ x := by
    intro x hx ρ' _ hp
    rcases hp with e | e | e
    · rw [F6] at e; have := Option.some.inj e; omega
    · rw [F7] at e; have := Option.some.inj e; omega
    · rw [F8] at e; have := Option.some.inj e; omega
  have pl1 : PLc (ao_u (ao_u C 14 p v) 15 p (C 13 4)) ρ k f g h := by
    refine ⟨a, b, c, rm, z, F6, F7, F8, ka, kb, kc, la, lb, lc, ?_, ?_, h1, h2, h3, ab, ac, bc, da, db, dc, hz, hz9, az, bz, cz, ?_⟩
    · try simp only [↓reduceIte, Nat.reduceEqDiff, Option.bind_some, ao_let, m9]
      try simp (disch := first | omega | assumption) only [↓reduceIte, Nat.reduceEqDiff, Option.bind_some, ao_let, t_le, f_le, t_lt, f_lt, f_eq, u_eq, u_n1, u_n2, n_cl, n_lt, n_le, n_eq, n_ltl, n_llt, n_lel, n_lle, n_eql, n_leq, n_add, n_mul, n_sub, n_addl, n_ladd, n_mull, n_lmul, n_subl, Int32.reduceLT, Int32.reduceLE, Int32.reduceAdd, Int32.reduceSub, Int32.reduceMul, Int32.reduceToNatClampNeg, not_false_eq_true, not_true_eq_false, or_false, false_or, or_self, and_self, false_and, true_and, and_false, and_true, true_or, or_true, Nat.reduceAdd, Nat.reduceMul, Nat.reduceLT, Nat.reduceLeDiff, ne_eq, m9]
    · try simp only [↓reduceIte, Nat.reduceEqDiff, Option.bind_some, ao_let, m10]
      try simp (disch := first | omega | assumption) only [↓reduceIte, Nat.reduceEqDiff, Option.bind_some, ao_let, t_le, f_le, t_lt, f_lt, f_eq, u_eq, u_n1, u_n2, n_cl, n_lt, n_le, n_eq, n_ltl, n_llt, n_lel, n_lle, n_eql, n_leq, n_add, n_mul, n_sub, n_addl, n_ladd, n_mull, n_lmul, n_subl, Int32.reduceLT, Int32.reduceLE, Int32.reduceAdd, Int32.reduceSub, Int32.reduceMul, Int32.reduceToNatClampNeg, not_false_eq_true, not_true_eq_false, or_false, false_or, or_self, and_self, false_and, true_and, and_false, and_true, true_or, or_true, Nat.reduceAdd, Nat.reduceMul, Nat.reduceLT, Nat.reduceLeDiff, ne_eq, m10]
    · intro i hi
      obtain ⟨e1, e2, e3⟩ := eqs i hi
      try simp only [↓reduceIte, Nat.reduceEqDiff, Option.bind_some, ao_let, e1, e2, e3]
      try simp (disch := first | omega | assumption) only [↓reduceIte, Nat.reduceEqDiff, Option.bind_some, ao_let, t_le, f_le, t_lt, f_lt, f_eq, u_eq, u_n1, u_n2, n_cl, n_lt, n_le, n_eq, n_ltl, n_llt, n_lel, n_lle, n_eql, n_leq, n_add, n_mul, n_sub, n_addl, n_ladd, n_mull, n_lmul, n_subl, Int32.reduceLT, Int32.reduceLE, Int32.reduceAdd, Int32.reduceSub, Int32.reduceMul, Int32.reduceToNatClampNeg, not_false_eq_true, not_true_eq_false, or_false, false_or, or_self, and_self, false_and, true_and, and_false, and_true, true_or, or_true, Nat.reduceAdd, Nat.reduceMul, Nat.reduceLT, Nat.reduceLeDiff, ne_eq, e1, e2, e3]
  have er1 : rmC (ao_u (ao_u C 14 p v) 15 p (C 13 4)) = rm := by
    unfold rmC
    try simp only [↓reduceIte, Nat.reduceEqDiff, Option.bind_some, ao_let, m9]
    try simp (disch := first | omega | assumption) only [↓reduceIte, Nat.reduceEqDiff, Option.bind_some, ao_let, t_le, f_le, t_lt, f_lt, f_eq, u_eq, u_n1, u_n2, n_cl, n_lt, n_le, n_eq, n_ltl, n_llt, n_lel, n_lle, n_eql, n_leq, n_add, n_mul, n_sub, n_addl, n_ladd, n_mull, n_lmul, n_subl, Int32.reduceLT, Int32.reduceLE, Int32.reduceAdd, Int32.reduceSub, Int32.reduceMul, Int32.reduceToNatClampNeg, not_false_eq_true, not_true_eq_false, or_false, false_or, or_self, and_self, false_and, true_and, and_false, and_true, true_or, or_true, Nat.reduceAdd, Nat.reduceMul, Nat.reduceLT, Nat.reduceLeDiff, ne_eq, m9]
  unfold gX5_change
  refine hv_up (fun _ => fX5_change.eq_2 ..) ?_
  try simp only [↓reduceIte, Nat.reduceEqDiff, Option.bind_some, ao_let, hs, m9, m10]
  try simp (disch := first | omega | assumption) only [↓reduceIte, Nat.reduceEqDiff, Option.bind_some, ao_let, t_le, f_le, t_lt, f_lt, f_eq, u_eq, u_n1, u_n2, n_cl, n_lt, n_le, n_eq, n_ltl, n_llt, n_lel, n_lle, n_eql, n_leq, n_add, n_mul, n_sub, n_addl, n_ladd, n_mull, n_lmul, n_subl, Int32.reduceLT, Int32.reduceLE, Int32.reduceAdd, Int32.reduceSub, Int32.reduceMul, Int32.reduceToNatClampNeg, not_false_eq_true, not_true_eq_false, or_false, false_or, or_self, and_self, false_and, true_and, and_false, and_true, true_or, or_true, Nat.reduceAdd, Nat.reduceMul, Nat.reduceLT, Nat.reduceLeDiff, ne_eq, hs, m9, m10]
  by_cases hlt : k < rm
  · try simp only [↓reduceIte, Nat.reduceEqDiff, Option.bind_some, ao_let, m9]
    try simp (disch := first | omega | assumption) only [↓reduceIte, Nat.reduceEqDiff, Option.bind_some, ao_let, t_le, f_le, t_lt, f_lt, f_eq, u_eq, u_n1, u_n2, n_cl, n_lt, n_le, n_eq, n_ltl, n_llt, n_lel, n_lle, n_eql, n_leq, n_add, n_mul, n_sub, n_addl, n_ladd, n_mull, n_lmul, n_subl, Int32.reduceLT, Int32.reduceLE, Int32.reduceAdd, Int32.reduceSub, Int32.reduceMul, Int32.reduceToNatClampNeg, not_false_eq_true, not_true_eq_false, or_false, false_or, or_self, and_self, false_and, true_and, and_false, and_true, true_or, or_true, Nat.reduceAdd, Nat.reduceMul, Nat.reduceLT, Nat.reduceLeDiff, ne_eq, m9]
    refine c_change103 hs pl1 (by omega) hp ?_
    intro C' hpl hx
    refine q C' ρ ?_ ?_ ?_
    · have e1 : ao_u (ao_u C 14 p v) 15 p (C 13 4) 13 4 = C 13 4 := by simp (disch := omega) only [u_n1, u_n2]
      have e2 : ao_u (ao_u C 14 p v) 15 p (C 13 4) 18 p = C 18 p := by simp (disch := omega) only [u_n1, u_n2]
      rw [e1, e2] at hpl
      exact hpl
    · refine HxC_refl hz ?_
      have : ¬ PAc ρ 13 := nPA 13 (by omega) ρ (Or.inr rfl)
      unfold rmC
      rw [hx 13 9 this]
      try simp only [↓reduceIte, Nat.reduceEqDiff, Option.bind_some, ao_let]
      try simp (disch := first | omega | assumption) only [↓reduceIte, Nat.reduceEqDiff, Option.bind_some, ao_let, t_le, f_le, t_lt, f_lt, f_eq, u_eq, u_n1, u_n2, n_cl, n_lt, n_le, n_eq, n_ltl, n_llt, n_lel, n_lle, n_eql, n_leq, n_add, n_mul, n_sub, n_addl, n_ladd, n_mull, n_lmul, n_subl, Int32.reduceLT, Int32.reduceLE, Int32.reduceAdd, Int32.reduceSub, Int32.reduceMul, Int32.reduceToNatClampNeg, not_false_eq_true, not_true_eq_false, or_false, false_or, or_self, and_self, false_and, true_and, and_false, and_true, true_or, or_true, Nat.reduceAdd, Nat.reduceMul, Nat.reduceLT, Nat.reduceLeDiff, ne_eq]
    · intro x i hxp hi hxz
      rw [hx x i hxp]
      simp only [chC, ao_u]
      clear hs q eqs hpl hx
      grind (splits := 20)
  · try simp only [↓reduceIte, Nat.reduceEqDiff, Option.bind_some, ao_let, m9, F6]
    try simp (disch := first | omega | assumption) only [↓reduceIte, Nat.reduceEqDiff, Option.bind_some, ao_let, t_le, f_le, t_lt, f_lt, f_eq, u_eq, u_n1, u_n2, n_cl, n_lt, n_le, n_eq, n_ltl, n_llt, n_lel, n_lle, n_eql, n_leq, n_add, n_mul, n_sub, n_addl, n_ladd, n_mull, n_lmul, n_subl, Int32.reduceLT, Int32.reduceLE, Int32.reduceAdd, Int32.reduceSub, Int32.reduceMul, Int32.reduceToNatClampNeg, not_false_eq_true, not_true_eq_false, or_false, false_or, or_self, and_self, false_and, true_and, and_false, and_true, true_or, or_true, Nat.reduceAdd, Nat.reduceMul, Nat.reduceLT, Nat.reduceLeDiff, ne_eq, m9, F6]
    refine c_grow hs pl1 (by omega) hk3 ?_ rm er1 a F6
    intro C1 ρ1 hs1 hpl1 hlt1 hx1 hf1
    refine c_change103 hs1 hpl1 hlt1 hp ?_
    intro C' hpl hx
    have z1 : ∀ z', ρ.2.2.2.1 = some z' → 599 ≤ z' := fun z' e => by rw [hz] at e; have := Option.some.inj e; omega
    have hx1' := hx1
    obtain ⟨zz, zz', y1, y2, y3, y4, y5, y6, y8, y9⟩ := hx1
    obtain rfl : z = zz := by rw [hz] at y1; exact Option.some.inj y1
    have nP1 : ∀ x, x = 14 ∨ x = 15 ∨ x = 18 ∨ x = 13 → ¬ PAc ρ1 x := by
      intro x hx hp
      rcases y6 x hp with e | e
      · exact nPA x hx ρ (Or.inr rfl) e
      · omega
    have g134 : C1 13 4 = C 13 4 := by
      rw [hf1 13 4 (nP1 13 (by omega)) (by omega) (fun z' e => by rw [hz] at e; have := Option.some.inj e; omega)]
      try simp only [↓reduceIte, Nat.reduceEqDiff, Option.bind_some, ao_let]
      try simp (disch := first | omega | assumption) only [↓reduceIte, Nat.reduceEqDiff, Option.bind_some, ao_let, t_le, f_le, t_lt, f_lt, f_eq, u_eq, u_n1, u_n2, n_cl, n_lt, n_le, n_eq, n_ltl, n_llt, n_lel, n_lle, n_eql, n_leq, n_add, n_mul, n_sub, n_addl, n_ladd, n_mull, n_lmul, n_subl, Int32.reduceLT, Int32.reduceLE, Int32.reduceAdd, Int32.reduceSub, Int32.reduceMul, Int32.reduceToNatClampNeg, not_false_eq_true, not_true_eq_false, or_false, false_or, or_self, and_self, false_and, true_and, and_false, and_true, true_or, or_true, Nat.reduceAdd, Nat.reduceMul, Nat.reduceLT, Nat.reduceLeDiff, ne_eq]
    have g18 : C1 18 p = C 18 p := by
      rw [hf1 18 p (nP1 18 (by omega)) (by omega) (fun z' e => by rw [hz] at e; have := Option.some.inj e; omega)]
      try simp only [↓reduceIte, Nat.reduceEqDiff, Option.bind_some, ao_let]
      try simp (disch := first | omega | assumption) only [↓reduceIte, Nat.reduceEqDiff, Option.bind_some, ao_let, t_le, f_le, t_lt, f_lt, f_eq, u_eq, u_n1, u_n2, n_cl, n_lt, n_le, n_eq, n_ltl, n_llt, n_lel, n_lle, n_eql, n_leq, n_add, n_mul, n_sub, n_addl, n_ladd, n_mull, n_lmul, n_subl, Int32.reduceLT, Int32.reduceLE, Int32.reduceAdd, Int32.reduceSub, Int32.reduceMul, Int32.reduceToNatClampNeg, not_false_eq_true, not_true_eq_false, or_false, false_or, or_self, and_self, false_and, true_and, and_false, and_true, true_or, or_true, Nat.reduceAdd, Nat.reduceMul, Nat.reduceLT, Nat.reduceLeDiff, ne_eq]
    refine q C' ρ1 ?_ ?_ ?_
    · rw [g134, g18] at hpl
      exact hpl
    · refine HxC_trans (C' := C1) (ρ' := ρ1) ?_ (HxC_refl y2 ?_)
      · refine ⟨z, zz', hz, y2, y3, y4, y5, y6, ?_, ?_⟩
        · rw [er, ← er1]; exact y8
        · rw [er, ← er1]; exact y9
      · unfold rmC
        rw [hx 13 9 (nP1 13 (by omega))]
        try simp only [↓reduceIte, Nat.reduceEqDiff, Option.bind_some, ao_let]
        try simp (disch := first | omega | assumption) only [↓reduceIte, Nat.reduceEqDiff, Option.bind_some, ao_let, t_le, f_le, t_lt, f_lt, f_eq, u_eq, u_n1, u_n2, n_cl, n_lt, n_le, n_eq, n_ltl, n_llt, n_lel, n_lle, n_eql, n_leq, n_add, n_mul, n_sub, n_addl, n_ladd, n_mull, n_lmul, n_subl, Int32.reduceLT, Int32.reduceLE, Int32.reduceAdd, Int32.reduceSub, Int32.reduceMul, Int32.reduceToNatClampNeg, not_false_eq_true, not_true_eq_false, or_false, false_or, or_self, and_self, false_and, true_and, and_false, and_true, true_or, or_true, Nat.reduceAdd, Nat.reduceMul, Nat.reduceLT, Nat.reduceLeDiff, ne_eq]
    · intro x i hxp hi hxz
      rw [hx x i hxp, hf1 x i hxp hi hxz]
      simp only [chC, ao_u]
      clear hs q eqs hpl hx hs1 hpl1 hf1
      grind (splits := 20)
theorem d_rem45 {σ : ao_H} {D : ao_M} {k p : Nat} {f g h : Nat → Int32} (hs : ShD σ) (pl : PLd D σ k f g h) (hk : k < rmD σ) (hp : p < 26) {Q : ao_S → Prop}
    (q : ∀ D', PLd D' σ (k + 1) (updF f k (D 537 26)) (updF g k (D 542 p)) (updF h k (D 546 p)) → (∀ x i, ¬ PAd σ x → D' x i = chD p k D x i) → Q (D', σ)) :
    hv (fun n => fX12_remember n 45 537 (nI p) 0 0 D σ) Q := by
  obtain ⟨a, b, c, rm, z, F6, F7, F8, ka, kb, kc, la, lb, lc, m10, h1, h2, h3, ab, ac, bc, da, db, dc, hz, hz9, az, bz, cz, eqs⟩ := pl
  have hk' : k < rm := by simpa [rmD, F6, la] using hk
  refine hv_up (fun _ => fX12_remember.eq_2 ..) ?_
  try simp only [↓reduceIte, Nat.reduceEqDiff, Option.bind_some, ao_let, hs, F6, F7, F8, ka, kb, kc, la, lb, lc, m10]
  try simp (disch := first | omega | assumption) only [↓reduceIte, Nat.reduceEqDiff, Option.bind_some, ao_let, t_le, f_le, t_lt, f_lt, f_eq, u_eq, u_n1, u_n2, n_cl, n_lt, n_le, n_eq, n_ltl, n_llt, n_lel, n_lle, n_eql, n_leq, n_add, n_mul, n_sub, n_addl, n_ladd, n_mull, n_lmul, n_subl, Int32.reduceLT, Int32.reduceLE, Int32.reduceAdd, Int32.reduceSub, Int32.reduceMul, Int32.reduceToNatClampNeg, not_false_eq_true, not_true_eq_false, or_false, false_or, or_self, and_self, false_and, true_and, and_false, and_true, true_or, or_true, Nat.reduceAdd, Nat.reduceMul, Nat.reduceLT, Nat.reduceLeDiff, ne_eq, hs, F6, F7, F8, ka, kb, kc, la, lb, lc, m10]
  refine hv_some (q _ ?_ ?_)
  · refine ⟨a, b, c, rm, z, F6, F7, F8, ka, kb, kc, la, lb, lc, ?_, by omega, h2, h3, ab, ac, bc, da, db, dc, hz, hz9, az, bz, cz, ?_⟩
    · try simp only [↓reduceIte, Nat.reduceEqDiff, Option.bind_some, ao_let]
      try simp (disch := first | omega | assumption) only [↓reduceIte, Nat.reduceEqDiff, Option.bind_some, ao_let, t_le, f_le, t_lt, f_lt, f_eq, u_eq, u_n1, u_n2, n_cl, n_lt, n_le, n_eq, n_ltl, n_llt, n_lel, n_lle, n_eql, n_leq, n_add, n_mul, n_sub, n_addl, n_ladd, n_mull, n_lmul, n_subl, Int32.reduceLT, Int32.reduceLE, Int32.reduceAdd, Int32.reduceSub, Int32.reduceMul, Int32.reduceToNatClampNeg, not_false_eq_true, not_true_eq_false, or_false, false_or, or_self, and_self, false_and, true_and, and_false, and_true, true_or, or_true, Nat.reduceAdd, Nat.reduceMul, Nat.reduceLT, Nat.reduceLeDiff, ne_eq]
    · intro i hi
      simp only [updF]
      by_cases e : i = k
      · subst e
        try simp only [↓reduceIte, Nat.reduceEqDiff, Option.bind_some, ao_let, m10]
        try simp (disch := first | omega | assumption) only [↓reduceIte, Nat.reduceEqDiff, Option.bind_some, ao_let, t_le, f_le, t_lt, f_lt, f_eq, u_eq, u_n1, u_n2, n_cl, n_lt, n_le, n_eq, n_ltl, n_llt, n_lel, n_lle, n_eql, n_leq, n_add, n_mul, n_sub, n_addl, n_ladd, n_mull, n_lmul, n_subl, Int32.reduceLT, Int32.reduceLE, Int32.reduceAdd, Int32.reduceSub, Int32.reduceMul, Int32.reduceToNatClampNeg, not_false_eq_true, not_true_eq_false, or_false, false_or, or_self, and_self, false_and, true_and, and_false, and_true, true_or, or_true, Nat.reduceAdd, Nat.reduceMul, Nat.reduceLT, Nat.reduceLeDiff, ne_eq, m10]
      · obtain ⟨e1, e2, e3⟩ := eqs i (by omega)
        try simp only [↓reduceIte, Nat.reduceEqDiff, Option.bind_some, ao_let, e, e1, e2, e3]
        try simp (disch := first | omega | assumption) only [↓reduceIte, Nat.reduceEqDiff, Option.bind_some, ao_let, t_le, f_le, t_lt, f_lt, f_eq, u_eq, u_n1, u_n2, n_cl, n_lt, n_le, n_eq, n_ltl, n_llt, n_lel, n_lle, n_eql, n_leq, n_add, n_mul, n_sub, n_addl, n_ladd, n_mull, n_lmul, n_subl, Int32.reduceLT, Int32.reduceLE, Int32.reduceAdd, Int32.reduceSub, Int32.reduceMul, Int32.reduceToNatClampNeg, not_false_eq_true, not_true_eq_false, or_false, false_or, or_self, and_self, false_and, true_and, and_false, and_true, true_or, or_true, Nat.reduceAdd, Nat.reduceMul, Nat.reduceLT, Nat.reduceLeDiff, ne_eq, e, e1, e2, e3]
  · intro x i hx
    have xa : x ≠ a := fun e => hx (by rw [e]; exact Or.inl F6)
    have xb : x ≠ b := fun e => hx (by rw [e]; exact Or.inr (Or.inl F7))
    have xc : x ≠ c := fun e => hx (by rw [e]; exact Or.inr (Or.inr F8))
    simp only [ao_u, chD]
    clear hs q eqs
    grind (splits := 20)
theorem HxD_refl {σ : ao_H} {z : Nat} (hz : σ.2.2.2.1 = some z) : HxD σ σ :=
  ⟨z, z, hz, hz, Nat.le_refl _, fun _ _ => ⟨rfl, rfl⟩, fun _ _ _ _ => rfl, fun _ hx => Or.inl hx, Nat.le_refl _, rfl⟩
theorem HxD_trans {σ σ' σ'' : ao_H} (h : HxD σ σ') (g : HxD σ' σ'') : HxD σ σ'' := by
  obtain ⟨z, z', a1, a2, a3, a4, a5, a6, a8, a9⟩ := h
  obtain ⟨y, y', b1, b2, b3, b4, b5, b6, b8, b9⟩ := g
  obtain rfl : z' = y := by rw [a2] at b1; exact Option.some.inj b1
  refine ⟨z, y', a1, b2, by omega, fun x hx => ?_, fun x k hx hk => ?_, fun x hx => ?_, by omega, by omega⟩
  · rw [(b4 x (by omega)).1, (b4 x (by omega)).2]; exact a4 x hx
  · rw [b5 x k (by omega) hk]; exact a5 x k hx hk
  · rcases b6 x hx with e | e
    · exact a6 x e
    · exact Or.inr (by omega)
theorem HxD_sh {σ σ' : ao_H} (h : HxD σ σ') (h9 : ∀ z, σ.2.2.2.1 = some z → 599 ≤ z) (hs : ShD σ) : ShD σ' := by
  obtain ⟨z, z', a1, a2, a3, a4, a5, a6, a8, a9⟩ := h
  have := h9 z a1
  exact ShD_keep (fun x hx => (a4 x (by omega)).1) (fun x hx => (a4 x (by omega)).2) (fun x k hx hk => a5 x k (by omega) hk.2) hs
theorem d_grow {σ : ao_H} {D : ao_M} {k p : Nat} {f g h : Nat → Int32} (hs : ShD σ) (pl : PLd D σ k f g h) (hk : rmD σ ≤ k) (hk3 : k ≤ 30000) {Q : ao_S → Prop}
    (q : ∀ D' σ', ShD σ' → PLd D' σ' k f g h → k < rmD σ' → HxD σ σ' → (∀ x i, ¬ PAd σ' x → (∀ z, σ.2.2.2.1 = some z → x < z) → D' x i = D x i) → hv (fun n => fX12_remember n 45 537 (nI p) 0 0 D' σ') Q)
    (j15 : Nat) (e15 : σ.1 537 22 = some j15) : hv (fun n => (gX12_longer n j15 D σ).bind fun p5 => fX12_remember n 20 537 (nI p) p5.1 537 p5.2.1 p5.2.2) Q := by
  obtain ⟨a, b, c, rm, z, F6, F7, F8, ka, kb, kc, la, lb, lc, m10, h1, h2, h3, ab, ac, bc, da, db, dc, hz, hz9, az, bz, cz, eqs⟩ := pl
  have er : rmD σ = rm := by simp [rmD, F6, la]
  obtain rfl : j15 = a := by rw [F6] at e15; exact (Option.some.inj e15).symm
  have hk' : k = rm := by omega
  subst hk'
  refine hv_bind (d_longer (Q := fun y => ∃ D', (∀ x, x ≠ z → D' x = D x) ∧ (∀ i, i < k → D' z i = D j15 i) ∧ y = (z, D', ao_nw σ z 0 (2 * k) (2 * k))) ka la hz (by omega) (by omega) h3 (fun D' e1 e2 => ⟨D', e1, e2, rfl⟩)) ?_
  rintro _ ⟨D1, u1, v1, rfl⟩
  refine hv_up (fun _ => fX12_remember.eq_2 ..) ?_
  try simp only [↓reduceIte, Nat.reduceEqDiff, Option.bind_some, ao_let, hs, nw_K]
  try simp (disch := first | omega | assumption) only [↓reduceIte, Nat.reduceEqDiff, Option.bind_some, ao_let, t_le, f_le, t_lt, f_lt, f_eq, u_eq, u_n1, u_n2, n_cl, n_lt, n_le, n_eq, n_ltl, n_llt, n_lel, n_lle, n_eql, n_leq, n_add, n_mul, n_sub, n_addl, n_ladd, n_mull, n_lmul, n_subl, Int32.reduceLT, Int32.reduceLE, Int32.reduceAdd, Int32.reduceSub, Int32.reduceMul, Int32.reduceToNatClampNeg, not_false_eq_true, not_true_eq_false, or_false, false_or, or_self, and_self, false_and, true_and, and_false, and_true, true_or, or_true, Nat.reduceAdd, Nat.reduceMul, Nat.reduceLT, Nat.reduceLeDiff, ne_eq, hs, nw_K]
  refine hv_up (fun _ => fX12_remember.eq_2 ..) ?_
  try simp only [↓reduceIte, Nat.reduceEqDiff, Option.bind_some, ao_let, hs, nw_K, r_K, r_Fe, r_Fn, r_Fm, nw_F, F7]
  try simp (disch := first | omega | assumption) only [↓reduceIte, Nat.reduceEqDiff, Option.bind_some, ao_let, t_le, f_le, t_lt, f_lt, f_eq, u_eq, u_n1, u_n2, n_cl, n_lt, n_le, n_eq, n_ltl, n_llt, n_lel, n_lle, n_eql, n_leq, n_add, n_mul, n_sub, n_addl, n_ladd, n_mull, n_lmul, n_subl, Int32.reduceLT, Int32.reduceLE, Int32.reduceAdd, Int32.reduceSub, Int32.reduceMul, Int32.reduceToNatClampNeg, not_false_eq_true, not_true_eq_false, or_false, false_or, or_self, and_self, false_and, true_and, and_false, and_true, true_or, or_true, Nat.reduceAdd, Nat.reduceMul, Nat.reduceLT, Nat.reduceLeDiff, ne_eq, hs, nw_K, r_K, r_Fe, r_Fn, r_Fm, nw_F, F7]
  refine hv_bind (d_longer (Q := fun y => ∃ D', (∀ x, x ≠ z + 1 → D' x = D1 x) ∧ (∀ i, i < k → D' (z + 1) i = D1 b i) ∧ y = (z + 1, D', ao_nw (ao_r (ao_nw σ z 0 (2 * k) (2 * k)) 537 22 (some z)) (z + 1) 0 (2 * k) (2 * k))) ?_ ?_ ?_ (by omega) (by omega) h3 (fun D' e1 e2 => ⟨D', e1, e2, rfl⟩)) ?_
  · try simp only [↓reduceIte, Nat.reduceEqDiff, Option.bind_some, ao_let, r_K, nw_K, kb]
    try simp (disch := first | omega | assumption) only [↓reduceIte, Nat.reduceEqDiff, Option.bind_some, ao_let, t_le, f_le, t_lt, f_lt, f_eq, u_eq, u_n1, u_n2, n_cl, n_lt, n_le, n_eq, n_ltl, n_llt, n_lel, n_lle, n_eql, n_leq, n_add, n_mul, n_sub, n_addl, n_ladd, n_mull, n_lmul, n_subl, Int32.reduceLT, Int32.reduceLE, Int32.reduceAdd, Int32.reduceSub, Int32.reduceMul, Int32.reduceToNatClampNeg, not_false_eq_true, not_true_eq_false, or_false, false_or, or_self, and_self, false_and, true_and, and_false, and_true, true_or, or_true, Nat.reduceAdd, Nat.reduceMul, Nat.reduceLT, Nat.reduceLeDiff, ne_eq, r_K, nw_K, kb]
  · try simp only [↓reduceIte, Nat.reduceEqDiff, Option.bind_some, ao_let, r_L, nw_L, lb]
    try simp (disch := first | omega | assumption) only [↓reduceIte, Nat.reduceEqDiff, Option.bind_some, ao_let, t_le, f_le, t_lt, f_lt, f_eq, u_eq, u_n1, u_n2, n_cl, n_lt, n_le, n_eq, n_ltl, n_llt, n_lel, n_lle, n_eql, n_leq, n_add, n_mul, n_sub, n_addl, n_ladd, n_mull, n_lmul, n_subl, Int32.reduceLT, Int32.reduceLE, Int32.reduceAdd, Int32.reduceSub, Int32.reduceMul, Int32.reduceToNatClampNeg, not_false_eq_true, not_true_eq_false, or_false, false_or, or_self, and_self, false_and, true_and, and_false, and_true, true_or, or_true, Nat.reduceAdd, Nat.reduceMul, Nat.reduceLT, Nat.reduceLeDiff, ne_eq, r_L, nw_L, lb]
  · try simp only [↓reduceIte, Nat.reduceEqDiff, Option.bind_some, ao_let, r_Z, nw_Z]
    try simp (disch := first | omega | assumption) only [↓reduceIte, Nat.reduceEqDiff, Option.bind_some, ao_let, t_le, f_le, t_lt, f_lt, f_eq, u_eq, u_n1, u_n2, n_cl, n_lt, n_le, n_eq, n_ltl, n_llt, n_lel, n_lle, n_eql, n_leq, n_add, n_mul, n_sub, n_addl, n_ladd, n_mull, n_lmul, n_subl, Int32.reduceLT, Int32.reduceLE, Int32.reduceAdd, Int32.reduceSub, Int32.reduceMul, Int32.reduceToNatClampNeg, not_false_eq_true, not_true_eq_false, or_false, false_or, or_self, and_self, false_and, true_and, and_false, and_true, true_or, or_true, Nat.reduceAdd, Nat.reduceMul, Nat.reduceLT, Nat.reduceLeDiff, ne_eq, r_Z, nw_Z]
  rintro _ ⟨D2, u2, v2, rfl⟩
  refine hv_up (fun _ => fX12_remember.eq_2 ..) ?_
  try simp only [↓reduceIte, Nat.reduceEqDiff, Option.bind_some, ao_let, hs, nw_K, r_K]
  try simp (disch := first | omega | assumption) only [↓reduceIte, Nat.reduceEqDiff, Option.bind_some, ao_let, t_le, f_le, t_lt, f_lt, f_eq, u_eq, u_n1, u_n2, n_cl, n_lt, n_le, n_eq, n_ltl, n_llt, n_lel, n_lle, n_eql, n_leq, n_add, n_mul, n_sub, n_addl, n_ladd, n_mull, n_lmul, n_subl, Int32.reduceLT, Int32.reduceLE, Int32.reduceAdd, Int32.reduceSub, Int32.reduceMul, Int32.reduceToNatClampNeg, not_false_eq_true, not_true_eq_false, or_false, false_or, or_self, and_self, false_and, true_and, and_false, and_true, true_or, or_true, Nat.reduceAdd, Nat.reduceMul, Nat.reduceLT, Nat.reduceLeDiff, ne_eq, hs, nw_K, r_K]
  refine hv_up (fun _ => fX12_remember.eq_2 ..) ?_
  try simp only [↓reduceIte, Nat.reduceEqDiff, Option.bind_some, ao_let, hs, nw_K, r_K, r_Fe, r_Fn, r_Fm, nw_F, F8]
  try simp (disch := first | omega | assumption) only [↓reduceIte, Nat.reduceEqDiff, Option.bind_some, ao_let, t_le, f_le, t_lt, f_lt, f_eq, u_eq, u_n1, u_n2, n_cl, n_lt, n_le, n_eq, n_ltl, n_llt, n_lel, n_lle, n_eql, n_leq, n_add, n_mul, n_sub, n_addl, n_ladd, n_mull, n_lmul, n_subl, Int32.reduceLT, Int32.reduceLE, Int32.reduceAdd, Int32.reduceSub, Int32.reduceMul, Int32.reduceToNatClampNeg, not_false_eq_true, not_true_eq_false, or_false, false_or, or_self, and_self, false_and, true_and, and_false, and_true, true_or, or_true, Nat.reduceAdd, Nat.reduceMul, Nat.reduceLT, Nat.reduceLeDiff, ne_eq, hs, nw_K, r_K, r_Fe, r_Fn, r_Fm, nw_F, F8]
  refine hv_bind (d_longer (Q := fun y => ∃ D', (∀ x, x ≠ z + 2 → D' x = D2 x) ∧ (∀ i, i < k → D' (z + 2) i = D2 c i) ∧ y = (z + 2, D', ao_nw (ao_r (ao_nw (ao_r (ao_nw σ z 0 (2 * k) (2 * k)) 537 22 (some z)) (z + 1) 0 (2 * k) (2 * k)) 537 23 (some (z + 1))) (z + 2) 0 (2 * k) (2 * k))) ?_ ?_ ?_ (by omega) (by omega) h3 (fun D' e1 e2 => ⟨D', e1, e2, rfl⟩)) ?_
  · try simp only [↓reduceIte, Nat.reduceEqDiff, Option.bind_some, ao_let, r_K, nw_K, kc]
    try simp (disch := first | omega | assumption) only [↓reduceIte, Nat.reduceEqDiff, Option.bind_some, ao_let, t_le, f_le, t_lt, f_lt, f_eq, u_eq, u_n1, u_n2, n_cl, n_lt, n_le, n_eq, n_ltl, n_llt, n_lel, n_lle, n_eql, n_leq, n_add, n_mul, n_sub, n_addl, n_ladd, n_mull, n_lmul, n_subl, Int32.reduceLT, Int32.reduceLE, Int32.reduceAdd, Int32.reduceSub, Int32.reduceMul, Int32.reduceToNatClampNeg, not_false_eq_true, not_true_eq_false, or_false, false_or, or_self, and_self, false_and, true_and, and_false, and_true, true_or, or_true, Nat.reduceAdd, Nat.reduceMul, Nat.reduceLT, Nat.reduceLeDiff, ne_eq, r_K, nw_K, kc]
  · try simp only [↓reduceIte, Nat.reduceEqDiff, Option.bind_some, ao_let, r_L, nw_L, lc]
    try simp (disch := first | omega | assumption) only [↓reduceIte, Nat.reduceEqDiff, Option.bind_some, ao_let, t_le, f_le, t_lt, f_lt, f_eq, u_eq, u_n1, u_n2, n_cl, n_lt, n_le, n_eq, n_ltl, n_llt, n_lel, n_lle, n_eql, n_leq, n_add, n_mul, n_sub, n_addl, n_ladd, n_mull, n_lmul, n_subl, Int32.reduceLT, Int32.reduceLE, Int32.reduceAdd, Int32.reduceSub, Int32.reduceMul, Int32.reduceToNatClampNeg, not_false_eq_true, not_true_eq_false, or_false, false_or, or_self, and_self, false_and, true_and, and_false, and_true, true_or, or_true, Nat.reduceAdd, Nat.reduceMul, Nat.reduceLT, Nat.reduceLeDiff, ne_eq, r_L, nw_L, lc]
  · try simp only [↓reduceIte, Nat.reduceEqDiff, Option.bind_some, ao_let, r_Z, nw_Z]
    try simp (disch := first | omega | assumption) only [↓reduceIte, Nat.reduceEqDiff, Option.bind_some, ao_let, t_le, f_le, t_lt, f_lt, f_eq, u_eq, u_n1, u_n2, n_cl, n_lt, n_le, n_eq, n_ltl, n_llt, n_lel, n_lle, n_eql, n_leq, n_add, n_mul, n_sub, n_addl, n_ladd, n_mull, n_lmul, n_subl, Int32.reduceLT, Int32.reduceLE, Int32.reduceAdd, Int32.reduceSub, Int32.reduceMul, Int32.reduceToNatClampNeg, not_false_eq_true, not_true_eq_false, or_false, false_or, or_self, and_self, false_and, true_and, and_false, and_true, true_or, or_true, Nat.reduceAdd, Nat.reduceMul, Nat.reduceLT, Nat.reduceLeDiff, ne_eq, r_Z, nw_Z]
  rintro _ ⟨D3, u3, v3, rfl⟩
  refine hv_up (fun _ => fX12_remember.eq_2 ..) ?_
  try simp only [↓reduceIte, Nat.reduceEqDiff, Option.bind_some, ao_let, hs, nw_K, r_K]
  try simp (disch := first | omega | assumption) only [↓reduceIte, Nat.reduceEqDiff, Option.bind_some, ao_let, t_le, f_le, t_lt, f_lt, f_eq, u_eq, u_n1, u_n2, n_cl, n_lt, n_le, n_eq, n_ltl, n_llt, n_lel, n_lle, n_eql, n_leq, n_add, n_mul, n_sub, n_addl, n_ladd, n_mull, n_lmul, n_subl, Int32.reduceLT, Int32.reduceLE, Int32.reduceAdd, Int32.reduceSub, Int32.reduceMul, Int32.reduceToNatClampNeg, not_false_eq_true, not_true_eq_false, or_false, false_or, or_self, and_self, false_and, true_and, and_false, and_true, true_or, or_true, Nat.reduceAdd, Nat.reduceMul, Nat.reduceLT, Nat.reduceLeDiff, ne_eq, hs, nw_K, r_K]
  have hX : HxD σ (ao_r (ao_nw (ao_r (ao_nw (ao_r (ao_nw σ z 0 (2 * k) (2 * k)) 537 22 (some z)) (z + 1) 0 (2 * k) (2 * k)) 537 23 (some (z + 1))) (z + 2) 0 (2 * k) (2 * k)) 537 24 (some (z + 2))) := by
    refine ⟨z, z + 3, hz, ?_, by omega, ?_, ?_, ?_, ?_, ?_⟩
    · try simp only [↓reduceIte, Nat.reduceEqDiff, Option.bind_some, ao_let, r_Z, nw_Z]
      try simp (disch := first | omega | assumption) only [↓reduceIte, Nat.reduceEqDiff, Option.bind_some, ao_let, t_le, f_le, t_lt, f_lt, f_eq, u_eq, u_n1, u_n2, n_cl, n_lt, n_le, n_eq, n_ltl, n_llt, n_lel, n_lle, n_eql, n_leq, n_add, n_mul, n_sub, n_addl, n_ladd, n_mull, n_lmul, n_subl, Int32.reduceLT, Int32.reduceLE, Int32.reduceAdd, Int32.reduceSub, Int32.reduceMul, Int32.reduceToNatClampNeg, not_false_eq_true, not_true_eq_false, or_false, false_or, or_self, and_self, false_and, true_and, and_false, and_true, true_or, or_true, Nat.reduceAdd, Nat.reduceMul, Nat.reduceLT, Nat.reduceLeDiff, ne_eq, r_Z, nw_Z]
    · intro x hx
      try simp only [↓reduceIte, Nat.reduceEqDiff, Option.bind_some, ao_let, r_K, nw_K, r_L, nw_L]
      try simp (disch := first | omega | assumption) only [↓reduceIte, Nat.reduceEqDiff, Option.bind_some, ao_let, t_le, f_le, t_lt, f_lt, f_eq, u_eq, u_n1, u_n2, n_cl, n_lt, n_le, n_eq, n_ltl, n_llt, n_lel, n_lle, n_eql, n_leq, n_add, n_mul, n_sub, n_addl, n_ladd, n_mull, n_lmul, n_subl, Int32.reduceLT, Int32.reduceLE, Int32.reduceAdd, Int32.reduceSub, Int32.reduceMul, Int32.reduceToNatClampNeg, not_false_eq_true, not_true_eq_false, or_false, false_or, or_self, and_self, false_and, true_and, and_false, and_true, true_or, or_true, Nat.reduceAdd, Nat.reduceMul, Nat.reduceLT, Nat.reduceLeDiff, ne_eq, r_K, nw_K, r_L, nw_L]
    · intro x i hx hi
      by_cases e : x = 537
      · subst e
        try simp only [↓reduceIte, Nat.reduceEqDiff, Option.bind_some, ao_let, r_Fm, nw_F]
        try simp (disch := first | omega | assumption) only [↓reduceIte, Nat.reduceEqDiff, Option.bind_some, ao_let, t_le, f_le, t_lt, f_lt, f_eq, u_eq, u_n1, u_n2, n_cl, n_lt, n_le, n_eq, n_ltl, n_llt, n_lel, n_lle, n_eql, n_leq, n_add, n_mul, n_sub, n_addl, n_ladd, n_mull, n_lmul, n_subl, Int32.reduceLT, Int32.reduceLE, Int32.reduceAdd, Int32.reduceSub, Int32.reduceMul, Int32.reduceToNatClampNeg, not_false_eq_true, not_true_eq_false, or_false, false_or, or_self, and_self, false_and, true_and, and_false, and_true, true_or, or_true, Nat.reduceAdd, Nat.reduceMul, Nat.reduceLT, Nat.reduceLeDiff, ne_eq, r_Fm, nw_F]
      · try simp only [↓reduceIte, Nat.reduceEqDiff, Option.bind_some, ao_let, r_Fn, nw_F]
        try simp (disch := first | omega | assumption) only [↓reduceIte, Nat.reduceEqDiff, Option.bind_some, ao_let, t_le, f_le, t_lt, f_lt, f_eq, u_eq, u_n1, u_n2, n_cl, n_lt, n_le, n_eq, n_ltl, n_llt, n_lel, n_lle, n_eql, n_leq, n_add, n_mul, n_sub, n_addl, n_ladd, n_mull, n_lmul, n_subl, Int32.reduceLT, Int32.reduceLE, Int32.reduceAdd, Int32.reduceSub, Int32.reduceMul, Int32.reduceToNatClampNeg, not_false_eq_true, not_true_eq_false, or_false, false_or, or_self, and_self, false_and, true_and, and_false, and_true, true_or, or_true, Nat.reduceAdd, Nat.reduceMul, Nat.reduceLT, Nat.reduceLeDiff, ne_eq, r_Fn, nw_F]
    · rintro x (e | e | e)
      · simp (disch := omega) only [r_Fe, r_Fm, nw_F] at e
        exact Or.inr (by have := Option.some.inj e; omega)
      · simp (disch := omega) only [r_Fe, r_Fm, nw_F] at e
        exact Or.inr (by have := Option.some.inj e; omega)
      · simp (disch := omega) only [r_Fe, r_Fm, nw_F] at e
        exact Or.inr (by have := Option.some.inj e; omega)
    · try simp only [↓reduceIte, Nat.reduceEqDiff, Option.bind_some, ao_let, er, rmD, r_Fe, r_Fm, nw_F, r_L, nw_L, nw_Le, Option.getD_some, r_c, nw_c, F6, la]
      try simp (disch := first | omega | assumption) only [↓reduceIte, Nat.reduceEqDiff, Option.bind_some, ao_let, t_le, f_le, t_lt, f_lt, f_eq, u_eq, u_n1, u_n2, n_cl, n_lt, n_le, n_eq, n_ltl, n_llt, n_lel, n_lle, n_eql, n_leq, n_add, n_mul, n_sub, n_addl, n_ladd, n_mull, n_lmul, n_subl, Int32.reduceLT, Int32.reduceLE, Int32.reduceAdd, Int32.reduceSub, Int32.reduceMul, Int32.reduceToNatClampNeg, not_false_eq_true, not_true_eq_false, or_false, false_or, or_self, and_self, false_and, true_and, and_false, and_true, true_or, or_true, Nat.reduceAdd, Nat.reduceMul, Nat.reduceLT, Nat.reduceLeDiff, ne_eq, er, rmD, r_Fe, r_Fm, nw_F, r_L, nw_L, nw_Le, Option.getD_some, r_c, nw_c, F6, la]
      try omega
    · try simp only [↓reduceIte, Nat.reduceEqDiff, Option.bind_some, ao_let, er, rmD, r_Fe, r_Fm, nw_F, r_L, nw_L, nw_Le, Option.getD_some, r_c, nw_s, F6, la]
      try simp (disch := first | omega | assumption) only [↓reduceIte, Nat.reduceEqDiff, Option.bind_some, ao_let, t_le, f_le, t_lt, f_lt, f_eq, u_eq, u_n1, u_n2, n_cl, n_lt, n_le, n_eq, n_ltl, n_llt, n_lel, n_lle, n_eql, n_leq, n_add, n_mul, n_sub, n_addl, n_ladd, n_mull, n_lmul, n_subl, Int32.reduceLT, Int32.reduceLE, Int32.reduceAdd, Int32.reduceSub, Int32.reduceMul, Int32.reduceToNatClampNeg, not_false_eq_true, not_true_eq_false, or_false, false_or, or_self, and_self, false_and, true_and, and_false, and_true, true_or, or_true, Nat.reduceAdd, Nat.reduceMul, Nat.reduceLT, Nat.reduceLeDiff, ne_eq, er, rmD, r_Fe, r_Fm, nw_F, r_L, nw_L, nw_Le, Option.getD_some, r_c, nw_s, F6, la]
      try omega
  refine q _ _ (HxD_sh hX (fun z' e => by rw [hz] at e; have := Option.some.inj e; omega) hs) ?_ ?_ hX ?_
  · refine ⟨z, z + 1, z + 2, 2 * k, z + 3, ?_, ?_, ?_, ?_, ?_, ?_, ?_, ?_, ?_, ?_, ?_, ?_, ?_, ?_, ?_, ?_, ?_, ?_, ?_, ?_, ?_, ?_, ?_, ?_, ?_⟩
    · try simp only [↓reduceIte, Nat.reduceEqDiff, Option.bind_some, ao_let, r_Fe, r_Fm, nw_F]
      try simp (disch := first | omega | assumption) only [↓reduceIte, Nat.reduceEqDiff, Option.bind_some, ao_let, t_le, f_le, t_lt, f_lt, f_eq, u_eq, u_n1, u_n2, n_cl, n_lt, n_le, n_eq, n_ltl, n_llt, n_lel, n_lle, n_eql, n_leq, n_add, n_mul, n_sub, n_addl, n_ladd, n_mull, n_lmul, n_subl, Int32.reduceLT, Int32.reduceLE, Int32.reduceAdd, Int32.reduceSub, Int32.reduceMul, Int32.reduceToNatClampNeg, not_false_eq_true, not_true_eq_false, or_false, false_or, or_self, and_self, false_and, true_and, and_false, and_true, true_or, or_true, Nat.reduceAdd, Nat.reduceMul, Nat.reduceLT, Nat.reduceLeDiff, ne_eq, r_Fe, r_Fm, nw_F]
    · try simp only [↓reduceIte, Nat.reduceEqDiff, Option.bind_some, ao_let, r_Fe, r_Fm, nw_F]
      try simp (disch := first | omega | assumption) only [↓reduceIte, Nat.reduceEqDiff, Option.bind_some, ao_let, t_le, f_le, t_lt, f_lt, f_eq, u_eq, u_n1, u_n2, n_cl, n_lt, n_le, n_eq, n_ltl, n_llt, n_lel, n_lle, n_eql, n_leq, n_add, n_mul, n_sub, n_addl, n_ladd, n_mull, n_lmul, n_subl, Int32.reduceLT, Int32.reduceLE, Int32.reduceAdd, Int32.reduceSub, Int32.reduceMul, Int32.reduceToNatClampNeg, not_false_eq_true, not_true_eq_false, or_false, false_or, or_self, and_self, false_and, true_and, and_false, and_true, true_or, or_true, Nat.reduceAdd, Nat.reduceMul, Nat.reduceLT, Nat.reduceLeDiff, ne_eq, r_Fe, r_Fm, nw_F]
    · try simp only [↓reduceIte, Nat.reduceEqDiff, Option.bind_some, ao_let, r_Fe, r_Fm, nw_F]
      try simp (disch := first | omega | assumption) only [↓reduceIte, Nat.reduceEqDiff, Option.bind_some, ao_let, t_le, f_le, t_lt, f_lt, f_eq, u_eq, u_n1, u_n2, n_cl, n_lt, n_le, n_eq, n_ltl, n_llt, n_lel, n_lle, n_eql, n_leq, n_add, n_mul, n_sub, n_addl, n_ladd, n_mull, n_lmul, n_subl, Int32.reduceLT, Int32.reduceLE, Int32.reduceAdd, Int32.reduceSub, Int32.reduceMul, Int32.reduceToNatClampNeg, not_false_eq_true, not_true_eq_false, or_false, false_or, or_self, and_self, false_and, true_and, and_false, and_true, true_or, or_true, Nat.reduceAdd, Nat.reduceMul, Nat.reduceLT, Nat.reduceLeDiff, ne_eq, r_Fe, r_Fm, nw_F]
    · try simp only [↓reduceIte, Nat.reduceEqDiff, Option.bind_some, ao_let, r_K, nw_K, nw_Ke]
      try simp (disch := first | omega | assumption) only [↓reduceIte, Nat.reduceEqDiff, Option.bind_some, ao_let, t_le, f_le, t_lt, f_lt, f_eq, u_eq, u_n1, u_n2, n_cl, n_lt, n_le, n_eq, n_ltl, n_llt, n_lel, n_lle, n_eql, n_leq, n_add, n_mul, n_sub, n_addl, n_ladd, n_mull, n_lmul, n_subl, Int32.reduceLT, Int32.reduceLE, Int32.reduceAdd, Int32.reduceSub, Int32.reduceMul, Int32.reduceToNatClampNeg, not_false_eq_true, not_true_eq_false, or_false, false_or, or_self, and_self, false_and, true_and, and_false, and_true, true_or, or_true, Nat.reduceAdd, Nat.reduceMul, Nat.reduceLT, Nat.reduceLeDiff, ne_eq, r_K, nw_K, nw_Ke]
    · try simp only [↓reduceIte, Nat.reduceEqDiff, Option.bind_some, ao_let, r_K, nw_K, nw_Ke]
      try simp (disch := first | omega | assumption) only [↓reduceIte, Nat.reduceEqDiff, Option.bind_some, ao_let, t_le, f_le, t_lt, f_lt, f_eq, u_eq, u_n1, u_n2, n_cl, n_lt, n_le, n_eq, n_ltl, n_llt, n_lel, n_lle, n_eql, n_leq, n_add, n_mul, n_sub, n_addl, n_ladd, n_mull, n_lmul, n_subl, Int32.reduceLT, Int32.reduceLE, Int32.reduceAdd, Int32.reduceSub, Int32.reduceMul, Int32.reduceToNatClampNeg, not_false_eq_true, not_true_eq_false, or_false, false_or, or_self, and_self, false_and, true_and, and_false, and_true, true_or, or_true, Nat.reduceAdd, Nat.reduceMul, Nat.reduceLT, Nat.reduceLeDiff, ne_eq, r_K, nw_K, nw_Ke]
    · try simp only [↓reduceIte, Nat.reduceEqDiff, Option.bind_some, ao_let, r_K, nw_K, nw_Ke]
      try simp (disch := first | omega | assumption) only [↓reduceIte, Nat.reduceEqDiff, Option.bind_some, ao_let, t_le, f_le, t_lt, f_lt, f_eq, u_eq, u_n1, u_n2, n_cl, n_lt, n_le, n_eq, n_ltl, n_llt, n_lel, n_lle, n_eql, n_leq, n_add, n_mul, n_sub, n_addl, n_ladd, n_mull, n_lmul, n_subl, Int32.reduceLT, Int32.reduceLE, Int32.reduceAdd, Int32.reduceSub, Int32.reduceMul, Int32.reduceToNatClampNeg, not_false_eq_true, not_true_eq_false, or_false, false_or, or_self, and_self, false_and, true_and, and_false, and_true, true_or, or_true, Nat.reduceAdd, Nat.reduceMul, Nat.reduceLT, Nat.reduceLeDiff, ne_eq, r_K, nw_K, nw_Ke]
    · try simp only [↓reduceIte, Nat.reduceEqDiff, Option.bind_some, ao_let, r_L, nw_L, nw_Le]
      try simp (disch := first | omega | assumption) only [↓reduceIte, Nat.reduceEqDiff, Option.bind_some, ao_let, t_le, f_le, t_lt, f_lt, f_eq, u_eq, u_n1, u_n2, n_cl, n_lt, n_le, n_eq, n_ltl, n_llt, n_lel, n_lle, n_eql, n_leq, n_add, n_mul, n_sub, n_addl, n_ladd, n_mull, n_lmul, n_subl, Int32.reduceLT, Int32.reduceLE, Int32.reduceAdd, Int32.reduceSub, Int32.reduceMul, Int32.reduceToNatClampNeg, not_false_eq_true, not_true_eq_false, or_false, false_or, or_self, and_self, false_and, true_and, and_false, and_true, true_or, or_true, Nat.reduceAdd, Nat.reduceMul, Nat.reduceLT, Nat.reduceLeDiff, ne_eq, r_L, nw_L, nw_Le]
    · try simp only [↓reduceIte, Nat.reduceEqDiff, Option.bind_some, ao_let, r_L, nw_L, nw_Le]
      try simp (disch := first | omega | assumption) only [↓reduceIte, Nat.reduceEqDiff, Option.bind_some, ao_let, t_le, f_le, t_lt, f_lt, f_eq, u_eq, u_n1, u_n2, n_cl, n_lt, n_le, n_eq, n_ltl, n_llt, n_lel, n_lle, n_eql, n_leq, n_add, n_mul, n_sub, n_addl, n_ladd, n_mull, n_lmul, n_subl, Int32.reduceLT, Int32.reduceLE, Int32.reduceAdd, Int32.reduceSub, Int32.reduceMul, Int32.reduceToNatClampNeg, not_false_eq_true, not_true_eq_false, or_false, false_or, or_self, and_self, false_and, true_and, and_false, and_true, true_or, or_true, Nat.reduceAdd, Nat.reduceMul, Nat.reduceLT, Nat.reduceLeDiff, ne_eq, r_L, nw_L, nw_Le]
    · try simp only [↓reduceIte, Nat.reduceEqDiff, Option.bind_some, ao_let, r_L, nw_L, nw_Le]
      try simp (disch := first | omega | assumption) only [↓reduceIte, Nat.reduceEqDiff, Option.bind_some, ao_let, t_le, f_le, t_lt, f_lt, f_eq, u_eq, u_n1, u_n2, n_cl, n_lt, n_le, n_eq, n_ltl, n_llt, n_lel, n_lle, n_eql, n_leq, n_add, n_mul, n_sub, n_addl, n_ladd, n_mull, n_lmul, n_subl, Int32.reduceLT, Int32.reduceLE, Int32.reduceAdd, Int32.reduceSub, Int32.reduceMul, Int32.reduceToNatClampNeg, not_false_eq_true, not_true_eq_false, or_false, false_or, or_self, and_self, false_and, true_and, and_false, and_true, true_or, or_true, Nat.reduceAdd, Nat.reduceMul, Nat.reduceLT, Nat.reduceLeDiff, ne_eq, r_L, nw_L, nw_Le]
    · rw [u3 _ (by omega), u2 _ (by omega), u1 _ (by omega), m10]
    · omega
    · omega
    · omega
    · omega
    · omega
    · omega
    · omega
    · omega
    · omega
    · try simp only [↓reduceIte, Nat.reduceEqDiff, Option.bind_some, ao_let, r_Z, nw_Z]
      try simp (disch := first | omega | assumption) only [↓reduceIte, Nat.reduceEqDiff, Option.bind_some, ao_let, t_le, f_le, t_lt, f_lt, f_eq, u_eq, u_n1, u_n2, n_cl, n_lt, n_le, n_eq, n_ltl, n_llt, n_lel, n_lle, n_eql, n_leq, n_add, n_mul, n_sub, n_addl, n_ladd, n_mull, n_lmul, n_subl, Int32.reduceLT, Int32.reduceLE, Int32.reduceAdd, Int32.reduceSub, Int32.reduceMul, Int32.reduceToNatClampNeg, not_false_eq_true, not_true_eq_false, or_false, false_or, or_self, and_self, false_and, true_and, and_false, and_true, true_or, or_true, Nat.reduceAdd, Nat.reduceMul, Nat.reduceLT, Nat.reduceLeDiff, ne_eq, r_Z, nw_Z]
    · omega
    · omega
    · omega
    · omega
    · intro i hi
      obtain ⟨e1, e2, e3⟩ := eqs i hi
      refine ⟨?_, ?_, ?_⟩
      · rw [u3 _ (by omega), u2 _ (by omega), v1 i hi, e1]
      · rw [u3 _ (by omega), v2 i hi, u1 _ (by omega), e2]
      · rw [v3 i hi, u2 _ (by omega), u1 _ (by omega), e3]
  · try simp only [↓reduceIte, Nat.reduceEqDiff, Option.bind_some, ao_let, rmD, r_Fe, r_Fm, nw_F, r_L, nw_L, nw_Le, Option.getD_some]
    try simp (disch := first | omega | assumption) only [↓reduceIte, Nat.reduceEqDiff, Option.bind_some, ao_let, t_le, f_le, t_lt, f_lt, f_eq, u_eq, u_n1, u_n2, n_cl, n_lt, n_le, n_eq, n_ltl, n_llt, n_lel, n_lle, n_eql, n_leq, n_add, n_mul, n_sub, n_addl, n_ladd, n_mull, n_lmul, n_subl, Int32.reduceLT, Int32.reduceLE, Int32.reduceAdd, Int32.reduceSub, Int32.reduceMul, Int32.reduceToNatClampNeg, not_false_eq_true, not_true_eq_false, or_false, false_or, or_self, and_self, false_and, true_and, and_false, and_true, true_or, or_true, Nat.reduceAdd, Nat.reduceMul, Nat.reduceLT, Nat.reduceLeDiff, ne_eq, rmD, r_Fe, r_Fm, nw_F, r_L, nw_L, nw_Le, Option.getD_some]
    try omega
  · intro x i hx hz'
    have hxz := hz' z hz
    rw [u3 _ (by omega), u2 _ (by omega), u1 _ (by omega)]
theorem d_remember {σ : ao_H} {D : ao_M} {k p : Nat} {f g h : Nat → Int32} (hs : ShD σ) (pl : PLd D σ k f g h) (hk3 : k ≤ 30000) (hp : p < 26) {Q : ao_S → Prop}
    (q : ∀ D' σ', PLd D' σ' (k + 1) (updF f k (D 537 26)) (updF g k (D 542 p)) (updF h k (D 546 p)) → HxD σ σ' → (∀ x i, ¬ PAd σ' x → (∀ z, σ.2.2.2.1 = some z → x < z) → D' x i = chD p k D x i) → Q (D', σ')) :
    hv (fun n => gX12_remember n 537 (nI p) D σ) Q := by
  have pl0 := pl
  obtain ⟨a, b, c, rm, z, F6, F7, F8, ka, kb, kc, la, lb, lc, m10, h1, h2, h3, ab, ac, bc, da, db, dc, hz, hz9, az, bz, cz, eqs⟩ := pl
  have er : rmD σ = rm := by simp [rmD, F6, la]
  unfold gX12_remember
  refine hv_up (fun _ => fX12_remember.eq_2 ..) ?_
  try simp only [↓reduceIte, Nat.reduceEqDiff, Option.bind_some, ao_let, hs, F6, ka, la, m10]
  try simp (disch := first | omega | assumption) only [↓reduceIte, Nat.reduceEqDiff, Option.bind_some, ao_let, t_le, f_le, t_lt, f_lt, f_eq, u_eq, u_n1, u_n2, n_cl, n_lt, n_le, n_eq, n_ltl, n_llt, n_lel, n_lle, n_eql, n_leq, n_add, n_mul, n_sub, n_addl, n_ladd, n_mull, n_lmul, n_subl, Int32.reduceLT, Int32.reduceLE, Int32.reduceAdd, Int32.reduceSub, Int32.reduceMul, Int32.reduceToNatClampNeg, not_false_eq_true, not_true_eq_false, or_false, false_or, or_self, and_self, false_and, true_and, and_false, and_true, true_or, or_true, Nat.reduceAdd, Nat.reduceMul, Nat.reduceLT, Nat.reduceLeDiff, ne_eq, hs, F6, ka, la, m10]
  by_cases hlt : k < rm
  · try simp only [↓reduceIte, Nat.reduceEqDiff, Option.bind_some, ao_let]
    try simp (disch := first | omega | assumption) only [↓reduceIte, Nat.reduceEqDiff, Option.bind_some, ao_let, t_le, f_le, t_lt, f_lt, f_eq, u_eq, u_n1, u_n2, n_cl, n_lt, n_le, n_eq, n_ltl, n_llt, n_lel, n_lle, n_eql, n_leq, n_add, n_mul, n_sub, n_addl, n_ladd, n_mull, n_lmul, n_subl, Int32.reduceLT, Int32.reduceLE, Int32.reduceAdd, Int32.reduceSub, Int32.reduceMul, Int32.reduceToNatClampNeg, not_false_eq_true, not_true_eq_false, or_false, false_or, or_self, and_self, false_and, true_and, and_false, and_true, true_or, or_true, Nat.reduceAdd, Nat.reduceMul, Nat.reduceLT, Nat.reduceLeDiff, ne_eq]
    refine d_rem45 hs pl0 (by omega) hp ?_
    intro D' hpl hx
    exact q D' σ hpl (HxD_refl hz) (fun x i h1 _ => hx x i h1)
  · obtain rfl : k = rm := by omega
    try simp only [↓reduceIte, Nat.reduceEqDiff, Option.bind_some, ao_let]
    try simp (disch := first | omega | assumption) only [↓reduceIte, Nat.reduceEqDiff, Option.bind_some, ao_let, t_le, f_le, t_lt, f_lt, f_eq, u_eq, u_n1, u_n2, n_cl, n_lt, n_le, n_eq, n_ltl, n_llt, n_lel, n_lle, n_eql, n_leq, n_add, n_mul, n_sub, n_addl, n_ladd, n_mull, n_lmul, n_subl, Int32.reduceLT, Int32.reduceLE, Int32.reduceAdd, Int32.reduceSub, Int32.reduceMul, Int32.reduceToNatClampNeg, not_false_eq_true, not_true_eq_false, or_false, false_or, or_self, and_self, false_and, true_and, and_false, and_true, true_or, or_true, Nat.reduceAdd, Nat.reduceMul, Nat.reduceLT, Nat.reduceLeDiff, ne_eq]
    refine d_grow hs pl0 (by omega) hk3 ?_ a F6
    intro D1 σ1 hs1 hpl1 hlt1 hx1 hf1
    refine d_rem45 hs1 hpl1 hlt1 hp ?_
    intro D' hpl hx
    have hx1' := hx1
    obtain ⟨zz, zz', y1, y2, y3, y4, y5, y6, y8, y9⟩ := hx1
    obtain rfl : z = zz := by rw [hz] at y1; exact Option.some.inj y1
    have nP1 : ∀ x, x < 547 → ¬ PAd σ1 x := by
      intro x hx hp
      rcases y6 x hp with e | e
      · rcases e with e | e | e
        · rw [F6] at e; have := Option.some.inj e; omega
        · rw [F7] at e; have := Option.some.inj e; omega
        · rw [F8] at e; have := Option.some.inj e; omega
      · omega
    have hz1 : ∀ x, x < 599 → ∀ z', σ.2.2.2.1 = some z' → x < z' := fun x hx z' e => by rw [hz] at e; have := Option.some.inj e; omega
    have g1 : D1 537 26 = D 537 26 := hf1 _ _ (nP1 _ (by omega)) (hz1 _ (by omega))
    have g2 : D1 542 p = D 542 p := hf1 _ _ (nP1 _ (by omega)) (hz1 _ (by omega))
    have g3 : D1 546 p = D 546 p := hf1 _ _ (nP1 _ (by omega)) (hz1 _ (by omega))
    refine q D' σ1 ?_ hx1' ?_
    · rw [g1, g2, g3] at hpl
      exact hpl
    · intro x i hxp hxz
      rw [hx x i hxp]
      simp only [chD, g1, hf1 x i hxp hxz]
