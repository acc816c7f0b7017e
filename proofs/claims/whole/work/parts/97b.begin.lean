set_option linter.unusedSimpArgs false
set_option linter.unusedVariables false
def cEnter (t dp : Nat) (x : Int32) (C : ao_M) : ao_M := ao_u (ao_cp (ao_u (ao_u (ao_u (ao_u (ao_u (ao_u (ao_u C (92 + 71 * t + 8 + 6 * dp) 3 0) (92 + 71 * t + 8 + 6 * dp) 4 0) (92 + 71 * t + 8 + 6 * dp) 6 0) (92 + 71 * t + 8 + 6 * dp) 8 x) (92 + 71 * t + 8 + 6 * dp) 9 0) (92 + 71 * t + 8 + 6 * dp) 10 (C (92 + 71 * t) 13)) (92 + 71 * t + 8 + 6 * dp) 11 (C (92 + 71 * t) 11)) (92 + 71 * t + 6) (92 + 71 * t + 8 + 6 * dp + 5) 0 0 26) (92 + 71 * t) 8 (nI (dp + 1))
theorem c_enter {C : ao_M} {ρ : ao_H} {t dp : Nat} {x : Int32} (hb : ShB ρ) (ht : t < 6) (hd : dp < 10) (h8 : C (92 + 71 * t) 8 = nI dp) {Q : ao_M → Prop} (q : Q (cEnter t dp x C)) : hv (fun n => gX7_enterLevel n (92 + 71 * t) x C ρ) Q := by
  have hR := RnS_of hb ht
  have hl := LvS_of hb ht hd
  unfold gX7_enterLevel
  try simp only [↓reduceIte, Nat.reduceEqDiff, Option.bind_some, ao_let, n_ell, hR, h8]
  try simp (disch := first | omega | assumption) only [↓reduceIte, Nat.reduceEqDiff, Option.bind_some, ao_let, t_le, f_le, t_lt, f_lt, f_eq, u_eq, u_n1, u_n2, n_cl, n_lt, n_le, n_eq, n_ltl, n_llt, n_lel, n_lle, n_eql, n_leq, n_add, n_mul, n_sub, n_addl, n_ladd, n_mull, n_lmul, n_subl, Int32.reduceLT, Int32.reduceLE, Int32.reduceAdd, Int32.reduceSub, Int32.reduceMul, Int32.reduceToNatClampNeg, not_false_eq_true, not_true_eq_false, or_false, false_or, or_self, and_self, false_and, true_and, and_false, and_true, true_or, or_true, Nat.reduceAdd, Nat.reduceMul, Nat.reduceLT, Nat.reduceLeDiff, ne_eq, n_ell, hR, h8]
  refine hv_bind (P := fun y => y = (92 + 71 * t + 8 + 6 * dp, C)) (c_level hb ht hd C rfl) ?_
  rintro _ rfl
  try simp only [↓reduceIte, Nat.reduceEqDiff, Option.bind_some, ao_let, n_ell, hR, hl, gX3_forgetReads, gX3_forgetWrites, cp_n]
  try simp (disch := first | omega | assumption) only [↓reduceIte, Nat.reduceEqDiff, Option.bind_some, ao_let, t_le, f_le, t_lt, f_lt, f_eq, u_eq, u_n1, u_n2, n_cl, n_lt, n_le, n_eq, n_ltl, n_llt, n_lel, n_lle, n_eql, n_leq, n_add, n_mul, n_sub, n_addl, n_ladd, n_mull, n_lmul, n_subl, Int32.reduceLT, Int32.reduceLE, Int32.reduceAdd, Int32.reduceSub, Int32.reduceMul, Int32.reduceToNatClampNeg, not_false_eq_true, not_true_eq_false, or_false, false_or, or_self, and_self, false_and, true_and, and_false, and_true, true_or, or_true, Nat.reduceAdd, Nat.reduceMul, Nat.reduceLT, Nat.reduceLeDiff, ne_eq, n_ell, hR, hl, gX3_forgetReads, gX3_forgetWrites, cp_n]
  refine hv_some ?_
  unfold cEnter at q
  have e8 : C (92 + 71 * t) 8 + 1 = nI (dp + 1) := by rw [h8]; exact n_addl
  rw [e8]
  exact q
def dOpen (t dp : Nat) (x2 x3 : Int32) (D : ao_M) : ao_M := ao_u (dKeep t dp (ao_u (ao_u (ao_u (ao_u (ao_u (ao_u (dClear t dp D) 570 (t * 12 + dp) (D 552 t)) 571 (t * 12 + dp) x2) 572 (t * 12 + dp) x3) 576 (t * 12 + dp) 0) 573 (t * 12 + dp) (D 557 t)) 574 (t * 12 + dp) (D 558 t))) 556 t (nI (dp + 1))
theorem dClear_n {t l a i : Nat} {D : ao_M} (h : a ≠ 577 ∧ a ≠ 578 ∧ a ≠ 584) : dClear t l D a i = D a i := by
  unfold dClear
  rw [if_neg (by omega), if_neg (by omega)]
theorem dKeep_n {t l a i : Nat} {D : ao_M} (h : a ≠ 575) : dKeep t l D a i = D a i := by
  unfold dKeep
  rw [if_neg (by omega)]
theorem d_open {D : ao_M} {σ : ao_H} {t dp : Nat} {x2 x3 : Int32} (hs : ShD σ) (ht : t < 6) (hd : dp < 12) (h8 : D 556 t = nI dp) {Q : ao_M → Prop} (q : Q (dOpen t dp x2 x3 D)) : hv (fun n => gX12_openLevel n 537 (nI t) x2 x3 D σ) Q := by
  unfold gX12_openLevel
  try simp only [↓reduceIte, Nat.reduceEqDiff, Option.bind_some, ao_let, n_ell, hs, h8]
  try simp (disch := first | omega | assumption) only [↓reduceIte, Nat.reduceEqDiff, Option.bind_some, ao_let, t_le, f_le, t_lt, f_lt, f_eq, u_eq, u_n1, u_n2, n_cl, n_lt, n_le, n_eq, n_ltl, n_llt, n_lel, n_lle, n_eql, n_leq, n_add, n_mul, n_sub, n_addl, n_ladd, n_mull, n_lmul, n_subl, Int32.reduceLT, Int32.reduceLE, Int32.reduceAdd, Int32.reduceSub, Int32.reduceMul, Int32.reduceToNatClampNeg, not_false_eq_true, not_true_eq_false, or_false, false_or, or_self, and_self, false_and, true_and, and_false, and_true, true_or, or_true, Nat.reduceAdd, Nat.reduceMul, Nat.reduceLT, Nat.reduceLeDiff, ne_eq, n_ell, hs, h8]
  refine hv_bind (P := fun y => y = _) (dv_clear hs ht hd D rfl) ?_
  rintro _ rfl
  try simp only [↓reduceIte, Nat.reduceEqDiff, Option.bind_some, ao_let, n_ell, hs, gX12_level, dClear_n]
  try simp (disch := first | omega | assumption) only [↓reduceIte, Nat.reduceEqDiff, Option.bind_some, ao_let, t_le, f_le, t_lt, f_lt, f_eq, u_eq, u_n1, u_n2, n_cl, n_lt, n_le, n_eq, n_ltl, n_llt, n_lel, n_lle, n_eql, n_leq, n_add, n_mul, n_sub, n_addl, n_ladd, n_mull, n_lmul, n_subl, Int32.reduceLT, Int32.reduceLE, Int32.reduceAdd, Int32.reduceSub, Int32.reduceMul, Int32.reduceToNatClampNeg, not_false_eq_true, not_true_eq_false, or_false, false_or, or_self, and_self, false_and, true_and, and_false, and_true, true_or, or_true, Nat.reduceAdd, Nat.reduceMul, Nat.reduceLT, Nat.reduceLeDiff, ne_eq, n_ell, hs, gX12_level, dClear_n]
  refine hv_bind (P := fun y => y = _) (dv_keep hs ht hd _ rfl) ?_
  rintro _ rfl
  refine hv_some ?_
  unfold dOpen at q
  try simp only [↓reduceIte, Nat.reduceEqDiff, Option.bind_some, ao_let, n_ell, dKeep_n, dClear_n, h8]
  try simp (disch := first | omega | assumption) only [↓reduceIte, Nat.reduceEqDiff, Option.bind_some, ao_let, t_le, f_le, t_lt, f_lt, f_eq, u_eq, u_n1, u_n2, n_cl, n_lt, n_le, n_eq, n_ltl, n_llt, n_lel, n_lle, n_eql, n_leq, n_add, n_mul, n_sub, n_addl, n_ladd, n_mull, n_lmul, n_subl, Int32.reduceLT, Int32.reduceLE, Int32.reduceAdd, Int32.reduceSub, Int32.reduceMul, Int32.reduceToNatClampNeg, not_false_eq_true, not_true_eq_false, or_false, false_or, or_self, and_self, false_and, true_and, and_false, and_true, true_or, or_true, Nat.reduceAdd, Nat.reduceMul, Nat.reduceLT, Nat.reduceLeDiff, ne_eq, n_ell, dKeep_n, dClear_n, h8]
  exact q

theorem cEnter_n {t dp a i : Nat} {x : Int32} {C : ao_M} (h : a ≠ 92 + 71 * t + 8 + 6 * dp ∧ a ≠ 92 + 71 * t + 8 + 6 * dp + 5 ∧ ¬ (a = 92 + 71 * t ∧ i = 8)) : cEnter t dp x C a i = C a i := by
  unfold cEnter
  rw [u_ne (by omega), cp_n (by omega), u_n1 (by omega), u_n1 (by omega), u_n1 (by omega), u_n1 (by omega), u_n1 (by omega), u_n1 (by omega), u_n1 (by omega)]
theorem cEnter_r {t dp k : Nat} {x : Int32} {C : ao_M} (hk : k < 26) : cEnter t dp x C (92 + 71 * t + 8 + 6 * dp + 5) k = C (92 + 71 * t + 6) k := by
  unfold cEnter
  rw [u_n1 (by omega), cp_e hk, u_n1 (by omega), u_n1 (by omega), u_n1 (by omega), u_n1 (by omega), u_n1 (by omega), u_n1 (by omega), u_n1 (by omega)]
theorem cEnter_l {t dp : Nat} {x : Int32} {C : ao_M} : cEnter t dp x C (92 + 71 * t) 8 = nI (dp + 1) ∧ cEnter t dp x C (92 + 71 * t + 8 + 6 * dp) 3 = 0 ∧ cEnter t dp x C (92 + 71 * t + 8 + 6 * dp) 4 = 0 ∧ cEnter t dp x C (92 + 71 * t + 8 + 6 * dp) 6 = 0 ∧ cEnter t dp x C (92 + 71 * t + 8 + 6 * dp) 8 = x ∧ cEnter t dp x C (92 + 71 * t + 8 + 6 * dp) 9 = 0 ∧ cEnter t dp x C (92 + 71 * t + 8 + 6 * dp) 10 = C (92 + 71 * t) 13 ∧ cEnter t dp x C (92 + 71 * t + 8 + 6 * dp) 11 = C (92 + 71 * t) 11 := by
  unfold cEnter
  refine ⟨u_eq, ?_, ?_, ?_, ?_, ?_, ?_, ?_⟩ <;> simp (disch := omega) only [u_eq, u_n1, u_n2, cp_n]
theorem dOpen_n {t dp a i : Nat} {x y : Int32} {D : ao_M} (h1 : ¬ (a = 556 ∧ i = t)) (h2 : ¬ ((570 ≤ a ∧ a ≤ 574 ∨ a = 576 ∨ a = 584) ∧ i = t * 12 + dp)) (h3 : ¬ ((a = 575 ∨ a = 577 ∨ a = 578) ∧ (t * 12 + dp) * 26 ≤ i ∧ i < (t * 12 + dp) * 26 + 26)) : dOpen t dp x y D a i = D a i := by
  unfold dOpen dKeep
  rw [u_ne (by omega), if_neg (by omega), u_ne (by omega), u_ne (by omega), u_ne (by omega), u_ne (by omega), u_ne (by omega), u_ne (by omega)]
  unfold dClear
  rw [if_neg (by omega), if_neg (by omega)]
theorem dOpen_l {t dp : Nat} {x y : Int32} {D : ao_M} : dOpen t dp x y D 556 t = nI (dp + 1) ∧ dOpen t dp x y D 570 (t * 12 + dp) = D 552 t ∧ dOpen t dp x y D 571 (t * 12 + dp) = x ∧ dOpen t dp x y D 572 (t * 12 + dp) = y ∧ dOpen t dp x y D 573 (t * 12 + dp) = D 557 t ∧ dOpen t dp x y D 574 (t * 12 + dp) = D 558 t ∧ dOpen t dp x y D 576 (t * 12 + dp) = 0 ∧ dOpen t dp x y D 584 (t * 12 + dp) = 0 := by
  unfold dOpen
  refine ⟨u_eq, ?_, ?_, ?_, ?_, ?_, ?_, ?_⟩ <;> simp (disch := omega) only [u_eq, u_n1, u_n2, dKeep_n]
  simp [dClear]
theorem dOpen_r {t dp k : Nat} {x y : Int32} {D : ao_M} (hk : k < 26) : dOpen t dp x y D 575 ((t * 12 + dp) * 26 + k) = D 553 (t * 26 + k) ∧ dOpen t dp x y D 577 ((t * 12 + dp) * 26 + k) = 0 ∧ dOpen t dp x y D 578 ((t * 12 + dp) * 26 + k) = 0 := by
  unfold dOpen
  refine ⟨?_, ?_, ?_⟩
  · rw [u_n1 (by omega), dKeep, if_pos (by omega), show (t * 12 + dp) * 26 + k - (t * 12 + dp) * 26 = k by omega]
    simp (disch := omega) only [u_n1, dClear_n]
  · rw [u_n1 (by omega), dKeep_n (by omega)]
    simp (disch := omega) only [u_n1]
    unfold dClear
    rw [if_pos (by omega)]
  · rw [u_n1 (by omega), dKeep_n (by omega)]
    simp (disch := omega) only [u_n1]
    unfold dClear
    rw [if_pos (by omega)]
/-- the reference's or of a level -/
theorem or_at {fi0 : Int32} {r len : Nat} {φ : Nat → Nat} (h : fi0 = -1 ∧ r = 0 ∨ ∃ T, fi0 = nI T ∧ r = φ T + 1 ∧ T ≤ len) : fi0 = -1 ∧ nI r - 1 = -1 ∨ ∃ T, T ≤ len ∧ fi0 = nI T ∧ nI r - 1 = nI (φ T) := by
  rcases h with ⟨h1, rfl⟩ | ⟨T, h1, rfl, h2⟩
  · exact Or.inl ⟨h1, by decide⟩
  · exact Or.inr ⟨T, h2, h1, n_pre⟩
theorem n_div {x : Nat} (h : x < 2147483648) : nI x / 2 = nI (x / 2) := by
  apply Int32.toInt_inj.mp
  rw [Int32.toInt_div, n_toInt h, n_toInt (by omega)]
  show Int.bmod ((x : Int).tdiv 2) (2 ^ 32) = ((x / 2 : Nat) : Int)
  have : (x : Int).tdiv 2 = ((x / 2 : Nat) : Int) := by
    rw [Int.tdiv_eq_ediv_of_nonneg (by omega)]
    omega
  rw [this]
  rw [Int.bmod_def]
  split <;> omega
theorem n_half {r m : Nat} (hr : r < 10000) (hm : m ≤ 1) : nI (2 * r + m) / 2 = nI r ∧ (nI (2 * r + m) - nI (2 * r + m) / 2 * 2 = 1) = (m = 1) := by
  have e : nI (2 * r + m) / 2 = nI r := by
    rw [n_div (by omega), show (2 * r + m) / 2 = r by omega]
  refine ⟨e, ?_⟩
  rw [e]
  have : nI r * 2 = nI (r * 2) := n_mul
  rw [this, n_sub (by omega), show 2 * r + m - r * 2 = m by omega]
  exact n_eql (by omega) (by omega)

section St6
variable {C D : ao_M} {ρ σ : ao_H} {kp rc nw bw br t s len kd a1 a2 a3 a : Nat} {φ : Nat → Nat} {N : Ns} {H K : Nat → Nat}
set_option maxHeartbeats 4000000 in
theorem st_begin2 (hF : Full C ρ D σ kp rc nw bw br) (ht : t < 6) (ho : Opn C ρ D rc t s len kd a1 a2 a3 φ N H K a) (ha : a < len) (h : C a1 a = 16 ∧ dcd D t (3 * φ a) = 15 ∧ H a = 0 ∧ φ (a + 1) = φ a + 1 ∧ N (a + 1) = (0, a) :: N a ∧ H (a + 1) = 0 ∧ K a < K (a + 1) ∧ ∃ B r m, C a3 a = nI B ∧ dcd D t (3 * φ a + 2) = nI (φ B) ∧ B ≤ len ∧ N B = N a ∧ H B = 0 ∧ dcd D t (3 * φ a + 1) = nI (2 * r + m) ∧ m ≤ 1 ∧ (nl (N a) = 0 ∨ m = 0 ∨ 1 ≤ r) ∧ (C a2 a = -1 ∧ r = 0 ∨ ∃ T, C a2 a = nI T ∧ r = φ T + 1 ∧ T ≤ len ∧ N T = (0, a) :: N a ∧ H T = 0)) (es : s = 2) :
    hv (fun n => gX2_step n 12 (92 + 71 * t) C ρ) (fun y => hv (fun n => gX12_step n 537 (nI t) D σ) (fun w => GoP kp rc nw bw br t s len kd a1 a2 a3 φ N H K a y w)) := by
  obtain ⟨i1, i2, i3, j1, j2, j3, j4, B, r, m, k1, k2, k3, k4, k5, k6, k7, k8, k9⟩ := h
  have ho' := ho
  have hF' := hF
  obtain ⟨hcat, cok, tc⟩ := ho
  obtain ⟨⟨f1, f2, f3, f4⟩, -⟩ := hF
  obtain ⟨t1, t2, t3, t4, t5, t6, t7, t8, t9, t10, t11, t12, t13, t14, t15⟩ := tc
  have hR := RnS_of f2 ht
  have hh := (cok.2.2.2.2.2.1 a t9).2.2.1
  obtain ⟨g0, g1, g2, g3⟩ := d_ins (C := C) (rc := rc) (s := s) cok t9
  have h8 : C (92 + 71 * t) 8 = nI (nl (N a)) ∧ D 556 t = nI (nl (N a)) := by
    rcases t1 with es | es
    · obtain ⟨q1, q2, q3⟩ := t14 es
      rw [q1, q2, q3]
      exact ⟨rfl, rfl⟩
    · obtain ⟨q1, q2, q3, q4, q5⟩ := t15 es
      exact ⟨q2.1, q3⟩
  have hch := (cok.2.2.2.2.2.1 a t9).2.2.2
  have hlt := chd_lt (N a) hch
  have hbd := chd_b (fun i hi => (cok.2.2.2.2.2.1 i hi).2.1) (N a) hch (cok.2.2.2.2.2.1 a t9).2.1
  have hlen := cok.1
  have hlna := (cok.2.2.2.2.2.1 a t9).2.1
  have hlnb := (cok.2.2.2.2.2.1 (a + 1) (by omega)).2.1
  have nl1 := @nl_le (N a)
  have ns1 := @ns_le (N a)
  have nt1 := @nt_le (N a)
  obtain ⟨q11, q58, q57, qE⟩ := t13
  obtain ⟨b1, b2, b3, b4, b5, b6, b7, b8, b9, b10, b11, b12, b13, b14, b15, b16, b17, b18⟩ := hcat
  have tc0 := ho'.2.2
  rw [i2] at g1
  rw [k6] at g2
  rw [k2] at g3
  rw [j2] at hlnb
  simp only [List.length_cons] at hlnb
  obtain ⟨w1, w2, w3, w4, w5⟩ := t15 es
  have hr6 : r < 10000 := by
    rcases k9 with ⟨_, q⟩ | ⟨T, _, q, q2, _, _⟩
    · omega
    · have := (cok.2.2.2.2.2.1 T q2).1; omega
  obtain ⟨hv1, hv2⟩ := n_half hr6 k7
  have hmode : D 551 t = 2 := by rw [t3, es, n_l]
  have hmr : m = 0 ∨ 1 ≤ r := by
    rcases k8 with q | q | q
    · exact absurd q (by omega)
    · exact Or.inl q
    · exact Or.inr q
  unfold gX2_step
  refine hv_up (fun _ => fX2_step.eq_2 ..) ?_
  try simp only [↓reduceIte, Nat.reduceEqDiff, Option.bind_some, ao_let, n_ell, f1, hR, b1, b2, b3, b4, b5, b6, b7, b8, b9, b10, b11, b12, b13, t10, i1]
  try simp (disch := first | omega | assumption) only [↓reduceIte, Nat.reduceEqDiff, Option.bind_some, ao_let, t_le, f_le, t_lt, f_lt, f_eq, u_eq, u_n1, u_n2, n_cl, n_lt, n_le, n_eq, n_ltl, n_llt, n_lel, n_lle, n_eql, n_leq, n_add, n_mul, n_sub, n_addl, n_ladd, n_mull, n_lmul, n_subl, Int32.reduceLT, Int32.reduceLE, Int32.reduceAdd, Int32.reduceSub, Int32.reduceMul, Int32.reduceToNatClampNeg, not_false_eq_true, not_true_eq_false, or_false, false_or, or_self, and_self, false_and, true_and, and_false, and_true, true_or, or_true, Nat.reduceAdd, Nat.reduceMul, Nat.reduceLT, Nat.reduceLeDiff, ne_eq, n_ell, f1, hR, b1, b2, b3, b4, b5, b6, b7, b8, b9, b10, b11, b12, b13, t10, i1]
  refine hv_bind (P := fun y => y = (-1, cEnter t (nl (N a)) (nI a) (ao_u C (92 + 71 * t) 3 (nI (a + 1))))) ?_ ?_
  · unfold gX2_beginLevel
    try simp only [↓reduceIte, Nat.reduceEqDiff, Option.bind_some, ao_let, n_ell, hR, h8.1]
    try simp (disch := first | omega | assumption) only [↓reduceIte, Nat.reduceEqDiff, Option.bind_some, ao_let, t_le, f_le, t_lt, f_lt, f_eq, u_eq, u_n1, u_n2, n_cl, n_lt, n_le, n_eq, n_ltl, n_llt, n_lel, n_lle, n_eql, n_leq, n_add, n_mul, n_sub, n_addl, n_ladd, n_mull, n_lmul, n_subl, Int32.reduceLT, Int32.reduceLE, Int32.reduceAdd, Int32.reduceSub, Int32.reduceMul, Int32.reduceToNatClampNeg, not_false_eq_true, not_true_eq_false, or_false, false_or, or_self, and_self, false_and, true_and, and_false, and_true, true_or, or_true, Nat.reduceAdd, Nat.reduceMul, Nat.reduceLT, Nat.reduceLeDiff, ne_eq, n_ell, hR, h8.1]
    refine hv_bind (P := fun y => y = _) (c_enter (dp := nl (N a)) f2 ht (by omega) (by rw [u_n2 (by omega)]; exact h8.1) rfl) ?_
    rintro _ rfl
    exact hv_some rfl
  rintro _ rfl
  refine hv_some ?_
  unfold gX12_step
  refine hv_up (fun _ => fX12_step.eq_2 ..) ?_
  try simp only [↓reduceIte, Nat.reduceEqDiff, Option.bind_some, ao_let, n_ell, f4, t11, g1, g2, g3]
  try simp (disch := first | omega | assumption) only [↓reduceIte, Nat.reduceEqDiff, Option.bind_some, ao_let, t_le, f_le, t_lt, f_lt, f_eq, u_eq, u_n1, u_n2, n_cl, n_lt, n_le, n_eq, n_ltl, n_llt, n_lel, n_lle, n_eql, n_leq, n_add, n_mul, n_sub, n_addl, n_ladd, n_mull, n_lmul, n_subl, Int32.reduceLT, Int32.reduceLE, Int32.reduceAdd, Int32.reduceSub, Int32.reduceMul, Int32.reduceToNatClampNeg, not_false_eq_true, not_true_eq_false, or_false, false_or, or_self, and_self, false_and, true_and, and_false, and_true, true_or, or_true, Nat.reduceAdd, Nat.reduceMul, Nat.reduceLT, Nat.reduceLeDiff, ne_eq, n_ell, f4, t11, g1, g2, g3]
  refine hv_bind (P := fun y => y = (-1, dOpen t (nl (N a)) (nI r - 1) (nI (φ B)) (ao_u (ao_u (ao_u D 552 t (nI (φ a + 1))) 565 (t * 12 + ns (N a)) (nI (nl (N a)))) 557 t (nI (ns (N a) + 1))))) ?_ ?_
  · unfold gX12_beginBlock
    have fin : ∀ x4 : Int32, hv (fun n => fX12_beginBlock n 172 537 (nI t) (nI (2 * r + m)) (nI (φ B)) x4 (nI r - 1) 0 0 0 0 (ao_u D 552 t (nI (φ a + 1))) σ) (fun y => y = (-1, dOpen t (nl (N a)) (nI r - 1) (nI (φ B)) (ao_u (ao_u (ao_u D 552 t (nI (φ a + 1))) 565 (t * 12 + ns (N a)) (nI (nl (N a)))) 557 t (nI (ns (N a) + 1))))) := by
      intro x4
      refine hv_up (fun _ => fX12_beginBlock.eq_2 ..) ?_
      try simp only [↓reduceIte, Nat.reduceEqDiff, Option.bind_some, ao_let, n_ell]
      try simp (disch := first | omega | assumption) only [↓reduceIte, Nat.reduceEqDiff, Option.bind_some, ao_let, t_le, f_le, t_lt, f_lt, f_eq, u_eq, u_n1, u_n2, n_cl, n_lt, n_le, n_eq, n_ltl, n_llt, n_lel, n_lle, n_eql, n_leq, n_add, n_mul, n_sub, n_addl, n_ladd, n_mull, n_lmul, n_subl, Int32.reduceLT, Int32.reduceLE, Int32.reduceAdd, Int32.reduceSub, Int32.reduceMul, Int32.reduceToNatClampNeg, not_false_eq_true, not_true_eq_false, or_false, false_or, or_self, and_self, false_and, true_and, and_false, and_true, true_or, or_true, Nat.reduceAdd, Nat.reduceMul, Nat.reduceLT, Nat.reduceLeDiff, ne_eq, n_ell]
      refine hv_up (fun _ => fX12_beginBlock.eq_2 ..) ?_
      try simp only [↓reduceIte, Nat.reduceEqDiff, Option.bind_some, ao_let, n_ell, f4, q57, gX12_level, h8.2]
      try simp (disch := first | omega | assumption) only [↓reduceIte, Nat.reduceEqDiff, Option.bind_some, ao_let, t_le, f_le, t_lt, f_lt, f_eq, u_eq, u_n1, u_n2, n_cl, n_lt, n_le, n_eq, n_ltl, n_llt, n_lel, n_lle, n_eql, n_leq, n_add, n_mul, n_sub, n_addl, n_ladd, n_mull, n_lmul, n_subl, Int32.reduceLT, Int32.reduceLE, Int32.reduceAdd, Int32.reduceSub, Int32.reduceMul, Int32.reduceToNatClampNeg, not_false_eq_true, not_true_eq_false, or_false, false_or, or_self, and_self, false_and, true_and, and_false, and_true, true_or, or_true, Nat.reduceAdd, Nat.reduceMul, Nat.reduceLT, Nat.reduceLeDiff, ne_eq, n_ell, f4, q57, gX12_level, h8.2]
      refine hv_up (fun _ => fX12_beginBlock.eq_2 ..) ?_
      try simp only [↓reduceIte, Nat.reduceEqDiff, Option.bind_some, ao_let, n_ell, f4, q57]
      try simp (disch := first | omega | assumption) only [↓reduceIte, Nat.reduceEqDiff, Option.bind_some, ao_let, t_le, f_le, t_lt, f_lt, f_eq, u_eq, u_n1, u_n2, n_cl, n_lt, n_le, n_eq, n_ltl, n_llt, n_lel, n_lle, n_eql, n_leq, n_add, n_mul, n_sub, n_addl, n_ladd, n_mull, n_lmul, n_subl, Int32.reduceLT, Int32.reduceLE, Int32.reduceAdd, Int32.reduceSub, Int32.reduceMul, Int32.reduceToNatClampNeg, not_false_eq_true, not_true_eq_false, or_false, false_or, or_self, and_self, false_and, true_and, and_false, and_true, true_or, or_true, Nat.reduceAdd, Nat.reduceMul, Nat.reduceLT, Nat.reduceLeDiff, ne_eq, n_ell, f4, q57]
      refine hv_bind (P := fun y => y = _) (d_open (dp := nl (N a)) f4 ht (by omega) (by rw [u_n1 (by omega), u_n1 (by omega), u_n1 (by omega)]; exact h8.2) rfl) ?_
      rintro _ rfl
      exact hv_some rfl
    refine hv_up (fun _ => fX12_beginBlock.eq_2 ..) ?_
    simp only [↓reduceIte, hv2]
    by_cases hm1 : m = 1
    · have hm1' : (m = 1) = True := eq_true hm1
      simp only [hm1', ↓reduceIte]
      refine hv_up (fun _ => fX12_beginBlock.eq_2 ..) ?_
      simp only [hv1]
      try simp only [↓reduceIte, Nat.reduceEqDiff, Option.bind_some, ao_let, n_ell, f4, hmode, t11]
      try simp (disch := first | omega | assumption) only [↓reduceIte, Nat.reduceEqDiff, Option.bind_some, ao_let, t_le, f_le, t_lt, f_lt, f_eq, u_eq, u_n1, u_n2, n_cl, n_lt, n_le, n_eq, n_ltl, n_llt, n_lel, n_lle, n_eql, n_leq, n_add, n_mul, n_sub, n_addl, n_ladd, n_mull, n_lmul, n_subl, Int32.reduceLT, Int32.reduceLE, Int32.reduceAdd, Int32.reduceSub, Int32.reduceMul, Int32.reduceToNatClampNeg, not_false_eq_true, not_true_eq_false, or_false, false_or, or_self, and_self, false_and, true_and, and_false, and_true, true_or, or_true, Nat.reduceAdd, Nat.reduceMul, Nat.reduceLT, Nat.reduceLeDiff, ne_eq, n_ell, f4, hmode, t11]
      have hneg : (nI r - 1 < 0) = False := by
        obtain ⟨r', rfl⟩ : ∃ r', r = r' + 1 := ⟨r - 1, by omega⟩
        rw [n_pre]
        exact eq_false (n_ne (by omega))
      try simp only [hneg, show ((1 : Int32) = 0) = False from by decide, ↓reduceIte]
      rw [show nI (r - 1) = nI r - 1 from (n_subl (b := 1) (by show 1 ≤ r; omega)).symm]
      exact fin _
    · have hm1' : (m = 1) = False := eq_false hm1
      simp only [hm1', ↓reduceIte]
      refine hv_up (fun _ => fX12_beginBlock.eq_2 ..) ?_
      simp only [hv1]
      try simp only [↓reduceIte, Nat.reduceEqDiff, Option.bind_some, ao_let, n_ell, f4, hmode, t11]
      try simp (disch := first | omega | assumption) only [↓reduceIte, Nat.reduceEqDiff, Option.bind_some, ao_let, t_le, f_le, t_lt, f_lt, f_eq, u_eq, u_n1, u_n2, n_cl, n_lt, n_le, n_eq, n_ltl, n_llt, n_lel, n_lle, n_eql, n_leq, n_add, n_mul, n_sub, n_addl, n_ladd, n_mull, n_lmul, n_subl, Int32.reduceLT, Int32.reduceLE, Int32.reduceAdd, Int32.reduceSub, Int32.reduceMul, Int32.reduceToNatClampNeg, not_false_eq_true, not_true_eq_false, or_false, false_or, or_self, and_self, false_and, true_and, and_false, and_true, true_or, or_true, Nat.reduceAdd, Nat.reduceMul, Nat.reduceLT, Nat.reduceLeDiff, ne_eq, n_ell, f4, hmode, t11]
      exact fin _
  rintro _ rfl
  refine hv_some ⟨rfl, rfl, a + 1, j4, ?_⟩
  dsimp only
  have hcat : Cat C ρ t len kd a1 a2 a3 := ho'.1
  have hlv : 92 + 71 * t + 8 + 6 * nl (N a) + 5 < 92 + 71 * t + 71 := by omega
  obtain ⟨x8, x3, x4, x6, x88, x9, x10, x11⟩ := @cEnter_l t (nl (N a)) (nI a) (ao_u C (92 + 71 * t) 3 (nI (a + 1)))
  have hCn : ∀ x i, x ≠ 92 + 71 * t + 8 + 6 * nl (N a) → x ≠ 92 + 71 * t + 8 + 6 * nl (N a) + 5 → ¬ (x = 92 + 71 * t ∧ (i = 8 ∨ i = 3)) → cEnter t (nl (N a)) (nI a) (ao_u C (92 + 71 * t) 3 (nI (a + 1))) x i = C x i := fun x i h1 h2 h3 => by
    rw [cEnter_n ⟨h1, h2, by omega⟩, u_ne (by omega)]
  obtain ⟨y56, y70, y71, y72, y73, y74, y76, y84⟩ := @dOpen_l t (nl (N a)) (nI r - 1) (nI (φ B)) (ao_u (ao_u (ao_u D 552 t (nI (φ a + 1))) 565 (t * 12 + ns (N a)) (nI (nl (N a)))) 557 t (nI (ns (N a) + 1)))
  have hDn : ∀ x i, ¬ (i = t ∧ (x = 552 ∨ x = 556 ∨ x = 557)) → ¬ (x = 565 ∧ i = t * 12 + ns (N a)) → ¬ ((570 ≤ x ∧ x ≤ 574 ∨ x = 576 ∨ x = 584) ∧ i = t * 12 + nl (N a)) → ¬ ((x = 575 ∨ x = 577 ∨ x = 578) ∧ (t * 12 + nl (N a)) * 26 ≤ i ∧ i < (t * 12 + nl (N a)) * 26 + 26) → dOpen t (nl (N a)) (nI r - 1) (nI (φ B)) (ao_u (ao_u (ao_u D 552 t (nI (φ a + 1))) 565 (t * 12 + ns (N a)) (nI (nl (N a)))) 557 t (nI (ns (N a) + 1))) x i = D x i := fun x i h1 h2 h3 h4 => by
    rw [dOpen_n (by omega) h3 h4, u_ne (by omega), u_ne (by omega), u_ne (by omega)]
  generalize hC' : cEnter t (nl (N a)) (nI a) (ao_u C (92 + 71 * t) 3 (nI (a + 1))) = C' at *
  generalize hD' : dOpen t (nl (N a)) (nI r - 1) (nI (φ B)) (ao_u (ao_u (ao_u D 552 t (nI (φ a + 1))) 565 (t * 12 + ns (N a)) (nI (nl (N a)))) 557 t (nI (ns (N a) + 1))) = D' at *
  have tc' : Tc C' D' rc t 2 (C a2) (C a3) len φ N H (a + 1) := by
    refine open_ok ht cok tc0 ha j1 j2 j3 i3 k1 k3 (fun x i h1 h2 h3 h4 h5 => hCn x i h3 h4 (by omega)) (fun x i h1 h2 h3 h4 h5 h6 => hDn x i (by omega) h4 h5 h6) ?_ ?_ x8 ?_ ⟨?_, ?_⟩ x3 x4 x6 x88 x9 ?_ ?_ ?_ ?_ ?_ y56 ?_ ?_ ?_ ?_ y72 ?_ ?_ y76 y84 ?_ ?_
    · rw [hCn _ _ (by omega) (by omega) (by omega), t2, es]; rfl
    · rw [← hC', cEnter_n (by omega), u_eq]
    · rw [if_pos es, hCn _ _ (by omega) (by omega) (by omega)]
    · rw [hCn _ _ (by omega) (by omega) (by omega), hDn _ _ (by omega) (by omega) (by omega) (by omega)]; exact w4
    · rw [hCn _ _ (by omega) (by omega) (by omega), hDn _ _ (by omega) (by omega) (by omega) (by omega)]; exact w5
    · rw [x10, u_n2 (by omega), hCn _ _ (by omega) (by omega) (by omega)]
    · rw [x11, u_n2 (by omega)]
    · intro k hk
      rw [← hC', cEnter_r hk, u_n1 (by omega)]
    · rw [hDn _ _ (by omega) (by omega) (by omega) (by omega)]; exact hmode
    · rw [← hD', dOpen_n (by omega) (by omega) (by omega), u_n1 (by omega), u_n1 (by omega), u_eq]
    · rw [← hD', dOpen_n (by omega) (by omega) (by omega), u_eq]
    · rw [← hD', dOpen_n (by omega) (by omega) (by omega), u_n1 (by omega), u_eq]
    · rw [y70, u_n1 (by omega), u_n1 (by omega), u_eq]
    · rw [y71]
      refine or_at ?_
      rcases k9 with q | ⟨T, q1, q2, q3, _⟩
      · exact Or.inl q
      · exact Or.inr ⟨T, q1, q2, q3⟩
    · rw [y73, u_eq]
    · rw [y74, u_n1 (by omega), u_n1 (by omega), u_n1 (by omega)]; exact q58
    · intro k hk
      rw [← hD', (dOpen_r hk).1, u_n1 (by omega), u_n1 (by omega), u_n1 (by omega)]
    · intro k hk
      rw [← hD', (dOpen_r hk).2.1, (dOpen_r hk).2.2]
      exact ⟨rfl, rfl⟩
  obtain ⟨c1, c2, c3, c4⟩ := Cat_loc hcat (C' := C') (fun x i hx => hCn x i (by omega) (by omega) (by omega))
  have ed : dcd D' t = dcd D t := dcd_eq (fun i => hDn _ _ (by omega) (by omega) (by omega) (by omega))
  have hop : Opn C' ρ D' rc t 2 len kd a1 a2 a3 φ N H K (a + 1) := ⟨c1, by rw [c2, c3, c4, ed]; exact cok, by rw [c3, c4]; exact tc'⟩
  have hdp : dpC C t = nl (N a) := by
    unfold dpC
    rw [h8.1, n_cl (by omega)]
  have hdp' : dpC C' t = nl (N a) + 1 := by
    unfold dpC
    rw [x8, n_cl (by omega)]
  refine ⟨Full_loc hF' ht (fun x i h => hCn x i (by omega) (by omega) (by omega)) (fun x i h => ?_) (Tc_Thr hop.1 hop.2.1 hop.2.2) (hCn _ _ (by omega) (by omega) (by omega)) (hCn _ _ (by omega) (by omega) (by omega)) (hDn _ _ (by omega) (by omega) (by omega) (by omega)) ?_ ?_, by rw [es]; exact hop⟩
  · refine hDn x i ?_ ?_ ?_ ?_
    · rintro ⟨rfl, q⟩
      have : wd x = 1 := by
        unfold wd
        rw [if_neg (by omega), if_neg (by omega), if_neg (by omega), if_neg (by omega), if_neg (by omega), if_neg (by omega)]
      exact h ⟨by omega, by omega, by rw [this]; omega, by rw [this]; omega⟩
    · rintro ⟨rfl, rfl⟩
      exact h ⟨by omega, by omega, by show t * 12 ≤ _; omega, by show _ < (t + 1) * 12; omega⟩
    · rintro ⟨q, rfl⟩
      have : wd x = 12 := by
        unfold wd
        rw [if_neg (by omega), if_neg (by omega), if_neg (by omega), if_neg (by omega), if_neg (by omega), if_pos (by omega)]
      exact h ⟨by omega, by omega, by rw [this]; omega, by rw [this]; omega⟩
    · rintro ⟨q, q1, q2⟩
      have : wd x = 312 := by
        unfold wd
        rw [if_neg (by omega), if_neg (by omega), if_neg (by omega), if_pos (by omega)]
      exact h ⟨by omega, by omega, by rw [this]; omega, by rw [this]; omega⟩
  · rw [hdp, hdp', wsum, x6, wsum_congr (C := C) (C' := C') _ (fun j hj => hCn _ _ (by omega) (by omega) (by omega))]
    have : popc 0 = 0 := by decide
    omega
  · rw [hdp, hdp', rsum, rsum_congr (C := C) (C' := C') _ (fun j hj => by unfold rl; rw [hCn _ _ (by omega) (by omega) (by omega)])]
    have : rl C' t (nl (N a)) = 0 := by
      unfold rl
      rw [x3]; decide
    rw [this]
    omega

end St6