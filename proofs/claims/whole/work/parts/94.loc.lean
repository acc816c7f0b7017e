set_option linter.unusedSimpArgs false
set_option linter.unusedVariables false
/-! ===== instructions on the way ===== -/
def Opn (C : ao_M) (ρ : ao_H) (D : ao_M) (rc t s len kd a1 a2 a3 : Nat) (φ : Nat → Nat) (N : Ns) (H K : Nat → Nat) (a : Nat) : Prop := Cat C ρ t len kd a1 a2 a3 ∧ Cok (C a1) (C a2) (C a3) (dcd D t) len φ N H K ∧ Tc C D rc t s (C a2) (C a3) len φ N H a
/-- both go on: at an instruction further on -/
def GoP (kp rc nw bw br t s len kd a1 a2 a3 : Nat) (φ : Nat → Nat) (N : Ns) (H K : Nat → Nat) (a : Nat) (y w : Int32 × ao_S) : Prop := y.1 = -1 ∧ w.1 = -1 ∧ ∃ a', K a < K a' ∧ Full y.2.1 y.2.2 w.2.1 w.2.2 kp rc nw bw br ∧ Opn y.2.1 y.2.2 w.2.1 rc t s len kd a1 a2 a3 φ N H K a'
theorem Cat_b {C : ao_M} {ρ : ao_H} {t len kd a1 a2 a3 : Nat} (h : Cat C ρ t len kd a1 a2 a3) : 599 ≤ kd ∧ 599 ≤ a1 ∧ 599 ≤ a2 ∧ 599 ≤ a3 := by
  obtain ⟨b1, b2, b3, b4, b5, b6, b7, b8, b9, b10, b11, b12, b13, b14, b15, b16, b17, _⟩ := h
  exact ⟨b14, b15, b16, b17⟩
theorem Cat_loc {C C' : ao_M} {ρ : ao_H} {t len kd a1 a2 a3 : Nat} (h : Cat C ρ t len kd a1 a2 a3) (hc : ∀ x i, 599 ≤ x → C' x i = C x i) : Cat C' ρ t len kd a1 a2 a3 ∧ C' a1 = C a1 ∧ C' a2 = C a2 ∧ C' a3 = C a3 := by
  obtain ⟨b1, b2, b3, b4, b5, b6, b7, b8, b9, b10, b11, b12, b13, b14, b15, b16, b17, b18⟩ := h
  exact ⟨⟨b1, b2, b3, b4, b5, b6, b7, b8, b9, b10, b11, (hc _ _ b14).trans b12, (hc _ _ b14).trans b13, b14, b15, b16, b17, b18⟩, funext fun i => hc _ _ b15, funext fun i => hc _ _ b16, funext fun i => hc _ _ b17⟩
theorem dcd_at {D : ao_M} {t q k : Nat} (hq : q < 6000) (hk : k ≤ 2) : dcd D t (3 * q + k) = D 550 ((t * 6000 + q) * 3 + k) := by
  unfold dcd
  rw [if_pos (by omega), show t * 18000 + (3 * q + k) = (t * 6000 + q) * 3 + k by omega]
theorem dcd_eq {D D' : ao_M} {t : Nat} (h : ∀ i, D' 550 i = D 550 i) : dcd D' t = dcd D t := by
  funext x
  unfold dcd
  rw [h]
/-- a step within the nest where it stands -/
theorem loc_go {C D C' D' : ao_M} {ρ σ : ao_H} {kp rc nw bw br t s len kd a1 a2 a3 a a' : Nat} {φ : Nat → Nat} {N : Ns} {H K : Nat → Nat} (hF : Full C ρ D σ kp rc nw bw br) (ht : t < 6) (ho : Opn C ρ D rc t s len kd a1 a2 a3 φ N H K a) (hN : N a' = N a) (ha' : a' ≤ len)
    (hC : ∀ x i, x ≠ 92 + 71 * t + 5 → x ≠ 92 + 71 * t + 6 → ¬ (x = 92 + 71 * t ∧ (i = 3 ∨ i = 5)) → C' x i = C x i) (hD : ∀ x i, ¬ (x = 554 ∧ t * 64 ≤ i ∧ i < t * 64 + 64) → ¬ (x = 553 ∧ t * 26 ≤ i ∧ i < t * 26 + 26) → ¬ (i = t ∧ (x = 552 ∨ x = 555)) → D' x i = D x i)
    (h3 : C' (92 + 71 * t) 3 = nI a') (h52 : D' 552 t = nI (φ a')) (hS : Stk C' D' t (H a')) (hR : Regs C' D' t) : Full C' ρ D' σ kp rc nw bw br ∧ Opn C' ρ D' rc t s len kd a1 a2 a3 φ N H K a' := by
  obtain ⟨hcat, cok, tc⟩ := ho
  obtain ⟨c1, c2, c3, c4⟩ := Cat_loc hcat (C' := C') (fun x i hx => hC x i (by omega) (by omega) (by omega))
  have ed : dcd D' t = dcd D t := dcd_eq (fun i => hD _ _ (by omega) (by omega) (by omega))
  have tc' : Tc C' D' rc t s (C a2) (C a3) len φ N H a' := Tc_mv ht cok tc hN ha' (fun x i h1 h2 h3 h4 h5 => hC x i h3 h4 h5) (fun x i h1 h2 h3 h4 h5 => hD x i (by omega) (by omega) h5) h3 h52 hS hR
  have ho' : Opn C' ρ D' rc t s len kd a1 a2 a3 φ N H K a' := ⟨c1, by rw [c2, c3, c4, ed]; exact cok, by rw [c3, c4]; exact tc'⟩
  refine ⟨Full_loc hF ht (fun x i h => hC x i (by omega) (by omega) (by omega)) (fun x i h => ?_) (Tc_Thr ho'.1 ho'.2.1 ho'.2.2) (hC _ _ (by omega) (by omega) (by omega)) (hC _ _ (by omega) (by omega) (by omega)) (hD _ _ (by omega) (by omega) (by omega)) ?_ ?_, ho'⟩
  · refine hD x i ?_ ?_ ?_
    · rintro ⟨rfl, q1, q2⟩
      exact h ⟨by omega, by omega, q1, by show i < (t + 1) * 64; omega⟩
    · rintro ⟨rfl, q1, q2⟩
      exact h ⟨by omega, by omega, q1, by show i < (t + 1) * 26; omega⟩
    · rintro ⟨rfl, rfl | rfl⟩
      · exact h ⟨by omega, by omega, by show i * 1 ≤ i; omega, by show i < (i + 1) * 1; omega⟩
      · exact h ⟨by omega, by omega, by show i * 1 ≤ i; omega, by show i < (i + 1) * 1; omega⟩
  · have e8 : dpC C' t = dpC C t := by
      unfold dpC
      rw [hC _ _ (by omega) (by omega) (by omega)]
    rw [e8]
    exact Nat.le_of_eq (wsum_congr _ (fun j hj => hC _ _ (by omega) (by omega) (by omega)))
  · have e8 : dpC C' t = dpC C t := by
      unfold dpC
      rw [hC _ _ (by omega) (by omega) (by omega)]
    rw [e8]
    refine Nat.le_of_eq (rsum_congr _ (fun j hj => ?_))
    unfold rl
    rw [hC _ _ (by omega) (by omega) (by omega)]
/-- stacks -/
theorem c_push {C : ao_M} {ρ : ao_H} {R h : Nat} {v : Int32} (hR : RnS ρ R) (h5 : C R 5 = nI h) (hh : h < 64) : gX7_push R v C ρ = some (ao_u (ao_u C (R + 5) h v) R 5 (nI (h + 1))) := by
  unfold gX7_push
  try simp only [↓reduceIte, Nat.reduceEqDiff, Option.bind_some, ao_let, n_ell, hR, h5]
  try simp (disch := first | omega | assumption) only [↓reduceIte, Nat.reduceEqDiff, Option.bind_some, ao_let, t_le, f_le, t_lt, f_lt, f_eq, u_eq, u_n1, u_n2, n_cl, n_lt, n_le, n_eq, n_ltl, n_llt, n_lel, n_lle, n_eql, n_leq, n_add, n_mul, n_sub, n_addl, n_ladd, n_mull, n_lmul, n_subl, Int32.reduceLT, Int32.reduceLE, Int32.reduceAdd, Int32.reduceSub, Int32.reduceMul, Int32.reduceToNatClampNeg, not_false_eq_true, not_true_eq_false, or_false, false_or, or_self, and_self, false_and, true_and, and_false, and_true, true_or, or_true, Nat.reduceAdd, Nat.reduceMul, Nat.reduceLT, Nat.reduceLeDiff, ne_eq, n_ell, hR, h5]
theorem c_pop {C : ao_M} {ρ : ao_H} {R h : Nat} (hR : RnS ρ R) (h5 : C R 5 = nI (h + 1)) (hh : h < 64) : gX7_pop R C ρ = some (C (R + 5) h, ao_u C R 5 (nI h)) := by
  unfold gX7_pop
  try simp only [↓reduceIte, Nat.reduceEqDiff, Option.bind_some, ao_let, n_ell, hR, h5, Nat.add_sub_cancel]
  try simp (disch := first | omega | assumption) only [↓reduceIte, Nat.reduceEqDiff, Option.bind_some, ao_let, t_le, f_le, t_lt, f_lt, f_eq, u_eq, u_n1, u_n2, n_cl, n_lt, n_le, n_eq, n_ltl, n_llt, n_lel, n_lle, n_eql, n_leq, n_add, n_mul, n_sub, n_addl, n_ladd, n_mull, n_lmul, n_subl, Int32.reduceLT, Int32.reduceLE, Int32.reduceAdd, Int32.reduceSub, Int32.reduceMul, Int32.reduceToNatClampNeg, not_false_eq_true, not_true_eq_false, or_false, false_or, or_self, and_self, false_and, true_and, and_false, and_true, true_or, or_true, Nat.reduceAdd, Nat.reduceMul, Nat.reduceLT, Nat.reduceLeDiff, ne_eq, n_ell, hR, h5, Nat.add_sub_cancel]
theorem d_push {D : ao_M} {σ : ao_H} {t h : Nat} {v : Int32} (hs : ShD σ) (ht : t < 6) (h5 : D 555 t = nI h) (hh : h < 64) : gX12_push 537 (nI t) v D σ = some (ao_u (ao_u D 554 (t * 64 + h) v) 555 t (nI (h + 1))) := by
  unfold gX12_push
  try simp only [↓reduceIte, Nat.reduceEqDiff, Option.bind_some, ao_let, n_ell, hs, h5]
  try simp (disch := first | omega | assumption) only [↓reduceIte, Nat.reduceEqDiff, Option.bind_some, ao_let, t_le, f_le, t_lt, f_lt, f_eq, u_eq, u_n1, u_n2, n_cl, n_lt, n_le, n_eq, n_ltl, n_llt, n_lel, n_lle, n_eql, n_leq, n_add, n_mul, n_sub, n_addl, n_ladd, n_mull, n_lmul, n_subl, Int32.reduceLT, Int32.reduceLE, Int32.reduceAdd, Int32.reduceSub, Int32.reduceMul, Int32.reduceToNatClampNeg, not_false_eq_true, not_true_eq_false, or_false, false_or, or_self, and_self, false_and, true_and, and_false, and_true, true_or, or_true, Nat.reduceAdd, Nat.reduceMul, Nat.reduceLT, Nat.reduceLeDiff, ne_eq, n_ell, hs, h5]
theorem d_pop {D : ao_M} {σ : ao_H} {t h : Nat} (hs : ShD σ) (ht : t < 6) (h5 : D 555 t = nI (h + 1)) (hh : h < 64) : gX12_pop 537 (nI t) D σ = some (D 554 (t * 64 + h), ao_u D 555 t (nI h)) := by
  unfold gX12_pop
  try simp only [↓reduceIte, Nat.reduceEqDiff, Option.bind_some, ao_let, n_ell, hs, h5, Nat.add_sub_cancel]
  try simp (disch := first | omega | assumption) only [↓reduceIte, Nat.reduceEqDiff, Option.bind_some, ao_let, t_le, f_le, t_lt, f_lt, f_eq, u_eq, u_n1, u_n2, n_cl, n_lt, n_le, n_eq, n_ltl, n_llt, n_lel, n_lle, n_eql, n_leq, n_add, n_mul, n_sub, n_addl, n_ladd, n_mull, n_lmul, n_subl, Int32.reduceLT, Int32.reduceLE, Int32.reduceAdd, Int32.reduceSub, Int32.reduceMul, Int32.reduceToNatClampNeg, not_false_eq_true, not_true_eq_false, or_false, false_or, or_self, and_self, false_and, true_and, and_false, and_true, true_or, or_true, Nat.reduceAdd, Nat.reduceMul, Nat.reduceLT, Nat.reduceLeDiff, ne_eq, n_ell, hs, h5, Nat.add_sub_cancel]
