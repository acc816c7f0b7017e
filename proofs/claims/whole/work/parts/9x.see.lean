set_option linter.unusedSimpArgs false
set_option linter.unusedVariables false
section Sw
variable {C D : ao_M} {ρ σ : ao_H} {kp rc nw bw br t len kd a1 a2 a3 a : Nat} {φ : Nat → Nat} {N : Ns} {H K : Nat → Nat}
theorem n_z1 : nI 0 - 1 = -1 := by decide
/-- the class looks for the innermost level that wrote place p -/
theorem c_held {p : Nat} {Q : Int32 × ao_S → Prop} (f2 : ShB ρ) (ht : t < 6) (hp : p < 26) : ∀ (m : Nat) (x3 : Int32), m ≤ 10 → x3 = nI m - 1 →
    (∀ i, i < m → bt (C (92 + 71 * t + 8 + 6 * i) 6) p = true → (∀ i', i < i' → i' < m → bt (C (92 + 71 * t + 8 + 6 * i') 6) p = false) → hv (fun n => (gX7_push (92 + 71 * t) (C (92 + 71 * t + 8 + 6 * i + 4) p) C ρ).bind fun p22 => some ((0 : Int32), p22, ρ)) Q) → ((∀ i, i < m → bt (C (92 + 71 * t + 8 + 6 * i) 6) p = false) → hv (fun n => fX2_seeHeld n 7 12 (92 + 71 * t) (nI p) (-1) 0 0 0 0 C ρ) Q) → hv (fun n => fX2_seeHeld n 7 12 (92 + 71 * t) (nI p) x3 0 0 0 0 C ρ) Q := by
  have hR := RnS_of f2 ht
  intro m
  induction m with
  | zero =>
    rintro x3 h rfl q1 q2
    rw [n_z1]
    exact q2 (fun i hi => absurd hi (by omega))
  | succ m ih =>
    rintro x3 h rfl q1 q2
    have hl := LvS_of f2 ht (show m < 10 by omega)
    rw [n_pre]
    refine hv_up (fun _ => fX2_seeHeld.eq_2 ..) ?_
    simp (disch := omega) only [↓reduceIte, Nat.reduceEqDiff, n_ltl, f_lt, hR]
    refine hv_bind (P := fun y => y = (92 + 71 * t + 8 + 6 * m, C)) (c_level f2 ht (by omega) C rfl) ?_
    rintro _ rfl
    by_cases hb : bt (C (92 + 71 * t + 8 + 6 * m) 6) p = true
    · have hq := q1 m (by omega) hb (fun i' h1 h2 => absurd h2 (by omega))
      clear q1 q2 ih
      have hb2 : (bt (C (92 + 71 * t + 8 + 6 * m) 6) p = false) = False := by rw [hb]; exact eq_false (by decide)
      unfold gX3_wrote
      try simp only [↓reduceIte, Nat.reduceEqDiff, Option.bind_some, ao_let, n_ell, hl, bt_z, hb2, show ((1 : Int32) = 0) = False from by decide]
      try simp (disch := first | omega | assumption) only [↓reduceIte, Nat.reduceEqDiff, Option.bind_some, ao_let, t_le, f_le, t_lt, f_lt, f_eq, u_eq, u_n1, u_n2, n_cl, n_lt, n_le, n_eq, n_ltl, n_llt, n_lel, n_lle, n_eql, n_leq, n_add, n_mul, n_sub, n_addl, n_ladd, n_mull, n_lmul, n_subl, Int32.reduceLT, Int32.reduceLE, Int32.reduceAdd, Int32.reduceSub, Int32.reduceMul, Int32.reduceToNatClampNeg, not_false_eq_true, not_true_eq_false, or_false, false_or, or_self, and_self, false_and, true_and, and_false, and_true, true_or, or_true, Nat.reduceAdd, Nat.reduceMul, Nat.reduceLT, Nat.reduceLeDiff, ne_eq, n_ell, hl, bt_z, hb2, show ((1 : Int32) = 0) = False from by decide]
      exact hq
    · have hb2 : bt (C (92 + 71 * t + 8 + 6 * m) 6) p = false := by simpa using hb
      have := ih (nI m - 1) (by omega) rfl (fun i hi h1 h2 => q1 i (by omega) h1 (fun i' g1 g2 => by
        by_cases e : i' = m
        · subst e; exact hb2
        · exact h2 i' g1 (by omega))) (fun hn => q2 (fun i hi => by
        by_cases e : i = m
        · subst e; exact hb2
        · exact hn i (by omega)))
      clear q1 q2 ih
      unfold gX3_wrote
      try simp only [↓reduceIte, Nat.reduceEqDiff, Option.bind_some, ao_let, n_ell, hl, bt_z, hb2, dec_m1]
      try simp (disch := first | omega | assumption) only [↓reduceIte, Nat.reduceEqDiff, Option.bind_some, ao_let, t_le, f_le, t_lt, f_lt, f_eq, u_eq, u_n1, u_n2, n_cl, n_lt, n_le, n_eq, n_ltl, n_llt, n_lel, n_lle, n_eql, n_leq, n_add, n_mul, n_sub, n_addl, n_ladd, n_mull, n_lmul, n_subl, Int32.reduceLT, Int32.reduceLE, Int32.reduceAdd, Int32.reduceSub, Int32.reduceMul, Int32.reduceToNatClampNeg, not_false_eq_true, not_true_eq_false, or_false, false_or, or_self, and_self, false_and, true_and, and_false, and_true, true_or, or_true, Nat.reduceAdd, Nat.reduceMul, Nat.reduceLT, Nat.reduceLeDiff, ne_eq, n_ell, hl, bt_z, hb2, dec_m1]
      exact this
theorem d_wlev {p : Nat} {Q : Int32 × ao_M → Prop} (f4 : ShD σ) (ht : t < 6) (hp : p < 26) : ∀ (m : Nat) (x3 : Int32), m ≤ 10 → x3 = nI m - 1 → (∀ i, i < m → D 578 ((t * 12 + i) * 26 + p) = 0 ∨ D 578 ((t * 12 + i) * 26 + p) = 1) →
    (∀ i, i < m → D 578 ((t * 12 + i) * 26 + p) = 1 → (∀ i', i < i' → i' < m → D 578 ((t * 12 + i') * 26 + p) = 0) → Q (nI i, D)) → ((∀ i, i < m → D 578 ((t * 12 + i) * 26 + p) = 0) → Q (-1, D)) → hv (fun n => fX12_writtenLevel n 9 537 (nI t) (nI p) x3 D σ) Q := by
  intro m
  induction m with
  | zero =>
    rintro x3 h rfl hf q1 q2
    rw [n_z1]
    have := q2 (fun i hi => absurd hi (by omega))
    clear q1 q2
    refine hv_up (fun _ => fX12_writtenLevel.eq_2 ..) ?_
    simp only [↓reduceIte, Nat.reduceEqDiff, n_g1]
    exact hv_some this
  | succ m ih =>
    rintro x3 h rfl hf q1 q2
    rw [n_pre]
    rcases hf m (by omega) with e | e
    · have := ih (nI m - 1) (by omega) rfl (fun i hi => hf i (by omega)) (fun i hi h1 h2 => q1 i (by omega) h1 (fun i' g1 g2 => by
        by_cases e' : i' = m
        · subst e'; exact e
        · exact h2 i' g1 (by omega))) (fun hn => q2 (fun i hi => by
        by_cases e' : i = m
        · subst e'; exact e
        · exact hn i (by omega)))
      clear q1 q2 ih hf
      refine hv_up (fun _ => fX12_writtenLevel.eq_2 ..) ?_
      try simp only [↓reduceIte, Nat.reduceEqDiff, Option.bind_some, ao_let, n_ell, f4, gX12_cell, e, dec_m1]
      try simp (disch := first | omega | assumption) only [↓reduceIte, Nat.reduceEqDiff, Option.bind_some, ao_let, t_le, f_le, t_lt, f_lt, f_eq, u_eq, u_n1, u_n2, n_cl, n_lt, n_le, n_eq, n_ltl, n_llt, n_lel, n_lle, n_eql, n_leq, n_add, n_mul, n_sub, n_addl, n_ladd, n_mull, n_lmul, n_subl, Int32.reduceLT, Int32.reduceLE, Int32.reduceAdd, Int32.reduceSub, Int32.reduceMul, Int32.reduceToNatClampNeg, not_false_eq_true, not_true_eq_false, or_false, false_or, or_self, and_self, false_and, true_and, and_false, and_true, true_or, or_true, Nat.reduceAdd, Nat.reduceMul, Nat.reduceLT, Nat.reduceLeDiff, ne_eq, n_ell, f4, gX12_cell, e, dec_m1]
      exact this
    · have := q1 m (by omega) e (fun i' h1 h2 => absurd h2 (by omega))
      clear q1 q2 ih hf
      refine hv_up (fun _ => fX12_writtenLevel.eq_2 ..) ?_
      try simp only [↓reduceIte, Nat.reduceEqDiff, Option.bind_some, ao_let, n_ell, f4, gX12_cell, e, show ((1 : Int32) = 0) = False from by decide]
      try simp (disch := first | omega | assumption) only [↓reduceIte, Nat.reduceEqDiff, Option.bind_some, ao_let, t_le, f_le, t_lt, f_lt, f_eq, u_eq, u_n1, u_n2, n_cl, n_lt, n_le, n_eq, n_ltl, n_llt, n_lel, n_lle, n_eql, n_leq, n_add, n_mul, n_sub, n_addl, n_ladd, n_mull, n_lmul, n_subl, Int32.reduceLT, Int32.reduceLE, Int32.reduceAdd, Int32.reduceSub, Int32.reduceMul, Int32.reduceToNatClampNeg, not_false_eq_true, not_true_eq_false, or_false, false_or, or_self, and_self, false_and, true_and, and_false, and_true, true_or, or_true, Nat.reduceAdd, Nat.reduceMul, Nat.reduceLT, Nat.reduceLeDiff, ne_eq, n_ell, f4, gX12_cell, e, show ((1 : Int32) = 0) = False from by decide]
      exact hv_some this
theorem look_tail {C2 D2 : ao_M} {j p : Nat} (v : Int32) (hF : FullP (fun u => u ≠ t) C ρ D σ kp rc nw bw br) (ht : t < 6) (hp : p < 26) (hM : Md C ρ D rc t len kd a1 a2 a3 φ N H K (N a)) (hj : nl (N a) = j + 1) (ha : a < len) (hx : nxt φ N H K a 1 (H a + 1)) (hbr : br + 11 ≤ 100000000)
    (c3 : C (92 + 71 * t) 3 = nI (a + 1)) (d52 : D 552 t = nI (φ a)) (hS : Stk C D t (H a)) (hC2 : ∀ x i, ¬ (x = 92 + 71 * t ∧ i = 14) → C2 x i = C x i) (hD2 : ∀ x i, ¬ (x = 560 ∧ i = t) → D2 x i = D x i) (h14 : C2 (92 + 71 * t) 14 = D2 560 t) :
    ∃ C3 D3 Cf rc', gX3_addRead (92 + 71 * t + 8 + 6 * j) (nI p) v (C2 15 p) C2 ρ = some C3 ∧ gX12_addRead 537 (nI t) (nI p) v (ao_u D2 537 77 v) σ = some D3 ∧ gX7_push (92 + 71 * t) v C3 ρ = some Cf ∧ C3 14 p = C 14 p ∧ hv (fun n => fX12_doLook n 72 537 (nI t) (nI p) 0 D3 σ) (fun w => EndP kp rc' nw bw (br + 11) (0, Cf, ρ) w) := by
  have f2 := hF.1.2.1
  have f4 := hF.1.2.2.2
  have f5 := hF.2.1
  have f11 : D 537 64 = nI rc := hF.2.2.2.2.2.2.1
  have l1 := @nl_le (N a)
  have m7 := hM.2.2.2.2.2.1.2.1
  have g9 := hM.2.2.1.2.2.2.2.2.2.2.2
  rw [hj] at g9
  have hrd := (hM.2.2.2.2.2.2.2.1 j (by omega)).2.2.2
  have h15 : C 15 p = D 543 p := by
    obtain ⟨f, g, h, pc, pd, ch, ev, ec⟩ := f5
    exact (ev p hp).2.1
  have d0 : ∀ x i, ¬ (x = 560 ∧ i = t) → ¬ (x = 537 ∧ i = 77) → ao_u D2 537 77 v x i = D x i := fun x i q1 q2 => by rw [u_ne (by omega)]; exact hD2 x i q1
  have hrd2 : Rd C2 (ao_u D2 537 77 v) rc t j := by
    obtain ⟨ps, vs, ws, r1, r2⟩ := hrd
    exact ⟨ps, vs, ws, RdC_mv r1 (hC2 _ _ (by omega)) (hC2 _ _ (by omega)) (fun k => ⟨hC2 _ _ (by omega), hC2 _ _ (by omega), hC2 _ _ (by omega)⟩), RdD_mv r2 (Nat.le_refl _) (fun q hq => ⟨d0 _ _ (by omega) (by omega), d0 _ _ (by omega) (by omega), d0 _ _ (by omega) (by omega), d0 _ _ (by omega) (by omega)⟩)⟩
  obtain ⟨C3, D3, rc', r1, r2, r3, r4, r5, r6, r7, r8⟩ := rd_add (v := v) (w := C2 15 p) f2 f4 ht (show j < 10 by omega) hp (by rw [d0 _ _ (by omega) (by omega)]; exact g9) (by rw [d0 _ _ (by omega) (by omega)]; exact f11) (by rw [d0 _ _ (by omega) (by omega), hC2 _ _ (by omega)]; exact h15) hrd2
  have hrl : rl C2 t j = rl C t j := by
    unfold rl
    rw [hC2 _ _ (by omega)]
  rw [hrl] at r6
  obtain ⟨Cf, e1, e2⟩ := see_end (p := p) (C3 := C3) (D3 := D3) (rc' := rc') (v := v) hF ht hM hj ha hx hbr c3 d52 hS (fun x i q1 q2 q3 => by rw [r7 x i q2 q3]; exact hC2 x i q1) (fun x i q1 q2 q3 => by rw [r8 x i (by omega) q3]; exact d0 x i (by omega) (by omega)) (by rw [r8 _ _ (by omega) (by omega), u_eq]) (by rw [r7 _ _ (by omega) (by omega), r8 _ _ (by omega) (by omega), u_n1 (by omega)]; exact h14) r3 r4 r5 r6
  exact ⟨C3, D3, Cf, rc', r1, r2, e1, by rw [r7 _ _ (by omega) (by omega)]; exact hC2 _ _ (by omega), e2⟩
end Sw
