set_option linter.unusedSimpArgs false
set_option linter.unusedVariables false
/-! ===== reads go outwards while levels are taken back ===== -/
def rl (C : ao_M) (t j : Nat) : Nat := (C (92 + 71 * t + 8 + 6 * j) 3).toNatClampNeg
/-- the weight of what levels 0 .. n - 1 read -/
def rsum (C : ao_M) (t : Nat) : Nat → Nat
  | 0 => 0
  | n + 1 => rsum C t n + (n + 1) * rl C t n
theorem rsum_congr {C C' : ao_M} {t : Nat} : ∀ (n : Nat), (∀ j, j < n → rl C' t j = rl C t j) → rsum C' t n = rsum C t n := by
  intro n
  induction n with
  | zero => intro _; rfl
  | succ n ih =>
    intro h
    rw [rsum, rsum, ih (fun j hj => h j (by omega)), h n (by omega)]
theorem rl_of {C : ao_M} {t j : Nat} {ps : List Nat} {vs ws : Nat → Int32} (h : RdC C (92 + 71 * t + 8 + 6 * j) ps vs ws) : rl C t j = ps.length := by
  have := RdC_len h
  unfold rl
  rw [h.1, n_cl (by omega)]
/-- the class's cells of reads -/
def rdcell (t n a i : Nat) : Prop := ∃ j, j < n ∧ (a = 92 + 71 * t + 8 + 6 * j ∧ (i = 3 ∨ i = 4) ∨ 92 + 71 * t + 8 + 6 * j < a ∧ a ≤ 92 + 71 * t + 8 + 6 * j + 3)
def foldP (C D : ao_M) (e : Bool) (rc t l m : Nat) (C' D' : ao_M) : Prop := ∃ rc', (∀ j, j < l + m → Rd C' D' rc' t j) ∧ D' 537 64 = nI rc' ∧ rc ≤ rc' ∧ rc' + rsum C' t (l + m) ≤ rc + rsum C t (l + m) ∧ (∀ a i, ¬ rdcell t (l + m) a i → C' a i = C a i) ∧
  (∀ a i, a ≠ 577 → a ≠ 579 → a ≠ 580 → a ≠ 581 → ¬ (a = 537 ∧ i = 64) → D' a i = dTB e t l m D a i) ∧ (∀ a i, a = 577 ∨ a = 579 ∨ a = 580 ∨ a = 581 → (i < t * 12 * 26 ∨ (t * 12 + (l + m)) * 26 ≤ i) → D' a i = D a i) ∧ (∀ j, l ≤ j → 1 ≤ j → j < l + m → rl C' t j = 0)
theorem n_pre {j : Nat} : nI (j + 1) - 1 = nI j := by
  have := @n_subl (j + 1) 1 (by show 1 ≤ j + 1; omega)
  simpa using this
theorem n_le0 : ∀ j, j < 12 → (nI (j + 1) ≤ nI 0 - 1) = False := by decide
set_option maxHeartbeats 1000000 in
theorem fold_loop {ρ σ : ao_H} (hb : ShB ρ) (hs : ShD σ) {t l : Nat} (ht : t < 6) (hl : l < 10) (e : Bool) (x1 : Int32) (hx1 : x1 = nI l - 1 ∨ l = 0 ∧ x1 = 0) : ∀ (m : Nat) (C D : ao_M) (rc : Nat), l + m ≤ 10 → decide (D 537 27 = 3 ∨ D 537 27 = 4) = e → (∀ j, j < l + m → Rd C D rc t j) → D 537 64 = nI rc → rc + 26 * m < 2147483648 →
    hv (fun n => fX2_foldReads n 7 (92 + 71 * t) x1 (nI (l + m) - 1) C ρ) (fun C' => hv (fun n => fX12_takeBackTo n 10 537 (nI t) (nI l) 1 (nI (l + m) - 1) D σ) (fun D' => foldP C D e rc t l m C' D')) := by
  have hR := RnS_of hb ht
  intro m
  induction m with
  | zero =>
    intro C D rc hm he hrd hrc hbd
    refine hv_up (fun _ => fX2_foldReads.eq_2 ..) ?_
    have hle : nI l - 1 ≤ x1 := by
      rcases hx1 with rfl | ⟨rfl, rfl⟩
      · exact Int32.le_refl _
      · decide
    simp only [Nat.add_zero, ↓reduceIte, Nat.reduceEqDiff, hle]
    refine hv_some ?_
    refine hv_up (fun _ => fX12_takeBackTo.eq_2 ..) ?_
    simp only [↓reduceIte, Nat.reduceEqDiff, pre_lt l (by omega), hs, Option.bind_some, ao_let]
    try simp only [↓reduceIte, Nat.reduceEqDiff, Option.bind_some, ao_let]
    try simp (disch := first | omega | assumption) only [↓reduceIte, Nat.reduceEqDiff, Option.bind_some, ao_let, t_le, f_le, t_lt, f_lt, f_eq, u_eq, u_n1, u_n2, n_cl, n_lt, n_le, n_eq, n_ltl, n_llt, n_lel, n_lle, n_eql, n_leq, n_add, n_mul, n_sub, n_addl, n_ladd, n_mull, n_lmul, n_subl, Int32.reduceLT, Int32.reduceLE, Int32.reduceAdd, Int32.reduceSub, Int32.reduceMul, Int32.reduceToNatClampNeg, not_false_eq_true, not_true_eq_false, or_false, false_or, or_self, and_self, false_and, true_and, and_false, and_true, true_or, or_true, Nat.reduceAdd, Nat.reduceMul, Nat.reduceLT, Nat.reduceLeDiff, ne_eq]
    refine hv_some ⟨rc, fun j hj => ?_, ?_, Nat.le_refl _, Nat.le_refl _, fun _ _ _ => rfl, ?_, ?_, fun j h1 h2 h3 => absurd h3 (by omega)⟩
    · obtain ⟨ps, vs, ws, r1, r2⟩ := hrd j hj
      exact ⟨ps, vs, ws, r1, RdD_mv r2 (Nat.le_refl _) (fun p hp => by simp (disch := omega) only [u_n1, and_self])⟩
    · rw [u_n1 (by omega)]; exact hrc
    · intro a i h1 h2 h3 h4 h5
      simp only [dTB, gbv, ao_u, Nat.add_zero]
      clear hs he hR hb hrd hx1 hle
      by_cases q1 : a = 542
      · subst q1
        grind (splits := 20)
      · grind (splits := 20)
    · intro a i ha hi
      rw [u_n1 (by omega)]
  | succ m ih =>
    intro C D rc hm he hrd hrc hbd
    have e1 : nI (l + (m + 1)) - 1 = nI (l + m) := n_pre
    rw [e1]
    -- the reference takes a level back
    have hback : ∀ {Q : ao_M → Prop}, hv (fun n => (gX12_giveReads n 537 (nI t) (nI (l + m)) (dBack e t (l + m) D) σ).bind fun p16 => fX12_takeBackTo n 44 537 (nI t) (nI l) 1 (nI (l + m)) p16 σ) Q → hv (fun n => fX12_takeBackTo n 10 537 (nI t) (nI l) 1 (nI (l + m)) D σ) Q := by
      intro Q h
      refine hv_up (fun _ => fX12_takeBackTo.eq_2 ..) ?_
      try simp only [↓reduceIte, Nat.reduceEqDiff, Option.bind_some, ao_let, hs]
      try simp (disch := first | omega | assumption) only [↓reduceIte, Nat.reduceEqDiff, Option.bind_some, ao_let, t_le, f_le, t_lt, f_lt, f_eq, u_eq, u_n1, u_n2, n_cl, n_lt, n_le, n_eq, n_ltl, n_llt, n_lel, n_lle, n_eql, n_leq, n_add, n_mul, n_sub, n_addl, n_ladd, n_mull, n_lmul, n_subl, Int32.reduceLT, Int32.reduceLE, Int32.reduceAdd, Int32.reduceSub, Int32.reduceMul, Int32.reduceToNatClampNeg, not_false_eq_true, not_true_eq_false, or_false, false_or, or_self, and_self, false_and, true_and, and_false, and_true, true_or, or_true, Nat.reduceAdd, Nat.reduceMul, Nat.reduceLT, Nat.reduceLeDiff, ne_eq, hs]
      refine hv_bind (P := fun y => y = dBack e t (l + m) D) (dv_back hs ht (by omega) D (by rw [he])) ?_
      rintro _ rfl
      simp only [show ((1 : Int32) = 0) = False from by decide, ↓reduceIte]
      exact h
    have h27 : ∀ D1 : ao_M, D1 537 27 = D 537 27 → decide (D1 537 27 = 3 ∨ D1 537 27 = 4) = e := fun D1 h => by rw [h]; exact he
    have bn : ∀ a i, a ≠ 542 → a ≠ 578 → a ≠ 553 → a ≠ 584 → dBack e t (l + m) D a i = D a i := by
      intro a i h1 h2 h3 h4
      unfold dBack
      rw [if_neg (by omega), if_neg (by omega), if_neg (by omega), if_neg (by omega)]
    have hrdB : ∀ j, j < l + (m + 1) → ∀ ps vs ws, RdD D (t * 12 + j) rc ps vs ws → RdD (dBack e t (l + m) D) (t * 12 + j) rc ps vs ws := fun j hj ps vs ws r2 => RdD_mv r2 (Nat.le_refl _) (fun p hp => ⟨bn _ _ (by omega) (by omega) (by omega) (by omega), bn _ _ (by omega) (by omega) (by omega) (by omega), bn _ _ (by omega) (by omega) (by omega) (by omega), bn _ _ (by omega) (by omega) (by omega) (by omega)⟩)
    by_cases hj0 : l + m = 0
    · obtain rfl : l = 0 := by omega
      obtain rfl : m = 0 := by omega
      refine hv_up (fun _ => fX2_foldReads.eq_2 ..) ?_
      simp only [Nat.add_zero, ↓reduceIte, Nat.reduceEqDiff, show (nI 0 ≤ 0) = True from by decide, ite_self]
      refine hv_some (hback ?_)
      refine hv_bind (P := fun y => y = dBack e t (0 + 0) D) (give_0 rfl) ?_
      rintro _ rfl
      refine hv_up (fun _ => fX12_takeBackTo.eq_2 ..) ?_
      try simp only [↓reduceIte, Nat.reduceEqDiff, Option.bind_some, ao_let, hs]
      try simp (disch := first | omega | assumption) only [↓reduceIte, Nat.reduceEqDiff, Option.bind_some, ao_let, t_le, f_le, t_lt, f_lt, f_eq, u_eq, u_n1, u_n2, n_cl, n_lt, n_le, n_eq, n_ltl, n_llt, n_lel, n_lle, n_eql, n_leq, n_add, n_mul, n_sub, n_addl, n_ladd, n_mull, n_lmul, n_subl, Int32.reduceLT, Int32.reduceLE, Int32.reduceAdd, Int32.reduceSub, Int32.reduceMul, Int32.reduceToNatClampNeg, not_false_eq_true, not_true_eq_false, or_false, false_or, or_self, and_self, false_and, true_and, and_false, and_true, true_or, or_true, Nat.reduceAdd, Nat.reduceMul, Nat.reduceLT, Nat.reduceLeDiff, ne_eq, hs]
      rw [dec_m1]
      refine hv_up (fun _ => fX12_takeBackTo.eq_2 ..) ?_
      simp only [↓reduceIte, Nat.reduceEqDiff, pre_lt 0 (by omega), hs, Option.bind_some, ao_let]
      try simp only [↓reduceIte, Nat.reduceEqDiff, Option.bind_some, ao_let]
      try simp (disch := first | omega | assumption) only [↓reduceIte, Nat.reduceEqDiff, Option.bind_some, ao_let, t_le, f_le, t_lt, f_lt, f_eq, u_eq, u_n1, u_n2, n_cl, n_lt, n_le, n_eq, n_ltl, n_llt, n_lel, n_lle, n_eql, n_leq, n_add, n_mul, n_sub, n_addl, n_ladd, n_mull, n_lmul, n_subl, Int32.reduceLT, Int32.reduceLE, Int32.reduceAdd, Int32.reduceSub, Int32.reduceMul, Int32.reduceToNatClampNeg, not_false_eq_true, not_true_eq_false, or_false, false_or, or_self, and_self, false_and, true_and, and_false, and_true, true_or, or_true, Nat.reduceAdd, Nat.reduceMul, Nat.reduceLT, Nat.reduceLeDiff, ne_eq]
      refine hv_some ⟨rc, fun j hj => ?_, ?_, Nat.le_refl _, Nat.le_refl _, fun _ _ _ => rfl, ?_, ?_, fun j h1 h2 h3 => absurd h3 (by omega)⟩
      · obtain ⟨ps, vs, ws, r1, r2⟩ := hrd j hj
        exact ⟨ps, vs, ws, r1, RdD_mv (hrdB j hj ps vs ws r2) (Nat.le_refl _) (fun p hp => by simp (disch := omega) only [u_n1, and_self])⟩
      · rw [u_n1 (by omega), bn _ _ (by omega) (by omega) (by omega) (by omega)]; exact hrc
      · intro a i h1 h2 h3 h4 h5
        have hst : ∀ D1 : ao_M, ∀ a i, dTB e t 0 0 D1 a i = ao_u D1 555 t 0 a i := by
          intro D1 a i
          simp only [dTB, gbv, ao_u, Nat.add_zero]
          clear hs he hR hb hrd hx1 h27 bn hrdB hback ih
          by_cases q1 : a = 542
          · subst q1
            grind (splits := 20)
          · grind (splits := 20)
        by_cases q : a = 537
        · rw [u_n1 (by omega), bn _ _ (by omega) (by omega) (by omega) (by omega), dTB_n (by omega) (by omega) (by omega)]
        · rw [← dTB_step (D1 := dBack e t (0 + 0) D) (fun a i _ _ _ _ _ => rfl) ⟨h1, h2, h3, h4, q⟩, hst]
      · intro a i ha hi
        rw [u_n1 (by omega), bn _ _ (by omega) (by omega) (by omega) (by omega)]
    · obtain ⟨j, ej⟩ : ∃ j, l + m = j + 1 := ⟨l + m - 1, by omega⟩
      rw [ej]
      have hl1 := LvS_of hb ht (show j + 1 < 10 by omega)
      have hl0 := LvS_of hb ht (show j < 10 by omega)
      have c1 : (nI (j + 1) ≤ x1) = False := by
        rcases hx1 with rfl | ⟨rfl, rfl⟩
        · by_cases q : l = 0
          · subst q
            exact n_le0 j (by omega)
          · obtain ⟨l', rfl⟩ : ∃ l', l = l' + 1 := ⟨l - 1, by omega⟩
            rw [n_pre, n_le (by omega) (by omega)]
            exact eq_false (by omega)
        · rw [n_lel (by omega) (by omega)]
          exact eq_false (by omega)
      refine hv_up (fun _ => fX2_foldReads.eq_2 ..) ?_
      simp only [↓reduceIte, Nat.reduceEqDiff, c1, n_lel (show j + 1 < 2147483648 by omega) (show 0 < 2147483648 by omega), show (j + 1 ≤ 0) = False from eq_false (by omega), hR, n_pre]
      refine hv_bind (P := fun y => y = (92 + 71 * t + 8 + 6 * j, C)) (c_level hb ht (by omega) C rfl) ?_
      rintro _ rfl
      refine hv_bind (P := fun y => y = (92 + 71 * t + 8 + 6 * (j + 1), C)) (c_level hb ht (by omega) C rfl) ?_
      rintro _ rfl
      simp only [hl0, ↓reduceIte]
      obtain ⟨ps, vs, ws, r1, r2⟩ := hrd (j + 1) (by omega)
      obtain ⟨ps', vs', ws', r1', r2'⟩ := hrd j (by omega)
      have hrc' : (dBack e t (l + m) D) 537 64 = nI rc := by rw [bn _ _ (by omega) (by omega) (by omega) (by omega)]; exact hrc
      refine hv_bind (give_pair (l := j + 1) hl1 hl0 (by omega) hs ht (by omega) (by omega) r1 r1' (hrdB _ (by omega) _ _ _ r2) (hrdB j (by omega) _ _ _ r2') hrc' (by omega)) ?_
      rintro C1 ⟨Nn, D1, eD1, hg⟩
      obtain ⟨ps'', vs'', ws'', rc'', g1, g2, g3, g4, g5, g6, ⟨g6a, g6b⟩, g7, g8⟩ := hg
      simp only [Nat.add_sub_cancel] at g4 g8
      -- all levels, then
      have hlen := RdC_len r1
      have hrd1 : ∀ i, i < l + (m + 1) → Rd C1 D1 rc'' t i := by
        intro i hi
        by_cases q1 : i = j + 1
        · subst q1
          exact ⟨[], vs'', ws'', g1, g3⟩
        · by_cases q2 : i = j
          · subst q2
            exact ⟨ps'', vs'', ws'', g2, g4⟩
          · obtain ⟨qs, us, xs, s1, s2⟩ := hrd i hi
            refine ⟨qs, us, xs, RdC_mv s1 (g7 _ _ (by omega) (by omega)) (g7 _ _ (by omega) (by omega)) (fun i => ⟨g7 _ _ (by omega) (by omega), g7 _ _ (by omega) (by omega), g7 _ _ (by omega) (by omega)⟩), RdD_mv (hrdB i hi _ _ _ s2) g6a (fun p hp => ⟨g8 _ _ (by omega) (by omega) (by omega), g8 _ _ (by omega) (by omega) (by omega), g8 _ _ (by omega) (by omega) (by omega), g8 _ _ (by omega) (by omega) (by omega)⟩)⟩
      have ee : nI (j + 1) + -1 = nI (l + m) - 1 := by rw [dec_m1, ej]
      try simp only [↓reduceIte, Nat.reduceEqDiff, Option.bind_some, ao_let]
      try simp (disch := first | omega | assumption) only [↓reduceIte, Nat.reduceEqDiff, Option.bind_some, ao_let, t_le, f_le, t_lt, f_lt, f_eq, u_eq, u_n1, u_n2, n_cl, n_lt, n_le, n_eq, n_ltl, n_llt, n_lel, n_lle, n_eql, n_leq, n_add, n_mul, n_sub, n_addl, n_ladd, n_mull, n_lmul, n_subl, Int32.reduceLT, Int32.reduceLE, Int32.reduceAdd, Int32.reduceSub, Int32.reduceMul, Int32.reduceToNatClampNeg, not_false_eq_true, not_true_eq_false, or_false, false_or, or_self, and_self, false_and, true_and, and_false, and_true, true_or, or_true, Nat.reduceAdd, Nat.reduceMul, Nat.reduceLT, Nat.reduceLeDiff, ne_eq]
      rw [ee]
      refine hv_mono (ih C1 D1 rc'' (by omega) (h27 D1 (by rw [g8 _ _ (by omega) (by omega) (by omega), bn _ _ (by omega) (by omega) (by omega) (by omega)])) (fun i hi => hrd1 i (by omega)) g5 (by omega)) ?_
      intro C2 hC2
      rw [← ej]
      refine hback ?_
      rw [ej] at eD1 ⊢
      refine hv_bind (P := fun y => y = D1) ⟨Nn, D1, eD1, rfl⟩ ?_
      rintro _ rfl
      refine hv_up (fun _ => fX12_takeBackTo.eq_2 ..) ?_
      try simp only [↓reduceIte, Nat.reduceEqDiff, Option.bind_some, ao_let, hs]
      try simp (disch := first | omega | assumption) only [↓reduceIte, Nat.reduceEqDiff, Option.bind_some, ao_let, t_le, f_le, t_lt, f_lt, f_eq, u_eq, u_n1, u_n2, n_cl, n_lt, n_le, n_eq, n_ltl, n_llt, n_lel, n_lle, n_eql, n_leq, n_add, n_mul, n_sub, n_addl, n_ladd, n_mull, n_lmul, n_subl, Int32.reduceLT, Int32.reduceLE, Int32.reduceAdd, Int32.reduceSub, Int32.reduceMul, Int32.reduceToNatClampNeg, not_false_eq_true, not_true_eq_false, or_false, false_or, or_self, and_self, false_and, true_and, and_false, and_true, true_or, or_true, Nat.reduceAdd, Nat.reduceMul, Nat.reduceLT, Nat.reduceLeDiff, ne_eq, hs]
      rw [ee]
      refine hv_mono hC2 ?_
      rintro D2 ⟨rc2, a1, a2, a3, a4, a5, a6, a7, a8⟩
      have keep : ∀ i, ¬ (i = 3 ∨ i = 4) ∨ True := fun _ => Or.inr trivial
      have c2j : ∀ i, C2 (92 + 71 * t + 8 + 6 * (j + 1)) i = C1 (92 + 71 * t + 8 + 6 * (j + 1)) i := fun i => a5 _ _ (by
        rintro ⟨q, q1, q2⟩
        omega)
      have c2o : ∀ o i, o ≤ 5 → C2 (92 + 71 * t + 8 + 6 * (j + 1) + o) i = C1 (92 + 71 * t + 8 + 6 * (j + 1) + o) i := fun o i ho => a5 _ _ (by
        rintro ⟨q, q1, q2⟩
        omega)
      refine ⟨rc2, ?_, a2, by omega, ?_, ?_, ?_, ?_, ?_⟩
      · intro i hi
        by_cases q : i < l + m
        · exact a1 i q
        · obtain rfl : i = j + 1 := by omega
          refine ⟨[], vs'', ws'', RdC_mv g1 (c2j _) (c2j _) (fun i => ⟨c2o 1 i (by omega), c2o 2 i (by omega), c2o 3 i (by omega)⟩), RdD_mv g3 (by omega) (fun p hp => ⟨a7 _ _ (by omega) (by omega), a7 _ _ (by omega) (by omega), a7 _ _ (by omega) (by omega), a7 _ _ (by omega) (by omega)⟩)⟩
      · have s1 : rsum C2 t (l + (m + 1)) = rsum C2 t (l + m) := by
          rw [show l + (m + 1) = (l + m) + 1 by omega, rsum, show rl C2 t (l + m) = 0 from ?_]
          · omega
          · rw [ej]
            unfold rl
            rw [c2j, g1.1]
            rfl
        have s2 : rsum C1 t (l + m) + rl C t j * (j + 1) = rsum C t (l + m) + rl C1 t j * (j + 1) := by
          rw [ej, rsum, rsum, rsum_congr (C := C) (C' := C1) j (fun i hi => by
            unfold rl
            rw [g7 _ _ (by omega) (by omega)])]
          rw [Nat.mul_comm (rl C t j), Nat.mul_comm (rl C1 t j)]
          omega
        have s3 : rsum C t (l + (m + 1)) = rsum C t (l + m) + (j + 2) * rl C t (j + 1) := by
          rw [show l + (m + 1) = (l + m) + 1 by omega, rsum, ej]
        have r1e := rl_of r1
        have r1e' := rl_of r1'
        have r2e := rl_of g2
        rw [s1, s3, r1e]
        rw [r1e', r2e] at s2
        have hd1 : rc'' - rc + ps'.length = ps''.length := by omega
        have hm2 : ps''.length * (j + 1) = ps'.length * (j + 1) + (rc'' - rc) * (j + 1) := by
          rw [← hd1, Nat.add_mul]; omega
        have hm3 : (rc'' - rc) * (j + 1) ≤ ps.length * (j + 1) := Nat.mul_le_mul_right _ (by omega)
        have hm4 : (j + 2) * ps.length = ps.length * (j + 1) + ps.length := by
          rw [Nat.mul_comm, Nat.mul_succ]
        omega
      · intro a i h
        rw [a5 a i (fun ⟨q, q1, q2⟩ => h ⟨q, by omega, q2⟩), g7 a i ?_ ?_]
        · rintro ⟨q1 | q1, q2⟩
          · exact h ⟨j + 1, by omega, Or.inl ⟨q1, q2⟩⟩
          · exact h ⟨j, by omega, Or.inl ⟨q1, q2⟩⟩
        · intro q
          exact h ⟨j, by omega, Or.inr q⟩
      · intro a i h1 h2 h3 h4 h5
        rw [a6 a i h1 h2 h3 h4 h5]
        by_cases q : a = 537
        · rw [dTB_n (by omega) (by omega) (by omega), dTB_n (by omega) (by omega) (by omega), g8 _ _ h5 (by omega) (by omega), bn _ _ (by omega) (by omega) (by omega) (by omega)]
        · exact dTB_step (fun a i q1 q2 q3 q4 q5 => g8 a i (by omega) (by omega) (by omega)) ⟨h1, h2, h3, h4, q⟩
      · intro a i ha hi
        rw [a7 a i ha (by omega), g8 a i (by omega) (by omega) (by omega), bn _ _ (by omega) (by omega) (by omega) (by omega)]
      · intro i h1 h2 h3
        by_cases q : i < l + m
        · exact a8 i h1 h2 q
        · obtain rfl : i = j + 1 := by omega
          unfold rl
          rw [c2j, g1.1]
          rfl
