set_option linter.unusedSimpArgs false
set_option linter.unusedVariables false
/-! ===== a part ends: its writes come to the level around ===== -/
theorem c_wrote {ρ : ao_H} {C : ao_M} {lv p : Nat} (hl : LvS ρ lv) (hp : p < 26) : gX3_wrote lv (nI p) C ρ = some (if bt (C lv 6) p = true then 1 else 0, C) := by
  unfold gX3_wrote
  try simp only [↓reduceIte, Nat.reduceEqDiff, Option.bind_some, ao_let, n_ell, hl, bt_z]
  try simp (disch := first | omega | assumption) only [↓reduceIte, Nat.reduceEqDiff, Option.bind_some, ao_let, t_le, f_le, t_lt, f_lt, f_eq, u_eq, u_n1, u_n2, n_cl, n_lt, n_le, n_eq, n_ltl, n_llt, n_lel, n_lle, n_eql, n_leq, n_add, n_mul, n_sub, n_addl, n_ladd, n_mull, n_lmul, n_subl, Int32.reduceLT, Int32.reduceLE, Int32.reduceAdd, Int32.reduceSub, Int32.reduceMul, Int32.reduceToNatClampNeg, not_false_eq_true, not_true_eq_false, or_false, false_or, or_self, and_self, false_and, true_and, and_false, and_true, true_or, or_true, Nat.reduceAdd, Nat.reduceMul, Nat.reduceLT, Nat.reduceLeDiff, ne_eq, n_ell, hl, bt_z]
  by_cases e : bt (C lv 6) p = true
  · simp [e]
  · have e' : bt (C lv 6) p = false := by simpa using e
    simp [e']
theorem c_addw {ρ : ao_H} {C : ao_M} {lv p : Nat} {v : Int32} (hl : LvS ρ lv) (hp : p < 26) : gX3_addWrite lv (nI p) v C ρ = some (ao_u (ao_u C lv 6 (C lv 6 ||| ((1 : Int32) <<< (nI p &&& 31)))) (lv + 4) p v) := by
  unfold gX3_addWrite
  try simp only [↓reduceIte, Nat.reduceEqDiff, Option.bind_some, ao_let, n_ell, hl]
  try simp (disch := first | omega | assumption) only [↓reduceIte, Nat.reduceEqDiff, Option.bind_some, ao_let, t_le, f_le, t_lt, f_lt, f_eq, u_eq, u_n1, u_n2, n_cl, n_lt, n_le, n_eq, n_ltl, n_llt, n_lel, n_lle, n_eql, n_leq, n_add, n_mul, n_sub, n_addl, n_ladd, n_mull, n_lmul, n_subl, Int32.reduceLT, Int32.reduceLE, Int32.reduceAdd, Int32.reduceSub, Int32.reduceMul, Int32.reduceToNatClampNeg, not_false_eq_true, not_true_eq_false, or_false, false_or, or_self, and_self, false_and, true_and, and_false, and_true, true_or, or_true, Nat.reduceAdd, Nat.reduceMul, Nat.reduceLT, Nat.reduceLeDiff, ne_eq, n_ell, hl]
/-- a write joins the writes of a level -/
theorem Wr_add {C D C' D' : ao_M} {t j p : Nat} {v : Int32} (h : Wr C D t j) (hp : p < 26) (c6 : C' (92 + 71 * t + 8 + 6 * j) 6 = C (92 + 71 * t + 8 + 6 * j) 6 ||| ((1 : Int32) <<< (nI p &&& 31))) (c4 : ∀ q, C' (92 + 71 * t + 8 + 6 * j + 4) q = if q = p then v else C (92 + 71 * t + 8 + 6 * j + 4) q) (d8 : ∀ q, q < 26 → D' 578 ((t * 12 + j) * 26 + q) = if q = p then 1 else D 578 ((t * 12 + j) * 26 + q)) (d2 : ∀ q, q < 26 → D' 582 ((t * 12 + j) * 26 + q) = if q = p then v else D 582 ((t * 12 + j) * 26 + q)) : Wr C' D' t j := by
  refine ⟨fun q hq => ?_, fun q hq => ?_⟩
  · rw [c6, bt_orh _ hq hp]; exact h.1 q hq
  · rw [c6, bt_or _ hq hp, d8 q hq, c4 q, d2 q hq]
    obtain ⟨h1, h2⟩ := h.2 q hq
    by_cases e : q = p
    · simp [e]
    · simp only [e, decide_false, Bool.or_false, ↓reduceIte]
      exact ⟨h1, h2⟩
/-- both while places 0 .. p - 1 have joined -/
def Jn (C0 D0 C D : ao_M) (t j p : Nat) : Prop := Wr C D t j ∧ Wr C D t (j + 1) ∧ (∀ q, q < 26 → bt (C (92 + 71 * t + 8 + 6 * j) 6) q = (bt (C0 (92 + 71 * t + 8 + 6 * j) 6) q || (decide (q < p) && bt (C0 (92 + 71 * t + 8 + 6 * (j + 1)) 6) q))) ∧
  (∀ a i, ¬ (a = 92 + 71 * t + 8 + 6 * j ∧ i = 6) → a ≠ 92 + 71 * t + 8 + 6 * j + 4 → C a i = C0 a i) ∧ (∀ a i, ¬ ((a = 578 ∨ a = 582) ∧ (t * 12 + j) * 26 ≤ i ∧ i < (t * 12 + j) * 26 + 26) → D a i = D0 a i)
set_option maxHeartbeats 1000000 in
theorem join_loop {ρ σ : ao_H} {C0 D0 : ao_M} {t j : Nat} {Q : ao_M → ao_M → Prop} (hc : ShA ρ) (hb : ShB ρ) (hs : ShD σ) (ht : t < 6) (hj : j + 1 < 10) (hw : C0 12 5 = D0 537 27)
    (hfin : ∀ C D, Jn C0 D0 C D t j 26 → hv (fun n => fX2_joinAround n 30 12 (92 + 71 * t) (92 + 71 * t + 8 + 6 * (j + 1)) (92 + 71 * t + 8 + 6 * j) (nI 26) C ρ) (fun C' => hv (fun n => fX12_endPart n 17 537 (nI t) (nI (j + 1)) (nI 26) 0 0 D σ) (fun D' => Q C' D'))) :
    ∀ (k p : Nat) (C D : ao_M), p + k = 26 → Jn C0 D0 C D t j p → hv (fun n => fX2_joinAround n 30 12 (92 + 71 * t) (92 + 71 * t + 8 + 6 * (j + 1)) (92 + 71 * t + 8 + 6 * j) (nI p) C ρ) (fun C' => hv (fun n => fX12_endPart n 17 537 (nI t) (nI (j + 1)) (nI p) 0 0 D σ) (fun D' => Q C' D')) := by
  have hl1 := LvS_of hb ht hj
  have hl0 := LvS_of hb ht (show j < 10 by omega)
  intro k
  induction k with
  | zero =>
    intro p C D h hJ
    obtain rfl : p = 26 := by omega
    exact hfin C D hJ
  | succ k ih =>
    intro p C D h hJ
    obtain ⟨w0, w1, hbits, hC, hD⟩ := hJ
    have e1 : C (92 + 71 * t + 8 + 6 * (j + 1)) 6 = C0 (92 + 71 * t + 8 + 6 * (j + 1)) 6 := hC _ _ (by omega) (by omega)
    obtain ⟨f1, f2⟩ := w1.2 p (by omega)
    obtain ⟨f3, f4⟩ := w0.2 p (by omega)
    have hway : C 12 5 = D 537 27 := by rw [hC _ _ (by omega) (by omega), hD _ _ (by omega)]; exact hw
    -- nothing joins at p
    have skip : (∀ {Q' : ao_M → Prop}, hv (fun n => fX12_endPart n 17 537 (nI t) (nI (j + 1)) (nI (p + 1)) 0 0 D σ) Q' → hv (fun n => fX12_endPart n 17 537 (nI t) (nI (j + 1)) (nI p) 0 0 D σ) Q') → (bt (C (92 + 71 * t + 8 + 6 * (j + 1)) 6) p = true → bt (C (92 + 71 * t + 8 + 6 * j) 6) p = true) → hv (fun n => fX2_joinAround n 75 12 (92 + 71 * t) (92 + 71 * t + 8 + 6 * (j + 1)) (92 + 71 * t + 8 + 6 * j) (nI p) C ρ) (fun C' => hv (fun n => fX12_endPart n 17 537 (nI t) (nI (j + 1)) (nI p) 0 0 D σ) (fun D' => Q C' D')) := by
      intro href himp
      refine hv_up (fun _ => fX2_joinAround.eq_2 ..) ?_
      try simp only [↓reduceIte, Nat.reduceEqDiff, Option.bind_some, ao_let, n_ell]
      try simp (disch := first | omega | assumption) only [↓reduceIte, Nat.reduceEqDiff, Option.bind_some, ao_let, t_le, f_le, t_lt, f_lt, f_eq, u_eq, u_n1, u_n2, n_cl, n_lt, n_le, n_eq, n_ltl, n_llt, n_lel, n_lle, n_eql, n_leq, n_add, n_mul, n_sub, n_addl, n_ladd, n_mull, n_lmul, n_subl, Int32.reduceLT, Int32.reduceLE, Int32.reduceAdd, Int32.reduceSub, Int32.reduceMul, Int32.reduceToNatClampNeg, not_false_eq_true, not_true_eq_false, or_false, false_or, or_self, and_self, false_and, true_and, and_false, and_true, true_or, or_true, Nat.reduceAdd, Nat.reduceMul, Nat.reduceLT, Nat.reduceLeDiff, ne_eq, n_ell]
      refine hv_mono (ih (p + 1) C D (by omega) ⟨w0, w1, fun q hq => ?_, hC, hD⟩) (fun C' h' => href h')
      rw [hbits q hq]
      by_cases e : q = p
      · subst e
        rw [e1] at himp
        have := hbits q hq
        simp only [Nat.lt_irrefl, decide_false, Bool.false_and, Bool.or_false] at this ⊢
        rw [this] at himp
        simp only [Nat.lt_succ_self, decide_true, Bool.true_and]
        cases hx : bt (C0 (92 + 71 * t + 8 + 6 * (j + 1)) 6) q with
        | false => simp
        | true => simp [himp hx]
      · have : decide (q < p) = decide (q < p + 1) := by
          rw [decide_eq_decide]; omega
        rw [this]
    by_cases hp1 : bt (C (92 + 71 * t + 8 + 6 * (j + 1)) 6) p = true
    · rw [if_pos hp1] at f1
      have f2' := f2 hp1
      -- it joins
      have add : (∀ {Q' : ao_M → Prop}, hv (fun n => fX12_endPart n 17 537 (nI t) (nI (j + 1)) (nI (p + 1)) 0 0 (ao_u (ao_u D 578 ((t * 12 + j) * 26 + p) 1) 582 ((t * 12 + j) * 26 + p) (D 582 ((t * 12 + (j + 1)) * 26 + p))) σ) Q' → hv (fun n => fX12_endPart n 17 537 (nI t) (nI (j + 1)) (nI p) 0 0 D σ) Q') → hv (fun n => fX2_joinAround n 62 12 (92 + 71 * t) (92 + 71 * t + 8 + 6 * (j + 1)) (92 + 71 * t + 8 + 6 * j) (nI p) C ρ) (fun C' => hv (fun n => fX12_endPart n 17 537 (nI t) (nI (j + 1)) (nI p) 0 0 D σ) (fun D' => Q C' D')) := by
        intro href
        refine hv_up (fun _ => fX2_joinAround.eq_2 ..) ?_
        try simp only [↓reduceIte, Nat.reduceEqDiff, Option.bind_some, ao_let, n_ell, hl1, hl0]
        try simp (disch := first | omega | assumption) only [↓reduceIte, Nat.reduceEqDiff, Option.bind_some, ao_let, t_le, f_le, t_lt, f_lt, f_eq, u_eq, u_n1, u_n2, n_cl, n_lt, n_le, n_eq, n_ltl, n_llt, n_lel, n_lle, n_eql, n_leq, n_add, n_mul, n_sub, n_addl, n_ladd, n_mull, n_lmul, n_subl, Int32.reduceLT, Int32.reduceLE, Int32.reduceAdd, Int32.reduceSub, Int32.reduceMul, Int32.reduceToNatClampNeg, not_false_eq_true, not_true_eq_false, or_false, false_or, or_self, and_self, false_and, true_and, and_false, and_true, true_or, or_true, Nat.reduceAdd, Nat.reduceMul, Nat.reduceLT, Nat.reduceLeDiff, ne_eq, n_ell, hl1, hl0]
        rw [c_addw hl0 (by omega)]
        try simp only [↓reduceIte, Nat.reduceEqDiff, Option.bind_some, ao_let, n_ell]
        try simp (disch := first | omega | assumption) only [↓reduceIte, Nat.reduceEqDiff, Option.bind_some, ao_let, t_le, f_le, t_lt, f_lt, f_eq, u_eq, u_n1, u_n2, n_cl, n_lt, n_le, n_eq, n_ltl, n_llt, n_lel, n_lle, n_eql, n_leq, n_add, n_mul, n_sub, n_addl, n_ladd, n_mull, n_lmul, n_subl, Int32.reduceLT, Int32.reduceLE, Int32.reduceAdd, Int32.reduceSub, Int32.reduceMul, Int32.reduceToNatClampNeg, not_false_eq_true, not_true_eq_false, or_false, false_or, or_self, and_self, false_and, true_and, and_false, and_true, true_or, or_true, Nat.reduceAdd, Nat.reduceMul, Nat.reduceLT, Nat.reduceLeDiff, ne_eq, n_ell]
        refine hv_up (fun _ => fX2_joinAround.eq_2 ..) ?_
        try simp only [↓reduceIte, Nat.reduceEqDiff, Option.bind_some, ao_let, n_ell]
        try simp (disch := first | omega | assumption) only [↓reduceIte, Nat.reduceEqDiff, Option.bind_some, ao_let, t_le, f_le, t_lt, f_lt, f_eq, u_eq, u_n1, u_n2, n_cl, n_lt, n_le, n_eq, n_ltl, n_llt, n_lel, n_lle, n_eql, n_leq, n_add, n_mul, n_sub, n_addl, n_ladd, n_mull, n_lmul, n_subl, Int32.reduceLT, Int32.reduceLE, Int32.reduceAdd, Int32.reduceSub, Int32.reduceMul, Int32.reduceToNatClampNeg, not_false_eq_true, not_true_eq_false, or_false, false_or, or_self, and_self, false_and, true_and, and_false, and_true, true_or, or_true, Nat.reduceAdd, Nat.reduceMul, Nat.reduceLT, Nat.reduceLeDiff, ne_eq, n_ell]
        refine hv_mono (ih (p + 1) _ (ao_u (ao_u D 578 ((t * 12 + j) * 26 + p) 1) 582 ((t * 12 + j) * 26 + p) (D 582 ((t * 12 + (j + 1)) * 26 + p))) (by omega) ⟨?_, ?_, fun q hq => ?_, fun a i h1 h2 => ?_, fun a i h1 => ?_⟩) (fun C' h' => href h')
        · refine Wr_add (v := C (92 + 71 * t + 8 + 6 * (j + 1) + 4) p) w0 (show p < 26 by omega) ?_ ?_ ?_ ?_
          · rw [u_n1 (by omega), u_eq]
          · intro q
            by_cases e : q = p
            · rw [if_pos e, e, u_eq]
            · rw [if_neg e, u_n2 (by omega), u_n1 (by omega)]
          · intro q hq
            by_cases e : q = p
            · rw [if_pos e, e, u_n1 (by omega), u_eq]
            · rw [if_neg e, u_n1 (by omega), u_n2 (by omega)]
          · intro q hq
            by_cases e : q = p
            · rw [if_pos e, e, u_eq, f2']
            · rw [if_neg e, u_n2 (by omega), u_n1 (by omega)]
        · refine ⟨fun q hq => ?_, fun q hq => ?_⟩
          · rw [u_n1 (by omega), u_n1 (by omega)]; exact w1.1 q hq
          · simp (disch := omega) only [u_ne]
            exact w1.2 q hq
        · rw [u_n1 (by omega), u_eq, bt_or _ hq (by omega), hbits q hq]
          by_cases e : q = p
          · subst e
            rw [e1] at hp1
            simp [hp1]
          · have : decide (q < p) = decide (q < p + 1) := by
              rw [decide_eq_decide]; omega
            simp [e, this]
        · rw [u_n1 h2, u_ne (by omega)]; exact hC a i h1 h2
        · rw [u_ne (by omega), u_ne (by omega)]; exact hD a i h1
      refine hv_up (fun _ => fX2_joinAround.eq_2 ..) ?_
      try simp only [↓reduceIte, Nat.reduceEqDiff, Option.bind_some, ao_let, n_ell, hl1]
      try simp (disch := first | omega | assumption) only [↓reduceIte, Nat.reduceEqDiff, Option.bind_some, ao_let, t_le, f_le, t_lt, f_lt, f_eq, u_eq, u_n1, u_n2, n_cl, n_lt, n_le, n_eq, n_ltl, n_llt, n_lel, n_lle, n_eql, n_leq, n_add, n_mul, n_sub, n_addl, n_ladd, n_mull, n_lmul, n_subl, Int32.reduceLT, Int32.reduceLE, Int32.reduceAdd, Int32.reduceSub, Int32.reduceMul, Int32.reduceToNatClampNeg, not_false_eq_true, not_true_eq_false, or_false, false_or, or_self, and_self, false_and, true_and, and_false, and_true, true_or, or_true, Nat.reduceAdd, Nat.reduceMul, Nat.reduceLT, Nat.reduceLeDiff, ne_eq, n_ell, hl1]
      rw [c_wrote hl1 (by omega), if_pos hp1]
      try simp only [↓reduceIte, Nat.reduceEqDiff, Option.bind_some, ao_let, n_ell, hc]
      try simp (disch := first | omega | assumption) only [↓reduceIte, Nat.reduceEqDiff, Option.bind_some, ao_let, t_le, f_le, t_lt, f_lt, f_eq, u_eq, u_n1, u_n2, n_cl, n_lt, n_le, n_eq, n_ltl, n_llt, n_lel, n_lle, n_eql, n_leq, n_add, n_mul, n_sub, n_addl, n_ladd, n_mull, n_lmul, n_subl, Int32.reduceLT, Int32.reduceLE, Int32.reduceAdd, Int32.reduceSub, Int32.reduceMul, Int32.reduceToNatClampNeg, not_false_eq_true, not_true_eq_false, or_false, false_or, or_self, and_self, false_and, true_and, and_false, and_true, true_or, or_true, Nat.reduceAdd, Nat.reduceMul, Nat.reduceLT, Nat.reduceLeDiff, ne_eq, n_ell, hc]
      refine hv_bind (P := fun y => y = (if C 12 5 = 3 ∨ C 12 5 = 4 then 1 else 0, C)) (cv_eager hc C rfl) ?_
      rintro _ rfl
      dsimp only
      by_cases hE : D 537 27 = 3 ∨ D 537 27 = 4
      · have hE' : C 12 5 = 3 ∨ C 12 5 = 4 := by rw [hway]; exact hE
        simp only [if_pos hE', show ((1 : Int32) = 0) = False from by decide, ↓reduceIte, hl0]
        rw [c_wrote hl0 (by omega)]
        try simp only [↓reduceIte, Nat.reduceEqDiff, Option.bind_some, ao_let, n_ell]
        try simp (disch := first | omega | assumption) only [↓reduceIte, Nat.reduceEqDiff, Option.bind_some, ao_let, t_le, f_le, t_lt, f_lt, f_eq, u_eq, u_n1, u_n2, n_cl, n_lt, n_le, n_eq, n_ltl, n_llt, n_lel, n_lle, n_eql, n_leq, n_add, n_mul, n_sub, n_addl, n_ladd, n_mull, n_lmul, n_subl, Int32.reduceLT, Int32.reduceLE, Int32.reduceAdd, Int32.reduceSub, Int32.reduceMul, Int32.reduceToNatClampNeg, not_false_eq_true, not_true_eq_false, or_false, false_or, or_self, and_self, false_and, true_and, and_false, and_true, true_or, or_true, Nat.reduceAdd, Nat.reduceMul, Nat.reduceLT, Nat.reduceLeDiff, ne_eq, n_ell]
        by_cases hp0 : bt (C (92 + 71 * t + 8 + 6 * j) 6) p = true
        · rw [if_pos hp0]
          rw [if_pos hp0] at f3
          try simp only [↓reduceIte, Nat.reduceEqDiff, Option.bind_some, ao_let, n_ell]
          try simp (disch := first | omega | assumption) only [↓reduceIte, Nat.reduceEqDiff, Option.bind_some, ao_let, t_le, f_le, t_lt, f_lt, f_eq, u_eq, u_n1, u_n2, n_cl, n_lt, n_le, n_eq, n_ltl, n_llt, n_lel, n_lle, n_eql, n_leq, n_add, n_mul, n_sub, n_addl, n_ladd, n_mull, n_lmul, n_subl, Int32.reduceLT, Int32.reduceLE, Int32.reduceAdd, Int32.reduceSub, Int32.reduceMul, Int32.reduceToNatClampNeg, not_false_eq_true, not_true_eq_false, or_false, false_or, or_self, and_self, false_and, true_and, and_false, and_true, true_or, or_true, Nat.reduceAdd, Nat.reduceMul, Nat.reduceLT, Nat.reduceLeDiff, ne_eq, n_ell]
          refine skip ?_ (fun _ => hp0)
          intro Q' h'
          refine hv_up (fun _ => fX12_endPart.eq_2 ..) ?_
          try simp only [↓reduceIte, Nat.reduceEqDiff, Option.bind_some, ao_let, n_ell, hs, gX12_cell, Nat.add_sub_cancel, f1]
          try simp (disch := first | omega | assumption) only [↓reduceIte, Nat.reduceEqDiff, Option.bind_some, ao_let, t_le, f_le, t_lt, f_lt, f_eq, u_eq, u_n1, u_n2, n_cl, n_lt, n_le, n_eq, n_ltl, n_llt, n_lel, n_lle, n_eql, n_leq, n_add, n_mul, n_sub, n_addl, n_ladd, n_mull, n_lmul, n_subl, Int32.reduceLT, Int32.reduceLE, Int32.reduceAdd, Int32.reduceSub, Int32.reduceMul, Int32.reduceToNatClampNeg, not_false_eq_true, not_true_eq_false, or_false, false_or, or_self, and_self, false_and, true_and, and_false, and_true, true_or, or_true, Nat.reduceAdd, Nat.reduceMul, Nat.reduceLT, Nat.reduceLeDiff, ne_eq, n_ell, hs, gX12_cell, Nat.add_sub_cancel, f1]
          refine hv_bind (P := fun y => y = (1, D)) (dv_eagerT hs D hE rfl) ?_
          rintro _ rfl
          try simp only [↓reduceIte, Nat.reduceEqDiff, Option.bind_some, ao_let, n_ell, hs, f3]
          try simp (disch := first | omega | assumption) only [↓reduceIte, Nat.reduceEqDiff, Option.bind_some, ao_let, t_le, f_le, t_lt, f_lt, f_eq, u_eq, u_n1, u_n2, n_cl, n_lt, n_le, n_eq, n_ltl, n_llt, n_lel, n_lle, n_eql, n_leq, n_add, n_mul, n_sub, n_addl, n_ladd, n_mull, n_lmul, n_subl, Int32.reduceLT, Int32.reduceLE, Int32.reduceAdd, Int32.reduceSub, Int32.reduceMul, Int32.reduceToNatClampNeg, not_false_eq_true, not_true_eq_false, or_false, false_or, or_self, and_self, false_and, true_and, and_false, and_true, true_or, or_true, Nat.reduceAdd, Nat.reduceMul, Nat.reduceLT, Nat.reduceLeDiff, ne_eq, n_ell, hs, f3]
          refine hv_up (fun _ => fX12_endPart.eq_2 ..) ?_
          try simp only [↓reduceIte, Nat.reduceEqDiff, Option.bind_some, ao_let, n_ell]
          try simp (disch := first | omega | assumption) only [↓reduceIte, Nat.reduceEqDiff, Option.bind_some, ao_let, t_le, f_le, t_lt, f_lt, f_eq, u_eq, u_n1, u_n2, n_cl, n_lt, n_le, n_eq, n_ltl, n_llt, n_lel, n_lle, n_eql, n_leq, n_add, n_mul, n_sub, n_addl, n_ladd, n_mull, n_lmul, n_subl, Int32.reduceLT, Int32.reduceLE, Int32.reduceAdd, Int32.reduceSub, Int32.reduceMul, Int32.reduceToNatClampNeg, not_false_eq_true, not_true_eq_false, or_false, false_or, or_self, and_self, false_and, true_and, and_false, and_true, true_or, or_true, Nat.reduceAdd, Nat.reduceMul, Nat.reduceLT, Nat.reduceLeDiff, ne_eq, n_ell]
          exact h'
        · rw [if_neg hp0]
          rw [if_neg hp0] at f3
          try simp only [↓reduceIte, Nat.reduceEqDiff, Option.bind_some, ao_let, n_ell]
          try simp (disch := first | omega | assumption) only [↓reduceIte, Nat.reduceEqDiff, Option.bind_some, ao_let, t_le, f_le, t_lt, f_lt, f_eq, u_eq, u_n1, u_n2, n_cl, n_lt, n_le, n_eq, n_ltl, n_llt, n_lel, n_lle, n_eql, n_leq, n_add, n_mul, n_sub, n_addl, n_ladd, n_mull, n_lmul, n_subl, Int32.reduceLT, Int32.reduceLE, Int32.reduceAdd, Int32.reduceSub, Int32.reduceMul, Int32.reduceToNatClampNeg, not_false_eq_true, not_true_eq_false, or_false, false_or, or_self, and_self, false_and, true_and, and_false, and_true, true_or, or_true, Nat.reduceAdd, Nat.reduceMul, Nat.reduceLT, Nat.reduceLeDiff, ne_eq, n_ell]
          refine add ?_
          intro Q' h'
          refine hv_up (fun _ => fX12_endPart.eq_2 ..) ?_
          try simp only [↓reduceIte, Nat.reduceEqDiff, Option.bind_some, ao_let, n_ell, hs, gX12_cell, Nat.add_sub_cancel, f1]
          try simp (disch := first | omega | assumption) only [↓reduceIte, Nat.reduceEqDiff, Option.bind_some, ao_let, t_le, f_le, t_lt, f_lt, f_eq, u_eq, u_n1, u_n2, n_cl, n_lt, n_le, n_eq, n_ltl, n_llt, n_lel, n_lle, n_eql, n_leq, n_add, n_mul, n_sub, n_addl, n_ladd, n_mull, n_lmul, n_subl, Int32.reduceLT, Int32.reduceLE, Int32.reduceAdd, Int32.reduceSub, Int32.reduceMul, Int32.reduceToNatClampNeg, not_false_eq_true, not_true_eq_false, or_false, false_or, or_self, and_self, false_and, true_and, and_false, and_true, true_or, or_true, Nat.reduceAdd, Nat.reduceMul, Nat.reduceLT, Nat.reduceLeDiff, ne_eq, n_ell, hs, gX12_cell, Nat.add_sub_cancel, f1]
          refine hv_bind (P := fun y => y = (1, D)) (dv_eagerT hs D hE rfl) ?_
          rintro _ rfl
          try simp only [↓reduceIte, Nat.reduceEqDiff, Option.bind_some, ao_let, n_ell, hs, f3]
          try simp (disch := first | omega | assumption) only [↓reduceIte, Nat.reduceEqDiff, Option.bind_some, ao_let, t_le, f_le, t_lt, f_lt, f_eq, u_eq, u_n1, u_n2, n_cl, n_lt, n_le, n_eq, n_ltl, n_llt, n_lel, n_lle, n_eql, n_leq, n_add, n_mul, n_sub, n_addl, n_ladd, n_mull, n_lmul, n_subl, Int32.reduceLT, Int32.reduceLE, Int32.reduceAdd, Int32.reduceSub, Int32.reduceMul, Int32.reduceToNatClampNeg, not_false_eq_true, not_true_eq_false, or_false, false_or, or_self, and_self, false_and, true_and, and_false, and_true, true_or, or_true, Nat.reduceAdd, Nat.reduceMul, Nat.reduceLT, Nat.reduceLeDiff, ne_eq, n_ell, hs, f3]
          refine hv_up (fun _ => fX12_endPart.eq_2 ..) ?_
          try simp only [↓reduceIte, Nat.reduceEqDiff, Option.bind_some, ao_let, n_ell, hs]
          try simp (disch := first | omega | assumption) only [↓reduceIte, Nat.reduceEqDiff, Option.bind_some, ao_let, t_le, f_le, t_lt, f_lt, f_eq, u_eq, u_n1, u_n2, n_cl, n_lt, n_le, n_eq, n_ltl, n_llt, n_lel, n_lle, n_eql, n_leq, n_add, n_mul, n_sub, n_addl, n_ladd, n_mull, n_lmul, n_subl, Int32.reduceLT, Int32.reduceLE, Int32.reduceAdd, Int32.reduceSub, Int32.reduceMul, Int32.reduceToNatClampNeg, not_false_eq_true, not_true_eq_false, or_false, false_or, or_self, and_self, false_and, true_and, and_false, and_true, true_or, or_true, Nat.reduceAdd, Nat.reduceMul, Nat.reduceLT, Nat.reduceLeDiff, ne_eq, n_ell, hs]
          refine hv_up (fun _ => fX12_endPart.eq_2 ..) ?_
          try simp only [↓reduceIte, Nat.reduceEqDiff, Option.bind_some, ao_let, n_ell]
          try simp (disch := first | omega | assumption) only [↓reduceIte, Nat.reduceEqDiff, Option.bind_some, ao_let, t_le, f_le, t_lt, f_lt, f_eq, u_eq, u_n1, u_n2, n_cl, n_lt, n_le, n_eq, n_ltl, n_llt, n_lel, n_lle, n_eql, n_leq, n_add, n_mul, n_sub, n_addl, n_ladd, n_mull, n_lmul, n_subl, Int32.reduceLT, Int32.reduceLE, Int32.reduceAdd, Int32.reduceSub, Int32.reduceMul, Int32.reduceToNatClampNeg, not_false_eq_true, not_true_eq_false, or_false, false_or, or_self, and_self, false_and, true_and, and_false, and_true, true_or, or_true, Nat.reduceAdd, Nat.reduceMul, Nat.reduceLT, Nat.reduceLeDiff, ne_eq, n_ell]
          exact h'
      · have hE' : ¬ (C 12 5 = 3 ∨ C 12 5 = 4) := by rw [hway]; exact hE
        simp only [if_neg hE', ↓reduceIte]
        refine add ?_
        intro Q' h'
        refine hv_up (fun _ => fX12_endPart.eq_2 ..) ?_
        try simp only [↓reduceIte, Nat.reduceEqDiff, Option.bind_some, ao_let, n_ell, hs, gX12_cell, Nat.add_sub_cancel, f1]
        try simp (disch := first | omega | assumption) only [↓reduceIte, Nat.reduceEqDiff, Option.bind_some, ao_let, t_le, f_le, t_lt, f_lt, f_eq, u_eq, u_n1, u_n2, n_cl, n_lt, n_le, n_eq, n_ltl, n_llt, n_lel, n_lle, n_eql, n_leq, n_add, n_mul, n_sub, n_addl, n_ladd, n_mull, n_lmul, n_subl, Int32.reduceLT, Int32.reduceLE, Int32.reduceAdd, Int32.reduceSub, Int32.reduceMul, Int32.reduceToNatClampNeg, not_false_eq_true, not_true_eq_false, or_false, false_or, or_self, and_self, false_and, true_and, and_false, and_true, true_or, or_true, Nat.reduceAdd, Nat.reduceMul, Nat.reduceLT, Nat.reduceLeDiff, ne_eq, n_ell, hs, gX12_cell, Nat.add_sub_cancel, f1]
        refine hv_bind (P := fun y => y = (0, D)) (dv_eagerF hs D hE rfl) ?_
        rintro _ rfl
        try simp only [↓reduceIte, Nat.reduceEqDiff, Option.bind_some, ao_let, n_ell, hs]
        try simp (disch := first | omega | assumption) only [↓reduceIte, Nat.reduceEqDiff, Option.bind_some, ao_let, t_le, f_le, t_lt, f_lt, f_eq, u_eq, u_n1, u_n2, n_cl, n_lt, n_le, n_eq, n_ltl, n_llt, n_lel, n_lle, n_eql, n_leq, n_add, n_mul, n_sub, n_addl, n_ladd, n_mull, n_lmul, n_subl, Int32.reduceLT, Int32.reduceLE, Int32.reduceAdd, Int32.reduceSub, Int32.reduceMul, Int32.reduceToNatClampNeg, not_false_eq_true, not_true_eq_false, or_false, false_or, or_self, and_self, false_and, true_and, and_false, and_true, true_or, or_true, Nat.reduceAdd, Nat.reduceMul, Nat.reduceLT, Nat.reduceLeDiff, ne_eq, n_ell, hs]
        refine hv_up (fun _ => fX12_endPart.eq_2 ..) ?_
        try simp only [↓reduceIte, Nat.reduceEqDiff, Option.bind_some, ao_let, n_ell, hs]
        try simp (disch := first | omega | assumption) only [↓reduceIte, Nat.reduceEqDiff, Option.bind_some, ao_let, t_le, f_le, t_lt, f_lt, f_eq, u_eq, u_n1, u_n2, n_cl, n_lt, n_le, n_eq, n_ltl, n_llt, n_lel, n_lle, n_eql, n_leq, n_add, n_mul, n_sub, n_addl, n_ladd, n_mull, n_lmul, n_subl, Int32.reduceLT, Int32.reduceLE, Int32.reduceAdd, Int32.reduceSub, Int32.reduceMul, Int32.reduceToNatClampNeg, not_false_eq_true, not_true_eq_false, or_false, false_or, or_self, and_self, false_and, true_and, and_false, and_true, true_or, or_true, Nat.reduceAdd, Nat.reduceMul, Nat.reduceLT, Nat.reduceLeDiff, ne_eq, n_ell, hs]
        refine hv_up (fun _ => fX12_endPart.eq_2 ..) ?_
        try simp only [↓reduceIte, Nat.reduceEqDiff, Option.bind_some, ao_let, n_ell]
        try simp (disch := first | omega | assumption) only [↓reduceIte, Nat.reduceEqDiff, Option.bind_some, ao_let, t_le, f_le, t_lt, f_lt, f_eq, u_eq, u_n1, u_n2, n_cl, n_lt, n_le, n_eq, n_ltl, n_llt, n_lel, n_lle, n_eql, n_leq, n_add, n_mul, n_sub, n_addl, n_ladd, n_mull, n_lmul, n_subl, Int32.reduceLT, Int32.reduceLE, Int32.reduceAdd, Int32.reduceSub, Int32.reduceMul, Int32.reduceToNatClampNeg, not_false_eq_true, not_true_eq_false, or_false, false_or, or_self, and_self, false_and, true_and, and_false, and_true, true_or, or_true, Nat.reduceAdd, Nat.reduceMul, Nat.reduceLT, Nat.reduceLeDiff, ne_eq, n_ell]
        exact h'
    · rw [if_neg hp1] at f1
      refine hv_up (fun _ => fX2_joinAround.eq_2 ..) ?_
      try simp only [↓reduceIte, Nat.reduceEqDiff, Option.bind_some, ao_let, n_ell, hl1]
      try simp (disch := first | omega | assumption) only [↓reduceIte, Nat.reduceEqDiff, Option.bind_some, ao_let, t_le, f_le, t_lt, f_lt, f_eq, u_eq, u_n1, u_n2, n_cl, n_lt, n_le, n_eq, n_ltl, n_llt, n_lel, n_lle, n_eql, n_leq, n_add, n_mul, n_sub, n_addl, n_ladd, n_mull, n_lmul, n_subl, Int32.reduceLT, Int32.reduceLE, Int32.reduceAdd, Int32.reduceSub, Int32.reduceMul, Int32.reduceToNatClampNeg, not_false_eq_true, not_true_eq_false, or_false, false_or, or_self, and_self, false_and, true_and, and_false, and_true, true_or, or_true, Nat.reduceAdd, Nat.reduceMul, Nat.reduceLT, Nat.reduceLeDiff, ne_eq, n_ell, hl1]
      rw [c_wrote hl1 (by omega), if_neg hp1]
      try simp only [↓reduceIte, Nat.reduceEqDiff, Option.bind_some, ao_let, n_ell]
      try simp (disch := first | omega | assumption) only [↓reduceIte, Nat.reduceEqDiff, Option.bind_some, ao_let, t_le, f_le, t_lt, f_lt, f_eq, u_eq, u_n1, u_n2, n_cl, n_lt, n_le, n_eq, n_ltl, n_llt, n_lel, n_lle, n_eql, n_leq, n_add, n_mul, n_sub, n_addl, n_ladd, n_mull, n_lmul, n_subl, Int32.reduceLT, Int32.reduceLE, Int32.reduceAdd, Int32.reduceSub, Int32.reduceMul, Int32.reduceToNatClampNeg, not_false_eq_true, not_true_eq_false, or_false, false_or, or_self, and_self, false_and, true_and, and_false, and_true, true_or, or_true, Nat.reduceAdd, Nat.reduceMul, Nat.reduceLT, Nat.reduceLeDiff, ne_eq, n_ell]
      refine skip ?_ (fun x => absurd x hp1)
      intro Q' h'
      refine hv_up (fun _ => fX12_endPart.eq_2 ..) ?_
      try simp only [↓reduceIte, Nat.reduceEqDiff, Option.bind_some, ao_let, n_ell, hs, gX12_cell, Nat.add_sub_cancel, f1]
      try simp (disch := first | omega | assumption) only [↓reduceIte, Nat.reduceEqDiff, Option.bind_some, ao_let, t_le, f_le, t_lt, f_lt, f_eq, u_eq, u_n1, u_n2, n_cl, n_lt, n_le, n_eq, n_ltl, n_llt, n_lel, n_lle, n_eql, n_leq, n_add, n_mul, n_sub, n_addl, n_ladd, n_mull, n_lmul, n_subl, Int32.reduceLT, Int32.reduceLE, Int32.reduceAdd, Int32.reduceSub, Int32.reduceMul, Int32.reduceToNatClampNeg, not_false_eq_true, not_true_eq_false, or_false, false_or, or_self, and_self, false_and, true_and, and_false, and_true, true_or, or_true, Nat.reduceAdd, Nat.reduceMul, Nat.reduceLT, Nat.reduceLeDiff, ne_eq, n_ell, hs, gX12_cell, Nat.add_sub_cancel, f1]
      refine hv_up (fun _ => fX12_endPart.eq_2 ..) ?_
      try simp only [↓reduceIte, Nat.reduceEqDiff, Option.bind_some, ao_let, n_ell]
      try simp (disch := first | omega | assumption) only [↓reduceIte, Nat.reduceEqDiff, Option.bind_some, ao_let, t_le, f_le, t_lt, f_lt, f_eq, u_eq, u_n1, u_n2, n_cl, n_lt, n_le, n_eq, n_ltl, n_llt, n_lel, n_lle, n_eql, n_leq, n_add, n_mul, n_sub, n_addl, n_ladd, n_mull, n_lmul, n_subl, Int32.reduceLT, Int32.reduceLE, Int32.reduceAdd, Int32.reduceSub, Int32.reduceMul, Int32.reduceToNatClampNeg, not_false_eq_true, not_true_eq_false, or_false, false_or, or_self, and_self, false_and, true_and, and_false, and_true, true_or, or_true, Nat.reduceAdd, Nat.reduceMul, Nat.reduceLT, Nat.reduceLeDiff, ne_eq, n_ell]
      exact h'
