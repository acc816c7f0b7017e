set_option linter.unusedSimpArgs false
set_option linter.unusedVariables false
section Ccc
variable {m B1 B2 E1 E2 : Nat} {C D : ao_M} {ρ σ : ao_H}
set_option maxRecDepth 100000 in
set_option maxHeartbeats 8000000 in
theorem PR_program (h : PR m B1 B2 E1 E2 C ρ D σ) (hm : m + 1 ≤ 512) (x : Int32) : hv (fun n => gL_program n 0 x 598 C ρ) (fun y => hv (fun n => gX12_program n 537 x D σ) (fun w => CR m B1 B2 E1 E2 y w.1 w.2.1 w.2.2)) := by
  obtain ⟨⟨hc, hb, hg, hs, hO⟩, -, -, -, ⟨hj, ⟨l, l1, l2, l3, l4⟩, hpl⟩, -, -, ⟨rc0, hTh⟩, -⟩ := PR_C h
  obtain ⟨Ds, s1, s2, s3⟩ := d_src (x1 := x) hs l1 l 0 (ao_u (ao_u D 537 7 (nI l)) 537 6 0) (by omega) (by rw [u_ne (by omega), u_eq]) (fun i hi => by
    rw [u_ne (by omega), u_ne (by omega), ← (l4 i (by omega)).1]
    exact (l4 i (by omega)).2)
  have ds7 : Ds 537 7 = nI l := by rw [s2 _ _ (by omega), u_ne (by omega), u_eq]
  have ds6 : Ds 537 6 = 0 := by rw [s2 _ _ (by omega), u_eq]
  have ds40 : ∀ i, i < l → Ds 540 i = C 1 i := fun i hi => by
    rw [s1 i (by omega) hi, u_ne (by omega), u_ne (by omega), ← (l4 i (by omega)).1]
  have dsF : ∀ y j, ¬ (y = 537 ∧ (j = 6 ∨ j = 7)) → y ≠ 540 → Ds y j = D y j := fun y j q1 q2 => by rw [s2 y j (by omega), u_ne (by omega), u_ne (by omega)]
  have pre : ∀ {Q : Int32 × ao_S → Prop}, hv (fun n => fX12_program n 15 537 x (nI l) 0 0 Ds σ) Q → hv (fun n => gX12_program n 537 x D σ) Q := by
    intro Q hQ
    unfold gX12_program
    refine hv_up (fun _ => fX12_program.eq_2 ..) ?_
    try simp only [↓reduceIte, Nat.reduceEqDiff, Option.bind_some, ao_let, n_ell, hs, l3]
    try simp (disch := first | omega | assumption) only [↓reduceIte, Nat.reduceEqDiff, Option.bind_some, ao_let, t_le, f_le, t_lt, f_lt, f_eq, u_eq, u_n1, u_n2, n_cl, n_lt, n_le, n_eq, n_ltl, n_llt, n_lel, n_lle, n_eql, n_leq, n_add, n_mul, n_sub, n_addl, n_ladd, n_mull, n_lmul, n_subl, Int32.reduceLT, Int32.reduceLE, Int32.reduceAdd, Int32.reduceSub, Int32.reduceMul, Int32.reduceToNatClampNeg, not_false_eq_true, not_true_eq_false, or_false, false_or, or_self, and_self, false_and, true_and, and_false, and_true, true_or, or_true, Nat.reduceAdd, Nat.reduceMul, Nat.reduceLT, Nat.reduceLeDiff, ne_eq, n_ell, hs, l3]
    exact s3 hQ
  have ext : ∀ r : Int32, PR (m + 1) (B1 + 5) (B2 + 3100) E1 E2 (ao_u C 0 4 0) (ao_th ρ) (ao_u Ds 537 0 r) σ := by
    intro r
    refine PR_ext h hm (Or.inr rfl) (fun y j q => u_ne (by omega)) (fun y j q1 q2 => by rw [u_ne (by omega), dsF y j (by omega) (by omega)]) ?_
    rintro ⟨k, k1, k2, k3, k4⟩ - q
    refine ⟨⟨k, k1, by rw [u_ne (by omega)]; exact k2, by rw [u_ne (by omega), dsF _ _ (by omega) (by omega)]; exact k3, fun j hj => by rw [u_ne (by omega), u_ne (by omega), dsF _ _ (by omega) (by omega)]; exact k4 j hj⟩, ⟨0, by omega, u_eq, by rw [u_ne (by omega)]; exact ds6, fun j hj => by rw [u_ne (by omega), u_ne (by omega), dsF _ _ (by omega) (by omega)]; exact l4 j hj⟩, by rw [u_ne (by omega), u_ne (by omega), dsF _ _ (by omega) (by omega)]; exact q⟩
  have d68 : ∀ r : Int32, r ≠ 0 → hv (fun n => fX12_program n 68 537 x (nI l) r 537 Ds σ) (fun w => w.2 = (ao_u Ds 537 0 r, σ)) := by
    intro r hr
    refine hv_up (fun _ => fX12_program.eq_2 ..) ?_
    try simp only [↓reduceIte, Nat.reduceEqDiff, Option.bind_some, ao_let, n_ell, hs, gX12_fails, hr]
    try simp (disch := first | omega | assumption) only [↓reduceIte, Nat.reduceEqDiff, Option.bind_some, ao_let, t_le, f_le, t_lt, f_lt, f_eq, u_eq, u_n1, u_n2, n_cl, n_lt, n_le, n_eq, n_ltl, n_llt, n_lel, n_lle, n_eql, n_leq, n_add, n_mul, n_sub, n_addl, n_ladd, n_mull, n_lmul, n_subl, Int32.reduceLT, Int32.reduceLE, Int32.reduceAdd, Int32.reduceSub, Int32.reduceMul, Int32.reduceToNatClampNeg, not_false_eq_true, not_true_eq_false, or_false, false_or, or_self, and_self, false_and, true_and, and_false, and_true, true_or, or_true, Nat.reduceAdd, Nat.reduceMul, Nat.reduceLT, Nat.reduceLeDiff, ne_eq, n_ell, hs, gX12_fails, hr]
    exact hv_some rfl
  have bad : ∀ (ex : String) (r : Int32), (ex = "java/lang/IllegalArgumentException" ∧ r = 1 ∨ ex = "java/lang/IllegalStateException" ∧ r = 2) → hv (fun n => gX10_program n 0 x C ρ) (fun u => u = (.inr ex, ao_u C 0 4 0, ao_th ρ)) → hv (fun n => fX12_program n 15 537 x (nI l) 0 0 Ds σ) (fun w => w.2 = (ao_u Ds 537 0 r, σ)) → hv (fun n => gL_program n 0 x 598 C ρ) (fun y => hv (fun n => gX12_program n 537 x D σ) (fun w => CR m B1 B2 E1 E2 y w.1 w.2.1 w.2.2)) := by
    intro ex r her h1 h2
    have fin : ∀ r : Int32, r ≠ 0 → ∀ w : Int32 × ao_S, w.2 = (ao_u Ds 537 0 r, σ) → CR m B1 B2 E1 E2 (r, ao_u C 0 4 0, ao_th ρ) w.1 w.2.1 w.2.2 := by
      rintro r hr ⟨w1, D', σ'⟩ hw
      dsimp only at hw
      cases hw
      exact ⟨ext r, by dsimp only; exact u_eq, fun q => absurd q hr⟩
    unfold gL_program
    refine hv_up (fun _ => fL_program.eq_2 ..) ?_
    try simp only [↓reduceIte, Nat.reduceEqDiff, Option.bind_some, ao_let, n_ell, hc]
    try simp (disch := first | omega | assumption) only [↓reduceIte, Nat.reduceEqDiff, Option.bind_some, ao_let, t_le, f_le, t_lt, f_lt, f_eq, u_eq, u_n1, u_n2, n_cl, n_lt, n_le, n_eq, n_ltl, n_llt, n_lel, n_lle, n_eql, n_leq, n_add, n_mul, n_sub, n_addl, n_ladd, n_mull, n_lmul, n_subl, Int32.reduceLT, Int32.reduceLE, Int32.reduceAdd, Int32.reduceSub, Int32.reduceMul, Int32.reduceToNatClampNeg, not_false_eq_true, not_true_eq_false, or_false, false_or, or_self, and_self, false_and, true_and, and_false, and_true, true_or, or_true, Nat.reduceAdd, Nat.reduceMul, Nat.reduceLT, Nat.reduceLeDiff, ne_eq, n_ell, hc]
    refine hv_bind h1 ?_
    rintro _ rfl
    rcases her with ⟨rfl, rfl⟩ | ⟨rfl, rfl⟩
    · simp only [ao_cs, ↓reduceIte]
      exact hv_some (pre (hv_mono h2 (fun w hw => fin 1 (by decide) w hw)))
    · simp only [ao_cs, ex_ne2, ↓reduceIte]
      exact hv_some (pre (hv_mono h2 (fun w hw => fin 2 (by decide) w hw)))
  rcases pl_of x 6 (by omega) with ⟨t, ht, rfl⟩ | hx
  · have hR := RnS_of hb ht
    have h91 : ρ.1 91 t = some (92 + 71 * t) := by obtain ⟨a0, _⟩ := hb; exact a0 t ht
    have est : C (92 + 71 * t) 2 = Ds 551 t := by rw [dsF _ _ (by omega) (by omega)]; exact sts_eq hTh ht
    by_cases q2 : C (92 + 71 * t) 2 = 2
    · have q2' : Ds 551 t = 2 := by rw [← est]; exact q2
      refine bad _ 2 (Or.inr ⟨rfl, rfl⟩) ?_ ?_
      · unfold gX10_program
        refine hv_up (fun _ => fX10_program.eq_2 ..) ?_
        try simp only [↓reduceIte, Nat.reduceEqDiff, Option.bind_some, ao_let, n_ell, hc, h91, hR, q2]
        try simp (disch := first | omega | assumption) only [↓reduceIte, Nat.reduceEqDiff, Option.bind_some, ao_let, t_le, f_le, t_lt, f_lt, f_eq, u_eq, u_n1, u_n2, n_cl, n_lt, n_le, n_eq, n_ltl, n_llt, n_lel, n_lle, n_eql, n_leq, n_add, n_mul, n_sub, n_addl, n_ladd, n_mull, n_lmul, n_subl, Int32.reduceLT, Int32.reduceLE, Int32.reduceAdd, Int32.reduceSub, Int32.reduceMul, Int32.reduceToNatClampNeg, not_false_eq_true, not_true_eq_false, or_false, false_or, or_self, and_self, false_and, true_and, and_false, and_true, true_or, or_true, Nat.reduceAdd, Nat.reduceMul, Nat.reduceLT, Nat.reduceLeDiff, ne_eq, n_ell, hc, h91, hR, q2]
        exact hv_some rfl
      · refine hv_up (fun _ => fX12_program.eq_2 ..) ?_
        try simp only [↓reduceIte, Nat.reduceEqDiff, Option.bind_some, ao_let, n_ell, hs, ds7, isTh_yes ht, q2']
        try simp (disch := first | omega | assumption) only [↓reduceIte, Nat.reduceEqDiff, Option.bind_some, ao_let, t_le, f_le, t_lt, f_lt, f_eq, u_eq, u_n1, u_n2, n_cl, n_lt, n_le, n_eq, n_ltl, n_llt, n_lel, n_lle, n_eql, n_leq, n_add, n_mul, n_sub, n_addl, n_ladd, n_mull, n_lmul, n_subl, Int32.reduceLT, Int32.reduceLE, Int32.reduceAdd, Int32.reduceSub, Int32.reduceMul, Int32.reduceToNatClampNeg, not_false_eq_true, not_true_eq_false, or_false, false_or, or_self, and_self, false_and, true_and, and_false, and_true, true_or, or_true, Nat.reduceAdd, Nat.reduceMul, Nat.reduceLT, Nat.reduceLeDiff, ne_eq, n_ell, hs, ds7, isTh_yes ht, q2']
        exact d68 2 (by decide)
    · have f2 : (C (92 + 71 * t) 2 = 2) = False := eq_false q2
      have f2' : (Ds 551 t = 2) = False := eq_false (by rw [← est]; exact q2)
      obtain ⟨-, -, -, -, ⟨⟨⟨-, -, hz, -⟩, rm, ⟨m1, -⟩, -⟩, -⟩, hRx, -⟩ := id h
      obtain ⟨z, hz, h9⟩ := hz
      have pk := parse_ok (C := ao_u C 0 4 0) (D := ao_u (ao_u Ds 537 0 0) 537 3 (-1)) (ρ := ρ) (σ := σ) (s := fun i => C 1 i) (len := l) hc hs hRx.2.1 l1 (by rw [u_ne (by omega)]; exact m1) (fun i hi => ⟨by rw [u_ne (by omega)], (l4 i (by omega)).2⟩) (by rw [u_ne (by omega), u_ne (by omega)]; exact ds7) (fun i hi => by rw [u_ne (by omega), u_ne (by omega)]; exact ds40 i hi)
      have hA1 := ShA_r30 hc
      -- the reference, to its text
      have dtx : ∀ {Q : Int32 × ao_S → Prop} {w1 : Int32 ⊕ String} {D3 : ao_M}, (∀ R : (Int32 ⊕ String) × ao_S → Prop, R (w1, D3, σ) → hv (fun n => gX12_readProgram n 537 (ao_u (ao_u Ds 537 0 0) 537 3 (-1)) σ) R) → hv (fun n => ao_cs w1 (fun _ => fX12_program n 85 537 (nI t) (nI l) 0 0 D3 σ) fun E28 => if E28 = "AsOneHouseModel$Broken" then if σ.2.1 537 = 22 then if (D3 537 7) ≤ (D3 537 2) then ao_let (ao_u D3 537 3 (D3 537 7)) fun M31 => ao_let (ao_u M31 537 0 (3 : Int32)) fun M32 => some ((0 : Int32), M32, σ) else ao_let (ao_u D3 537 3 (D3 537 2)) fun M33 => ao_let (ao_u M33 537 0 (3 : Int32)) fun M34 => some ((0 : Int32), M34, σ) else none else none) Q → hv (fun n => gX12_program n 537 (nI t) D σ) Q := by
        intro Q w1 D3 hr hQ
        refine pre ?_
        refine hv_up (fun _ => fX12_program.eq_2 ..) ?_
        try simp only [↓reduceIte, Nat.reduceEqDiff, Option.bind_some, ao_let, n_ell, hs, ds7, isTh_yes ht, f2']
        try simp (disch := first | omega | assumption) only [↓reduceIte, Nat.reduceEqDiff, Option.bind_some, ao_let, t_le, f_le, t_lt, f_lt, f_eq, u_eq, u_n1, u_n2, n_cl, n_lt, n_le, n_eq, n_ltl, n_llt, n_lel, n_lle, n_eql, n_leq, n_add, n_mul, n_sub, n_addl, n_ladd, n_mull, n_lmul, n_subl, Int32.reduceLT, Int32.reduceLE, Int32.reduceAdd, Int32.reduceSub, Int32.reduceMul, Int32.reduceToNatClampNeg, not_false_eq_true, not_true_eq_false, or_false, false_or, or_self, and_self, false_and, true_and, and_false, and_true, true_or, or_true, Nat.reduceAdd, Nat.reduceMul, Nat.reduceLT, Nat.reduceLeDiff, ne_eq, n_ell, hs, ds7, isTh_yes ht, f2']
        refine hv_up (fun _ => fX12_program.eq_2 ..) ?_
        try simp only [↓reduceIte, Nat.reduceEqDiff, Option.bind_some, ao_let, n_ell, hs, gX12_fails]
        try simp (disch := first | omega | assumption) only [↓reduceIte, Nat.reduceEqDiff, Option.bind_some, ao_let, t_le, f_le, t_lt, f_lt, f_eq, u_eq, u_n1, u_n2, n_cl, n_lt, n_le, n_eq, n_ltl, n_llt, n_lel, n_lle, n_eql, n_leq, n_add, n_mul, n_sub, n_addl, n_ladd, n_mull, n_lmul, n_subl, Int32.reduceLT, Int32.reduceLE, Int32.reduceAdd, Int32.reduceSub, Int32.reduceMul, Int32.reduceToNatClampNeg, not_false_eq_true, not_true_eq_false, or_false, false_or, or_self, and_self, false_and, true_and, and_false, and_true, true_or, or_true, Nat.reduceAdd, Nat.reduceMul, Nat.reduceLT, Nat.reduceLeDiff, ne_eq, n_ell, hs, gX12_fails]
        refine hv_bind (hr (fun z => z = (w1, D3, σ)) rfl) ?_
        rintro _ rfl
        exact hQ
      unfold gL_program
      refine hv_up (fun _ => fL_program.eq_2 ..) ?_
      try simp only [↓reduceIte, Nat.reduceEqDiff, Option.bind_some, ao_let, n_ell, hc]
      try simp (disch := first | omega | assumption) only [↓reduceIte, Nat.reduceEqDiff, Option.bind_some, ao_let, t_le, f_le, t_lt, f_lt, f_eq, u_eq, u_n1, u_n2, n_cl, n_lt, n_le, n_eq, n_ltl, n_llt, n_lel, n_lle, n_eql, n_leq, n_add, n_mul, n_sub, n_addl, n_ladd, n_mull, n_lmul, n_subl, Int32.reduceLT, Int32.reduceLE, Int32.reduceAdd, Int32.reduceSub, Int32.reduceMul, Int32.reduceToNatClampNeg, not_false_eq_true, not_true_eq_false, or_false, false_or, or_self, and_self, false_and, true_and, and_false, and_true, true_or, or_true, Nat.reduceAdd, Nat.reduceMul, Nat.reduceLT, Nat.reduceLeDiff, ne_eq, n_ell, hc]
      refine hv_bind (P := fun u => (∃ C4 ρ4, u = (.inr "java/lang/UnsupportedOperationException", C4, ρ4) ∧ hv (fun n => gX12_program n 537 (nI t) D σ) (fun w => CR m B1 B2 E1 E2 (3, C4, ρ4) w.1 w.2.1 w.2.2)) ∨ (∃ st C4 ρ4, u = (.inl (nI st), C4, ρ4) ∧ ShO ρ4 ∧ hv (fun n => gX12_program n 537 (nI t) D σ) (fun w => CR m B1 B2 E1 E2 (0, ao_u C4 598 0 (nI st), ρ4) w.1 w.2.1 w.2.2))) ?_ ?_
      rotate_left 1
      · rintro _ (⟨C4, ρ4, rfl, hr⟩ | ⟨st, C4, ρ4, rfl, hO4, hr⟩)
        · simp only [ao_cs, ex_ne3, ex_ne4, ↓reduceIte]
          exact hv_some hr
        · simp only [ao_cs]
          refine hv_up (fun _ => fL_program.eq_2 ..) ?_
          try simp only [↓reduceIte, Nat.reduceEqDiff, Option.bind_some, ao_let, n_ell, hO4]
          try simp (disch := first | omega | assumption) only [↓reduceIte, Nat.reduceEqDiff, Option.bind_some, ao_let, t_le, f_le, t_lt, f_lt, f_eq, u_eq, u_n1, u_n2, n_cl, n_lt, n_le, n_eq, n_ltl, n_llt, n_lel, n_lle, n_eql, n_leq, n_add, n_mul, n_sub, n_addl, n_ladd, n_mull, n_lmul, n_subl, Int32.reduceLT, Int32.reduceLE, Int32.reduceAdd, Int32.reduceSub, Int32.reduceMul, Int32.reduceToNatClampNeg, not_false_eq_true, not_true_eq_false, or_false, false_or, or_self, and_self, false_and, true_and, and_false, and_true, true_or, or_true, Nat.reduceAdd, Nat.reduceMul, Nat.reduceLT, Nat.reduceLeDiff, ne_eq, n_ell, hO4]
          exact hv_some hr
      unfold gX10_program
      refine hv_up (fun _ => fX10_program.eq_2 ..) ?_
      try simp only [↓reduceIte, Nat.reduceEqDiff, Option.bind_some, ao_let, n_ell, hc, h91, hR, l2, f2]
      try simp (disch := first | omega | assumption) only [↓reduceIte, Nat.reduceEqDiff, Option.bind_some, ao_let, t_le, f_le, t_lt, f_lt, f_eq, u_eq, u_n1, u_n2, n_cl, n_lt, n_le, n_eq, n_ltl, n_llt, n_lel, n_lle, n_eql, n_leq, n_add, n_mul, n_sub, n_addl, n_ladd, n_mull, n_lmul, n_subl, Int32.reduceLT, Int32.reduceLE, Int32.reduceAdd, Int32.reduceSub, Int32.reduceMul, Int32.reduceToNatClampNeg, not_false_eq_true, not_true_eq_false, or_false, false_or, or_self, and_self, false_and, true_and, and_false, and_true, true_or, or_true, Nat.reduceAdd, Nat.reduceMul, Nat.reduceLT, Nat.reduceLeDiff, ne_eq, n_ell, hc, h91, hR, l2, f2]
      refine hv_bind pk ?_
      rintro ⟨y1, C1, ρ1⟩ hy
      obtain ⟨⟨w1, D3, σ3⟩, ⟨e1, e2, kC, kD, cs⟩, rw1⟩ := hv_ex hy
      dsimp only at e1 e2 kC kD cs
      subst e1
      obtain rfl : σ = σ3 := e2.symm
      have k7 : D3 537 7 = nI l := by rw [kD _ _ (by omega), u_ne (by omega), u_ne (by omega)]; exact ds7
      rcases cs with ⟨rfl, rfl, L, m', st, hL, hm', hst, c84, c85, d15, d13, hck⟩ | ⟨rfl, rfl, b, hb', c22, d2⟩
      · -- a program
        refine hv_up (fun _ => fX10_program.eq_2 ..) ?_
        try simp only [↓reduceIte, Nat.reduceEqDiff, Option.bind_some, ao_let, n_ell, hA1]
        try simp (disch := first | omega | assumption) only [↓reduceIte, Nat.reduceEqDiff, Option.bind_some, ao_let, t_le, f_le, t_lt, f_lt, f_eq, u_eq, u_n1, u_n2, n_cl, n_lt, n_le, n_eq, n_ltl, n_llt, n_lel, n_lle, n_eql, n_leq, n_add, n_mul, n_sub, n_addl, n_ladd, n_mull, n_lmul, n_subl, Int32.reduceLT, Int32.reduceLE, Int32.reduceAdd, Int32.reduceSub, Int32.reduceMul, Int32.reduceToNatClampNeg, not_false_eq_true, not_true_eq_false, or_false, false_or, or_self, and_self, false_and, true_and, and_false, and_true, true_or, or_true, Nat.reduceAdd, Nat.reduceMul, Nat.reduceLT, Nat.reduceLeDiff, ne_eq, n_ell, hA1]
        refine hv_bind (c_copy (C := ao_u C1 0 5 (-1)) (z := z) (L := L) (st := st) hA1 hz h9 hL ?_ ?_ ?_) ?_
        · rw [u_ne (by omega), kC _ _ (by omega), u_ne (by omega)]; exact m1
        · rw [u_ne (by omega)]; exact c84
        · rw [u_ne (by omega)]; exact c85
        rintro ⟨y1, C4, ρ4⟩ ⟨e1, e2, cpA, cpB, cpC⟩
        dsimp only at e1 e2 cpA cpB cpC
        subst e1 e2
        obtain ⟨hH, -, -, ⟨o1, -⟩, ⟨p1, -⟩, -⟩ := prH_ok (ρ := ρ) (t := t) (L := L) hz h9 ht
        have hb5 := (Hpr_A hH ht).2.1 hb
        have kR : (inH (ao_nw (ao_r ρ 3 0 (some 1)) y1 11 0 6) y1 L).2.1 (92 + 71 * t) = 17 := (hH.2.2.2.2.1 (92 + 71 * t) (by omega)).1.trans hR.1
        refine hv_up (fun _ => fX10_program.eq_2 ..) ?_
        simp only [Nat.reduceEqDiff, ↓reduceIte, kR]
        refine hv_up (fun _ => fX10_program.eq_2 ..) ?_
        simp only [Nat.reduceEqDiff, ↓reduceIte, r_K, kR]
        refine hv_bind (c_renew (ρ := prH ρ t y1 L) hb5 ht C4) ?_
        intro C5 rn
        have z5 : C5 y1 5 = nI st := by rw [rn.2.2.2 _ _ (by omega) (by omega)]; exact cpB.2.2
        have kz : (inH (ao_nw (ao_r ρ 3 0 (some 1)) y1 11 0 6) y1 L).2.1 y1 = 11 := p1
        simp only [r_Fe, Option.bind_some, ↓reduceIte, kz, z5]
        obtain ⟨D4, cd1, cd2, cd3⟩ := d_cod (t := t) (I := m' + 1) hs ht (by omega) (3 * (m' + 1)) 0 D3 (by omega) d13
        have d413 : D4 537 13 = nI (m' + 1) := by rw [cd2 _ _ (by omega)]; exact d13
        have key : ∀ D5, ResV t (ao_u D4 551 t 1) D5 → ResF t (ao_u D4 551 t 1) D5 → PR (m + 1) (B1 + 5) (B2 + 3100) E1 E2 (ao_u C5 598 0 (nI st)) (prH ρ t y1 L) D5 σ ∧ D5 537 0 = 0 ∧ ShO (prH ρ t y1 L) := fun D5 rv rf => PR_pg (l := 0) (C1 := C1) (C4 := C4) (D3 := D3) (D4 := D4) (Ds := Ds) (I := m' + 1) h hm ht q2 hz h9 hL kC cpA cpB cpC rn ds6 dsF kD (by omega) (fun x hx => cd1 x (Nat.zero_le x) hx) (fun x i q => cd2 x i q) rv rf hck
        have hO5 : ShO (prH ρ t y1 L) := ⟨(hH.2.2.2.2.1 598 (by omega)).1.trans hO.1, (hH.2.2.2.2.1 598 (by omega)).2.trans hO.2⟩
        refine hv_some (Or.inr ⟨st, C5, prH ρ t y1 L, rfl, hO5, dtx rw1 ?_⟩)
        simp only [ao_cs]
        refine hv_up (fun _ => fX12_program.eq_2 ..) ?_
        try simp only [↓reduceIte, Nat.reduceEqDiff, Option.bind_some, ao_let, n_ell]
        try simp (disch := first | omega | assumption) only [↓reduceIte, Nat.reduceEqDiff, Option.bind_some, ao_let, t_le, f_le, t_lt, f_lt, f_eq, u_eq, u_n1, u_n2, n_cl, n_lt, n_le, n_eq, n_ltl, n_llt, n_lel, n_lle, n_eql, n_leq, n_add, n_mul, n_sub, n_addl, n_ladd, n_mull, n_lmul, n_subl, Int32.reduceLT, Int32.reduceLE, Int32.reduceAdd, Int32.reduceSub, Int32.reduceMul, Int32.reduceToNatClampNeg, not_false_eq_true, not_true_eq_false, or_false, false_or, or_self, and_self, false_and, true_and, and_false, and_true, true_or, or_true, Nat.reduceAdd, Nat.reduceMul, Nat.reduceLT, Nat.reduceLeDiff, ne_eq, n_ell]
        refine cd3 ?_
        refine hv_up (fun _ => fX12_program.eq_2 ..) ?_
        try simp only [↓reduceIte, Nat.reduceEqDiff, Option.bind_some, ao_let, n_ell, hs, d413]
        try simp (disch := first | omega | assumption) only [↓reduceIte, Nat.reduceEqDiff, Option.bind_some, ao_let, t_le, f_le, t_lt, f_lt, f_eq, u_eq, u_n1, u_n2, n_cl, n_lt, n_le, n_eq, n_ltl, n_llt, n_lel, n_lle, n_eql, n_leq, n_add, n_mul, n_sub, n_addl, n_ladd, n_mull, n_lmul, n_subl, Int32.reduceLT, Int32.reduceLE, Int32.reduceAdd, Int32.reduceSub, Int32.reduceMul, Int32.reduceToNatClampNeg, not_false_eq_true, not_true_eq_false, or_false, false_or, or_self, and_self, false_and, true_and, and_false, and_true, true_or, or_true, Nat.reduceAdd, Nat.reduceMul, Nat.reduceLT, Nat.reduceLeDiff, ne_eq, n_ell, hs, d413]
        refine hv_bind (d_reset hs ht (ao_u D4 551 t 1)) ?_
        rintro D5 ⟨rv, rf⟩
        obtain ⟨k1, k2, k3⟩ := key D5 rv rf
        refine hv_some ⟨k1, k2, fun _ => ?_⟩
        show ao_u C5 598 0 (nI st) 598 0 = D5 537 15
        rw [u_eq, rf _ _ (by omega) (by omega) (by omega) (by omega), u_ne (by omega), cd2 _ _ (by omega)]
        exact d15.symm
      · -- broken
        refine hv_up (fun _ => fX10_program.eq_2 ..) ?_
        try simp only [↓reduceIte, Nat.reduceEqDiff, Option.bind_some, ao_let, n_ell, hA1, c22]
        try simp (disch := first | omega | assumption) only [↓reduceIte, Nat.reduceEqDiff, Option.bind_some, ao_let, t_le, f_le, t_lt, f_lt, f_eq, u_eq, u_n1, u_n2, n_cl, n_lt, n_le, n_eq, n_ltl, n_llt, n_lel, n_lle, n_eql, n_leq, n_add, n_mul, n_sub, n_addl, n_ladd, n_mull, n_lmul, n_subl, Int32.reduceLT, Int32.reduceLE, Int32.reduceAdd, Int32.reduceSub, Int32.reduceMul, Int32.reduceToNatClampNeg, not_false_eq_true, not_true_eq_false, or_false, false_or, or_self, and_self, false_and, true_and, and_false, and_true, true_or, or_true, Nat.reduceAdd, Nat.reduceMul, Nat.reduceLT, Nat.reduceLeDiff, ne_eq, n_ell, hA1, c22]
        refine hv_some (Or.inl ⟨_, _, rfl, dtx rw1 ?_⟩)
        simp only [ao_cs]
        refine hv_ifT (show RX11 = "AsOneHouseModel$Broken" from rfl) ?_
        have fin : CR m B1 B2 E1 E2 (3, ao_u C1 0 5 (nI b), ao_th (ao_r ρ 3 0 (some 1))) 0 (ao_u (ao_u D3 537 3 (nI b)) 537 0 3) σ := by
          refine ⟨PR_ext (PR_r30 h) hm (Or.inr rfl) (fun y j q => ?_) (fun y j q1 q2 => ?_) ?_, u_eq, fun q => absurd q (show ¬ (3 : Int32) = 0 by decide)⟩
          · show ao_u C1 0 5 (nI b) y j = C y j
            rw [u_ne (by omega), kC y j (by omega), u_ne (by omega)]
          · rw [u_ne (by omega), u_ne (by omega), kD y j (by omega), u_ne (by omega), u_ne (by omega), dsF y j (by omega) (by omega)]
          · rintro ⟨k, k1, k2, k3, k4⟩ - q
            refine ⟨⟨k, k1, ?_, ?_, fun j hj => ?_⟩, ⟨0, by omega, ?_, ?_, fun j hj => ?_⟩, ?_⟩
            · show ao_u C1 0 5 (nI b) 518 1 = _
              rw [u_ne (by omega), kC _ _ (by omega), u_ne (by omega)]; exact k2
            · rw [u_ne (by omega), u_ne (by omega), kD _ _ (by omega), u_ne (by omega), u_ne (by omega), dsF _ _ (by omega) (by omega)]; exact k3
            · show ao_u C1 0 5 (nI b) 519 j = _
              rw [u_ne (by omega), kC _ _ (by omega), u_ne (by omega), u_ne (by omega), u_ne (by omega), kD _ _ (by omega), u_ne (by omega), u_ne (by omega), dsF _ _ (by omega) (by omega)]; exact k4 j hj
            · show ao_u C1 0 5 (nI b) 0 4 = _
              rw [u_ne (by omega), kC _ _ (by omega), u_eq]; rfl
            · rw [u_ne (by omega), u_ne (by omega), kD _ _ (by omega), u_ne (by omega), u_ne (by omega)]; exact ds6
            · show ao_u C1 0 5 (nI b) 1 j = _ ∧ (-128 ≤ (ao_u C1 0 5 (nI b) 1 j).toInt ∧ (ao_u C1 0 5 (nI b) 1 j).toInt ≤ 127)
              rw [u_ne (by omega), kC _ _ (by omega), u_ne (by omega), u_ne (by omega), u_ne (by omega), kD _ _ (by omega), u_ne (by omega), u_ne (by omega), dsF _ _ (by omega) (by omega)]; exact l4 j hj
            · show ao_u C1 0 5 (nI b) 0 5 = _
              rw [u_eq, u_ne (by omega), u_eq]
        by_cases q : l ≤ b
        · obtain rfl : l = b := by omega
          try simp only [↓reduceIte, Nat.reduceEqDiff, Option.bind_some, ao_let, n_ell, hs, k7, d2]
          try simp (disch := first | omega | assumption) only [↓reduceIte, Nat.reduceEqDiff, Option.bind_some, ao_let, t_le, f_le, t_lt, f_lt, f_eq, u_eq, u_n1, u_n2, n_cl, n_lt, n_le, n_eq, n_ltl, n_llt, n_lel, n_lle, n_eql, n_leq, n_add, n_mul, n_sub, n_addl, n_ladd, n_mull, n_lmul, n_subl, Int32.reduceLT, Int32.reduceLE, Int32.reduceAdd, Int32.reduceSub, Int32.reduceMul, Int32.reduceToNatClampNeg, not_false_eq_true, not_true_eq_false, or_false, false_or, or_self, and_self, false_and, true_and, and_false, and_true, true_or, or_true, Nat.reduceAdd, Nat.reduceMul, Nat.reduceLT, Nat.reduceLeDiff, ne_eq, n_ell, hs, k7, d2]
          exact hv_some fin
        · try simp only [↓reduceIte, Nat.reduceEqDiff, Option.bind_some, ao_let, n_ell, hs, k7, d2]
          try simp (disch := first | omega | assumption) only [↓reduceIte, Nat.reduceEqDiff, Option.bind_some, ao_let, t_le, f_le, t_lt, f_lt, f_eq, u_eq, u_n1, u_n2, n_cl, n_lt, n_le, n_eq, n_ltl, n_llt, n_lel, n_lle, n_eql, n_leq, n_add, n_mul, n_sub, n_addl, n_ladd, n_mull, n_lmul, n_subl, Int32.reduceLT, Int32.reduceLE, Int32.reduceAdd, Int32.reduceSub, Int32.reduceMul, Int32.reduceToNatClampNeg, not_false_eq_true, not_true_eq_false, or_false, false_or, or_self, and_self, false_and, true_and, and_false, and_true, true_or, or_true, Nat.reduceAdd, Nat.reduceMul, Nat.reduceLT, Nat.reduceLeDiff, ne_eq, n_ell, hs, k7, d2]
          exact hv_some fin
  · refine bad _ 1 (Or.inl ⟨rfl, rfl⟩) ?_ ?_
    · rcases hx with hx | ⟨n, h1, h2, rfl⟩
      · unfold gX10_program
        refine hv_up (fun _ => fX10_program.eq_2 ..) ?_
        try simp only [↓reduceIte, Nat.reduceEqDiff, Option.bind_some, ao_let, n_ell, hc, hx]
        try simp (disch := first | omega | assumption) only [↓reduceIte, Nat.reduceEqDiff, Option.bind_some, ao_let, t_le, f_le, t_lt, f_lt, f_eq, u_eq, u_n1, u_n2, n_cl, n_lt, n_le, n_eq, n_ltl, n_llt, n_lel, n_lle, n_eql, n_leq, n_add, n_mul, n_sub, n_addl, n_ladd, n_mull, n_lmul, n_subl, Int32.reduceLT, Int32.reduceLE, Int32.reduceAdd, Int32.reduceSub, Int32.reduceMul, Int32.reduceToNatClampNeg, not_false_eq_true, not_true_eq_false, or_false, false_or, or_self, and_self, false_and, true_and, and_false, and_true, true_or, or_true, Nat.reduceAdd, Nat.reduceMul, Nat.reduceLT, Nat.reduceLeDiff, ne_eq, n_ell, hc, hx]
        refine hv_up (fun _ => fX10_program.eq_2 ..) ?_
        try simp only [↓reduceIte, Nat.reduceEqDiff, Option.bind_some, ao_let, n_ell]
        try simp (disch := first | omega | assumption) only [↓reduceIte, Nat.reduceEqDiff, Option.bind_some, ao_let, t_le, f_le, t_lt, f_lt, f_eq, u_eq, u_n1, u_n2, n_cl, n_lt, n_le, n_eq, n_ltl, n_llt, n_lel, n_lle, n_eql, n_leq, n_add, n_mul, n_sub, n_addl, n_ladd, n_mull, n_lmul, n_subl, Int32.reduceLT, Int32.reduceLE, Int32.reduceAdd, Int32.reduceSub, Int32.reduceMul, Int32.reduceToNatClampNeg, not_false_eq_true, not_true_eq_false, or_false, false_or, or_self, and_self, false_and, true_and, and_false, and_true, true_or, or_true, Nat.reduceAdd, Nat.reduceMul, Nat.reduceLT, Nat.reduceLeDiff, ne_eq, n_ell]
        exact hv_some rfl
      · unfold gX10_program
        refine hv_up (fun _ => fX10_program.eq_2 ..) ?_
        try simp only [↓reduceIte, Nat.reduceEqDiff, Option.bind_some, ao_let, n_ell, hc]
        try simp (disch := first | omega | assumption) only [↓reduceIte, Nat.reduceEqDiff, Option.bind_some, ao_let, t_le, f_le, t_lt, f_lt, f_eq, u_eq, u_n1, u_n2, n_cl, n_lt, n_le, n_eq, n_ltl, n_llt, n_lel, n_lle, n_eql, n_leq, n_add, n_mul, n_sub, n_addl, n_ladd, n_mull, n_lmul, n_subl, Int32.reduceLT, Int32.reduceLE, Int32.reduceAdd, Int32.reduceSub, Int32.reduceMul, Int32.reduceToNatClampNeg, not_false_eq_true, not_true_eq_false, or_false, false_or, or_self, and_self, false_and, true_and, and_false, and_true, true_or, or_true, Nat.reduceAdd, Nat.reduceMul, Nat.reduceLT, Nat.reduceLeDiff, ne_eq, n_ell, hc]
        refine hv_up (fun _ => fX10_program.eq_2 ..) ?_
        try simp only [↓reduceIte, Nat.reduceEqDiff, Option.bind_some, ao_let, n_ell]
        try simp (disch := first | omega | assumption) only [↓reduceIte, Nat.reduceEqDiff, Option.bind_some, ao_let, t_le, f_le, t_lt, f_lt, f_eq, u_eq, u_n1, u_n2, n_cl, n_lt, n_le, n_eq, n_ltl, n_llt, n_lel, n_lle, n_eql, n_leq, n_add, n_mul, n_sub, n_addl, n_ladd, n_mull, n_lmul, n_subl, Int32.reduceLT, Int32.reduceLE, Int32.reduceAdd, Int32.reduceSub, Int32.reduceMul, Int32.reduceToNatClampNeg, not_false_eq_true, not_true_eq_false, or_false, false_or, or_self, and_self, false_and, true_and, and_false, and_true, true_or, or_true, Nat.reduceAdd, Nat.reduceMul, Nat.reduceLT, Nat.reduceLeDiff, ne_eq, n_ell]
        exact hv_some rfl
    · refine hv_up (fun _ => fX12_program.eq_2 ..) ?_
      try simp only [↓reduceIte, Nat.reduceEqDiff, Option.bind_some, ao_let, n_ell, hs, ds7, isTh_no hx]
      try simp (disch := first | omega | assumption) only [↓reduceIte, Nat.reduceEqDiff, Option.bind_some, ao_let, t_le, f_le, t_lt, f_lt, f_eq, u_eq, u_n1, u_n2, n_cl, n_lt, n_le, n_eq, n_ltl, n_llt, n_lel, n_lle, n_eql, n_leq, n_add, n_mul, n_sub, n_addl, n_ladd, n_mull, n_lmul, n_subl, Int32.reduceLT, Int32.reduceLE, Int32.reduceAdd, Int32.reduceSub, Int32.reduceMul, Int32.reduceToNatClampNeg, not_false_eq_true, not_true_eq_false, or_false, false_or, or_self, and_self, false_and, true_and, and_false, and_true, true_or, or_true, Nat.reduceAdd, Nat.reduceMul, Nat.reduceLT, Nat.reduceLeDiff, ne_eq, n_ell, hs, ds7, isTh_no hx]
      exact d68 1 (by decide)
end Ccc
