set_option linter.unusedSimpArgs false
set_option linter.unusedVariables false
/-! ===== calls between calls: turn ===== -/
section Cc5
variable {m n br B1 B2 E1 E2 : Nat} {C D : ao_M} {ρ σ : ao_H}
theorem Iv_T (M : ao_M) (ρ : ao_H) : Iv (fun _ => True) M ρ M ρ := ⟨fun x h => absurd trivial h, fun _ _ _ _ _ => trivial, fun _ _ _ _ => trivial, fun z0 h => ⟨⟨z0, h, Nat.le_refl _⟩, fun _ _ => ⟨rfl, rfl⟩⟩⟩
theorem Iv_O {M M1 : ao_M} {ρ ρ1 : ao_H} {W : Nat → Prop} (h : Iv W M ρ M1 ρ1) (hz : ∃ z, ρ.2.2.2.1 = some z ∧ 599 ≤ z) (hO : ShO ρ) : ShO ρ1 := by
  obtain ⟨z, hz, h9⟩ := hz
  obtain ⟨-, -, -, h4⟩ := h
  obtain ⟨-, h5⟩ := h4 z hz
  exact ⟨(h5 598 (by omega)).1.trans hO.1, (h5 598 (by omega)).2.trans hO.2⟩
/-- within a call that takes turns -/
def PT (m n br B1 B2 E1 E2 : Nat) (C : ao_M) (ρ : ao_H) (D : ao_M) (σ : ao_H) : Prop := ∃ kp rc, (C 12 4 = nI n ∧ Full (tk C) ρ D σ kp rc (2 * n) (n + m) br) ∧ (Rv B1 B2 0 C ρ ∧ (∀ t, t < 6 → C (92 + 71 * t) 16 ≤ C 12 4) ∧ 0 ≤ C 12 6) ∧ Rx E1 E2 σ ∧ ShO ρ
theorem PR_PT (h : PR m B1 B2 E1 E2 C ρ D σ) : ∃ n, n ≤ 20000 ∧ C 12 4 = nI n ∧ D 537 65 = nI n ∧ PT m n (22000 * m) B1 B2 E1 E2 C ρ (ao_u D 537 0 0) σ := by
  obtain ⟨kp, rc, n, ⟨h1, h2⟩, h3, h4, h5, h6⟩ := h
  obtain ⟨-, -, -, e4, -, e6, -⟩ := h2.2.2.1.2.2
  rw [Nat.mul_div_cancel_left _ (by omega)] at e4 e6
  rw [u_ne (by omega)] at e6
  exact ⟨n, e4, h1, e6, kp, rc, ⟨h1, h2⟩, h3, h4, h5⟩
theorem PT_out {v : Int32} (h : PT m n br B1 B2 E1 E2 C ρ D σ) (hb : br ≤ 22000 * (m + 1)) (hm : m + 1 ≤ 512) : PR (m + 1) (B1 + 5) (B2 + 3100) E1 E2 (ao_u C 598 0 v) ρ D σ ∧ D 537 0 = 0 := by
  obtain ⟨kp, rc, ⟨h1, h2⟩, ⟨h3, h3'⟩, h4, h5⟩ := h
  obtain ⟨-, -, -, e4, -, -, -, e8⟩ := id h2.2.2.1.2.2
  rw [Nat.mul_div_cancel_left _ (by omega)] at e4
  have eC : ∀ x i, x ≠ 598 → (ao_u C 598 0 v) x i = C x i := fun x i q => u_ne (by omega)
  have F2 : Full (tk (ao_u C 598 0 v)) ρ D σ kp rc (2 * n) (n + m) br := Full_ext h2 (fun x i q => tk_e (fun j => eC _ _ (by omega)) (eC x i (by omega))) (fun _ _ _ _ => rfl) (Ext_fr h2.2.2.1.2.2 rfl (fun x i q => tk_e (fun j => eC _ _ (by omega)) (eC x i (by omega))) (fun _ _ _ => rfl)) (Nat.le_refl _)
  rw [← u_self e8] at F2
  refine ⟨⟨kp, rc, n, ⟨by rw [eC _ _ (by omega)]; exact h1, Full_br F2 (by omega) hb (by omega) (by omega)⟩, ⟨Rv_mono (Rv_u h3 (by omega) (by omega) (by omega) (by omega) (by omega)) (by omega) (by omega), fun t ht => ?_, ?_⟩, h4, h5, hm⟩, e8⟩
  · rw [eC _ _ (by omega), eC _ _ (by omega)]; exact h3'.1 t ht
  · rw [eC _ _ (by omega)]; exact h3'.2
set_option maxHeartbeats 8000000 in
theorem PT_turn {t : Nat} (h : PT m n br B1 B2 E1 E2 C ρ D σ) (hm : m ≤ 512) (hn : n < 20000) (hb : br + 11 ≤ 100000000) (ht : t < 6) : hv (fun k => gX2_takeTurn k 12 (92 + 71 * t) C ρ) (fun y => ShO y.2.2 ∧ hv (fun k => gX12_takeTurn k 537 (nI t) D σ) (fun w => y.1 = w.1 ∧ w.2.1 537 65 = nI n ∧ PT m (n + 1) (br + 11) B1 B2 E1 E2 y.2.1 y.2.2 (ao_u w.2.1 537 65 (nI (n + 1))) w.2.2)) := by
  obtain ⟨kp, rc, ⟨h1, h2⟩, ⟨h3, h3'⟩, h4, h5⟩ := h
  have hz := (Rpl_z h2.2.1).1
  have tp := take_P (C0 := C) (C := tk C) (n := n) rfl h2 ht (by omega) hb
  refine hv_mono (hv_and (R := fun y => Rv B1 B2 0 y.2.1 y.2.2 ∧ ShO y.2.2) tp (fun k z hzz => ⟨rv_gX2_takeTurn (C := C) (Rv_tk h3 h3'.1) ⟨by omega, by omega⟩ z hzz, Iv_O (hc_gX2_takeTurn (W := fun _ => True) trivial (Iv_T C ρ) trivial trivial z hzz) hz h5⟩)) ?_
  rintro ⟨y1, C1, ρ1⟩ ⟨q1, hRv, hO1⟩
  dsimp only at q1 hRv hO1 ⊢
  refine ⟨hO1, hv_mono (hv_and (R := fun w => Rx E1 E2 w.2.2) q1 (fun k z hzz => rw_gX12_takeTurn h4 z hzz)) ?_⟩
  rintro ⟨w1, D1, σ1⟩ ⟨⟨nw, hnw, kp', rc', e1, e2, F⟩, hRx⟩
  dsimp only at e1 e2 F hRx ⊢
  obtain ⟨x1, x2, x3, x4, x5, x6, x7, x8⟩ := id F.2.2.1.2.2
  rw [hnw] at x4 x5 x6 x7
  refine ⟨e1, x6, kp', rc', ⟨x7, ?_⟩, ⟨hRv, fun u hu => ?_, ?_⟩, hRx, hO1⟩
  · have F' : Full (tk C1) ρ1 (ao_u D1 537 65 (nI (n + 1))) σ1 kp' rc' (2 * (n + 1)) (n + m + 1) (br + 11) := by
      refine Full_ext F (fun x i hx => tk_n (by omega)) (fun x i q1 q2 => u_ne (by omega)) ?_ (by omega)
      obtain ⟨k, k1, k2, k3, k4⟩ := x1
      obtain ⟨l, l1, l2, l3, l4⟩ := x2
      refine ⟨⟨k, k1, by rw [tk_n (by omega)]; exact k2, by rw [u_ne (by omega)]; exact k3, fun i hi => by rw [tk_n (by omega), u_ne (by omega)]; exact k4 i hi⟩, ⟨l, l1, by rw [tk_n (by omega)]; exact l2, by rw [u_ne (by omega)]; exact l3, fun i hi => by rw [tk_n (by omega), u_ne (by omega)]; exact l4 i hi⟩, by rw [tk_n (by omega), u_ne (by omega)]; exact x3, by omega, ?_, ?_, ?_, by rw [u_ne (by omega)]; exact x8⟩
      · rw [tk_6, x7, Nat.mul_div_cancel_left _ (by omega)]
      · rw [u_eq, Nat.mul_div_cancel_left _ (by omega)]
      · rw [tk_4, x7, Nat.mul_div_cancel_left _ (by omega), n_addl]
    exact Full_br F' (by omega) (Nat.le_refl _) (by omega) hb
  · obtain ⟨-, rm, ⟨-, -, -, -, a5, -⟩, -⟩ := hRv
    refine Int32.le_trans (a5 u hu) ?_
    rw [x5, x7, n_le (by omega) (by omega)]
    omega
  · rw [x5, show (0 : Int32) = nI 0 from rfl, n_le (by omega) (by omega)]
    omega
set_option maxHeartbeats 8000000 in
theorem PR_turn (h : PR m B1 B2 E1 E2 C ρ D σ) (hm : m + 1 ≤ 512) (x : Int32) : hv (fun n => gL_turn n 0 x 598 C ρ) (fun y => hv (fun n => gX12_turn n 537 x D σ) (fun w => CR m B1 B2 E1 E2 y w.1 w.2.1 w.2.2)) := by
  obtain ⟨⟨hc, hb, hg, hs, hO⟩, -⟩ := PR_C h
  obtain ⟨n, hn, n1, n2, hPT⟩ := PR_PT h
  have bad : ∀ (ex : String) (r : Int32), (ex = "java/lang/IllegalArgumentException" ∧ r = 1 ∨ ex = "java/lang/IllegalStateException" ∧ r = 2) → hv (fun n => gX10_turn n 0 x C ρ) (fun u => u = (.inr ex, C, ao_th ρ)) → hv (fun n => gX12_turn n 537 x D σ) (fun w => w.2 = (ao_u D 537 0 r, σ)) → hv (fun n => gL_turn n 0 x 598 C ρ) (fun y => hv (fun n => gX12_turn n 537 x D σ) (fun w => CR m B1 B2 E1 E2 y w.1 w.2.1 w.2.2)) := by
    intro ex r her h1 h2
    have fin : ∀ r : Int32, r ≠ 0 → ∀ w : Int32 × ao_S, w.2 = (ao_u D 537 0 r, σ) → CR m B1 B2 E1 E2 (r, C, ao_th ρ) w.1 w.2.1 w.2.2 := by
      rintro r hr ⟨w1, D', σ'⟩ hw
      dsimp only at hw
      cases hw
      exact PR_tell (w := (w1, ao_u D 537 0 r)) h hm ⟨rfl, Or.inr ⟨hr, rfl, rfl⟩⟩
    unfold gL_turn
    refine hv_up (fun _ => fL_turn.eq_2 ..) ?_
    try simp only [↓reduceIte, Nat.reduceEqDiff, Option.bind_some, ao_let, n_ell, hc]
    try simp (disch := first | omega | assumption) only [↓reduceIte, Nat.reduceEqDiff, Option.bind_some, ao_let, t_le, f_le, t_lt, f_lt, f_eq, u_eq, u_n1, u_n2, n_cl, n_lt, n_le, n_eq, n_ltl, n_llt, n_lel, n_lle, n_eql, n_leq, n_add, n_mul, n_sub, n_addl, n_ladd, n_mull, n_lmul, n_subl, Int32.reduceLT, Int32.reduceLE, Int32.reduceAdd, Int32.reduceSub, Int32.reduceMul, Int32.reduceToNatClampNeg, not_false_eq_true, not_true_eq_false, or_false, false_or, or_self, and_self, false_and, true_and, and_false, and_true, true_or, or_true, Nat.reduceAdd, Nat.reduceMul, Nat.reduceLT, Nat.reduceLeDiff, ne_eq, n_ell, hc]
    refine hv_bind h1 ?_
    rintro _ rfl
    rcases her with ⟨rfl, rfl⟩ | ⟨rfl, rfl⟩
    · simp only [ao_cs, ↓reduceIte]
      exact hv_some (hv_mono h2 (fun w hw => fin 1 (by decide) w hw))
    · simp only [ao_cs, ex_ne2, ↓reduceIte]
      exact hv_some (hv_mono h2 (fun w hw => fin 2 (by decide) w hw))
  have d27 : ∀ r : Int32, r ≠ 0 → hv (fun n => fX12_turn n 27 537 x r 537 D σ) (fun w => w.2 = (ao_u D 537 0 r, σ)) := by
    intro r hr
    refine hv_up (fun _ => fX12_turn.eq_2 ..) ?_
    try simp only [↓reduceIte, Nat.reduceEqDiff, Option.bind_some, ao_let, n_ell, hs, gX12_fails, hr]
    try simp (disch := first | omega | assumption) only [↓reduceIte, Nat.reduceEqDiff, Option.bind_some, ao_let, t_le, f_le, t_lt, f_lt, f_eq, u_eq, u_n1, u_n2, n_cl, n_lt, n_le, n_eq, n_ltl, n_llt, n_lel, n_lle, n_eql, n_leq, n_add, n_mul, n_sub, n_addl, n_ladd, n_mull, n_lmul, n_subl, Int32.reduceLT, Int32.reduceLE, Int32.reduceAdd, Int32.reduceSub, Int32.reduceMul, Int32.reduceToNatClampNeg, not_false_eq_true, not_true_eq_false, or_false, false_or, or_self, and_self, false_and, true_and, and_false, and_true, true_or, or_true, Nat.reduceAdd, Nat.reduceMul, Nat.reduceLT, Nat.reduceLeDiff, ne_eq, n_ell, hs, gX12_fails, hr]
    exact hv_some rfl
  rcases pl_of x 6 (by omega) with ⟨t, ht, rfl⟩ | hx
  · have hR := RnS_of hb ht
    have h91 : ρ.1 91 t = some (92 + 71 * t) := by obtain ⟨a0, _⟩ := hb; exact a0 t ht
    by_cases hn' : n < 20000
    · unfold gL_turn
      refine hv_up (fun _ => fL_turn.eq_2 ..) ?_
      try simp only [↓reduceIte, Nat.reduceEqDiff, Option.bind_some, ao_let, n_ell, hc]
      try simp (disch := first | omega | assumption) only [↓reduceIte, Nat.reduceEqDiff, Option.bind_some, ao_let, t_le, f_le, t_lt, f_lt, f_eq, u_eq, u_n1, u_n2, n_cl, n_lt, n_le, n_eq, n_ltl, n_llt, n_lel, n_lle, n_eql, n_leq, n_add, n_mul, n_sub, n_addl, n_ladd, n_mull, n_lmul, n_subl, Int32.reduceLT, Int32.reduceLE, Int32.reduceAdd, Int32.reduceSub, Int32.reduceMul, Int32.reduceToNatClampNeg, not_false_eq_true, not_true_eq_false, or_false, false_or, or_self, and_self, false_and, true_and, and_false, and_true, true_or, or_true, Nat.reduceAdd, Nat.reduceMul, Nat.reduceLT, Nat.reduceLeDiff, ne_eq, n_ell, hc]
      refine hv_bind (P := fun u => ∃ y C1 ρ1, u = (.inl y, C1, ρ1) ∧ ShO ρ1 ∧ hv (fun k => gX12_takeTurn k 537 (nI t) (ao_u D 537 0 0) σ) (fun w => y = w.1 ∧ w.2.1 537 65 = nI n ∧ PT m (n + 1) (22000 * m + 11) B1 B2 E1 E2 C1 ρ1 (ao_u w.2.1 537 65 (nI (n + 1))) w.2.2)) ?_ ?_
      · unfold gX10_turn
        refine hv_up (fun _ => fX10_turn.eq_2 ..) ?_
        try simp only [↓reduceIte, Nat.reduceEqDiff, Option.bind_some, ao_let, n_ell, hc, h91, n1]
        try simp (disch := first | omega | assumption) only [↓reduceIte, Nat.reduceEqDiff, Option.bind_some, ao_let, t_le, f_le, t_lt, f_lt, f_eq, u_eq, u_n1, u_n2, n_cl, n_lt, n_le, n_eq, n_ltl, n_llt, n_lel, n_lle, n_eql, n_leq, n_add, n_mul, n_sub, n_addl, n_ladd, n_mull, n_lmul, n_subl, Int32.reduceLT, Int32.reduceLE, Int32.reduceAdd, Int32.reduceSub, Int32.reduceMul, Int32.reduceToNatClampNeg, not_false_eq_true, not_true_eq_false, or_false, false_or, or_self, and_self, false_and, true_and, and_false, and_true, true_or, or_true, Nat.reduceAdd, Nat.reduceMul, Nat.reduceLT, Nat.reduceLeDiff, ne_eq, n_ell, hc, h91, n1]
        refine hv_bind (PT_turn hPT (by omega) hn' (by omega) ht) ?_
        rintro ⟨y, C1, ρ1⟩ ⟨q1, q2⟩
        refine hv_up (fun _ => fX10_turn.eq_2 ..) ?_
        try simp only [↓reduceIte, Nat.reduceEqDiff, Option.bind_some, ao_let, n_ell]
        try simp (disch := first | omega | assumption) only [↓reduceIte, Nat.reduceEqDiff, Option.bind_some, ao_let, t_le, f_le, t_lt, f_lt, f_eq, u_eq, u_n1, u_n2, n_cl, n_lt, n_le, n_eq, n_ltl, n_llt, n_lel, n_lle, n_eql, n_leq, n_add, n_mul, n_sub, n_addl, n_ladd, n_mull, n_lmul, n_subl, Int32.reduceLT, Int32.reduceLE, Int32.reduceAdd, Int32.reduceSub, Int32.reduceMul, Int32.reduceToNatClampNeg, not_false_eq_true, not_true_eq_false, or_false, false_or, or_self, and_self, false_and, true_and, and_false, and_true, true_or, or_true, Nat.reduceAdd, Nat.reduceMul, Nat.reduceLT, Nat.reduceLeDiff, ne_eq, n_ell]
        exact hv_some ⟨y, C1, ρ1, rfl, q1, q2⟩
      rintro _ ⟨y, C1, ρ1, rfl, hO1, hw⟩
      simp only [ao_cs]
      refine hv_up (fun _ => fL_turn.eq_2 ..) ?_
      try simp only [↓reduceIte, Nat.reduceEqDiff, Option.bind_some, ao_let, n_ell, hO1]
      try simp (disch := first | omega | assumption) only [↓reduceIte, Nat.reduceEqDiff, Option.bind_some, ao_let, t_le, f_le, t_lt, f_lt, f_eq, u_eq, u_n1, u_n2, n_cl, n_lt, n_le, n_eq, n_ltl, n_llt, n_lel, n_lle, n_eql, n_leq, n_add, n_mul, n_sub, n_addl, n_ladd, n_mull, n_lmul, n_subl, Int32.reduceLT, Int32.reduceLE, Int32.reduceAdd, Int32.reduceSub, Int32.reduceMul, Int32.reduceToNatClampNeg, not_false_eq_true, not_true_eq_false, or_false, false_or, or_self, and_self, false_and, true_and, and_false, and_true, true_or, or_true, Nat.reduceAdd, Nat.reduceMul, Nat.reduceLT, Nat.reduceLeDiff, ne_eq, n_ell, hO1]
      refine hv_some ?_
      unfold gX12_turn
      refine hv_up (fun _ => fX12_turn.eq_2 ..) ?_
      try simp only [↓reduceIte, Nat.reduceEqDiff, Option.bind_some, ao_let, n_ell, hs, isTh_yes ht, n2]
      try simp (disch := first | omega | assumption) only [↓reduceIte, Nat.reduceEqDiff, Option.bind_some, ao_let, t_le, f_le, t_lt, f_lt, f_eq, u_eq, u_n1, u_n2, n_cl, n_lt, n_le, n_eq, n_ltl, n_llt, n_lel, n_lle, n_eql, n_leq, n_add, n_mul, n_sub, n_addl, n_ladd, n_mull, n_lmul, n_subl, Int32.reduceLT, Int32.reduceLE, Int32.reduceAdd, Int32.reduceSub, Int32.reduceMul, Int32.reduceToNatClampNeg, not_false_eq_true, not_true_eq_false, or_false, false_or, or_self, and_self, false_and, true_and, and_false, and_true, true_or, or_true, Nat.reduceAdd, Nat.reduceMul, Nat.reduceLT, Nat.reduceLeDiff, ne_eq, n_ell, hs, isTh_yes ht, n2]
      refine hv_up (fun _ => fX12_turn.eq_2 ..) ?_
      try simp only [↓reduceIte, Nat.reduceEqDiff, Option.bind_some, ao_let, n_ell, hs, gX12_fails]
      try simp (disch := first | omega | assumption) only [↓reduceIte, Nat.reduceEqDiff, Option.bind_some, ao_let, t_le, f_le, t_lt, f_lt, f_eq, u_eq, u_n1, u_n2, n_cl, n_lt, n_le, n_eq, n_ltl, n_llt, n_lel, n_lle, n_eql, n_leq, n_add, n_mul, n_sub, n_addl, n_ladd, n_mull, n_lmul, n_subl, Int32.reduceLT, Int32.reduceLE, Int32.reduceAdd, Int32.reduceSub, Int32.reduceMul, Int32.reduceToNatClampNeg, not_false_eq_true, not_true_eq_false, or_false, false_or, or_self, and_self, false_and, true_and, and_false, and_true, true_or, or_true, Nat.reduceAdd, Nat.reduceMul, Nat.reduceLT, Nat.reduceLeDiff, ne_eq, n_ell, hs, gX12_fails]
      refine hv_bind hw ?_
      rintro ⟨w1, D1, σ1⟩ ⟨e, e65, hP⟩
      dsimp only at e e65 hP
      subst e
      have f14 : ShD σ1 := by
        obtain ⟨kp, rc, ⟨-, F⟩, -⟩ := hP
        exact F.1.2.2.2
      refine hv_up (fun _ => fX12_turn.eq_2 ..) ?_
      try simp only [↓reduceIte, Nat.reduceEqDiff, Option.bind_some, ao_let, n_ell, f14, e65]
      try simp (disch := first | omega | assumption) only [↓reduceIte, Nat.reduceEqDiff, Option.bind_some, ao_let, t_le, f_le, t_lt, f_lt, f_eq, u_eq, u_n1, u_n2, n_cl, n_lt, n_le, n_eq, n_ltl, n_llt, n_lel, n_lle, n_eql, n_leq, n_add, n_mul, n_sub, n_addl, n_ladd, n_mull, n_lmul, n_subl, Int32.reduceLT, Int32.reduceLE, Int32.reduceAdd, Int32.reduceSub, Int32.reduceMul, Int32.reduceToNatClampNeg, not_false_eq_true, not_true_eq_false, or_false, false_or, or_self, and_self, false_and, true_and, and_false, and_true, true_or, or_true, Nat.reduceAdd, Nat.reduceMul, Nat.reduceLT, Nat.reduceLeDiff, ne_eq, n_ell, f14, e65]
      obtain ⟨o1, o2⟩ := PT_out (v := y) hP (by omega) hm
      exact hv_some ⟨o1, o2, fun _ => by dsimp only; exact u_eq⟩
    · obtain rfl : n = 20000 := by omega
      refine bad _ 2 (Or.inr ⟨rfl, rfl⟩) ?_ ?_
      · unfold gX10_turn
        refine hv_up (fun _ => fX10_turn.eq_2 ..) ?_
        try simp only [↓reduceIte, Nat.reduceEqDiff, Option.bind_some, ao_let, n_ell, hc, n1]
        try simp (disch := first | omega | assumption) only [↓reduceIte, Nat.reduceEqDiff, Option.bind_some, ao_let, t_le, f_le, t_lt, f_lt, f_eq, u_eq, u_n1, u_n2, n_cl, n_lt, n_le, n_eq, n_ltl, n_llt, n_lel, n_lle, n_eql, n_leq, n_add, n_mul, n_sub, n_addl, n_ladd, n_mull, n_lmul, n_subl, Int32.reduceLT, Int32.reduceLE, Int32.reduceAdd, Int32.reduceSub, Int32.reduceMul, Int32.reduceToNatClampNeg, not_false_eq_true, not_true_eq_false, or_false, false_or, or_self, and_self, false_and, true_and, and_false, and_true, true_or, or_true, Nat.reduceAdd, Nat.reduceMul, Nat.reduceLT, Nat.reduceLeDiff, ne_eq, n_ell, hc, n1]
        exact hv_some rfl
      · unfold gX12_turn
        refine hv_up (fun _ => fX12_turn.eq_2 ..) ?_
        try simp only [↓reduceIte, Nat.reduceEqDiff, Option.bind_some, ao_let, n_ell, hs, isTh_yes ht, n2]
        try simp (disch := first | omega | assumption) only [↓reduceIte, Nat.reduceEqDiff, Option.bind_some, ao_let, t_le, f_le, t_lt, f_lt, f_eq, u_eq, u_n1, u_n2, n_cl, n_lt, n_le, n_eq, n_ltl, n_llt, n_lel, n_lle, n_eql, n_leq, n_add, n_mul, n_sub, n_addl, n_ladd, n_mull, n_lmul, n_subl, Int32.reduceLT, Int32.reduceLE, Int32.reduceAdd, Int32.reduceSub, Int32.reduceMul, Int32.reduceToNatClampNeg, not_false_eq_true, not_true_eq_false, or_false, false_or, or_self, and_self, false_and, true_and, and_false, and_true, true_or, or_true, Nat.reduceAdd, Nat.reduceMul, Nat.reduceLT, Nat.reduceLeDiff, ne_eq, n_ell, hs, isTh_yes ht, n2]
        exact d27 2 (by decide)
  · refine bad _ 1 (Or.inl ⟨rfl, rfl⟩) ?_ ?_
    · rcases hx with hx | ⟨n, h1, h2, rfl⟩
      · unfold gX10_turn
        refine hv_up (fun _ => fX10_turn.eq_2 ..) ?_
        try simp only [↓reduceIte, Nat.reduceEqDiff, Option.bind_some, ao_let, n_ell, hc, hx]
        try simp (disch := first | omega | assumption) only [↓reduceIte, Nat.reduceEqDiff, Option.bind_some, ao_let, t_le, f_le, t_lt, f_lt, f_eq, u_eq, u_n1, u_n2, n_cl, n_lt, n_le, n_eq, n_ltl, n_llt, n_lel, n_lle, n_eql, n_leq, n_add, n_mul, n_sub, n_addl, n_ladd, n_mull, n_lmul, n_subl, Int32.reduceLT, Int32.reduceLE, Int32.reduceAdd, Int32.reduceSub, Int32.reduceMul, Int32.reduceToNatClampNeg, not_false_eq_true, not_true_eq_false, or_false, false_or, or_self, and_self, false_and, true_and, and_false, and_true, true_or, or_true, Nat.reduceAdd, Nat.reduceMul, Nat.reduceLT, Nat.reduceLeDiff, ne_eq, n_ell, hc, hx]
        refine hv_up (fun _ => fX10_turn.eq_2 ..) ?_
        try simp only [↓reduceIte, Nat.reduceEqDiff, Option.bind_some, ao_let, n_ell]
        try simp (disch := first | omega | assumption) only [↓reduceIte, Nat.reduceEqDiff, Option.bind_some, ao_let, t_le, f_le, t_lt, f_lt, f_eq, u_eq, u_n1, u_n2, n_cl, n_lt, n_le, n_eq, n_ltl, n_llt, n_lel, n_lle, n_eql, n_leq, n_add, n_mul, n_sub, n_addl, n_ladd, n_mull, n_lmul, n_subl, Int32.reduceLT, Int32.reduceLE, Int32.reduceAdd, Int32.reduceSub, Int32.reduceMul, Int32.reduceToNatClampNeg, not_false_eq_true, not_true_eq_false, or_false, false_or, or_self, and_self, false_and, true_and, and_false, and_true, true_or, or_true, Nat.reduceAdd, Nat.reduceMul, Nat.reduceLT, Nat.reduceLeDiff, ne_eq, n_ell]
        exact hv_some rfl
      · unfold gX10_turn
        refine hv_up (fun _ => fX10_turn.eq_2 ..) ?_
        try simp only [↓reduceIte, Nat.reduceEqDiff, Option.bind_some, ao_let, n_ell, hc]
        try simp (disch := first | omega | assumption) only [↓reduceIte, Nat.reduceEqDiff, Option.bind_some, ao_let, t_le, f_le, t_lt, f_lt, f_eq, u_eq, u_n1, u_n2, n_cl, n_lt, n_le, n_eq, n_ltl, n_llt, n_lel, n_lle, n_eql, n_leq, n_add, n_mul, n_sub, n_addl, n_ladd, n_mull, n_lmul, n_subl, Int32.reduceLT, Int32.reduceLE, Int32.reduceAdd, Int32.reduceSub, Int32.reduceMul, Int32.reduceToNatClampNeg, not_false_eq_true, not_true_eq_false, or_false, false_or, or_self, and_self, false_and, true_and, and_false, and_true, true_or, or_true, Nat.reduceAdd, Nat.reduceMul, Nat.reduceLT, Nat.reduceLeDiff, ne_eq, n_ell, hc]
        refine hv_up (fun _ => fX10_turn.eq_2 ..) ?_
        try simp only [↓reduceIte, Nat.reduceEqDiff, Option.bind_some, ao_let, n_ell]
        try simp (disch := first | omega | assumption) only [↓reduceIte, Nat.reduceEqDiff, Option.bind_some, ao_let, t_le, f_le, t_lt, f_lt, f_eq, u_eq, u_n1, u_n2, n_cl, n_lt, n_le, n_eq, n_ltl, n_llt, n_lel, n_lle, n_eql, n_leq, n_add, n_mul, n_sub, n_addl, n_ladd, n_mull, n_lmul, n_subl, Int32.reduceLT, Int32.reduceLE, Int32.reduceAdd, Int32.reduceSub, Int32.reduceMul, Int32.reduceToNatClampNeg, not_false_eq_true, not_true_eq_false, or_false, false_or, or_self, and_self, false_and, true_and, and_false, and_true, true_or, or_true, Nat.reduceAdd, Nat.reduceMul, Nat.reduceLT, Nat.reduceLeDiff, ne_eq, n_ell]
        exact hv_some rfl
    · unfold gX12_turn
      refine hv_up (fun _ => fX12_turn.eq_2 ..) ?_
      try simp only [↓reduceIte, Nat.reduceEqDiff, Option.bind_some, ao_let, n_ell, hs, isTh_no hx]
      try simp (disch := first | omega | assumption) only [↓reduceIte, Nat.reduceEqDiff, Option.bind_some, ao_let, t_le, f_le, t_lt, f_lt, f_eq, u_eq, u_n1, u_n2, n_cl, n_lt, n_le, n_eq, n_ltl, n_llt, n_lel, n_lle, n_eql, n_leq, n_add, n_mul, n_sub, n_addl, n_ladd, n_mull, n_lmul, n_subl, Int32.reduceLT, Int32.reduceLE, Int32.reduceAdd, Int32.reduceSub, Int32.reduceMul, Int32.reduceToNatClampNeg, not_false_eq_true, not_true_eq_false, or_false, false_or, or_self, and_self, false_and, true_and, and_false, and_true, true_or, or_true, Nat.reduceAdd, Nat.reduceMul, Nat.reduceLT, Nat.reduceLeDiff, ne_eq, n_ell, hs, isTh_no hx]
      exact d27 1 (by decide)
end Cc5
