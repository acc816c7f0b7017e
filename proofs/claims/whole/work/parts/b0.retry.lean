set_option linter.unusedSimpArgs false
set_option linter.unusedVariables false
section Stb0
variable {C D : ao_M} {ρ σ : ao_H} {kp rc nw bw br t s len kd a1 a2 a3 a : Nat} {φ : Nat → Nat} {N : Ns} {H K : Nat → Nat}
/-- frames of a thread's cells -/
theorem wd_of {t x i : Nat} (h : ¬ (551 ≤ x ∧ x ≤ 584 ∧ t * wd x ≤ i ∧ i < (t + 1) * wd x)) : (x = 551 ∨ x = 552 ∨ 555 ≤ x ∧ x ≤ 564 → i ≠ t) ∧ (565 ≤ x ∧ x ≤ 574 ∨ x = 576 ∨ x = 584 → ¬ (t * 12 ≤ i ∧ i < (t + 1) * 12)) ∧ (x = 553 → ¬ (t * 26 ≤ i ∧ i < (t + 1) * 26)) ∧ (x = 575 ∨ 577 ≤ x ∧ x ≤ 582 → ¬ (t * 312 ≤ i ∧ i < (t + 1) * 312)) ∧ (x = 554 → ¬ (t * 64 ≤ i ∧ i < (t + 1) * 64)) := by
  refine ⟨fun q e => h ?_, fun q e => h ?_, fun q e => h ?_, fun q e => h ?_, fun q e => h ?_⟩
  · have : wd x = 1 := by
      unfold wd
      rw [if_neg (by omega), if_neg (by omega), if_neg (by omega), if_neg (by omega), if_neg (by omega), if_neg (by omega)]
    rw [this]; omega
  · have : wd x = 12 := by
      unfold wd
      rw [if_neg (by omega), if_neg (by omega), if_neg (by omega), if_neg (by omega), if_neg (by omega), if_pos (by omega)]
    rw [this]; omega
  · subst q; exact ⟨by omega, by omega, e.1, e.2⟩
  · have : wd x = 312 := by
      unfold wd
      rw [if_neg (by omega), if_neg (by omega), if_neg (by omega), if_pos (by omega)]
    rw [this]; omega
  · subst q; exact ⟨by omega, by omega, e.1, e.2⟩
/-- what the fold left alone, outside of thread t -/
theorem fold_fr {C1 D1 : ao_M} {e : Bool} {k m : Nat} (hk : k + m ≤ 10) (hf : foldP C D e rc t k m C1 D1) : (∀ x i, x ≠ 14 → ¬ (92 + 71 * t ≤ x ∧ x < 92 + 71 * t + 71) → cTB e t k m C1 x i = C x i) ∧ (∀ x i, x ≠ 542 → ¬ (x = 537 ∧ i = 64) → ¬ (551 ≤ x ∧ x ≤ 584 ∧ t * wd x ≤ i ∧ i < (t + 1) * wd x) → D1 x i = D x i) := by
  obtain ⟨rc1, a1', a2', a3', a4', a5', a6', a7', a8'⟩ := hf
  refine ⟨fun x i q1 q2 => ?_, fun x i q1 q2 q3 => ?_⟩
  · rw [cTB_n q1 (by omega) (by omega) (by omega)]
    exact a5' x i (by
      rintro ⟨j, h1, h2⟩
      omega)
  · obtain ⟨w1, w12, w26, w312, w64⟩ := wd_of q3
    by_cases v : x = 577 ∨ x = 579 ∨ x = 580 ∨ x = 581
    · have := w312 (by omega)
      exact a7' x i v (by omega)
    · rw [a6' x i (by omega) (by omega) (by omega) (by omega) q2]
      by_cases v1 : x = 555
      · exact dTB_v (Or.inr (Or.inl ⟨v1, w1 (by omega)⟩))
      · by_cases v2 : x = 553
        · have := w26 v2
          exact dTB_v (Or.inr (Or.inr ⟨v2, by omega⟩))
        · refine dTB_n (by omega) ?_ ?_
          · by_cases v3 : x = 578
            · have := w312 (by omega); omega
            · exact Or.inl v3
          · by_cases v3 : x = 584
            · have := w12 (by omega); omega
            · exact Or.inl v3
set_option maxHeartbeats 4000000 in
theorem st_retry (hF : Full C ρ D σ kp rc nw bw br) (ht : t < 6) (ho : Opn C ρ D rc t s len kd a1 a2 a3 φ N H K a) (ha : a < len) (h : C a1 a = 18 ∧ dcd D t (3 * φ a) = 17 ∧ H a = 0 ∧ 1 ≤ nl (N a)) :
    hv (fun n => gX2_step n 12 (92 + 71 * t) C ρ) (fun y => hv (fun n => gX12_step n 537 (nI t) D σ) (fun w => EndE nw bw br y w)) := by
  obtain ⟨i1, i2, i3, h1⟩ := h
  have es : s = 2 := by
    obtain ⟨-, -, t1, -, -, -, -, -, -, -, -, -, -, -, -, t14, -⟩ := ho
    rcases t1 with es | es
    · have := (t14 es).1; omega
    · exact es
  obtain ⟨hF1, hM1⟩ := mid_of (C1 := ao_u C (92 + 71 * t) 3 (nI (a + 1))) (D1 := D) hF ht ho es (fun x i q1 q2 => u_ne (by omega)) (fun _ _ _ _ => rfl)
  obtain ⟨hcat, cok, tc⟩ := ho
  obtain ⟨⟨f1, f2, f3, f4⟩, -, -, -, -, -, -, -, -, ⟨-, -, fer⟩, fbw, fbr⟩ := hF
  obtain ⟨t1, t2, t3, t4, t5, t6, t7, t8, t9, t10, t11, t12, t13, t14, t15⟩ := tc
  have hR := RnS_of f2 ht
  obtain ⟨g0, g1, g2, g3⟩ := d_ins (C := C) (rc := rc) (s := s) cok t9
  rw [i2] at g1
  obtain ⟨w1, wI, w3, w14, w55⟩ := t15 es
  have hrc9 : rc + 260 < 2147483648 := by omega
  have hlen := cok.1
  obtain ⟨b1, b2, b3, b4, b5, b6, b7, b8, b9, b10, b11, b12, b13, b14, b15, b16, b17, b18⟩ := hcat
  clear t1 t12 t13 t14 t15 wI cok fer
  have cu : ∀ x i, ¬ (x = 92 + 71 * t ∧ i = 3) → ao_u C (92 + 71 * t) 3 (nI (a + 1)) x i = C x i := fun x i q => u_ne (by omega)
  unfold gX2_step
  refine hv_up (fun _ => fX2_step.eq_2 ..) ?_
  try simp only [↓reduceIte, Nat.reduceEqDiff, Option.bind_some, ao_let, n_ell, f1, hR, b1, b2, b3, b4, b5, b6, b7, b8, b9, b10, b11, b12, b13, t10, i1]
  try simp (disch := first | omega | assumption) only [↓reduceIte, Nat.reduceEqDiff, Option.bind_some, ao_let, t_le, f_le, t_lt, f_lt, f_eq, u_eq, u_n1, u_n2, n_cl, n_lt, n_le, n_eq, n_ltl, n_llt, n_lel, n_lle, n_eql, n_leq, n_add, n_mul, n_sub, n_addl, n_ladd, n_mull, n_lmul, n_subl, Int32.reduceLT, Int32.reduceLE, Int32.reduceAdd, Int32.reduceSub, Int32.reduceMul, Int32.reduceToNatClampNeg, not_false_eq_true, not_true_eq_false, or_false, false_or, or_self, and_self, false_and, true_and, and_false, and_true, true_or, or_true, Nat.reduceAdd, Nat.reduceMul, Nat.reduceLT, Nat.reduceLeDiff, ne_eq, n_ell, f1, hR, b1, b2, b3, b4, b5, b6, b7, b8, b9, b10, b11, b12, b13, t10, i1]
  generalize hC1 : ao_u C (92 + 71 * t) 3 (nI (a + 1)) = C1 at hF1 hM1 cu ⊢
  have ca3 : C1 a3 = C a3 := funext fun i => cu _ _ (by omega)
  have ca2 : C1 a2 = C a2 := funext fun i => cu _ _ (by omega)
  refine hv_bind (P := fun y => hv (fun n => gX12_step n 537 (nI t) D σ) (fun w => EndE nw bw br y w)) ?_ ?_
  rotate_left 1
  · intro y hy
    refine hv_up (fun _ => fX2_step.eq_2 ..) ?_
    try simp only [↓reduceIte, Nat.reduceEqDiff, Option.bind_some, ao_let, n_ell]
    try simp (disch := first | omega | assumption) only [↓reduceIte, Nat.reduceEqDiff, Option.bind_some, ao_let, t_le, f_le, t_lt, f_lt, f_eq, u_eq, u_n1, u_n2, n_cl, n_lt, n_le, n_eq, n_ltl, n_llt, n_lel, n_lle, n_eql, n_leq, n_add, n_mul, n_sub, n_addl, n_ladd, n_mull, n_lmul, n_subl, Int32.reduceLT, Int32.reduceLE, Int32.reduceAdd, Int32.reduceSub, Int32.reduceMul, Int32.reduceToNatClampNeg, not_false_eq_true, not_true_eq_false, or_false, false_or, or_self, and_self, false_and, true_and, and_false, and_true, true_or, or_true, Nat.reduceAdd, Nat.reduceMul, Nat.reduceLT, Nat.reduceLeDiff, ne_eq, n_ell]
    exact hv_some hy
  have c81 : C1 (92 + 71 * t) 8 = nI (nl (N a)) := hM1.2.2.2.2.2.2.1
  have ckd : C1 kd 0 = nI len := by rw [cu _ _ (by omega)]; exact b12
  have hl10 : nl (N a) ≤ 10 := by
    have := @nl_le (N a)
    have := hM1.2.2.2.2.2.1.2.1
    omega
  -- the reference, down to 9
  have dst : ∀ {P : Int32 × ao_S → Prop}, hv (fun n => fX12_retry n 9 537 (nI t) (nI (nl (N a)) - 1) 0 0 0 0 D σ) P → hv (fun n => gX12_step n 537 (nI t) D σ) P := by
    intro P hP
    unfold gX12_step
    refine hv_up (fun _ => fX12_step.eq_2 ..) ?_
    try simp only [↓reduceIte, Nat.reduceEqDiff, Option.bind_some, ao_let, n_ell, f4, t11, g1]
    try simp (disch := first | omega | assumption) only [↓reduceIte, Nat.reduceEqDiff, Option.bind_some, ao_let, t_le, f_le, t_lt, f_lt, f_eq, u_eq, u_n1, u_n2, n_cl, n_lt, n_le, n_eq, n_ltl, n_llt, n_lel, n_lle, n_eql, n_leq, n_add, n_mul, n_sub, n_addl, n_ladd, n_mull, n_lmul, n_subl, Int32.reduceLT, Int32.reduceLE, Int32.reduceAdd, Int32.reduceSub, Int32.reduceMul, Int32.reduceToNatClampNeg, not_false_eq_true, not_true_eq_false, or_false, false_or, or_self, and_self, false_and, true_and, and_false, and_true, true_or, or_true, Nat.reduceAdd, Nat.reduceMul, Nat.reduceLT, Nat.reduceLeDiff, ne_eq, n_ell, f4, t11, g1]
    refine hv_bind (P := P) ?_ ?_
    rotate_left 1
    · intro y hy
      refine hv_up (fun _ => fX12_step.eq_2 ..) ?_
      try simp only [↓reduceIte, Nat.reduceEqDiff, Option.bind_some, ao_let, n_ell]
      try simp (disch := first | omega | assumption) only [↓reduceIte, Nat.reduceEqDiff, Option.bind_some, ao_let, t_le, f_le, t_lt, f_lt, f_eq, u_eq, u_n1, u_n2, n_cl, n_lt, n_le, n_eq, n_ltl, n_llt, n_lel, n_lle, n_eql, n_leq, n_add, n_mul, n_sub, n_addl, n_ladd, n_mull, n_lmul, n_subl, Int32.reduceLT, Int32.reduceLE, Int32.reduceAdd, Int32.reduceSub, Int32.reduceMul, Int32.reduceToNatClampNeg, not_false_eq_true, not_true_eq_false, or_false, false_or, or_self, and_self, false_and, true_and, and_false, and_true, true_or, or_true, Nat.reduceAdd, Nat.reduceMul, Nat.reduceLT, Nat.reduceLeDiff, ne_eq, n_ell]
      exact hv_some hy
    unfold gX12_retry
    refine hv_up (fun _ => fX12_retry.eq_2 ..) ?_
    simp (disch := omega) only [↓reduceIte, f4, Option.bind_some, n_ltl, n_cl, f_lt, f_le, or_self, not_false_eq_true, ao_let, w3]
    exact hP
  unfold gX2_retry
  refine hv_up (fun _ => fX2_retry.eq_2 ..) ?_
  simp only [↓reduceIte, hR]
  refine hv_bind (P := fun y => y.2 = C1 ∧ ((∃ k, k < nl (N a) ∧ y.1 = nI k ∧ OrL D t k ∧ ∀ k', k < k' → k' < nl (N a) → ¬ OrL D t k') ∨ y.1 = -1 ∧ ∀ k, k < nl (N a) → ¬ OrL D t k)) ?_ ?_
  · unfold gX7_levelWithOr
    refine hv_up (fun _ => fX7_levelWithOr.eq_2 ..) ?_
    simp only [↓reduceIte, hR, ao_let, c81]
    exact c_lwo hM1 f2 ht (nl (N a)) _ (Nat.le_refl _) rfl (fun k hk h1 h2 => ⟨rfl, Or.inl ⟨k, hk, rfl, h1, h2⟩⟩) (fun hn => ⟨rfl, Or.inr ⟨rfl, hn⟩⟩)
  rintro ⟨x, C1'⟩ ⟨e, hx⟩
  have e' : C1 = C1' := e.symm
  subst e'
  dsimp only at hx
  rcases hx with ⟨k, hk, rfl, hor, hno⟩ | ⟨rfl, hno⟩
  · -- to the other part of level k
    obtain ⟨b, y1, y2, y3, y4, y5, ⟨y6, y6'⟩, y7⟩ := lvl_or hM1 hk
    obtain ⟨T, z1, z2, z3, z4, z5, z6⟩ : ∃ T, T ≤ len ∧ C1 a2 b = nI T ∧ D 571 (t * 12 + k) = nI (φ T) ∧ φ T < 6000 ∧ N T = (0, b) :: N b ∧ H T = 0 := by
      rcases y7 with ⟨-, z2⟩ | y7
      · exact absurd (by rw [z2]; decide) hor.2
      · exact y7
    have hl := LvS_of f2 ht (show k < 10 by omega)
    obtain ⟨hcat1, cok1, ⟨v1, v2, v3, v4, v5, v6, v7, v8, v9⟩, -, m5, -, mI⟩ := id hM1
    obtain ⟨e1, e2, e3, -, -, e6, e7, -⟩ := (m5.2.2.2 (0, b) (y4 _ (by simp))).1 rfl
    dsimp only at e1 e2 e3 e6 e7
    rw [y3] at e1 e2 e3 e6 e7
    have hb10 := (cok1.2.2.2.2.2.1 b (by omega)).2.1
    have lnb := @ns_le (N b)
    have ltb := @nt_le (N b)
    obtain ⟨Nf, C2, ef, Nt, D2, et, hf⟩ := fold_pair (l := k) (dp := nl (N a)) f2 f4 ht hk hl10 (if k = 0 then 0 else nI k - 1) (by
      by_cases q : k = 0
      · rw [if_pos q]; exact Or.inr ⟨q, rfl⟩
      · rw [if_neg q]; exact Or.inl rfl) c81 w3 (fun j hj => (mI.2.1 j hj).2.2.2) hF1.2.2.2.2.2.2.1 hrc9
    have hf' := hf
    obtain ⟨rc1, a1', a2', a3', a4', a5', a6', a7', a8'⟩ := hf'
    have c2 : ∀ x i, (x < 92 + 71 * t + 8 ∨ 92 + 71 * t + 68 ≤ x) → C2 x i = C1 x i := fun x i hx => a5' x i (by
      rintro ⟨j, h1, h2⟩
      omega)
    have hee : decide (C2 12 5 = 3 ∨ C2 12 5 = 4) = decide (D 537 27 = 3 ∨ D 537 27 = 4) := by rw [c2 _ _ (by omega), hF1.2.2.1.1]
    generalize hE : decide (D 537 27 = 3 ∨ D 537 27 = 4) = ee at hf hee a6'
    have hb : hv (fun n => gX2_takeBack n 12 (92 + 71 * t) (nI k) C2 ρ) (fun y => y = cTB ee t k (nl (N a) - k) C2) := c_back (k := k) (dp := nl (N a)) f1 f2 ht hk hl10 C2 (by rw [c2 _ _ (by omega)]; exact c81) (by rw [hee])
    have hRp := Rpl_leave ht (by omega) hF1.2.1 (fun j h1 h2 => (mI.2.1 j (by omega)).2.2.1) hf
    obtain ⟨ffC, ffD⟩ := fold_fr (by omega) hf
    -- cells of the level
    have q8 : cTB ee t k (nl (N a) - k) C2 (92 + 71 * t + 8 + 6 * k) 8 = nI b := by
      rw [cTB_n (by omega) (by omega) (by omega) (by omega), a5' _ _ (by
        rintro ⟨j, h1, h2⟩
        omega)]
      exact y5
    have qkd : cTB ee t k (nl (N a) - k) C2 kd 0 = nI len := by rw [ffC _ _ (by omega) (by omega)]; exact ckd
    have qa2 : cTB ee t k (nl (N a) - k) C2 a2 b = nI T := by rw [ffC _ _ (by omega) (by omega)]; exact z2
    have qd : ∀ x, 570 ≤ x → x ≤ 574 → D2 x (t * 12 + k) = D x (t * 12 + k) := fun x h1 h2 => by
      rw [a6' _ _ (by omega) (by omega) (by omega) (by omega) (by omega), dTB_n (by omega) (by omega) (by omega)]
    generalize hC3 : cTB ee t k (nl (N a) - k) C2 = C3 at hb hRp ffC q8 qkd qa2
    -- the end
    have fin : EndE nw bw br (0, ao_u (ao_u (ao_u C3 (92 + 71 * t) 8 (nI (k + 1))) (92 + 71 * t + 8 + 6 * k) 9 1) (92 + 71 * t) 3 (nI T), ρ) (0, ao_u (ao_u (ao_u (ao_u (ao_u D2 556 t (nI (k + 1))) 576 (t * 12 + k) 1) 552 t (nI (φ T))) 557 t (nI (ns (N b) + 1))) 558 t (nI (nt (N b))), σ) := by
      have cn : ∀ x i, ¬ (x = 92 + 71 * t ∧ (i = 3 ∨ i = 8)) → ¬ (x = 92 + 71 * t + 8 + 6 * k ∧ i = 9) → ao_u (ao_u (ao_u C3 (92 + 71 * t) 8 (nI (k + 1))) (92 + 71 * t + 8 + 6 * k) 9 1) (92 + 71 * t) 3 (nI T) x i = C3 x i := fun x i q1 q2 => by rw [u_ne (by omega), u_ne (by omega), u_ne (by omega)]
      have dn : ∀ x i, ¬ (i = t ∧ (x = 552 ∨ x = 556 ∨ x = 557 ∨ x = 558)) → ¬ (x = 576 ∧ i = t * 12 + k) → ao_u (ao_u (ao_u (ao_u (ao_u D2 556 t (nI (k + 1))) 576 (t * 12 + k) 1) 552 t (nI (φ T))) 557 t (nI (ns (N b) + 1))) 558 t (nI (nt (N b))) x i = D2 x i := fun x i q1 q2 => by rw [u_ne (by omega), u_ne (by omega), u_ne (by omega), u_ne (by omega), u_ne (by omega)]
      obtain ⟨rc', r1, r2, r3, r4, tc'⟩ := or_ok (C' := ao_u (ao_u (ao_u C3 (92 + 71 * t) 8 (nI (k + 1))) (92 + 71 * t + 8 + 6 * k) 9 1) (92 + 71 * t) 3 (nI T)) (D' := ao_u (ao_u (ao_u (ao_u (ao_u D2 556 t (nI (k + 1))) 576 (t * 12 + k) 1) 552 t (nI (φ T))) 557 t (nI (ns (N b) + 1))) 558 t (nI (nt (N b)))) (k := k) (dp := nl (N a)) (b := b) (B := T) ht hk hl10 cok1 mI hf y3 y1 (fun x hx => m5.2.2.2 x (y4 x hx)) e2 z1 z5 z6 ⟨v1, v2, v3, v4, v5, v6, v7, v8⟩ (fun x i q1 q2 => by rw [cn x i q1 q2, hC3]) u_eq (by rw [u_n2 (by omega), u_n1 (by omega), u_eq]) (by rw [u_n1 (by omega), u_eq]) dn (by rw [u_n1 (by omega), u_n1 (by omega), u_eq]) (by rw [u_n1 (by omega), u_n1 (by omega), u_n1 (by omega), u_n1 (by omega), u_eq]) (by rw [u_n1 (by omega), u_n1 (by omega), u_n1 (by omega), u_eq]) (by rw [u_n1 (by omega), u_eq]) u_eq
      have cR2 : ∀ i, i = 2 ∨ i = 15 → C3 (92 + 71 * t) i = C1 (92 + 71 * t) i := fun i q => by
        rw [← hC3, cTB_n (by omega) (by omega) (by omega) (by omega), c2 _ _ (by omega)]
      have d63 : D2 563 t = D 563 t := by rw [a6' _ _ (by omega) (by omega) (by omega) (by omega) (by omega), dTB_n (by omega) (by omega) (by omega)]
      have d550 : ∀ i, D2 550 i = D 550 i := fun i => ffD _ _ (by omega) (by omega) (by omega)
      have c8 : ao_u (ao_u (ao_u C3 (92 + 71 * t) 8 (nI (k + 1))) (92 + 71 * t + 8 + 6 * k) 9 1) (92 + 71 * t) 3 (nI T) (92 + 71 * t) 8 = nI (k + 1) := by rw [u_n2 (by omega), u_n1 (by omega), u_eq]
      generalize ao_u (ao_u (ao_u C3 (92 + 71 * t) 8 (nI (k + 1))) (92 + 71 * t + 8 + 6 * k) 9 1) (92 + 71 * t) 3 (nI T) = C5 at cn tc' r3 r4 c8 ⊢
      generalize ao_u (ao_u (ao_u (ao_u (ao_u D2 556 t (nI (k + 1))) 576 (t * 12 + k) 1) 552 t (nI (φ T))) 557 t (nI (ns (N b) + 1))) 558 t (nI (nt (N b))) = D5 at dn r2 tc' ⊢
      have hC5 : ∀ x i, x ≠ 14 → ¬ (92 + 71 * t ≤ x ∧ x < 92 + 71 * t + 71) → C5 x i = C1 x i := fun x i q1 q2 => by rw [cn x i (by omega) (by omega)]; exact ffC x i q1 q2
      have hD5 : ∀ x i, x ≠ 542 → ¬ (x = 537 ∧ i = 64) → ¬ (551 ≤ x ∧ x ≤ 584 ∧ t * wd x ≤ i ∧ i < (t + 1) * wd x) → D5 x i = D x i := fun x i q1 q2 q3 => by
        obtain ⟨u1, u12, -, -, -⟩ := wd_of q3
        rw [dn x i (by
          rintro ⟨q4, q5⟩
          exact u1 (by omega) q4) (by
          rintro ⟨q4, q5⟩
          have := u12 (by omega)
          omega)]
        exact ffD x i q1 q2 q3
      obtain ⟨c1', c2', c3', c4'⟩ := Cat_loc hcat1 (C' := C5) (fun x i hx => hC5 x i (by omega) (by omega))
      have ed : dcd D5 t = dcd D t := dcd_eq (fun i => hD5 _ _ (by omega) (by omega) (by omega))
      have hT : Thr C5 ρ D5 rc' t := Tc_Thr c1' (by rw [c2', c3', c4', ed]; exact cok1) (by rw [c3', c4']; exact tc')
      have e8 : dpC C1 t = nl (N a) := by
        unfold dpC
        rw [c81, n_cl (by omega)]
      have e8' : dpC C5 t = k + 1 := by
        unfold dpC
        rw [c8, n_cl (by omega)]
      refine ⟨kp, rc', rfl, (show ¬ (0 : Int32) < 0 by decide), ?_⟩
      show Full C5 ρ D5 σ kp rc' nw bw br
      exact lk_fin hF1 ht hC5 hD5 (Rpl_cell (k := 0) hRp (fun x i hx => cn x i (by omega) (by omega)) (fun x i hx => dn x i (by omega) (by omega))) r2 r1 hT (by rw [cn _ _ (by omega) (by omega)]; exact cR2 2 (by omega)) (by rw [cn _ _ (by omega) (by omega)]; exact cR2 15 (by omega)) (by rw [dn _ _ (by omega) (by omega)]; exact d63) (by rw [e8, e8']; exact r4) (by rw [e8, e8']; exact r3)
    have dlw : ∀ {Q : Int32 × ao_S → Prop}, hv (fun n => fX12_retry n 47 537 (nI t) (nI k) 0 0 0 0 D σ) Q → hv (fun n => fX12_retry n 9 537 (nI t) (nI (nl (N a)) - 1) 0 0 0 0 D σ) Q := fun hQ => d_lwo hM1 f4 ht (nl (N a)) _ (Nat.le_refl _) rfl (fun k' hk' h1 h2 => by
      have : k' = k := by
        rcases (show k' < k ∨ k' = k ∨ k < k' by omega) with e | e | e
        · exact absurd hor (h2 k e hk)
        · exact e
        · exact absurd h1 (hno k' e hk')
      rw [this]; exact hQ) (fun hn => absurd hor (hn k hk))
    clear hf hRp ffC ffD a1' a4' a5' a6' a7' a8' mI m5 cok1 hcat1 hM1 hF1 y4 hno
    have c27 : ∀ {Q : Int32 × ao_S → Prop}, Q (0, ao_u (ao_u (ao_u C3 (92 + 71 * t) 8 (nI (k + 1))) (92 + 71 * t + 8 + 6 * k) 9 1) (92 + 71 * t) 3 (nI T), ρ) → hv (fun n => fX2_retry n 27 12 (92 + 71 * t) (nI k) (if k = 0 then 0 else nI k - 1) (92 + 71 * t) C1 ρ) Q := by
      intro Q hQ
      refine hv_up (fun _ => fX2_retry.eq_2 ..) ?_
      simp only [↓reduceIte, Nat.reduceEqDiff]
      refine hv_bind (P := fun y => C2 = y) ⟨Nf, _, ef, rfl⟩ ?_
      rintro _ rfl
      simp only [f1, ↓reduceIte]
      refine hv_bind (P := fun y => C3 = y) (hv_mono hb (fun _ h => h.symm)) ?_
      rintro _ rfl
      simp only [hR, ↓reduceIte, ao_let, n_addl]
      refine hv_bind (P := fun y => y = (92 + 71 * t + 8 + 6 * k, ao_u C3 (92 + 71 * t) 8 (nI (k + 1)))) (c_level f2 ht (by omega) _ rfl) ?_
      rintro _ rfl
      clear fin hb ef et
      try simp only [↓reduceIte, Nat.reduceEqDiff, Option.bind_some, ao_let, n_ell, hl, b1, b2, gX1_firstAt, q8, qkd, b4, b7, b10, qa2]
      try simp (disch := first | omega | assumption) only [↓reduceIte, Nat.reduceEqDiff, Option.bind_some, ao_let, t_le, f_le, t_lt, f_lt, f_eq, u_eq, u_n1, u_n2, n_cl, n_lt, n_le, n_eq, n_ltl, n_llt, n_lel, n_lle, n_eql, n_leq, n_add, n_mul, n_sub, n_addl, n_ladd, n_mull, n_lmul, n_subl, Int32.reduceLT, Int32.reduceLE, Int32.reduceAdd, Int32.reduceSub, Int32.reduceMul, Int32.reduceToNatClampNeg, not_false_eq_true, not_true_eq_false, or_false, false_or, or_self, and_self, false_and, true_and, and_false, and_true, true_or, or_true, Nat.reduceAdd, Nat.reduceMul, Nat.reduceLT, Nat.reduceLeDiff, ne_eq, n_ell, hl, b1, b2, gX1_firstAt, q8, qkd, b4, b7, b10, qa2]
      exact hv_some hQ
    have d58 : ∀ {Q : Int32 × ao_S → Prop}, Q (0, ao_u (ao_u (ao_u (ao_u (ao_u D2 556 t (nI (k + 1))) 576 (t * 12 + k) 1) 552 t (nI (φ T))) 557 t (nI (ns (N b) + 1))) 558 t (nI (nt (N b))), σ) → hv (fun n => fX12_retry n 47 537 (nI t) (nI k) 0 0 0 0 D σ) Q := by
      intro Q hQ
      have e71 : D2 571 (t * 12 + k) = nI (φ T) := by rw [qd _ (by omega) (by omega)]; exact z3
      have e73 : D2 573 (t * 12 + k) = nI (ns (N b) + 1) := by rw [qd _ (by omega) (by omega)]; exact e6
      have e74 : D2 574 (t * 12 + k) = nI (nt (N b)) := by rw [qd _ (by omega) (by omega)]; exact e7
      clear fin hb ef c27
      refine hv_up (fun _ => fX12_retry.eq_2 ..) ?_
      try simp only [↓reduceIte, Nat.reduceEqDiff, Option.bind_some, ao_let, n_ell]
      try simp (disch := first | omega | assumption) only [↓reduceIte, Nat.reduceEqDiff, Option.bind_some, ao_let, t_le, f_le, t_lt, f_lt, f_eq, u_eq, u_n1, u_n2, n_cl, n_lt, n_le, n_eq, n_ltl, n_llt, n_lel, n_lle, n_eql, n_leq, n_add, n_mul, n_sub, n_addl, n_ladd, n_mull, n_lmul, n_subl, Int32.reduceLT, Int32.reduceLE, Int32.reduceAdd, Int32.reduceSub, Int32.reduceMul, Int32.reduceToNatClampNeg, not_false_eq_true, not_true_eq_false, or_false, false_or, or_self, and_self, false_and, true_and, and_false, and_true, true_or, or_true, Nat.reduceAdd, Nat.reduceMul, Nat.reduceLT, Nat.reduceLeDiff, ne_eq, n_ell]
      refine hv_up (fun _ => fX12_retry.eq_2 ..) ?_
      try simp only [↓reduceIte, Nat.reduceEqDiff, Option.bind_some, ao_let, n_ell, f4, gX12_level]
      try simp (disch := first | omega | assumption) only [↓reduceIte, Nat.reduceEqDiff, Option.bind_some, ao_let, t_le, f_le, t_lt, f_lt, f_eq, u_eq, u_n1, u_n2, n_cl, n_lt, n_le, n_eq, n_ltl, n_llt, n_lel, n_lle, n_eql, n_leq, n_add, n_mul, n_sub, n_addl, n_ladd, n_mull, n_lmul, n_subl, Int32.reduceLT, Int32.reduceLE, Int32.reduceAdd, Int32.reduceSub, Int32.reduceMul, Int32.reduceToNatClampNeg, not_false_eq_true, not_true_eq_false, or_false, false_or, or_self, and_self, false_and, true_and, and_false, and_true, true_or, or_true, Nat.reduceAdd, Nat.reduceMul, Nat.reduceLT, Nat.reduceLeDiff, ne_eq, n_ell, f4, gX12_level]
      refine hv_bind (P := fun y => D2 = y) ⟨Nt, _, et, rfl⟩ ?_
      rintro _ rfl
      try simp only [↓reduceIte, Nat.reduceEqDiff, Option.bind_some, ao_let, n_ell, f4, e71, e73, e74]
      try simp (disch := first | omega | assumption) only [↓reduceIte, Nat.reduceEqDiff, Option.bind_some, ao_let, t_le, f_le, t_lt, f_lt, f_eq, u_eq, u_n1, u_n2, n_cl, n_lt, n_le, n_eq, n_ltl, n_llt, n_lel, n_lle, n_eql, n_leq, n_add, n_mul, n_sub, n_addl, n_ladd, n_mull, n_lmul, n_subl, Int32.reduceLT, Int32.reduceLE, Int32.reduceAdd, Int32.reduceSub, Int32.reduceMul, Int32.reduceToNatClampNeg, not_false_eq_true, not_true_eq_false, or_false, false_or, or_self, and_self, false_and, true_and, and_false, and_true, true_or, or_true, Nat.reduceAdd, Nat.reduceMul, Nat.reduceLT, Nat.reduceLeDiff, ne_eq, n_ell, f4, e71, e73, e74]
      exact hv_some hQ
    simp (disch := omega) only [ao_let, n_lle, t_le, ↓reduceIte, n_lel]
    have hfin2 : ∀ {Q : Int32 × ao_S → Prop}, Q (0, ao_u (ao_u (ao_u C3 (92 + 71 * t) 8 (nI (k + 1))) (92 + 71 * t + 8 + 6 * k) 9 1) (92 + 71 * t) 3 (nI T), ρ) → hv (fun n => if k ≤ 0 then fX2_retry n 27 12 (92 + 71 * t) (nI k) 0 (92 + 71 * t) C1 ρ else fX2_retry n 27 12 (92 + 71 * t) (nI k) (nI k - 1) (92 + 71 * t) C1 ρ) Q := by
      intro Q hQ
      have := c27 hQ
      by_cases q : k = 0
      · simp only [q, ↓reduceIte, Nat.le_refl] at this ⊢
        exact this
      · rw [if_neg q] at this
        simp only [show ¬ k ≤ 0 by omega, ↓reduceIte]
        exact this
    refine hfin2 (dst (dlw (d58 fin)))
  · -- it falls asleep
    obtain ⟨C2, C3', D1, y1, y2, y3, ⟨y4, y5, y6⟩, y7⟩ := lv0 (x1 := 0) hF1 ht hM1 rfl (Or.inr rfl)
    obtain ⟨C4, ρ4, D4, σ4, kp', rc', z1, z2, z3, z4, z5⟩ := y7 (ao_u C3' (92 + 71 * t) 8 1) D1 (fun x i q => u_ne (by omega)) (fun _ _ _ => rfl)
    clear y7
    have y1 := hv_mono y1 (fun _ h => Eq.symm h)
    have y2 := hv_mono y2 (fun _ h => Eq.symm h)
    have y3 := hv_mono y3 (fun _ h => Eq.symm h)
    have hz3 := z3
    obtain ⟨⟨l1, l2, l3, l4⟩, ⟨r1, -, -, -, -, -, r7, -⟩, ⟨d1, -⟩, -, -, l9, -⟩ := hz3
    have c48 : C4 (92 + 71 * t) 8 = nI 1 := by rw [z4 _ (by omega), u_eq]; rfl
    have fin : EndE nw bw br (3, ao_u C4 (92 + 71 * t) 2 3, ρ4) (3, ao_u (ao_u D4 556 t 0) 551 t 3, σ4) := by
      have hT := slp_T hF1 ht hM1 z3 c48
      have hC5 : ∀ x i, ¬ (92 + 71 * t ≤ x ∧ x < 92 + 71 * t + 71) → ao_u C4 (92 + 71 * t) 2 3 x i = C4 x i := fun x i q => u_ne (by omega)
      have hD5 : ∀ x i, ¬ (551 ≤ x ∧ x ≤ 584 ∧ t * wd x ≤ i ∧ i < (t + 1) * wd x) → ao_u (ao_u D4 556 t 0) 551 t 3 x i = D4 x i := fun x i q => by
        obtain ⟨u1, -⟩ := wd_of q
        rw [u_ne (by
          by_cases e : x = 551
          · exact Or.inr (u1 (by omega))
          · exact Or.inl e), u_ne (by
          by_cases e : x = 556
          · exact Or.inr (u1 (by omega))
          · exact Or.inl e)]
      have e8 : dpC C1 t = nl (N a) := by
        unfold dpC
        rw [c81, n_cl (by omega)]
      have e8' : dpC (ao_u C4 (92 + 71 * t) 2 3) t = 1 := by
        unfold dpC
        rw [u_n2 (by omega), c48, n_cl (by omega)]
      have zc := sh_zc hF1.2.1
      have zd := sh_zd hF1.2.1
      have hB : Bth (ao_u C4 (92 + 71 * t) 2 3) (ao_u (ao_u D4 556 t 0) 551 t 3) ((nw + 1) / 2) := by
        have fB := hF1.2.2.2.2.2.2.2.2.1
        have npc : ∀ x, (x < 19 ∨ 21 < x) ∧ x < 599 → ¬ PAc ρ x := fun x hx => Rpl_nc hF1.2.1 hx
        have npd : ∀ x, (x < 547 ∨ 549 < x) ∧ x < 599 → ¬ PAd σ x := fun x hx => Rpl_nd hF1.2.1 hx
        have gst := hM1.2.2.1.1
        obtain ⟨f, g, bs, b0, b1, bk, b2⟩ := fB
        have cl : ∀ x i, (x < 13 ∨ 22 ≤ x ∧ x < 599) → ¬ (92 + 71 * t ≤ x ∧ x < 92 + 71 * t + 71) → ao_u C4 (92 + 71 * t) 2 3 x i = C1 x i := fun x i h1 h2 => by
          rw [hC5 x i h2]; exact l3 x i (by omega) h2 (npc x (by omega)) (fun z hz => by have := zc z hz; omega)
        have su : ∀ u, u < 6 → u ≠ t → ao_u C4 (92 + 71 * t) 2 3 (92 + 71 * u) 2 = C1 (92 + 71 * u) 2 := fun u hu hne => cl _ _ (by omega) (by omega)
        have s15 : ∀ u, u < 6 → ao_u C4 (92 + 71 * t) 2 3 (92 + 71 * u) 15 = C1 (92 + 71 * u) 15 := fun u hu => by
          by_cases e : u = t
          · subst e
            rw [u_n2 (by omega), r1 _ (by omega) (by omega) (by omega) (by omega) (by omega) (by omega)]
          · exact cl _ _ (by omega) (by omega)
        have s63 : ∀ u, u < 6 → ao_u (ao_u D4 556 t 0) 551 t 3 563 u = D 563 u := fun u hu => by
          rw [u_n1 (by omega), u_n1 (by omega)]
          by_cases e : u = t
          · subst e
            exact d1 _ (by omega) (by omega)
          · refine l4 _ _ (by omega) (by omega) ?_ (npd _ (by omega)) (fun z hz => by have := zd z hz; omega)
            rintro ⟨-, -, h1, h2⟩
            have hw1 : wd 563 = 1 := rfl
            rw [hw1] at h1 h2
            omega
        have sst : ∀ u, u < 6 → (ao_u C4 (92 + 71 * t) 2 3 (92 + 71 * u) 2 = 2 ∨ ao_u C4 (92 + 71 * t) 2 3 (92 + 71 * u) 2 = 3) → (C1 (92 + 71 * u) 2 = 2 ∨ C1 (92 + 71 * u) 2 = 3) := fun u hu h => by
          by_cases e : u = t
          · subst e; exact Or.inl gst
          · rw [su u hu e] at h; exact h
        refine ⟨f, g, bs, ?_, b1, fun o ho hn p hp => ?_, fun u hu h => ?_⟩
        · rw [u_n1 (by omega), u_n1 (by omega), l4 _ _ (by omega) (by omega) (by omega) (npd _ (by omega)) (fun z hz => by have := zd z hz; omega)]; exact b0
        · rw [u_n1 (by omega)]
          by_cases e : o = t
          · subst e; exact (l9 p hp).1
          · rw [su o ho e] at hn
            rcases (l9 p hp).2 with q | q
            · rw [q]; exact bk o ho hn p hp
            · rw [q]
              intro q2
              have := n_neg (n := o) (by omega)
              rw [← q2] at this
              exact absurd rfl (by rw [this]; exact id)
        · obtain ⟨c1, c2, c3, c4, c5⟩ := b2 u hu (sst u hu h)
          exact ⟨by rw [s15 u hu]; exact c1, by rw [s63 u hu]; exact c2, c3, c4, fun v hv hne hsv => c5 v hv hne (sst v hv hsv)⟩
      refine ⟨kp', rc', rfl, (show ¬ (3 : Int32) < 0 by decide), ?_⟩
      refine lo_fin hF1 ht e8 z3 hC5 hD5 hT hB ?_ ?_
      · dsimp only
        rw [e8', wsum, wsum, Nat.mul_zero, Nat.add_zero, u_n1 (by omega), r7]
        decide
      · dsimp only
        rw [e8', rsum, rsum]
        have : rl (ao_u C4 (92 + 71 * t) 2 3) t 0 = rl C4 t 0 := by
          unfold rl
          rw [u_n1 (by omega)]
        rw [this]
        omega
    have zc := sh_zc hF1.2.1
    have zd := sh_zd hF1.2.1
    have f24 := HxC_shB l1 zc f2
    have f44 := HxD_sh l2 zd f4
    have hR4 := RnS_of f24 ht
    have dlw : ∀ {Q : Int32 × ao_S → Prop}, hv (fun n => fX12_retry n 47 537 (nI t) (-1) 0 0 0 0 D σ) Q → hv (fun n => fX12_retry n 9 537 (nI t) (nI (nl (N a)) - 1) 0 0 0 0 D σ) Q := fun hQ => d_lwo hM1 f4 ht (nl (N a)) _ (Nat.le_refl _) rfl (fun k' hk' h1 h2 => absurd h1 (hno k' hk')) (fun _ => hQ)
    clear hM1 hF1 z3 hno l3 l4 l9 r1 d1
    simp only [ao_let, n_g2, ↓reduceIte, f1]
    refine hv_bind (P := fun y => y = (3, ao_u C4 (92 + 71 * t) 2 3, ρ4)) ?_ ?_
    · unfold gX2_fallAsleep
      refine hv_up (fun _ => fX2_fallAsleep.eq_2 ..) ?_
      simp only [↓reduceIte]
      refine hv_bind (P := fun y => C2 = y) y1 ?_
      rintro _ rfl
      simp only [f1, ↓reduceIte]
      refine hv_bind (P := fun y => C3' = y) y2 ?_
      rintro _ rfl
      clear fin y1 y2 y3
      try simp only [↓reduceIte, Nat.reduceEqDiff, Option.bind_some, ao_let, n_ell, f1, hR, y4]
      try simp (disch := first | omega | assumption) only [↓reduceIte, Nat.reduceEqDiff, Option.bind_some, ao_let, t_le, f_le, t_lt, f_lt, f_eq, u_eq, u_n1, u_n2, n_cl, n_lt, n_le, n_eq, n_ltl, n_llt, n_lel, n_lle, n_eql, n_leq, n_add, n_mul, n_sub, n_addl, n_ladd, n_mull, n_lmul, n_subl, Int32.reduceLT, Int32.reduceLE, Int32.reduceAdd, Int32.reduceSub, Int32.reduceMul, Int32.reduceToNatClampNeg, not_false_eq_true, not_true_eq_false, or_false, false_or, or_self, and_self, false_and, true_and, and_false, and_true, true_or, or_true, Nat.reduceAdd, Nat.reduceMul, Nat.reduceLT, Nat.reduceLeDiff, ne_eq, n_ell, f1, hR, y4]
      refine hv_bind (P := fun y => y = (C4, ρ4)) z1 ?_
      rintro _ rfl
      refine hv_up (fun _ => fX2_fallAsleep.eq_2 ..) ?_
      try simp only [↓reduceIte, Nat.reduceEqDiff, Option.bind_some, ao_let, n_ell, hR4]
      try simp (disch := first | omega | assumption) only [↓reduceIte, Nat.reduceEqDiff, Option.bind_some, ao_let, t_le, f_le, t_lt, f_lt, f_eq, u_eq, u_n1, u_n2, n_cl, n_lt, n_le, n_eq, n_ltl, n_llt, n_lel, n_lle, n_eql, n_leq, n_add, n_mul, n_sub, n_addl, n_ladd, n_mull, n_lmul, n_subl, Int32.reduceLT, Int32.reduceLE, Int32.reduceAdd, Int32.reduceSub, Int32.reduceMul, Int32.reduceToNatClampNeg, not_false_eq_true, not_true_eq_false, or_false, false_or, or_self, and_self, false_and, true_and, and_false, and_true, true_or, or_true, Nat.reduceAdd, Nat.reduceMul, Nat.reduceLT, Nat.reduceLeDiff, ne_eq, n_ell, hR4]
      exact hv_some rfl
    rintro _ rfl
    refine hv_up (fun _ => fX2_retry.eq_2 ..) ?_
    try simp only [↓reduceIte, Nat.reduceEqDiff, Option.bind_some, ao_let, n_ell]
    try simp (disch := first | omega | assumption) only [↓reduceIte, Nat.reduceEqDiff, Option.bind_some, ao_let, t_le, f_le, t_lt, f_lt, f_eq, u_eq, u_n1, u_n2, n_cl, n_lt, n_le, n_eq, n_ltl, n_llt, n_lel, n_lle, n_eql, n_leq, n_add, n_mul, n_sub, n_addl, n_ladd, n_mull, n_lmul, n_subl, Int32.reduceLT, Int32.reduceLE, Int32.reduceAdd, Int32.reduceSub, Int32.reduceMul, Int32.reduceToNatClampNeg, not_false_eq_true, not_true_eq_false, or_false, false_or, or_self, and_self, false_and, true_and, and_false, and_true, true_or, or_true, Nat.reduceAdd, Nat.reduceMul, Nat.reduceLT, Nat.reduceLeDiff, ne_eq, n_ell]
    refine hv_some (dst (dlw ?_))
    generalize EndE nw bw br (3, ao_u C4 (92 + 71 * t) 2 3, ρ4) = P at fin ⊢
    refine hv_up (fun _ => fX12_retry.eq_2 ..) ?_
    simp only [↓reduceIte, Nat.reduceEqDiff, n_g2]
    refine hv_up (fun _ => fX12_retry.eq_2 ..) ?_
    simp only [↓reduceIte, Nat.reduceEqDiff, n_g1, f4, gX12_level, Option.bind_some, ao_let]
    refine hv_bind (P := fun y => D1 = y) y3 ?_
    rintro _ rfl
    refine hv_bind (P := fun y => y = (D4, σ4)) z2 ?_
    rintro _ rfl
    clear y1 y2 y3
    refine hv_up (fun _ => fX12_retry.eq_2 ..) ?_
    try simp only [↓reduceIte, Nat.reduceEqDiff, Option.bind_some, ao_let, n_ell, f44]
    try simp (disch := first | omega | assumption) only [↓reduceIte, Nat.reduceEqDiff, Option.bind_some, ao_let, t_le, f_le, t_lt, f_lt, f_eq, u_eq, u_n1, u_n2, n_cl, n_lt, n_le, n_eq, n_ltl, n_llt, n_lel, n_lle, n_eql, n_leq, n_add, n_mul, n_sub, n_addl, n_ladd, n_mull, n_lmul, n_subl, Int32.reduceLT, Int32.reduceLE, Int32.reduceAdd, Int32.reduceSub, Int32.reduceMul, Int32.reduceToNatClampNeg, not_false_eq_true, not_true_eq_false, or_false, false_or, or_self, and_self, false_and, true_and, and_false, and_true, true_or, or_true, Nat.reduceAdd, Nat.reduceMul, Nat.reduceLT, Nat.reduceLeDiff, ne_eq, n_ell, f44]
    exact hv_some fin
end Stb0
