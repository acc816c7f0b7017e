set_option linter.unusedSimpArgs false
set_option linter.unusedVariables false
theorem Thr1 {C D : ao_M} {ρ : ao_H} {rc t len kd a1 a2 a3 B : Nat} {φ : Nat → Nat} {N : Ns} {H K : Nat → Nat} (hcat : Cat C ρ t len kd a1 a2 a3) (cok : Cok (C a1) (C a2) (C a3) (dcd D t) len φ N H K) (c2 : C (92 + 71 * t) 2 = 1) (d51 : D 551 t = 1) (c0 : C (92 + 71 * t) 0 = nI t) (c17 : C (92 + 71 * t) 17 = D 559 t) (c18 : C (92 + 71 * t) 18 = D 562 t) (c19 : C (92 + 71 * t) 19 = D 561 t) (hR : Regs C D t) (c8 : C (92 + 71 * t) 8 = 0) (d56 : D 556 t = 0) (hB : B ≤ len) (hP : Pos C D t (dcd D t) φ B) (hS : Stk C D t (H B)) (hc : Ctl C D t (C a2) (C a3) len φ N (N B)) (hn : nl (N B) = 0) : Thr C ρ D rc t :=
  ⟨1, by omega, c2, d51, c0, c17, c18, c19, hR, fun _ _ => c8, fun _ => d56, Or.inr ⟨by omega, len, kd, a1, a2, a3, φ, N, H, K, hcat, cok, fun _ => ⟨B, hB, hP, hS, hc, hn⟩, fun e => absurd e (by omega), fun e => absurd e (by omega)⟩⟩
section Sta4
variable {C D : ao_M} {ρ σ : ao_H} {kp rc nw bw br t s len kd a1 a2 a3 a : Nat} {φ : Nat → Nat} {N : Ns} {H K : Nat → Nat}
/-- a block has ended: thread t goes on behind it -/
theorem cl_end {b B : Nat} {Cf : ao_M} {ρf : ao_H} {Df : ao_M} {σf : ao_H} {kp' : Nat} {X Y : Int32} (hF : FullP (fun u => u ≠ t) C ρ D σ kp rc nw bw br) (ht : t < 6) (hM : Md C ρ D rc t len kd a1 a2 a3 φ N H K (N a)) (hNa : N a = (0, b) :: N b) (hnb : nl (N b) = 0) (hNB : N B = N b) (hBl : B ≤ len) (hHB : H B = 0) (h5 : C (92 + 71 * t) 5 = nI 0) (h55 : D 555 t = nI 0)
    (hfin : FinP C D ρ σ kp t X Y Cf ρf Df σf kp') (hX : X = nI (ns (N b))) (q : Nat) (hY : Y = nI q) (hq : q < 6000) (hgo : q = φ B ∨ dcd D t (3 * q) = 12 ∧ dcd D t (3 * q + 1) = nI (φ B)) : Full (ao_u Cf (92 + 71 * t) 3 (nI B)) ρf Df σf kp' rc nw bw br := by
  have hF' := hF
  obtain ⟨-, f5, -, f8, -, -, f11, -, f13, -, f15, f16⟩ := hF
  obtain ⟨hcat, cok, ⟨g1, g2, g3, g4, g5, g6, g7, g8, g9⟩, m4, m5, ⟨m6, m7, m8⟩, mI⟩ := hM
  rw [hNa] at m5 m6 m7 m8 mI g9
  obtain ⟨p1, p2, p3, ⟨p4, p5, p6⟩, p7, ⟨p8, p9, p10, p11, p12⟩, p13, p14, p15, p16, p17, p18⟩ := hfin
  have zc := sh_zc f5
  have zd := sh_zd f5
  have npc : ∀ x, (x < 19 ∨ 21 < x) ∧ x < 599 → ¬ PAc ρ x := fun x hx => Rpl_nc f5 hx
  have npd : ∀ x, (x < 547 ∨ 549 < x) ∧ x < 599 → ¬ PAd σ x := fun x hx => Rpl_nd f5 hx
  have cl : ∀ x i, (x < 13 ∨ 91 ≤ x ∧ x < 599) → ¬ (x = 92 + 71 * t ∧ (i = 2 ∨ i = 3 ∨ i = 8 ∨ i = 13 ∨ i = 18)) → ao_u Cf (92 + 71 * t) 3 (nI B) x i = C x i := fun x i h1 h2 => by
    rw [u_ne (by omega)]; exact p3 x i (by omega) (by omega) (by omega) (npc x (by omega)) (fun z hz => by have := zc z hz; omega)
  have dl : ∀ x i, x < 599 → ¬ (x = 537 ∧ (i = 25 ∨ i = 26 ∨ i = 68 ∨ i = 76)) → (x < 542 ∨ 549 < x) → ¬ (585 ≤ x ∧ x ≤ 593) → ¬ (i = t ∧ (x = 551 ∨ x = 552 ∨ x = 556 ∨ x = 557 ∨ x = 562)) → ¬ ((x = 577 ∨ x = 578) ∧ t * 12 * 26 ≤ i ∧ i < t * 12 * 26 + 26) → ¬ (x = 584 ∧ i = t * 12) → Df x i = D x i := fun x i h0 h1 h2 h3 h4 h5 h6 => p7 x i h1 (by omega) h3 h4 h5 h6 (npd x (by omega)) (fun z hz => by have := zd z hz; omega)
  have u2 : ∀ i, i ≠ 3 → ao_u Cf (92 + 71 * t) 3 (nI B) (92 + 71 * t) i = Cf (92 + 71 * t) i := fun i h => u_n2 h
  have hX' : HxC C ρ (ao_u Cf (92 + 71 * t) 3 (nI B)) ρf := by
    obtain ⟨y, y', b1, b2, b3, b4, b5, b6, b8, b9⟩ := p1
    have er1 : rmC (ao_u Cf (92 + 71 * t) 3 (nI B)) = rmC Cf := by
      unfold rmC
      rw [u_n1 (by omega)]
    exact ⟨y, y', b1, b2, b3, b4, b5, b6, by rw [er1]; exact b8, by rw [er1]; exact b9⟩
  have hCf : ∀ x i, (x < 13 ∨ 18 < x) → ¬ (x = 92 + 71 * t ∧ (i = 2 ∨ i = 3 ∨ i = 8 ∨ i = 13 ∨ i = 18)) → ¬ (22 ≤ x ∧ x ≤ 90) → ¬ PAc ρ x → (∀ z, ρ.2.2.2.1 = some z → x < z) → ao_u Cf (92 + 71 * t) 3 (nI B) x i = C x i := fun x i h1 h2 h3 h4 h5 => by
    rw [u_ne (by omega)]; exact p3 x i h1 (by omega) h3 h4 h5
  obtain ⟨k1, k2, k3, k4⟩ := Cat_fr hcat ht hX' zc (fun x i hx h1 h2 => hCf x i (by omega) (by omega) (by omega) h1 h2)
  have ed : dcd Df t = dcd D t := dcd_eq (fun i => dl _ _ (by omega) (by omega) (by omega) (by omega) (by omega) (by omega) (by omega))
  have hbl : b < len := by
    obtain ⟨-, e2, -, -⟩ := m6
    exact e2
  have hb10 := (cok.2.2.2.2.2.1 b (by omega))
  have hbd := chd_b (fun i hi => (cok.2.2.2.2.2.1 i hi).2.1) (N b) hb10.2.2.2 hb10.2.1
  have hl10 := hb10.2.1
  have l1 := @nl_le (N b)
  have l2 := @ns_le (N b)
  have l3 := @nt_le (N b)
  clear hb10
  have hT : Thr (ao_u Cf (92 + 71 * t) 3 (nI B)) ρf Df rc t := by
    refine Thr1 (B := B) k1 (by rw [k2, k3, k4, ed]; exact cok) (by rw [u2 _ (by omega)]; exact p4) p8 (by rw [cl _ _ (by omega) (by omega)]; exact g3) (by rw [cl _ _ (by omega) (by omega), dl _ _ (by omega) (by omega) (by omega) (by omega) (by omega) (by omega) (by omega)]; exact g4) (by rw [u2 _ (by omega), p6, p10, g5]) (by rw [cl _ _ (by omega) (by omega), dl _ _ (by omega) (by omega) (by omega) (by omega) (by omega) (by omega) (by omega)]; exact g6) (fun k hk => ?_) (by rw [u2 _ (by omega)]; exact p5) p9 hBl ⟨u_eq, q, by rw [p11]; exact hY, hq, ?_⟩ ?_ ?_ (by rw [hNB]; exact hnb)
    · rw [cl _ _ (by omega) (by omega), dl _ _ (by omega) (by omega) (by omega) (by omega) (by omega) (by omega) (by omega)]; exact m4 k hk
    · rw [ed]; exact hgo
    · rw [hHB]
      exact ⟨by rw [cl _ _ (by omega) (by omega)]; exact h5, by rw [dl _ _ (by omega) (by omega) (by omega) (by omega) (by omega) (by omega) (by omega)]; exact h55, fun i hi => absurd hi (by omega)⟩
    · rw [hNB, k3, k4]
      obtain ⟨q1, q2, q3, q4⟩ := m5
      rw [nt_c0] at q1 q2
      refine ⟨by rw [cl _ _ (by omega) (by omega)]; exact q1, by rw [dl _ _ (by omega) (by omega) (by omega) (by omega) (by omega) (by omega) (by omega)]; exact q2, by rw [p12, hX], fun x hx => ?_⟩
      obtain ⟨n1, n2, n3⟩ := hbd x hx
      exact Ent_mv (q4 x (List.mem_cons_of_mem _ hx)) (fun _ => ⟨cl _ _ (by omega) (by omega), cl _ _ (by omega) (by omega), fun y q1 q2 => dl _ _ (by omega) (by omega) (by omega) (by omega) (by omega) (by omega) (by omega)⟩) (fun _ => dl _ _ (by omega) (by omega) (by omega) (by omega) (by omega) (by omega) (by omega)) (fun _ => ⟨cl _ _ (by omega) (by omega), cl _ _ (by omega) (by omega), fun y q1 q2 => dl _ _ (by omega) (by omega) (by omega) (by omega) (by omega) (by omega) (by omega)⟩)
  have hnl1 : nl ((0, b) :: N b) = 1 := by rw [nl_c0, hnb]
  have e8 : dpC C t = 1 := by
    unfold dpC
    rw [mI.1, hnl1, n_cl (by omega)]
  have e8' : dpC (ao_u Cf (92 + 71 * t) 3 (nI B)) t = 0 := by
    unfold dpC
    rw [u2 _ (by omega), p5]; decide
  have ew : wsum C t 1 = popc (C (92 + 71 * t + 8) 6) := by
    rw [wsum, wsum, Nat.mul_zero, Nat.add_zero]; omega
  have hs : ∀ u, u < 6 → u ≠ t → ao_u Cf (92 + 71 * t) 3 (nI B) (92 + 71 * u) 2 = C (92 + 71 * u) 2 ∧ ao_u Cf (92 + 71 * t) 3 (nI B) (92 + 71 * u) 15 = C (92 + 71 * u) 15 ∧ Df 563 u = D 563 u := fun u hu hne => ⟨cl _ _ (by omega) (by omega), cl _ _ (by omega) (by omega), dl _ _ (by omega) (by omega) (by omega) (by omega) (by omega) (by omega) (by omega)⟩
  have c16 : ∀ p, ao_u Cf (92 + 71 * t) 3 (nI B) 16 p = Cf 16 p := fun p => u_n1 (by omega)
  clear m5 m6 mI cok hbd
  refine P_Full (P_pl hF' ht hX' p2 (fun x i h1 h2 h3 h4 h5 => hCf x i h1 (by omega) h3 h4 h5) (fun x i h1 h2 h3 h4 h5 h6 => p7 x i (by omega) h2 h3 ?_ ?_ ?_ h5 h6) (Rpl_cell (k := 0) p13 (fun x i hx => u_n1 (by omega)) (fun _ _ _ => rfl)) (fun q' p hp => ?_) (by rw [dl _ _ (by omega) (by omega) (by omega) (by omega) (by omega) (by omega) (by omega)]; exact f11) (Nat.le_refl _) (Rsd_fr p14 (fun x i q1 q2 => u_n1 (by omega)) rfl (fun _ _ _ => rfl)) (Rrc_fr p15 (fun x i q1 q2 => u_n1 (by omega)) rfl (fun _ _ _ _ => rfl)) (Bth_out f13 ht (dl _ _ (by omega) (by omega) (by omega) (by omega) (by omega) (by omega) (by omega)) (fun p hp => by rw [c16 p]; exact p16 p hp) hs (by rw [u2 _ (by omega), p4]; decide)) (by omega) (fun _ => hT) (fun q' => ?_) (fun q' => ?_) ?_ f15 f16) ht hT
  · rintro ⟨rfl, q'⟩
    have hw1 : wd x = 1 := by
      unfold wd
      rw [if_neg (by omega), if_neg (by omega), if_neg (by omega), if_neg (by omega), if_neg (by omega), if_neg (by omega)]
    exact h4 ⟨by omega, by omega, by rw [hw1]; omega, by rw [hw1]; omega⟩
  · rintro ⟨q1, q2, q3⟩
    have hw1 : wd x = 312 := by
      unfold wd
      rw [if_neg (by omega), if_neg (by omega), if_neg (by omega), if_pos (by omega)]
    exact h4 ⟨by omega, by omega, by rw [hw1]; omega, by rw [hw1]; omega⟩
  · rintro ⟨rfl, q2⟩
    exact h4 ⟨by omega, by omega, by show t * 12 ≤ i; omega, by show i < (t + 1) * 12; omega⟩
  · rw [c16 p]
    rcases (p16 p hp).2 with e | e
    · rw [e]; exact f8 q' p hp
    · exact e
  · have := p17 q'
    rw [cntK_e (C := Cf) (fun p _ => c16 p)]
    omega
  · rw [e8, e8', p18 q', ew, wsum]
    omega
  · rw [e8, e8']
    have : rsum (ao_u Cf (92 + 71 * t) 3 (nI B)) t 0 = 0 := rfl
    omega
set_option maxHeartbeats 4000000 in
theorem st_close1 (hF : Full C ρ D σ kp rc nw bw br) (ht : t < 6) (ho : Opn C ρ D rc t s len kd a1 a2 a3 φ N H K a) (ha : a < len) (h : C a1 a = 17 ∧ dcd D t (3 * φ a) = 16 ∧ H a = 0 ∧ ∃ b B, N a = (0, b) :: N b ∧ C a3 b = nI B ∧ B ≤ len ∧ N B = N b ∧ H B = 0 ∧ K a < K B ∧ (φ B = φ a + 1 ∨ dcd D t (3 * (φ a + 1)) = 12 ∧ dcd D t (3 * (φ a + 1) + 1) = nI (φ B))) (h1 : nl (N a) = 1) :
    hv (fun n => gX2_step n 12 (92 + 71 * t) C ρ) (fun y => hv (fun n => gX12_step n 537 (nI t) D σ) (fun w => EndE nw bw br y w)) := by
  obtain ⟨i1, i2, i3, b, B, hNa, hseb, hBl, hNB, hHB, -, hgo⟩ := h
  have es : s = 2 := by
    obtain ⟨-, -, t1, -, -, -, -, -, -, -, -, -, -, -, -, t14, -⟩ := ho
    rcases t1 with es | es
    · have := (t14 es).1; omega
    · exact es
  have hmid := mid_of (C1 := ao_u C (92 + 71 * t) 3 (nI (a + 1))) (D1 := D) hF ht ho es (fun x i q1 q2 => u_ne (by omega)) (fun _ _ _ _ => rfl)
  obtain ⟨hF1, hM1⟩ := hmid
  obtain ⟨hcat, cok, tc⟩ := ho
  obtain ⟨⟨f1, f2, f3, f4⟩, -, -, -, -, -, -, -, -, -, fbw, fbr⟩ := hF
  obtain ⟨t1, t2, t3, t4, t5, t6, t7, t8, t9, t10, t11, t12, t13, t14, t15⟩ := tc
  have hR := RnS_of f2 ht
  obtain ⟨g0, g1, g2, g3⟩ := d_ins (C := C) (rc := rc) (s := s) cok t9
  rw [i2] at g1
  rw [i3] at t12
  obtain ⟨w1, wI, w3, w14, w55⟩ := t15 es
  have hlen := cok.1
  have hnb : nl (N b) = 0 := by rw [hNa, nl_c0] at h1; omega
  have hl10 := (cok.2.2.2.2.2.1 a t9).2.1
  have hch := (cok.2.2.2.2.2.1 a t9).2.2.2
  rw [hNa] at hch
  obtain ⟨-, hbl, -, -⟩ := hch
  have l2 := @ns_le (N b)
  have hb10 := (cok.2.2.2.2.2.1 b (by omega)).2.1
  have hφB := (cok.2.2.2.2.2.1 B hBl).1
  obtain ⟨q11, q58, q57, qE⟩ := t13
  obtain ⟨e1, -, -, -, -, -, -, e65⟩ := (qE (0, b) (by rw [hNa]; simp)).1 rfl
  dsimp only at e1 e65
  rw [hnb] at e1 e65
  rw [Nat.mul_zero, Nat.add_zero] at e1
  rw [hNa, ns_c0] at q57
  have h8 : C (92 + 71 * t) 8 = nI 1 := by rw [← h1]; exact wI.1
  obtain ⟨hst5, hst55, -⟩ := t12
  obtain ⟨b1, b2, b3, b4, b5, b6, b7, b8, b9, b10, b11, b12, b13, b14, b15, b16, b17, b18⟩ := hcat
  clear t1 t14 t15 wI qE cok
  have cu : ∀ x i, ¬ (x = 92 + 71 * t ∧ i = 3) → ao_u C (92 + 71 * t) 3 (nI (a + 1)) x i = C x i := fun x i q => u_ne (by omega)
  -- the reference, down to the question
  have dst : ∀ {P : Int32 × ao_S → Prop}, hv (fun n => gX12_mayEnd n 537 (nI t) D σ) (fun w => hv (fun n => fX12_endBlock n 28 537 (nI t) 0 w.1 w.2.1 w.2.2) P) → hv (fun n => gX12_step n 537 (nI t) D σ) P := by
    intro P hP
    unfold gX12_step
    refine hv_up (fun _ => fX12_step.eq_2 ..) ?_
    try simp only [↓reduceIte, Nat.reduceEqDiff, Option.bind_some, ao_let, n_ell, f4, t11, g1]
    try simp (disch := first | omega | assumption) only [↓reduceIte, Nat.reduceEqDiff, Option.bind_some, ao_let, t_le, f_le, t_lt, f_lt, f_eq, u_eq, u_n1, u_n2, n_cl, n_lt, n_le, n_eq, n_ltl, n_llt, n_lel, n_lle, n_eql, n_leq, n_add, n_mul, n_sub, n_addl, n_ladd, n_mull, n_lmul, n_subl, Int32.reduceLT, Int32.reduceLE, Int32.reduceAdd, Int32.reduceSub, Int32.reduceMul, Int32.reduceToNatClampNeg, not_false_eq_true, not_true_eq_false, or_false, false_or, or_self, and_self, false_and, true_and, and_false, and_true, true_or, or_true, Nat.reduceAdd, Nat.reduceMul, Nat.reduceLT, Nat.reduceLeDiff, ne_eq, n_ell, f4, t11, g1]
    refine hv_bind (P := P) ?_ ?_
    rotate_left 1
    · intro y hy
      refine hv_up (fun _ => fX12_step.eq_2 ..) ?_
      try simp only [↓reduceIte, Nat.reduceEqDiff, Option.bind_some, ao_let, n_ell]
      try simp (disch := first | omega | assumption) only [↓reduceIte, Nat.reduceEqDiff, Option.bind_some, ao_let, t_le, f_le, t_lt, f_lt, f_eq, u_eq, u_n1, u_n2, n_cl, n_lt, n_le, n_eq, n_ltl, n_llt, n_lel, n_lle, n_eql, n_leq, n_add, n_mul, n_sub, n_addl, n_ladd, n_mull, n_lmul, n_subl, Int32.reduceLT, Int32.reduceLE, Int32.reduceAdd, Int32.reduceSub, Int32.reduceMul, Int32.reduceToNatClampNeg, not_false_eq_true, not_true_eq_false, or_false, false_or, or_self, and_self, false_and, true_and, and_false, and_true, true_or, or_true, Nat.reduceAdd, Nat.reduceMul, Nat.reduceLT, Nat.reduceLeDiff, ne_eq, n_ell]
      exact hv_some hy
    unfold gX12_endBlock
    refine hv_up (fun _ => fX12_endBlock.eq_2 ..) ?_
    try simp only [↓reduceIte, Nat.reduceEqDiff, Option.bind_some, ao_let, n_ell, f4, gX12_level, q57, Nat.add_sub_cancel, e65]
    try simp (disch := first | omega | assumption) only [↓reduceIte, Nat.reduceEqDiff, Option.bind_some, ao_let, t_le, f_le, t_lt, f_lt, f_eq, u_eq, u_n1, u_n2, n_cl, n_lt, n_le, n_eq, n_ltl, n_llt, n_lel, n_lle, n_eql, n_leq, n_add, n_mul, n_sub, n_addl, n_ladd, n_mull, n_lmul, n_subl, Int32.reduceLT, Int32.reduceLE, Int32.reduceAdd, Int32.reduceSub, Int32.reduceMul, Int32.reduceToNatClampNeg, not_false_eq_true, not_true_eq_false, or_false, false_or, or_self, and_self, false_and, true_and, and_false, and_true, true_or, or_true, Nat.reduceAdd, Nat.reduceMul, Nat.reduceLT, Nat.reduceLeDiff, ne_eq, n_ell, f4, gX12_level, q57, Nat.add_sub_cancel, e65]
    exact hv_bind hP (fun y hy => hy)
  -- the class, down to the question
  unfold gX2_step
  refine hv_up (fun _ => fX2_step.eq_2 ..) ?_
  try simp only [↓reduceIte, Nat.reduceEqDiff, Option.bind_some, ao_let, n_ell, f1, hR, b1, b2, b3, b4, b5, b6, b7, b8, b9, b10, b11, b12, b13, t10, i1]
  try simp (disch := first | omega | assumption) only [↓reduceIte, Nat.reduceEqDiff, Option.bind_some, ao_let, t_le, f_le, t_lt, f_lt, f_eq, u_eq, u_n1, u_n2, n_cl, n_lt, n_le, n_eq, n_ltl, n_llt, n_lel, n_lle, n_eql, n_leq, n_add, n_mul, n_sub, n_addl, n_ladd, n_mull, n_lmul, n_subl, Int32.reduceLT, Int32.reduceLE, Int32.reduceAdd, Int32.reduceSub, Int32.reduceMul, Int32.reduceToNatClampNeg, not_false_eq_true, not_true_eq_false, or_false, false_or, or_self, and_self, false_and, true_and, and_false, and_true, true_or, or_true, Nat.reduceAdd, Nat.reduceMul, Nat.reduceLT, Nat.reduceLeDiff, ne_eq, n_ell, f1, hR, b1, b2, b3, b4, b5, b6, b7, b8, b9, b10, b11, b12, b13, t10, i1]
  generalize hC1 : ao_u C (92 + 71 * t) 3 (nI (a + 1)) = C1 at hF1 hM1 cu ⊢
  refine hv_bind (P := fun y => hv (fun n => gX12_step n 537 (nI t) D σ) (fun w => EndE nw bw br y w)) ?_ ?_
  rotate_left 1
  · intro y hy
    refine hv_up (fun _ => fX2_step.eq_2 ..) ?_
    try simp only [↓reduceIte, Nat.reduceEqDiff, Option.bind_some, ao_let, n_ell]
    try simp (disch := first | omega | assumption) only [↓reduceIte, Nat.reduceEqDiff, Option.bind_some, ao_let, t_le, f_le, t_lt, f_lt, f_eq, u_eq, u_n1, u_n2, n_cl, n_lt, n_le, n_eq, n_ltl, n_llt, n_lel, n_lle, n_eql, n_leq, n_add, n_mul, n_sub, n_addl, n_ladd, n_mull, n_lmul, n_subl, Int32.reduceLT, Int32.reduceLE, Int32.reduceAdd, Int32.reduceSub, Int32.reduceMul, Int32.reduceToNatClampNeg, not_false_eq_true, not_true_eq_false, or_false, false_or, or_self, and_self, false_and, true_and, and_false, and_true, true_or, or_true, Nat.reduceAdd, Nat.reduceMul, Nat.reduceLT, Nat.reduceLeDiff, ne_eq, n_ell]
    exact hv_some hy
  have c8 : C1 (92 + 71 * t) 8 = nI (0 + 1) := by rw [cu _ _ (by omega)]; exact h8
  have ckd : C1 kd 0 = nI len := by rw [cu _ _ (by omega)]; exact b12
  have c1b : C1 (92 + 71 * t + 8) 8 = nI b := by rw [cu _ _ (by omega)]; exact e1
  have ca3 : C1 a3 b = nI B := by rw [cu _ _ (by omega)]; exact hseb
  have hl := LvS_of f2 ht (show 0 < 10 by omega)
  rw [Nat.mul_zero, Nat.add_zero] at hl
  have c81 : C1 (92 + 71 * t) 8 = nI 1 := c8
  unfold gX2_closeLevel
  refine hv_up (fun _ => fX2_closeLevel.eq_2 ..) ?_
  try simp only [↓reduceIte, Nat.reduceEqDiff, Option.bind_some, ao_let, n_ell, hR, c81, b1]
  try simp (disch := first | omega | assumption) only [↓reduceIte, Nat.reduceEqDiff, Option.bind_some, ao_let, t_le, f_le, t_lt, f_lt, f_eq, u_eq, u_n1, u_n2, n_cl, n_lt, n_le, n_eq, n_ltl, n_llt, n_lel, n_lle, n_eql, n_leq, n_add, n_mul, n_sub, n_addl, n_ladd, n_mull, n_lmul, n_subl, Int32.reduceLT, Int32.reduceLE, Int32.reduceAdd, Int32.reduceSub, Int32.reduceMul, Int32.reduceToNatClampNeg, not_false_eq_true, not_true_eq_false, or_false, false_or, or_self, and_self, false_and, true_and, and_false, and_true, true_or, or_true, Nat.reduceAdd, Nat.reduceMul, Nat.reduceLT, Nat.reduceLeDiff, ne_eq, n_ell, hR, c81, b1]
  refine hv_bind (P := fun y => y = (92 + 71 * t + 8, C1)) (by
    have := c_inn (j := 0) (C2 := C1) (Q := fun y => y = (92 + 71 * t + 8, C1)) f2 ht (by omega) c8 rfl
    exact this) ?_
  rintro _ rfl
  try simp only [↓reduceIte, Nat.reduceEqDiff, Option.bind_some, ao_let, n_ell, f1, hl, b2, gX1_secondAt, c1b, ckd, b5, b8, b11, ca3, c81]
  try simp (disch := first | omega | assumption) only [↓reduceIte, Nat.reduceEqDiff, Option.bind_some, ao_let, t_le, f_le, t_lt, f_lt, f_eq, u_eq, u_n1, u_n2, n_cl, n_lt, n_le, n_eq, n_ltl, n_llt, n_lel, n_lle, n_eql, n_leq, n_add, n_mul, n_sub, n_addl, n_ladd, n_mull, n_lmul, n_subl, Int32.reduceLT, Int32.reduceLE, Int32.reduceAdd, Int32.reduceSub, Int32.reduceMul, Int32.reduceToNatClampNeg, not_false_eq_true, not_true_eq_false, or_false, false_or, or_self, and_self, false_and, true_and, and_false, and_true, true_or, or_true, Nat.reduceAdd, Nat.reduceMul, Nat.reduceLT, Nat.reduceLeDiff, ne_eq, n_ell, f1, hl, b2, gX1_secondAt, c1b, ckd, b5, b8, b11, ca3, c81]
  refine hv_bind (me_P hF1 ht hM1 h1) ?_
  rintro ⟨yb, C2, ρ2⟩ ⟨Nw, ⟨wb, D2, σ2⟩, ew, hME⟩
  dsimp only [MayE] at hME
  rcases hME with ⟨e1', e2', kp', hfu⟩ | ⟨e1', e2', kp', u1, u2, iC, iD, i12⟩
  · subst e1' e2'
    refine hv_up (fun _ => fX2_closeLevel.eq_2 ..) ?_
    simp only [↓reduceIte, Nat.reduceEqDiff]
    refine hv_some (dst ⟨Nw, _, ew, ?_⟩)
    generalize hEv : EndE nw bw br (1, C2, ρ2) = P
    refine hv_up (fun _ => fX12_endBlock.eq_2 ..) ?_
    simp only [↓reduceIte, Nat.reduceEqDiff]
    refine hv_some ?_
    rw [← hEv]
    exact ⟨kp', rc, rfl, (show ¬ (1 : Int32) < 0 by decide), hfu⟩
  · subst e1' e2'
    obtain ⟨⟨h21, h22, h23, h24⟩, -⟩ := id u1
    have hR2 := RnS_of h22 ht
    obtain ⟨Cf, ρf, Df, σf, kp2, q1, q2, q3⟩ := fin_P (nI (ns (N b))) (nI (φ a + 1)) u1 ht u2 h1
    have d57 : D2 557 t = nI (ns (N b) + 1) := by rw [inD_1 iD (by omega)]; exact q57
    have d52 : D2 552 t = nI (φ a) := by rw [inD_1 iD (by omega)]; exact t11
    have ed : dcd D2 t = dcd D t := by
      funext x
      unfold dcd
      by_cases q : x < 18000
      · rw [if_pos q, if_pos q, iD 550 _ (by omega) (by omega) (show t * 18000 ≤ _ by omega) (show _ < (t + 1) * 18000 by omega)]
      · rw [if_neg q, if_neg q]
    have hfull := cl_end (q := φ a + 1) u1 ht u2 hNa hnb hNB hBl hHB (by rw [iC _ _ (by omega) (by omega), cu _ _ (by omega)]; exact hst5) (by rw [inD_1 iD (by omega)]; exact hst55) q3 rfl rfl (by omega) (by
      rw [ed]
      rcases hgo with e | e
      · exact Or.inl e.symm
      · exact Or.inr e)
    have hRf := RnS_of hfull.1.2.1 ht
    refine hv_up (fun _ => fX2_closeLevel.eq_2 ..) ?_
    simp only [↓reduceIte, Nat.reduceEqDiff, show ((1 : Int32) = 0) = False from by decide, h21]
    refine hv_bind (P := fun y => y = (Cf, ρf)) q1 ?_
    rintro _ rfl
    refine hv_up (fun _ => fX2_closeLevel.eq_2 ..) ?_
    try simp only [↓reduceIte, Nat.reduceEqDiff, Option.bind_some, ao_let, n_ell, hRf]
    try simp (disch := first | omega | assumption) only [↓reduceIte, Nat.reduceEqDiff, Option.bind_some, ao_let, t_le, f_le, t_lt, f_lt, f_eq, u_eq, u_n1, u_n2, n_cl, n_lt, n_le, n_eq, n_ltl, n_llt, n_lel, n_lle, n_eql, n_leq, n_add, n_mul, n_sub, n_addl, n_ladd, n_mull, n_lmul, n_subl, Int32.reduceLT, Int32.reduceLE, Int32.reduceAdd, Int32.reduceSub, Int32.reduceMul, Int32.reduceToNatClampNeg, not_false_eq_true, not_true_eq_false, or_false, false_or, or_self, and_self, false_and, true_and, and_false, and_true, true_or, or_true, Nat.reduceAdd, Nat.reduceMul, Nat.reduceLT, Nat.reduceLeDiff, ne_eq, n_ell, hRf]
    refine hv_some (dst ⟨Nw, _, ew, ?_⟩)
    have fin : EndE nw bw br (0, ao_u Cf (92 + 71 * t) 3 (nI B), ρf) (0, Df, σf) := ⟨kp2, rc, rfl, (show ¬ (0 : Int32) < 0 by decide), hfull⟩
    generalize EndE nw bw br (0, ao_u Cf (92 + 71 * t) 3 (nI B), ρf) = P at fin ⊢
    clear hfull q3 u1 u2
    refine hv_up (fun _ => fX12_endBlock.eq_2 ..) ?_
    try simp only [↓reduceIte, Nat.reduceEqDiff, Option.bind_some, ao_let, n_ell, h24, d57, d52, Nat.add_sub_cancel, show ((1 : Int32) = 0) = False from by decide]
    try simp (disch := first | omega | assumption) only [↓reduceIte, Nat.reduceEqDiff, Option.bind_some, ao_let, t_le, f_le, t_lt, f_lt, f_eq, u_eq, u_n1, u_n2, n_cl, n_lt, n_le, n_eq, n_ltl, n_llt, n_lel, n_lle, n_eql, n_leq, n_add, n_mul, n_sub, n_addl, n_ladd, n_mull, n_lmul, n_subl, Int32.reduceLT, Int32.reduceLE, Int32.reduceAdd, Int32.reduceSub, Int32.reduceMul, Int32.reduceToNatClampNeg, not_false_eq_true, not_true_eq_false, or_false, false_or, or_self, and_self, false_and, true_and, and_false, and_true, true_or, or_true, Nat.reduceAdd, Nat.reduceMul, Nat.reduceLT, Nat.reduceLeDiff, ne_eq, n_ell, h24, d57, d52, Nat.add_sub_cancel, show ((1 : Int32) = 0) = False from by decide]
    refine hv_bind (P := fun y => y = (Df, σf)) q2 ?_
    rintro _ rfl
    refine hv_up (fun _ => fX12_endBlock.eq_2 ..) ?_
    try simp only [↓reduceIte, Nat.reduceEqDiff, Option.bind_some, ao_let, n_ell]
    try simp (disch := first | omega | assumption) only [↓reduceIte, Nat.reduceEqDiff, Option.bind_some, ao_let, t_le, f_le, t_lt, f_lt, f_eq, u_eq, u_n1, u_n2, n_cl, n_lt, n_le, n_eq, n_ltl, n_llt, n_lel, n_lle, n_eql, n_leq, n_add, n_mul, n_sub, n_addl, n_ladd, n_mull, n_lmul, n_subl, Int32.reduceLT, Int32.reduceLE, Int32.reduceAdd, Int32.reduceSub, Int32.reduceMul, Int32.reduceToNatClampNeg, not_false_eq_true, not_true_eq_false, or_false, false_or, or_self, and_self, false_and, true_and, and_false, and_true, true_or, or_true, Nat.reduceAdd, Nat.reduceMul, Nat.reduceLT, Nat.reduceLeDiff, ne_eq, n_ell]
    exact hv_some fin
end Sta4
