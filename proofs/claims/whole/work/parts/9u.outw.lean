set_option linter.unusedSimpArgs false
set_option linter.unusedVariables false
theorem Rpl_clk {kp : Nat} {C D C' D' : ao_M} {ρ σ : ao_H} (r : Rpl kp C ρ D σ) (hC : ∀ x i, (13 ≤ x ∧ x ≤ 21 ∨ 599 ≤ x) → ¬ (x = 13 ∧ i = 4) → C' x i = C x i) (hD : ∀ x i, (x = 537 ∧ i = 25 ∨ 542 ≤ x ∧ x ≤ 549 ∨ 599 ≤ x) → D' x i = D x i) (h : C' 13 4 = D' 537 26) : Rpl kp C' ρ D' σ := by
  obtain ⟨f, g, hh, pc, pd, ch, ev, ec⟩ := r
  refine ⟨f, g, hh, PLc_mv pc (hC _ _ (by omega) (by omega)) (hC _ _ (by omega) (by omega)) (fun x hx => funext fun i => hC x i (by omega) (by omega)), PLd_mv pd (hD _ _ (by omega)) (fun x hx => funext fun i => hD x i (by omega)), ch, fun p hp => ?_, h⟩
  rw [hC 14 p (by omega) (by omega), hC 15 p (by omega) (by omega), hC 16 p (by omega) (by omega), hC 17 p (by omega) (by omega), hC 18 p (by omega) (by omega), hD 542 p (by omega), hD 543 p (by omega), hD 544 p (by omega), hD 545 p (by omega), hD 546 p (by omega)]
  exact ev p hp
section St9u
variable {C D : ao_M} {ρ σ : ao_H} {kp rc nw bw br t s len kd a1 a2 a3 a : Nat} {φ : Nat → Nat} {N : Ns} {H K : Nat → Nat}
set_option maxHeartbeats 2000000 in
theorem st_write1 (hF : Full C ρ D σ kp rc nw bw br) (ht : t < 6) (ho : Opn C ρ D rc t s len kd a1 a2 a3 φ N H K a) (ha : a < len) (h : C a1 a = 11 ∧ dcd D t (3 * φ a) = 10 ∧ (∃ r, r < 26 ∧ C a2 a = nI r ∧ dcd D t (3 * φ a + 1) = nI r) ∧ H a = 1 ∧ nxt φ N H K a 1 0) (es : s = 1) (hb8 : bw + 1 ≤ 28000) :
    hv (fun n => gX2_step n 12 (92 + 71 * t) C ρ) (fun y => hv (fun n => gX12_step n 537 (nI t) D σ) (fun w => EndP (kp + 1) rc nw (bw + 1) br y w)) := by
  subst es
  obtain ⟨i1, i2, ⟨p, hp, i4, i5⟩, i3, j1, j2, j3, j4⟩ := h
  have ho' := ho
  have hF' := hF
  obtain ⟨hcat, cok, tc⟩ := ho
  obtain ⟨⟨f1, f2, f3, f4⟩, fR, ⟨-, -, fX⟩, -, -, fRc, -, -, -, ⟨fe1, fe2, -⟩, fbw, -⟩ := hF
  obtain ⟨t1, t2, t3, t4, t5, t6, t7, t8, t9, t10, t11, t12, t13, t14, t15⟩ := tc
  have hR := RnS_of f2 ht
  obtain ⟨g0, g1, g2, g3⟩ := d_ins (C := C) (rc := rc) (s := 1) cok t9
  rw [i2] at g1
  rw [i5] at g2
  rw [i3] at t12
  obtain ⟨p1, p2, p3⟩ := t14 rfl
  have hkp : kp ≤ 28000 := by
    by_cases q : D 537 27 = 3 ∨ D 537 27 = 4
    · have := fe1 q; omega
    · have := fe2 q; omega
  have hlen := cok.1
  obtain ⟨b1, b2, b3, b4, b5, b6, b7, b8, b9, b10, b11, b12, b13, b14, b15, b16, b17, b18⟩ := hcat
  have hmode : (D 551 t = 2) = False := by
    rw [t3]
    exact eq_false (by decide)
  obtain ⟨-, -, -, -, x6, x65, -⟩ := fX
  obtain ⟨k, k1, k2, k3, -⟩ := id fRc
  have ev0 := t12.2.2 0 (by omega)
  obtain ⟨hst5, hst55, -⟩ := t12
  have hclk : C 13 4 = D 537 26 := by
    obtain ⟨f, g, h, pc, pd, ch, ev, ec⟩ := fR
    exact ec
  clear t1 t13 t14 t15 fe1 fe2
  generalize hv0 : D 554 (t * 64 + 0) = v at ev0
  rw [Nat.add_zero] at hv0
  unfold gX2_step
  refine hv_up (fun _ => fX2_step.eq_2 ..) ?_
  try simp only [↓reduceIte, Nat.reduceEqDiff, Option.bind_some, ao_let, n_ell, f1, hR, b1, b2, b3, b4, b5, b6, b7, b8, b9, b10, b11, b12, b13, t10, i1, i4]
  try simp (disch := first | omega | assumption) only [↓reduceIte, Nat.reduceEqDiff, Option.bind_some, ao_let, t_le, f_le, t_lt, f_lt, f_eq, u_eq, u_n1, u_n2, n_cl, n_lt, n_le, n_eq, n_ltl, n_llt, n_lel, n_lle, n_eql, n_leq, n_add, n_mul, n_sub, n_addl, n_ladd, n_mull, n_lmul, n_subl, Int32.reduceLT, Int32.reduceLE, Int32.reduceAdd, Int32.reduceSub, Int32.reduceMul, Int32.reduceToNatClampNeg, not_false_eq_true, not_true_eq_false, or_false, false_or, or_self, and_self, false_and, true_and, and_false, and_true, true_or, or_true, Nat.reduceAdd, Nat.reduceMul, Nat.reduceLT, Nat.reduceLeDiff, ne_eq, n_ell, f1, hR, b1, b2, b3, b4, b5, b6, b7, b8, b9, b10, b11, b12, b13, t10, i1, i4]
  rw [c_pop (h := 0) hR (by rw [u_n2 (by omega)]; exact hst5) (by omega)]
  rw [u_n1 (by omega), ev0]
  try simp only [↓reduceIte, Nat.reduceEqDiff, Option.bind_some, ao_let, n_ell]
  try simp (disch := first | omega | assumption) only [↓reduceIte, Nat.reduceEqDiff, Option.bind_some, ao_let, t_le, f_le, t_lt, f_lt, f_eq, u_eq, u_n1, u_n2, n_cl, n_lt, n_le, n_eq, n_ltl, n_llt, n_lel, n_lle, n_eql, n_leq, n_add, n_mul, n_sub, n_addl, n_ladd, n_mull, n_lmul, n_subl, Int32.reduceLT, Int32.reduceLE, Int32.reduceAdd, Int32.reduceSub, Int32.reduceMul, Int32.reduceToNatClampNeg, not_false_eq_true, not_true_eq_false, or_false, false_or, or_self, and_self, false_and, true_and, and_false, and_true, true_or, or_true, Nat.reduceAdd, Nat.reduceMul, Nat.reduceLT, Nat.reduceLeDiff, ne_eq, n_ell]
  refine hv_bind (P := fun y => hv (fun n => gX12_step n 537 (nI t) D σ) (fun w => EndP (kp + 1) rc nw (bw + 1) br y w)) ?_ ?_
  rotate_left 1
  · intro y hy
    refine hv_up (fun _ => fX2_step.eq_2 ..) ?_
    try simp only [↓reduceIte, Nat.reduceEqDiff, Option.bind_some, ao_let, n_ell]
    try simp (disch := first | omega | assumption) only [↓reduceIte, Nat.reduceEqDiff, Option.bind_some, ao_let, t_le, f_le, t_lt, f_lt, f_eq, u_eq, u_n1, u_n2, n_cl, n_lt, n_le, n_eq, n_ltl, n_llt, n_lel, n_lle, n_eql, n_leq, n_add, n_mul, n_sub, n_addl, n_ladd, n_mull, n_lmul, n_subl, Int32.reduceLT, Int32.reduceLE, Int32.reduceAdd, Int32.reduceSub, Int32.reduceMul, Int32.reduceToNatClampNeg, not_false_eq_true, not_true_eq_false, or_false, false_or, or_self, and_self, false_and, true_and, and_false, and_true, true_or, or_true, Nat.reduceAdd, Nat.reduceMul, Nat.reduceLT, Nat.reduceLeDiff, ne_eq, n_ell]
    exact hv_some hy
  unfold gX2_write
  refine hv_up (fun _ => fX2_write.eq_2 ..) ?_
  try simp only [↓reduceIte, Nat.reduceEqDiff, Option.bind_some, ao_let, n_ell, f1, hR, p2]
  try simp (disch := first | omega | assumption) only [↓reduceIte, Nat.reduceEqDiff, Option.bind_some, ao_let, t_le, f_le, t_lt, f_lt, f_eq, u_eq, u_n1, u_n2, n_cl, n_lt, n_le, n_eq, n_ltl, n_llt, n_lel, n_lle, n_eql, n_leq, n_add, n_mul, n_sub, n_addl, n_ladd, n_mull, n_lmul, n_subl, Int32.reduceLT, Int32.reduceLE, Int32.reduceAdd, Int32.reduceSub, Int32.reduceMul, Int32.reduceToNatClampNeg, not_false_eq_true, not_true_eq_false, or_false, false_or, or_self, and_self, false_and, true_and, and_false, and_true, true_or, or_true, Nat.reduceAdd, Nat.reduceMul, Nat.reduceLT, Nat.reduceLeDiff, ne_eq, n_ell, f1, hR, p2]
  -- both change the place
  have r1 : Rpl kp (ao_u (ao_u (ao_u C (92 + 71 * t) 3 (nI (a + 1))) (92 + 71 * t) 5 (nI 0)) 13 4 (C 13 4 + 1)) ρ (ao_u (ao_u D 555 t (nI 0)) 537 26 (D 537 26 + 1)) σ := by
    refine Rpl_clk fR (fun x i h1 h2 => by rw [u_ne (by omega), u_ne (by omega), u_ne (by omega)]) (fun x i h1 => by rw [u_ne (by omega), u_ne (by omega)]) (by rw [u_eq, u_eq, hclk])
  refine hv_bind (ch_pair (v := v) f1 f4 hp (by omega) r1) ?_
  rintro ⟨C1, ρ1⟩ ⟨Nd, ⟨D1, σ1⟩, ed, hr2, hFC, hFD, hq, -⟩
  dsimp only at hr2 hFC hFD hq
  have zc := sh_zc fR
  have zd := sh_zd fR
  have npc : ∀ x, (x < 19 ∨ 21 < x) ∧ x < 599 → ¬ PAc ρ x := fun x hx => Rpl_nc fR hx
  have npd : ∀ x, (x < 547 ∨ 549 < x) ∧ x < 599 → ¬ PAd σ x := fun x hx => Rpl_nd fR hx
  have f11 := HxC_shA hFC.1 zc f1
  have f12 := HxC_shB hFC.1 zc f2
  have f13 := HxC_shG hFC.1 zc f3
  have f14 := HxD_sh hFD.1 zd f4
  have hR1 := RnS_of f12 ht
  have cl : ∀ x i, (x < 13 ∨ 22 ≤ x ∧ x < 599) → C1 x i = ao_u (ao_u C (92 + 71 * t) 3 (nI (a + 1))) (92 + 71 * t) 5 (nI 0) x i := fun x i h1 => by
    rw [hFC.2 x i (by omega) (npc x (by omega)) (fun z hz => by have := zc z hz; omega), u_n1 (by omega)]
  have dl : ∀ x i, x < 599 → ¬ (x = 537 ∧ (i = 25 ∨ i = 26)) → (x < 542 ∨ 549 < x) → D1 x i = ao_u D 555 t (nI 0) x i := fun x i h0 h1 h2 => by
    rw [hFD.2 x i h1 (by omega) (npd x (by omega)) (fun z hz => by have := zd z hz; omega), u_ne (by omega)]
  have c0 : C1 (92 + 71 * t) 0 = nI t := by rw [cl _ _ (by omega), u_n2 (by omega), u_n2 (by omega)]; exact t4
  have c6 : C1 12 6 = nI (nw / 2) := by rw [cl _ _ (by omega), u_n1 (by omega), u_n1 (by omega)]; exact x6
  have c259 : C1 25 9 = nI k := by rw [cl _ _ (by omega), u_n1 (by omega), u_n1 (by omega)]; exact k2
  refine hv_up (fun _ => fX2_write.eq_2 ..) ?_
  try simp only [↓reduceIte, Nat.reduceEqDiff, Option.bind_some, ao_let, n_ell, f11, hR1, c0, c6]
  try simp (disch := first | omega | assumption) only [↓reduceIte, Nat.reduceEqDiff, Option.bind_some, ao_let, t_le, f_le, t_lt, f_lt, f_eq, u_eq, u_n1, u_n2, n_cl, n_lt, n_le, n_eq, n_ltl, n_llt, n_lel, n_lle, n_eql, n_leq, n_add, n_mul, n_sub, n_addl, n_ladd, n_mull, n_lmul, n_subl, Int32.reduceLT, Int32.reduceLE, Int32.reduceAdd, Int32.reduceSub, Int32.reduceMul, Int32.reduceToNatClampNeg, not_false_eq_true, not_true_eq_false, or_false, false_or, or_self, and_self, false_and, true_and, and_false, and_true, true_or, or_true, Nat.reduceAdd, Nat.reduceMul, Nat.reduceLT, Nat.reduceLeDiff, ne_eq, n_ell, f11, hR1, c0, c6]
  refine hv_bind (rb_begin (k := k) f11 k1 c259 (fun C2 h => h)) ?_
  intro C2 hC2
  refine hv_bind (rb_write (p := p) (v := v) f11 f13 hC2 (by simp) (fun C3 h => h)) ?_
  intro C3 hC3
  refine hv_some ?_
  clear hC2
  obtain ⟨k', k1', k2', h0, -⟩ := id hC3
  -- the end
  have fin : ∀ D2 : ao_M, (∀ x i, ¬ (x = 537 ∧ i = 76) → ¬ (587 ≤ x ∧ x ≤ 593) → D2 x i = D1 x i) → (k = 300 → D2 537 76 = D1 537 76 ∧ ∀ x i, 587 ≤ x → x ≤ 593 → D2 x i = D1 x i) → (k < 300 → D2 537 76 = nI (k + 1) ∧ D2 587 k = nI t ∧ D2 588 k = nI (nw / 2) ∧ D2 589 k = nI (nw / 2) ∧ (∀ x i, 587 ≤ x → x ≤ 589 → i ≠ k → D2 x i = D1 x i) ∧ (∀ x i, 590 ≤ x → x ≤ 593 → i < k * 26 → D2 x i = D1 x i) ∧ RowD D2 592 590 k [] ∧ RowD D2 593 591 k [(p, v)]) → EndP (kp + 1) rc nw (bw + 1) br (0, C3, ρ1) (0, ao_u D2 552 t (nI (φ a + 1)), σ1) := by
    intro D2 q1 q2 q3
    refine ⟨rfl, (show ¬ (0 : Int32) < 0 by decide), ?_⟩
    have hRc1 : Rrc C1 D1 := Rrc_fr fRc (fun x i h1 h2 => by rw [cl _ _ (by omega), u_n1 (by omega), u_n1 (by omega)]) (by rw [dl _ _ (by omega) (by omega) (by omega), u_n1 (by omega)]) (fun x i h1 h2 => by rw [dl _ _ (by omega) (by omega) (by omega), u_n1 (by omega)])
    have hRc3 : Rrc C3 D2 := rec_fin (k := k) hRc1 hC3 c259 k1 q2 q3
    clear f1 f2 f3 f4 hR q2 q3 f11 f12 f13 f14 hR1
    show Full C3 ρ1 (ao_u D2 552 t (nI (φ a + 1))) σ1 (kp + 1) rc nw (bw + 1) br
    obtain ⟨hx1, hx2⟩ := hFC
    obtain ⟨hy1, hy2⟩ := hFD
    have hX3 : HxC C ρ C3 ρ1 := by
      obtain ⟨z, z', v1, v2, v3, v4, v5, v6, v8, v9⟩ := hx1
      have er0 : rmC (ao_u (ao_u (ao_u C (92 + 71 * t) 3 (nI (a + 1))) (92 + 71 * t) 5 (nI 0)) 13 4 (C 13 4 + 1)) = rmC C := by
        unfold rmC
        rw [u_n2 (by omega), u_n1 (by omega), u_n1 (by omega)]
      have er1 : rmC C3 = rmC C1 := by
        unfold rmC
        rw [h0 _ _ (by omega)]
      rw [er0] at v8 v9
      exact ⟨z, z', v1, v2, v3, v4, v5, v6, by rw [er1]; exact v8, by rw [er1]; exact v9⟩
    refine out_fin (a' := a + 1) hF' ht ho' j2 (by omega) hX3 hy1 (fun x i h1 h2 h3 h4 h5 h6 => ?_) (fun x i h1 h2 h3 h4 h5 h6 h7 => ?_) ?_ (fun q hq' => ?_) (Rrc_fr hRc3 (fun _ _ _ _ => rfl) (u_n1 (by omega)) (fun x i h1 h2 => u_n1 (by omega))) ?_ ?_ ?_ (by omega) hb8
    · rw [h0 x i (by omega), hx2 x i (by omega) h5 h6, u_ne (by omega), u_ne (by omega), u_ne (by omega)]
    · rw [u_ne (by omega), q1 x i (by omega) (by omega), hy2 x i (by omega) (by omega) h6 h7, u_ne (by omega), u_ne (by omega)]
    · exact Rpl_cell (k := 0) hr2 (fun x i hx => h0 x i (by omega)) (fun x i hx => by rw [u_ne (by omega)]; exact q1 x i (by omega) (by omega))
    · rw [h0 _ _ (by omega), (hq q hq').2.2, u_n1 (by omega), u_n1 (by omega), u_n1 (by omega)]
    · rw [h0 _ _ (by omega), cl _ _ (by omega), u_n2 (by omega), u_eq]
    · rw [u_eq, j1]
    · rw [j3]
      refine ⟨?_, ?_, fun i hi => absurd hi (by omega)⟩
      · rw [h0 _ _ (by omega), cl _ _ (by omega), u_eq]
      · rw [u_n1 (by omega), q1 _ _ (by omega) (by omega), dl _ _ (by omega) (by omega) (by omega), u_eq]
  have hd65 : D1 537 65 = nI (nw / 2) := by rw [dl _ _ (by omega) (by omega) (by omega), u_n1 (by omega)]; exact x65
  have hd76 : D1 537 76 = nI k := by rw [dl _ _ (by omega) (by omega) (by omega), u_n1 (by omega)]; exact k3
  have hd52 : ∀ D2 : ao_M, (∀ x i, ¬ (x = 537 ∧ i = 76) → ¬ (587 ≤ x ∧ x ≤ 593) → D2 x i = D1 x i) → D2 552 t = nI (φ a) := fun D2 h => by rw [h _ _ (by omega) (by omega), dl _ _ (by omega) (by omega) (by omega), u_n1 (by omega)]; exact t11
  clear hFC hFD hr2 hC3 cl dl npc npd zc zd hq h0
  unfold gX12_step
  refine hv_up (fun _ => fX12_step.eq_2 ..) ?_
  try simp only [↓reduceIte, Nat.reduceEqDiff, Option.bind_some, ao_let, n_ell, f4, t11, g1, g2]
  try simp (disch := first | omega | assumption) only [↓reduceIte, Nat.reduceEqDiff, Option.bind_some, ao_let, t_le, f_le, t_lt, f_lt, f_eq, u_eq, u_n1, u_n2, n_cl, n_lt, n_le, n_eq, n_ltl, n_llt, n_lel, n_lle, n_eql, n_leq, n_add, n_mul, n_sub, n_addl, n_ladd, n_mull, n_lmul, n_subl, Int32.reduceLT, Int32.reduceLE, Int32.reduceAdd, Int32.reduceSub, Int32.reduceMul, Int32.reduceToNatClampNeg, not_false_eq_true, not_true_eq_false, or_false, false_or, or_self, and_self, false_and, true_and, and_false, and_true, true_or, or_true, Nat.reduceAdd, Nat.reduceMul, Nat.reduceLT, Nat.reduceLeDiff, ne_eq, n_ell, f4, t11, g1, g2]
  refine hv_bind (P := fun w => EndP (kp + 1) rc nw (bw + 1) br (0, C3, ρ1) w) ?_ ?_
  rotate_left 1
  · intro y hy
    refine hv_up (fun _ => fX12_step.eq_2 ..) ?_
    try simp only [↓reduceIte, Nat.reduceEqDiff, Option.bind_some, ao_let, n_ell]
    try simp (disch := first | omega | assumption) only [↓reduceIte, Nat.reduceEqDiff, Option.bind_some, ao_let, t_le, f_le, t_lt, f_lt, f_eq, u_eq, u_n1, u_n2, n_cl, n_lt, n_le, n_eq, n_ltl, n_llt, n_lel, n_lle, n_eql, n_leq, n_add, n_mul, n_sub, n_addl, n_ladd, n_mull, n_lmul, n_subl, Int32.reduceLT, Int32.reduceLE, Int32.reduceAdd, Int32.reduceSub, Int32.reduceMul, Int32.reduceToNatClampNeg, not_false_eq_true, not_true_eq_false, or_false, false_or, or_self, and_self, false_and, true_and, and_false, and_true, true_or, or_true, Nat.reduceAdd, Nat.reduceMul, Nat.reduceLT, Nat.reduceLeDiff, ne_eq, n_ell]
    exact hv_some hy
  unfold gX12_doWrite
  refine hv_up (fun _ => fX12_doWrite.eq_2 ..) ?_
  try simp only [↓reduceIte, Nat.reduceEqDiff, Option.bind_some, ao_let, n_ell, f4, d_pop (h := 0) f4 ht hst55 (by omega), hmode, Nat.add_zero, hv0]
  try simp (disch := first | omega | assumption) only [↓reduceIte, Nat.reduceEqDiff, Option.bind_some, ao_let, t_le, f_le, t_lt, f_lt, f_eq, u_eq, u_n1, u_n2, n_cl, n_lt, n_le, n_eq, n_ltl, n_llt, n_lel, n_lle, n_eql, n_leq, n_add, n_mul, n_sub, n_addl, n_ladd, n_mull, n_lmul, n_subl, Int32.reduceLT, Int32.reduceLE, Int32.reduceAdd, Int32.reduceSub, Int32.reduceMul, Int32.reduceToNatClampNeg, not_false_eq_true, not_true_eq_false, or_false, false_or, or_self, and_self, false_and, true_and, and_false, and_true, true_or, or_true, Nat.reduceAdd, Nat.reduceMul, Nat.reduceLT, Nat.reduceLeDiff, ne_eq, n_ell, f4, d_pop (h := 0) f4 ht hst55 (by omega), hmode, Nat.add_zero, hv0]
  refine hv_bind (P := fun y => y = (D1, σ1)) ?_ ?_
  · unfold gX12_change
    refine hv_up (fun _ => fX12_change.eq_2 ..) ?_
    try simp only [↓reduceIte, Nat.reduceEqDiff, Option.bind_some, ao_let, n_ell, f4]
    try simp (disch := first | omega | assumption) only [↓reduceIte, Nat.reduceEqDiff, Option.bind_some, ao_let, t_le, f_le, t_lt, f_lt, f_eq, u_eq, u_n1, u_n2, n_cl, n_lt, n_le, n_eq, n_ltl, n_llt, n_lel, n_lle, n_eql, n_leq, n_add, n_mul, n_sub, n_addl, n_ladd, n_mull, n_lmul, n_subl, Int32.reduceLT, Int32.reduceLE, Int32.reduceAdd, Int32.reduceSub, Int32.reduceMul, Int32.reduceToNatClampNeg, not_false_eq_true, not_true_eq_false, or_false, false_or, or_self, and_self, false_and, true_and, and_false, and_true, true_or, or_true, Nat.reduceAdd, Nat.reduceMul, Nat.reduceLT, Nat.reduceLeDiff, ne_eq, n_ell, f4]
    refine hv_bind (P := fun y => y = (D1, σ1)) ⟨Nd, _, ed, rfl⟩ ?_
    rintro _ rfl
    refine hv_up (fun _ => fX12_change.eq_2 ..) ?_
    try simp only [↓reduceIte, Nat.reduceEqDiff, Option.bind_some, ao_let, n_ell]
    try simp (disch := first | omega | assumption) only [↓reduceIte, Nat.reduceEqDiff, Option.bind_some, ao_let, t_le, f_le, t_lt, f_lt, f_eq, u_eq, u_n1, u_n2, n_cl, n_lt, n_le, n_eq, n_ltl, n_llt, n_lel, n_lle, n_eql, n_leq, n_add, n_mul, n_sub, n_addl, n_ladd, n_mull, n_lmul, n_subl, Int32.reduceLT, Int32.reduceLE, Int32.reduceAdd, Int32.reduceSub, Int32.reduceMul, Int32.reduceToNatClampNeg, not_false_eq_true, not_true_eq_false, or_false, false_or, or_self, and_self, false_and, true_and, and_false, and_true, true_or, or_true, Nat.reduceAdd, Nat.reduceMul, Nat.reduceLT, Nat.reduceLeDiff, ne_eq, n_ell]
    exact hv_some rfl
  rintro _ rfl
  refine hv_up (fun _ => fX12_doWrite.eq_2 ..) ?_
  try simp only [↓reduceIte, Nat.reduceEqDiff, Option.bind_some, ao_let, n_ell, f14, hd65]
  try simp (disch := first | omega | assumption) only [↓reduceIte, Nat.reduceEqDiff, Option.bind_some, ao_let, t_le, f_le, t_lt, f_lt, f_eq, u_eq, u_n1, u_n2, n_cl, n_lt, n_le, n_eq, n_ltl, n_llt, n_lel, n_lle, n_eql, n_leq, n_add, n_mul, n_sub, n_addl, n_ladd, n_mull, n_lmul, n_subl, Int32.reduceLT, Int32.reduceLE, Int32.reduceAdd, Int32.reduceSub, Int32.reduceMul, Int32.reduceToNatClampNeg, not_false_eq_true, not_true_eq_false, or_false, false_or, or_self, and_self, false_and, true_and, and_false, and_true, true_or, or_true, Nat.reduceAdd, Nat.reduceMul, Nat.reduceLT, Nat.reduceLeDiff, ne_eq, n_ell, f14, hd65]
  refine hv_bind (P := fun y => k = 300 ∧ y = (-1, D1) ∨ k < 300 ∧ y = (nI k, nrD k (nI t) (nI (nw / 2)) D1)) (d_new f14 k1 hd76 (fun e => Or.inl ⟨e, rfl⟩) (fun e => Or.inr ⟨e, rfl⟩)) ?_
  have dE : ∀ {D2 : ao_M}, D2 552 t = nI (φ a) → EndP (kp + 1) rc nw (bw + 1) br (0, C3, ρ1) (0, ao_u D2 552 t (nI (φ a + 1)), σ1) → hv (fun n => fX12_doWrite n 76 537 (nI t) (nI p) v 0 D2 σ1) (fun w => EndP (kp + 1) rc nw (bw + 1) br (0, C3, ρ1) w) := by
    intro D2 q2 hP
    generalize EndP (kp + 1) rc nw (bw + 1) br (0, C3, ρ1) = P at hP ⊢
    refine hv_up (fun _ => fX12_doWrite.eq_2 ..) ?_
    try simp only [↓reduceIte, Nat.reduceEqDiff, Option.bind_some, ao_let, n_ell, f14, q2]
    try simp (disch := first | omega | assumption) only [↓reduceIte, Nat.reduceEqDiff, Option.bind_some, ao_let, t_le, f_le, t_lt, f_lt, f_eq, u_eq, u_n1, u_n2, n_cl, n_lt, n_le, n_eq, n_ltl, n_llt, n_lel, n_lle, n_eql, n_leq, n_add, n_mul, n_sub, n_addl, n_ladd, n_mull, n_lmul, n_subl, Int32.reduceLT, Int32.reduceLE, Int32.reduceAdd, Int32.reduceSub, Int32.reduceMul, Int32.reduceToNatClampNeg, not_false_eq_true, not_true_eq_false, or_false, false_or, or_self, and_self, false_and, true_and, and_false, and_true, true_or, or_true, Nat.reduceAdd, Nat.reduceMul, Nat.reduceLT, Nat.reduceLeDiff, ne_eq, n_ell, f14, q2]
    exact hv_some hP
  generalize EndP (kp + 1) rc nw (bw + 1) br (0, C3, ρ1) = P at fin dE ⊢
  rintro y (⟨e, rfl⟩ | ⟨e, rfl⟩)
  · try simp only [↓reduceIte, Nat.reduceEqDiff, Option.bind_some, ao_let, n_ell, n_g1]
    try simp (disch := first | omega | assumption) only [↓reduceIte, Nat.reduceEqDiff, Option.bind_some, ao_let, t_le, f_le, t_lt, f_lt, f_eq, u_eq, u_n1, u_n2, n_cl, n_lt, n_le, n_eq, n_ltl, n_llt, n_lel, n_lle, n_eql, n_leq, n_add, n_mul, n_sub, n_addl, n_ladd, n_mull, n_lmul, n_subl, Int32.reduceLT, Int32.reduceLE, Int32.reduceAdd, Int32.reduceSub, Int32.reduceMul, Int32.reduceToNatClampNeg, not_false_eq_true, not_true_eq_false, or_false, false_or, or_self, and_self, false_and, true_and, and_false, and_true, true_or, or_true, Nat.reduceAdd, Nat.reduceMul, Nat.reduceLT, Nat.reduceLeDiff, ne_eq, n_ell, n_g1]
    refine dE (hd52 D1 (fun _ _ _ _ => rfl)) (fin D1 (fun _ _ _ _ => rfl) (fun _ => ⟨rfl, fun _ _ _ _ => rfl⟩) (fun q => absurd q (by omega)))
  · have eN : ∀ x i, ¬ (x = 537 ∧ i = 76) → ¬ (587 ≤ x ∧ x ≤ 593) → nrD k (nI t) (nI (nw / 2)) D1 x i = D1 x i := fun x i h1 h2 => by
      unfold nrD
      rw [if_neg (by omega), if_neg (by omega), if_neg (by omega), if_neg (by omega), if_neg (by omega)]
    try simp only [↓reduceIte, Nat.reduceEqDiff, Option.bind_some, ao_let, n_ell, f14]
    try simp (disch := first | omega | assumption) only [↓reduceIte, Nat.reduceEqDiff, Option.bind_some, ao_let, t_le, f_le, t_lt, f_lt, f_eq, u_eq, u_n1, u_n2, n_cl, n_lt, n_le, n_eq, n_ltl, n_llt, n_lel, n_lle, n_eql, n_leq, n_add, n_mul, n_sub, n_addl, n_ladd, n_mull, n_lmul, n_subl, Int32.reduceLT, Int32.reduceLE, Int32.reduceAdd, Int32.reduceSub, Int32.reduceMul, Int32.reduceToNatClampNeg, not_false_eq_true, not_true_eq_false, or_false, false_or, or_self, and_self, false_and, true_and, and_false, and_true, true_or, or_true, Nat.reduceAdd, Nat.reduceMul, Nat.reduceLT, Nat.reduceLeDiff, ne_eq, n_ell, f14]
    have eN2 : ∀ x i, ¬ (x = 537 ∧ i = 76) → ¬ (587 ≤ x ∧ x ≤ 593) → ao_u (ao_u (nrD k (nI t) (nI (nw / 2)) D1) 593 (k * 26 + p) 1) 591 (k * 26 + p) v x i = D1 x i := fun x i h1 h2 => by
      rw [u_ne (by omega), u_ne (by omega), eN x i h1 h2]
    refine dE (hd52 _ eN2) (fin _ eN2 (fun q => absurd q (by omega)) (fun _ => ⟨?_, ?_, ?_, ?_, fun x i h1 h2 h3 => ?_, fun x i h1 h2 h3 => ?_, ⟨by simp, fun e he => absurd he (by simp), fun q hq => ?_⟩, ⟨by simp, fun e he => ?_, fun q hq => ?_⟩⟩))
    · rw [u_ne (by omega), u_ne (by omega)]; unfold nrD; rw [if_pos (by omega)]
    · rw [u_ne (by omega), u_ne (by omega)]; unfold nrD; rw [if_neg (by omega), if_pos (by omega)]
    · rw [u_ne (by omega), u_ne (by omega)]; unfold nrD; rw [if_neg (by omega), if_neg (by omega), if_pos (by omega)]
    · rw [u_ne (by omega), u_ne (by omega)]; unfold nrD; rw [if_neg (by omega), if_neg (by omega), if_neg (by omega), if_pos (by omega)]; exact hd65
    · rw [u_ne (by omega), u_ne (by omega)]; unfold nrD; rw [if_neg (by omega), if_neg (by omega), if_neg (by omega), if_neg (by omega), if_neg (by omega)]
    · rw [u_ne (by omega), u_ne (by omega)]; unfold nrD; rw [if_neg (by omega), if_neg (by omega), if_neg (by omega), if_neg (by omega), if_neg (by omega)]
    · rw [u_n1 (by omega), u_n1 (by omega)]
      unfold nrD
      rw [if_neg (by omega), if_neg (by omega), if_neg (by omega), if_neg (by omega), if_pos (by omega)]
      simp
    · have : e = (p, v) := by simpa using he
      subst this
      exact ⟨hp, by dsimp only; rw [u_eq]⟩
    · rw [u_n1 (by omega)]
      by_cases eq : q = p
      · subst eq
        rw [u_eq]; simp
      · rw [u_n2 (by omega)]
        unfold nrD
        rw [if_neg (by omega), if_neg (by omega), if_neg (by omega), if_neg (by omega), if_pos (by omega)]
        simp [eq]
end St9u
