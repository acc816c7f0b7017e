set_option linter.unusedSimpArgs false
set_option linter.unusedVariables false
/-! ===== outside of blocks: a look, a write ===== -/
theorem out_fin {C D C' D' : ao_M} {ρ σ ρ' σ' : ao_H} {kp rc nw bw br kp' bw' t len kd a1 a2 a3 a a' : Nat} {φ : Nat → Nat} {N : Ns} {H K : Nat → Nat} (hF : Full C ρ D σ kp rc nw bw br) (ht : t < 6) (ho : Opn C ρ D rc t 1 len kd a1 a2 a3 φ N H K a) (hN : N a' = N a) (ha' : a' ≤ len) (hX : HxC C ρ C' ρ') (hY : HxD σ σ')
    (hC : ∀ x i, (x < 13 ∨ 18 < x) → ¬ (x = 92 + 71 * t ∧ (i = 3 ∨ i = 5)) → x ≠ 92 + 71 * t + 5 → ¬ (25 ≤ x ∧ x ≤ 90) → ¬ PAc ρ x → (∀ z, ρ.2.2.2.1 = some z → x < z) → C' x i = C x i)
    (hD : ∀ x i, ¬ (x = 537 ∧ (i = 25 ∨ i = 26 ∨ i = 76 ∨ i = 77)) → (x < 542 ∨ 546 < x) → ¬ (587 ≤ x ∧ x ≤ 593) → ¬ (i = t ∧ (x = 552 ∨ x = 555)) → ¬ (x = 554 ∧ t * 64 ≤ i ∧ i < t * 64 + 64) → ¬ PAd σ x → (∀ z, σ.2.2.2.1 = some z → x < z) → D' x i = D x i)
    (hRp : Rpl kp' C' ρ' D' σ') (h16 : ∀ p, p < 26 → C' 16 p = C 16 p) (hRc : Rrc C' D') (h3 : C' (92 + 71 * t) 3 = nI a') (h52 : D' 552 t = nI (φ a')) (hS : Stk C' D' t (H a')) (hb : kp' + bw ≤ kp + bw') (hb8 : bw' ≤ 28000) : Full C' ρ' D' σ' kp' rc nw bw' br := by
  have hF' := hF
  obtain ⟨-, f5, -, f8, f9, -, f11, -, f13, -, f15, f16⟩ := hF
  obtain ⟨hcat, cok, tc⟩ := ho
  have zc := sh_zc f5
  have zd := sh_zd f5
  have npc : ∀ x, (x < 19 ∨ 21 < x) ∧ x < 599 → ¬ PAc ρ x := fun x hx => Rpl_nc f5 hx
  have npd : ∀ x, (x < 547 ∨ 549 < x) ∧ x < 599 → ¬ PAd σ x := fun x hx => Rpl_nd f5 hx
  have cl : ∀ x i, (x < 13 ∨ 22 ≤ x ∧ x < 25 ∨ 91 ≤ x ∧ x < 599) → ¬ (x = 92 + 71 * t ∧ (i = 3 ∨ i = 5)) → x ≠ 92 + 71 * t + 5 → C' x i = C x i := fun x i h1 h2 h3 => hC x i (by omega) h2 h3 (by omega) (npc x (by omega)) (fun z hz => by have := zc z hz; omega)
  have dl : ∀ x i, x < 599 → ¬ (x = 537 ∧ (i = 25 ∨ i = 26 ∨ i = 76 ∨ i = 77)) → (x < 542 ∨ 549 < x) → ¬ (587 ≤ x ∧ x ≤ 593) → ¬ (i = t ∧ (x = 552 ∨ x = 555)) → ¬ (x = 554 ∧ t * 64 ≤ i ∧ i < t * 64 + 64) → D' x i = D x i := fun x i h0 h1 h2 h3 h4 h5 => hD x i h1 (by omega) h3 h4 h5 (npd x (by omega)) (fun z hz => by have := zd z hz; omega)
  obtain ⟨t1, t2, t3, t4, t5, t6, t7, t8, t9, t10, t11, t12, t13, t14, t15⟩ := tc
  obtain ⟨p1, p2, p3⟩ := t14 rfl
  have hR : Regs C' D' t := fun k hk => by
    rw [cl _ _ (by omega) (by omega) (by omega), dl _ _ (by omega) (by omega) (by omega) (by omega) (by omega) (by omega)]; exact t8 k hk
  have hlen := cok.1
  have hl10 := (cok.2.2.2.2.2.1 a t9)
  have hbd := chd_b (fun i hi => (cok.2.2.2.2.2.1 i hi).2.1) (N a) hl10.2.2.2 hl10.2.1
  have l1 := @nl_le (N a)
  have l2 := @ns_le (N a)
  have l3 := @nt_le (N a)
  have hl10' := hl10.2.1
  clear hl10
  have tc' : Tc C' D' rc t 1 (C a2) (C a3) len φ N H a' := by
    refine ⟨Or.inl rfl, ?_, ?_, ?_, ?_, ?_, ?_, hR, ha', h3, h52, hS, ?_, fun _ => ⟨by rw [hN]; exact p1, ?_, ?_⟩, fun e => absurd e (by omega)⟩
    · rw [cl _ _ (by omega) (by omega) (by omega)]; exact t2
    · rw [dl _ _ (by omega) (by omega) (by omega) (by omega) (by omega) (by omega)]; exact t3
    · rw [cl _ _ (by omega) (by omega) (by omega)]; exact t4
    · rw [cl _ _ (by omega) (by omega) (by omega), dl _ _ (by omega) (by omega) (by omega) (by omega) (by omega) (by omega)]; exact t5
    · rw [cl _ _ (by omega) (by omega) (by omega), dl _ _ (by omega) (by omega) (by omega) (by omega) (by omega) (by omega)]; exact t6
    · rw [cl _ _ (by omega) (by omega) (by omega), dl _ _ (by omega) (by omega) (by omega) (by omega) (by omega) (by omega)]; exact t7
    · rw [hN]
      refine ⟨?_, ?_, ?_, fun x hx => ?_⟩
      · rw [cl _ _ (by omega) (by omega) (by omega)]; exact t13.1
      · rw [dl _ _ (by omega) (by omega) (by omega) (by omega) (by omega) (by omega)]; exact t13.2.1
      · rw [dl _ _ (by omega) (by omega) (by omega) (by omega) (by omega) (by omega)]; exact t13.2.2.1
      · obtain ⟨n1, n2, n3⟩ := hbd x hx
        exact Ent_mv (t13.2.2.2 x hx) (fun _ => ⟨cl _ _ (by omega) (by omega) (by omega), cl _ _ (by omega) (by omega) (by omega), fun y q1 q2 => dl _ _ (by omega) (by omega) (by omega) (by omega) (by omega) (by omega)⟩) (fun _ => dl _ _ (by omega) (by omega) (by omega) (by omega) (by omega) (by omega)) (fun _ => ⟨cl _ _ (by omega) (by omega) (by omega), cl _ _ (by omega) (by omega) (by omega), fun y q1 q2 => dl _ _ (by omega) (by omega) (by omega) (by omega) (by omega) (by omega)⟩)
    · rw [cl _ _ (by omega) (by omega) (by omega)]; exact p2
    · rw [dl _ _ (by omega) (by omega) (by omega) (by omega) (by omega) (by omega)]; exact p3
  obtain ⟨k1, k2, k3, k4⟩ := Cat_fr hcat ht hX zc (fun x i hx h1 h2 => hC x i (by omega) (by omega) (by omega) (by omega) h1 h2)
  have ed : dcd D' t = dcd D t := dcd_eq (fun i => dl _ _ (by omega) (by omega) (by omega) (by omega) (by omega) (by omega))
  have hT : Thr C' ρ' D' rc t := Tc_Thr k1 (by rw [k2, k3, k4, ed]; exact cok) (by rw [k3, k4]; exact tc')
  have e8 : dpC C t = 0 := by
    unfold dpC
    rw [p2]; decide
  have e8' : dpC C' t = 0 := by
    unfold dpC
    rw [cl _ _ (by omega) (by omega) (by omega), p2]; decide
  clear cok hbd t13 t12 t15 t14
  refine P_Full (P_pl (Full_P hF' (fun u => u ≠ t)) ht hX hY (fun x i h1 h2 h3 h4 h5 => hC x i h1 (by omega) (by omega) (by omega) h4 h5) (fun x i h1 h2 h3 h4 h5 h6 => hD x i (by omega) h2 (by omega) ?_ ?_ h5 h6) hRp (fun q p hp => by rw [h16 p hp]; exact f8 q p hp) (by rw [dl _ _ (by omega) (by omega) (by omega) (by omega) (by omega) (by omega)]; exact f11) (Nat.le_refl _) (Rsd_fr f9 (fun x i q1 q2 => cl x i (by omega) (by omega) (by omega)) (dl _ _ (by omega) (by omega) (by omega) (by omega) (by omega) (by omega)) (fun x i q => dl x i (by omega) (by omega) (by omega) (by omega) (by omega) (by omega))) hRc (Bth_fr2 f13 (dl _ _ (by omega) (by omega) (by omega) (by omega) (by omega) (by omega)) (fun p hp => Or.inl (h16 p hp)) (fun u hu => ⟨cl _ _ (by omega) (by omega) (by omega), cl _ _ (by omega) (by omega) (by omega), dl _ _ (by omega) (by omega) (by omega) (by omega) (by omega) (by omega)⟩)) (by omega) (fun _ => hT) (fun q => ?_) (fun q => by rw [e8, e8']; exact hb) (by rw [e8, e8']; exact Nat.le_refl _) hb8 f16) ht hT
  · rintro ⟨rfl, q⟩
    have hw1 : wd x = 1 := by
      unfold wd
      rw [if_neg (by omega), if_neg (by omega), if_neg (by omega), if_neg (by omega), if_neg (by omega), if_neg (by omega)]
    exact h4 ⟨by omega, by omega, by rw [hw1]; omega, by rw [hw1]; omega⟩
  · rintro ⟨rfl, q1, q2⟩
    exact h4 ⟨by omega, by omega, by show t * 64 ≤ i; omega, by show i < (t + 1) * 64; omega⟩
  · rw [cntK_e (C := C) (C' := C') h16]
    omega
section St9t
variable {C D : ao_M} {ρ σ : ao_H} {kp rc nw bw br t s len kd a1 a2 a3 a : Nat} {φ : Nat → Nat} {N : Ns} {H K : Nat → Nat}
set_option maxHeartbeats 2000000 in
theorem st_see1 (hF : Full C ρ D σ kp rc nw bw br) (ht : t < 6) (ho : Opn C ρ D rc t s len kd a1 a2 a3 φ N H K a) (ha : a < len) (h : C a1 a = 3 ∧ dcd D t (3 * φ a) = 2 ∧ (∃ r, r < 26 ∧ C a2 a = nI r ∧ dcd D t (3 * φ a + 1) = nI r) ∧ nxt φ N H K a 1 (H a + 1)) (es : s = 1) :
    hv (fun n => gX2_step n 12 (92 + 71 * t) C ρ) (fun y => hv (fun n => gX12_step n 537 (nI t) D σ) (fun w => EndP kp rc nw bw br y w)) := by
  subst es
  obtain ⟨i1, i2, ⟨p, hp, i4, i5⟩, j1, j2, j3, j4⟩ := h
  have ho' := ho
  have hF' := hF
  obtain ⟨hcat, cok, tc⟩ := ho
  obtain ⟨⟨f1, f2, f3, f4⟩, fR, ⟨-, -, fX⟩, -, -, fRc, -, -, -, -, fbw, -⟩ := hF
  obtain ⟨t1, t2, t3, t4, t5, t6, t7, t8, t9, t10, t11, t12, t13, t14, t15⟩ := tc
  have hR := RnS_of f2 ht
  have hh := (cok.2.2.2.2.2.1 a t9).2.2.1
  obtain ⟨g0, g1, g2, g3⟩ := d_ins (C := C) (rc := rc) (s := 1) cok t9
  rw [i2] at g1
  rw [i5] at g2
  obtain ⟨p1, p2, p3⟩ := t14 rfl
  have hlen := cok.1
  obtain ⟨b1, b2, b3, b4, b5, b6, b7, b8, b9, b10, b11, b12, b13, b14, b15, b16, b17, b18⟩ := hcat
  have hmode : (D 551 t = 2) = False := by
    rw [t3]
    exact eq_false (by decide)
  obtain ⟨-, -, -, -, x6, x65, -⟩ := fX
  obtain ⟨k, k1, k2, k3, -⟩ := id fRc
  have hev : C 14 p = D 542 p := by
    obtain ⟨f, g, h, pc, pd, ch, ev, ec⟩ := fR
    exact (ev p hp).1
  clear t1 t13 t14 t15
  obtain ⟨hst5, hst55, hstE⟩ := t12
  unfold gX2_step
  refine hv_up (fun _ => fX2_step.eq_2 ..) ?_
  try simp only [↓reduceIte, Nat.reduceEqDiff, Option.bind_some, ao_let, n_ell, f1, hR, b1, b2, b3, b4, b5, b6, b7, b8, b9, b10, b11, b12, b13, t10, i1, i4]
  try simp (disch := first | omega | assumption) only [↓reduceIte, Nat.reduceEqDiff, Option.bind_some, ao_let, t_le, f_le, t_lt, f_lt, f_eq, u_eq, u_n1, u_n2, n_cl, n_lt, n_le, n_eq, n_ltl, n_llt, n_lel, n_lle, n_eql, n_leq, n_add, n_mul, n_sub, n_addl, n_ladd, n_mull, n_lmul, n_subl, Int32.reduceLT, Int32.reduceLE, Int32.reduceAdd, Int32.reduceSub, Int32.reduceMul, Int32.reduceToNatClampNeg, not_false_eq_true, not_true_eq_false, or_false, false_or, or_self, and_self, false_and, true_and, and_false, and_true, true_or, or_true, Nat.reduceAdd, Nat.reduceMul, Nat.reduceLT, Nat.reduceLeDiff, ne_eq, n_ell, f1, hR, b1, b2, b3, b4, b5, b6, b7, b8, b9, b10, b11, b12, b13, t10, i1, i4]
  refine hv_bind (P := fun y => hv (fun n => gX12_step n 537 (nI t) D σ) (fun w => EndP kp rc nw bw br y w)) ?_ ?_
  rotate_left 1
  · intro y hy
    refine hv_up (fun _ => fX2_step.eq_2 ..) ?_
    try simp only [↓reduceIte, Nat.reduceEqDiff, Option.bind_some, ao_let, n_ell]
    try simp (disch := first | omega | assumption) only [↓reduceIte, Nat.reduceEqDiff, Option.bind_some, ao_let, t_le, f_le, t_lt, f_lt, f_eq, u_eq, u_n1, u_n2, n_cl, n_lt, n_le, n_eq, n_ltl, n_llt, n_lel, n_lle, n_eql, n_leq, n_add, n_mul, n_sub, n_addl, n_ladd, n_mull, n_lmul, n_subl, Int32.reduceLT, Int32.reduceLE, Int32.reduceAdd, Int32.reduceSub, Int32.reduceMul, Int32.reduceToNatClampNeg, not_false_eq_true, not_true_eq_false, or_false, false_or, or_self, and_self, false_and, true_and, and_false, and_true, true_or, or_true, Nat.reduceAdd, Nat.reduceMul, Nat.reduceLT, Nat.reduceLeDiff, ne_eq, n_ell]
    exact hv_some hy
  unfold gX2_see
  refine hv_up (fun _ => fX2_see.eq_2 ..) ?_
  try simp only [↓reduceIte, Nat.reduceEqDiff, Option.bind_some, ao_let, n_ell, hR, p2]
  try simp (disch := first | omega | assumption) only [↓reduceIte, Nat.reduceEqDiff, Option.bind_some, ao_let, t_le, f_le, t_lt, f_lt, f_eq, u_eq, u_n1, u_n2, n_cl, n_lt, n_le, n_eq, n_ltl, n_llt, n_lel, n_lle, n_eql, n_leq, n_add, n_mul, n_sub, n_addl, n_ladd, n_mull, n_lmul, n_subl, Int32.reduceLT, Int32.reduceLE, Int32.reduceAdd, Int32.reduceSub, Int32.reduceMul, Int32.reduceToNatClampNeg, not_false_eq_true, not_true_eq_false, or_false, false_or, or_self, and_self, false_and, true_and, and_false, and_true, true_or, or_true, Nat.reduceAdd, Nat.reduceMul, Nat.reduceLT, Nat.reduceLeDiff, ne_eq, n_ell, hR, p2]
  refine hv_up (fun _ => fX2_see.eq_2 ..) ?_
  try simp only [↓reduceIte, Nat.reduceEqDiff, Option.bind_some, ao_let, n_ell, f1, hR, p2, t4, x6]
  try simp (disch := first | omega | assumption) only [↓reduceIte, Nat.reduceEqDiff, Option.bind_some, ao_let, t_le, f_le, t_lt, f_lt, f_eq, u_eq, u_n1, u_n2, n_cl, n_lt, n_le, n_eq, n_ltl, n_llt, n_lel, n_lle, n_eql, n_leq, n_add, n_mul, n_sub, n_addl, n_ladd, n_mull, n_lmul, n_subl, Int32.reduceLT, Int32.reduceLE, Int32.reduceAdd, Int32.reduceSub, Int32.reduceMul, Int32.reduceToNatClampNeg, not_false_eq_true, not_true_eq_false, or_false, false_or, or_self, and_self, false_and, true_and, and_false, and_true, true_or, or_true, Nat.reduceAdd, Nat.reduceMul, Nat.reduceLT, Nat.reduceLeDiff, ne_eq, n_ell, f1, hR, p2, t4, x6]
  refine hv_bind (rb_begin (k := k) f1 k1 (by rw [u_n1 (by omega)]; exact k2) (fun C1 h => h)) ?_
  intro C1 hC1
  have c14 : C1 14 p = C 14 p := by
    obtain ⟨-, -, -, h0, -⟩ := hC1
    rw [h0 _ _ (by omega), u_n1 (by omega)]
  try simp only [↓reduceIte, Nat.reduceEqDiff, Option.bind_some, ao_let, n_ell, f1, c14]
  try simp (disch := first | omega | assumption) only [↓reduceIte, Nat.reduceEqDiff, Option.bind_some, ao_let, t_le, f_le, t_lt, f_lt, f_eq, u_eq, u_n1, u_n2, n_cl, n_lt, n_le, n_eq, n_ltl, n_llt, n_lel, n_lle, n_eql, n_leq, n_add, n_mul, n_sub, n_addl, n_ladd, n_mull, n_lmul, n_subl, Int32.reduceLT, Int32.reduceLE, Int32.reduceAdd, Int32.reduceSub, Int32.reduceMul, Int32.reduceToNatClampNeg, not_false_eq_true, not_true_eq_false, or_false, false_or, or_self, and_self, false_and, true_and, and_false, and_true, true_or, or_true, Nat.reduceAdd, Nat.reduceMul, Nat.reduceLT, Nat.reduceLeDiff, ne_eq, n_ell, f1, c14]
  refine hv_bind (rb_read (p := p) f1 f3 hC1 (by simp) (fun C2 h => h)) ?_
  intro C2 hC2
  have hC20 := hC2
  obtain ⟨k', k1', k2', h0, -⟩ := hC2
  have c5 : C2 (92 + 71 * t) 5 = nI (H a) := by rw [h0 _ _ (by omega), u_n2 (by omega)]; exact hst5
  have c214 : C2 14 p = C 14 p := by rw [h0 _ _ (by omega), u_n1 (by omega)]
  refine hv_up (fun _ => fX2_see.eq_2 ..) ?_
  try simp only [↓reduceIte, Nat.reduceEqDiff, Option.bind_some, ao_let, n_ell, f1, hR, c214]
  try simp (disch := first | omega | assumption) only [↓reduceIte, Nat.reduceEqDiff, Option.bind_some, ao_let, t_le, f_le, t_lt, f_lt, f_eq, u_eq, u_n1, u_n2, n_cl, n_lt, n_le, n_eq, n_ltl, n_llt, n_lel, n_lle, n_eql, n_leq, n_add, n_mul, n_sub, n_addl, n_ladd, n_mull, n_lmul, n_subl, Int32.reduceLT, Int32.reduceLE, Int32.reduceAdd, Int32.reduceSub, Int32.reduceMul, Int32.reduceToNatClampNeg, not_false_eq_true, not_true_eq_false, or_false, false_or, or_self, and_self, false_and, true_and, and_false, and_true, true_or, or_true, Nat.reduceAdd, Nat.reduceMul, Nat.reduceLT, Nat.reduceLeDiff, ne_eq, n_ell, f1, hR, c214]
  rw [c_push hR c5 (by omega)]
  refine hv_some ?_
  -- the reference
  have dE : ∀ {D' : ao_M} {P : Int32 × ao_S → Prop}, D' 555 t = nI (H a) → D' 552 t = nI (φ a) → D' 537 77 = C 14 p → P (0, ao_u (ao_u (ao_u D' 554 (t * 64 + H a) (C 14 p)) 555 t (nI (H a + 1))) 552 t (nI (φ a + 1)), σ) → hv (fun n => fX12_doLook n 72 537 (nI t) (nI p) 0 D' σ) P := by
    intro D' P q1 q2 q3 hP
    refine hv_up (fun _ => fX12_doLook.eq_2 ..) ?_
    try simp only [↓reduceIte, Nat.reduceEqDiff, Option.bind_some, ao_let, n_ell, f4, q3, d_push f4 ht q1 (show H a < 64 by omega), q2]
    try simp (disch := first | omega | assumption) only [↓reduceIte, Nat.reduceEqDiff, Option.bind_some, ao_let, t_le, f_le, t_lt, f_lt, f_eq, u_eq, u_n1, u_n2, n_cl, n_lt, n_le, n_eq, n_ltl, n_llt, n_lel, n_lle, n_eql, n_leq, n_add, n_mul, n_sub, n_addl, n_ladd, n_mull, n_lmul, n_subl, Int32.reduceLT, Int32.reduceLE, Int32.reduceAdd, Int32.reduceSub, Int32.reduceMul, Int32.reduceToNatClampNeg, not_false_eq_true, not_true_eq_false, or_false, false_or, or_self, and_self, false_and, true_and, and_false, and_true, true_or, or_true, Nat.reduceAdd, Nat.reduceMul, Nat.reduceLT, Nat.reduceLeDiff, ne_eq, n_ell, f4, q3, d_push f4 ht q1 (show H a < 64 by omega), q2]
    exact hv_some hP
  have fin : ∀ D' : ao_M, (∀ x i, ¬ (x = 537 ∧ (i = 76 ∨ i = 77)) → ¬ (587 ≤ x ∧ x ≤ 593) → D' x i = D x i) → (k = 300 → D' 537 76 = D 537 76 ∧ ∀ x i, 587 ≤ x → x ≤ 593 → D' x i = D x i) → (k < 300 → D' 537 76 = nI (k + 1) ∧ D' 587 k = nI t ∧ D' 588 k = nI (nw / 2) ∧ D' 589 k = nI (nw / 2) ∧ (∀ x i, 587 ≤ x → x ≤ 589 → i ≠ k → D' x i = D x i) ∧ (∀ x i, 590 ≤ x → x ≤ 593 → i < k * 26 → D' x i = D x i) ∧ RowD D' 592 590 k [(p, C 14 p)] ∧ RowD D' 593 591 k []) → EndP kp rc nw bw br (0, ao_u (ao_u C2 (92 + 71 * t + 5) (H a) (C 14 p)) (92 + 71 * t) 5 (nI (H a + 1)), ρ) (0, ao_u (ao_u (ao_u D' 554 (t * 64 + H a) (C 14 p)) 555 t (nI (H a + 1))) 552 t (nI (φ a + 1)), σ) := by
    intro D' q1 q2 q3
    refine ⟨rfl, (show ¬ (0 : Int32) < 0 by decide), ?_⟩
    have hRc2 : Rrc C2 D' := by
      refine rec_fin (C0 := ao_u C (92 + 71 * t) 3 (nI (a + 1))) (D0 := D) (k := k) (Rrc_fr fRc (fun x i _ _ => u_n1 (by omega)) rfl (fun _ _ _ _ => rfl)) hC20 (by rw [u_n1 (by omega)]; exact k2) k1 q2 q3
    clear f1 f2 f3 f4 hR q2 q3 dE
    obtain ⟨⟨z, ez, z9⟩, ⟨z', ez', z9'⟩⟩ := Rpl_z fR
    show Full (ao_u (ao_u C2 (92 + 71 * t + 5) (H a) (C 14 p)) (92 + 71 * t) 5 (nI (H a + 1))) ρ (ao_u (ao_u (ao_u D' 554 (t * 64 + H a) (C 14 p)) 555 t (nI (H a + 1))) 552 t (nI (φ a + 1))) σ kp rc nw bw br
    have cc : ∀ x i, x < 25 ∨ 90 < x → ¬ (x = 92 + 71 * t ∧ (i = 3 ∨ i = 5)) → x ≠ 92 + 71 * t + 5 → ao_u (ao_u C2 (92 + 71 * t + 5) (H a) (C 14 p)) (92 + 71 * t) 5 (nI (H a + 1)) x i = C x i := fun x i h1 h2 h3 => by
      rw [u_ne (by omega), u_ne (by omega), h0 x i h1, u_ne (by omega)]
    have dd : ∀ x i, ¬ (x = 537 ∧ (i = 76 ∨ i = 77)) → ¬ (587 ≤ x ∧ x ≤ 593) → ¬ (i = t ∧ (x = 552 ∨ x = 555)) → ¬ (x = 554 ∧ t * 64 ≤ i ∧ i < t * 64 + 64) → ao_u (ao_u (ao_u D' 554 (t * 64 + H a) (C 14 p)) 555 t (nI (H a + 1))) 552 t (nI (φ a + 1)) x i = D x i := fun x i h1 h2 h3 h4 => by
      rw [u_ne (by omega), u_ne (by omega), u_ne (by omega), q1 x i h1 h2]
    refine out_fin (a' := a + 1) hF' ht ho' j2 (by omega) (HxC_refl ez (by unfold rmC; rw [cc _ _ (by omega) (by omega) (by omega)])) (HxD_refl ez') (fun x i h1 h2 h3 h4 _ _ => cc x i (by omega) h2 h3) (fun x i h1 h2 h3 h4 h5 _ _ => dd x i (by omega) (by omega) h4 h5) ?_ (fun q hq => cc _ _ (by omega) (by omega) (by omega)) (Rrc_fr hRc2 (fun x i h1 h2 => by rw [u_n1 (by omega), u_n1 (by omega)]) (by simp (disch := omega) only [u_ne]) (fun x i h1 h2 => by simp (disch := omega) only [u_ne])) ?_ ?_ ?_ (Nat.le_refl _) fbw
    · exact Rpl_cell (k := 0) fR (fun x i hx => cc x i (by omega) (by omega) (by omega)) (fun x i hx => dd x i (by omega) (by omega) (by omega) (by omega))
    · rw [u_n2 (by omega), u_n1 (by omega), h0 _ _ (by omega), u_eq]
    · rw [u_eq, j1]
    · rw [j3]
      refine Stk_push ⟨hst5, hst55, hstE⟩ u_eq (by rw [u_n1 (by omega), u_eq]) (v := C 14 p) (fun i hi => ?_) (fun i hi => ?_)
      · by_cases e : i = H a
        · rw [if_pos e, e, u_n1 (by omega), u_eq]
        · rw [if_neg e, u_n1 (by omega), u_n2 e, h0 _ _ (by omega), u_n1 (by omega)]
      · by_cases e : i = H a
        · rw [if_pos e, e, u_n1 (by omega), u_n1 (by omega), u_eq]
        · rw [if_neg e, u_n1 (by omega), u_n1 (by omega), u_n2 (by omega), q1 _ _ (by omega) (by omega)]
  unfold gX12_step
  refine hv_up (fun _ => fX12_step.eq_2 ..) ?_
  try simp only [↓reduceIte, Nat.reduceEqDiff, Option.bind_some, ao_let, n_ell, f4, t11, g1, g2]
  try simp (disch := first | omega | assumption) only [↓reduceIte, Nat.reduceEqDiff, Option.bind_some, ao_let, t_le, f_le, t_lt, f_lt, f_eq, u_eq, u_n1, u_n2, n_cl, n_lt, n_le, n_eq, n_ltl, n_llt, n_lel, n_lle, n_eql, n_leq, n_add, n_mul, n_sub, n_addl, n_ladd, n_mull, n_lmul, n_subl, Int32.reduceLT, Int32.reduceLE, Int32.reduceAdd, Int32.reduceSub, Int32.reduceMul, Int32.reduceToNatClampNeg, not_false_eq_true, not_true_eq_false, or_false, false_or, or_self, and_self, false_and, true_and, and_false, and_true, true_or, or_true, Nat.reduceAdd, Nat.reduceMul, Nat.reduceLT, Nat.reduceLeDiff, ne_eq, n_ell, f4, t11, g1, g2]
  refine hv_bind (P := fun w => EndP kp rc nw bw br (0, ao_u (ao_u C2 (92 + 71 * t + 5) (H a) (C 14 p)) (92 + 71 * t) 5 (nI (H a + 1)), ρ) w) ?_ ?_
  rotate_left 1
  · intro y hy
    refine hv_up (fun _ => fX12_step.eq_2 ..) ?_
    try simp only [↓reduceIte, Nat.reduceEqDiff, Option.bind_some, ao_let, n_ell]
    try simp (disch := first | omega | assumption) only [↓reduceIte, Nat.reduceEqDiff, Option.bind_some, ao_let, t_le, f_le, t_lt, f_lt, f_eq, u_eq, u_n1, u_n2, n_cl, n_lt, n_le, n_eq, n_ltl, n_llt, n_lel, n_lle, n_eql, n_leq, n_add, n_mul, n_sub, n_addl, n_ladd, n_mull, n_lmul, n_subl, Int32.reduceLT, Int32.reduceLE, Int32.reduceAdd, Int32.reduceSub, Int32.reduceMul, Int32.reduceToNatClampNeg, not_false_eq_true, not_true_eq_false, or_false, false_or, or_self, and_self, false_and, true_and, and_false, and_true, true_or, or_true, Nat.reduceAdd, Nat.reduceMul, Nat.reduceLT, Nat.reduceLeDiff, ne_eq, n_ell]
    exact hv_some hy
  generalize hCf : ao_u (ao_u C2 (92 + 71 * t + 5) (H a) (C 14 p)) (92 + 71 * t) 5 (nI (H a + 1)) = Cf at fin ⊢
  unfold gX12_doLook
  refine hv_up (fun _ => fX12_doLook.eq_2 ..) ?_
  try simp only [↓reduceIte, Nat.reduceEqDiff, Option.bind_some, ao_let, n_ell, f4, hmode]
  try simp (disch := first | omega | assumption) only [↓reduceIte, Nat.reduceEqDiff, Option.bind_some, ao_let, t_le, f_le, t_lt, f_lt, f_eq, u_eq, u_n1, u_n2, n_cl, n_lt, n_le, n_eq, n_ltl, n_llt, n_lel, n_lle, n_eql, n_leq, n_add, n_mul, n_sub, n_addl, n_ladd, n_mull, n_lmul, n_subl, Int32.reduceLT, Int32.reduceLE, Int32.reduceAdd, Int32.reduceSub, Int32.reduceMul, Int32.reduceToNatClampNeg, not_false_eq_true, not_true_eq_false, or_false, false_or, or_self, and_self, false_and, true_and, and_false, and_true, true_or, or_true, Nat.reduceAdd, Nat.reduceMul, Nat.reduceLT, Nat.reduceLeDiff, ne_eq, n_ell, f4, hmode]
  refine hv_bind (P := fun y => k = 300 ∧ y = (-1, ao_u D 537 77 (D 542 p)) ∨ k < 300 ∧ y = (nI k, nrD k (nI t) (D 537 65) (ao_u D 537 77 (D 542 p)))) (d_new f4 k1 (by rw [u_n2 (by omega)]; exact k3) (fun e => Or.inl ⟨e, rfl⟩) (fun e => Or.inr ⟨e, rfl⟩)) ?_
  rintro y (⟨e, rfl⟩ | ⟨e, rfl⟩)
  · try simp only [↓reduceIte, Nat.reduceEqDiff, Option.bind_some, ao_let, n_ell, n_g1]
    try simp (disch := first | omega | assumption) only [↓reduceIte, Nat.reduceEqDiff, Option.bind_some, ao_let, t_le, f_le, t_lt, f_lt, f_eq, u_eq, u_n1, u_n2, n_cl, n_lt, n_le, n_eq, n_ltl, n_llt, n_lel, n_lle, n_eql, n_leq, n_add, n_mul, n_sub, n_addl, n_ladd, n_mull, n_lmul, n_subl, Int32.reduceLT, Int32.reduceLE, Int32.reduceAdd, Int32.reduceSub, Int32.reduceMul, Int32.reduceToNatClampNeg, not_false_eq_true, not_true_eq_false, or_false, false_or, or_self, and_self, false_and, true_and, and_false, and_true, true_or, or_true, Nat.reduceAdd, Nat.reduceMul, Nat.reduceLT, Nat.reduceLeDiff, ne_eq, n_ell, n_g1]
    refine dE (by rw [u_n1 (by omega)]; exact hst55) (by rw [u_n1 (by omega)]; exact t11) (by rw [u_eq, hev]) (fin _ (fun x i h1 h2 => u_ne (by omega)) (fun _ => ⟨u_n2 (by omega), fun x i h1 h2 => u_n1 (by omega)⟩) (fun q => absurd q (by omega)))
  · have e77 : nrD k (nI t) (D 537 65) (ao_u D 537 77 (D 542 p)) 537 77 = D 542 p := by
      unfold nrD
      simp (disch := omega) only [f_eq, Nat.reduceEqDiff, and_false, false_and, or_self, ↓reduceIte, u_eq]
    have eN : ∀ x i, ¬ (x = 537 ∧ (i = 76 ∨ i = 77)) → ¬ (587 ≤ x ∧ x ≤ 593) → nrD k (nI t) (D 537 65) (ao_u D 537 77 (D 542 p)) x i = D x i := fun x i h1 h2 => by
      unfold nrD
      rw [if_neg (by omega), if_neg (by omega), if_neg (by omega), if_neg (by omega), if_neg (by omega), u_ne (by omega)]
    try simp only [↓reduceIte, Nat.reduceEqDiff, Option.bind_some, ao_let, n_ell, f4, e77]
    try simp (disch := first | omega | assumption) only [↓reduceIte, Nat.reduceEqDiff, Option.bind_some, ao_let, t_le, f_le, t_lt, f_lt, f_eq, u_eq, u_n1, u_n2, n_cl, n_lt, n_le, n_eq, n_ltl, n_llt, n_lel, n_lle, n_eql, n_leq, n_add, n_mul, n_sub, n_addl, n_ladd, n_mull, n_lmul, n_subl, Int32.reduceLT, Int32.reduceLE, Int32.reduceAdd, Int32.reduceSub, Int32.reduceMul, Int32.reduceToNatClampNeg, not_false_eq_true, not_true_eq_false, or_false, false_or, or_self, and_self, false_and, true_and, and_false, and_true, true_or, or_true, Nat.reduceAdd, Nat.reduceMul, Nat.reduceLT, Nat.reduceLeDiff, ne_eq, n_ell, f4, e77]
    have eN2 : ∀ x i, ¬ (x = 537 ∧ (i = 76 ∨ i = 77)) → ¬ (587 ≤ x ∧ x ≤ 593) → ao_u (ao_u (nrD k (nI t) (D 537 65) (ao_u D 537 77 (D 542 p))) 592 (k * 26 + p) 1) 590 (k * 26 + p) (D 542 p) x i = D x i := fun x i h1 h2 => by
      rw [u_ne (by omega), u_ne (by omega), eN x i h1 h2]
    refine dE (by rw [eN2 _ _ (by omega) (by omega)]; exact hst55) (by rw [eN2 _ _ (by omega) (by omega)]; exact t11) (by rw [u_ne (by omega), u_ne (by omega), e77, hev]) (fin _ eN2 (fun q => absurd q (by omega)) (fun _ => ⟨?_, ?_, ?_, ?_, fun x i h1 h2 h3 => ?_, fun x i h1 h2 h3 => ?_, ⟨by simp, fun e he => ?_, fun q hq => ?_⟩, ⟨by simp, fun e he => absurd he (by simp), fun q hq => ?_⟩⟩))
    · rw [u_ne (by omega), u_ne (by omega)]; unfold nrD; rw [if_pos (by omega)]
    · rw [u_ne (by omega), u_ne (by omega)]; unfold nrD; rw [if_neg (by omega), if_pos (by omega)]
    · rw [u_ne (by omega), u_ne (by omega)]; unfold nrD; rw [if_neg (by omega), if_neg (by omega), if_pos (by omega)]; exact x65
    · rw [u_ne (by omega), u_ne (by omega)]; unfold nrD; rw [if_neg (by omega), if_neg (by omega), if_neg (by omega), if_pos (by omega), u_n2 (by omega)]; exact x65
    · rw [u_ne (by omega), u_ne (by omega)]; unfold nrD; rw [if_neg (by omega), if_neg (by omega), if_neg (by omega), if_neg (by omega), if_neg (by omega), u_ne (by omega)]
    · rw [u_ne (by omega), u_ne (by omega)]; unfold nrD; rw [if_neg (by omega), if_neg (by omega), if_neg (by omega), if_neg (by omega), if_neg (by omega), u_ne (by omega)]
    · have : e = (p, C 14 p) := by simpa using he
      subst this
      exact ⟨hp, by dsimp only; rw [u_eq, hev]⟩
    · rw [u_n1 (by omega)]
      by_cases eq : q = p
      · subst eq
        rw [u_eq]; simp
      · rw [u_n2 (by omega)]
        unfold nrD
        rw [if_neg (by omega), if_neg (by omega), if_neg (by omega), if_neg (by omega), if_pos (by omega)]
        simp [eq]
    · rw [u_n1 (by omega), u_n1 (by omega)]
      unfold nrD
      rw [if_neg (by omega), if_neg (by omega), if_neg (by omega), if_neg (by omega), if_pos (by omega)]
      simp
end St9t
