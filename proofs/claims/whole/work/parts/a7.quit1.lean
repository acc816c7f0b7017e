set_option linter.unusedSimpArgs false
set_option linter.unusedVariables false
section Sta7
variable {C D : ao_M} {ρ σ : ao_H} {kp rc nw bw br t s len kd a1 a2 a3 a : Nat} {φ : Nat → Nat} {N : Ns} {H K : Nat → Nat}
theorem n_00 : nI 0 = (0 : Int32) := rfl
/-- what is known of the outermost level's begin -/
theorem out_b {l : List (Nat × Nat)} (hM : Md C ρ D rc t len kd a1 a2 a3 φ N H K l) : ∃ b B, b < len ∧ C a1 b = 16 ∧ nl (N b) = 0 ∧ (∀ e, e ∈ (0, b) :: N b → e ∈ l) ∧ C (92 + 71 * t + 8) 8 = nI b ∧ C (92 + 71 * t + 8) 11 = nI (nt (N b)) ∧ C a3 b = nI B ∧ B ≤ len ∧ N B = N b ∧ H B = 0 ∧ D 572 (t * 12) = nI (φ B) ∧ D 573 (t * 12) = nI (ns (N b) + 1) ∧ D 574 (t * 12) = nI (nt (N b)) ∧ φ B < 6000 ∧ ns (N b) ≤ 10 ∧ nt (N b) ≤ 10 ∧ (∀ x ∈ N b, x.1 ≠ 0 ∧ ns (N x.2) ≤ 10 ∧ nt (N x.2) ≤ 10) ∧ N (b + 1) = (0, b) :: N b ∧ H (b + 1) = 0 ∧ φ (b + 1) = φ b + 1 := by
  obtain ⟨-, cok, -, -, m5, ⟨m6, m7, m8⟩, -⟩ := hM
  obtain ⟨b, bl, bop, bnl, bmem⟩ := nest_at l 0 m6 (by omega)
  obtain ⟨e1, e2, e3, -, ⟨B, eB1, eB2, eB3⟩, e6, e7, -⟩ := (m5.2.2.2 (0, b) (bmem _ (by simp))).1 rfl
  dsimp only at e1 e2 e3 eB2 eB3 e6 e7
  rw [bnl] at e1 e2 e3 eB3 e6 e7
  obtain ⟨-, q9, q8, q7, q6, -, BB, rr, mm, q1, -, q3, q4, q5, -, -, -, -⟩ := ins_16 (cok.2.2.2.2.2.2 b bl) bop
  have hlen := cok.1
  have eBB : BB = B := by
    rw [q1] at eB2
    have := (n_eq (show BB < 2147483648 by omega) (show B < 2147483648 by omega)).mp eB2
    omega
  subst eBB
  have hb10 := cok.2.2.2.2.2.1 b (by omega)
  have hφ := (cok.2.2.2.2.2.1 BB eB1).1
  have l2 := @ns_le (N b)
  have l3 := @nt_le (N b)
  have hbd := chd_b (fun i hi => (cok.2.2.2.2.2.1 i hi).2.1) (N b) hb10.2.2.2 hb10.2.1
  have hlt := chd_lt (N b) hb10.2.2.2
  refine ⟨b, BB, bl, bop, bnl, bmem, e1, e2, q1, eB1, q4, q5, eB3, e6, e7, by omega, by have := hb10.2.1; omega, by have := hb10.2.1; omega, fun x hx => ⟨fun e0 => ?_, (hbd x hx).2.1, (hbd x hx).2.2⟩, q7, q6, q8⟩
  have := (hlt x hx).1 e0
  omega
/-- thread t is ready, behind a block that was left -/
theorem rdy_T {C4 D4 C5 D5 : ao_M} {ρ4 σ4 : ao_H} {kp' rc' dp B q : Nat} {l : List (Nat × Nat)} (hF : FullP (fun u => u ≠ t) C ρ D σ kp rc nw bw br) (ht : t < 6) (hM : Md C ρ D rc t len kd a1 a2 a3 φ N H K l) (hL : LV0 C D ρ σ kp rc t dp C4 ρ4 D4 σ4 kp' rc') (hC5 : ∀ x i, ¬ (92 + 71 * t ≤ x ∧ x < 92 + 71 * t + 71) → C5 x i = C4 x i) (hD5 : ∀ x i, ¬ (551 ≤ x ∧ x ≤ 584 ∧ t * wd x ≤ i ∧ i < (t + 1) * wd x) → D5 x i = D4 x i)
    (c2 : C5 (92 + 71 * t) 2 = 1) (d51 : D5 551 t = 1) (c8 : C5 (92 + 71 * t) 8 = 0) (d56 : D5 556 t = 0) (cr : ∀ i, i ≠ 2 → i ≠ 3 → i ≠ 8 → i ≠ 11 → C5 (92 + 71 * t) i = C4 (92 + 71 * t) i) (dr : ∀ x, x = 555 ∨ 559 ≤ x ∧ x ≤ 564 → D5 x t = D4 x t) (hR : Regs C5 D5 t) (hBl : B ≤ len) (hHB : H B = 0) (hnB : nl (N B) = 0) (c3 : C5 (92 + 71 * t) 3 = nI B) (d52 : D5 552 t = nI q) (hq : q < 6000) (hgo : q = φ B ∨ dcd D t (3 * q) = 12 ∧ dcd D t (3 * q + 1) = nI (φ B))
    (c11 : C5 (92 + 71 * t) 11 = nI (nt (N B))) (d58 : D5 558 t = nI (nt (N B))) (d57 : D5 557 t = nI (ns (N B))) (hE : ∀ x ∈ N B, Ent C5 D5 t (C a2) (C a3) len φ N x) : Thr C5 ρ4 D5 rc' t := by
  obtain ⟨k1, k3, k4, ed, k5, k2⟩ := lo_cat hF ht hM hL hC5 hD5
  obtain ⟨-, -, ⟨g1, g2, g3, g4, g5, g6, g7, g8, g9⟩, -⟩ := hM
  obtain ⟨-, ⟨r1, r2, -⟩, ⟨e1, -, -, e4, -⟩, -⟩ := hL
  refine Thr1 (B := B) k1 k5 c2 d51 ?_ ?_ ?_ ?_ hR c8 d56 hBl ⟨c3, q, d52, hq, by rw [ed]; exact hgo⟩ ?_ ?_ hnB
  · rw [cr _ (by omega) (by omega) (by omega) (by omega), r1 _ (by omega) (by omega) (by omega) (by omega) (by omega) (by omega)]; exact g3
  · rw [cr _ (by omega) (by omega) (by omega) (by omega), r1 _ (by omega) (by omega) (by omega) (by omega) (by omega) (by omega), dr _ (by omega), e1 _ (by omega) (by omega)]; exact g4
  · rw [cr _ (by omega) (by omega) (by omega) (by omega), r1 _ (by omega) (by omega) (by omega) (by omega) (by omega) (by omega), dr _ (by omega), e1 _ (by omega) (by omega)]; exact g5
  · rw [cr _ (by omega) (by omega) (by omega) (by omega), r1 _ (by omega) (by omega) (by omega) (by omega) (by omega) (by omega), dr _ (by omega), e1 _ (by omega) (by omega)]; exact g6
  · rw [hHB]
    exact ⟨by rw [cr _ (by omega) (by omega) (by omega) (by omega)]; exact r2, by rw [dr _ (by omega)]; exact e4, fun i hi => absurd hi (by omega)⟩
  · rw [k3, k4]
    exact ⟨c11, d58, d57, hE⟩
set_option maxHeartbeats 4000000 in
theorem st_quit1 (hF : Full C ρ D σ kp rc nw bw br) (ht : t < 6) (ho : Opn C ρ D rc t s len kd a1 a2 a3 φ N H K a) (ha : a < len) (h : C a1 a = 19 ∧ dcd D t (3 * φ a) = 18 ∧ H a = 0) (h1 : nl (N a) = 1) :
    hv (fun n => gX2_step n 12 (92 + 71 * t) C ρ) (fun y => hv (fun n => gX12_step n 537 (nI t) D σ) (fun w => EndE nw bw br y w)) := by
  obtain ⟨i1, i2, i3⟩ := h
  have es : s = 2 := by
    obtain ⟨-, -, t1, -, -, -, -, -, -, -, -, -, -, -, -, t14, -⟩ := ho
    rcases t1 with es | es
    · have := (t14 es).1; omega
    · exact es
  obtain ⟨hF1, hM1⟩ := mid_of (C1 := ao_u C (92 + 71 * t) 3 (nI (a + 1))) (D1 := D) hF ht ho es (fun x i q1 q2 => u_ne (by omega)) (fun _ _ _ _ => rfl)
  obtain ⟨hcat, cok, tc⟩ := ho
  obtain ⟨⟨f1, f2, f3, f4⟩, -, -, -, -, -, -, -, -, -, fbw, fbr⟩ := hF
  obtain ⟨t1, t2, t3, t4, t5, t6, t7, t8, t9, t10, t11, t12, t13, t14, t15⟩ := tc
  have hR := RnS_of f2 ht
  obtain ⟨g0, g1, g2, g3⟩ := d_ins (C := C) (rc := rc) (s := s) cok t9
  rw [i2] at g1
  obtain ⟨w1, wI, w3, w14, w55⟩ := t15 es
  rw [h1] at w3
  have hlen := cok.1
  obtain ⟨b1, b2, b3, b4, b5, b6, b7, b8, b9, b10, b11, b12, b13, b14, b15, b16, b17, b18⟩ := hcat
  clear t1 t12 t13 t14 t15 wI cok
  have cu : ∀ x i, ¬ (x = 92 + 71 * t ∧ i = 3) → ao_u C (92 + 71 * t) 3 (nI (a + 1)) x i = C x i := fun x i q => u_ne (by omega)
  unfold gX2_step
  refine hv_up (fun _ => fX2_step.eq_2 ..) ?_
  try simp only [↓reduceIte, Nat.reduceEqDiff, Option.bind_some, ao_let, n_ell, f1, hR, b1, b2, b3, b4, b5, b6, b7, b8, b9, b10, b11, b12, b13, t10, i1]
  try simp (disch := first | omega | assumption) only [↓reduceIte, Nat.reduceEqDiff, Option.bind_some, ao_let, t_le, f_le, t_lt, f_lt, f_eq, u_eq, u_n1, u_n2, n_cl, n_lt, n_le, n_eq, n_ltl, n_llt, n_lel, n_lle, n_eql, n_leq, n_add, n_mul, n_sub, n_addl, n_ladd, n_mull, n_lmul, n_subl, Int32.reduceLT, Int32.reduceLE, Int32.reduceAdd, Int32.reduceSub, Int32.reduceMul, Int32.reduceToNatClampNeg, not_false_eq_true, not_true_eq_false, or_false, false_or, or_self, and_self, false_and, true_and, and_false, and_true, true_or, or_true, Nat.reduceAdd, Nat.reduceMul, Nat.reduceLT, Nat.reduceLeDiff, ne_eq, n_ell, f1, hR, b1, b2, b3, b4, b5, b6, b7, b8, b9, b10, b11, b12, b13, t10, i1]
  generalize hC1 : ao_u C (92 + 71 * t) 3 (nI (a + 1)) = C1 at hF1 hM1 cu ⊢
  have ca3 : C1 a3 = C a3 := funext fun i => cu _ _ (by omega)
  have ca2 : C1 a2 = C a2 := funext fun i => cu _ _ (by omega)
  obtain ⟨b, B, o1, o2, o3, o4, o5, o6, o7, o8, o9, o10, o11, o12, o13, o14, o15, o16, o17, -, -, -⟩ := out_b hM1
  obtain ⟨C2, C3', D1, y1, y2, y3, ⟨y4, y5, y6⟩, y7⟩ := lv0 (x1 := nI 0 - 1) hF1 ht hM1 h1 (Or.inl rfl)
  obtain ⟨C4, ρ4, D4, σ4, kp', rc', z1, z2, z3, z4, z5⟩ := y7 (ao_u C3' (92 + 71 * t) 8 0) (ao_u (ao_u (ao_u (ao_u D1 552 t (nI (φ B))) 557 t (nI (ns (N b)))) 558 t (nI (nt (N b)))) 556 t 0) (fun x i q => u_ne (by omega)) (fun x i q => by rw [u_ne (by omega), u_ne (by omega), u_ne (by omega), u_ne (by omega)])
  clear y7
  have y1 := hv_mono y1 (fun _ h => Eq.symm h)
  have y2 := hv_mono y2 (fun _ h => Eq.symm h)
  have y3 := hv_mono y3 (fun _ h => Eq.symm h)
  refine hv_bind (P := fun y => hv (fun n => gX12_step n 537 (nI t) D σ) (fun w => EndE nw bw br y w)) ?_ ?_
  rotate_left 1
  · intro y hy
    refine hv_up (fun _ => fX2_step.eq_2 ..) ?_
    try simp only [↓reduceIte, Nat.reduceEqDiff, Option.bind_some, ao_let, n_ell]
    try simp (disch := first | omega | assumption) only [↓reduceIte, Nat.reduceEqDiff, Option.bind_some, ao_let, t_le, f_le, t_lt, f_lt, f_eq, u_eq, u_n1, u_n2, n_cl, n_lt, n_le, n_eq, n_ltl, n_llt, n_lel, n_lle, n_eql, n_leq, n_add, n_mul, n_sub, n_addl, n_ladd, n_mull, n_lmul, n_subl, Int32.reduceLT, Int32.reduceLE, Int32.reduceAdd, Int32.reduceSub, Int32.reduceMul, Int32.reduceToNatClampNeg, not_false_eq_true, not_true_eq_false, or_false, false_or, or_self, and_self, false_and, true_and, and_false, and_true, true_or, or_true, Nat.reduceAdd, Nat.reduceMul, Nat.reduceLT, Nat.reduceLeDiff, ne_eq, n_ell]
    exact hv_some hy
  have c81 : C1 (92 + 71 * t) 8 = nI 1 := by
    have := hM1.2.2.2.2.2.2.1
    rw [h1] at this
    exact this
  have ckd : C1 kd 0 = nI len := by rw [cu _ _ (by omega)]; exact b12
  have hl := LvS_of f2 ht (show 0 < 10 by omega)
  rw [Nat.mul_zero, Nat.add_zero] at hl
  have e8 : dpC C1 t = 1 := by
    unfold dpC
    rw [c81, n_cl (by omega)]
  have hdp0 : ∀ {C5 : ao_M}, C5 (92 + 71 * t) 8 = 0 → dpC C5 t = 0 := by
    intro C5 e
    unfold dpC
    rw [e]; decide
  -- the end of it all
  have fin : EndE nw bw br (0, ao_u (ao_u C4 (92 + 71 * t) 2 1) (92 + 71 * t) 3 (nI B), ρ4) (0, ao_u (dClear t 0 (ao_u D4 556 t 0)) 551 t 1, σ4) := by
    have hC5 : ∀ x i, ¬ (92 + 71 * t ≤ x ∧ x < 92 + 71 * t + 71) → ao_u (ao_u C4 (92 + 71 * t) 2 1) (92 + 71 * t) 3 (nI B) x i = C4 x i := fun x i q => by rw [u_ne (by omega), u_ne (by omega)]
    have hdc : ∀ x i, ¬ (i = t ∧ (x = 551 ∨ x = 556)) → ¬ ((x = 577 ∨ x = 578) ∧ t * 12 * 26 ≤ i ∧ i < t * 12 * 26 + 26) → ¬ (x = 584 ∧ i = t * 12) → ao_u (dClear t 0 (ao_u D4 556 t 0)) 551 t 1 x i = D4 x i := fun x i q1 q2 q3 => by
      rw [u_ne (by omega)]
      unfold dClear
      rw [Nat.add_zero, if_neg (by omega), if_neg (by omega), u_ne (by omega)]
    have hD5 : ∀ x i, ¬ (551 ≤ x ∧ x ≤ 584 ∧ t * wd x ≤ i ∧ i < (t + 1) * wd x) → ao_u (dClear t 0 (ao_u D4 556 t 0)) 551 t 1 x i = D4 x i := fun x i q => by
      refine hdc x i ?_ ?_ ?_
      · rintro ⟨rfl, q'⟩
        have hw1 : wd x = 1 := by
          unfold wd
          rw [if_neg (by omega), if_neg (by omega), if_neg (by omega), if_neg (by omega), if_neg (by omega), if_neg (by omega)]
        exact q ⟨by omega, by omega, by rw [hw1]; omega, by rw [hw1]; omega⟩
      · rintro ⟨q1, q2, q3⟩
        have hw1 : wd x = 312 := by
          unfold wd
          rw [if_neg (by omega), if_neg (by omega), if_neg (by omega), if_pos (by omega)]
        exact q ⟨by omega, by omega, by rw [hw1]; omega, by rw [hw1]; omega⟩
      · rintro ⟨rfl, q2⟩
        exact q ⟨by omega, by omega, by show t * 12 ≤ i; omega, by show i < (t + 1) * 12; omega⟩
    have hz3 := z3
    obtain ⟨-, ⟨r1, r2, r3, r4, r5, r6, r7, r8, r9⟩, ⟨s1, s2, s3, s4, s5, s6, s7⟩, -⟩ := z3
    have hLv := hM1.2.2.2.2.2.2.2.1 0 (by omega)
    have c8' : ao_u (ao_u C4 (92 + 71 * t) 2 1) (92 + 71 * t) 3 (nI B) (92 + 71 * t) 8 = 0 := by rw [u_n2 (by omega), u_n2 (by omega), z4 _ (by omega), u_eq]
    have hT : Thr (ao_u (ao_u C4 (92 + 71 * t) 2 1) (92 + 71 * t) 3 (nI B)) ρ4 (ao_u (dClear t 0 (ao_u D4 556 t 0)) 551 t 1) rc' t := by
      refine rdy_T (B := B) (q := φ B) hF1 ht hM1 hz3 hC5 hD5 (by rw [u_n2 (by omega), u_eq]) u_eq c8' ?_ (fun i q1 q2 q3 q4 => by rw [u_n2 (by omega), u_n2 (by omega)]) (fun x q => hdc _ _ (by omega) (by omega) (by omega)) (fun k hk => ?_) o8 o10 (by rw [o9]; exact o3) u_eq ?_ o14 (Or.inl rfl) ?_ ?_ ?_ (fun x hx => ?_)
      · rw [u_n1 (by omega)]
        unfold dClear
        rw [if_neg (by omega), if_neg (by omega), u_eq]
      · rw [u_n1 (by omega), u_n1 (by omega), r5 k hk, hdc _ _ (by omega) (by omega) (by omega), s5 k hk]
        have := hLv.2.1 k hk
        rw [Nat.mul_zero, Nat.add_zero, Nat.add_zero] at this
        exact this
      · rw [hdc _ _ (by omega) (by omega) (by omega), z5 _ (by omega), u_n1 (by omega), u_n1 (by omega), u_n1 (by omega), u_eq]
      · rw [o9, u_n2 (by omega), u_n2 (by omega), r4]; exact o6
      · rw [o9, hdc _ _ (by omega) (by omega) (by omega), z5 _ (by omega), u_n1 (by omega), u_eq]
      · rw [o9, hdc _ _ (by omega) (by omega) (by omega), z5 _ (by omega), u_n1 (by omega), u_n1 (by omega), u_eq]
      · rw [o9] at hx
        obtain ⟨n1, n2, n3⟩ := o17 x hx
        exact lo_ent ht hz3 (hM1.2.2.2.2.1.2.2.2 x (o4 x (List.mem_cons_of_mem _ hx))) (fun e => absurd e n1) n2 n3 ⟨by rw [u_n1 (by omega), u_n1 (by omega)], by rw [u_n1 (by omega), u_n1 (by omega)], fun y i q1 q2 => by rw [u_n1 (by omega), u_n1 (by omega)]⟩ (fun y j q1 q2 q3 => hdc _ _ (by omega) (by omega) (by omega))
    refine ⟨kp', rc', rfl, (show ¬ (0 : Int32) < 0 by decide), ?_⟩
    exact lo_fin hF1 ht e8 hz3 hC5 hD5 hT (lo_B hF1 ht hz3 hC5 hD5 (by dsimp only; rw [u_n2 (by omega), u_eq]; decide)) (by dsimp only; rw [hdp0 c8']; rfl) (by dsimp only; rw [hdp0 c8']; exact Nat.zero_le _)
  have hz3 := z3
  obtain ⟨⟨l1, l2, -, -⟩, -⟩ := hz3
  have zc := sh_zc hF1.2.1
  have zd := sh_zd hF1.2.1
  have f24 := HxC_shB l1 zc f2
  have f44 := HxD_sh l2 zd f4
  have hR4 := RnS_of f24 ht
  unfold gX2_quit
  refine hv_up (fun _ => fX2_quit.eq_2 ..) ?_
  try simp only [↓reduceIte, Nat.reduceEqDiff, Option.bind_some, ao_let, n_ell, hR, c81, b1]
  try simp (disch := first | omega | assumption) only [↓reduceIte, Nat.reduceEqDiff, Option.bind_some, ao_let, t_le, f_le, t_lt, f_lt, f_eq, u_eq, u_n1, u_n2, n_cl, n_lt, n_le, n_eq, n_ltl, n_llt, n_lel, n_lle, n_eql, n_leq, n_add, n_mul, n_sub, n_addl, n_ladd, n_mull, n_lmul, n_subl, Int32.reduceLT, Int32.reduceLE, Int32.reduceAdd, Int32.reduceSub, Int32.reduceMul, Int32.reduceToNatClampNeg, not_false_eq_true, not_true_eq_false, or_false, false_or, or_self, and_self, false_and, true_and, and_false, and_true, true_or, or_true, Nat.reduceAdd, Nat.reduceMul, Nat.reduceLT, Nat.reduceLeDiff, ne_eq, n_ell, hR, c81, b1]
  refine hv_bind (P := fun y => y = (92 + 71 * t + 8, C1)) (by
    have := c_inn (j := 0) (C2 := C1) (Q := fun y => y = (92 + 71 * t + 8, C1)) f2 ht (by omega) c81 rfl
    exact this) ?_
  rintro _ rfl
  try simp only [↓reduceIte, Nat.reduceEqDiff, Option.bind_some, ao_let, n_ell, f1, hl, b2, gX1_secondAt, o5, ckd, b5, b8, b11, o7, c81]
  try simp (disch := first | omega | assumption) only [↓reduceIte, Nat.reduceEqDiff, Option.bind_some, ao_let, t_le, f_le, t_lt, f_lt, f_eq, u_eq, u_n1, u_n2, n_cl, n_lt, n_le, n_eq, n_ltl, n_llt, n_lel, n_lle, n_eql, n_leq, n_add, n_mul, n_sub, n_addl, n_ladd, n_mull, n_lmul, n_subl, Int32.reduceLT, Int32.reduceLE, Int32.reduceAdd, Int32.reduceSub, Int32.reduceMul, Int32.reduceToNatClampNeg, not_false_eq_true, not_true_eq_false, or_false, false_or, or_self, and_self, false_and, true_and, and_false, and_true, true_or, or_true, Nat.reduceAdd, Nat.reduceMul, Nat.reduceLT, Nat.reduceLeDiff, ne_eq, n_ell, f1, hl, b2, gX1_secondAt, o5, ckd, b5, b8, b11, o7, c81]
  refine hv_bind (P := fun y => y = (ao_u C4 (92 + 71 * t) 2 1, ρ4)) ?_ ?_
  · unfold gX2_leaveFrom
    refine hv_up (fun _ => fX2_leaveFrom.eq_2 ..) ?_
    try simp only [↓reduceIte, Nat.reduceEqDiff, Option.bind_some, ao_let, n_ell, hR, c81, f1, Nat.sub_self]
    try simp (disch := first | omega | assumption) only [↓reduceIte, Nat.reduceEqDiff, Option.bind_some, ao_let, t_le, f_le, t_lt, f_lt, f_eq, u_eq, u_n1, u_n2, n_cl, n_lt, n_le, n_eq, n_ltl, n_llt, n_lel, n_lle, n_eql, n_leq, n_add, n_mul, n_sub, n_addl, n_ladd, n_mull, n_lmul, n_subl, Int32.reduceLT, Int32.reduceLE, Int32.reduceAdd, Int32.reduceSub, Int32.reduceMul, Int32.reduceToNatClampNeg, not_false_eq_true, not_true_eq_false, or_false, false_or, or_self, and_self, false_and, true_and, and_false, and_true, true_or, or_true, Nat.reduceAdd, Nat.reduceMul, Nat.reduceLT, Nat.reduceLeDiff, ne_eq, n_ell, hR, c81, f1, Nat.sub_self]
    refine hv_bind (P := fun y => C2 = y) y1 ?_
    rintro _ rfl
    refine hv_bind (P := fun y => C3' = y) y2 ?_
    rintro _ rfl
    try simp only [↓reduceIte, Nat.reduceEqDiff, Option.bind_some, ao_let, n_ell, f1, y4, Nat.sub_self, n_00]
    try simp (disch := first | omega | assumption) only [↓reduceIte, Nat.reduceEqDiff, Option.bind_some, ao_let, t_le, f_le, t_lt, f_lt, f_eq, u_eq, u_n1, u_n2, n_cl, n_lt, n_le, n_eq, n_ltl, n_llt, n_lel, n_lle, n_eql, n_leq, n_add, n_mul, n_sub, n_addl, n_ladd, n_mull, n_lmul, n_subl, Int32.reduceLT, Int32.reduceLE, Int32.reduceAdd, Int32.reduceSub, Int32.reduceMul, Int32.reduceToNatClampNeg, not_false_eq_true, not_true_eq_false, or_false, false_or, or_self, and_self, false_and, true_and, and_false, and_true, true_or, or_true, Nat.reduceAdd, Nat.reduceMul, Nat.reduceLT, Nat.reduceLeDiff, ne_eq, n_ell, f1, y4, Nat.sub_self, n_00]
    refine hv_bind (P := fun y => y = (C4, ρ4)) z1 ?_
    rintro _ rfl
    refine hv_up (fun _ => fX2_leaveFrom.eq_2 ..) ?_
    try simp only [↓reduceIte, Nat.reduceEqDiff, Option.bind_some, ao_let, n_ell, hR4]
    try simp (disch := first | omega | assumption) only [↓reduceIte, Nat.reduceEqDiff, Option.bind_some, ao_let, t_le, f_le, t_lt, f_lt, f_eq, u_eq, u_n1, u_n2, n_cl, n_lt, n_le, n_eq, n_ltl, n_llt, n_lel, n_lle, n_eql, n_leq, n_add, n_mul, n_sub, n_addl, n_ladd, n_mull, n_lmul, n_subl, Int32.reduceLT, Int32.reduceLE, Int32.reduceAdd, Int32.reduceSub, Int32.reduceMul, Int32.reduceToNatClampNeg, not_false_eq_true, not_true_eq_false, or_false, false_or, or_self, and_self, false_and, true_and, and_false, and_true, true_or, or_true, Nat.reduceAdd, Nat.reduceMul, Nat.reduceLT, Nat.reduceLeDiff, ne_eq, n_ell, hR4]
    exact hv_some rfl
  rintro _ rfl
  refine hv_up (fun _ => fX2_quit.eq_2 ..) ?_
  try simp only [↓reduceIte, Nat.reduceEqDiff, Option.bind_some, ao_let, n_ell, hR4]
  try simp (disch := first | omega | assumption) only [↓reduceIte, Nat.reduceEqDiff, Option.bind_some, ao_let, t_le, f_le, t_lt, f_lt, f_eq, u_eq, u_n1, u_n2, n_cl, n_lt, n_le, n_eq, n_ltl, n_llt, n_lel, n_lle, n_eql, n_leq, n_add, n_mul, n_sub, n_addl, n_ladd, n_mull, n_lmul, n_subl, Int32.reduceLT, Int32.reduceLE, Int32.reduceAdd, Int32.reduceSub, Int32.reduceMul, Int32.reduceToNatClampNeg, not_false_eq_true, not_true_eq_false, or_false, false_or, or_self, and_self, false_and, true_and, and_false, and_true, true_or, or_true, Nat.reduceAdd, Nat.reduceMul, Nat.reduceLT, Nat.reduceLeDiff, ne_eq, n_ell, hR4]
  refine hv_some ?_
  generalize EndE nw bw br (0, ao_u (ao_u C4 (92 + 71 * t) 2 1) (92 + 71 * t) 3 (nI B), ρ4) = P at fin ⊢
  unfold gX12_step
  refine hv_up (fun _ => fX12_step.eq_2 ..) ?_
  try simp only [↓reduceIte, Nat.reduceEqDiff, Option.bind_some, ao_let, n_ell, f4, t11, g1]
  try simp (disch := first | omega | assumption) only [↓reduceIte, Nat.reduceEqDiff, Option.bind_some, ao_let, t_le, f_le, t_lt, f_lt, f_eq, u_eq, u_n1, u_n2, n_cl, n_lt, n_le, n_eq, n_ltl, n_llt, n_lel, n_lle, n_eql, n_leq, n_add, n_mul, n_sub, n_addl, n_ladd, n_mull, n_lmul, n_subl, Int32.reduceLT, Int32.reduceLE, Int32.reduceAdd, Int32.reduceSub, Int32.reduceMul, Int32.reduceToNatClampNeg, not_false_eq_true, not_true_eq_false, or_false, false_or, or_self, and_self, false_and, true_and, and_false, and_true, true_or, or_true, Nat.reduceAdd, Nat.reduceMul, Nat.reduceLT, Nat.reduceLeDiff, ne_eq, n_ell, f4, t11, g1]
  refine hv_bind (P := P) ?_ ?_
  rotate_left 1
  · intro y hy
    refine hv_up (fun _ => fX12_step.eq_2 ..) ?_
    try simp only [↓reduceIte, Nat.reduceEqDiff, Option.bind_some, ao_let, n_ell]
    try simp (disch := first | omega | assumption) only [↓reduceIte, Nat.reduceEqDiff, Option.bind_some, ao_let, t_le, f_le, t_lt, f_lt, f_eq, u_eq, u_n1, u_n2, n_cl, n_lt, n_le, n_eq, n_ltl, n_llt, n_lel, n_lle, n_eql, n_leq, n_add, n_mul, n_sub, n_addl, n_ladd, n_mull, n_lmul, n_subl, Int32.reduceLT, Int32.reduceLE, Int32.reduceAdd, Int32.reduceSub, Int32.reduceMul, Int32.reduceToNatClampNeg, not_false_eq_true, not_true_eq_false, or_false, false_or, or_self, and_self, false_and, true_and, and_false, and_true, true_or, or_true, Nat.reduceAdd, Nat.reduceMul, Nat.reduceLT, Nat.reduceLeDiff, ne_eq, n_ell]
    exact hv_some hy
  unfold gX12_quit
  refine hv_up (fun _ => fX12_quit.eq_2 ..) ?_
  have e72 : D1 572 (t * 12) = nI (φ B) := by
    have := y5 572 0 (by omega) (by omega)
    rw [Nat.add_zero] at this
    rw [this]; exact o11
  have e73 : D1 573 (t * 12) = nI (ns (N b) + 1) := by
    have := y5 573 0 (by omega) (by omega)
    rw [Nat.add_zero] at this
    rw [this]; exact o12
  have e74 : D1 574 (t * 12) = nI (nt (N b)) := by
    have := y5 574 0 (by omega) (by omega)
    rw [Nat.add_zero] at this
    rw [this]; exact o13
  try simp only [↓reduceIte, Nat.reduceEqDiff, Option.bind_some, ao_let, n_ell, f4, w3, gX12_level, Nat.sub_self]
  try simp (disch := first | omega | assumption) only [↓reduceIte, Nat.reduceEqDiff, Option.bind_some, ao_let, t_le, f_le, t_lt, f_lt, f_eq, u_eq, u_n1, u_n2, n_cl, n_lt, n_le, n_eq, n_ltl, n_llt, n_lel, n_lle, n_eql, n_leq, n_add, n_mul, n_sub, n_addl, n_ladd, n_mull, n_lmul, n_subl, Int32.reduceLT, Int32.reduceLE, Int32.reduceAdd, Int32.reduceSub, Int32.reduceMul, Int32.reduceToNatClampNeg, not_false_eq_true, not_true_eq_false, or_false, false_or, or_self, and_self, false_and, true_and, and_false, and_true, true_or, or_true, Nat.reduceAdd, Nat.reduceMul, Nat.reduceLT, Nat.reduceLeDiff, ne_eq, n_ell, f4, w3, gX12_level, Nat.sub_self]
  refine hv_bind (P := fun y => D1 = y) y3 ?_
  rintro _ rfl
  try simp only [↓reduceIte, Nat.reduceEqDiff, Option.bind_some, ao_let, n_ell, f4, e72, e73, e74, Nat.add_sub_cancel, Nat.add_zero, Nat.sub_self, n_00]
  try simp (disch := first | omega | assumption) only [↓reduceIte, Nat.reduceEqDiff, Option.bind_some, ao_let, t_le, f_le, t_lt, f_lt, f_eq, u_eq, u_n1, u_n2, n_cl, n_lt, n_le, n_eq, n_ltl, n_llt, n_lel, n_lle, n_eql, n_leq, n_add, n_mul, n_sub, n_addl, n_ladd, n_mull, n_lmul, n_subl, Int32.reduceLT, Int32.reduceLE, Int32.reduceAdd, Int32.reduceSub, Int32.reduceMul, Int32.reduceToNatClampNeg, not_false_eq_true, not_true_eq_false, or_false, false_or, or_self, and_self, false_and, true_and, and_false, and_true, true_or, or_true, Nat.reduceAdd, Nat.reduceMul, Nat.reduceLT, Nat.reduceLeDiff, ne_eq, n_ell, f4, e72, e73, e74, Nat.add_sub_cancel, Nat.add_zero, Nat.sub_self, n_00]
  refine hv_bind (P := fun y => y = (ao_u (dClear t 0 (ao_u D4 556 t 0)) 551 t 1, σ4)) ?_ ?_
  · unfold gX12_leave
    refine hv_up (fun _ => fX12_leave.eq_2 ..) ?_
    simp only [↓reduceIte, f4]
    refine hv_bind (P := fun y => y = (D4, σ4)) z2 ?_
    rintro _ rfl
    refine hv_up (fun _ => fX12_leave.eq_2 ..) ?_
    try simp only [↓reduceIte, Nat.reduceEqDiff, Option.bind_some, ao_let, n_ell, f44]
    try simp (disch := first | omega | assumption) only [↓reduceIte, Nat.reduceEqDiff, Option.bind_some, ao_let, t_le, f_le, t_lt, f_lt, f_eq, u_eq, u_n1, u_n2, n_cl, n_lt, n_le, n_eq, n_ltl, n_llt, n_lel, n_lle, n_eql, n_leq, n_add, n_mul, n_sub, n_addl, n_ladd, n_mull, n_lmul, n_subl, Int32.reduceLT, Int32.reduceLE, Int32.reduceAdd, Int32.reduceSub, Int32.reduceMul, Int32.reduceToNatClampNeg, not_false_eq_true, not_true_eq_false, or_false, false_or, or_self, and_self, false_and, true_and, and_false, and_true, true_or, or_true, Nat.reduceAdd, Nat.reduceMul, Nat.reduceLT, Nat.reduceLeDiff, ne_eq, n_ell, f44]
    refine hv_bind (P := fun y => y = dClear t 0 (ao_u D4 556 t 0)) (dv_clear (l := 0) f44 ht (by omega) _ rfl) ?_
    rintro _ rfl
    try simp only [↓reduceIte, Nat.reduceEqDiff, Option.bind_some, ao_let, n_ell, f44]
    try simp (disch := first | omega | assumption) only [↓reduceIte, Nat.reduceEqDiff, Option.bind_some, ao_let, t_le, f_le, t_lt, f_lt, f_eq, u_eq, u_n1, u_n2, n_cl, n_lt, n_le, n_eq, n_ltl, n_llt, n_lel, n_lle, n_eql, n_leq, n_add, n_mul, n_sub, n_addl, n_ladd, n_mull, n_lmul, n_subl, Int32.reduceLT, Int32.reduceLE, Int32.reduceAdd, Int32.reduceSub, Int32.reduceMul, Int32.reduceToNatClampNeg, not_false_eq_true, not_true_eq_false, or_false, false_or, or_self, and_self, false_and, true_and, and_false, and_true, true_or, or_true, Nat.reduceAdd, Nat.reduceMul, Nat.reduceLT, Nat.reduceLeDiff, ne_eq, n_ell, f44]
    exact hv_some rfl
  rintro _ rfl
  refine hv_up (fun _ => fX12_quit.eq_2 ..) ?_
  try simp only [↓reduceIte, Nat.reduceEqDiff, Option.bind_some, ao_let, n_ell]
  try simp (disch := first | omega | assumption) only [↓reduceIte, Nat.reduceEqDiff, Option.bind_some, ao_let, t_le, f_le, t_lt, f_lt, f_eq, u_eq, u_n1, u_n2, n_cl, n_lt, n_le, n_eq, n_ltl, n_llt, n_lel, n_lle, n_eql, n_leq, n_add, n_mul, n_sub, n_addl, n_ladd, n_mull, n_lmul, n_subl, Int32.reduceLT, Int32.reduceLE, Int32.reduceAdd, Int32.reduceSub, Int32.reduceMul, Int32.reduceToNatClampNeg, not_false_eq_true, not_true_eq_false, or_false, false_or, or_self, and_self, false_and, true_and, and_false, and_true, true_or, or_true, Nat.reduceAdd, Nat.reduceMul, Nat.reduceLT, Nat.reduceLeDiff, ne_eq, n_ell]
  exact hv_some fin
end Sta7
