set_option linter.unusedSimpArgs false
set_option linter.unusedVariables false
/-! ===== if and while, both parsers ===== -/
theorem FrC_lo {C D : ao_M} {l l' : Nat} (h : FrC C D l') (hl : l ≤ l') : FrC C D l := ⟨h.1, fun j hj => h.2 j (by omega)⟩
theorem FrD_lo {C D : ao_M} {l l' : Nat} (h : FrD C D l') (hl : l ≤ l') : FrD C D l := ⟨h.1, fun j hj => h.2 j (by omega)⟩
theorem if_ok {ρ σ : ao_H} {s : Fn} {len e : Nat} (hE : PE ρ σ s len e) {C D : ao_M} {i l m dep st ec ed : Nat} {β : List (Bool × Nat)} (hB : ∀ T', T' < e - i → BLs ρ σ s len e T') (hC : PC C s len e i l st) (hD : PD D σ s len (i + 1) m dep st (fc β)) (hi : i < e) (h1 : l ≤ i) (h2 : m ≤ 2 * i) (hd : dep ≤ 10) (hst : st ≤ 300) (hb : β.length ≤ dep) (hec : 4 * (10 - dep) + 1 ≤ ec) (hed : 4 * (10 - dep) + 1 ≤ ed) : hv (fun n => fGS n ec 3000 2 (wf β) (nI dep) 0 0 C ρ) (fun y => hv (fun n => bigB n ed (rK 5) (rW 5 (vl s len i)) D σ) (fun w => PO C D σ s len e l m (SQ σ s len e i l m dep st β) y w)) := by
  have hρ := hE.1
  have a6 := hE.2.2.1
  have a7 := hE.2.2.2.1
  have eB : ∀ n, bigB n ed (rK 5) (rW 5 (vl s len i)) D σ = (gX12_condition n 537 D σ).bind fun p30 => ao_cs p30.1 (fun _ => fGB n ed 1248 537 3 0 1 0 0 0 0 0 0 0 0 p30.2.1 p30.2.2) (fun E => some (.inr E, p30.2.1, p30.2.2)) := fun n => rfl
  refine hv_inE eB ?_
  refine hv_up (fun _ => fGS.eq_2 ..) ?_
  simp only [Nat.reduceEqDiff, ↓reduceIte, hρ, Option.bind_some]
  refine hv_seq ?_
  refine hv_mono (cond_ok (β := β) hE hC hD hi h1 h2 hd (by omega)) (fun y hy => hv_mono hy (fun w hw => ?_))
  rcases y with ⟨y1, C1⟩
  rcases w with ⟨w1, D1, σ1⟩
  obtain ⟨p1, fC1, fD1, ⟨p4, p5, p6⟩ | ⟨p4, p5, j, p6, p7, p8⟩⟩ := hw
  rotate_left 1
  · dsimp only at p1 fC1 fD1 p4 p5 p7 p8
    subst p1 p4 p5
    simp only [↓reduceIte]
    refine hv_some ?_
    simp only [ao_cs]
    exact hv_some (PO_no p6 rfl fC1 p7 rfl rfl p8 fD1)
  dsimp only at p1 fC1 fD1 p4 p5 p6
  subst p1 p4 p5
  obtain ⟨i1, l1, m1, G1, q1, q2, q3, q4, q5, q6, q7, q8, q9, q10, q11, q12⟩ := p6
  obtain ⟨C2, c1, c2, c3, c4, c5, c6⟩ := c_add hE q3 (show l1 < 1000 by omega) 13 0
  obtain ⟨D2, d1, d2, d3, d4, d5, d6⟩ := d_make hE q4 (show m1 < 6000 by omega) 11 0 0
  simp only [if_neg (show ¬ (1 : Int32) = 0 by decide), hρ, Option.bind_some, ↓reduceIte, c1, ao_let, ao_cs, if_pos (show 0 < ec by omega)]
  refine hv_inU (fun _ => fGB.eq_2 ..) ?_
  simp only [Nat.reduceEqDiff, ↓reduceIte, if_pos q4.1.1, d1, Option.bind_some, ao_let, if_pos (show 0 < ed by omega)]
  refine hv_seq ?_
  refine hv_mono (hB (e - i1) (by omega) C2 D2 i1 (l1 + 1) (m1 + 1) dep st (ec - 1) (ed - 1) β (Nat.le_refl _) c2 d2 q2 (by omega) (by omega) hd hst (by omega) (by omega) (by omega)) (fun y hy => hv_mono hy (fun w hw => ?_))
  rcases y with ⟨y1, C3⟩
  rcases w with ⟨w1, D3, σ3⟩
  obtain ⟨p1, fC3, fD3, ⟨p4, p5, p6⟩ | ⟨p4, p5, j, p6, p7, p8⟩⟩ := hw
  rotate_left 1
  · dsimp only at p1 fC3 fD3 p4 p5 p7 p8
    subst p1 p4 p5
    simp only [↓reduceIte]
    refine hv_some ?_
    simp only [ao_cs]
    exact hv_some (PO_no p6 rfl (FrC_tr fC1 (FrC_tr (FrC_lo c3 (Nat.le_of_lt q7)) (FrC_lo fC3 (by omega)) (Nat.le_refl _)) (Nat.le_refl _)) p7 rfl rfl p8 (FrD_tr fD1 (FrD_tr (FrD_lo d3 (Nat.le_of_lt q8)) (FrD_lo fD3 (by omega)) (Nat.le_refl _)) (Nat.le_refl _)))
  dsimp only at p1 fC3 fD3 p4 p5 p6
  subst p1 p4 p5
  obtain ⟨hd10, i2, l2, m2, st2, G2, r0, r1, r2, r3, r4, r5, r6, r7, r8, r9, r10, r11, r12⟩ := p6
  have h8 := r4.2.1.2.1
  have h84 := r4.2.2.2.1
  have h13 := r5.2.2.1
  have hkl := @kd_le s len i2
  simp only [if_neg (show ¬ (1 : Int32) = 0 by decide), hρ, Option.bind_some, ↓reduceIte, ao_cs, h8]
  refine hv_inU (fun _ => fGB.eq_2 ..) ?_
  simp only [Nat.reduceEqDiff, ↓reduceIte, if_pos r5.1.1, show (1 : Int32) = nI 1 from rfl, d_word (w := 1) r5 (by omega), Option.bind_some]
  have hσ := hE.2.1
  by_cases k6 : kd s len i2 = 6
  · refine hv_ifT (by rw [k6]; rfl) ?_
    simp only [if_pos (show kd s len i2 = 5 + 1 from k6), if_neg (show ¬ nI 1 = (0 : Int32) by decide)]
    have hlt := kd_lt hE r2 (by omega)
    refine hv_bind (c_adv hE r4 hlt) ?_
    rintro C4 ⟨e1, e2⟩
    obtain ⟨C5, c7, c8, c9, c10, c11, c12⟩ := c_add hE e1 (show l2 < 1000 by omega) 12 0
    obtain ⟨x1, x2, x3⟩ := c_setF hE c8 (p := l1) (by omega) (nI (l2 + 1))
    simp only [c7, Option.bind_some, c8.2.2.2.1, x1]
    refine hv_inB (d_tok hE r5) ?_
    rintro D4 ⟨g1, g2⟩
    obtain ⟨D5, d7, d8, d9, d10, d11, d12⟩ := d_make hE g1 (show m2 < 6000 by omega) 12 0 0
    obtain ⟨z1, z2⟩ := PD_541 (x := 3 * m1 + 1) (p := m1) (v := nI (m2 + 1)) d8 (by omega)
    simp only [d7, Option.bind_some, d8.2.2.1]
    try simp only [↓reduceIte, Nat.reduceEqDiff, Option.bind_some, ao_let, n_ell, hσ]
    try simp (disch := first | omega | assumption) only [↓reduceIte, Nat.reduceEqDiff, Option.bind_some, ao_let, t_le, f_le, t_lt, f_lt, f_eq, u_eq, u_n1, u_n2, n_cl, n_lt, n_le, n_eq, n_ltl, n_llt, n_lel, n_lle, n_eql, n_leq, n_add, n_mul, n_sub, n_addl, n_ladd, n_mull, n_lmul, n_subl, Int32.reduceLT, Int32.reduceLE, Int32.reduceAdd, Int32.reduceSub, Int32.reduceMul, Int32.reduceToNatClampNeg, not_false_eq_true, not_true_eq_false, or_false, false_or, or_self, and_self, false_and, true_and, and_false, and_true, true_or, or_true, Nat.reduceAdd, Nat.reduceMul, Nat.reduceLT, Nat.reduceLeDiff, ne_eq, n_ell, hσ]
    have fC5 : FrC C2 (ao_u C5 10 l1 (nI (l2 + 1))) l1 := FrC_tr (FrC_lo fC3 (by omega)) (FrC_tr (e2 l1) (FrC_tr (FrC_lo c9 (by omega)) x3 (Nat.le_refl _)) (Nat.le_refl _)) (Nat.le_refl _)
    have fD5 : FrD D2 (ao_u D5 541 (3 * m1 + 1) (nI (m2 + 1))) m1 := FrD_tr (FrD_lo fD3 (by omega)) (FrD_tr (g2 m1) (FrD_tr (FrD_lo d9 (by omega)) z2 (Nat.le_refl _)) (Nat.le_refl _)) (Nat.le_refl _)
    refine hv_seq ?_
    refine hv_mono (hB (e - (i2 + 1)) (by omega) _ _ (i2 + 1) (l2 + 1) (m2 + 1) dep st2 (ec - 1) (ed - 1) β (Nat.le_refl _) x2 z1 (by omega) (by omega) (by omega) hd r3 (by omega) (by omega) (by omega)) (fun y hy => hv_mono hy (fun w hw => ?_))
    rcases y with ⟨y1, C6⟩
    rcases w with ⟨w1, D6, σ6⟩
    obtain ⟨p1, fC6, fD6, ⟨p4, p5, p6⟩ | ⟨p4, p5, j, p6, p7, p8⟩⟩ := hw
    rotate_left 1
    · dsimp only at p1 fC6 fD6 p4 p5 p7 p8
      subst p1 p4 p5
      simp only [↓reduceIte]
      refine hv_some ?_
      simp only [ao_cs]
      exact hv_some (PO_no p6 rfl (FrC_tr fC1 (FrC_tr (FrC_lo c3 (Nat.le_of_lt q7)) (FrC_tr (FrC_lo fC5 (by omega)) (FrC_lo fC6 (by omega)) (Nat.le_refl _)) (Nat.le_refl _)) (Nat.le_refl _)) p7 rfl rfl p8 (FrD_tr fD1 (FrD_tr (FrD_lo d3 (Nat.le_of_lt q8)) (FrD_tr (FrD_lo fD5 (by omega)) (FrD_lo fD6 (by omega)) (Nat.le_refl _)) (Nat.le_refl _)) (Nat.le_refl _)))
    dsimp only at p1 fC6 fD6 p4 p5 p6
    subst p1 p4 p5
    obtain ⟨-, i3, l3, m3, st3, G3, t0, t1, t2, t3, t4, t5, t6, t7, t8, t9, t10, t11, t12⟩ := p6
    obtain ⟨x4, x5, x6⟩ := c_setF hE t4 (p := l2) (by omega) (nI l3)
    obtain ⟨z3, z4⟩ := PD_541 (x := 3 * m2 + 1) (p := m2) (v := nI m3) t5 (by omega)
    simp only [if_neg (show ¬ nI 1 = (0 : Int32) by decide), t4.2.2.2.1, x4, Option.bind_some, ao_cs]
    refine hv_some ?_
    refine hv_up (fun _ => fGB.eq_2 ..) ?_
    try simp only [↓reduceIte, Nat.reduceEqDiff, Option.bind_some, ao_let, n_ell, hσ, t5.2.2.1]
    try simp (disch := first | omega | assumption) only [↓reduceIte, Nat.reduceEqDiff, Option.bind_some, ao_let, t_le, f_le, t_lt, f_lt, f_eq, u_eq, u_n1, u_n2, n_cl, n_lt, n_le, n_eq, n_ltl, n_llt, n_lel, n_lle, n_eql, n_leq, n_add, n_mul, n_sub, n_addl, n_ladd, n_mull, n_lmul, n_subl, Int32.reduceLT, Int32.reduceLE, Int32.reduceAdd, Int32.reduceSub, Int32.reduceMul, Int32.reduceToNatClampNeg, not_false_eq_true, not_true_eq_false, or_false, false_or, or_self, and_self, false_and, true_and, and_false, and_true, true_or, or_true, Nat.reduceAdd, Nat.reduceMul, Nat.reduceLT, Nat.reduceLeDiff, ne_eq, n_ell, hσ, t5.2.2.1]
    refine hv_up (fun _ => fGB.eq_2 ..) ?_
    simp only [Nat.reduceEqDiff, ↓reduceIte]
    -- what each side has in the end
    generalize hCf : ao_u C6 10 l2 (nI l3) = Cf at *
    generalize hDf : ao_u D6 541 (3 * m2 + 1) (nI m3) = Df at *
    have kC2 : ∀ j, j < l1 → Cf 9 j = C2 9 j ∧ Cf 10 j = C2 10 j ∧ Cf 11 j = C2 11 j := fun j hj => (FrC_tr (FrC_lo fC5 (Nat.le_refl _)) (FrC_tr (FrC_lo fC6 (by omega)) (FrC_lo x6 (by omega)) (Nat.le_refl l1)) (Nat.le_refl _)).2 j hj
    have kD2 : ∀ x, x < 3 * m1 → Df 541 x = D2 541 x := (FrD_tr (FrD_lo fD5 (Nat.le_refl _)) (FrD_tr (FrD_lo fD6 (by omega)) (FrD_lo z4 (by omega)) (Nat.le_refl m1)) (Nat.le_refl _)).2
    have kC6 : ∀ j, j < l2 → Cf 9 j = (ao_u C5 10 l1 (nI (l2 + 1))) 9 j ∧ Cf 10 j = (ao_u C5 10 l1 (nI (l2 + 1))) 10 j ∧ Cf 11 j = (ao_u C5 10 l1 (nI (l2 + 1))) 11 j := fun j hj => (FrC_tr (FrC_lo fC6 (by omega)) x6 (Nat.le_refl _)).2 j hj
    have kD6 : ∀ x, x < 3 * m2 → Df 541 x = (ao_u D5 541 (3 * m1 + 1) (nI (m2 + 1))) 541 x := (FrD_tr (FrD_lo fD6 (by omega)) z4 (Nat.le_refl _)).2
    have kC5 : ∀ j, j < l2 → C5 9 j = C3 9 j ∧ C5 10 j = C3 10 j ∧ C5 11 j = C3 11 j := fun j hj => (FrC_tr (e2 l2) c9 (Nat.le_refl _)).2 j hj
    have kD5 : ∀ x, x < 3 * m2 → D5 541 x = D3 541 x := (FrD_tr (g2 m2) d9 (Nat.le_refl _)).2
    have s1 : Sg Tr Cf Df G1 l l1 m m1 β := Sg_fr q11 (fun j a b => by
      obtain ⟨u1, u2, u3⟩ := kC2 j b
      obtain ⟨v1, v2, v3⟩ := c3.2 j b
      exact ⟨u1.trans v1, u2.trans v2, u3.trans v3⟩) (fun x a b => (kD2 x b).trans (d3.2 x b))
    have s2 : Sg Tr Cf Df G2 (l1 + 1) l2 (m1 + 1) m2 β := Sg_fr r12 (fun j a b => by
      obtain ⟨u1, u2, u3⟩ := kC6 j b
      obtain ⟨v1, v2, v3⟩ := kC5 j b
      rw [u1, u2, u3, u_n1 (by omega), u_n2 (by omega), u_n1 (by omega)]
      exact ⟨v1, v2, v3⟩) (fun x a b => by
      rw [kD6 x b, u_n2 (by omega)]
      exact kD5 x b)
    have s3 : Sg Tr Cf Df G3 (l2 + 1) l3 (m2 + 1) m3 β := Sg_fr t12 (fun j a b => by
      rw [← hCf, u_n1 (by omega), u_n2 (by omega), u_n1 (by omega)]
      exact ⟨rfl, rfl, rfl⟩) (fun x a b => by
      rw [← hDf, u_n2 (by omega)])
    obtain ⟨G, w1, w2, w3⟩ := if1_sg (by omega) s1 q10 s2 r10 r11 s3 t10 t11 (by
      rw [(kC6 l1 (by omega)).1, u_n1 (by omega), (kC5 l1 (by omega)).1, (fC3.2 l1 (by omega)).1]; exact c4) (by
      rw [(kC6 l1 (by omega)).2.1, u_eq]) (by
      rw [kD6 _ (by omega), u_n2 (by omega), kD5 _ (by omega), fD3.2 _ (by omega)]; exact d4) (by
      rw [kD6 _ (by omega), u_eq]) (by
      rw [← hCf, u_n1 (by omega), (fC6.2 l2 (by omega)).1, u_n1 (by omega)]; exact c10) (by
      rw [← hCf, u_eq]) (by
      rw [← hDf, u_n2 (by omega), fD6.2 _ (by omega), u_n2 (by omega)]; exact d10) (by
      rw [← hDf, u_eq])
    refine hv_some (PO_yes (FrC_tr fC1 (FrC_tr (FrC_lo c3 (Nat.le_of_lt q7)) ⟨?_, fun j hj => kC2 j (by omega)⟩ (Nat.le_refl _)) (Nat.le_refl _)) (FrD_tr fD1 (FrD_tr (FrD_lo d3 (Nat.le_of_lt q8)) ⟨?_, fun x hx => kD2 x (by omega)⟩ (Nat.le_refl _)) (Nat.le_refl _)) ⟨i3, l3, m3, st3, G, by omega, by omega, t2, t3, x5, z3, by omega, by omega, by omega, by omega, ?_, w2, w3⟩)
    · exact (FrC_tr (FrC_lo fC5 (Nat.le_refl _)) (FrC_tr (FrC_lo fC6 (by omega)) (FrC_lo x6 (by omega)) (Nat.le_refl l1)) (Nat.le_refl _)).1
    · exact (FrD_tr (FrD_lo fD5 (Nat.le_refl _)) (FrD_tr (FrD_lo fD6 (by omega)) (FrD_lo z4 (by omega)) (Nat.le_refl m1)) (Nat.le_refl _)).1
    · rw [w1]; exact q9
  · refine hv_ifF (by rw [show (6 : Int32) = nI 6 from rfl, n_eq (by omega) (by omega)]; exact k6) ?_
    simp only [if_neg (show ¬ kd s len i2 = 5 + 1 from k6), ↓reduceIte]
    obtain ⟨x1, x2, x3⟩ := c_setF hE r4 (p := l1) (by omega) (nI l2)
    obtain ⟨z1, z2⟩ := PD_541 (x := 3 * m1 + 1) (p := m1) (v := nI m2) r5 (by omega)
    simp only [h84, x1, Option.bind_some]
    refine hv_some ?_
    try simp only [↓reduceIte, Nat.reduceEqDiff, Option.bind_some, ao_let, n_ell, hσ, h13]
    try simp (disch := first | omega | assumption) only [↓reduceIte, Nat.reduceEqDiff, Option.bind_some, ao_let, t_le, f_le, t_lt, f_lt, f_eq, u_eq, u_n1, u_n2, n_cl, n_lt, n_le, n_eq, n_ltl, n_llt, n_lel, n_lle, n_eql, n_leq, n_add, n_mul, n_sub, n_addl, n_ladd, n_mull, n_lmul, n_subl, Int32.reduceLT, Int32.reduceLE, Int32.reduceAdd, Int32.reduceSub, Int32.reduceMul, Int32.reduceToNatClampNeg, not_false_eq_true, not_true_eq_false, or_false, false_or, or_self, and_self, false_and, true_and, and_false, and_true, true_or, or_true, Nat.reduceAdd, Nat.reduceMul, Nat.reduceLT, Nat.reduceLeDiff, ne_eq, n_ell, hσ, h13]
    refine hv_up (fun _ => fGB.eq_2 ..) ?_
    simp only [Nat.reduceEqDiff, ↓reduceIte]
    generalize hCf : ao_u C3 10 l1 (nI l2) = Cf at *
    generalize hDf : ao_u D3 541 (3 * m1 + 1) (nI m2) = Df at *
    have fCf : FrC C2 Cf l1 := FrC_tr (FrC_lo fC3 (by omega)) x3 (Nat.le_refl _)
    have fDf : FrD D2 Df m1 := FrD_tr (FrD_lo fD3 (by omega)) z2 (Nat.le_refl _)
    have s1 : Sg Tr Cf Df G1 l l1 m m1 β := Sg_fr q11 (fun j a b => (FrC_tr c3 fCf (Nat.le_refl _)).2 j b) (fun x a b => (FrD_tr d3 fDf (Nat.le_refl _)).2 x b)
    have s2 : Sg Tr Cf Df G2 (l1 + 1) l2 (m1 + 1) m2 β := Sg_fr r12 (fun j a b => by
      rw [← hCf, u_n1 (by omega), u_n2 (by omega), u_n1 (by omega)]
      exact ⟨rfl, rfl, rfl⟩) (fun x a b => by
      rw [← hDf, u_n2 (by omega)])
    obtain ⟨G, w1, w2, w3⟩ := if0_sg (by omega) s1 q10 s2 r10 r11 (by
      rw [← hCf, u_n1 (by omega), (fC3.2 l1 (by omega)).1]; exact c4) (by
      rw [← hCf, u_eq]) (by
      rw [← hDf, u_n2 (by omega), fD3.2 _ (by omega)]; exact d4) (by
      rw [← hDf, u_eq])
    refine hv_some (PO_yes (FrC_tr fC1 (FrC_tr (FrC_lo c3 (Nat.le_of_lt q7)) (FrC_lo fCf (by omega)) (Nat.le_refl _)) (Nat.le_refl _)) (FrD_tr fD1 (FrD_tr (FrD_lo d3 (Nat.le_of_lt q8)) (FrD_lo fDf (by omega)) (Nat.le_refl _)) (Nat.le_refl _)) ⟨i2, l2, m2, st2, G, by omega, by omega, r2, r3, x2, z1, by omega, by omega, by omega, by omega, ?_, w2, w3⟩)
    rw [w1]; exact q9
