set_option linter.unusedSimpArgs false
set_option linter.unusedVariables false
theorem while_ok {ρ σ : ao_H} {s : Fn} {len e : Nat} (hE : PE ρ σ s len e) {C D : ao_M} {i l m dep st ec ed : Nat} {β : List (Bool × Nat)} (hB : ∀ T', T' < e - i → BLs ρ σ s len e T') (hC : PC C s len e i l st) (hD : PD D σ s len (i + 1) m dep st (fc β)) (hi : i < e) (h1 : l ≤ i) (h2 : m ≤ 2 * i) (hd : dep ≤ 10) (hst : st ≤ 300) (hb : β.length ≤ dep) (hec : 4 * (10 - dep) + 1 ≤ ec) (hed : 4 * (10 - dep) + 1 ≤ ed) : hv (fun n => fGS n ec 4000 2 (wf β) (nI dep) 0 0 C ρ) (fun y => hv (fun n => bigB n ed (rK 7) (rW 7 (vl s len i)) D σ) (fun w => PO C D σ s len e l m (SQ σ s len e i l m dep st β) y w)) := by
  have hρ := hE.1
  have a6 := hE.2.2.1
  have a7 := hE.2.2.2.1
  have eB : ∀ n, bigB n ed (rK 7) (rW 7 (vl s len i)) D σ = (gX12_condition n 537 D σ).bind fun p30 => ao_cs p30.1 (fun _ => fGB n ed 1349 537 3 2 1 0 (D 537 13) 0 0 0 0 0 0 p30.2.1 p30.2.2) (fun E => some (.inr E, p30.2.1, p30.2.2)) := fun n => rfl
  rw [hD.2.2.1] at eB
  refine hv_inE eB ?_
  refine hv_up (fun _ => fGS.eq_2 ..) ?_
  simp only [Nat.reduceEqDiff, ↓reduceIte, hρ, Option.bind_some, ao_let, hC.2.2.2.1]
  refine hv_seq ?_
  refine hv_mono (cond_ok (β := β) hE hC hD hi h1 h2 hd (by omega)) (fun y hy => hv_mono hy (fun w hw => ?_))
  rcases y with ⟨y1, C1⟩
  rcases w with ⟨w1, D1, σ1⟩
  obtain ⟨p1, fC1, fD1, ⟨p4, p5, p6⟩ | ⟨p4, p5, j, p6, p7, p8⟩⟩ := hw
  rotate_left 1
  · dsimp only at p1 fC1 fD1 p4 p5 p7 p8
    subst p1 p4 p5
    simp only [↓reduceIte]
    refine hv_some ?_
    simp only [ao_cs]
    exact hv_some (PO_no p6 rfl fC1 p7 rfl rfl p8 fD1)
  dsimp only at p1 fC1 fD1 p4 p5 p6
  subst p1 p4 p5
  obtain ⟨i1, l1, m1, G1, q1, q2, q3, q4, q5, q6, q7, q8, q9, q10, q11, q12⟩ := p6
  obtain ⟨C2, c1, c2, c3, c4, c5, c6⟩ := c_add hE q3 (show l1 < 1000 by omega) 14 0
  obtain ⟨D1', d1', d2', d3', d4', d5', d6'⟩ := d_make hE q4 (show m1 < 6000 by omega) 11 0 0
  obtain ⟨D2, d1, d2, d3, d4, d5, d6⟩ := d_make hE d2' (show m1 + 1 < 6000 by omega) 13 0 0
  simp only [if_neg (show ¬ (1 : Int32) = 0 by decide), Option.bind_some, c1, ao_cs, if_pos (show 0 < ec by omega)]
  refine hv_inU (fun _ => fGB.eq_2 ..) ?_
  simp only [Nat.reduceEqDiff, ↓reduceIte, if_pos q4.1.1, d1', d1, Option.bind_some, ao_let, if_pos (show 0 < ed by omega)]
  have fD2 : FrD D1 D2 m1 := FrD_tr d3' (FrD_lo d3 (by omega)) (Nat.le_refl _)
  refine hv_seq ?_
  refine hv_mono (hB (e - i1) (by omega) C2 D2 i1 (l1 + 1) (m1 + 1 + 1) dep st (ec - 1) (ed - 1) β (Nat.le_refl _) c2 d2 q2 (by omega) (by omega) hd hst (by omega) (by omega) (by omega)) (fun y hy => hv_mono hy (fun w hw => ?_))
  rcases y with ⟨y1, C3⟩
  rcases w with ⟨w1, D3, σ3⟩
  obtain ⟨p1, fC3, fD3, ⟨p4, p5, p6⟩ | ⟨p4, p5, j, p6, p7, p8⟩⟩ := hw
  rotate_left 1
  · dsimp only at p1 fC3 fD3 p4 p5 p7 p8
    subst p1 p4 p5
    simp only [↓reduceIte]
    refine hv_some ?_
    simp only [ao_cs]
    exact hv_some (PO_no p6 rfl (FrC_tr fC1 (FrC_tr (FrC_lo c3 (Nat.le_of_lt q7)) (FrC_lo fC3 (by omega)) (Nat.le_refl _)) (Nat.le_refl _)) p7 rfl rfl p8 (FrD_tr fD1 (FrD_tr (FrD_lo fD2 (Nat.le_of_lt q8)) (FrD_lo fD3 (by omega)) (Nat.le_refl _)) (Nat.le_refl _)))
  dsimp only at p1 fC3 fD3 p4 p5 p6
  subst p1 p4 p5
  obtain ⟨hd10, i2, l2, m2, st2, G2, r0, r1, r2, r3, r4, r5, r6, r7, r8, r9, r10, r11, r12⟩ := p6
  have hσ := hE.2.1
  obtain ⟨C4, c7, c8, c9, c10, c11, c12⟩ := c_add hE r4 (show l2 < 1000 by omega) 12 (nI l)
  obtain ⟨x1, x2, x3⟩ := c_setF hE c8 (p := l1) (by omega) (nI (l2 + 1))
  obtain ⟨D4, d7, d8, d9, d10, d11, d12⟩ := d_make hE r5 (show m2 < 6000 by omega) 12 (nI m) 0
  obtain ⟨z1, z2⟩ := PD_541 (x := 3 * m1 + 1) (p := m1) (v := nI (m2 + 1)) d8 (by omega)
  simp only [if_neg (show ¬ (1 : Int32) = 0 by decide), Option.bind_some, c7, c8.2.2.2.1, x1, ao_cs]
  refine hv_some ?_
  refine hv_up (fun _ => fGB.eq_2 ..) ?_
  simp only [Nat.reduceEqDiff, ↓reduceIte, if_pos r5.1.1, d7, Option.bind_some, ao_let, d8.2.2.1]
  try simp only [↓reduceIte, Nat.reduceEqDiff, Option.bind_some, ao_let, n_ell, hσ]
  try simp (disch := first | omega | assumption) only [↓reduceIte, Nat.reduceEqDiff, Option.bind_some, ao_let, t_le, f_le, t_lt, f_lt, f_eq, u_eq, u_n1, u_n2, n_cl, n_lt, n_le, n_eq, n_ltl, n_llt, n_lel, n_lle, n_eql, n_leq, n_add, n_mul, n_sub, n_addl, n_ladd, n_mull, n_lmul, n_subl, Int32.reduceLT, Int32.reduceLE, Int32.reduceAdd, Int32.reduceSub, Int32.reduceMul, Int32.reduceToNatClampNeg, not_false_eq_true, not_true_eq_false, or_false, false_or, or_self, and_self, false_and, true_and, and_false, and_true, true_or, or_true, Nat.reduceAdd, Nat.reduceMul, Nat.reduceLT, Nat.reduceLeDiff, ne_eq, n_ell, hσ]
  refine hv_up (fun _ => fGB.eq_2 ..) ?_
  simp only [Nat.reduceEqDiff, ↓reduceIte]
  generalize hCf : ao_u C4 10 l1 (nI (l2 + 1)) = Cf at *
  generalize hDf : ao_u D4 541 (3 * m1 + 1) (nI (m2 + 1)) = Df at *
  have kC4 : ∀ j, j < l2 → C4 9 j = C3 9 j ∧ C4 10 j = C3 10 j ∧ C4 11 j = C3 11 j := c9.2
  have fCf : FrC C2 Cf l1 := FrC_tr (FrC_lo fC3 (by omega)) (FrC_tr (FrC_lo c9 (by omega)) x3 (Nat.le_refl _)) (Nat.le_refl _)
  have fDf : FrD D2 Df m1 := FrD_tr (FrD_lo fD3 (by omega)) (FrD_tr (FrD_lo d9 (by omega)) z2 (Nat.le_refl _)) (Nat.le_refl _)
  have s1 : Sg Tr Cf Df G1 l l1 m m1 β := Sg_fr q11 (fun j a b => (FrC_tr c3 fCf (Nat.le_refl _)).2 j b) (fun x a b => (FrD_tr fD2 fDf (Nat.le_refl _)).2 x b)
  have s2 : Sg Tr Cf Df G2 (l1 + 1) l2 (m1 + 2) m2 β := Sg_fr r12 (fun j a b => by
    rw [← hCf, u_n1 (by omega), u_n2 (by omega), u_n1 (by omega)]
    exact kC4 j b) (fun x a b => by
    rw [← hDf, u_n2 (by omega)]
    exact d9.2 x b)
  obtain ⟨G, w1, w2, w3⟩ := while_sg (by omega) s1 q9 q10 q7 (fun j a b => by
    rw [((FrC_tr c3 fCf (Nat.le_refl _)).2 j b).1]; exact q12 j a b) s2 r10 r11 (by
    rw [← hCf, u_n1 (by omega), (kC4 l1 (by omega)).1, (fC3.2 l1 (by omega)).1]; exact c4) (by
    rw [← hCf, u_eq]) (by
    rw [← hDf, u_n2 (by omega), d9.2 _ (by omega), fD3.2 _ (by omega), d3.2 _ (by omega)]; exact d4') (by
    rw [← hDf, u_eq]) (by
    rw [← hDf, u_n2 (by omega), d9.2 _ (by omega), fD3.2 _ (by omega)]; exact d4) (by
    rw [← hCf, u_n1 (by omega)]; exact c10) (by
    rw [← hCf, u_n2 (by omega)]; exact c11) (by
    rw [← hDf, u_n2 (by omega)]; exact d10) (by
    rw [← hDf, u_n2 (by omega)]; exact d11)
  exact hv_some (PO_yes (FrC_tr fC1 (FrC_tr (FrC_lo c3 (Nat.le_of_lt q7)) (FrC_lo fCf (by omega)) (Nat.le_refl _)) (Nat.le_refl _)) (FrD_tr fD1 (FrD_tr (FrD_lo fD2 (Nat.le_of_lt q8)) (FrD_lo fDf (by omega)) (Nat.le_refl _)) (Nat.le_refl _)) ⟨i2, l2 + 1, m2 + 1, st2, G, by omega, by omega, r2, r3, x2, z1, by omega, by omega, by omega, by omega, w1, w2, w3⟩)
/-- try -/
theorem try_ok {ρ σ : ao_H} {s : Fn} {len e : Nat} (hE : PE ρ σ s len e) {C D : ao_M} {i l m dep st ec ed : Nat} {β : List (Bool × Nat)} (hB : ∀ T', T' < e - i → BLs ρ σ s len e T') (hC : PC C s len e i l st) (hD : PD D σ s len (i + 1) m dep st (fc β)) (hi : i < e) (h1 : l ≤ i) (h2 : m ≤ 2 * i) (hd : dep ≤ 10) (hst : st ≤ 300) (hb : β.length ≤ dep) (hec : 4 * (10 - dep) + 1 ≤ ec) (hed : 4 * (10 - dep) + 2 ≤ ed) : hv (fun n => fGS n ec 6000 2 (wf β) (nI dep) 0 0 C ρ) (fun y => hv (fun n => bigB n ed (rK 15) (rW 15 (vl s len i)) D σ) (fun w => PO C D σ s len e l m (SQ σ s len e i l m dep st β) y w)) := by
  have hρ := hE.1
  have hσ := hE.2.1
  have a6 := hE.2.2.1
  have a7 := hE.2.2.2.1
  have hby := hE.2.2.2.2.2.2.1
  have eB : ∀ n, bigB n ed (rK 15) (rW 15 (vl s len i)) D σ = (if 0 < ed then (fGB n (ed - 1) 2000 537 0 0 0 0 0 0 0 0 0 0 0 D σ).bind fun p41 => ao_cs p41.1 (fun _ => fGB n ed 1469 537 3 10 1 0 0 0 0 0 0 0 0 p41.2.1 p41.2.2) (fun E => some (.inr E, p41.2.1, p41.2.2)) else none) := fun n => rfl
  refine hv_inE eB ?_
  simp only [if_pos (show 0 < ed by omega)]
  -- the reference's own end
  have wrap : ∀ (Q : ao_M → ao_M → Prop) {f : Nat → Option (Int32 × ao_M)}, hv f (fun y => hv (fun n => fGB n (ed - 1) 2000 537 0 0 0 0 0 0 0 0 0 0 0 D σ) (fun w => PO C D σ s len e l m Q y w)) → hv f (fun y => hv (fun n => (fGB n (ed - 1) 2000 537 0 0 0 0 0 0 0 0 0 0 0 D σ).bind fun p41 => ao_cs p41.1 (fun _ => fGB n ed 1469 537 3 10 1 0 0 0 0 0 0 0 0 p41.2.1 p41.2.2) (fun E => some (.inr E, p41.2.1, p41.2.2))) (fun w => PO C D σ s len e l m Q y w)) := by
    intro Q f h
    refine hv_mono h (fun y hy => hv_bind hy ?_)
    rintro ⟨w1, D1, σ1⟩ hw
    have hw' := hw
    obtain ⟨p1, -, -, ⟨-, p5, -⟩ | ⟨-, p5, -⟩⟩ := hw
    · dsimp only at p1 p5
      subst p1 p5
      simp only [ao_cs]
      refine hv_up (fun _ => fGB.eq_2 ..) ?_
      simp only [Nat.reduceEqDiff, ↓reduceIte]
      refine hv_up (fun _ => fGB.eq_2 ..) ?_
      simp only [Nat.reduceEqDiff, ↓reduceIte]
      exact hv_some hw'
    · dsimp only at p1 p5
      subst p1 p5
      simp only [ao_cs]
      exact hv_some hw'
  refine wrap _ ?_
  refine hv_up (fun _ => fGS.eq_2 ..) ?_
  simp only [Nat.reduceEqDiff, ↓reduceIte, hρ, Option.bind_some, ao_let]
  refine hv_bind (c_adv hE hC hi) ?_
  rintro C1 ⟨e1, e2⟩
  obtain ⟨C2, c1, c2, c3, c4, c5, c6⟩ := c_add hE e1 (show l < 1000 by omega) 21 0
  obtain ⟨D2, d1, d2, d3, d4, d5, d6⟩ := d_make hE hD (show m < 6000 by omega) 20 0 0
  simp only [c1, Option.bind_some, if_pos (show 0 < ec by omega)]
  refine hv_inU (fun _ => fGB.eq_2 ..) ?_
  simp only [Nat.reduceEqDiff, ↓reduceIte, if_pos hD.1.1, d1, Option.bind_some, ao_let, if_pos (show 0 < ed - 1 by omega)]
  have fC2 : FrC C C2 l := FrC_tr (e2 l) c3 (Nat.le_refl _)
  have ef : fc ((true, l) :: β) = fc β := by simp [fc]
  have ewf : wf ((true, l) :: β) = wf β := by unfold wf; rw [ef]
  have d2' : PD D2 σ s len (i + 1) (m + 1) dep st (fc ((true, l) :: β)) := by rw [ef]; exact d2
  refine hv_seq ?_
  rw [← ewf]
  refine hv_mono (hB (e - (i + 1)) (by omega) C2 D2 (i + 1) (l + 1) (m + 1) dep st (ec - 1) (ed - 1 - 1) ((true, l) :: β) (Nat.le_refl _) c2 d2' (by omega) (by omega) (by omega) hd hst (by simp; omega) (by omega) (by omega)) (fun y hy => hv_mono hy (fun w hw => ?_))
  rw [ewf]
  rcases y with ⟨y1, C3⟩
  rcases w with ⟨w1, D3, σ3⟩
  obtain ⟨p1, fC3, fD3, ⟨p4, p5, p6⟩ | ⟨p4, p5, j, p6, p7, p8⟩⟩ := hw
  rotate_left 1
  · dsimp only at p1 fC3 fD3 p4 p5 p7 p8
    subst p1 p4 p5
    simp only [↓reduceIte]
    refine hv_some ?_
    simp only [ao_cs]
    exact hv_some (PO_no p6 rfl (FrC_tr fC2 (FrC_lo fC3 (by omega)) (Nat.le_refl _)) p7 rfl rfl p8 (FrD_tr d3 (FrD_lo fD3 (by omega)) (Nat.le_refl _)))
  dsimp only at p1 fC3 fD3 p4 p5 p6
  subst p1 p4 p5
  obtain ⟨hd10, i2, l2, m2, st2, G2, r0, r1, r2, r3, r4, r5, r6, r7, r8, r9, r10, r11, r12⟩ := p6
  rw [ef] at r5
  obtain ⟨C4, c7, c8, c9, c10, c11, c12⟩ := c_add hE r4 (show l2 < 1000 by omega) 22 0
  obtain ⟨D4', d7', d8', d9', d10', d11', d12'⟩ := d_make hE r5 (show m2 < 6000 by omega) 21 0 0
  obtain ⟨D4, d7, d8, d9, d10, d11, d12⟩ := d_make hE d8' (show m2 + 1 < 6000 by omega) 12 0 0
  have fD4 : FrD D3 D4 m2 := FrD_tr d9' (FrD_lo d9 (by omega)) (Nat.le_refl _)
  simp only [if_neg (show ¬ (1 : Int32) = 0 by decide), Option.bind_some, c7, ao_cs]
  refine hv_inU (fun _ => fGB.eq_2 ..) ?_
  simp only [Nat.reduceEqDiff, ↓reduceIte, if_pos r5.1.1, d7', d7, Option.bind_some, ao_let, show (11 : Int32) = nI 11 from rfl, d_word (w := 11) d8 (by omega)]
  rw [show (16 : Int32) = nI 16 from rfl]
  have fCo : FrC C C4 l := FrC_tr fC2 (FrC_tr (FrC_lo fC3 (by omega)) (FrC_lo c9 (by omega)) (Nat.le_refl l)) (Nat.le_refl _)
  have fDo : FrD D D4 m := FrD_tr d3 (FrD_tr (FrD_lo fD3 (by omega)) (FrD_lo fD4 (by omega)) (Nat.le_refl m)) (Nat.le_refl _)
  by_cases k16 : kd s len i2 = 16
  rotate_left 1
  · refine hv_bind (c_exp0 hE c8 k16 (by omega)) ?_
    rintro ⟨y1, C5⟩ ⟨e3, e4, e5⟩
    dsimp only at e3 e4 e5
    subst e3
    simp only [↓reduceIte, if_neg (show ¬ kd s len i2 = 5 + 11 from k16)]
    refine hv_some ?_
    simp only [d_wrong hE d8, Option.bind_some, if_pos (d_538 hE)]
    exact hv_some (PO_no r2 rfl (FrC_tr fCo (e4 l) (Nat.le_refl _)) e5 rfl rfl (show (ao_u D4 537 2 _) 537 2 = _ from u_eq) (FrD_tr fDo d_wrF (Nat.le_refl _)))
  have hlt2 := kd_lt hE r2 (by omega)
  refine hv_bind (c_exp hE c8 hlt2 k16) ?_
  rintro ⟨y1, C5⟩ ⟨e3, e4, e5⟩
  dsimp only at e3 e4 e5
  subst e3
  obtain ⟨x1, x2, x3⟩ := c_setF hE e4 (p := l) (by omega) (nI (l2 + 1))
  obtain ⟨x4, x5, x6⟩ := c_setS hE x2 (p := l) (by omega) (vl s len (i2 + 1))
  simp only [if_neg (show ¬ (1 : Int32) = 0 by decide), if_pos (show kd s len i2 = 5 + 11 from k16), e4.2.2.2.1, x1, Option.bind_some, x2.2.1.2.2.2, x4]
  refine hv_inB (d_tok hE d8) ?_
  rintro D5 ⟨g1, g2⟩
  rw [show (3 : Int32) = nI 3 from rfl]
  have h9 := g1.2.1.1
  have hkl := @kd_le s len (i2 + 1)
  by_cases k3 : kd s len (i2 + 1) = 3
  rotate_left 1
  · refine hv_bind (c_exp0 hE x5 k3 (by omega)) ?_
    rintro ⟨y1, C6⟩ ⟨e6, e7, e8⟩
    dsimp only at e6 e7 e8
    subst e6
    have nk : ¬ rK (kd s len (i2 + 1)) = 2 := by
      have : ∀ k, k < 28 → ¬ k = 3 → ¬ rK k = 2 := by decide +kernel
      exact this _ (by omega) k3
    simp only [↓reduceIte, h9, if_neg nk]
    refine hv_some ?_
    simp only [d_wrong hE g1, Option.bind_some, if_pos (d_538 hE)]
    exact hv_some (PO_no (i := i2 + 1) (by omega) rfl (FrC_tr fCo (FrC_tr (e5 l) (FrC_tr x3 (FrC_tr x6 (e7 l) (Nat.le_refl _)) (Nat.le_refl _)) (Nat.le_refl _)) (Nat.le_refl _)) e8 rfl rfl (show (ao_u D5 537 2 _) 537 2 = _ from u_eq) (FrD_tr fDo (FrD_tr (g2 m) d_wrF (Nat.le_refl _)) (Nat.le_refl _)))
  have hlt3 := kd_lt hE (show i2 + 1 ≤ e by omega) (by omega)
  obtain ⟨r, hr1, hr2⟩ := vl_ltr (b := bg s len (i2 + 1)) hby (Or.inr k3)
  have hr3 : vl s len (i2 + 1) = nI r := hr2
  refine hv_bind (c_exp hE x5 hlt3 k3) ?_
  rintro ⟨y1, C6⟩ ⟨e6, e7, e8⟩
  dsimp only at e6 e7 e8
  subst e6
  have hw10 : D5 537 10 = nI r := by rw [g1.2.1.2.1 (by omega), k3]; exact hr3
  have rk2 : rK (kd s len (i2 + 1)) = 2 := by rw [k3]; rfl
  obtain ⟨z1, z2⟩ := PD_541 (x := 3 * m + 2) (p := m) (v := nI r) g1 (by omega)
  simp only [if_neg (show ¬ (1 : Int32) = 0 by decide), h9, if_pos rk2, hw10]
  try simp only [↓reduceIte, Nat.reduceEqDiff, Option.bind_some, ao_let, n_ell, hσ]
  try simp (disch := first | omega | assumption) only [↓reduceIte, Nat.reduceEqDiff, Option.bind_some, ao_let, t_le, f_le, t_lt, f_lt, f_eq, u_eq, u_n1, u_n2, n_cl, n_lt, n_le, n_eq, n_ltl, n_llt, n_lel, n_lle, n_eql, n_leq, n_add, n_mul, n_sub, n_addl, n_ladd, n_mull, n_lmul, n_subl, Int32.reduceLT, Int32.reduceLE, Int32.reduceAdd, Int32.reduceSub, Int32.reduceMul, Int32.reduceToNatClampNeg, not_false_eq_true, not_true_eq_false, or_false, false_or, or_self, and_self, false_and, true_and, and_false, and_true, true_or, or_true, Nat.reduceAdd, Nat.reduceMul, Nat.reduceLT, Nat.reduceLeDiff, ne_eq, n_ell, hσ]
  refine hv_inB (d_tok hE z1) ?_
  rintro D6 ⟨g3, g4⟩
  obtain ⟨z3, z4⟩ := PD_541 (x := 3 * m + 1) (p := m) (v := nI (m2 + 1 + 1)) g3 (by omega)
  simp only [g3.2.2.1]
  try simp only [↓reduceIte, Nat.reduceEqDiff, Option.bind_some, ao_let, n_ell, hσ]
  try simp (disch := first | omega | assumption) only [↓reduceIte, Nat.reduceEqDiff, Option.bind_some, ao_let, t_le, f_le, t_lt, f_lt, f_eq, u_eq, u_n1, u_n2, n_cl, n_lt, n_le, n_eq, n_ltl, n_llt, n_lel, n_lle, n_eql, n_leq, n_add, n_mul, n_sub, n_addl, n_ladd, n_mull, n_lmul, n_subl, Int32.reduceLT, Int32.reduceLE, Int32.reduceAdd, Int32.reduceSub, Int32.reduceMul, Int32.reduceToNatClampNeg, not_false_eq_true, not_true_eq_false, or_false, false_or, or_self, and_self, false_and, true_and, and_false, and_true, true_or, or_true, Nat.reduceAdd, Nat.reduceMul, Nat.reduceLT, Nat.reduceLeDiff, ne_eq, n_ell, hσ]
  have fC6 : FrC C4 C6 l := FrC_tr (e5 l) (FrC_tr x3 (FrC_tr x6 (e8 l) (Nat.le_refl _)) (Nat.le_refl _)) (Nat.le_refl _)
  have fD6 : FrD D4 (ao_u D6 541 (3 * m + 1) (nI (m2 + 1 + 1))) m := FrD_tr (g2 m) (FrD_tr z2 (FrD_tr (g4 m) z4 (Nat.le_refl _)) (Nat.le_refl _)) (Nat.le_refl _)
  refine hv_seq ?_
  refine hv_mono (hB (e - (i2 + 1 + 1)) (by omega) C6 _ (i2 + 1 + 1) (l2 + 1) (m2 + 1 + 1) dep st2 (ec - 1) (ed - 1 - 1) β (Nat.le_refl _) e7 z3 (by omega) (by omega) (by omega) hd r3 (by omega) (by omega) (by omega)) (fun y hy => hv_mono hy (fun w hw => ?_))
  rcases y with ⟨y1, C7⟩
  rcases w with ⟨w1, D7, σ7⟩
  obtain ⟨p1, fC7, fD7, ⟨p4, p5, p6⟩ | ⟨p4, p5, j, p6, p7, p8⟩⟩ := hw
  rotate_left 1
  · dsimp only at p1 fC7 fD7 p4 p5 p7 p8
    subst p1 p4 p5
    simp only [↓reduceIte]
    refine hv_some ?_
    simp only [ao_cs]
    exact hv_some (PO_no p6 rfl (FrC_tr fCo (FrC_tr fC6 (FrC_lo fC7 (by omega)) (Nat.le_refl _)) (Nat.le_refl _)) p7 rfl rfl p8 (FrD_tr fDo (FrD_tr fD6 (FrD_lo fD7 (by omega)) (Nat.le_refl _)) (Nat.le_refl _)))
  dsimp only at p1 fC7 fD7 p4 p5 p6
  subst p1 p4 p5
  obtain ⟨-, i3, l3, m3, st3, G3, t0, t1, t2, t3, t4, t5, t6, t7, t8, t9, t10, t11, t12⟩ := p6
  obtain ⟨x7, x8, x9⟩ := c_setF hE t4 (p := l2) (by omega) (nI l3)
  obtain ⟨z5, z6⟩ := PD_541 (x := 3 * (m2 + 1) + 1) (p := m2) (v := nI m3) t5 (by omega)
  simp only [if_neg (show ¬ (1 : Int32) = 0 by decide), t4.2.2.2.1, x7, Option.bind_some, ao_cs]
  refine hv_some ?_
  refine hv_up (fun _ => fGB.eq_2 ..) ?_
  try simp only [↓reduceIte, Nat.reduceEqDiff, Option.bind_some, ao_let, n_ell, hσ, t5.2.2.1]
  try simp (disch := first | omega | assumption) only [↓reduceIte, Nat.reduceEqDiff, Option.bind_some, ao_let, t_le, f_le, t_lt, f_lt, f_eq, u_eq, u_n1, u_n2, n_cl, n_lt, n_le, n_eq, n_ltl, n_llt, n_lel, n_lle, n_eql, n_leq, n_add, n_mul, n_sub, n_addl, n_ladd, n_mull, n_lmul, n_subl, Int32.reduceLT, Int32.reduceLE, Int32.reduceAdd, Int32.reduceSub, Int32.reduceMul, Int32.reduceToNatClampNeg, not_false_eq_true, not_true_eq_false, or_false, false_or, or_self, and_self, false_and, true_and, and_false, and_true, true_or, or_true, Nat.reduceAdd, Nat.reduceMul, Nat.reduceLT, Nat.reduceLeDiff, ne_eq, n_ell, hσ, t5.2.2.1]
  generalize hCf : ao_u C7 10 l2 (nI l3) = Cf at *
  generalize hDf : ao_u D7 541 (3 * (m2 + 1) + 1) (nI m3) = Df at *
  have kC7 : ∀ j, j < l2 → Cf 9 j = C6 9 j ∧ Cf 10 j = C6 10 j ∧ Cf 11 j = C6 11 j := fun j hj => (FrC_tr (FrC_lo fC7 (by omega)) x9 (Nat.le_refl _)).2 j hj
  have kC6 : ∀ j, C6 9 j = C5 9 j ∧ (j ≠ l → C6 10 j = C5 10 j ∧ C6 11 j = C5 11 j) := fun j => by
    obtain ⟨u1, u2, u3⟩ := (e8 (j + 1)).2 j (by omega)
    rw [u1, u2, u3]
    refine ⟨by rw [u_n1 (by omega), u_n1 (by omega)], fun hj => ⟨by rw [u_n1 (by omega), u_n2 (by omega)], by rw [u_n2 (by omega), u_n1 (by omega)]⟩⟩
  have kC5 : ∀ j, C5 9 j = C4 9 j ∧ C5 10 j = C4 10 j ∧ C5 11 j = C4 11 j := fun j => (e5 (j + 1)).2 j (by omega)
  have kD6 : ∀ x, x < 3 * m2 + 4 → Df 541 x = (ao_u D6 541 (3 * m + 1) (nI (m2 + 1 + 1))) 541 x := fun x hx => by rw [← hDf, u_n2 (by omega), fD7.2 x (by omega)]
  have kD5 : ∀ x, x ≠ 3 * m + 1 → x ≠ 3 * m + 2 → (ao_u D6 541 (3 * m + 1) (nI (m2 + 1 + 1))) 541 x = D4 541 x := fun x a b => by
    rw [u_n2 (by omega), (g4 (x + 1)).2 x (by omega), u_n2 (by omega), (g2 (x + 1)).2 x (by omega)]
  have s2 : Sg Tr Cf Df G2 (l + 1) l2 (m + 1) m2 ((true, l) :: β) := Sg_fr r12 (fun j a b => by
    obtain ⟨u1, u2, u3⟩ := kC7 j b
    obtain ⟨v1, v2⟩ := kC6 j
    obtain ⟨v2, v3⟩ := v2 (by omega)
    obtain ⟨y1, y2, y3⟩ := kC5 j
    obtain ⟨o1, o2, o3⟩ := c9.2 j b
    exact ⟨u1.trans (v1.trans (y1.trans o1)), u2.trans (v2.trans (y2.trans o2)), u3.trans (v3.trans (y3.trans o3))⟩) (fun x a b => by
    rw [kD6 x (by omega), kD5 x (by omega) (by omega)]
    exact fD4.2 x (by omega))
  have s3 : Sg Tr Cf Df G3 (l2 + 1) l3 (m2 + 2) m3 β := Sg_fr t12 (fun j a b => by
    rw [← hCf, u_n1 (by omega), u_n2 (by omega), u_n1 (by omega)]
    exact ⟨rfl, rfl, rfl⟩) (fun x a b => by
    rw [← hDf, u_n2 (by omega)])
  obtain ⟨G, w1, w2, w3⟩ := try_sg (r := r) (by omega) s2 r10 r11 s3 t10 t11 (by
    rw [(kC7 l (by omega)).1, (kC6 l).1, (kC5 l).1, (c9.2 l (by omega)).1, (fC3.2 l (by omega)).1]; exact c4) (by
    rw [(kC7 l (by omega)).2.1, ((e8 (l + 1)).2 l (by omega)).2.1, u_n1 (by omega), u_eq]) (by
    rw [(kC7 l (by omega)).2.2, ((e8 (l + 1)).2 l (by omega)).2.2, u_eq]; exact hr3) hr1 (by
    rw [kD6 _ (by omega), kD5 _ (by omega) (by omega), fD4.2 _ (by omega), fD3.2 _ (by omega)]; exact d4) (by
    rw [kD6 _ (by omega), u_eq]) (by
    rw [kD6 _ (by omega), u_n2 (by omega), (g4 (m + 1)).2 _ (by omega), u_eq]) (by
    rw [← hCf, u_n1 (by omega), (fC7.2 l2 (by omega)).1, (kC6 l2).1, (kC5 l2).1]; exact c10) (by
    rw [← hCf, u_eq]) (by
    rw [kD6 _ (by omega), kD5 _ (by omega) (by omega), d9.2 _ (by omega)]; exact d10') (by
    rw [kD6 _ (by omega), kD5 _ (by omega) (by omega)]; exact d10) (by
    rw [← hDf, u_eq])
  exact hv_some (PO_yes (FrC_tr fCo (FrC_tr fC6 (FrC_tr (FrC_lo fC7 (by omega)) (FrC_lo x9 (by omega)) (Nat.le_refl _)) (Nat.le_refl _)) (Nat.le_refl _)) (FrD_tr fDo (FrD_tr fD6 (FrD_tr (FrD_lo fD7 (by omega)) (FrD_lo z6 (by omega)) (Nat.le_refl _)) (Nat.le_refl _)) (Nat.le_refl _)) ⟨i3, l3, m3, st3, G, by omega, by omega, t2, t3, x8, z5, by omega, by omega, by omega, by omega, w1, w2, w3⟩)
