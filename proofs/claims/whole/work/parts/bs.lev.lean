set_option linter.unusedSimpArgs false
set_option linter.unusedVariables false
/-! ===== atom and part, both parsers ===== -/
theorem PD_wiU {σ : ao_H} {s : Fn} {len i m dep st wi : Nat} {D : ao_M} (h : PD D σ s len i m dep st wi) : PD (ao_u D 537 16 (nI (wi + 1))) σ s len i m dep st (wi + 1) ∧ ∀ m', FrD D (ao_u D 537 16 (nI (wi + 1))) m' := by
  obtain ⟨a1, ⟨a2, a3, a4, a5⟩, a6, a7, a8, a9⟩ := h
  exact ⟨⟨DT_fr a1 (u_n2 (by omega)) (fun i => u_n1 (by omega)), ⟨by rw [u_n2 (by omega)]; exact a2, fun q => by rw [u_n2 (by omega)]; exact a3 q, by rw [u_n2 (by omega)]; exact a4, by rw [u_n2 (by omega)]; exact a5⟩, by rw [u_n2 (by omega)]; exact a6, by rw [u_n2 (by omega)]; exact a7, by rw [u_n2 (by omega)]; exact a8, u_eq⟩, fun m' => ⟨fun x j hx => u_ne (by omega), fun x hx => u_n1 (by omega)⟩⟩
theorem PD_wiD {σ : ao_H} {s : Fn} {len i m dep st wi wi' : Nat} {D : ao_M} (h : PD D σ s len i m dep st wi') : PD (ao_u D 537 16 (nI wi)) σ s len i m dep st wi ∧ ∀ m', FrD D (ao_u D 537 16 (nI wi)) m' := by
  obtain ⟨a1, ⟨a2, a3, a4, a5⟩, a6, a7, a8, a9⟩ := h
  exact ⟨⟨DT_fr a1 (u_n2 (by omega)) (fun i => u_n1 (by omega)), ⟨by rw [u_n2 (by omega)]; exact a2, fun q => by rw [u_n2 (by omega)]; exact a3 q, by rw [u_n2 (by omega)]; exact a4, by rw [u_n2 (by omega)]; exact a5⟩, by rw [u_n2 (by omega)]; exact a6, by rw [u_n2 (by omega)]; exact a7, by rw [u_n2 (by omega)]; exact a8, u_eq⟩, fun m' => ⟨fun x j hx => u_ne (by omega), fun x hx => u_n1 (by omega)⟩⟩
/-- the reference's last lines for an atom: a is what it writes for or, mm whether it is an atom -/
theorem d_3092 {ρ σ : ao_H} {s : Fn} {len e i m m0 dep st wi wi' ed a : Nat} {mm x3 x4 : Int32} {D : ao_M} {R : (Int32 ⊕ String) × ao_S → Prop} (hE : PE ρ σ s len e) (h : PD D σ s len i m dep st wi) (hw : wi = wi' + 1) (hw2 : wi ≤ 20) (hm0 : m0 < 5000) (hx4 : (2 : Int32) * (x4 + 1) = nI (2 * a)) (ham : mm = 0 ∨ mm = 1)
    (q : ∀ D', PD D' σ s len i m dep st wi' → FrD D D' m0 → D' 541 (3 * m0 + 1) = nI (2 * a + (if mm = 0 then 0 else 1)) → D' 541 (3 * m0 + 2) = nI m → (∀ x, x ≠ 3 * m0 + 1 → x ≠ 3 * m0 + 2 → D' 541 x = D 541 x) → R (.inl 0, D', σ)) : hv (fun n => fGB n ed 3092 537 mm (nI m0) x3 x4 0 0 0 0 0 0 0 D σ) R := by
  have hσ := hE.2.1
  have h13 := h.2.2.1
  have h16 := h.2.2.2.2.2
  obtain ⟨z1, z2⟩ := PD_541 (x := 3 * m0 + 1) (p := m0) (v := nI (2 * a + (if mm = 0 then 0 else 1))) h (by omega)
  obtain ⟨z3, z4⟩ := PD_541 (x := 3 * m0 + 2) (p := m0) (v := nI m) z1 (by omega)
  obtain ⟨z5, z6⟩ := PD_wiD (wi := wi') z3
  have fin : hv (fun n => fGB n ed 3116 537 mm (nI m0) x3 x4 0 0 (if mm = 0 then (0 : Int32) else 1) 0 (nI (2 * a)) (nI (3 * m0 + 1)) 541 D σ) R := by
    refine hv_up (fun _ => fGB.eq_2 ..) ?_
    have e1 : nI (2 * a) + (if mm = 0 then (0 : Int32) else 1) = nI (2 * a + (if mm = 0 then 0 else 1)) := by
      rcases ham with h | h <;> rw [h] <;> exact n_add
    subst hw
    try simp only [↓reduceIte, Nat.reduceEqDiff, Option.bind_some, ao_let, n_ell, hσ, e1, h13, h16]
    try simp (disch := first | omega | assumption) only [↓reduceIte, Nat.reduceEqDiff, Option.bind_some, ao_let, t_le, f_le, t_lt, f_lt, f_eq, u_eq, u_n1, u_n2, n_cl, n_lt, n_le, n_eq, n_ltl, n_llt, n_lel, n_lle, n_eql, n_leq, n_add, n_mul, n_sub, n_addl, n_ladd, n_mull, n_lmul, n_subl, Int32.reduceLT, Int32.reduceLE, Int32.reduceAdd, Int32.reduceSub, Int32.reduceMul, Int32.reduceToNatClampNeg, not_false_eq_true, not_true_eq_false, or_false, false_or, or_self, and_self, false_and, true_and, and_false, and_true, true_or, or_true, Nat.reduceAdd, Nat.reduceMul, Nat.reduceLT, Nat.reduceLeDiff, ne_eq, n_ell, hσ, e1, h13, h16]
    rw [show wi' + 1 - 1 = wi' from rfl]
    refine hv_some (q _ z5 (FrD_tr z2 (FrD_tr z4 (z6 m0) (Nat.le_refl _)) (Nat.le_refl _)) ?_ ?_ (fun x p r => ?_))
    · try simp only [↓reduceIte, Nat.reduceEqDiff, Option.bind_some, ao_let, n_ell]
      try simp (disch := first | omega | assumption) only [↓reduceIte, Nat.reduceEqDiff, Option.bind_some, ao_let, t_le, f_le, t_lt, f_lt, f_eq, u_eq, u_n1, u_n2, n_cl, n_lt, n_le, n_eq, n_ltl, n_llt, n_lel, n_lle, n_eql, n_leq, n_add, n_mul, n_sub, n_addl, n_ladd, n_mull, n_lmul, n_subl, Int32.reduceLT, Int32.reduceLE, Int32.reduceAdd, Int32.reduceSub, Int32.reduceMul, Int32.reduceToNatClampNeg, not_false_eq_true, not_true_eq_false, or_false, false_or, or_self, and_self, false_and, true_and, and_false, and_true, true_or, or_true, Nat.reduceAdd, Nat.reduceMul, Nat.reduceLT, Nat.reduceLeDiff, ne_eq, n_ell]
    · try simp only [↓reduceIte, Nat.reduceEqDiff, Option.bind_some, ao_let, n_ell]
      try simp (disch := first | omega | assumption) only [↓reduceIte, Nat.reduceEqDiff, Option.bind_some, ao_let, t_le, f_le, t_lt, f_lt, f_eq, u_eq, u_n1, u_n2, n_cl, n_lt, n_le, n_eq, n_ltl, n_llt, n_lel, n_lle, n_eql, n_leq, n_add, n_mul, n_sub, n_addl, n_ladd, n_mull, n_lmul, n_subl, Int32.reduceLT, Int32.reduceLE, Int32.reduceAdd, Int32.reduceSub, Int32.reduceMul, Int32.reduceToNatClampNeg, not_false_eq_true, not_true_eq_false, or_false, false_or, or_self, and_self, false_and, true_and, and_false, and_true, true_or, or_true, Nat.reduceAdd, Nat.reduceMul, Nat.reduceLT, Nat.reduceLeDiff, ne_eq, n_ell]
    · rw [u_n1 (by omega), u_n2 (by omega), u_n2 (by omega)]
  refine hv_up (fun _ => fGB.eq_2 ..) ?_
  try simp only [↓reduceIte, Nat.reduceEqDiff, Option.bind_some, ao_let, n_ell, hσ, hx4]
  try simp (disch := first | omega | assumption) only [↓reduceIte, Nat.reduceEqDiff, Option.bind_some, ao_let, t_le, f_le, t_lt, f_lt, f_eq, u_eq, u_n1, u_n2, n_cl, n_lt, n_le, n_eq, n_ltl, n_llt, n_lel, n_lle, n_eql, n_leq, n_add, n_mul, n_sub, n_addl, n_ladd, n_mull, n_lmul, n_subl, Int32.reduceLT, Int32.reduceLE, Int32.reduceAdd, Int32.reduceSub, Int32.reduceMul, Int32.reduceToNatClampNeg, not_false_eq_true, not_true_eq_false, or_false, false_or, or_self, and_self, false_and, true_and, and_false, and_true, true_or, or_true, Nat.reduceAdd, Nat.reduceMul, Nat.reduceLT, Nat.reduceLeDiff, ne_eq, n_ell, hσ, hx4]
  rcases ham with h0 | h0
  · rw [if_pos h0] at fin
    exact hv_ifT h0 fin
  · rw [if_neg (by rw [h0]; decide)] at fin
    exact hv_ifF (by rw [h0]; decide) fin
theorem level_ok {ρ σ : ao_H} {s : Fn} {len e : Nat} (hE : PE ρ σ s len e) {C D : ao_M} {i l m dep st ec ed k : Nat} {β : List (Bool × Nat)} (hB : ∀ T', T' < e - i → BLs ρ σ s len e T') (hC : PC C s len e i l st) (hD : PD D σ s len (i + 1) m dep st (fc β)) (hi : i < e) (h1 : l ≤ i) (h2 : m ≤ 2 * i) (hd : dep ≤ 10) (hst : st ≤ 300) (hb : β.length ≤ dep) (hec : 4 * (10 - dep) + 1 ≤ ec) (hed : 4 * (10 - dep) + 2 ≤ ed) (ml : Int32) (hk : k = 9 ∧ ml = wf β ∨ k = 10 ∧ ml = 0) : hv (fun n => fGS n ec 5000 2 ml (nI dep) 0 0 C ρ) (fun y => hv (fun n => bigB n ed (rK k) (rW k (vl s len i)) D σ) (fun w => PO C D σ s len e l m (SQ σ s len e i l m dep st β) y w)) := by
  have hρ := hE.1
  have hσ := hE.2.1
  have a6 := hE.2.2.1
  have a7 := hE.2.2.2.1
  have hfl := @fc_le β
  -- the reference's own begin and end
  have eB : ∀ n, bigB n ed (rK k) (rW k (vl s len i)) D σ = fGB n ed 1472 537 3 (if k = 9 then 4 else 5) 1 0 0 0 0 0 0 0 0 D σ := by
    intro n
    rcases hk with ⟨a, _⟩ | ⟨a, _⟩ <;> rw [a] <;> rfl
  refine hv_inE eB ?_
  have wrap : ∀ (Q : ao_M → ao_M → Prop) {f : Nat → Option (Int32 × ao_M)}, hv f (fun y => hv (fun n => fGB n (ed - 1) 3000 537 (if k = 9 then 1 else 0) 0 0 0 0 0 0 0 0 0 0 D σ) (fun w => PO C D σ s len e l m Q y w)) → hv f (fun y => hv (fun n => fGB n ed 1472 537 3 (if k = 9 then 4 else 5) 1 0 0 0 0 0 0 0 0 D σ) (fun w => PO C D σ s len e l m Q y w)) := by
    intro Q f h
    refine hv_mono h (fun y hy => ?_)
    have g83 : hv (fun n => fGB n ed 1483 537 3 (if k = 9 then 4 else 5) 1 0 0 0 (if k = 9 then 1 else 0) 537 0 0 0 D σ) (fun w => PO C D σ s len e l m Q y w) := by
      refine hv_up (fun _ => fGB.eq_2 ..) ?_
      simp only [Nat.reduceEqDiff, ↓reduceIte, if_pos hD.1.1, if_pos (show 0 < ed by omega)]
      refine hv_bind hy ?_
      rintro ⟨w1, D1, σ1⟩ hw
      have hw' := hw
      obtain ⟨p1, -, -, ⟨-, p5, -⟩ | ⟨-, p5, -⟩⟩ := hw
      · dsimp only at p1 p5
        subst p1 p5
        simp only [ao_cs]
        refine hv_up (fun _ => fGB.eq_2 ..) ?_
        simp only [Nat.reduceEqDiff, ↓reduceIte]
        exact hv_some hw'
      · dsimp only at p1 p5
        subst p1 p5
        simp only [ao_cs]
        exact hv_some hw'
    refine hv_up (fun _ => fGB.eq_2 ..) ?_
    simp only [Nat.reduceEqDiff, ↓reduceIte]
    rcases hk with ⟨a, _⟩ | ⟨a, _⟩
    · simp only [if_pos a] at g83 ⊢
      exact hv_ifT (by trivial) g83
    · simp only [if_neg (show ¬ k = 9 by omega)] at g83 ⊢
      exact hv_ifF (by decide) g83
  refine wrap _ ?_
  generalize hmI : (if k = 9 then (1 : Int32) else 0) = mI
  have ham : mI = 0 ∨ mI = 1 := by
    rw [← hmI]
    rcases hk with ⟨a, _⟩ | ⟨a, _⟩
    · rw [if_pos a]; exact Or.inr rfl
    · rw [if_neg (by omega)]; exact Or.inl rfl
  refine hv_up (fun _ => fGS.eq_2 ..) ?_
  simp only [Nat.reduceEqDiff, ↓reduceIte, hρ, Option.bind_some, ao_let]
  refine hv_bind (c_adv hE hC hi) ?_
  rintro C1 ⟨e1, e2⟩
  obtain ⟨C2, c1, c2, c3, c4, c5, c6⟩ := c_add hE e1 (show l < 1000 by omega) 16 (-1)
  obtain ⟨u1, u2⟩ := PD_wiU hD
  obtain ⟨D2, d1, d2, d3', d4, d5, d6⟩ := d_make hE u1 (show m < 6000 by omega) 15 0 0
  have d3 : FrD D D2 m := FrD_tr (u2 m) d3' (Nat.le_refl _)
  simp only [c1, Option.bind_some, if_pos (show 0 < ec by omega)]
  refine hv_inU (fun _ => fGB.eq_2 ..) ?_
  simp only [Nat.reduceEqDiff, ↓reduceIte, if_pos hD.1.1, hD.2.2.2.2.2, show nI (fc β) + (1 : Int32) = nI (fc β + 1) from n_add, d1, Option.bind_some, ao_let, if_pos (show 0 < ed - 1 by omega)]
  have fC2 : FrC C C2 l := FrC_tr (e2 l) c3 (Nat.le_refl _)
  have ef : fc ((false, l) :: β) = fc β + 1 := by simp [fc]
  have ewf : (1 : Int32) = wf ((false, l) :: β) := by unfold wf; rw [ef, if_neg (by omega)]
  have d2' : PD D2 σ s len (i + 1) (m + 1) dep st (fc ((false, l) :: β)) := by rw [ef]; exact d2
  refine hv_seq ?_
  rw [ewf]
  refine hv_mono (hB (e - (i + 1)) (by omega) C2 D2 (i + 1) (l + 1) (m + 1) dep st (ec - 1) (ed - 1 - 1) ((false, l) :: β) (Nat.le_refl _) c2 d2' (by omega) (by omega) (by omega) hd hst (by simp; omega) (by omega) (by omega)) (fun y hy => hv_mono hy (fun w hw => ?_))
  rw [← ewf]
  rcases y with ⟨y1, C3⟩
  rcases w with ⟨w1, D3, σ3⟩
  obtain ⟨p1, fC3, fD3, ⟨p4, p5, p6⟩ | ⟨p4, p5, j, p6, p7, p8⟩⟩ := hw
  rotate_left 1
  · dsimp only at p1 fC3 fD3 p4 p5 p7 p8
    subst p1 p4 p5
    simp only [↓reduceIte]
    refine hv_some ?_
    simp only [ao_cs]
    exact hv_some (PO_no p6 rfl (FrC_tr fC2 (FrC_lo fC3 (by omega)) (Nat.le_refl _)) p7 rfl rfl p8 (FrD_tr d3 (FrD_lo fD3 (by omega)) (Nat.le_refl _)))
  dsimp only at p1 fC3 fD3 p4 p5 p6
  subst p1 p4 p5
  obtain ⟨hd10, i2, l2, m2, st2, G2, r0, r1, r2, r3, r4, r5, r6, r7, r8, r9, r10, r11, r12⟩ := p6
  rw [ef] at r5
  obtain ⟨C4, c7, c8, c9, c10, c11, c12⟩ := c_add hE r4 (show l2 < 1000 by omega) 17 0
  obtain ⟨D4, d7, d8, d9, d10, d11, d12⟩ := d_make hE r5 (show m2 < 6000 by omega) 16 0 0
  have h8 := c8.2.1.2.1
  have hkl := @kd_le s len i2
  simp only [if_neg (show ¬ (1 : Int32) = 0 by decide), Option.bind_some, c7, ao_cs, h8]
  refine hv_inU (fun _ => fGB.eq_2 ..) ?_
  simp only [Nat.reduceEqDiff, ↓reduceIte, if_pos r5.1.1, d7, Option.bind_some, ao_let, show (6 : Int32) = nI 6 from rfl, d_word (w := 6) d8 (by omega)]
  have fCo : FrC C C4 l := FrC_tr fC2 (FrC_tr (FrC_lo fC3 (by omega)) (FrC_lo c9 (by omega)) (Nat.le_refl l)) (Nat.le_refl _)
  have fDo : FrD D D4 m := FrD_tr d3 (FrD_tr (FrD_lo fD3 (by omega)) (FrD_lo d9 (by omega)) (Nat.le_refl m)) (Nat.le_refl _)
  by_cases k11 : kd s len i2 = 11
  · -- another part follows
    have hlt2 := kd_lt hE r2 (by omega)
    refine hv_ifT (by rw [k11]; rfl) ?_
    refine hv_bind (c_adv hE c8 hlt2) ?_
    rintro C5 ⟨e4, e5⟩
    obtain ⟨x1, x2, x3⟩ := c_setF hE e4 (p := l) (by omega) (nI (l2 + 1))
    simp only [e4.2.2.2.1, x1, Option.bind_some, if_pos (show kd s len i2 = 5 + 6 from k11), if_neg (show ¬ (1 : Int32) = 0 by decide)]
    refine hv_inB (d_tok hE d8) ?_
    rintro D5 ⟨g1, g2⟩
    obtain ⟨D6, d13, d14, d15, d16, d17, d18⟩ := d_make hE g1 (show m2 + 1 < 6000 by omega) 12 0 0
    simp only [d13, Option.bind_some, d14.2.2.1, if_pos (show 0 < ed - 1 by omega)]
    have fC6 : FrC C4 (ao_u C5 10 l (nI (l2 + 1))) l := FrC_tr (e5 l) x3 (Nat.le_refl _)
    have fD6 : FrD D4 D6 (m2 + 1) := FrD_tr (g2 (m2 + 1)) d15 (Nat.le_refl _)
    have d14' : PD D6 σ3 s len (i2 + 1) (m2 + 1 + 1) dep st2 (fc ((false, l) :: β)) := by rw [ef]; exact d14
    refine hv_seq ?_
    rw [ewf]
    refine hv_mono (hB (e - (i2 + 1)) (by omega) _ D6 (i2 + 1) (l2 + 1) (m2 + 1 + 1) dep st2 (ec - 1) (ed - 1 - 1) ((false, l) :: β) (Nat.le_refl _) x2 d14' (by omega) (by omega) (by omega) hd r3 (by simp; omega) (by omega) (by omega)) (fun y hy => hv_mono hy (fun w hw => ?_))
    try rw [← ewf]
    rcases y with ⟨y1, C7⟩
    rcases w with ⟨w1, D7, σ7⟩
    obtain ⟨p1, fC7, fD7, ⟨p4, p5, p6⟩ | ⟨p4, p5, j, p6, p7, p8⟩⟩ := hw
    rotate_left 1
    · dsimp only at p1 fC7 fD7 p4 p5 p7 p8
      subst p1 p4 p5
      simp only [↓reduceIte]
      refine hv_some ?_
      simp only [ao_cs]
      exact hv_some (PO_no p6 rfl (FrC_tr fCo (FrC_tr fC6 (FrC_lo fC7 (by omega)) (Nat.le_refl _)) (Nat.le_refl _)) p7 rfl rfl p8 (FrD_tr fDo (FrD_tr (FrD_lo fD6 (by omega)) (FrD_lo fD7 (by omega)) (Nat.le_refl m)) (Nat.le_refl _)))
    dsimp only at p1 fC7 fD7 p4 p5 p6
    subst p1 p4 p5
    obtain ⟨-, i3, l3, m3, st3, G3, t0, t1, t2, t3, t4, t5, t6, t7, t8, t9, t10, t11, t12⟩ := p6
    rw [ef] at t5
    obtain ⟨C8, c13, c14, c15, c16, c17, c18⟩ := c_add hE t4 (show l3 < 1000 by omega) 17 0
    obtain ⟨D8, d19, d20, d21, d22, d23, d24⟩ := d_make hE t5 (show m3 < 6000 by omega) 16 0 0
    obtain ⟨x4, x5, x6⟩ := c_setS hE c14 (p := l) (by omega) (nI (l3 + 1))
    obtain ⟨z1, z2⟩ := PD_541 (x := 3 * (m2 + 1) + 1) (p := m2 + 1) (v := nI (m3 + 1)) d20 (by omega)
    simp only [if_neg (show ¬ (1 : Int32) = 0 by decide), Option.bind_some, c13, ao_cs]
    refine hv_up (fun _ => fGS.eq_2 ..) ?_
    simp only [Nat.reduceEqDiff, ↓reduceIte, hρ, Option.bind_some, c14.2.2.2.1, x4]
    refine hv_some ?_
    refine hv_up (fun _ => fGB.eq_2 ..) ?_
    simp only [Nat.reduceEqDiff, ↓reduceIte, if_pos t5.1.1, d19, Option.bind_some, ao_let, d20.2.2.1]
    try simp only [↓reduceIte, Nat.reduceEqDiff, Option.bind_some, ao_let, n_ell, hσ]
    try simp (disch := first | omega | assumption) only [↓reduceIte, Nat.reduceEqDiff, Option.bind_some, ao_let, t_le, f_le, t_lt, f_lt, f_eq, u_eq, u_n1, u_n2, n_cl, n_lt, n_le, n_eq, n_ltl, n_llt, n_lel, n_lle, n_eql, n_leq, n_add, n_mul, n_sub, n_addl, n_ladd, n_mull, n_lmul, n_subl, Int32.reduceLT, Int32.reduceLE, Int32.reduceAdd, Int32.reduceSub, Int32.reduceMul, Int32.reduceToNatClampNeg, not_false_eq_true, not_true_eq_false, or_false, false_or, or_self, and_self, false_and, true_and, and_false, and_true, true_or, or_true, Nat.reduceAdd, Nat.reduceMul, Nat.reduceLT, Nat.reduceLeDiff, ne_eq, n_ell, hσ]
    refine d_3092 (a := m2 + 1 + 1 + 1) hE z1 rfl (by omega) (by omega) (by rw [show nI (m2 + 1 + 1) + (1 : Int32) = nI (m2 + 1 + 1 + 1) from n_add]; exact n_mul) ham (fun Df y1 y2 y3 y4 y5 => ?_)
    generalize hCf : ao_u C8 11 l (nI (l3 + 1)) = Cf at *
    have kD8 : ∀ x, x < 3 * m3 → x ≠ 3 * m + 1 → x ≠ 3 * m + 2 → x ≠ 3 * (m2 + 1) + 1 → Df 541 x = D7 541 x := fun x a b c d => by
      rw [y5 x b c, u_n2 (by omega), d21.2 x (by omega)]
    have kD6 : ∀ x, x < 3 * m2 → D6 541 x = D3 541 x := fun x hx => by rw [fD6.2 x (by omega), d9.2 x (by omega)]
    have kC8 : ∀ j, j < l3 → Cf 9 j = C7 9 j ∧ Cf 10 j = C7 10 j ∧ (j ≠ l → Cf 11 j = C7 11 j) := fun j hj => by
      obtain ⟨o1, o2, o3⟩ := c15.2 j hj
      rw [← hCf, u_n1 (by omega), u_n1 (by omega)]
      exact ⟨o1, o2, fun h => by rw [u_n2 (by omega)]; exact o3⟩
    have kC7 : ∀ j, j < l2 + 1 → C7 9 j = C4 9 j ∧ (j ≠ l → C7 10 j = C4 10 j) ∧ C7 11 j = C4 11 j := fun j hj => by
      obtain ⟨o1, o2, o3⟩ := fC7.2 j hj
      obtain ⟨o4, o5, o6⟩ := (e5 (j + 1)).2 j (by omega)
      exact ⟨by rw [o1, u_n1 (by omega)]; exact o4, fun h => by rw [o2, u_n2 (by omega)]; exact o5, by rw [o3, u_n1 (by omega)]; exact o6⟩
    have s2 : Sg Tr Cf Df G2 (l + 1) l2 (m + 1) m2 ((false, l) :: β) := Sg_fr r12 (fun j a b => by
      obtain ⟨o1, o2, o3⟩ := kC8 j (by omega)
      obtain ⟨o4, o5, o6⟩ := kC7 j (by omega)
      obtain ⟨o7, o8, o9⟩ := c9.2 j b
      exact ⟨o1.trans (o4.trans o7), o2.trans ((o5 (by omega)).trans o8), (o3 (by omega)).trans (o6.trans o9)⟩) (fun x a b => by
      rw [kD8 x (by omega) (by omega) (by omega) (by omega), fD7.2 x (by omega)]
      exact kD6 x (by omega))
    have s3 : Sg Tr Cf Df G3 (l2 + 1) l3 (m2 + 2) m3 ((false, l) :: β) := Sg_fr t12 (fun j a b => by
      obtain ⟨o1, o2, o3⟩ := kC8 j (by omega)
      exact ⟨o1, o2, o3 (by omega)⟩) (fun x a b => kD8 x (by omega) (by omega) (by omega) (by omega))
    obtain ⟨G, w1, w2, w3⟩ := level1_sg (mm := if mI = 0 then 0 else 1) (by omega) s2 r10 r11 s3 t10 t11 (by
      rw [(kC8 l (by omega)).1, (kC7 l (by omega)).1, (c9.2 l (by omega)).1, (fC3.2 l (by omega)).1]; exact c4) (by
      rw [(kC8 l (by omega)).2.1, (fC7.2 l (by omega)).2.1, u_eq]) (by
      rw [← hCf, u_eq]) (by
      rw [kD8 _ (by omega) (by omega) (by omega) (by omega), fD7.2 _ (by omega), kD6 _ (by omega), fD3.2 _ (by omega)]; exact d4) y3 (by split <;> omega) y4 (by
      rw [(kC8 l2 (by omega)).1, (kC7 l2 (by omega)).1]; exact c10) (by
      rw [kD8 _ (by omega) (by omega) (by omega) (by omega), fD7.2 _ (by omega), fD6.2 _ (by omega)]; exact d10) (by
      rw [kD8 _ (by omega) (by omega) (by omega) (by omega), fD7.2 _ (by omega)]; exact d16) (by
      rw [y5 _ (by omega) (by omega), u_eq]) (by
      rw [← hCf, u_n1 (by omega)]; exact c16) (by
      rw [y5 _ (by omega) (by omega), u_n2 (by omega)]; exact d22)
    exact PO_yes (FrC_tr fCo (FrC_tr fC6 (FrC_tr (FrC_lo fC7 (by omega)) (FrC_tr (FrC_lo c15 (by omega)) x6 (Nat.le_refl _)) (Nat.le_refl _)) (Nat.le_refl _)) (Nat.le_refl _)) (FrD_tr fDo (FrD_tr (FrD_lo fD6 (by omega)) (FrD_tr (FrD_lo fD7 (by omega)) (FrD_tr (FrD_lo d21 (by omega)) (FrD_tr (FrD_lo z2 (by omega)) y2 (Nat.le_refl _)) (Nat.le_refl m)) (Nat.le_refl m)) (Nat.le_refl m)) (Nat.le_refl _)) ⟨i3, l3 + 1, m3 + 1, st3, G, by omega, by omega, t2, t3, x5, y1, by omega, by omega, by omega, by omega, w1, w2, w3⟩
  · refine hv_ifF (by rw [show (11 : Int32) = nI 11 from rfl, n_eq (by omega) (by omega)]; exact k11) ?_
    simp only [if_neg (show ¬ kd s len i2 = 5 + 6 from k11), ↓reduceIte]
    have hz : (2 : Int32) * ((-1 : Int32) + 1) = nI (2 * 0) := by decide
    by_cases hml : ml = 0
    · refine hv_ifT hml ?_
      obtain ⟨x4, x5, x6⟩ := c_setS hE c8 (p := l) (by omega) (nI (l2 + 1))
      refine hv_up (fun _ => fGS.eq_2 ..) ?_
      simp only [Nat.reduceEqDiff, ↓reduceIte, hρ, Option.bind_some, c8.2.2.2.1, x4]
      refine hv_some ?_
      refine d_3092 (a := 0) hE d8 rfl (by omega) (by omega) hz ham (fun Df y1 y2 y3 y4 y5 => ?_)
      generalize hCf : ao_u C4 11 l (nI (l2 + 1)) = Cf at *
      have s2 : Sg Tr Cf Df G2 (l + 1) l2 (m + 1) m2 ((false, l) :: β) := Sg_fr r12 (fun j a b => by
        rw [← hCf, u_n1 (by omega), u_n1 (by omega), u_n2 (by omega)]
        exact c9.2 j b) (fun x a b => by
        rw [y5 x (by omega) (by omega)]
        exact d9.2 x (by omega))
      obtain ⟨G, w1, w2, w3⟩ := level0_sg (mm := if mI = 0 then 0 else 1) (by omega) s2 r10 r11 (by
        rw [← hCf, u_n1 (by omega), (c9.2 l (by omega)).1, (fC3.2 l (by omega)).1]; exact c4) (by
        rw [← hCf, u_n1 (by omega), (c9.2 l (by omega)).2.1, (fC3.2 l (by omega)).2.1]; exact c5) (by
        rw [← hCf, u_eq]) (by
        rw [y5 _ (by omega) (by omega), d9.2 _ (by omega), fD3.2 _ (by omega)]; exact d4) (by
        rw [y3]; congr 1; omega) (by
        refine ⟨by split <;> omega, ?_⟩
        rcases hk with ⟨a, b⟩ | ⟨a, b⟩
        · left
          rw [hml] at b
          unfold wf at b
          refine Classical.byContradiction fun h => ?_
          rw [if_neg h] at b
          exact absurd b (by decide)
        · right
          rw [← hmI, if_neg (show ¬ k = 9 by omega), if_pos rfl]) y4 (by
        rw [← hCf, u_n1 (by omega)]; exact c10) (by
        rw [y5 _ (by omega) (by omega)]; exact d10)
      exact PO_yes (FrC_tr fCo x6 (Nat.le_refl _)) (FrD_tr fDo y2 (Nat.le_refl _)) ⟨i2, l2 + 1, m2 + 1, st2, G, by omega, by omega, r2, r3, x5, y1, by omega, by omega, by omega, by omega, w1, w2, w3⟩
    · refine hv_ifF hml ?_
      obtain ⟨hk9, hmw⟩ : k = 9 ∧ ml = wf β := by
        rcases hk with h | h
        · exact h
        · exact absurd h.2 hml
      have hf1 : 1 ≤ fc β := by
        refine Classical.byContradiction fun h => hml ?_
        rw [hmw]; unfold wf
        rw [if_pos (by omega)]
      obtain ⟨x1, x2, x3⟩ := c_setO hE c8 (p := l) (by omega) 0
      obtain ⟨x4, x5, x6⟩ := c_setO hE x2 (p := l2) (by omega) 0
      obtain ⟨x7, x8, x9⟩ := c_setS hE x5 (p := l) (by omega) (nI (l2 + 1))
      simp only [x1, x4, Option.bind_some]
      refine hv_up (fun _ => fGS.eq_2 ..) ?_
      simp only [Nat.reduceEqDiff, ↓reduceIte, hρ, Option.bind_some, x5.2.2.2.1, x7]
      refine hv_some ?_
      refine d_3092 (a := 0) hE d8 rfl (by omega) (by omega) hz ham (fun Df y1 y2 y3 y4 y5 => ?_)
      generalize hCf : ao_u (ao_u (ao_u C4 9 l 0) 9 l2 0) 11 l (nI (l2 + 1)) = Cf at *
      have s2 : Sg Tr Cf Df G2 (l + 1) l2 (m + 1) m2 ((false, l) :: β) := Sg_fr r12 (fun j a b => by
        rw [← hCf, u_n1 (by omega), u_n2 (by omega), u_n2 (by omega), u_n1 (by omega), u_n1 (by omega), u_n1 (by omega), u_n2 (by omega), u_n1 (by omega), u_n1 (by omega)]
        exact c9.2 j b) (fun x a b => by
        rw [y5 x (by omega) (by omega)]
        exact d9.2 x (by omega))
      obtain ⟨G, w1, w2, w3⟩ := levelm_sg (by omega) hf1 s2 r10 r11 (by
        rw [← hCf, u_n1 (by omega), u_n2 (by omega), u_eq]) (by
        rw [y5 _ (by omega) (by omega), d9.2 _ (by omega), fD3.2 _ (by omega)]; exact d4) (by
        rw [y3, ← hmI, if_pos hk9, if_neg (by decide)]; rfl) (by
        rw [← hCf, u_n1 (by omega), u_eq]) (by
        rw [y5 _ (by omega) (by omega)]; exact d10)
      exact PO_yes (FrC_tr fCo (FrC_tr x3 (FrC_tr (FrC_lo x6 (by omega)) x9 (Nat.le_refl _)) (Nat.le_refl _)) (Nat.le_refl _)) (FrD_tr fDo y2 (Nat.le_refl _)) ⟨i2, l2 + 1, m2 + 1, st2, G, by omega, by omega, r2, r3, x8, y1, by omega, by omega, by omega, by omega, w1, w2, w3⟩
