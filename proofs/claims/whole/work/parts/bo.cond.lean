set_option linter.unusedSimpArgs false
set_option linter.unusedVariables false
/-! ===== conditions, if and while ===== -/
theorem cond_ok {ρ σ : ao_H} {s : Fn} {len e : Nat} (hE : PE ρ σ s len e) {C D : ao_M} {i l m dep st wi : Nat} {β : List (Bool × Nat)} (hC : PC C s len e i l st) (hD : PD D σ s len (i + 1) m dep st wi) (hi : i < e) (h1 : l ≤ i) (h2 : m ≤ 2 * i) (hd : dep ≤ 10) (hb : β.length ≤ 10) : hv (fun n => gX4_condition n 2 (nI dep) C ρ) (fun y => hv (fun n => gX12_condition n 537 D σ) (fun w => PO C D σ s len e l m (EQ σ s len e (i + 3) l m dep st wi 0 β) y w)) := by
  have hρ := hE.1
  have a6 := hE.2.2.1
  have a7 := hE.2.2.2.1
  unfold gX4_condition gX12_condition
  simp only [hρ, Option.bind_some, ↓reduceIte]
  refine hv_bind (c_adv hE hC hi) ?_
  rintro C0 ⟨b1, b2⟩
  refine hv_inU (fun _ => fX12_condition.eq_2 ..) ?_
  simp only [↓reduceIte, if_pos hD.1.1, d_sign (c := 40) (k := 19) hD rfl (by omega) (by omega), Option.bind_some, show nI dep + (1 : Int32) = nI (dep + 1) from n_add]
  rw [show (19 : Int32) = nI 19 from rfl]
  by_cases k19 : dep < 10 ∧ kd s len (i + 1) = 19
  · obtain ⟨hd10, k19⟩ := k19
    have hlt := kd_lt hE (show i + 1 ≤ e by omega) (by omega)
    refine hv_bind (c_nst hE b1 hd10 hlt k19) ?_
    rintro ⟨y1, C1⟩ ⟨e0, e1, e2⟩
    dsimp only at e0 e1 e2
    subst e0
    simp only [if_neg (show ¬ (1 : Int32) = 0 by decide), if_pos k19]
    refine hv_inB (d_enter hD hd10) ?_
    rintro ⟨w1, D1, σ1⟩ ⟨f0, f1, f2, f3⟩
    dsimp only at f0 f1 f2 f3
    subst f0 f1
    simp only [ao_cs]
    refine hv_inU (fun _ => fX12_condition.eq_2 ..) ?_
    simp only [Nat.reduceEqDiff, ↓reduceIte, if_pos f2.1.1]
    refine hv_inB (d_tok hE f2) ?_
    rintro D2 ⟨g1, g2⟩
    unfold gX4_expression gX12_expression
    refine hv_seq ?_
    refine hv_mono ((exprs hE (e - (i + 1 + 1))).2 C1 D2 (i + 1 + 1) l m (dep + 1) st wi 0 64 64 β (Nat.le_refl _) e1 g1 (by omega) (by omega) (by omega) (by omega) hb (by omega) (by omega) (by omega)) (fun y hy => hv_mono hy (fun w hw => ?_))
    have fC1 : FrC C C1 l := FrC_tr (b2 l) (e2 l) (Nat.le_refl _)
    rcases y with ⟨y1, C3⟩
    rcases w with ⟨w1, D3, σ3⟩
    obtain ⟨p1, p2, p3, ⟨p4, p5, p6⟩ | ⟨p4, p5, j, p6, p7, p8⟩⟩ := hw
    · dsimp only at p1 p2 p3 p4 p5 p6
      subst p1 p4 p5
      obtain ⟨i', l', m', G, q1, q2, q3, q4, q5, q6, q7, q8, q9, q10, q11, q12⟩ := p6
      simp only [if_neg (show ¬ (1 : Int32) = 0 by decide), ao_cs]
      rw [show (20 : Int32) = nI 20 from rfl]
      by_cases k20 : kd s len i' = 20
      · have hlt' := kd_lt hE q2 (by omega)
        refine hv_bind (c_exp hE q3 hlt' k20) ?_
        rintro ⟨y1, C4⟩ ⟨e3, e4, e5⟩
        dsimp only at e3 e4 e5
        subst e3
        simp only [if_neg (show ¬ (1 : Int32) = 0 by decide)]
        refine hv_some ?_
        refine hv_up (fun _ => fX12_condition.eq_2 ..) ?_
        simp only [Nat.reduceEqDiff, ↓reduceIte, if_pos q4.1.1]
        refine hv_bind (d_need (c := 41) (k := 20) hE q4 rfl (by omega) (by omega) k20) ?_
        rintro ⟨w1, D4, σ4⟩ ⟨f4, f5, f6, f7⟩
        dsimp only at f4 f5 f6 f7
        subst f4 f5
        simp only [ao_cs]
        refine hv_up (fun _ => fX12_condition.eq_2 ..) ?_
        simp only [Nat.reduceEqDiff, ↓reduceIte, if_pos f6.1.1, ao_let]
        obtain ⟨r1, r2⟩ := PD_dep (m' := m') f6
        have fD : FrD D3 _ m' := FrD_tr (f7 m') r2 (Nat.le_refl _)
        refine hv_some (PO_yes (FrC_tr fC1 (FrC_tr p2 (e5 l) (Nat.le_refl _)) (Nat.le_refl _)) (FrD_tr (f3 m) (FrD_tr (g2 m) (FrD_tr p3 ⟨fD.1, fun j hj => fD.2 j (by omega)⟩ (Nat.le_refl _)) (Nat.le_refl _)) (Nat.le_refl _)) ⟨i' + 1, l', m', G, by omega, by omega, e4, r1, by omega, by omega, q7, q8, q9, q10, Sg_fr q11 (fun j a b => (e5 l').2 j b) (fun x a b => fD.2 x (by omega)), fun j a b => ?_⟩)
        rw [((e5 l').2 j b).1]; exact q12 j a b
      · refine hv_bind (c_exp0 hE q3 k20 (by omega)) ?_
        rintro ⟨y1, C4⟩ ⟨e3, e4, e5⟩
        dsimp only at e3 e4 e5
        subst e3
        simp only [↓reduceIte]
        refine hv_some ?_
        refine hv_up (fun _ => fX12_condition.eq_2 ..) ?_
        simp only [Nat.reduceEqDiff, ↓reduceIte, if_pos q4.1.1]
        refine hv_bind (d_need0 (c := 41) (k := 20) hE q4 rfl (by omega) (by omega) k20) ?_
        rintro ⟨w1, D4, σ4⟩ ⟨f4, f5, f6, f7⟩
        dsimp only at f4 f5 f6 f7
        subst f4 f5
        simp only [ao_cs]
        exact hv_some (PO_no q2 rfl (FrC_tr fC1 (FrC_tr p2 (e4 l) (Nat.le_refl _)) (Nat.le_refl _)) e5 rfl rfl f6 (FrD_tr (f3 m) (FrD_tr (g2 m) (FrD_tr p3 (f7 m) (Nat.le_refl _)) (Nat.le_refl _)) (Nat.le_refl _)))
    · dsimp only at p1 p2 p3 p4 p5 p7 p8
      subst p1 p4 p5
      simp only [↓reduceIte]
      refine hv_some ?_
      simp only [ao_cs]
      exact hv_some (PO_no p6 rfl (FrC_tr fC1 p2 (Nat.le_refl _)) p7 rfl rfl p8 (FrD_tr (f3 m) (FrD_tr (g2 m) p3 (Nat.le_refl _)) (Nat.le_refl _)))
  · refine hv_bind (c_nst0 hE b1 k19 (by omega) hd) ?_
    rintro ⟨y1, C1⟩ ⟨e0, e1, e2⟩
    dsimp only at e0 e1 e2
    subst e0
    simp only [↓reduceIte]
    refine hv_some ?_
    by_cases q19 : kd s len (i + 1) = 19
    · simp only [if_pos q19, if_neg (show ¬ (1 : Int32) = 0 by decide)]
      refine hv_bind (d_enter0 hE hD (by omega)) ?_
      rintro ⟨w1, D1, σ1⟩ ⟨f0, f1, f2, f3⟩
      dsimp only at f0 f1 f2 f3
      subst f0 f1
      simp only [ao_cs]
      exact hv_some (PO_no (i := i + 1) (by omega) rfl (FrC_tr (b2 l) (e1 l) (Nat.le_refl _)) e2 rfl rfl f2 (f3 m))
    · simp only [if_neg q19, ↓reduceIte, d_wrong hE hD, Option.bind_some, if_pos (d_538 hE)]
      exact hv_some (PO_no (i := i + 1) (by omega) rfl (FrC_tr (b2 l) (e1 l) (Nat.le_refl _)) e2 rfl rfl (show (ao_u D 537 2 _) 537 2 = _ from u_eq) d_wrF)
/-! patches -/
theorem c_setF {ρ σ : ao_H} {s : Fn} {len e i l st p : Nat} {C : ao_M} (hE : PE ρ σ s len e) (h : PC C s len e i l st) (hp : p < 1000) (v : Int32) : gX1_setFirst 8 (nI p) v C ρ = some (ao_u C 10 p v) ∧ PC (ao_u C 10 p v) s len e i l st ∧ FrC C (ao_u C 10 p v) p := by
  have hρ := hE.1
  have h0 := h.2.2.1
  refine ⟨?_, ?_, fun x j hx => u_ne (by omega), fun j hj => ⟨u_n1 (by omega), u_n2 (by omega), u_n1 (by omega)⟩⟩
  · unfold gX1_setFirst
    try simp only [↓reduceIte, Nat.reduceEqDiff, Option.bind_some, ao_let, n_ell, hρ, h0]
    try simp (disch := first | omega | assumption) only [↓reduceIte, Nat.reduceEqDiff, Option.bind_some, ao_let, t_le, f_le, t_lt, f_lt, f_eq, u_eq, u_n1, u_n2, n_cl, n_lt, n_le, n_eq, n_ltl, n_llt, n_lel, n_lle, n_eql, n_leq, n_add, n_mul, n_sub, n_addl, n_ladd, n_mull, n_lmul, n_subl, Int32.reduceLT, Int32.reduceLE, Int32.reduceAdd, Int32.reduceSub, Int32.reduceMul, Int32.reduceToNatClampNeg, not_false_eq_true, not_true_eq_false, or_false, false_or, or_self, and_self, false_and, true_and, and_false, and_true, true_or, or_true, Nat.reduceAdd, Nat.reduceMul, Nat.reduceLT, Nat.reduceLeDiff, ne_eq, n_ell, hρ, h0]
  · obtain ⟨⟨t1, t2⟩, ⟨b1, b2, b3, b4⟩, b5, b6, b7⟩ := h
    exact ⟨⟨by rw [u_n1 (by omega)]; exact t1, fun j hj => by rw [u_n1 (by omega), u_n1 (by omega), u_n1 (by omega)]; exact t2 j hj⟩, ⟨by rw [u_n1 (by omega)]; exact b1, by rw [u_n1 (by omega)]; exact b2, by rw [u_n1 (by omega)]; exact b3, by rw [u_n1 (by omega)]; exact b4⟩, by rw [u_n1 (by omega)]; exact b5, by rw [u_n1 (by omega)]; exact b6, by rw [u_n1 (by omega)]; exact b7⟩
theorem c_setS {ρ σ : ao_H} {s : Fn} {len e i l st p : Nat} {C : ao_M} (hE : PE ρ σ s len e) (h : PC C s len e i l st) (hp : p < 1000) (v : Int32) : gX1_setSecond 8 (nI p) v C ρ = some (ao_u C 11 p v) ∧ PC (ao_u C 11 p v) s len e i l st ∧ FrC C (ao_u C 11 p v) p := by
  have hρ := hE.1
  have h0 := h.2.2.1
  refine ⟨?_, ?_, fun x j hx => u_ne (by omega), fun j hj => ⟨u_n1 (by omega), u_n1 (by omega), u_n2 (by omega)⟩⟩
  · unfold gX1_setSecond
    try simp only [↓reduceIte, Nat.reduceEqDiff, Option.bind_some, ao_let, n_ell, hρ, h0]
    try simp (disch := first | omega | assumption) only [↓reduceIte, Nat.reduceEqDiff, Option.bind_some, ao_let, t_le, f_le, t_lt, f_lt, f_eq, u_eq, u_n1, u_n2, n_cl, n_lt, n_le, n_eq, n_ltl, n_llt, n_lel, n_lle, n_eql, n_leq, n_add, n_mul, n_sub, n_addl, n_ladd, n_mull, n_lmul, n_subl, Int32.reduceLT, Int32.reduceLE, Int32.reduceAdd, Int32.reduceSub, Int32.reduceMul, Int32.reduceToNatClampNeg, not_false_eq_true, not_true_eq_false, or_false, false_or, or_self, and_self, false_and, true_and, and_false, and_true, true_or, or_true, Nat.reduceAdd, Nat.reduceMul, Nat.reduceLT, Nat.reduceLeDiff, ne_eq, n_ell, hρ, h0]
  · obtain ⟨⟨t1, t2⟩, ⟨b1, b2, b3, b4⟩, b5, b6, b7⟩ := h
    exact ⟨⟨by rw [u_n1 (by omega)]; exact t1, fun j hj => by rw [u_n1 (by omega), u_n1 (by omega), u_n1 (by omega)]; exact t2 j hj⟩, ⟨by rw [u_n1 (by omega)]; exact b1, by rw [u_n1 (by omega)]; exact b2, by rw [u_n1 (by omega)]; exact b3, by rw [u_n1 (by omega)]; exact b4⟩, by rw [u_n1 (by omega)]; exact b5, by rw [u_n1 (by omega)]; exact b6, by rw [u_n1 (by omega)]; exact b7⟩
theorem c_setO {ρ σ : ao_H} {s : Fn} {len e i l st p : Nat} {C : ao_M} (hE : PE ρ σ s len e) (h : PC C s len e i l st) (hp : p < 1000) (v : Int32) : gX1_setOp 8 (nI p) v C ρ = some (ao_u C 9 p v) ∧ PC (ao_u C 9 p v) s len e i l st ∧ FrC C (ao_u C 9 p v) p := by
  have hρ := hE.1
  have h0 := h.2.2.1
  refine ⟨?_, ?_, fun x j hx => u_ne (by omega), fun j hj => ⟨u_n2 (by omega), u_n1 (by omega), u_n1 (by omega)⟩⟩
  · unfold gX1_setOp
    try simp only [↓reduceIte, Nat.reduceEqDiff, Option.bind_some, ao_let, n_ell, hρ, h0]
    try simp (disch := first | omega | assumption) only [↓reduceIte, Nat.reduceEqDiff, Option.bind_some, ao_let, t_le, f_le, t_lt, f_lt, f_eq, u_eq, u_n1, u_n2, n_cl, n_lt, n_le, n_eq, n_ltl, n_llt, n_lel, n_lle, n_eql, n_leq, n_add, n_mul, n_sub, n_addl, n_ladd, n_mull, n_lmul, n_subl, Int32.reduceLT, Int32.reduceLE, Int32.reduceAdd, Int32.reduceSub, Int32.reduceMul, Int32.reduceToNatClampNeg, not_false_eq_true, not_true_eq_false, or_false, false_or, or_self, and_self, false_and, true_and, and_false, and_true, true_or, or_true, Nat.reduceAdd, Nat.reduceMul, Nat.reduceLT, Nat.reduceLeDiff, ne_eq, n_ell, hρ, h0]
  · obtain ⟨⟨t1, t2⟩, ⟨b1, b2, b3, b4⟩, b5, b6, b7⟩ := h
    exact ⟨⟨by rw [u_n1 (by omega)]; exact t1, fun j hj => by rw [u_n1 (by omega), u_n1 (by omega), u_n1 (by omega)]; exact t2 j hj⟩, ⟨by rw [u_n1 (by omega)]; exact b1, by rw [u_n1 (by omega)]; exact b2, by rw [u_n1 (by omega)]; exact b3, by rw [u_n1 (by omega)]; exact b4⟩, by rw [u_n1 (by omega)]; exact b5, by rw [u_n1 (by omega)]; exact b6, by rw [u_n1 (by omega)]; exact b7⟩
theorem PD_541 {σ : ao_H} {s : Fn} {len i m dep st wi x p : Nat} {D : ao_M} {v : Int32} (h : PD D σ s len i m dep st wi) (hp : 3 * p ≤ x) : PD (ao_u D 541 x v) σ s len i m dep st wi ∧ FrD D (ao_u D 541 x v) p := by
  obtain ⟨a1, ⟨a2, a3, a4, a5⟩, a6, a7, a8, a9⟩ := h
  exact ⟨⟨DT_fr a1 (u_n1 (by omega)) (fun i => u_n1 (by omega)), ⟨by rw [u_n1 (by omega)]; exact a2, fun q => by rw [u_n1 (by omega)]; exact a3 q, by rw [u_n1 (by omega)]; exact a4, by rw [u_n1 (by omega)]; exact a5⟩, by rw [u_n1 (by omega)]; exact a6, by rw [u_n1 (by omega)]; exact a7, by rw [u_n1 (by omega)]; exact a8, by rw [u_n1 (by omega)]; exact a9⟩, fun x j hx => u_ne (by omega), fun x hx => u_n2 (by omega)⟩
theorem SQ1_fr {σ : ao_H} {s : Fn} {len e i l m dep st : Nat} {β : List (Bool × Nat)} {C' D' : ao_M} {i' l' m' st' : Nat} {G : Gh} (h : SQ1 σ s len e i l m dep st β C' D' i' l' m' st' G) {C D : ao_M} (hC : ∀ j, l ≤ j → j < l' → C 9 j = C' 9 j ∧ C 10 j = C' 10 j ∧ C 11 j = C' 11 j) (hD : ∀ x, 3 * m ≤ x → x < 3 * m' → D 541 x = D' 541 x) : Sg Tr C D G l l' m m' β := Sg_fr h.2.2.2.2.2.2.2.2.2.2.2 hC hD
