set_option linter.unusedSimpArgs false
set_option linter.unusedVariables false
/-- what a restart of level k does, both sides -/
def rstP (C D : ao_M) (ρ σ : ao_H) (kp rc t k : Nat) (op fi se d : Fn) (len : Nat) (φ : Nat → Nat) (N : Ns) (H : Nat → Nat) (y w : ao_S) : Prop :=
  Rpl (kp + if k = 0 then cntT C t 0 26 else 0) y.1 y.2 w.1 w.2 ∧ FCt t C ρ y.1 y.2 ∧ FDt t D σ w.1 w.2 ∧ Th2 y.1 w.1 rc t op fi se d len φ N H ∧ Regs y.1 w.1 t ∧ y.1 (92 + 71 * t) 17 = C (92 + 71 * t) 17 + 1 ∧ w.1 559 t = D 559 t + 1 ∧
  (∀ i, i = 0 ∨ i = 2 ∨ i = 15 ∨ i = 18 ∨ i = 19 → y.1 (92 + 71 * t) i = C (92 + 71 * t) i) ∧ (∀ a, a = 551 ∨ a = 561 ∨ a = 562 ∨ a = 563 → w.1 a t = D a t) ∧ (∀ i, w.1 550 i = D 550 i) ∧
  (∀ p, p < 26 → y.1 16 p = if k = 0 ∧ C 16 p = nI t then -1 else C 16 p) ∧ y.1 (92 + 71 * t) 8 = nI (k + 1) ∧ (∀ j, j < k → y.1 (92 + 71 * t + 8 + 6 * j) 6 = C (92 + 71 * t + 8 + 6 * j) 6 ∧ y.1 (92 + 71 * t + 8 + 6 * j) 3 = C (92 + 71 * t + 8 + 6 * j) 3) ∧ y.1 (92 + 71 * t + 8 + 6 * k) 6 = 0 ∧ y.1 (92 + 71 * t + 8 + 6 * k) 3 = 0
set_option maxHeartbeats 4000000 in
theorem rst_pair {C D : ao_M} {ρ σ : ao_H} {t k dp kp rc len : Nat} {op fi se d : Fn} {φ : Nat → Nat} {N : Ns} {H K : Nat → Nat} (ht : t < 6) (hc : ShA ρ) (hb : ShB ρ) (hs : ShD σ) (hk : k < dp) (hd : dp ≤ 10) (hkp : kp ≤ 29000) (r : Rpl kp C ρ D σ) (hw : C 12 5 = D 537 27) (hlz : ¬ (D 537 27 = 3 ∨ D 537 27 = 4) → ∀ p, p < 26 → C 16 p = -1) (hnow : C 12 6 = D 537 65)
    (h16 : k ≠ 0 → C (92 + 71 * t) 16 = D 564 t) (hI : Ins C D rc t dp) (h556 : D 556 t = nI dp) (h0 : C (92 + 71 * t) 0 = nI t) (cok : Cok op fi se d len φ N H K) {l : List (Nat × Nat)} (hch : chd N op len l) (hE : ∀ x ∈ l, Ent C D t fi se len φ N x) (hl : nl l = dp) :
    hv (fun n => gX2_restart n 12 (92 + 71 * t) (nI k) C ρ) (fun y => hv (fun n => gX12_restart n 537 (nI t) (nI k) D σ) (fun w => rstP C D ρ σ kp rc t k op fi se d len φ N H y w)) := by
  have hR := RnS_of hb ht
  have hlv := LvS_of hb ht (show k < 10 by omega)
  obtain ⟨b, b1, b2, b3, b4⟩ := nest_at l k hch (by omega)
  obtain ⟨k1, k2, k3, k4, k5, k6, k7⟩ := cok
  obtain ⟨i1, i2, i3, i4, i5, i6, _⟩ := ins_16 (k7 b b1) b2
  obtain ⟨f1, f2, f3, f4⟩ := k6 b (by omega)
  obtain ⟨f1', f2', f3', f4'⟩ := k6 (b + 1) (by omega)
  have hEl : ∀ x ∈ (0, b) :: N b, Ent C D t fi se len φ N x := fun x hx => hE x (b4 x hx)
  have hsuf : ∀ (s : List (Nat × Nat)), chd N op len s → ∀ x ∈ s, nl (N x.2) ≤ 10 ∧ ns (N x.2) ≤ 10 ∧ nt (N x.2) ≤ 10 ∧ (x.1 = 0 → nl (N x.2) < nl s) := by
    intro s
    induction s with
    | nil => intro _ x hx; exact absurd hx (by simp)
    | cons e s ih =>
      intro hcs x hx
      obtain ⟨g1, g2, g3, g4⟩ := hcs
      rcases List.mem_cons.mp hx with rfl | hx
      · obtain ⟨m1, m2, m3, m4⟩ := k6 x.2 (by omega)
        have l1 := @nl_le (N x.2)
        have l2 := @ns_le (N x.2)
        have l3 := @nt_le (N x.2)
        refine ⟨by omega, by omega, by omega, fun e0 => ?_⟩
        obtain ⟨x1, x2⟩ := x
        dsimp only at e0 g1 ⊢
        subst e0
        rw [nl_c0, ← g1]
        omega
      · obtain ⟨m1, m2, m3, m4⟩ := ih g4 x hx
        refine ⟨m1, m2, m3, fun e0 => ?_⟩
        have := m4 e0
        have : nl s ≤ nl (e :: s) := by simp [nl, List.countP_cons]
        omega
  have hEb : ∀ x ∈ N b, nl (N x.2) ≤ 10 ∧ ns (N x.2) ≤ 10 ∧ nt (N x.2) ≤ 10 ∧ (x.1 = 0 → nl (N x.2) < k) := by
    intro x hx
    have := hsuf (N b) f4 x hx
    rw [b3] at this
    exact this
  have l2 := @ns_le (N b)
  have l3 := @nt_le (N b)
  have hWr : ∀ j, k ≤ j → j < k + (dp - k) → Wr C D t j := fun j _ h2 => (hI.2.1 j (by omega)).2.2.1
  have he : decide (C 12 5 = 3 ∨ C 12 5 = 4) = decide (D 537 27 = 3 ∨ D 537 27 = 4) := by rw [hw]
  obtain ⟨⟨z, ez, z9⟩, ⟨z', ez', z9'⟩⟩ := Rpl_z r
  have zc : ∀ x, x < 599 → ∀ y, ρ.2.2.2.1 = some y → x < y := fun x hx y e => by rw [ez] at e; have := Option.some.inj e; omega
  have zd : ∀ x, x < 599 → ∀ y, σ.2.2.2.1 = some y → x < y := fun x hx y e => by rw [ez'] at e; have := Option.some.inj e; omega
  have i8 := hI.1
  generalize hE2 : decide (D 537 27 = 3 ∨ D 537 27 = 4) = e at he
  -- places when both have taken back
  have r2 : Rpl kp (rC e t k (dp - k) C) ρ (dTBd e t k (dp - k) D) σ := by
    have r1 : Rpl kp (cTB e t k (dp - k) C) ρ (dTBd e t k (dp - k) D) σ := Rpl_tb ht (by omega) r hWr (fun a i ha => by rw [dTBd, if_neg (fun x => ha x.1)]) (fun i => ⟨_, rfl⟩)
    refine Rpl_cell (k := 0) r1 (fun x i hx => ?_) (fun _ _ _ => rfl)
    unfold rC
    rw [u_n1 (by omega), u_n1 (by omega), u_n1 (by omega), u_n1 (by omega)]
  unfold gX2_restart
  refine hv_up (fun _ => fX2_restart.eq_2 ..) ?_
  try simp only [↓reduceIte, Nat.reduceEqDiff, Option.bind_some, ao_let, hR, hc, i8]
  try simp (disch := first | omega | assumption) only [↓reduceIte, Nat.reduceEqDiff, Option.bind_some, ao_let, t_le, f_le, t_lt, f_lt, f_eq, u_eq, u_n1, u_n2, n_cl, n_lt, n_le, n_eq, n_ltl, n_llt, n_lel, n_lle, n_eql, n_leq, n_add, n_mul, n_sub, n_addl, n_ladd, n_mull, n_lmul, n_subl, Int32.reduceLT, Int32.reduceLE, Int32.reduceAdd, Int32.reduceSub, Int32.reduceMul, Int32.reduceToNatClampNeg, not_false_eq_true, not_true_eq_false, or_false, false_or, or_self, and_self, false_and, true_and, and_false, and_true, true_or, or_true, Nat.reduceAdd, Nat.reduceMul, Nat.reduceLT, Nat.reduceLeDiff, ne_eq, hR, hc, i8]
  refine hv_bind (P := fun y => y = cTB e t k (dp - k) C) (c_back hc hb ht hk hd C i8 (by rw [he])) ?_
  rintro _ rfl
  refine hv_bind (P := fun y => y = (92 + 71 * t + 8 + 6 * k, _)) (c_level hb ht (by omega) _ rfl) ?_
  rintro _ rfl
  try simp only [↓reduceIte, Nat.reduceEqDiff, Option.bind_some, ao_let, hlv, gX3_forgetReads]
  try simp (disch := first | omega | assumption) only [↓reduceIte, Nat.reduceEqDiff, Option.bind_some, ao_let, t_le, f_le, t_lt, f_lt, f_eq, u_eq, u_n1, u_n2, n_cl, n_lt, n_le, n_eq, n_ltl, n_llt, n_lel, n_lle, n_eql, n_leq, n_add, n_mul, n_sub, n_addl, n_ladd, n_mull, n_lmul, n_subl, Int32.reduceLT, Int32.reduceLE, Int32.reduceAdd, Int32.reduceSub, Int32.reduceMul, Int32.reduceToNatClampNeg, not_false_eq_true, not_true_eq_false, or_false, false_or, or_self, and_self, false_and, true_and, and_false, and_true, true_or, or_true, Nat.reduceAdd, Nat.reduceMul, Nat.reduceLT, Nat.reduceLeDiff, ne_eq, hlv, gX3_forgetReads]
  have fold : ao_u (ao_u (ao_u (ao_u (cTB e t k (dp - k) C) (92 + 71 * t + 8 + 6 * k) 3 0) (92 + 71 * t + 8 + 6 * k) 4 0) (92 + 71 * t + 8 + 6 * k) 9 0) (92 + 71 * t) 8 (nI (k + 1)) = rC e t k (dp - k) C := rfl
  rw [fold]
  have nk0 : (nI k = 0) = (k = 0) := n_eql (show k < 2147483648 by omega) (by omega)
  have fin : ∀ {Cx Dx : ao_M} {ρx σx : ao_H} {C4 D4 : ao_M}, ShA ρx → Rpl (kp + if k = 0 then cntT C t 0 26 else 0) Cx ρx Dx σx → FC (rC e t k (dp - k) C) ρ Cx ρx → FD (dTBd e t k (dp - k) D) σ Dx σx → (∀ p, p < 26 → Cx 16 p = if k = 0 ∧ C 16 p = nI t then -1 else C 16 p) →
      Th2 C4 D4 rc t op fi se d len φ N H → Regs C4 D4 t → (∀ a i, ¬ (a = 92 + 71 * t ∧ (i = 3 ∨ i = 14 ∨ i = 17 ∨ i = 16)) → C4 a i = Cx a i) → C4 (92 + 71 * t) 17 = Cx (92 + 71 * t) 17 + 1 →
      (∀ a i, ¬ (a = 552 ∨ a = 557 ∨ a = 558 ∨ a = 556 ∨ a = 560 ∨ a = 559 ∨ a = 564) ∨ i ≠ t → (a ≠ 576 ∨ i ≠ t * 12 + k) → D4 a i = Dx a i) → D4 559 t = Dx 559 t + 1 → rstP C D ρ σ kp rc t k op fi se d len φ N H (C4, ρx) (D4, σx) := by
    intro Cx Dx ρx σx C4 D4 hcx p1 p2 p3 p4 q1 q2 q3 q4 q5 q6
    have nc : ∀ a, (a < 19 ∨ 21 < a) ∧ a < 599 → ¬ PAc ρ a := fun a h => Rpl_nc r2 h
    have cCx : ∀ a i, (a < 13 ∨ a = 17 ∨ 21 < a) → a < 599 → Cx a i = rC e t k (dp - k) C a i := fun a i h1 h3 => p2.2 a i (by omega) (nc a (by omega)) (zc a h3)
    have cDx : ∀ a i, ¬ (a = 537 ∧ (i = 25 ∨ i = 26)) → (a < 542 ∨ a = 545 ∨ 549 < a) → a < 599 → Dx a i = dTBd e t k (dp - k) D a i := fun a i h1 h2 h3 => p3.2 a i h1 (by omega) (Rpl_nd r2 (by omega)) (zd a h3)
    unfold rstP
    dsimp only
    refine ⟨?_, ⟨?_, ?_⟩, ⟨p3.1, ?_⟩, q1, q2, ?_, ?_, ?_, ?_, ?_, ?_, ?_, ?_, ?_, ?_⟩
    · exact Rpl_cell (k := 0) p1 (fun x i hx => q3 x i (by omega)) (fun x i hx => q5 x i (by omega) (by omega))
    · obtain ⟨zz, zz', y1, y2, y3, y4, y5, y6, y8, y9⟩ := p2.1
      have m1 : rmC (rC e t k (dp - k) C) = rmC C := by
        unfold rmC
        rw [rC_n (by omega) (by omega) (by omega) (by omega) (by omega)]
      have m2 : rmC C4 = rmC Cx := by
        unfold rmC
        rw [q3 _ _ (by omega)]
      rw [m1] at y8 y9
      exact ⟨zz, zz', y1, y2, y3, y4, y5, y6, by rw [m2]; exact y8, by rw [m2]; exact y9⟩
    · intro x i hx hn hp hz
      rw [q3 x i (by omega), p2.2 x i hx hp hz, rC_n (by omega) (by omega) (by omega) (by omega) (by omega)]
    · intro x i hi hx hn hp hz
      have hw : ∀ a w, wd a = w → 550 ≤ a → a ≤ 584 → x = a → ¬ (t * w ≤ i ∧ i < (t + 1) * w) := by
        intro a w hw h1 h2 h3 h4
        subst h3
        rw [← hw] at h4
        exact hn ⟨h1, h2, h4.1, h4.2⟩
      have w1 : ∀ a, a = 552 ∨ a = 557 ∨ a = 558 ∨ a = 556 ∨ a = 560 ∨ a = 559 ∨ a = 564 ∨ a = 555 → x = a → i ≠ t := by
        intro a ha hxa
        have := hw a 1 (by rcases ha with rfl | rfl | rfl | rfl | rfl | rfl | rfl | rfl <;> rfl) (by omega) (by omega) hxa
        omega
      have w76 := hw 576 12 rfl (by omega) (by omega)
      have w84 := hw 584 12 rfl (by omega) (by omega)
      have w53 := hw 553 26 rfl (by omega) (by omega)
      have w77 := hw 577 312 rfl (by omega) (by omega)
      have w78 := hw 578 312 rfl (by omega) (by omega)
      rw [q5 x i ?_ ?_, p3.2 x i hi hx hp hz, dTBd, if_neg ?_]
      · by_cases v1 : x = 555
        · exact dTB_v (Or.inr (Or.inl ⟨v1, w1 555 (by omega) v1⟩))
        · by_cases v2 : x = 553
          · have := w53 v2
            exact dTB_v (Or.inr (Or.inr ⟨v2, by omega⟩))
          · refine dTB_n (by omega) ?_ ?_
            · by_cases v3 : x = 578
              · have := w78 v3; omega
              · exact Or.inl v3
            · by_cases v3 : x = 584
              · have := w84 v3; omega
              · exact Or.inl v3
      · intro v
        have := w77 v.1
        omega
      · by_cases v : x = 552 ∨ x = 557 ∨ x = 558 ∨ x = 556 ∨ x = 560 ∨ x = 559 ∨ x = 564
        · exact Or.inr (w1 x (by omega) rfl)
        · exact Or.inl v
      · by_cases v : x = 576
        · have := w76 v; omega
        · exact Or.inl v
    · rw [q4, cCx _ _ (by omega) (by omega), rC_n (by omega) (by omega) (by omega) (by omega) (by omega)]
    · rw [q6, cDx _ _ (by omega) (by omega) (by omega), dTBd, if_neg (by omega), dTB_n (by omega) (by omega) (by omega)]
    · intro i hi
      rw [q3 _ _ (by omega), cCx _ _ (by omega) (by omega), rC_n (by omega) (by omega) (by omega) (by omega) (by omega)]
    · intro a ha
      rw [q5 _ _ (by omega) (by omega), cDx _ _ (by omega) (by omega) (by omega), dTBd, if_neg (by omega), dTB_n (by omega) (by omega) (by omega)]
    · intro i
      rw [q5 _ _ (by omega) (by omega), cDx _ _ (by omega) (by omega) (by omega), dTBd, if_neg (by omega), dTB_n (by omega) (by omega) (by omega)]
    · intro p hp
      rw [q3 _ _ (by omega)]
      exact p4 p hp
    · rw [q3 _ _ (by omega), cCx _ _ (by omega) (by omega), rC, u_eq]
    · intro j hj
      rw [q3 _ _ (by omega), q3 _ _ (by omega), cCx _ _ (by omega) (by omega), cCx _ _ (by omega) (by omega), rC_n (by omega) (by omega) (by omega) (by omega) (by omega), rC_n (by omega) (by omega) (by omega) (by omega) (by omega)]
      exact ⟨rfl, rfl⟩
    · rw [q3 _ _ (by omega), cCx _ _ (by omega) (by omega), rC, u_n1 (by omega), u_n2 (by omega), u_n2 (by omega), u_n2 (by omega), cTB_6 (by omega) (by omega)]
    · rw [q3 _ _ (by omega), cCx _ _ (by omega) (by omega), rC, u_n1 (by omega), u_n2 (by omega), u_n2 (by omega), u_eq]
  have dstart : ∀ {Q : ao_S → Prop}, hv (fun n => if nI k = 0 then (gX12_free n 537 (nI t) (dTBd e t k (dp - k) D) σ).bind fun p4 => fX12_restart n 16 537 (nI t) (nI k) p4.1 p4.2 else fX12_restart n 26 537 (nI t) (nI k) (dTBd e t k (dp - k) D) σ) Q → hv (fun n => gX12_restart n 537 (nI t) (nI k) D σ) Q := by
    intro Q h
    unfold gX12_restart
    refine hv_up (fun _ => fX12_restart.eq_2 ..) ?_
    simp only [↓reduceIte, hs]
    refine hv_bind (P := fun y => y = dTBd e t k (dp - k) D) (d_tbd hs ht hk hd D h556 (by rw [hE2])) ?_
    rintro _ rfl
    exact h
  by_cases hk0 : k = 0
  · have hk1 : (k = 0) = True := eq_true hk0
    simp only [nk0, hk1, ↓reduceIte]
    try simp only [↓reduceIte, Nat.reduceEqDiff, Option.bind_some, ao_let, hc]
    try simp (disch := first | omega | assumption) only [↓reduceIte, Nat.reduceEqDiff, Option.bind_some, ao_let, t_le, f_le, t_lt, f_lt, f_eq, u_eq, u_n1, u_n2, n_cl, n_lt, n_le, n_eq, n_ltl, n_llt, n_lel, n_lle, n_eql, n_leq, n_add, n_mul, n_sub, n_addl, n_ladd, n_mull, n_lmul, n_subl, Int32.reduceLT, Int32.reduceLE, Int32.reduceAdd, Int32.reduceSub, Int32.reduceMul, Int32.reduceToNatClampNeg, not_false_eq_true, not_true_eq_false, or_false, false_or, or_self, and_self, false_and, true_and, and_false, and_true, true_or, or_true, Nat.reduceAdd, Nat.reduceMul, Nat.reduceLT, Nat.reduceLeDiff, ne_eq, hc]
    have e0 : cTB e t k (dp - k) C (92 + 71 * t) 0 = nI t := by
      rw [cTB_n (by omega) (by omega) (by omega) (by omega)]; exact h0
    try rw [e0]
    have e0' : rC e t k (dp - k) C (92 + 71 * t) 0 = nI t := by
      rw [rC_n (by omega) (by omega) (by omega) (by omega) (by omega)]; exact h0
    try rw [e0']
    have hlz2 : ¬ (dTBd e t k (dp - k) D 537 27 = 3 ∨ dTBd e t k (dp - k) D 537 27 = 4) → ∀ p, p < 26 → rC e t k (dp - k) C 16 p = -1 := by
      intro h p hp
      rw [rC_n (by omega) (by omega) (by omega) (by omega) (by omega)]
      refine hlz ?_ p hp
      rw [dTBd, if_neg (by omega), dTB_n (by omega) (by omega) (by omega)] at h
      exact h
    refine hv_bind (rel_pair ht hc hs hkp r2 hlz2) ?_
    rintro ⟨C3, ρ3⟩ hC3
    obtain ⟨Nn, ⟨D3, σ3⟩, eD3, p1, p2, p3, p4⟩ := hC3
    dsimp only at p1 p2 p3 p4
    have hc3 := HxC_shA p2.1 (sh_zc r2) hc
    have hb3 := HxC_shB p2.1 (sh_zc r2) hb
    have hs3 := HxD_sh p3.1 (sh_zd r2) hs
    refine hv_up (fun _ => fX2_restart.eq_2 ..) ?_
    try simp only [↓reduceIte, Nat.reduceEqDiff, Option.bind_some, ao_let, hc3, RnS_of hb3 ht]
    try simp (disch := first | omega | assumption) only [↓reduceIte, Nat.reduceEqDiff, Option.bind_some, ao_let, t_le, f_le, t_lt, f_lt, f_eq, u_eq, u_n1, u_n2, n_cl, n_lt, n_le, n_eq, n_ltl, n_llt, n_lel, n_lle, n_eql, n_leq, n_add, n_mul, n_sub, n_addl, n_ladd, n_mull, n_lmul, n_subl, Int32.reduceLT, Int32.reduceLE, Int32.reduceAdd, Int32.reduceSub, Int32.reduceMul, Int32.reduceToNatClampNeg, not_false_eq_true, not_true_eq_false, or_false, false_or, or_self, and_self, false_and, true_and, and_false, and_true, true_or, or_true, Nat.reduceAdd, Nat.reduceMul, Nat.reduceLT, Nat.reduceLeDiff, ne_eq, hc3, RnS_of hb3 ht]
    have nc : ∀ a, (a < 19 ∨ 21 < a) ∧ a < 599 → ¬ PAc ρ a := fun a h => Rpl_nc r2 h
    have cC3 : ∀ a i, (a < 13 ∨ a = 17 ∨ 21 < a) → a < 599 → C3 a i = rC e t k (dp - k) C a i := fun a i h1 h3 => p2.2 a i (by omega) (nc a (by omega)) (zc a h3)
    have cD3 : ∀ a i, ¬ (a = 537 ∧ (i = 25 ∨ i = 26)) → (a < 542 ∨ a = 545 ∨ 549 < a) → a < 599 → D3 a i = dTBd e t k (dp - k) D a i := fun a i h1 h2 h3 => p3.2 a i h1 (by omega) (Rpl_nd r2 (by omega)) (zd a h3)
    have ecnt : cntT (rC e t k (dp - k) C) t 0 26 = cntT C t 0 26 := cntT_e (fun q _ _ => rC_n (by omega) (by omega) (by omega) (by omega) (by omega))
    refine hv_mono (rst_tail (C := C) (D := D) (C3 := ao_u C3 (92 + 71 * t) 16 (C3 12 6)) (D3 := ao_u D3 564 t (D3 537 65)) (ρ := ρ3) (σ := σ3) (t := t) (k := k) (dp := dp) (b := b) (rc := rc) (len := len) (e := e) (op := op) (fi := fi) (se := se) (d := d) (φ := φ) (N := N) (H := H) (Q := rstP C D ρ σ kp rc t k op fi se d len φ N H) ht hc3 hb3 hs3 hk hd hI ?_ ?_ ?_ hnow h16 (by omega) i4 i5 i3 (by omega) (by omega) b3 (by omega) (by omega) hEl hEb ?_) ?_
    · intro a i h1 h2
      by_cases q : a = 92 + 71 * t ∧ i = 16
      · obtain ⟨rfl, rfl⟩ := q
        rw [u_eq, if_pos (by omega), cC3 12 6 (by omega) (by omega), rC_n (by omega) (by omega) (by omega) (by omega) (by omega)]
      · rw [u_ne (by omega), if_neg (by omega), cC3 a i (by omega) (by omega)]
    · intro a i h1 h2
      by_cases q : a = 564 ∧ i = t
      · obtain ⟨rfl, rfl⟩ := q
        rw [u_eq, if_pos (by omega), cD3 537 65 (by omega) (by omega) (by omega), dTBd, if_neg (by omega), dTB_n (by omega) (by omega) (by omega)]
      · rw [u_ne (by omega), if_neg (by omega), cD3 a i (by omega) (by omega) (by omega)]
    · obtain ⟨f, g, h, pc, pd, ch, ev, ec⟩ := p1
      rw [u_n1 (by omega), u_n1 (by omega)]
      exact ec
    · intro C4 D4 q1 q2 q3 q4 q5 q6
      refine fin hc3 ?_ p2 p3 ?_ q1 q2 ?_ ?_ ?_ ?_
      · rw [if_pos hk0, ← ecnt]; exact p1
      · intro p hp
        rw [(p4 p hp).2, rC_n (by omega) (by omega) (by omega) (by omega) (by omega)]
        simp [hk0]
      · intro a i h
        rw [q3 a i (by omega), u_ne (by omega)]
      · rw [q4, u_n2 (by omega)]
      · intro a i h1 h2
        rw [q5 a i (by omega) h2, u_ne (by omega)]
      · rw [q6, u_n1 (by omega)]
    · intro y hy
      refine dstart ?_
      simp only [nk0, hk1, ↓reduceIte]
      refine hv_bind (P := fun w => w = (D3, σ3)) ⟨Nn, _, eD3, rfl⟩ ?_
      rintro _ rfl
      refine hv_up (fun _ => fX12_restart.eq_2 ..) ?_
      try simp only [↓reduceIte, Nat.reduceEqDiff, Option.bind_some, ao_let, hs3]
      try simp (disch := first | omega | assumption) only [↓reduceIte, Nat.reduceEqDiff, Option.bind_some, ao_let, t_le, f_le, t_lt, f_lt, f_eq, u_eq, u_n1, u_n2, n_cl, n_lt, n_le, n_eq, n_ltl, n_llt, n_lel, n_lle, n_eql, n_leq, n_add, n_mul, n_sub, n_addl, n_ladd, n_mull, n_lmul, n_subl, Int32.reduceLT, Int32.reduceLE, Int32.reduceAdd, Int32.reduceSub, Int32.reduceMul, Int32.reduceToNatClampNeg, not_false_eq_true, not_true_eq_false, or_false, false_or, or_self, and_self, false_and, true_and, and_false, and_true, true_or, or_true, Nat.reduceAdd, Nat.reduceMul, Nat.reduceLT, Nat.reduceLeDiff, ne_eq, hs3]
      exact hy
  · simp only [nk0, hk0, ↓reduceIte]
    refine hv_mono (rst_tail (C := C) (D := D) (C3 := rC e t k (dp - k) C) (D3 := dTBd e t k (dp - k) D) (ρ := ρ) (σ := σ) (t := t) (k := k) (dp := dp) (b := b) (rc := rc) (len := len) (e := e) (op := op) (fi := fi) (se := se) (d := d) (φ := φ) (N := N) (H := H) (Q := rstP C D ρ σ kp rc t k op fi se d len φ N H) ht hc hb hs hk hd hI ?_ ?_ ?_ hnow h16 (by omega) i4 i5 i3 (by omega) (by omega) b3 (by omega) (by omega) hEl hEb ?_) ?_
    · intro a i h1 h2
      rw [if_neg (by omega)]
    · intro a i h1 h2
      rw [if_neg (by omega)]
    · obtain ⟨f, g, h, pc, pd, ch, ev, ec⟩ := r2
      exact ec
    · intro C4 D4 q1 q2 q3 q4 q5 q6
      refine fin hc ?_ ⟨HxC_refl ez rfl, fun _ _ _ _ _ => rfl⟩ ⟨HxD_refl ez', fun _ _ _ _ _ _ => rfl⟩ ?_ q1 q2 ?_ q4 ?_ q6
      · rw [if_neg hk0]; exact r2
      · intro p hp
        rw [rC_n (by omega) (by omega) (by omega) (by omega) (by omega), if_neg (by omega)]
      · intro a i h
        exact q3 a i (by omega)
      · intro a i h1 h2
        exact q5 a i (by omega) h2
    · intro y hy
      refine dstart ?_
      simp only [nk0, hk0, ↓reduceIte]
      exact hy
