set_option linter.unusedSimpArgs false
set_option linter.unusedVariables false
/-! ===== calls between calls: put ===== -/
section Cc4
variable {m B1 B2 E1 E2 : Nat} {C D : ao_M} {ρ σ : ao_H}
theorem Rpl_af {k p : Nat} {v : Int32} (r : Rpl k C ρ D σ) (hp : p < 26) : Rpl k (ao_u C 17 p v) ρ (ao_u D 545 p v) σ := by
  obtain ⟨f, g, hh, pc, pd, ch, ev, ec⟩ := r
  refine ⟨f, g, hh, PLc_mv pc (u_ne (by omega)) (u_ne (by omega)) (fun x hx => funext fun i => u_ne (by omega)), PLd_mv pd (u_ne (by omega)) (fun x hx => funext fun i => u_ne (by omega)), ch, fun q hq => ?_, ?_⟩
  · obtain ⟨e1, e2, e3, e4, e5, e6, e7⟩ := ev q hq
    refine ⟨?_, ?_, ?_, ?_, ?_, ?_, ?_⟩
    · rw [u_ne (by omega), u_ne (by omega)]; exact e1
    · rw [u_ne (by omega), u_ne (by omega)]; exact e2
    · rw [u_ne (by omega), u_ne (by omega)]; exact e3
    · by_cases z : q = p
      · subst z; rw [u_eq, u_eq]
      · rw [u_ne (by omega), u_ne (by omega)]; exact e4
    · rw [u_ne (by omega), u_ne (by omega)]; exact e5
    · rw [u_ne (by omega)]; exact e6
    · rw [u_ne (by omega)]; exact e7
  · rw [u_ne (by omega), u_ne (by omega)]; exact ec
theorem Rv_u {r k : Nat} {x : Int32} (h : Rv B1 B2 0 C ρ) (h1 : ¬ (r = 8 ∧ k = 0)) (h2 : ¬ (r = 13 ∧ k = 9)) (h3 : k ≠ 16 ∨ r < 92 ∨ 518 ≤ r) (h4 : ¬ (r = 12 ∧ k = 6)) (h5 : r ≠ 29 ∧ r ≠ 30) : Rv B1 B2 0 (ao_u C r k x) ρ := by
  obtain ⟨a, rm, b, c, d⟩ := h
  exact ⟨a, rm, Mv_u b h1 h2 (fun q => by obtain ⟨q1, t, q2, q3⟩ := q; omega) h4 h5, c, d⟩
set_option maxHeartbeats 8000000 in
/-- only places have changed, and what they had -/
theorem Full_chg {kp rc n bw br : Nat} {C1 D1 : ao_M} {ρ1 σ1 : ao_H} (h : Full (tk C) ρ D σ kp rc n bw br) (hX : HxC C ρ C1 ρ1) (hY : HxD σ σ1)
    (hC : ∀ x i, (x < 13 ∨ 18 < x) → ¬ PAc ρ x → (∀ z, ρ.2.2.2.1 = some z → x < z) → C1 x i = C x i)
    (hD : ∀ x i, ¬ (x = 537 ∧ (i = 25 ∨ i = 26)) → (x < 542 ∨ 546 < x) → ¬ PAd σ x → (∀ z, σ.2.2.2.1 = some z → x < z) → D1 x i = D x i)
    (hR : Rpl (kp + 1) C1 ρ1 D1 σ1) (h16 : ∀ p, p < 26 → C1 16 p = C 16 p) (hb : bw + 1 ≤ 28000) : Full (tk C1) ρ1 D1 σ1 (kp + 1) rc n (bw + 1) br := by
  obtain ⟨⟨f1, f2, f3, f4⟩, f5, ⟨f6, f7, fX⟩, f8, f9, f10, f11, f12, f13, f14, f15, f16⟩ := id h
  have zc := sh_zc f5
  have zd := sh_zd f5
  have npc : ∀ x, (x < 19 ∨ 21 < x) ∧ x < 599 → ¬ PAc ρ x := fun x hx => Rpl_nc f5 hx
  have npd : ∀ x, (x < 547 ∨ 549 < x) ∧ x < 599 → ¬ PAd σ x := fun x hx => Rpl_nd f5 hx
  have cl : ∀ x i, (x < 13 ∨ 22 ≤ x ∧ x < 599) → C1 x i = C x i := fun x i h1 => hC x i (by omega) (npc x (by omega)) (fun z hz => by have := zc z hz; omega)
  have dl : ∀ x i, x < 599 → ¬ (x = 537 ∧ (i = 25 ∨ i = 26)) → (x < 542 ∨ 549 < x) → D1 x i = D x i := fun x i h0 h1 h2 => hD x i h1 (by omega) (npd x (by omega)) (fun z hz => by have := zd z hz; omega)
  have c12 : ∀ j, C1 12 j = C 12 j := fun j => cl _ _ (by omega)
  have tl : ∀ x i, (x < 13 ∨ 22 ≤ x ∧ x < 599) → tk C1 x i = tk C x i := fun x i h1 => tk_e c12 (cl x i h1)
  have hX' : HxC (tk C) ρ (tk C1) ρ1 := HxC_rm hX (tk_n (by omega)) (tk_n (by omega))
  have k16 : ∀ p, p < 26 → tk C1 16 p = tk C 16 p := fun p hp => by rw [tk_n (by omega), tk_n (by omega), h16 p hp]
  have big : ∀ x i, 599 ≤ x → ¬ PAc ρ x → (∀ z, ρ.2.2.2.1 = some z → x < z) → tk C1 x i = tk C x i := fun x i hx h1 h2 => tk_e c12 (hC x i (by omega) h1 h2)
  have e8 : dpC (tk C1) 0 = dpC (tk C) 0 := by unfold dpC; rw [tl _ _ (by omega)]
  have ew : wsum (tk C1) 0 (dpC (tk C1) 0) = wsum (tk C) 0 (dpC (tk C) 0) := by
    have := dpC_le (f12 0 (by omega))
    rw [e8]
    exact wsum_congr _ (fun j hj => tl _ _ (by omega))
  have er : rsum (tk C1) 0 (dpC (tk C1) 0) = rsum (tk C) 0 (dpC (tk C) 0) := by
    have := dpC_le (f12 0 (by omega))
    rw [e8]
    exact rsum_congr _ (fun j hj => by unfold rl; rw [tl _ _ (by omega)])
  have key : FullP (fun _ => True) (tk C1) ρ1 D1 σ1 (kp + 1) rc n (bw + 1) br := by
    refine P_pl (t := 0) (Full_P h (fun _ => True)) (by omega) hX' hY (fun x i q1 q2 q3 q4 q5 => tk_e c12 (hC x i q1 q4 q5)) (fun x i q1 q2 q3 q4 q5 q6 => hD x i (by omega) q2 q5 q6) (Rpl_cell (k := 0) hR (fun x i hx => tk_n (by omega)) (fun _ _ _ => rfl)) (fun q p hp => by rw [k16 p hp]; exact f8 q p hp) ?_ (Nat.le_refl _) (Rsd_fr f9 (fun a i q1 q2 => tl _ _ (by omega)) (dl _ _ (by omega) (by omega) (by omega)) (fun a i q1 => dl _ _ (by omega) (by omega) (by omega))) (Rrc_fr f10 (fun a i q1 q2 => tl _ _ (by omega)) (dl _ _ (by omega) (by omega) (by omega)) (fun a i q1 q2 => dl _ _ (by omega) (by omega) (by omega))) ?_ (by rw [e8]; exact dpC_le (f12 0 (by omega))) (fun _ => Thr_fr (f12 0 (by omega)) (by omega) (Nat.le_refl _) (fun a i q1 q2 => tl _ _ (by omega)) (fun a i q1 q2 _ _ => dl _ _ (by omega) (by omega) (by omega)) hX' zc big) ?_ ?_ ?_ hb f16
    · rw [dl _ _ (by omega) (by omega) (by omega)]; exact f11
    · obtain ⟨f, g, bs, b1, b2, b3, b4⟩ := f13
      refine ⟨f, g, bs, by rw [dl _ _ (by omega) (by omega) (by omega)]; exact b1, b2, fun o ho hn p hp => ?_, fun u hu q => ?_⟩
      · rw [tl _ _ (by omega)] at hn
        rw [k16 p hp]; exact b3 o ho hn p hp
      · rw [tl _ _ (by omega)] at q
        obtain ⟨d1, d2, d3, d4, d5⟩ := b4 u hu q
        refine ⟨by rw [tl _ _ (by omega)]; exact d1, by rw [dl _ _ (by omega) (by omega) (by omega)]; exact d2, d3, d4, fun w hw hne qw => ?_⟩
        rw [tl _ _ (by omega)] at qw
        exact d5 w hw hne qw
    · intro q
      rw [cntK_e (C := tk C) (C' := tk C1) k16]
      omega
    · intro q
      rw [ew]
      omega
    · rw [er]
      omega
  obtain ⟨z1, z2, z3, z4, z5, z6, z7, z8, z9, z10, z11, z12⟩ := key
  exact ⟨z1, z2, z3, z4, z5, z6, z7, fun t ht => (z8 t ht).2 trivial, z9, z10, z11, z12⟩
set_option maxHeartbeats 8000000 in
theorem PR_put (h : PR m B1 B2 E1 E2 C ρ D σ) (hm : m + 1 ≤ 512) (x v : Int32) : hv (fun n => gL_put n 0 x v 598 C ρ) (fun y => hv (fun n => gX12_put n 537 x v D σ) (fun w => CR m B1 B2 E1 E2 y w.1 w.2.1 w.2.2)) := by
  obtain ⟨⟨hc, hb, hg, hs, hO⟩, ⟨kp0, -, f, g, hh, pc, pd, ch, pe, ec⟩, -⟩ := PR_C h
  have bad : ∀ (ex : String) (r : Int32), (ex = "java/lang/IllegalArgumentException" ∧ r = 1 ∨ ex = "java/lang/IllegalStateException" ∧ r = 2) → hv (fun n => gX10_put n 0 x v C ρ) (fun u => u = (.inr ex, C, ao_th ρ)) → hv (fun n => gX12_put n 537 x v D σ) (fun w => w.2 = (ao_u D 537 0 r, σ)) → hv (fun n => gL_put n 0 x v 598 C ρ) (fun y => hv (fun n => gX12_put n 537 x v D σ) (fun w => CR m B1 B2 E1 E2 y w.1 w.2.1 w.2.2)) := by
    intro ex r her h1 h2
    have fin : ∀ r : Int32, r ≠ 0 → ∀ w : Int32 × ao_S, w.2 = (ao_u D 537 0 r, σ) → CR m B1 B2 E1 E2 (r, C, ao_th ρ) w.1 w.2.1 w.2.2 := by
      rintro r hr ⟨w1, D', σ'⟩ hw
      dsimp only at hw
      cases hw
      exact PR_tell (w := (w1, ao_u D 537 0 r)) h hm ⟨rfl, Or.inr ⟨hr, rfl, rfl⟩⟩
    unfold gL_put
    refine hv_up (fun _ => fL_put.eq_2 ..) ?_
    try simp only [↓reduceIte, Nat.reduceEqDiff, Option.bind_some, ao_let, n_ell, hc]
    try simp (disch := first | omega | assumption) only [↓reduceIte, Nat.reduceEqDiff, Option.bind_some, ao_let, t_le, f_le, t_lt, f_lt, f_eq, u_eq, u_n1, u_n2, n_cl, n_lt, n_le, n_eq, n_ltl, n_llt, n_lel, n_lle, n_eql, n_leq, n_add, n_mul, n_sub, n_addl, n_ladd, n_mull, n_lmul, n_subl, Int32.reduceLT, Int32.reduceLE, Int32.reduceAdd, Int32.reduceSub, Int32.reduceMul, Int32.reduceToNatClampNeg, not_false_eq_true, not_true_eq_false, or_false, false_or, or_self, and_self, false_and, true_and, and_false, and_true, true_or, or_true, Nat.reduceAdd, Nat.reduceMul, Nat.reduceLT, Nat.reduceLeDiff, ne_eq, n_ell, hc]
    refine hv_bind h1 ?_
    rintro _ rfl
    rcases her with ⟨rfl, rfl⟩ | ⟨rfl, rfl⟩
    · simp only [ao_cs, ↓reduceIte]
      exact hv_some (hv_mono h2 (fun w hw => fin 1 (by decide) w hw))
    · simp only [ao_cs, ex_ne2, ↓reduceIte]
      exact hv_some (hv_mono h2 (fun w hw => fin 2 (by decide) w hw))
  have d26 : ∀ r : Int32, r ≠ 0 → hv (fun n => fX12_put n 26 537 x v r 537 D σ) (fun w => w.2 = (ao_u D 537 0 r, σ)) := by
    intro r hr
    refine hv_up (fun _ => fX12_put.eq_2 ..) ?_
    try simp only [↓reduceIte, Nat.reduceEqDiff, Option.bind_some, ao_let, n_ell, hs, gX12_fails, hr]
    try simp (disch := first | omega | assumption) only [↓reduceIte, Nat.reduceEqDiff, Option.bind_some, ao_let, t_le, f_le, t_lt, f_lt, f_eq, u_eq, u_n1, u_n2, n_cl, n_lt, n_le, n_eq, n_ltl, n_llt, n_lel, n_lle, n_eql, n_leq, n_add, n_mul, n_sub, n_addl, n_ladd, n_mull, n_lmul, n_subl, Int32.reduceLT, Int32.reduceLE, Int32.reduceAdd, Int32.reduceSub, Int32.reduceMul, Int32.reduceToNatClampNeg, not_false_eq_true, not_true_eq_false, or_false, false_or, or_self, and_self, false_and, true_and, and_false, and_true, true_or, or_true, Nat.reduceAdd, Nat.reduceMul, Nat.reduceLT, Nat.reduceLeDiff, ne_eq, n_ell, hs, gX12_fails, hr]
    exact hv_some rfl
  rcases pl_of x 26 (by omega) with ⟨p, hp, rfl⟩ | hx
  · obtain ⟨-, -, e3, -, -, e6, -⟩ := pe p hp
    rcases e6 with e6 | ⟨t, ht, e6⟩
    · obtain ⟨kp, rc, n, ⟨h1, h2⟩, ⟨h3, h3'⟩, h4, h5, h6⟩ := id h
      obtain ⟨⟨f1, f2, f3, f4⟩, f5, ⟨f6, f7, fX⟩, f8, f9, f10, f11, f12, f13, f14, f15, f16⟩ := id h2
      have hkp := Enr_kp f14
      have hn : n ≤ 20000 := by
        have := fX.2.2.2.1
        omega
      have r0 : Rpl kp C ρ D σ := Rpl_cell (k := 0) f5 (fun x i hx => (tk_n (by omega)).symm) (fun x i hx => (u_ne (by omega)).symm)
      have r1 : Rpl kp (ao_u C 13 4 (C 13 4 + 1)) ρ (ao_u (ao_u D 537 0 0) 537 26 (D 537 26 + 1)) σ := Rpl_clk r0 (fun x i q1 q2 => u_ne (by omega)) (fun x i q => by rw [u_ne (by omega), u_ne (by omega)]) (by rw [u_eq, u_eq, ec])
      have zc := sh_zc r0
      have zd := sh_zd r0
      have dlt : (D 544 p < 0) = True := eq_true (by rw [← e3, e6]; decide)
      have F0 := h2
      unfold gL_put
      refine hv_up (fun _ => fL_put.eq_2 ..) ?_
      try simp only [↓reduceIte, Nat.reduceEqDiff, Option.bind_some, ao_let, n_ell, hc]
      try simp (disch := first | omega | assumption) only [↓reduceIte, Nat.reduceEqDiff, Option.bind_some, ao_let, t_le, f_le, t_lt, f_lt, f_eq, u_eq, u_n1, u_n2, n_cl, n_lt, n_le, n_eq, n_ltl, n_llt, n_lel, n_lle, n_eql, n_leq, n_add, n_mul, n_sub, n_addl, n_ladd, n_mull, n_lmul, n_subl, Int32.reduceLT, Int32.reduceLE, Int32.reduceAdd, Int32.reduceSub, Int32.reduceMul, Int32.reduceToNatClampNeg, not_false_eq_true, not_true_eq_false, or_false, false_or, or_self, and_self, false_and, true_and, and_false, and_true, true_or, or_true, Nat.reduceAdd, Nat.reduceMul, Nat.reduceLT, Nat.reduceLeDiff, ne_eq, n_ell, hc]
      refine hv_bind (P := fun u => ∃ C1 ρ1, u = (.inl (C 13 4 + 1), ao_u C1 17 p v, ρ1) ∧ Rv B1 B2 0 C1 ρ1 ∧ HxC (ao_u C 13 4 (C 13 4 + 1)) ρ C1 ρ1 ∧ hv (fun n => gX12_remember n 537 (nI p) (ao_u (ao_u (ao_u D 537 0 0) 537 26 (D 537 26 + 1)) 542 p v) σ) (fun w => Rpl (kp + 1) C1 ρ1 w.1 w.2 ∧ FC (ao_u C 13 4 (C 13 4 + 1)) ρ C1 ρ1 ∧ FD (ao_u (ao_u D 537 0 0) 537 26 (D 537 26 + 1)) σ w.1 w.2 ∧ (∀ q, q < 26 → C1 16 q = C 16 q) ∧ C1 13 4 = C 13 4 + 1)) ?_ ?_
      · unfold gX10_put
        refine hv_up (fun _ => fX10_put.eq_2 ..) ?_
        try simp only [↓reduceIte, Nat.reduceEqDiff, Option.bind_some, ao_let, n_ell, hc, e6]
        try simp (disch := first | omega | assumption) only [↓reduceIte, Nat.reduceEqDiff, Option.bind_some, ao_let, t_le, f_le, t_lt, f_lt, f_eq, u_eq, u_n1, u_n2, n_cl, n_lt, n_le, n_eq, n_ltl, n_llt, n_lel, n_lle, n_eql, n_leq, n_add, n_mul, n_sub, n_addl, n_ladd, n_mull, n_lmul, n_subl, Int32.reduceLT, Int32.reduceLE, Int32.reduceAdd, Int32.reduceSub, Int32.reduceMul, Int32.reduceToNatClampNeg, not_false_eq_true, not_true_eq_false, or_false, false_or, or_self, and_self, false_and, true_and, and_false, and_true, true_or, or_true, Nat.reduceAdd, Nat.reduceMul, Nat.reduceLT, Nat.reduceLeDiff, ne_eq, n_ell, hc, e6]
        refine hv_bind (hv_and (ch_pair (v := v) hc hs hp (by omega) r1) (fun k z hz => rv_gX5_change (Rv_u h3 (by omega) (by omega) (by omega) (by omega) (by omega)) z hz)) ?_
        rintro ⟨C1, ρ1⟩ ⟨hch, hRv⟩
        dsimp only at hch hRv
        have hch' := hv_mono hch (fun w (q : Rpl (kp + 1) C1 ρ1 w.1 w.2 ∧ _) => (⟨q.1, q.2.1, q.2.2.1, fun p' hp' => by rw [(q.2.2.2.1 p' hp').2.2, u_ne (by omega)], by rw [q.2.2.2.2, u_eq]⟩ : Rpl (kp + 1) C1 ρ1 w.1 w.2 ∧ FC (ao_u C 13 4 (C 13 4 + 1)) ρ C1 ρ1 ∧ FD (ao_u (ao_u D 537 0 0) 537 26 (D 537 26 + 1)) σ w.1 w.2 ∧ (∀ q, q < 26 → C1 16 q = C 16 q) ∧ C1 13 4 = C 13 4 + 1))
        obtain ⟨w, ⟨-, hFC, -, -, h134⟩, -⟩ := hv_ex hch'
        have f11 := HxC_shA hFC.1 zc hc
        refine hv_up (fun _ => fX10_put.eq_2 ..) ?_
        try simp only [↓reduceIte, Nat.reduceEqDiff, Option.bind_some, ao_let, n_ell, f11]
        try simp (disch := first | omega | assumption) only [↓reduceIte, Nat.reduceEqDiff, Option.bind_some, ao_let, t_le, f_le, t_lt, f_lt, f_eq, u_eq, u_n1, u_n2, n_cl, n_lt, n_le, n_eq, n_ltl, n_llt, n_lel, n_lle, n_eql, n_leq, n_add, n_mul, n_sub, n_addl, n_ladd, n_mull, n_lmul, n_subl, Int32.reduceLT, Int32.reduceLE, Int32.reduceAdd, Int32.reduceSub, Int32.reduceMul, Int32.reduceToNatClampNeg, not_false_eq_true, not_true_eq_false, or_false, false_or, or_self, and_self, false_and, true_and, and_false, and_true, true_or, or_true, Nat.reduceAdd, Nat.reduceMul, Nat.reduceLT, Nat.reduceLeDiff, ne_eq, n_ell, f11]
        refine hv_some ⟨C1, ρ1, ?_, hRv, hFC.1, hch'⟩
        rw [h134]
      rintro _ ⟨C1, ρ1, rfl, hRv, hHx, hch⟩
      have hO1 : ShO ρ1 := by
        obtain ⟨z, z', hz, -, -, hk, -⟩ := hHx
        have := zc z hz
        exact ⟨(hk 598 (by omega)).1.trans hO.1, (hk 598 (by omega)).2.trans hO.2⟩
      simp only [ao_cs]
      refine hv_up (fun _ => fL_put.eq_2 ..) ?_
      try simp only [↓reduceIte, Nat.reduceEqDiff, Option.bind_some, ao_let, n_ell, hO1]
      try simp (disch := first | omega | assumption) only [↓reduceIte, Nat.reduceEqDiff, Option.bind_some, ao_let, t_le, f_le, t_lt, f_lt, f_eq, u_eq, u_n1, u_n2, n_cl, n_lt, n_le, n_eq, n_ltl, n_llt, n_lel, n_lle, n_eql, n_leq, n_add, n_mul, n_sub, n_addl, n_ladd, n_mull, n_lmul, n_subl, Int32.reduceLT, Int32.reduceLE, Int32.reduceAdd, Int32.reduceSub, Int32.reduceMul, Int32.reduceToNatClampNeg, not_false_eq_true, not_true_eq_false, or_false, false_or, or_self, and_self, false_and, true_and, and_false, and_true, true_or, or_true, Nat.reduceAdd, Nat.reduceMul, Nat.reduceLT, Nat.reduceLeDiff, ne_eq, n_ell, hO1]
      refine hv_some ?_
      unfold gX12_put
      refine hv_up (fun _ => fX12_put.eq_2 ..) ?_
      try simp only [↓reduceIte, Nat.reduceEqDiff, Option.bind_some, ao_let, n_ell, hs, isPl_yes hp, dlt]
      try simp (disch := first | omega | assumption) only [↓reduceIte, Nat.reduceEqDiff, Option.bind_some, ao_let, t_le, f_le, t_lt, f_lt, f_eq, u_eq, u_n1, u_n2, n_cl, n_lt, n_le, n_eq, n_ltl, n_llt, n_lel, n_lle, n_eql, n_leq, n_add, n_mul, n_sub, n_addl, n_ladd, n_mull, n_lmul, n_subl, Int32.reduceLT, Int32.reduceLE, Int32.reduceAdd, Int32.reduceSub, Int32.reduceMul, Int32.reduceToNatClampNeg, not_false_eq_true, not_true_eq_false, or_false, false_or, or_self, and_self, false_and, true_and, and_false, and_true, true_or, or_true, Nat.reduceAdd, Nat.reduceMul, Nat.reduceLT, Nat.reduceLeDiff, ne_eq, n_ell, hs, isPl_yes hp, dlt]
      refine hv_up (fun _ => fX12_put.eq_2 ..) ?_
      try simp only [↓reduceIte, Nat.reduceEqDiff, Option.bind_some, ao_let, n_ell, hs, gX12_fails]
      try simp (disch := first | omega | assumption) only [↓reduceIte, Nat.reduceEqDiff, Option.bind_some, ao_let, t_le, f_le, t_lt, f_lt, f_eq, u_eq, u_n1, u_n2, n_cl, n_lt, n_le, n_eq, n_ltl, n_llt, n_lel, n_lle, n_eql, n_leq, n_add, n_mul, n_sub, n_addl, n_ladd, n_mull, n_lmul, n_subl, Int32.reduceLT, Int32.reduceLE, Int32.reduceAdd, Int32.reduceSub, Int32.reduceMul, Int32.reduceToNatClampNeg, not_false_eq_true, not_true_eq_false, or_false, false_or, or_self, and_self, false_and, true_and, and_false, and_true, true_or, or_true, Nat.reduceAdd, Nat.reduceMul, Nat.reduceLT, Nat.reduceLeDiff, ne_eq, n_ell, hs, gX12_fails]
      refine hv_bind (hv_and (P := fun w => Rpl (kp + 1) C1 ρ1 w.1 w.2 ∧ FC (ao_u C 13 4 (C 13 4 + 1)) ρ C1 ρ1 ∧ FD (ao_u (ao_u D 537 0 0) 537 26 (D 537 26 + 1)) σ w.1 w.2 ∧ (∀ q, q < 26 → C1 16 q = C 16 q) ∧ C1 13 4 = C 13 4 + 1) ?_ (fun k z hz => rw_gX12_change h4 z hz)) ?_
      · unfold gX12_change
        refine hv_up (fun _ => fX12_change.eq_2 ..) ?_
        try simp only [↓reduceIte, Nat.reduceEqDiff, Option.bind_some, ao_let, n_ell, hs]
        try simp (disch := first | omega | assumption) only [↓reduceIte, Nat.reduceEqDiff, Option.bind_some, ao_let, t_le, f_le, t_lt, f_lt, f_eq, u_eq, u_n1, u_n2, n_cl, n_lt, n_le, n_eq, n_ltl, n_llt, n_lel, n_lle, n_eql, n_leq, n_add, n_mul, n_sub, n_addl, n_ladd, n_mull, n_lmul, n_subl, Int32.reduceLT, Int32.reduceLE, Int32.reduceAdd, Int32.reduceSub, Int32.reduceMul, Int32.reduceToNatClampNeg, not_false_eq_true, not_true_eq_false, or_false, false_or, or_self, and_self, false_and, true_and, and_false, and_true, true_or, or_true, Nat.reduceAdd, Nat.reduceMul, Nat.reduceLT, Nat.reduceLeDiff, ne_eq, n_ell, hs]
        refine hv_bind hch ?_
        rintro ⟨D1, σ1⟩ q
        refine hv_up (fun _ => fX12_change.eq_2 ..) ?_
        try simp only [↓reduceIte, Nat.reduceEqDiff, Option.bind_some, ao_let, n_ell]
        try simp (disch := first | omega | assumption) only [↓reduceIte, Nat.reduceEqDiff, Option.bind_some, ao_let, t_le, f_le, t_lt, f_lt, f_eq, u_eq, u_n1, u_n2, n_cl, n_lt, n_le, n_eq, n_ltl, n_llt, n_lel, n_lle, n_eql, n_leq, n_add, n_mul, n_sub, n_addl, n_ladd, n_mull, n_lmul, n_subl, Int32.reduceLT, Int32.reduceLE, Int32.reduceAdd, Int32.reduceSub, Int32.reduceMul, Int32.reduceToNatClampNeg, not_false_eq_true, not_true_eq_false, or_false, false_or, or_self, and_self, false_and, true_and, and_false, and_true, true_or, or_true, Nat.reduceAdd, Nat.reduceMul, Nat.reduceLT, Nat.reduceLeDiff, ne_eq, n_ell]
        exact hv_some q
      rintro ⟨D1, σ1⟩ ⟨⟨hr2, hFC, hFD, hq, h134⟩, hRx⟩
      dsimp only at hr2 hFD hRx
      have f14' := HxD_sh hFD.1 zd hs
      have npc : ∀ x, (x < 19 ∨ 21 < x) ∧ x < 599 → ¬ PAc ρ x := fun x hx => Rpl_nc r0 hx
      have npd : ∀ x, (x < 547 ∨ 549 < x) ∧ x < 599 → ¬ PAd σ x := fun x hx => Rpl_nd r0 hx
      refine hv_up (fun _ => fX12_put.eq_2 ..) ?_
      try simp only [↓reduceIte, Nat.reduceEqDiff, Option.bind_some, ao_let, n_ell, f14']
      try simp (disch := first | omega | assumption) only [↓reduceIte, Nat.reduceEqDiff, Option.bind_some, ao_let, t_le, f_le, t_lt, f_lt, f_eq, u_eq, u_n1, u_n2, n_cl, n_lt, n_le, n_eq, n_ltl, n_llt, n_lel, n_lle, n_eql, n_leq, n_add, n_mul, n_sub, n_addl, n_ladd, n_mull, n_lmul, n_subl, Int32.reduceLT, Int32.reduceLE, Int32.reduceAdd, Int32.reduceSub, Int32.reduceMul, Int32.reduceToNatClampNeg, not_false_eq_true, not_true_eq_false, or_false, false_or, or_self, and_self, false_and, true_and, and_false, and_true, true_or, or_true, Nat.reduceAdd, Nat.reduceMul, Nat.reduceLT, Nat.reduceLeDiff, ne_eq, n_ell, f14']
      refine hv_some ?_
      have F1 : Full (tk (ao_u C1 17 p v)) ρ1 (ao_u D1 545 p v) σ1 (kp + 1) rc (2 * n) (n + m + 1) (22000 * m) := by
        refine Full_chg F0 (HxC_rm hFC.1 (by rw [u_ne (by omega)]) (by rw [u_ne (by omega)])) hFD.1 (fun x i q1 q2 q3 => ?_) (fun x i q1 q2 q3 q4 => ?_) (Rpl_af hr2 hp) (fun q hq' => by rw [u_ne (by omega)]; exact hq q hq') (by omega)
        · rw [u_ne (by omega), hFC.2 x i (by omega) q2 q3, u_ne (by omega)]
        · rw [u_ne (by omega), hFD.2 x i q1 (by omega) q3 q4, u_ne (by omega)]
      have fX1 := F1.2.2.1.2.2
      have eC : ∀ x i, x ≠ 598 → (ao_u (ao_u C1 17 p v) 598 0 (C 13 4 + 1)) x i = (ao_u C1 17 p v) x i := fun x i q => u_ne (by omega)
      have F2 : Full (tk (ao_u (ao_u C1 17 p v) 598 0 (C 13 4 + 1))) ρ1 (ao_u D1 545 p v) σ1 (kp + 1) rc (2 * n) (n + m + 1) (22000 * m) := Full_ext F1 (fun x i q => tk_e (fun j => eC _ _ (by omega)) (eC x i (by omega))) (fun _ _ _ _ => rfl) (Ext_fr fX1 rfl (fun x i q => tk_e (fun j => eC _ _ (by omega)) (eC x i (by omega))) (fun _ _ _ => rfl)) (Nat.le_refl _)
      have cl : ∀ x i, (x < 13 ∨ 22 ≤ x ∧ x < 598) → (ao_u (ao_u C1 17 p v) 598 0 (C 13 4 + 1)) x i = C x i := fun x i q => by
        rw [u_ne (by omega), u_ne (by omega), hFC.2 x i (by omega) (npc x (by omega)) (fun z hz => by have := zc z hz; omega), u_ne (by omega)]
      have z0 : ao_u D1 545 p v 537 0 = 0 := by
        rw [u_ne (by omega), hFD.2 _ _ (by omega) (by omega) (npd _ (by omega)) (fun z hz => by have := zd z hz; omega), u_ne (by omega), u_eq]
      rw [← u_self z0] at F2
      refine ⟨⟨kp + 1, rc, n, ⟨by dsimp only; rw [cl _ _ (by omega)]; exact h1, Full_br F2 (by omega) (by omega) (by omega) (by omega)⟩, ⟨Rv_mono (Rv_u (Rv_u hRv (by omega) (by omega) (by omega) (by omega) (by omega)) (by omega) (by omega) (by omega) (by omega) (by omega)) (by omega) (by omega), fun t ht => ?_, ?_⟩, hRx, hO1, hm⟩, ?_, fun _ => ?_⟩
      · dsimp only
        rw [cl _ _ (by omega), cl _ _ (by omega)]; exact h3'.1 t ht
      · dsimp only
        rw [cl _ _ (by omega)]; exact h3'.2
      · exact z0
      · show ao_u (ao_u C1 17 p v) 598 0 (C 13 4 + 1) 598 0 = _
        obtain ⟨-, -, -, -, -, -, -, ec1⟩ := hr2
        rw [u_eq, ← ec1, h134]
    · refine bad _ 2 (Or.inr ⟨rfl, rfl⟩) ?_ ?_
      · have hne : (nI t = -1) = False := n_neg (by omega)
        unfold gX10_put
        refine hv_up (fun _ => fX10_put.eq_2 ..) ?_
        try simp only [↓reduceIte, Nat.reduceEqDiff, Option.bind_some, ao_let, n_ell, hc, e6, hne]
        try simp (disch := first | omega | assumption) only [↓reduceIte, Nat.reduceEqDiff, Option.bind_some, ao_let, t_le, f_le, t_lt, f_lt, f_eq, u_eq, u_n1, u_n2, n_cl, n_lt, n_le, n_eq, n_ltl, n_llt, n_lel, n_lle, n_eql, n_leq, n_add, n_mul, n_sub, n_addl, n_ladd, n_mull, n_lmul, n_subl, Int32.reduceLT, Int32.reduceLE, Int32.reduceAdd, Int32.reduceSub, Int32.reduceMul, Int32.reduceToNatClampNeg, not_false_eq_true, not_true_eq_false, or_false, false_or, or_self, and_self, false_and, true_and, and_false, and_true, true_or, or_true, Nat.reduceAdd, Nat.reduceMul, Nat.reduceLT, Nat.reduceLeDiff, ne_eq, n_ell, hc, e6, hne]
        exact hv_some rfl
      · have dlt : (D 544 p < 0) = False := eq_false (by rw [← e3, e6, n_ltl (by omega) (by decide)]; omega)
        unfold gX12_put
        refine hv_up (fun _ => fX12_put.eq_2 ..) ?_
        try simp only [↓reduceIte, Nat.reduceEqDiff, Option.bind_some, ao_let, n_ell, hs, isPl_yes hp, dlt]
        try simp (disch := first | omega | assumption) only [↓reduceIte, Nat.reduceEqDiff, Option.bind_some, ao_let, t_le, f_le, t_lt, f_lt, f_eq, u_eq, u_n1, u_n2, n_cl, n_lt, n_le, n_eq, n_ltl, n_llt, n_lel, n_lle, n_eql, n_leq, n_add, n_mul, n_sub, n_addl, n_ladd, n_mull, n_lmul, n_subl, Int32.reduceLT, Int32.reduceLE, Int32.reduceAdd, Int32.reduceSub, Int32.reduceMul, Int32.reduceToNatClampNeg, not_false_eq_true, not_true_eq_false, or_false, false_or, or_self, and_self, false_and, true_and, and_false, and_true, true_or, or_true, Nat.reduceAdd, Nat.reduceMul, Nat.reduceLT, Nat.reduceLeDiff, ne_eq, n_ell, hs, isPl_yes hp, dlt]
        exact d26 2 (by decide)
  · refine bad _ 1 (Or.inl ⟨rfl, rfl⟩) ?_ ?_
    · rcases hx with hx | ⟨n, h1, h2, rfl⟩
      · unfold gX10_put
        refine hv_up (fun _ => fX10_put.eq_2 ..) ?_
        try simp only [↓reduceIte, Nat.reduceEqDiff, Option.bind_some, ao_let, n_ell, hc, hx]
        try simp (disch := first | omega | assumption) only [↓reduceIte, Nat.reduceEqDiff, Option.bind_some, ao_let, t_le, f_le, t_lt, f_lt, f_eq, u_eq, u_n1, u_n2, n_cl, n_lt, n_le, n_eq, n_ltl, n_llt, n_lel, n_lle, n_eql, n_leq, n_add, n_mul, n_sub, n_addl, n_ladd, n_mull, n_lmul, n_subl, Int32.reduceLT, Int32.reduceLE, Int32.reduceAdd, Int32.reduceSub, Int32.reduceMul, Int32.reduceToNatClampNeg, not_false_eq_true, not_true_eq_false, or_false, false_or, or_self, and_self, false_and, true_and, and_false, and_true, true_or, or_true, Nat.reduceAdd, Nat.reduceMul, Nat.reduceLT, Nat.reduceLeDiff, ne_eq, n_ell, hc, hx]
        refine hv_up (fun _ => fX10_put.eq_2 ..) ?_
        try simp only [↓reduceIte, Nat.reduceEqDiff, Option.bind_some, ao_let, n_ell]
        try simp (disch := first | omega | assumption) only [↓reduceIte, Nat.reduceEqDiff, Option.bind_some, ao_let, t_le, f_le, t_lt, f_lt, f_eq, u_eq, u_n1, u_n2, n_cl, n_lt, n_le, n_eq, n_ltl, n_llt, n_lel, n_lle, n_eql, n_leq, n_add, n_mul, n_sub, n_addl, n_ladd, n_mull, n_lmul, n_subl, Int32.reduceLT, Int32.reduceLE, Int32.reduceAdd, Int32.reduceSub, Int32.reduceMul, Int32.reduceToNatClampNeg, not_false_eq_true, not_true_eq_false, or_false, false_or, or_self, and_self, false_and, true_and, and_false, and_true, true_or, or_true, Nat.reduceAdd, Nat.reduceMul, Nat.reduceLT, Nat.reduceLeDiff, ne_eq, n_ell]
        exact hv_some rfl
      · unfold gX10_put
        refine hv_up (fun _ => fX10_put.eq_2 ..) ?_
        try simp only [↓reduceIte, Nat.reduceEqDiff, Option.bind_some, ao_let, n_ell, hc]
        try simp (disch := first | omega | assumption) only [↓reduceIte, Nat.reduceEqDiff, Option.bind_some, ao_let, t_le, f_le, t_lt, f_lt, f_eq, u_eq, u_n1, u_n2, n_cl, n_lt, n_le, n_eq, n_ltl, n_llt, n_lel, n_lle, n_eql, n_leq, n_add, n_mul, n_sub, n_addl, n_ladd, n_mull, n_lmul, n_subl, Int32.reduceLT, Int32.reduceLE, Int32.reduceAdd, Int32.reduceSub, Int32.reduceMul, Int32.reduceToNatClampNeg, not_false_eq_true, not_true_eq_false, or_false, false_or, or_self, and_self, false_and, true_and, and_false, and_true, true_or, or_true, Nat.reduceAdd, Nat.reduceMul, Nat.reduceLT, Nat.reduceLeDiff, ne_eq, n_ell, hc]
        refine hv_up (fun _ => fX10_put.eq_2 ..) ?_
        try simp only [↓reduceIte, Nat.reduceEqDiff, Option.bind_some, ao_let, n_ell]
        try simp (disch := first | omega | assumption) only [↓reduceIte, Nat.reduceEqDiff, Option.bind_some, ao_let, t_le, f_le, t_lt, f_lt, f_eq, u_eq, u_n1, u_n2, n_cl, n_lt, n_le, n_eq, n_ltl, n_llt, n_lel, n_lle, n_eql, n_leq, n_add, n_mul, n_sub, n_addl, n_ladd, n_mull, n_lmul, n_subl, Int32.reduceLT, Int32.reduceLE, Int32.reduceAdd, Int32.reduceSub, Int32.reduceMul, Int32.reduceToNatClampNeg, not_false_eq_true, not_true_eq_false, or_false, false_or, or_self, and_self, false_and, true_and, and_false, and_true, true_or, or_true, Nat.reduceAdd, Nat.reduceMul, Nat.reduceLT, Nat.reduceLeDiff, ne_eq, n_ell]
        exact hv_some rfl
    · unfold gX12_put
      refine hv_up (fun _ => fX12_put.eq_2 ..) ?_
      try simp only [↓reduceIte, Nat.reduceEqDiff, Option.bind_some, ao_let, n_ell, hs, isPl_no hx]
      try simp (disch := first | omega | assumption) only [↓reduceIte, Nat.reduceEqDiff, Option.bind_some, ao_let, t_le, f_le, t_lt, f_lt, f_eq, u_eq, u_n1, u_n2, n_cl, n_lt, n_le, n_eq, n_ltl, n_llt, n_lel, n_lle, n_eql, n_leq, n_add, n_mul, n_sub, n_addl, n_ladd, n_mull, n_lmul, n_subl, Int32.reduceLT, Int32.reduceLE, Int32.reduceAdd, Int32.reduceSub, Int32.reduceMul, Int32.reduceToNatClampNeg, not_false_eq_true, not_true_eq_false, or_false, false_or, or_self, and_self, false_and, true_and, and_false, and_true, true_or, or_true, Nat.reduceAdd, Nat.reduceMul, Nat.reduceLT, Nat.reduceLeDiff, ne_eq, n_ell, hs, isPl_no hx]
      exact d26 1 (by decide)
end Cc4
