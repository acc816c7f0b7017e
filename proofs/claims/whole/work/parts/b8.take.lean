set_option linter.unusedSimpArgs false
set_option linter.unusedVariables false
section Stb8
variable {C D : ao_M} {ρ σ : ao_H} {kp rc nw bw br t : Nat}
/-- a sleeper wakes -/
theorem wake_P (hF : Full C ρ D σ kp rc nw bw br) (ht : t < 6) (h3 : C (92 + 71 * t) 2 = nI 3) :
    hv (fun n => gX2_restart n 12 (92 + 71 * t) 0 (ao_u C (92 + 71 * t) 2 2) ρ) (fun y => hv (fun n => gX12_restart n 537 (nI t) 0 (ao_u (ao_u D 551 t 2) 556 t 1) σ) (fun w => ∃ kp', Full y.1 y.2 w.1 w.2 kp' rc nw bw br)) := by
  have hF' := hF
  obtain ⟨-, f5, -, f8, f9, f10, f11, f12, f13, -, f15, f16⟩ := hF
  obtain ⟨s, c1, c2, c3, c4, c5, c6, c7, c8, c9, c10, c11⟩ := f12 t ht
  have es : s = 3 := by
    rw [c2] at h3
    have := (n_eq (show s < 2147483648 by omega) (show 3 < 2147483648 by omega)).mp h3
    exact this
  subst es
  rcases c11 with ⟨c11, -⟩ | ⟨-, len, kd, a1, a2, a3, φ, N, H, K, g1, g2, g3⟩
  · omega
  obtain ⟨b, h1, h2, h3', h4, h5, h6, h7, hI, h9⟩ := g3.2.2 rfl
  have hch := g2.2.2.2.2.2.1 (b + 1) (by omega)
  rw [h3'] at hch
  have hnl : nl ((0, b) :: N b) = 1 := by rw [nl_c0, h6]
  have hC : ∀ x i, ¬ (x = 92 + 71 * t ∧ i = 2) → ao_u C (92 + 71 * t) 2 2 x i = C x i := fun x i q => u_ne (by omega)
  have hD : ∀ x i, ¬ (i = t ∧ (x = 551 ∨ x = 556)) → ao_u (ao_u D 551 t 2) 556 t 1 x i = D x i := fun x i q => by rw [u_ne (by omega), u_ne (by omega)]
  have u2 : ao_u C (92 + 71 * t) 2 2 (92 + 71 * t) 2 = nI 2 := u_eq
  have u51 : ao_u (ao_u D 551 t 2) 556 t 1 551 t = nI 2 := by rw [u_n1 (by omega), u_eq]; rfl
  have u56 : ao_u (ao_u D 551 t 2) 556 t 1 556 t = nI 1 := u_eq
  have hbd := chd_b (fun i hi => (g2.2.2.2.2.2.1 i hi).2.1) _ hch.2.2.2 hch.2.1
  generalize ao_u C (92 + 71 * t) 2 2 = C' at hC u2 ⊢
  generalize ao_u (ao_u D 551 t 2) 556 t 1 = D' at hD u51 u56 ⊢
  obtain ⟨⟨z, ez, z9⟩, ⟨z', ez', z9'⟩⟩ := Rpl_z f5
  obtain ⟨k1, k2, k3, k4⟩ := Cat_loc g1 (C' := C') (fun x i hx => hC x i (by omega))
  have ed : dcd D' t = dcd D t := dcd_eq (fun i => hD _ _ (by omega))
  have e8 : dpC C t = 1 := by
    unfold dpC
    rw [hI.1, n_cl (by omega)]
  have e8' : dpC C' t = 1 := by
    unfold dpC
    rw [hC _ _ (by omega), hI.1, n_cl (by omega)]
  have hs2 : ∀ u, u < 6 → (C' (92 + 71 * u) 2 = 2 ∨ C' (92 + 71 * u) 2 = 3) → (C (92 + 71 * u) 2 = 2 ∨ C (92 + 71 * u) 2 = 3) := fun u hu h => by
    by_cases e : u = t
    · subst e; exact Or.inr c2
    · rw [hC _ _ (by omega)] at h; exact h
  have hB : Bth C' D' ((nw + 1) / 2) := by
    obtain ⟨f, g, bs, b0, b1, bk, b2⟩ := f13
    refine ⟨f, g, bs, by rw [hD _ _ (by omega)]; exact b0, b1, fun o ho hn p hp => ?_, fun u hu h => ?_⟩
    · rw [hC _ _ (by omega)]
      by_cases e : o = t
      · subst e; exact absurd u2 hn
      · rw [hC _ _ (by omega)] at hn
        exact bk o ho hn p hp
    · obtain ⟨d1, d2, d3, d4, d5⟩ := b2 u hu (hs2 u hu h)
      exact ⟨by rw [hC _ _ (by omega)]; exact d1, by rw [hD _ _ (by omega)]; exact d2, d3, d4, fun v hv hne hsv => d5 v hv hne (hs2 v hv hsv)⟩
  have hFP : FullP (fun u => u ≠ t) C' ρ D' σ kp rc nw bw br := by
    refine P_pl (Full_P hF' (fun u => u ≠ t)) ht (HxC_refl ez (by unfold rmC; rw [hC _ _ (by omega)])) (HxD_refl ez') (fun x i q1 q2 q3 q4 q5 => hC x i (by omega)) (fun x i q1 q2 q3 q4 q5 q6 => hD x i ?_) (Rpl_cell (k := 0) f5 (fun x i hx => hC x i (by omega)) (fun x i hx => hD x i (by omega))) (fun q p hp => by rw [hC _ _ (by omega)]; exact f8 q p hp) (by rw [hD _ _ (by omega)]; exact f11) (Nat.le_refl _) (Rsd_fr f9 (fun x i q1 q2 => hC x i (by omega)) (hD _ _ (by omega)) (fun x i q => hD x i (by omega))) (Rrc_fr f10 (fun x i q1 q2 => hC x i (by omega)) (hD _ _ (by omega)) (fun x i q1 q2 => hD x i (by omega))) hB (by omega) (fun q => absurd rfl q) (fun q => ?_) (fun q => ?_) ?_ f15 f16
    · obtain ⟨u1, -⟩ := wd_of q4
      rintro ⟨q7, q8⟩
      exact u1 (by omega) q7
    · rw [cntK_e (C := C) (C' := C') (fun p hp => hC _ _ (by omega))]
      exact Nat.le_refl _
    · rw [e8, e8', wsum_congr (C := C) (C' := C') 1 (fun j hj => hC _ _ (by omega))]
      exact Nat.le_refl _
    · rw [e8, e8', rsum_congr (C := C) (C' := C') 1 (fun j hj => by unfold rl; rw [hC _ _ (by omega)])]
      exact Nat.le_refl _
  have hI' : Ins C' D' rc t (nl ((0, b) :: N b)) := by
    rw [hnl]
    obtain ⟨p2, p3, hl, p4, p5, p6⟩ := hI
    refine ⟨by rw [hC _ _ (by omega)]; exact p2, fun j hj => ?_, hl, fun j hj => ?_, by rw [hC _ _ (by omega)]; exact p5, fun i hi h2 => by rw [hC _ _ (by omega)]; exact p6 i hi h2⟩
    · obtain ⟨⟨l1, l2⟩, l3, l4, ⟨ps, vs, ws, l5, l6⟩⟩ := p3 j hj
      exact ⟨⟨by rw [hC _ _ (by omega), hD _ _ (by omega)]; exact l1, by rw [hD _ _ (by omega)]; exact l2⟩, fun k hk => by rw [hC _ _ (by omega), hD _ _ (by omega)]; exact l3 k hk, ⟨fun p hp => by rw [hC _ _ (by omega)]; exact l4.1 p hp, fun p hp => by rw [hC _ _ (by omega), hD 578 _ (by omega), hC _ _ (by omega), hD 582 _ (by omega)]; exact l4.2 p hp⟩, ps, vs, ws, RdC_mv l5 (hC _ _ (by omega)) (hC _ _ (by omega)) (fun k => ⟨hC _ _ (by omega), hC _ _ (by omega), hC _ _ (by omega)⟩), RdD_mv l6 (Nat.le_refl _) (fun p hp => ⟨hD _ _ (by omega), hD _ _ (by omega), hD _ _ (by omega), hD _ _ (by omega)⟩)⟩
    · obtain ⟨v1, v2, v3, v4⟩ := p4 j hj
      exact ⟨v1, by rw [hD _ _ (by omega)]; exact v2, by rw [hC _ _ (by omega)]; exact v3, fun i hi => by rw [hD _ _ (by omega)]; exact v4 i hi⟩
  have hrs := rst_W (P := fun u => u ≠ t) (k := 0) (l := (0, b) :: N b) hFP ht k1 (by rw [k2, k3, k4, ed]; exact g2) u2 u51 (by rw [hC _ _ (by omega)]; exact c4) (by rw [hC _ _ (by omega), hD _ _ (by omega)]; exact c5) (by rw [hC _ _ (by omega), hD _ _ (by omega)]; exact c6) (by rw [hC _ _ (by omega), hD _ _ (by omega)]; exact c7) (by rw [hnl]; exact u56) (fun x hx => by
    rw [k3, k4]
    obtain ⟨n1, n2, n3⟩ := hbd x hx
    exact Ent_mv (h7 x hx) (fun _ => ⟨hC _ _ (by omega), hC _ _ (by omega), fun y q1 q2 => hD _ _ (by omega)⟩) (fun _ => hD _ _ (by omega)) (fun _ => ⟨hC _ _ (by omega), hC _ _ (by omega), fun y q1 q2 => hD _ _ (by omega)⟩)) (by rw [k2]; exact hch.2.2.2) hch.2.1 hI' rfl (by rw [hnl]; omega)
  refine hv_mono hrs (fun y hy => hv_mono hy ?_)
  rintro w ⟨kp', q1, q2, -, -⟩
  exact ⟨kp', P_Full q1 ht q2⟩
theorem end_same {n : Nat} {x : Int32} (hF : Full C ρ D σ kp rc (2 * n) bw br) (hx : ¬ x < 0) (hbw : bw + 1 ≤ 28000) (hbr : br + 11 ≤ 100000000) : TnP n bw br (x, C, ρ) (x, D, σ) := ⟨2 * n, by omega, kp, rc, rfl, hx, Full_br hF (by omega) (by omega) hbw hbr⟩
set_option maxHeartbeats 1000000 in
/-- a turn, on both sides -/
theorem take_P {n : Nat} {C0 : ao_M} (hC0 : C = ao_u (ao_u C0 12 6 (C0 12 4)) 12 4 (C0 12 4 + 1)) (hF : Full C ρ D σ kp rc (2 * n) bw br) (ht : t < 6) (hbw : bw + 1 ≤ 28000) (hbr : br + 11 ≤ 100000000) :
    hv (fun n => gX2_takeTurn n 12 (92 + 71 * t) C0 ρ) (fun y => hv (fun n => gX12_takeTurn n 537 (nI t) D σ) (fun w => TnP n bw br y w)) := by
  have f1 := hF.1.1
  have f2 := hF.1.2.1
  have f4 := hF.1.2.2.2
  have hR := RnS_of f2 ht
  have hTt := hF.2.2.2.2.2.2.2.1 t ht
  obtain ⟨s, c1, c2, c3, -⟩ := id hTt
  have pre : ∀ {Q : Int32 × ao_S → Prop}, hv (fun n => if C (92 + 71 * t) 2 = 3 then (gX2_stir n 12 (92 + 71 * t) C ρ).bind fun p9 => fX2_takeTurn n 31 12 (92 + 71 * t) 0 p9.1 p9.2.1 p9.2.2 else (gX7_isLeft n (92 + 71 * t) C ρ).bind fun p6 => if p6.1 = 0 then (if p6.2 (92 + 71 * t) 2 = 5 then some ((5 : Int32), p6.2, ρ) else some ((2 : Int32), p6.2, ρ)) else fX2_takeTurn n 55 12 (92 + 71 * t) 0 0 p6.2 ρ) Q → hv (fun n => gX2_takeTurn n 12 (92 + 71 * t) C0 ρ) Q := by
    intro Q hQ
    rw [hC0] at hQ
    simp (disch := omega) only [u_n2] at hQ
    unfold gX2_takeTurn
    refine hv_up (fun _ => fX2_takeTurn.eq_2 ..) ?_
    simp (disch := omega) only [↓reduceIte, f1, hR, ao_let, u_n2]
    exact hQ
  have h50 : ((1 : Int32) = 0) = False := by decide
  rcases (show s = 0 ∨ s = 1 ∨ s = 2 ∨ s = 3 ∨ s = 4 ∨ s = 5 by omega) with rfl | rfl | rfl | rfl | rfl | rfl
  · refine pre ?_
    have g := end_same (x := 2) hF (by decide) hbw hbr
    generalize TnP n bw br = P at g ⊢
    try simp only [↓reduceIte, Nat.reduceEqDiff, Option.bind_some, ao_let, n_ell, c2]
    try simp (disch := first | omega | assumption) only [↓reduceIte, Nat.reduceEqDiff, Option.bind_some, ao_let, t_le, f_le, t_lt, f_lt, f_eq, u_eq, u_n1, u_n2, n_cl, n_lt, n_le, n_eq, n_ltl, n_llt, n_lel, n_lle, n_eql, n_leq, n_add, n_mul, n_sub, n_addl, n_ladd, n_mull, n_lmul, n_subl, Int32.reduceLT, Int32.reduceLE, Int32.reduceAdd, Int32.reduceSub, Int32.reduceMul, Int32.reduceToNatClampNeg, not_false_eq_true, not_true_eq_false, or_false, false_or, or_self, and_self, false_and, true_and, and_false, and_true, true_or, or_true, Nat.reduceAdd, Nat.reduceMul, Nat.reduceLT, Nat.reduceLeDiff, ne_eq, n_ell, c2]
    refine hv_bind (P := fun y => y = (0, C)) (by
      unfold gX7_isLeft
      refine hv_up (fun _ => fX7_isLeft.eq_2 ..) ?_
      try simp only [↓reduceIte, Nat.reduceEqDiff, Option.bind_some, ao_let, n_ell, hR, c2]
      try simp (disch := first | omega | assumption) only [↓reduceIte, Nat.reduceEqDiff, Option.bind_some, ao_let, t_le, f_le, t_lt, f_lt, f_eq, u_eq, u_n1, u_n2, n_cl, n_lt, n_le, n_eq, n_ltl, n_llt, n_lel, n_lle, n_eql, n_leq, n_add, n_mul, n_sub, n_addl, n_ladd, n_mull, n_lmul, n_subl, Int32.reduceLT, Int32.reduceLE, Int32.reduceAdd, Int32.reduceSub, Int32.reduceMul, Int32.reduceToNatClampNeg, not_false_eq_true, not_true_eq_false, or_false, false_or, or_self, and_self, false_and, true_and, and_false, and_true, true_or, or_true, Nat.reduceAdd, Nat.reduceMul, Nat.reduceLT, Nat.reduceLeDiff, ne_eq, n_ell, hR, c2]
      exact hv_some rfl) ?_
    rintro _ rfl
    try simp only [↓reduceIte, Nat.reduceEqDiff, Option.bind_some, ao_let, n_ell, c2]
    try simp (disch := first | omega | assumption) only [↓reduceIte, Nat.reduceEqDiff, Option.bind_some, ao_let, t_le, f_le, t_lt, f_lt, f_eq, u_eq, u_n1, u_n2, n_cl, n_lt, n_le, n_eq, n_ltl, n_llt, n_lel, n_lle, n_eql, n_leq, n_add, n_mul, n_sub, n_addl, n_ladd, n_mull, n_lmul, n_subl, Int32.reduceLT, Int32.reduceLE, Int32.reduceAdd, Int32.reduceSub, Int32.reduceMul, Int32.reduceToNatClampNeg, not_false_eq_true, not_true_eq_false, or_false, false_or, or_self, and_self, false_and, true_and, and_false, and_true, true_or, or_true, Nat.reduceAdd, Nat.reduceMul, Nat.reduceLT, Nat.reduceLeDiff, ne_eq, n_ell, c2]
    refine hv_some ?_
    unfold gX12_takeTurn
    refine hv_up (fun _ => fX12_takeTurn.eq_2 ..) ?_
    try simp only [↓reduceIte, Nat.reduceEqDiff, Option.bind_some, ao_let, n_ell, f4, c3]
    try simp (disch := first | omega | assumption) only [↓reduceIte, Nat.reduceEqDiff, Option.bind_some, ao_let, t_le, f_le, t_lt, f_lt, f_eq, u_eq, u_n1, u_n2, n_cl, n_lt, n_le, n_eq, n_ltl, n_llt, n_lel, n_lle, n_eql, n_leq, n_add, n_mul, n_sub, n_addl, n_ladd, n_mull, n_lmul, n_subl, Int32.reduceLT, Int32.reduceLE, Int32.reduceAdd, Int32.reduceSub, Int32.reduceMul, Int32.reduceToNatClampNeg, not_false_eq_true, not_true_eq_false, or_false, false_or, or_self, and_self, false_and, true_and, and_false, and_true, true_or, or_true, Nat.reduceAdd, Nat.reduceMul, Nat.reduceLT, Nat.reduceLeDiff, ne_eq, n_ell, f4, c3]
    exact hv_some g
  · obtain ⟨len, kd, a1, a2, a3, φ, N, H, K, a, hop⟩ := Thr_open hTt c2 (Or.inl rfl)
    have hlen : len ≤ 1000 := by
      rcases hop with hop | ⟨q, -, -, -, -, -, hop⟩
      · exact hop.2.1.1
      · exact (hop (ao_u D 552 t (nI (φ a))) (fun x i h => u_ne (by omega)) u_eq).2.1.1
    have hfur := @fur_le len K a
    refine pre ?_
    have dpre : ∀ {P : Int32 × ao_S → Prop}, hv (fun n => fX12_takeTurn n 88 537 (nI t) (-1) 0 D σ) P → hv (fun n => gX12_takeTurn n 537 (nI t) D σ) P := by
      intro P hP
      unfold gX12_takeTurn
      refine hv_up (fun _ => fX12_takeTurn.eq_2 ..) ?_
      try simp only [↓reduceIte, Nat.reduceEqDiff, Option.bind_some, ao_let, n_ell, f4, c3]
      try simp (disch := first | omega | assumption) only [↓reduceIte, Nat.reduceEqDiff, Option.bind_some, ao_let, t_le, f_le, t_lt, f_lt, f_eq, u_eq, u_n1, u_n2, n_cl, n_lt, n_le, n_eq, n_ltl, n_llt, n_lel, n_lle, n_eql, n_leq, n_add, n_mul, n_sub, n_addl, n_ladd, n_mull, n_lmul, n_subl, Int32.reduceLT, Int32.reduceLE, Int32.reduceAdd, Int32.reduceSub, Int32.reduceMul, Int32.reduceToNatClampNeg, not_false_eq_true, not_true_eq_false, or_false, false_or, or_self, and_self, false_and, true_and, and_false, and_true, true_or, or_true, Nat.reduceAdd, Nat.reduceMul, Nat.reduceLT, Nat.reduceLeDiff, ne_eq, n_ell, f4, c3]
      exact hP
    have hloop : hv (fun n => fX2_takeTurn n 55 12 (92 + 71 * t) 0 0 C ρ) (fun y => hv (fun n => fX12_takeTurn n 88 537 (nI t) (-1) 0 D σ) (fun w => TnP n bw br y w)) := by
      rcases hop with hop | ⟨q, q1, q2, q3, q4, q5, hop⟩
      · exact turn_loop ht hbw hbr (fur K len a) 0 a 1 kp rc C D ρ σ (Nat.le_refl _) (by omega) hF hop
      · have ho := hop (ao_u D 552 t (nI (φ a))) (fun x i h => u_ne (by omega)) u_eq
        have hF2 : Full C ρ (ao_u D 552 t (nI (φ a))) σ kp rc (2 * n) bw br := by
          refine Full_loc hF ht (fun _ _ _ => rfl) (fun x i h => u_ne ?_) (Tc_Thr ho.1 ho.2.1 ho.2.2) rfl rfl (u_n1 (by omega)) (Nat.le_refl _) (Nat.le_refl _)
          by_cases e : x = 552
          · exact Or.inr ((wd_of h).1 (by omega))
          · exact Or.inl e
        refine hv_mono (turn_loop ht hbw hbr (fur K len a) 0 a 1 kp rc C (ao_u D 552 t (nI (φ a))) ρ σ (Nat.le_refl _) (by omega) hF2 ho) (fun y hy => ?_)
        exact d_88 f4.1 (d_go f4 ht q1 q2 q3 q4 (Or.inl ⟨rfl, hy⟩))
    have hl2 := hv_mono hloop (fun y hy => dpre hy)
    clear hloop dpre
    generalize (fun y => hv (fun n => gX12_takeTurn n 537 (nI t) D σ) (fun w => TnP n bw br y w)) = P at hl2 ⊢
    try simp only [↓reduceIte, Nat.reduceEqDiff, Option.bind_some, ao_let, n_ell, c2]
    try simp (disch := first | omega | assumption) only [↓reduceIte, Nat.reduceEqDiff, Option.bind_some, ao_let, t_le, f_le, t_lt, f_lt, f_eq, u_eq, u_n1, u_n2, n_cl, n_lt, n_le, n_eq, n_ltl, n_llt, n_lel, n_lle, n_eql, n_leq, n_add, n_mul, n_sub, n_addl, n_ladd, n_mull, n_lmul, n_subl, Int32.reduceLT, Int32.reduceLE, Int32.reduceAdd, Int32.reduceSub, Int32.reduceMul, Int32.reduceToNatClampNeg, not_false_eq_true, not_true_eq_false, or_false, false_or, or_self, and_self, false_and, true_and, and_false, and_true, true_or, or_true, Nat.reduceAdd, Nat.reduceMul, Nat.reduceLT, Nat.reduceLeDiff, ne_eq, n_ell, c2]
    refine hv_bind (P := fun y => y = (1, C)) (by
      unfold gX7_isLeft
      refine hv_up (fun _ => fX7_isLeft.eq_2 ..) ?_
      try simp only [↓reduceIte, Nat.reduceEqDiff, Option.bind_some, ao_let, n_ell, hR, c2]
      try simp (disch := first | omega | assumption) only [↓reduceIte, Nat.reduceEqDiff, Option.bind_some, ao_let, t_le, f_le, t_lt, f_lt, f_eq, u_eq, u_n1, u_n2, n_cl, n_lt, n_le, n_eq, n_ltl, n_llt, n_lel, n_lle, n_eql, n_leq, n_add, n_mul, n_sub, n_addl, n_ladd, n_mull, n_lmul, n_subl, Int32.reduceLT, Int32.reduceLE, Int32.reduceAdd, Int32.reduceSub, Int32.reduceMul, Int32.reduceToNatClampNeg, not_false_eq_true, not_true_eq_false, or_false, false_or, or_self, and_self, false_and, true_and, and_false, and_true, true_or, or_true, Nat.reduceAdd, Nat.reduceMul, Nat.reduceLT, Nat.reduceLeDiff, ne_eq, n_ell, hR, c2]
      refine hv_up (fun _ => fX7_isLeft.eq_2 ..) ?_
      try simp only [↓reduceIte, Nat.reduceEqDiff, Option.bind_some, ao_let, n_ell]
      try simp (disch := first | omega | assumption) only [↓reduceIte, Nat.reduceEqDiff, Option.bind_some, ao_let, t_le, f_le, t_lt, f_lt, f_eq, u_eq, u_n1, u_n2, n_cl, n_lt, n_le, n_eq, n_ltl, n_llt, n_lel, n_lle, n_eql, n_leq, n_add, n_mul, n_sub, n_addl, n_ladd, n_mull, n_lmul, n_subl, Int32.reduceLT, Int32.reduceLE, Int32.reduceAdd, Int32.reduceSub, Int32.reduceMul, Int32.reduceToNatClampNeg, not_false_eq_true, not_true_eq_false, or_false, false_or, or_self, and_self, false_and, true_and, and_false, and_true, true_or, or_true, Nat.reduceAdd, Nat.reduceMul, Nat.reduceLT, Nat.reduceLeDiff, ne_eq, n_ell]
      exact hv_some rfl) ?_
    rintro _ rfl
    simp only [h50, ↓reduceIte]
    exact hl2
  · obtain ⟨len, kd, a1, a2, a3, φ, N, H, K, a, hop⟩ := Thr_open hTt c2 (Or.inr rfl)
    have hlen : len ≤ 1000 := by
      rcases hop with hop | ⟨q, -, -, -, -, -, hop⟩
      · exact hop.2.1.1
      · exact (hop (ao_u D 552 t (nI (φ a))) (fun x i h => u_ne (by omega)) u_eq).2.1.1
    have hfur := @fur_le len K a
    refine pre ?_
    have dpre : ∀ {P : Int32 × ao_S → Prop}, hv (fun n => fX12_takeTurn n 88 537 (nI t) (-1) 0 D σ) P → hv (fun n => gX12_takeTurn n 537 (nI t) D σ) P := by
      intro P hP
      unfold gX12_takeTurn
      refine hv_up (fun _ => fX12_takeTurn.eq_2 ..) ?_
      try simp only [↓reduceIte, Nat.reduceEqDiff, Option.bind_some, ao_let, n_ell, f4, c3]
      try simp (disch := first | omega | assumption) only [↓reduceIte, Nat.reduceEqDiff, Option.bind_some, ao_let, t_le, f_le, t_lt, f_lt, f_eq, u_eq, u_n1, u_n2, n_cl, n_lt, n_le, n_eq, n_ltl, n_llt, n_lel, n_lle, n_eql, n_leq, n_add, n_mul, n_sub, n_addl, n_ladd, n_mull, n_lmul, n_subl, Int32.reduceLT, Int32.reduceLE, Int32.reduceAdd, Int32.reduceSub, Int32.reduceMul, Int32.reduceToNatClampNeg, not_false_eq_true, not_true_eq_false, or_false, false_or, or_self, and_self, false_and, true_and, and_false, and_true, true_or, or_true, Nat.reduceAdd, Nat.reduceMul, Nat.reduceLT, Nat.reduceLeDiff, ne_eq, n_ell, f4, c3]
      exact hP
    have hloop : hv (fun n => fX2_takeTurn n 55 12 (92 + 71 * t) 0 0 C ρ) (fun y => hv (fun n => fX12_takeTurn n 88 537 (nI t) (-1) 0 D σ) (fun w => TnP n bw br y w)) := by
      rcases hop with hop | ⟨q, q1, q2, q3, q4, q5, hop⟩
      · exact turn_loop ht hbw hbr (fur K len a) 0 a 2 kp rc C D ρ σ (Nat.le_refl _) (by omega) hF hop
      · have ho := hop (ao_u D 552 t (nI (φ a))) (fun x i h => u_ne (by omega)) u_eq
        have hF2 : Full C ρ (ao_u D 552 t (nI (φ a))) σ kp rc (2 * n) bw br := by
          refine Full_loc hF ht (fun _ _ _ => rfl) (fun x i h => u_ne ?_) (Tc_Thr ho.1 ho.2.1 ho.2.2) rfl rfl (u_n1 (by omega)) (Nat.le_refl _) (Nat.le_refl _)
          by_cases e : x = 552
          · exact Or.inr ((wd_of h).1 (by omega))
          · exact Or.inl e
        refine hv_mono (turn_loop ht hbw hbr (fur K len a) 0 a 2 kp rc C (ao_u D 552 t (nI (φ a))) ρ σ (Nat.le_refl _) (by omega) hF2 ho) (fun y hy => ?_)
        exact d_88 f4.1 (d_go f4 ht q1 q2 q3 q4 (Or.inl ⟨rfl, hy⟩))
    have hl2 := hv_mono hloop (fun y hy => dpre hy)
    clear hloop dpre
    generalize (fun y => hv (fun n => gX12_takeTurn n 537 (nI t) D σ) (fun w => TnP n bw br y w)) = P at hl2 ⊢
    try simp only [↓reduceIte, Nat.reduceEqDiff, Option.bind_some, ao_let, n_ell, c2]
    try simp (disch := first | omega | assumption) only [↓reduceIte, Nat.reduceEqDiff, Option.bind_some, ao_let, t_le, f_le, t_lt, f_lt, f_eq, u_eq, u_n1, u_n2, n_cl, n_lt, n_le, n_eq, n_ltl, n_llt, n_lel, n_lle, n_eql, n_leq, n_add, n_mul, n_sub, n_addl, n_ladd, n_mull, n_lmul, n_subl, Int32.reduceLT, Int32.reduceLE, Int32.reduceAdd, Int32.reduceSub, Int32.reduceMul, Int32.reduceToNatClampNeg, not_false_eq_true, not_true_eq_false, or_false, false_or, or_self, and_self, false_and, true_and, and_false, and_true, true_or, or_true, Nat.reduceAdd, Nat.reduceMul, Nat.reduceLT, Nat.reduceLeDiff, ne_eq, n_ell, c2]
    refine hv_bind (P := fun y => y = (1, C)) (by
      unfold gX7_isLeft
      refine hv_up (fun _ => fX7_isLeft.eq_2 ..) ?_
      try simp only [↓reduceIte, Nat.reduceEqDiff, Option.bind_some, ao_let, n_ell, hR, c2]
      try simp (disch := first | omega | assumption) only [↓reduceIte, Nat.reduceEqDiff, Option.bind_some, ao_let, t_le, f_le, t_lt, f_lt, f_eq, u_eq, u_n1, u_n2, n_cl, n_lt, n_le, n_eq, n_ltl, n_llt, n_lel, n_lle, n_eql, n_leq, n_add, n_mul, n_sub, n_addl, n_ladd, n_mull, n_lmul, n_subl, Int32.reduceLT, Int32.reduceLE, Int32.reduceAdd, Int32.reduceSub, Int32.reduceMul, Int32.reduceToNatClampNeg, not_false_eq_true, not_true_eq_false, or_false, false_or, or_self, and_self, false_and, true_and, and_false, and_true, true_or, or_true, Nat.reduceAdd, Nat.reduceMul, Nat.reduceLT, Nat.reduceLeDiff, ne_eq, n_ell, hR, c2]
      refine hv_up (fun _ => fX7_isLeft.eq_2 ..) ?_
      try simp only [↓reduceIte, Nat.reduceEqDiff, Option.bind_some, ao_let, n_ell]
      try simp (disch := first | omega | assumption) only [↓reduceIte, Nat.reduceEqDiff, Option.bind_some, ao_let, t_le, f_le, t_lt, f_lt, f_eq, u_eq, u_n1, u_n2, n_cl, n_lt, n_le, n_eq, n_ltl, n_llt, n_lel, n_lle, n_eql, n_leq, n_add, n_mul, n_sub, n_addl, n_ladd, n_mull, n_lmul, n_subl, Int32.reduceLT, Int32.reduceLE, Int32.reduceAdd, Int32.reduceSub, Int32.reduceMul, Int32.reduceToNatClampNeg, not_false_eq_true, not_true_eq_false, or_false, false_or, or_self, and_self, false_and, true_and, and_false, and_true, true_or, or_true, Nat.reduceAdd, Nat.reduceMul, Nat.reduceLT, Nat.reduceLeDiff, ne_eq, n_ell]
      exact hv_some rfl) ?_
    rintro _ rfl
    simp only [h50, ↓reduceIte]
    exact hl2
  · -- asleep
    have htc := hTt
    obtain ⟨s', d1, d2, d3, d4, d5, d6, d7, d8, d9, d10, d11⟩ := htc
    have es : s' = 3 := by
      rw [d2] at c2
      have := (n_eq (show s' < 2147483648 by omega) (show 3 < 2147483648 by omega)).mp c2
      exact this
    subst es
    rcases d11 with ⟨d11, -⟩ | ⟨-, len, kd, a1, a2, a3, φ, N, H, K, g1, g2, g3⟩
    · omega
    obtain ⟨b, h1, h2, h3', h4, h5, h6, h7, hI, h9⟩ := g3.2.2 rfl
    obtain ⟨-, -, -, ⟨ps, vs, ws, rC, o, r1, r2, -⟩⟩ := hI.2.1 0 (by omega)
    rw [Nat.mul_zero, Nat.add_zero] at rC
    simp only [Nat.add_zero] at r1 r2
    obtain ⟨-, fR, ⟨fw, -, -⟩, flz, -, -, -, fT, fB, -⟩ := id hF
    have htk : ∀ p, p < 26 → C 16 p ≠ nI t := by
      obtain ⟨-, -, -, -, -, bk, -⟩ := fB
      exact bk t ht (by rw [c2]; decide)
    obtain ⟨-, -, -, -, -, -, ev, -⟩ := fR
    have hnw : (∃ p ∈ ps, C 14 p ≠ vs p ∧ C 16 p = -1) ↔ NwP D t := by
      constructor
      · rintro ⟨p, hp, e1, e2⟩
        obtain ⟨y1, y2, -⟩ := r2 p hp
        obtain ⟨v1, v2, v3, -⟩ := ev p y1
        exact ⟨p, y1, by rw [r1 p y1, if_pos hp], by rw [← v1, y2]; exact e1, by rw [← v3]; exact e2⟩
      · rintro ⟨p, hp, e1, e2, e3⟩
        have hm : p ∈ ps := by
          refine Classical.byContradiction fun q => ?_
          rw [r1 p hp, if_neg q] at e1
          exact absurd e1 (by decide)
        obtain ⟨y1, y2, -⟩ := r2 p hm
        obtain ⟨v1, v2, v3, -⟩ := ev p hp
        exact ⟨p, hm, by rw [v1, ← y2]; exact e2, by rw [v3]; exact e3⟩
    have hwk : ∀ {Q : Int32 × ao_M → Prop}, (NwP D t → Q (1, D)) → (¬ NwP D t → Q (0, D)) → hv (fun n => gX12_wakes n 537 (nI t) D σ) Q := fun q1 q0 => d_wakes f4 ht (fun p hp => by
      rw [r1 p hp]
      by_cases e : p ∈ ps
      · rw [if_pos e]; exact Or.inr rfl
      · rw [if_neg e]; exact Or.inl rfl) (fun p hp => by
      obtain ⟨v1, v2, v3, v4, v5, v6, v7⟩ := ev p hp
      rw [← v3]; exact v6) (fun q p hp => by rw [← (ev p hp).2.2.1]; exact flz q p hp) q1 q0
    refine pre ?_
    have h33 : (C (92 + 71 * t) 2 = 3) = True := eq_true c2
    simp only [h33, ↓reduceIte]
    refine hv_bind (P := fun y => hv (fun n => gX12_takeTurn n 537 (nI t) D σ) (fun w => TnP n bw br y w)) ?_ ?_
    rotate_left 1
    · intro y hy
      refine hv_up (fun _ => fX2_takeTurn.eq_2 ..) ?_
      try simp only [↓reduceIte, Nat.reduceEqDiff, Option.bind_some, ao_let, n_ell]
      try simp (disch := first | omega | assumption) only [↓reduceIte, Nat.reduceEqDiff, Option.bind_some, ao_let, t_le, f_le, t_lt, f_lt, f_eq, u_eq, u_n1, u_n2, n_cl, n_lt, n_le, n_eq, n_ltl, n_llt, n_lel, n_lle, n_eql, n_leq, n_add, n_mul, n_sub, n_addl, n_ladd, n_mull, n_lmul, n_subl, Int32.reduceLT, Int32.reduceLE, Int32.reduceAdd, Int32.reduceSub, Int32.reduceMul, Int32.reduceToNatClampNeg, not_false_eq_true, not_true_eq_false, or_false, false_or, or_self, and_self, false_and, true_and, and_false, and_true, true_or, or_true, Nat.reduceAdd, Nat.reduceMul, Nat.reduceLT, Nat.reduceLeDiff, ne_eq, n_ell]
      exact hv_some hy
    have dpre : ∀ {P : Int32 × ao_S → Prop}, hv (fun n => (gX12_wakes n 537 (nI t) D σ).bind fun p9 => if p9.1 = 0 then some ((3 : Int32), p9.2, σ) else (gX12_isBusy n 537 (nI t) p9.2 σ).bind fun p11 => if p11.1 = 0 then (gX12_restart n 537 (nI t) (0 : Int32) (ao_u (ao_u p11.2 551 t 2) 556 t 1) σ).bind fun p18 => fX12_takeTurn n 83 537 (nI t) 0 0 p18.1 p18.2 else some ((4 : Int32), p11.2, σ)) P → hv (fun n => gX12_takeTurn n 537 (nI t) D σ) P := by
      intro P hP
      unfold gX12_takeTurn
      refine hv_up (fun _ => fX12_takeTurn.eq_2 ..) ?_
      try simp only [↓reduceIte, Nat.reduceEqDiff, Option.bind_some, ao_let, n_ell, f4, c3]
      try simp (disch := first | omega | assumption) only [↓reduceIte, Nat.reduceEqDiff, Option.bind_some, ao_let, t_le, f_le, t_lt, f_lt, f_eq, u_eq, u_n1, u_n2, n_cl, n_lt, n_le, n_eq, n_ltl, n_llt, n_lel, n_lle, n_eql, n_leq, n_add, n_mul, n_sub, n_addl, n_ladd, n_mull, n_lmul, n_subl, Int32.reduceLT, Int32.reduceLE, Int32.reduceAdd, Int32.reduceSub, Int32.reduceMul, Int32.reduceToNatClampNeg, not_false_eq_true, not_true_eq_false, or_false, false_or, or_self, and_self, false_and, true_and, and_false, and_true, true_or, or_true, Nat.reduceAdd, Nat.reduceMul, Nat.reduceLT, Nat.reduceLeDiff, ne_eq, n_ell, f4, c3]
      exact hP
    unfold gX2_stir
    refine hv_up (fun _ => fX2_stir.eq_2 ..) ?_
    simp only [↓reduceIte, f1]
    by_cases hnews : NwP D t
    · refine hv_bind (P := fun y => y = (1, C)) (c_news f1 f2 ht d4 rC htk (fun _ => rfl) (fun q => absurd (hnw.mpr hnews) q)) ?_
      rintro _ rfl
      simp only [h50, ↓reduceIte]
      have hbD := @bsy_D C D ρ rc t fT
      have hst : C (92 + 71 * t) 2 ≠ 2 := by rw [c2]; decide
      by_cases hby : C 12 5 = 4 ∧ bsy C t
      · have g := end_same (x := 4) hF (by decide) hbw hbr
        refine hv_bind (P := fun y => y = (1, C)) (c_busy f1 f2 ht hst (fun _ _ => rfl) (fun q => absurd hby q)) ?_
        rintro _ rfl
        simp only [h50, ↓reduceIte]
        refine hv_some (dpre ?_)
        refine hv_bind (P := fun y => y = (1, D)) (hwk (fun _ => rfl) (fun q => absurd hnews q)) ?_
        rintro _ rfl
        simp only [h50, ↓reduceIte]
        refine hv_bind (P := fun y => y = (1, D)) (d_busy f4 ht (fun _ _ => rfl) (fun q => absurd ⟨by rw [← fw]; exact hby.1, hbD.mp hby.2⟩ q)) ?_
        rintro _ rfl
        simp only [h50, ↓reduceIte]
        exact hv_some g
      · refine hv_bind (P := fun y => y = (0, C)) (c_busy f1 f2 ht hst (fun q1 q2 => absurd ⟨q1, q2⟩ hby) (fun _ => rfl)) ?_
        rintro _ rfl
        simp only [↓reduceIte, hR, ao_let]
        refine hv_bind (wake_P hF ht c2) ?_
        rintro ⟨y1, y2⟩ hy
        refine hv_up (fun _ => fX2_stir.eq_2 ..) ?_
        try simp only [↓reduceIte, Nat.reduceEqDiff, Option.bind_some, ao_let, n_ell]
        try simp (disch := first | omega | assumption) only [↓reduceIte, Nat.reduceEqDiff, Option.bind_some, ao_let, t_le, f_le, t_lt, f_lt, f_eq, u_eq, u_n1, u_n2, n_cl, n_lt, n_le, n_eq, n_ltl, n_llt, n_lel, n_lle, n_eql, n_leq, n_add, n_mul, n_sub, n_addl, n_ladd, n_mull, n_lmul, n_subl, Int32.reduceLT, Int32.reduceLE, Int32.reduceAdd, Int32.reduceSub, Int32.reduceMul, Int32.reduceToNatClampNeg, not_false_eq_true, not_true_eq_false, or_false, false_or, or_self, and_self, false_and, true_and, and_false, and_true, true_or, or_true, Nat.reduceAdd, Nat.reduceMul, Nat.reduceLT, Nat.reduceLeDiff, ne_eq, n_ell]
        refine hv_some (dpre ?_)
        refine hv_bind (P := fun y => y = (1, D)) (hwk (fun _ => rfl) (fun q => absurd hnews q)) ?_
        rintro _ rfl
        simp only [h50, ↓reduceIte]
        refine hv_bind (P := fun y => y = (0, D)) (d_busy f4 ht (fun q1 q2 => absurd ⟨by rw [fw]; exact q1, hbD.mpr q2⟩ hby) (fun _ => rfl)) ?_
        rintro _ rfl
        simp only [↓reduceIte]
        refine hv_bind hy ?_
        rintro ⟨w1, w2⟩ ⟨kp', hfu⟩
        refine hv_up (fun _ => fX12_takeTurn.eq_2 ..) ?_
        simp only [↓reduceIte, Nat.reduceEqDiff]
        exact hv_some ⟨2 * n, by omega, kp', rc, rfl, (show ¬ (6 : Int32) < 0 by decide), Full_br hfu (by omega) (by omega) hbw hbr⟩
    · have g := end_same (x := 3) hF (by decide) hbw hbr
      refine hv_bind (P := fun y => y = (0, C)) (c_news f1 f2 ht d4 rC htk (fun q => absurd (hnw.mp q) hnews) (fun _ => rfl)) ?_
      rintro _ rfl
      simp only [↓reduceIte]
      refine hv_some (dpre ?_)
      refine hv_bind (P := fun y => y = (0, D)) (hwk (fun q => absurd q hnews) (fun _ => rfl)) ?_
      rintro _ rfl
      simp only [↓reduceIte]
      exact hv_some g
  · refine pre ?_
    have g := end_same (x := 2) hF (by decide) hbw hbr
    generalize TnP n bw br = P at g ⊢
    try simp only [↓reduceIte, Nat.reduceEqDiff, Option.bind_some, ao_let, n_ell, c2]
    try simp (disch := first | omega | assumption) only [↓reduceIte, Nat.reduceEqDiff, Option.bind_some, ao_let, t_le, f_le, t_lt, f_lt, f_eq, u_eq, u_n1, u_n2, n_cl, n_lt, n_le, n_eq, n_ltl, n_llt, n_lel, n_lle, n_eql, n_leq, n_add, n_mul, n_sub, n_addl, n_ladd, n_mull, n_lmul, n_subl, Int32.reduceLT, Int32.reduceLE, Int32.reduceAdd, Int32.reduceSub, Int32.reduceMul, Int32.reduceToNatClampNeg, not_false_eq_true, not_true_eq_false, or_false, false_or, or_self, and_self, false_and, true_and, and_false, and_true, true_or, or_true, Nat.reduceAdd, Nat.reduceMul, Nat.reduceLT, Nat.reduceLeDiff, ne_eq, n_ell, c2]
    refine hv_bind (P := fun y => y = (0, C)) (by
      unfold gX7_isLeft
      refine hv_up (fun _ => fX7_isLeft.eq_2 ..) ?_
      try simp only [↓reduceIte, Nat.reduceEqDiff, Option.bind_some, ao_let, n_ell, hR, c2]
      try simp (disch := first | omega | assumption) only [↓reduceIte, Nat.reduceEqDiff, Option.bind_some, ao_let, t_le, f_le, t_lt, f_lt, f_eq, u_eq, u_n1, u_n2, n_cl, n_lt, n_le, n_eq, n_ltl, n_llt, n_lel, n_lle, n_eql, n_leq, n_add, n_mul, n_sub, n_addl, n_ladd, n_mull, n_lmul, n_subl, Int32.reduceLT, Int32.reduceLE, Int32.reduceAdd, Int32.reduceSub, Int32.reduceMul, Int32.reduceToNatClampNeg, not_false_eq_true, not_true_eq_false, or_false, false_or, or_self, and_self, false_and, true_and, and_false, and_true, true_or, or_true, Nat.reduceAdd, Nat.reduceMul, Nat.reduceLT, Nat.reduceLeDiff, ne_eq, n_ell, hR, c2]
      exact hv_some rfl) ?_
    rintro _ rfl
    try simp only [↓reduceIte, Nat.reduceEqDiff, Option.bind_some, ao_let, n_ell, c2]
    try simp (disch := first | omega | assumption) only [↓reduceIte, Nat.reduceEqDiff, Option.bind_some, ao_let, t_le, f_le, t_lt, f_lt, f_eq, u_eq, u_n1, u_n2, n_cl, n_lt, n_le, n_eq, n_ltl, n_llt, n_lel, n_lle, n_eql, n_leq, n_add, n_mul, n_sub, n_addl, n_ladd, n_mull, n_lmul, n_subl, Int32.reduceLT, Int32.reduceLE, Int32.reduceAdd, Int32.reduceSub, Int32.reduceMul, Int32.reduceToNatClampNeg, not_false_eq_true, not_true_eq_false, or_false, false_or, or_self, and_self, false_and, true_and, and_false, and_true, true_or, or_true, Nat.reduceAdd, Nat.reduceMul, Nat.reduceLT, Nat.reduceLeDiff, ne_eq, n_ell, c2]
    refine hv_some ?_
    unfold gX12_takeTurn
    refine hv_up (fun _ => fX12_takeTurn.eq_2 ..) ?_
    try simp only [↓reduceIte, Nat.reduceEqDiff, Option.bind_some, ao_let, n_ell, f4, c3]
    try simp (disch := first | omega | assumption) only [↓reduceIte, Nat.reduceEqDiff, Option.bind_some, ao_let, t_le, f_le, t_lt, f_lt, f_eq, u_eq, u_n1, u_n2, n_cl, n_lt, n_le, n_eq, n_ltl, n_llt, n_lel, n_lle, n_eql, n_leq, n_add, n_mul, n_sub, n_addl, n_ladd, n_mull, n_lmul, n_subl, Int32.reduceLT, Int32.reduceLE, Int32.reduceAdd, Int32.reduceSub, Int32.reduceMul, Int32.reduceToNatClampNeg, not_false_eq_true, not_true_eq_false, or_false, false_or, or_self, and_self, false_and, true_and, and_false, and_true, true_or, or_true, Nat.reduceAdd, Nat.reduceMul, Nat.reduceLT, Nat.reduceLeDiff, ne_eq, n_ell, f4, c3]
    exact hv_some g
  · refine pre ?_
    have g := end_same (x := 5) hF (by decide) hbw hbr
    generalize TnP n bw br = P at g ⊢
    try simp only [↓reduceIte, Nat.reduceEqDiff, Option.bind_some, ao_let, n_ell, c2]
    try simp (disch := first | omega | assumption) only [↓reduceIte, Nat.reduceEqDiff, Option.bind_some, ao_let, t_le, f_le, t_lt, f_lt, f_eq, u_eq, u_n1, u_n2, n_cl, n_lt, n_le, n_eq, n_ltl, n_llt, n_lel, n_lle, n_eql, n_leq, n_add, n_mul, n_sub, n_addl, n_ladd, n_mull, n_lmul, n_subl, Int32.reduceLT, Int32.reduceLE, Int32.reduceAdd, Int32.reduceSub, Int32.reduceMul, Int32.reduceToNatClampNeg, not_false_eq_true, not_true_eq_false, or_false, false_or, or_self, and_self, false_and, true_and, and_false, and_true, true_or, or_true, Nat.reduceAdd, Nat.reduceMul, Nat.reduceLT, Nat.reduceLeDiff, ne_eq, n_ell, c2]
    refine hv_bind (P := fun y => y = (0, C)) (by
      unfold gX7_isLeft
      refine hv_up (fun _ => fX7_isLeft.eq_2 ..) ?_
      try simp only [↓reduceIte, Nat.reduceEqDiff, Option.bind_some, ao_let, n_ell, hR, c2]
      try simp (disch := first | omega | assumption) only [↓reduceIte, Nat.reduceEqDiff, Option.bind_some, ao_let, t_le, f_le, t_lt, f_lt, f_eq, u_eq, u_n1, u_n2, n_cl, n_lt, n_le, n_eq, n_ltl, n_llt, n_lel, n_lle, n_eql, n_leq, n_add, n_mul, n_sub, n_addl, n_ladd, n_mull, n_lmul, n_subl, Int32.reduceLT, Int32.reduceLE, Int32.reduceAdd, Int32.reduceSub, Int32.reduceMul, Int32.reduceToNatClampNeg, not_false_eq_true, not_true_eq_false, or_false, false_or, or_self, and_self, false_and, true_and, and_false, and_true, true_or, or_true, Nat.reduceAdd, Nat.reduceMul, Nat.reduceLT, Nat.reduceLeDiff, ne_eq, n_ell, hR, c2]
      exact hv_some rfl) ?_
    rintro _ rfl
    try simp only [↓reduceIte, Nat.reduceEqDiff, Option.bind_some, ao_let, n_ell, c2]
    try simp (disch := first | omega | assumption) only [↓reduceIte, Nat.reduceEqDiff, Option.bind_some, ao_let, t_le, f_le, t_lt, f_lt, f_eq, u_eq, u_n1, u_n2, n_cl, n_lt, n_le, n_eq, n_ltl, n_llt, n_lel, n_lle, n_eql, n_leq, n_add, n_mul, n_sub, n_addl, n_ladd, n_mull, n_lmul, n_subl, Int32.reduceLT, Int32.reduceLE, Int32.reduceAdd, Int32.reduceSub, Int32.reduceMul, Int32.reduceToNatClampNeg, not_false_eq_true, not_true_eq_false, or_false, false_or, or_self, and_self, false_and, true_and, and_false, and_true, true_or, or_true, Nat.reduceAdd, Nat.reduceMul, Nat.reduceLT, Nat.reduceLeDiff, ne_eq, n_ell, c2]
    refine hv_some ?_
    unfold gX12_takeTurn
    refine hv_up (fun _ => fX12_takeTurn.eq_2 ..) ?_
    try simp only [↓reduceIte, Nat.reduceEqDiff, Option.bind_some, ao_let, n_ell, f4, c3]
    try simp (disch := first | omega | assumption) only [↓reduceIte, Nat.reduceEqDiff, Option.bind_some, ao_let, t_le, f_le, t_lt, f_lt, f_eq, u_eq, u_n1, u_n2, n_cl, n_lt, n_le, n_eq, n_ltl, n_llt, n_lel, n_lle, n_eql, n_leq, n_add, n_mul, n_sub, n_addl, n_ladd, n_mull, n_lmul, n_subl, Int32.reduceLT, Int32.reduceLE, Int32.reduceAdd, Int32.reduceSub, Int32.reduceMul, Int32.reduceToNatClampNeg, not_false_eq_true, not_true_eq_false, or_false, false_or, or_self, and_self, false_and, true_and, and_false, and_true, true_or, or_true, Nat.reduceAdd, Nat.reduceMul, Nat.reduceLT, Nat.reduceLeDiff, ne_eq, n_ell, f4, c3]
    exact hv_some g
end Stb8
