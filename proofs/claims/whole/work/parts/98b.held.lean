set_option linter.unusedSimpArgs false
set_option linter.unusedVariables false
/-- the same, with reads counted on -/
theorem Full_lr {C D C' D' : ao_M} {ρ σ : ao_H} {kp rc rc' nw bw br t : Nat} (h : Full C ρ D σ kp rc nw bw br) (ht : t < 6) (hC : ∀ a i, ¬ (92 + 71 * t ≤ a ∧ a < 92 + 71 * t + 71) → C' a i = C a i) (hD : ∀ a i, ¬ (a = 537 ∧ i = 64) → ¬ (551 ≤ a ∧ a ≤ 584 ∧ t * wd a ≤ i ∧ i < (t + 1) * wd a) → D' a i = D a i)
    (h64 : D' 537 64 = nI rc') (hrr : rc ≤ rc') (hT : Thr C' ρ D' rc' t) (h2 : C' (92 + 71 * t) 2 = C (92 + 71 * t) 2) (h15 : C' (92 + 71 * t) 15 = C (92 + 71 * t) 15) (h63 : D' 563 t = D 563 t) (hw : wsum C' t (dpC C' t) ≤ wsum C t (dpC C t)) (hr : rc' + rsum C' t (dpC C' t) ≤ rc + rsum C t (dpC C t)) : Full C' ρ D' σ kp rc' nw bw br := by
  obtain ⟨⟨f1, f2, f3, f4⟩, f5, ⟨f6, f7, fX⟩, f8, f9, f10, f11, f12, f13, f14, f15, f16⟩ := h
  have d537 : ∀ i, i ≠ 64 → D' 537 i = D 537 i := fun i hi => hD _ _ (by omega) (by omega)
  have dh : ∀ a i, a < 551 ∨ 584 < a → ¬ (a = 537 ∧ i = 64) → D' a i = D a i := fun a i h h' => hD _ _ h' (by omega)
  have cl : ∀ a i, a < 92 ∨ 518 ≤ a → C' a i = C a i := fun a i h => hC _ _ (by omega)
  have oth : ∀ u, u < 6 → u ≠ t → inC u C C' ∧ inD u D D' := by
    intro u hu hne
    refine ⟨fun a i h1 h2 => hC a i (by omega), fun a i h1 h2 h3 h4 => hD a i (by omega) ?_⟩
    rintro ⟨q1, q2, q3, q4⟩
    have : u < t ∨ t < u := by omega
    rcases this with q | q
    · have : (u + 1) * wd a ≤ t * wd a := Nat.mul_le_mul_right _ q
      omega
    · have : (t + 1) * wd a ≤ u * wd a := Nat.mul_le_mul_right _ q
      omega
  refine ⟨⟨f1, f2, f3, f4⟩, Rpl_cell (k := 0) f5 (fun x i hx => cl x i (by omega)) (fun x i hx => dh x i (by omega) (by omega)), ⟨?_, ?_, Ext_fr fX rfl (fun x i q => cl x i (by omega)) (fun x i q => dh x i (by omega) (by omega))⟩, ?_, ?_, ?_, ?_, ?_, ?_, ?_, f15, f16⟩
  · rw [cl _ _ (by omega), d537 _ (by omega)]; exact f6
  · rw [d537 _ (by omega)]; exact f7
  · rw [d537 _ (by omega)]
    intro q p hp
    rw [cl _ _ (by omega)]; exact f8 q p hp
  · obtain ⟨k, a1, a2, a3, a4⟩ := f9
    refine ⟨k, a1, by rw [cl _ _ (by omega)]; exact a2, by rw [d537 _ (by omega)]; exact a3, fun i hi => ?_⟩
    rw [cl _ _ (by omega), cl _ _ (by omega), dh _ _ (by omega) (by omega), dh _ _ (by omega) (by omega)]; exact a4 i hi
  · obtain ⟨k, a1, a2, a3, a4⟩ := f10
    have ec : ∀ a i, a = 592 ∨ a = 593 → cntF D' a i = cntF D a i := fun a i ha => by
      unfold cntF
      exact List.countP_congr (fun p _ => by rw [dh _ _ (by omega) (by omega)])
    have eR : ∀ fa va pl vl i, (fa = 592 ∨ fa = 593) → 584 < va → pl + i < 92 → vl + i < 92 → RecL C D fa va pl vl i → RecL C' D' fa va pl vl i := by
      intro fa va pl vl i q1 q2 q3 q4 q5
      refine ⟨fun n hn => ?_, fun p hp hf => ?_⟩
      · rw [ec _ _ q1] at hn
        obtain ⟨p, r1, r2, r3, r4⟩ := q5.1 n hn
        exact ⟨p, r1, by rw [cl _ _ (by omega)]; exact r2, by rw [dh _ _ (by omega) (by omega)]; exact r3, by rw [cl _ _ (by omega), dh _ _ (by omega) (by omega)]; exact r4⟩
      · rw [dh _ _ (by omega) (by omega)] at hf
        obtain ⟨n, r1, r2⟩ := q5.2 p hp hf
        exact ⟨n, by rw [ec _ _ q1]; exact r1, by rw [cl _ _ (by omega)]; exact r2⟩
    refine ⟨k, a1, by rw [cl _ _ (by omega)]; exact a2, by rw [d537 _ (by omega)]; exact a3, fun i hi => ?_⟩
    obtain ⟨b1, b2, b3, b4, b5, b6, b7⟩ := a4 i hi
    refine ⟨?_, ?_, ?_, ?_, ?_, ?_, ?_⟩
    · rw [cl _ _ (by omega), dh _ _ (by omega) (by omega)]; exact b1
    · rw [cl _ _ (by omega), dh _ _ (by omega) (by omega)]; exact b2
    · rw [cl _ _ (by omega), dh _ _ (by omega) (by omega)]; exact b3
    · rw [cl _ _ (by omega), ec _ _ (by omega)]; exact b4
    · rw [cl _ _ (by omega), ec _ _ (by omega)]; exact b5
    · intro p hp
      rw [dh _ _ (by omega) (by omega), dh _ _ (by omega) (by omega)]; exact b6 p hp
    · intro h14
      exact ⟨eR _ _ _ _ _ (by omega) (by omega) (by omega) (by omega) (b7 h14).1, eR _ _ _ _ _ (by omega) (by omega) (by omega) (by omega) (b7 h14).2⟩
  · exact h64
  · intro u hu
    by_cases e : u = t
    · subst e; exact hT
    · obtain ⟨⟨z, ez, z9⟩, _⟩ := Rpl_z f5
      exact Thr_fr (f12 u hu) hu hrr (oth u hu e).1 (oth u hu e).2 (HxC_refl ez (by unfold rmC; rw [cl _ _ (by omega)])) (sh_zc f5) (fun x i hx _ _ => cl x i (by omega))
  · obtain ⟨f, g, bs, b0, b1, bk, b2⟩ := f13
    have st : ∀ u, u < 6 → C' (92 + 71 * u) 2 = C (92 + 71 * u) 2 ∧ C' (92 + 71 * u) 15 = C (92 + 71 * u) 15 ∧ D' 563 u = D 563 u := by
      intro u hu
      by_cases e : u = t
      · subst e; exact ⟨h2, h15, h63⟩
      · exact ⟨(oth u hu e).1 _ _ (by omega) (by omega), (oth u hu e).1 _ _ (by omega) (by omega), inD_1 (oth u hu e).2 (by omega)⟩
    refine ⟨f, g, bs, by rw [d537 _ (by omega)]; exact b0, b1, fun o ho hn p hp => by rw [cl _ _ (by omega)]; rw [(st o ho).1] at hn; exact bk o ho hn p hp, fun u hu hs => ?_⟩
    rw [(st u hu).1] at hs
    obtain ⟨c1, c2, c3, c4, c5⟩ := b2 u hu hs
    refine ⟨by rw [(st u hu).2.1]; exact c1, by rw [(st u hu).2.2]; exact c2, c3, c4, fun v hv hne hsv => ?_⟩
    rw [(st v hv).1] at hsv
    exact c5 v hv hne hsv
  · obtain ⟨e1, e2, e3⟩ := f14
    have hsame : ∀ u, u < 6 → u ≠ t → wsum C' u (dpC C' u) = wsum C u (dpC C u) ∧ rsum C' u (dpC C' u) = rsum C u (dpC C u) := by
      intro u hu hne
      have hdp : dpC C' u = dpC C u := by
        unfold dpC
        rw [(oth u hu hne).1 _ _ (by omega) (by omega)]
      have hth := f12 u hu
      have hdb : dpC C u ≤ 10 := by
        obtain ⟨s, a1, a2, a3, a4, a5, a6, a7, a8, a9, a10, a11⟩ := hth
        by_cases q2 : s = 2
        · rcases a11 with ⟨a11, -⟩ | ⟨-, len, kd, x1, x2, x3, φ, N, H, K, g1, g2, g3⟩
          · omega
          · obtain ⟨a, h1, _, _, _, _, h9, _⟩ := g3.2.1 q2
            have := (g2.2.2.2.2.2.1 a h1).2.1
            have l1 := @nl_le (N a)
            unfold dpC
            rw [h9.1, n_cl (by omega)]
            omega
        · by_cases q3 : s = 3
          · rcases a11 with ⟨a11, -⟩ | ⟨-, len, kd, x1, x2, x3, φ, N, H, K, g1, g2, g3⟩
            · omega
            · obtain ⟨b, _, _, _, _, _, _, _, h8, _⟩ := g3.2.2 q3
              unfold dpC
              rw [h8.1]
              decide
          · unfold dpC
            rw [a9 q2 q3]
            decide
      rw [hdp]
      refine ⟨wsum_congr _ (fun j hj => (oth u hu hne).1 _ _ (by omega) (by omega)), rsum_congr _ (fun j hj => ?_)⟩
      unfold rl
      rw [(oth u hu hne).1 _ _ (by omega) (by omega)]
    have s1 := sum6_one (f := fun u => wsum C u (dpC C u)) (f' := fun u => wsum C' u (dpC C' u)) ht (fun u hu hne => (hsame u hu hne).1)
    have s2 := sum6_one (f := fun u => rsum C u (dpC C u)) (f' := fun u => rsum C' u (dpC C' u)) ht (fun u hu hne => (hsame u hu hne).2)
    refine ⟨fun q => ?_, fun q => ?_, ?_⟩
    · rw [d537 _ (by omega)] at q
      have : cntK C' = cntK C := by
        unfold cntK
        exact List.countP_congr (fun p _ => by rw [cl _ _ (by omega)])
      rw [this]; exact e1 q
    · rw [d537 _ (by omega)] at q
      have := e2 q
      omega
    · omega
theorem hm_loop {σ : ao_H} (hs : ShD σ) {t j : Nat} (ht : t < 6) (hj : j + 1 < 10) {Bl : List Int32} (hB : Bl.length ≤ 200) : ∀ (r k : Nat) (D : ao_M) (Y : List Int32), k + r = Bl.length → D 584 (t * 12 + (j + 1)) = nI Bl.length → (∀ (i : Nat) (h : i < Bl.length), D 583 ((t * 12 + (j + 1)) * 200 + i) = Bl[i]) → Y.length ≤ 200 → D 584 (t * 12 + j) = nI Y.length → (∀ (i : Nat) (h : i < Y.length), D 583 ((t * 12 + j) * 200 + i) = Y[i]) → D 556 t = nI (j + 2) →
    hv (fun n => fX12_endPart n 121 537 (nI t) (nI (j + 1)) (nI (t * 12 + (j + 1))) (nI (t * 12 + j)) (nI k) D σ) (fun D' => D' 584 (t * 12 + j) = nI ((Y ++ Bl.drop k).take 200).length ∧ (∀ (i : Nat) (h : i < ((Y ++ Bl.drop k).take 200).length), D' 583 ((t * 12 + j) * 200 + i) = ((Y ++ Bl.drop k).take 200)[i]) ∧ D' 556 t = nI (j + 1) ∧ ∀ a i, ¬ (a = 584 ∧ i = t * 12 + j) → ¬ (a = 583 ∧ (t * 12 + j) * 200 ≤ i ∧ i < (t * 12 + j) * 200 + 200) → ¬ (a = 556 ∧ i = t) → D' a i = D a i) := by
  intro r
  induction r with
  | zero =>
    intro k D Y hk h1 h2 h3 h4 h5 h6
    refine hv_up (fun _ => fX12_endPart.eq_2 ..) ?_
    try simp only [↓reduceIte, Nat.reduceEqDiff, Option.bind_some, ao_let, n_ell, hs, h1]
    try simp (disch := first | omega | assumption) only [↓reduceIte, Nat.reduceEqDiff, Option.bind_some, ao_let, t_le, f_le, t_lt, f_lt, f_eq, u_eq, u_n1, u_n2, n_cl, n_lt, n_le, n_eq, n_ltl, n_llt, n_lel, n_lle, n_eql, n_leq, n_add, n_mul, n_sub, n_addl, n_ladd, n_mull, n_lmul, n_subl, Int32.reduceLT, Int32.reduceLE, Int32.reduceAdd, Int32.reduceSub, Int32.reduceMul, Int32.reduceToNatClampNeg, not_false_eq_true, not_true_eq_false, or_false, false_or, or_self, and_self, false_and, true_and, and_false, and_true, true_or, or_true, Nat.reduceAdd, Nat.reduceMul, Nat.reduceLT, Nat.reduceLeDiff, ne_eq, n_ell, hs, h1]
    refine hv_up (fun _ => fX12_endPart.eq_2 ..) ?_
    try simp only [↓reduceIte, Nat.reduceEqDiff, Option.bind_some, ao_let, n_ell, hs, h6]
    try simp (disch := first | omega | assumption) only [↓reduceIte, Nat.reduceEqDiff, Option.bind_some, ao_let, t_le, f_le, t_lt, f_lt, f_eq, u_eq, u_n1, u_n2, n_cl, n_lt, n_le, n_eq, n_ltl, n_llt, n_lel, n_lle, n_eql, n_leq, n_add, n_mul, n_sub, n_addl, n_ladd, n_mull, n_lmul, n_subl, Int32.reduceLT, Int32.reduceLE, Int32.reduceAdd, Int32.reduceSub, Int32.reduceMul, Int32.reduceToNatClampNeg, not_false_eq_true, not_true_eq_false, or_false, false_or, or_self, and_self, false_and, true_and, and_false, and_true, true_or, or_true, Nat.reduceAdd, Nat.reduceMul, Nat.reduceLT, Nat.reduceLeDiff, ne_eq, n_ell, hs, h6]
    refine hv_some ?_
    rw [List.drop_eq_nil_of_le (by omega), List.append_nil, List.take_of_length_le h3]
    refine ⟨?_, ?_, ?_, ?_⟩
    · rw [u_n1 (by omega)]; exact h4
    · intro i hi
      rw [u_n1 (by omega)]; exact h5 i hi
    · rw [u_eq]
      rfl
    · intro a i q1 q2 q3
      rw [u_ne (by omega)]
  | succ r ih =>
    intro k D Y hk h1 h2 h3 h4 h5 h6
    refine hv_up (fun _ => fX12_endPart.eq_2 ..) ?_
    try simp only [↓reduceIte, Nat.reduceEqDiff, Option.bind_some, ao_let, n_ell, hs, h1, h4]
    try simp (disch := first | omega | assumption) only [↓reduceIte, Nat.reduceEqDiff, Option.bind_some, ao_let, t_le, f_le, t_lt, f_lt, f_eq, u_eq, u_n1, u_n2, n_cl, n_lt, n_le, n_eq, n_ltl, n_llt, n_lel, n_lle, n_eql, n_leq, n_add, n_mul, n_sub, n_addl, n_ladd, n_mull, n_lmul, n_subl, Int32.reduceLT, Int32.reduceLE, Int32.reduceAdd, Int32.reduceSub, Int32.reduceMul, Int32.reduceToNatClampNeg, not_false_eq_true, not_true_eq_false, or_false, false_or, or_self, and_self, false_and, true_and, and_false, and_true, true_or, or_true, Nat.reduceAdd, Nat.reduceMul, Nat.reduceLT, Nat.reduceLeDiff, ne_eq, n_ell, hs, h1, h4]
    by_cases hY : Y.length = 200
    · try simp only [↓reduceIte, Nat.reduceEqDiff, Option.bind_some, ao_let, n_ell]
      try simp (disch := first | omega | assumption) only [↓reduceIte, Nat.reduceEqDiff, Option.bind_some, ao_let, t_le, f_le, t_lt, f_lt, f_eq, u_eq, u_n1, u_n2, n_cl, n_lt, n_le, n_eq, n_ltl, n_llt, n_lel, n_lle, n_eql, n_leq, n_add, n_mul, n_sub, n_addl, n_ladd, n_mull, n_lmul, n_subl, Int32.reduceLT, Int32.reduceLE, Int32.reduceAdd, Int32.reduceSub, Int32.reduceMul, Int32.reduceToNatClampNeg, not_false_eq_true, not_true_eq_false, or_false, false_or, or_self, and_self, false_and, true_and, and_false, and_true, true_or, or_true, Nat.reduceAdd, Nat.reduceMul, Nat.reduceLT, Nat.reduceLeDiff, ne_eq, n_ell]
      refine hv_up (fun _ => fX12_endPart.eq_2 ..) ?_
      try simp only [↓reduceIte, Nat.reduceEqDiff, Option.bind_some, ao_let, n_ell, hs, h6]
      try simp (disch := first | omega | assumption) only [↓reduceIte, Nat.reduceEqDiff, Option.bind_some, ao_let, t_le, f_le, t_lt, f_lt, f_eq, u_eq, u_n1, u_n2, n_cl, n_lt, n_le, n_eq, n_ltl, n_llt, n_lel, n_lle, n_eql, n_leq, n_add, n_mul, n_sub, n_addl, n_ladd, n_mull, n_lmul, n_subl, Int32.reduceLT, Int32.reduceLE, Int32.reduceAdd, Int32.reduceSub, Int32.reduceMul, Int32.reduceToNatClampNeg, not_false_eq_true, not_true_eq_false, or_false, false_or, or_self, and_self, false_and, true_and, and_false, and_true, true_or, or_true, Nat.reduceAdd, Nat.reduceMul, Nat.reduceLT, Nat.reduceLeDiff, ne_eq, n_ell, hs, h6]
      refine hv_some ?_
      have ey : (Y ++ Bl.drop k).take 200 = Y := by
        rw [List.take_append_of_le_length (by omega), List.take_of_length_le (by omega)]
      rw [ey]
      refine ⟨?_, ?_, ?_, ?_⟩
      · rw [u_n1 (by omega)]; exact h4
      · intro i hi
        rw [u_n1 (by omega)]; exact h5 i hi
      · rw [u_eq]
        rfl
      · intro a i q1 q2 q3
        rw [u_ne (by omega)]
    · try simp only [↓reduceIte, Nat.reduceEqDiff, Option.bind_some, ao_let, n_ell, hs, h4, h2 k (by omega)]
      try simp (disch := first | omega | assumption) only [↓reduceIte, Nat.reduceEqDiff, Option.bind_some, ao_let, t_le, f_le, t_lt, f_lt, f_eq, u_eq, u_n1, u_n2, n_cl, n_lt, n_le, n_eq, n_ltl, n_llt, n_lel, n_lle, n_eql, n_leq, n_add, n_mul, n_sub, n_addl, n_ladd, n_mull, n_lmul, n_subl, Int32.reduceLT, Int32.reduceLE, Int32.reduceAdd, Int32.reduceSub, Int32.reduceMul, Int32.reduceToNatClampNeg, not_false_eq_true, not_true_eq_false, or_false, false_or, or_self, and_self, false_and, true_and, and_false, and_true, true_or, or_true, Nat.reduceAdd, Nat.reduceMul, Nat.reduceLT, Nat.reduceLeDiff, ne_eq, n_ell, hs, h4, h2 k (by omega)]
      have hkb : k < Bl.length := by omega
      refine hv_mono (ih (k + 1) _ (Y ++ [Bl[k]]) (by omega) ?_ ?_ ?_ ?_ ?_ ?_) ?_
      · simp (disch := omega) only [u_ne]; exact h1
      · intro i hi
        simp (disch := omega) only [u_ne]; exact h2 i hi
      · simp; omega
      · rw [u_eq]; simp
      · intro i hi
        simp at hi
        rw [u_n1 (by omega)]
        by_cases e : i = Y.length
        · subst e
          rw [u_eq]; simp
        · rw [u_n2 (by omega), List.getElem_append_left (by omega)]
          exact h5 i (by omega)
      · simp (disch := omega) only [u_ne]; exact h6
      · rintro D' ⟨a1, a2, a3, a4⟩
        have ey : Y ++ [Bl[k]] ++ Bl.drop (k + 1) = Y ++ Bl.drop k := by
          rw [List.append_assoc, List.singleton_append, ← List.drop_eq_getElem_cons hkb]
        simp only [ey] at a1 a2
        refine ⟨a1, a2, a3, fun a i q1 q2 q3 => ?_⟩
        rw [a4 a i q1 q2 q3]
        simp (disch := omega) only [u_ne]
