set_option linter.unusedSimpArgs false
set_option linter.unusedVariables false
section Cc8
variable {m B1 B2 E1 E2 : Nat} {C D : ao_M} {ρ σ : ao_H}
/-- a thread as new, on both sides -/
theorem Thr_new {rc rc' t s : Nat} {C' D' : ao_M} {ρ' : ao_H} {len kd a1 a2 a3 : Nat} {φ : Nat → Nat} {N : Ns} {H K : Nat → Nat} (hcat : Cat C' ρ' t len kd a1 a2 a3) (cok : Cok (C' a1) (C' a2) (C' a3) (dcd D' t) len φ N H K) (c0 : C' (92 + 71 * t) 0 = nI t)
    (hC : C' (92 + 71 * t) 2 = 1 ∧ C' (92 + 71 * t) 3 = 0 ∧ C' (92 + 71 * t) 5 = 0 ∧ C' (92 + 71 * t) 8 = 0 ∧ C' (92 + 71 * t) 11 = 0 ∧ C' (92 + 71 * t) 13 = 0) (hC' : ∀ i, 14 ≤ i → i ≤ 19 → C' (92 + 71 * t) i = 0) (hr : ∀ k, k < 26 → C' (92 + 71 * t + 6) k = 0)
    (d51 : D' 551 t = 1) (hD : D' 552 t = 0 ∧ D' 555 t = 0 ∧ D' 556 t = 0 ∧ D' 557 t = 0 ∧ D' 558 t = 0 ∧ D' 559 t = 0 ∧ D' 561 t = 0 ∧ D' 562 t = 0) (hr' : ∀ k, k < 26 → D' 553 (t * 26 + k) = 0) : Thr C' ρ' D' rc' t := by
  obtain ⟨k1, k2, k3, k4, k5, k6⟩ := hC
  obtain ⟨l1, l2, l3, l4, l5, l6, l7, l8⟩ := hD
  obtain ⟨o1, o2, o3, o4, -⟩ := id cok
  refine Thr1 (B := 0) hcat cok k1 d51 c0 ?_ ?_ ?_ (fun k hk => ?_) k4 l3 (Nat.zero_le _) ⟨k2, 0, l1, by omega, Or.inl o2.symm⟩ ?_ ?_ ?_
  · rw [hC' 17 (by omega) (by omega), l6]
  · rw [hC' 18 (by omega) (by omega), l8]
  · rw [hC' 19 (by omega) (by omega), l7]
  · rw [hr k hk, hr' k hk]
  · rw [o4]
    exact ⟨k3, l2, fun i hi => absurd hi (by omega)⟩
  · rw [o3]
    exact ⟨k5, l5, l4, fun e he => absurd he (by simp)⟩
  · rw [o3]; rfl
theorem cntK_0 (h : ∀ p, p < 26 → C 16 p = -1) : cntK C = 0 := by
  unfold cntK
  refine List.countP_eq_zero.mpr (fun p hp => ?_)
  have hp' : p < 26 := by simpa using hp
  rw [h p hp']
  decide
theorem sum6_0 {f : Nat → Nat} (h : ∀ t, t < 6 → f t = 0) : sum6 f = 0 := by
  unfold sum6
  rw [h 0 (by omega), h 1 (by omega), h 2 (by omega), h 3 (by omega), h 4 (by omega), h 5 (by omega)]
theorem n1_ne2 : ¬ ((1 : Int32) = 2 ∨ (1 : Int32) = 3) := by decide
theorem n0_ne2 : ¬ ((0 : Int32) = 2 ∨ (0 : Int32) = 3) := by decide
set_option maxHeartbeats 8000000 in
/-- after a start -/
theorem PR_st {w : Nat} {C1 C2 D' : ao_M} (h : PR m B1 B2 E1 E2 C ρ D σ) (hm : m + 1 ≤ 512) (hw : w ≤ 4) (e1 : ClrC (ao_u (ao_u C 12 5 (nI w)) 12 4 0) C1) (e2 : (∀ t, t < 6 → StC t (ao_u (ao_u (ao_u C1 22 2 0) 25 9 0) 25 10 0) C2) ∧ ∀ x i, ¬ (92 ≤ x ∧ x < 518) → C2 x i = ao_u (ao_u (ao_u C1 22 2 0) 25 9 0) 25 10 0 x i) (e3 : BgD (nI w) (ao_u D 537 0 0) D') : PR (m + 1) (B1 + 5) (B2 + 3100) E1 E2 (ao_u (ao_u C2 518 1 0) 0 5 (-1)) ρ D' σ ∧ D' 537 0 = 0 := by
  obtain ⟨kp, rc, n, ⟨h1, h2⟩, ⟨h3, h3'⟩, h4, h5, h6⟩ := h
  obtain ⟨⟨f1, f2, f3, f4⟩, ⟨f, g, hh, pc, pd, ch, pe, ec⟩, ⟨f6, f7, fX⟩, f8, f9, f10, f11, f12, f13, f14, f15, f16⟩ := h2
  obtain ⟨c1, c2, c3, c4⟩ := e1
  obtain ⟨s1, s2⟩ := e2
  obtain ⟨⟨b27, b26, b25, b68, b76, b65, b63, b82, b3⟩, bp, bt, bf⟩ := e3
  obtain ⟨-, ⟨l, l1, l2, l3, l4⟩, -⟩ := fX
  have d0 : D' 537 0 = 0 := by rw [bf _ _ (by omega) (by omega), u_eq]
  -- the class, outside runners
  have k2 : ∀ x i, ¬ (92 ≤ x ∧ x < 518) → ¬ (x = 518 ∧ i = 1) → ¬ (x = 0 ∧ i = 5) → ¬ (x = 22 ∧ i = 2) → ¬ (x = 25 ∧ (i = 9 ∨ i = 10)) → ao_u (ao_u C2 518 1 0) 0 5 (-1) x i = C1 x i := fun x i q1 q2 q3 q4 q5 => by
    rw [u_ne (by omega), u_ne (by omega), s2 x i q1, u_ne (by omega), u_ne (by omega), u_ne (by omega)]
  have k1 : ∀ x i, ¬ (92 ≤ x ∧ x < 518) → ¬ (x = 518 ∧ i = 1) → ¬ (x = 0 ∧ i = 5) → ¬ (x = 22 ∧ i = 2) → ¬ (x = 25 ∧ (i = 9 ∨ i = 10)) → ¬ (14 ≤ x ∧ x ≤ 18) → ¬ (x = 13 ∧ (i = 4 ∨ i = 10)) → ¬ (x = 12 ∧ (i = 4 ∨ i = 5)) → ao_u (ao_u C2 518 1 0) 0 5 (-1) x i = C x i := fun x i q1 q2 q3 q4 q5 q6 q7 q8 => by
    rw [k2 x i q1 q2 q3 q4 q5, c4 x i q6 q7, u_ne (by omega), u_ne (by omega)]
  have kr : ∀ x i, 92 ≤ x → x < 518 → ao_u (ao_u C2 518 1 0) 0 5 (-1) x i = C2 x i := fun x i q1 q2 => by rw [u_ne (by omega), u_ne (by omega)]
  have s3 : ∀ t, t < 6 → StC t C (ao_u (ao_u C2 518 1 0) 0 5 (-1)) := fun t ht => by
    refine StC_mv (s1 t ht) (fun x i q1 q2 => ?_) (fun x i q1 q2 => kr x i (by omega) (by omega))
    rw [u_ne (by omega), u_ne (by omega), u_ne (by omega), c4 x i (by omega) (by omega), u_ne (by omega), u_ne (by omega)]
  have z518 : ao_u (ao_u C2 518 1 0) 0 5 (-1) 518 1 = 0 := by rw [u_ne (by omega), u_eq]
  have z05 : ao_u (ao_u C2 518 1 0) 0 5 (-1) 0 5 = -1 := u_eq
  have z222 : ao_u (ao_u C2 518 1 0) 0 5 (-1) 22 2 = 0 := by rw [u_ne (by omega), u_ne (by omega), s2 _ _ (by omega), u_ne (by omega), u_ne (by omega), u_eq]
  have z259 : ao_u (ao_u C2 518 1 0) 0 5 (-1) 25 9 = 0 := by rw [u_ne (by omega), u_ne (by omega), s2 _ _ (by omega), u_ne (by omega), u_eq]
  have z125 : ao_u (ao_u C2 518 1 0) 0 5 (-1) 12 5 = nI w := by rw [k2 _ _ (by omega) (by omega) (by omega) (by omega) (by omega), c4 _ _ (by omega) (by omega), u_ne (by omega), u_eq]
  have z124 : ao_u (ao_u C2 518 1 0) 0 5 (-1) 12 4 = 0 := by rw [k2 _ _ (by omega) (by omega) (by omega) (by omega) (by omega), c4 _ _ (by omega) (by omega), u_eq]
  clear s1 s2 kr
  generalize ao_u (ao_u C2 518 1 0) 0 5 (-1) = C' at *
  have t2 : ∀ x i, x ≠ 12 → tk C' x i = C' x i := fun x i q => tk_n (by omega)
  have big : ∀ x i, 599 ≤ x → C' x i = C x i := fun x i q => k1 x i (by omega) (by omega) (by omega) (by omega) (by omega) (by omega) (by omega) (by omega)
  have ed : ∀ t, dcd D' t = dcd D t := fun t => by
    funext x
    unfold dcd
    by_cases q : x < 18000
    · rw [if_pos q, if_pos q, bf _ _ (by omega) (by omega), u_ne (by omega)]
    · rw [if_neg q, if_neg q]
  -- threads
  have hT : ∀ t, t < 6 → Thr (tk C') ρ D' rc t ∧ dpC (tk C') t = 0 ∧ (C' (92 + 71 * t) 2 = 0 ∨ C' (92 + 71 * t) 2 = 1) ∧ C' (92 + 71 * t) 16 = 0 := by
    intro t ht
    obtain ⟨s, a1, a2, a3, a4, a5, a6, a7, a8, a9, a10, a11⟩ := f12 t ht
    obtain ⟨v1, v2, v3⟩ := bt t ht
    rw [tk_n (by omega)] at a2 a4
    have hh := s3 t ht
    have z8 : C' (92 + 71 * t) 8 = 0 → dpC (tk C') t = 0 := fun e => by
      unfold dpC
      rw [t2 _ _ (by omega), e]
      rfl
    rcases hh with ⟨q1, q2⟩ | ⟨q1, q2, q3, q4, q5⟩
    · -- never had a program
      have es : s = 0 := by
        rw [q1] at a2
        exact ((n_leq (a := s) (b := 0) (by omega) (by decide)).mp a2).symm
      subst es
      have hz : Zro C t := by
        rcases a11 with ⟨-, y1, y2⟩ | ⟨n0, -⟩
        · exact ⟨fun i r1 r2 => by have := y1 i r1 r2; rw [tk_n (by omega)] at this; exact this, fun k hk => by have := y2 k hk; rw [tk_n (by omega)] at this; exact this⟩
        · exact absurd rfl n0
      have eC : ∀ i, C' (92 + 71 * t) i = C (92 + 71 * t) i := fun i => q2 _ _ (by omega) (by omega)
      have eR : ∀ i, C' (92 + 71 * t + 6) i = C (92 + 71 * t + 6) i := fun i => q2 _ _ (by omega) (by omega)
      have c8 : C' (92 + 71 * t) 8 = 0 := by
        have := a9 (by omega) (by omega)
        rw [tk_n (by omega)] at this
        rw [eC]; exact this
      refine ⟨⟨0, by omega, ?_, ?_, ?_, ?_, ?_, ?_, fun k hk => ?_, fun _ _ => by rw [t2 _ _ (by omega)]; exact c8, fun _ => v2.2.2.1, Or.inl ⟨rfl, fun i r1 r2 => ?_, fun k hk => ?_⟩⟩, z8 c8, Or.inl (by rw [eC]; exact q1), by rw [eC]; exact hz.1 16 (by omega) (by omega)⟩
      · rw [t2 _ _ (by omega), eC]; exact q1
      · rw [v1, u_ne (by omega)]
        rw [u_ne (by omega)] at a3
        have a3' : D 551 t = 0 := a3
        rw [if_pos a3']; rfl
      · rw [t2 _ _ (by omega), eC]; exact a4
      · rw [t2 _ _ (by omega), eC, hz.1 17 (by omega) (by omega)]; exact v2.2.2.2.2.2.1.symm
      · rw [t2 _ _ (by omega), eC, hz.1 18 (by omega) (by omega)]; exact v2.2.2.2.2.2.2.2.symm
      · rw [t2 _ _ (by omega), eC, hz.1 19 (by omega) (by omega)]; exact v2.2.2.2.2.2.2.1.symm
      · rw [t2 _ _ (by omega), eR, hz.2 k hk]; exact (v3 k hk).symm
      · rw [t2 _ _ (by omega), eC]; exact hz.1 i r1 r2
      · rw [t2 _ _ (by omega), eR]; exact hz.2 k hk
    · -- as new
      rcases a11 with ⟨y0, -⟩ | ⟨hs0, len, kd, x1, x2, x3, φ, N, H, K, g1, g2, g3⟩
      · subst y0
        exact absurd a2 q1
      · skip
        obtain ⟨w1, w2, w3, w4⟩ := Cat_loc (C' := tk C') g1 (fun x i q => by rw [t2 _ _ (by omega), big x i q, tk_n (by omega)])
        have edd : dcd D t = dcd (ao_u D 537 0 0) t := by
          funext x
          unfold dcd
          by_cases q : x < 18000
          · rw [if_pos q, if_pos q, u_ne (by omega)]
          · rw [if_neg q, if_neg q]
        refine ⟨Thr_new (rc := rc) (s := s) w1 (by rw [w2, w3, w4, ed, edd]; exact g2) ?_ ?_ (fun i r1 r2 => ?_) (fun k hk => ?_) ?_ v2 v3, z8 q2.2.2.2.1, Or.inr q2.1, q3 16 (by omega) (by omega)⟩
        · rw [t2 _ _ (by omega), q5]; exact a4
        · rw [t2 _ _ (by omega), t2 _ _ (by omega), t2 _ _ (by omega), t2 _ _ (by omega), t2 _ _ (by omega), t2 _ _ (by omega)]; exact q2
        · rw [t2 _ _ (by omega)]; exact q3 i r1 r2
        · rw [t2 _ _ (by omega)]; exact q4 k hk
        · rw [v1, if_neg (fun e => hs0 ?_)]
          rw [a3] at e
          exact (n_eql (a := s) (b := 0) (by omega) (by decide)).mp e
  refine ⟨⟨0, rc, 0, ⟨z124, ?_⟩, ⟨?_, fun t ht => ?_, ?_⟩, h4, h5, hm⟩, d0⟩
  · rw [u_self d0]
    obtain ⟨a, b, c, rm, z, p1, p2, p3, p4, p5, p6, p7, p8, p9, p10, p11, p12, p13, p14, p15, p16, p17, p18, p19, p20, p21, p22, p23, p24, p25, p26⟩ := pc
    obtain ⟨a', b', c', rm', z', r1, r2, r3, r4, r5, r6, r7, r8, r9, r10, r11, r12, r13, r14, r15, r16, r17, r18, r19, r20, r21, r22, r23, r24, r25⟩ := pd
    have k16 : ∀ p, p < 26 → tk C' 16 p = -1 := fun p hp => by rw [t2 _ _ (by omega), k2 _ _ (by omega) (by omega) (by omega) (by omega) (by omega)]; exact (c1 p hp).2.2.1
    have st : ∀ t, t < 6 → ¬ (tk C' (92 + 71 * t) 2 = 2 ∨ tk C' (92 + 71 * t) 2 = 3) := fun t ht q => by
      rw [t2 _ _ (by omega)] at q
      rcases (hT t ht).2.2.1 with e | e
      · rw [e] at q; exact n0_ne2 q
      · rw [e] at q; exact n1_ne2 q
    refine ⟨⟨f1, f2, f3, f4⟩, ⟨f, g, hh, ⟨a, b, c, rm, z, p1, p2, p3, p4, p5, p6, p7, p8, p9, ?_, ?_, by omega, p13, p14, p15, p16, p17, p18, p19, p20, p21, p22, p23, p24, p25, fun i hi => absurd hi (by omega)⟩, ⟨a', b', c', rm', z', r1, r2, r3, r4, r5, r6, r7, r8, r9, b25, by omega, r12, r13, r14, r15, r16, r17, r18, r19, r20, r21, r22, r23, r24, fun i hi => absurd hi (by omega)⟩, fun i hi => absurd hi (by omega), fun p hp => ?_, ?_⟩, ⟨?_, ⟨w, hw, b27⟩, ?_⟩, fun _ p hp => k16 p hp, ⟨0, by omega, ?_, b68, fun i hi => absurd hi (by omega)⟩, ⟨0, by omega, ?_, b76, fun i hi => absurd hi (by omega)⟩, ?_, fun t ht => (hT t ht).1, ?_, ?_, by omega, by omega⟩
    · rw [tk_n (by omega)] at p10
      rw [t2 _ _ (by omega), k1 _ _ (by omega) (by omega) (by omega) (by omega) (by omega) (by omega) (by omega) (by omega)]; exact p10
    · rw [t2 _ _ (by omega), k2 _ _ (by omega) (by omega) (by omega) (by omega) (by omega)]; exact c3
    · obtain ⟨y1, y2, y3, y4, y5⟩ := c1 p hp
      obtain ⟨x1, x2, x3, x4, x5⟩ := bp p hp
      have e : ∀ x, 14 ≤ x → x ≤ 18 → tk C' x p = C1 x p := fun x q1 q2 => by rw [t2 _ _ (by omega), k2 _ _ (by omega) (by omega) (by omega) (by omega) (by omega)]
      rw [e 14 (by omega) (by omega), e 15 (by omega) (by omega), e 16 (by omega) (by omega), e 17 (by omega) (by omega), e 18 (by omega) (by omega), y1, y2, y3, y4, y5, x1, x2, x3, x4, x5]
      exact ⟨rfl, rfl, rfl, rfl, rfl, Or.inl rfl, Or.inl rfl⟩
    · rw [t2 _ _ (by omega), k2 _ _ (by omega) (by omega) (by omega) (by omega) (by omega), c2, b26]
    · rw [tk_n (by omega), z125, b27]
    · refine ⟨⟨0, by omega, by rw [t2 _ _ (by omega)]; exact z518, b82, fun i hi => absurd hi (by omega)⟩, ⟨l, l1, ?_, ?_, fun i hi => ?_⟩, ?_, by omega, ?_, b65, ?_, d0⟩
      · rw [tk_n (by omega)] at l2
        rw [t2 _ _ (by omega), k1 _ _ (by omega) (by omega) (by omega) (by omega) (by omega) (by omega) (by omega) (by omega)]; exact l2
      · rw [u_ne (by omega)] at l3
        rw [bf _ _ (by omega) (by omega), u_ne (by omega)]; exact l3
      · have := l4 i hi
        rw [tk_n (by omega), u_ne (by omega)] at this
        rw [t2 _ _ (by omega), k1 _ _ (by omega) (by omega) (by omega) (by omega) (by omega) (by omega) (by omega) (by omega), bf _ _ (by omega) (by omega), u_ne (by omega)]; exact this
      · rw [t2 _ _ (by omega), z05, b3]
      · rw [tk_6, z124]; rfl
      · rw [tk_4, z124]; rfl
    · rw [t2 _ _ (by omega)]; exact z222
    · rw [t2 _ _ (by omega)]; exact z259
    · rw [bf _ _ (by omega) (by omega)]; exact f11
    · refine ⟨fun _ => 0, fun _ => 0, 0, b63, by omega, fun o ho _ p hp => ?_, fun t ht q => absurd q (st t ht)⟩
      rw [k16 p hp]
      intro e
      exact absurd e.symm (by rw [n_neg (by omega)]; exact id)
    · have s0 : sum6 (fun t => wsum (tk C') t (dpC (tk C') t)) = 0 := sum6_0 (fun t ht => by rw [(hT t ht).2.1]; rfl)
      have s1 : sum6 (fun t => rsum (tk C') t (dpC (tk C') t)) = 0 := sum6_0 (fun t ht => by rw [(hT t ht).2.1]; rfl)
      refine ⟨fun _ => by rw [cntK_0 k16]; omega, fun _ => by rw [s0]; omega, ?_⟩
      have := f14.2.2
      rw [s1]
      omega
  · obtain ⟨a, rm, ⟨m1, m2, m3, m4, m5, m6⟩, c, d⟩ := h3
    refine ⟨a, rm, ⟨?_, ?_, m3, m4, fun t ht => ?_, fun i hi => ?_⟩, by omega, by omega⟩
    · rw [k1 _ _ (by omega) (by omega) (by omega) (by omega) (by omega) (by omega) (by omega) (by omega)]; exact m1
    · rw [k1 _ _ (by omega) (by omega) (by omega) (by omega) (by omega) (by omega) (by omega) (by omega)]; exact m2
    · rw [(hT t ht).2.2.2, k1 _ _ (by omega) (by omega) (by omega) (by omega) (by omega) (by omega) (by omega) (by omega)]; exact h3'.2
    · rw [k1 _ _ (by omega) (by omega) (by omega) (by omega) (by omega) (by omega) (by omega) (by omega), k1 _ _ (by omega) (by omega) (by omega) (by omega) (by omega) (by omega) (by omega) (by omega)]; exact m6 i hi
  · rw [(hT t ht).2.2.2, z124]
    decide
  · rw [k1 _ _ (by omega) (by omega) (by omega) (by omega) (by omega) (by omega) (by omega) (by omega)]; exact h3'.2
set_option maxHeartbeats 8000000 in
theorem PR_start (h : PR m B1 B2 E1 E2 C ρ D σ) (hm : m + 1 ≤ 512) (x : Int32) : hv (fun n => gL_start n 0 x C ρ) (fun y => hv (fun n => gX12_start n 537 x D σ) (fun w => CR m B1 B2 E1 E2 y (y.2.1 598 0) w σ)) := by
  obtain ⟨⟨hc, hb, hg, hs, hO⟩, -⟩ := PR_C h
  rcases pl_of x 5 (by omega) with ⟨w, hw, rfl⟩ | hx
  · unfold gL_start
    refine hv_up (fun _ => fL_start.eq_2 ..) ?_
    try simp only [↓reduceIte, Nat.reduceEqDiff, Option.bind_some, ao_let, n_ell, hc]
    try simp (disch := first | omega | assumption) only [↓reduceIte, Nat.reduceEqDiff, Option.bind_some, ao_let, t_le, f_le, t_lt, f_lt, f_eq, u_eq, u_n1, u_n2, n_cl, n_lt, n_le, n_eq, n_ltl, n_llt, n_lel, n_lle, n_eql, n_leq, n_add, n_mul, n_sub, n_addl, n_ladd, n_mull, n_lmul, n_subl, Int32.reduceLT, Int32.reduceLE, Int32.reduceAdd, Int32.reduceSub, Int32.reduceMul, Int32.reduceToNatClampNeg, not_false_eq_true, not_true_eq_false, or_false, false_or, or_self, and_self, false_and, true_and, and_false, and_true, true_or, or_true, Nat.reduceAdd, Nat.reduceMul, Nat.reduceLT, Nat.reduceLeDiff, ne_eq, n_ell, hc]
    refine hv_bind (P := fun u => ∃ C1 C2, u = (.inl 0, ao_u (ao_u C2 518 1 0) 0 5 (-1), ρ) ∧ ClrC (ao_u (ao_u C 12 5 (nI w)) 12 4 0) C1 ∧ (∀ t, t < 6 → StC t (ao_u (ao_u (ao_u C1 22 2 0) 25 9 0) 25 10 0) C2) ∧ ∀ x i, ¬ (92 ≤ x ∧ x < 518) → C2 x i = ao_u (ao_u (ao_u C1 22 2 0) 25 9 0) 25 10 0 x i) ?_ ?_
    · unfold gX10_start
      refine hv_up (fun _ => fX10_start.eq_2 ..) ?_
      try simp only [↓reduceIte, Nat.reduceEqDiff, Option.bind_some, ao_let, n_ell, hc]
      try simp (disch := first | omega | assumption) only [↓reduceIte, Nat.reduceEqDiff, Option.bind_some, ao_let, t_le, f_le, t_lt, f_lt, f_eq, u_eq, u_n1, u_n2, n_cl, n_lt, n_le, n_eq, n_ltl, n_llt, n_lel, n_lle, n_eql, n_leq, n_add, n_mul, n_sub, n_addl, n_ladd, n_mull, n_lmul, n_subl, Int32.reduceLT, Int32.reduceLE, Int32.reduceAdd, Int32.reduceSub, Int32.reduceMul, Int32.reduceToNatClampNeg, not_false_eq_true, not_true_eq_false, or_false, false_or, or_self, and_self, false_and, true_and, and_false, and_true, true_or, or_true, Nat.reduceAdd, Nat.reduceMul, Nat.reduceLT, Nat.reduceLeDiff, ne_eq, n_ell, hc]
      refine hv_bind (P := fun C2 => ∃ C1, ClrC (ao_u (ao_u C 12 5 (nI w)) 12 4 0) C1 ∧ (∀ t, t < 6 → StC t (ao_u (ao_u (ao_u C1 22 2 0) 25 9 0) 25 10 0) C2) ∧ ∀ x i, ¬ (92 ≤ x ∧ x < 518) → C2 x i = ao_u (ao_u (ao_u C1 22 2 0) 25 9 0) 25 10 0 x i) ?_ ?_
      · unfold gX2_startAgain
        refine hv_up (fun _ => fX2_startAgain.eq_2 ..) ?_
        try simp only [↓reduceIte, Nat.reduceEqDiff, Option.bind_some, ao_let, n_ell, hc]
        try simp (disch := first | omega | assumption) only [↓reduceIte, Nat.reduceEqDiff, Option.bind_some, ao_let, t_le, f_le, t_lt, f_lt, f_eq, u_eq, u_n1, u_n2, n_cl, n_lt, n_le, n_eq, n_ltl, n_llt, n_lel, n_lle, n_eql, n_leq, n_add, n_mul, n_sub, n_addl, n_ladd, n_mull, n_lmul, n_subl, Int32.reduceLT, Int32.reduceLE, Int32.reduceAdd, Int32.reduceSub, Int32.reduceMul, Int32.reduceToNatClampNeg, not_false_eq_true, not_true_eq_false, or_false, false_or, or_self, and_self, false_and, true_and, and_false, and_true, true_or, or_true, Nat.reduceAdd, Nat.reduceMul, Nat.reduceLT, Nat.reduceLeDiff, ne_eq, n_ell, hc]
        refine hv_bind (c_clear hc _) ?_
        intro C1 hC1
        simp only [hc, ↓reduceIte, Option.bind_some, ao_let, gX6_clear]
        refine hv_mono (c_staL hc hb 6 0 _ rfl) ?_
        rintro C2 ⟨q1, q2⟩
        exact ⟨C1, hC1, fun t ht => q1 t (by omega) ht, fun x i q => q2 x i (by omega)⟩
      rintro C2 ⟨C1, q1, q2, q3⟩
      simp only [hc, ↓reduceIte, Option.bind_some, ao_let, gX0_forget]
      exact hv_some ⟨C1, C2, rfl, q1, q2, q3⟩
    rintro _ ⟨C1, C2, rfl, q1, q2, q3⟩
    simp only [ao_cs]
    refine hv_up (fun _ => fL_start.eq_2 ..) ?_
    try simp only [↓reduceIte, Nat.reduceEqDiff, Option.bind_some, ao_let, n_ell]
    try simp (disch := first | omega | assumption) only [↓reduceIte, Nat.reduceEqDiff, Option.bind_some, ao_let, t_le, f_le, t_lt, f_lt, f_eq, u_eq, u_n1, u_n2, n_cl, n_lt, n_le, n_eq, n_ltl, n_llt, n_lel, n_lle, n_eql, n_leq, n_add, n_mul, n_sub, n_addl, n_ladd, n_mull, n_lmul, n_subl, Int32.reduceLT, Int32.reduceLE, Int32.reduceAdd, Int32.reduceSub, Int32.reduceMul, Int32.reduceToNatClampNeg, not_false_eq_true, not_true_eq_false, or_false, false_or, or_self, and_self, false_and, true_and, and_false, and_true, true_or, or_true, Nat.reduceAdd, Nat.reduceMul, Nat.reduceLT, Nat.reduceLeDiff, ne_eq, n_ell]
    refine hv_some ?_
    unfold gX12_start
    refine hv_up (fun _ => fX12_start.eq_2 ..) ?_
    try simp only [↓reduceIte, Nat.reduceEqDiff, Option.bind_some, ao_let, n_ell, hs]
    try simp (disch := first | omega | assumption) only [↓reduceIte, Nat.reduceEqDiff, Option.bind_some, ao_let, t_le, f_le, t_lt, f_lt, f_eq, u_eq, u_n1, u_n2, n_cl, n_lt, n_le, n_eq, n_ltl, n_llt, n_lel, n_lle, n_eql, n_leq, n_add, n_mul, n_sub, n_addl, n_ladd, n_mull, n_lmul, n_subl, Int32.reduceLT, Int32.reduceLE, Int32.reduceAdd, Int32.reduceSub, Int32.reduceMul, Int32.reduceToNatClampNeg, not_false_eq_true, not_true_eq_false, or_false, false_or, or_self, and_self, false_and, true_and, and_false, and_true, true_or, or_true, Nat.reduceAdd, Nat.reduceMul, Nat.reduceLT, Nat.reduceLeDiff, ne_eq, n_ell, hs]
    refine hv_up (fun _ => fX12_start.eq_2 ..) ?_
    try simp only [↓reduceIte, Nat.reduceEqDiff, Option.bind_some, ao_let, n_ell, hs, gX12_fails]
    try simp (disch := first | omega | assumption) only [↓reduceIte, Nat.reduceEqDiff, Option.bind_some, ao_let, t_le, f_le, t_lt, f_lt, f_eq, u_eq, u_n1, u_n2, n_cl, n_lt, n_le, n_eq, n_ltl, n_llt, n_lel, n_lle, n_eql, n_leq, n_add, n_mul, n_sub, n_addl, n_ladd, n_mull, n_lmul, n_subl, Int32.reduceLT, Int32.reduceLE, Int32.reduceAdd, Int32.reduceSub, Int32.reduceMul, Int32.reduceToNatClampNeg, not_false_eq_true, not_true_eq_false, or_false, false_or, or_self, and_self, false_and, true_and, and_false, and_true, true_or, or_true, Nat.reduceAdd, Nat.reduceMul, Nat.reduceLT, Nat.reduceLeDiff, ne_eq, n_ell, hs, gX12_fails]
    refine hv_bind (d_begin hs _) ?_
    intro D' hD'
    obtain ⟨o1, o2⟩ := PR_st h hm (by omega) q1 ⟨q2, q3⟩ hD'
    exact hv_some ⟨o1, o2, fun _ => rfl⟩
  · have hth : hv (fun n => gX10_start n 0 x C ρ) (fun u => u = (.inr "java/lang/IllegalArgumentException", C, ao_th ρ)) := by
      rcases hx with hx | ⟨n, h1, h2, rfl⟩
      · unfold gX10_start
        refine hv_up (fun _ => fX10_start.eq_2 ..) ?_
        try simp only [↓reduceIte, Nat.reduceEqDiff, Option.bind_some, ao_let, n_ell, hc, hx]
        try simp (disch := first | omega | assumption) only [↓reduceIte, Nat.reduceEqDiff, Option.bind_some, ao_let, t_le, f_le, t_lt, f_lt, f_eq, u_eq, u_n1, u_n2, n_cl, n_lt, n_le, n_eq, n_ltl, n_llt, n_lel, n_lle, n_eql, n_leq, n_add, n_mul, n_sub, n_addl, n_ladd, n_mull, n_lmul, n_subl, Int32.reduceLT, Int32.reduceLE, Int32.reduceAdd, Int32.reduceSub, Int32.reduceMul, Int32.reduceToNatClampNeg, not_false_eq_true, not_true_eq_false, or_false, false_or, or_self, and_self, false_and, true_and, and_false, and_true, true_or, or_true, Nat.reduceAdd, Nat.reduceMul, Nat.reduceLT, Nat.reduceLeDiff, ne_eq, n_ell, hc, hx]
        refine hv_up (fun _ => fX10_start.eq_2 ..) ?_
        try simp only [↓reduceIte, Nat.reduceEqDiff, Option.bind_some, ao_let, n_ell]
        try simp (disch := first | omega | assumption) only [↓reduceIte, Nat.reduceEqDiff, Option.bind_some, ao_let, t_le, f_le, t_lt, f_lt, f_eq, u_eq, u_n1, u_n2, n_cl, n_lt, n_le, n_eq, n_ltl, n_llt, n_lel, n_lle, n_eql, n_leq, n_add, n_mul, n_sub, n_addl, n_ladd, n_mull, n_lmul, n_subl, Int32.reduceLT, Int32.reduceLE, Int32.reduceAdd, Int32.reduceSub, Int32.reduceMul, Int32.reduceToNatClampNeg, not_false_eq_true, not_true_eq_false, or_false, false_or, or_self, and_self, false_and, true_and, and_false, and_true, true_or, or_true, Nat.reduceAdd, Nat.reduceMul, Nat.reduceLT, Nat.reduceLeDiff, ne_eq, n_ell]
        exact hv_some rfl
      · unfold gX10_start
        refine hv_up (fun _ => fX10_start.eq_2 ..) ?_
        try simp only [↓reduceIte, Nat.reduceEqDiff, Option.bind_some, ao_let, n_ell, hc]
        try simp (disch := first | omega | assumption) only [↓reduceIte, Nat.reduceEqDiff, Option.bind_some, ao_let, t_le, f_le, t_lt, f_lt, f_eq, u_eq, u_n1, u_n2, n_cl, n_lt, n_le, n_eq, n_ltl, n_llt, n_lel, n_lle, n_eql, n_leq, n_add, n_mul, n_sub, n_addl, n_ladd, n_mull, n_lmul, n_subl, Int32.reduceLT, Int32.reduceLE, Int32.reduceAdd, Int32.reduceSub, Int32.reduceMul, Int32.reduceToNatClampNeg, not_false_eq_true, not_true_eq_false, or_false, false_or, or_self, and_self, false_and, true_and, and_false, and_true, true_or, or_true, Nat.reduceAdd, Nat.reduceMul, Nat.reduceLT, Nat.reduceLeDiff, ne_eq, n_ell, hc]
        refine hv_up (fun _ => fX10_start.eq_2 ..) ?_
        try simp only [↓reduceIte, Nat.reduceEqDiff, Option.bind_some, ao_let, n_ell]
        try simp (disch := first | omega | assumption) only [↓reduceIte, Nat.reduceEqDiff, Option.bind_some, ao_let, t_le, f_le, t_lt, f_lt, f_eq, u_eq, u_n1, u_n2, n_cl, n_lt, n_le, n_eq, n_ltl, n_llt, n_lel, n_lle, n_eql, n_leq, n_add, n_mul, n_sub, n_addl, n_ladd, n_mull, n_lmul, n_subl, Int32.reduceLT, Int32.reduceLE, Int32.reduceAdd, Int32.reduceSub, Int32.reduceMul, Int32.reduceToNatClampNeg, not_false_eq_true, not_true_eq_false, or_false, false_or, or_self, and_self, false_and, true_and, and_false, and_true, true_or, or_true, Nat.reduceAdd, Nat.reduceMul, Nat.reduceLT, Nat.reduceLeDiff, ne_eq, n_ell]
        exact hv_some rfl
    unfold gL_start
    refine hv_up (fun _ => fL_start.eq_2 ..) ?_
    try simp only [↓reduceIte, Nat.reduceEqDiff, Option.bind_some, ao_let, n_ell, hc]
    try simp (disch := first | omega | assumption) only [↓reduceIte, Nat.reduceEqDiff, Option.bind_some, ao_let, t_le, f_le, t_lt, f_lt, f_eq, u_eq, u_n1, u_n2, n_cl, n_lt, n_le, n_eq, n_ltl, n_llt, n_lel, n_lle, n_eql, n_leq, n_add, n_mul, n_sub, n_addl, n_ladd, n_mull, n_lmul, n_subl, Int32.reduceLT, Int32.reduceLE, Int32.reduceAdd, Int32.reduceSub, Int32.reduceMul, Int32.reduceToNatClampNeg, not_false_eq_true, not_true_eq_false, or_false, false_or, or_self, and_self, false_and, true_and, and_false, and_true, true_or, or_true, Nat.reduceAdd, Nat.reduceMul, Nat.reduceLT, Nat.reduceLeDiff, ne_eq, n_ell, hc]
    refine hv_bind hth ?_
    rintro _ rfl
    simp only [ao_cs, ↓reduceIte]
    refine hv_some ?_
    have h15 : hv (fun n => fX12_start n 10 537 x 537 0 0 D σ) (fun w => CR m B1 B2 E1 E2 (1, C, ao_th ρ) (C 598 0) w σ) := by
      refine hv_up (fun _ => fX12_start.eq_2 ..) ?_
      try simp only [↓reduceIte, Nat.reduceEqDiff, Option.bind_some, ao_let, n_ell]
      try simp (disch := first | omega | assumption) only [↓reduceIte, Nat.reduceEqDiff, Option.bind_some, ao_let, t_le, f_le, t_lt, f_lt, f_eq, u_eq, u_n1, u_n2, n_cl, n_lt, n_le, n_eq, n_ltl, n_llt, n_lel, n_lle, n_eql, n_leq, n_add, n_mul, n_sub, n_addl, n_ladd, n_mull, n_lmul, n_subl, Int32.reduceLT, Int32.reduceLE, Int32.reduceAdd, Int32.reduceSub, Int32.reduceMul, Int32.reduceToNatClampNeg, not_false_eq_true, not_true_eq_false, or_false, false_or, or_self, and_self, false_and, true_and, and_false, and_true, true_or, or_true, Nat.reduceAdd, Nat.reduceMul, Nat.reduceLT, Nat.reduceLeDiff, ne_eq, n_ell]
      refine hv_up (fun _ => fX12_start.eq_2 ..) ?_
      try simp only [↓reduceIte, Nat.reduceEqDiff, Option.bind_some, ao_let, n_ell, hs, gX12_fails]
      try simp (disch := first | omega | assumption) only [↓reduceIte, Nat.reduceEqDiff, Option.bind_some, ao_let, t_le, f_le, t_lt, f_lt, f_eq, u_eq, u_n1, u_n2, n_cl, n_lt, n_le, n_eq, n_ltl, n_llt, n_lel, n_lle, n_eql, n_leq, n_add, n_mul, n_sub, n_addl, n_ladd, n_mull, n_lmul, n_subl, Int32.reduceLT, Int32.reduceLE, Int32.reduceAdd, Int32.reduceSub, Int32.reduceMul, Int32.reduceToNatClampNeg, not_false_eq_true, not_true_eq_false, or_false, false_or, or_self, and_self, false_and, true_and, and_false, and_true, true_or, or_true, Nat.reduceAdd, Nat.reduceMul, Nat.reduceLT, Nat.reduceLeDiff, ne_eq, n_ell, hs, gX12_fails]
      exact hv_some (PR_tell (w := (C 598 0, ao_u D 537 0 1)) h hm ⟨rfl, Or.inr ⟨(show (1 : Int32) ≠ 0 by decide), rfl, rfl⟩⟩)
    unfold gX12_start
    rcases hx with hx | ⟨n, h1, h2, rfl⟩
    · refine hv_up (fun _ => fX12_start.eq_2 ..) ?_
      try simp only [↓reduceIte, Nat.reduceEqDiff, Option.bind_some, ao_let, n_ell, hs, hx]
      try simp (disch := first | omega | assumption) only [↓reduceIte, Nat.reduceEqDiff, Option.bind_some, ao_let, t_le, f_le, t_lt, f_lt, f_eq, u_eq, u_n1, u_n2, n_cl, n_lt, n_le, n_eq, n_ltl, n_llt, n_lel, n_lle, n_eql, n_leq, n_add, n_mul, n_sub, n_addl, n_ladd, n_mull, n_lmul, n_subl, Int32.reduceLT, Int32.reduceLE, Int32.reduceAdd, Int32.reduceSub, Int32.reduceMul, Int32.reduceToNatClampNeg, not_false_eq_true, not_true_eq_false, or_false, false_or, or_self, and_self, false_and, true_and, and_false, and_true, true_or, or_true, Nat.reduceAdd, Nat.reduceMul, Nat.reduceLT, Nat.reduceLeDiff, ne_eq, n_ell, hs, hx]
      exact h15
    · refine hv_up (fun _ => fX12_start.eq_2 ..) ?_
      try simp only [↓reduceIte, Nat.reduceEqDiff, Option.bind_some, ao_let, n_ell, hs]
      try simp (disch := first | omega | assumption) only [↓reduceIte, Nat.reduceEqDiff, Option.bind_some, ao_let, t_le, f_le, t_lt, f_lt, f_eq, u_eq, u_n1, u_n2, n_cl, n_lt, n_le, n_eq, n_ltl, n_llt, n_lel, n_lle, n_eql, n_leq, n_add, n_mul, n_sub, n_addl, n_ladd, n_mull, n_lmul, n_subl, Int32.reduceLT, Int32.reduceLE, Int32.reduceAdd, Int32.reduceSub, Int32.reduceMul, Int32.reduceToNatClampNeg, not_false_eq_true, not_true_eq_false, or_false, false_or, or_self, and_self, false_and, true_and, and_false, and_true, true_or, or_true, Nat.reduceAdd, Nat.reduceMul, Nat.reduceLT, Nat.reduceLeDiff, ne_eq, n_ell, hs]
      exact h15
end Cc8
