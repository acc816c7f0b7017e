set_option linter.unusedSimpArgs false
set_option linter.unusedVariables false
/-! ===== steps that touch more than a thread, but no place ===== -/
theorem dpC_le {C D : ao_M} {ρ : ao_H} {rc u : Nat} (h : Thr C ρ D rc u) : dpC C u ≤ 10 := by
  obtain ⟨s, a1, a2, a3, a4, a5, a6, a7, a8, a9, a10, a11⟩ := h
  by_cases q2 : s = 2
  · rcases a11 with ⟨a11, -⟩ | ⟨-, len, kd, x1, x2, x3, φ, N, H, K, g1, g2, g3⟩
    · omega
    · obtain ⟨a, h1, _, _, _, _, h9, _⟩ := g3.2.1 q2
      have := (g2.2.2.2.2.2.1 a h1).2.1
      have l1 := @nl_le (N a)
      unfold dpC
      rw [h9.1, n_cl (by omega)]
      omega
  · by_cases q3 : s = 3
    · rcases a11 with ⟨a11, -⟩ | ⟨-, len, kd, x1, x2, x3, φ, N, H, K, g1, g2, g3⟩
      · omega
      · obtain ⟨b, _, _, _, _, _, _, _, h8, _⟩ := g3.2.2 q3
        unfold dpC
        rw [h8.1]
        decide
    · unfold dpC
      rw [a9 q2 q3]
      decide
theorem oth_of {C D C' D' : ao_M} {t : Nat} (hC : ∀ a i, 92 ≤ a → a < 518 → ¬ (92 + 71 * t ≤ a ∧ a < 92 + 71 * t + 71) → C' a i = C a i) (hD : ∀ a i, 550 ≤ a → a ≤ 584 → ¬ (551 ≤ a ∧ a ≤ 584 ∧ t * wd a ≤ i ∧ i < (t + 1) * wd a) → D' a i = D a i) : ∀ u, u < 6 → u ≠ t → inC u C C' ∧ inD u D D' := by
  intro u hu hne
  refine ⟨fun a i h1 h2 => hC a i (by omega) (by omega) (by omega), fun a i h1 h2 h3 h4 => hD a i h1 h2 ?_⟩
  rintro ⟨q1, q2, q3, q4⟩
  have : u < t ∨ t < u := by omega
  rcases this with q | q
  · have : (u + 1) * wd a ≤ t * wd a := Nat.mul_le_mul_right _ q
    omega
  · have : (t + 1) * wd a ≤ u * wd a := Nat.mul_le_mul_right _ q
    omega
theorem Full_gen {C D C' D' : ao_M} {ρ σ : ao_H} {kp rc rc' nw nw' bw br bw' br' t : Nat} (h : Full C ρ D σ kp rc nw bw br) (ht : t < 6) (hC : ∀ a i, ¬ (92 + 71 * t ≤ a ∧ a < 92 + 71 * t + 71) → ¬ (22 ≤ a ∧ a ≤ 90) → C' a i = C a i)
    (hD : ∀ a i, ¬ (a = 537 ∧ (i = 63 ∨ i = 64 ∨ i = 68 ∨ i = 76 ∨ i = 77)) → ¬ (585 ≤ a ∧ a ≤ 593) → ¬ (551 ≤ a ∧ a ≤ 584 ∧ t * wd a ≤ i ∧ i < (t + 1) * wd a) → D' a i = D a i) (h64 : D' 537 64 = nI rc') (hrr : rc ≤ rc') (hS : Rsd C' D') (hRc : Rrc C' D') (hB : Bth C' D' ((nw' + 1) / 2)) (hT : Thr C' ρ D' rc' t)
    (hw : wsum C' t (dpC C' t) + bw ≤ wsum C t (dpC C t) + bw') (hr : rc' + rsum C' t (dpC C' t) + br ≤ rc + rsum C t (dpC C t) + br') (hbw : bw ≤ bw') (hbw8 : bw' ≤ 28000) (hbr8 : br' ≤ 100000000) (hn2 : nw' / 2 = nw / 2 := by first | rfl | omega) : Full C' ρ D' σ kp rc' nw' bw' br' := by
  obtain ⟨f0, f5, ⟨f6, f7, fX⟩, f8, f9, f10, f11, f12, f13, f14, f15, f16⟩ := h
  clear f9 f10 f13
  have d27 : D' 537 27 = D 537 27 := hD _ _ (by omega) (by omega) (by omega)
  have cl : ∀ a i, a < 22 ∨ 518 ≤ a → C' a i = C a i := fun a i h => hC _ _ (by omega) (by omega)
  have oth := oth_of (C := C) (D := D) (C' := C') (D' := D') (t := t) (fun a i h1 h2 h3 => hC a i h3 (by omega)) (fun a i h1 h2 h3 => hD a i (by omega) (by omega) h3)
  refine ⟨f0, Rpl_cell (k := 0) f5 (fun x i hx => cl x i (by omega)) (fun x i hx => hD x i (by omega) (by omega) (by omega)), ⟨?_, ?_, Ext_fr fX hn2 (fun x i q => cl x i (by omega)) (fun x i q => hD x i (by omega) (by omega) (by omega))⟩, ?_, hS, hRc, h64, ?_, hB, ?_, hbw8, hbr8⟩
  · rw [cl _ _ (by omega), d27]; exact f6
  · rw [d27]; exact f7
  · rw [d27]
    intro q p hp
    rw [cl _ _ (by omega)]; exact f8 q p hp
  · intro u hu
    by_cases e : u = t
    · subst e; exact hT
    · obtain ⟨⟨z, ez, z9⟩, _⟩ := Rpl_z f5
      exact Thr_fr (f12 u hu) hu hrr (oth u hu e).1 (oth u hu e).2 (HxC_refl ez (by unfold rmC; rw [cl _ _ (by omega)])) (sh_zc f5) (fun x i hx _ _ => cl x i (by omega))
  · obtain ⟨e1, e2, e3⟩ := f14
    have hsame : ∀ u, u < 6 → u ≠ t → wsum C' u (dpC C' u) = wsum C u (dpC C u) ∧ rsum C' u (dpC C' u) = rsum C u (dpC C u) := by
      intro u hu hne
      have hdp : dpC C' u = dpC C u := by
        unfold dpC
        rw [(oth u hu hne).1 _ _ (by omega) (by omega)]
      have hdb := dpC_le (f12 u hu)
      rw [hdp]
      refine ⟨wsum_congr _ (fun j hj => (oth u hu hne).1 _ _ (by omega) (by omega)), rsum_congr _ (fun j hj => ?_)⟩
      unfold rl
      rw [(oth u hu hne).1 _ _ (by omega) (by omega)]
    have s1 := sum6_one (f := fun u => wsum C u (dpC C u)) (f' := fun u => wsum C' u (dpC C' u)) ht (fun u hu hne => (hsame u hu hne).1)
    have s2 := sum6_one (f := fun u => rsum C u (dpC C u)) (f' := fun u => rsum C' u (dpC C' u)) ht (fun u hu hne => (hsame u hu hne).2)
    refine ⟨fun q => ?_, fun q => ?_, ?_⟩
    · rw [d27] at q
      have : cntK C' = cntK C := by
        unfold cntK
        exact List.countP_congr (fun p _ => by rw [cl _ _ (by omega)])
      rw [this]
      have := e1 q
      omega
    · rw [d27] at q
      have := e2 q
      omega
    · omega
theorem Rrc_fr {C D C' D' : ao_M} (h : Rrc C D) (hC : ∀ a i, 25 ≤ a → a ≤ 90 → C' a i = C a i) (h76 : D' 537 76 = D 537 76) (hD : ∀ a i, 587 ≤ a → a ≤ 593 → D' a i = D a i) : Rrc C' D' := by
  obtain ⟨k, a1, a2, a3, a4⟩ := h
  have ec : ∀ a i, a = 592 ∨ a = 593 → cntF D' a i = cntF D a i := fun a i ha => by
    unfold cntF
    exact List.countP_congr (fun p _ => by rw [hD _ _ (by omega) (by omega)])
  have eR : ∀ fa va pl vl i, (fa = 592 ∨ fa = 593) → (va = 590 ∨ va = 591) → 25 ≤ pl → 25 ≤ vl → pl + i ≤ 90 → vl + i ≤ 90 → RecL C D fa va pl vl i → RecL C' D' fa va pl vl i := by
    intro fa va pl vl i q1 q2 q3 q4 q5 q6 q7
    refine ⟨fun n hn => ?_, fun p hp hf => ?_⟩
    · rw [ec _ _ q1] at hn
      obtain ⟨p, r1, r2, r3, r4⟩ := q7.1 n hn
      exact ⟨p, r1, by rw [hC _ _ (by omega) (by omega)]; exact r2, by rw [hD _ _ (by omega) (by omega)]; exact r3, by rw [hC _ _ (by omega) (by omega), hD _ _ (by omega) (by omega)]; exact r4⟩
    · rw [hD _ _ (by omega) (by omega)] at hf
      obtain ⟨n, r1, r2⟩ := q7.2 p hp hf
      exact ⟨n, by rw [ec _ _ q1]; exact r1, by rw [hC _ _ (by omega) (by omega)]; exact r2⟩
  refine ⟨k, a1, by rw [hC _ _ (by omega) (by omega)]; exact a2, by rw [h76]; exact a3, fun i hi => ?_⟩
  obtain ⟨b1, b2, b3, b4, b5, b6, b7⟩ := a4 i hi
  refine ⟨?_, ?_, ?_, ?_, ?_, ?_, ?_⟩
  · rw [hC _ _ (by omega) (by omega), hD _ _ (by omega) (by omega)]; exact b1
  · rw [hC _ _ (by omega) (by omega), hD _ _ (by omega) (by omega)]; exact b2
  · rw [hC _ _ (by omega) (by omega), hD _ _ (by omega) (by omega)]; exact b3
  · rw [hC _ _ (by omega) (by omega), ec _ _ (by omega)]; exact b4
  · rw [hC _ _ (by omega) (by omega), ec _ _ (by omega)]; exact b5
  · intro p hp
    rw [hD _ _ (by omega) (by omega), hD _ _ (by omega) (by omega)]; exact b6 p hp
  · intro h14
    exact ⟨eR _ _ _ _ _ (by omega) (by omega) (by omega) (by omega) (by omega) (by omega) (b7 h14).1, eR _ _ _ _ _ (by omega) (by omega) (by omega) (by omega) (by omega) (by omega) (b7 h14).2⟩
theorem Rsd_fr {C D C' D' : ao_M} (h : Rsd C D) (hC : ∀ a i, 22 ≤ a → a ≤ 24 → C' a i = C a i) (h68 : D' 537 68 = D 537 68) (hD : ∀ a i, a = 585 ∨ a = 586 → D' a i = D a i) : Rsd C' D' := by
  obtain ⟨k, a1, a2, a3, a4⟩ := h
  refine ⟨k, a1, by rw [hC _ _ (by omega) (by omega)]; exact a2, by rw [h68]; exact a3, fun i hi => ?_⟩
  rw [hC _ _ (by omega) (by omega), hC _ _ (by omega) (by omega), hD _ _ (by omega), hD _ _ (by omega)]; exact a4 i hi
theorem Bth_fr {C D C' D' : ao_M} {nw : Nat} (h : Bth C D nw) (hb : D' 537 63 = D 537 63) (h16 : ∀ p, C' 16 p = C 16 p) (hs : ∀ u, u < 6 → C' (92 + 71 * u) 2 = C (92 + 71 * u) 2 ∧ C' (92 + 71 * u) 15 = C (92 + 71 * u) 15 ∧ D' 563 u = D 563 u) : Bth C' D' nw := by
  obtain ⟨f, g, bs, b0, b1, bk, b2⟩ := h
  refine ⟨f, g, bs, by rw [hb]; exact b0, b1, fun o ho hn p hp => by rw [h16]; rw [(hs o ho).1] at hn; exact bk o ho hn p hp, fun u hu h => ?_⟩
  rw [(hs u hu).1] at h
  obtain ⟨c1, c2, c3, c4, c5⟩ := b2 u hu h
  refine ⟨by rw [(hs u hu).2.1]; exact c1, by rw [(hs u hu).2.2]; exact c2, c3, c4, fun v hv hne hsv => ?_⟩
  rw [(hs v hv).1] at hsv
  exact c5 v hv hne hsv
/-- a thread leaves its levels, or dies: it is no longer among those that began -/
theorem Bth_out {C D C' D' : ao_M} {nw t : Nat} (h : Bth C D nw) (ht : t < 6) (hb : D' 537 63 = D 537 63) (h16 : ∀ p, p < 26 → C' 16 p ≠ nI t ∧ (C' 16 p = C 16 p ∨ C' 16 p = -1)) (hs : ∀ u, u < 6 → u ≠ t → C' (92 + 71 * u) 2 = C (92 + 71 * u) 2 ∧ C' (92 + 71 * u) 15 = C (92 + 71 * u) 15 ∧ D' 563 u = D 563 u) (hn : ¬ (C' (92 + 71 * t) 2 = 2 ∨ C' (92 + 71 * t) 2 = 3)) : Bth C' D' nw := by
  obtain ⟨f, g, bs, b0, b1, bk, b2⟩ := h
  refine ⟨f, g, bs, by rw [hb]; exact b0, b1, fun o ho hn p hp => ?_, fun u hu h => ?_⟩
  · by_cases e : o = t
    · subst e; exact (h16 p hp).1
    · rw [(hs o ho e).1] at hn
      rcases (h16 p hp).2 with q | q
      · rw [q]; exact bk o ho hn p hp
      · rw [q]
        intro q2
        have := n_neg (n := o) (by omega)
        rw [← q2] at this
        exact absurd rfl (by rw [this]; exact id)
  by_cases e : u = t
  · subst e; exact absurd h hn
  · rw [(hs u hu e).1] at h
    obtain ⟨c1, c2, c3, c4, c5⟩ := b2 u hu h
    refine ⟨by rw [(hs u hu e).2.1]; exact c1, by rw [(hs u hu e).2.2]; exact c2, c3, c4, fun v hv hne hsv => ?_⟩
    by_cases e2 : v = t
    · subst e2; exact absurd hsv hn
    · rw [(hs v hv e2).1] at hsv
      exact c5 v hv hne hsv
