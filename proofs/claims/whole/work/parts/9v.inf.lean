set_option linter.unusedSimpArgs false
set_option linter.unusedVariables false
/-! ===== within a block: a look, a write, by which the innermost level changes ===== -/
theorem in_fin {C D C' D' : ao_M} {ρ σ : ao_H} {kp rc nw bw br rc' bw' br' t len kd a1 a2 a3 a' j : Nat} {φ : Nat → Nat} {N : Ns} {H K : Nat → Nat} {l : List (Nat × Nat)} (hF : FullP (fun u => u ≠ t) C ρ D σ kp rc nw bw br) (ht : t < 6) (hM : Md C ρ D rc t len kd a1 a2 a3 φ N H K l) (hj : nl l = j + 1) (hN : N a' = l) (ha' : a' ≤ len)
    (hC : ∀ x i, x ≠ 14 → x ≠ 16 → ¬ (x = 92 + 71 * t ∧ (i = 3 ∨ i = 5 ∨ i = 14)) → x ≠ 92 + 71 * t + 5 → ¬ (x = 92 + 71 * t + 8 + 6 * j ∧ (i = 3 ∨ i = 4 ∨ i = 6)) → ¬ (92 + 71 * t + 8 + 6 * j < x ∧ x ≤ 92 + 71 * t + 8 + 6 * j + 4) → C' x i = C x i)
    (hD : ∀ x i, x ≠ 542 → x ≠ 544 → ¬ (x = 537 ∧ (i = 64 ∨ i = 77)) → ¬ (i = t ∧ (x = 552 ∨ x = 555 ∨ x = 560)) → ¬ (x = 554 ∧ t * 64 ≤ i ∧ i < t * 64 + 64) → ¬ (577 ≤ x ∧ x ≤ 582 ∧ (t * 12 + j) * 26 ≤ i ∧ i < (t * 12 + j) * 26 + 26) → D' x i = D x i)
    (hRp : Rpl kp C' ρ D' σ) (h16 : ∀ p, p < 26 → C' 16 p = C 16 p ∨ C' 16 p = nI t ∧ (D 537 27 = 3 ∨ D 537 27 = 4)) (h3 : C' (92 + 71 * t) 3 = nI a') (h52 : D' 552 t = nI (φ a')) (hS : Stk C' D' t (H a')) (h14 : C' (92 + 71 * t) 14 = D' 560 t) (hW : Wr C' D' t j) (hRd : Rd C' D' rc' t j) (h64 : D' 537 64 = nI rc') (hrr : rc ≤ rc')
    (he : (D 537 27 = 3 ∨ D 537 27 = 4) → cntK C' + bw ≤ cntK C + bw') (hl : ¬ (D 537 27 = 3 ∨ D 537 27 = 4) → popc (C' (92 + 71 * t + 8 + 6 * j) 6) + bw ≤ popc (C (92 + 71 * t + 8 + 6 * j) 6) + bw') (hr : rc' + (j + 1) * rl C' t j + br ≤ rc + (j + 1) * rl C t j + br') (hb8 : bw' ≤ 28000) (hbr8 : br' ≤ 100000000) : Full C' ρ D' σ kp rc' nw bw' br' := by
  have hF' := hF
  have hM' := hM
  obtain ⟨-, f5, -, f8, f9, f10, f11, -, f13, -, f15, f16⟩ := hF
  obtain ⟨hcat, cok, ⟨g1, g2, g3, g4, g5, g6, g7, g8, g9⟩, m4, m5, ⟨m6, m7, m8⟩, mI⟩ := hM
  have hbd := chd_b (fun i hi => (cok.2.2.2.2.2.1 i hi).2.1) l m6 m7
  have l1 := @nl_le l
  have l2 := @ns_le l
  have l3 := @nt_le l
  obtain ⟨I8, IL, IH⟩ := mI
  rw [hj] at g9 I8 IL IH
  have cR : ∀ i, i ≠ 3 → i ≠ 5 → i ≠ 14 → C' (92 + 71 * t) i = C (92 + 71 * t) i := fun i q1 q2 q3 => hC _ _ (by omega) (by omega) (by omega) (by omega) (by omega) (by omega)
  have cL : ∀ i o k, i < j → o ≤ 5 → C' (92 + 71 * t + 8 + 6 * i + o) k = C (92 + 71 * t + 8 + 6 * i + o) k := fun i o k q1 q2 => hC _ _ (by omega) (by omega) (by omega) (by omega) (by omega) (by omega)
  have cL0 : ∀ i k, i ≤ j → i < j ∨ k ≠ 3 ∧ k ≠ 4 ∧ k ≠ 6 → C' (92 + 71 * t + 8 + 6 * i) k = C (92 + 71 * t + 8 + 6 * i) k := fun i k q1 q2 => hC _ _ (by omega) (by omega) (by omega) (by omega) (by omega) (by omega)
  have cA : ∀ x i, x = 92 + 71 * t + 6 ∨ 92 + 71 * t + 68 ≤ x ∧ x ≤ 92 + 71 * t + 70 ∨ x < 14 ∨ x = 15 ∨ 17 ≤ x ∧ x < 92 + 71 * t ∨ 92 + 71 * t + 71 ≤ x → C' x i = C x i := fun x i q => hC _ _ (by omega) (by omega) (by omega) (by omega) (by omega) (by omega)
  have dA : ∀ x i, (550 ≤ x ∧ x ≤ 584) → ¬ (i = t ∧ (x = 552 ∨ x = 555 ∨ x = 560)) → x ≠ 554 → ¬ (577 ≤ x ∧ x ≤ 582 ∧ (t * 12 + j) * 26 ≤ i ∧ i < (t * 12 + j) * 26 + 26) → D' x i = D x i := fun x i q1 q2 q3 q4 => hD _ _ (by omega) (by omega) (by omega) q2 (by omega) q4
  obtain ⟨k1, k2, k3, k4⟩ := Cat_loc hcat (C' := C') (fun x i hx => cA x i (by omega))
  have ed : dcd D' t = dcd D t := dcd_eq (fun i => dA _ _ (by omega) (by omega) (by omega) (by omega))
  have hMd : Md C' ρ D' rc' t len kd a1 a2 a3 φ N H K l := by
    refine ⟨k1, by rw [k2, k3, k4, ed]; exact cok, ⟨by rw [cR _ (by omega) (by omega) (by omega)]; exact g1, by rw [dA _ _ (by omega) (by omega) (by omega) (by omega)]; exact g2, by rw [cR _ (by omega) (by omega) (by omega)]; exact g3, by rw [cR _ (by omega) (by omega) (by omega), dA _ _ (by omega) (by omega) (by omega) (by omega)]; exact g4, by rw [cR _ (by omega) (by omega) (by omega), dA _ _ (by omega) (by omega) (by omega) (by omega)]; exact g5, by rw [cR _ (by omega) (by omega) (by omega), dA _ _ (by omega) (by omega) (by omega) (by omega)]; exact g6, h14, by rw [cR _ (by omega) (by omega) (by omega), dA _ _ (by omega) (by omega) (by omega) (by omega)]; exact g8, by rw [dA _ _ (by omega) (by omega) (by omega) (by omega), hj]; exact g9⟩, fun k hk => ?_, ?_, ⟨by rw [k2]; exact m6, m7, m8⟩, ?_⟩
    · rw [cA _ _ (by omega), dA _ _ (by omega) (by omega) (by omega) (by omega)]; exact m4 k hk
    · rw [k3, k4]
      refine ⟨by rw [cR _ (by omega) (by omega) (by omega)]; exact m5.1, by rw [dA _ _ (by omega) (by omega) (by omega) (by omega)]; exact m5.2.1, by rw [dA _ _ (by omega) (by omega) (by omega) (by omega)]; exact m5.2.2.1, fun x hx => ?_⟩
      obtain ⟨n1, n2, n3⟩ := hbd x hx
      have hxl : x.1 = 0 → nl (N x.2) ≤ j := by
        intro e0
        have := (chd_lt l m6 x hx).1 e0
        omega
      refine Ent_mv (m5.2.2.2 x hx) (fun e0 => ?_) (fun _ => dA _ _ (by omega) (by omega) (by omega) (by omega)) (fun _ => ⟨cA _ _ (by omega), cA _ _ (by omega), fun y q1 q2 => dA _ _ (by omega) (by omega) (by omega) (by omega)⟩)
      have := hxl e0
      exact ⟨cL0 _ _ (by omega) (by omega), cL0 _ _ (by omega) (by omega), fun y q1 q2 => dA _ _ (by omega) (by omega) (by omega) (by omega)⟩
    · rw [hj]
      refine ⟨by rw [cR _ (by omega) (by omega) (by omega)]; exact I8, fun i hi => ?_, ?_⟩
      · obtain ⟨⟨l1, l2⟩, l3, l4, ⟨ps, vs, ws, l5, l6⟩⟩ := IL i hi
        have d76 : D' 576 (t * 12 + i) = D 576 (t * 12 + i) := dA _ _ (by omega) (by omega) (by omega) (by omega)
        by_cases e : i = j
        · subst e
          refine ⟨⟨?_, by rw [d76]; exact l2⟩, fun k hk => ?_, hW, hRd⟩
          · rw [cL0 _ _ (by omega) (by omega), d76]; exact l1
          · rw [hC _ _ (by omega) (by omega) (by omega) (by omega) (by omega) (by omega), dA _ _ (by omega) (by omega) (by omega) (by omega)]; exact l3 k hk
        · refine ⟨⟨?_, by rw [d76]; exact l2⟩, fun k hk => ?_, ⟨fun p hp => ?_, fun p hp => ?_⟩, ps, vs, ws, RdC_mv l5 (cL0 _ _ (by omega) (by omega)) (cL0 _ _ (by omega) (by omega)) (fun k => ⟨cL i 1 k (by omega) (by omega), cL i 2 k (by omega) (by omega), cL i 3 k (by omega) (by omega)⟩), RdD_mv l6 hrr (fun p hp => ⟨dA _ _ (by omega) (by omega) (by omega) (by omega), dA _ _ (by omega) (by omega) (by omega) (by omega), dA _ _ (by omega) (by omega) (by omega) (by omega), dA _ _ (by omega) (by omega) (by omega) (by omega)⟩)⟩
          · rw [cL0 _ _ (by omega) (by omega), d76]; exact l1
          · rw [cL i 5 k (by omega) (by omega), dA _ _ (by omega) (by omega) (by omega) (by omega)]; exact l3 k hk
          · rw [cL0 _ _ (by omega) (by omega)]; exact l4.1 p hp
          · rw [cL0 _ _ (by omega) (by omega), dA 578 _ (by omega) (by omega) (by omega) (by omega), cL i 4 p (by omega) (by omega), dA 582 _ (by omega) (by omega) (by omega) (by omega)]; exact l4.2 p hp
      · obtain ⟨hl', h1, h2, h3'⟩ := IH
        refine ⟨hl', fun i hi => ?_, by rw [cR _ (by omega) (by omega) (by omega)]; exact h2, fun i hi h200 => by rw [cA _ _ (by omega)]; exact h3' i hi h200⟩
        obtain ⟨v1, v2, v3, v4⟩ := h1 i hi
        exact ⟨v1, by rw [dA _ _ (by omega) (by omega) (by omega) (by omega)]; exact v2, by rw [cL0 _ _ (by omega) (by omega)]; exact v3, fun k hk => by rw [dA _ _ (by omega) (by omega) (by omega) (by omega)]; exact v4 k hk⟩
  have ho := Md_Opn hMd ha' hN h3 h52 hS
  have hT : Thr C' ρ D' rc' t := Tc_Thr ho.1 ho.2.1 ho.2.2
  have e8 : dpC C t = j + 1 := by
    unfold dpC
    rw [I8, n_cl (by omega)]
  have e8' : dpC C' t = j + 1 := by
    unfold dpC
    rw [cR _ (by omega) (by omega) (by omega), I8, n_cl (by omega)]
  have ew : wsum C' t (j + 1) = wsum C t j + popc (C' (92 + 71 * t + 8 + 6 * j) 6) := by
    rw [wsum, wsum_congr j (fun i hi => cL0 _ _ (by omega) (by omega))]
  have ew0 : wsum C t (j + 1) = wsum C t j + popc (C (92 + 71 * t + 8 + 6 * j) 6) := rfl
  have er : rsum C' t (j + 1) = rsum C t j + (j + 1) * rl C' t j := by
    rw [rsum, rsum_congr j (fun i hi => by unfold rl; rw [cL0 _ _ (by omega) (by omega)])]
  have er0 : rsum C t (j + 1) = rsum C t j + (j + 1) * rl C t j := rfl
  obtain ⟨⟨z, ez, z9⟩, ⟨z', ez', z9'⟩⟩ := Rpl_z f5
  have hn1 := n_neg (n := t) (by omega)
  have hBt : Bth C' D' ((nw + 1) / 2) := by
    obtain ⟨f, g, bs, b0, b1, bk, b2⟩ := f13
    have hlv : ∀ u, u < 6 → ¬ (92 + 71 * t + 8 + 6 * j < 92 + 71 * u ∧ 92 + 71 * u ≤ 92 + 71 * t + 8 + 6 * j + 4) := fun u hu => by
      rcases (show u ≤ t ∨ t + 1 ≤ u by omega) with q | q <;> omega
    have hs : ∀ u, u < 6 → C' (92 + 71 * u) 2 = C (92 + 71 * u) 2 ∧ C' (92 + 71 * u) 15 = C (92 + 71 * u) 15 ∧ D' 563 u = D 563 u := fun u hu => ⟨hC _ _ (by omega) (by omega) (by omega) (by omega) (by omega) (hlv u hu), hC _ _ (by omega) (by omega) (by omega) (by omega) (by omega) (hlv u hu), hD _ _ (by omega) (by omega) (by omega) (by omega) (by omega) (by omega)⟩
    refine ⟨f, g, bs, by rw [hD _ _ (by omega) (by omega) (by omega) (by omega) (by omega) (by omega)]; exact b0, b1, fun o ho hn p hp => ?_, fun u hu h => ?_⟩
    · rw [(hs o ho).1] at hn
      rcases h16 p hp with q | ⟨q, -⟩
      · rw [q]; exact bk o ho hn p hp
      · rw [q]
        intro q2
        have e := (n_eq (show t < 2147483648 by omega) (show o < 2147483648 by omega)).mp q2
        subst e
        exact hn g1
    · rw [(hs u hu).1] at h
      obtain ⟨c1, c2, c3, c4, c5⟩ := b2 u hu h
      refine ⟨by rw [(hs u hu).2.1]; exact c1, by rw [(hs u hu).2.2]; exact c2, c3, c4, fun v hv hne hsv => ?_⟩
      rw [(hs v hv).1] at hsv
      exact c5 v hv hne hsv
  clear IL IH hbd m5 m6 cok hMd ho
  refine P_Full (P_pl hF' ht (HxC_refl ez (by unfold rmC; rw [cA _ _ (by omega)])) (HxD_refl ez') (fun x i h1 h2 h3 h4 h5 => hC x i (by omega) (by omega) (by omega) (by omega) (by omega) (by omega)) (fun x i h1 h2 h3 h4 h5 h6 => hD x i (by omega) (by omega) (by omega) ?_ ?_ ?_) hRp (fun q p hp => ?_) h64 hrr (Rsd_fr f9 (fun x i q1 q2 => cA x i (by omega)) (hD _ _ (by omega) (by omega) (by omega) (by omega) (by omega) (by omega)) (fun x i q => hD x i (by omega) (by omega) (by omega) (by omega) (by omega) (by omega))) (Rrc_fr f10 (fun x i q1 q2 => cA x i (by omega)) (hD _ _ (by omega) (by omega) (by omega) (by omega) (by omega) (by omega)) (fun x i q1 q2 => hD x i (by omega) (by omega) (by omega) (by omega) (by omega) (by omega))) hBt (by omega) (fun _ => hT) (fun q => by have := he q; omega) (fun q => by rw [e8, e8', ew, ew0]; have := hl q; omega) (by rw [e8, e8', er, er0]; omega) hb8 hbr8) ht hT
  · rintro ⟨rfl, q⟩
    have hw1 : wd x = 1 := by
      unfold wd
      rw [if_neg (by omega), if_neg (by omega), if_neg (by omega), if_neg (by omega), if_neg (by omega), if_neg (by omega)]
    exact h4 ⟨by omega, by omega, by rw [hw1]; omega, by rw [hw1]; omega⟩
  · rintro ⟨rfl, q1, q2⟩
    exact h4 ⟨by omega, by omega, by show t * 64 ≤ i; omega, by show i < (t + 1) * 64; omega⟩
  · rintro ⟨q1, q2, q3, q4⟩
    have hw1 : wd x = 312 := by
      unfold wd
      rw [if_neg (by omega), if_neg (by omega), if_neg (by omega), if_pos (by omega)]
    exact h4 ⟨by omega, by omega, by rw [hw1]; omega, by rw [hw1]; omega⟩
  · rcases h16 p hp with e | ⟨-, e⟩
    · rw [e]; exact f8 q p hp
    · exact absurd e q
