set_option linter.unusedSimpArgs false
set_option linter.unusedVariables false
/-! ===== the other part of a level ===== -/
theorem or_ok {C D C1 D1 C' D' : ao_M} {rc t k dp len b B : Nat} {e : Bool} {op fi se d : Fn} {φ : Nat → Nat} {N : Ns} {H K : Nat → Nat} (ht : t < 6) (hk : k < dp) (hd : dp ≤ 10) (cok : Cok op fi se d len φ N H K) (hI : Ins C D rc t dp) (hf : foldP C D e rc t k (dp - k) C1 D1) (hnl : nl (N b) = k) (hb : b < len) (hE : ∀ x ∈ (0, b) :: N b, Ent C D t fi se len φ N x) (e11 : C (92 + 71 * t + 8 + 6 * k) 11 = nI (nt (N b))) (hBl : B ≤ len) (hNB : N B = (0, b) :: N b) (hHB : H B = 0)
    (s2 : C (92 + 71 * t) 2 = nI 2 ∧ D 551 t = nI 2 ∧ C (92 + 71 * t) 0 = nI t ∧ C (92 + 71 * t) 17 = D 559 t ∧ C (92 + 71 * t) 18 = D 562 t ∧ C (92 + 71 * t) 19 = D 561 t ∧ C (92 + 71 * t) 14 = D 560 t ∧ C (92 + 71 * t) 16 = D 564 t)
    (hC : ∀ x i, ¬ (x = 92 + 71 * t ∧ (i = 3 ∨ i = 8)) → ¬ (x = 92 + 71 * t + 8 + 6 * k ∧ i = 9) → C' x i = cTB e t k (dp - k) C1 x i) (c3 : C' (92 + 71 * t) 3 = nI B) (c8 : C' (92 + 71 * t) 8 = nI (k + 1)) (c9 : C' (92 + 71 * t + 8 + 6 * k) 9 = 1) (hD : ∀ x i, ¬ (i = t ∧ (x = 552 ∨ x = 556 ∨ x = 557 ∨ x = 558)) → ¬ (x = 576 ∧ i = t * 12 + k) → D' x i = D1 x i) (d52 : D' 552 t = nI (φ B)) (d56 : D' 556 t = nI (k + 1)) (d76 : D' 576 (t * 12 + k) = 1) (d57 : D' 557 t = nI (ns (N b) + 1)) (d58 : D' 558 t = nI (nt (N b))) : ∃ rc', rc ≤ rc' ∧ D' 537 64 = nI rc' ∧ rc' + rsum C' t (k + 1) ≤ rc + rsum C t dp ∧ wsum C' t (k + 1) ≤ wsum C t dp ∧ Tc C' D' rc' t 2 fi se len φ N H B := by
  obtain ⟨rc', a1, a2, a3, a4, a5, a6, a7, a8⟩ := hf
  obtain ⟨I8, IL, IH⟩ := hI
  obtain ⟨k1, k2, k3, k4, k5, k6, k7⟩ := cok
  obtain ⟨m1, m2, m3, m4⟩ := k6 b (by omega)
  have hbd := chd_b (fun i hi => (k6 i hi).2.1) (N b) m4 m2
  have hlt := chd_lt (N b) m4
  rw [hnl] at hlt
  have ln := @ns_le (N b)
  have lt := @nt_le (N b)
  obtain ⟨s1, s2, s3, s4, s5, s6, s7, s8⟩ := s2
  clear k7 k5 k6
  have c1 : ∀ x i, (x < 92 + 71 * t + 8 ∨ 92 + 71 * t + 68 ≤ x) → C1 x i = C x i := fun x i hx => a5 x i (by
    rintro ⟨j, h1, h2⟩
    omega)
  have cl : ∀ j o i, j < 10 → (o = 4 ∨ o = 5 ∨ o = 0 ∧ i ≠ 3 ∧ i ≠ 4) → C1 (92 + 71 * t + 8 + 6 * j + o) i = C (92 + 71 * t + 8 + 6 * j + o) i := fun j o i hj ho => a5 _ _ (by
    rintro ⟨q, h1, h2⟩
    omega)
  have cR : ∀ i, i ≠ 3 → i ≠ 8 → i ≠ 13 → i ≠ 11 → i ≠ 5 → C' (92 + 71 * t) i = C (92 + 71 * t) i := fun i h1 h2 h3 h4 h5 => by
    rw [hC _ _ (by omega) (by omega), cTB_n (by omega) (by omega) (by omega) (by omega), c1 _ _ (by omega)]
  have cj : ∀ j o i, j ≤ k → o ≤ 5 → (j < k ∨ o ≠ 0 ∨ i ≠ 9 ∧ i ≠ 6) → C' (92 + 71 * t + 8 + 6 * j + o) i = C1 (92 + 71 * t + 8 + 6 * j + o) i := fun j o i hj ho h => by
    rw [hC _ _ (by omega) (by omega), cTB_n (by omega) (by omega) (by omega) (by omega)]
  have cj0 : ∀ j i, j ≤ k → (j < k ∨ i ≠ 9 ∧ i ≠ 6) → C' (92 + 71 * t + 8 + 6 * j) i = C1 (92 + 71 * t + 8 + 6 * j) i := fun j i hj h => cj j 0 i hj (by omega) (by omega)
  have cl0 : ∀ j i, j < 10 → i ≠ 3 → i ≠ 4 → C1 (92 + 71 * t + 8 + 6 * j) i = C (92 + 71 * t + 8 + 6 * j) i := fun j i hj h1 h2 => cl j 0 i hj (by omega)
  have c6 : C' (92 + 71 * t + 8 + 6 * k) 6 = 0 := by
    rw [hC _ _ (by omega) (by omega)]; exact cTB_6 (Nat.le_refl _) (by omega)
  have cq : ∀ x i, 92 + 71 * t + 68 ≤ x → x ≤ 92 + 71 * t + 70 → C' x i = C x i := fun x i h1 h2 => by
    rw [hC _ _ (by omega) (by omega), cTB_n (by omega) (by omega) (by omega) (by omega), c1 _ _ (by omega)]
  have dn : ∀ x i, ¬ (i = t ∧ (x = 552 ∨ x = 556 ∨ x = 557 ∨ x = 558)) → ¬ (x = 576 ∧ i = t * 12 + k) → x ≠ 577 → x ≠ 579 → x ≠ 580 → x ≠ 581 → ¬ (x = 537 ∧ i = 64) → x ≠ 542 ∧ x ≠ 555 ∧ x ≠ 553 → (x ≠ 578 ∨ i < (t * 12 + k) * 26) → (x ≠ 584 ∨ i < t * 12 + k) → D' x i = D x i := fun x i h1 h1' h2 h3 h4 h5 h6 h7 h8 h9 => by
    rw [hD _ _ h1 h1', a6 _ _ h2 h3 h4 h5 h6, dTB_n h7 (by omega) (by omega)]
  have cTa := @cTB_a e t k (dp - k) C1
  have el : k + (dp - k) = dp := by omega
  rw [el] at a1 a4
  refine ⟨rc', a3, ?_, ?_, ?_, Or.inr rfl, ?_, ?_, ?_, ?_, ?_, ?_, fun i hi => ?_, hBl, c3, d52, ?_, ?_, fun x => absurd x (by omega), fun _ => ?_⟩
  · rw [hD _ _ (by omega) (by omega)]; exact a2
  · have e1 : rsum C' t (k + 1) = rsum C1 t (k + 1) := rsum_congr _ (fun j hj => by unfold rl; rw [cj0 j 3 (by omega) (by omega)])
    have e2 := @rsum_le C1 t (dp - (k + 1)) (k + 1)
    rw [show k + 1 + (dp - (k + 1)) = dp by omega] at e2
    omega
  · have e1 : wsum C' t (k + 1) = wsum C t k := by
      rw [wsum, c6, wsum_congr k (fun j hj => by rw [cj0 j 6 (by omega) (by omega), cl0 j 6 (by omega) (by omega) (by omega)])]
      have : popc 0 = 0 := by decide
      rw [this, Nat.add_zero]
    have e2 := @wsum_le C t (dp - k) k
    rw [el] at e2
    omega
  · rw [cR _ (by omega) (by omega) (by omega) (by omega) (by omega)]; exact s1
  · rw [dn _ _ (by omega) (by omega) (by omega) (by omega) (by omega) (by omega) (by omega) (by omega) (by omega) (by omega)]; exact s2
  · rw [cR _ (by omega) (by omega) (by omega) (by omega) (by omega)]; exact s3
  · rw [cR _ (by omega) (by omega) (by omega) (by omega) (by omega), dn _ _ (by omega) (by omega) (by omega) (by omega) (by omega) (by omega) (by omega) (by omega) (by omega) (by omega)]; exact s4
  · rw [cR _ (by omega) (by omega) (by omega) (by omega) (by omega), dn _ _ (by omega) (by omega) (by omega) (by omega) (by omega) (by omega) (by omega) (by omega) (by omega) (by omega)]; exact s5
  · rw [cR _ (by omega) (by omega) (by omega) (by omega) (by omega), dn _ _ (by omega) (by omega) (by omega) (by omega) (by omega) (by omega) (by omega) (by omega) (by omega) (by omega)]; exact s6
  · rw [hC _ _ (by omega) (by omega), cTB_g hi, cl k 5 i (by omega) (by omega), hD _ _ (by omega) (by omega), a6 _ _ (by omega) (by omega) (by omega) (by omega) (by omega), dTB_53 hi (by omega)]
    exact (IL k hk).2.1 i hi
  · rw [hHB]
    refine ⟨?_, ?_, fun i hi => absurd hi (by omega)⟩
    · rw [hC _ _ (by omega) (by omega), cTa.2.2]; rfl
    · rw [hD _ _ (by omega) (by omega), a6 _ _ (by omega) (by omega) (by omega) (by omega) (by omega), dTB_55]; rfl
  · rw [hNB]
    refine ⟨?_, by rw [nt_c0]; exact d58, by rw [ns_c0]; exact d57, fun x hx => ?_⟩
    · rw [nt_c0, hC _ _ (by omega) (by omega), cTa.2.1, cl0 k 11 (by omega) (by omega) (by omega)]; exact e11
    · rcases List.mem_cons.mp hx with rfl | hx'
      · refine Ent_mv (hE _ hx) (fun e0 => ?_) (fun e0 => dn _ _ (by dsimp only; omega) (by dsimp only; omega) (by omega) (by omega) (by omega) (by omega) (by omega) (by omega) (by omega) (by omega)) (fun e0 => absurd e0 (show ¬ (0 : Nat) = 2 by omega))
        dsimp only
        rw [hnl]
        exact ⟨by rw [cj0 _ _ (by omega) (by omega), cl0 _ _ (by omega) (by omega) (by omega)], by rw [cj0 _ _ (by omega) (by omega), cl0 _ _ (by omega) (by omega) (by omega)], fun y q1 q2 => dn _ _ (by omega) (by omega) (by omega) (by omega) (by omega) (by omega) (by omega) (by omega) (by omega) (by omega)⟩
      · obtain ⟨n1, n2, n3⟩ := hbd x hx'
        obtain ⟨p1, p2, p3, p4⟩ := hlt x hx'
        refine Ent_mv (hE x hx) (fun e0 => ?_) (fun e0 => ?_) (fun e0 => ?_)
        · have := p1 e0
          exact ⟨by rw [cj0 _ _ (by omega) (by omega), cl0 _ _ (by omega) (by omega) (by omega)], by rw [cj0 _ _ (by omega) (by omega), cl0 _ _ (by omega) (by omega) (by omega)], fun y q1 q2 => dn _ _ (by omega) (by omega) (by omega) (by omega) (by omega) (by omega) (by omega) (by omega) (by omega) (by omega)⟩
        · exact dn _ _ (by omega) (by omega) (by omega) (by omega) (by omega) (by omega) (by omega) (by omega) (by omega) (by omega)
        · exact ⟨cq _ _ (by omega) (by omega), cq _ _ (by omega) (by omega), fun y q1 q2 => dn _ _ (by omega) (by omega) (by omega) (by omega) (by omega) (by omega) (by omega) (by omega) (by omega) (by omega)⟩
  · rw [hNB, nl_c0, hnl]
    refine ⟨by omega, ⟨c8, fun j hj => ?_, ?_⟩, d56, ?_, ?_⟩
    · obtain ⟨⟨l1, l2⟩, l3, l4, -⟩ := IL j (by omega)
      obtain ⟨ps, vs, ws, r1, r2⟩ := a1 j (by omega)
      have hrd : Rd C' D' rc' t j := ⟨ps, vs, ws, RdC_mv r1 (cj0 j 3 (by omega) (by omega)) (cj0 j 4 (by omega) (by omega)) (fun i => ⟨cj j 1 i (by omega) (by omega) (by omega), cj j 2 i (by omega) (by omega) (by omega), cj j 3 i (by omega) (by omega) (by omega)⟩), RdD_mv r2 (Nat.le_refl _) (fun p hp => ⟨hD _ _ (by omega) (by omega), hD _ _ (by omega) (by omega), hD _ _ (by omega) (by omega), hD _ _ (by omega) (by omega)⟩)⟩
      have hk5 : ∀ i, i < 26 → C' (92 + 71 * t + 8 + 6 * j + 5) i = D' 575 ((t * 12 + j) * 26 + i) := fun i hi => by
        rw [cj j 5 i (by omega) (by omega) (by omega), cl j 5 i (by omega) (by omega), dn 575 _ (by omega) (by omega) (by omega) (by omega) (by omega) (by omega) (by omega) (by omega) (by omega) (by omega)]; exact l3 i hi
      by_cases ej : j = k
      · subst ej
        refine ⟨⟨by rw [c9, d76], by rw [d76]; exact Or.inr rfl⟩, hk5, ⟨fun p hp => by rw [c6, bt_0], fun p hp => ⟨?_, fun q => ?_⟩⟩, hrd⟩
        · rw [c6, bt_0, hD _ _ (by omega) (by omega), a6 _ _ (by omega) (by omega) (by omega) (by omega) (by omega), dTB_78 (Nat.le_refl _) (by omega) hp]
          simp
        · rw [c6, bt_0] at q
          exact absurd q (by decide)
      · have d76' : D' 576 (t * 12 + j) = D 576 (t * 12 + j) := dn _ _ (by omega) (by omega) (by omega) (by omega) (by omega) (by omega) (by omega) (by omega) (by omega) (by omega)
        refine ⟨⟨by rw [cj0 j 9 (by omega) (by omega), cl0 j 9 (by omega) (by omega) (by omega), d76']; exact l1, by rw [d76']; exact l2⟩, hk5, ⟨fun p hp => ?_, fun p hp => ?_⟩, hrd⟩
        · rw [cj0 j 6 (by omega) (by omega), cl0 j 6 (by omega) (by omega) (by omega)]; exact l4.1 p hp
        · rw [cj0 j 6 (by omega) (by omega), cl0 j 6 (by omega) (by omega) (by omega), dn 578 _ (by omega) (by omega) (by omega) (by omega) (by omega) (by omega) (by omega) (by omega) (by omega) (by omega), cj j 4 p (by omega) (by omega) (by omega), cl j 4 p (by omega) (by omega), dn 582 _ (by omega) (by omega) (by omega) (by omega) (by omega) (by omega) (by omega) (by omega) (by omega) (by omega)]
          exact l4.2 p hp
    · refine Held_cut IH hk ?_ (fun j hj => dn _ _ (by omega) (by omega) (by omega) (by omega) (by omega) (by omega) (by omega) (by omega) (by omega) (by omega)) (fun j i hj hi => dn _ _ (by omega) (by omega) (by omega) (by omega) (by omega) (by omega) (by omega) (by omega) (by omega) (by omega)) (fun j hj => ?_) ?_ (fun i => cq _ _ (by omega) (by omega))
      · rw [hD _ _ (by omega) (by omega), a6 _ _ (by omega) (by omega) (by omega) (by omega) (by omega), dTB_84 (Nat.le_refl _) (by omega)]
      · rw [cj0 j 10 (by omega) (by omega), cl0 j 10 (by omega) (by omega) (by omega)]
      · rw [hC _ _ (by omega) (by omega), cTa.1, cl0 k 10 (by omega) (by omega) (by omega)]
    · rw [cR _ (by omega) (by omega) (by omega) (by omega) (by omega), dn _ _ (by omega) (by omega) (by omega) (by omega) (by omega) (by omega) (by omega) (by omega) (by omega) (by omega)]; exact s7
    · rw [cR _ (by omega) (by omega) (by omega) (by omega) (by omega), dn _ _ (by omega) (by omega) (by omega) (by omega) (by omega) (by omega) (by omega) (by omega) (by omega) (by omega)]; exact s8
/-- some levels stay: the whole again -/
theorem lk_fin {C D C' D' : ao_M} {ρ σ : ao_H} {kp rc rc' nw bw br t : Nat} (hF : FullP (fun u => u ≠ t) C ρ D σ kp rc nw bw br) (ht : t < 6) (hC : ∀ x i, x ≠ 14 → ¬ (92 + 71 * t ≤ x ∧ x < 92 + 71 * t + 71) → C' x i = C x i) (hD : ∀ x i, x ≠ 542 → ¬ (x = 537 ∧ i = 64) → ¬ (551 ≤ x ∧ x ≤ 584 ∧ t * wd x ≤ i ∧ i < (t + 1) * wd x) → D' x i = D x i) (hRp : Rpl kp C' ρ D' σ) (h64 : D' 537 64 = nI rc') (hrr : rc ≤ rc') (hT : Thr C' ρ D' rc' t) (c2 : C' (92 + 71 * t) 2 = C (92 + 71 * t) 2) (c15 : C' (92 + 71 * t) 15 = C (92 + 71 * t) 15) (d63 : D' 563 t = D 563 t)
    (hw : wsum C' t (dpC C' t) ≤ wsum C t (dpC C t)) (hr : rc' + rsum C' t (dpC C' t) ≤ rc + rsum C t (dpC C t)) : Full C' ρ D' σ kp rc' nw bw br := by
  have hF' := hF
  obtain ⟨-, f5, -, f8, f9, f10, f11, -, f13, -, f15, f16⟩ := hF
  obtain ⟨⟨z, ez, z9⟩, ⟨z', ez', z9'⟩⟩ := Rpl_z f5
  have hk : cntK C' = cntK C := cntK_e (fun p hp => hC _ _ (by omega) (by omega))
  refine P_Full (P_pl hF' ht (HxC_refl ez (by unfold rmC; rw [hC _ _ (by omega) (by omega)])) (HxD_refl ez') (fun x i h1 h2 h3 h4 h5 => hC x i (by omega) h2) (fun x i h1 h2 h3 h4 h5 h6 => hD x i (by omega) (by omega) h4) hRp (fun q p hp => by rw [hC _ _ (by omega) (by omega)]; exact f8 q p hp) h64 hrr (Rsd_fr f9 (fun x i q1 q2 => hC x i (by omega) (by omega)) (hD _ _ (by omega) (by omega) (by omega)) (fun x i q => hD x i (by omega) (by omega) (by omega))) (Rrc_fr f10 (fun x i q1 q2 => hC x i (by omega) (by omega)) (hD _ _ (by omega) (by omega) (by omega)) (fun x i q1 q2 => hD x i (by omega) (by omega) (by omega))) (Bth_fr f13 (hD _ _ (by omega) (by omega) (by omega)) (fun p => hC _ _ (by omega) (by omega)) (fun u hu => ?_)) (dpC_le hT) (fun _ => hT) (fun q => by omega) (fun q => by omega) (by omega) f15 f16) ht hT
  by_cases eu : u = t
  · subst eu
    exact ⟨c2, c15, d63⟩
  · have ho := oth_of (C := C) (D := D) (C' := C') (D' := D') (t := t) (fun x i h1 h2 h3 => hC x i (by omega) h3) (fun x i h1 h2 h3 => hD x i (by omega) (by omega) h3) u hu eu
    exact ⟨ho.1 _ _ (by omega) (by omega), ho.1 _ _ (by omega) (by omega), inD_1 ho.2 (by omega)⟩
