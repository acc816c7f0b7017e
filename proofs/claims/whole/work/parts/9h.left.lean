set_option linter.unusedSimpArgs false
set_option linter.unusedVariables false
/-- levels from k on were left, k of them stay -/
theorem left_ok {C D C1 D1 C' D' : ao_M} {rc t k dp len b B : Nat} {e : Bool} {op fi se d : Fn} {φ : Nat → Nat} {N : Ns} {H K : Nat → Nat} (ht : t < 6) (hk1 : 1 ≤ k) (hk : k < dp) (hd : dp ≤ 10) (cok : Cok op fi se d len φ N H K) (hI : Ins C D rc t dp) (hf : foldP C D e rc t k (dp - k) C1 D1) (hnl : nl (N b) = k) (hb : b < len) (hE : ∀ x ∈ N b, Ent C D t fi se len φ N x) (e11 : C (92 + 71 * t + 8 + 6 * k) 11 = nI (nt (N b))) (hBl : B ≤ len) (hNB : N B = N b) (hHB : H B = 0)
    (s2 : C (92 + 71 * t) 2 = nI 2 ∧ D 551 t = nI 2 ∧ C (92 + 71 * t) 0 = nI t ∧ C (92 + 71 * t) 17 = D 559 t ∧ C (92 + 71 * t) 18 = D 562 t ∧ C (92 + 71 * t) 19 = D 561 t ∧ C (92 + 71 * t) 14 = D 560 t ∧ C (92 + 71 * t) 16 = D 564 t)
    (hC : ∀ x i, ¬ (x = 92 + 71 * t ∧ (i = 3 ∨ i = 8)) → C' x i = cTB e t k (dp - k) C1 x i) (c3 : C' (92 + 71 * t) 3 = nI B) (c8 : C' (92 + 71 * t) 8 = nI k) (hD : ∀ x i, ¬ (i = t ∧ (x = 552 ∨ x = 556 ∨ x = 557 ∨ x = 558)) → D' x i = D1 x i) (d52 : D' 552 t = nI (φ B)) (d56 : D' 556 t = nI k) (d57 : D' 557 t = nI (ns (N b))) (d58 : D' 558 t = nI (nt (N b))) : ∃ rc', rc ≤ rc' ∧ D' 537 64 = nI rc' ∧ rc' + rsum C' t k ≤ rc + rsum C t dp ∧ wsum C' t k ≤ wsum C t dp ∧ Tc C' D' rc' t 2 fi se len φ N H B := by
  obtain ⟨rc', a1, a2, a3, a4, a5, a6, a7, a8⟩ := hf
  obtain ⟨I8, IL, IH⟩ := hI
  obtain ⟨k1, k2, k3, k4, k5, k6, k7⟩ := cok
  obtain ⟨m1, m2, m3, m4⟩ := k6 b (by omega)
  have hbd := chd_b (fun i hi => (k6 i hi).2.1) (N b) m4 m2
  have hlt := chd_lt (N b) m4
  rw [hnl] at hlt
  obtain ⟨s1, s2, s3, s4, s5, s6, s7, s8⟩ := s2
  clear k7 k5 k6
  have c1 : ∀ x i, (x < 92 + 71 * t + 8 ∨ 92 + 71 * t + 68 ≤ x) → C1 x i = C x i := fun x i hx => a5 x i (by
    rintro ⟨j, h1, h2⟩
    omega)
  have cl : ∀ j o i, j < 10 → (o = 4 ∨ o = 5 ∨ o = 0 ∧ i ≠ 3 ∧ i ≠ 4) → C1 (92 + 71 * t + 8 + 6 * j + o) i = C (92 + 71 * t + 8 + 6 * j + o) i := fun j o i hj ho => a5 _ _ (by
    rintro ⟨q, h1, h2⟩
    omega)
  have cR : ∀ i, i ≠ 3 → i ≠ 8 → i ≠ 13 → i ≠ 11 → i ≠ 5 → C' (92 + 71 * t) i = C (92 + 71 * t) i := fun i h1 h2 h3 h4 h5 => by
    rw [hC _ _ (by omega), cTB_n (by omega) (by omega) (by omega) (by omega), c1 _ _ (by omega)]
  have cj : ∀ j o i, j < k → o ≤ 5 → C' (92 + 71 * t + 8 + 6 * j + o) i = C1 (92 + 71 * t + 8 + 6 * j + o) i := fun j o i hj ho => by
    rw [hC _ _ (by omega), cTB_n (by omega) (by omega) (by omega) (by omega)]
  have cj0 : ∀ j i, j < k → C' (92 + 71 * t + 8 + 6 * j) i = C1 (92 + 71 * t + 8 + 6 * j) i := fun j i hj => cj j 0 i hj (by omega)
  have cl0 : ∀ j i, j < 10 → i ≠ 3 → i ≠ 4 → C1 (92 + 71 * t + 8 + 6 * j) i = C (92 + 71 * t + 8 + 6 * j) i := fun j i hj h1 h2 => cl j 0 i hj (by omega)
  have cq : ∀ x i, 92 + 71 * t + 68 ≤ x → x ≤ 92 + 71 * t + 70 → C' x i = C x i := fun x i h1 h2 => by
    rw [hC _ _ (by omega), cTB_n (by omega) (by omega) (by omega) (by omega), c1 _ _ (by omega)]
  have dn : ∀ x i, ¬ (i = t ∧ (x = 552 ∨ x = 556 ∨ x = 557 ∨ x = 558)) → x ≠ 577 → x ≠ 579 → x ≠ 580 → x ≠ 581 → ¬ (x = 537 ∧ i = 64) → x ≠ 542 ∧ x ≠ 555 ∧ x ≠ 553 → (x ≠ 578 ∨ i < (t * 12 + k) * 26) → (x ≠ 584 ∨ i < t * 12 + k) → D' x i = D x i := fun x i h1 h2 h3 h4 h5 h6 h7 h8 h9 => by
    rw [hD _ _ h1, a6 _ _ h2 h3 h4 h5 h6, dTB_n h7 (by omega) (by omega)]
  have cTa := @cTB_a e t k (dp - k) C1
  have el : k + (dp - k) = dp := by omega
  rw [el] at a1 a4
  refine ⟨rc', a3, ?_, ?_, ?_, Or.inr rfl, ?_, ?_, ?_, ?_, ?_, ?_, fun i hi => ?_, hBl, c3, d52, ?_, ?_, fun x => absurd x (by omega), fun _ => ?_⟩
  · rw [hD _ _ (by omega)]; exact a2
  · have e1 : rsum C' t k = rsum C1 t k := rsum_congr _ (fun j hj => by unfold rl; rw [cj0 j 3 hj])
    have e2 := @rsum_le C1 t (dp - k) k
    rw [el] at e2
    omega
  · have e1 : wsum C' t k = wsum C t k := wsum_congr _ (fun j hj => by rw [cj0 j 6 hj, cl0 j 6 (by omega) (by omega) (by omega)])
    have e2 := @wsum_le C t (dp - k) k
    rw [el] at e2
    omega
  · rw [cR _ (by omega) (by omega) (by omega) (by omega) (by omega)]; exact s1
  · rw [dn _ _ (by omega) (by omega) (by omega) (by omega) (by omega) (by omega) (by omega) (by omega) (by omega)]; exact s2
  · rw [cR _ (by omega) (by omega) (by omega) (by omega) (by omega)]; exact s3
  · rw [cR _ (by omega) (by omega) (by omega) (by omega) (by omega), dn _ _ (by omega) (by omega) (by omega) (by omega) (by omega) (by omega) (by omega) (by omega) (by omega)]; exact s4
  · rw [cR _ (by omega) (by omega) (by omega) (by omega) (by omega), dn _ _ (by omega) (by omega) (by omega) (by omega) (by omega) (by omega) (by omega) (by omega) (by omega)]; exact s5
  · rw [cR _ (by omega) (by omega) (by omega) (by omega) (by omega), dn _ _ (by omega) (by omega) (by omega) (by omega) (by omega) (by omega) (by omega) (by omega) (by omega)]; exact s6
  · rw [hC _ _ (by omega), cTB_g hi, cl k 5 i (by omega) (by omega), hD _ _ (by omega), a6 _ _ (by omega) (by omega) (by omega) (by omega) (by omega), dTB_53 hi (by omega)]
    exact (IL k hk).2.1 i hi
  · rw [hHB]
    refine ⟨?_, ?_, fun i hi => absurd hi (by omega)⟩
    · rw [hC _ _ (by omega), cTa.2.2]; rfl
    · rw [hD _ _ (by omega), a6 _ _ (by omega) (by omega) (by omega) (by omega) (by omega), dTB_55]; rfl
  · rw [hNB]
    refine ⟨?_, d58, d57, fun x hx => ?_⟩
    · rw [hC _ _ (by omega), cTa.2.1, cl0 k 11 (by omega) (by omega) (by omega)]; exact e11
    · obtain ⟨n1, n2, n3⟩ := hbd x hx
      obtain ⟨p1, p2, p3, p4⟩ := hlt x hx
      refine Ent_mv (hE x hx) (fun e0 => ?_) (fun e0 => ?_) (fun e0 => ?_)
      · have := p1 e0
        exact ⟨by rw [cj0 _ _ this, cl0 _ _ (by omega) (by omega) (by omega)], by rw [cj0 _ _ this, cl0 _ _ (by omega) (by omega) (by omega)], fun y q1 q2 => dn _ _ (by omega) (by omega) (by omega) (by omega) (by omega) (by omega) (by omega) (by omega) (by omega)⟩
      · exact dn _ _ (by omega) (by omega) (by omega) (by omega) (by omega) (by omega) (by omega) (by omega) (by omega)
      · exact ⟨cq _ _ (by omega) (by omega), cq _ _ (by omega) (by omega), fun y q1 q2 => dn _ _ (by omega) (by omega) (by omega) (by omega) (by omega) (by omega) (by omega) (by omega) (by omega)⟩
  · rw [hNB, hnl]
    refine ⟨hk1, ⟨c8, fun j hj => ?_, ?_⟩, d56, ?_, ?_⟩
    · obtain ⟨⟨l1, l2⟩, l3, l4, -⟩ := IL j (by omega)
      obtain ⟨ps, vs, ws, r1, r2⟩ := a1 j (by omega)
      have d76 : D' 576 (t * 12 + j) = D 576 (t * 12 + j) := dn _ _ (by omega) (by omega) (by omega) (by omega) (by omega) (by omega) (by omega) (by omega) (by omega)
      refine ⟨⟨by rw [cj0 j 9 hj, cl0 j 9 (by omega) (by omega) (by omega), d76]; exact l1, by rw [d76]; exact l2⟩, fun i hi => ?_, ⟨fun p hp => ?_, fun p hp => ?_⟩, ps, vs, ws, RdC_mv r1 (cj0 j 3 hj) (cj0 j 4 hj) (fun i => ⟨cj j 1 i hj (by omega), cj j 2 i hj (by omega), cj j 3 i hj (by omega)⟩), RdD_mv r2 (Nat.le_refl _) (fun p hp => ⟨hD _ _ (by omega), hD _ _ (by omega), hD _ _ (by omega), hD _ _ (by omega)⟩)⟩
      · rw [cj j 5 i hj (by omega), cl j 5 i (by omega) (by omega), dn 575 _ (by omega) (by omega) (by omega) (by omega) (by omega) (by omega) (by omega) (by omega) (by omega)]; exact l3 i hi
      · rw [cj0 j 6 hj, cl0 j 6 (by omega) (by omega) (by omega)]; exact l4.1 p hp
      · rw [cj0 j 6 hj, cl0 j 6 (by omega) (by omega) (by omega), dn 578 _ (by omega) (by omega) (by omega) (by omega) (by omega) (by omega) (by omega) (by omega) (by omega), cj j 4 p hj (by omega), cl j 4 p (by omega) (by omega), dn 582 _ (by omega) (by omega) (by omega) (by omega) (by omega) (by omega) (by omega) (by omega) (by omega)]
        exact l4.2 p hp
    · obtain ⟨hl, h1, h2, h3⟩ := IH
      obtain ⟨w1, w2, w3, w4⟩ := h1 k hk
      obtain ⟨l, el2⟩ := cat_mono (hl := hl) (dp - k) k
      rw [el] at el2
      refine ⟨hl, fun j hj => ?_, ?_, fun i hi h200 => ?_⟩
      · obtain ⟨v1, v2, v3, v4⟩ := h1 j (by omega)
        exact ⟨v1, by rw [dn 584 _ (by omega) (by omega) (by omega) (by omega) (by omega) (by omega) (by omega) (by omega) (by omega)]; exact v2, by rw [cj0 j 10 hj, cl0 j 10 (by omega) (by omega) (by omega)]; exact v3, fun i hi => by rw [dn 583 _ (by omega) (by omega) (by omega) (by omega) (by omega) (by omega) (by omega) (by omega) (by omega)]; exact v4 i hi⟩
      · rw [hC _ _ (by omega), cTa.1, cl0 k 10 (by omega) (by omega) (by omega)]; exact w3
      · rw [cq _ _ (by omega) (by omega), h3 i (by rw [el2]; simp; omega) h200]
        simp only [el2]
        rw [List.getElem_append_left hi]
    · rw [cR _ (by omega) (by omega) (by omega) (by omega) (by omega), dn _ _ (by omega) (by omega) (by omega) (by omega) (by omega) (by omega) (by omega) (by omega) (by omega)]; exact s7
    · rw [cR _ (by omega) (by omega) (by omega) (by omega) (by omega), dn _ _ (by omega) (by omega) (by omega) (by omega) (by omega) (by omega) (by omega) (by omega) (by omega)]; exact s8
