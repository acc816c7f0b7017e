set_option linter.unusedSimpArgs false
set_option linter.unusedVariables false
/-- the same, where what places have has changed alike -/
theorem Full_val {C D C' D' : ao_M} {ρ σ : ao_H} {kp rc rc' nw nw' bw br bw' br' t : Nat} (h : Full C ρ D σ kp rc nw bw br) (ht : t < 6) (hC : ∀ a i, a ≠ 14 → ¬ (92 + 71 * t ≤ a ∧ a < 92 + 71 * t + 71) → ¬ (22 ≤ a ∧ a ≤ 90) → C' a i = C a i)
    (hRp : Rpl kp C' ρ D' σ) (hD : ∀ a i, a ≠ 542 → ¬ (a = 537 ∧ (i = 63 ∨ i = 64 ∨ i = 68 ∨ i = 76 ∨ i = 77)) → ¬ (585 ≤ a ∧ a ≤ 593) → ¬ (551 ≤ a ∧ a ≤ 584 ∧ t * wd a ≤ i ∧ i < (t + 1) * wd a) → D' a i = D a i) (h64 : D' 537 64 = nI rc') (hrr : rc ≤ rc') (hS : Rsd C' D') (hRc : Rrc C' D') (hB : Bth C' D' ((nw' + 1) / 2)) (hT : Thr C' ρ D' rc' t)
    (hw : wsum C' t (dpC C' t) + bw ≤ wsum C t (dpC C t) + bw') (hr : rc' + rsum C' t (dpC C' t) + br ≤ rc + rsum C t (dpC C t) + br') (hbw : bw ≤ bw') (hbw8 : bw' ≤ 28000) (hbr8 : br' ≤ 100000000) (hn2 : nw' / 2 = nw / 2 := by first | rfl | omega) : Full C' ρ D' σ kp rc' nw' bw' br' := by
  obtain ⟨f0, f5, ⟨f6, f7, fX⟩, f8, f9, f10, f11, f12, f13, f14, f15, f16⟩ := h
  clear f9 f10 f13
  have d27 : D' 537 27 = D 537 27 := hD _ _ (by omega) (by omega) (by omega) (by omega)
  have cl : ∀ a i, a ≠ 14 → a < 22 ∨ 518 ≤ a → C' a i = C a i := fun a i h0 h => hC _ _ h0 (by omega) (by omega)
  have oth := oth_of (C := C) (D := D) (C' := C') (D' := D') (t := t) (fun a i h1 h2 h3 => hC a i (by omega) h3 (by omega)) (fun a i h1 h2 h3 => hD a i (by omega) (by omega) (by omega) h3)
  refine ⟨f0, hRp, ⟨?_, ?_, Ext_fr fX hn2 (fun x i q => cl x i (by omega) (by omega)) (fun x i q => hD x i (by omega) (by omega) (by omega) (by omega))⟩, ?_, hS, hRc, h64, ?_, hB, ?_, hbw8, hbr8⟩
  · rw [cl _ _ (by omega) (by omega), d27]; exact f6
  · rw [d27]; exact f7
  · rw [d27]
    intro q p hp
    rw [cl _ _ (by omega) (by omega)]; exact f8 q p hp
  · intro u hu
    by_cases e : u = t
    · subst e; exact hT
    · obtain ⟨⟨z, ez, z9⟩, _⟩ := Rpl_z f5
      exact Thr_fr (f12 u hu) hu hrr (oth u hu e).1 (oth u hu e).2 (HxC_refl ez (by unfold rmC; rw [cl _ _ (by omega) (by omega)])) (sh_zc f5) (fun x i hx _ _ => cl x i (by omega) (by omega))
  · obtain ⟨e1, e2, e3⟩ := f14
    have hsame : ∀ u, u < 6 → u ≠ t → wsum C' u (dpC C' u) = wsum C u (dpC C u) ∧ rsum C' u (dpC C' u) = rsum C u (dpC C u) := by
      intro u hu hne
      have hdp : dpC C' u = dpC C u := by
        unfold dpC
        rw [(oth u hu hne).1 _ _ (by omega) (by omega)]
      have hdb := dpC_le (f12 u hu)
      rw [hdp]
      refine ⟨wsum_congr _ (fun j hj => (oth u hu hne).1 _ _ (by omega) (by omega)), rsum_congr _ (fun j hj => ?_)⟩
      unfold rl
      rw [(oth u hu hne).1 _ _ (by omega) (by omega)]
    have s1 := sum6_one (f := fun u => wsum C u (dpC C u)) (f' := fun u => wsum C' u (dpC C' u)) ht (fun u hu hne => (hsame u hu hne).1)
    have s2 := sum6_one (f := fun u => rsum C u (dpC C u)) (f' := fun u => rsum C' u (dpC C' u)) ht (fun u hu hne => (hsame u hu hne).2)
    refine ⟨fun q => ?_, fun q => ?_, ?_⟩
    · rw [d27] at q
      have : cntK C' = cntK C := by
        unfold cntK
        exact List.countP_congr (fun p _ => by rw [cl _ _ (by omega) (by omega)])
      rw [this]
      have := e1 q
      omega
    · rw [d27] at q
      have := e2 q
      omega
    · omega
