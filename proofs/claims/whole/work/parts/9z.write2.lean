set_option linter.unusedSimpArgs false
set_option linter.unusedVariables false
theorem popc_1 {m m' : Int32} {p : Nat} (hp : p < 26) (h : ∀ q, q < 26 → bt m' q = (bt m q || decide (q = p))) : popc m' ≤ popc m + 1 := by
  unfold popc
  have h1 := countP_or (p := fun q => bt m q) (q := fun q => decide (q = p)) (r := fun q => bt m' q) (List.range 26) (fun x hx => h x (by simpa using hx))
  have h2 : (List.range 26).countP (fun q => decide (q = p)) = 1 := by
    have : ∀ p, p < 26 → (List.range 26).countP (fun q => decide (q = p)) = 1 := by decide
    exact this p hp
  omega
theorem cntK_1 {C C' : ao_M} {p : Nat} (hp : p < 26) (h : ∀ q, q < 26 → q ≠ p → C' 16 q = C 16 q) : cntK C' ≤ cntK C + 1 := by
  unfold cntK
  have h2 : (List.range 26).countP (fun q => decide (q = p)) = 1 := by
    have : ∀ p, p < 26 → (List.range 26).countP (fun q => decide (q = p)) = 1 := by decide
    exact this p hp
  have h1 := countP_or (p := fun q => decide (C 16 q ≠ -1)) (q := fun q => decide (q = p)) (r := fun q => decide (C 16 q ≠ -1) || decide (q = p)) (List.range 26) (fun x hx => rfl)
  have h3 : (List.range 26).countP (fun q => decide (C' 16 q ≠ -1)) ≤ (List.range 26).countP (fun q => decide (C 16 q ≠ -1) || decide (q = p)) := by
    refine List.countP_mono_left (fun q hq hh => ?_)
    by_cases e : q = p
    · simp [e]
    · rw [h q (by simpa using hq) e] at hh
      simp only [hh, Bool.true_or]
  omega
theorem Rpl_tk {kp p t : Nat} {C D C' D' : ao_M} {ρ σ : ao_H} {v : Int32} (r : Rpl kp C ρ D σ) (hp : p < 26) (ht : t < 6) (hC : ∀ x i, (13 ≤ x ∧ x ≤ 21 ∨ 599 ≤ x) → ¬ (i = p ∧ (x = 14 ∨ x = 16)) → C' x i = C x i) (hD : ∀ x i, (x = 537 ∧ (i = 25 ∨ i = 26) ∨ 542 ≤ x ∧ x ≤ 549 ∨ 599 ≤ x) → ¬ (i = p ∧ (x = 542 ∨ x = 544)) → D' x i = D x i) (h1 : C' 14 p = v) (h2 : D' 542 p = v) (h3 : C' 16 p = nI t) (h4 : D' 544 p = nI t) : Rpl kp C' ρ D' σ := by
  obtain ⟨f, g, hh, pc, pd, ch, ev, ec⟩ := r
  refine ⟨f, g, hh, PLc_mv pc (hC _ _ (by omega) (by omega)) (hC _ _ (by omega) (by omega)) (fun x hx => funext fun i => hC x i (by omega) (by omega)), PLd_mv pd (hD _ _ (by omega) (by omega)) (fun x hx => funext fun i => hD x i (by omega) (by omega)), ch, fun q hq => ?_, ?_⟩
  · obtain ⟨v1, v2, v3, v4, v5, v6, v7⟩ := ev q hq
    rw [hC 15 q (by omega) (by omega), hC 17 q (by omega) (by omega), hC 18 q (by omega) (by omega), hD 543 q (by omega) (by omega), hD 545 q (by omega) (by omega), hD 546 q (by omega) (by omega)]
    by_cases e : q = p
    · subst e
      exact ⟨by rw [h1, h2], v2, by rw [h3, h4], v4, v5, Or.inr ⟨t, ht, h3⟩, v7⟩
    · rw [hC 14 q (by omega) (by omega), hC 16 q (by omega) (by omega), hD 542 q (by omega) (by omega), hD 544 q (by omega) (by omega)]
      exact ⟨v1, v2, v3, v4, v5, v6, v7⟩
  · rw [hC _ _ (by omega) (by omega), hD _ _ (by omega) (by omega)]; exact ec
section St9z
variable {C D : ao_M} {ρ σ : ao_H} {kp rc nw bw br t s len kd a1 a2 a3 a : Nat} {φ : Nat → Nat} {N : Ns} {H K : Nat → Nat}
/-- the end of a write in the way of those that wait for the end, or of those that do not -/
theorem wr_end {C3 D3 : ao_M} {j p : Nat} {x : Int32} {e : Bool} (hF : FullP (fun u => u ≠ t) C ρ D σ kp rc nw bw br) (ht : t < 6) (hp : p < 26) (hM : Md C ρ D rc t len kd a1 a2 a3 φ N H K (N a)) (hj : nl (N a) = j + 1) (ha : a < len) (hx : nxt φ N H K a 1 0) (hbw : bw + 1 ≤ 28000)
    (c3 : C (92 + 71 * t) 3 = nI (a + 1)) (c5 : C (92 + 71 * t) 5 = nI 0) (d55 : D 555 t = nI 0) (he : (D 537 27 = 3 ∨ D 537 27 = 4) ↔ e = true)
    (hC : ∀ y i, ¬ (e = true ∧ i = p ∧ (y = 14 ∨ y = 16)) → ¬ (y = 92 + 71 * t + 8 + 6 * j ∧ i = 6) → ¬ (y = 92 + 71 * t + 8 + 6 * j + 4 ∧ i = p) → C3 y i = C y i) (hD : ∀ y i, ¬ (e = true ∧ i = p ∧ (y = 542 ∨ y = 544)) → ¬ (y = 552 ∧ i = t) → ¬ ((y = 578 ∨ y = 582) ∧ i = (t * 12 + j) * 26 + p) → D3 y i = D y i)
    (hm : ∀ q, bt (C3 (92 + 71 * t + 8 + 6 * j) 6) q = (bt (C (92 + 71 * t + 8 + 6 * j) 6) q || decide (q = p))) (h78 : D3 578 ((t * 12 + j) * 26 + p) = 1) (hwv : C3 (92 + 71 * t + 8 + 6 * j + 4) p = D3 582 ((t * 12 + j) * 26 + p)) (h52 : D3 552 t = nI (φ a + 1))
    (hE : e = true → C3 14 p = D3 542 p ∧ C3 16 p = nI t ∧ D3 544 p = nI t) : Full C3 ρ D3 σ kp rc nw (bw + 1) br := by
  obtain ⟨j1, j2, j3, j4⟩ := hx
  have f5 := hF.2.1
  have f11 : D 537 64 = nI rc := hF.2.2.2.2.2.2.1
  have f16 : br ≤ 100000000 := hF.2.2.2.2.2.2.2.2.2.2.2
  have l1 := @nl_le (N a)
  have m7 := hM.2.2.2.2.2.1.2.1
  have g7 := hM.2.2.1.2.2.2.2.2.2.1
  obtain ⟨-, -, hW, hrd⟩ := hM.2.2.2.2.2.2.2.1 j (by omega)
  refine in_fin (a' := a + 1) (j := j) hF ht hM hj j2 (by omega) (fun y i q1 q2 q3 q4 q5 q6 => hC y i (by omega) (by omega) (by omega)) (fun y i q1 q2 q3 q4 q5 q6 => hD y i (by omega) (by omega) (by omega)) ?_ (fun q hq => ?_) ?_ (by rw [j1]; exact h52) ?_ ?_ ⟨fun q hq => ?_, fun q hq => ?_⟩ ?_ ?_ (Nat.le_refl _) (fun _ => ?_) (fun _ => ?_) ?_ hbw f16
  · cases e with
    | true =>
      obtain ⟨e1, e2, e3⟩ := hE rfl
      exact Rpl_tk (v := C3 14 p) f5 hp ht (fun y i q1 q2 => hC y i (by omega) (by omega) (by omega)) (fun y i q1 q2 => hD y i (by omega) (by omega) (by omega)) rfl e1.symm e2 e3
    | false =>
      exact Rpl_cell (k := 0) f5 (fun y i q => hC y i (by simp) (by omega) (by omega)) (fun y i q => hD y i (by simp) (by omega) (by omega))
  · by_cases q0 : e = true ∧ q = p
    · obtain ⟨rfl, rfl⟩ := q0
      exact Or.inr ⟨(hE rfl).2.1, he.mpr rfl⟩
    · exact Or.inl (hC _ _ (fun z => q0 ⟨z.1, z.2.1⟩) (by omega) (by omega))
  · rw [hC _ _ (by omega) (by omega) (by omega)]; exact c3
  · rw [j3]
    exact ⟨by rw [hC _ _ (by omega) (by omega) (by omega)]; exact c5, by rw [hD _ _ (by omega) (by omega) (by omega)]; exact d55, fun i hi => absurd hi (by omega)⟩
  · rw [hC _ _ (by omega) (by omega) (by omega), hD _ _ (by omega) (by omega) (by omega)]; exact g7
  · rw [hm q, hW.1 q hq, Bool.false_or]
    exact decide_eq_false (by omega)
  · by_cases eq : q = p
    · subst eq
      rw [hm q, h78]
      simp only [decide_true, Bool.or_true, ↓reduceIte, true_and]
      exact fun _ => hwv
    · have : bt (C3 (92 + 71 * t + 8 + 6 * j) 6) q = bt (C (92 + 71 * t + 8 + 6 * j) 6) q := by
        rw [hm q]
        simp [eq]
      rw [this, hD 578 _ (by omega) (by omega) (by omega), hC _ q (by omega) (by omega) (by omega), hD 582 _ (by omega) (by omega) (by omega)]
      exact hW.2 q hq
  · obtain ⟨ps, vs, ws, r1, r2⟩ := hrd
    exact ⟨ps, vs, ws, RdC_mv r1 (hC _ _ (by omega) (by omega) (by omega)) (hC _ _ (by omega) (by omega) (by omega)) (fun k => ⟨hC _ _ (by omega) (by omega) (by omega), hC _ _ (by omega) (by omega) (by omega), hC _ _ (by omega) (by omega) (by omega)⟩), RdD_mv r2 (Nat.le_refl _) (fun q hq => ⟨hD _ _ (by omega) (by omega) (by omega), hD _ _ (by omega) (by omega) (by omega), hD _ _ (by omega) (by omega) (by omega), hD _ _ (by omega) (by omega) (by omega)⟩)⟩
  · rw [hD _ _ (by omega) (by omega) (by omega)]; exact f11
  · have := cntK_1 (C := C) (C' := C3) hp (fun q hq hne => hC _ _ (by omega) (by omega) (by omega))
    omega
  · have := popc_1 (m := C (92 + 71 * t + 8 + 6 * j) 6) (m' := C3 (92 + 71 * t + 8 + 6 * j) 6) hp (fun q _ => hm q)
    omega
  · have : rl C3 t j = rl C t j := by
      unfold rl
      rw [hC _ _ (by omega) (by omega) (by omega)]
    rw [this]
    exact Nat.le_refl _
end St9z
