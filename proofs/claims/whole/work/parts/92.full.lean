set_option linter.unusedSimpArgs false
set_option linter.unusedVariables false
/-! ===== all of it, on both sides ===== -/
def Rsd (C D : ao_M) : Prop := ∃ k, k ≤ 200 ∧ C 22 2 = nI k ∧ D 537 68 = nI k ∧ ∀ i, i < k → C 23 i = D 586 i ∧ C 24 i = D 585 i
/-- how many of record i's places are flagged -/
def cntF (D : ao_M) (a i : Nat) : Nat := (List.range 26).countP (fun p => decide (D a (i * 26 + p) = 1))
/-- a list of places and values, and flags -/
def RecL (C D : ao_M) (fa va pl vl i : Nat) : Prop := (∀ n, n < cntF D fa i → ∃ p, p < 26 ∧ C (pl + i) n = nI p ∧ D fa (i * 26 + p) = 1 ∧ C (vl + i) n = D va (i * 26 + p)) ∧ ∀ p, p < 26 → D fa (i * 26 + p) = 1 → ∃ n, n < cntF D fa i ∧ C (pl + i) n = nI p
def Rrc (C D : ao_M) : Prop := ∃ k, k ≤ 300 ∧ C 25 9 = nI k ∧ D 537 76 = nI k ∧ ∀ i, i < k → C 26 i = D 587 i ∧ C 29 i = D 588 i ∧ C 30 i = D 589 i ∧ C 27 i = nI (cntF D 592 i) ∧ C 28 i = nI (cntF D 593 i) ∧ (∀ p, p < 26 → (D 592 (i * 26 + p) = 0 ∨ D 592 (i * 26 + p) = 1) ∧ (D 593 (i * 26 + p) = 0 ∨ D 593 (i * 26 + p) = 1)) ∧
  (i < 14 → RecL C D 592 590 32 47 i ∧ RecL C D 593 591 62 77 i)
/-- who began first -/
def Bth (C D : ao_M) (nw : Nat) : Prop := ∃ (f g : Nat → Nat) (bs : Nat), D 537 63 = nI bs ∧ bs ≤ nw ∧ (∀ o, o < 6 → C (92 + 71 * o) 2 ≠ 2 → ∀ p, p < 26 → C 16 p ≠ nI o) ∧ ∀ t, t < 6 → (C (92 + 71 * t) 2 = 2 ∨ C (92 + 71 * t) 2 = 3) → C (92 + 71 * t) 15 = nI (f t) ∧ D 563 t = nI (g t) ∧ f t < nw ∧ g t < bs ∧
  ∀ u, u < 6 → u ≠ t → (C (92 + 71 * u) 2 = 2 ∨ C (92 + 71 * u) 2 = 3) → f t ≠ f u ∧ (f t < f u ↔ g t < g u)
/-- how many bits of a mask -/
def popc (m : Int32) : Nat := (List.range 26).countP (fun p => bt m p)
def wsum (C : ao_M) (t : Nat) : Nat → Nat
  | 0 => 0
  | n + 1 => wsum C t n + popc (C (92 + 71 * t + 8 + 6 * n) 6)
def dpC (C : ao_M) (t : Nat) : Nat := (C (92 + 71 * t) 8).toNatClampNeg
def sum6 (f : Nat → Nat) : Nat := f 0 + f 1 + f 2 + f 3 + f 4 + f 5
/-- how many places are taken -/
def cntK (C : ao_M) : Nat := (List.range 26).countP (fun p => decide (C 16 p ≠ -1))
/-- what may still come to be past, and what was read -/
def Enr (C D : ao_M) (kp rc bw br : Nat) : Prop := ((D 537 27 = 3 ∨ D 537 27 = 4) → kp + cntK C ≤ bw) ∧ (¬ (D 537 27 = 3 ∨ D 537 27 = 4) → kp + sum6 (fun t => wsum C t (dpC C t)) ≤ bw) ∧ rc + sum6 (fun t => rsum C t (dpC C t)) ≤ br
def Rjd (C D : ao_M) : Prop := ∃ k, k ≤ 14 ∧ C 518 1 = nI k ∧ D 537 82 = nI k ∧ ∀ i, i < k → C 519 i = D 594 i
def Rtp (C D : ao_M) : Prop := ∃ n, n ≤ 1000 ∧ C 0 4 = nI n ∧ D 537 6 = nI n ∧ ∀ i, i < 1000 → C 1 i = D 539 i ∧ (-128 ≤ (C 1 i).toInt ∧ (C 1 i).toInt ≤ 127)
/-- what no step touches; nw is twice the turn's number, and one more when a block began in it -/
def Ext (C D : ao_M) (nw : Nat) : Prop := Rjd C D ∧ Rtp C D ∧ C 0 5 = D 537 3 ∧ nw / 2 ≤ 20000 ∧ C 12 6 = nI (nw / 2) ∧ D 537 65 = nI (nw / 2) ∧ C 12 4 = nI (nw / 2 + 1) ∧ D 537 0 = 0
theorem Ext_fr {C D C' D' : ao_M} {nw nw' : Nat} (h : Ext C D nw) (hn : nw' / 2 = nw / 2) (hC : ∀ x i, x < 2 ∨ x = 12 ∨ x = 518 ∨ x = 519 → C' x i = C x i) (hD : ∀ x i, x = 537 ∧ (i = 0 ∨ i = 3 ∨ i = 6 ∨ i = 65 ∨ i = 82) ∨ x = 539 ∨ x = 594 → D' x i = D x i) : Ext C' D' nw' := by
  obtain ⟨⟨k, a1, a2, a3, a4⟩, ⟨n, b1, b2, b3, b4⟩, c1, c2, c3, c4, c5, c6⟩ := h
  refine ⟨⟨k, a1, ?_, ?_, fun i hi => ?_⟩, ⟨n, b1, ?_, ?_, fun i hi => ?_⟩, ?_, by rw [hn]; exact c2, ?_, ?_, ?_, ?_⟩
  · rw [hC _ _ (by omega)]; exact a2
  · rw [hD _ _ (by omega)]; exact a3
  · rw [hC _ _ (by omega), hD _ _ (by omega)]; exact a4 i hi
  · rw [hC _ _ (by omega)]; exact b2
  · rw [hD _ _ (by omega)]; exact b3
  · rw [hC _ _ (by omega), hD _ _ (by omega)]; exact b4 i hi
  · rw [hC _ _ (by omega), hD _ _ (by omega)]; exact c1
  · rw [hC _ _ (by omega), hn]; exact c3
  · rw [hD _ _ (by omega), hn]; exact c4
  · rw [hC _ _ (by omega), hn]; exact c5
  · rw [hD _ _ (by omega)]; exact c6
/-- class and reference, while turn nw is taken or is to be taken -/
def Full (C : ao_M) (ρ : ao_H) (D : ao_M) (σ : ao_H) (kp rc nw bw br : Nat) : Prop :=
  (ShA ρ ∧ ShB ρ ∧ ShG ρ ∧ ShD σ) ∧ Rpl kp C ρ D σ ∧ (C 12 5 = D 537 27 ∧ (∃ w, w ≤ 4 ∧ D 537 27 = nI w) ∧ Ext C D nw) ∧ (¬ (D 537 27 = 3 ∨ D 537 27 = 4) → ∀ p, p < 26 → C 16 p = -1) ∧ Rsd C D ∧ Rrc C D ∧ D 537 64 = nI rc ∧ (∀ t, t < 6 → Thr C ρ D rc t) ∧ Bth C D ((nw + 1) / 2) ∧ Enr C D kp rc bw br ∧ bw ≤ 28000 ∧ br ≤ 100000000
theorem wsum_congr {C C' : ao_M} {t : Nat} : ∀ (n : Nat), (∀ j, j < n → C' (92 + 71 * t + 8 + 6 * j) 6 = C (92 + 71 * t + 8 + 6 * j) 6) → wsum C' t n = wsum C t n := by
  intro n
  induction n with
  | zero => intro _; rfl
  | succ n ih =>
    intro h
    rw [wsum, wsum, ih (fun j hj => h j (by omega)), h n (by omega)]
theorem wsum_le {C : ao_M} {t : Nat} : ∀ (m n : Nat), wsum C t n ≤ wsum C t (n + m) := by
  intro m
  induction m with
  | zero => intro n; exact Nat.le_refl _
  | succ m ih =>
    intro n
    have := ih n
    rw [← Nat.add_assoc, wsum]
    omega
theorem rsum_le {C : ao_M} {t : Nat} : ∀ (m n : Nat), rsum C t n ≤ rsum C t (n + m) := by
  intro m
  induction m with
  | zero => intro n; exact Nat.le_refl _
  | succ m ih =>
    intro n
    have := ih n
    rw [← Nat.add_assoc, rsum]
    omega
theorem sum6_one {f f' : Nat → Nat} {t : Nat} (ht : t < 6) (h : ∀ u, u < 6 → u ≠ t → f' u = f u) : sum6 f' + f t = sum6 f + f' t := by
  unfold sum6
  have h0 := h 0; have h1 := h 1; have h2 := h 2; have h3 := h 3; have h4 := h 4; have h5 := h 5
  rcases (show t = 0 ∨ t = 1 ∨ t = 2 ∨ t = 3 ∨ t = 4 ∨ t = 5 by omega) with rfl | rfl | rfl | rfl | rfl | rfl <;> simp_all <;> omega
/-- a step of thread t that touches nothing but t, with its weights no greater -/
theorem Full_loc {C D C' D' : ao_M} {ρ σ : ao_H} {kp rc nw bw br t : Nat} (h : Full C ρ D σ kp rc nw bw br) (ht : t < 6) (hC : ∀ a i, ¬ (92 + 71 * t ≤ a ∧ a < 92 + 71 * t + 71) → C' a i = C a i) (hD : ∀ a i, ¬ (551 ≤ a ∧ a ≤ 584 ∧ t * wd a ≤ i ∧ i < (t + 1) * wd a) → D' a i = D a i)
    (hT : Thr C' ρ D' rc t) (h2 : C' (92 + 71 * t) 2 = C (92 + 71 * t) 2) (h15 : C' (92 + 71 * t) 15 = C (92 + 71 * t) 15) (h63 : D' 563 t = D 563 t) (hw : wsum C' t (dpC C' t) ≤ wsum C t (dpC C t)) (hr : rsum C' t (dpC C' t) ≤ rsum C t (dpC C t)) : Full C' ρ D' σ kp rc nw bw br := by
  obtain ⟨⟨f1, f2, f3, f4⟩, f5, ⟨f6, f7, fX⟩, f8, f9, f10, f11, f12, f13, f14, f15, f16⟩ := h
  have d537 : ∀ i, D' 537 i = D 537 i := fun i => hD _ _ (by omega)
  have dh : ∀ a i, a < 551 ∨ 584 < a → D' a i = D a i := fun a i h => hD _ _ (by omega)
  have cl : ∀ a i, a < 92 ∨ 518 ≤ a → C' a i = C a i := fun a i h => hC _ _ (by omega)
  have oth : ∀ u, u < 6 → u ≠ t → inC u C C' ∧ inD u D D' := by
    intro u hu hne
    refine ⟨fun a i h1 h2 => hC a i (by omega), fun a i h1 h2 h3 h4 => hD a i ?_⟩
    rintro ⟨q1, q2, q3, q4⟩
    have : u < t ∨ t < u := by omega
    rcases this with q | q
    · have : (u + 1) * wd a ≤ t * wd a := Nat.mul_le_mul_right _ q
      omega
    · have : (t + 1) * wd a ≤ u * wd a := Nat.mul_le_mul_right _ q
      omega
  refine ⟨⟨f1, f2, f3, f4⟩, Rpl_cell (k := 0) f5 (fun x i hx => cl x i (by omega)) (fun x i hx => dh x i (by omega)), ⟨?_, ?_, Ext_fr fX rfl (fun x i q => cl x i (by omega)) (fun x i q => dh x i (by omega))⟩, ?_, ?_, ?_, ?_, ?_, ?_, ?_, f15, f16⟩
  · rw [cl _ _ (by omega), d537]; exact f6
  · rw [d537]; exact f7
  · rw [d537]
    intro q p hp
    rw [cl _ _ (by omega)]; exact f8 q p hp
  · obtain ⟨k, a1, a2, a3, a4⟩ := f9
    refine ⟨k, a1, by rw [cl _ _ (by omega)]; exact a2, by rw [d537]; exact a3, fun i hi => ?_⟩
    rw [cl _ _ (by omega), cl _ _ (by omega), dh _ _ (by omega), dh _ _ (by omega)]; exact a4 i hi
  · obtain ⟨k, a1, a2, a3, a4⟩ := f10
    have ec : ∀ a i, a = 592 ∨ a = 593 → cntF D' a i = cntF D a i := fun a i ha => by
      unfold cntF
      exact List.countP_congr (fun p _ => by rw [dh _ _ (by omega)])
    have eR : ∀ fa va pl vl i, (fa = 592 ∨ fa = 593) → 584 < va → pl + i < 92 → vl + i < 92 → RecL C D fa va pl vl i → RecL C' D' fa va pl vl i := by
      intro fa va pl vl i q1 q2 q3 q4 q5
      refine ⟨fun n hn => ?_, fun p hp hf => ?_⟩
      · rw [ec _ _ q1] at hn
        obtain ⟨p, r1, r2, r3, r4⟩ := q5.1 n hn
        exact ⟨p, r1, by rw [cl _ _ (by omega)]; exact r2, by rw [dh _ _ (by omega)]; exact r3, by rw [cl _ _ (by omega), dh _ _ (by omega)]; exact r4⟩
      · rw [dh _ _ (by omega)] at hf
        obtain ⟨n, r1, r2⟩ := q5.2 p hp hf
        exact ⟨n, by rw [ec _ _ q1]; exact r1, by rw [cl _ _ (by omega)]; exact r2⟩
    refine ⟨k, a1, by rw [cl _ _ (by omega)]; exact a2, by rw [d537]; exact a3, fun i hi => ?_⟩
    obtain ⟨b1, b2, b3, b4, b5, b6, b7⟩ := a4 i hi
    refine ⟨?_, ?_, ?_, ?_, ?_, ?_, ?_⟩
    · rw [cl _ _ (by omega), dh _ _ (by omega)]; exact b1
    · rw [cl _ _ (by omega), dh _ _ (by omega)]; exact b2
    · rw [cl _ _ (by omega), dh _ _ (by omega)]; exact b3
    · rw [cl _ _ (by omega), ec _ _ (by omega)]; exact b4
    · rw [cl _ _ (by omega), ec _ _ (by omega)]; exact b5
    · intro p hp
      rw [dh _ _ (by omega), dh _ _ (by omega)]; exact b6 p hp
    · intro h14
      exact ⟨eR _ _ _ _ _ (by omega) (by omega) (by omega) (by omega) (b7 h14).1, eR _ _ _ _ _ (by omega) (by omega) (by omega) (by omega) (b7 h14).2⟩
  · rw [d537]; exact f11
  · intro u hu
    by_cases e : u = t
    · subst e; exact hT
    · obtain ⟨⟨z, ez, z9⟩, _⟩ := Rpl_z f5
      exact Thr_fr (f12 u hu) hu (Nat.le_refl _) (oth u hu e).1 (oth u hu e).2 (HxC_refl ez (by unfold rmC; rw [cl _ _ (by omega)])) (sh_zc f5) (fun x i hx _ _ => cl x i (by omega))
  · obtain ⟨f, g, bs, b0, b1, bk, b2⟩ := f13
    have st : ∀ u, u < 6 → C' (92 + 71 * u) 2 = C (92 + 71 * u) 2 ∧ C' (92 + 71 * u) 15 = C (92 + 71 * u) 15 ∧ D' 563 u = D 563 u := by
      intro u hu
      by_cases e : u = t
      · subst e; exact ⟨h2, h15, h63⟩
      · exact ⟨(oth u hu e).1 _ _ (by omega) (by omega), (oth u hu e).1 _ _ (by omega) (by omega), inD_1 (oth u hu e).2 (by omega)⟩
    refine ⟨f, g, bs, by rw [d537]; exact b0, b1, fun o ho hn p hp => by rw [cl _ _ (by omega)]; rw [(st o ho).1] at hn; exact bk o ho hn p hp, fun u hu hs => ?_⟩
    rw [(st u hu).1] at hs
    obtain ⟨c1, c2, c3, c4, c5⟩ := b2 u hu hs
    refine ⟨by rw [(st u hu).2.1]; exact c1, by rw [(st u hu).2.2]; exact c2, c3, c4, fun v hv hne hsv => ?_⟩
    rw [(st v hv).1] at hsv
    exact c5 v hv hne hsv
  · obtain ⟨e1, e2, e3⟩ := f14
    have hsame : ∀ u, u < 6 → u ≠ t → wsum C' u (dpC C' u) = wsum C u (dpC C u) ∧ rsum C' u (dpC C' u) = rsum C u (dpC C u) := by
      intro u hu hne
      have hdp : dpC C' u = dpC C u := by
        unfold dpC
        rw [(oth u hu hne).1 _ _ (by omega) (by omega)]
      have hth := f12 u hu
      have hdb : dpC C u ≤ 10 := by
        obtain ⟨s, a1, a2, a3, a4, a5, a6, a7, a8, a9, a10, a11⟩ := hth
        by_cases q2 : s = 2
        · rcases a11 with ⟨a11, -⟩ | ⟨-, len, kd, x1, x2, x3, φ, N, H, K, g1, g2, g3⟩
          · omega
          · obtain ⟨a, h1, _, _, _, _, h9, _⟩ := g3.2.1 q2
            have := (g2.2.2.2.2.2.1 a h1).2.1
            have l1 := @nl_le (N a)
            unfold dpC
            rw [h9.1, n_cl (by omega)]
            omega
        · by_cases q3 : s = 3
          · rcases a11 with ⟨a11, -⟩ | ⟨-, len, kd, x1, x2, x3, φ, N, H, K, g1, g2, g3⟩
            · omega
            · obtain ⟨b, _, _, _, _, _, _, _, h8, _⟩ := g3.2.2 q3
              unfold dpC
              rw [h8.1]
              decide
          · unfold dpC
            rw [a9 q2 q3]
            decide
      rw [hdp]
      refine ⟨wsum_congr _ (fun j hj => (oth u hu hne).1 _ _ (by omega) (by omega)), rsum_congr _ (fun j hj => ?_)⟩
      unfold rl
      rw [(oth u hu hne).1 _ _ (by omega) (by omega)]
    have s1 := sum6_one (f := fun u => wsum C u (dpC C u)) (f' := fun u => wsum C' u (dpC C' u)) ht (fun u hu hne => (hsame u hu hne).1)
    have s2 := sum6_one (f := fun u => rsum C u (dpC C u)) (f' := fun u => rsum C' u (dpC C' u)) ht (fun u hu hne => (hsame u hu hne).2)
    refine ⟨fun q => ?_, fun q => ?_, ?_⟩
    · rw [d537] at q
      have : cntK C' = cntK C := by
        unfold cntK
        exact List.countP_congr (fun p _ => by rw [cl _ _ (by omega)])
      rw [this]; exact e1 q
    · rw [d537] at q
      have := e2 q
      omega
    · omega
