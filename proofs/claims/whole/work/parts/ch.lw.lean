set_option linter.unusedSimpArgs false
set_option linter.unusedVariables false
/-! ===== class and reference in one memory ===== -/
def lnS (ρ : ao_H) : Nat := lnP ρ 22 + lnP ρ 23 + lnP ρ 24
/-- m calls were made; O is the class's -/
def LW (m : Nat) (M : ao_M) (ρ : ao_H) : Prop := ∃ (O : Nat → Prop) (z : Nat), ρ.2.2.2.1 = some z ∧ 599 ≤ z ∧ (∀ x, O x → x < z) ∧ (∀ x, x < 537 → O x) ∧ O 598 ∧ (∀ x, 537 ≤ x → x < 598 → ¬ O x) ∧ (∀ x k j, O x → ρ.1 x k = some j → O j) ∧ (∀ x k j, x < z → ¬ O x → ρ.1 x k = some j → ¬ O j) ∧
  ∃ rm, rm ≤ 131072 ∧ M 13 9 = nI rm ∧ PR m (1000 + 5 * m + lnS ρ) (1000000 + 3100 * m + 2 * lnS ρ) (1000 + 5 * m + rm) (1000000 + 3100 * m + 6 * rm) M ρ M ρ
theorem PR_ku {m B1 B2 E1 E2 : Nat} {C D : ao_M} {ρ σ : ao_H} (h : PR m B1 B2 E1 E2 C ρ D σ) : Ku ρ ∧ Ku σ := by
  obtain ⟨kp, rc, n, -, ⟨⟨⟨-, -, -, a⟩, -⟩, -⟩, ⟨-, -, b, -⟩, -⟩ := h
  exact ⟨a, b⟩
theorem Kep_rf {O : Nat → Prop} {C : ao_M} {ρ : ao_H} : Kep O C ρ C ρ := ⟨fun _ _ => ⟨rfl, rfl, rfl, rfl⟩, fun z hz => ⟨z, hz, Nat.le_refl _⟩⟩
/-- Iv at a call's begin -/
theorem Iv_0 {W : Nat → Prop} {M : ao_M} {ρ : ao_H} (h1 : ∀ x k j, W x → ρ.1 x k = some j → W j) (h2 : ∀ z, ρ.2.2.2.1 = some z → ∀ x, z ≤ x → W x) : Iv W M ρ M ρ := ⟨fun _ _ => ⟨rfl, rfl, rfl, rfl⟩, h1, h2, fun z0 h => ⟨⟨z0, h, Nat.le_refl _⟩, fun _ _ => ⟨rfl, rfl⟩⟩⟩
set_option maxHeartbeats 8000000 in
/-- the reference's side after the class has worked -/
theorem PR_dr {m B1 B2 E1 E2 F1 F2 z : Nat} {C D D' : ao_M} {ρ σ σ' : ao_H} {P : Nat → Prop} (h : PR m B1 B2 E1 E2 C ρ D σ) (p1 : ∀ x, 537 ≤ x → x < 598 → P x) (pc : Cls P σ) (hz : σ.2.2.2.1 = some z) (hz' : ∃ z', σ'.2.2.2.1 = some z' ∧ z ≤ z') (hk : ∀ x, P x → D' x = D x ∧ σ'.1 x = σ.1 x ∧ σ'.2.1 x = σ.2.1 x ∧ σ'.2.2.1 x = σ.2.2.1 x) (ku : Ku σ') (r1 : σ'.2.2.2.2.1 ≤ F1 + lnS σ) (r2 : σ'.2.2.2.2.2 ≤ F2 + 2 * lnS σ) : PR m B1 B2 F1 F2 C ρ D' σ' ∧ lnS σ' = lnS σ := by
  obtain ⟨kp, rc, n, ⟨h1, h2⟩, h3, ⟨x1, ⟨x2, x2'⟩, x3, ⟨y, x4, x4'⟩, x5, x6, x7⟩, h5, h6⟩ := h
  obtain ⟨z', hz', hle⟩ := hz'
  obtain rfl : z = y := by rw [hz] at x4; exact Option.some.inj x4
  have g : Kep P (ao_u D 537 0 0) σ (ao_u D' 537 0 0) σ' := by
    refine ⟨fun x hx => ⟨?_, (hk x hx).2⟩, fun w hw => ⟨z', hz', ?_⟩⟩
    · funext i
      unfold ao_u
      rw [(hk x hx).1]
    · rw [hz] at hw
      have := Option.some.inj hw
      omega
  have e537 := hk 537 (p1 537 (by omega) (by omega))
  have el : ∀ c, 22 ≤ c → c ≤ 24 → lnP σ' c = lnP σ c := fun c q1 q2 => by
    obtain ⟨a, a1, -⟩ := x5 c q1 q2
    unfold lnP
    rw [e537.2.1, a1]
    exact (hk a (pc _ _ _ (p1 537 (by omega) (by omega)) a1)).2.2.2
  have eS : lnS σ' = lnS σ := by
    unfold lnS
    rw [el 22 (by omega) (by omega), el 23 (by omega) (by omega), el 24 (by omega) (by omega)]
  have eS' : lnP σ' 22 + lnP σ' 23 + lnP σ' 24 = lnS σ := eS
  refine ⟨⟨kp, rc, n, ⟨h1, Full_own (O := fun _ => True) (P := P) h2 Kep_rf (fun _ _ => trivial) (fun _ _ _ _ _ => trivial) g p1 pc⟩, h3, ⟨?_, ⟨?_, ?_⟩, ku, ⟨z', hz', by omega⟩, fun c q1 q2 => ?_, by rw [eS']; exact r1, by rw [eS']; exact r2⟩, h5, h6⟩, eS⟩
  · exact ShD_own (ρ := σ) (fun x hx => (hk x (p1 x hx.1 hx.2)).2.2.1) (fun x hx => (hk x (p1 x hx.1 hx.2)).2.2.2) (fun x k hx _ => by rw [(hk x (p1 x hx.1 hx.2)).2.1]) x1
  · rw [e537.2.1]; exact x2
  · rw [(hk 538 (p1 538 (by omega) (by omega))).2.2.1]; exact x2'
  · obtain ⟨a, a1, a2, a3, a4⟩ := x5 c q1 q2
    have ha := hk a (pc _ _ _ (p1 537 (by omega) (by omega)) a1)
    refine ⟨a, by rw [e537.2.1]; exact a1, by rw [ha.2.2.2]; exact a2, by rw [ha.2.2.2]; exact a3, fun w hw => ?_⟩
    have := a4 z hz
    rw [hz'] at hw
    have := Option.some.inj hw
    omega
/-- the class's side after the reference has worked -/
theorem PR_cr {m B1 B2 E1 E2 F1 F2 rm z : Nat} {C D C' : ao_M} {ρ σ ρ' : ao_H} {O : Nat → Prop} (h : PR m B1 B2 E1 E2 C ρ D σ) (p1 : ∀ x, x < 537 → O x) (p2 : O 598) (pc : Cls O ρ) (hz : ρ.2.2.2.1 = some z) (hz' : ∃ z', ρ'.2.2.2.1 = some z' ∧ z ≤ z') (hk : ∀ x, O x → C' x = C x ∧ ρ'.1 x = ρ.1 x ∧ ρ'.2.1 x = ρ.2.1 x ∧ ρ'.2.2.1 x = ρ.2.2.1 x) (ku : Ku ρ') (hrm : C 13 9 = nI rm) (hr2 : rm ≤ 131072) (r1 : ρ'.2.2.2.2.1 ≤ F1 + rm) (r2 : ρ'.2.2.2.2.2 ≤ F2 + 6 * rm) : PR m F1 F2 E1 E2 C' ρ' D σ := by
  obtain ⟨kp, rc, n, ⟨h1, h2⟩, ⟨⟨⟨⟨a1, a2, a3⟩, a4, ⟨y, a5, a5'⟩, a6⟩, rm', ⟨m1, m2, m3, m4, m5, m6⟩, c, d⟩, h3', h30⟩, h4, h5, h6⟩ := h
  obtain ⟨z', hz', hle⟩ := hz'
  obtain rfl : z = y := by rw [hz] at a5; exact Option.some.inj a5
  have er : rm = rm' := by
    rw [hrm, n_eq (by omega) (by omega)] at m2
    exact m2
  subst er
  have eC : ∀ x i, x < 537 → C' x i = C x i := fun x i q => by rw [(hk x (p1 x q)).1]
  have g : Kep O (tk C) ρ (tk C') ρ' := by
    refine ⟨fun x hx => ⟨?_, (hk x hx).2⟩, fun w hw => ⟨z', hz', ?_⟩⟩
    · funext i
      exact tk_e (fun j => eC _ _ (by omega)) (by rw [(hk x hx).1])
    · rw [hz] at hw
      have := Option.some.inj hw
      omega
  have hf : ∀ x k, x < 537 → ρ'.1 x k = ρ.1 x k := fun x k q => by rw [(hk x (p1 x q)).2.1]
  refine ⟨kp, rc, n, ⟨by rw [eC _ _ (by omega)]; exact h1, Full_own (O := O) (P := fun _ => True) h2 g p1 pc Kep_rf (fun _ _ _ => trivial) (fun _ _ _ _ _ => trivial)⟩, ⟨⟨⟨⟨?_, ?_, ?_⟩, fun x q => ?_, ⟨z', hz', by omega⟩, ku⟩, rm, ⟨by rw [eC _ _ (by omega)]; exact m1, by rw [eC _ _ (by omega)]; exact m2, m3, m4, fun t ht => by rw [eC _ _ (by omega), eC _ _ (by omega)]; exact m5 t ht, fun i hi => by rw [eC _ _ (by omega), eC _ _ (by omega)]; exact m6 i hi⟩, by omega, by omega⟩, fun t ht => by rw [eC _ _ (by omega), eC _ _ (by omega)]; exact h3' t ht, by rw [eC _ _ (by omega)]; exact h30⟩, h4, ⟨(hk 598 p2).2.2.1.trans h5.1, (hk 598 p2).2.2.2.trans h5.2⟩, h6⟩
  · exact ShA_own (ρ := ρ) (fun x hx => (hk x (p1 x hx)).2.2.1) (fun x hx => (hk x (p1 x hx)).2.2.2) (fun x k hx _ => hf x k hx) a1
  · exact ShB_own (ρ := ρ) (fun x hx => (hk x (p1 x hx)).2.2.1) (fun x hx => (hk x (p1 x hx)).2.2.2) (fun x k hx _ => hf x k hx) a2
  · exact ShG_own (ρ := ρ) (fun x hx => (hk x (p1 x hx)).2.2.1) (fun x hx => (hk x (p1 x hx)).2.2.2) (fun x k hx _ => hf x k hx) a3
  · refine a4 x ?_
    unfold PAc at q ⊢
    rw [hf _ _ (by omega), hf _ _ (by omega), hf _ _ (by omega)] at q
    exact q
theorem PR_rm {m B1 B2 E1 E2 : Nat} {C D : ao_M} {ρ σ : ao_H} (h : PR m B1 B2 E1 E2 C ρ D σ) : ∃ rm, rm ≤ 131072 ∧ C 13 9 = nI rm ∧ ρ.2.2.2.2.1 ≤ B1 + rm ∧ ρ.2.2.2.2.2 ≤ B2 + 6 * rm := by
  obtain ⟨kp, rc, n, -, ⟨⟨-, rm, ⟨-, m2, -, m4, -⟩, c, d⟩, -⟩, -⟩ := h
  exact ⟨rm, m4, m2, by omega, by omega⟩
theorem PR_ln {m B1 B2 E1 E2 : Nat} {C D : ao_M} {ρ σ : ao_H} (h : PR m B1 B2 E1 E2 C ρ D σ) : σ.2.2.2.2.1 ≤ E1 + lnS σ ∧ σ.2.2.2.2.2 ≤ E2 + 2 * lnS σ := by
  obtain ⟨kp, rc, n, -, -, ⟨-, -, -, -, -, a, b⟩, -⟩ := h
  exact ⟨a, b⟩
theorem PR_z {m B1 B2 E1 E2 : Nat} {C D : ao_M} {ρ σ : ao_H} (h : PR m B1 B2 E1 E2 C ρ D σ) : ∃ z, σ.2.2.2.1 = some z := by
  obtain ⟨kp, rc, n, -, -, ⟨-, -, -, ⟨z, hz, -⟩, -⟩, -⟩ := h
  exact ⟨z, hz⟩
set_option maxHeartbeats 8000000 in
/-- a call on the class, then on the reference -/
theorem LW_step {m : Nat} {M : ao_M} {ρ : ao_H} {cf rf : ao_M → ao_H → Nat → Option (Int32 × ao_S)} (V : Int32 → ao_M → Int32 → ao_M → Prop)
    (hcall : ∀ (B1 B2 E1 E2 : Nat) (C : ao_M) (ρ : ao_H) (D : ao_M) (σ : ao_H), PR m B1 B2 E1 E2 C ρ D σ → hv (cf C ρ) (fun y => hv (rf D σ) (fun w => PR (m + 1) (B1 + 5) (B2 + 3100) E1 E2 y.2.1 y.2.2 w.2.1 w.2.2 ∧ V y.1 y.2.1 w.1 w.2.1)))
    (hcf : ∀ (W : Nat → Prop) (M0 : ao_M) (ρ0 : ao_H) (M : ao_M) (ρ : ao_H), W 0 → W 598 → Iv W M0 ρ0 M ρ → ∀ n z, cf M ρ n = some z → Iv W M0 ρ0 z.2.1 z.2.2)
    (hrf : ∀ (W : Nat → Prop) (M0 : ao_M) (ρ0 : ao_H) (M : ao_M) (ρ : ao_H), okr W ρ0 0 → W 537 → Iv W M0 ρ0 M ρ → ∀ n z, rf M ρ n = some z → Iv W M0 ρ0 z.2.1 z.2.2)
    (h : LW m M ρ) : hv (cf M ρ) (fun y => y.2.2.2.1 537 = 22 ∧ y.2.2.2.1 0 = 20 ∧ hv (rf y.2.1 y.2.2) (fun w => LW (m + 1) w.2.1 w.2.2 ∧ w.2.1 598 = y.2.1 598 ∧ V y.1 y.2.1 w.1 w.2.1)) := by
  obtain ⟨O, z, hz, h9, o1, o2, o3, o4, o5, o6, rm, hrm, erm, hPR⟩ := h
  obtain ⟨kuC, -⟩ := PR_ku hPR
  have kz := Ku_z kuC
  obtain ⟨N, y, ey, hy⟩ := hcall _ _ _ _ M ρ M ρ hPR
  -- what the class left alone
  have i0 : Iv (fun x => O x ∨ z ≤ x) M ρ M ρ := Iv_0 (fun x k j q e => by
    rcases q with q | q
    · exact Or.inl (o5 x k j q e)
    · rw [(kz z hz x k).1 q] at e
      exact nomatch e) (fun z' hz' x hx => Or.inr (by rw [hz] at hz'; have := Option.some.inj hz'; omega))
  have i1 := hcf (fun x => O x ∨ z ≤ x) M ρ M ρ (Or.inl (o2 0 (by omega))) (Or.inl o3) i0 N y (ey N (Nat.le_refl _))
  obtain ⟨N2, w0, ew0, hPR1, -⟩ := hy
  obtain ⟨kuY, -⟩ := PR_ku hPR1
  have kzY := Ku_z kuY
  obtain ⟨j1, j2, j3, j4⟩ := i1
  obtain ⟨⟨z1, hz1, hle1⟩, j5⟩ := j4 z hz
  have fr1 : ∀ x, ¬ O x ∧ x < z → y.2.1 x = M x ∧ y.2.2.1 x = ρ.1 x ∧ y.2.2.2.1 x = ρ.2.1 x ∧ y.2.2.2.2.1 x = ρ.2.2.1 x := fun x hx => j1 x (by
    rintro (q | q)
    · exact hx.1 q
    · omega)
  have p1 : ∀ x, 537 ≤ x → x < 598 → ¬ O x ∧ x < z := fun x q1 q2 => ⟨o4 x q1 q2, by omega⟩
  have pc : Cls (fun x => ¬ O x ∧ x < z) ρ := fun x k j q e => ⟨o6 x k j q.2 q.1 e, (kz z hz x k).2 j e⟩
  obtain ⟨rm1, hrm1, erm1, cc1, cc2⟩ := PR_rm hPR1
  obtain ⟨hPR2, eln⟩ := PR_dr (F1 := 1000 + 5 * (m + 1) + rm1) (F2 := 1000000 + 3100 * (m + 1) + 6 * rm1) hPR p1 pc hz ⟨z1, hz1, hle1⟩ fr1 kuY (by omega) (by omega)
  obtain ⟨N3, y', ey', hy'⟩ := hcall _ _ _ _ M ρ y.2.1 y.2.2 hPR2
  obtain rfl : y = y' := by
    have e1 := ey (max N N3) (by omega)
    have e2 := ey' (max N N3) (by omega)
    rw [e1] at e2
    exact Option.some.inj e2
  have hD : ShD y.2.2 := by
    obtain ⟨kp, rc, n, ⟨-, F⟩, -⟩ := hPR2
    exact F.1.2.2.2
  have hA : ShA y.2.2 := by
    obtain ⟨kp, rc, n, ⟨-, F⟩, -⟩ := hPR1
    exact F.1.1
  refine ⟨N, y, ey, hD.1, hA.1, ?_⟩
  obtain ⟨N4, w, ew, hPR3, hV⟩ := hy'
  refine ⟨N4, w, ew, ?_, ?_, hV⟩
  all_goals
    have i2 : Iv (fun x => ¬ ((O x ∨ z ≤ x) ∧ x < z1)) y.2.1 y.2.2 y.2.1 y.2.2 := Iv_0 (fun x k j q e => by
      by_cases qz : z1 ≤ x
      · rw [(kzY z1 hz1 x k).1 qz] at e
        exact nomatch e
      · have hx : ¬ O x ∧ x < z := ⟨fun q' => q ⟨Or.inl q', by omega⟩, by
          by_cases q'' : x < z
          · exact q''
          · exact absurd ⟨Or.inr (by omega), by omega⟩ q⟩
        rw [(fr1 x hx).2.1] at e
        have hj := pc x k j hx e
        rintro ⟨q' | q', -⟩
        · exact hj.1 q'
        · have := hj.2
          omega) (fun z' hz' x hx q => by
      rw [hz1] at hz'
      have := Option.some.inj hz'
      omega)
    have i3 := hrf (fun x => ¬ ((O x ∨ z ≤ x) ∧ x < z1)) y.2.1 y.2.2 y.2.1 y.2.2 (Or.inr hA.1) (by
      rintro ⟨q' | q', -⟩
      · exact o4 537 (by omega) (by omega) q'
      · omega) i2 N4 w (ew N4 (Nat.le_refl _))
    obtain ⟨l1, l2, l3, l4⟩ := i3
    obtain ⟨⟨z2, hz2, hle2⟩, l5⟩ := l4 z1 hz1
    have fr2 : ∀ x, (O x ∨ z ≤ x) ∧ x < z1 → w.2.1 x = y.2.1 x ∧ w.2.2.1 x = y.2.2.1 x ∧ w.2.2.2.1 x = y.2.2.2.1 x ∧ w.2.2.2.2.1 x = y.2.2.2.2.1 x := fun x hx => l1 x (fun q => q hx)
  · have oc : Cls (fun x => (O x ∨ z ≤ x) ∧ x < z1) y.2.2 := fun x k j q e => ⟨j2 x k j q.1 e, (kzY z1 hz1 x k).2 j e⟩
    obtain ⟨-, kuW⟩ := PR_ku hPR3
    obtain ⟨d1, d2⟩ := PR_ln hPR3
    have hPR4 := PR_cr (F1 := 1000 + 5 * (m + 1) + lnS w.2.2) (F2 := 1000000 + 3100 * (m + 1) + 2 * lnS w.2.2) hPR3 (O := fun x => (O x ∨ z ≤ x) ∧ x < z1) (fun x q => ⟨Or.inl (o2 x q), by omega⟩) ⟨Or.inl o3, by omega⟩ oc hz1 ⟨z2, hz2, hle2⟩ fr2 kuW erm1 hrm1 (by omega) (by omega)
    have kzW := Ku_z kuW
    refine ⟨fun x => (O x ∨ z ≤ x) ∧ x < z1, z2, hz2, by omega, fun x q => by have := q.2; omega, fun x q => ⟨Or.inl (o2 x q), by omega⟩, ⟨Or.inl o3, by omega⟩, fun x q1 q2 q => ?_, fun x k j q e => ?_, fun x k j qx q e => ?_, rm1, hrm1, ?_, hPR4⟩
    · rcases q.1 with q' | q'
      · exact o4 x q1 q2 q'
      · omega
    · rw [(fr2 x q).2.1] at e
      exact oc x k j q e
    · have := l2 x k j q e
      exact this
    · rw [(fr2 13 ⟨Or.inl (o2 13 (by omega)), by omega⟩).1]; exact erm1
  · exact (fr2 598 ⟨Or.inl o3, by omega⟩).1
