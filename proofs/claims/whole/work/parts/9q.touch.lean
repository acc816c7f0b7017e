set_option linter.unusedSimpArgs false
set_option linter.unusedVariables false
theorem Bth_fr2 {C D C' D' : ao_M} {nw : Nat} (h : Bth C D nw) (hb : D' 537 63 = D 537 63) (h16 : ∀ p, p < 26 → C' 16 p = C 16 p ∨ C' 16 p = -1) (hs : ∀ u, u < 6 → C' (92 + 71 * u) 2 = C (92 + 71 * u) 2 ∧ C' (92 + 71 * u) 15 = C (92 + 71 * u) 15 ∧ D' 563 u = D 563 u) : Bth C' D' nw := by
  obtain ⟨f, g, bs, b0, b1, bk, b2⟩ := h
  refine ⟨f, g, bs, by rw [hb]; exact b0, b1, fun o ho hn p hp => ?_, fun u hu h => ?_⟩
  · rw [(hs o ho).1] at hn
    rcases h16 p hp with q | q
    · rw [q]; exact bk o ho hn p hp
    · rw [q]
      intro q2
      have := n_neg (n := o) (by omega)
      rw [← q2] at this
      exact absurd rfl (by rw [this]; exact id)
  rw [(hs u hu).1] at h
  obtain ⟨c1, c2, c3, c4, c5⟩ := b2 u hu h
  refine ⟨by rw [(hs u hu).2.1]; exact c1, by rw [(hs u hu).2.2]; exact c2, c3, c4, fun v hv hne hsv => ?_⟩
  rw [(hs v hv).1] at hsv
  exact c5 v hv hne hsv
theorem Md_Thr {C D : ao_M} {ρ : ao_H} {rc o : Nat} (h : Thr C ρ D rc o) (h2 : C (92 + 71 * o) 2 = 2) : ∃ len kd a1 a2 a3 φ N H K l, Md C ρ D rc o len kd a1 a2 a3 φ N H K l := by
  obtain ⟨s, c1, c2, c3, c4, c5, c6, c7, c8, c9, c10, c11⟩ := h
  have es : s = 2 := by
    rw [c2] at h2
    have := (n_eql (a := s) (b := 2) (show s < 2147483648 by omega) (by decide)).mp h2
    exact this
  subst es
  rcases c11 with ⟨c11, -⟩ | ⟨-, len, kd, a1, a2, a3, φ, N, H, K, g1, g2, g3⟩
  · omega
  obtain ⟨a, e1, e2, e3, e4, e5, e6, e7, e8, e9⟩ := g3.2.1 rfl
  have := g2.2.2.2.2.2.1 a e1
  exact ⟨len, kd, a1, a2, a3, φ, N, H, K, N a, g1, g2, ⟨c2, c3, c4, c5, c6, c7, e8, e9, e7⟩, c8, e4, ⟨this.2.2.2, this.2.1, e5⟩, e6⟩
/-- a restart, in the whole -/
theorem rst_P {P : Nat → Prop} {C D : ao_M} {ρ σ : ao_H} {kp rc nw bw br t k len kd a1 a2 a3 : Nat} {φ : Nat → Nat} {N : Ns} {H K : Nat → Nat} {l : List (Nat × Nat)} (hF : FullP P C ρ D σ kp rc nw bw br) (ht : t < 6) (hM : Md C ρ D rc t len kd a1 a2 a3 φ N H K l) (hk : k < nl l) :
    hv (fun n => gX2_restart n 12 (92 + 71 * t) (nI k) C ρ) (fun y => hv (fun n => gX12_restart n 537 (nI t) (nI k) D σ) (fun w => ∃ kp', FullP P y.1 y.2 w.1 w.2 kp' rc nw bw br ∧ Thr y.1 y.2 w.1 rc t ∧ FCt t C ρ y.1 y.2 ∧ FDt t D σ w.1 w.2)) := by
  have hF' := hF
  obtain ⟨⟨f1, f2, f3, f4⟩, f5, ⟨f6, f7, fX⟩, f8, f9, f10, f11, f12, f13, f14, f15, f16⟩ := hF
  obtain ⟨m1, m2, ⟨g1, g2, g3, g4, g5, g6, g7, g8, g9⟩, m4, m5, ⟨m6, m7, m8⟩, mI⟩ := hM
  have l1 := @nl_le l
  have hnow : C 12 6 = D 537 65 := by
    obtain ⟨-, -, -, -, x1, x2, -⟩ := fX
    rw [x1, x2]
  have hkp : kp ≤ 29000 := by
    obtain ⟨e1, e2, -⟩ := f14
    by_cases q : D 537 27 = 3 ∨ D 537 27 = 4
    · have := e1 q; omega
    · have := e2 q; omega
  refine hv_mono (rst_pair ht f1 f2 f4 hk (by omega) hkp f5 f6 f8 hnow (fun _ => g8) mI g9 g3 m2 m6 m5.2.2.2 rfl) ?_
  intro y hy
  refine hv_mono hy ?_
  clear hy
  rintro w ⟨r1, r2, r3, r4, r5, r6, r7, r8, r9, r10, r11, r12, r13, r14, r15⟩
  obtain ⟨C', ρ'⟩ := y
  obtain ⟨D', σ'⟩ := w
  dsimp only at r1 r2 r3 r4 r5 r6 r7 r8 r9 r10 r11 r12 r13 r14 r15 ⊢
  clear hnow f1 f2 f3 f4
  have zc := sh_zc f5
  have zd := sh_zd f5
  have npc : ∀ x, (x < 19 ∨ 21 < x) ∧ x < 599 → ¬ PAc ρ x := fun x hx => Rpl_nc f5 hx
  have npd : ∀ x, (x < 547 ∨ 549 < x) ∧ x < 599 → ¬ PAd σ x := fun x hx => Rpl_nd f5 hx
  have cl : ∀ x i, (x < 13 ∨ 22 ≤ x ∧ x < 599) → ¬ (92 + 71 * t ≤ x ∧ x < 92 + 71 * t + 71) → C' x i = C x i := fun x i h1 h2 => r2.2 x i (by omega) h2 (npc x (by omega)) (fun z hz => by have := zc z hz; omega)
  have dl : ∀ x i, x < 599 → ¬ (x = 537 ∧ (i = 25 ∨ i = 26)) → (x < 542 ∨ 549 < x) → ¬ (551 ≤ x ∧ x ≤ 584 ∧ t * wd x ≤ i ∧ i < (t + 1) * wd x) → D' x i = D x i := fun x i h0 h1 h2 h4 => by
    by_cases e : x = 550
    · subst e; exact r10 i
    · exact r3.2 x i h1 (by omega) (by omega) (npd x (by omega)) (fun z hz => by have := zd z hz; omega)
  have hT : Thr C' ρ' D' rc t := by
    obtain ⟨k1, k2, k3, k4⟩ := Cat_fr m1 ht r2.1 zc (fun x i hx h1 h2 => r2.2 x i (by omega) (by omega) h1 h2)
    refine ⟨2, by omega, by rw [r8 2 (by omega)]; exact g1, by rw [r9 551 (by omega)]; exact g2, by rw [r8 0 (by omega)]; exact g3, by rw [r6, r7, g4], by rw [r8 18 (by omega), r9 562 (by omega)]; exact g5, by rw [r8 19 (by omega), r9 561 (by omega)]; exact g6, r5, fun q => absurd rfl q, fun q => absurd rfl q, Or.inr ⟨by omega, len, kd, a1, a2, a3, φ, N, H, K, k1, ?_, ?_⟩⟩
    · rw [k2, k3, k4, dcd_eq (D' := D') (D := D) (fun i => r10 i)]; exact m2
    · rw [k2, k3, k4, dcd_eq (D' := D') (D := D) (fun i => r10 i)]
      exact ⟨fun e => absurd e (by omega), fun _ => r4, fun e => absurd e (by omega)⟩
  have h16 : ∀ p, p < 26 → C' 16 p = C 16 p ∨ C' 16 p = -1 := fun p hp => by
    rw [r11 p hp]
    by_cases q : k = 0 ∧ C 16 p = nI t
    · rw [if_pos q]; exact Or.inr rfl
    · rw [if_neg q]; exact Or.inl rfl
  have e8 : dpC C t = nl l := by
    unfold dpC
    rw [mI.1, n_cl (by omega)]
  have e8' : dpC C' t = k + 1 := by
    unfold dpC
    rw [r12, n_cl (by omega)]
  obtain ⟨d, ed⟩ : ∃ d, nl l = k + 1 + d := ⟨nl l - (k + 1), by omega⟩
  have ew : wsum C' t (k + 1) ≤ wsum C t (nl l) := by
    have e0 : wsum C' t (k + 1) = wsum C t k := by
      rw [wsum, r14, wsum_congr k (fun j hj => (r13 j hj).1)]
      have : popc 0 = 0 := by decide
      rw [this, Nat.add_zero]
    have := @wsum_le C t (d + 1) k
    rw [e0, ed, show k + 1 + d = k + (d + 1) by omega]
    exact this
  have er : rsum C' t (k + 1) ≤ rsum C t (nl l) := by
    have e0 : rsum C' t (k + 1) = rsum C t k := by
      rw [rsum, rsum_congr k (fun j hj => by unfold rl; rw [(r13 j hj).2])]
      have : rl C' t k = 0 := by
        unfold rl
        rw [r15]
        decide
      rw [this, Nat.mul_zero, Nat.add_zero]
    have := @rsum_le C t (d + 1) k
    rw [e0, ed, show k + 1 + d = k + (d + 1) by omega]
    exact this
  refine ⟨_, P_pl hF' ht r2.1 r3.1 (fun x i h1 h2 h3 h4 h5 => r2.2 x i (by omega) h2 h4 h5) (fun x i h1 h2 h3 h4 h5 h6 => ?_) r1 (fun q p hp => ?_) ?_ (Nat.le_refl _) (Rsd_fr f9 (fun a i q1 q2 => cl a i (by omega) (by omega)) (dl _ _ (by omega) (by omega) (by omega) (by omega)) (fun a i q => dl a i (by omega) (by omega) (by omega) (by omega))) (Rrc_fr f10 (fun a i q1 q2 => cl a i (by omega) (by omega)) (dl _ _ (by omega) (by omega) (by omega) (by omega)) (fun a i q1 q2 => dl a i (by omega) (by omega) (by omega) (by omega))) (Bth_fr2 f13 (dl _ _ (by omega) (by omega) (by omega) (by omega)) h16 (fun u hu => ?_)) (by rw [e8']; omega) (fun _ => hT) (fun q => ?_) (fun q => ?_) (by rw [e8, e8']; omega) f15 f16, hT, r2, r3⟩
  · by_cases e : x = 550
    · subst e; exact r10 i
    · exact r3.2 x i (by omega) (by omega) (by omega) h5 h6
  · rcases h16 p hp with e | e
    · rw [e]; exact f8 q p hp
    · exact e
  · rw [dl _ _ (by omega) (by omega) (by omega) (by omega)]; exact f11
  · by_cases eu : u = t
    · subst eu
      exact ⟨r8 2 (by omega), r8 15 (by omega), r9 563 (by omega)⟩
    · have ho := oth_of (C := C) (D := D) (C' := C') (D' := D') (t := t) (fun x i h1 h2 h3 => cl x i (by omega) h3) (fun x i h1 h2 h3 => dl x i (by omega) (by omega) (by omega) h3) u hu eu
      exact ⟨ho.1 _ _ (by omega) (by omega), ho.1 _ _ (by omega) (by omega), inD_1 ho.2 (by omega)⟩
  · by_cases e : k = 0
    · rw [if_pos e]
      have := cntK_t (C := C) (C' := C') (fun p hp => by rw [r11 p hp]; simp only [e, true_and]) ht
      omega
    · rw [if_neg e]
      have := cntK_e (C := C) (C' := C') (fun p hp => by rw [r11 p hp, if_neg (fun x => e x.1)])
      omega
  · have h0 : (if k = 0 then cntT C t 0 26 else 0) = 0 := by
      by_cases e : k = 0
      · rw [if_pos e]
        refine cntT_0 (fun p _ hp h => ?_)
        rw [f8 q p (by omega)] at h
        have := n_neg (n := t) (by omega)
        rw [← h] at this
        exact absurd rfl (by rw [this]; exact id)
      · rw [if_neg e]
    rw [h0, e8, e8']
    omega
