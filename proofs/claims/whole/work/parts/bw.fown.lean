set_option linter.unusedSimpArgs false
set_option linter.unusedVariables false
/-! ===== what is one side's own stays when the other side works ===== -/
/-- ρ' has all of ρ's things in O as they were, and no fewer things -/
def Kep (O : Nat → Prop) (C : ao_M) (ρ : ao_H) (C' : ao_M) (ρ' : ao_H) : Prop := (∀ x, O x → C' x = C x ∧ ρ'.1 x = ρ.1 x ∧ ρ'.2.1 x = ρ.2.1 x ∧ ρ'.2.2.1 x = ρ.2.2.1 x) ∧ ∀ z, ρ.2.2.2.1 = some z → ∃ z', ρ'.2.2.2.1 = some z' ∧ z ≤ z'
/-- nothing of O leads out of O -/
def Cls (O : Nat → Prop) (ρ : ao_H) : Prop := ∀ x k j, O x → ρ.1 x k = some j → O j
section Own
variable {O : Nat → Prop} {C D C' D' : ao_M} {ρ σ ρ' σ' : ao_H}
theorem PAc_own (h : Kep O C ρ C' ρ') (o1 : ∀ x, x < 537 → O x) {x : Nat} : PAc ρ' x ↔ PAc ρ x := by
  unfold PAc
  rw [(h.1 13 (o1 13 (by omega))).2.1]
theorem PLc_own {k : Nat} {f g hh : Nat → Int32} (h : Kep O C ρ C' ρ') (o1 : ∀ x, x < 537 → O x) (oc : Cls O ρ) (p : PLc C ρ k f g hh) : PLc C' ρ' k f g hh := by
  obtain ⟨a, b, c, rm, z, p1, p2, p3, p4, p5, p6, p7, p8, p9, p10, p11, p12, p13, p14, p15, p16, p17, p18, p19, p20, p21, p22, p23, p24, p25, p26⟩ := p
  obtain ⟨z', e1, e2⟩ := h.2 z p21
  have h13 := h.1 13 (o1 13 (by omega))
  have ha := h.1 a (oc _ _ _ (o1 13 (by omega)) p1)
  have hb := h.1 b (oc _ _ _ (o1 13 (by omega)) p2)
  have hc := h.1 c (oc _ _ _ (o1 13 (by omega)) p3)
  refine ⟨a, b, c, rm, z', by rw [h13.2.1]; exact p1, by rw [h13.2.1]; exact p2, by rw [h13.2.1]; exact p3, by rw [ha.2.2.1]; exact p4, by rw [hb.2.2.1]; exact p5, by rw [hc.2.2.1]; exact p6, by rw [ha.2.2.2]; exact p7, by rw [hb.2.2.2]; exact p8, by rw [hc.2.2.2]; exact p9, by rw [h13.1]; exact p10, by rw [h13.1]; exact p11, p12, p13, p14, p15, p16, p17, p18, p19, p20, e1, by omega, by omega, by omega, by omega, ?_⟩
  rw [ha.1, hb.1, hc.1]
  exact p26
theorem PLd_own {k : Nat} {f g hh : Nat → Int32} (h : Kep O D σ D' σ') (o1 : ∀ x, 537 ≤ x → x < 598 → O x) (oc : Cls O σ) (p : PLd D σ k f g hh) : PLd D' σ' k f g hh := by
  obtain ⟨a, b, c, rm, z, p1, p2, p3, p4, p5, p6, p7, p8, p9, p10, p12, p13, p14, p15, p16, p17, p18, p19, p20, p21, p22, p23, p24, p25, p26⟩ := p
  obtain ⟨z', e1, e2⟩ := h.2 z p21
  have h13 := h.1 537 (o1 537 (by omega) (by omega))
  have ha := h.1 a (oc _ _ _ (o1 537 (by omega) (by omega)) p1)
  have hb := h.1 b (oc _ _ _ (o1 537 (by omega) (by omega)) p2)
  have hc := h.1 c (oc _ _ _ (o1 537 (by omega) (by omega)) p3)
  refine ⟨a, b, c, rm, z', by rw [h13.2.1]; exact p1, by rw [h13.2.1]; exact p2, by rw [h13.2.1]; exact p3, by rw [ha.2.2.1]; exact p4, by rw [hb.2.2.1]; exact p5, by rw [hc.2.2.1]; exact p6, by rw [ha.2.2.2]; exact p7, by rw [hb.2.2.2]; exact p8, by rw [hc.2.2.2]; exact p9, by rw [h13.1]; exact p10, p12, p13, p14, p15, p16, p17, p18, p19, p20, e1, by omega, by omega, by omega, by omega, ?_⟩
  rw [ha.1, hb.1, hc.1]
  exact p26
theorem Cat_own {t len kd a1 a2 a3 : Nat} (ht : t < 6) (h : Kep O C ρ C' ρ') (o1 : ∀ x, x < 537 → O x) (oc : Cls O ρ) (q : Cat C ρ t len kd a1 a2 a3) : Cat C' ρ' t len kd a1 a2 a3 ∧ C' a1 = C a1 ∧ C' a2 = C a2 ∧ C' a3 = C a3 := by
  obtain ⟨b1, b2, b3, b4, b5, b6, b7, b8, b9, b10, b11, b12, b13, b14, b15, b16, b17, b18, b19, b20, b21, z, b22, b23, b24, b25, b26⟩ := q
  obtain ⟨z', e1, e2⟩ := h.2 z b22
  have ot := o1 (92 + 71 * t) (by omega)
  have ok := oc _ _ _ ot b1
  have hk := h.1 kd ok
  have h1 := h.1 a1 (oc _ _ _ ok b3)
  have h2 := h.1 a2 (oc _ _ _ ok b4)
  have h3 := h.1 a3 (oc _ _ _ ok b5)
  have np : ∀ x, ¬ PAc ρ x → ¬ PAc ρ' x := fun x q => by rw [PAc_own h o1]; exact q
  refine ⟨⟨by rw [(h.1 _ ot).2.1]; exact b1, by rw [hk.2.2.1]; exact b2, by rw [hk.2.1]; exact b3, by rw [hk.2.1]; exact b4, by rw [hk.2.1]; exact b5, by rw [h1.2.2.1]; exact b6, by rw [h2.2.2.1]; exact b7, by rw [h3.2.2.1]; exact b8, by rw [h1.2.2.2]; exact b9, by rw [h2.2.2.2]; exact b10, by rw [h3.2.2.2]; exact b11, by rw [hk.1]; exact b12, by rw [hk.1]; exact b13, b14, b15, b16, b17, np _ b18, np _ b19, np _ b20, np _ b21, z', e1, by omega, by omega, by omega, by omega⟩, h1.1, h2.1, h3.1⟩
theorem Thr_own {rc t : Nat} (q : Thr C ρ D rc t) (ht : t < 6) (hC : inC t C C') (hD : inD t D D') (hcat : ∀ len kd a1 a2 a3, Cat C ρ t len kd a1 a2 a3 → Cat C' ρ' t len kd a1 a2 a3 ∧ C' a1 = C a1 ∧ C' a2 = C a2 ∧ C' a3 = C a3) : Thr C' ρ' D' rc t := by
  obtain ⟨s, a1, a2, a3, a4, a5, a6, a7, a8, a9, a10, a11⟩ := q
  have e : ∀ i, C' (92 + 71 * t) i = C (92 + 71 * t) i := fun i => hC _ _ (by omega) (by omega)
  refine ⟨s, a1, by rw [e]; exact a2, by rw [inD_1 hD (by omega)]; exact a3, by rw [e]; exact a4, by rw [e, inD_1 hD (by omega)]; exact a5, by rw [e, inD_1 hD (by omega)]; exact a6, by rw [e, inD_1 hD (by omega)]; exact a7, Regs_fr a8 hC hD, by rw [e]; exact a9, by rw [inD_1 hD (by omega)]; exact a10, ?_⟩
  rcases a11 with ⟨a11, a12⟩ | ⟨n0, len, kd, x1, x2, x3, φ, N, H, K, g1, g2, g3⟩
  · exact Or.inl ⟨a11, fun i q1 q2 => by rw [e]; exact a12.1 i q1 q2, fun k hk => by rw [hC _ _ (by omega) (by omega)]; exact a12.2 k hk⟩
  · obtain ⟨k1, k2, k3, k4⟩ := hcat _ _ _ _ _ g1
    have ed : dcd D' t = dcd D t := by
      funext x
      unfold dcd
      by_cases q : x < 18000
      · rw [if_pos q, if_pos q, hD 550 _ (by omega) (by omega) (show t * 18000 ≤ _ by omega) (show _ < (t + 1) * 18000 by omega)]
      · rw [if_neg q, if_neg q]
    refine Or.inr ⟨n0, len, kd, x1, x2, x3, φ, N, H, K, k1, ?_, ?_⟩
    · rw [k2, k3, k4, ed]; exact g2
    · rw [k2, k3, k4, ed]; exact Run_fr g2 (Nat.le_refl _) hC hD g3
/-- all of it stays where each side's own stays -/
theorem Full_own {P : Nat → Prop} {kp rc nw bw br : Nat} (q : Full C ρ D σ kp rc nw bw br) (h : Kep O C ρ C' ρ') (o1 : ∀ x, x < 537 → O x) (oc : Cls O ρ) (g : Kep P D σ D' σ') (p1 : ∀ x, 537 ≤ x → x < 598 → P x) (pc : Cls P σ) : Full C' ρ' D' σ' kp rc nw bw br := by
  obtain ⟨⟨f1, f2, f3, f4⟩, ⟨f, g', hh, r1, r2, r3, r4, r5⟩, ⟨f6, f7, fX⟩, f8, f9, f10, f11, f12, f13, f14, f15, f16⟩ := q
  have eC : ∀ x i, x < 537 → C' x i = C x i := fun x i hx => by rw [(h.1 x (o1 x hx)).1]
  have eD : ∀ x i, 537 ≤ x → x < 598 → D' x i = D x i := fun x i h1 h2 => by rw [(g.1 x (p1 x h1 h2)).1]
  have hdp : ∀ u, u < 6 → dpC C' u = dpC C u := fun u hu => by unfold dpC; rw [eC _ _ (by omega)]
  have hi : ∀ u, u < 6 → inC u C C' ∧ inD u D D' := fun u hu => ⟨fun a i h1 h2 => eC a i (by omega), fun a i h1 h2 _ _ => eD a i (by omega) (by omega)⟩
  refine ⟨⟨?_, ?_, ?_, ?_⟩, ⟨f, g', hh, PLc_own h o1 oc r1, PLd_own g p1 pc r2, r3, fun p hp => ?_, ?_⟩, ⟨?_, ?_, Ext_fr fX rfl (fun x i q => eC x i (by omega)) (fun x i q => eD x i (by omega) (by omega))⟩, ?_, Rsd_fr f9 (fun a i h1 h2 => eC a i (by omega)) (eD _ _ (by omega) (by omega)) (fun a i h1 => eD a i (by omega) (by omega)), Rrc_fr f10 (fun a i h1 h2 => eC a i (by omega)) (eD _ _ (by omega) (by omega)) (fun a i h1 h2 => eD a i (by omega) (by omega)), by rw [eD _ _ (by omega) (by omega)]; exact f11, fun t ht => Thr_own (f12 t ht) ht (hi t ht).1 (hi t ht).2 (fun _ _ _ _ _ => Cat_own ht h o1 oc), Bth_fr f13 (eD _ _ (by omega) (by omega)) (fun p => eC _ _ (by omega)) (fun u hu => ⟨eC _ _ (by omega), eC _ _ (by omega), eD _ _ (by omega) (by omega)⟩), ?_, f15, f16⟩
  · exact ShA_own (ρ := ρ) (fun x hx => (h.1 x (o1 x hx)).2.2.1) (fun x hx => (h.1 x (o1 x hx)).2.2.2) (fun x k hx _ => by rw [(h.1 x (o1 x hx)).2.1]) f1
  · exact ShB_own (ρ := ρ) (fun x hx => (h.1 x (o1 x hx)).2.2.1) (fun x hx => (h.1 x (o1 x hx)).2.2.2) (fun x k hx _ => by rw [(h.1 x (o1 x hx)).2.1]) f2
  · exact ShG_own (ρ := ρ) (fun x hx => (h.1 x (o1 x hx)).2.2.1) (fun x hx => (h.1 x (o1 x hx)).2.2.2) (fun x k hx _ => by rw [(h.1 x (o1 x hx)).2.1]) f3
  · exact ShD_own (ρ := σ) (fun x hx => (g.1 x (p1 x hx.1 hx.2)).2.2.1) (fun x hx => (g.1 x (p1 x hx.1 hx.2)).2.2.2) (fun x k hx _ => by rw [(g.1 x (p1 x hx.1 hx.2)).2.1]) f4
  · have := r4 p hp
    rw [eC _ _ (by omega), eC _ _ (by omega), eC _ _ (by omega), eC _ _ (by omega), eC _ _ (by omega), eD _ _ (by omega) (by omega), eD _ _ (by omega) (by omega), eD _ _ (by omega) (by omega), eD _ _ (by omega) (by omega), eD _ _ (by omega) (by omega)]
    exact this
  · rw [eC _ _ (by omega), eD _ _ (by omega) (by omega)]; exact r5
  · rw [eC _ _ (by omega), eD _ _ (by omega) (by omega)]; exact f6
  · rw [eD _ _ (by omega) (by omega)]; exact f7
  · rw [eD _ _ (by omega) (by omega)]
    intro q p hp
    rw [eC _ _ (by omega)]; exact f8 q p hp
  · have hb : ∀ u, u < 6 → dpC C u ≤ 10 := fun u hu => dpC_le (f12 u hu)
    have hsame : ∀ u, u < 6 → wsum C' u (dpC C' u) = wsum C u (dpC C u) ∧ rsum C' u (dpC C' u) = rsum C u (dpC C u) := by
      intro u hu
      have hdb := hb u hu
      rw [hdp u hu]
      refine ⟨wsum_congr _ (fun j hj => eC _ _ (by omega)), rsum_congr _ (fun j hj => ?_)⟩
      unfold rl
      rw [eC _ _ (by omega)]
    have ek : cntK C' = cntK C := by
      unfold cntK
      exact List.countP_congr (fun p _ => by rw [eC _ _ (by omega)])
    have s1 : sum6 (fun t => wsum C' t (dpC C' t)) = sum6 (fun t => wsum C t (dpC C t)) := by
      unfold sum6
      dsimp only
      rw [(hsame 0 (by omega)).1, (hsame 1 (by omega)).1, (hsame 2 (by omega)).1, (hsame 3 (by omega)).1, (hsame 4 (by omega)).1, (hsame 5 (by omega)).1]
    have s2 : sum6 (fun t => rsum C' t (dpC C' t)) = sum6 (fun t => rsum C t (dpC C t)) := by
      unfold sum6
      dsimp only
      rw [(hsame 0 (by omega)).2, (hsame 1 (by omega)).2, (hsame 2 (by omega)).2, (hsame 3 (by omega)).2, (hsame 4 (by omega)).2, (hsame 5 (by omega)).2]
    unfold Enr
    rw [eD _ _ (by omega) (by omega), ek, s1, s2]
    exact f14
end Own
