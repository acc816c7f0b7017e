set_option linter.unusedSimpArgs false
set_option linter.unusedVariables false
/-! ===== expressions ===== -/
def EQ (σ : ao_H) (s : Fn) (len e i l m dep st wi h : Nat) (β : List (Bool × Nat)) (C' D' : ao_M) : Prop := ∃ i' l' m' G, i < i' ∧ i' ≤ e ∧ PC C' s len e i' l' st ∧ PD D' σ s len i' m' dep st wi ∧ l' + i ≤ l + i' ∧ m' + 2 * i ≤ m + 2 * i' ∧ l < l' ∧ m < m' ∧ G l = (m, β, h) ∧ G l' = (m', β, h + 1) ∧ Sg Tr C' D' G l l' m m' β ∧ ∀ j, l ≤ j → j < l' → isE (C' 9 j)
def EXs (ρ σ : ao_H) (s : Fn) (len e pc x T : Nat) : Prop := ∀ (C D : ao_M) (i l m dep st wi h ec ed : Nat) (β : List (Bool × Nat)), e - i ≤ T → PC C s len e i l st → PD D σ s len i m dep st wi → i ≤ e → l ≤ i → m ≤ 2 * i → dep ≤ 10 → β.length ≤ 10 → 4 * (10 - dep) + x ≤ ec → 4 * (10 - dep) + x ≤ ed → h + 3 * (10 - dep) + 1 + x ≤ 40 → hv (fun n => fGX n ec pc 2 (nI dep) 0 0 0 0 C ρ) (fun y => hv (fun n => fGE n ed pc 537 0 0 0 D σ) (fun w => PO C D σ s len e l m (EQ σ s len e i l m dep st wi h β) y w))
/-- both fail at token i -/
theorem PO_no {C D : ao_M} {σ : ao_H} {s : Fn} {len e i l m : Nat} {Q : ao_M → ao_M → Prop} {y : Int32 × ao_M} {w : (Int32 ⊕ String) × ao_S} (hi : i ≤ e) (h1 : y.1 = 0) (h2 : FrC C y.2 l) (h3 : y.2 2 2 = nI (bg s len i)) (g1 : w.1 = .inr RX11) (g2 : w.2.2 = σ) (g3 : w.2.1 537 2 = nI (bg s len i)) (g4 : FrD D w.2.1 m) : PO C D σ s len e l m Q y w := ⟨g2, h2, g4, Or.inr ⟨h1, g1, i, hi, h3, g3⟩⟩
theorem PO_yes {C D C' D' : ao_M} {σ : ao_H} {s : Fn} {len e l m : Nat} {Q : ao_M → ao_M → Prop} (h2 : FrC C C' l) (g4 : FrD D D' m) (q : Q C' D') : PO C D σ s len e l m Q (1, C') (.inl 0, D', σ) := ⟨rfl, h2, g4, Or.inl ⟨rfl, rfl, q⟩⟩
/-- a leaf -/
theorem leaf_ok {ρ σ : ao_H} {s : Fn} {len e : Nat} (hE : PE ρ σ s len e) {C D : ao_M} {i l m dep st wi h ed : Nat} {β : List (Bool × Nat)} (hC : PC C s len e i l st) (hD : PD D σ s len i m dep st wi) (hi : i < e) (h1 : l ≤ i) (h2 : m ≤ 2 * i) (hb : β.length ≤ 10) (hh : h + 1 ≤ 40) (o o' : Int32) (hv' : D 537 10 = vl s len i) (ho : isE o) (hok : ∀ op fi se d L G', op l = o → fi l = vl s len i → d (3 * m) = o' → d (3 * m + 1) = vl s len i → G' l = (m, β, h) → G' (l + 1) = (m + 1, β, h + 1) → okI op fi se d L G' l) {R : Int32 × ao_M → (Int32 ⊕ String) × ao_S → Prop} (hR : ∀ C' D', PO C D σ s len e l m (EQ σ s len e i l m dep st wi h β) (1, C') (.inl 0, D', σ) → R (1, C') (.inl 0, D', σ)) :
    hv (fun n => (gX4_leaf n 2 o C ρ).bind fun p6 => if p6.1 = 0 ∨ p6.1 = 1 then some (p6.1, p6.2) else none) (fun y => hv (fun n => fGE n ed 3055 537 (D 537 10) o' 537 D σ) (fun w => R y w)) := by
  have hρ := hE.1
  have a6 := hE.2.2.1
  have a7 := hE.2.2.2.1
  have h10 := hC.2.1.2.2.2
  obtain ⟨C1, c1, c2, c3, c4, c5, c6⟩ := c_add hE hC (show l < 1000 by omega) o (vl s len i)
  unfold gX4_leaf
  simp only [hρ, Option.bind_some, ↓reduceIte, h10, c1, Option.bind_assoc]
  refine hv_bind (c_adv hE c2 hi) ?_
  rintro C2 ⟨e1, e2⟩
  try simp only [Option.bind_some, if_pos (show (1 : Int32) = 0 ∨ (1 : Int32) = 1 from Or.inr rfl)]
  refine hv_some ?_
  obtain ⟨D1, d1, d2, d3, d4, d5, d6⟩ := d_make hE hD (show m < 6000 by omega) o' (vl s len i) 0
  refine hv_up (fun _ => fGE.eq_2 ..) ?_
  simp only [Nat.reduceEqDiff, ↓reduceIte, if_pos hD.1.1, hv', d1, Option.bind_some, ao_let]
  refine hv_bind (d_tok hE d2) ?_
  rintro D2 ⟨g1, g2⟩
  refine hv_some (hR C2 D2 (PO_yes (FrC_tr c3 (e2 l) (Nat.le_refl _)) (FrD_tr d3 (g2 m) (Nat.le_refl _)) ⟨i + 1, l + 1, m + 1, one l (m, β, h) (m + 1, β, h + 1), by omega, by omega, e1, g1, by omega, by omega, by omega, by omega, one_l, one_r, ?_, fun j q1 q2 => ?_⟩))
  · refine Sg_st hb (by omega) (by omega) (fun op fi se d L G' k1 k2 k3 k4 k5 k6 k7 _ => hok op fi se d L G' ?_ ?_ ?_ ?_ k6 k7)
    · rw [k2, ((e2 (l + 1)).2 l (by omega)).1, c4]
    · rw [k3, ((e2 (l + 1)).2 l (by omega)).2.1, c5]
    · rw [k5 _ (by omega) (by omega), (g2 (m + 1)).2 _ (by omega), d4]
    · rw [k5 _ (by omega) (by omega), (g2 (m + 1)).2 _ (by omega), d5]
  · rw [show j = l by omega]
    rw [((e2 (l + 1)).2 l (by omega)).1, c4]
    exact ho
theorem rK_neg (k : Nat) (h : k ≤ 27) (h2 : k ≠ 2) (h3 : k ≠ 3) (h4 : k ≠ 4) : ¬ rK k = 4 ∧ ¬ rK k = 1 ∧ ¬ rK k = 2 := by
  have : ∀ k, k < 28 → ¬ (k = 2 ∨ k = 3 ∨ k = 4) → ¬ rK k = 4 ∧ ¬ rK k = 1 ∧ ¬ rK k = 2 := by decide +kernel
  exact this k (by omega) (by omega)
theorem simple_ok {ρ σ : ao_H} {s : Fn} {len e T : Nat} (hE : PE ρ σ s len e) (ih : ∀ T', T' < T → EXs ρ σ s len e 3000 0 T' ∧ EXs ρ σ s len e 0 3 T') : EXs ρ σ s len e 3000 0 T := by
  intro C D i l m dep st wi h ec ed β hT hC hD hi h1 h2 hd hb hec hed hh
  have hρ := hE.1
  have a6 := hE.2.2.1
  have a7 := hE.2.2.2.1
  have h8 := hC.2.1.2.1
  have h9 := hD.2.1.1
  have hkl := @kd_le s len i
  have hby := hE.2.2.2.2.2.2.1
  refine hv_up (fun _ => fGX.eq_2 ..) ?_
  simp only [Nat.reduceEqDiff, ↓reduceIte, hρ, Option.bind_some, ao_let, h8]
  refine hv_inU (fun _ => fGE.eq_2 ..) ?_
  simp only [Nat.reduceEqDiff, ↓reduceIte, if_pos hD.1.1, ao_let, h9]
  have nk : ∀ k, k ≤ 27 → (nI (kd s len i) = nI k) = (kd s len i = k) := fun k hk => n_eq (by omega) (by omega)
  by_cases k2 : kd s len i = 2
  · refine hv_ifT (by rw [k2]; rfl) ?_
    obtain ⟨r, r1, r2⟩ := vl_ltr (b := bg s len i) hby (Or.inl k2)
    have hw : D 537 10 = vl s len i := by rw [hD.2.1.2.1 (by omega), k2]; rfl
    refine hv_inE (b := fun n => fGE n ed 3029 537 (D 537 10) 0 0 D σ) (fun n => by rw [k2]; rfl) ?_
    refine hv_inU (fun _ => fGE.eq_2 ..) ?_
    simp only [Nat.reduceEqDiff, ↓reduceIte, if_pos hD.1.1, h9, k2]
    refine hv_inE (b := fun n => fGE n ed 3055 537 (D 537 10) 2 537 D σ) (fun n => by rfl) ?_
    refine leaf_ok hE hC hD (kd_lt hE hi (by omega)) h1 h2 hb (by omega) 3 2 hw (by unfold isE; decide) (fun op fi se d L G' q1 q2 q3 q4 q5 q6 => ⟨m, β, h, q5, Or.inr (Or.inr (Or.inl ⟨q1, q3, ⟨r, r1, q2.trans r2, q4.trans r2⟩, q6⟩))⟩) (fun _ _ h => h)
  by_cases k3 : kd s len i = 3
  · refine hv_ifF (by rw [show (2 : Int32) = nI 2 from rfl, nk 2 (by omega)]; exact k2) ?_
    refine hv_ifT (by rw [k3]; rfl) ?_
    obtain ⟨r, r1, r2⟩ := vl_ltr (b := bg s len i) hby (Or.inr k3)
    have hw : D 537 10 = vl s len i := by rw [hD.2.1.2.1 (by omega), k3]; rfl
    refine hv_inE (b := fun n => fGE n ed 3029 537 (D 537 10) 0 0 D σ) (fun n => by rw [k3]; rfl) ?_
    refine hv_inU (fun _ => fGE.eq_2 ..) ?_
    simp only [Nat.reduceEqDiff, ↓reduceIte, if_pos hD.1.1, h9, k3]
    refine hv_inE (b := fun n => fGE n ed 3055 537 (D 537 10) 1 537 D σ) (fun n => by rfl) ?_
    refine leaf_ok hE hC hD (kd_lt hE hi (by omega)) h1 h2 hb (by omega) 2 1 hw (by unfold isE; decide) (fun op fi se d L G' q1 q2 q3 q4 q5 q6 => ⟨m, β, h, q5, Or.inr (Or.inl ⟨q1, q3, ⟨r, r1, q2.trans r2, q4.trans r2⟩, q6⟩)⟩) (fun _ _ h => h)
  by_cases k4 : kd s len i = 4
  · refine hv_ifF (by rw [show (2 : Int32) = nI 2 from rfl, nk 2 (by omega)]; exact k2) ?_
    refine hv_ifF (by rw [show (3 : Int32) = nI 3 from rfl, nk 3 (by omega)]; exact k3) ?_
    refine hv_ifT (by rw [k4]; rfl) ?_
    have hw : D 537 10 = vl s len i := by rw [hD.2.1.2.1 (by omega), k4]; rfl
    refine hv_inE (b := fun n => fGE n ed 3029 537 (D 537 10) 0 0 D σ) (fun n => by rw [k4]; rfl) ?_
    refine hv_inU (fun _ => fGE.eq_2 ..) ?_
    simp only [Nat.reduceEqDiff, ↓reduceIte, if_pos hD.1.1, h9, k4]
    refine hv_inE (b := fun n => fGE n ed 3055 537 (D 537 10) 0 537 D σ) (fun n => by rfl) ?_
    refine leaf_ok hE hC hD (kd_lt hE hi (by omega)) h1 h2 hb (by omega) 1 0 hw (by unfold isE; decide) (fun op fi se d L G' q1 q2 q3 q4 q5 q6 => ⟨m, β, h, q5, Or.inl ⟨q1, q3, q4.trans q2.symm, q6⟩⟩) (fun _ _ h => h)
  obtain ⟨n4, n1, n2⟩ := rK_neg _ hkl k2 k3 k4
  refine hv_ifF (by rw [show (2 : Int32) = nI 2 from rfl, nk 2 (by omega)]; exact k2) ?_
  refine hv_ifF (by rw [show (3 : Int32) = nI 3 from rfl, nk 3 (by omega)]; exact k3) ?_
  refine hv_ifF (by rw [show (4 : Int32) = nI 4 from rfl, nk 4 (by omega)]; exact k4) ?_
  simp only [if_neg n4, if_neg n1, if_neg n2, d_sign (c := 40) (k := 19) hD rfl (by omega) (by omega), Option.bind_some]
  by_cases k26 : kd s len i = 26
  · have hlt := kd_lt hE hi (by omega)
    refine hv_ifT (by rw [k26]; rfl) ?_
    simp only [if_neg (show ¬ kd s len i = 19 by omega), ↓reduceIte, d_sign (c := 45) (k := 26) hD rfl (by omega) (by omega), Option.bind_some, if_pos k26, if_neg (show ¬ (1 : Int32) = 0 by decide)]
    by_cases hd10 : dep < 10
    · rw [show (26 : Int32) = nI 26 from rfl]
      refine hv_bind (c_nst hE hC hd10 hlt k26) ?_
      rintro ⟨y1, C1⟩ ⟨e0, e1, e2⟩
      dsimp only at e0 e1 e2
      subst e0
      simp only [if_neg (show ¬ (1 : Int32) = 0 by decide), if_pos (show 0 < ec by omega), show nI dep + (1 : Int32) = nI (dep + 1) from n_add]
      refine hv_inB (d_enter hD hd10) ?_
      rintro ⟨w1, D1, σ1⟩ ⟨f0, f1, f2, f3⟩
      dsimp only at f0 f1 f2 f3
      subst f0 f1
      simp only [ao_cs]
      refine hv_inU (fun _ => fGE.eq_2 ..) ?_
      simp only [Nat.reduceEqDiff, ↓reduceIte, if_pos f2.1.1, if_pos (show 0 < ed by omega)]
      refine hv_inB (d_tok hE f2) ?_
      rintro D2 ⟨g1, g2⟩
      refine hv_seq ?_
      refine hv_mono ((ih (e - (i + 1)) (by omega)).1 C1 D2 (i + 1) l m (dep + 1) st wi h (ec - 1) (ed - 1) β (Nat.le_refl _) e1 g1 (by omega) (by omega) (by omega) (by omega) hb (by omega) (by omega) (by omega)) (fun y hy => hv_mono hy (fun w hw => ?_))
      rcases y with ⟨y1, C3⟩
      rcases w with ⟨w1, D3, σ3⟩
      obtain ⟨p1, p2, p3, ⟨p4, p5, p6⟩ | ⟨p4, p5, j, p6, p7, p8⟩⟩ := hw
      · dsimp only at p1 p2 p3 p4 p5 p6
        subst p1 p4 p5
        obtain ⟨i', l', m', G, q1, q2, q3, q4, q5, q6, q7, q8, q9, q10, q11, q12⟩ := p6
        obtain ⟨C4, c1, c2, c3, c4, c5, c6⟩ := c_add hE q3 (show l' < 1000 by omega) 9 0
        simp only [if_neg (show ¬ (1 : Int32) = 0 by decide), Option.bind_some, hρ, ↓reduceIte, c1]
        refine hv_some ?_
        simp only [ao_cs]
        refine hv_up (fun _ => fGE.eq_2 ..) ?_
        obtain ⟨r1, r2⟩ := PD_dep (m' := m') q4
        obtain ⟨D5, d1, d2, d3, d4, d5, d6⟩ := d_make hE r1 (show m' < 6000 by omega) 6 0 0
        simp only [Nat.reduceEqDiff, ↓reduceIte, if_pos q4.1.1, ao_let, d1, Option.bind_some]
        have fC : FrC C3 C4 l' := c3
        have fD : FrD D3 D5 m' := FrD_tr r2 d3 (Nat.le_refl _)
        refine hv_some (PO_yes (FrC_tr (e2 l) (FrC_tr p2 fC (by omega)) (Nat.le_refl _)) (FrD_tr (f3 m) (FrD_tr (g2 m) (FrD_tr p3 fD (by omega)) (Nat.le_refl _)) (Nat.le_refl _)) ⟨i', l' + 1, m' + 1, glue l' G (one l' (m', β, h + 1) (m' + 1, β, h + 1)), by omega, q2, c2, d2, by omega, by omega, by omega, by omega, ?_, ?_, ?_, fun j a b => ?_⟩)
        · rw [glue_lt q7]; exact q9
        · rw [glue_ge (by omega), one_r]
        · refine Sg_app (Sg_fr q11 (fun j a b => fC.2 j b) (fun x a b => fD.2 x (by omega))) (Sg_st hb (by omega) (by omega) (fun op fi se d L G' k1 k2 k3 k4 k5 k6 k7 _ => ⟨m', β, h + 1, k6, Or.inr (Or.inr (Or.inr (Or.inr (Or.inl ⟨?_, ?_, by omega, k7⟩))))⟩)) (by rw [q10, one_l])
          · rw [k2]; exact c4
          · rw [k5 _ (by omega) (by omega)]; exact d4
        · by_cases hj : j < l'
          · rw [(fC.2 j hj).1]; exact q12 j a hj
          · rw [show j = l' by omega, c4]; unfold isE; decide
      · dsimp only at p1 p2 p3 p4 p5 p7 p8
        subst p1 p4 p5
        simp only [↓reduceIte]
        refine hv_some ?_
        simp only [ao_cs]
        exact hv_some (PO_no p6 rfl (FrC_tr (e2 l) p2 (Nat.le_refl _)) p7 rfl rfl p8 (FrD_tr (f3 m) (FrD_tr (g2 m) p3 (Nat.le_refl _)) (Nat.le_refl _)))
    · rw [show (26 : Int32) = nI 26 from rfl]
      refine hv_bind (c_nst0 hE hC (fun q => hd10 q.1) (by omega) hd) ?_
      rintro ⟨y1, C1⟩ ⟨e0, e1, e2⟩
      dsimp only at e0 e1 e2
      subst e0
      simp only [↓reduceIte]
      refine hv_some ?_
      refine hv_bind (d_enter0 hE hD (by omega)) ?_
      rintro ⟨w1, D1, σ1⟩ ⟨f0, f1, f2, f3⟩
      dsimp only at f0 f1 f2 f3
      subst f0 f1
      simp only [ao_cs]
      exact hv_some (PO_no hi rfl (e1 l) e2 rfl rfl f2 (f3 m))
  refine hv_ifF (by rw [show (26 : Int32) = nI 26 from rfl, nk 26 (by omega)]; exact k26) ?_
  rw [show (19 : Int32) = nI 19 from rfl]
  by_cases k19 : dep < 10 ∧ kd s len i = 19
  · obtain ⟨hd10, k19⟩ := k19
    have hlt := kd_lt hE hi (by omega)
    refine hv_bind (c_nst hE hC hd10 hlt k19) ?_
    rintro ⟨y1, C1⟩ ⟨e0, e1, e2⟩
    dsimp only at e0 e1 e2
    subst e0
    simp only [if_neg (show ¬ (1 : Int32) = 0 by decide), if_pos (show 0 < ec by omega), show nI dep + (1 : Int32) = nI (dep + 1) from n_add, if_pos k19]
    refine hv_inB (d_enter hD hd10) ?_
    rintro ⟨w1, D1, σ1⟩ ⟨f0, f1, f2, f3⟩
    dsimp only at f0 f1 f2 f3
    subst f0 f1
    simp only [ao_cs]
    refine hv_inU (fun _ => fGE.eq_2 ..) ?_
    simp only [Nat.reduceEqDiff, ↓reduceIte, if_pos f2.1.1, if_pos (show 0 < ed by omega)]
    refine hv_inB (d_tok hE f2) ?_
    rintro D2 ⟨g1, g2⟩
    refine hv_seq ?_
    refine hv_mono ((ih (e - (i + 1)) (by omega)).2 C1 D2 (i + 1) l m (dep + 1) st wi h (ec - 1) (ed - 1) β (Nat.le_refl _) e1 g1 (by omega) (by omega) (by omega) (by omega) hb (by omega) (by omega) (by omega)) (fun y hy => hv_mono hy (fun w hw => ?_))
    rcases y with ⟨y1, C3⟩
    rcases w with ⟨w1, D3, σ3⟩
    obtain ⟨p1, p2, p3, ⟨p4, p5, p6⟩ | ⟨p4, p5, j, p6, p7, p8⟩⟩ := hw
    · dsimp only at p1 p2 p3 p4 p5 p6
      subst p1 p4 p5
      obtain ⟨i', l', m', G, q1, q2, q3, q4, q5, q6, q7, q8, q9, q10, q11, q12⟩ := p6
      simp only [if_neg (show ¬ (1 : Int32) = 0 by decide), ao_cs]
      rw [show (20 : Int32) = nI 20 from rfl]
      by_cases k20 : kd s len i' = 20
      · have hlt' := kd_lt hE q2 (by omega)
        refine hv_bind (c_exp hE q3 hlt' k20) ?_
        rintro ⟨y1, C4⟩ ⟨e3, e4, e5⟩
        dsimp only at e3 e4 e5
        subst e3
        simp only [if_neg (show ¬ (1 : Int32) = 0 by decide)]
        refine hv_some ?_
        refine hv_up (fun _ => fGE.eq_2 ..) ?_
        simp only [Nat.reduceEqDiff, ↓reduceIte, if_pos q4.1.1]
        refine hv_bind (d_need (c := 41) (k := 20) hE q4 rfl (by omega) (by omega) k20) ?_
        rintro ⟨w1, D4, σ4⟩ ⟨f4, f5, f6, f7⟩
        dsimp only at f4 f5 f6 f7
        subst f4 f5
        simp only [ao_cs]
        refine hv_up (fun _ => fGE.eq_2 ..) ?_
        simp only [Nat.reduceEqDiff, ↓reduceIte, if_pos f6.1.1, ao_let]
        obtain ⟨r1, r2⟩ := PD_dep (m' := m') f6
        have fD : FrD D3 _ m' := FrD_tr (f7 m') r2 (Nat.le_refl _)
        refine hv_some (PO_yes (FrC_tr (e2 l) (FrC_tr p2 (e5 l) (Nat.le_refl _)) (Nat.le_refl _)) (FrD_tr (f3 m) (FrD_tr (g2 m) (FrD_tr p3 fD (by omega)) (Nat.le_refl _)) (Nat.le_refl _)) ⟨i' + 1, l', m', G, by omega, by omega, e4, r1, by omega, by omega, q7, q8, q9, q10, Sg_fr q11 (fun j a b => (e5 l').2 j b) (fun x a b => fD.2 x (by omega)), fun j a b => ?_⟩)
        rw [((e5 l').2 j b).1]; exact q12 j a b
      · refine hv_bind (c_exp0 hE q3 k20 (by omega)) ?_
        rintro ⟨y1, C4⟩ ⟨e3, e4, e5⟩
        dsimp only at e3 e4 e5
        subst e3
        simp only [↓reduceIte]
        refine hv_some ?_
        refine hv_up (fun _ => fGE.eq_2 ..) ?_
        simp only [Nat.reduceEqDiff, ↓reduceIte, if_pos q4.1.1]
        refine hv_bind (d_need0 (c := 41) (k := 20) hE q4 rfl (by omega) (by omega) k20) ?_
        rintro ⟨w1, D4, σ4⟩ ⟨f4, f5, f6, f7⟩
        dsimp only at f4 f5 f6 f7
        subst f4 f5
        simp only [ao_cs]
        exact hv_some (PO_no q2 rfl (FrC_tr (e2 l) (FrC_tr p2 (e4 l) (Nat.le_refl _)) (Nat.le_refl _)) e5 rfl rfl f6 (FrD_tr (f3 m) (FrD_tr (g2 m) (FrD_tr p3 (f7 m) (Nat.le_refl _)) (Nat.le_refl _)) (Nat.le_refl _)))
    · dsimp only at p1 p2 p3 p4 p5 p7 p8
      subst p1 p4 p5
      simp only [↓reduceIte]
      refine hv_some ?_
      simp only [ao_cs]
      exact hv_some (PO_no p6 rfl (FrC_tr (e2 l) p2 (Nat.le_refl _)) p7 rfl rfl p8 (FrD_tr (f3 m) (FrD_tr (g2 m) p3 (Nat.le_refl _)) (Nat.le_refl _)))
  · refine hv_bind (c_nst0 hE hC k19 (by omega) hd) ?_
    rintro ⟨y1, C1⟩ ⟨e0, e1, e2⟩
    dsimp only at e0 e1 e2
    subst e0
    simp only [↓reduceIte]
    refine hv_some ?_
    by_cases q19 : kd s len i = 19
    · simp only [if_pos q19, if_neg (show ¬ (1 : Int32) = 0 by decide)]
      refine hv_bind (d_enter0 hE hD (by omega)) ?_
      rintro ⟨w1, D1, σ1⟩ ⟨f0, f1, f2, f3⟩
      dsimp only at f0 f1 f2 f3
      subst f0 f1
      simp only [ao_cs]
      exact hv_some (PO_no hi rfl (e1 l) e2 rfl rfl f2 (f3 m))
    · simp only [if_neg q19, ↓reduceIte, d_sign (c := 45) (k := 26) hD rfl (by omega) (by omega), Option.bind_some, if_neg k26, d_wrong hE hD, if_pos (d_538 hE)]
      exact hv_some (PO_no hi rfl (e1 l) e2 rfl rfl (show (ao_u D 537 2 _) 537 2 = _ from u_eq) d_wrF)
