set_option linter.unusedSimpArgs false
set_option linter.unusedVariables false
def EQ1 (σ : ao_H) (s : Fn) (len e i l m dep st wi h : Nat) (β : List (Bool × Nat)) (C' D' : ao_M) (i' l' m' : Nat) (G : Gh) : Prop := i < i' ∧ i' ≤ e ∧ PC C' s len e i' l' st ∧ PD D' σ s len i' m' dep st wi ∧ l' + i ≤ l + i' ∧ m' + 2 * i ≤ m + 2 * i' ∧ l < l' ∧ m < m' ∧ G l = (m, β, h) ∧ G l' = (m', β, h + 1) ∧ Sg Tr C' D' G l l' m m' β ∧ ∀ j, l ≤ j → j < l' → isE (C' 9 j)
theorem bin_ok {σ : ao_H} {s : Fn} {len e i l m dep st wi h : Nat} {β : List (Bool × Nat)} {C1 D1 C2 D2 C3 D3 C4 D4 : ao_M} {i1 l1 m1 i2 l2 m2 : Nat} {G1 G2 : Gh} {o o' : Int32} (hb : β.length ≤ 10) (hh : h + 2 ≤ 40) (h1 : EQ1 σ s len e i l m dep st wi h β C1 D1 i1 l1 m1 G1) (fC : ∀ l', FrC C1 C2 l') (fD : ∀ m', FrD D1 D2 m') (h2 : EQ1 σ s len e (i1 + 1) l1 m1 dep st wi (h + 1) β C3 D3 i2 l2 m2 G2) (gC : FrC C2 C3 l1) (gD : FrD D2 D3 m1)
    (c1 : PC C4 s len e i2 (l2 + 1) st) (c2 : FrC C3 C4 l2) (c3 : C4 9 l2 = o) (d1 : PD D4 σ s len i2 (m2 + 1) dep st wi) (d2 : FrD D3 D4 m2) (d3 : D4 541 (3 * m2) = o') (ho : o = 4 ∧ o' = 3 ∨ o = 5 ∧ o' = 4 ∨ o = 6 ∧ o' = 5 ∨ o = 7 ∧ o' = 7 ∨ o = 8 ∧ o' = 8) : ∃ G, EQ1 σ s len e i l m dep st wi h β C4 D4 i2 (l2 + 1) (m2 + 1) G := by
  obtain ⟨p1, p2, p3, p4, p5, p6, p7, p8, p9, p10, p11, p12⟩ := h1
  obtain ⟨q1, q2, q3, q4, q5, q6, q7, q8, q9, q10, q11, q12⟩ := h2
  have fC4 : FrC C1 C4 l1 := FrC_tr (fC l1) (FrC_tr gC c2 (by omega)) (Nat.le_refl _)
  have fD4 : FrD D1 D4 m1 := FrD_tr (fD m1) (FrD_tr gD d2 (by omega)) (Nat.le_refl _)
  refine ⟨glue l1 G1 (glue l2 G2 (one l2 (m2, β, h + 1 + 1) (m2 + 1, β, h + 1))), by omega, q2, c1, d1, by omega, by omega, by omega, by omega, ?_, ?_, ?_, fun j a b => ?_⟩
  · rw [glue_lt p7]; exact p9
  · rw [glue_ge (by omega), glue_ge (by omega), one_r]
  · refine Sg_app (Sg_fr p11 (fun j a b => fC4.2 j b) (fun x a b => fD4.2 x (by omega))) (Sg_app (Sg_fr q11 (fun j a b => c2.2 j b) (fun x a b => d2.2 x (by omega))) (Sg_st hb (by omega) (by omega) (fun op fi se d L G' k1 k2 k3 k4 k5 k6 k7 _ => ⟨m2, β, h + 1 + 1, k6, Or.inr (Or.inr (Or.inr (Or.inl ⟨?_, by omega, k7⟩)))⟩)) (by rw [q10, one_l])) (by rw [p10, glue_lt (by omega), q9])
    have e1 : op l2 = o := k2.trans c3
    have e2 : d (3 * m2) = o' := (k5 _ (by omega) (by omega)).trans d3
    rw [e1, e2]
    exact ho
  · by_cases hj : j < l1
    · rw [(fC4.2 j hj).1]; exact p12 j a hj
    · by_cases hj2 : j < l2
      · rw [(c2.2 j hj2).1]; exact q12 j (by omega) hj2
      · rw [show j = l2 by omega, c3]
        unfold isE
        rcases ho with h | h | h | h | h <;> rw [h.1] <;> decide
theorem prod_loop {ρ σ : ao_H} {s : Fn} {len e T : Nat} (hE : PE ρ σ s len e) (hs : ∀ T', T' ≤ T → EXs ρ σ s len e 3000 0 T') {C D : ao_M} {i l m dep st wi h ec ed : Nat} {β : List (Bool × Nat)} (hd : dep ≤ 10) (hb : β.length ≤ 10) (hec : 4 * (10 - dep) + 1 ≤ ec) (hed : 4 * (10 - dep) + 1 ≤ ed) (hh : h + 3 * (10 - dep) + 1 + 1 ≤ 40) (hl : l ≤ i) (hm : m ≤ 2 * i) : ∀ (T1 : Nat) (C1 D1 : ao_M) (i1 l1 m1 c : Nat) (G1 : Gh), e - i1 ≤ T1 → T1 ≤ T → EQ1 σ s len e i l m dep st wi h β C1 D1 i1 l1 m1 G1 → FrC C C1 l → FrD D D1 m → c ≤ i1 → hv (fun n => fGX n ec 2012 2 (nI dep) (nI c) 0 0 0 C1 ρ) (fun y => hv (fun n => fGE n ed 2004 537 0 0 0 D1 σ) (fun w => PO C D σ s len e l m (EQ σ s len e i l m dep st wi h β) y w)) := by
  have hρ := hE.1
  have a6 := hE.2.2.1
  have a7 := hE.2.2.2.1
  intro T1
  induction T1 with
  | zero =>
    intro C1 D1 i1 l1 m1 c G1 hT hT' h1 fC fD hc
    have h1' := h1
    obtain ⟨p1, p2, p3, p4, p5, p6, p7, p8, p9, p10, p11, p12⟩ := h1
    have k0 : kd s len i1 = 0 := by rw [show i1 = e by omega]; exact hE.2.2.2.2.1
    have h8 := p3.2.1.2.1
    refine hv_up (fun _ => fGX.eq_2 ..) ?_
    simp only [Nat.reduceEqDiff, ↓reduceIte, hρ, Option.bind_some, h8]
    refine hv_ifF (by rw [show (1000 : Int32) = nI 1000 from rfl, n_lt (by omega) (by omega)]; omega) ?_
    refine hv_ifF (by rw [k0]; decide) ?_
    refine hv_some ?_
    refine hv_up (fun _ => fGE.eq_2 ..) ?_
    simp only [Nat.reduceEqDiff, ↓reduceIte, if_pos p4.1.1, d_sign (c := 42) (k := 27) p4 rfl (by omega) (by omega), Option.bind_some, if_neg (show ¬ kd s len i1 = 27 by omega)]
    exact hv_some (PO_yes fC fD ⟨i1, l1, m1, G1, h1'⟩)
  | succ T1 ih =>
    intro C1 D1 i1 l1 m1 c G1 hT hT' h1 fC fD hc
    have h1' := h1
    obtain ⟨p1, p2, p3, p4, p5, p6, p7, p8, p9, p10, p11, p12⟩ := h1
    have h8 := p3.2.1.2.1
    have hkl := @kd_le s len i1
    refine hv_up (fun _ => fGX.eq_2 ..) ?_
    simp only [Nat.reduceEqDiff, ↓reduceIte, hρ, Option.bind_some, h8]
    refine hv_ifF (by rw [show (1000 : Int32) = nI 1000 from rfl, n_lt (by omega) (by omega)]; omega) ?_
    refine hv_inU (fun _ => fGE.eq_2 ..) ?_
    simp only [Nat.reduceEqDiff, ↓reduceIte, if_pos p4.1.1, d_sign (c := 42) (k := 27) p4 rfl (by omega) (by omega), Option.bind_some]
    by_cases k27 : kd s len i1 = 27
    · have hlt := kd_lt hE p2 (by omega)
      refine hv_ifT (by rw [k27]; rfl) ?_
      simp only [if_pos k27, if_neg (show ¬ (1 : Int32) = 0 by decide), if_pos (show 0 < ec by omega), if_pos (show 0 < ed by omega)]
      refine hv_bind (c_adv hE p3 hlt) ?_
      rintro C2 ⟨e1, e2⟩
      refine hv_inB (d_tok hE p4) ?_
      rintro D2 ⟨g1, g2⟩
      refine hv_seq ?_
      refine hv_mono (hs (e - (i1 + 1)) (by omega) C2 D2 (i1 + 1) l1 m1 dep st wi (h + 1) (ec - 1) (ed - 1) β (Nat.le_refl _) e1 g1 (by omega) (by omega) (by omega) hd hb (by omega) (by omega) (by omega)) (fun y hy => hv_mono hy (fun w hw => ?_))
      rcases y with ⟨y1, C3⟩
      rcases w with ⟨w1, D3, σ3⟩
      obtain ⟨p1', p2', p3', ⟨p4', p5', p6'⟩ | ⟨p4', p5', j, p6', p7', p8'⟩⟩ := hw
      · dsimp only at p1' p2' p3' p4' p5' p6'
        subst p1' p4' p5'
        obtain ⟨i2, l2, m2, G2, hq⟩ := p6'
        have hq' := hq
        obtain ⟨q1, q2, q3, q4, q5, q6, q7, q8, q9, q10, q11, q12⟩ := hq
        obtain ⟨C4, c1, c2, c3, c4, c5, c6⟩ := c_add hE q3 (show l2 < 1000 by omega) 6 0
        obtain ⟨D4, d1, d2, d3, d4, d5, d6⟩ := d_make hE q4 (show m2 < 6000 by omega) 5 0 0
        simp only [if_neg (show ¬ (1 : Int32) = 0 by decide), hρ, Option.bind_some, ↓reduceIte, c1, ao_let, ao_cs, show nI c + (1 : Int32) = nI (c + 1) from n_add]
        refine hv_inU (fun _ => fGE.eq_2 ..) ?_
        simp only [Nat.reduceEqDiff, ↓reduceIte, if_pos q4.1.1, d1, Option.bind_some, ao_let]
        obtain ⟨G, hG⟩ := bin_ok hb (by omega) h1' e2 g2 hq' p2' p3' c2 c3 c4 d2 d3 d4 (Or.inr (Or.inr (Or.inl ⟨rfl, rfl⟩)))
        exact ih C4 D4 i2 (l2 + 1) (m2 + 1) (c + 1) G (by omega) (by omega) hG (FrC_tr fC (FrC_tr (e2 l) (FrC_tr p2' c3 (by omega) |> fun z => ⟨z.1, fun j hj => z.2 j (by omega)⟩) (Nat.le_refl _)) (Nat.le_refl _)) (FrD_tr fD (FrD_tr (g2 m) (FrD_tr p3' d3 (by omega) |> fun z => ⟨z.1, fun j hj => z.2 j (by omega)⟩) (Nat.le_refl _)) (Nat.le_refl _)) (by omega)
      · dsimp only at p1' p2' p3' p4' p5' p7' p8'
        subst p1' p4' p5'
        simp only [↓reduceIte]
        refine hv_some ?_
        simp only [ao_cs]
        exact hv_some (PO_no p6' rfl (FrC_tr fC (FrC_tr (e2 l) p2' (by omega)) (Nat.le_refl _)) p7' rfl rfl p8' (FrD_tr fD (FrD_tr (g2 m) p3' (by omega)) (Nat.le_refl _)))
    · refine hv_ifF (by rw [show (27 : Int32) = nI 27 from rfl, n_eq (by omega) (by omega)]; exact k27) ?_
      simp only [if_neg k27, ↓reduceIte]
      exact hv_some (hv_some (PO_yes fC fD ⟨i1, l1, m1, G1, h1'⟩))
theorem product_ok {ρ σ : ao_H} {s : Fn} {len e T : Nat} (hE : PE ρ σ s len e) (hs : ∀ T', T' ≤ T → EXs ρ σ s len e 3000 0 T') : EXs ρ σ s len e 2000 1 T := by
  intro C D i l m dep st wi h ec ed β hT hC hD hi h1 h2 hd hb hec hed hh
  have hρ := hE.1
  refine hv_up (fun _ => fGX.eq_2 ..) ?_
  simp only [Nat.reduceEqDiff, ↓reduceIte, hρ, if_pos (show 0 < ec by omega)]
  refine hv_inU (fun _ => fGE.eq_2 ..) ?_
  simp only [Nat.reduceEqDiff, ↓reduceIte, if_pos hD.1.1, if_pos (show 0 < ed by omega)]
  refine hv_seq ?_
  refine hv_mono (hs T (Nat.le_refl _) C D i l m dep st wi h (ec - 1) (ed - 1) β hT hC hD hi h1 h2 hd hb (by omega) (by omega) (by omega)) (fun y hy => hv_mono hy (fun w hw => ?_))
  rcases y with ⟨y1, C3⟩
  rcases w with ⟨w1, D3, σ3⟩
  obtain ⟨p1, p2, p3, ⟨p4, p5, p6⟩ | ⟨p4, p5, j, p6, p7, p8⟩⟩ := hw
  · dsimp only at p1 p2 p3 p4 p5 p6
    subst p1 p4 p5
    obtain ⟨i1, l1, m1, G1, hq⟩ := p6
    simp only [if_neg (show ¬ (1 : Int32) = 0 by decide), ao_cs]
    exact prod_loop hE hs hd hb hec hed hh h1 h2 (e - i1) C3 D3 i1 l1 m1 0 G1 (Nat.le_refl _) (by have := hq.1; omega) hq p2 p3 (by omega)
  · dsimp only at p1 p2 p3 p4 p5 p7 p8
    subst p1 p4 p5
    simp only [↓reduceIte]
    refine hv_some ?_
    simp only [ao_cs]
    exact hv_some (PO_no p6 rfl p2 p7 rfl rfl p8 p3)
theorem sum_loop {ρ σ : ao_H} {s : Fn} {len e T : Nat} (hE : PE ρ σ s len e) (hs : ∀ T', T' ≤ T → EXs ρ σ s len e 2000 1 T') {C D : ao_M} {i l m dep st wi h ec ed : Nat} {β : List (Bool × Nat)} (hd : dep ≤ 10) (hb : β.length ≤ 10) (hec : 4 * (10 - dep) + 2 ≤ ec) (hed : 4 * (10 - dep) + 2 ≤ ed) (hh : h + 3 * (10 - dep) + 1 + 2 ≤ 40) (hl : l ≤ i) (hm : m ≤ 2 * i) : ∀ (T1 : Nat) (C1 D1 : ao_M) (i1 l1 m1 c : Nat) (G1 : Gh), e - i1 ≤ T1 → T1 ≤ T → EQ1 σ s len e i l m dep st wi h β C1 D1 i1 l1 m1 G1 → FrC C C1 l → FrD D D1 m → c ≤ i1 → hv (fun n => fGX n ec 1012 2 (nI dep) (nI c) 0 0 0 C1 ρ) (fun y => hv (fun n => fGE n ed 1004 537 0 0 0 D1 σ) (fun w => PO C D σ s len e l m (EQ σ s len e i l m dep st wi h β) y w)) := by
  have hρ := hE.1
  have a6 := hE.2.2.1
  have a7 := hE.2.2.2.1
  intro T1
  induction T1 with
  | zero =>
    intro C1 D1 i1 l1 m1 c G1 hT hT' h1 fC fD hc
    have h1' := h1
    obtain ⟨p1, p2, p3, p4, p5, p6, p7, p8, p9, p10, p11, p12⟩ := h1
    have k0 : kd s len i1 = 0 := by rw [show i1 = e by omega]; exact hE.2.2.2.2.1
    have h8 := p3.2.1.2.1
    refine hv_up (fun _ => fGX.eq_2 ..) ?_
    simp only [Nat.reduceEqDiff, ↓reduceIte, hρ, Option.bind_some, h8, ao_let]
    refine hv_ifF (by rw [show (1000 : Int32) = nI 1000 from rfl, n_lt (by omega) (by omega)]; omega) ?_
    refine hv_ifF (by rw [k0]; decide) ?_
    refine hv_ifF (by rw [k0]; decide) ?_
    refine hv_some ?_
    refine hv_up (fun _ => fGE.eq_2 ..) ?_
    simp only [Nat.reduceEqDiff, ↓reduceIte, if_pos p4.1.1, d_sign (c := 43) (k := 25) p4 rfl (by omega) (by omega), d_sign (c := 45) (k := 26) p4 rfl (by omega) (by omega), Option.bind_some, if_neg (show ¬ kd s len i1 = 25 by omega), if_neg (show ¬ kd s len i1 = 26 by omega)]
    exact hv_some (PO_yes fC fD ⟨i1, l1, m1, G1, h1'⟩)
  | succ T1 ih =>
    intro C1 D1 i1 l1 m1 c G1 hT hT' h1 fC fD hc
    have h1' := h1
    obtain ⟨p1, p2, p3, p4, p5, p6, p7, p8, p9, p10, p11, p12⟩ := h1
    have h8 := p3.2.1.2.1
    have hkl := @kd_le s len i1
    -- one more operand
    have more : ∀ (k : Nat) (o o' : Int32), kd s len i1 = k → k ≠ 0 → (o = 4 ∧ o' = 3 ∧ k = 25 ∨ o = 5 ∧ o' = 4 ∧ k = 26) → hv (fun n => fGX n ec 1041 2 (nI dep) (nI c) (nI k) 0 0 C1 ρ) (fun y => hv (fun n => fGE n ed 1036 537 0 o' 0 D1 σ) (fun w => PO C D σ s len e l m (EQ σ s len e i l m dep st wi h β) y w)) := by
      intro k o o' hk hk0 hoo
      have hlt := kd_lt hE p2 (by omega)
      refine hv_up (fun _ => fGX.eq_2 ..) ?_
      simp only [Nat.reduceEqDiff, ↓reduceIte, hρ, Option.bind_some, if_pos (show 0 < ec by omega)]
      refine hv_inU (fun _ => fGE.eq_2 ..) ?_
      simp only [Nat.reduceEqDiff, ↓reduceIte, if_pos p4.1.1, if_pos (show 0 < ed by omega)]
      refine hv_bind (c_adv hE p3 hlt) ?_
      rintro C2 ⟨e1, e2⟩
      refine hv_inB (d_tok hE p4) ?_
      rintro D2 ⟨g1, g2⟩
      refine hv_seq ?_
      refine hv_mono (hs (e - (i1 + 1)) (by omega) C2 D2 (i1 + 1) l1 m1 dep st wi (h + 1) (ec - 1) (ed - 1) β (Nat.le_refl _) e1 g1 (by omega) (by omega) (by omega) hd hb (by omega) (by omega) (by omega)) (fun y hy => hv_mono hy (fun w hw => ?_))
      rcases y with ⟨y1, C3⟩
      rcases w with ⟨w1, D3, σ3⟩
      obtain ⟨p1', p2', p3', ⟨p4', p5', p6'⟩ | ⟨p4', p5', j, p6', p7', p8'⟩⟩ := hw
      · dsimp only at p1' p2' p3' p4' p5' p6'
        subst p1' p4' p5'
        obtain ⟨i2, l2, m2, G2, hq⟩ := p6'
        have hq' := hq
        obtain ⟨q1, q2, q3, q4, q5, q6, q7, q8, q9, q10, q11, q12⟩ := hq
        obtain ⟨C4, c1, c2, c3, c4, c5, c6⟩ := c_add hE q3 (show l2 < 1000 by omega) o 0
        obtain ⟨D4, d1, d2, d3, d4, d5, d6⟩ := d_make hE q4 (show m2 < 6000 by omega) o' 0 0
        obtain ⟨G, hG⟩ := bin_ok hb (by omega) h1' e2 g2 hq' p2' p3' c2 c3 c4 d2 d3 d4 (by rcases hoo with ⟨a, b, _⟩ | ⟨a, b, _⟩; · exact Or.inl ⟨a, b⟩
                                                                                           · exact Or.inr (Or.inl ⟨a, b⟩))
        have fin := ih C4 D4 i2 (l2 + 1) (m2 + 1) (c + 1) G (by omega) (by omega) hG (FrC_tr fC (FrC_tr (e2 l) (FrC_tr p2' c3 (by omega) |> fun z => ⟨z.1, fun j hj => z.2 j (by omega)⟩) (Nat.le_refl _)) (Nat.le_refl _)) (FrD_tr fD (FrD_tr (g2 m) (FrD_tr p3' d3 (by omega) |> fun z => ⟨z.1, fun j hj => z.2 j (by omega)⟩) (Nat.le_refl _)) (Nat.le_refl _)) (by omega)
        have go : hv (fun n => fGX n ec 1073 2 (nI dep) (nI c) (nI k) o 8 C3 ρ) (fun y => hv (fun n => fGE n ed 1045 537 o' 0 0 D3 σ3) (fun w => PO C D σ3 s len e l m (EQ σ3 s len e i l m dep st wi h β) y w)) := by
          refine hv_up (fun _ => fGX.eq_2 ..) ?_
          simp only [Nat.reduceEqDiff, ↓reduceIte, hρ, Option.bind_some, c1, ao_let, show nI c + (1 : Int32) = nI (c + 1) from n_add]
          refine hv_inU (fun _ => fGE.eq_2 ..) ?_
          simp only [Nat.reduceEqDiff, ↓reduceIte, if_pos q4.1.1, d1, Option.bind_some, ao_let]
          exact fin
        simp only [if_neg (show ¬ (1 : Int32) = 0 by decide), hρ, Option.bind_some, ao_cs]
        rcases hoo with ⟨rfl, rfl, rfl⟩ | ⟨rfl, rfl, rfl⟩
        · exact hv_ifT rfl go
        · exact hv_ifF (by decide) go
      · dsimp only at p1' p2' p3' p4' p5' p7' p8'
        subst p1' p4' p5'
        simp only [↓reduceIte]
        refine hv_some ?_
        simp only [ao_cs]
        exact hv_some (PO_no p6' rfl (FrC_tr fC (FrC_tr (e2 l) p2' (by omega)) (Nat.le_refl _)) p7' rfl rfl p8' (FrD_tr fD (FrD_tr (g2 m) p3' (by omega)) (Nat.le_refl _)))
    refine hv_up (fun _ => fGX.eq_2 ..) ?_
    simp only [Nat.reduceEqDiff, ↓reduceIte, hρ, Option.bind_some, h8, ao_let]
    refine hv_ifF (by rw [show (1000 : Int32) = nI 1000 from rfl, n_lt (by omega) (by omega)]; omega) ?_
    refine hv_inU (fun _ => fGE.eq_2 ..) ?_
    simp only [Nat.reduceEqDiff, ↓reduceIte, if_pos p4.1.1, d_sign (c := 43) (k := 25) p4 rfl (by omega) (by omega), d_sign (c := 45) (k := 26) p4 rfl (by omega) (by omega), Option.bind_some]
    by_cases k25 : kd s len i1 = 25
    · refine hv_ifT (by rw [k25]; rfl) ?_
      simp only [if_pos k25, if_neg (show ¬ (1 : Int32) = 0 by decide)]
      refine hv_inU (fun _ => fGE.eq_2 ..) ?_
      simp only [Nat.reduceEqDiff, ↓reduceIte, if_pos p4.1.1, d_sign (c := 43) (k := 25) p4 rfl (by omega) (by omega), Option.bind_some, if_pos k25, if_neg (show ¬ (1 : Int32) = 0 by decide)]
      rw [k25]
      exact more 25 4 3 k25 (by omega) (Or.inl ⟨rfl, rfl, rfl⟩)
    · refine hv_ifF (by rw [show (25 : Int32) = nI 25 from rfl, n_eq (by omega) (by omega)]; exact k25) ?_
      simp only [if_neg k25, ↓reduceIte]
      by_cases k26 : kd s len i1 = 26
      · refine hv_ifT (by rw [k26]; rfl) ?_
        simp only [if_pos k26, if_neg (show ¬ (1 : Int32) = 0 by decide)]
        refine hv_inU (fun _ => fGE.eq_2 ..) ?_
        simp only [Nat.reduceEqDiff, ↓reduceIte, if_pos p4.1.1, d_sign (c := 43) (k := 25) p4 rfl (by omega) (by omega), Option.bind_some, if_neg k25]
        rw [k26]
        exact more 26 5 4 k26 (by omega) (Or.inr ⟨rfl, rfl, rfl⟩)
      · refine hv_ifF (by rw [show (26 : Int32) = nI 26 from rfl, n_eq (by omega) (by omega)]; exact k26) ?_
        simp only [if_neg k26, ↓reduceIte]
        exact hv_some (hv_some (PO_yes fC fD ⟨i1, l1, m1, G1, h1'⟩))
theorem sum_ok {ρ σ : ao_H} {s : Fn} {len e T : Nat} (hE : PE ρ σ s len e) (hs : ∀ T', T' ≤ T → EXs ρ σ s len e 2000 1 T') : EXs ρ σ s len e 1000 2 T := by
  intro C D i l m dep st wi h ec ed β hT hC hD hi h1 h2 hd hb hec hed hh
  have hρ := hE.1
  refine hv_up (fun _ => fGX.eq_2 ..) ?_
  simp only [Nat.reduceEqDiff, ↓reduceIte, hρ, if_pos (show 0 < ec by omega)]
  refine hv_inU (fun _ => fGE.eq_2 ..) ?_
  simp only [Nat.reduceEqDiff, ↓reduceIte, if_pos hD.1.1, if_pos (show 0 < ed by omega)]
  refine hv_seq ?_
  refine hv_mono (hs T (Nat.le_refl _) C D i l m dep st wi h (ec - 1) (ed - 1) β hT hC hD hi h1 h2 hd hb (by omega) (by omega) (by omega)) (fun y hy => hv_mono hy (fun w hw => ?_))
  rcases y with ⟨y1, C3⟩
  rcases w with ⟨w1, D3, σ3⟩
  obtain ⟨p1, p2, p3, ⟨p4, p5, p6⟩ | ⟨p4, p5, j, p6, p7, p8⟩⟩ := hw
  · dsimp only at p1 p2 p3 p4 p5 p6
    subst p1 p4 p5
    obtain ⟨i1, l1, m1, G1, hq⟩ := p6
    simp only [if_neg (show ¬ (1 : Int32) = 0 by decide), ao_cs]
    exact sum_loop hE hs hd hb hec hed hh h1 h2 (e - i1) C3 D3 i1 l1 m1 0 G1 (Nat.le_refl _) (by have := hq.1; omega) hq p2 p3 (by omega)
  · dsimp only at p1 p2 p3 p4 p5 p7 p8
    subst p1 p4 p5
    simp only [↓reduceIte]
    refine hv_some ?_
    simp only [ao_cs]
    exact hv_some (PO_no p6 rfl p2 p7 rfl rfl p8 p3)
theorem expr_ok {ρ σ : ao_H} {s : Fn} {len e T : Nat} (hE : PE ρ σ s len e) (hs : ∀ T', T' ≤ T → EXs ρ σ s len e 1000 2 T') : EXs ρ σ s len e 0 3 T := by
  intro C D i l m dep st wi h ec ed β hT hC hD hi h1 h2 hd hb hec hed hh
  have hρ := hE.1
  have a6 := hE.2.2.1
  have a7 := hE.2.2.2.1
  refine hv_up (fun _ => fGX.eq_2 ..) ?_
  simp only [↓reduceIte, hρ, if_pos (show 0 < ec by omega)]
  refine hv_inU (fun _ => fGE.eq_2 ..) ?_
  simp only [↓reduceIte, if_pos hD.1.1, if_pos (show 0 < ed by omega)]
  refine hv_seq ?_
  refine hv_mono (hs T (Nat.le_refl _) C D i l m dep st wi h (ec - 1) (ed - 1) β hT hC hD hi h1 h2 hd hb (by omega) (by omega) (by omega)) (fun y hy => hv_mono hy (fun w hw => ?_))
  rcases y with ⟨y1, C1⟩
  rcases w with ⟨w1, D1, σ3⟩
  obtain ⟨p1, fC, fD, ⟨p4, p5, p6⟩ | ⟨p4, p5, j, p6, p7, p8⟩⟩ := hw
  · dsimp only at p1 fC fD p4 p5 p6
    subst p1 p4 p5
    obtain ⟨i1, l1, m1, G1, hq1⟩ := p6
    have h1' : EQ1 σ3 s len e i l m dep st wi h β C1 D1 i1 l1 m1 G1 := hq1
    obtain ⟨p1, p2, p3, p4, p5, p6, p7, p8, p9, p10, p11, p12⟩ := hq1
    have h8 := p3.2.1.2.1
    have hkl := @kd_le s len i1
    have more : ∀ (k : Nat) (o o' : Int32), kd s len i1 = k → k ≠ 0 → (o = 7 ∧ o' = 7 ∧ k = 23 ∨ o = 8 ∧ o' = 8 ∧ k = 24) → hv (fun n => fGX n ec 32 2 (nI dep) (nI k) 0 0 0 C1 ρ) (fun y => hv (fun n => fGE n ed 34 537 0 o' 0 D1 σ3) (fun w => PO C D σ3 s len e l m (EQ σ3 s len e i l m dep st wi h β) y w)) := by
      intro k o o' hk hk0 hoo
      have hlt := kd_lt hE p2 (by omega)
      have ho0 : (0 : Int32) ≤ o' := by rcases hoo with ⟨_, b, _⟩ | ⟨_, b, _⟩ <;> rw [b] <;> decide
      refine hv_up (fun _ => fGX.eq_2 ..) ?_
      simp only [Nat.reduceEqDiff, ↓reduceIte, hρ, Option.bind_some, if_pos (show 0 < ec by omega)]
      refine hv_inU (fun _ => fGE.eq_2 ..) ?_
      simp only [Nat.reduceEqDiff, ↓reduceIte, if_pos p4.1.1, if_pos (show 0 < ed by omega), if_pos ho0]
      refine hv_bind (c_adv hE p3 hlt) ?_
      rintro C2 ⟨e1, e2⟩
      refine hv_inB (d_tok hE p4) ?_
      rintro D2 ⟨g1, g2⟩
      refine hv_seq ?_
      refine hv_mono (hs (e - (i1 + 1)) (by omega) C2 D2 (i1 + 1) l1 m1 dep st wi (h + 1) (ec - 1) (ed - 1) β (Nat.le_refl _) e1 g1 (by omega) (by omega) (by omega) hd hb (by omega) (by omega) (by omega)) (fun y hy => hv_mono hy (fun w hw => ?_))
      rcases y with ⟨y1, C3⟩
      rcases w with ⟨w1, D3, σ4⟩
      obtain ⟨p1', p2', p3', ⟨p4', p5', p6'⟩ | ⟨p4', p5', j, p6', p7', p8'⟩⟩ := hw
      · dsimp only at p1' p2' p3' p4' p5' p6'
        subst p1' p4' p5'
        obtain ⟨i2, l2, m2, G2, hq⟩ := p6'
        have hq' : EQ1 σ4 s len e (i1 + 1) l1 m1 dep st wi (h + 1) β C3 D3 i2 l2 m2 G2 := hq
        obtain ⟨q1, q2, q3, q4, q5, q6, q7, q8, q9, q10, q11, q12⟩ := hq
        obtain ⟨C4, c1, c2, c3, c4, c5, c6⟩ := c_add hE q3 (show l2 < 1000 by omega) o 0
        obtain ⟨D4, d1, d2, d3, d4, d5, d6⟩ := d_make hE q4 (show m2 < 6000 by omega) o' 0 0
        obtain ⟨G, hG⟩ := bin_ok hb (by omega) h1' e2 g2 hq' p2' p3' c2 c3 c4 d2 d3 d4 (by rcases hoo with ⟨a, b, _⟩ | ⟨a, b, _⟩; · exact Or.inr (Or.inr (Or.inr (Or.inl ⟨a, b⟩)))
                                                                                           · exact Or.inr (Or.inr (Or.inr (Or.inr ⟨a, b⟩))))
        have go : hv (fun n => fGX n ec 66 2 (nI dep) (nI k) 0 o 8 C3 ρ) (fun y => hv (fun n => fGE n ed 48 537 o' 0 0 D3 σ4) (fun w => PO C D σ4 s len e l m (EQ σ4 s len e i l m dep st wi h β) y w)) := by
          refine hv_up (fun _ => fGX.eq_2 ..) ?_
          simp only [Nat.reduceEqDiff, ↓reduceIte, hρ, Option.bind_some, c1]
          refine hv_some ?_
          refine hv_up (fun _ => fGE.eq_2 ..) ?_
          simp only [Nat.reduceEqDiff, ↓reduceIte, if_pos q4.1.1, d1, Option.bind_some, ao_let]
          exact hv_some (PO_yes (FrC_tr fC (FrC_tr (e2 l) (FrC_tr p2' c3 (by omega) |> fun z => ⟨z.1, fun j hj => z.2 j (by omega)⟩) (Nat.le_refl _)) (Nat.le_refl _)) (FrD_tr fD (FrD_tr (g2 m) (FrD_tr p3' d3 (by omega) |> fun z => ⟨z.1, fun j hj => z.2 j (by omega)⟩) (Nat.le_refl _)) (Nat.le_refl _)) ⟨i2, l2 + 1, m2 + 1, G, hG⟩)
        simp only [if_neg (show ¬ (1 : Int32) = 0 by decide), hρ, Option.bind_some, ao_cs]
        rcases hoo with ⟨rfl, rfl, rfl⟩ | ⟨rfl, rfl, rfl⟩
        · exact hv_ifT rfl go
        · exact hv_ifF (by decide) go
      · dsimp only at p1' p2' p3' p4' p5' p7' p8'
        subst p1' p4' p5'
        simp only [↓reduceIte]
        refine hv_some ?_
        simp only [ao_cs]
        exact hv_some (PO_no p6' rfl (FrC_tr fC (FrC_tr (e2 l) p2' (by omega)) (Nat.le_refl _)) p7' rfl rfl p8' (FrD_tr fD (FrD_tr (g2 m) p3' (by omega)) (Nat.le_refl _)))
    simp only [if_neg (show ¬ (1 : Int32) = 0 by decide), hρ, Option.bind_some, ↓reduceIte, ao_let, ao_cs, h8]
    refine hv_inU (fun _ => fGE.eq_2 ..) ?_
    simp only [Nat.reduceEqDiff, ↓reduceIte, if_pos p4.1.1, d_sign (c := 300) (k := 23) p4 rfl (by omega) (by omega), d_sign (c := 60) (k := 24) p4 rfl (by omega) (by omega), Option.bind_some]
    by_cases k23 : kd s len i1 = 23
    · refine hv_ifT (by rw [k23]; rfl) ?_
      simp only [if_pos k23, if_neg (show ¬ (1 : Int32) = 0 by decide)]
      rw [k23]
      exact more 23 7 7 k23 (by omega) (Or.inl ⟨rfl, rfl, rfl⟩)
    · refine hv_ifF (by rw [show (23 : Int32) = nI 23 from rfl, n_eq (by omega) (by omega)]; exact k23) ?_
      simp only [if_neg k23, ↓reduceIte]
      by_cases k24 : kd s len i1 = 24
      · refine hv_ifT (by rw [k24]; rfl) ?_
        simp only [if_pos k24, if_neg (show ¬ (1 : Int32) = 0 by decide)]
        rw [k24]
        exact more 24 8 8 k24 (by omega) (Or.inr ⟨rfl, rfl, rfl⟩)
      · refine hv_ifF (by rw [show (24 : Int32) = nI 24 from rfl, n_eq (by omega) (by omega)]; exact k24) ?_
        simp only [if_neg k24, ↓reduceIte]
        refine hv_some ?_
        refine hv_up (fun _ => fGE.eq_2 ..) ?_
        simp only [Nat.reduceEqDiff, ↓reduceIte, if_neg (show ¬ (0 : Int32) ≤ -1 by decide)]
        exact hv_some (PO_yes fC fD ⟨i1, l1, m1, G1, h1'⟩)
  · dsimp only at p1 fC fD p4 p5 p7 p8
    subst p1 p4 p5
    simp only [↓reduceIte]
    refine hv_some ?_
    simp only [ao_cs]
    exact hv_some (PO_no p6 rfl fC p7 rfl rfl p8 fD)
/-- expressions, whole -/
theorem exprs {ρ σ : ao_H} {s : Fn} {len e : Nat} (hE : PE ρ σ s len e) : ∀ T, EXs ρ σ s len e 3000 0 T ∧ EXs ρ σ s len e 0 3 T := by
  intro T
  induction T using Nat.strongRecOn with
  | _ T ih =>
    have hs : ∀ T', T' ≤ T → EXs ρ σ s len e 3000 0 T' := by
      intro T' h
      by_cases q : T' < T
      · exact (ih T' q).1
      · rw [show T' = T by omega]; exact simple_ok hE ih
    have hp : ∀ T', T' ≤ T → EXs ρ σ s len e 2000 1 T' := fun T' h => product_ok hE (fun T'' h' => hs T'' (by omega))
    have hm : ∀ T', T' ≤ T → EXs ρ σ s len e 1000 2 T' := fun T' h => sum_ok hE (fun T'' h' => hp T'' (by omega))
    exact ⟨hs T (Nat.le_refl _), expr_ok hE hm⟩
