set_option linter.unusedSimpArgs false
set_option linter.unusedVariables false
/-! ===== small statements ===== -/
/-- an expression, then one instruction that takes its value -/
theorem SQ_val {σ : ao_H} {s : Fn} {len e i i0 l m dep st wi : Nat} {β : List (Bool × Nat)} {C3 D3 C4 C5 D4 D5 : ao_M} {i1 l1 m1 : Nat} {G : Gh} (hw : wi = fc β) (hst : st ≤ 300) (hb : β.length ≤ 10) (h : EQ1 σ s len e i0 l m dep st wi 0 β C3 D3 i1 l1 m1 G) (hi : i ≤ i0) (hi1 : i1 < e) {o a o' a' : Int32} (c2 : FrC C3 C4 l1) (c3 : C4 9 l1 = o) (c4 : C4 10 l1 = a) (c5 : ∀ l', FrC C4 C5 l') (c6 : PC C5 s len e (i1 + 1) (l1 + 1) st) (d2 : ∀ m', FrD D3 D4 m') (d3 : FrD D4 D5 m1) (d4 : D5 541 (3 * m1) = o') (d5 : D5 541 (3 * m1 + 1) = a') (d6 : PD D5 σ s len (i1 + 1) (m1 + 1) dep st wi)
    (ok : ∀ op fi se d L G', op l1 = o → fi l1 = a → d (3 * m1) = o' → d (3 * m1 + 1) = a' → G' l1 = (m1, β, 1) → G' (l1 + 1) = (m1 + 1, β, 0) → okI op fi se d L G' l1) : SQ σ s len e i l m dep st β C5 D5 := by
  obtain ⟨p1, p2, p3, p4, p5, p6, p7, p8, p9, p10, p11, p12⟩ := h
  have fC : FrC C3 C5 l1 := FrC_tr c2 (c5 l1) (Nat.le_refl _)
  have fD : FrD D3 D5 m1 := FrD_tr (d2 m1) d3 (Nat.le_refl _)
  subst hw
  refine ⟨i1 + 1, l1 + 1, m1 + 1, st, glue l1 G (one l1 (m1, β, 1) (m1 + 1, β, 0)), by omega, by omega, by omega, hst, c6, d6, by omega, by omega, by omega, by omega, ?_, ?_, ?_⟩
  · rw [glue_lt p7]; exact p9
  · rw [glue_ge (by omega), one_r]
  · refine Sg_app (Sg_fr p11 (fun j a b => fC.2 j b) (fun x a b => fD.2 x (by omega))) (Sg_st hb (by omega) (by omega) (fun op fi se d L G' k1 k2 k3 k4 k5 k6 k7 _ => ok op fi se d L G' ?_ ?_ ?_ ?_ k6 k7)) (by rw [p10, one_l])
    · rw [k2, ((c5 (l1 + 1)).2 l1 (by omega)).1]; exact c3
    · rw [k3, ((c5 (l1 + 1)).2 l1 (by omega)).2.1]; exact c4
    · rw [k5 _ (by omega) (by omega)]; exact d4
    · rw [k5 _ (by omega) (by omega)]; exact d5
theorem assign_ok {ρ σ : ao_H} {s : Fn} {len e : Nat} (hE : PE ρ σ s len e) {C D : ao_M} {i l m dep st ed k : Nat} {β : List (Bool × Nat)} (hC : PC C s len e i l st) (hD : PD D σ s len (i + 1) m dep st (fc β)) (hi : i < e) (h1 : l ≤ i) (h2 : m ≤ 2 * i) (hd : dep ≤ 10) (hst : st ≤ 300) (hb : β.length ≤ 10) (hk : kd s len i = k) (o : Int32) (hko : k = 2 ∧ o = 11 ∨ k = 3 ∧ o = 10) : hv (fun n => (gX4_assignment n 2 o (nI dep) C ρ).bind fun p10 => if p10.1 = 0 ∨ p10.1 = 1 then some (p10.1, p10.2) else none) (fun y => hv (fun n => bigB n ed (rK k) (rW k (vl s len i)) D σ) (fun w => PO C D σ s len e l m (SQ σ s len e i l m dep st β) y w)) := by
  have hρ := hE.1
  have a6 := hE.2.2.1
  have a7 := hE.2.2.2.1
  have h10 := hC.2.1.2.2.2
  have hby := hE.2.2.2.2.2.2.1
  have hk23 : tkK s len (bg s len i) = 2 ∨ tkK s len (bg s len i) = 3 := by
    rcases hko with ⟨a, _⟩ | ⟨a, _⟩
    · exact Or.inl (hk.trans a)
    · exact Or.inr (hk.trans a)
  obtain ⟨r, r1, r2⟩ := vl_ltr (b := bg s len i) hby hk23
  have r3 : vl s len i = nI r := r2
  have eW : rW k (nI r) = nI r := by rcases hko with ⟨a, _⟩ | ⟨a, _⟩ <;> rw [a] <;> rfl
  have nK : ¬ rK k = 3 := by rcases hko with ⟨a, _⟩ | ⟨a, _⟩ <;> rw [a] <;> decide
  unfold gX4_assignment bigB
  simp only [hρ, Option.bind_some, ↓reduceIte, ao_let, h10, Option.bind_assoc, if_neg nK, eW, r3]
  refine hv_bind (c_adv hE hC hi) ?_
  rintro C1 ⟨e1, e2⟩
  rw [show (22 : Int32) = nI 22 from rfl]
  by_cases k22 : kd s len (i + 1) = 22
  · have hlt := kd_lt hE (show i + 1 ≤ e by omega) (by omega)
    refine hv_bind (c_exp hE e1 hlt k22) ?_
    rintro ⟨y1, C2⟩ ⟨e3, e4, e5⟩
    dsimp only at e3 e4 e5
    subst e3
    simp only [if_neg (show ¬ (1 : Int32) = 0 by decide)]
    refine hv_inB (d_need (c := 61) (k := 22) hE hD rfl (by omega) (by omega) k22) ?_
    rintro ⟨w1, D2, σ2⟩ ⟨f4, f5, f6, f7⟩
    dsimp only at f4 f5 f6 f7
    subst f4 f5
    simp only [ao_cs]
    refine hv_inU (fun _ => fGB.eq_2 ..) ?_
    simp only [Nat.reduceEqDiff, ↓reduceIte, if_pos f6.1.1]
    unfold gX4_expression gX12_expression
    simp only [Option.bind_assoc]
    refine hv_seq ?_
    refine hv_mono ((exprs hE (e - (i + 1 + 1))).2 C2 D2 (i + 1 + 1) l m dep st (fc β) 0 64 64 β (Nat.le_refl _) e4 f6 (by omega) (by omega) (by omega) hd hb (by omega) (by omega) (by omega)) (fun y hy => hv_mono hy (fun w hw => ?_))
    rcases y with ⟨y1, C3⟩
    rcases w with ⟨w1, D3, σ3⟩
    have fC2 : FrC C C2 l := FrC_tr (e2 l) (e5 l) (Nat.le_refl _)
    obtain ⟨p1, p2, p3, ⟨p4, p5, p6⟩ | ⟨p4, p5, j, p6, p7, p8⟩⟩ := hw
    · dsimp only at p1 p2 p3 p4 p5 p6
      subst p1 p4 p5
      obtain ⟨i1, l1, m1, G, hq⟩ := p6
      have hq' : EQ1 σ3 s len e (i + 1 + 1) l m dep st (fc β) 0 β C3 D3 i1 l1 m1 G := hq
      obtain ⟨q1, q2, q3, q4, q5, q6, q7, q8, q9, q10, q11, q12⟩ := hq
      obtain ⟨C4, c1, c2, c3, c4, c5, c6⟩ := c_add hE q3 (show l1 < 1000 by omega) o (nI r)
      simp only [if_neg (show ¬ (1 : Int32) = 0 by decide), ao_cs, Option.bind_some, hρ, ↓reduceIte, c1, Option.bind_assoc]
      refine hv_inU (fun _ => fGB.eq_2 ..) ?_
      simp only [Nat.reduceEqDiff, ↓reduceIte, if_pos q4.1.1]
      rw [show (21 : Int32) = nI 21 from rfl]
      by_cases k21 : kd s len i1 = 21
      · have hlt' := kd_lt hE q2 (by omega)
        refine hv_bind (c_exp hE c2 hlt' k21) ?_
        rintro ⟨y1, C5⟩ ⟨e6, e7, e8⟩
        dsimp only at e6 e7 e8
        subst e6
        simp only [if_pos (show (1 : Int32) = 0 ∨ (1 : Int32) = 1 from Or.inr rfl), Option.bind_some]
        refine hv_some ?_
        refine hv_bind (d_need (c := 59) (k := 21) hE q4 rfl (by omega) (by omega) k21) ?_
        rintro ⟨w1, D4, σ4⟩ ⟨f8, f9, f10, f11⟩
        dsimp only at f8 f9 f10 f11
        subst f8 f9
        simp only [ao_cs]
        obtain ⟨D5, d1, d2, d3, d4, d5, d6⟩ := d_make hE f10 (show m1 < 6000 by omega) (if k = 2 then 10 else 9) (nI r) 0
        refine hv_up (fun _ => fGB.eq_2 ..) ?_
        simp only [Nat.reduceEqDiff, ↓reduceIte]
        have fin : hv (fun n => fGB n ed 1175 537 (rK k) (nI r) 1 0 0 0 (if k = 2 then 10 else 9) 537 0 0 0 D4 σ4) (fun w => PO C D σ4 s len e l m (SQ σ4 s len e i l m dep st β) (1, C5) w) := by
          refine hv_up (fun _ => fGB.eq_2 ..) ?_
          simp only [Nat.reduceEqDiff, ↓reduceIte, if_pos f10.1.1, d1, Option.bind_some, ao_let]
          refine hv_some (PO_yes (FrC_tr fC2 (FrC_tr p2 (FrC_tr c3 (e8 l1) (Nat.le_refl _) |> fun z => ⟨z.1, fun j hj => z.2 j (by omega)⟩) (Nat.le_refl _)) (Nat.le_refl _)) (FrD_tr (f7 m) (FrD_tr p3 (FrD_tr (f11 m1) d3 (Nat.le_refl _) |> fun z => ⟨z.1, fun j hj => z.2 j (by omega)⟩) (Nat.le_refl _)) (Nat.le_refl _)) (SQ_val rfl hst hb hq' (by omega) hlt' c3 c4 c5 e8 e7 f11 d3 d4 d5 d2 (fun op fi se d L G' x1 x2 x3 x4 x5 x6 => ⟨m1, β, 1, x5, ?_⟩)))
          rcases hko with ⟨ka, kb⟩ | ⟨ka, kb⟩
          · rw [kb] at x1
            rw [if_pos ka] at x3
            exact Or.inr (Or.inr (Or.inr (Or.inr (Or.inr (Or.inr (Or.inl ⟨x1, x3, ⟨r, r1, x2, x4⟩, rfl, x6⟩))))))
          · rw [kb] at x1
            rw [if_neg (by omega)] at x3
            exact Or.inr (Or.inr (Or.inr (Or.inr (Or.inr (Or.inl ⟨x1, x3, ⟨r, r1, x2, x4⟩, rfl, x6⟩)))))
        rcases hko with ⟨ka, kb⟩ | ⟨ka, kb⟩
        · rw [if_pos ka] at fin
          exact hv_ifT (by rw [ka]; rfl) fin
        · rw [if_neg (by omega)] at fin
          exact hv_ifF (by rw [ka]; decide) fin
      · refine hv_bind (c_exp0 hE c2 k21 (by omega)) ?_
        rintro ⟨y1, C5⟩ ⟨e6, e7, e8⟩
        dsimp only at e6 e7 e8
        subst e6
        simp only [if_pos (show (0 : Int32) = 0 ∨ (0 : Int32) = 1 from Or.inl rfl), Option.bind_some]
        refine hv_some ?_
        refine hv_bind (d_need0 (c := 59) (k := 21) hE q4 rfl (by omega) (by omega) k21) ?_
        rintro ⟨w1, D4, σ4⟩ ⟨f8, f9, f10, f11⟩
        dsimp only at f8 f9 f10 f11
        subst f8 f9
        simp only [ao_cs]
        exact hv_some (PO_no q2 rfl (FrC_tr fC2 (FrC_tr p2 (FrC_tr c3 (e7 l1) (Nat.le_refl _) |> fun z => ⟨z.1, fun j hj => z.2 j (by omega)⟩) (Nat.le_refl _)) (Nat.le_refl _)) e8 rfl rfl f10 (FrD_tr (f7 m) (FrD_tr p3 (f11 m) (Nat.le_refl _)) (Nat.le_refl _)))
    · dsimp only at p1 p2 p3 p4 p5 p7 p8
      subst p1 p4 p5
      simp only [↓reduceIte, Option.bind_some, true_or]
      refine hv_some ?_
      simp only [ao_cs]
      exact hv_some (PO_no p6 rfl (FrC_tr fC2 p2 (Nat.le_refl _)) p7 rfl rfl p8 (FrD_tr (f7 m) p3 (Nat.le_refl _)))
  · refine hv_bind (c_exp0 hE e1 k22 (by omega)) ?_
    rintro ⟨y1, C2⟩ ⟨e3, e4, e5⟩
    dsimp only at e3 e4 e5
    subst e3
    simp only [↓reduceIte, Option.bind_some, true_or]
    refine hv_some ?_
    refine hv_bind (d_need0 (c := 61) (k := 22) hE hD rfl (by omega) (by omega) k22) ?_
    rintro ⟨w1, D2, σ2⟩ ⟨f4, f5, f6, f7⟩
    dsimp only at f4 f5 f6 f7
    subst f4 f5
    simp only [ao_cs]
    exact hv_some (PO_no (i := i + 1) (by omega) rfl (FrC_tr (e2 l) (e4 l) (Nat.le_refl _)) e5 rfl rfl f6 (f7 m))
/-- say and fail -/
theorem value_ok {ρ σ : ao_H} {s : Fn} {len e : Nat} (hE : PE ρ σ s len e) {C D : ao_M} {i l m dep st ed k : Nat} {β : List (Bool × Nat)} (hC : PC C s len e i l st) (hD : PD D σ s len (i + 1) m dep st (fc β)) (hi : i < e) (h1 : l ≤ i) (h2 : m ≤ 2 * i) (hd : dep ≤ 10) (hst : st ≤ 300) (hb : β.length ≤ 10) (o : Int32) (hko : k = 8 ∧ o = 15 ∨ k = 14 ∧ o = 20) : hv (fun n => (gX4_valueStatement n 2 o (nI dep) C ρ).bind fun p10 => if p10.1 = 0 ∨ p10.1 = 1 then some (p10.1, p10.2) else none) (fun y => hv (fun n => bigB n ed (rK k) (rW k (vl s len i)) D σ) (fun w => PO C D σ s len e l m (SQ σ s len e i l m dep st β) y w)) := by
  have hρ := hE.1
  have a6 := hE.2.2.1
  have a7 := hE.2.2.2.1
  have eK : rK k = 3 := by rcases hko with ⟨a, _⟩ | ⟨a, _⟩ <;> rw [a] <;> rfl
  have eW : rW k (vl s len i) = (if k = 8 then 3 else 9) := by rcases hko with ⟨a, _⟩ | ⟨a, _⟩ <;> rw [a] <;> rfl
  have eB : ∀ n, bigB n ed (rK k) (rW k (vl s len i)) D σ = fGB n ed 1402 537 3 (if k = 8 then 3 else 9) 1 0 0 0 0 0 0 0 0 D σ := by
    intro n
    rw [eK, eW]
    unfold bigB
    rcases hko with ⟨a, _⟩ | ⟨a, _⟩ <;> rw [a] <;> rfl
  refine hv_inE eB ?_
  unfold gX4_valueStatement
  simp only [hρ, Option.bind_some, ↓reduceIte, Option.bind_assoc]
  refine hv_bind (c_adv hE hC hi) ?_
  rintro C2 ⟨e4, e5⟩
  refine hv_inU (fun _ => fGB.eq_2 ..) ?_
  simp only [Nat.reduceEqDiff, ↓reduceIte, if_pos hD.1.1]
  unfold gX4_expression gX12_expression
  refine hv_seq ?_
  refine hv_mono ((exprs hE (e - (i + 1))).2 C2 D (i + 1) l m dep st (fc β) 0 64 64 β (Nat.le_refl _) e4 hD (by omega) (by omega) (by omega) hd hb (by omega) (by omega) (by omega)) (fun y hy => hv_mono hy (fun w hw => ?_))
  rcases y with ⟨y1, C3⟩
  rcases w with ⟨w1, D3, σ3⟩
  obtain ⟨p1, p2, p3, ⟨p4, p5, p6⟩ | ⟨p4, p5, j, p6, p7, p8⟩⟩ := hw
  · dsimp only at p1 p2 p3 p4 p5 p6
    subst p1 p4 p5
    obtain ⟨i1, l1, m1, G, hq⟩ := p6
    have hq' : EQ1 σ3 s len e (i + 1) l m dep st (fc β) 0 β C3 D3 i1 l1 m1 G := hq
    obtain ⟨q1, q2, q3, q4, q5, q6, q7, q8, q9, q10, q11, q12⟩ := hq
    obtain ⟨C4, c1, c2, c3, c4, c5, c6⟩ := c_add hE q3 (show l1 < 1000 by omega) o 0
    simp only [if_neg (show ¬ (1 : Int32) = 0 by decide), ao_cs, Option.bind_some, hρ, ↓reduceIte, c1, Option.bind_assoc]
    refine hv_inU (fun _ => fGB.eq_2 ..) ?_
    simp only [Nat.reduceEqDiff, ↓reduceIte, if_pos q4.1.1]
    rw [show (21 : Int32) = nI 21 from rfl]
    by_cases k21 : kd s len i1 = 21
    · have hlt' := kd_lt hE q2 (by omega)
      refine hv_bind (c_exp hE c2 hlt' k21) ?_
      rintro ⟨y1, C5⟩ ⟨e6, e7, e8⟩
      dsimp only at e6 e7 e8
      subst e6
      simp only [if_pos (show (1 : Int32) = 0 ∨ (1 : Int32) = 1 from Or.inr rfl), Option.bind_some]
      refine hv_some ?_
      refine hv_bind (d_need (c := 59) (k := 21) hE q4 rfl (by omega) (by omega) k21) ?_
      rintro ⟨w1, D4, σ4⟩ ⟨f8, f9, f10, f11⟩
      dsimp only at f8 f9 f10 f11
      subst f8 f9
      simp only [ao_cs]
      obtain ⟨D5, d1, d2, d3, d4, d5, d6⟩ := d_make hE f10 (show m1 < 6000 by omega) (if k = 8 then 14 else 19) 0 0
      refine hv_up (fun _ => fGB.eq_2 ..) ?_
      simp only [Nat.reduceEqDiff, ↓reduceIte]
      have fin : hv (fun n => fGB n ed 1425 537 3 (if k = 8 then 3 else 9) 1 0 0 0 (if k = 8 then 14 else 19) 537 0 0 0 D4 σ4) (fun w => PO C D σ4 s len e l m (SQ σ4 s len e i l m dep st β) (1, C5) w) := by
        refine hv_up (fun _ => fGB.eq_2 ..) ?_
        simp only [Nat.reduceEqDiff, ↓reduceIte, if_pos f10.1.1, d1, Option.bind_some, ao_let]
        refine hv_up (fun _ => fGB.eq_2 ..) ?_
        simp only [Nat.reduceEqDiff, ↓reduceIte]
        refine hv_some (PO_yes (FrC_tr (e5 l) (FrC_tr p2 (FrC_tr c3 (e8 l1) (Nat.le_refl _) |> fun z => ⟨z.1, fun j hj => z.2 j (by omega)⟩) (Nat.le_refl _)) (Nat.le_refl _)) (FrD_tr p3 (FrD_tr (f11 m1) d3 (Nat.le_refl _) |> fun z => ⟨z.1, fun j hj => z.2 j (by omega)⟩) (Nat.le_refl _)) (SQ_val rfl hst hb hq' (by omega) hlt' c3 c4 c5 e8 e7 f11 d3 d4 d5 d2 (fun op fi se d L G' x1 x2 x3 x4 x5 x6 => ⟨m1, β, 1, x5, ?_⟩)))
        rcases hko with ⟨ka, kb⟩ | ⟨ka, kb⟩
        · rw [kb] at x1
          rw [if_pos ka] at x3
          exact Or.inr (Or.inr (Or.inr (Or.inr (Or.inr (Or.inr (Or.inr (Or.inr (Or.inr (Or.inr (Or.inl ⟨x1, x3, rfl, x6⟩))))))))))
        · rw [kb] at x1
          rw [if_neg (by omega)] at x3
          exact Or.inr (Or.inr (Or.inr (Or.inr (Or.inr (Or.inr (Or.inr (Or.inr (Or.inr (Or.inr (Or.inr (Or.inr (Or.inr (Or.inr (Or.inr (Or.inl ⟨x1, x3, rfl⟩)))))))))))))))
      rcases hko with ⟨ka, kb⟩ | ⟨ka, kb⟩
      · simp only [if_pos ka] at fin ⊢
        exact hv_ifT (by trivial) fin
      · simp only [if_neg (show ¬ k = 8 by omega)] at fin ⊢
        exact hv_ifF (by decide) fin
    · refine hv_bind (c_exp0 hE c2 k21 (by omega)) ?_
      rintro ⟨y1, C5⟩ ⟨e6, e7, e8⟩
      dsimp only at e6 e7 e8
      subst e6
      simp only [if_pos (show (0 : Int32) = 0 ∨ (0 : Int32) = 1 from Or.inl rfl), Option.bind_some]
      refine hv_some ?_
      refine hv_bind (d_need0 (c := 59) (k := 21) hE q4 rfl (by omega) (by omega) k21) ?_
      rintro ⟨w1, D4, σ4⟩ ⟨f8, f9, f10, f11⟩
      dsimp only at f8 f9 f10 f11
      subst f8 f9
      simp only [ao_cs]
      exact hv_some (PO_no q2 rfl (FrC_tr (e5 l) (FrC_tr p2 (FrC_tr c3 (e7 l1) (Nat.le_refl _) |> fun z => ⟨z.1, fun j hj => z.2 j (by omega)⟩) (Nat.le_refl _)) (Nat.le_refl _)) e8 rfl rfl f10 (FrD_tr p3 (f11 m) (Nat.le_refl _)))
  · dsimp only at p1 p2 p3 p4 p5 p7 p8
    subst p1 p4 p5
    simp only [↓reduceIte, Option.bind_some, true_or]
    refine hv_some ?_
    simp only [ao_cs]
    exact hv_some (PO_no p6 rfl (FrC_tr (e5 l) p2 (Nat.le_refl _)) p7 rfl rfl p8 p3)
/-- retry and quit -/
theorem bare_ok {ρ σ : ao_H} {s : Fn} {len e : Nat} (hE : PE ρ σ s len e) {C D : ao_M} {i l m dep st ed k : Nat} {β : List (Bool × Nat)} (hC : PC C s len e i l st) (hD : PD D σ s len (i + 1) m dep st (fc β)) (hi : i < e) (h1 : l ≤ i) (h2 : m ≤ 2 * i) (hd : dep ≤ 10) (hst : st ≤ 300) (hb : β.length ≤ 10) (hf : fc β ≠ 0) (o : Int32) (hko : k = 12 ∧ o = 18 ∨ k = 13 ∧ o = 19) : hv (fun n => (gX4_bareStatement n 2 o (wf β) C ρ).bind fun p10 => if p10.1 = 0 ∨ p10.1 = 1 then some (p10.1, p10.2) else none) (fun y => hv (fun n => bigB n ed (rK k) (rW k (vl s len i)) D σ) (fun w => PO C D σ s len e l m (SQ σ s len e i l m dep st β) y w)) := by
  have hρ := hE.1
  have a6 := hE.2.2.1
  have a7 := hE.2.2.2.1
  have eB : ∀ n, bigB n ed (rK k) (rW k (vl s len i)) D σ = fGB n ed 1435 537 3 (if k = 12 then 7 else 8) 1 0 0 0 0 0 0 0 0 D σ := by
    intro n
    unfold bigB
    rcases hko with ⟨a, _⟩ | ⟨a, _⟩ <;> rw [a] <;> rfl
  have ew : ¬ wf β = 0 := by unfold wf; rw [if_neg hf]; decide
  refine hv_inE eB ?_
  unfold gX4_bareStatement
  simp only [if_neg ew, hρ, Option.bind_some, ↓reduceIte, Option.bind_assoc]
  refine hv_bind (c_adv hE hC hi) ?_
  rintro C3 ⟨e4, e5⟩
  obtain ⟨C4, c1, c2, c3, c4, c5, c6⟩ := c_add hE e4 (show l < 1000 by omega) o 0
  simp only [c1, Option.bind_some]
  refine hv_inU (fun _ => fGB.eq_2 ..) ?_
  simp only [Nat.reduceEqDiff, ↓reduceIte, if_pos hD.1.1]
  rw [show (21 : Int32) = nI 21 from rfl]
  by_cases k21 : kd s len (i + 1) = 21
  · have hlt' := kd_lt hE (show i + 1 ≤ e by omega) (by omega)
    refine hv_bind (c_exp hE c2 hlt' k21) ?_
    rintro ⟨y1, C5⟩ ⟨e6, e7, e8⟩
    dsimp only at e6 e7 e8
    subst e6
    simp only [if_pos (show (1 : Int32) = 0 ∨ (1 : Int32) = 1 from Or.inr rfl), Option.bind_some]
    refine hv_some ?_
    refine hv_bind (d_need (c := 59) (k := 21) hE hD rfl (by omega) (by omega) k21) ?_
    rintro ⟨w1, D4, σ4⟩ ⟨f8, f9, f10, f11⟩
    dsimp only at f8 f9 f10 f11
    subst f8 f9
    simp only [ao_cs]
    obtain ⟨D5, d1, d2, d3, d4, d5, d6⟩ := d_make hE f10 (show m < 6000 by omega) (if k = 12 then 17 else 18) 0 0
    refine hv_up (fun _ => fGB.eq_2 ..) ?_
    simp only [Nat.reduceEqDiff, ↓reduceIte]
    have fin : hv (fun n => fGB n ed 1455 537 3 (if k = 12 then 7 else 8) 1 0 0 0 (if k = 12 then 17 else 18) 537 0 0 0 D4 σ4) (fun w => PO C D σ4 s len e l m (SQ σ4 s len e i l m dep st β) (1, C5) w) := by
      refine hv_up (fun _ => fGB.eq_2 ..) ?_
      simp only [Nat.reduceEqDiff, ↓reduceIte, if_pos f10.1.1, d1, Option.bind_some, ao_let]
      refine hv_up (fun _ => fGB.eq_2 ..) ?_
      simp only [Nat.reduceEqDiff, ↓reduceIte]
      refine hv_some (PO_yes (FrC_tr (e5 l) (FrC_tr c3 (e8 l) (Nat.le_refl _)) (Nat.le_refl _)) (FrD_tr (f11 m) d3 (Nat.le_refl _)) ⟨i + 1 + 1, l + 1, m + 1, st, one l (m, β, 0) (m + 1, β, 0), by omega, by omega, by omega, hst, e7, d2, by omega, by omega, by omega, by omega, one_l, one_r, ?_⟩)
      refine Sg_st hb (by omega) (by omega) (fun op fi se d L G' k1 k2 k3 k4 k5 k6 k7 _ => ⟨m, β, 0, k6, ?_⟩)
      have x1 : op l = o := by rw [k2, ((e8 (l + 1)).2 l (by omega)).1]; exact c4
      have x3 : d (3 * m) = (if k = 12 then 17 else 18) := by rw [k5 _ (by omega) (by omega)]; exact d4
      rcases hko with ⟨ka, kb⟩ | ⟨ka, kb⟩
      · rw [kb] at x1
        rw [if_pos ka] at x3
        exact Or.inr (Or.inr (Or.inr (Or.inr (Or.inr (Or.inr (Or.inr (Or.inr (Or.inr (Or.inr (Or.inr (Or.inr (Or.inr (Or.inl ⟨x1, x3, rfl, by omega⟩)))))))))))))
      · rw [kb] at x1
        rw [if_neg (by omega)] at x3
        exact Or.inr (Or.inr (Or.inr (Or.inr (Or.inr (Or.inr (Or.inr (Or.inr (Or.inr (Or.inr (Or.inr (Or.inr (Or.inr (Or.inr (Or.inl ⟨x1, x3, rfl, by omega⟩))))))))))))))
    rcases hko with ⟨ka, kb⟩ | ⟨ka, kb⟩
    · simp only [if_pos ka] at fin ⊢
      exact hv_ifT (by trivial) fin
    · simp only [if_neg (show ¬ k = 12 by omega)] at fin ⊢
      exact hv_ifF (by decide) fin
  · refine hv_bind (c_exp0 hE c2 k21 (by omega)) ?_
    rintro ⟨y1, C5⟩ ⟨e6, e7, e8⟩
    dsimp only at e6 e7 e8
    subst e6
    simp only [if_pos (show (0 : Int32) = 0 ∨ (0 : Int32) = 1 from Or.inl rfl), Option.bind_some]
    refine hv_some ?_
    refine hv_bind (d_need0 (c := 59) (k := 21) hE hD rfl (by omega) (by omega) k21) ?_
    rintro ⟨w1, D4, σ4⟩ ⟨f8, f9, f10, f11⟩
    dsimp only at f8 f9 f10 f11
    subst f8 f9
    simp only [ao_cs]
    exact hv_some (PO_no (i := i + 1) (by omega) rfl (FrC_tr (e5 l) (FrC_tr c3 (e7 l) (Nat.le_refl _)) (Nat.le_refl _)) e8 rfl rfl f10 (f11 m))
