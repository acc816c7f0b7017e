set_option linter.unusedSimpArgs false
set_option linter.unusedVariables false
/-! ===== statements: the reference's beginning ===== -/
/-- what the reference does behind a statement's first token -/
def bigB (n e : Nat) (x1 x2 : Int32) (p27 : ao_M) (ρ : ao_H) : Option ((Int32 ⊕ String) × ao_S) :=
    if x1 = (3 : Int32) then
      if x2 = (0 : Int32) then
        (gX12_condition n 537 p27 ρ).bind fun p30 =>
        ao_cs p30.1 (fun _ => fGB n e 1248 537 x1 x2 1 0 0 0 0 0 0 0 0 p30.2.1 p30.2.2) (fun E => some (.inr E, p30.2.1, p30.2.2))
      else
        if x2 = (2 : Int32) then
          ao_let (p27 537 13) fun v33 =>
          (gX12_condition n 537 p27 ρ).bind fun p34 =>
          ao_cs p34.1 (fun _ => fGB n e 1349 537 x1 x2 1 0 v33 0 0 0 0 0 0 p34.2.1 p34.2.2) (fun E => some (.inr E, p34.2.1, p34.2.2))
        else
          if x2 = (3 : Int32) then
            fGB n e 1402 537 x1 x2 1 0 0 0 0 0 0 0 0 p27 ρ
          else
            if x2 = (7 : Int32) then
              fGB n e 1435 537 x1 x2 1 0 0 0 0 0 0 0 0 p27 ρ
            else
              if x2 = (8 : Int32) then
                fGB n e 1435 537 x1 x2 1 0 0 0 0 0 0 0 0 p27 ρ
              else
                if x2 = (9 : Int32) then
                  fGB n e 1402 537 x1 x2 1 0 0 0 0 0 0 0 0 p27 ρ
                else
                  if x2 = (10 : Int32) then
                    if 0 < e then
                    (fGB n (e - 1) 2000 537 0 0 0 0 0 0 0 0 0 0 0 p27 ρ).bind fun p41 =>
                    ao_cs p41.1 (fun _ => fGB n e 1469 537 x1 x2 1 0 0 0 0 0 0 0 0 p41.2.1 p41.2.2) (fun E => some (.inr E, p41.2.1, p41.2.2))
                    else none
                  else
                    fGB n e 1472 537 x1 x2 1 0 0 0 0 0 0 0 0 p27 ρ
    else
      (gX12_need n 537 (61 : Int32) p27 ρ).bind fun p48 =>
      ao_cs p48.1 (fun _ => fGB n e 1152 537 x1 x2 1 0 0 0 0 0 0 0 0 p48.2.1 p48.2.2) (fun E => some (.inr E, p48.2.1, p48.2.2))
theorem d_pre {α : Type} {ρ σ : ao_H} {s : Fn} {len e i m dep st wi ed k : Nat} {D : ao_M} (hE : PE ρ σ s len e) (h : PD D σ s len i m dep st wi) (hst : st < 300) (hwi : wi ≤ 10) (hk : kd s len i = k) (hs : k = 2 ∨ k = 3 ∨ k = 5 ∨ k = 7 ∨ k = 8 ∨ k = 9 ∨ k = 10 ∨ k = 12 ∨ k = 13 ∨ k = 14 ∨ k = 15) (hw : k = 12 ∨ k = 13 → wi ≠ 0) {f : Nat → Option α} {R : α → (Int32 ⊕ String) × ao_S → Prop}
    (q : ∀ D2, PD D2 σ s len (i + 1) m dep (st + 1) wi → (∀ m', FrD D D2 m') → hv f (fun y => hv (fun n => bigB n ed (rK k) (rW k (vl s len i)) D2 σ) (fun w => R y w))) : hv f (fun y => hv (fun n => fGB n ed 1000 537 0 0 0 0 0 0 0 0 0 0 0 D σ) (fun w => R y w)) := by
  have h9 := h.2.1.1
  have h10 := h.2.1.2.1 (by omega)
  have h15 := h.2.2.2.2.1
  have h16 := h.2.2.2.2.2
  have h37 := h.1.1
  rw [hk] at h9 h10
  have t108 : hv f (fun y => hv (fun n => fGB n ed 1108 537 (rK k) (rW k (vl s len i)) 1 0 0 0 0 0 0 0 0 D σ) (fun w => R y w)) := by
    refine hv_inU (fun _ => fGB.eq_2 ..) ?_
    simp only [Nat.reduceEqDiff, ↓reduceIte, if_pos h37, h15, if_neg (show ¬ nI st = (300 : Int32) by rw [show (300 : Int32) = nI 300 from rfl, n_eq (by omega) (by omega)]; omega), ao_let, show nI st + (1 : Int32) = nI (st + 1) from n_add]
    have hD1 : PD (ao_u D 537 15 (nI (st + 1))) σ s len i m dep (st + 1) wi := by
      obtain ⟨a1, ⟨a2, a3, a4, a5⟩, a6, a7, a8, a9⟩ := h
      exact ⟨DT_fr a1 (u_n2 (by omega)) (fun i => u_n1 (by omega)), ⟨by rw [u_n2 (by omega)]; exact a2, fun q => by rw [u_n2 (by omega)]; exact a3 q, by rw [u_n2 (by omega)]; exact a4, by rw [u_n2 (by omega)]; exact a5⟩, by rw [u_n2 (by omega)]; exact a6, by rw [u_n2 (by omega)]; exact a7, u_eq, by rw [u_n2 (by omega)]; exact a9⟩
    refine hv_inB (d_tok hE hD1) ?_
    rintro D2 ⟨g1, g2⟩
    exact q D2 g1 (fun m' => FrD_tr ⟨fun x j hx => u_ne (by omega), fun x hx => u_n1 (by omega)⟩ (g2 m') (Nat.le_refl _))
  have t65 : hv f (fun y => hv (fun n => fGB n ed 1065 537 (rK k) (rW k (vl s len i)) 0 0 0 0 0 0 0 0 0 D σ) (fun w => R y w)) := by
    refine hv_inU (fun _ => fGB.eq_2 ..) ?_
    simp only [Nat.reduceEqDiff, ↓reduceIte]
    refine hv_inU (fun _ => fGB.eq_2 ..) ?_
    simp only [Nat.reduceEqDiff, ↓reduceIte, if_neg (show ¬ (1 : Int32) = 0 by decide)]
    have t92 : (k = 12 ∨ k = 13) → hv f (fun y => hv (fun n => fGB n ed 1092 537 (rK k) (rW k (vl s len i)) 1 0 0 0 0 0 0 0 0 D σ) (fun w => R y w)) := by
      intro hk2
      have := hw hk2
      refine hv_inU (fun _ => fGB.eq_2 ..) ?_
      simp only [Nat.reduceEqDiff, ↓reduceIte, if_pos h37, h16, if_neg (show ¬ nI wi = (0 : Int32) by rw [show (0 : Int32) = nI 0 from rfl, n_eq (by omega) (by omega)]; exact this)]
      exact t108
    rcases hs with rfl | rfl | rfl | rfl | rfl | rfl | rfl | rfl | rfl | rfl | rfl
    · exact hv_inE (fun n => rfl) t108
    · exact hv_inE (fun n => rfl) t108
    · exact hv_inE (fun n => rfl) t108
    · exact hv_inE (fun n => rfl) t108
    · exact hv_inE (fun n => rfl) t108
    · exact hv_inE (fun n => rfl) t108
    · exact hv_inE (fun n => rfl) t108
    · exact hv_inE (fun n => rfl) (t92 (Or.inl rfl))
    · exact hv_inE (fun n => rfl) (t92 (Or.inr rfl))
    · exact hv_inE (fun n => rfl) t108
    · exact hv_inE (fun n => rfl) t108
  refine hv_inU (fun _ => fGB.eq_2 ..) ?_
  simp only [Nat.reduceEqDiff, ↓reduceIte, if_pos h37, h9, h10, ao_let]
  rcases hs with rfl | rfl | rfl | rfl | rfl | rfl | rfl | rfl | rfl | rfl | rfl
  · exact hv_inE (fun n => rfl) t65
  · exact hv_inE (fun n => rfl) t65
  · exact hv_inE (fun n => rfl) t65
  · exact hv_inE (fun n => rfl) t65
  · exact hv_inE (fun n => rfl) t65
  · exact hv_inE (fun n => rfl) t65
  · exact hv_inE (fun n => rfl) t65
  · exact hv_inE (fun n => rfl) t65
  · exact hv_inE (fun n => rfl) t65
  · exact hv_inE (fun n => rfl) t65
  · exact hv_inE (fun n => rfl) t65
/-- the class finds no statement -/
theorem c_bad {ρ σ : ao_H} {s : Fn} {len e i l st ec dep : Nat} {x1 : Int32} {C : ao_M} (hE : PE ρ σ s len e) (h : PC C s len e i l st) (hst : st ≤ 300) (hk : kd s len i ≤ 1 ∨ kd s len i = 4 ∨ kd s len i = 6 ∨ kd s len i = 11 ∨ kd s len i = 16 ∨ 17 ≤ kd s len i ∨ (kd s len i = 12 ∨ kd s len i = 13) ∧ x1 = 0 ∨ st = 300) : hv (fun n => fGS n ec 2000 2 x1 (nI dep) 0 0 C ρ) (fun y => y.1 = 0 ∧ (∀ l', FrC C y.2 l') ∧ y.2 2 2 = nI (bg s len i)) := by
  have hρ := hE.1
  have h5 := h.2.2.2.2
  have h8 := h.2.1.2.1
  have hkl := @kd_le s len i
  refine hv_up (fun _ => fGS.eq_2 ..) ?_
  simp only [Nat.reduceEqDiff, ↓reduceIte, hρ, Option.bind_some, h5]
  by_cases hs : st < 300
  · refine hv_ifT (by rw [show (300 : Int32) = nI 300 from rfl, n_lt (by omega) (by omega)]; exact hs) ?_
    simp only [ao_let, show nI st + (1 : Int32) = nI (st + 1) from n_add, u_n1 (show (3 : Nat) ≠ 8 by omega), h8]
    have hC1 : PC (ao_u C 8 5 (nI (st + 1))) s len e i l (st + 1) := by
      obtain ⟨⟨t1, t2⟩, ⟨b1, b2, b3, b4⟩, b5, b6, b7⟩ := h
      exact ⟨⟨by rw [u_n1 (by omega)]; exact t1, fun j hj => by rw [u_n1 (by omega), u_n1 (by omega), u_n1 (by omega)]; exact t2 j hj⟩, ⟨by rw [u_n1 (by omega)]; exact b1, by rw [u_n1 (by omega)]; exact b2, by rw [u_n1 (by omega)]; exact b3, by rw [u_n1 (by omega)]; exact b4⟩, by rw [u_n2 (by omega)]; exact b5, by rw [u_n2 (by omega)]; exact b6, u_eq⟩
    have hF : ∀ l', FrC C (ao_u (ao_u C 8 5 (nI (st + 1))) 2 2 (nI (bg s len i))) l' := fun l' => ⟨fun x j hx => by rw [u_ne (by omega), u_ne (by omega)], fun j _ => by rw [u_n1 (by omega), u_n1 (by omega), u_n1 (by omega), u_n1 (by omega), u_n1 (by omega), u_n1 (by omega)]; exact ⟨rfl, rfl, rfl⟩⟩
    have ne : ∀ k, k ≤ 27 → (nI (kd s len i) = nI k) = (kd s len i = k) := fun k hk => n_eq (by omega) (by omega)
    refine hv_ifF (by rw [show (2 : Int32) = nI 2 from rfl, ne 2 (by omega)]; omega) ?_
    refine hv_ifF (by rw [show (3 : Int32) = nI 3 from rfl, ne 3 (by omega)]; omega) ?_
    refine hv_ifF (by rw [show (5 : Int32) = nI 5 from rfl, ne 5 (by omega)]; omega) ?_
    refine hv_ifF (by rw [show (7 : Int32) = nI 7 from rfl, ne 7 (by omega)]; omega) ?_
    refine hv_ifF (by rw [show (8 : Int32) = nI 8 from rfl, ne 8 (by omega)]; omega) ?_
    refine hv_ifF (by rw [show (9 : Int32) = nI 9 from rfl, ne 9 (by omega)]; omega) ?_
    refine hv_ifF (by rw [show (10 : Int32) = nI 10 from rfl, ne 10 (by omega)]; omega) ?_
    have bare : ∀ op : Int32, x1 = 0 → hv (fun n => (gX4_bareStatement n 2 op x1 (ao_u C 8 5 (nI (st + 1))) ρ).bind fun p35 => if p35.1 = 0 ∨ p35.1 = 1 then some (p35.1, p35.2) else none) (fun y => y.1 = 0 ∧ (∀ l', FrC C y.2 l') ∧ y.2 2 2 = nI (bg s len i)) := by
      intro op hx
      unfold gX4_bareStatement
      simp only [if_pos hx, hρ, ↓reduceIte, c_brk hE hC1, Option.bind_some, true_or]
      exact hv_some ⟨rfl, hF, show (ao_u (ao_u C 8 5 (nI (st + 1))) 2 2 (nI (bg s len i))) 2 2 = _ from u_eq⟩
    by_cases k12 : kd s len i = 12
    · exact hv_ifT (by rw [k12]; rfl) (bare 18 (by rcases hk with q | q | q | q | q | q | q | q <;> first | omega | exact q.2))
    refine hv_ifF (by rw [show (12 : Int32) = nI 12 from rfl, ne 12 (by omega)]; exact k12) ?_
    by_cases k13 : kd s len i = 13
    · exact hv_ifT (by rw [k13]; rfl) (bare 19 (by rcases hk with q | q | q | q | q | q | q | q <;> first | omega | exact q.2))
    refine hv_ifF (by rw [show (13 : Int32) = nI 13 from rfl, ne 13 (by omega)]; exact k13) ?_
    refine hv_ifF (by rw [show (14 : Int32) = nI 14 from rfl, ne 14 (by omega)]; omega) ?_
    refine hv_ifF (by rw [show (15 : Int32) = nI 15 from rfl, ne 15 (by omega)]; omega) ?_
    refine hv_up (fun _ => fGS.eq_2 ..) ?_
    simp only [Nat.reduceEqDiff, ↓reduceIte, hρ, c_brk hE hC1, Option.bind_some, true_or]
    exact hv_some ⟨rfl, hF, show (ao_u (ao_u C 8 5 (nI (st + 1))) 2 2 (nI (bg s len i))) 2 2 = _ from u_eq⟩
  · refine hv_ifF (by rw [show (300 : Int32) = nI 300 from rfl, n_lt (by omega) (by omega)]; exact hs) ?_
    simp only [c_brk hE h, Option.bind_some, true_or, ↓reduceIte]
    exact hv_some ⟨rfl, fun _ => c_brkF, show (ao_u C 2 2 (nI (bg s len i))) 2 2 = _ from u_eq⟩
