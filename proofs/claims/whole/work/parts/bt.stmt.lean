set_option linter.unusedSimpArgs false
set_option linter.unusedVariables false
/-! ===== a statement of any kind; all of them ===== -/
theorem c_pre {α : Type} {ρ σ : ao_H} {s : Fn} {len e i l st ec dep : Nat} {x1 : Int32} {C : ao_M} (hE : PE ρ σ s len e) (h : PC C s len e i l st) (hst : st < 300) : PC (ao_u C 8 5 (nI (st + 1))) s len e i l (st + 1) ∧ ∀ l', FrC C (ao_u C 8 5 (nI (st + 1))) l' := by
  obtain ⟨⟨t1, t2⟩, ⟨b1, b2, b3, b4⟩, b5, b6, b7⟩ := h
  exact ⟨⟨⟨by rw [u_n1 (by omega)]; exact t1, fun j hj => by rw [u_n1 (by omega), u_n1 (by omega), u_n1 (by omega)]; exact t2 j hj⟩, ⟨by rw [u_n1 (by omega)]; exact b1, by rw [u_n1 (by omega)]; exact b2, by rw [u_n1 (by omega)]; exact b3, by rw [u_n1 (by omega)]; exact b4⟩, by rw [u_n2 (by omega)]; exact b5, by rw [u_n2 (by omega)]; exact b6, u_eq⟩, fun l' => ⟨fun x j hx => u_ne (by omega), fun j _ => ⟨u_n1 (by omega), u_n1 (by omega), u_n1 (by omega)⟩⟩⟩
/-- a call whose answer is only handed on -/
theorem hv_wrap {f : Nat → Option (Int32 × ao_M)} {g : Nat → Option ((Int32 ⊕ String) × ao_S)} {C D : ao_M} {σ : ao_H} {s : Fn} {len e l m : Nat} {Q : ao_M → ao_M → Prop} (h : hv f (fun y => hv g (fun w => PO C D σ s len e l m Q y w))) : hv (fun n => (f n).bind fun p => if p.1 = 0 ∨ p.1 = 1 then some (p.1, p.2) else none) (fun y => hv g (fun w => PO C D σ s len e l m Q y w)) := by
  refine hv_bind h ?_
  rintro ⟨y1, C1⟩ hy
  have h01 : y1 = 0 ∨ y1 = 1 := by
    obtain ⟨N, w, -, -, -, -, ⟨h, -⟩ | ⟨h, -⟩⟩ := hy
    · exact Or.inr h
    · exact Or.inl h
  exact hv_ifT h01 (hv_some hy)
theorem stmt_ok {ρ σ : ao_H} {s : Fn} {len e T : Nat} (hE : PE ρ σ s len e) (hB : ∀ T', T' < T → BLs ρ σ s len e T') : STs ρ σ s len e T := by
  intro C D i l m dep st ec ed β hT hC hD hi h1 h2 hd hst hb hec hed
  have hρ := hE.1
  have a6 := hE.2.2.1
  have a7 := hE.2.2.2.1
  have hkl := @kd_le s len i
  have hfl := @fc_le β
  have hB' : ∀ T', T' < e - i → BLs ρ σ s len e T' := fun T' h => hB T' (by omega)
  by_cases bad : kd s len i ≤ 1 ∨ kd s len i = 4 ∨ kd s len i = 6 ∨ kd s len i = 11 ∨ kd s len i = 16 ∨ 17 ≤ kd s len i ∨ (kd s len i = 12 ∨ kd s len i = 13) ∧ fc β = 0 ∨ st = 300
  · have bad' : kd s len i ≤ 1 ∨ kd s len i = 4 ∨ kd s len i = 6 ∨ kd s len i = 11 ∨ kd s len i = 16 ∨ 17 ≤ kd s len i ∨ (kd s len i = 12 ∨ kd s len i = 13) ∧ wf β = 0 ∨ st = 300 := by
      rcases bad with q | q | q | q | q | q | q | q
      · exact Or.inl q
      · exact Or.inr (Or.inl q)
      · exact Or.inr (Or.inr (Or.inl q))
      · exact Or.inr (Or.inr (Or.inr (Or.inl q)))
      · exact Or.inr (Or.inr (Or.inr (Or.inr (Or.inl q))))
      · exact Or.inr (Or.inr (Or.inr (Or.inr (Or.inr (Or.inl q)))))
      · exact Or.inr (Or.inr (Or.inr (Or.inr (Or.inr (Or.inr (Or.inl ⟨q.1, by unfold wf; rw [if_pos q.2]⟩))))))
      · exact Or.inr (Or.inr (Or.inr (Or.inr (Or.inr (Or.inr (Or.inr q))))))
    refine hv_mono (c_bad hE hC hst bad') ?_
    rintro y ⟨e0, e1, e2⟩
    refine hv_mono (d_bad hE hD hst (by omega) bad) ?_
    rintro w ⟨f0, f1, f2, f3⟩
    exact PO_no hi e0 (e1 l) e2 f0 f1 f2 (f3 m)
  · have hst' : st < 300 := by omega
    have hlt := kd_lt hE hi (by omega)
    obtain ⟨hC1, fC1⟩ := c_pre (α := Nat) (ec := ec) (dep := dep) (x1 := 0) hE hC hst'
    have hs : kd s len i = 2 ∨ kd s len i = 3 ∨ kd s len i = 5 ∨ kd s len i = 7 ∨ kd s len i = 8 ∨ kd s len i = 9 ∨ kd s len i = 10 ∨ kd s len i = 12 ∨ kd s len i = 13 ∨ kd s len i = 14 ∨ kd s len i = 15 := by omega
    refine d_pre hE hD hst' (by omega) rfl hs (by omega) (fun D2 g1 g2 => ?_)
    refine hv_up (fun _ => fGS.eq_2 ..) ?_
    simp only [Nat.reduceEqDiff, ↓reduceIte, hρ, Option.bind_some, hC.2.2.2.2, if_pos (show nI st < (300 : Int32) by rw [show (300 : Int32) = nI 300 from rfl, n_lt (by omega) (by omega)]; exact hst'), ao_let, show nI st + (1 : Int32) = nI (st + 1) from n_add, hC1.2.1.2.1]
    have up : ∀ {y w}, PO (ao_u C 8 5 (nI (st + 1))) D2 σ s len e l m (SQ σ s len e i l m dep (st + 1) β) y w → PO C D σ s len e l m (SQ σ s len e i l m dep st β) y w := fun h => PO_tr h (fC1 l) (g2 m) (Nat.le_refl _) (Nat.le_refl _) (fun q => q)
    have up2 : ∀ {f g}, hv f (fun y => hv g (fun w => PO (ao_u C 8 5 (nI (st + 1))) D2 σ s len e l m (SQ σ s len e i l m dep (st + 1) β) y w)) → hv f (fun y => hv g (fun w => PO C D σ s len e l m (SQ σ s len e i l m dep st β) y w)) := fun h => hv_mono h (fun y hy => hv_mono hy (fun w hw => up hw))
    generalize ao_u C 8 5 (nI (st + 1)) = C1 at *
    generalize hk : kd s len i = k at *
    refine up2 ?_
    rcases hs with rfl | rfl | rfl | rfl | rfl | rfl | rfl | rfl | rfl | rfl | rfl
    · exact assign_ok hE hC1 g1 hlt h1 h2 hd (by omega) (by omega) hk 11 (Or.inl ⟨rfl, rfl⟩)
    · exact assign_ok hE hC1 g1 hlt h1 h2 hd (by omega) (by omega) hk 10 (Or.inr ⟨rfl, rfl⟩)
    · simp only [if_pos (show 0 < ec by omega)]
      exact hv_wrap (if_ok hE hB' hC1 g1 hlt h1 h2 hd (by omega) hb (by omega) (by omega))
    · simp only [if_pos (show 0 < ec by omega)]
      exact hv_wrap (while_ok hE hB' hC1 g1 hlt h1 h2 hd (by omega) hb (by omega) (by omega))
    · exact value_ok hE hC1 g1 hlt h1 h2 hd (by omega) (by omega) 15 (Or.inl ⟨rfl, rfl⟩)
    · simp only [if_pos (show 0 < ec by omega)]
      exact hv_wrap (level_ok hE hB' hC1 g1 hlt h1 h2 hd (by omega) hb (by omega) (by omega) (wf β) (Or.inl ⟨rfl, rfl⟩))
    · simp only [if_pos (show 0 < ec by omega)]
      exact hv_wrap (level_ok hE hB' hC1 g1 hlt h1 h2 hd (by omega) hb (by omega) (by omega) 0 (Or.inr ⟨rfl, rfl⟩))
    · exact bare_ok hE hC1 g1 hlt h1 h2 hd (by omega) (by omega) (by omega) 18 (Or.inl ⟨rfl, rfl⟩)
    · exact bare_ok hE hC1 g1 hlt h1 h2 hd (by omega) (by omega) (by omega) 19 (Or.inr ⟨rfl, rfl⟩)
    · exact value_ok hE hC1 g1 hlt h1 h2 hd (by omega) (by omega) 20 (Or.inr ⟨rfl, rfl⟩)
    · simp only [if_pos (show 0 < ec by omega)]
      exact hv_wrap (try_ok hE hB' hC1 g1 hlt h1 h2 hd (by omega) hb (by omega) (by omega))
theorem stmts {ρ σ : ao_H} {s : Fn} {len e : Nat} (hE : PE ρ σ s len e) : ∀ T, STs ρ σ s len e T ∧ BLs ρ σ s len e T := by
  intro T
  induction T using Nat.strongRecOn with
  | _ T ih => exact ⟨stmt_ok hE (fun T' h => (ih T' h).2), block_ok hE (fun T' h => (ih T' h).1)⟩
