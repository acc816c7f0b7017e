set_option linter.unusedSimpArgs false
set_option linter.unusedVariables false
/-! ===== statements: blocks ===== -/
def wf (β : List (Bool × Nat)) : Int32 := if fc β = 0 then 0 else 1
def SQ1 (σ : ao_H) (s : Fn) (len e i l m dep st : Nat) (β : List (Bool × Nat)) (C' D' : ao_M) (i' l' m' st' : Nat) (G : Gh) : Prop := i ≤ i' ∧ i' ≤ e ∧ st' ≤ 300 ∧ PC C' s len e i' l' st' ∧ PD D' σ s len i' m' dep st' (fc β) ∧ l' + i ≤ l + i' ∧ m' + 2 * i ≤ m + 2 * i' ∧ l ≤ l' ∧ m ≤ m' ∧ G l = (m, β, 0) ∧ G l' = (m', β, 0) ∧ Sg Tr C' D' G l l' m m' β
/-- a statement: i is where it begins -/
def SQ (σ : ao_H) (s : Fn) (len e i l m dep st : Nat) (β : List (Bool × Nat)) (C' D' : ao_M) : Prop := ∃ i' l' m' st' G, i < i' ∧ SQ1 σ s len e i l m dep st β C' D' i' l' m' st' G
/-- a block -/
def BQ (σ : ao_H) (s : Fn) (len e i l m dep st : Nat) (β : List (Bool × Nat)) (C' D' : ao_M) : Prop := dep < 10 ∧ ∃ i' l' m' st' G, (i + 2 ≤ i' ∧ l' + i + 2 ≤ l + i') ∧ SQ1 σ s len e i l m dep st β C' D' i' l' m' st' G
def STs (ρ σ : ao_H) (s : Fn) (len e T : Nat) : Prop := ∀ (C D : ao_M) (i l m dep st ec ed : Nat) (β : List (Bool × Nat)), e - i ≤ T → PC C s len e i l st → PD D σ s len i m dep st (fc β) → i ≤ e → l ≤ i → m ≤ 2 * i → dep ≤ 10 → st ≤ 300 → β.length ≤ dep → 4 * (10 - dep) + 2 ≤ ec → 4 * (10 - dep) + 2 ≤ ed → hv (fun n => fGS n ec 2000 2 (wf β) (nI dep) 0 0 C ρ) (fun y => hv (fun n => fGB n ed 1000 537 0 0 0 0 0 0 0 0 0 0 0 D σ) (fun w => PO C D σ s len e l m (SQ σ s len e i l m dep st β) y w))
def BLs (ρ σ : ao_H) (s : Fn) (len e T : Nat) : Prop := ∀ (C D : ao_M) (i l m dep st ec ed : Nat) (β : List (Bool × Nat)), e - i ≤ T → PC C s len e i l st → PD D σ s len i m dep st (fc β) → i ≤ e → l ≤ i → m ≤ 2 * i → dep ≤ 10 → st ≤ 300 → β.length ≤ dep + 1 → 4 * (10 - dep) ≤ ec → 4 * (10 - dep) ≤ ed → hv (fun n => fGS n ec 1000 2 (wf β) (nI dep) 0 0 C ρ) (fun y => hv (fun n => fGB n ed 0 537 0 0 0 0 0 0 0 0 0 0 0 D σ) (fun w => PO C D σ s len e l m (BQ σ s len e i l m dep st β) y w))
/-- the reference finds no statement -/
theorem d_bad {ρ σ : ao_H} {s : Fn} {len e i m dep st wi ed : Nat} {D : ao_M} (hE : PE ρ σ s len e) (h : PD D σ s len i m dep st wi) (hst : st ≤ 300) (hwi : wi ≤ 10) (hk : kd s len i ≤ 1 ∨ kd s len i = 4 ∨ kd s len i = 6 ∨ kd s len i = 11 ∨ kd s len i = 16 ∨ 17 ≤ kd s len i ∨ (kd s len i = 12 ∨ kd s len i = 13) ∧ wi = 0 ∨ st = 300) : hv (fun n => fGB n ed 1000 537 0 0 0 0 0 0 0 0 0 0 0 D σ) (fun w => w.1 = .inr RX11 ∧ w.2.2 = σ ∧ w.2.1 537 2 = nI (bg s len i) ∧ (∀ m', FrD D w.2.1 m')) := by
  have h9 := h.2.1.1
  have h10 := h.2.1.2.1
  have h15 := h.2.2.2.2.1
  have h16 := h.2.2.2.2.2
  have hkl := @kd_le s len i
  have h37 := h.1.1
  have wr : ∀ (pc : Nat) (x1 x2 x3 : Int32), pc = 1014 ∨ pc = 1099 → hv (fun n => fGB n ed pc 537 x1 x2 x3 0 0 0 0 0 0 0 0 D σ) (fun w => w.1 = .inr RX11 ∧ w.2.2 = σ ∧ w.2.1 537 2 = nI (bg s len i) ∧ (∀ m', FrD D w.2.1 m')) := by
    intro pc x1 x2 x3 hpc
    refine hv_up (fun _ => fGB.eq_2 ..) ?_
    rcases hpc with rfl | rfl
    · simp only [Nat.reduceEqDiff, ↓reduceIte, if_pos h37, d_wrong hE h, Option.bind_some, if_pos (d_538 hE)]
      exact hv_some ⟨rfl, rfl, show (ao_u D 537 2 (nI (bg s len i))) 537 2 = _ from u_eq, fun _ => d_wrF⟩
    · simp only [Nat.reduceEqDiff, ↓reduceIte, if_pos h37, d_wrong hE h, Option.bind_some, if_pos (d_538 hE)]
      exact hv_some ⟨rfl, rfl, show (ao_u D 537 2 (nI (bg s len i))) 537 2 = _ from u_eq, fun _ => d_wrF⟩
  have full : ∀ (x1 x2 : Int32), st = 300 → hv (fun n => fGB n ed 1108 537 x1 x2 1 0 0 0 0 0 0 0 0 D σ) (fun w => w.1 = .inr RX11 ∧ w.2.2 = σ ∧ w.2.1 537 2 = nI (bg s len i) ∧ (∀ m', FrD D w.2.1 m')) := by
    intro x1 x2 hs
    refine hv_up (fun _ => fGB.eq_2 ..) ?_
    simp only [Nat.reduceEqDiff, ↓reduceIte, if_pos h37, h15, if_pos (show nI st = (300 : Int32) by rw [hs]; rfl), d_wrong hE h, Option.bind_some, if_pos (d_538 hE)]
    exact hv_some ⟨rfl, rfl, show (ao_u D 537 2 (nI (bg s len i))) 537 2 = _ from u_eq, fun _ => d_wrF⟩
  -- not a beginning
  have nost : ∀ (x1 x2 : Int32), hv (fun n => fGB n ed 1069 537 x1 x2 0 0 0 0 0 0 0 0 0 D σ) (fun w => w.1 = .inr RX11 ∧ w.2.2 = σ ∧ w.2.1 537 2 = nI (bg s len i) ∧ (∀ m', FrD D w.2.1 m')) := by
    intro x1 x2
    refine hv_up (fun _ => fGB.eq_2 ..) ?_
    simp only [Nat.reduceEqDiff, ↓reduceIte]
    refine hv_up (fun _ => fGB.eq_2 ..) ?_
    simp only [Nat.reduceEqDiff, ↓reduceIte]
    exact wr 1099 x1 x2 0 (Or.inr rfl)
  have isst : ∀ (x1 x2 : Int32), (st = 300 ∨ x1 = 3 ∧ (x2 = 7 ∨ x2 = 8) ∧ wi = 0) → hv (fun n => fGB n ed 1065 537 x1 x2 0 0 0 0 0 0 0 0 0 D σ) (fun w => w.1 = .inr RX11 ∧ w.2.2 = σ ∧ w.2.1 537 2 = nI (bg s len i) ∧ (∀ m', FrD D w.2.1 m')) := by
    intro x1 x2 hx
    have t92 : hv (fun n => fGB n ed 1092 537 x1 x2 1 0 0 0 0 0 0 0 0 D σ) (fun w => w.1 = .inr RX11 ∧ w.2.2 = σ ∧ w.2.1 537 2 = nI (bg s len i) ∧ (∀ m', FrD D w.2.1 m')) := by
      refine hv_up (fun _ => fGB.eq_2 ..) ?_
      simp only [Nat.reduceEqDiff, ↓reduceIte, if_pos h37, h16]
      by_cases h0 : wi = 0
      · exact hv_ifT (by rw [h0]; rfl) (wr 1099 _ _ _ (Or.inr rfl))
      · refine hv_ifF (by rw [show (0 : Int32) = nI 0 from rfl, n_eq (by omega) (by omega)]; exact h0) (full _ _ ?_)
        rcases hx with hx | hx
        · exact hx
        · exact absurd hx.2.2 h0
    refine hv_up (fun _ => fGB.eq_2 ..) ?_
    simp only [Nat.reduceEqDiff, ↓reduceIte]
    refine hv_up (fun _ => fGB.eq_2 ..) ?_
    simp only [Nat.reduceEqDiff, ↓reduceIte, if_neg (show ¬ (1 : Int32) = 0 by decide)]
    by_cases g1 : x1 = 3
    · refine hv_ifT g1 ?_
      by_cases g2 : x2 = 7
      · exact hv_ifT g2 t92
      · refine hv_ifF g2 ?_
        by_cases g3 : x2 = 8
        · exact hv_ifT g3 t92
        · refine hv_ifF g3 (full _ _ ?_)
          rcases hx with hx | hx
          · exact hx
          · exact absurd hx.2.1 (fun q => q.elim g2 g3)
    · refine hv_ifF g1 (full _ _ ?_)
      rcases hx with hx | hx
      · exact hx
      · exact absurd hx.1 g1
  refine hv_up (fun _ => fGB.eq_2 ..) ?_
  simp only [Nat.reduceEqDiff, ↓reduceIte, if_pos h37, h9, ao_let]
  by_cases c0 : kd s len i = 0
  · exact hv_ifT (by rw [c0]; rfl) (wr 1014 0 0 0 (Or.inl rfl))
  have r0 : ¬ rK (kd s len i) = 0 := by
    have : ∀ k, k < 28 → ¬ k = 0 → ¬ rK k = 0 := by decide +kernel
    exact this _ (by omega) c0
  refine hv_ifF r0 ?_
  by_cases c1 : kd s len i = 1
  · exact hv_ifF (by rw [c1]; decide) (wr 1014 0 0 0 (Or.inl rfl))
  have r1 : (0 : Int32) ≤ rK (kd s len i) := by
    have : ∀ k, k < 28 → ¬ k = 1 → (0 : Int32) ≤ rK k := by decide +kernel
    exact this _ (by omega) c1
  refine hv_ifT r1 ?_
  by_cases c2 : kd s len i = 2
  · exact hv_ifT (by rw [c2]; rfl) (isst _ _ (Or.inl (by omega)))
  by_cases c3 : kd s len i = 3
  · refine hv_ifF (by rw [c3]; decide) ?_
    exact hv_ifT (by rw [c3]; rfl) (isst _ _ (Or.inl (by omega)))
  have r2 : ¬ rK (kd s len i) = 1 ∧ ¬ rK (kd s len i) = 2 := by
    have : ∀ k, k < 28 → ¬ k = 2 → ¬ k = 3 → ¬ rK k = 1 ∧ ¬ rK k = 2 := by decide +kernel
    exact this _ (by omega) c2 c3
  refine hv_ifF r2.1 ?_
  refine hv_ifF r2.2 ?_
  by_cases c4 : 5 ≤ kd s len i ∧ kd s len i ≤ 16
  · have r3 : rK (kd s len i) = 3 := by
      have : ∀ k, k < 28 → 5 ≤ k ∧ k ≤ 16 → rK k = 3 := by decide +kernel
      exact this _ (by omega) c4
    have e10 : D 537 10 = nI (kd s len i - 5) := by
      rw [h10 (by omega)]
      unfold rW
      rw [if_neg (by omega), if_pos (by omega)]
    have ne : ∀ w, w < 12 → (nI (kd s len i - 5) = nI w) = (kd s len i = 5 + w) := fun w hw => by
      rw [n_eq (by omega) (by omega)]; exact propext ⟨fun h => by omega, fun h => by omega⟩
    refine hv_ifT r3 ?_
    rw [e10]
    by_cases d1 : kd s len i = 6
    · exact hv_ifT (by rw [d1]; rfl) (nost _ _)
    refine hv_ifF (by rw [show (1 : Int32) = nI 1 from rfl, ne 1 (by omega)]; exact d1) ?_
    by_cases d2 : kd s len i = 11
    · exact hv_ifT (by rw [d2]; rfl) (nost _ _)
    refine hv_ifF (by rw [show (6 : Int32) = nI 6 from rfl, ne 6 (by omega)]; exact d2) ?_
    by_cases d3 : kd s len i = 16
    · exact hv_ifT (by rw [d3]; rfl) (nost _ _)
    refine hv_ifF (by rw [show (11 : Int32) = nI 11 from rfl, ne 11 (by omega)]; exact d3) ?_
    refine isst _ _ ?_
    by_cases d4 : st = 300
    · exact Or.inl d4
    · refine Or.inr ⟨r3, ?_, by omega⟩
      rcases (show kd s len i = 12 ∨ kd s len i = 13 by omega) with d5 | d5
      · left; rw [d5]; rfl
      · right; rw [d5]; rfl
  · have r3 : ¬ rK (kd s len i) = 3 := by
      have : ∀ k, k < 28 → ¬ (5 ≤ k ∧ k ≤ 16) → ¬ rK k = 3 := by decide +kernel
      exact this _ (by omega) c4
    exact hv_ifF r3 (nost _ _)
/-- statements one after another; g is what the reference does with them -/
theorem stmts_loop {ρ σ : ao_H} {s : Fn} {len e T : Nat} (hE : PE ρ σ s len e) (hs : ∀ T', T' ≤ T → STs ρ σ s len e T') {C D : ao_M} {i l m dep st ec ed : Nat} {β : List (Bool × Nat)} (hd : dep ≤ 10) (hb : β.length ≤ dep) (hec : 4 * (10 - dep) + 3 ≤ ec) (hed : 4 * (10 - dep) + 2 ≤ ed) (hl : l ≤ i) (hm : m ≤ 2 * i) {g : ao_M → Nat → Option ((Int32 ⊕ String) × ao_S)}
    (hg : ∀ (D1 : ao_M) (i1 m1 st1 : Nat) (P R : (Int32 ⊕ String) × ao_S → Prop), PD D1 σ s len i1 m1 dep st1 (fc β) → kd s len i1 ≠ 0 → kd s len i1 ≠ 18 → hv (fun n => fGB n ed 1000 537 0 0 0 0 0 0 0 0 0 0 0 D1 σ) P → (∀ w, P w → w.2.2 = σ ∧ (w.1 = .inl 0 ∧ hv (g w.2.1) R ∨ w.1 = .inr RX11 ∧ R w)) → hv (g D1) R) : ∀ (T1 : Nat) (C1 D1 : ao_M) (i1 l1 m1 st1 c : Nat) (G1 : Gh), e - i1 ≤ T1 → T1 ≤ T → SQ1 σ s len e i l m dep st β C1 D1 i1 l1 m1 st1 G1 → FrC C C1 l → FrD D D1 m → c ≤ i1 →
    hv (fun n => fGS n ec 2 2 (wf β) (nI dep) (nI c) 0 C1 ρ) (fun y => (y.1 = 1 ∧ ∃ D' i' l' m' st' G, SQ1 σ s len e i l m dep st β y.2 D' i' l' m' st' G ∧ FrC C y.2 l ∧ FrD D D' m ∧ (kd s len i' = 0 ∨ kd s len i' = 18) ∧ ∀ R, hv (g D') R → hv (g D1) R) ∨ (y.1 = 0 ∧ FrC C y.2 l ∧ ∃ j, j ≤ e ∧ y.2 2 2 = nI (bg s len j) ∧ hv (g D1) (fun w => w.1 = .inr RX11 ∧ w.2.2 = σ ∧ w.2.1 537 2 = nI (bg s len j) ∧ FrD D w.2.1 m))) := by
  have hρ := hE.1
  have a6 := hE.2.2.1
  have a7 := hE.2.2.2.1
  intro T1
  induction T1 with
  | zero =>
    intro C1 D1 i1 l1 m1 st1 c G1 hT hT' h1 fC fD hc
    have h1' := h1
    obtain ⟨p1, p2, p3, p4, p5, -⟩ := h1
    have k0 : kd s len i1 = 0 := by rw [show i1 = e by omega]; exact hE.2.2.2.2.1
    have h8 := p4.2.1.2.1
    refine hv_up (fun _ => fGS.eq_2 ..) ?_
    simp only [Nat.reduceEqDiff, ↓reduceIte, hρ, Option.bind_some, h8]
    refine hv_ifF (by rw [show (1000 : Int32) = nI 1000 from rfl, n_lt (by omega) (by omega)]; omega) ?_
    refine hv_ifT (by rw [k0]; rfl) ?_
    exact hv_some (Or.inl ⟨rfl, D1, i1, l1, m1, st1, G1, h1', fC, fD, Or.inl k0, fun R h => h⟩)
  | succ T1 ih =>
    intro C1 D1 i1 l1 m1 st1 c G1 hT hT' h1 fC fD hc
    have h1' := h1
    obtain ⟨p1, p2, p3, p4, p5, p6, p7, p8, p9, p10, p11, p12⟩ := h1
    have h8 := p4.2.1.2.1
    have hkl := @kd_le s len i1
    refine hv_up (fun _ => fGS.eq_2 ..) ?_
    simp only [Nat.reduceEqDiff, ↓reduceIte, hρ, Option.bind_some, h8]
    refine hv_ifF (by rw [show (1000 : Int32) = nI 1000 from rfl, n_lt (by omega) (by omega)]; omega) ?_
    by_cases k0 : kd s len i1 = 0
    · refine hv_ifT (by rw [k0]; rfl) ?_
      exact hv_some (Or.inl ⟨rfl, D1, i1, l1, m1, st1, G1, h1', fC, fD, Or.inl k0, fun R h => h⟩)
    refine hv_ifF (by rw [show (0 : Int32) = nI 0 from rfl, n_eq (by omega) (by omega)]; exact k0) ?_
    by_cases k18 : kd s len i1 = 18
    · refine hv_ifT (by rw [k18]; rfl) ?_
      exact hv_some (Or.inl ⟨rfl, D1, i1, l1, m1, st1, G1, h1', fC, fD, Or.inr k18, fun R h => h⟩)
    refine hv_ifF (by rw [show (18 : Int32) = nI 18 from rfl, n_eq (by omega) (by omega)]; exact k18) ?_
    simp only [if_pos (show 0 < ec by omega)]
    have hlt := kd_lt hE p2 k0
    refine hv_bind (hs (e - i1) (by omega) C1 D1 i1 l1 m1 dep st1 (ec - 1) ed β (Nat.le_refl _) p4 p5 p2 (by omega) (by omega) hd p3 hb (by omega) hed) ?_
    rintro ⟨y1, C2⟩ hy
    have hyN := hy
    obtain ⟨N, w, ew, p1', p2', p3', ⟨p4', p5', i2, l2, m2, st2, G2, q0, q⟩ | ⟨p4', p5', j, p6', p7', p8'⟩⟩ := hy
    · dsimp only at p4'
      subst p4'
      simp only [if_neg (show ¬ (1 : Int32) = 0 by decide), ao_let, show nI c + (1 : Int32) = nI (c + 1) from n_add]
      rcases w with ⟨w1, D2, σ2⟩
      dsimp only at p1' p2' p3' p5' q
      subst p1' p5'
      obtain ⟨q1, q2, q3, q4, q5, q6, q7, q8, q9, q10, q11, q12⟩ := q
      have fC2 : FrC C C2 l := FrC_tr fC ⟨p2'.1, fun j hj => p2'.2 j (by omega)⟩ (Nat.le_refl _)
      have fD2 : FrD D D2 m := FrD_tr fD ⟨p3'.1, fun j hj => p3'.2 j (by omega)⟩ (Nat.le_refl _)
      have hS : SQ1 σ2 s len e i l m dep st β C2 D2 i2 l2 m2 st2 (glue l1 G1 G2) := by
        refine ⟨by omega, q2, q3, q4, q5, by omega, by omega, by omega, by omega, ?_, ?_, Sg_app (Sg_fr p12 (fun j a b => p2'.2 j b) (fun x a b => p3'.2 x (by omega))) q12 (by rw [p11, q10])⟩
        · by_cases hz : l < l1
          · rw [glue_lt hz]; exact p10
          · have : l = l1 := by omega
            subst this
            rw [glue_ge (Nat.le_refl _), q10, ← p11, p10]
        · rw [glue_ge (by omega), q11]
      have hgo : ∀ R, hv (g D2) R → hv (g D1) R := fun R hR => hg D1 i1 m1 st1 (fun v => v = (.inl 0, D2, σ2)) R p5 k0 k18 ⟨N, _, ew, rfl⟩ (fun v hv => by subst hv; exact ⟨rfl, Or.inl ⟨rfl, hR⟩⟩)
      refine hv_mono (ih C2 D2 i2 l2 m2 st2 (c + 1) (glue l1 G1 G2) (by omega) (by omega) hS fC2 fD2 (by omega)) ?_
      rintro y (⟨z1, D', i', l', m', st', G, z2, z3, z4, z5, z6⟩ | ⟨z1, z2, j, z3, z4, z5⟩)
      · exact Or.inl ⟨z1, D', i', l', m', st', G, z2, z3, z4, z5, fun R hR => hgo R (z6 R hR)⟩
      · exact Or.inr ⟨z1, z2, j, z3, z4, hgo _ z5⟩
    · dsimp only at p4' p7'
      subst p4'
      simp only [↓reduceIte]
      refine hv_some (Or.inr ⟨rfl, FrC_tr fC ⟨p2'.1, fun j hj => p2'.2 j (by omega)⟩ (Nat.le_refl _), j, p6', p7', ?_⟩)
      exact hg D1 i1 m1 st1 (fun v => v = w) _ p5 k0 k18 ⟨N, _, ew, rfl⟩ (fun v hv => by subst hv; exact ⟨p1', Or.inr ⟨p5', p5', p1', p8', FrD_tr fD ⟨p3'.1, fun j hj => p3'.2 j (by omega)⟩ (Nat.le_refl _)⟩⟩)
theorem fc_le {β : List (Bool × Nat)} : fc β ≤ β.length := List.countP_le_length
theorem block_ok {ρ σ : ao_H} {s : Fn} {len e T : Nat} (hE : PE ρ σ s len e) (hs : ∀ T', T' < T → STs ρ σ s len e T') : BLs ρ σ s len e T := by
  intro C D i l m dep st ec ed β hT hC hD hi h1 h2 hd hst hb hec hed
  have hρ := hE.1
  have a6 := hE.2.2.1
  have a7 := hE.2.2.2.1
  have hkl := @kd_le s len i
  refine hv_up (fun _ => fGS.eq_2 ..) ?_
  simp only [Nat.reduceEqDiff, ↓reduceIte, hρ]
  refine hv_inU (fun _ => fGB.eq_2 ..) ?_
  simp only [↓reduceIte, if_pos hD.1.1, d_sign (c := 123) (k := 17) hD rfl (by omega) (by omega), Option.bind_some]
  rw [show (17 : Int32) = nI 17 from rfl]
  by_cases k17 : dep < 10 ∧ kd s len i = 17
  · obtain ⟨hd10, k17⟩ := k17
    have hlt := kd_lt hE hi (by omega)
    refine hv_bind (c_nst hE hC hd10 hlt k17) ?_
    rintro ⟨y1, C1⟩ ⟨e0, e1, e2⟩
    dsimp only at e0 e1 e2
    subst e0
    simp only [if_neg (show ¬ (1 : Int32) = 0 by decide), if_pos (show 0 < ec by omega), show nI dep + (1 : Int32) = nI (dep + 1) from n_add, if_pos k17]
    refine hv_inB (d_enter hD hd10) ?_
    rintro ⟨w1, D1, σ1⟩ ⟨f0, f1, f2, f3⟩
    dsimp only at f0 f1 f2 f3
    subst f0 f1
    simp only [ao_cs]
    refine hv_inU (fun _ => fGB.eq_2 ..) ?_
    simp only [Nat.reduceEqDiff, ↓reduceIte, if_pos f2.1.1]
    refine hv_inB (d_tok hE f2) ?_
    rintro D2 ⟨g1, g2⟩
    have st0 : SQ1 σ1 s len e (i + 1) l m (dep + 1) st β C1 D2 (i + 1) l m st (fun _ => (m, β, 0)) := by
      refine ⟨Nat.le_refl _, by omega, hst, e1, g1, Nat.le_refl _, Nat.le_refl _, Nat.le_refl _, Nat.le_refl _, rfl, rfl, Nat.le_refl _, Nat.le_refl _, fun _ _ _ => ⟨Nat.le_refl _, Nat.le_refl _⟩, fun op fi se d L G' a b c q x => ⟨fun i p q => by omega, fun i p r => pos_base (q i p r) (by omega) (by omega)⟩⟩
    have lp := stmts_loop (T := e - (i + 1)) (C := C1) (D := D2) (st := st) (ec := ec - 1) (ed := ed - 1) (β := β) (g := fun D n => fGB n ed 26 537 0 0 0 0 0 0 0 0 0 0 0 D σ1) hE (fun T' h => hs T' (by omega)) (show dep + 1 ≤ 10 by omega) hb (by omega) (by omega) (show l ≤ i + 1 by omega) (show m ≤ 2 * (i + 1) by omega) (by
      intro D1 i1 m1 st1 P R q1 q2 q3 q4 q5
      refine hv_up (fun _ => fGB.eq_2 ..) ?_
      simp only [Nat.reduceEqDiff, ↓reduceIte, if_pos q1.1.1, d_sign (c := 125) (k := 18) q1 rfl (by omega) (by omega), if_neg q3, Option.bind_some, if_pos (show 0 < ed by omega)]
      refine hv_bind q4 ?_
      rintro ⟨w1, D3, σ3⟩ hw
      obtain ⟨r1, ⟨r2, r3⟩ | ⟨r2, r3⟩⟩ := q5 _ hw
      · dsimp only at r1 r2 r3
        subst r1 r2
        simp only [ao_cs]
        refine hv_up (fun _ => fGB.eq_2 ..) ?_
        simp only [Nat.reduceEqDiff, ↓reduceIte]
        exact r3
      · dsimp only at r1 r2
        subst r1 r2
        simp only [ao_cs]
        exact hv_some r3) (e - (i + 1)) C1 D2 (i + 1) l m st 0 (fun _ => (m, β, 0)) (Nat.le_refl _) (Nat.le_refl _) st0 FrC_rf FrD_rf (by omega)
    refine hv_bind (P := fun y => (y.1 = 1 ∧ ∃ D' i' l' m' st' G, SQ1 σ1 s len e (i + 1) l m (dep + 1) st β y.2 D' i' l' m' st' G ∧ FrC C1 y.2 l ∧ FrD D2 D' m ∧ (kd s len i' = 0 ∨ kd s len i' = 18) ∧ ∀ R, hv (fun n => fGB n ed 26 537 0 0 0 0 0 0 0 0 0 0 0 D' σ1) R → hv (fun n => fGB n ed 26 537 0 0 0 0 0 0 0 0 0 0 0 D2 σ1) R) ∨ (y.1 = 0 ∧ FrC C1 y.2 l ∧ ∃ j, j ≤ e ∧ y.2 2 2 = nI (bg s len j) ∧ hv (fun n => fGB n ed 26 537 0 0 0 0 0 0 0 0 0 0 0 D2 σ1) (fun w => w.1 = .inr RX11 ∧ w.2.2 = σ1 ∧ w.2.1 537 2 = nI (bg s len j) ∧ FrD D2 w.2.1 m))) ?_ ?_
    · refine hv_up (fun _ => fGS.eq_2 ..) ?_
      simp only [↓reduceIte]
      exact lp
    · rintro ⟨y1, C3⟩ (⟨z1, D3, i', l', m', st', G, z2, z3, z4, z5, z6⟩ | ⟨z1, z2, j, z3, z4, z5⟩)
      · dsimp only at z1 z2 z3
        subst z1
        simp only [if_neg (show ¬ (1 : Int32) = 0 by decide)]
        obtain ⟨q1, q2, q3, q4, q5, q6, q7, q8, q9, q10, q11, q12⟩ := z2
        rw [show (18 : Int32) = nI 18 from rfl]
        by_cases k18 : kd s len i' = 18
        · have hlt' := kd_lt hE q2 (by omega)
          refine hv_bind (c_exp hE q4 hlt' k18) ?_
          rintro ⟨y1, C4⟩ ⟨e3, e4, e5⟩
          dsimp only at e3 e4 e5
          subst e3
          simp only [if_neg (show ¬ (1 : Int32) = 0 by decide)]
          refine hv_some ?_
          refine z6 _ ?_
          refine hv_up (fun _ => fGB.eq_2 ..) ?_
          simp only [Nat.reduceEqDiff, ↓reduceIte, if_pos q5.1.1, d_sign (c := 125) (k := 18) q5 rfl (by omega) (by omega), if_pos k18, Option.bind_some, if_neg (show ¬ (1 : Int32) = 0 by decide)]
          refine hv_bind (d_tok hE q5) ?_
          rintro D4 ⟨f6, f7⟩
          simp only [ao_let]
          obtain ⟨r1, r2⟩ := PD_dep (m' := m') f6
          have fD : FrD D3 _ m' := FrD_tr (f7 m') r2 (Nat.le_refl _)
          refine hv_some (PO_yes (FrC_tr (e2 l) (FrC_tr z3 (e5 l) (Nat.le_refl _)) (Nat.le_refl _)) (FrD_tr (f3 m) (FrD_tr (g2 m) (FrD_tr z4 ⟨fD.1, fun j hj => fD.2 j (by omega)⟩ (Nat.le_refl _)) (Nat.le_refl _)) (Nat.le_refl _)) ⟨hd10, i' + 1, l', m', st', G, by omega, by omega, by omega, q3, e4, r1, by omega, by omega, q8, q9, q10, q11, Sg_fr q12 (fun j a b => (e5 l').2 j b) (fun x a b => fD.2 x (by omega))⟩)
        · have k0 : kd s len i' = 0 := z5.resolve_right k18
          refine hv_bind (c_exp0 hE q4 k18 (by omega)) ?_
          rintro ⟨y1, C4⟩ ⟨e3, e4, e5⟩
          dsimp only at e3 e4 e5
          subst e3
          simp only [↓reduceIte]
          refine hv_some ?_
          refine z6 _ ?_
          refine hv_up (fun _ => fGB.eq_2 ..) ?_
          simp only [Nat.reduceEqDiff, ↓reduceIte, if_pos q5.1.1, d_sign (c := 125) (k := 18) q5 rfl (by omega) (by omega), if_neg k18, Option.bind_some, if_pos (show 0 < ed by omega)]
          refine hv_bind (d_bad hE q5 q3 (by have := @fc_le β; omega) (Or.inl (by omega))) ?_
          rintro ⟨w1, D4, σ4⟩ ⟨f4, f5, f6, f7⟩
          dsimp only at f4 f5 f6 f7
          subst f4 f5
          simp only [ao_cs]
          exact hv_some (PO_no q2 rfl (FrC_tr (e2 l) (FrC_tr z3 (e4 l) (Nat.le_refl _)) (Nat.le_refl _)) e5 rfl rfl f6 (FrD_tr (f3 m) (FrD_tr (g2 m) (FrD_tr z4 (f7 m) (Nat.le_refl _)) (Nat.le_refl _)) (Nat.le_refl _)))
      · dsimp only at z1 z2 z4
        subst z1
        simp only [↓reduceIte]
        refine hv_some ?_
        refine hv_mono z5 ?_
        rintro w ⟨f4, f5, f6, f7⟩
        exact PO_no z3 rfl (FrC_tr (e2 l) z2 (Nat.le_refl _)) z4 f4 f5 f6 (FrD_tr (f3 m) (FrD_tr (g2 m) f7 (Nat.le_refl _)) (Nat.le_refl _))
  · refine hv_bind (c_nst0 hE hC k17 (by omega) hd) ?_
    rintro ⟨y1, C1⟩ ⟨e0, e1, e2⟩
    dsimp only at e0 e1 e2
    subst e0
    simp only [↓reduceIte]
    refine hv_some ?_
    by_cases q17 : kd s len i = 17
    · simp only [if_pos q17, if_neg (show ¬ (1 : Int32) = 0 by decide)]
      refine hv_bind (d_enter0 hE hD (by omega)) ?_
      rintro ⟨w1, D1, σ1⟩ ⟨f0, f1, f2, f3⟩
      dsimp only at f0 f1 f2 f3
      subst f0 f1
      simp only [ao_cs]
      exact hv_some (PO_no hi rfl (e1 l) e2 rfl rfl f2 (f3 m))
    · simp only [if_neg q17, ↓reduceIte, d_wrong hE hD, Option.bind_some, if_pos (d_538 hE)]
      exact hv_some (PO_no hi rfl (e1 l) e2 rfl rfl (show (ao_u D 537 2 _) 537 2 = _ from u_eq) d_wrF)
