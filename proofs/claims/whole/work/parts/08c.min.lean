/-! ===== Math.min ===== -/
theorem ao_minW : Cond.static Lib.Math.min.name ∈ ao_G ∧ Cond.initialized "java/lang/Math" ∈ ao_G ∧ Cond.code Lib.Math.min.name Lib.Math.min.code 2 (some .int) ∈ ao_G := ⟨ao_Gm (by decide +kernel) rfl, ao_Gm (by decide +kernel) rfl, ao_Gm (by decide +kernel) rfl⟩
theorem an_mmin {Γ : ao_C} {μ : ao_Mi} {R : Room} {Q : List Frame → Array Value → State → State → Prop} {mc ms pc : Nat} {lo : List (Option Value)} {st : List Value} {σ : ao_S} {index : Nat} {x y : Int32} (hd : decode μ.2.1 pc = .ok (.invokestatic index, 3)) (hw : Cond.methodLink μ.1.cls index Lib.Math.min.name ∈ ao_G)
    (hrs : (st.map fun v => v.category).sum ≤ 8) (hRm : 1 ≤ R.frames ∧ 64 ≤ R.locals) (kk : ao_W Γ μ R Q mc ms (pc + 3) lo (.int (if y < x then y else x) :: st) σ) : ao_W Γ μ R Q mc ms pc lo (.int y :: .int x :: st) σ := by
  intro p e s m args below meth c H locs cells slots ls hX hR hS hc hs hl
  have hX' := hX
  obtain ⟨hx, hb, hml, -, -, -, hown, hts, -, hK⟩ := hX
  exact va_mmin hx hb (hml.trans hl.1.symm) hown (hts _ hw) (hts _ ao_minW.1) (hts _ ao_minW.2.1) (hts _ ao_minW.2.2) hRm.1 (by omega) (by omega) (by omega) hd (kk p e s m args below meth c H locs cells slots ls hX' hR hS hc hs hl)
theorem ao_ifC {α : Type} {c : Prop} [Decidable c] {A B : Option α} {y : α} (h : (if c then A else B) = some y) : A = some y ∨ B = some y := by
  by_cases hc : c
  · rw [if_pos hc] at h; exact Or.inl h
  · rw [if_neg hc] at h; exact Or.inr h
theorem ao_le_r (ρ : ao_H) (i k : Nat) (j : Option Nat) : ao_le ρ (ao_r ρ i k j) := ⟨Nat.le_refl _, Nat.le_refl _⟩
