/-! ===== small helps of the walks ===== -/
theorem ao_cat1 {as : List Value} (h : (as.filter (fun v => v.category != 1)).length ≤ 0) : ∀ v ∈ as, v.category = 1 := by
  intro v hv
  have h0 : as.filter (fun v => v.category != 1) = [] := List.eq_nil_of_length_eq_zero (Nat.le_zero.mp h)
  have h1 := List.filter_eq_nil_iff.mp h0 v hv
  simpa using h1
theorem ao_fgZ {b : List (Option Value)} : ∀ (i : Nat) (v : Value), ([] : List (Option Value))[i]? = some (some v) → b[i]? = some (some v) := fun i v h => by simp at h
theorem ao_fgN {a b : List (Option Value)} {x : Option Value} (h : ∀ (i : Nat) (v : Value), a[i]? = some (some v) → b[i]? = some (some v)) : ∀ (i : Nat) (v : Value), ((none :: a) : List (Option Value))[i]? = some (some v) → (x :: b)[i]? = some (some v) := by
  intro i v hi
  cases i with
  | zero => simp at hi
  | succ i => exact h i v (by simpa using hi)
theorem ao_fgS {a b : List (Option Value)} {x : Option Value} (h : ∀ (i : Nat) (v : Value), a[i]? = some (some v) → b[i]? = some (some v)) : ∀ (i : Nat) (v : Value), (x :: a)[i]? = some (some v) → (x :: b)[i]? = some (some v) := by
  intro i v hi
  cases i with
  | zero => exact hi
  | succ i => exact h i v (by simpa using hi)
theorem ao_ne {x v : Int32} {z : Int} (h : ¬ x = v) (hv : v.toInt = z) : x.toInt ≠ z := fun e => h (Int32.toInt_inj.mp (e.trans hv.symm))
theorem ao_no {α : Type} {y : α} {C : Prop} (h : (none : Option α) = some y) : C := nomatch h
