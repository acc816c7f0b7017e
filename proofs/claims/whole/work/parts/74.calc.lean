set_option linter.unusedSimpArgs false
set_option linter.unusedVariables false
/-! ===== how a function of fuel ends ===== -/
/-- with enough fuel it comes to one answer, of which Q holds -/
def hv {α : Type} (f : Nat → Option α) (Q : α → Prop) : Prop := ∃ (N : Nat) (y : α), (∀ n, N ≤ n → f n = some y) ∧ Q y
theorem hv_some {α : Type} {y : α} {Q : α → Prop} (h : Q y) : hv (fun _ => some y) Q := ⟨0, y, fun _ _ => rfl, h⟩
theorem hv_eq {α : Type} {o : Option α} {y : α} {Q : α → Prop} (e : o = some y) (h : Q y) : hv (fun _ => o) Q := ⟨0, y, fun _ _ => e, h⟩
theorem hv_bind {α β : Type} {f : Nat → Option α} {k : Nat → α → Option β} {P : α → Prop} {Q : β → Prop} (h : hv f P) (g : ∀ x, P x → hv (fun n => k n x) Q) : hv (fun n => (f n).bind (k n)) Q := by
  obtain ⟨N, x, e, p⟩ := h
  obtain ⟨N', y, e', q⟩ := g x p
  refine ⟨max N N', y, fun n hn => ?_, q⟩
  show (f n).bind (k n) = some y
  rw [e n (by omega)]
  exact e' n (by omega)
theorem hv_let {α β : Type} {v : α} {k : Nat → α → Option β} {Q : β → Prop} (h : hv (fun n => k n v) Q) : hv (fun n => ao_let v (k n)) Q := h
theorem hv_up {α : Type} {f b : Nat → Option α} {Q : α → Prop} (e : ∀ n, f (n + 1) = b n) (h : hv b Q) : hv f Q := by
  obtain ⟨N, y, g, q⟩ := h
  refine ⟨N + 1, y, fun n hn => ?_, q⟩
  obtain ⟨m, rfl⟩ : ∃ m, n = m + 1 := ⟨n - 1, by omega⟩
  rw [e]
  exact g m (by omega)
theorem hv_ifT {α : Type} {c : Prop} [Decidable c] {A B : Nat → Option α} {Q : α → Prop} (hc : c) (h : hv A Q) : hv (fun n => if c then A n else B n) Q := by
  simp only [if_pos hc]; exact h
theorem hv_ifF {α : Type} {c : Prop} [Decidable c] {A B : Nat → Option α} {Q : α → Prop} (hc : ¬ c) (h : hv B Q) : hv (fun n => if c then A n else B n) Q := by
  simp only [if_neg hc]; exact h
theorem hv_if {α : Type} {c : Prop} [Decidable c] {A B : Nat → Option α} {Q : α → Prop} (h : c → hv A Q) (g : ¬ c → hv B Q) : hv (fun n => if c then A n else B n) Q := by
  by_cases hc : c
  · exact hv_ifT hc (h hc)
  · exact hv_ifF hc (g hc)
theorem hv_mono {α : Type} {f : Nat → Option α} {P Q : α → Prop} (h : hv f P) (g : ∀ y, P y → Q y) : hv f Q := by
  obtain ⟨N, y, e, p⟩ := h
  exact ⟨N, y, e, g y p⟩
/-! ===== small numbers ===== -/
theorem n_toInt {n : Nat} (h : n < 2147483648) : (nI n).toInt = n := by
  unfold nI
  rw [Int32.toInt_ofNat_of_lt (by simpa using h)]
theorem n_cl {n : Nat} (h : n < 2147483648) : (nI n).toNatClampNeg = n := by
  show (nI n).toInt.toNat = n
  rw [n_toInt h]; rfl
theorem n_lt {a b : Nat} (ha : a < 2147483648) (hb : b < 2147483648) : (nI a < nI b) = (a < b) := by
  rw [Int32.lt_iff_toInt_lt, n_toInt ha, n_toInt hb]; simp
theorem n_le {a b : Nat} (ha : a < 2147483648) (hb : b < 2147483648) : (nI a ≤ nI b) = (a ≤ b) := by
  rw [Int32.le_iff_toInt_le, n_toInt ha, n_toInt hb]; simp
theorem n_eq {a b : Nat} (ha : a < 2147483648) (hb : b < 2147483648) : (nI a = nI b) = (a = b) := by
  rw [← Int32.toInt_inj, n_toInt ha, n_toInt hb]; exact propext ⟨fun h => by omega, fun h => by omega⟩
theorem n_l {b : Nat} : (no_index (OfNat.ofNat b : Int32)) = nI b := rfl
theorem n_ltl {a b : Nat} (ha : a < 2147483648) (hb : (OfNat.ofNat b : Nat) < 2147483648) : (nI a < (no_index (OfNat.ofNat b : Int32))) = (a < (OfNat.ofNat b : Nat)) := n_lt ha hb
theorem n_llt {a b : Nat} (ha : a < 2147483648) (hb : (OfNat.ofNat b : Nat) < 2147483648) : ((no_index (OfNat.ofNat b : Int32)) < nI a) = ((OfNat.ofNat b : Nat) < a) := n_lt hb ha
theorem n_lel {a b : Nat} (ha : a < 2147483648) (hb : (OfNat.ofNat b : Nat) < 2147483648) : (nI a ≤ (no_index (OfNat.ofNat b : Int32))) = (a ≤ (OfNat.ofNat b : Nat)) := n_le ha hb
theorem n_lle {a b : Nat} (ha : a < 2147483648) (hb : (OfNat.ofNat b : Nat) < 2147483648) : ((no_index (OfNat.ofNat b : Int32)) ≤ nI a) = ((OfNat.ofNat b : Nat) ≤ a) := n_le hb ha
theorem n_eql {a b : Nat} (ha : a < 2147483648) (hb : (OfNat.ofNat b : Nat) < 2147483648) : (nI a = (no_index (OfNat.ofNat b : Int32))) = (a = (OfNat.ofNat b : Nat)) := n_eq ha hb
theorem n_leq {a b : Nat} (ha : a < 2147483648) (hb : (OfNat.ofNat b : Nat) < 2147483648) : ((no_index (OfNat.ofNat b : Int32)) = nI a) = ((OfNat.ofNat b : Nat) = a) := n_eq hb ha
theorem n_add {a b : Nat} : nI a + nI b = nI (a + b) := (Int32.ofNat_add ..).symm
theorem n_mul {a b : Nat} : nI a * nI b = nI (a * b) := (Int32.ofNat_mul ..).symm
theorem n_sub {a b : Nat} (h : b ≤ a) : nI a - nI b = nI (a - b) := (Int32.ofNat_sub _ _ h).symm
theorem n_addl {a b : Nat} : nI a + (no_index (OfNat.ofNat b : Int32)) = nI (a + (OfNat.ofNat b : Nat)) := n_add
theorem n_ladd {a b : Nat} : (no_index (OfNat.ofNat b : Int32)) + nI a = nI ((OfNat.ofNat b : Nat) + a) := n_add
theorem n_mull {a b : Nat} : nI a * (no_index (OfNat.ofNat b : Int32)) = nI (a * (OfNat.ofNat b : Nat)) := n_mul
theorem n_lmul {a b : Nat} : (no_index (OfNat.ofNat b : Int32)) * nI a = nI ((OfNat.ofNat b : Nat) * a) := n_mul
theorem n_subl {a b : Nat} (h : (OfNat.ofNat b : Nat) ≤ a) : nI a - (no_index (OfNat.ofNat b : Int32)) = nI (a - (OfNat.ofNat b : Nat)) := n_sub h
/-- a number that isn't negative -/
theorem n_of {x : Int32} (h : ¬ x < 0) : ∃ n, n < 2147483648 ∧ x = nI n := by
  refine ⟨x.toNatClampNeg, ?_, ?_⟩
  · show x.toInt.toNat < _
    have := x.toInt_lt
    omega
  · have h0 : (0 : Int) ≤ x.toInt := by
      have := Int32.not_lt.mp h
      simpa using Int32.le_iff_toInt_le.mp this
    apply Int32.toInt_inj.mp
    have := x.toInt_lt
    rw [n_toInt (by show x.toInt.toNat < _; omega)]
    show x.toInt = ((x.toInt.toNat : Nat) : Int)
    omega
theorem n_neg {n : Nat} (h : n < 2147483648) : (nI n = -1) = False := by
  rw [← Int32.toInt_inj, n_toInt h]
  refine eq_false ?_
  show ¬ ((n : Int) = -1)
  omega
/-! ===== stores ===== -/
theorem u_eq {M : ao_M} {i k : Nat} {x : Int32} : ao_u M i k x i k = x := by simp [ao_u]
theorem u_ne {M : ao_M} {i k a j : Nat} {x : Int32} (h : a ≠ i ∨ j ≠ k) : ao_u M i k x a j = M a j := by
  unfold ao_u; rw [if_neg]; omega
theorem u_n1 {M : ao_M} {i k a j : Nat} {x : Int32} (h : a ≠ i) : ao_u M i k x a j = M a j := u_ne (.inl h)
theorem u_n2 {M : ao_M} {i k a j : Nat} {x : Int32} (h : j ≠ k) : ao_u M i k x a j = M a j := u_ne (.inr h)
/-! ===== what arithmetic decides ===== -/
theorem t_le {a b : Nat} (h : a ≤ b) : (a ≤ b) = True := eq_true h
theorem f_le {a b : Nat} (h : b < a) : (a ≤ b) = False := eq_false (by omega)
theorem t_lt {a b : Nat} (h : a < b) : (a < b) = True := eq_true h
theorem f_lt {a b : Nat} (h : b ≤ a) : (a < b) = False := eq_false (by omega)
theorem f_eq {a b : Nat} (h : a ≠ b) : (a = b) = False := eq_false h
