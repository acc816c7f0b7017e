/-! ===== fuel: more of it changes nothing (for the constructors and what they call) ===== -/
def op_le {α : Type} (a b : Option α) : Prop := ∀ y, a = some y → b = some y
theorem op_refl {α : Type} (a : Option α) : op_le a a := fun _ h => h
theorem op_none {α : Type} (b : Option α) : op_le none b := fun _ h => nomatch h
theorem op_ite {α : Type} {c : Prop} {d : Decidable c} {a b a' b' : Option α} (h1 : op_le a a') (h2 : op_le b b') : op_le (@ite _ c d a b) (@ite _ c d a' b') := by
  by_cases h : c
  · rw [if_pos h, if_pos h]; exact h1
  · rw [if_neg h, if_neg h]; exact h2
theorem op_bind {α β : Type} {a a' : Option α} {f g : α → Option β} (h1 : op_le a a') (h2 : ∀ p, op_le (f p) (g p)) : op_le (a.bind f) (a'.bind g) := by
  intro y h
  cases ha : a with
  | none => rw [ha] at h; cases h
  | some p =>
    rw [ha] at h
    rw [h1 p ha]
    exact h2 p y h
theorem op_cast {α : Type} {a a' b b' : Option α} (h1 : a = a') (h2 : b = b') (h : op_le a' b') : op_le a b := by rw [h1, h2]; exact h
theorem op_let {α β : Type} {v : α} {f g : α → Option β} (h : ∀ p, op_le (f p) (g p)) : op_le (ao_let v f) (ao_let v g) := h v
theorem op_up {α : Type} {f : Nat → Option α} (h : ∀ n, op_le (f n) (f (n + 1))) {y : α} {n : Nat} (hn : f n = some y) : ∀ m, n ≤ m → f m = some y := by
  intro m hm
  induction hm with
  | refl => exact hn
  | step _ ih => exact h _ _ ih
set_option maxRecDepth 100000 in
set_option maxHeartbeats 4000000 in
theorem zfX0_init : ∀ (n : Nat) pc a1 a2 a3 a4 a5, op_le (fX0_init n pc a1 a2 a3 a4 a5) (fX0_init (n + 1) pc a1 a2 a3 a4 a5) := by
  intro n
  induction n with
  | zero => intros; exact op_none _
  | succ n ih =>
    intro pc a1 a2 a3 a4 a5
    refine op_cast (fX0_init.eq_2 ..) (fX0_init.eq_2 ..) ?_
    repeat' (with_reducible (first | intro _ | apply op_ite | apply op_let | apply op_bind | apply ih   | exact op_refl _))
theorem zgX0_init (n : Nat) (r0 : Nat) (M : ao_M) (ρ : ao_H) : op_le (gX0_init n r0 M ρ) (gX0_init (n + 1) r0 M ρ) := zfX0_init n _ _ _ _ _ _
set_option maxRecDepth 100000 in
set_option maxHeartbeats 4000000 in
theorem zfX1_init : ∀ (n : Nat) pc a1 a2 a3 a4 a5 a6 a7, op_le (fX1_init n pc a1 a2 a3 a4 a5 a6 a7) (fX1_init (n + 1) pc a1 a2 a3 a4 a5 a6 a7) := by
  intro n
  induction n with
  | zero => intros; exact op_none _
  | succ n ih =>
    intro pc a1 a2 a3 a4 a5 a6 a7
    refine op_cast (fX1_init.eq_2 ..) (fX1_init.eq_2 ..) ?_
    repeat' (with_reducible (first | intro _ | apply op_ite | apply op_let | apply op_bind | apply ih   | exact op_refl _))
theorem zgX1_init (n : Nat) (r0 : Nat) (x1 : Int32) (M : ao_M) (ρ : ao_H) : op_le (gX1_init n r0 x1 M ρ) (gX1_init (n + 1) r0 x1 M ρ) := zfX1_init n _ _ _ _ _ _ _ _
set_option maxRecDepth 100000 in
set_option maxHeartbeats 4000000 in
theorem zfX9_init : ∀ (n : Nat) pc a1 a2 a3 a4 a5, op_le (fX9_init n pc a1 a2 a3 a4 a5) (fX9_init (n + 1) pc a1 a2 a3 a4 a5) := by
  intro n
  induction n with
  | zero => intros; exact op_none _
  | succ n ih =>
    intro pc a1 a2 a3 a4 a5
    refine op_cast (fX9_init.eq_2 ..) (fX9_init.eq_2 ..) ?_
    repeat' (with_reducible (first | intro _ | apply op_ite | apply op_let | apply op_bind | apply ih   | exact op_refl _))
theorem zgX9_init (n : Nat) (r0 : Nat) (M : ao_M) (ρ : ao_H) : op_le (gX9_init n r0 M ρ) (gX9_init (n + 1) r0 M ρ) := zfX9_init n _ _ _ _ _ _
set_option maxRecDepth 100000 in
set_option maxHeartbeats 4000000 in
theorem zfX4_init : ∀ (n : Nat) pc a1 a2 a3 a4 a5, op_le (fX4_init n pc a1 a2 a3 a4 a5) (fX4_init (n + 1) pc a1 a2 a3 a4 a5) := by
  intro n
  induction n with
  | zero => intros; exact op_none _
  | succ n ih =>
    intro pc a1 a2 a3 a4 a5
    refine op_cast (fX4_init.eq_2 ..) (fX4_init.eq_2 ..) ?_
    repeat' (with_reducible (first | intro _ | apply op_ite | apply op_let | apply op_bind | apply ih | apply zgX1_init | apply zgX9_init  | exact op_refl _))
theorem zgX4_init (n : Nat) (r0 : Nat) (M : ao_M) (ρ : ao_H) : op_le (gX4_init n r0 M ρ) (gX4_init (n + 1) r0 M ρ) := zfX4_init n _ _ _ _ _ _
set_option maxRecDepth 100000 in
set_option maxHeartbeats 4000000 in
theorem zfX6_init : ∀ (n : Nat) pc a1 a2 a3 a4 a5, op_le (fX6_init n pc a1 a2 a3 a4 a5) (fX6_init (n + 1) pc a1 a2 a3 a4 a5) := by
  intro n
  induction n with
  | zero => intros; exact op_none _
  | succ n ih =>
    intro pc a1 a2 a3 a4 a5
    refine op_cast (fX6_init.eq_2 ..) (fX6_init.eq_2 ..) ?_
    repeat' (with_reducible (first | intro _ | apply op_ite | apply op_let | apply op_bind | apply ih   | exact op_refl _))
theorem zgX6_init (n : Nat) (r0 : Nat) (M : ao_M) (ρ : ao_H) : op_le (gX6_init n r0 M ρ) (gX6_init (n + 1) r0 M ρ) := zfX6_init n _ _ _ _ _ _
set_option maxRecDepth 100000 in
set_option maxHeartbeats 4000000 in
theorem zfX3_init : ∀ (n : Nat) pc a1 a2 a3 a4 a5, op_le (fX3_init n pc a1 a2 a3 a4 a5) (fX3_init (n + 1) pc a1 a2 a3 a4 a5) := by
  intro n
  induction n with
  | zero => intros; exact op_none _
  | succ n ih =>
    intro pc a1 a2 a3 a4 a5
    refine op_cast (fX3_init.eq_2 ..) (fX3_init.eq_2 ..) ?_
    repeat' (with_reducible (first | intro _ | apply op_ite | apply op_let | apply op_bind | apply ih   | exact op_refl _))
theorem zgX3_init (n : Nat) (r0 : Nat) (M : ao_M) (ρ : ao_H) : op_le (gX3_init n r0 M ρ) (gX3_init (n + 1) r0 M ρ) := zfX3_init n _ _ _ _ _ _
set_option maxRecDepth 100000 in
set_option maxHeartbeats 4000000 in
theorem zfX7_init : ∀ (n : Nat) pc a1 a2 a3 a4 a5 a6 a7 a8 a9, op_le (fX7_init n pc a1 a2 a3 a4 a5 a6 a7 a8 a9) (fX7_init (n + 1) pc a1 a2 a3 a4 a5 a6 a7 a8 a9) := by
  intro n
  induction n with
  | zero => intros; exact op_none _
  | succ n ih =>
    intro pc a1 a2 a3 a4 a5 a6 a7 a8 a9
    refine op_cast (fX7_init.eq_2 ..) (fX7_init.eq_2 ..) ?_
    repeat' (with_reducible (first | intro _ | apply op_ite | apply op_let | apply op_bind | apply ih | apply zgX1_init | apply zgX3_init  | exact op_refl _))
theorem zgX7_init (n : Nat) (r0 : Nat) (x1 : Int32) (M : ao_M) (ρ : ao_H) : op_le (gX7_init n r0 x1 M ρ) (gX7_init (n + 1) r0 x1 M ρ) := zfX7_init n _ _ _ _ _ _ _ _ _ _
set_option maxRecDepth 100000 in
set_option maxHeartbeats 4000000 in
theorem zfX8_init : ∀ (n : Nat) pc a1 a2 a3 a4 a5, op_le (fX8_init n pc a1 a2 a3 a4 a5) (fX8_init (n + 1) pc a1 a2 a3 a4 a5) := by
  intro n
  induction n with
  | zero => intros; exact op_none _
  | succ n ih =>
    intro pc a1 a2 a3 a4 a5
    refine op_cast (fX8_init.eq_2 ..) (fX8_init.eq_2 ..) ?_
    repeat' (with_reducible (first | intro _ | apply op_ite | apply op_let | apply op_bind | apply ih   | exact op_refl _))
theorem zgX8_init (n : Nat) (r0 : Nat) (M : ao_M) (ρ : ao_H) : op_le (gX8_init n r0 M ρ) (gX8_init (n + 1) r0 M ρ) := zfX8_init n _ _ _ _ _ _
set_option maxRecDepth 100000 in
set_option maxHeartbeats 4000000 in
theorem zfJ7_fill_53178 : ∀ (n : Nat) pc a1 a2 a3 a4 a5 a6, op_le (fJ7_fill_53178 n pc a1 a2 a3 a4 a5 a6) (fJ7_fill_53178 (n + 1) pc a1 a2 a3 a4 a5 a6) := by
  intro n
  induction n with
  | zero => intros; exact op_none _
  | succ n ih =>
    intro pc a1 a2 a3 a4 a5 a6
    refine op_cast (fJ7_fill_53178.eq_2 ..) (fJ7_fill_53178.eq_2 ..) ?_
    repeat' (with_reducible (first | intro _ | apply op_ite | apply op_let | apply op_bind | apply ih   | exact op_refl _))
theorem zgJ7_fill_53178 (n : Nat) (r0 : Nat) (x1 : Int32) (M : ao_M) (ρ : ao_H) : op_le (gJ7_fill_53178 n r0 x1 M ρ) (gJ7_fill_53178 (n + 1) r0 x1 M ρ) := zfJ7_fill_53178 n _ _ _ _ _ _ _
set_option maxRecDepth 100000 in
set_option maxHeartbeats 4000000 in
theorem zfX5_init : ∀ (n : Nat) pc a1 a2 a3 a4 a5, op_le (fX5_init n pc a1 a2 a3 a4 a5) (fX5_init (n + 1) pc a1 a2 a3 a4 a5) := by
  intro n
  induction n with
  | zero => intros; exact op_none _
  | succ n ih =>
    intro pc a1 a2 a3 a4 a5
    refine op_cast (fX5_init.eq_2 ..) (fX5_init.eq_2 ..) ?_
    repeat' (with_reducible (first | intro _ | apply op_ite | apply op_let | apply op_bind | apply ih | apply zgJ7_fill_53178  | exact op_refl _))
theorem zgX5_init (n : Nat) (r0 : Nat) (M : ao_M) (ρ : ao_H) : op_le (gX5_init n r0 M ρ) (gX5_init (n + 1) r0 M ρ) := zfX5_init n _ _ _ _ _ _
set_option maxRecDepth 100000 in
set_option maxHeartbeats 4000000 in
theorem zfX2_init : ∀ (n : Nat) pc a1 a2 a3 a4 a5 a6 a7 a8, op_le (fX2_init n pc a1 a2 a3 a4 a5 a6 a7 a8) (fX2_init (n + 1) pc a1 a2 a3 a4 a5 a6 a7 a8) := by
  intro n
  induction n with
  | zero => intros; exact op_none _
  | succ n ih =>
    intro pc a1 a2 a3 a4 a5 a6 a7 a8
    refine op_cast (fX2_init.eq_2 ..) (fX2_init.eq_2 ..) ?_
    repeat' (with_reducible (first | intro _ | apply op_ite | apply op_let | apply op_bind | apply ih | apply zgX6_init | apply zgX7_init | apply zgX8_init | apply zgX5_init  | exact op_refl _))
theorem zgX2_init (n : Nat) (r0 : Nat) (M : ao_M) (ρ : ao_H) : op_le (gX2_init n r0 M ρ) (gX2_init (n + 1) r0 M ρ) := zfX2_init n _ _ _ _ _ _ _ _ _
set_option maxRecDepth 100000 in
set_option maxHeartbeats 4000000 in
theorem zfX10_init : ∀ (n : Nat) pc a1 a2 a3 a4 a5, op_le (fX10_init n pc a1 a2 a3 a4 a5) (fX10_init (n + 1) pc a1 a2 a3 a4 a5) := by
  intro n
  induction n with
  | zero => intros; exact op_none _
  | succ n ih =>
    intro pc a1 a2 a3 a4 a5
    refine op_cast (fX10_init.eq_2 ..) (fX10_init.eq_2 ..) ?_
    repeat' (with_reducible (first | intro _ | apply op_ite | apply op_let | apply op_bind | apply ih | apply zgX0_init | apply zgX4_init | apply zgX2_init  | exact op_refl _))
theorem zgX10_init (n : Nat) (r0 : Nat) (M : ao_M) (ρ : ao_H) : op_le (gX10_init n r0 M ρ) (gX10_init (n + 1) r0 M ρ) := zfX10_init n _ _ _ _ _ _
set_option maxRecDepth 100000 in
set_option maxHeartbeats 4000000 in
theorem zfX12_clearLevel : ∀ (n : Nat) pc a1 a2 a3 a4 a5 a6, op_le (fX12_clearLevel n pc a1 a2 a3 a4 a5 a6) (fX12_clearLevel (n + 1) pc a1 a2 a3 a4 a5 a6) := by
  intro n
  induction n with
  | zero => intros; exact op_none _
  | succ n ih =>
    intro pc a1 a2 a3 a4 a5 a6
    refine op_cast (fX12_clearLevel.eq_2 ..) (fX12_clearLevel.eq_2 ..) ?_
    repeat' (with_reducible (first | intro _ | apply op_ite | apply op_let | apply op_bind | apply ih   | exact op_refl _))
theorem zgX12_clearLevel (n : Nat) (r0 : Nat) (x1 : Int32) (x2 : Int32) (M : ao_M) (ρ : ao_H) : op_le (gX12_clearLevel n r0 x1 x2 M ρ) (gX12_clearLevel (n + 1) r0 x1 x2 M ρ) := zfX12_clearLevel n _ _ _ _ _ _ _
set_option maxRecDepth 100000 in
set_option maxHeartbeats 4000000 in
theorem zfX12_reset : ∀ (n : Nat) pc a1 a2 a3 a4 a5, op_le (fX12_reset n pc a1 a2 a3 a4 a5) (fX12_reset (n + 1) pc a1 a2 a3 a4 a5) := by
  intro n
  induction n with
  | zero => intros; exact op_none _
  | succ n ih =>
    intro pc a1 a2 a3 a4 a5
    refine op_cast (fX12_reset.eq_2 ..) (fX12_reset.eq_2 ..) ?_
    repeat' (with_reducible (first | intro _ | apply op_ite | apply op_let | apply op_bind | apply ih | apply zgX12_clearLevel  | exact op_refl _))
theorem zgX12_reset (n : Nat) (r0 : Nat) (x1 : Int32) (M : ao_M) (ρ : ao_H) : op_le (gX12_reset n r0 x1 M ρ) (gX12_reset (n + 1) r0 x1 M ρ) := zfX12_reset n _ _ _ _ _ _
set_option maxRecDepth 100000 in
set_option maxHeartbeats 4000000 in
theorem zfX12_begin : ∀ (n : Nat) pc a1 a2 a3 a4 a5, op_le (fX12_begin n pc a1 a2 a3 a4 a5) (fX12_begin (n + 1) pc a1 a2 a3 a4 a5) := by
  intro n
  induction n with
  | zero => intros; exact op_none _
  | succ n ih =>
    intro pc a1 a2 a3 a4 a5
    refine op_cast (fX12_begin.eq_2 ..) (fX12_begin.eq_2 ..) ?_
    repeat' (with_reducible (first | intro _ | apply op_ite | apply op_let | apply op_bind | apply ih | apply zgX12_reset  | exact op_refl _))
theorem zgX12_begin (n : Nat) (r0 : Nat) (x1 : Int32) (M : ao_M) (ρ : ao_H) : op_le (gX12_begin n r0 x1 M ρ) (gX12_begin (n + 1) r0 x1 M ρ) := zfX12_begin n _ _ _ _ _ _
set_option maxRecDepth 100000 in
set_option maxHeartbeats 4000000 in
theorem zfX12_init_c12 : ∀ (n : Nat) pc a1 a2 a3 a4 a5, op_le (fX12_init_c12 n pc a1 a2 a3 a4 a5) (fX12_init_c12 (n + 1) pc a1 a2 a3 a4 a5) := by
  intro n
  induction n with
  | zero => intros; exact op_none _
  | succ n ih =>
    intro pc a1 a2 a3 a4 a5
    refine op_cast (fX12_init_c12.eq_2 ..) (fX12_init_c12.eq_2 ..) ?_
    repeat' (with_reducible (first | intro _ | apply op_ite | apply op_let | apply op_bind | apply ih | apply zgX12_begin  | exact op_refl _))
set_option maxRecDepth 100000 in
set_option maxHeartbeats 4000000 in
theorem zfX12_init_c11 : ∀ (n : Nat) pc a1 a2 a3 a4 a5, op_le (fX12_init_c11 n pc a1 a2 a3 a4 a5) (fX12_init_c11 (n + 1) pc a1 a2 a3 a4 a5) := by
  intro n
  induction n with
  | zero => intros; exact op_none _
  | succ n ih =>
    intro pc a1 a2 a3 a4 a5
    refine op_cast (fX12_init_c11.eq_2 ..) (fX12_init_c11.eq_2 ..) ?_
    repeat' (with_reducible (first | intro _ | apply op_ite | apply op_let | apply op_bind | apply ih | apply zgX12_begin  | apply zfX12_init_c12 | exact op_refl _))
set_option maxRecDepth 100000 in
set_option maxHeartbeats 4000000 in
theorem zfX12_init_c10 : ∀ (n : Nat) pc a1 a2 a3 a4 a5, op_le (fX12_init_c10 n pc a1 a2 a3 a4 a5) (fX12_init_c10 (n + 1) pc a1 a2 a3 a4 a5) := by
  intro n
  induction n with
  | zero => intros; exact op_none _
  | succ n ih =>
    intro pc a1 a2 a3 a4 a5
    refine op_cast (fX12_init_c10.eq_2 ..) (fX12_init_c10.eq_2 ..) ?_
    repeat' (with_reducible (first | intro _ | apply op_ite | apply op_let | apply op_bind | apply ih | apply zgX12_begin  | apply zfX12_init_c12 | apply zfX12_init_c11 | exact op_refl _))
set_option maxRecDepth 100000 in
set_option maxHeartbeats 4000000 in
theorem zfX12_init_c9 : ∀ (n : Nat) pc a1 a2 a3 a4 a5, op_le (fX12_init_c9 n pc a1 a2 a3 a4 a5) (fX12_init_c9 (n + 1) pc a1 a2 a3 a4 a5) := by
  intro n
  induction n with
  | zero => intros; exact op_none _
  | succ n ih =>
    intro pc a1 a2 a3 a4 a5
    refine op_cast (fX12_init_c9.eq_2 ..) (fX12_init_c9.eq_2 ..) ?_
    repeat' (with_reducible (first | intro _ | apply op_ite | apply op_let | apply op_bind | apply ih | apply zgX12_begin  | apply zfX12_init_c12 | apply zfX12_init_c11 | apply zfX12_init_c10 | exact op_refl _))
set_option maxRecDepth 100000 in
set_option maxHeartbeats 4000000 in
theorem zfX12_init_c8 : ∀ (n : Nat) pc a1 a2 a3 a4 a5, op_le (fX12_init_c8 n pc a1 a2 a3 a4 a5) (fX12_init_c8 (n + 1) pc a1 a2 a3 a4 a5) := by
  intro n
  induction n with
  | zero => intros; exact op_none _
  | succ n ih =>
    intro pc a1 a2 a3 a4 a5
    refine op_cast (fX12_init_c8.eq_2 ..) (fX12_init_c8.eq_2 ..) ?_
    repeat' (with_reducible (first | intro _ | apply op_ite | apply op_let | apply op_bind | apply ih | apply zgX12_begin  | apply zfX12_init_c12 | apply zfX12_init_c11 | apply zfX12_init_c10 | apply zfX12_init_c9 | exact op_refl _))
set_option maxRecDepth 100000 in
set_option maxHeartbeats 4000000 in
theorem zfX12_init_c7 : ∀ (n : Nat) pc a1 a2 a3 a4 a5, op_le (fX12_init_c7 n pc a1 a2 a3 a4 a5) (fX12_init_c7 (n + 1) pc a1 a2 a3 a4 a5) := by
  intro n
  induction n with
  | zero => intros; exact op_none _
  | succ n ih =>
    intro pc a1 a2 a3 a4 a5
    refine op_cast (fX12_init_c7.eq_2 ..) (fX12_init_c7.eq_2 ..) ?_
    repeat' (with_reducible (first | intro _ | apply op_ite | apply op_let | apply op_bind | apply ih | apply zgX12_begin  | apply zfX12_init_c12 | apply zfX12_init_c11 | apply zfX12_init_c10 | apply zfX12_init_c9 | apply zfX12_init_c8 | exact op_refl _))
set_option maxRecDepth 100000 in
set_option maxHeartbeats 4000000 in
theorem zfX12_init_c6 : ∀ (n : Nat) pc a1 a2 a3 a4 a5, op_le (fX12_init_c6 n pc a1 a2 a3 a4 a5) (fX12_init_c6 (n + 1) pc a1 a2 a3 a4 a5) := by
  intro n
  induction n with
  | zero => intros; exact op_none _
  | succ n ih =>
    intro pc a1 a2 a3 a4 a5
    refine op_cast (fX12_init_c6.eq_2 ..) (fX12_init_c6.eq_2 ..) ?_
    repeat' (with_reducible (first | intro _ | apply op_ite | apply op_let | apply op_bind | apply ih | apply zgX12_begin  | apply zfX12_init_c12 | apply zfX12_init_c11 | apply zfX12_init_c10 | apply zfX12_init_c9 | apply zfX12_init_c8 | apply zfX12_init_c7 | exact op_refl _))
set_option maxRecDepth 100000 in
set_option maxHeartbeats 4000000 in
theorem zfX12_init_c5 : ∀ (n : Nat) pc a1 a2 a3 a4 a5, op_le (fX12_init_c5 n pc a1 a2 a3 a4 a5) (fX12_init_c5 (n + 1) pc a1 a2 a3 a4 a5) := by
  intro n
  induction n with
  | zero => intros; exact op_none _
  | succ n ih =>
    intro pc a1 a2 a3 a4 a5
    refine op_cast (fX12_init_c5.eq_2 ..) (fX12_init_c5.eq_2 ..) ?_
    repeat' (with_reducible (first | intro _ | apply op_ite | apply op_let | apply op_bind | apply ih | apply zgX12_begin  | apply zfX12_init_c12 | apply zfX12_init_c11 | apply zfX12_init_c10 | apply zfX12_init_c9 | apply zfX12_init_c8 | apply zfX12_init_c7 | apply zfX12_init_c6 | exact op_refl _))
set_option maxRecDepth 100000 in
set_option maxHeartbeats 4000000 in
theorem zfX12_init_c4 : ∀ (n : Nat) pc a1 a2 a3 a4 a5, op_le (fX12_init_c4 n pc a1 a2 a3 a4 a5) (fX12_init_c4 (n + 1) pc a1 a2 a3 a4 a5) := by
  intro n
  induction n with
  | zero => intros; exact op_none _
  | succ n ih =>
    intro pc a1 a2 a3 a4 a5
    refine op_cast (fX12_init_c4.eq_2 ..) (fX12_init_c4.eq_2 ..) ?_
    repeat' (with_reducible (first | intro _ | apply op_ite | apply op_let | apply op_bind | apply ih | apply zgX12_begin  | apply zfX12_init_c12 | apply zfX12_init_c11 | apply zfX12_init_c10 | apply zfX12_init_c9 | apply zfX12_init_c8 | apply zfX12_init_c7 | apply zfX12_init_c6 | apply zfX12_init_c5 | exact op_refl _))
set_option maxRecDepth 100000 in
set_option maxHeartbeats 4000000 in
theorem zfX12_init_c3 : ∀ (n : Nat) pc a1 a2 a3 a4 a5, op_le (fX12_init_c3 n pc a1 a2 a3 a4 a5) (fX12_init_c3 (n + 1) pc a1 a2 a3 a4 a5) := by
  intro n
  induction n with
  | zero => intros; exact op_none _
  | succ n ih =>
    intro pc a1 a2 a3 a4 a5
    refine op_cast (fX12_init_c3.eq_2 ..) (fX12_init_c3.eq_2 ..) ?_
    repeat' (with_reducible (first | intro _ | apply op_ite | apply op_let | apply op_bind | apply ih | apply zgX12_begin  | apply zfX12_init_c12 | apply zfX12_init_c11 | apply zfX12_init_c10 | apply zfX12_init_c9 | apply zfX12_init_c8 | apply zfX12_init_c7 | apply zfX12_init_c6 | apply zfX12_init_c5 | apply zfX12_init_c4 | exact op_refl _))
set_option maxRecDepth 100000 in
set_option maxHeartbeats 4000000 in
theorem zfX12_init_c2 : ∀ (n : Nat) pc a1 a2 a3 a4 a5, op_le (fX12_init_c2 n pc a1 a2 a3 a4 a5) (fX12_init_c2 (n + 1) pc a1 a2 a3 a4 a5) := by
  intro n
  induction n with
  | zero => intros; exact op_none _
  | succ n ih =>
    intro pc a1 a2 a3 a4 a5
    refine op_cast (fX12_init_c2.eq_2 ..) (fX12_init_c2.eq_2 ..) ?_
    repeat' (with_reducible (first | intro _ | apply op_ite | apply op_let | apply op_bind | apply ih | apply zgX12_begin  | apply zfX12_init_c12 | apply zfX12_init_c11 | apply zfX12_init_c10 | apply zfX12_init_c9 | apply zfX12_init_c8 | apply zfX12_init_c7 | apply zfX12_init_c6 | apply zfX12_init_c5 | apply zfX12_init_c4 | apply zfX12_init_c3 | exact op_refl _))
set_option maxRecDepth 100000 in
set_option maxHeartbeats 4000000 in
theorem zfX12_init_c1 : ∀ (n : Nat) pc a1 a2 a3 a4 a5, op_le (fX12_init_c1 n pc a1 a2 a3 a4 a5) (fX12_init_c1 (n + 1) pc a1 a2 a3 a4 a5) := by
  intro n
  induction n with
  | zero => intros; exact op_none _
  | succ n ih =>
    intro pc a1 a2 a3 a4 a5
    refine op_cast (fX12_init_c1.eq_2 ..) (fX12_init_c1.eq_2 ..) ?_
    repeat' (with_reducible (first | intro _ | apply op_ite | apply op_let | apply op_bind | apply ih | apply zgX12_begin  | apply zfX12_init_c12 | apply zfX12_init_c11 | apply zfX12_init_c10 | apply zfX12_init_c9 | apply zfX12_init_c8 | apply zfX12_init_c7 | apply zfX12_init_c6 | apply zfX12_init_c5 | apply zfX12_init_c4 | apply zfX12_init_c3 | apply zfX12_init_c2 | exact op_refl _))
set_option maxRecDepth 100000 in
set_option maxHeartbeats 4000000 in
theorem zfX12_init_c0 : ∀ (n : Nat) pc a1 a2 a3 a4 a5, op_le (fX12_init_c0 n pc a1 a2 a3 a4 a5) (fX12_init_c0 (n + 1) pc a1 a2 a3 a4 a5) := by
  intro n
  induction n with
  | zero => intros; exact op_none _
  | succ n ih =>
    intro pc a1 a2 a3 a4 a5
    refine op_cast (fX12_init_c0.eq_2 ..) (fX12_init_c0.eq_2 ..) ?_
    repeat' (with_reducible (first | intro _ | apply op_ite | apply op_let | apply op_bind | apply ih | apply zgX12_begin  | apply zfX12_init_c12 | apply zfX12_init_c11 | apply zfX12_init_c10 | apply zfX12_init_c9 | apply zfX12_init_c8 | apply zfX12_init_c7 | apply zfX12_init_c6 | apply zfX12_init_c5 | apply zfX12_init_c4 | apply zfX12_init_c3 | apply zfX12_init_c2 | apply zfX12_init_c1 | exact op_refl _))
theorem zgX12_init (n : Nat) (r0 : Nat) (M : ao_M) (ρ : ao_H) : op_le (gX12_init n r0 M ρ) (gX12_init (n + 1) r0 M ρ) := zfX12_init_c0 n _ _ _ _ _ _
