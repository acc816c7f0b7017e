set_option linter.unusedSimpArgs false
set_option linter.unusedVariables false
/-! ===== what making leaves (by wip/whole/pure/genin.py) ===== -/
def okn (b : Nat) (ρ : ao_H) (r : Nat) : Prop := b ≤ r ∧ ∃ w, ρ.2.2.2.1 = some w ∧ r < w
/-- nothing below b is touched; all that leads somewhere leads below the end; bytes are 0 -/
def Inn (b : Nat) (M0 : ao_M) (ρ0 : ao_H) (R : Nat → Prop) (M : ao_M) (ρ : ao_H) : Prop := (∀ x, x < b → M x = M0 x ∧ ρ.1 x = ρ0.1 x ∧ ρ.2.1 x = ρ0.2.1 x ∧ ρ.2.2.1 x = ρ0.2.2.1 x) ∧ (∀ r, R r → okn b ρ r) ∧ (∀ x i, ρ.2.1 x = 1 → M x i = 0) ∧ ∃ w, ρ.2.2.2.1 = some w ∧ b ≤ w ∧ (∀ x k, w ≤ x → ρ.1 x k = none ∧ ρ.2.1 x = 99) ∧ ∀ x k j, b ≤ x → ρ.1 x k = some j → b ≤ j ∧ j < w
section Inn
theorem nq_F {ρ : ao_H} {n c l x k : Nat} (h : x < n ∨ n + c < x) : (ao_nq ρ n c l).1 x k = ρ.1 x k := by
  show (if x = n then (if k < c then some (n + 1 + k) else none) else if n < x ∧ x ≤ n + c then none else ρ.1 x k) = ρ.1 x k
  rw [if_neg (by omega), if_neg (by omega)]
theorem nq_K {ρ : ao_H} {n c l x : Nat} (h : x < n ∨ n + c < x) : (ao_nq ρ n c l).2.1 x = ρ.2.1 x := by
  show (if x = n then 6 else if n < x ∧ x ≤ n + c then 0 else ρ.2.1 x) = ρ.2.1 x
  rw [if_neg (by omega), if_neg (by omega)]
theorem nq_L {ρ : ao_H} {n c l x : Nat} (h : x < n ∨ n + c < x) : (ao_nq ρ n c l).2.2.1 x = ρ.2.2.1 x := by
  show (if x = n then c else if n < x ∧ x ≤ n + c then l else ρ.2.2.1 x) = ρ.2.2.1 x
  rw [if_neg (by omega), if_neg (by omega)]
variable {b : Nat} {M0 : ao_M} {ρ0 : ao_H} {R : Nat → Prop}
theorem okn_r {ρ : ao_H} {i k j r : Nat} (h : okn b ρ r) : okn b (ao_r ρ i k (some j)) r := h
theorem okn_nw {ρ : ao_H} {n kd l s r : Nat} (hz : ρ.2.2.2.1 = some n) (h : okn b ρ r) : okn b (ao_nw ρ n kd l s) r := by
  obtain ⟨h1, w, h2, h3⟩ := h
  rw [hz] at h2
  have := Option.some.inj h2
  exact ⟨h1, n + 1, rfl, by omega⟩
theorem okn_nq {ρ : ao_H} {n c l r : Nat} (hz : ρ.2.2.2.1 = some n) (h : okn b ρ r) : okn b (ao_nq ρ n c l) r := by
  obtain ⟨h1, w, h2, h3⟩ := h
  rw [hz] at h2
  have := Option.some.inj h2
  exact ⟨h1, n + 1 + c, rfl, by omega⟩
theorem Inn_b {M : ao_M} {ρ : ao_H} {n : Nat} (hI : Inn b M0 ρ0 R M ρ) (hz : ρ.2.2.2.1 = some n) : b ≤ n := by
  obtain ⟨-, -, -, w, hw, hb, -⟩ := hI
  rw [hz] at hw
  have := Option.some.inj hw
  omega
theorem okn_new {M : ao_M} {ρ : ao_H} {n kd l s : Nat} (hI : Inn b M0 ρ0 R M ρ) (hz : ρ.2.2.2.1 = some n) : okn b (ao_nw ρ n kd l s) n := ⟨Inn_b hI hz, n + 1, rfl, by omega⟩
theorem okn_neq {M : ao_M} {ρ : ao_H} {n c l : Nat} (hI : Inn b M0 ρ0 R M ρ) (hz : ρ.2.2.2.1 = some n) : okn b (ao_nq ρ n c l) n := ⟨Inn_b hI hz, n + 1 + c, rfl, by omega⟩
theorem Inn_u {M : ao_M} {ρ : ao_H} {r k K : Nat} {x : Int32} (hI : Inn b M0 ρ0 R M ρ) (hr : okn b ρ r) (hk : ρ.2.1 r = K) (h1 : K ≠ 1) : Inn b M0 ρ0 R (ao_u M r k x) ρ := by
  obtain ⟨g1, g2, g3, g4⟩ := hI
  refine ⟨fun y hy => ⟨?_, (g1 y hy).2⟩, g2, fun y i hy => ?_, g4⟩
  · rw [← (g1 y hy).1]
    funext i
    exact u_n1 (by have := hr.1; omega)
  · rw [u_n1 (fun e => h1 (by rw [← hk, ← e]; exact hy))]
    exact g3 y i hy
theorem Inn_r {M : ao_M} {ρ : ao_H} {i k j : Nat} (hI : Inn b M0 ρ0 R M ρ) (hi : okn b ρ i) (hj : okn b ρ j) : Inn b M0 ρ0 R M (ao_r ρ i k (some j)) := by
  obtain ⟨h1, h2, h3, w, hw, hb, h5, h6⟩ := hI
  obtain ⟨i1, w1, i2, i3⟩ := hi
  obtain ⟨j1, w2, j2, j3⟩ := hj
  have e1 : w = w1 := by rw [hw] at i2; exact Option.some.inj i2
  have e2 : w = w2 := by rw [hw] at j2; exact Option.some.inj j2
  refine ⟨fun y hy => ?_, h2, h3, w, hw, hb, fun x c hx => ⟨?_, (h5 x c hx).2⟩, fun x c j' hx e => ?_⟩
  · obtain ⟨a1, a2, a3, a4⟩ := h1 y hy
    refine ⟨a1, ?_, a3, a4⟩
    rw [← a2]
    funext c
    exact r_Fn (by omega)
  · rw [r_Fn (by omega)]
    exact (h5 x c hx).1
  · by_cases q : x = i ∧ c = k
    · obtain ⟨rfl, rfl⟩ := q
      rw [r_Fe] at e
      have := Option.some.inj e
      omega
    · have e' : (ao_r ρ i k (some j)).1 x c = ρ.1 x c := by simp [ao_r, q]
      rw [e'] at e
      exact h6 x c j' hx e
theorem Inn_nw {M : ao_M} {ρ : ao_H} {n kd l s : Nat} (hI : Inn b M0 ρ0 R M ρ) (hz : ρ.2.2.2.1 = some n) : Inn b M0 ρ0 R (ao_zr M n) (ao_nw ρ n kd l s) := by
  obtain ⟨h1, h2, h3, w, hw, hb, h5, h6⟩ := hI
  have e1 : w = n := by rw [hw] at hz; exact Option.some.inj hz
  subst e1
  refine ⟨fun y hy => ?_, fun r hr => okn_nw hz (h2 r hr), fun x i hx => ?_, w + 1, rfl, by omega, fun x c hx => ?_, fun x c j hx e => ?_⟩
  · obtain ⟨a1, a2, a3, a4⟩ := h1 y hy
    have hne : y ≠ w := by omega
    refine ⟨?_, ?_, ?_, ?_⟩
    · rw [← a1]; funext c; exact zr_n hne
    · rw [← a2]; funext c; exact nw_F hne
    · rw [nw_K hne]; exact a3
    · rw [nw_L hne]; exact a4
  · by_cases q : x = w
    · subst q
      show (if x = x then (0 : Int32) else M x i) = 0
      rw [if_pos rfl]
    · rw [zr_n q]
      rw [nw_K q] at hx
      exact h3 x i hx
  · rw [nw_F (by omega), nw_K (by omega)]
    exact h5 x c (by omega)
  · by_cases q : x = w
    · subst q
      simp [ao_nw] at e
    · rw [nw_F q] at e
      have := h6 x c j hx e
      omega
theorem Inn_nq {M : ao_M} {ρ : ao_H} {n c l : Nat} (hI : Inn b M0 ρ0 R M ρ) (hz : ρ.2.2.2.1 = some n) : Inn b M0 ρ0 R (ao_zq M n c) (ao_nq ρ n c l) := by
  obtain ⟨h1, h2, h3, w, hw, hb, h5, h6⟩ := hI
  have e1 : w = n := by rw [hw] at hz; exact Option.some.inj hz
  subst e1
  have zq : ∀ x i, ¬ (w ≤ x ∧ x ≤ w + c) → ao_zq M w c x i = M x i := fun x i q => by
    show (if w ≤ x ∧ x ≤ w + c then (0 : Int32) else M x i) = M x i
    rw [if_neg q]
  refine ⟨fun y hy => ?_, fun r hr => okn_nq hz (h2 r hr), fun x i hx => ?_, w + 1 + c, rfl, by omega, fun x k hx => ?_, fun x k j hx e => ?_⟩
  · obtain ⟨a1, a2, a3, a4⟩ := h1 y hy
    refine ⟨?_, ?_, ?_, ?_⟩
    · rw [← a1]; funext k; exact zq _ _ (by omega)
    · rw [← a2]; funext k; exact nq_F (by omega)
    · rw [nq_K (by omega)]; exact a3
    · rw [nq_L (by omega)]; exact a4
  · by_cases q : w ≤ x ∧ x ≤ w + c
    · show (if w ≤ x ∧ x ≤ w + c then (0 : Int32) else M x i) = 0
      rw [if_pos q]
    · rw [zq _ _ q]
      rw [nq_K (by omega)] at hx
      exact h3 x i hx
  · rw [nq_F (by omega), nq_K (by omega)]
    exact h5 x k (by omega)
  · have e' : (if x = w then (if k < c then some (w + 1 + k) else none) else if w < x ∧ x ≤ w + c then none else ρ.1 x k) = some j := e
    by_cases q1 : x = w
    · rw [if_pos q1] at e'
      by_cases q2 : k < c
      · rw [if_pos q2] at e'
        have := Option.some.inj e'
        omega
      · rw [if_neg q2] at e'
        exact nomatch e'
    · rw [if_neg q1] at e'
      by_cases q3 : w < x ∧ x ≤ w + c
      · rw [if_pos q3] at e'
        exact nomatch e'
      · rw [if_neg q3] at e'
        have := h6 x k j hx e'
        omega
theorem n_letM {β : Type} {ρ : ao_H} {Q : β → Prop} {v : ao_M} {f : ao_M → Option β} (h : Inn b M0 ρ0 R v ρ) (k : ∀ M', Inn b M0 ρ0 R M' ρ → ∀ z, f M' = some z → Q z) : ∀ z, ao_let v f = some z → Q z := k v h
theorem n_bindF {β : Type} {M : ao_M} {ρ : ao_H} {r k : Nat} {f : Nat → Option β} {Q : β → Prop} (hI : Inn b M0 ρ0 R M ρ) (hr : okn b ρ r) (h : ∀ j, okn b ρ j → ∀ z, f j = some z → Q z) : ∀ z, (ρ.1 r k).bind f = some z → Q z := f_bind (P := fun j => okn b ρ j) (fun j e => by
  obtain ⟨-, -, -, w, hw, -, -, h6⟩ := hI
  have := h6 r k j hr.1 e
  exact ⟨this.1, w, hw, this.2⟩) h
theorem n_bindZ {β : Type} {ρ : ao_H} {f : Nat → Option β} {Q : β → Prop} (h : ∀ j, ρ.2.2.2.1 = some j → ∀ z, f j = some z → Q z) : ∀ z, (ρ.2.2.2.1).bind f = some z → Q z := f_bind (P := fun j => ρ.2.2.2.1 = some j) (fun j e => e) h
theorem n_call {β : Type} {M : ao_M} {ρ : ao_H} {o : Option ao_S} {f : ao_S → Option β} {Q : β → Prop} (hI : Inn b M0 ρ0 R M ρ) (h : Inn b M0 ρ0 (okn b ρ) M ρ → ∀ z, o = some z → Inn b M0 ρ0 (okn b ρ) z.1 z.2) (k : ∀ y : ao_S, Inn b M0 ρ0 R y.1 y.2 → (∀ r, okn b ρ r → okn b y.2 r) → ∀ z, f y = some z → Q z) : ∀ z, o.bind f = some z → Q z := f_bind2 (P := fun y : ao_S => Inn b M0 ρ0 R y.1 y.2) (R := fun y : ao_S => ∀ r, okn b ρ r → okn b y.2 r) (fun y e => by
  obtain ⟨g1, g2, g3, g4⟩ := hI
  have q := h ⟨g1, fun r hr => hr, g3, g4⟩ y e
  obtain ⟨q1, q2, q3, q4⟩ := q
  exact ⟨⟨q1, fun r hr => q2 r (g2 r hr), q3, q4⟩, q2⟩) k
set_option maxRecDepth 100000 in
set_option maxHeartbeats 4000000 in
theorem in_fX9_init : ∀ (n : Nat) (pc : Nat) (r0 : Nat) (q0 : Nat) (q1 : Nat) (M : ao_M) (ρ : ao_H), Inn b M0 ρ0 R M ρ → okn b ρ r0 → ((pc = 8 ∨ pc = 17 ∨ pc = 26 ∨ pc = 35) → okn b ρ q0) → ((pc = 8 ∨ pc = 17 ∨ pc = 26 ∨ pc = 35) → okn b ρ q1) → ∀ z, fX9_init n pc r0 q0 q1 M ρ = some z → Inn b M0 ρ0 R z.1 z.2 := by
  intro n
  induction n with
  | zero => intros; exact absurd (by assumption) (by simp [fX9_init.eq_1])
  | succ n ih =>
    intro pc r0 q0 q1 M ρ hI h_r0 h_q0 h_q1
    rw [fX9_init.eq_2]
    repeat' (with_reducible (first | exact f_none | refine f_ite (fun hc => ?_) (fun hc => ?_) | refine n_letM (Inn_u (by assumption) ?_ (by assumption) (by decide)) (fun M' hM' => ?_) | refine n_letM (by assumption) (fun M' hM' => ?_) | refine f_letI (fun v => ?_) | refine ih _ _ _ _ _ _ (by assumption) ?_ ?_ ?_ | refine ih _ _ _ _ _ _ ?_ ?_ ?_ ?_ | refine n_bindF (by assumption) ?_ (fun j hj => ?_) | refine n_bindZ (fun j hz => ?_) | refine f_some ?_ | assumption | exact Inn_nw (by assumption) (by assumption) | exact Inn_nq (by assumption) (by assumption) | refine Inn_r (by assumption) ?_ ?_ | exact Inn_u (by assumption) (by assumption) (by assumption) (by decide) | exact h_q0 (by omega) | exact h_q1 (by omega) | exact okn_new (by assumption) (by assumption) | refine okn_nw (by assumption) ?_ | exact okn_neq (by assumption) (by assumption) | refine okn_nq (by assumption) ?_ | refine okn_r ?_ | refine hy2 _ ?_ | exact fun h => absurd h (by decide) | refine fun _ => ?_))
set_option maxRecDepth 100000 in
set_option maxHeartbeats 4000000 in
theorem in_gX9_init {n : Nat} {r0 : Nat} {M : ao_M} {ρ : ao_H} (hI : Inn b M0 ρ0 R M ρ) (h_r0 : okn b ρ r0) : ∀ z, gX9_init n r0 M ρ = some z → Inn b M0 ρ0 R z.1 z.2 := by
  unfold gX9_init
  exact in_fX9_init _ _ _ _ _ _ _ hI h_r0 (fun h => absurd h (by decide)) (fun h => absurd h (by decide))
set_option maxRecDepth 100000 in
set_option maxHeartbeats 4000000 in
theorem in_fX1_init : ∀ (n : Nat) (pc : Nat) (r0 : Nat) (x1 : Int32) (q0 : Nat) (s0 : Int32) (q1 : Nat) (M : ao_M) (ρ : ao_H), Inn b M0 ρ0 R M ρ → okn b ρ r0 → ((pc = 24 ∨ pc = 34 ∨ pc = 44) → okn b ρ q0) → ((pc = 14 ∨ pc = 24 ∨ pc = 34 ∨ pc = 44) → okn b ρ q1) → ∀ z, fX1_init n pc r0 x1 q0 s0 q1 M ρ = some z → Inn b M0 ρ0 R z.1 z.2 := by
  intro n
  induction n with
  | zero => intros; exact absurd (by assumption) (by simp [fX1_init.eq_1])
  | succ n ih =>
    intro pc r0 x1 q0 s0 q1 M ρ hI h_r0 h_q0 h_q1
    rw [fX1_init.eq_2]
    repeat' (with_reducible (first | exact f_none | refine f_ite (fun hc => ?_) (fun hc => ?_) | refine n_letM (Inn_u (by assumption) ?_ (by assumption) (by decide)) (fun M' hM' => ?_) | refine n_letM (by assumption) (fun M' hM' => ?_) | refine f_letI (fun v => ?_) | refine ih _ _ _ _ _ _ _ _ (by assumption) ?_ ?_ ?_ | refine ih _ _ _ _ _ _ _ _ ?_ ?_ ?_ ?_ | refine n_bindF (by assumption) ?_ (fun j hj => ?_) | refine n_bindZ (fun j hz => ?_) | refine f_some ?_ | assumption | exact Inn_nw (by assumption) (by assumption) | exact Inn_nq (by assumption) (by assumption) | refine Inn_r (by assumption) ?_ ?_ | exact Inn_u (by assumption) (by assumption) (by assumption) (by decide) | exact h_q0 (by omega) | exact h_q1 (by omega) | exact okn_new (by assumption) (by assumption) | refine okn_nw (by assumption) ?_ | exact okn_neq (by assumption) (by assumption) | refine okn_nq (by assumption) ?_ | refine okn_r ?_ | refine hy2 _ ?_ | exact fun h => absurd h (by decide) | refine fun _ => ?_))
set_option maxRecDepth 100000 in
set_option maxHeartbeats 4000000 in
theorem in_gX1_init {n : Nat} {r0 : Nat} {x1 : Int32} {M : ao_M} {ρ : ao_H} (hI : Inn b M0 ρ0 R M ρ) (h_r0 : okn b ρ r0) : ∀ z, gX1_init n r0 x1 M ρ = some z → Inn b M0 ρ0 R z.1 z.2 := by
  unfold gX1_init
  exact in_fX1_init _ _ _ _ _ _ _ _ _ hI h_r0 (fun h => absurd h (by decide)) (fun h => absurd h (by decide))
set_option maxRecDepth 100000 in
set_option maxHeartbeats 4000000 in
theorem in_fX4_init : ∀ (n : Nat) (pc : Nat) (r0 : Nat) (q0 : Nat) (q1 : Nat) (M : ao_M) (ρ : ao_H), Inn b M0 ρ0 R M ρ → okn b ρ r0 → ((pc = 8 ∨ pc = 12 ∨ pc = 19 ∨ pc = 26) → okn b ρ q0) → ((pc = 8 ∨ pc = 12 ∨ pc = 19 ∨ pc = 26) → okn b ρ q1) → ∀ z, fX4_init n pc r0 q0 q1 M ρ = some z → Inn b M0 ρ0 R z.1 z.2 := by
  intro n
  induction n with
  | zero => intros; exact absurd (by assumption) (by simp [fX4_init.eq_1])
  | succ n ih =>
    intro pc r0 q0 q1 M ρ hI h_r0 h_q0 h_q1
    rw [fX4_init.eq_2]
    repeat' (with_reducible (first | exact f_none | refine f_ite (fun hc => ?_) (fun hc => ?_) | refine n_letM (Inn_u (by assumption) ?_ (by assumption) (by decide)) (fun M' hM' => ?_) | refine n_letM (by assumption) (fun M' hM' => ?_) | refine f_letI (fun v => ?_) | refine ih _ _ _ _ _ _ (by assumption) ?_ ?_ ?_ | refine ih _ _ _ _ _ _ ?_ ?_ ?_ ?_ | refine n_call (by assumption) (fun h => in_gX9_init h ?_) (fun y hy1 hy2 => ?_) | refine n_call (by assumption) (fun h => in_gX1_init h ?_) (fun y hy1 hy2 => ?_) | refine n_bindF (by assumption) ?_ (fun j hj => ?_) | refine n_bindZ (fun j hz => ?_) | refine f_some ?_ | assumption | exact Inn_nw (by assumption) (by assumption) | exact Inn_nq (by assumption) (by assumption) | refine Inn_r (by assumption) ?_ ?_ | exact Inn_u (by assumption) (by assumption) (by assumption) (by decide) | exact h_q0 (by omega) | exact h_q1 (by omega) | exact okn_new (by assumption) (by assumption) | refine okn_nw (by assumption) ?_ | exact okn_neq (by assumption) (by assumption) | refine okn_nq (by assumption) ?_ | refine okn_r ?_ | refine hy2 _ ?_ | exact fun h => absurd h (by decide) | refine fun _ => ?_))
set_option maxRecDepth 100000 in
set_option maxHeartbeats 4000000 in
theorem in_gX4_init {n : Nat} {r0 : Nat} {M : ao_M} {ρ : ao_H} (hI : Inn b M0 ρ0 R M ρ) (h_r0 : okn b ρ r0) : ∀ z, gX4_init n r0 M ρ = some z → Inn b M0 ρ0 R z.1 z.2 := by
  unfold gX4_init
  exact in_fX4_init _ _ _ _ _ _ _ hI h_r0 (fun h => absurd h (by decide)) (fun h => absurd h (by decide))
set_option maxRecDepth 100000 in
set_option maxHeartbeats 4000000 in
theorem in_fJ7_fill_53178 : ∀ (n : Nat) (pc : Nat) (r0 : Nat) (x1 : Int32) (x2 : Int32) (x3 : Int32) (M : ao_M) (ρ : ao_H), Inn b M0 ρ0 R M ρ → okn b ρ r0 → ∀ z, fJ7_fill_53178 n pc r0 x1 x2 x3 M ρ = some z → Inn b M0 ρ0 R z ρ := by
  intro n
  induction n with
  | zero => intros; exact absurd (by assumption) (by simp [fJ7_fill_53178.eq_1])
  | succ n ih =>
    intro pc r0 x1 x2 x3 M ρ hI h_r0
    rw [fJ7_fill_53178.eq_2]
    repeat' (with_reducible (first | exact f_none | refine f_ite (fun hc => ?_) (fun hc => ?_) | refine n_letM (Inn_u (by assumption) ?_ (by assumption) (by decide)) (fun M' hM' => ?_) | refine n_letM (by assumption) (fun M' hM' => ?_) | refine f_letI (fun v => ?_) | refine ih _ _ _ _ _ _ _ (by assumption) ?_ | refine ih _ _ _ _ _ _ _ ?_ ?_ | refine n_bindF (by assumption) ?_ (fun j hj => ?_) | refine n_bindZ (fun j hz => ?_) | refine f_some ?_ | assumption | exact Inn_nw (by assumption) (by assumption) | exact Inn_nq (by assumption) (by assumption) | refine Inn_r (by assumption) ?_ ?_ | exact Inn_u (by assumption) (by assumption) (by assumption) (by decide)  | exact okn_new (by assumption) (by assumption) | refine okn_nw (by assumption) ?_ | exact okn_neq (by assumption) (by assumption) | refine okn_nq (by assumption) ?_ | refine okn_r ?_ | refine hy2 _ ?_ | exact fun h => absurd h (by decide) | refine fun _ => ?_))
set_option maxRecDepth 100000 in
set_option maxHeartbeats 4000000 in
theorem in_gJ7_fill_53178 {n : Nat} {r0 : Nat} {x1 : Int32} {M : ao_M} {ρ : ao_H} (hI : Inn b M0 ρ0 R M ρ) (h_r0 : okn b ρ r0) : ∀ z, gJ7_fill_53178 n r0 x1 M ρ = some z → Inn b M0 ρ0 R z ρ := by
  unfold gJ7_fill_53178
  exact in_fJ7_fill_53178 _ _ _ _ _ _ _ _ hI h_r0
set_option maxRecDepth 100000 in
set_option maxHeartbeats 4000000 in
theorem in_fX5_init : ∀ (n : Nat) (pc : Nat) (r0 : Nat) (q0 : Nat) (q1 : Nat) (M : ao_M) (ρ : ao_H), Inn b M0 ρ0 R M ρ → okn b ρ r0 → ((pc = 9 ∨ pc = 17 ∨ pc = 25 ∨ pc = 33 ∨ pc = 41 ∨ pc = 55 ∨ pc = 63 ∨ pc = 71) → okn b ρ q0) → ((pc = 9 ∨ pc = 17 ∨ pc = 25 ∨ pc = 33 ∨ pc = 41 ∨ pc = 55 ∨ pc = 63 ∨ pc = 71) → okn b ρ q1) → ∀ z, fX5_init n pc r0 q0 q1 M ρ = some z → Inn b M0 ρ0 R z.1 z.2 := by
  intro n
  induction n with
  | zero => intros; exact absurd (by assumption) (by simp [fX5_init.eq_1])
  | succ n ih =>
    intro pc r0 q0 q1 M ρ hI h_r0 h_q0 h_q1
    rw [fX5_init.eq_2]
    repeat' (with_reducible (first | exact f_none | refine f_ite (fun hc => ?_) (fun hc => ?_) | refine n_letM (Inn_u (by assumption) ?_ (by assumption) (by decide)) (fun M' hM' => ?_) | refine n_letM (by assumption) (fun M' hM' => ?_) | refine f_letI (fun v => ?_) | refine ih _ _ _ _ _ _ (by assumption) ?_ ?_ ?_ | refine ih _ _ _ _ _ _ ?_ ?_ ?_ ?_ | refine f_bind (in_gJ7_fill_53178 (by assumption) ?_) (fun y hy => ?_) | refine n_bindF (by assumption) ?_ (fun j hj => ?_) | refine n_bindZ (fun j hz => ?_) | refine f_some ?_ | assumption | exact Inn_nw (by assumption) (by assumption) | exact Inn_nq (by assumption) (by assumption) | refine Inn_r (by assumption) ?_ ?_ | exact Inn_u (by assumption) (by assumption) (by assumption) (by decide) | exact h_q0 (by omega) | exact h_q1 (by omega) | exact okn_new (by assumption) (by assumption) | refine okn_nw (by assumption) ?_ | exact okn_neq (by assumption) (by assumption) | refine okn_nq (by assumption) ?_ | refine okn_r ?_ | refine hy2 _ ?_ | exact fun h => absurd h (by decide) | refine fun _ => ?_))
set_option maxRecDepth 100000 in
set_option maxHeartbeats 4000000 in
theorem in_gX5_init {n : Nat} {r0 : Nat} {M : ao_M} {ρ : ao_H} (hI : Inn b M0 ρ0 R M ρ) (h_r0 : okn b ρ r0) : ∀ z, gX5_init n r0 M ρ = some z → Inn b M0 ρ0 R z.1 z.2 := by
  unfold gX5_init
  exact in_fX5_init _ _ _ _ _ _ _ hI h_r0 (fun h => absurd h (by decide)) (fun h => absurd h (by decide))
set_option maxRecDepth 100000 in
set_option maxHeartbeats 4000000 in
theorem in_fX8_init : ∀ (n : Nat) (pc : Nat) (r0 : Nat) (q0 : Nat) (q1 : Nat) (M : ao_M) (ρ : ao_H), Inn b M0 ρ0 R M ρ → okn b ρ r0 → ((pc = 10 ∨ pc = 19) → okn b ρ q0) → ((pc = 10 ∨ pc = 19) → okn b ρ q1) → ∀ z, fX8_init n pc r0 q0 q1 M ρ = some z → Inn b M0 ρ0 R z.1 z.2 := by
  intro n
  induction n with
  | zero => intros; exact absurd (by assumption) (by simp [fX8_init.eq_1])
  | succ n ih =>
    intro pc r0 q0 q1 M ρ hI h_r0 h_q0 h_q1
    rw [fX8_init.eq_2]
    repeat' (with_reducible (first | exact f_none | refine f_ite (fun hc => ?_) (fun hc => ?_) | refine n_letM (Inn_u (by assumption) ?_ (by assumption) (by decide)) (fun M' hM' => ?_) | refine n_letM (by assumption) (fun M' hM' => ?_) | refine f_letI (fun v => ?_) | refine ih _ _ _ _ _ _ (by assumption) ?_ ?_ ?_ | refine ih _ _ _ _ _ _ ?_ ?_ ?_ ?_ | refine n_bindF (by assumption) ?_ (fun j hj => ?_) | refine n_bindZ (fun j hz => ?_) | refine f_some ?_ | assumption | exact Inn_nw (by assumption) (by assumption) | exact Inn_nq (by assumption) (by assumption) | refine Inn_r (by assumption) ?_ ?_ | exact Inn_u (by assumption) (by assumption) (by assumption) (by decide) | exact h_q0 (by omega) | exact h_q1 (by omega) | exact okn_new (by assumption) (by assumption) | refine okn_nw (by assumption) ?_ | exact okn_neq (by assumption) (by assumption) | refine okn_nq (by assumption) ?_ | refine okn_r ?_ | refine hy2 _ ?_ | exact fun h => absurd h (by decide) | refine fun _ => ?_))
set_option maxRecDepth 100000 in
set_option maxHeartbeats 4000000 in
theorem in_gX8_init {n : Nat} {r0 : Nat} {M : ao_M} {ρ : ao_H} (hI : Inn b M0 ρ0 R M ρ) (h_r0 : okn b ρ r0) : ∀ z, gX8_init n r0 M ρ = some z → Inn b M0 ρ0 R z.1 z.2 := by
  unfold gX8_init
  exact in_fX8_init _ _ _ _ _ _ _ hI h_r0 (fun h => absurd h (by decide)) (fun h => absurd h (by decide))
set_option maxRecDepth 100000 in
set_option maxHeartbeats 4000000 in
theorem in_fX6_init : ∀ (n : Nat) (pc : Nat) (r0 : Nat) (q0 : Nat) (q1 : Nat) (M : ao_M) (ρ : ao_H), Inn b M0 ρ0 R M ρ → okn b ρ r0 → ((pc = 10 ∨ pc = 19 ∨ pc = 28 ∨ pc = 37 ∨ pc = 46 ∨ pc = 58 ∨ pc = 70 ∨ pc = 82 ∨ pc = 94) → okn b ρ q0) → ((pc = 10 ∨ pc = 19 ∨ pc = 28 ∨ pc = 37 ∨ pc = 46 ∨ pc = 58 ∨ pc = 70 ∨ pc = 82 ∨ pc = 94) → okn b ρ q1) → ∀ z, fX6_init n pc r0 q0 q1 M ρ = some z → Inn b M0 ρ0 R z.1 z.2 := by
  intro n
  induction n with
  | zero => intros; exact absurd (by assumption) (by simp [fX6_init.eq_1])
  | succ n ih =>
    intro pc r0 q0 q1 M ρ hI h_r0 h_q0 h_q1
    rw [fX6_init.eq_2]
    repeat' (with_reducible (first | exact f_none | refine f_ite (fun hc => ?_) (fun hc => ?_) | refine n_letM (Inn_u (by assumption) ?_ (by assumption) (by decide)) (fun M' hM' => ?_) | refine n_letM (by assumption) (fun M' hM' => ?_) | refine f_letI (fun v => ?_) | refine ih _ _ _ _ _ _ (by assumption) ?_ ?_ ?_ | refine ih _ _ _ _ _ _ ?_ ?_ ?_ ?_ | refine n_bindF (by assumption) ?_ (fun j hj => ?_) | refine n_bindZ (fun j hz => ?_) | refine f_some ?_ | assumption | exact Inn_nw (by assumption) (by assumption) | exact Inn_nq (by assumption) (by assumption) | refine Inn_r (by assumption) ?_ ?_ | exact Inn_u (by assumption) (by assumption) (by assumption) (by decide) | exact h_q0 (by omega) | exact h_q1 (by omega) | exact okn_new (by assumption) (by assumption) | refine okn_nw (by assumption) ?_ | exact okn_neq (by assumption) (by assumption) | refine okn_nq (by assumption) ?_ | refine okn_r ?_ | refine hy2 _ ?_ | exact fun h => absurd h (by decide) | refine fun _ => ?_))
set_option maxRecDepth 100000 in
set_option maxHeartbeats 4000000 in
theorem in_gX6_init {n : Nat} {r0 : Nat} {M : ao_M} {ρ : ao_H} (hI : Inn b M0 ρ0 R M ρ) (h_r0 : okn b ρ r0) : ∀ z, gX6_init n r0 M ρ = some z → Inn b M0 ρ0 R z.1 z.2 := by
  unfold gX6_init
  exact in_fX6_init _ _ _ _ _ _ _ hI h_r0 (fun h => absurd h (by decide)) (fun h => absurd h (by decide))
set_option maxRecDepth 100000 in
set_option maxHeartbeats 4000000 in
theorem in_fX3_init : ∀ (n : Nat) (pc : Nat) (r0 : Nat) (q0 : Nat) (q1 : Nat) (M : ao_M) (ρ : ao_H), Inn b M0 ρ0 R M ρ → okn b ρ r0 → ((pc = 9 ∨ pc = 17 ∨ pc = 25 ∨ pc = 33 ∨ pc = 41) → okn b ρ q0) → ((pc = 9 ∨ pc = 17 ∨ pc = 25 ∨ pc = 33 ∨ pc = 41) → okn b ρ q1) → ∀ z, fX3_init n pc r0 q0 q1 M ρ = some z → Inn b M0 ρ0 R z.1 z.2 := by
  intro n
  induction n with
  | zero => intros; exact absurd (by assumption) (by simp [fX3_init.eq_1])
  | succ n ih =>
    intro pc r0 q0 q1 M ρ hI h_r0 h_q0 h_q1
    rw [fX3_init.eq_2]
    repeat' (with_reducible (first | exact f_none | refine f_ite (fun hc => ?_) (fun hc => ?_) | refine n_letM (Inn_u (by assumption) ?_ (by assumption) (by decide)) (fun M' hM' => ?_) | refine n_letM (by assumption) (fun M' hM' => ?_) | refine f_letI (fun v => ?_) | refine ih _ _ _ _ _ _ (by assumption) ?_ ?_ ?_ | refine ih _ _ _ _ _ _ ?_ ?_ ?_ ?_ | refine n_bindF (by assumption) ?_ (fun j hj => ?_) | refine n_bindZ (fun j hz => ?_) | refine f_some ?_ | assumption | exact Inn_nw (by assumption) (by assumption) | exact Inn_nq (by assumption) (by assumption) | refine Inn_r (by assumption) ?_ ?_ | exact Inn_u (by assumption) (by assumption) (by assumption) (by decide) | exact h_q0 (by omega) | exact h_q1 (by omega) | exact okn_new (by assumption) (by assumption) | refine okn_nw (by assumption) ?_ | exact okn_neq (by assumption) (by assumption) | refine okn_nq (by assumption) ?_ | refine okn_r ?_ | refine hy2 _ ?_ | exact fun h => absurd h (by decide) | refine fun _ => ?_))
set_option maxRecDepth 100000 in
set_option maxHeartbeats 4000000 in
theorem in_gX3_init {n : Nat} {r0 : Nat} {M : ao_M} {ρ : ao_H} (hI : Inn b M0 ρ0 R M ρ) (h_r0 : okn b ρ r0) : ∀ z, gX3_init n r0 M ρ = some z → Inn b M0 ρ0 R z.1 z.2 := by
  unfold gX3_init
  exact in_fX3_init _ _ _ _ _ _ _ hI h_r0 (fun h => absurd h (by decide)) (fun h => absurd h (by decide))
set_option maxRecDepth 100000 in
set_option maxHeartbeats 4000000 in
theorem in_fX7_init : ∀ (n : Nat) (pc : Nat) (r0 : Nat) (x1 : Int32) (x2 : Int32) (q0 : Nat) (q1 : Nat) (s1 : Int32) (q2 : Nat) (M : ao_M) (ρ : ao_H), Inn b M0 ρ0 R M ρ → okn b ρ r0 → ((pc = 13 ∨ pc = 18 ∨ pc = 31 ∨ pc = 39 ∨ pc = 48 ∨ pc = 67 ∨ pc = 71 ∨ pc = 83 ∨ pc = 91 ∨ pc = 100) → okn b ρ q0) → ((pc = 13 ∨ pc = 18 ∨ pc = 31 ∨ pc = 39 ∨ pc = 48 ∨ pc = 83 ∨ pc = 91 ∨ pc = 100) → okn b ρ q1) → ((pc = 67 ∨ pc = 71) → okn b ρ q2) → ∀ z, fX7_init n pc r0 x1 x2 q0 q1 s1 q2 M ρ = some z → Inn b M0 ρ0 R z.1 z.2 := by
  intro n
  induction n with
  | zero => intros; exact absurd (by assumption) (by simp [fX7_init.eq_1])
  | succ n ih =>
    intro pc r0 x1 x2 q0 q1 s1 q2 M ρ hI h_r0 h_q0 h_q1 h_q2
    rw [fX7_init.eq_2]
    repeat' (with_reducible (first | exact f_none | refine f_ite (fun hc => ?_) (fun hc => ?_) | refine n_letM (Inn_u (by assumption) ?_ (by assumption) (by decide)) (fun M' hM' => ?_) | refine n_letM (by assumption) (fun M' hM' => ?_) | refine f_letI (fun v => ?_) | refine ih _ _ _ _ _ _ _ _ _ _ (by assumption) ?_ ?_ ?_ ?_ | refine ih _ _ _ _ _ _ _ _ _ _ ?_ ?_ ?_ ?_ ?_ | refine n_call (by assumption) (fun h => in_gX1_init h ?_) (fun y hy1 hy2 => ?_) | refine n_call (by assumption) (fun h => in_gX3_init h ?_) (fun y hy1 hy2 => ?_) | refine n_bindF (by assumption) ?_ (fun j hj => ?_) | refine n_bindZ (fun j hz => ?_) | refine f_some ?_ | assumption | exact Inn_nw (by assumption) (by assumption) | exact Inn_nq (by assumption) (by assumption) | refine Inn_r (by assumption) ?_ ?_ | exact Inn_u (by assumption) (by assumption) (by assumption) (by decide) | exact h_q0 (by omega) | exact h_q1 (by omega) | exact h_q2 (by omega) | exact okn_new (by assumption) (by assumption) | refine okn_nw (by assumption) ?_ | exact okn_neq (by assumption) (by assumption) | refine okn_nq (by assumption) ?_ | refine okn_r ?_ | refine hy2 _ ?_ | exact fun h => absurd h (by decide) | refine fun _ => ?_))
set_option maxRecDepth 100000 in
set_option maxHeartbeats 4000000 in
theorem in_gX7_init {n : Nat} {r0 : Nat} {x1 : Int32} {M : ao_M} {ρ : ao_H} (hI : Inn b M0 ρ0 R M ρ) (h_r0 : okn b ρ r0) : ∀ z, gX7_init n r0 x1 M ρ = some z → Inn b M0 ρ0 R z.1 z.2 := by
  unfold gX7_init
  exact in_fX7_init _ _ _ _ _ _ _ _ _ _ _ hI h_r0 (fun h => absurd h (by decide)) (fun h => absurd h (by decide)) (fun h => absurd h (by decide))
set_option maxRecDepth 100000 in
set_option maxHeartbeats 4000000 in
theorem in_fX2_init : ∀ (n : Nat) (pc : Nat) (r0 : Nat) (x1 : Int32) (q0 : Nat) (q1 : Nat) (s1 : Int32) (q2 : Nat) (M : ao_M) (ρ : ao_H), Inn b M0 ρ0 R M ρ → okn b ρ r0 → ((pc = 8 ∨ pc = 12 ∨ pc = 19 ∨ pc = 23 ∨ pc = 30 ∨ pc = 34 ∨ pc = 43 ∨ pc = 62 ∨ pc = 67) → okn b ρ q0) → ((pc = 8 ∨ pc = 12 ∨ pc = 19 ∨ pc = 23 ∨ pc = 30 ∨ pc = 34 ∨ pc = 43) → okn b ρ q1) → ((pc = 62 ∨ pc = 67) → okn b ρ q2) → ∀ z, fX2_init n pc r0 x1 q0 q1 s1 q2 M ρ = some z → Inn b M0 ρ0 R z.1 z.2 := by
  intro n
  induction n with
  | zero => intros; exact absurd (by assumption) (by simp [fX2_init.eq_1])
  | succ n ih =>
    intro pc r0 x1 q0 q1 s1 q2 M ρ hI h_r0 h_q0 h_q1 h_q2
    rw [fX2_init.eq_2]
    repeat' (with_reducible (first | exact f_none | refine f_ite (fun hc => ?_) (fun hc => ?_) | refine n_letM (Inn_u (by assumption) ?_ (by assumption) (by decide)) (fun M' hM' => ?_) | refine n_letM (by assumption) (fun M' hM' => ?_) | refine f_letI (fun v => ?_) | refine ih _ _ _ _ _ _ _ _ _ (by assumption) ?_ ?_ ?_ ?_ | refine ih _ _ _ _ _ _ _ _ _ ?_ ?_ ?_ ?_ ?_ | refine n_call (by assumption) (fun h => in_gX5_init h ?_) (fun y hy1 hy2 => ?_) | refine n_call (by assumption) (fun h => in_gX8_init h ?_) (fun y hy1 hy2 => ?_) | refine n_call (by assumption) (fun h => in_gX6_init h ?_) (fun y hy1 hy2 => ?_) | refine n_call (by assumption) (fun h => in_gX7_init h ?_) (fun y hy1 hy2 => ?_) | refine n_bindF (by assumption) ?_ (fun j hj => ?_) | refine n_bindZ (fun j hz => ?_) | refine f_some ?_ | assumption | exact Inn_nw (by assumption) (by assumption) | exact Inn_nq (by assumption) (by assumption) | refine Inn_r (by assumption) ?_ ?_ | exact Inn_u (by assumption) (by assumption) (by assumption) (by decide) | exact h_q0 (by omega) | exact h_q1 (by omega) | exact h_q2 (by omega) | exact okn_new (by assumption) (by assumption) | refine okn_nw (by assumption) ?_ | exact okn_neq (by assumption) (by assumption) | refine okn_nq (by assumption) ?_ | refine okn_r ?_ | refine hy2 _ ?_ | exact fun h => absurd h (by decide) | refine fun _ => ?_))
set_option maxRecDepth 100000 in
set_option maxHeartbeats 4000000 in
theorem in_gX2_init {n : Nat} {r0 : Nat} {M : ao_M} {ρ : ao_H} (hI : Inn b M0 ρ0 R M ρ) (h_r0 : okn b ρ r0) : ∀ z, gX2_init n r0 M ρ = some z → Inn b M0 ρ0 R z.1 z.2 := by
  unfold gX2_init
  exact in_fX2_init _ _ _ _ _ _ _ _ _ _ hI h_r0 (fun h => absurd h (by decide)) (fun h => absurd h (by decide)) (fun h => absurd h (by decide))
set_option maxRecDepth 100000 in
set_option maxHeartbeats 4000000 in
theorem in_fX0_init : ∀ (n : Nat) (pc : Nat) (r0 : Nat) (q0 : Nat) (q1 : Nat) (M : ao_M) (ρ : ao_H), Inn b M0 ρ0 R M ρ → okn b ρ r0 → ((pc = 9 ∨ pc = 21 ∨ pc = 29) → okn b ρ q0) → ((pc = 9 ∨ pc = 21 ∨ pc = 29) → okn b ρ q1) → ∀ z, fX0_init n pc r0 q0 q1 M ρ = some z → Inn b M0 ρ0 R z.1 z.2 := by
  intro n
  induction n with
  | zero => intros; exact absurd (by assumption) (by simp [fX0_init.eq_1])
  | succ n ih =>
    intro pc r0 q0 q1 M ρ hI h_r0 h_q0 h_q1
    rw [fX0_init.eq_2]
    repeat' (with_reducible (first | exact f_none | refine f_ite (fun hc => ?_) (fun hc => ?_) | refine n_letM (Inn_u (by assumption) ?_ (by assumption) (by decide)) (fun M' hM' => ?_) | refine n_letM (by assumption) (fun M' hM' => ?_) | refine f_letI (fun v => ?_) | refine ih _ _ _ _ _ _ (by assumption) ?_ ?_ ?_ | refine ih _ _ _ _ _ _ ?_ ?_ ?_ ?_ | refine n_bindF (by assumption) ?_ (fun j hj => ?_) | refine n_bindZ (fun j hz => ?_) | refine f_some ?_ | assumption | exact Inn_nw (by assumption) (by assumption) | exact Inn_nq (by assumption) (by assumption) | refine Inn_r (by assumption) ?_ ?_ | exact Inn_u (by assumption) (by assumption) (by assumption) (by decide) | exact h_q0 (by omega) | exact h_q1 (by omega) | exact okn_new (by assumption) (by assumption) | refine okn_nw (by assumption) ?_ | exact okn_neq (by assumption) (by assumption) | refine okn_nq (by assumption) ?_ | refine okn_r ?_ | refine hy2 _ ?_ | exact fun h => absurd h (by decide) | refine fun _ => ?_))
set_option maxRecDepth 100000 in
set_option maxHeartbeats 4000000 in
theorem in_gX0_init {n : Nat} {r0 : Nat} {M : ao_M} {ρ : ao_H} (hI : Inn b M0 ρ0 R M ρ) (h_r0 : okn b ρ r0) : ∀ z, gX0_init n r0 M ρ = some z → Inn b M0 ρ0 R z.1 z.2 := by
  unfold gX0_init
  exact in_fX0_init _ _ _ _ _ _ _ hI h_r0 (fun h => absurd h (by decide)) (fun h => absurd h (by decide))
set_option maxRecDepth 100000 in
set_option maxHeartbeats 4000000 in
theorem in_fX10_init : ∀ (n : Nat) (pc : Nat) (r0 : Nat) (q0 : Nat) (q1 : Nat) (M : ao_M) (ρ : ao_H), Inn b M0 ρ0 R M ρ → okn b ρ r0 → ((pc = 10 ∨ pc = 17 ∨ pc = 21 ∨ pc = 28 ∨ pc = 32 ∨ pc = 39 ∨ pc = 43) → okn b ρ q0) → ((pc = 10 ∨ pc = 17 ∨ pc = 21 ∨ pc = 28 ∨ pc = 32 ∨ pc = 39 ∨ pc = 43) → okn b ρ q1) → ∀ z, fX10_init n pc r0 q0 q1 M ρ = some z → Inn b M0 ρ0 R z.1 z.2 := by
  intro n
  induction n with
  | zero => intros; exact absurd (by assumption) (by simp [fX10_init.eq_1])
  | succ n ih =>
    intro pc r0 q0 q1 M ρ hI h_r0 h_q0 h_q1
    rw [fX10_init.eq_2]
    repeat' (with_reducible (first | exact f_none | refine f_ite (fun hc => ?_) (fun hc => ?_) | refine n_letM (Inn_u (by assumption) ?_ (by assumption) (by decide)) (fun M' hM' => ?_) | refine n_letM (by assumption) (fun M' hM' => ?_) | refine f_letI (fun v => ?_) | refine ih _ _ _ _ _ _ (by assumption) ?_ ?_ ?_ | refine ih _ _ _ _ _ _ ?_ ?_ ?_ ?_ | refine n_call (by assumption) (fun h => in_gX4_init h ?_) (fun y hy1 hy2 => ?_) | refine n_call (by assumption) (fun h => in_gX2_init h ?_) (fun y hy1 hy2 => ?_) | refine n_call (by assumption) (fun h => in_gX0_init h ?_) (fun y hy1 hy2 => ?_) | refine n_bindF (by assumption) ?_ (fun j hj => ?_) | refine n_bindZ (fun j hz => ?_) | refine f_some ?_ | assumption | exact Inn_nw (by assumption) (by assumption) | exact Inn_nq (by assumption) (by assumption) | refine Inn_r (by assumption) ?_ ?_ | exact Inn_u (by assumption) (by assumption) (by assumption) (by decide) | exact h_q0 (by omega) | exact h_q1 (by omega) | exact okn_new (by assumption) (by assumption) | refine okn_nw (by assumption) ?_ | exact okn_neq (by assumption) (by assumption) | refine okn_nq (by assumption) ?_ | refine okn_r ?_ | refine hy2 _ ?_ | exact fun h => absurd h (by decide) | refine fun _ => ?_))
set_option maxRecDepth 100000 in
set_option maxHeartbeats 4000000 in
theorem in_gX10_init {n : Nat} {r0 : Nat} {M : ao_M} {ρ : ao_H} (hI : Inn b M0 ρ0 R M ρ) (h_r0 : okn b ρ r0) : ∀ z, gX10_init n r0 M ρ = some z → Inn b M0 ρ0 R z.1 z.2 := by
  unfold gX10_init
  exact in_fX10_init _ _ _ _ _ _ _ hI h_r0 (fun h => absurd h (by decide)) (fun h => absurd h (by decide))
set_option maxRecDepth 100000 in
set_option maxHeartbeats 4000000 in
theorem in_gX12_level {r0 : Nat} {x1 : Int32} {x2 : Int32} {M : ao_M} {ρ : ao_H} (hI : Inn b M0 ρ0 R M ρ) (h_r0 : okn b ρ r0) : ∀ z, gX12_level r0 x1 x2 M ρ = some z → Inn b M0 ρ0 R z.2 ρ := by
  unfold gX12_level
  repeat' (with_reducible (first | exact f_none | refine f_ite (fun hc => ?_) (fun hc => ?_) | refine n_letM (Inn_u (by assumption) ?_ (by assumption) (by decide)) (fun M' hM' => ?_) | refine n_letM (by assumption) (fun M' hM' => ?_) | refine f_letI (fun v => ?_) | refine n_bindF (by assumption) ?_ (fun j hj => ?_) | refine n_bindZ (fun j hz => ?_) | refine f_some ?_ | assumption | exact Inn_nw (by assumption) (by assumption) | exact Inn_nq (by assumption) (by assumption) | refine Inn_r (by assumption) ?_ ?_ | exact Inn_u (by assumption) (by assumption) (by assumption) (by decide)  | exact okn_new (by assumption) (by assumption) | refine okn_nw (by assumption) ?_ | exact okn_neq (by assumption) (by assumption) | refine okn_nq (by assumption) ?_ | refine okn_r ?_ | refine hy2 _ ?_ | exact fun h => absurd h (by decide) | refine fun _ => ?_))
set_option maxRecDepth 100000 in
set_option maxHeartbeats 4000000 in
theorem in_gX12_cell {r0 : Nat} {x1 : Int32} {x2 : Int32} {x3 : Int32} {M : ao_M} {ρ : ao_H} (hI : Inn b M0 ρ0 R M ρ) (h_r0 : okn b ρ r0) : ∀ z, gX12_cell r0 x1 x2 x3 M ρ = some z → Inn b M0 ρ0 R z.2 ρ := by
  unfold gX12_cell
  repeat' (with_reducible (first | exact f_none | refine f_ite (fun hc => ?_) (fun hc => ?_) | refine n_letM (Inn_u (by assumption) ?_ (by assumption) (by decide)) (fun M' hM' => ?_) | refine n_letM (by assumption) (fun M' hM' => ?_) | refine f_letI (fun v => ?_) | refine n_bindF (by assumption) ?_ (fun j hj => ?_) | refine n_bindZ (fun j hz => ?_) | refine f_some ?_ | assumption | exact Inn_nw (by assumption) (by assumption) | exact Inn_nq (by assumption) (by assumption) | refine Inn_r (by assumption) ?_ ?_ | exact Inn_u (by assumption) (by assumption) (by assumption) (by decide)  | exact okn_new (by assumption) (by assumption) | refine okn_nw (by assumption) ?_ | exact okn_neq (by assumption) (by assumption) | refine okn_nq (by assumption) ?_ | refine okn_r ?_ | refine hy2 _ ?_ | exact fun h => absurd h (by decide) | refine fun _ => ?_))
set_option maxRecDepth 100000 in
set_option maxHeartbeats 4000000 in
theorem in_fX12_clearLevel : ∀ (n : Nat) (pc : Nat) (r0 : Nat) (x1 : Int32) (x2 : Int32) (x3 : Int32) (M : ao_M) (ρ : ao_H), Inn b M0 ρ0 R M ρ → okn b ρ r0 → ∀ z, fX12_clearLevel n pc r0 x1 x2 x3 M ρ = some z → Inn b M0 ρ0 R z ρ := by
  intro n
  induction n with
  | zero => intros; exact absurd (by assumption) (by simp [fX12_clearLevel.eq_1])
  | succ n ih =>
    intro pc r0 x1 x2 x3 M ρ hI h_r0
    rw [fX12_clearLevel.eq_2]
    repeat' (with_reducible (first | exact f_none | refine f_ite (fun hc => ?_) (fun hc => ?_) | refine n_letM (Inn_u (by assumption) ?_ (by assumption) (by decide)) (fun M' hM' => ?_) | refine n_letM (by assumption) (fun M' hM' => ?_) | refine f_letI (fun v => ?_) | refine ih _ _ _ _ _ _ _ (by assumption) ?_ | refine ih _ _ _ _ _ _ _ ?_ ?_ | refine f_bind (in_gX12_level (by assumption) ?_) (fun y hy => ?_) | refine f_bind (in_gX12_cell (by assumption) ?_) (fun y hy => ?_) | refine n_bindF (by assumption) ?_ (fun j hj => ?_) | refine n_bindZ (fun j hz => ?_) | refine f_some ?_ | assumption | exact Inn_nw (by assumption) (by assumption) | exact Inn_nq (by assumption) (by assumption) | refine Inn_r (by assumption) ?_ ?_ | exact Inn_u (by assumption) (by assumption) (by assumption) (by decide)  | exact okn_new (by assumption) (by assumption) | refine okn_nw (by assumption) ?_ | exact okn_neq (by assumption) (by assumption) | refine okn_nq (by assumption) ?_ | refine okn_r ?_ | refine hy2 _ ?_ | exact fun h => absurd h (by decide) | refine fun _ => ?_))
set_option maxRecDepth 100000 in
set_option maxHeartbeats 4000000 in
theorem in_gX12_clearLevel {n : Nat} {r0 : Nat} {x1 : Int32} {x2 : Int32} {M : ao_M} {ρ : ao_H} (hI : Inn b M0 ρ0 R M ρ) (h_r0 : okn b ρ r0) : ∀ z, gX12_clearLevel n r0 x1 x2 M ρ = some z → Inn b M0 ρ0 R z ρ := by
  unfold gX12_clearLevel
  exact in_fX12_clearLevel _ _ _ _ _ _ _ _ hI h_r0
set_option maxRecDepth 100000 in
set_option maxHeartbeats 4000000 in
theorem in_fX12_reset : ∀ (n : Nat) (pc : Nat) (r0 : Nat) (x1 : Int32) (x2 : Int32) (M : ao_M) (ρ : ao_H), Inn b M0 ρ0 R M ρ → okn b ρ r0 → ∀ z, fX12_reset n pc r0 x1 x2 M ρ = some z → Inn b M0 ρ0 R z ρ := by
  intro n
  induction n with
  | zero => intros; exact absurd (by assumption) (by simp [fX12_reset.eq_1])
  | succ n ih =>
    intro pc r0 x1 x2 M ρ hI h_r0
    rw [fX12_reset.eq_2]
    repeat' (with_reducible (first | exact f_none | refine f_ite (fun hc => ?_) (fun hc => ?_) | refine n_letM (Inn_u (by assumption) ?_ (by assumption) (by decide)) (fun M' hM' => ?_) | refine n_letM (by assumption) (fun M' hM' => ?_) | refine f_letI (fun v => ?_) | refine ih _ _ _ _ _ _ (by assumption) ?_ | refine ih _ _ _ _ _ _ ?_ ?_ | refine f_bind (in_gX12_clearLevel (by assumption) ?_) (fun y hy => ?_) | refine n_bindF (by assumption) ?_ (fun j hj => ?_) | refine n_bindZ (fun j hz => ?_) | refine f_some ?_ | assumption | exact Inn_nw (by assumption) (by assumption) | exact Inn_nq (by assumption) (by assumption) | refine Inn_r (by assumption) ?_ ?_ | exact Inn_u (by assumption) (by assumption) (by assumption) (by decide)  | exact okn_new (by assumption) (by assumption) | refine okn_nw (by assumption) ?_ | exact okn_neq (by assumption) (by assumption) | refine okn_nq (by assumption) ?_ | refine okn_r ?_ | refine hy2 _ ?_ | exact fun h => absurd h (by decide) | refine fun _ => ?_))
set_option maxRecDepth 100000 in
set_option maxHeartbeats 4000000 in
theorem in_gX12_reset {n : Nat} {r0 : Nat} {x1 : Int32} {M : ao_M} {ρ : ao_H} (hI : Inn b M0 ρ0 R M ρ) (h_r0 : okn b ρ r0) : ∀ z, gX12_reset n r0 x1 M ρ = some z → Inn b M0 ρ0 R z ρ := by
  unfold gX12_reset
  exact in_fX12_reset _ _ _ _ _ _ _ hI h_r0
set_option maxRecDepth 100000 in
set_option maxHeartbeats 4000000 in
theorem in_fX12_begin : ∀ (n : Nat) (pc : Nat) (r0 : Nat) (x1 : Int32) (x2 : Int32) (M : ao_M) (ρ : ao_H), Inn b M0 ρ0 R M ρ → okn b ρ r0 → ∀ z, fX12_begin n pc r0 x1 x2 M ρ = some z → Inn b M0 ρ0 R z ρ := by
  intro n
  induction n with
  | zero => intros; exact absurd (by assumption) (by simp [fX12_begin.eq_1])
  | succ n ih =>
    intro pc r0 x1 x2 M ρ hI h_r0
    rw [fX12_begin.eq_2]
    repeat' (with_reducible (first | exact f_none | refine f_ite (fun hc => ?_) (fun hc => ?_) | refine n_letM (Inn_u (by assumption) ?_ (by assumption) (by decide)) (fun M' hM' => ?_) | refine n_letM (by assumption) (fun M' hM' => ?_) | refine f_letI (fun v => ?_) | refine ih _ _ _ _ _ _ (by assumption) ?_ | refine ih _ _ _ _ _ _ ?_ ?_ | refine f_bind (in_gX12_reset (by assumption) ?_) (fun y hy => ?_) | refine n_bindF (by assumption) ?_ (fun j hj => ?_) | refine n_bindZ (fun j hz => ?_) | refine f_some ?_ | assumption | exact Inn_nw (by assumption) (by assumption) | exact Inn_nq (by assumption) (by assumption) | refine Inn_r (by assumption) ?_ ?_ | exact Inn_u (by assumption) (by assumption) (by assumption) (by decide)  | exact okn_new (by assumption) (by assumption) | refine okn_nw (by assumption) ?_ | exact okn_neq (by assumption) (by assumption) | refine okn_nq (by assumption) ?_ | refine okn_r ?_ | refine hy2 _ ?_ | exact fun h => absurd h (by decide) | refine fun _ => ?_))
set_option maxRecDepth 100000 in
set_option maxHeartbeats 4000000 in
theorem in_gX12_begin {n : Nat} {r0 : Nat} {x1 : Int32} {M : ao_M} {ρ : ao_H} (hI : Inn b M0 ρ0 R M ρ) (h_r0 : okn b ρ r0) : ∀ z, gX12_begin n r0 x1 M ρ = some z → Inn b M0 ρ0 R z ρ := by
  unfold gX12_begin
  exact in_fX12_begin _ _ _ _ _ _ _ hI h_r0
set_option maxRecDepth 100000 in
set_option maxHeartbeats 4000000 in
theorem in_fX12_init_c12 : ∀ (n : Nat) (pc : Nat) (r0 : Nat) (q0 : Nat) (q1 : Nat) (M : ao_M) (ρ : ao_H), Inn b M0 ρ0 R M ρ → okn b ρ r0 → ∀ z, fX12_init_c12 n pc r0 q0 q1 M ρ = some z → Inn b M0 ρ0 R z.1 z.2 := by
  intro n
  induction n with
  | zero => intros; exact absurd (by assumption) (by simp [fX12_init_c12.eq_1])
  | succ n ih =>
    intro pc r0 q0 q1 M ρ hI h_r0
    rw [fX12_init_c12.eq_2]
    repeat' (with_reducible (first | exact f_none | refine f_ite (fun hc => ?_) (fun hc => ?_) | refine n_letM (Inn_u (by assumption) ?_ (by assumption) (by decide)) (fun M' hM' => ?_) | refine n_letM (by assumption) (fun M' hM' => ?_) | refine f_letI (fun v => ?_) | refine ih _ _ _ _ _ _ (by assumption) ?_ | refine ih _ _ _ _ _ _ ?_ ?_ | refine f_bind (in_gX12_begin (by assumption) ?_) (fun y hy => ?_) | refine n_bindF (by assumption) ?_ (fun j hj => ?_) | refine n_bindZ (fun j hz => ?_) | refine f_some ?_ | assumption | exact Inn_nw (by assumption) (by assumption) | exact Inn_nq (by assumption) (by assumption) | refine Inn_r (by assumption) ?_ ?_ | exact Inn_u (by assumption) (by assumption) (by assumption) (by decide)  | exact okn_new (by assumption) (by assumption) | refine okn_nw (by assumption) ?_ | exact okn_neq (by assumption) (by assumption) | refine okn_nq (by assumption) ?_ | refine okn_r ?_ | refine hy2 _ ?_ | exact fun h => absurd h (by decide) | refine fun _ => ?_))
set_option maxRecDepth 100000 in
set_option maxHeartbeats 4000000 in
theorem in_fX12_init_c11 : ∀ (n : Nat) (pc : Nat) (r0 : Nat) (q0 : Nat) (q1 : Nat) (M : ao_M) (ρ : ao_H), Inn b M0 ρ0 R M ρ → okn b ρ r0 → ((pc = 482 ∨ pc = 490 ∨ pc = 498 ∨ pc = 507 ∨ pc = 515) → okn b ρ q0) → ((pc = 482 ∨ pc = 490 ∨ pc = 498 ∨ pc = 507 ∨ pc = 515) → okn b ρ q1) → ∀ z, fX12_init_c11 n pc r0 q0 q1 M ρ = some z → Inn b M0 ρ0 R z.1 z.2 := by
  intro n
  induction n with
  | zero => intros; exact absurd (by assumption) (by simp [fX12_init_c11.eq_1])
  | succ n ih =>
    intro pc r0 q0 q1 M ρ hI h_r0 h_q0 h_q1
    rw [fX12_init_c11.eq_2]
    repeat' (with_reducible (first | exact f_none | refine f_ite (fun hc => ?_) (fun hc => ?_) | refine n_letM (Inn_u (by assumption) ?_ (by assumption) (by decide)) (fun M' hM' => ?_) | refine n_letM (by assumption) (fun M' hM' => ?_) | refine f_letI (fun v => ?_) | refine ih _ _ _ _ _ _ (by assumption) ?_ ?_ ?_ | refine ih _ _ _ _ _ _ ?_ ?_ ?_ ?_ | refine in_fX12_init_c12 _ _ _ _ _ _ _ (by assumption) ?_ | refine in_fX12_init_c12 _ _ _ _ _ _ _ ?_ ?_ | refine n_bindF (by assumption) ?_ (fun j hj => ?_) | refine n_bindZ (fun j hz => ?_) | refine f_some ?_ | assumption | exact Inn_nw (by assumption) (by assumption) | exact Inn_nq (by assumption) (by assumption) | refine Inn_r (by assumption) ?_ ?_ | exact Inn_u (by assumption) (by assumption) (by assumption) (by decide) | exact h_q0 (by omega) | exact h_q1 (by omega) | exact okn_new (by assumption) (by assumption) | refine okn_nw (by assumption) ?_ | exact okn_neq (by assumption) (by assumption) | refine okn_nq (by assumption) ?_ | refine okn_r ?_ | refine hy2 _ ?_ | exact fun h => absurd h (by decide) | refine fun _ => ?_))
set_option maxRecDepth 100000 in
set_option maxHeartbeats 4000000 in
theorem in_fX12_init_c10 : ∀ (n : Nat) (pc : Nat) (r0 : Nat) (q0 : Nat) (q1 : Nat) (M : ao_M) (ρ : ao_H), Inn b M0 ρ0 R M ρ → okn b ρ r0 → ((pc = 437 ∨ pc = 446 ∨ pc = 455 ∨ pc = 464 ∨ pc = 473) → okn b ρ q0) → ((pc = 437 ∨ pc = 446 ∨ pc = 455 ∨ pc = 464 ∨ pc = 473) → okn b ρ q1) → ∀ z, fX12_init_c10 n pc r0 q0 q1 M ρ = some z → Inn b M0 ρ0 R z.1 z.2 := by
  intro n
  induction n with
  | zero => intros; exact absurd (by assumption) (by simp [fX12_init_c10.eq_1])
  | succ n ih =>
    intro pc r0 q0 q1 M ρ hI h_r0 h_q0 h_q1
    rw [fX12_init_c10.eq_2]
    repeat' (with_reducible (first | exact f_none | refine f_ite (fun hc => ?_) (fun hc => ?_) | refine n_letM (Inn_u (by assumption) ?_ (by assumption) (by decide)) (fun M' hM' => ?_) | refine n_letM (by assumption) (fun M' hM' => ?_) | refine f_letI (fun v => ?_) | refine ih _ _ _ _ _ _ (by assumption) ?_ ?_ ?_ | refine ih _ _ _ _ _ _ ?_ ?_ ?_ ?_ | refine in_fX12_init_c11 _ _ _ _ _ _ _ (by assumption) ?_ ?_ ?_ | refine in_fX12_init_c11 _ _ _ _ _ _ _ ?_ ?_ ?_ ?_ | refine n_bindF (by assumption) ?_ (fun j hj => ?_) | refine n_bindZ (fun j hz => ?_) | refine f_some ?_ | assumption | exact Inn_nw (by assumption) (by assumption) | exact Inn_nq (by assumption) (by assumption) | refine Inn_r (by assumption) ?_ ?_ | exact Inn_u (by assumption) (by assumption) (by assumption) (by decide) | exact h_q0 (by omega) | exact h_q1 (by omega) | exact okn_new (by assumption) (by assumption) | refine okn_nw (by assumption) ?_ | exact okn_neq (by assumption) (by assumption) | refine okn_nq (by assumption) ?_ | refine okn_r ?_ | refine hy2 _ ?_ | exact fun h => absurd h (by decide) | refine fun _ => ?_))
set_option maxRecDepth 100000 in
set_option maxHeartbeats 4000000 in
theorem in_fX12_init_c9 : ∀ (n : Nat) (pc : Nat) (r0 : Nat) (q0 : Nat) (q1 : Nat) (M : ao_M) (ρ : ao_H), Inn b M0 ρ0 R M ρ → okn b ρ r0 → ((pc = 393 ∨ pc = 401 ∨ pc = 410 ∨ pc = 419 ∨ pc = 428) → okn b ρ q0) → ((pc = 393 ∨ pc = 401 ∨ pc = 410 ∨ pc = 419 ∨ pc = 428) → okn b ρ q1) → ∀ z, fX12_init_c9 n pc r0 q0 q1 M ρ = some z → Inn b M0 ρ0 R z.1 z.2 := by
  intro n
  induction n with
  | zero => intros; exact absurd (by assumption) (by simp [fX12_init_c9.eq_1])
  | succ n ih =>
    intro pc r0 q0 q1 M ρ hI h_r0 h_q0 h_q1
    rw [fX12_init_c9.eq_2]
    repeat' (with_reducible (first | exact f_none | refine f_ite (fun hc => ?_) (fun hc => ?_) | refine n_letM (Inn_u (by assumption) ?_ (by assumption) (by decide)) (fun M' hM' => ?_) | refine n_letM (by assumption) (fun M' hM' => ?_) | refine f_letI (fun v => ?_) | refine ih _ _ _ _ _ _ (by assumption) ?_ ?_ ?_ | refine ih _ _ _ _ _ _ ?_ ?_ ?_ ?_ | refine in_fX12_init_c10 _ _ _ _ _ _ _ (by assumption) ?_ ?_ ?_ | refine in_fX12_init_c10 _ _ _ _ _ _ _ ?_ ?_ ?_ ?_ | refine n_bindF (by assumption) ?_ (fun j hj => ?_) | refine n_bindZ (fun j hz => ?_) | refine f_some ?_ | assumption | exact Inn_nw (by assumption) (by assumption) | exact Inn_nq (by assumption) (by assumption) | refine Inn_r (by assumption) ?_ ?_ | exact Inn_u (by assumption) (by assumption) (by assumption) (by decide) | exact h_q0 (by omega) | exact h_q1 (by omega) | exact okn_new (by assumption) (by assumption) | refine okn_nw (by assumption) ?_ | exact okn_neq (by assumption) (by assumption) | refine okn_nq (by assumption) ?_ | refine okn_r ?_ | refine hy2 _ ?_ | exact fun h => absurd h (by decide) | refine fun _ => ?_))
set_option maxRecDepth 100000 in
set_option maxHeartbeats 4000000 in
theorem in_fX12_init_c8 : ∀ (n : Nat) (pc : Nat) (r0 : Nat) (q0 : Nat) (q1 : Nat) (M : ao_M) (ρ : ao_H), Inn b M0 ρ0 R M ρ → okn b ρ r0 → ((pc = 348 ∨ pc = 357 ∨ pc = 366 ∨ pc = 375 ∨ pc = 384) → okn b ρ q0) → ((pc = 348 ∨ pc = 357 ∨ pc = 366 ∨ pc = 375 ∨ pc = 384) → okn b ρ q1) → ∀ z, fX12_init_c8 n pc r0 q0 q1 M ρ = some z → Inn b M0 ρ0 R z.1 z.2 := by
  intro n
  induction n with
  | zero => intros; exact absurd (by assumption) (by simp [fX12_init_c8.eq_1])
  | succ n ih =>
    intro pc r0 q0 q1 M ρ hI h_r0 h_q0 h_q1
    rw [fX12_init_c8.eq_2]
    repeat' (with_reducible (first | exact f_none | refine f_ite (fun hc => ?_) (fun hc => ?_) | refine n_letM (Inn_u (by assumption) ?_ (by assumption) (by decide)) (fun M' hM' => ?_) | refine n_letM (by assumption) (fun M' hM' => ?_) | refine f_letI (fun v => ?_) | refine ih _ _ _ _ _ _ (by assumption) ?_ ?_ ?_ | refine ih _ _ _ _ _ _ ?_ ?_ ?_ ?_ | refine in_fX12_init_c9 _ _ _ _ _ _ _ (by assumption) ?_ ?_ ?_ | refine in_fX12_init_c9 _ _ _ _ _ _ _ ?_ ?_ ?_ ?_ | refine n_bindF (by assumption) ?_ (fun j hj => ?_) | refine n_bindZ (fun j hz => ?_) | refine f_some ?_ | assumption | exact Inn_nw (by assumption) (by assumption) | exact Inn_nq (by assumption) (by assumption) | refine Inn_r (by assumption) ?_ ?_ | exact Inn_u (by assumption) (by assumption) (by assumption) (by decide) | exact h_q0 (by omega) | exact h_q1 (by omega) | exact okn_new (by assumption) (by assumption) | refine okn_nw (by assumption) ?_ | exact okn_neq (by assumption) (by assumption) | refine okn_nq (by assumption) ?_ | refine okn_r ?_ | refine hy2 _ ?_ | exact fun h => absurd h (by decide) | refine fun _ => ?_))
set_option maxRecDepth 100000 in
set_option maxHeartbeats 4000000 in
theorem in_fX12_init_c7 : ∀ (n : Nat) (pc : Nat) (r0 : Nat) (q0 : Nat) (q1 : Nat) (M : ao_M) (ρ : ao_H), Inn b M0 ρ0 R M ρ → okn b ρ r0 → ((pc = 305 ∨ pc = 313 ∨ pc = 322 ∨ pc = 330 ∨ pc = 339) → okn b ρ q0) → ((pc = 305 ∨ pc = 313 ∨ pc = 322 ∨ pc = 330 ∨ pc = 339) → okn b ρ q1) → ∀ z, fX12_init_c7 n pc r0 q0 q1 M ρ = some z → Inn b M0 ρ0 R z.1 z.2 := by
  intro n
  induction n with
  | zero => intros; exact absurd (by assumption) (by simp [fX12_init_c7.eq_1])
  | succ n ih =>
    intro pc r0 q0 q1 M ρ hI h_r0 h_q0 h_q1
    rw [fX12_init_c7.eq_2]
    repeat' (with_reducible (first | exact f_none | refine f_ite (fun hc => ?_) (fun hc => ?_) | refine n_letM (Inn_u (by assumption) ?_ (by assumption) (by decide)) (fun M' hM' => ?_) | refine n_letM (by assumption) (fun M' hM' => ?_) | refine f_letI (fun v => ?_) | refine ih _ _ _ _ _ _ (by assumption) ?_ ?_ ?_ | refine ih _ _ _ _ _ _ ?_ ?_ ?_ ?_ | refine in_fX12_init_c8 _ _ _ _ _ _ _ (by assumption) ?_ ?_ ?_ | refine in_fX12_init_c8 _ _ _ _ _ _ _ ?_ ?_ ?_ ?_ | refine n_bindF (by assumption) ?_ (fun j hj => ?_) | refine n_bindZ (fun j hz => ?_) | refine f_some ?_ | assumption | exact Inn_nw (by assumption) (by assumption) | exact Inn_nq (by assumption) (by assumption) | refine Inn_r (by assumption) ?_ ?_ | exact Inn_u (by assumption) (by assumption) (by assumption) (by decide) | exact h_q0 (by omega) | exact h_q1 (by omega) | exact okn_new (by assumption) (by assumption) | refine okn_nw (by assumption) ?_ | exact okn_neq (by assumption) (by assumption) | refine okn_nq (by assumption) ?_ | refine okn_r ?_ | refine hy2 _ ?_ | exact fun h => absurd h (by decide) | refine fun _ => ?_))
set_option maxRecDepth 100000 in
set_option maxHeartbeats 4000000 in
theorem in_fX12_init_c6 : ∀ (n : Nat) (pc : Nat) (r0 : Nat) (q0 : Nat) (q1 : Nat) (M : ao_M) (ρ : ao_H), Inn b M0 ρ0 R M ρ → okn b ρ r0 → ((pc = 265 ∨ pc = 273 ∨ pc = 281 ∨ pc = 289 ∨ pc = 297) → okn b ρ q0) → ((pc = 265 ∨ pc = 273 ∨ pc = 281 ∨ pc = 289 ∨ pc = 297) → okn b ρ q1) → ∀ z, fX12_init_c6 n pc r0 q0 q1 M ρ = some z → Inn b M0 ρ0 R z.1 z.2 := by
  intro n
  induction n with
  | zero => intros; exact absurd (by assumption) (by simp [fX12_init_c6.eq_1])
  | succ n ih =>
    intro pc r0 q0 q1 M ρ hI h_r0 h_q0 h_q1
    rw [fX12_init_c6.eq_2]
    repeat' (with_reducible (first | exact f_none | refine f_ite (fun hc => ?_) (fun hc => ?_) | refine n_letM (Inn_u (by assumption) ?_ (by assumption) (by decide)) (fun M' hM' => ?_) | refine n_letM (by assumption) (fun M' hM' => ?_) | refine f_letI (fun v => ?_) | refine ih _ _ _ _ _ _ (by assumption) ?_ ?_ ?_ | refine ih _ _ _ _ _ _ ?_ ?_ ?_ ?_ | refine in_fX12_init_c7 _ _ _ _ _ _ _ (by assumption) ?_ ?_ ?_ | refine in_fX12_init_c7 _ _ _ _ _ _ _ ?_ ?_ ?_ ?_ | refine n_bindF (by assumption) ?_ (fun j hj => ?_) | refine n_bindZ (fun j hz => ?_) | refine f_some ?_ | assumption | exact Inn_nw (by assumption) (by assumption) | exact Inn_nq (by assumption) (by assumption) | refine Inn_r (by assumption) ?_ ?_ | exact Inn_u (by assumption) (by assumption) (by assumption) (by decide) | exact h_q0 (by omega) | exact h_q1 (by omega) | exact okn_new (by assumption) (by assumption) | refine okn_nw (by assumption) ?_ | exact okn_neq (by assumption) (by assumption) | refine okn_nq (by assumption) ?_ | refine okn_r ?_ | refine hy2 _ ?_ | exact fun h => absurd h (by decide) | refine fun _ => ?_))
set_option maxRecDepth 100000 in
set_option maxHeartbeats 4000000 in
theorem in_fX12_init_c5 : ∀ (n : Nat) (pc : Nat) (r0 : Nat) (q0 : Nat) (q1 : Nat) (M : ao_M) (ρ : ao_H), Inn b M0 ρ0 R M ρ → okn b ρ r0 → ((pc = 225 ∨ pc = 233 ∨ pc = 241 ∨ pc = 249 ∨ pc = 257) → okn b ρ q0) → ((pc = 225 ∨ pc = 233 ∨ pc = 241 ∨ pc = 249 ∨ pc = 257) → okn b ρ q1) → ∀ z, fX12_init_c5 n pc r0 q0 q1 M ρ = some z → Inn b M0 ρ0 R z.1 z.2 := by
  intro n
  induction n with
  | zero => intros; exact absurd (by assumption) (by simp [fX12_init_c5.eq_1])
  | succ n ih =>
    intro pc r0 q0 q1 M ρ hI h_r0 h_q0 h_q1
    rw [fX12_init_c5.eq_2]
    repeat' (with_reducible (first | exact f_none | refine f_ite (fun hc => ?_) (fun hc => ?_) | refine n_letM (Inn_u (by assumption) ?_ (by assumption) (by decide)) (fun M' hM' => ?_) | refine n_letM (by assumption) (fun M' hM' => ?_) | refine f_letI (fun v => ?_) | refine ih _ _ _ _ _ _ (by assumption) ?_ ?_ ?_ | refine ih _ _ _ _ _ _ ?_ ?_ ?_ ?_ | refine in_fX12_init_c6 _ _ _ _ _ _ _ (by assumption) ?_ ?_ ?_ | refine in_fX12_init_c6 _ _ _ _ _ _ _ ?_ ?_ ?_ ?_ | refine n_bindF (by assumption) ?_ (fun j hj => ?_) | refine n_bindZ (fun j hz => ?_) | refine f_some ?_ | assumption | exact Inn_nw (by assumption) (by assumption) | exact Inn_nq (by assumption) (by assumption) | refine Inn_r (by assumption) ?_ ?_ | exact Inn_u (by assumption) (by assumption) (by assumption) (by decide) | exact h_q0 (by omega) | exact h_q1 (by omega) | exact okn_new (by assumption) (by assumption) | refine okn_nw (by assumption) ?_ | exact okn_neq (by assumption) (by assumption) | refine okn_nq (by assumption) ?_ | refine okn_r ?_ | refine hy2 _ ?_ | exact fun h => absurd h (by decide) | refine fun _ => ?_))
set_option maxRecDepth 100000 in
set_option maxHeartbeats 4000000 in
theorem in_fX12_init_c4 : ∀ (n : Nat) (pc : Nat) (r0 : Nat) (q0 : Nat) (q1 : Nat) (M : ao_M) (ρ : ao_H), Inn b M0 ρ0 R M ρ → okn b ρ r0 → ((pc = 185 ∨ pc = 193 ∨ pc = 201 ∨ pc = 209 ∨ pc = 217) → okn b ρ q0) → ((pc = 185 ∨ pc = 193 ∨ pc = 201 ∨ pc = 209 ∨ pc = 217) → okn b ρ q1) → ∀ z, fX12_init_c4 n pc r0 q0 q1 M ρ = some z → Inn b M0 ρ0 R z.1 z.2 := by
  intro n
  induction n with
  | zero => intros; exact absurd (by assumption) (by simp [fX12_init_c4.eq_1])
  | succ n ih =>
    intro pc r0 q0 q1 M ρ hI h_r0 h_q0 h_q1
    rw [fX12_init_c4.eq_2]
    repeat' (with_reducible (first | exact f_none | refine f_ite (fun hc => ?_) (fun hc => ?_) | refine n_letM (Inn_u (by assumption) ?_ (by assumption) (by decide)) (fun M' hM' => ?_) | refine n_letM (by assumption) (fun M' hM' => ?_) | refine f_letI (fun v => ?_) | refine ih _ _ _ _ _ _ (by assumption) ?_ ?_ ?_ | refine ih _ _ _ _ _ _ ?_ ?_ ?_ ?_ | refine in_fX12_init_c5 _ _ _ _ _ _ _ (by assumption) ?_ ?_ ?_ | refine in_fX12_init_c5 _ _ _ _ _ _ _ ?_ ?_ ?_ ?_ | refine n_bindF (by assumption) ?_ (fun j hj => ?_) | refine n_bindZ (fun j hz => ?_) | refine f_some ?_ | assumption | exact Inn_nw (by assumption) (by assumption) | exact Inn_nq (by assumption) (by assumption) | refine Inn_r (by assumption) ?_ ?_ | exact Inn_u (by assumption) (by assumption) (by assumption) (by decide) | exact h_q0 (by omega) | exact h_q1 (by omega) | exact okn_new (by assumption) (by assumption) | refine okn_nw (by assumption) ?_ | exact okn_neq (by assumption) (by assumption) | refine okn_nq (by assumption) ?_ | refine okn_r ?_ | refine hy2 _ ?_ | exact fun h => absurd h (by decide) | refine fun _ => ?_))
set_option maxRecDepth 100000 in
set_option maxHeartbeats 4000000 in
theorem in_fX12_init_c3 : ∀ (n : Nat) (pc : Nat) (r0 : Nat) (q0 : Nat) (q1 : Nat) (M : ao_M) (ρ : ao_H), Inn b M0 ρ0 R M ρ → okn b ρ r0 → ((pc = 144 ∨ pc = 153 ∨ pc = 161 ∨ pc = 169 ∨ pc = 177) → okn b ρ q0) → ((pc = 144 ∨ pc = 153 ∨ pc = 161 ∨ pc = 169 ∨ pc = 177) → okn b ρ q1) → ∀ z, fX12_init_c3 n pc r0 q0 q1 M ρ = some z → Inn b M0 ρ0 R z.1 z.2 := by
  intro n
  induction n with
  | zero => intros; exact absurd (by assumption) (by simp [fX12_init_c3.eq_1])
  | succ n ih =>
    intro pc r0 q0 q1 M ρ hI h_r0 h_q0 h_q1
    rw [fX12_init_c3.eq_2]
    repeat' (with_reducible (first | exact f_none | refine f_ite (fun hc => ?_) (fun hc => ?_) | refine n_letM (Inn_u (by assumption) ?_ (by assumption) (by decide)) (fun M' hM' => ?_) | refine n_letM (by assumption) (fun M' hM' => ?_) | refine f_letI (fun v => ?_) | refine ih _ _ _ _ _ _ (by assumption) ?_ ?_ ?_ | refine ih _ _ _ _ _ _ ?_ ?_ ?_ ?_ | refine in_fX12_init_c4 _ _ _ _ _ _ _ (by assumption) ?_ ?_ ?_ | refine in_fX12_init_c4 _ _ _ _ _ _ _ ?_ ?_ ?_ ?_ | refine n_bindF (by assumption) ?_ (fun j hj => ?_) | refine n_bindZ (fun j hz => ?_) | refine f_some ?_ | assumption | exact Inn_nw (by assumption) (by assumption) | exact Inn_nq (by assumption) (by assumption) | refine Inn_r (by assumption) ?_ ?_ | exact Inn_u (by assumption) (by assumption) (by assumption) (by decide) | exact h_q0 (by omega) | exact h_q1 (by omega) | exact okn_new (by assumption) (by assumption) | refine okn_nw (by assumption) ?_ | exact okn_neq (by assumption) (by assumption) | refine okn_nq (by assumption) ?_ | refine okn_r ?_ | refine hy2 _ ?_ | exact fun h => absurd h (by decide) | refine fun _ => ?_))
set_option maxRecDepth 100000 in
set_option maxHeartbeats 4000000 in
theorem in_fX12_init_c2 : ∀ (n : Nat) (pc : Nat) (r0 : Nat) (q0 : Nat) (q1 : Nat) (M : ao_M) (ρ : ao_H), Inn b M0 ρ0 R M ρ → okn b ρ r0 → ((pc = 102 ∨ pc = 111 ∨ pc = 119 ∨ pc = 127 ∨ pc = 135) → okn b ρ q0) → ((pc = 102 ∨ pc = 111 ∨ pc = 119 ∨ pc = 127 ∨ pc = 135) → okn b ρ q1) → ∀ z, fX12_init_c2 n pc r0 q0 q1 M ρ = some z → Inn b M0 ρ0 R z.1 z.2 := by
  intro n
  induction n with
  | zero => intros; exact absurd (by assumption) (by simp [fX12_init_c2.eq_1])
  | succ n ih =>
    intro pc r0 q0 q1 M ρ hI h_r0 h_q0 h_q1
    rw [fX12_init_c2.eq_2]
    repeat' (with_reducible (first | exact f_none | refine f_ite (fun hc => ?_) (fun hc => ?_) | refine n_letM (Inn_u (by assumption) ?_ (by assumption) (by decide)) (fun M' hM' => ?_) | refine n_letM (by assumption) (fun M' hM' => ?_) | refine f_letI (fun v => ?_) | refine ih _ _ _ _ _ _ (by assumption) ?_ ?_ ?_ | refine ih _ _ _ _ _ _ ?_ ?_ ?_ ?_ | refine in_fX12_init_c3 _ _ _ _ _ _ _ (by assumption) ?_ ?_ ?_ | refine in_fX12_init_c3 _ _ _ _ _ _ _ ?_ ?_ ?_ ?_ | refine n_bindF (by assumption) ?_ (fun j hj => ?_) | refine n_bindZ (fun j hz => ?_) | refine f_some ?_ | assumption | exact Inn_nw (by assumption) (by assumption) | exact Inn_nq (by assumption) (by assumption) | refine Inn_r (by assumption) ?_ ?_ | exact Inn_u (by assumption) (by assumption) (by assumption) (by decide) | exact h_q0 (by omega) | exact h_q1 (by omega) | exact okn_new (by assumption) (by assumption) | refine okn_nw (by assumption) ?_ | exact okn_neq (by assumption) (by assumption) | refine okn_nq (by assumption) ?_ | refine okn_r ?_ | refine hy2 _ ?_ | exact fun h => absurd h (by decide) | refine fun _ => ?_))
set_option maxRecDepth 100000 in
set_option maxHeartbeats 4000000 in
theorem in_fX12_init_c1 : ∀ (n : Nat) (pc : Nat) (r0 : Nat) (q0 : Nat) (q1 : Nat) (M : ao_M) (ρ : ao_H), Inn b M0 ρ0 R M ρ → okn b ρ r0 → ((pc = 60 ∨ pc = 68 ∨ pc = 76 ∨ pc = 84 ∨ pc = 93) → okn b ρ q0) → ((pc = 60 ∨ pc = 68 ∨ pc = 76 ∨ pc = 84 ∨ pc = 93) → okn b ρ q1) → ∀ z, fX12_init_c1 n pc r0 q0 q1 M ρ = some z → Inn b M0 ρ0 R z.1 z.2 := by
  intro n
  induction n with
  | zero => intros; exact absurd (by assumption) (by simp [fX12_init_c1.eq_1])
  | succ n ih =>
    intro pc r0 q0 q1 M ρ hI h_r0 h_q0 h_q1
    rw [fX12_init_c1.eq_2]
    repeat' (with_reducible (first | exact f_none | refine f_ite (fun hc => ?_) (fun hc => ?_) | refine n_letM (Inn_u (by assumption) ?_ (by assumption) (by decide)) (fun M' hM' => ?_) | refine n_letM (by assumption) (fun M' hM' => ?_) | refine f_letI (fun v => ?_) | refine ih _ _ _ _ _ _ (by assumption) ?_ ?_ ?_ | refine ih _ _ _ _ _ _ ?_ ?_ ?_ ?_ | refine in_fX12_init_c2 _ _ _ _ _ _ _ (by assumption) ?_ ?_ ?_ | refine in_fX12_init_c2 _ _ _ _ _ _ _ ?_ ?_ ?_ ?_ | refine n_bindF (by assumption) ?_ (fun j hj => ?_) | refine n_bindZ (fun j hz => ?_) | refine f_some ?_ | assumption | exact Inn_nw (by assumption) (by assumption) | exact Inn_nq (by assumption) (by assumption) | refine Inn_r (by assumption) ?_ ?_ | exact Inn_u (by assumption) (by assumption) (by assumption) (by decide) | exact h_q0 (by omega) | exact h_q1 (by omega) | exact okn_new (by assumption) (by assumption) | refine okn_nw (by assumption) ?_ | exact okn_neq (by assumption) (by assumption) | refine okn_nq (by assumption) ?_ | refine okn_r ?_ | refine hy2 _ ?_ | exact fun h => absurd h (by decide) | refine fun _ => ?_))
set_option maxRecDepth 100000 in
set_option maxHeartbeats 4000000 in
theorem in_fX12_init_c0 : ∀ (n : Nat) (pc : Nat) (r0 : Nat) (q0 : Nat) (q1 : Nat) (M : ao_M) (ρ : ao_H), Inn b M0 ρ0 R M ρ → okn b ρ r0 → ((pc = 12 ∨ pc = 26 ∨ pc = 35 ∨ pc = 44 ∨ pc = 52) → okn b ρ q0) → ((pc = 12 ∨ pc = 26 ∨ pc = 35 ∨ pc = 44 ∨ pc = 52) → okn b ρ q1) → ∀ z, fX12_init_c0 n pc r0 q0 q1 M ρ = some z → Inn b M0 ρ0 R z.1 z.2 := by
  intro n
  induction n with
  | zero => intros; exact absurd (by assumption) (by simp [fX12_init_c0.eq_1])
  | succ n ih =>
    intro pc r0 q0 q1 M ρ hI h_r0 h_q0 h_q1
    rw [fX12_init_c0.eq_2]
    repeat' (with_reducible (first | exact f_none | refine f_ite (fun hc => ?_) (fun hc => ?_) | refine n_letM (Inn_u (by assumption) ?_ (by assumption) (by decide)) (fun M' hM' => ?_) | refine n_letM (by assumption) (fun M' hM' => ?_) | refine f_letI (fun v => ?_) | refine ih _ _ _ _ _ _ (by assumption) ?_ ?_ ?_ | refine ih _ _ _ _ _ _ ?_ ?_ ?_ ?_ | refine in_fX12_init_c1 _ _ _ _ _ _ _ (by assumption) ?_ ?_ ?_ | refine in_fX12_init_c1 _ _ _ _ _ _ _ ?_ ?_ ?_ ?_ | refine n_bindF (by assumption) ?_ (fun j hj => ?_) | refine n_bindZ (fun j hz => ?_) | refine f_some ?_ | assumption | exact Inn_nw (by assumption) (by assumption) | exact Inn_nq (by assumption) (by assumption) | refine Inn_r (by assumption) ?_ ?_ | exact Inn_u (by assumption) (by assumption) (by assumption) (by decide) | exact h_q0 (by omega) | exact h_q1 (by omega) | exact okn_new (by assumption) (by assumption) | refine okn_nw (by assumption) ?_ | exact okn_neq (by assumption) (by assumption) | refine okn_nq (by assumption) ?_ | refine okn_r ?_ | refine hy2 _ ?_ | exact fun h => absurd h (by decide) | refine fun _ => ?_))
set_option maxRecDepth 100000 in
set_option maxHeartbeats 4000000 in
theorem in_gX12_init {n : Nat} {r0 : Nat} {M : ao_M} {ρ : ao_H} (hI : Inn b M0 ρ0 R M ρ) (h_r0 : okn b ρ r0) : ∀ z, gX12_init n r0 M ρ = some z → Inn b M0 ρ0 R z.1 z.2 := by
  unfold gX12_init
  exact in_fX12_init_c0 _ _ _ _ _ _ _ hI h_r0 (fun h => absurd h (by decide)) (fun h => absurd h (by decide))
end Inn
